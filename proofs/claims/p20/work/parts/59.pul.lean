-- 59.pul.lean.txt
section
/-! the grammar of signs: place, things, steps -/
section Pul
variable {M : Nat}
abbrev PSt := Nat × Nat × List (Int × Int)
def APS (M : Nat) (l : List (Int × Int)) (x : Int × Int) : List (Int × Int) := if l.length < M then l ++ [x] else l
theorem APS.le {l : List (Int × Int)} {x : Int × Int} (h : l.length ≤ M) : (APS M l x).length ≤ M := by
  unfold APS
  by_cases q : l.length < M
  · rw [if_pos q, List.length_append]; show l.length + 1 ≤ M; omega
  · rw [if_neg q]; exact h
def SKF (c : Nat → Int) : Nat → Nat → Nat
  | 0, p => p
  | n + 1, p => if c p = 32 then SKF c n (p + 1) else p
/-- the place behind all blanks -/
def SKP (c : Nat → Int) (p : Nat) : Nat := SKF c 401 p
def SKB (c : Nat → Int) (p q : Nat) : Prop := p ≤ q ∧ ∀ i, p ≤ i → i < q → c i = 32
theorem SKB.z {c : Nat → Int} {p q : Nat} (h : q = p) : SKB c p q := ⟨by omega, fun i h1 h2 => by omega⟩
theorem SKB.s {c : Nat → Int} {p q q' : Nat} (h : SKB c p q) (e : c q = 32) (hq : q' = q + 1) : SKB c p q' := by
  subst hq
  refine ⟨by have := h.1; omega, fun i h1 h2 => ?_⟩
  by_cases x : i = q
  · subst x; exact e
  · exact h.2 i h1 (by omega)
theorem SKF.of {c : Nat → Int} : ∀ n p q, SKB c p q → q ≤ p + n → c q ≠ 32 → SKF c n p = q
  | 0, p, q, h, l, _ => by have := h.1; show p = q; omega
  | n + 1, p, q, h, l, e => by
    show (if c p = 32 then SKF c n (p + 1) else p) = q
    by_cases x : p = q
    · subst x; rw [if_neg e]
    · have hp := h.1
      rw [if_pos (h.2 p (Nat.le_refl _) (by omega))]
      exact SKF.of n (p + 1) q ⟨by omega, fun i h1 h2 => h.2 i (by omega) h2⟩ (by omega) e
/-- nothing behind place 399 -/
def C40 (c : Nat → Int) : Prop := ∀ i, 400 ≤ i → c i = -1
theorem SKB.e {c : Nat → Int} {p q : Nat} (h : SKB c p q) (e : c q ≠ 32) (hc : C40 c) : SKP c p = q := SKF.of 401 p q h (by
  by_cases x : q ≤ p + 401
  · exact x
  · have a := h.2 (q - 1) (by omega) (by omega)
    rw [hc (q - 1) (by omega)] at a
    omega) e
theorem SKF.b {c : Nat → Int} : ∀ n p, SKB c p (SKF c n p) ∧ (c (SKF c n p) = 32 → SKF c n p = p + n)
  | 0, p => ⟨SKB.z rfl, fun _ => rfl⟩
  | n + 1, p => by
    show SKB c p (if c p = 32 then SKF c n (p + 1) else p) ∧ _
    by_cases x : c p = 32
    · have e : SKF c (n + 1) p = SKF c n (p + 1) := by show (if c p = 32 then _ else _) = _; rw [if_pos x]
      rw [e, if_pos x]
      obtain ⟨⟨h1, h2⟩, h3⟩ := SKF.b n (p + 1) (c := c)
      refine ⟨⟨by omega, fun i a b => ?_⟩, fun q => by have := h3 q; omega⟩
      by_cases y : i = p
      · subst y; exact x
      · exact h2 i (by omega) b
    · have e : SKF c (n + 1) p = p := by show (if c p = 32 then _ else _) = _; rw [if_neg x]
      rw [e, if_neg x]
      exact ⟨SKB.z rfl, fun q => absurd q x⟩
theorem SKP.nb {c : Nat → Int} (hc : C40 c) (p : Nat) : c (SKP c p) ≠ 32 := fun q => by
  have a := (SKF.b 401 p (c := c)).2 q
  have b := hc (SKF c 401 p) (by omega)
  have q : c (SKF c 401 p) = 32 := q
  omega
theorem SKP.ge {c : Nat → Int} (p : Nat) : p ≤ SKP c p := (SKF.b 401 p (c := c)).1.1
theorem SKP.id {c : Nat → Int} (hc : C40 c) {p : Nat} (h : c p ≠ 32) : SKP c p = p := SKB.e (SKB.z rfl) h hc
theorem SKP.sk {c : Nat → Int} (hc : C40 c) (p : Nat) : SKP c (SKP c p) = SKP c p := SKP.id hc (SKP.nb hc p)
/-- a sign that must stand there -/
def TAK (c : Nat → Int) (v : Int) (s : PSt) : Option PSt := if c (SKP c s.1) = v then some (SKP c s.1 + 1, s.2) else none
/-- joined ones -/
def RLP (M : Nat) (c : Nat → Int) (v k : Int) (P : PSt → Option PSt) : Nat → PSt → Option PSt
  | 0, _ => none
  | n + 1, s => if c (SKP c s.1) = v then (if 40 ≤ s.2.1 then none else (P (SKP c s.1 + 1, s.2.1 + 1, s.2.2)).bind (fun t => RLP M c v k P n (t.1, t.2.1, APS M t.2.2 (k, 0)))) else some (SKP c s.1, s.2)
def RPR (M : Nat) (c : Nat → Int) (P : PSt → Option PSt) (s : PSt) : Option PSt := (P s).bind (RLP M c 42 3 P 41)
def RSU (M : Nat) (c : Nat → Int) (P : PSt → Option PSt) (s : PSt) : Option PSt := (RPR M c P s).bind (RLP M c 43 2 (RPR M c P) 41)
/-- how many digits, 4 at most; their number -/
def DGF (c : Nat → Int) : Nat → Nat → Nat
  | 0, _ => 0
  | n + 1, p => if 48 ≤ c p ∧ c p ≤ 57 then DGF c n (p + 1) + 1 else 0
def VLU (c : Nat → Int) (p : Nat) : Nat → Int
  | 0 => 0
  | j + 1 => 10 * VLU c p j + (c (p + j) - 48)
def DGB (c : Nat → Int) (p j : Nat) : Prop := ∀ i, i < j → 48 ≤ c (p + i) ∧ c (p + i) ≤ 57
theorem DGF.of {c : Nat → Int} : ∀ n p j, DGB c p j → j ≤ n → (j = n ∨ ¬ (48 ≤ c (p + j) ∧ c (p + j) ≤ 57)) → DGF c n p = j
  | 0, p, j, _, l, _ => by show 0 = j; omega
  | n + 1, p, 0, _, _, h => by
    have h : ¬ (48 ≤ c (p + 0) ∧ c (p + 0) ≤ 57) := h.resolve_left (by omega)
    rw [Nat.add_zero] at h
    show (if 48 ≤ c p ∧ c p ≤ 57 then DGF c n (p + 1) + 1 else 0) = 0
    rw [if_neg h]
  | n + 1, p, j + 1, b, l, h => by
    have z := b 0 (by omega)
    rw [Nat.add_zero] at z
    show (if 48 ≤ c p ∧ c p ≤ 57 then DGF c n (p + 1) + 1 else 0) = j + 1
    rw [if_pos z, DGF.of n (p + 1) j (fun i hi => by
      have := b (i + 1) (by omega)
      rwa [show p + (i + 1) = p + 1 + i from by omega] at this) (by omega) (by
      rcases h with h | h
      · exact Or.inl (by omega)
      · right
        rwa [show p + (j + 1) = p + 1 + j from by omega] at h)]
def NUB (M : Nat) (c : Nat → Int) (k most : Int) (s : PSt) : Option PSt := if 1 ≤ DGF c 4 s.1 ∧ DGF c 4 s.1 ≤ 3 ∧ VLU c s.1 (DGF c 4 s.1) ≤ most then some (s.1 + DGF c 4 s.1, s.2.1, APS M s.2.2 (k, VLU c s.1 (DGF c 4 s.1))) else none
def RLU (M : Nat) (c : Nat → Int) (s : PSt) : Option PSt := if 40 ≤ s.2.1 ∨ (97 ≤ c (s.1 + 1) ∧ c (s.1 + 1) ≤ 122) ∨ (65 ≤ c (s.1 + 1) ∧ c (s.1 + 1) ≤ 90) then none else some (s.1 + 1, s.2.1 + 1, APS M s.2.2 (0, 0))
def RNB (M : Nat) (c : Nat → Int) (s : PSt) : Option PSt := if 40 ≤ s.2.1 then none else NUB M c 1 999 (s.1, s.2.1 + 1, s.2.2)
/-- [ .. , .. ] and its number; s at the [ -/
def ROV (M : Nat) (c : Nat → Int) (S : PSt → Option PSt) (s : PSt) : Option PSt := if 40 ≤ s.2.1 then none else (S (s.1 + 1, s.2.1 + 1, s.2.2)).bind (fun t => (TAK c 44 t).bind (fun t => (S t).bind (fun t => (TAK c 93 t).bind (fun t => NUB M c 4 8 (SKP c t.1, t.2)))))
/-- one part, k deeper ones left -/
def RPT (M : Nat) (c : Nat → Int) : Nat → (PSt → Option PSt)
  | 0 => fun s => if c (SKP c s.1) = 102 then RLU M c (SKP c s.1, s.2) else if 48 ≤ c (SKP c s.1) ∧ c (SKP c s.1) ≤ 57 then RNB M c (SKP c s.1, s.2) else none
  | k + 1 => fun s => if c (SKP c s.1) = 102 then RLU M c (SKP c s.1, s.2) else if 48 ≤ c (SKP c s.1) ∧ c (SKP c s.1) ≤ 57 then RNB M c (SKP c s.1, s.2) else
      if c (SKP c s.1) = 40 then (RSU M c (RPT M c k) (SKP c s.1 + 1, s.2)).bind (TAK c 41) else
      if c (SKP c s.1) = 91 then ROV M c (RSU M c (RPT M c k)) (SKP c s.1, s.2) else
      if c (SKP c s.1) = 45 then (RPT M c k (SKP c s.1 + 1, s.2)).bind (fun t => some (t.1, t.2.1, APS M t.2.2 (5, 0))) else none
theorem RPT.l {c : Nat → Int} {k : Nat} {s : PSt} (h : c (SKP c s.1) = 102) : RPT M c k s = RLU M c (SKP c s.1, s.2) := by
  cases k <;> (show (if c (SKP c s.1) = 102 then _ else _) = _; rw [if_pos h])
theorem RPT.d {c : Nat → Int} {k : Nat} {s : PSt} (h : 48 ≤ c (SKP c s.1) ∧ c (SKP c s.1) ≤ 57) : RPT M c k s = RNB M c (SKP c s.1, s.2) := by
  cases k <;> (show (if c (SKP c s.1) = 102 then _ else if 48 ≤ c (SKP c s.1) ∧ c (SKP c s.1) ≤ 57 then _ else _) = _; rw [if_neg (by omega), if_pos h])
theorem RPT.z {c : Nat → Int} {s : PSt} (h : c (SKP c s.1) ≠ 102) (hd : ¬ (48 ≤ c (SKP c s.1) ∧ c (SKP c s.1) ≤ 57)) : RPT M c 0 s = none := by
  show (if c (SKP c s.1) = 102 then _ else if 48 ≤ c (SKP c s.1) ∧ c (SKP c s.1) ≤ 57 then _ else none) = _
  rw [if_neg h, if_neg hd]
theorem RPT.p {c : Nat → Int} {k : Nat} {s : PSt} (h : c (SKP c s.1) = 40) : RPT M c (k + 1) s = (RSU M c (RPT M c k) (SKP c s.1 + 1, s.2)).bind (TAK c 41) := by
  show (if c (SKP c s.1) = 102 then _ else if 48 ≤ c (SKP c s.1) ∧ c (SKP c s.1) ≤ 57 then _ else if c (SKP c s.1) = 40 then _ else _) = _
  rw [if_neg (by omega), if_neg (by omega), if_pos h]
theorem RPT.o {c : Nat → Int} {k : Nat} {s : PSt} (h : c (SKP c s.1) = 91) : RPT M c (k + 1) s = ROV M c (RSU M c (RPT M c k)) (SKP c s.1, s.2) := by
  show (if c (SKP c s.1) = 102 then _ else if 48 ≤ c (SKP c s.1) ∧ c (SKP c s.1) ≤ 57 then _ else if c (SKP c s.1) = 40 then _ else if c (SKP c s.1) = 91 then _ else _) = _
  rw [if_neg (by omega), if_neg (by omega), if_neg (by omega), if_pos h]
theorem RPT.m {c : Nat → Int} {k : Nat} {s : PSt} (h : c (SKP c s.1) = 45) : RPT M c (k + 1) s = (RPT M c k (SKP c s.1 + 1, s.2)).bind (fun t => some (t.1, t.2.1, APS M t.2.2 (5, 0))) := by
  show (if c (SKP c s.1) = 102 then _ else if 48 ≤ c (SKP c s.1) ∧ c (SKP c s.1) ≤ 57 then _ else if c (SKP c s.1) = 40 then _ else if c (SKP c s.1) = 91 then _ else if c (SKP c s.1) = 45 then _ else _) = _
  rw [if_neg (by omega), if_neg (by omega), if_neg (by omega), if_neg (by omega), if_pos h]
theorem RPT.n {c : Nat → Int} {k : Nat} {s : PSt} (h : c (SKP c s.1) ≠ 102) (hd : ¬ (48 ≤ c (SKP c s.1) ∧ c (SKP c s.1) ≤ 57)) (h1 : c (SKP c s.1) ≠ 40) (h2 : c (SKP c s.1) ≠ 91) (h3 : c (SKP c s.1) ≠ 45) : RPT M c k s = none := by
  cases k with
  | zero => exact RPT.z h hd
  | succ k =>
    show (if c (SKP c s.1) = 102 then _ else if 48 ≤ c (SKP c s.1) ∧ c (SKP c s.1) ≤ 57 then _ else if c (SKP c s.1) = 40 then _ else if c (SKP c s.1) = 91 then _ else if c (SKP c s.1) = 45 then _ else none) = _
    rw [if_neg h, if_neg hd, if_neg h1, if_neg h2, if_neg h3]
/-- an answer, told by 0 and 1 -/
def RES (x : Int) (o : Option PSt) (t : PSt) : Prop := (x = 0 ∧ o = none) ∨ (x = 1 ∧ o = some t)
theorem RES.y {x : Int} {o : Option PSt} {t : PSt} (h : RES x o t) (hx : x ≠ 0) : o = some t := by
  rcases h with h | h
  · exact absurd h.1 hx
  · exact h.2
theorem RES.no {x : Int} {o : Option PSt} {t : PSt} (h : RES x o t) (hx : x ≠ 1) : o = none := by
  rcases h with h | h
  · exact h.2
  · exact absurd h.1 hx
theorem RES.f {x : Int} {o : Option PSt} {t : PSt} (hx : x = 0) (h : o = none) : RES x o t := Or.inl ⟨hx, h⟩
theorem RES.t {x : Int} {o : Option PSt} {t : PSt} (hx : x = 1) (h : o = some t) : RES x o t := Or.inr ⟨hx, h⟩
theorem RES.b {x : Int} {o o' : Option PSt} {t : PSt} (h : RES x o' t) (e : o = o') : RES x o t := by subst e; exact h
/-- on the way through joined ones: n more at most -/
def LPI (M : Nat) (c : Nat → Int) (v k : Int) (P : PSt → Option PSt) (o : Option PSt) (s : PSt) (turn : Int) : Prop := ∃ n : Nat, 41 ≤ n + s.2.1 ∧ o = RLP M c v k P n s ∧ turn ≤ s.2.1 ∧ s.2.1 ≤ 40
theorem LPI.z {c : Nat → Int} {v k : Int} {P : PSt → Option PSt} {o o1 : Option PSt} {s : PSt} {turn : Int} (e : o1 = some s) (h : o = o1.bind (RLP M c v k P 41)) (ht : turn = 0) (hs : s.2.1 ≤ 40) : LPI M c v k P o s turn := ⟨41, by omega, by rw [h, e]; rfl, by omega, hs⟩
theorem LPI.out {c : Nat → Int} {v k : Int} {P : PSt → Option PSt} {o : Option PSt} {s : PSt} {turn : Int} (h : LPI M c v k P o s turn) (e : c (SKP c s.1) ≠ v) : o = some (SKP c s.1, s.2) := by
  obtain ⟨n, h1, h2, h3, h4⟩ := h
  cases n with
  | zero => omega
  | succ n => rw [h2]; show (if c (SKP c s.1) = v then _ else _) = _; rw [if_neg e]
theorem LPI.in {c : Nat → Int} {v k : Int} {P : PSt → Option PSt} {o : Option PSt} {s : PSt} {turn : Int} (h : LPI M c v k P o s turn) (e : c (SKP c s.1) = v) (hs : s.2.1 < 40) : ∃ n : Nat, 40 ≤ n + s.2.1 ∧ o = (P (SKP c s.1 + 1, s.2.1 + 1, s.2.2)).bind (fun t => RLP M c v k P n (t.1, t.2.1, APS M t.2.2 (k, 0))) ∧ turn ≤ s.2.1 := by
  obtain ⟨n, h1, h2, h3, h4⟩ := h
  cases n with
  | zero => omega
  | succ n => exact ⟨n, by omega, by rw [h2]; show (if c (SKP c s.1) = v then _ else _) = _; rw [if_pos e, if_neg (by omega)], h3⟩
theorem LPI.no {c : Nat → Int} {v k : Int} {P : PSt → Option PSt} {o : Option PSt} {s : PSt} {turn : Int} (h : LPI M c v k P o s turn) (e : c (SKP c s.1) = v) (hs : 40 ≤ s.2.1) : o = none := by
  obtain ⟨n, h1, h2, h3, h4⟩ := h
  cases n with
  | zero => omega
  | succ n => rw [h2]; show (if c (SKP c s.1) = v then _ else _) = _; rw [if_pos e, if_pos hs]
theorem LPI.no2 {c : Nat → Int} {v k : Int} {P : PSt → Option PSt} {o : Option PSt} {s : PSt} {turn : Int} (h : LPI M c v k P o s turn) (e : c (SKP c s.1) = v) (hs : s.2.1 < 40) (hn : P (SKP c s.1 + 1, s.2.1 + 1, s.2.2) = none) : o = none := by
  obtain ⟨n, h1, h2, h3⟩ := h.in e hs
  rw [h2, hn]; rfl
theorem LPI.s {c : Nat → Int} {v k : Int} {P : PSt → Option PSt} {o : Option PSt} {s u t : PSt} {turn turn' : Int} (h : LPI M c v k P o s turn) (e : c (SKP c s.1) = v) (hs : s.2.1 < 40) (hy : P (SKP c s.1 + 1, s.2.1 + 1, s.2.2) = some u) (hu : s.2.1 + 1 ≤ u.2.1) (h4 : u.2.1 ≤ 40) (et : t = (u.1, u.2.1, APS M u.2.2 (k, 0))) (ht : turn' = turn + 1) : LPI M c v k P o t turn' := by
  obtain ⟨n, h1, h2, h3⟩ := h.in e hs
  subst et
  exact ⟨n, by show 41 ≤ n + u.2.1; omega, by rw [h2, hy]; rfl, by show turn' ≤ (u.2.1 : Nat); omega, h4⟩
theorem LPI.tn {c : Nat → Int} {v k : Int} {P : PSt → Option PSt} {o : Option PSt} {s : PSt} {turn : Int} (h : LPI M c v k P o s turn) : turn ≤ 40 := by
  obtain ⟨n, h1, h2, h3, h4⟩ := h
  omega
/-- the whole text: its steps, if it is signs -/
def RDA (M : Nat) (c : Nat → Int) : Option (List (Int × Int)) := (RSU M c (RPT M c 6) (0, 0, [])).bind (fun t => if c (SKP c t.1) = -1 then some t.2.2 else none)
/-- no more than 160 steps are kept, and no more are wanted -/
def TK9 (s s' : PSt) : Prop := s.1 = s'.1 ∧ s.2.1 = s'.2.1 ∧ s.2.2 = s'.2.2.take 160
def OK9 (o o' : Option PSt) : Prop := (o = none ∧ o' = none) ∨ ∃ t t', o = some t ∧ o' = some t' ∧ TK9 t t'
def PK9 (P P' : PSt → Option PSt) : Prop := ∀ s s', TK9 s s' → OK9 (P s) (P' s')
theorem TK9.aps {l l' : List (Int × Int)} {x : Int × Int} (h : l = l'.take 160) : APS 160 l x = (APS 200 l' x).take 160 := by
  subst h
  unfold APS
  by_cases a : l'.length < 160
  · rw [List.take_of_length_le (by omega), if_pos a, if_pos (by omega), List.take_of_length_le (by rw [List.length_append]; show l'.length + 1 ≤ 160; omega)]
  · rw [if_neg (by rw [List.length_take]; omega)]
    by_cases b : l'.length < 200
    · rw [if_pos b, List.take_append_of_le_length (by omega)]
    · rw [if_neg b]
theorem TK9.mk {p q m n : Nat} {l l' : List (Int × Int)} (h1 : p = q) (h2 : m = n) (h3 : l = l'.take 160) : TK9 (p, m, l) (q, n, l') := ⟨h1, h2, h3⟩
theorem OK9.n : OK9 none none := Or.inl ⟨rfl, rfl⟩
theorem OK9.y {t t' : PSt} (h : TK9 t t') : OK9 (some t) (some t') := Or.inr ⟨t, t', rfl, rfl, h⟩
theorem OK9.bd {o o' : Option PSt} {P P' : PSt → Option PSt} (h : OK9 o o') (k : PK9 P P') : OK9 (o.bind P) (o'.bind P') := by
  rcases h with ⟨h1, h2⟩ | ⟨t, t', h1, h2, h3⟩
  · rw [h1, h2]; exact OK9.n
  · rw [h1, h2]; exact k t t' h3
theorem PK9.tak (c : Nat → Int) (v : Int) : PK9 (TAK c v) (TAK c v) := fun s s' h => by
  obtain ⟨h1, h2, h3⟩ := h
  unfold TAK
  rw [h1]
  by_cases a : c (SKP c s'.1) = v
  · rw [if_pos a, if_pos a]; exact OK9.y ⟨rfl, h2, h3⟩
  · rw [if_neg a, if_neg a]; exact OK9.n
theorem PK9.rlp (c : Nat → Int) (v k : Int) {P P' : PSt → Option PSt} (h : PK9 P P') : ∀ n, PK9 (RLP 160 c v k P n) (RLP 200 c v k P' n)
  | 0 => fun _ _ _ => OK9.n
  | n + 1 => fun s s' g => by
    obtain ⟨h1, h2, h3⟩ := g
    show OK9 (if c (SKP c s.1) = v then _ else _) (if c (SKP c s'.1) = v then _ else _)
    rw [h1, h2]
    by_cases a : c (SKP c s'.1) = v
    · rw [if_pos a, if_pos a]
      by_cases b : 40 ≤ s'.2.1
      · rw [if_pos b, if_pos b]; exact OK9.n
      · rw [if_neg b, if_neg b]
        exact OK9.bd (h _ _ (TK9.mk rfl rfl h3)) (fun t t' q => PK9.rlp c v k h n _ _ (TK9.mk q.1 q.2.1 (TK9.aps q.2.2)))
    · rw [if_neg a, if_neg a]; exact OK9.y ⟨rfl, h2, h3⟩
theorem PK9.rpr (c : Nat → Int) {P P' : PSt → Option PSt} (h : PK9 P P') : PK9 (RPR 160 c P) (RPR 200 c P') := fun s s' g => OK9.bd (h s s' g) (PK9.rlp c 42 3 h 41)
theorem PK9.rsu (c : Nat → Int) {P P' : PSt → Option PSt} (h : PK9 P P') : PK9 (RSU 160 c P) (RSU 200 c P') := fun s s' g => OK9.bd (PK9.rpr c h s s' g) (PK9.rlp c 43 2 (PK9.rpr c h) 41)
theorem PK9.nub (c : Nat → Int) (k m : Int) : PK9 (NUB 160 c k m) (NUB 200 c k m) := fun s s' g => by
  obtain ⟨h1, h2, h3⟩ := g
  unfold NUB
  rw [h1]
  by_cases a : 1 ≤ DGF c 4 s'.1 ∧ DGF c 4 s'.1 ≤ 3 ∧ VLU c s'.1 (DGF c 4 s'.1) ≤ m
  · rw [if_pos a, if_pos a]; exact OK9.y (TK9.mk rfl h2 (TK9.aps h3))
  · rw [if_neg a, if_neg a]; exact OK9.n
theorem PK9.rlt (c : Nat → Int) : PK9 (RLU 160 c) (RLU 200 c) := fun s s' g => by
  obtain ⟨h1, h2, h3⟩ := g
  unfold RLU
  rw [h1, h2]
  by_cases a : 40 ≤ s'.2.1 ∨ (97 ≤ c (s'.1 + 1) ∧ c (s'.1 + 1) ≤ 122) ∨ (65 ≤ c (s'.1 + 1) ∧ c (s'.1 + 1) ≤ 90)
  · rw [if_pos a, if_pos a]; exact OK9.n
  · rw [if_neg a, if_neg a]; exact OK9.y (TK9.mk rfl rfl (TK9.aps h3))
theorem PK9.rnb (c : Nat → Int) : PK9 (RNB 160 c) (RNB 200 c) := fun s s' g => by
  obtain ⟨h1, h2, h3⟩ := g
  unfold RNB
  rw [h2]
  by_cases a : 40 ≤ s'.2.1
  · rw [if_pos a, if_pos a]; exact OK9.n
  · rw [if_neg a, if_neg a]; exact PK9.nub c 1 999 _ _ (TK9.mk h1 rfl h3)
theorem PK9.rov (c : Nat → Int) {S S' : PSt → Option PSt} (h : PK9 S S') : PK9 (ROV 160 c S) (ROV 200 c S') := fun s s' g => by
  obtain ⟨h1, h2, h3⟩ := g
  unfold ROV
  rw [h2]
  by_cases a : 40 ≤ s'.2.1
  · rw [if_pos a, if_pos a]; exact OK9.n
  · rw [if_neg a, if_neg a]
    exact OK9.bd (h _ _ (TK9.mk (by rw [h1]) rfl h3)) (fun t t' q => OK9.bd (PK9.tak c 44 t t' q) (fun t t' q => OK9.bd (h t t' q) (fun t t' q => OK9.bd (PK9.tak c 93 t t' q) (fun t t' q => PK9.nub c 4 8 _ _ (TK9.mk (by rw [q.1]) q.2.1 q.2.2)))))
theorem PK9.if {A : Prop} {_ : Decidable A} {a a' b b' : Option PSt} (h : A → OK9 a a') (k : ¬ A → OK9 b b') : OK9 (if A then a else b) (if A then a' else b') := by
  by_cases x : A
  · rw [if_pos x, if_pos x]; exact h x
  · rw [if_neg x, if_neg x]; exact k x
theorem PK9.rpt (c : Nat → Int) : ∀ k, PK9 (RPT 160 c k) (RPT 200 c k)
  | 0 => fun s s' g => by
    obtain ⟨h1, h2, h3⟩ := g
    show OK9 (if c (SKP c s.1) = 102 then RLU 160 c (SKP c s.1, s.2) else if 48 ≤ c (SKP c s.1) ∧ c (SKP c s.1) ≤ 57 then RNB 160 c (SKP c s.1, s.2) else none) (if c (SKP c s'.1) = 102 then RLU 200 c (SKP c s'.1, s'.2) else if 48 ≤ c (SKP c s'.1) ∧ c (SKP c s'.1) ≤ 57 then RNB 200 c (SKP c s'.1, s'.2) else none)
    rw [h1]
    exact PK9.if (fun _ => PK9.rlt c _ _ ⟨rfl, h2, h3⟩) (fun _ => PK9.if (fun _ => PK9.rnb c _ _ ⟨rfl, h2, h3⟩) (fun _ => OK9.n))
  | k + 1 => fun s s' g => by
    obtain ⟨h1, h2, h3⟩ := g
    have ih := PK9.rsu c (PK9.rpt c k)
    show OK9 (if c (SKP c s.1) = 102 then RLU 160 c (SKP c s.1, s.2) else if 48 ≤ c (SKP c s.1) ∧ c (SKP c s.1) ≤ 57 then RNB 160 c (SKP c s.1, s.2) else
      if c (SKP c s.1) = 40 then (RSU 160 c (RPT 160 c k) (SKP c s.1 + 1, s.2)).bind (TAK c 41) else
      if c (SKP c s.1) = 91 then ROV 160 c (RSU 160 c (RPT 160 c k)) (SKP c s.1, s.2) else
      if c (SKP c s.1) = 45 then (RPT 160 c k (SKP c s.1 + 1, s.2)).bind (fun t => some (t.1, t.2.1, APS 160 t.2.2 (5, 0))) else none) (if c (SKP c s'.1) = 102 then RLU 200 c (SKP c s'.1, s'.2) else if 48 ≤ c (SKP c s'.1) ∧ c (SKP c s'.1) ≤ 57 then RNB 200 c (SKP c s'.1, s'.2) else
      if c (SKP c s'.1) = 40 then (RSU 200 c (RPT 200 c k) (SKP c s'.1 + 1, s'.2)).bind (TAK c 41) else
      if c (SKP c s'.1) = 91 then ROV 200 c (RSU 200 c (RPT 200 c k)) (SKP c s'.1, s'.2) else
      if c (SKP c s'.1) = 45 then (RPT 200 c k (SKP c s'.1 + 1, s'.2)).bind (fun t => some (t.1, t.2.1, APS 200 t.2.2 (5, 0))) else none)
    rw [h1]
    exact PK9.if (fun _ => PK9.rlt c _ _ ⟨rfl, h2, h3⟩) (fun _ => PK9.if (fun _ => PK9.rnb c _ _ ⟨rfl, h2, h3⟩) (fun _ => PK9.if (fun _ => OK9.bd (ih _ _ ⟨rfl, h2, h3⟩) (PK9.tak c 41)) (fun _ => PK9.if (fun _ => PK9.rov c ih _ _ ⟨rfl, h2, h3⟩) (fun _ => PK9.if (fun _ => OK9.bd (PK9.rpt c k _ _ ⟨rfl, h2, h3⟩) (fun t t' q => OK9.y (TK9.mk q.1 q.2.1 (TK9.aps q.2.2)))) (fun _ => OK9.n)))))
/-- how many things, how many steps: k deeper ones left -/
def LN9 (k : Nat) (s t : PSt) : Prop := s.2.1 ≤ t.2.1 ∧ t.2.1 ≤ 40 ∧ (t.2.1 - s.2.1) % 2 = 1 ∧ 2 * t.2.2.length ≤ 2 * s.2.2.length + k * (t.2.1 - s.2.1 + 1) + 2 * (t.2.1 - s.2.1)
def LP9 (k : Nat) (s t : PSt) : Prop := s.2.1 ≤ t.2.1 ∧ t.2.1 ≤ 40 ∧ (t.2.1 - s.2.1) % 2 = 0 ∧ 2 * t.2.2.length ≤ 2 * s.2.2.length + k * (t.2.1 - s.2.1) + 2 * (t.2.1 - s.2.1)
def PN9 (k : Nat) (P : PSt → Option PSt) : Prop := ∀ s t, P s = some t → s.2.1 ≤ 40 → LN9 k s t
theorem APS.ln {l : List (Int × Int)} {x : Int × Int} : (APS M l x).length ≤ l.length + 1 := by
  unfold APS
  by_cases q : l.length < M
  · rw [if_pos q, List.length_append]; exact Nat.le_refl _
  · rw [if_neg q]; omega
theorem OB9.y {o : Option PSt} {P : PSt → Option PSt} {t : PSt} (h : o.bind P = some t) : ∃ u, o = some u ∧ P u = some t := by
  cases o with
  | none => cases h
  | some u => exact ⟨u, rfl, h⟩
theorem LP9.rlp (c : Nat → Int) (v w : Int) {k : Nat} {P : PSt → Option PSt} (h : PN9 k P) : ∀ n s t, RLP M c v w P n s = some t → s.2.1 ≤ 40 → LP9 k s t
  | 0, _, _, e, _ => by cases e
  | n + 1, s, t, e, hs => by
    have e : (if c (SKP c s.1) = v then (if 40 ≤ s.2.1 then none else (P (SKP c s.1 + 1, s.2.1 + 1, s.2.2)).bind (fun t => RLP M c v w P n (t.1, t.2.1, APS M t.2.2 (w, 0)))) else some (SKP c s.1, s.2)) = some t := e
    by_cases a : c (SKP c s.1) = v
    · rw [if_pos a] at e
      by_cases b : 40 ≤ s.2.1
      · rw [if_pos b] at e; cases e
      · rw [if_neg b] at e
        obtain ⟨u, e1, e2⟩ := OB9.y e
        obtain ⟨g1, g2, g3, g4⟩ := h _ _ e1 (by show s.2.1 + 1 ≤ 40; omega)
        have g1 : s.2.1 + 1 ≤ u.2.1 := g1
        have g3 : (u.2.1 - (s.2.1 + 1)) % 2 = 1 := g3
        have g4 : 2 * u.2.2.length ≤ 2 * s.2.2.length + k * (u.2.1 - (s.2.1 + 1) + 1) + 2 * (u.2.1 - (s.2.1 + 1)) := g4
        obtain ⟨r1, r2, r3, r4⟩ := LP9.rlp c v w h n _ _ e2 g2
        have r1 : u.2.1 ≤ t.2.1 := r1
        have r3 : (t.2.1 - u.2.1) % 2 = 0 := r3
        have r4 : 2 * t.2.2.length ≤ 2 * (APS M u.2.2 (w, 0)).length + k * (t.2.1 - u.2.1) + 2 * (t.2.1 - u.2.1) := r4
        have al := APS.ln (M := M) (l := u.2.2) (x := (w, 0))
        refine ⟨by omega, r2, by omega, ?_⟩
        rw [show u.2.1 - (s.2.1 + 1) + 1 = u.2.1 - s.2.1 from by omega] at g4
        have d : t.2.1 - s.2.1 = (u.2.1 - s.2.1) + (t.2.1 - u.2.1) := by omega
        rw [d, Nat.mul_add]
        omega
    · rw [if_neg a] at e
      cases e
      exact ⟨Nat.le_refl _, hs, by show (s.2.1 - s.2.1) % 2 = 0; rw [Nat.sub_self], by show 2 * s.2.2.length ≤ _; omega⟩
theorem LN9.tr {k : Nat} {s u t : PSt} (h : LN9 k s u) (g : LP9 k u t) : LN9 k s t := by
  obtain ⟨h1, h2, h3, h4⟩ := h
  obtain ⟨g1, g2, g3, g4⟩ := g
  refine ⟨by omega, g2, by omega, ?_⟩
  have d : t.2.1 - s.2.1 + 1 = (u.2.1 - s.2.1 + 1) + (t.2.1 - u.2.1) := by omega
  rw [d, Nat.mul_add]
  omega
theorem PN9.rpr (c : Nat → Int) {k : Nat} {P : PSt → Option PSt} (h : PN9 k P) : PN9 k (RPR M c P) := fun s t e hs => by
  obtain ⟨u, e1, e2⟩ := OB9.y (show (P s).bind (RLP M c 42 3 P 41) = some t from e)
  have a := h s u e1 hs
  exact a.tr (LP9.rlp c 42 3 h 41 u t e2 a.2.1)
theorem PN9.rsu (c : Nat → Int) {k : Nat} {P : PSt → Option PSt} (h : PN9 k P) : PN9 k (RSU M c P) := fun s t e hs => by
  obtain ⟨u, e1, e2⟩ := OB9.y (show (RPR M c P s).bind (RLP M c 43 2 (RPR M c P) 41) = some t from e)
  have a := PN9.rpr c h s u e1 hs
  exact a.tr (LP9.rlp c 43 2 (PN9.rpr c h) 41 u t e2 a.2.1)
theorem NUB.ln {c : Nat → Int} {w m : Int} {s t : PSt} (e : NUB M c w m s = some t) : t.2.1 = s.2.1 ∧ t.2.2.length ≤ s.2.2.length + 1 := by
  unfold NUB at e
  by_cases a : 1 ≤ DGF c 4 s.1 ∧ DGF c 4 s.1 ≤ 3 ∧ VLU c s.1 (DGF c 4 s.1) ≤ m
  · rw [if_pos a] at e; cases e; exact ⟨rfl, APS.ln⟩
  · rw [if_neg a] at e; cases e
theorem TAK.ln {c : Nat → Int} {v : Int} {s t : PSt} (e : TAK c v s = some t) : t.2 = s.2 := by
  unfold TAK at e
  by_cases a : c (SKP c s.1) = v
  · rw [if_pos a] at e; cases e; rfl
  · rw [if_neg a] at e; cases e
theorem LN9.one {k : Nat} {s t : PSt} (h1 : t.2.1 = s.2.1 + 1) (h4 : t.2.1 ≤ 40) (h2 : t.2.2.length ≤ s.2.2.length + 1) : LN9 k s t := by
  refine ⟨by omega, h4, by rw [h1]; omega, ?_⟩
  rw [h1, show s.2.1 + 1 - s.2.1 = 1 from by omega]
  omega
theorem LN9.up {k : Nat} {s t : PSt} (h : LN9 k s t) : LN9 (k + 1) s t := by
  obtain ⟨h1, h2, h3, h4⟩ := h
  refine ⟨h1, h2, h3, ?_⟩
  rw [Nat.add_mul]
  omega
theorem PN9.rlt (c : Nat → Int) {k : Nat} : PN9 k (RLU M c) := fun s t e hs => by
  unfold RLU at e
  by_cases a : 40 ≤ s.2.1 ∨ (97 ≤ c (s.1 + 1) ∧ c (s.1 + 1) ≤ 122) ∨ (65 ≤ c (s.1 + 1) ∧ c (s.1 + 1) ≤ 90)
  · rw [if_pos a] at e; cases e
  · rw [if_neg a] at e; cases e; exact LN9.one rfl (by show s.2.1 + 1 ≤ 40; omega) APS.ln
theorem PN9.rnb (c : Nat → Int) {k : Nat} : PN9 k (RNB M c) := fun s t e hs => by
  unfold RNB at e
  by_cases a : 40 ≤ s.2.1
  · rw [if_pos a] at e; cases e
  · rw [if_neg a] at e
    obtain ⟨g1, g2⟩ := NUB.ln e
    have g1 : t.2.1 = s.2.1 + 1 := g1
    exact LN9.one g1 (by omega) g2
theorem PN9.rov (c : Nat → Int) {k : Nat} {S : PSt → Option PSt} (h : PN9 k S) : PN9 (k + 1) (ROV M c S) := fun s t e hs => by
  unfold ROV at e
  by_cases a : 40 ≤ s.2.1
  · rw [if_pos a] at e; cases e
  · rw [if_neg a] at e
    obtain ⟨u1, e1, e⟩ := OB9.y e
    obtain ⟨u2, e2, e⟩ := OB9.y e
    obtain ⟨u3, e3, e⟩ := OB9.y e
    obtain ⟨u4, e4, e⟩ := OB9.y e
    obtain ⟨n1, n2⟩ := NUB.ln e
    have k2 := TAK.ln e2
    have k4 := TAK.ln e4
    obtain ⟨g1, g2, g3, g4⟩ := h _ _ e1 (by show s.2.1 + 1 ≤ 40; omega)
    obtain ⟨r1, r2, r3, r4⟩ := h _ _ e3 (by rw [k2]; exact g2)
    rw [k2] at r1 r3 r4
    have n1 : t.2.1 = u4.2.1 := n1
    have n2 : t.2.2.length ≤ u4.2.2.length + 1 := n2
    rw [k4] at n1 n2
    have g1 : s.2.1 + 1 ≤ u1.2.1 := g1
    have g3 : (u1.2.1 - (s.2.1 + 1)) % 2 = 1 := g3
    have g4 : 2 * u1.2.2.length ≤ 2 * s.2.2.length + k * (u1.2.1 - (s.2.1 + 1) + 1) + 2 * (u1.2.1 - (s.2.1 + 1)) := g4
    refine ⟨by omega, by omega, by omega, ?_⟩
    have d : t.2.1 - s.2.1 + 1 = (u1.2.1 - (s.2.1 + 1) + 1) + (u3.2.1 - u1.2.1 + 1) := by omega
    rw [d, Nat.add_mul, Nat.mul_add]
    omega
theorem PN9.rpt (c : Nat → Int) : ∀ k, PN9 k (RPT M c k)
  | 0 => fun s t e hs => by
    have e : (if c (SKP c s.1) = 102 then RLU M c (SKP c s.1, s.2) else if 48 ≤ c (SKP c s.1) ∧ c (SKP c s.1) ≤ 57 then RNB M c (SKP c s.1, s.2) else none) = some t := e
    by_cases a : c (SKP c s.1) = 102
    · rw [if_pos a] at e; have g := PN9.rlt (k := 0) c _ _ e hs; exact g
    · rw [if_neg a] at e
      by_cases b : 48 ≤ c (SKP c s.1) ∧ c (SKP c s.1) ≤ 57
      · rw [if_pos b] at e; have g := PN9.rnb (k := 0) c _ _ e hs; exact g
      · rw [if_neg b] at e; cases e
  | k + 1 => fun s t e hs => by
    by_cases a : c (SKP c s.1) = 102
    · rw [RPT.l a] at e; have g := PN9.rlt (k := k + 1) c _ _ e hs; exact g
    · by_cases b : 48 ≤ c (SKP c s.1) ∧ c (SKP c s.1) ≤ 57
      · rw [RPT.d b] at e; have g := PN9.rnb (k := k + 1) c _ _ e hs; exact g
      · by_cases p : c (SKP c s.1) = 40
        · rw [RPT.p p] at e
          obtain ⟨u, e1, e2⟩ := OB9.y e
          have g := (PN9.rsu c (PN9.rpt c k) _ _ e1 hs).up
          have k2 := TAK.ln e2
          have g : LN9 (k + 1) s u := g
          unfold LN9 at *
          rw [k2]; exact g
        · by_cases q : c (SKP c s.1) = 91
          · rw [RPT.o q] at e
            have g := PN9.rov c (PN9.rsu c (PN9.rpt c k)) _ _ e hs; exact g
          · by_cases r : c (SKP c s.1) = 45
            · rw [RPT.m r] at e
              obtain ⟨u, e1, e2⟩ := OB9.y e
              cases e2
              obtain ⟨g1, g2, g3, g4⟩ := PN9.rpt c k _ _ e1 hs
              have g1 : s.2.1 ≤ u.2.1 := g1
              have g3 : (u.2.1 - s.2.1) % 2 = 1 := g3
              have g4 : 2 * u.2.2.length ≤ 2 * s.2.2.length + k * (u.2.1 - s.2.1 + 1) + 2 * (u.2.1 - s.2.1) := g4
              refine ⟨g1, g2, g3, ?_⟩
              have al := APS.ln (M := M) (l := u.2.2) (x := ((5 : Int), (0 : Int)))
              show 2 * (APS M u.2.2 (5, 0)).length ≤ 2 * s.2.2.length + (k + 1) * (u.2.1 - s.2.1 + 1) + 2 * (u.2.1 - s.2.1)
              rw [Nat.add_mul]
              omega
            · rw [RPT.n a b p q r] at e; cases e
theorem RDA.ln {c : Nat → Int} {l : List (Int × Int)} (h : RDA M c = some l) : l.length ≤ 159 := by
  obtain ⟨t, e1, e2⟩ : ∃ t, RSU M c (RPT M c 6) (0, 0, []) = some t ∧ (if c (SKP c t.1) = -1 then some t.2.2 else none) = some l := by
    unfold RDA at h
    cases e : RSU M c (RPT M c 6) (0, 0, []) with
    | none => rw [e] at h; cases h
    | some t => rw [e] at h; exact ⟨t, rfl, h⟩
  obtain ⟨-, g2, g3, g4⟩ := PN9.rsu c (PN9.rpt c 6) _ _ e1 (Nat.zero_le _)
  have g3 : (t.2.1 - 0) % 2 = 1 := g3
  have g4 : 2 * t.2.2.length ≤ 2 * 0 + 6 * (t.2.1 - 0 + 1) + 2 * (t.2.1 - 0) := g4
  by_cases a : c (SKP c t.1) = -1
  · rw [if_pos a] at e2; cases e2; omega
  · rw [if_neg a] at e2; cases e2
/-- how many steps are kept makes no difference -/
theorem RDA.eq (c : Nat → Int) : RDA 160 c = RDA 200 c := by
  have h := PK9.rsu c (PK9.rpt c 6) (0, 0, []) (0, 0, []) ⟨rfl, rfl, rfl⟩
  rcases h with ⟨h1, h2⟩ | ⟨t, t', h1, h2, g1, g2, g3⟩
  · unfold RDA; rw [h1, h2]
  · have b : RDA 160 c = if c (SKP c t.1) = -1 then some t.2.2 else none := by unfold RDA; rw [h1]; rfl
    have b' : RDA 200 c = if c (SKP c t'.1) = -1 then some t'.2.2 else none := by unfold RDA; rw [h2]; rfl
    by_cases a : c (SKP c t'.1) = -1
    · rw [if_pos a] at b'
      have l := RDA.ln b'
      rw [b, b', g1, if_pos a, g3, List.take_of_length_le (by omega)]
    · rw [b, b', g1, if_neg a, if_neg a]
end Pul
end
-- 59.pun.lean.txt
section
/-! the grammar: the height of what is told, how many things it has -/
section Puh
variable {M : Nat}
def HG1 (k : Int) : Int := if k ≤ 1 then 1 else if k = 5 then 0 else -1
def CN1 (k : Int) : Int := if k = 5 then 0 else 1
def HGL : List (Int × Int) → Int
  | [] => 0
  | x :: l => HG1 x.1 + HGL l
def CNL : List (Int × Int) → Int
  | [] => 0
  | x :: l => CN1 x.1 + CNL l
theorem HGL.ap : ∀ l m : List (Int × Int), HGL (l ++ m) = HGL l + HGL m ∧ CNL (l ++ m) = CNL l + CNL m
  | [], m => by
    refine ⟨?_, ?_⟩
    · show HGL m = 0 + HGL m; omega
    · show CNL m = 0 + CNL m; omega
  | x :: l, m => by
    obtain ⟨h1, h2⟩ := HGL.ap l m
    refine ⟨?_, ?_⟩
    · show HG1 x.1 + HGL (l ++ m) = HG1 x.1 + HGL l + HGL m; omega
    · show CN1 x.1 + CNL (l ++ m) = CN1 x.1 + CNL l + CNL m; omega
/-- overlaps by 8 at most -/
def K48 (l : List (Int × Int)) : Prop := ∀ x, x ∈ l → x.1 = 4 → x.2 ≤ 8
/-- one high, of forty things at most, overlaps by 8 at most -/
def HLV (l : List (Int × Int)) : Prop := HGL l = 1 ∧ CNL l ≤ 40 ∧ K48 l
theorem K48.aps {l : List (Int × Int)} {k n : Int} (h : K48 l) (q : k = 4 → n ≤ 8) : K48 (APS M l (k, n)) := by
  unfold APS
  by_cases z : l.length < M
  · rw [if_pos z]
    intro x hx h4
    rcases List.mem_append.mp hx with m | m
    · exact h x m h4
    · rw [List.mem_singleton.mp m] at h4 ⊢
      exact q h4
  · rw [if_neg z]; exact h
def PK8 (P : PSt → Option PSt) : Prop := ∀ s t, P s = some t → K48 s.2.2 → K48 t.2.2
theorem PK8.tak {c : Nat → Int} {v : Int} {s t : PSt} (e : TAK c v s = some t) (h : K48 s.2.2) : K48 t.2.2 := by rw [TAK.ln e]; exact h
theorem PK8.rlp (c : Nat → Int) (v : Int) {k : Int} {P : PSt → Option PSt} (hk : k ≠ 4) (h : PK8 P) : ∀ n, PK8 (RLP M c v k P n)
  | 0 => fun _ _ e => by cases e
  | n + 1 => fun s t e hs => by
    have e : (if c (SKP c s.1) = v then (if 40 ≤ s.2.1 then none else (P (SKP c s.1 + 1, s.2.1 + 1, s.2.2)).bind (fun t => RLP M c v k P n (t.1, t.2.1, APS M t.2.2 (k, 0)))) else some (SKP c s.1, s.2)) = some t := e
    by_cases a : c (SKP c s.1) = v
    · rw [if_pos a] at e
      by_cases b : 40 ≤ s.2.1
      · rw [if_pos b] at e; cases e
      · rw [if_neg b] at e
        obtain ⟨u, e1, e2⟩ := OB9.y e
        exact PK8.rlp c v hk h n _ _ e2 (K48.aps (h _ _ e1 hs) (fun z => absurd z hk))
    · rw [if_neg a] at e; cases e
      exact hs
theorem PK8.rpr (c : Nat → Int) {P : PSt → Option PSt} (h : PK8 P) : PK8 (RPR M c P) := fun s t e hs => by
  obtain ⟨u, e1, e2⟩ := OB9.y (show (P s).bind (RLP M c 42 3 P 41) = some t from e)
  exact PK8.rlp c 42 (by decide) h 41 u t e2 (h s u e1 hs)
theorem PK8.rsu (c : Nat → Int) {P : PSt → Option PSt} (h : PK8 P) : PK8 (RSU M c P) := fun s t e hs => by
  obtain ⟨u, e1, e2⟩ := OB9.y (show (RPR M c P s).bind (RLP M c 43 2 (RPR M c P) 41) = some t from e)
  exact PK8.rlp c 43 (by decide) (PK8.rpr c h) 41 u t e2 (PK8.rpr c h s u e1 hs)
theorem PK8.nub {c : Nat → Int} {w k : Int} {s t : PSt} (hw : w = 4 → k ≤ 8) (e : NUB M c w k s = some t) (hs : K48 s.2.2) : K48 t.2.2 := by
  unfold NUB at e
  by_cases a : 1 ≤ DGF c 4 s.1 ∧ DGF c 4 s.1 ≤ 3 ∧ VLU c s.1 (DGF c 4 s.1) ≤ k
  · rw [if_pos a] at e; cases e
    exact K48.aps hs (fun z => by have := hw z; omega)
  · rw [if_neg a] at e; cases e
theorem PK8.rlt (c : Nat → Int) : PK8 (RLU M c) := fun s t e hs => by
  unfold RLU at e
  by_cases a : 40 ≤ s.2.1 ∨ (97 ≤ c (s.1 + 1) ∧ c (s.1 + 1) ≤ 122) ∨ (65 ≤ c (s.1 + 1) ∧ c (s.1 + 1) ≤ 90)
  · rw [if_pos a] at e; cases e
  · rw [if_neg a] at e; cases e
    exact K48.aps hs (fun z => absurd z (by decide))
theorem PK8.rnb (c : Nat → Int) : PK8 (RNB M c) := fun s t e hs => by
  unfold RNB at e
  by_cases a : 40 ≤ s.2.1
  · rw [if_pos a] at e; cases e
  · rw [if_neg a] at e
    exact PK8.nub (s := (s.1, s.2.1 + 1, s.2.2)) (fun z => absurd z (by decide)) e hs
theorem PK8.rov (c : Nat → Int) {S : PSt → Option PSt} (h : PK8 S) : PK8 (ROV M c S) := fun s t e hs => by
  unfold ROV at e
  by_cases a : 40 ≤ s.2.1
  · rw [if_pos a] at e; cases e
  · rw [if_neg a] at e
    obtain ⟨u1, e1, e⟩ := OB9.y e
    obtain ⟨u2, e2, e⟩ := OB9.y e
    obtain ⟨u3, e3, e⟩ := OB9.y e
    obtain ⟨u4, e4, e⟩ := OB9.y e
    have k4 : K48 u4.2.2 := PK8.tak e4 (h _ _ e3 (PK8.tak e2 (h _ _ e1 hs)))
    exact PK8.nub (s := (SKP c u4.1, u4.2)) (fun _ => Int.le_refl 8) e k4
theorem PK8.rpt (c : Nat → Int) : ∀ k, PK8 (RPT M c k)
  | 0 => fun s t e hs => by
    by_cases a : c (SKP c s.1) = 102
    · rw [RPT.l a] at e; exact PK8.rlt c _ _ e hs
    · by_cases b : 48 ≤ c (SKP c s.1) ∧ c (SKP c s.1) ≤ 57
      · rw [RPT.d b] at e; exact PK8.rnb c _ _ e hs
      · rw [RPT.z a b] at e; cases e
  | k + 1 => fun s t e hs => by
    by_cases a : c (SKP c s.1) = 102
    · rw [RPT.l a] at e; exact PK8.rlt c _ _ e hs
    · by_cases b : 48 ≤ c (SKP c s.1) ∧ c (SKP c s.1) ≤ 57
      · rw [RPT.d b] at e; exact PK8.rnb c _ _ e hs
      · by_cases p : c (SKP c s.1) = 40
        · rw [RPT.p p] at e
          obtain ⟨u, e1, e2⟩ := OB9.y e
          exact PK8.tak e2 (PK8.rsu c (PK8.rpt c k) _ _ e1 hs)
        · by_cases q : c (SKP c s.1) = 91
          · rw [RPT.o q] at e
            exact PK8.rov c (PK8.rsu c (PK8.rpt c k)) _ _ e hs
          · by_cases r : c (SKP c s.1) = 45
            · rw [RPT.m r] at e
              obtain ⟨u, e1, e2⟩ := OB9.y e
              have g := PK8.rpt c k (SKP c s.1 + 1, s.2) u e1 hs
              cases e2
              exact K48.aps g (fun z => absurd z (by decide))
            · rw [RPT.n a b p q r] at e; cases e
def NHG (M : Nat) (d e : Int) (s t : PSt) : Prop := s.2.2.length ≤ t.2.2.length ∧ (t.2.2.length < M → HGL t.2.2 = HGL s.2.2 + d ∧ CNL t.2.2 - (t.2.1 : Int) = CNL s.2.2 - (s.2.1 : Int) + e)
theorem NHG.rf {s t : PSt} (h : t.2 = s.2) : NHG M 0 0 s t := by
  unfold NHG; rw [h]
  exact ⟨Nat.le_refl _, fun _ => ⟨by omega, by omega⟩⟩
theorem NHG.tr {d e d' e' f g : Int} {s u t : PSt} (h : NHG M d e s u) (k : NHG M d' e' u t) (hf : f = d + d') (hg : g = e + e') : NHG M f g s t := ⟨Nat.le_trans h.1 k.1, fun q => by
  have a := k.2 q
  have b := h.2 (by have := k.1; omega)
  exact ⟨by omega, by omega⟩⟩
theorem NHG.aps {k n : Int} {s t : PSt} (h1 : t.2.1 = s.2.1) (h2 : t.2.2 = APS M s.2.2 (k, n)) : NHG M (HG1 k) (CN1 k) s t := by
  unfold NHG; rw [h1, h2]
  unfold APS
  by_cases q : s.2.2.length < M
  · rw [if_pos q]
    obtain ⟨a1, a2⟩ := HGL.ap s.2.2 [(k, n)]
    have b1 : HGL [(k, n)] = HG1 k + 0 := rfl
    have b2 : CNL [(k, n)] = CN1 k + 0 := rfl
    exact ⟨by rw [List.length_append]; omega, fun _ => ⟨by omega, by omega⟩⟩
  · rw [if_neg q]; exact ⟨Nat.le_refl _, fun z => absurd z q⟩
theorem NHG.ct {s t : PSt} (h1 : t.2.1 = s.2.1 + 1) (h2 : t.2.2 = s.2.2) : NHG M 0 (-1) s t := by
  unfold NHG; rw [h1, h2]
  exact ⟨Nat.le_refl _, fun _ => ⟨by omega, by omega⟩⟩
def PHG (M : Nat) (P : PSt → Option PSt) : Prop := ∀ s t, P s = some t → NHG M 1 0 s t
theorem PHG.tak {c : Nat → Int} {v : Int} {s t : PSt} (e : TAK c v s = some t) : NHG M 0 0 s t := NHG.rf (TAK.ln e)
theorem PHG.rlp (c : Nat → Int) (v : Int) {k : Int} {P : PSt → Option PSt} (hk : HG1 k = -1) (hk2 : CN1 k = 1) (h : PHG M P) : ∀ n s t, RLP M c v k P n s = some t → NHG M 0 0 s t
  | 0, _, _, e => by cases e
  | n + 1, s, t, e => by
    have e : (if c (SKP c s.1) = v then (if 40 ≤ s.2.1 then none else (P (SKP c s.1 + 1, s.2.1 + 1, s.2.2)).bind (fun t => RLP M c v k P n (t.1, t.2.1, APS M t.2.2 (k, 0)))) else some (SKP c s.1, s.2)) = some t := e
    by_cases a : c (SKP c s.1) = v
    · rw [if_pos a] at e
      by_cases b : 40 ≤ s.2.1
      · rw [if_pos b] at e; cases e
      · rw [if_neg b] at e
        obtain ⟨u, e1, e2⟩ := OB9.y e
        have g0 : NHG M 0 (-1) s (SKP c s.1 + 1, s.2.1 + 1, s.2.2) := NHG.ct rfl rfl
        have g1 := h _ _ e1
        have g2 : NHG M (HG1 k) (CN1 k) u (u.1, u.2.1, APS M u.2.2 (k, 0)) := NHG.aps rfl rfl
        have g3 := PHG.rlp c v hk hk2 h n _ _ e2
        exact ((g0.tr g1 (f := 1) (g := -1) (by omega) (by omega)).tr g2 (f := 0) (g := 0) (by omega) (by omega)).tr g3 (by omega) (by omega)
    · rw [if_neg a] at e; cases e
      exact NHG.rf rfl
theorem PHG.rpr (c : Nat → Int) {P : PSt → Option PSt} (h : PHG M P) : PHG M (RPR M c P) := fun s t e => by
  obtain ⟨u, e1, e2⟩ := OB9.y (show (P s).bind (RLP M c 42 3 P 41) = some t from e)
  exact (h s u e1).tr (PHG.rlp c 42 (by decide) (by decide) h 41 u t e2) (by omega) (by omega)
theorem PHG.rsu (c : Nat → Int) {P : PSt → Option PSt} (h : PHG M P) : PHG M (RSU M c P) := fun s t e => by
  obtain ⟨u, e1, e2⟩ := OB9.y (show (RPR M c P s).bind (RLP M c 43 2 (RPR M c P) 41) = some t from e)
  exact (PHG.rpr c h s u e1).tr (PHG.rlp c 43 (by decide) (by decide) (PHG.rpr c h) 41 u t e2) (by omega) (by omega)
theorem PHG.nub {c : Nat → Int} {w k : Int} {s t : PSt} (e : NUB M c w k s = some t) : NHG M (HG1 w) (CN1 w) s t := by
  unfold NUB at e
  by_cases a : 1 ≤ DGF c 4 s.1 ∧ DGF c 4 s.1 ≤ 3 ∧ VLU c s.1 (DGF c 4 s.1) ≤ k
  · rw [if_pos a] at e; cases e
    exact NHG.aps rfl rfl
  · rw [if_neg a] at e; cases e
theorem PHG.rlt (c : Nat → Int) : PHG M (RLU M c) := fun s t e => by
  unfold RLU at e
  by_cases a : 40 ≤ s.2.1 ∨ (97 ≤ c (s.1 + 1) ∧ c (s.1 + 1) ≤ 122) ∨ (65 ≤ c (s.1 + 1) ∧ c (s.1 + 1) ≤ 90)
  · rw [if_pos a] at e; cases e
  · rw [if_neg a] at e; cases e
    have g0 : NHG M 0 (-1) s (s.1, s.2.1 + 1, s.2.2) := NHG.ct rfl rfl
    have g1 : NHG M (HG1 0) (CN1 0) (s.1, s.2.1 + 1, s.2.2) (s.1 + 1, s.2.1 + 1, APS M s.2.2 (0, 0)) := NHG.aps rfl rfl
    exact g0.tr g1 (by decide) (by decide)
theorem PHG.rnb (c : Nat → Int) : PHG M (RNB M c) := fun s t e => by
  unfold RNB at e
  by_cases a : 40 ≤ s.2.1
  · rw [if_pos a] at e; cases e
  · rw [if_neg a] at e
    have g0 : NHG M 0 (-1) s (s.1, s.2.1 + 1, s.2.2) := NHG.ct rfl rfl
    exact g0.tr (PHG.nub e) (by decide) (by decide)
theorem PHG.rov (c : Nat → Int) {S : PSt → Option PSt} (h : PHG M S) : PHG M (ROV M c S) := fun s t e => by
  unfold ROV at e
  by_cases a : 40 ≤ s.2.1
  · rw [if_pos a] at e; cases e
  · rw [if_neg a] at e
    obtain ⟨u1, e1, e⟩ := OB9.y e
    obtain ⟨u2, e2, e⟩ := OB9.y e
    obtain ⟨u3, e3, e⟩ := OB9.y e
    obtain ⟨u4, e4, e⟩ := OB9.y e
    have l0 : NHG M 0 (-1) s (s.1 + 1, s.2.1 + 1, s.2.2) := NHG.ct rfl rfl
    have l1 := h _ _ e1
    have l2 := PHG.tak (M := M) e2
    have l3 := h _ _ e3
    have l4 := PHG.tak (M := M) e4
    have l45 : NHG M 0 0 u4 (SKP c u4.1, u4.2) := NHG.rf rfl
    have l5 := PHG.nub e
    exact ((((((l0.tr l1 (f := 1) (g := -1) (by omega) (by omega)).tr l2 (f := 1) (g := -1) (by omega) (by omega)).tr l3 (f := 2) (g := -1) (by omega) (by omega)).tr l4 (f := 2) (g := -1) (by omega) (by omega)).tr l45 (f := 2) (g := -1) (by omega) (by omega)).tr l5 (by decide) (by decide))
theorem PHG.rpt (c : Nat → Int) : ∀ k, PHG M (RPT M c k)
  | 0 => fun s t e => by
    have g0 : NHG M 0 0 s (SKP c s.1, s.2) := NHG.rf rfl
    by_cases a : c (SKP c s.1) = 102
    · rw [RPT.l a] at e; exact g0.tr (PHG.rlt c _ _ e) (by omega) (by omega)
    · by_cases b : 48 ≤ c (SKP c s.1) ∧ c (SKP c s.1) ≤ 57
      · rw [RPT.d b] at e; exact g0.tr (PHG.rnb c _ _ e) (by omega) (by omega)
      · rw [RPT.z a b] at e; cases e
  | k + 1 => fun s t e => by
    have g0 : NHG M 0 0 s (SKP c s.1, s.2) := NHG.rf rfl
    have g9 : NHG M 0 0 s (SKP c s.1 + 1, s.2) := NHG.rf rfl
    by_cases a : c (SKP c s.1) = 102
    · rw [RPT.l a] at e; exact g0.tr (PHG.rlt c _ _ e) (by omega) (by omega)
    · by_cases b : 48 ≤ c (SKP c s.1) ∧ c (SKP c s.1) ≤ 57
      · rw [RPT.d b] at e; exact g0.tr (PHG.rnb c _ _ e) (by omega) (by omega)
      · by_cases p : c (SKP c s.1) = 40
        · rw [RPT.p p] at e
          obtain ⟨u, e1, e2⟩ := OB9.y e
          exact (g9.tr (PHG.rsu c (PHG.rpt c k) _ _ e1) (f := 1) (g := 0) (by omega) (by omega)).tr (PHG.tak e2) (by omega) (by omega)
        · by_cases q : c (SKP c s.1) = 91
          · rw [RPT.o q] at e
            exact g0.tr (PHG.rov c (PHG.rsu c (PHG.rpt c k)) _ _ e) (by omega) (by omega)
          · by_cases r : c (SKP c s.1) = 45
            · rw [RPT.m r] at e
              obtain ⟨u, e1, e2⟩ := OB9.y e
              have g := PHG.rpt c k (SKP c s.1 + 1, s.2) u e1
              cases e2
              have g2 : NHG M (HG1 5) (CN1 5) u (u.1, u.2.1, APS M u.2.2 (5, 0)) := NHG.aps rfl rfl
              exact (g9.tr g (f := 1) (g := 0) (by omega) (by omega)).tr g2 (by decide) (by decide)
            · rw [RPT.n a b p q r] at e; cases e
/-- what is told stands one high -/
theorem RDA.h1 {c : Nat → Int} {l : List (Int × Int)} (h : RDA 160 c = some l) : HLV l := by
  have hl := RDA.ln h
  obtain ⟨t, e1, e2⟩ : ∃ t, RSU 160 c (RPT 160 c 6) (0, 0, []) = some t ∧ (if c (SKP c t.1) = -1 then some t.2.2 else none) = some l := by
    unfold RDA at h
    cases e : RSU 160 c (RPT 160 c 6) (0, 0, []) with
    | none => rw [e] at h; cases h
    | some t => rw [e] at h; exact ⟨t, rfl, h⟩
  obtain ⟨-, g⟩ := PHG.rsu c (PHG.rpt c 6) _ _ e1
  obtain ⟨-, g4, -, -⟩ := PN9.rsu c (PN9.rpt c 6) _ _ e1 (Nat.zero_le _)
  by_cases a : c (SKP c t.1) = -1
  · rw [if_pos a] at e2; cases e2
    obtain ⟨k1, k2⟩ := g (by omega)
    have k1 : HGL t.2.2 = 0 + 1 := k1
    have k2 : CNL t.2.2 - (t.2.1 : Int) = 0 - ((0 : Nat) : Int) + 0 := k2
    exact ⟨by omega, by omega, PK8.rsu c (PK8.rpt c 6) _ _ e1 (fun x hx => nomatch hx)⟩
  · rw [if_neg a] at e2; cases e2
end Puh
end
-- 59.puo.lean.txt
section
/-! rank and weight: the class's reckoning and the reference's, on the signs alone -/
abbrev TSt := Nat × (Nat → Int)
def UPD (g : Nat → Int) (j : Nat) (v : Int) : Nat → Int := fun i => if i = j then v else g i
theorem UPD.s {g : Nat → Int} {j : Nat} {v : Int} : UPD g j v j = v := if_pos rfl
theorem UPD.k {g : Nat → Int} {i j : Nat} {v : Int} (h : i ≠ j) : UPD g j v i = g i := if_neg h
/-- one step, the class's: none where two totals differ -/
def TC1 (w : Int) (x : Int × Int) (s : TSt) : Option TSt :=
  if x.1 ≤ 1 then (if s.1 < 20 then some (s.1 + 1, UPD s.2 s.1 (if x.1 = 0 ∧ w = 0 then 1 else 0)) else none)
  else if x.1 = 5 then some s
  else if s.1 < 2 ∨ 20 < s.1 then none
  else if x.1 = 2 then (if s.2 (s.1 - 2) = s.2 (s.1 - 1) then some (s.1 - 1, s.2) else none)
  else some (s.1 - 1, UPD s.2 (s.1 - 2) (s.2 (s.1 - 2) + (s.2 (s.1 - 1) + (if x.1 = 4 ∧ w ≠ 0 then x.2 else 0))))
def TCL (w : Int) : List (Int × Int) → TSt → Option TSt
  | [], s => some s
  | x :: l, s => (TC1 w x s).bind (TCL w l)
def RKC : Option TSt → Int
  | none => -1
  | some s => if s.1 = 1 then s.2 0 else -1
/-- one step, the reference's: -1 where two differ -/
def TR1 (w : Int) (x : Int × Int) (s : TSt) : TSt :=
  if x.1 ≤ 1 then (s.1 + 1, UPD s.2 s.1 (if x.1 = 0 ∧ w = 0 then 1 else 0))
  else if x.1 = 5 then s
  else (s.1 - 1, UPD s.2 (s.1 - 2) (if s.2 (s.1 - 2) < 0 ∨ s.2 (s.1 - 1) < 0 ∨ (x.1 = 2 ∧ s.2 (s.1 - 2) ≠ s.2 (s.1 - 1)) then -1 else if x.1 = 2 then s.2 (s.1 - 2) else s.2 (s.1 - 2) + s.2 (s.1 - 1) + (if w ≠ 0 ∧ x.1 = 4 then x.2 else 0)))
def TRL (w : Int) : List (Int × Int) → TSt → TSt
  | [], s => s
  | x :: l, s => TRL w l (TR1 w x s)
/-- the heights of a row: enough stands there for every step -/
def HOK : List (Int × Int) → Int → Prop
  | [], h => h = 1
  | x :: l, h => 0 ≤ x.1 ∧ x.1 ≤ 5 ∧ 0 ≤ x.2 ∧ 0 ≤ h ∧ (x.1 ≤ 1 → h ≤ 19) ∧ (2 ≤ x.1 → x.1 ≤ 4 → 2 ≤ h ∧ h ≤ 20) ∧ HOK l (h + HG1 x.1)
/-- dead: some total is none -/
def DED (s : TSt) : Prop := ∃ j, j < s.1 ∧ s.2 j < 0
def GE1 (s : TSt) : Prop := ∀ j, j < s.1 → -1 ≤ s.2 j
theorem TR1.ge {w : Int} {x : Int × Int} {s : TSt} (h : GE1 s) (hx : 0 ≤ x.2) (h2 : 2 ≤ x.1 → x.1 ≤ 4 → 2 ≤ s.1) (h5 : x.1 ≤ 5) : GE1 (TR1 w x s) := by
  unfold TR1
  by_cases a : x.1 ≤ 1
  · rw [if_pos a]
    intro j hj
    have hj : j < s.1 + 1 := hj
    show -1 ≤ UPD s.2 s.1 _ j
    by_cases q : j = s.1
    · rw [q, UPD.s]; split <;> omega
    · rw [UPD.k q]; exact h j (by omega)
  · rw [if_neg a]
    by_cases b : x.1 = 5
    · rw [if_pos b]; exact h
    · rw [if_neg b]
      have n2 := h2 (by omega) (by omega)
      intro j hj
      have hj : j < s.1 - 1 := hj
      show -1 ≤ UPD s.2 (s.1 - 2) _ j
      have u1 := h (s.1 - 2) (by omega)
      have u2 := h (s.1 - 1) (by omega)
      by_cases q : j = s.1 - 2
      · rw [q, UPD.s]
        split
        · omega
        · split
          · omega
          · split <;> omega
      · rw [UPD.k q]; exact h j (by omega)
theorem TR1.ded {w : Int} {x : Int × Int} {s : TSt} (h : DED s) (h2 : 2 ≤ x.1 → x.1 ≤ 4 → 2 ≤ s.1) (h5 : x.1 ≤ 5) : DED (TR1 w x s) := by
  obtain ⟨j, hj, hn⟩ := h
  unfold TR1
  by_cases a : x.1 ≤ 1
  · rw [if_pos a]
    refine ⟨j, by show j < s.1 + 1; omega, ?_⟩
    show UPD s.2 s.1 _ j < 0
    rw [UPD.k (by omega)]; exact hn
  · rw [if_neg a]
    by_cases b : x.1 = 5
    · rw [if_pos b]; exact ⟨j, hj, hn⟩
    · rw [if_neg b]
      have n2 := h2 (by omega) (by omega)
      by_cases q : j < s.1 - 2
      · refine ⟨j, by show j < s.1 - 1; omega, ?_⟩
        show UPD s.2 (s.1 - 2) _ j < 0
        rw [UPD.k (by omega)]; exact hn
      · refine ⟨s.1 - 2, by show s.1 - 2 < s.1 - 1; omega, ?_⟩
        show UPD s.2 (s.1 - 2) _ (s.1 - 2) < 0
        have e : s.2 (s.1 - 2) < 0 ∨ s.2 (s.1 - 1) < 0 := by
          by_cases z : j = s.1 - 2
          · left; rw [← z]; exact hn
          · right; rw [show s.1 - 1 = j from by omega]; exact hn
        rw [UPD.s, if_pos (e.elim Or.inl (fun z => Or.inr (Or.inl z)))]
        decide
theorem TR1.h {w : Int} {x : Int × Int} {s : TSt} (h2 : 2 ≤ x.1 → x.1 ≤ 4 → 2 ≤ s.1) (h5 : x.1 ≤ 5) : ((TR1 w x s).1 : Int) = s.1 + HG1 x.1 := by
  unfold TR1 HG1
  by_cases a : x.1 ≤ 1
  · rw [if_pos a, if_pos a]; show ((s.1 + 1 : Nat) : Int) = _; omega
  · rw [if_neg a, if_neg a]
    by_cases b : x.1 = 5
    · rw [if_pos b, if_pos b]; omega
    · rw [if_neg b, if_neg b]
      have n2 := h2 (by omega) (by omega)
      show ((s.1 - 1 : Nat) : Int) = _; omega
theorem TRL.ded {w : Int} : ∀ (l : List (Int × Int)) (s : TSt) (h : Int), HOK l h → h = s.1 → GE1 s → DED s → (TRL w l s).2 0 = -1
  | [], s, h, k, e, g, d => by
    have k : h = 1 := k
    obtain ⟨j, hj, hn⟩ := d
    have z := g j hj
    have j0 : j = 0 := by omega
    subst j0
    show s.2 0 = -1
    omega
  | x :: l, s, h, k, e, g, d => by
    obtain ⟨k1, k2, k3, k4, k5, k6, k7⟩ := k
    have n2 : 2 ≤ x.1 → x.1 ≤ 4 → 2 ≤ s.1 := fun a b => by have := (k6 a b).1; omega
    exact TRL.ded l (TR1 w x s) (h + HG1 x.1) k7 (by rw [TR1.h n2 k2]; omega) (TR1.ge g k3 n2 k2) (TR1.ded d n2 k2)
/-- both reckonings stand alike -/
def LIK (s t : TSt) : Prop := s.1 = t.1 ∧ ∀ j, j < s.1 → 0 ≤ s.2 j ∧ t.2 j = s.2 j
theorem TC1.eq {w : Int} {x : Int × Int} {s t : TSt} (h : LIK s t) (hx : 0 ≤ x.2) (h1 : x.1 ≤ 1 → s.1 < 20) (h2 : 2 ≤ x.1 → x.1 ≤ 4 → 2 ≤ s.1 ∧ s.1 ≤ 20) (h5 : x.1 ≤ 5) : (∃ u, TC1 w x s = some u ∧ LIK u (TR1 w x t)) ∨ (TC1 w x s = none ∧ DED (TR1 w x t) ∧ GE1 (TR1 w x t)) := by
  obtain ⟨e, h⟩ := h
  have gt : GE1 t := fun j hj => by have := h j (by omega); omega
  have ge := TR1.ge (w := w) gt hx (fun a b => by have := (h2 a b).1; omega) h5
  unfold TC1
  by_cases a : x.1 ≤ 1
  · rw [if_pos a, if_pos (h1 a)]
    refine Or.inl ⟨_, rfl, ?_⟩
    unfold TR1
    rw [if_pos a]
    refine ⟨by show s.1 + 1 = t.1 + 1; omega, fun j hj => ?_⟩
    have hj : j < s.1 + 1 := hj
    show 0 ≤ UPD s.2 s.1 _ j ∧ UPD t.2 t.1 _ j = UPD s.2 s.1 _ j
    by_cases q : j = s.1
    · rw [← e, q, UPD.s, UPD.s]
      refine ⟨?_, rfl⟩
      split <;> omega
    · rw [UPD.k q, UPD.k (by omega)]; exact h j (by omega)
  · rw [if_neg a]
    by_cases b : x.1 = 5
    · rw [if_pos b]
      refine Or.inl ⟨_, rfl, ?_⟩
      unfold TR1
      rw [if_neg a, if_pos b]; exact ⟨e, h⟩
    · obtain ⟨n2, n4⟩ := h2 (by omega) (by omega)
      rw [if_neg b, if_neg (by omega)]
      obtain ⟨u1, u2⟩ := h (s.1 - 2) (by omega)
      obtain ⟨v1, v2⟩ := h (s.1 - 1) (by omega)
      have tr : TR1 w x t = (t.1 - 1, UPD t.2 (t.1 - 2) (if t.2 (t.1 - 2) < 0 ∨ t.2 (t.1 - 1) < 0 ∨ (x.1 = 2 ∧ t.2 (t.1 - 2) ≠ t.2 (t.1 - 1)) then -1 else if x.1 = 2 then t.2 (t.1 - 2) else t.2 (t.1 - 2) + t.2 (t.1 - 1) + (if w ≠ 0 ∧ x.1 = 4 then x.2 else 0))) := by
        unfold TR1; rw [if_neg a, if_neg b]
      rw [← e] at tr
      rw [u2, v2] at tr
      by_cases c : x.1 = 2
      · rw [if_pos c]
        by_cases d : s.2 (s.1 - 2) = s.2 (s.1 - 1)
        · rw [if_pos d]
          refine Or.inl ⟨_, rfl, ?_⟩
          rw [tr, if_neg (by omega), if_pos c]
          refine ⟨rfl, fun j hj => ?_⟩
          have hj : j < s.1 - 1 := hj
          show 0 ≤ s.2 j ∧ UPD t.2 (s.1 - 2) _ j = s.2 j
          by_cases q : j = s.1 - 2
          · rw [q, UPD.s]; exact ⟨u1, rfl⟩
          · rw [UPD.k q]; exact h j (by omega)
        · rw [if_neg d]
          refine Or.inr ⟨rfl, ⟨s.1 - 2, ?_, ?_⟩, ge⟩
          · rw [tr]; show s.1 - 2 < s.1 - 1; omega
          · rw [tr, if_pos (Or.inr (Or.inr ⟨c, d⟩))]
            show UPD t.2 (s.1 - 2) (-1) (s.1 - 2) < 0
            rw [UPD.s]; decide
      · rw [if_neg c]
        rw [if_neg (by omega), if_neg c] at tr
        refine Or.inl ⟨_, rfl, ?_⟩
        rw [tr]
        refine ⟨rfl, fun j hj => ?_⟩
        have hj : j < s.1 - 1 := hj
        show 0 ≤ UPD s.2 (s.1 - 2) _ j ∧ UPD t.2 (s.1 - 2) _ j = UPD s.2 (s.1 - 2) _ j
        by_cases q : j = s.1 - 2
        · rw [q, UPD.s, UPD.s]
          by_cases z : x.1 = 4 ∧ w ≠ 0
          · rw [if_pos z, if_pos ⟨z.2, z.1⟩]; exact ⟨by omega, by omega⟩
          · rw [if_neg z, if_neg (fun q => z ⟨q.2, q.1⟩)]; exact ⟨by omega, by omega⟩
        · rw [UPD.k q, UPD.k q]; exact h j (by omega)
theorem TCL.eq {w : Int} : ∀ (l : List (Int × Int)) (s t : TSt) (h : Int), HOK l h → h = s.1 → LIK s t → RKC (TCL w l s) = (TRL w l t).2 0
  | [], s, t, h, k, e, g => by
    have k : h = 1 := k
    show (if s.1 = 1 then s.2 0 else -1) = t.2 0
    rw [if_pos (by omega)]
    exact (g.2 0 (by omega)).2.symm
  | x :: l, s, t, h, k, e, g => by
    obtain ⟨k1, k2, k3, k4, k5, k6, k7⟩ := k
    have q := TC1.eq (w := w) g k3 (fun a => by have := k5 a; omega) (fun a b => by have := k6 a b; omega) k2
    have n2 : 2 ≤ x.1 → x.1 ≤ 4 → 2 ≤ t.1 := fun a b => by have := (k6 a b).1; have := g.1; omega
    have ht := TR1.h (w := w) (s := t) n2 k2
    show RKC ((TC1 w x s).bind (TCL w l)) = (TRL w l (TR1 w x t)).2 0
    rcases q with ⟨u, q1, q2⟩ | ⟨q1, q2, q3⟩
    · rw [q1]
      show RKC (TCL w l u) = _
      exact TCL.eq l u (TR1 w x t) (h + HG1 x.1) k7 (by have := q2.1; have := g.1; omega) q2
    · rw [q1]
      show (-1 : Int) = _
      exact (TRL.ded l (TR1 w x t) (h + HG1 x.1) k7 (by have := g.1; omega) q3 q2).symm
theorem HG1.b (k : Int) : (k ≤ 1 → HG1 k = 1 ∧ CN1 k = 1) ∧ (k = 5 → HG1 k = 0 ∧ CN1 k = 0) ∧ (1 < k → k ≠ 5 → HG1 k = -1 ∧ CN1 k = 1) := by
  unfold HG1 CN1
  refine ⟨fun h => ?_, fun h => ?_, fun h h5 => ?_⟩
  · rw [if_pos h, if_neg (by omega)]; exact ⟨rfl, rfl⟩
  · rw [if_neg (by omega), if_pos h, if_pos h]; exact ⟨rfl, rfl⟩
  · rw [if_neg (by omega), if_neg h5, if_neg h5]; exact ⟨rfl, rfl⟩
theorem CNL.ab : ∀ l : List (Int × Int), HGL l ≤ CNL l ∧ -HGL l ≤ CNL l
  | [] => ⟨by decide, by decide⟩
  | x :: l => by
    have h := CNL.ab l
    obtain ⟨a, b, c⟩ := HG1.b x.1
    have e1 : HGL (x :: l) = HG1 x.1 + HGL l := rfl
    have e2 : CNL (x :: l) = CN1 x.1 + CNL l := rfl
    omega
/-- heights told place by place -/
theorem HOK.ix : ∀ (l : List (Int × Int)) (H : Nat → Int) (C : Int), (∀ j (hj : j < l.length), H (j + 1) = H j + HG1 l[j].1) → (∀ j (hj : j < l.length), 0 ≤ l[j].1 ∧ l[j].1 ≤ 5 ∧ 0 ≤ l[j].2 ∧ 0 ≤ H j ∧ (2 ≤ l[j].1 → l[j].1 ≤ 4 → 2 ≤ H j)) → H 0 ≤ C → C + CNL l ≤ 40 → H 0 + HGL l = 1 → HOK l (H 0)
  | [], H, C, _, _, _, _, h => by
    have h : H 0 + 0 = 1 := h
    show H 0 = 1; omega
  | x :: l, H, C, hs, ok, hC, hc, h => by
    obtain ⟨k1, k2, k3, k4, k5⟩ := ok 0 (Nat.succ_pos _)
    have s0 := hs 0 (Nat.succ_pos _)
    have k1 : 0 ≤ x.1 := k1
    have k2 : x.1 ≤ 5 := k2
    have k3 : 0 ≤ x.2 := k3
    have k5 : 2 ≤ x.1 → x.1 ≤ 4 → 2 ≤ H 0 := k5
    have s0 : H (0 + 1) = H 0 + HG1 x.1 := s0
    have h : H 0 + (HG1 x.1 + HGL l) = 1 := h
    have hc : C + (CN1 x.1 + CNL l) ≤ 40 := hc
    obtain ⟨a, b, c⟩ := HG1.b x.1
    obtain ⟨u1, u2⟩ := CNL.ab l
    have r := HOK.ix l (fun j => H (j + 1)) (C + CN1 x.1) (fun j hj => hs (j + 1) (Nat.succ_lt_succ hj)) (fun j hj => ok (j + 1) (Nat.succ_lt_succ hj)) (by show H (0 + 1) ≤ _; omega) (by omega) (by show H (0 + 1) + _ = _; omega)
    have r : HOK l (H (0 + 1)) := r
    rw [s0] at r
    exact ⟨k1, k2, k3, k4, fun z => by omega, fun z1 z2 => ⟨k5 z1 z2, by omega⟩, r⟩
end
-- 59.pure.lean.txt
section
/-! forms mixed, as numbers: a form's numbers f 0 .. f n (behind x^n .. y^n), mixed by Horner (PmX); two tables behind one another; the reference's sums -/
def PmW (u v : Int) (f : Nat → Int) (k : Nat) : Int := u * f k + v * (if k = 0 then 0 else f (k - 1))
def PmD (k : Nat) : Int := if k = 0 then 1 else 0
def PmN (u v : Int) : Nat → (Nat → Int) → Nat → Int
  | 0, f => f
  | n + 1, f => PmW u v (PmN u v n f)
def PmL (x : Int) (f : Nat → Int) (y : Int) (g : Nat → Int) (k : Nat) : Int := x * f k + y * g k
def PmX (a b c d : Int) (f : Nat → Int) : Nat → Nat → Int
  | 0 => fun k => f 0 * PmD k
  | n + 1 => PmL 1 (PmW a b (PmX a b c d f n)) (f (n + 1)) (PmN c d (n + 1) PmD)
theorem PmW.lin (u v x y : Int) (f g : Nat → Int) : PmW u v (PmL x f y g) = PmL x (PmW u v f) y (PmW u v g) := by
  funext k
  unfold PmW PmL
  by_cases h : k = 0
  · simp only [if_pos h]; grind
  · simp only [if_neg h]; grind
theorem PmW.com (u v s t : Int) (f : Nat → Int) : PmW u v (PmW s t f) = PmW s t (PmW u v f) := by
  funext k
  unfold PmW
  by_cases h : k = 0
  · simp only [if_pos h]; grind
  · simp only [if_neg h]
    by_cases h1 : k - 1 = 0
    · simp only [if_pos h1]; grind
    · simp only [if_neg h1]; grind
theorem PmN.comW (u v s t : Int) (f : Nat → Int) : ∀ n, PmN u v n (PmW s t f) = PmW s t (PmN u v n f)
  | 0 => rfl
  | n + 1 => by show PmW u v (PmN u v n (PmW s t f)) = PmW s t (PmW u v (PmN u v n f)); rw [PmN.comW, PmW.com]
theorem PmN.com (u v s t : Int) (f : Nat → Int) : ∀ n m, PmN u v n (PmN s t m f) = PmN s t m (PmN u v n f)
  | n, 0 => rfl
  | n, m + 1 => by show PmN u v n (PmW s t (PmN s t m f)) = PmW s t (PmN s t m (PmN u v n f)); rw [PmN.comW, PmN.com]
theorem PmN.lin (u v x y : Int) (f g : Nat → Int) : ∀ n, PmN u v n (PmL x f y g) = PmL x (PmN u v n f) y (PmN u v n g)
  | 0 => rfl
  | n + 1 => by show PmW u v (PmN u v n (PmL x f y g)) = _; rw [PmN.lin, PmW.lin]; rfl
theorem PmX.lin (a b c d x y : Int) (f g : Nat → Int) : ∀ n, PmX a b c d (PmL x f y g) n = PmL x (PmX a b c d f n) y (PmX a b c d g n)
  | 0 => by funext k; show (PmL x f y g 0) * PmD k = x * (f 0 * PmD k) + y * (g 0 * PmD k); unfold PmL; grind
  | n + 1 => by
    show PmL 1 (PmW a b (PmX a b c d (PmL x f y g) n)) (PmL x f y g (n + 1)) (PmN c d (n + 1) PmD) = PmL x (PmL 1 (PmW a b (PmX a b c d f n)) (f (n + 1)) (PmN c d (n + 1) PmD)) y (PmL 1 (PmW a b (PmX a b c d g n)) (g (n + 1)) (PmN c d (n + 1) PmD))
    rw [PmX.lin, PmW.lin]
    funext k
    unfold PmL
    grind
def PmS (f : Nat → Int) (n : Nat) : Prop := ∀ k, n < k → f k = 0
theorem PmS.w {f : Nat → Int} {n : Nat} {u v : Int} (h : PmS f n) : PmS (PmW u v f) (n + 1) := fun k hk => by
  unfold PmW
  rw [h k (by omega), if_neg (by omega), h (k - 1) (by omega)]
  simp
theorem PmS.d : PmS PmD 0 := fun k hk => if_neg (by omega)
theorem PmS.n {f : Nat → Int} {D : Nat} {u v : Int} (h : PmS f D) : ∀ n, PmS (PmN u v n f) (D + n)
  | 0 => h
  | n + 1 => (PmS.n h n).w
theorem PmS.x (a b c d : Int) (f : Nat → Int) : ∀ n, PmS (PmX a b c d f n) n
  | 0 => fun k hk => by show f 0 * PmD k = 0; rw [PmS.d k hk]; simp
  | n + 1 => fun k hk => by
    show 1 * PmW a b (PmX a b c d f n) k + f (n + 1) * PmN c d (n + 1) PmD k = 0
    rw [(PmS.x a b c d f n).w k hk, (PmS.n (u := c) (v := d) PmS.d (n + 1)) k (by omega)]
    simp
/-- a line ahead of what is mixed -/
theorem PmX.w (a b c d u v : Int) (g : Nat → Int) : ∀ n, PmX a b c d (PmW u v g) (n + 1) = PmL 1 (PmL u (PmW a b (PmX a b c d g n)) v (PmW c d (PmX a b c d g n))) (u * g (n + 1)) (PmN c d (n + 1) PmD)
  | 0 => by
    funext k
    show 1 * PmW a b (fun k => PmW u v g 0 * PmD k) k + PmW u v g 1 * PmW c d PmD k = 1 * (u * PmW a b (fun k => g 0 * PmD k) k + v * PmW c d (fun k => g 0 * PmD k) k) + u * g 1 * PmW c d PmD k
    unfold PmW
    by_cases h : k = 0
    · simp only [if_pos h, if_pos, if_neg (show ¬ (1 : Nat) = 0 from by omega), Nat.sub_self]; grind
    · simp only [if_neg h, if_pos, if_neg (show ¬ (1 : Nat) = 0 from by omega), Nat.sub_self]; grind
  | n + 1 => by
    show PmL 1 (PmW a b (PmX a b c d (PmW u v g) (n + 1))) (PmW u v g (n + 2)) (PmN c d (n + 2) PmD) = PmL 1 (PmL u (PmW a b (PmL 1 (PmW a b (PmX a b c d g n)) (g (n + 1)) (PmN c d (n + 1) PmD))) v (PmW c d (PmL 1 (PmW a b (PmX a b c d g n)) (g (n + 1)) (PmN c d (n + 1) PmD)))) (u * g (n + 2)) (PmN c d (n + 2) PmD)
    rw [PmX.w a b c d u v g n]
    simp only [PmW.lin]
    rw [PmW.com c d a b (PmX a b c d g n)]
    have e : PmN c d (n + 2) PmD = PmW c d (PmN c d (n + 1) PmD) := rfl
    have e2 : PmW u v g (n + 2) = u * g (n + 2) + v * g (n + 1) := by unfold PmW; rw [if_neg (by omega)]; rfl
    rw [e, e2]
    funext k
    unfold PmL
    grind
theorem PmW.row (a b c d u v : Int) (f : Nat → Int) : PmL u (PmW a b f) v (PmW c d f) = PmW (u * a + v * c) (u * b + v * d) f := by
  funext k
  unfold PmL PmW
  grind
theorem PmX.w0 (a b c d u v : Int) {g : Nat → Int} {n : Nat} (h : g (n + 1) = 0) : PmX a b c d (PmW u v g) (n + 1) = PmW (u * a + v * c) (u * b + v * d) (PmX a b c d g n) := by
  rw [PmX.w, PmW.row, h]
  funext k
  unfold PmL
  grind
theorem PmX.r (a b c d u v : Int) : ∀ n, PmX a b c d (PmN u v n PmD) n = PmN (u * a + v * c) (u * b + v * d) n PmD
  | 0 => by funext k; show PmD 0 * PmD k = PmD k; show (1 : Int) * _ = _; simp
  | n + 1 => by
    show PmX a b c d (PmW u v (PmN u v n PmD)) (n + 1) = PmW (u * a + v * c) (u * b + v * d) (PmN (u * a + v * c) (u * b + v * d) n PmD)
    rw [PmX.w0 a b c d u v ((PmS.n (u := u) (v := v) PmS.d n) (n + 1) (by omega)), PmX.r a b c d u v n]
/-- mixed by s t u v, then by a b c d: mixed by what these are put one into the other -/
theorem PmX.x (a b c d s t u v : Int) (f : Nat → Int) : ∀ n, PmX a b c d (PmX s t u v f n) n = PmX (s * a + t * c) (s * b + t * d) (u * a + v * c) (u * b + v * d) f n
  | 0 => by funext k; show (f 0 * PmD 0) * PmD k = f 0 * PmD k; show f 0 * 1 * _ = _; simp
  | n + 1 => by
    show PmX a b c d (PmL 1 (PmW s t (PmX s t u v f n)) (f (n + 1)) (PmN u v (n + 1) PmD)) (n + 1) = PmL 1 (PmW (s * a + t * c) (s * b + t * d) (PmX (s * a + t * c) (s * b + t * d) (u * a + v * c) (u * b + v * d) f n)) (f (n + 1)) (PmN (u * a + v * c) (u * b + v * d) (n + 1) PmD)
    rw [PmX.lin, PmX.w0 a b c d s t ((PmS.x s t u v f n) (n + 1) (by omega)), PmX.x a b c d s t u v f n, PmX.r]
theorem PmN.i : ∀ n k, PmN 0 1 n PmD k = if k = n then 1 else 0
  | 0, k => rfl
  | n + 1, k => by
    show 0 * PmN 0 1 n PmD k + 1 * (if k = 0 then 0 else PmN 0 1 n PmD (k - 1)) = _
    by_cases h : k = 0
    · rw [if_pos h, if_neg (by omega)]; simp
    · rw [if_neg h, PmN.i n (k - 1)]
      by_cases g : k = n + 1
      · rw [if_pos g, if_pos (by omega)]; simp
      · rw [if_neg g, if_neg (by omega)]; simp
theorem PmX.i (f : Nat → Int) : ∀ n k, PmX 1 0 0 1 f n k = if k ≤ n then f k else 0
  | 0, k => by
    show f 0 * PmD k = _
    unfold PmD
    by_cases h : k = 0
    · subst h; simp
    · rw [if_neg h, if_neg (by omega)]; simp
  | n + 1, k => by
    show 1 * (1 * PmX 1 0 0 1 f n k + 0 * _) + f (n + 1) * PmN 0 1 (n + 1) PmD k = _
    rw [PmX.i f n k, PmN.i]
    by_cases h : k ≤ n
    · rw [if_pos h, if_neg (show ¬ k = n + 1 from by omega), if_pos (show k ≤ n + 1 from by omega)]; simp
    · rw [if_neg h]
      by_cases g : k = n + 1
      · subst g; rw [if_pos rfl, if_pos (Nat.le_refl _)]; simp
      · rw [if_neg g, if_neg (show ¬ k ≤ n + 1 from by omega)]; simp
/-- modulo p -/
def PmE (p x y : Int) : Prop := x % p = y % p
theorem PmE.rf {p x : Int} : PmE p x x := rfl
theorem PmE.sy {p x y : Int} (h : PmE p x y) : PmE p y x := Eq.symm h
theorem PmE.tr {p x y z : Int} (h : PmE p x y) (g : PmE p y z) : PmE p x z := Eq.trans h g
theorem PmE.ad {p x y z w : Int} (h : PmE p x y) (g : PmE p z w) : PmE p (x + z) (y + w) := by unfold PmE at *; rw [Int.add_emod, h, g, ← Int.add_emod]
theorem PmE.ml {p x y z w : Int} (h : PmE p x y) (g : PmE p z w) : PmE p (x * z) (y * w) := by unfold PmE at *; rw [Int.mul_emod, h, g, ← Int.mul_emod]
theorem PmE.tm {p : Int} (x : Int) : PmE p (x.tmod p) x := by
  unfold PmE
  rw [Int.tmod_def, Int.sub_emod, Int.mul_emod_right]
  simp
theorem PmE.em {p : Int} (x : Int) : PmE p (x % p) x := Int.emod_emod_of_dvd x (Int.dvd_refl p)
theorem PmE.eq {p x y : Int} (h : PmE p x y) (h1 : 0 ≤ x) (h2 : x < p) (h3 : 0 ≤ y) (h4 : y < p) : x = y := by
  unfold PmE at h
  rwa [Int.emod_eq_of_lt h1 h2, Int.emod_eq_of_lt h3 h4] at h
theorem PmW.e {p u v u' v' : Int} {f g : Nat → Int} (hu : PmE p u u') (hv : PmE p v v') {k : Nat} (h : PmE p (f k) (g k)) (h1 : k ≠ 0 → PmE p (f (k - 1)) (g (k - 1))) : PmE p (PmW u v f k) (PmW u' v' g k) := by
  unfold PmW
  refine (hu.ml h).ad (hv.ml ?_)
  by_cases q : k = 0
  · rw [if_pos q, if_pos q]; exact PmE.rf
  · rw [if_neg q, if_neg q]; exact h1 q
theorem PmN.e {p u v u' v' : Int} {f g : Nat → Int} (hu : PmE p u u') (hv : PmE p v v') (h : ∀ k, PmE p (f k) (g k)) : ∀ n k, PmE p (PmN u v n f k) (PmN u' v' n g k)
  | 0, k => h k
  | n + 1, k => PmW.e hu hv (PmN.e hu hv h n k) (fun _ => PmN.e hu hv h n (k - 1))
theorem PmX.e {p a b c d a' b' c' d' : Int} {f g : Nat → Int} (ha : PmE p a a') (hb : PmE p b b') (hc : PmE p c c') (hd : PmE p d d') : ∀ n, (∀ k, k ≤ n → PmE p (f k) (g k)) → ∀ k, PmE p (PmX a b c d f n k) (PmX a' b' c' d' g n k)
  | 0, h, k => (h 0 (by omega)).ml PmE.rf
  | n + 1, h, k => by
    show PmE p (1 * PmW a b (PmX a b c d f n) k + f (n + 1) * PmN c d (n + 1) PmD k) (1 * PmW a' b' (PmX a' b' c' d' g n) k + g (n + 1) * PmN c' d' (n + 1) PmD k)
    have ih := PmX.e ha hb hc hd n (fun j hj => h j (by omega))
    exact (PmE.rf.ml (PmW.e ha hb (ih k) (fun _ => ih (k - 1)))).ad ((h (n + 1) (by omega)).ml (PmN.e hc hd (fun _ => PmE.rf) (n + 1) k))
/-- mixed, and mixed by the table turned: what it was -/
theorem PmX.back {p a b c d s t u v : Int} {f g : Nat → Int} {n : Nat} (h1 : PmE p (s * a + t * c) 1) (h2 : PmE p (s * b + t * d) 0) (h3 : PmE p (u * a + v * c) 0) (h4 : PmE p (u * b + v * d) 1) (hg : ∀ k, k ≤ n → PmE p (g k) (PmX s t u v f n k)) {k : Nat} (hk : k ≤ n) : PmE p (PmX a b c d g n k) (f k) := by
  have e1 := PmX.e (p := p) (a := a) (b := b) (c := c) (d := d) PmE.rf PmE.rf PmE.rf PmE.rf n hg k
  have e2 := PmX.x a b c d s t u v f n
  rw [e2] at e1
  have e3 := PmX.e h1 h2 h3 h4 n (fun j _ => (PmE.rf : PmE p (f j) (f j))) k
  rw [PmX.i, if_pos hk] at e3
  exact e1.tr e3
/-- the same as a sum, as the reference adds it -/
def PmA (a b c d : Int) (f : Nat → Int) (D : Nat) : Nat → Nat → Int
  | 0, _ => 0
  | m + 1, i => PmA a b c d f D m i + f m * PmN c d m (PmN a b (D - m) PmD) i
theorem PmA.w (a b c d : Int) (f : Nat → Int) (D : Nat) : ∀ m, m ≤ D + 1 → PmA a b c d f (D + 1) m = PmW a b (PmA a b c d f D m)
  | 0, _ => by funext k; show 0 = a * 0 + b * (if k = 0 then 0 else 0); simp
  | m + 1, h => by
    have e1 : D + 1 - m = D - m + 1 := by omega
    have e2 : PmA a b c d f D (m + 1) = PmL 1 (PmA a b c d f D m) (f m) (PmN c d m (PmN a b (D - m) PmD)) := by funext k; unfold PmL; show PmA a b c d f D m k + f m * _ = 1 * _ + _; rw [Int.one_mul]
    rw [e2, PmW.lin, ← PmA.w a b c d f D m (by omega), ← PmN.comW]
    funext k
    show PmA a b c d f (D + 1) m k + f m * PmN c d m (PmN a b (D + 1 - m) PmD) k = 1 * _ + _
    rw [e1, Int.one_mul]; rfl
theorem PmA.x (a b c d : Int) (f : Nat → Int) : ∀ D, PmA a b c d f D (D + 1) = PmX a b c d f D
  | 0 => by funext k; show 0 + f 0 * PmD k = f 0 * PmD k; rw [Int.zero_add]
  | D + 1 => by
    funext k
    show PmA a b c d f (D + 1) (D + 1) k + f (D + 1) * PmN c d (D + 1) (PmN a b (D + 1 - (D + 1)) PmD) k = 1 * PmW a b (PmX a b c d f D) k + f (D + 1) * PmN c d (D + 1) PmD k
    rw [PmA.w a b c d f D (D + 1) (by omega), PmA.x a b c d f D, Nat.sub_self, Int.one_mul]; rfl
theorem wdF.e {p u v : Int} {f g : Nat → Int} {k : Nat} (h : PmE p (f k) (g k)) (h1 : k ≠ 0 → PmE p (f (k - 1)) (g (k - 1))) : PmE p (wdF p u v f k) (PmW u v g k) := by
  unfold wdF PmW
  refine (PmE.tm _).tr (PmE.ad ((PmE.tm _).tr ?_) ?_)
  · rw [Int.mul_comm]; exact PmE.rf.ml h
  · by_cases q : k = 0
    · rw [if_pos q, if_pos q, Int.mul_zero]; exact PmE.rf
    · rw [if_neg q, if_neg q]
      refine (PmE.tm _).tr ?_
      rw [Int.mul_comm]; exact PmE.rf.ml (h1 q)
theorem wdN.e {p u v : Int} {f g : Nat → Int} {D : Nat} (h : ∀ k, PmE p (ctF D f k) (g k)) (hg : PmS g D) : ∀ n k, PmE p (ctF ((D + n : Nat) : Int) (wdN p u v n D f) k) (PmN u v n g k)
  | 0, k => h k
  | n + 1, k => by
    have ih := wdN.e (u := u) (v := v) h hg n
    unfold ctF
    by_cases q : (k : Int) ≤ ((D + (n + 1) : Nat) : Int)
    · rw [if_pos q]
      exact wdF.e (ih k) (fun _ => ih (k - 1))
    · rw [if_neg q, (PmS.n (u := u) (v := v) hg (n + 1)) k (by omega)]; exact PmE.rf
theorem PmN.sc (u v x : Int) (f : Nat → Int) : ∀ n k, PmN u v n (fun j => x * f j) k = x * PmN u v n f k
  | 0, k => rfl
  | n + 1, k => by
    show u * PmN u v n (fun j => x * f j) k + v * (if k = 0 then 0 else PmN u v n (fun j => x * f j) (k - 1)) = x * (u * PmN u v n f k + v * (if k = 0 then 0 else PmN u v n f (k - 1)))
    rw [PmN.sc u v x f n k, PmN.sc u v x f n (k - 1)]
    by_cases h : k = 0
    · rw [if_pos h, if_pos h]; grind
    · rw [if_neg h, if_neg h]; grind
theorem mxG.e {p a b c d : Int} {D : Nat} {f : Nat → Int} {k i : Nat} (hk : k ≤ D) (hi : i ≤ D) : PmE p (mxG p a b c d D f k i) (f k * PmN c d k (PmN a b (D - k) PmD) i) := by
  unfold mxG
  have e0 : ∀ j, PmE p (ctF ((0 : Nat) : Int) (fun _ => f k) j) ((fun j => f k * PmD j) j) := fun j => by
    show PmE p (ctF ((0 : Nat) : Int) (fun _ => f k) j) (f k * PmD j)
    unfold ctF PmD
    by_cases q : j = 0
    · subst q; simp; exact PmE.rf
    · rw [if_neg (by omega), if_neg q, Int.mul_zero]; exact PmE.rf
  have s0 : PmS (fun j => f k * PmD j) 0 := fun j hj => by show f k * PmD j = 0; rw [PmS.d j hj, Int.mul_zero]
  have e1 := wdN.e (p := p) (u := a) (v := b) e0 s0 (D - k)
  have e2 := wdN.e (p := p) (u := c) (v := d) (D := D - k) (g := PmN a b (D - k) (fun j => f k * PmD j)) (f := wdN p a b (D - k) 0 (fun _ => f k)) (fun j => by have := e1 j; rwa [Nat.zero_add] at this) (by have := PmS.n (u := a) (v := b) s0 (D - k); rwa [Nat.zero_add] at this) k i
  rw [show D - k + k = D from by omega] at e2
  have e3 : ctF ((D : Nat) : Int) (wdN p c d k (D - k) (wdN p a b (D - k) 0 (fun _ => f k))) i = wdN p c d k (D - k) (wdN p a b (D - k) 0 (fun _ => f k)) i := if_pos (by omega)
  rw [e3] at e2
  have e4 : PmN a b (D - k) (fun j => f k * PmD j) = fun j => f k * PmN a b (D - k) PmD j := funext fun j => PmN.sc a b (f k) PmD (D - k) j
  rw [e4, PmN.sc] at e2
  exact e2
theorem mxS.e {p a b c d : Int} {D : Nat} {f : Nat → Int} {i : Nat} (hi : i ≤ D) : ∀ m, m ≤ D + 1 → PmE p (mxS p a b c d D f m i) (PmA a b c d f D m i)
  | 0, _ => PmE.rf
  | m + 1, h => by
    rw [mxS.s]
    exact (PmE.tm _).tr ((mxS.e hi m (by omega)).ad (mxG.e (by omega) hi))
theorem mxS.x {p a b c d : Int} {D : Nat} {f : Nat → Int} {i : Nat} (hi : i ≤ D) : PmE p (mxS p a b c d D f (D + 1) i) (PmX a b c d f D i) := by
  have h := mxS.e (p := p) (a := a) (b := b) (c := c) (d := d) (f := f) hi (D + 1) (by omega)
  rwa [PmA.x] at h
/-- the reference's sums are never below 0 -/
theorem wdF.p {p u v : Int} {f : Nat → Int} {k : Nat} (hp : 0 < p) (hu : 0 ≤ u) (hv : 0 ≤ v) (h : ∀ k, 0 ≤ f k) : 0 ≤ wdF p u v f k := by
  unfold wdF
  refine Int.tmod_nonneg _ (Int.add_nonneg (Int.tmod_nonneg _ (Int.mul_nonneg (h k) hu)) ?_)
  by_cases q : k = 0
  · rw [if_pos q]; exact Int.le_refl 0
  · rw [if_neg q]; exact Int.tmod_nonneg _ (Int.mul_nonneg (h _) hv)
theorem ctF.p {D : Int} {f : Nat → Int} (h : ∀ k, 0 ≤ f k) (k : Nat) : 0 ≤ ctF D f k := by
  unfold ctF
  by_cases q : (k : Int) ≤ D
  · rw [if_pos q]; exact h k
  · rw [if_neg q]; exact Int.le_refl 0
theorem wdN.p {p u v : Int} {f : Nat → Int} {D : Nat} (hp : 0 < p) (hu : 0 ≤ u) (hv : 0 ≤ v) (h : ∀ k, 0 ≤ f k) : ∀ n k, 0 ≤ wdN p u v n D f k
  | 0, k => h k
  | n + 1, k => wdF.p hp hu hv (ctF.p (wdN.p hp hu hv h n))
theorem mxS.p {p a b c d : Int} {D : Nat} {f : Nat → Int} (hp : 0 < p) (ha : 0 ≤ a) (hb : 0 ≤ b) (hc : 0 ≤ c) (hd : 0 ≤ d) {i : Nat} : ∀ m, (∀ k, k < m → 0 ≤ f k) → 0 ≤ mxS p a b c d D f m i
  | 0, _ => Int.le_refl 0
  | m + 1, h => by
    rw [mxS.s]
    exact Int.tmod_nonneg _ (Int.add_nonneg (mxS.p hp ha hb hc hd m (fun k hk => h k (by omega))) (wdN.p hp hc hd (wdN.p hp ha hb (fun _ => h m (by omega)) _) _ _))
end
