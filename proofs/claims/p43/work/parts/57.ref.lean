/-! the reference: what is told, exactly -/
def dtR (p a b c d : Int) : Int := (((a % p) * (d % p)).tmod p - ((b % p) * (c % p)).tmod p + p).tmod p
theorem DTN.r {x a b c d p u v w z : Int} (h : DTN x a b c d p) (ha : a = u % p) (hb : b = v % p) (hc : c = w % p) (hd : d = z % p) : x = dtR p u v w z := by
  subst ha; subst hb; subst hc; subst hd; exact h
def CPA (I9 I : IT) (b a : Nat) : Prop := ∀ r, r < 3606 → I9 b r = I a r
theorem CPA.of {I9 I : IT} {b a : Nat} {n : Int} (h : CPW I9 a b n) (hn : 3606 ≤ n) (e : I9 a = I a) : CPA I9 I b a := fun r hr => by rw [h r (by omega), e]
theorem CPA.rf {I9 I : IT} {a : Nat} (e : I9 a = I a) : CPA I9 I a a := fun r _ => by rw [e]
