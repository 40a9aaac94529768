/-! rows of the reference as facts, not as whole memories: what a row holds (Rw), what stays (Rs) -/
def Rs (nu dg : Nat) (S : Nat → Prop) (I I' : IT) : Prop := (∀ a, a ≠ nu → a ≠ dg → I' a = I a) ∧ (∀ r, r < 48 → ¬ S r → I' dg r = I dg r) ∧ (∀ r k, r < 48 → k < 41 → ¬ S r → I' nu (41 * r + k) = I nu (41 * r + k))
theorem Rs.rf {nu dg : Nat} {S : Nat → Prop} {I : IT} : Rs nu dg S I I := ⟨fun _ _ _ => rfl, fun _ _ _ => rfl, fun _ _ _ _ _ => rfl⟩
theorem Rs.tr {nu dg : Nat} {S : Nat → Prop} {I J K : IT} (h : Rs nu dg S I J) (g : Rs nu dg S J K) : Rs nu dg S I K :=
  ⟨fun a x y => (g.1 a x y).trans (h.1 a x y), fun r x y => (g.2.1 r x y).trans (h.2.1 r x y), fun r k x y z => (g.2.2 r k x y z).trans (h.2.2 r k x y z)⟩
theorem Rs.mono {nu dg : Nat} {S S' : Nat → Prop} {I J : IT} (h : Rs nu dg S I J) (g : ∀ r, S r → S' r) : Rs nu dg S' I J :=
  ⟨h.1, fun r x y => h.2.1 r x (fun z => y (g r z)), fun r k x y z => h.2.2 r k x y (fun q => z (g r q))⟩
theorem Rs.fr {nu dg : Nat} {S : Nat → Prop} {I J : IT} {L : LT} {A : Nat → Prop} (h : Rs nu dg S I J) (h1 : A nu) (h2 : A dg) : Fr A I L J L :=
  fun a ha => ⟨h.1 a (fun e => ha (e ▸ h1)) (fun e => ha (e ▸ h2)), rfl⟩
theorem Rs_bk {nu dg t D : Nat} {I : IT} {v : Int32} {f : Nat → Int32} (hnd : nu ≠ dg) (hD : D ≤ 40) : Rs nu dg (fun r => r = t) I (bk (u2 I dg t v) nu (41 * t) (D + 1) f) := by
  refine ⟨fun a h1 h2 => ?_, fun r _ hr => ?_, fun r k _ hk hr => ?_⟩
  · funext j; rw [bk_a h1, u2_a h2]
  · rw [bk_a (Ne.symm hnd), u2_k hr]
  · have hr : r ≠ t := hr
    rw [bk_o (by omega), u2_a hnd]
def Rw (nu dg p : Nat) (I : IT) (r D : Nat) (g : Nat → Nat) : Prop := I dg r = Int32.ofNat D ∧ D ≤ 40 ∧ (∀ k, k ≤ D → I nu (41 * r + k) = Int32.ofNat (g k)) ∧ ∀ k, k ≤ D → g k < p
theorem Rw_bk {nu dg p t D : Nat} {I : IT} {g : Nat → Nat} {f : Nat → Int32} (hnd : nu ≠ dg) (hD : D ≤ 40) (hf : ∀ k, k ≤ D → f k = Int32.ofNat (g k)) (hg : ∀ k, k ≤ D → g k < p) : Rw nu dg p (bk (u2 I dg t (Int32.ofNat D)) nu (41 * t) (D + 1) f) t D g :=
  ⟨(bk_a (Ne.symm hnd)).trans u2_s, hD, fun k hk => (bk_i (by omega)).trans (hf k hk), hg⟩
theorem Rw.keep {nu dg p r D : Nat} {g : Nat → Nat} {S : Nat → Prop} {I J : IT} (h : Rw nu dg p I r D g) (hr : r < 48) (k : Rs nu dg S I J) (hs : ¬ S r) : Rw nu dg p J r D g :=
  ⟨(k.2.1 r hr hs).trans h.1, h.2.1, fun j hj => (k.2.2 r j hr (by have := h.2.1; omega) hs).trans (h.2.2.1 j hj), h.2.2.2⟩
theorem Rw.put {nu dg p r D j : Nat} {g : Nat → Nat} {I : IT} {x : Nat} (hnd : nu ≠ dg) (h : Rw nu dg p I r D g) (hx : x < p) : Rw nu dg p (u2 I nu (41 * r + j) (Int32.ofNat x)) r D (fun k => if k = j then x else g k) := by
  refine ⟨(u2_a (Ne.symm hnd)).trans h.1, h.2.1, fun k hk => ?_, fun k hk => ?_⟩
  · by_cases e : k = j
    · subst e; rw [u2_s]; show _ = Int32.ofNat (if k = k then x else g k); rw [if_pos rfl]
    · rw [u2_k (by omega)]; show _ = Int32.ofNat (if k = j then x else g k); rw [if_neg e]; exact h.2.2.1 k hk
  · by_cases e : k = j
    · show (if k = j then x else g k) < p; rw [if_pos e]; exact hx
    · show (if k = j then x else g k) < p; rw [if_neg e]; exact h.2.2.2 k hk
theorem Rs.put {nu dg r j : Nat} {I : IT} {x : Int32} (hj : j < 41) (hnd : nu ≠ dg) : Rs nu dg (fun t => t = r) I (u2 I nu (41 * r + j) x) := by
  refine ⟨fun a h1 h2 => ?_, fun t _ ht => ?_, fun t k _ hk ht => ?_⟩
  · exact u2_r h1
  · exact u2_a (Ne.symm hnd)
  · have ht : t ≠ r := ht
    exact u2_k (by omega)
