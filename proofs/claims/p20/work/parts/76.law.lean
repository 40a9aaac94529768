/-! the law's start: what the two new objects are -/
def AA (M : Mm) (o a : Nat) : Prop := (mT M a ≠ 0 ∧ (mT M a = 3 → mI M a 0 = 0) ∧ (mT M a = 9 → mI M a 0 = 11)) ∨ a = o
theorem AA.t {M : Mm} {o a t : Nat} (h : mT M a = t) (h0 : t ≠ 0) (h3 : t ≠ 3) (h9 : t ≠ 9) : AA M o a := Or.inl ⟨by rw [h]; exact h0, fun e => absurd (h.symm.trans e) h3, fun e => absurd (h.symm.trans e) h9⟩
section Start
variable {M M5 : Mm} {o : Nat}
theorem sA (E : Ext M M5) {b t n : Nat} (g : gArr M b t n) (h0 : t ≠ 0) (h3 : t ≠ 3) (h9 : t ≠ 9) : h_A (mT M5) (mN M5) (AA M o) t n b := by
  have e := E b (by rw [g.1]; exact h0)
  exact ⟨e.1.trans g.1, e.2.1.trans g.2, AA.t g.1 h0 h3 h9⟩
theorem sB (E : Ext M M5) {r f t n : Nat} (h0 : mT M r ≠ 0) (g : ∃ b, mR M r f = some b ∧ gArr M b t n) (h : t = 20 ∨ t = 21) : ∃ b, mR M5 r f = some b ∧ (h_A (mT M5) (mN M5) (AA M o) t n) b := by
  obtain ⟨b, h1, h2⟩ := g
  exact ⟨b, (congrFun (E r h0).2.2.2.2 f).trans h1, sA E h2 (by omega) (by omega) (by omega)⟩
theorem sF (E : Ext M M5) {f : Nat} (g : gF M f) : h_F (mT M5) (mN M5) (mR M5) (AA M o) f := by
  obtain ⟨h1, h2, h3⟩ := g
  have e := E f (by rw [h1]; decide)
  exact ⟨e.1.trans h1, Or.inl ⟨by rw [h1]; decide, fun _ => h2, fun q => absurd (h1.symm.trans q) (by decide)⟩, sB E (by rw [h1]; decide) h3 (Or.inl rfl)⟩
theorem sF1 (E : Ext M M5) {r f : Nat} (h0 : mT M r ≠ 0) (g : ∃ b, mR M r f = some b ∧ gF M b) : ∃ b, mR M5 r f = some b ∧ (h_F (mT M5) (mN M5) (mR M5) (AA M o)) b := by
  obtain ⟨b, h1, h2⟩ := g
  exact ⟨b, (congrFun (E r h0).2.2.2.2 f).trans h1, sF E h2⟩
theorem sRow (E : Ext M M5) {r n : Nat} (g : gRow M r n) : mT M5 r = 23 ∧ mN M5 r = n ∧ AA M o r ∧ ∀ j, j < n → ∃ f, mR M5 r j = some f ∧ (h_F (mT M5) (mN M5) (mR M5) (AA M o)) f := by
  obtain ⟨h1, h2, h3⟩ := g
  have e := E r (by rw [h1]; decide)
  exact ⟨e.1.trans h1, e.2.1.trans h2, AA.t h1 (by decide) (by decide) (by decide), fun j hj => sF1 E (by rw [h1]; decide) (h3 j hj)⟩
theorem sRow1 (E : Ext M M5) {r f n : Nat} (h0 : mT M r ≠ 0) (g : ∃ b, mR M r f = some b ∧ gRow M b n) : ∃ b, mR M5 r f = some b ∧ (mT M5 b = 23 ∧ mN M5 b = n ∧ AA M o b ∧ ∀ j, j < n → ∃ f, mR M5 b j = some f ∧ (h_F (mT M5) (mN M5) (mR M5) (AA M o)) f) := by
  obtain ⟨b, h1, h2⟩ := g
  exact ⟨b, (congrFun (E r h0).2.2.2.2 f).trans h1, sRow E h2⟩
theorem sSg (E : Ext M M5) {s : Nat} (g : gSg M s) : h_Sg (mT M5) (mN M5) (mR M5) (AA M o) s := by
  obtain ⟨h1, h2, h3, h4⟩ := g
  have e := E s (by rw [h1]; decide)
  exact ⟨e.1.trans h1, AA.t h1 (by decide) (by decide) (by decide), sB E (by rw [h1]; decide) h3 (Or.inl rfl), sB E (by rw [h1]; decide) h4 (Or.inl rfl)⟩
theorem sTabs (E : Ext M M5) {r : Nat} (g : gTabs M r 8) : h_Tabs (mT M5) (mN M5) (mR M5) (AA M o) r := by
  obtain ⟨h1, h2, h3⟩ := g
  have e := E r (by rw [h1]; decide)
  refine ⟨e.1.trans h1, e.2.1.trans h2, AA.t h1 (by decide) (by decide) (by decide), fun j hj => ?_⟩
  obtain ⟨t, t1, t2⟩ := h3 j hj
  exact ⟨t, (congrFun e.2.2.2.2 j).trans t1, (E t (by rw [t2]; decide)).1.trans t2, AA.t t2 (by decide) (by decide) (by decide)⟩
theorem sSgs (E : Ext M M5) {r : Nat} (g : gSgs M r 8) : h_Sgs (mT M5) (mN M5) (mR M5) (AA M o) r := by
  obtain ⟨h1, h2, h3⟩ := g
  have e := E r (by rw [h1]; decide)
  refine ⟨e.1.trans h1, e.2.1.trans h2, AA.t h1 (by decide) (by decide) (by decide), fun j hj => ?_⟩
  obtain ⟨t, t1, t2⟩ := h3 j hj
  exact ⟨t, (congrFun e.2.2.2.2 j).trans t1, sSg E t2⟩
theorem sHeld (E : Ext M M5) {r : Nat} (g : gHeld M r 8 492) : h_Held (mT M5) (mN M5) (mR M5) (AA M o) r := by
  obtain ⟨h1, h2, h3⟩ := g
  have e := E r (by rw [h1]; decide)
  refine ⟨e.1.trans h1, e.2.1.trans h2, AA.t h1 (by decide) (by decide) (by decide), fun j hj => ?_⟩
  exact sB E (by rw [h1]; decide) (h3 j hj) (Or.inl rfl)
theorem sSt (E : Ext M M5) {x : Nat} (g : gSt M x) : h_St (mT M5) (mN M5) (mR M5) (AA M o) x := by
  obtain ⟨h1, h2, -, -, -, -, -, h6, h7, h8, ⟨t, t1, t2⟩, ⟨s, s1, s2⟩⟩ := g
  have e := E x (by rw [h1]; decide)
  have n0 : mT M x ≠ 0 := by rw [h1]; decide
  exact ⟨e.1.trans h1, Or.inl ⟨n0, fun q => absurd (h1.symm.trans q) (by decide), fun _ => h2⟩, sB E n0 h6 (Or.inl rfl), sRow1 E n0 h7, sRow1 E n0 h8, ⟨t, (congrFun e.2.2.2.2 9).trans t1, sTabs E t2⟩, ⟨s, (congrFun e.2.2.2.2 10).trans s1, sSgs E s2⟩⟩
theorem sRd (E : Ext M M5) {x : Nat} (g : gRd M x) : h_Rd (mT M5) (mN M5) (mR M5) (AA M o) x := by
  obtain ⟨h1, -, ⟨s, s1, s2⟩, h3⟩ := g
  have e := E x (by rw [h1]; decide)
  have n0 : mT M x ≠ 0 := by rw [h1]; decide
  exact ⟨e.1.trans h1, AA.t h1 (by decide) (by decide) (by decide), ⟨s, (congrFun e.2.2.2.2 0).trans s1, sSg E s2⟩, sB E n0 h3 (Or.inl rfl)⟩
theorem sAl (E : Ext M M5) {x st : Nat} (g : gAl M x st) (hs : gSt M st) : h_Al (mT M5) (mN M5) (mR M5) (AA M o) x := by
  obtain ⟨h1, h2, h3, h4⟩ := g
  have e := E x (by rw [h1]; decide)
  have n0 : mT M x ≠ 0 := by rw [h1]; decide
  exact ⟨e.1.trans h1, AA.t h1 (by decide) (by decide) (by decide), ⟨st, (congrFun e.2.2.2.2 0).trans h4, sSt E hs⟩, sF1 E n0 h2, sF1 E n0 h3⟩
theorem sCc (E : Ext M M5) {x al : Nat} (g : gCc M x al) (ha : h_Al (mT M5) (mN M5) (mR M5) (AA M o) al) : h_Cc (mT M5) (mN M5) (mR M5) (AA M o) x := by
  obtain ⟨h1, h2, h3, h4, h5, h6⟩ := g
  have e := E x (by rw [h1]; decide)
  have n0 : mT M x ≠ 0 := by rw [h1]; decide
  exact ⟨e.1.trans h1, AA.t h1 (by decide) (by decide) (by decide), ⟨al, (congrFun e.2.2.2.2 0).trans h6, ha⟩, sRow1 E n0 h2, sB E n0 h3 (Or.inl rfl), sF1 E n0 h4, sF1 E n0 h5⟩
theorem sRw (E : Ext M M5) {x al cc : Nat} (g : gRw M x al cc) (ha : h_Al (mT M5) (mN M5) (mR M5) (AA M o) al) (hc : h_Cc (mT M5) (mN M5) (mR M5) (AA M o) cc) : h_Rw (mT M5) (mN M5) (mR M5) (AA M o) x := by
  obtain ⟨h1, h2, ⟨b, b1, b2⟩, h4, h5, h6, h7⟩ := g
  have e := E x (by rw [h1]; decide)
  have n0 : mT M x ≠ 0 := by rw [h1]; decide
  exact ⟨e.1.trans h1, AA.t h1 (by decide) (by decide) (by decide), ⟨al, (congrFun e.2.2.2.2 0).trans h6, ha⟩, ⟨cc, (congrFun e.2.2.2.2 1).trans h7, hc⟩, sRow1 E n0 h2, ⟨b, (congrFun e.2.2.2.2 3).trans b1, sHeld E b2⟩, sB E n0 h4 (Or.inl rfl), sB E n0 h5 (Or.inr rfl)⟩
theorem sSe (E : Ext M M5) {x al : Nat} (g : gSe M x al) (ha : h_Al (mT M5) (mN M5) (mR M5) (AA M o) al) : h_Se (mT M5) (mN M5) (mR M5) (AA M o) x := by
  obtain ⟨h1, h3, h4, h5, h6, h7⟩ := g
  have e := E x (by rw [h1]; decide)
  have n0 : mT M x ≠ 0 := by rw [h1]; decide
  exact ⟨e.1.trans h1, AA.t h1 (by decide) (by decide) (by decide), ⟨al, (congrFun e.2.2.2.2 2).trans h7, ha⟩, sB E n0 h3 (Or.inl rfl), sB E n0 h4 (Or.inl rfl), sB E n0 h5 (Or.inl rfl), sB E n0 h6 (Or.inl rfl)⟩
theorem sPo (E : Ext M M5) {x al : Nat} (g : gPo M x al) (ha : h_Al (mT M5) (mN M5) (mR M5) (AA M o) al) : h_Po (mT M5) (mN M5) (mR M5) (AA M o) x := by
  obtain ⟨h1, h3, h4, h5, h6, h7⟩ := g
  have e := E x (by rw [h1]; decide)
  have n0 : mT M x ≠ 0 := by rw [h1]; decide
  exact ⟨e.1.trans h1, AA.t h1 (by decide) (by decide) (by decide), ⟨al, (congrFun e.2.2.2.2 1).trans h7, ha⟩, sB E n0 h3 (Or.inl rfl), sB E n0 h4 (Or.inl rfl), sB E n0 h5 (Or.inl rfl), sB E n0 h6 (Or.inl rfl)⟩
theorem sWh (E : Ext M M5) {x : Nat} (g : gWh M x) : h_Wh (mT M5) (mN M5) (mR M5) (AA M o) x := by
  obtain ⟨h1, -⟩ := g
  exact ⟨(E x (by rw [h1]; decide)).1.trans h1, AA.t h1 (by decide) (by decide) (by decide)⟩
theorem sLF (E : Ext M M5) {x : Nat} (g : gLF M x) : h_LF (mT M5) (mN M5) (mR M5) (AA M o) x := by
  obtain ⟨tx, ix3, ix4, rd, nw, kp, al, cc, rw, se, po, wh, w1, w2, w3, rx0, rx1, rx2, rx5, rx6, rx7, rx8, rx9, rx10, rx11, rx12, rx13, hrd, hst, hkp, hal, hcc, hrw, hse, hpo, hwh, hw1, hw2, hw3, hkn⟩ := g
  have e := E x (by rw [tx]; decide)
  have ha := sAl (o := o) E hal hst
  have hc := sCc (o := o) E hcc ha
  exact ⟨e.1.trans tx, AA.t tx (by decide) (by decide) (by decide), ⟨rd, (congrFun e.2.2.2.2 0).trans rx0, sRd E hrd⟩, ⟨nw, (congrFun e.2.2.2.2 1).trans rx1, sSt E hst⟩, ⟨kp, (congrFun e.2.2.2.2 2).trans rx2, sSt E hkp⟩, ⟨al, (congrFun e.2.2.2.2 5).trans rx5, ha⟩, ⟨cc, (congrFun e.2.2.2.2 6).trans rx6, hc⟩, ⟨rw, (congrFun e.2.2.2.2 7).trans rx7, sRw E hrw ha hc⟩, ⟨se, (congrFun e.2.2.2.2 8).trans rx8, sSe E hse ha⟩, ⟨po, (congrFun e.2.2.2.2 9).trans rx9, sPo E hpo ha⟩, ⟨wh, (congrFun e.2.2.2.2 10).trans rx10, sWh E hwh⟩, ⟨w1, (congrFun e.2.2.2.2 11).trans rx11, sF E hw1⟩, ⟨w2, (congrFun e.2.2.2.2 12).trans rx12, sF E hw2⟩, ⟨w3, (congrFun e.2.2.2.2 13).trans rx13, sF E hw3⟩⟩
theorem sIX (E : Ext M M5) (ho : mT M5 o = 21) : IX (AA M o) (mT M5) (mI M5) := by
  rintro a (⟨h0, h3, h9⟩ | rfl) k
  · have e := E a h0
    refine ⟨fun q k0 => ?_, fun q k0 => ?_⟩
    · subst k0
      rw [e.2.2.1, h3 (e.1.symm.trans q)]; decide
    · subst k0
      rw [e.2.2.1, h9 (e.1.symm.trans q)]; decide
  · exact ⟨fun q => absurd (ho.symm.trans q) (by decide), fun q => absurd (ho.symm.trans q) (by decide)⟩
end Start
theorem WOK.zz {g : Nat → Int32} (h0 : g 0 = 11) (h : ∀ j, 1 ≤ j → g j = 0) : WOK g := by
  have z : ∀ j, 1 ≤ j → (g j).toInt = 0 := fun j hj => by rw [h j hj]; rfl
  have z0 : (g 0).toInt = 11 := by rw [h0]; rfl
  refine ⟨Or.inl z0, ⟨⟨by rw [z 1 (by decide)]; decide, by rw [z 1 (by decide)]; decide⟩, ⟨by rw [z 2 (by decide)]; decide, by rw [z 2 (by decide)]; decide⟩, ⟨by rw [z 3 (by decide)]; decide, by rw [z 3 (by decide)]; decide⟩, ⟨by rw [z 4 (by decide)]; decide, by rw [z 4 (by decide)]; decide⟩, by rw [z 5 (by decide)]; decide, by rw [z 5 (by decide)]; decide⟩, fun f _ => ⟨by rw [z _ (by omega)]; decide, by rw [z _ (by omega)]; decide, fun k _ => ⟨by rw [z _ (by omega)]; decide, by rw [z _ (by omega)]; decide⟩⟩, fun f hf => ?_, fun t _ => ⟨by rw [z _ (by omega)]; decide, by rw [z _ (by omega)]; decide⟩, fun s hs => ?_, fun a _ => ⟨by rw [z _ (by omega)]; decide, by rw [z _ (by omega)]; decide, fun j _ _ => ⟨by rw [z _ (by omega)]; decide, by rw [z _ (by omega)]; decide⟩⟩⟩
  · rw [z 1 (by decide)] at hf; omega
  · rw [z 3 (by decide)] at hs; omega
def BB (M2 M4 : Mm) (a : Nat) : Prop := mT M2 a = 0 ∧ mT M4 a ≠ 0
/-- each array of the reference by its field: kind and size, and what it holds -/
def cdM (w dg nu rk rs dn pw sp fc : Nat) (f a K : Nat) : Prop := (f = 1 ∧ a = w ∧ K = 204007) ∨ (f = 2 ∧ K = 203606) ∨ (f = 4 ∧ a = dg ∧ K = 200048) ∨ (f = 5 ∧ a = nu ∧ K = 201968) ∨ (f = 10 ∧ K = 220400) ∨ (f = 18 ∧ K = 200005) ∨ (f = 20 ∧ a = rk ∧ K = 200048) ∨ (f = 21 ∧ K = 211261) ∨ (f = 22 ∧ a = rs ∧ K = 203936) ∨ (f = 23 ∧ a = dn ∧ K = 200108) ∨ (f = 25 ∧ K = 200361) ∨ (f = 26 ∧ a = pw ∧ K = 200180) ∨ (f = 27 ∧ a = sp ∧ K = 200003) ∨ (f = 28 ∧ a = fc ∧ K = 200003) ∨ (f = 34 ∧ K = 210004)
set_option maxHeartbeats 4000000 in
theorem sMD {M2 M3 M4 M5 : Mm} {m : Nat} (E : Ext M4 M5) (g : gMd M3 M4 m) (hz : ∀ a, mT M3 a = 0 → mT M2 a = 0) (hm : mT M2 m = 0) : h_MD (mT M5) (mN M5) (mR M5) (BB M2 M4) m ∧ IM (mR M5) m (mI M5) ∧ (∀ w, mR M5 m 1 = some w → (mI M5 w 4).toInt + (mI M5 w 5).toInt ≤ 40) ∧ (∀ w, mR M5 m 2 = some w → (mI M5 m 3).toInt ≠ 0 → WOS (mI M5 w)) := by
  obtain ⟨tm, im0, im3, im11, im17, im35, im36, im37, iO, rO, w, im, dg, nu, tp, fv, rk, wy, rs, dn, vd, pw, sp, fc, wl, iw0, iwj, hwd, h420, h2728, rm1, gw, zw, rm2, gim, zim, rm4, gdg, zdg, rm5, gnu, znu, rm10, gtp, ztp, rm18, gfv, zfv, rm20, grk, zrk, rm21, gwy, zwy, rm22, grs, zrs, rm23, gdn, zdn, rm25, gvd, zvd, rm26, gpw, zpw, rm27, gsp, zsp, rm28, gfc, zfc, rm34, gwl, zwl⟩ := g
  have em := E m (by rw [tm]; decide)
  have R : ∀ {f a}, mR M4 m f = some a → mR M5 m f = some a := fun {f a} h => (congrFun em.2.2.2.2 f).trans h
  have key0 : ∀ {b t n}, gArr M4 b t n → t ≠ 0 → mT M3 b = 0 → (h_A (mT M5) (mN M5) (BB M2 M4) t n) b := fun {b t n} h ht h3 => by
    have e := E b (by rw [h.1]; exact ht)
    exact ⟨e.1.trans h.1, e.2.1.trans h.2, hz _ h3, by rw [h.1]; exact ht⟩
  have A1 := key0 gw (by decide) zw
  have A2 := key0 gim (by decide) zim
  have A4 := key0 gdg.1 (by decide) zdg
  have A5 := key0 gnu.1 (by decide) znu
  have A10 := key0 gtp.1 (by decide) ztp
  have A18 := key0 gfv (by decide) zfv
  have A20 := key0 grk (by decide) zrk
  have A21 := key0 gwy (by decide) zwy
  have A22 := key0 grs.1 (by decide) zrs
  have A23 := key0 gdn.1 (by decide) zdn
  have A25 := key0 gvd (by decide) zvd
  have A26 := key0 gpw.1 (by decide) zpw
  have A27 := key0 gsp.1 (by decide) zsp
  have A28 := key0 gfc.1 (by decide) zfc
  have A34 := key0 gwl (by decide) zwl
  have key : ∀ f a, mR M5 m f = some a → cdM w dg nu rk rs dn pw sp fc f a (mT M5 a * 10000 + mN M5 a) := by
    intro f a ha
    have ha4 : mR M4 m f = some a := (congrFun em.2.2.2.2 f).symm.trans ha
    unfold cdM
    by_cases q : f ∈ RFS
    · simp only [RFS, List.mem_cons, List.not_mem_nil, or_false] at q
      rcases q with rfl | rfl | rfl | rfl | rfl | rfl | rfl | rfl | rfl | rfl | rfl | rfl | rfl | rfl | rfl
      · cases rm34.symm.trans ha4; rw [A34.1, A34.2.1]; exact Or.inr (Or.inr (Or.inr (Or.inr (Or.inr (Or.inr (Or.inr (Or.inr (Or.inr (Or.inr (Or.inr (Or.inr (Or.inr (Or.inr (⟨rfl, rfl⟩))))))))))))))
      · cases rm28.symm.trans ha4; rw [A28.1, A28.2.1]; exact Or.inr (Or.inr (Or.inr (Or.inr (Or.inr (Or.inr (Or.inr (Or.inr (Or.inr (Or.inr (Or.inr (Or.inr (Or.inr (Or.inl ⟨rfl, rfl, rfl⟩)))))))))))))
      · cases rm27.symm.trans ha4; rw [A27.1, A27.2.1]; exact Or.inr (Or.inr (Or.inr (Or.inr (Or.inr (Or.inr (Or.inr (Or.inr (Or.inr (Or.inr (Or.inr (Or.inr (Or.inl ⟨rfl, rfl, rfl⟩))))))))))))
      · cases rm26.symm.trans ha4; rw [A26.1, A26.2.1]; exact Or.inr (Or.inr (Or.inr (Or.inr (Or.inr (Or.inr (Or.inr (Or.inr (Or.inr (Or.inr (Or.inr (Or.inl ⟨rfl, rfl, rfl⟩)))))))))))
      · cases rm25.symm.trans ha4; rw [A25.1, A25.2.1]; exact Or.inr (Or.inr (Or.inr (Or.inr (Or.inr (Or.inr (Or.inr (Or.inr (Or.inr (Or.inr (Or.inl ⟨rfl, rfl⟩))))))))))
      · cases rm23.symm.trans ha4; rw [A23.1, A23.2.1]; exact Or.inr (Or.inr (Or.inr (Or.inr (Or.inr (Or.inr (Or.inr (Or.inr (Or.inr (Or.inl ⟨rfl, rfl, rfl⟩)))))))))
      · cases rm22.symm.trans ha4; rw [A22.1, A22.2.1]; exact Or.inr (Or.inr (Or.inr (Or.inr (Or.inr (Or.inr (Or.inr (Or.inr (Or.inl ⟨rfl, rfl, rfl⟩))))))))
      · cases rm21.symm.trans ha4; rw [A21.1, A21.2.1]; exact Or.inr (Or.inr (Or.inr (Or.inr (Or.inr (Or.inr (Or.inr (Or.inl ⟨rfl, rfl⟩)))))))
      · cases rm20.symm.trans ha4; rw [A20.1, A20.2.1]; exact Or.inr (Or.inr (Or.inr (Or.inr (Or.inr (Or.inr (Or.inl ⟨rfl, rfl, rfl⟩))))))
      · cases rm18.symm.trans ha4; rw [A18.1, A18.2.1]; exact Or.inr (Or.inr (Or.inr (Or.inr (Or.inr (Or.inl ⟨rfl, rfl⟩)))))
      · cases rm10.symm.trans ha4; rw [A10.1, A10.2.1]; exact Or.inr (Or.inr (Or.inr (Or.inr (Or.inl ⟨rfl, rfl⟩))))
      · cases rm5.symm.trans ha4; rw [A5.1, A5.2.1]; exact Or.inr (Or.inr (Or.inr (Or.inl ⟨rfl, rfl, rfl⟩)))
      · cases rm4.symm.trans ha4; rw [A4.1, A4.2.1]; exact Or.inr (Or.inr (Or.inl ⟨rfl, rfl, rfl⟩))
      · cases rm2.symm.trans ha4; rw [A2.1, A2.2.1]; exact Or.inr (Or.inl ⟨rfl, rfl⟩)
      · cases rm1.symm.trans ha4; rw [A1.1, A1.2.1]; exact Or.inl ⟨rfl, rfl, rfl⟩
    · rw [rO f q] at ha4; cases ha4
  have zer : ∀ {b n}, gArrZ M4 b 20 n → ∀ k, (mI M5 b k).toInt = 0 := fun {b n} h k => by
    have e := E b (by rw [h.1.1]; decide)
    rw [e.2.2.1, h.2 k]; rfl
  have zw9 : mI M5 w = mI M4 w := (E w (by rw [gw.1]; decide)).2.2.1
  have J : ∀ f g a, mR M5 m f = some a → mR M5 m g = some a → f = g := by
    intro f g a hf hg
    have k1 := key f a hf
    have k2 := key g a hg
    unfold cdM at k1 k2
    have k3 : f = g ∨ (f = 4 ∧ g = 20 ∧ dg = rk) ∨ (f = 20 ∧ g = 4 ∧ dg = rk) ∨ (f = 27 ∧ g = 28 ∧ sp = fc) ∨ (f = 28 ∧ g = 27 ∧ sp = fc) := by
      generalize mT M5 a * 10000 + mN M5 a = K at k1 k2
      rcases k1 with k1 | k1 | k1 | k1 | k1 | k1 | k1 | k1 | k1 | k1 | k1 | k1 | k1 | k1 | k1 <;> rcases k2 with k2 | k2 | k2 | k2 | k2 | k2 | k2 | k2 | k2 | k2 | k2 | k2 | k2 | k2 | k2 <;> first | exact Or.inl (k1.1.trans k2.1.symm) | exact Or.inr (Or.inl ⟨k1.1, k2.1, k1.2.1.symm.trans k2.2.1⟩) | exact Or.inr (Or.inr (Or.inl ⟨k1.1, k2.1, k2.2.1.symm.trans k1.2.1⟩)) | exact Or.inr (Or.inr (Or.inr (Or.inl ⟨k1.1, k2.1, k1.2.1.symm.trans k2.2.1⟩))) | exact Or.inr (Or.inr (Or.inr (Or.inr ⟨k1.1, k2.1, k2.2.1.symm.trans k1.2.1⟩))) | (exfalso; have q1 := k1.2.2; have q2 := k2.2.2; omega) | (exfalso; have q1 := k1.2.2; have q2 := k2.2; omega) | (exfalso; have q1 := k1.2; have q2 := k2.2.2; omega) | (exfalso; have q1 := k1.2; have q2 := k2.2; omega)
    rcases k3 with k3 | k3 | k3 | k3 | k3
    · exact k3
    · exact absurd k3.2.2 h420
    · exact absurd k3.2.2 h420
    · exact absurd k3.2.2 h2728
    · exact absurd k3.2.2 h2728
  have Y : ∀ f a, mR M5 m f = some a → mT M5 a = 20 ∨ mT M5 a = 21 ∨ mT M5 a = 22 := by
    intro f a hf
    have ha4 : mR M4 m f = some a := (congrFun em.2.2.2.2 f).symm.trans hf
    by_cases q : f ∈ RFS
    · simp only [RFS, List.mem_cons, List.not_mem_nil, or_false] at q
      rcases q with rfl | rfl | rfl | rfl | rfl | rfl | rfl | rfl | rfl | rfl | rfl | rfl | rfl | rfl | rfl
      · cases rm34.symm.trans ha4; exact Or.inr (Or.inl A34.1)
      · cases rm28.symm.trans ha4; exact Or.inl A28.1
      · cases rm27.symm.trans ha4; exact Or.inl A27.1
      · cases rm26.symm.trans ha4; exact Or.inl A26.1
      · cases rm25.symm.trans ha4; exact Or.inl A25.1
      · cases rm23.symm.trans ha4; exact Or.inl A23.1
      · cases rm22.symm.trans ha4; exact Or.inl A22.1
      · cases rm21.symm.trans ha4; exact Or.inr (Or.inl A21.1)
      · cases rm20.symm.trans ha4; exact Or.inl A20.1
      · cases rm18.symm.trans ha4; exact Or.inl A18.1
      · cases rm10.symm.trans ha4; exact Or.inr (Or.inr A10.1)
      · cases rm5.symm.trans ha4; exact Or.inl A5.1
      · cases rm4.symm.trans ha4; exact Or.inl A4.1
      · cases rm2.symm.trans ha4; exact Or.inl A2.1
      · cases rm1.symm.trans ha4; exact Or.inl A1.1
    · rw [rO f q] at ha4; cases ha4
  refine ⟨⟨em.1.trans tm, ⟨hm, by rw [tm]; decide⟩, ⟨w, R rm1, A1⟩, ⟨im, R rm2, A2⟩, ⟨dg, R rm4, A4⟩, ⟨nu, R rm5, A5⟩, ⟨tp, R rm10, A10⟩, ⟨fv, R rm18, A18⟩, ⟨rk, R rm20, A20⟩, ⟨wy, R rm21, A21⟩, ⟨rs, R rm22, A22⟩, ⟨dn, R rm23, A23⟩, ⟨vd, R rm25, A25⟩, ⟨pw, R rm26, A26⟩, ⟨sp, R rm27, A27⟩, ⟨fc, R rm28, A28⟩, ⟨wl, R rm34, A34⟩, J, Y⟩, ⟨fun f a ha k => ⟨fun q => ?_, fun q => ?_, fun q => ?_⟩, fun a ha => ?_, fun k => ?_⟩, fun a ha => ?_, fun a ha h3 => ?_⟩
  · subst q; cases (R rm4).symm.trans ha; rw [zer gdg k]; decide
  · subst q; cases (R rm27).symm.trans ha; rw [zer gsp k]; decide
  · rcases q with rfl | rfl | rfl | rfl | rfl
    · cases (R rm5).symm.trans ha; rw [zer gnu k]; decide
    · cases (R rm22).symm.trans ha; rw [zer grs k]; decide
    · cases (R rm23).symm.trans ha; rw [zer gdn k]; decide
    · cases (R rm26).symm.trans ha; rw [zer gpw k]; decide
    · cases (R rm28).symm.trans ha; rw [zer gfc k]; decide
  · cases (R rm1).symm.trans ha
    rw [zw9]; exact WOK.zz iw0 iwj
  · by_cases q : k = 17
    · subst q; exact ⟨fun z => by omega, fun z => by omega, fun z => by omega, fun z => by omega, fun z => by omega⟩
    · have : (mI M5 m k).toInt = 0 := by rw [em.2.2.1, iO k q]; rfl
      exact ⟨fun _ => by omega, fun _ => by omega, fun _ => by omega, fun _ => by omega, fun _ => by omega⟩
  · cases (R rm1).symm.trans ha
    rw [zw9, iwj 4 (by decide), iwj 5 (by decide)]; decide
  · exact absurd (by rw [em.2.2.1, iO 3 (by decide)]; rfl) h3
theorem R_nw0 {M : Mm} {b t n k : Nat} : mR (sN M b t n) b k = none := by simp [sN, u1, mR]
section Start2
variable {d : Nat} {q : mm_T} {mc ms : Nat} {Post : Po} {V : V_T} {pc pc2 : Nat} {lv : List (Nat × Value)} {r : List Value} {M : Mm} {ck sk : Nat}
theorem i_newR (C : Cl d q mc ms Post V) {j ci n ck2 sk2 : Nat} (hi : cdf q.2.2.2.2.2.2 pc = some (.new j, 3)) (hp : pc + 3 = pc2) (hn : P_nw q.2.2.2.2.1 j = some ci) (hz : P_sz ci = n) (e1 : ck + 1 = ck2) (e2 : sk + n = sk2) (h1 : ck2 ≤ mc) (h2 : sk2 ≤ ms)
    (h : ∀ b M1, mT M b = 0 → Ext M M1 → Ko M M1 → mT M1 b = ci + 1 → (∀ j, mI M1 b j = 0) → (∀ j, mR M1 b j = none) → V pc2 lv (.ref b :: r) M1 ck2 sk2) : V pc lv r M ck sk := by
  subst e1; subst e2
  exact k_new C hi hp hn hz h1 h2 (fun b hb => h b _ hb (Ext.rf.new hb) (Ko.nw hb) T_new (fun j => I_new) (fun j => R_nw0))
end Start2
theorem UP_M0 : UP M0 := ⟨fun a k b h => (nomatch (show (none : Option Nat) = some b from h)), fun a k a' k' b _ h => (nomatch (show (none : Option Nat) = some b from h))⟩
theorem RST.start {R : RT} {I : IT} {st : Nat} {W : Nat → Int32} (h0 : (I st 0).toInt = (W 0).toInt) (i : ∀ k, k = 1 ∨ k = 2 ∨ k = 4 ∨ k = 5 → (I st k).toInt = 0) (w : ∀ k, k = 1 ∨ k = 2 ∨ k = 4 ∨ k = 5 → (W k).toInt = 0) : RST R I st W := by
  have w1 := w 1 (by omega)
  have w2 := w 2 (by omega)
  have w4 := w 4 (by omega)
  have w5 := w 5 (by omega)
  exact ⟨⟨h0, by rw [i 1 (by omega), w1], by rw [i 2 (by omega), w2], by rw [i 4 (by omega), w4], by rw [i 5 (by omega), w5]⟩, fun f hf => by exfalso; omega, fun t ht => by exfalso; omega, fun _ _ _ => 0, fun f hf => by exfalso; omega, fun j f _ hf => by exfalso; omega, fun j hj => by exfalso; omega⟩
set_option maxRecDepth 100000 in
theorem law_all : Law_ok 40 := by
  intro b Ln xs hLn V C S hL
  refine i_newR C (n := 14) rfl rfl rfl rfl rfl rfl (Nat.le_of_ble_eq_true rfl) (Nat.le_of_ble_eq_true rfl) (fun x M1 f0 fE fK fT fI fL => ?_)
  refine k_dup C rfl rfl rfl ?_
  refine i_call C (i_X11 (d := 35) fT fI) rfl rfl rfl rfl rfl ⟨_, rfl, rfl, rfl⟩ rfl rfl (Nat.le_of_ble_eq_true rfl) (Nat.le_of_ble_eq_true rfl) (Nat.le_of_ble_eq_true rfl) ?_
  rintro M2 ⟨gk, g⟩
  refine k_astore_n C (lw := [(1, _), (0, _)]) rfl rfl (Nat.le_of_ble_eq_true rfl) rfl ?_
  refine i_newR C (n := 38) rfl rfl rfl rfl rfl rfl (Nat.le_of_ble_eq_true rfl) (Nat.le_of_ble_eq_true rfl) (fun m M3 f1 fE1 fK1 fT1 fI1 fR1 => ?_)
  refine k_dup C rfl rfl rfl ?_
  refine i_call C (i_X12 (d := 39) fT1 fI1 fR1) rfl rfl rfl rfl rfl ⟨_, rfl, rfl, rfl⟩ rfl rfl (Nat.le_of_ble_eq_true rfl) (Nat.le_of_ble_eq_true rfl) (Nat.le_of_ble_eq_true rfl) ?_
  rintro M4 ⟨gmk, gm⟩
  refine k_astore_n C (lw := [(2, _), (1, _), (0, _)]) rfl rfl (Nat.le_of_ble_eq_true rfl) rfl ?_
  refine k_iconst C (x := 1) rfl rfl rfl ?_
  refine k_newarr C (tt := 1) (n := 1) rfl rfl (Or.inr (Or.inl ⟨rfl, rfl⟩)) (by decide) (by decide) (by decide) (Nat.le_of_ble_eq_true rfl) (Nat.le_of_ble_eq_true rfl) (fun o ho => ?_)
  refine k_astore_n C (lw := [(3, _), (2, _), (1, _), (0, _)]) rfl rfl (Nat.le_of_ble_eq_true rfl) rfl ?_
  refine k_iconst C (x := 0) rfl rfl rfl ?_
  refine k_istore C (lw := [(4, .int _), (3, _), (2, _), (1, _), (0, _)]) rfl rfl (Nat.le_of_ble_eq_true rfl) rfl ?_
  have E1 : Ext M2 (sN M4 o 21 1) := (fE1.e1 gm.1 f1).new ho
  have E2 : Ext M4 (sN M4 o 21 1) := Ext.rf.new ho
  have hoT : mT (sN M4 o 21 1) o = 21 := T_new
  have hoN : mN (sN M4 o 21 1) o = 1 := by simp [sN, u1, mN]
  have hz : ∀ a, mT M3 a = 0 → mT M2 a = 0 := fun a h => Classical.byContradiction fun q => q ((fE1 a q).1.symm.trans h)
  obtain ⟨H_m, hM, hS, hG⟩ := sMD E2 gm.2 hz f1
  have E24 : Ext M2 M4 := fE1.e1 gm.1 f1
  have nAB : ∀ a, AA M2 o a → ¬ BB M2 M4 a := by
    rintro a (h | rfl) ⟨h2, h4⟩
    · exact h.1 h2
    · exact h4 ho
  obtain ⟨tx, ix3, -, rd, nw, kp, al, cc, rw9, se, po, wh, w1, w2, w3, rx0, rx1, rx2, rx5, rx6, rx7, rx8, rx9, -, -, -, -, hrd, hst, -, hal, hcc, hrw, hse, hpo, -, -, -, -, hkn⟩ := id g.2
  obtain ⟨tm, -, im3, im11, -, -, -, -, -, -, w, im, dg, nu, tp, fv, rk, wy, rs, dn, vd, pw, sp, fc, wl, iw0, iwj, -, -, -, rm1, gw, -, rm2, -, -, -, -, -, -, -, -, rm10, gtp, -⟩ := id gm.2
  obtain ⟨cb, rcb, -⟩ := hrd.2.2.2
  have ex := E1 x (by rw [tx]; decide)
  have enw := E1 nw (by rw [hst.1]; decide)
  have erd := E1 rd (by rw [hrd.1]; decide)
  have eal := E1 al (by rw [hal.1]; decide)
  have em := E2 m (by rw [tm]; decide)
  have ew := E2 w (by rw [gw.1]; decide)
  have U5 : UP (sN M4 o 21 1) := ((((fK.tr gk).tr fK1).tr gmk).tr (Ko.nw ho) UP_M0).1
  have hAX : AXX (mR (sN M4 o 21 1)) x nw := by
    have ecc := E1 cc (by rw [hcc.1]; decide)
    have erw := E1 rw9 (by rw [hrw.1]; decide)
    have ese := E1 se (by rw [hse.1]; decide)
    have epo := E1 po (by rw [hpo.1]; decide)
    have q0 := rA_e ((congrFun eal.2.2.2.2 0).trans hal.2.2.2)
    have q6 := rA_e ((congrFun ex.2.2.2.2 6).trans rx6)
    have q7 := rA_e ((congrFun ex.2.2.2.2 7).trans rx7)
    have q8 := rA_e ((congrFun ex.2.2.2.2 8).trans rx8)
    have q9 := rA_e ((congrFun ex.2.2.2.2 9).trans rx9)
    have q60 := rA_e ((congrFun ecc.2.2.2.2 0).trans hcc.2.2.2.2.2)
    have q70 := rA_e ((congrFun erw.2.2.2.2 0).trans hrw.2.2.2.2.2.1)
    have q71 := rA_e ((congrFun erw.2.2.2.2 1).trans hrw.2.2.2.2.2.2)
    have q82 := rA_e ((congrFun ese.2.2.2.2 2).trans hse.2.2.2.2.2)
    have q91 := rA_e ((congrFun epo.2.2.2.2 1).trans hpo.2.2.2.2.2)
    exact ⟨by rw [q8, q82, q0], by rw [q6, q60, q0], by rw [q9, q91, q0], by rw [q7, q70, q0], by rw [q7, q71, q60, q0]⟩
  have EW : LX (mT (sN M4 o 21 1)) (mN (sN M4 o 21 1)) (mR (sN M4 o 21 1)) (AA M2 o) (BB M2 M4) x nw kp rd al m w im o cb tp := ⟨⟨sLF E1 g.2, H_m, ⟨hoT, hoN, Or.inr rfl⟩, nAB, (congrFun ex.2.2.2.2 1).trans rx1, (congrFun ex.2.2.2.2 2).trans rx2, (congrFun ex.2.2.2.2 0).trans rx0, hkn, (congrFun ex.2.2.2.2 5).trans rx5, (congrFun eal.2.2.2.2 0).trans hal.2.2.2, (congrFun em.2.2.2.2 1).trans rm1, (congrFun em.2.2.2.2 2).trans rm2⟩, U5.2, (congrFun erd.2.2.2.2 2).trans rcb, (congrFun em.2.2.2.2 10).trans rm10, hAX⟩
  have z0 : (0 : Int32).toInt = 0 := rfl
  have i3 : (mI (sN M4 o 21 1) m 3).toInt = 0 := by rw [em.2.2.1, im3]; rfl
  have hRL : RY (mR (sN M4 o 21 1)) x nw kp rd cb m w im tp (mI (sN M4 o 21 1)) := by
    have etp := E2 tp (by rw [gtp.1.1]; decide)
    refine ⟨⟨by rw [erd.2.2.1, em.2.2.1, hrd.2.1, im11], by rw [ex.2.2.1, em.2.2.1, ix3, im3], fun k hk => ?_, ?_, Or.inl i3, ⟨?_, Or.inl i3⟩⟩, ?_, ⟨?_, fun j hj hk => ?_⟩, Or.inl i3⟩
    · rw [em.2.2.1, im11] at hk; omega
    · rw [ew.2.2.1]
      refine RST.start ?_ (fun k hk => ?_) (fun k hk => ?_)
      · rw [enw.2.2.1, hst.2.1, iw0]
      · rw [enw.2.2.1]; rcases hk with rfl | rfl | rfl | rfl
        · rw [hst.2.2.1]; rfl
        · rw [hst.2.2.2.1]; rfl
        · rw [hst.2.2.2.2.2.1]; rfl
        · rw [hst.2.2.2.2.2.2.1]; rfl
      · rw [iwj k (by omega)]; rfl
    · rw [enw.2.2.1, hst.2.2.2.2.1]; decide
    · intro k; rw [etp.2.2.1, gtp.2 k]; decide
    · rw [enw.2.2.1, ew.2.2.1, hst.2.2.2.2.1, iwj 3 (by decide)]
    · rw [enw.2.2.1, hst.2.2.2.2.1] at hk; exfalso; omega
  exact law_go C S hL EW hLn 512 0 (mI (sN M4 o 21 1)) (mL (sN M4 o 21 1)) _ _ (by omega) (by omega) ⟨sIX E1 hoT, hM, hS, hG⟩ hRL (by decide) (by decide)
theorem whole_start {p : Program} {e : Env} {s : State} {m : MethodId} {below : List Frame} {meth : Method} {c : Code} (l : Launch) (hflags : l.flags = flags0) {b L : Nat} {xs : Nat → Int32} (hL : L ≤ 3072) (C0 : lw_At p s m meth c b L xs) : W p l e room_1 s m #[Value.ref b] below meth c s.heap [] 0 0 (lw_Z below #[Value.ref b] s) (entryFrame m ([Value.ref b] : List Value).toArray 8) := law_bridge (d := 40) (Nat.le_of_ble_eq_true rfl) law_all l hflags hL C0
