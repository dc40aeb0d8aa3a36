/-! the whole group, side by side -/
def grpB (be en : Nat) (sof nf kf lf chf pof : Nat → Int32) (sef : Nat → Nat → Int32) (f : Nat → Int32) : Prop := (∃ s, relA be nf kf lf f s) ∧ vwsR en sof chf pof sef f
theorem grpB.a {be en : Nat} {sof nf kf lf chf pof f : Nat → Int32} {sef : Nat → Nat → Int32} (h : grpB be en sof nf kf lf chf pof sef f) : grpA be nf kf lf pof f := ⟨h.1, fun j hj => (h.2 j hj).2.1⟩
theorem grpB.congr {be en : Nat} {sof nf kf lf chf pof f nf' kf' lf' chf' pof' f' : Nat → Int32} {sef sef' : Nat → Nat → Int32} (h : grpB be en sof nf kf lf chf pof sef f) (h1 : ∀ j, j < 8 → nf' j = nf j) (h2 : ∀ j, j < 8 → kf' j = kf j) (h3 : ∀ j, j < 8 → lf' j = lf j) (h4 : ∀ j, j < 8 → chf' j = chf j) (h5 : ∀ j, j < 8 → pof' j = pof j) (h6 : ∀ j, j < 8 → sef' j = sef j) (hf : ∀ j, j < 288 → f' j = f j) : grpB be en sof nf' kf' lf' chf' pof' sef' f' := by
  refine ⟨(h.a.congr h1 h2 h3 h5 (fun j hj => hf j (by omega))).1, fun v hv => ?_⟩
  rw [h4 v hv, h5 v hv, h6 v hv]
  exact (h.2 v hv).frame hv (fun j hj _ => hf j hj)
/-- what changes nodes, kinds, links alone -/
theorem grpB.nodes {be en : Nat} {sof nf kf lf chf pof f nf' kf' lf' f' : Nat → Int32} {sef : Nat → Nat → Int32} (h : grpB be en sof nf kf lf chf pof sef f) (ha : grpA be nf' kf' lf' pof f') (hf : ∀ j, j < 288 → 64 ≤ j → f' j = f j) : grpB be en sof nf' kf' lf' chf pof sef f' :=
  ⟨ha.1, fun v hv => (h.2 v hv).frame hv (fun j hj hc => hf j hj (by unfold vCell at hc; omega))⟩
theorem asked_hi {n al be : Nat} {pr x r : Int32} {f fz : Nat → Int32} {a : Nat} {u : Nat → Nat} (ha : a < 8) (h : askedP n al be pr f x a u r fz) : ∀ j, 48 ≤ j → fz j = f j := fun j hj => by
  obtain ⟨g, z, o, _, e2, _, _, e5, _⟩ := h
  rw [e5 j (by omega) (by omega) (by omega) (by omega) (by omega) (by omega)]
  exact e2 j (by omega)
theorem grpB.hld {n al be en i e : Nat} {ea x r r2 : Int32} {nf kf lf chf pof poz chz f g gsf g1f g2f gaf gpf gmf sof onf otf anf : Nat → Int32} {sef sez : Nat → Nat → Int32} (h : grpB be en sof nf kf lf chf pof sef f) (hg : gphR en gsf g1f g2f gaf gpf gmf sof onf otf anf) (hso : inP 16 8 sof) (hen : en ≤ 16) (hon : parF en onf) (hot : parF en otf) (he : e < en) (hi : i < 8) (hn : n ≤ 8) (hal : al ≤ 8) (hbe : 1 ≤ be ∧ be ≤ 15) (hea : ¬ ea < nI 1)
    (hp : ∀ j, j < 8 → poz j = upd pof i (pof i ||| bitI e) j) (hc : hldC n al be en ea lf kf gsf g1f g2f gaf gpf gmf chf sef i e x r chz sez) (hm : hldM n al be en ea sof onf otf anf i e x r2 f g) : r = r2 ∧ grpB be en sof nf kf lf chz poz sez g := by
  obtain ⟨⟨s, hs⟩, hv⟩ := h
  have b := hld_sim hg hv hso hen hon hot he hi hn hal hbe hea (fun o ho => (hs o ho).2.2.2.1) (fun o ho => (hs i hi).2.2.2.2 o ho) hp hc hm
  refine ⟨b.1, ⟨s, fun j hj => (hs j hj).congr hj rfl rfl rfl (fun k hk => b.2.2 k (by omega) (by unfold vCell; omega))⟩, b.2.1⟩
/-- what a poll that had yes leaves: the chit -/
theorem hldM.chit {n al be en a e : Nat} {ea x r : Int32} {sof onf otf anf f g : Nat → Int32} (ha : a < 8) (he : e < 31) (hso : inP 16 8 sof) (hen : en ≤ 16) (hbe : 1 ≤ be ∧ be ≤ 15) (hea : ¬ ea < nI 1) (h : hldM n al be en ea sof onf otf anf a e x r f g) (hr : nI 0 < r) : hasB (g (64 + a)) e := by
  obtain ⟨c, b, m, h', _, _, hmm, hac, hrr⟩ := h
  have hk : ∀ o, o ≤ en → ∀ (w : Int32) (f0 g : Nat → Int32), mksM en sof anf a (anf e ||| bitI e) w o f0 g → g (64 + a) = f0 (64 + a) := by
    intro o
    induction o with
    | zero => intro _ w f0 g q; replace q : g = f0 := q; rw [q]
    | succ o ih =>
      rintro ho w f0 g ⟨m', h1, h2⟩
      have e1 := ih (by omega) w f0 m' h1
      have h8 := (sT_eq hso (show o < 16 by omega)).1
      rcases h2 with ⟨_, h2⟩ | ⟨_, rfl⟩
      · rcases h2 with ⟨_, rfl⟩ | ⟨_, p, c1, c2, m'', _, _, _, _, _, _, d1, d2⟩
        · rw [upN _ _ (by omega)]; exact e1
        · have em : m'' (64 + a) = m' (64 + a) := by
            rcases d1 with ⟨_, rfl⟩ | ⟨_, rfl⟩
            · exact upN _ _ (by omega)
            · rfl
          rcases d2 with ⟨_, rfl⟩ | ⟨_, rfl⟩
          · rw [upN _ _ (by omega), em]; exact e1
          · rw [upN _ _ (by omega), upN _ _ (by omega), em]; exact e1
      · exact e1
  have ha2 : ∀ o g b, acsM en be ea sof onf otf a (anf e ||| bitI e) o m g b → g (64 + a) = m (64 + a) := by
    intro o
    induction o with
    | zero => rintro g b ⟨q, _⟩; rw [q]
    | succ o ih =>
      rintro g b ⟨m', c', h1, h2⟩
      have e1 := ih m' c' h1
      rcases h2 with ⟨_, q2, _⟩ | ⟨_, rfl, _⟩
      · rw [q2.1 _ (by omega), upN _ _ (by omega)]; exact e1
      · exact e1
  rcases hmm with ⟨q, hh, hmk⟩ | ⟨q, hh, hmk⟩
  · exfalso
    obtain ⟨_, e2⟩ := acs_none hbe hea (zro_mks ha hso hen en (Nat.le_refl _) m hmk).1 en (Nat.le_refl _) g b hac
    rcases hrr with ⟨z, _⟩ | ⟨_, z, _⟩ | ⟨_, _, z⟩
    · exact z e2
    · exact z q
    · rw [z] at hr; exact absurd hr (by decide)
  · rw [ha2 en g b hac, hk en (Nat.le_refl _) _ h' m hmk, hh, upA]
    exact (hasB_orbit he (by omega)).mpr (Or.inr rfl)
section POLB
variable {n k al be en : Nat} {ea : Int32} {nf kf lf gsf g1f g2f gaf gpf gmf sof onf otf anf : Nat → Int32}
def polR (be en : Nat) (sof nf kf lf : Nat → Int32) (t : plC) (t' : plM) : Prop := t.1 = t'.1 ∧ grpB be en sof nf kf lf t.2.2.1 t.2.1 t.2.2.2.1 t'.2.1 ∧ t.2.2.2.2.1 = t'.2.2.1 ∧ t.2.2.2.2.2 = t'.2.2.2
theorem polB_step {m t : plC} {m' t' : plM} (hg : gphR en gsf g1f g2f gaf gpf gmf sof onf otf anf) (hso : inP 16 8 sof) (hen : en ≤ 16) (hon : parF en onf) (hot : parF en otf) (hn : n ≤ 8) (hal : al ≤ 8) (hbe : 1 ≤ be ∧ be ≤ 15) (hea : ¬ ea < nI 1) (h : polR be en sof nf kf lf m m') (hc : stepBC n k al be en ea kf lf gsf g1f g2f gaf gpf gmf m t) (hm : stepBM n k al be en ea sof onf otf anf m' t') : polR be en sof nf kf lf t t' := by
  obtain ⟨md, mp, mc, ms, mq, mk⟩ := m
  obtain ⟨md', mf', mq', mk'⟩ := m'
  obtain ⟨td, tp, tc, ts, tq, tk⟩ := t
  obtain ⟨td', tf', tq', tk'⟩ := t'
  obtain ⟨h1, hb, h3, h4⟩ := h
  replace h1 : md = md' := h1
  subst h1
  replace hb : grpB be en sof nf kf lf mc mp ms mf' := hb
  replace h3 : mq = mq' := h3
  replace h4 : mk = mk' := h4
  obtain ⟨a, ha, ea1, hcase⟩ := hc
  obtain ⟨a', ha', ea2, hcase'⟩ := hm
  obtain rfl : a = a' := (nI_eq (by omega) (by omega)).mp (ea1.trans ea2.symm)
  obtain ⟨s, hs⟩ := hb.1
  have e1 : kf a = mf' (48 + a) := (hs a (by omega)).2.2.2.1
  have e2 : mp a = mf' (72 + a) := (hb.2 a (by omega)).2.1
  replace hcase : (¬ (kf a = 0 ∧ ¬ leftF en (mp a) = 0) ∧ (td, tp, tc, ts, tq, tk) = (nxD md, mp, mc, ms, mq, mk)) ∨ (kf a = 0 ∧ ¬ leftF en (mp a) = 0 ∧ ∃ (e : Nat) (l S r : Int32), e < en ∧ e = nthB (leftF en (mp a)) 31 (drV (nxD (nxD md)) (nI (cntL (leftF en (mp a)) 16))) ∧ dsI n (nxD (nxD md), lefI n a, nI 0) k td l S ∧ (∀ j, j < 8 → tp j = upd mp a (mp a ||| bitI e) j) ∧ hldC n al be en ea lf kf gsf g1f g2f gaf gpf gmf mc ms a e S r tc ts ∧ tq = mq + nI 1 ∧ tk = mk + (if nI 0 < r then nI 1 else nI 0)) := hcase
  rw [e1, e2] at hcase
  rcases hcase with ⟨c1, c2⟩ | ⟨c1, c2, e, l, S, r, he, en1, hd, hp, hh, hq, hk⟩
  · rcases hcase' with ⟨d1, d2⟩ | ⟨d1, d2, _⟩
    · replace d2 : (td', tf', tq', tk') = (nxD md, mf', mq', mk') := d2
      obtain ⟨z1, z2⟩ := Prod.mk.inj c2
      obtain ⟨z3, z4⟩ := Prod.mk.inj z2
      obtain ⟨z5, z6⟩ := Prod.mk.inj z4
      obtain ⟨z7, z8⟩ := Prod.mk.inj z6
      obtain ⟨z9, z10⟩ := Prod.mk.inj z8
      obtain ⟨y1, y2⟩ := Prod.mk.inj d2
      obtain ⟨y3, y4⟩ := Prod.mk.inj y2
      obtain ⟨y5, y6⟩ := Prod.mk.inj y4
      subst z1; subst z3; subst z5; subst z7; subst z9; subst z10; subst y1; subst y3; subst y5; subst y6
      exact ⟨rfl, hb, h3, h4⟩
    · exact absurd ⟨d1, d2⟩ c1
  · rcases hcase' with ⟨d1, d2⟩ | ⟨d1, d2, e', l', S', r', he', en2, hd', hh', hq', hk'⟩
    · exact absurd ⟨c1, c2⟩ d1
    · obtain rfl : e = e' := en1.trans en2.symm
      obtain ⟨x1, x2⟩ := hd.uniq hd'
      subst x2
      have hp2 : ∀ j, j < 8 → tp j = upd mp a (mp a ||| bitI e) j := fun j hj => by rw [hp j hj, e2]
      have b := hb.hld hg hso hen hon hot he (by omega) hn hal hbe hea hp2 hh hh'
      refine ⟨x1, b.2, ?_, ?_⟩
      · show tq = tq'
        replace hq' : tq' = mq' + nI 1 := hq'
        rw [hq, hq', h3]
      · show tk = tk'
        rw [hk, h4]
        rcases hk' with ⟨z1, z2, z3⟩ | ⟨z1, z3⟩
        · replace z3 : tk' = mk' + nI 1 := z3
          rw [z3, b.1, if_pos z1]
        · replace z3 : tk' = mk' := z3
          rw [z3, b.1]
          by_cases w : nI 0 < r'
          · exact absurd ⟨w, hldM.chit (by omega) (by omega) hso hen hbe hea hh' w⟩ z1
          · rw [if_neg w]
            exact Int32.add_zero _
theorem polB_all {s : plC} {s' : plM} (hg : gphR en gsf g1f g2f gaf gpf gmf sof onf otf anf) (hso : inP 16 8 sof) (hen : en ≤ 16) (hon : parF en onf) (hot : parF en otf) (hn : n ≤ 8) (hal : al ≤ 8) (hbe : 1 ≤ be ∧ be ≤ 15) (hea : ¬ ea < nI 1) (h : polR be en sof nf kf lf s s') : ∀ o t t', polBC n k al be en ea kf lf gsf g1f g2f gaf gpf gmf o s t → polBM n k al be en ea sof onf otf anf o s' t' → polR be en sof nf kf lf t t' := by
  intro o
  induction o with
  | zero =>
    intro t t' h1 h3
    replace h1 : t = s := h1
    replace h3 : t' = s' := h3
    rw [h1, h3]
    exact h
  | succ o ih =>
    rintro t t' ⟨m, h1, h3⟩ ⟨m', h4, h5⟩
    exact polB_step hg hso hen hon hot hn hal hbe hea (ih m m' h1 h4) h3 h5
end POLB
/-- what is kept -/
def keptB (be en : Nat) (sof : Nat → Int32) (ke nk : Nat) (c1 c2 c3 c4 c5 : Nat → Nat → Int32) (c6 : Nat → Nat → Nat → Int32) (km : Nat) (g : Nat → Int32) : Prop := (ke = km ∧ km ≤ 8 ∧ nk < 8) ∧ ∀ r, r < km → grpB be en sof (c1 (ixK nk km r)) (c2 (ixK nk km r)) (c3 (ixK nk km r)) (c4 (ixK nk km r)) (c5 (ixK nk km r)) (c6 (ixK nk km r)) (fun j => g (288 * r + j))
section KEPTB
variable {be en ke nk kez nkz km kmz : Nat} {sof : Nat → Int32} {c1 c2 c3 c4 c5 e1 e2 e3 e4 e5 : Nat → Nat → Int32} {c6 e6 : Nat → Nat → Nat → Int32} {nf kf lf chf pof d1 d2 d3 d4 d5 f g gz fz : Nat → Int32} {sef d6 : Nat → Nat → Int32}
theorem keptB.keep (h : keptB be en sof ke nk c1 c2 c3 c4 c5 c6 km g) (hg : grpB be en sof nf kf lf chf pof sef f) (hke : kez = mnK ke) (hnk : nkz = (nk + 1) % 8)
    (q1 : e1 = fun j => if j = nk then d1 else c1 j) (q2 : e2 = fun j => if j = nk then d2 else c2 j) (q3 : e3 = fun j => if j = nk then d3 else c3 j) (q4 : e4 = fun j => if j = nk then d4 else c4 j) (q5 : e5 = fun j => if j = nk then d5 else c5 j) (q6 : e6 = fun j => if j = nk then d6 else c6 j) (h1 : d1 = nf) (h2 : d2 = kf) (h3 : d3 = lf) (h4 : ∀ j, j < 8 → d4 j = chf j) (h5 : ∀ j, j < 8 → d5 j = pof j) (h6 : ∀ j, j < 8 → d6 j = sef j) (hm : kpdP km f g kmz gz) : keptB be en sof kez nkz e1 e2 e3 e4 e5 e6 kmz gz := by
  obtain ⟨⟨hk1, hkm, hnk8⟩, hr⟩ := h
  obtain ⟨hkz, hgz⟩ := hm
  have new : ∀ (i r : Nat), i = nk → (∀ j, j < 288 → gz (288 * r + j) = f j) → grpB be en sof (e1 i) (e2 i) (e3 i) (e4 i) (e5 i) (e6 i) (fun j => gz (288 * r + j)) := fun i r hi hl => by
    rw [q1, q2, q3, q4, q5, q6, hi]
    simp only [if_true]
    exact hg.congr (fun j _ => by rw [h1]) (fun j _ => by rw [h2]) (fun j _ => by rw [h3]) h4 h5 h6 hl
  have old : ∀ (i r s : Nat), ¬ i = nk → s < km → i = ixK nk km s → (∀ j, j < 288 → gz (288 * r + j) = g (288 * s + j)) → grpB be en sof (e1 i) (e2 i) (e3 i) (e4 i) (e5 i) (e6 i) (fun j => gz (288 * r + j)) := fun i r s hi hs hx hl => by
    rw [q1, q2, q3, q4, q5, q6]
    simp only [if_neg hi]
    rw [hx]
    exact (hr s hs).congr (fun _ _ => rfl) (fun _ _ => rfl) (fun _ _ => rfl) (fun _ _ => rfl) (fun _ _ => rfl) (fun _ _ => rfl) hl
  by_cases q : km < 8
  · rw [if_pos q] at hkz
    have hk2 : kez = ke + 1 := by rw [hke]; unfold mnK; exact if_pos (by omega)
    refine ⟨⟨by omega, by omega, by omega⟩, fun r hr' => ?_⟩
    by_cases z : r = km
    · refine new _ r (by unfold ixK; omega) (fun j hj => ?_)
      rw [hgz _ (by omega)]
      unfold keepG
      rw [if_pos q, if_pos (by omega)]
      exact congrArg f (by omega)
    · refine old _ r r (by unfold ixK; omega) (by omega) (by unfold ixK; omega) (fun j hj => ?_)
      rw [hgz _ (by omega)]
      unfold keepG
      rw [if_pos q, if_neg (by omega)]
  · rw [if_neg q] at hkz
    have hk2 : kez = 8 := by rw [hke]; unfold mnK; exact if_neg (by omega)
    refine ⟨⟨by omega, by omega, by omega⟩, fun r hr' => ?_⟩
    by_cases z : r = 7
    · refine new _ r (by unfold ixK; omega) (fun j hj => ?_)
      rw [hgz _ (by omega)]
      unfold keepG
      rw [if_neg q, if_pos (by omega)]
      exact congrArg f (by omega)
    · refine old _ r (r + 1) (by unfold ixK; omega) (by omega) (by unfold ixK; omega) (fun j hj => ?_)
      rw [hgz _ (by omega)]
      unfold keepG
      rw [if_neg q, if_neg (by omega)]
      exact congrArg g (by omega)
theorem keptB.same {I : Nat} (h : keptB be en sof ke nk c1 c2 c3 c4 c5 c6 km g) (hke : kez = ke) (hnk : nkz = nk)
    (q1 : e1 = fun j => if j = I then d1 else c1 j) (q2 : e2 = fun j => if j = I then d2 else c2 j) (q3 : e3 = fun j => if j = I then d3 else c3 j) (q4 : e4 = fun j => if j = I then d4 else c4 j) (q5 : e5 = fun j => if j = I then d5 else c5 j) (q6 : e6 = fun j => if j = I then d6 else c6 j) (h1 : d1 = c1 I) (h2 : d2 = c2 I) (h3 : d3 = c3 I) (h4 : d4 = c4 I) (h5 : d5 = c5 I) (h6 : d6 = c6 I) (hkm : kmz = km) (hgz : gz = g) : keptB be en sof kez nkz e1 e2 e3 e4 e5 e6 kmz gz := by
  rw [q1, q2, q3, q4, q5, q6, h1, h2, h3, h4, h5, h6, put_same, put_same, put_same, put_same, put_same, put_same, hke, hnk, hkm, hgz]
  exact h
theorem keptB.back (h : keptB be en sof ke nk c1 c2 c3 c4 c5 c6 km g) (h0 : ¬ km = 0) (hf : ∀ j, j < 288 → fz j = g (288 * (km - 1) + j)) : grpB be en sof (c1 ((nk + 7) % 8)) (c2 ((nk + 7) % 8)) (c3 ((nk + 7) % 8)) (c4 ((nk + 7) % 8)) (c5 ((nk + 7) % 8)) (c6 ((nk + 7) % 8)) fz ∧ keptB be en sof (ke - 1) ((nk + 7) % 8) c1 c2 c3 c4 c5 c6 (km - 1) g := by
  obtain ⟨⟨hk1, hkm, hnk8⟩, hr⟩ := h
  constructor
  · have z := hr (km - 1) (by omega)
    rw [show ixK nk km (km - 1) = (nk + 7) % 8 by unfold ixK; omega] at z
    exact z.congr (fun _ _ => rfl) (fun _ _ => rfl) (fun _ _ => rfl) (fun _ _ => rfl) (fun _ _ => rfl) (fun _ _ => rfl) hf
  · refine ⟨⟨by omega, by omega, by omega⟩, fun r hr' => ?_⟩
    rw [show ixK ((nk + 7) % 8) (km - 1) r = ixK nk km r by unfold ixK; omega]
    exact hr r (by omega)
theorem keptB.zero (c1 c2 c3 c4 c5 : Nat → Nat → Int32) (c6 : Nat → Nat → Nat → Int32) (g : Nat → Int32) (h : nk < 8) : keptB be en sof 0 nk c1 c2 c3 c4 c5 c6 0 g := ⟨⟨rfl, by decide, h⟩, fun r hr => absurd hr (Nat.not_lt_zero _)⟩
end KEPTB
