/-! a query on both sides -/
theorem rowU.uniq {be a : Nat} {f : Nat → Int32} {u v : Nat → Nat} (h : rowU f a u) (hu : okU be u) (g : rowU f a v) (hv : okU be v) : ∀ i, i < 6 → u i = v i := by
  obtain ⟨h0, h1, h2, h3, h4, h5⟩ := h
  obtain ⟨g0, g1, g2, g3, g4, g5⟩ := g
  obtain ⟨a0, a1, a2, a3, a4, a5, _⟩ := hu
  obtain ⟨b0, b1, b2, b3, b4, b5, _⟩ := hv
  intro i hi
  rcases (show i = 0 ∨ i = 1 ∨ i = 2 ∨ i = 3 ∨ i = 4 ∨ i = 5 by omega) with rfl | rfl | rfl | rfl | rfl | rfl
  · exact cI_inj a0 b0 (h0.symm.trans g0)
  · exact cI_inj a1 b1 (h1.symm.trans g1)
  · exact (nI_eq (by omega) (by omega)).mp (h2.symm.trans g2)
  · exact (nI_eq (by omega) (by omega)).mp (h3.symm.trans g3)
  · exact (nI_eq (by omega) (by omega)).mp (h4.symm.trans g4)
  · exact (nI_eq (by omega) (by omega)).mp (h5.symm.trans g5)
theorem relA.pick {be a : Nat} {nf kf lf f : Nat → Int32} {s : Nat → Nat → Nat} {u : Nat → Nat} (hr : relA be nf kf lf f s) (ha : a < 8) (hu : rowU f a u) (huk : okU be u) : ∃ s' : Nat → Nat → Nat, relA be nf kf lf f s' ∧ s' a = u := by
  refine ⟨fun j => if j = a then u else s j, fun j hj => ?_, if_pos rfl⟩
  obtain ⟨a1, a2, a3, a4, a5⟩ := hr j hj
  by_cases q : j = a
  · subst q
    unfold relN
    simp only [if_true]
    have e := a2.uniq a3 hu huk
    obtain ⟨b0, b1, b2, b3, b4, b5, b6⟩ := a1
    exact ⟨⟨b0.trans (e 0 (by decide)), b1.trans (e 1 (by decide)), b2.trans (e 2 (by decide)), b3.trans (e 3 (by decide)), b4.trans (e 4 (by decide)), b5.trans (e 5 (by decide)), b6⟩, hu, huk, a4, a5⟩
  · unfold relN
    simp only [if_neg q]
    exact ⟨a1, a2, a3, a4, a5⟩
theorem ask_grp {be n k al a : Nat} {pr r : Int32} {nf kf lf pof f nz fz : Nat → Int32} {u : Nat → Nat} {S y1 y2 y3 : Int32} (h : grpA be nf kf lf pof f) (ha : a < n) (hn : n ≤ 8) (hk8 : k < n) (hal : al ≤ 8) (hbe : 1 ≤ be ∧ be ≤ 15) (h2 : k < 2 * al) (hca : mcaP f a) (hS : msmP n k a S) (hu : rowU f a u) (huk : okU be u)
    (hlis : lisI n a lf kf nf 0 y1 y2 y3) (hc : askR n al be pr nf nz a S y1 y2 y3) (hm : askedP n al be pr f S a u r fz) : r = chgF (nf a) (nz a) ∧ grpA be nz kf lf pof fz := by
  obtain ⟨⟨s, hs⟩, hp⟩ := h
  have hcu := can_u hu huk hbe.2 hca
  obtain ⟨s2, hs2, hua⟩ := hs.pick (show a < 8 by omega) hu huk
  have hSS := smp_S hn (show k < 8 by omega) hS
  obtain ⟨g, z, o, e1, e2, e3, e4, e5, e6⟩ := hm
  have b := ask_bridge (k := k) (r := r) (nz := nz) (fz := fz) hs2 ha hn hal hbe h2 (by rw [hua]; exact hcu.1) (by rw [hua]; exact hcu.2.1) hSS.1 hSS.2 hlis hc ⟨g, z, o, e1, e2, by rw [hua]; exact e3, by rw [hua]; exact e4, e5⟩
  refine ⟨b.1, b.2, fun j hj => ?_⟩
  rw [e5 _ (by omega) (by omega) (by omega) (by omega) (by omega) (by omega), e2 _ (by omega)]
  exact hp j hj
/-- what is drawn is a sample -/
theorem ds_ok {n a : Nat} {t0 : Int32} (hn : n ≤ 8) (ha : a < n) : ∀ o, o ≤ n - 1 → ∀ d l s, dsI n (t0, lefI n a, nI 0) o d l s → cntL l 16 = n - 1 - o ∧ cntL s 16 = o ∧ ∀ j, j < 32 → (hasB l j → j < n ∧ ¬ j = a ∧ ¬ hasB s j) ∧ (hasB s j → j < n ∧ ¬ j = a) := by
  have hl : ∀ j, j < 32 → (hasB (lefI n a) j ↔ j < n ∧ ¬ j = a) := fun j hj => by
    unfold lefI
    rw [hasB_and hj, hasB_msk (by omega) hj, hasB_m1 (by omega) hj]
  intro o
  induction o with
  | zero =>
    intro _ d l s h
    have e : (t0, lefI n a, nI 0) = (d, l, s) := h
    cases e
    refine ⟨?_, ?_, fun j hj => ⟨fun q => ⟨((hl j hj).mp q).1, ((hl j hj).mp q).2, hasB_0 hj⟩, fun q => absurd q (hasB_0 hj)⟩⟩
    · exact cnt_all hn ha
    · have z : ∀ d, cntL (nI 0) d = 0 := fun d => by
        induction d with
        | zero => rfl
        | succ d ih =>
          show (if hasB (nI 0) (15 - d) then 1 else 0) + cntL (nI 0) d = 0
          have h0 : ¬ hasB (nI 0) (15 - d) := hasB_0 (k := 15 - d) (by omega)
          rw [ih, if_neg h0]
      exact z 16
  | succ o ih =>
    intro ho d l s h
    obtain ⟨d1, l1, s1, h1⟩ : ∃ d1 l1 s1, dsI n (t0, lefI n a, nI 0) o d1 l1 s1 := ⟨_, _, _, rfl⟩
    obtain ⟨c1, c2, c3⟩ := ih (by omega) d1 l1 s1 h1
    have e : dsS (n - 1 - o) (dsL n (t0, lefI n a, nI 0) o) = (d, l, s) := h
    rw [show dsL n (t0, lefI n a, nI 0) o = (d1, l1, s1) from h1] at e
    obtain ⟨b, hb⟩ : ∃ b, b = nthB l1 31 (drV (nxD d1) (nI (n - 1 - o))) := ⟨_, rfl⟩
    have e2 : (nxD d1, l1 &&& ((bitI b) ^^^ -1), s1 ||| bitI b) = (d, l, s) := by rw [hb]; exact e
    obtain ⟨i, hi, ei⟩ : ∃ i, i < n - 1 - o ∧ drV (nxD d1) (nI (n - 1 - o)) = nI i := drw (nxD d1) (by omega) (by omega)
    have hin := nth_in (x := l1) 17 0 i (by omega) (by omega) (by rw [c1]; exact hi)
    rw [← ei, show 31 - 0 = 31 from rfl, ← hb] at hin
    have hbl := (c3 b (by omega)).1 hin.1
    obtain ⟨e5, e6⟩ := Prod.mk.inj e2
    obtain ⟨e7, e8⟩ := Prod.mk.inj e6
    subst e5; subst e7; subst e8
    have hsb : (s1 ||| bitI b) &&& ((bitI b) ^^^ -1) = s1 := by
      apply hasB_ext
      intro j hj
      rw [hasB_and hj, hasB_orbit (by omega) hj, hasB_m1 (by omega) hj]
      constructor
      · rintro ⟨q1 | q1, q2⟩
        · exact q1
        · exact absurd q1 q2
      · intro q
        exact ⟨Or.inl q, fun z => hbl.2.2 (z ▸ q)⟩
    refine ⟨?_, ?_, fun j hj => ⟨fun q => ?_, fun q => ?_⟩⟩
    · have z : cntL (l1 &&& ((bitI b) ^^^ -1)) 16 + 1 = cntL l1 16 := cnt_rem hin.2 hin.1
      rw [c1] at z
      omega
    · have z := cnt_rem (x := s1 ||| bitI b) hin.2 ((hasB_orbit (by omega) (by omega)).mpr (Or.inr rfl))
      rw [hsb] at z
      omega
    · have q2 := (hasB_and hj).mp q
      have q3 := (c3 j hj).1 q2.1
      refine ⟨q3.1, q3.2.1, fun z => ?_⟩
      rcases (hasB_orbit (by omega) hj).mp z with w | w
      · exact q3.2.2 w
      · exact (hasB_m1 (by omega) hj).mp q2.2 w
    · rcases (hasB_orbit (by omega) hj).mp q with w | w
      · exact (c3 j hj).2 w
      · rw [w]; exact ⟨hbl.1, hbl.2.1⟩
theorem ds_smp {n k a : Nat} {t0 d l s : Int32} (hn : n ≤ 8) (hk : k < n) (ha : a < n) (h : dsI n (t0, lefI n a, nI 0) k d l s) : msmP n k a s := by
  obtain ⟨_, c2, c3⟩ := ds_ok hn ha k (by omega) d l s h
  refine ⟨(low_range hn).mpr (fun j h1 h2 q => ?_), fun q => ((c3 a (by omega)).2 q).2 rfl, by rw [c2]⟩
  have := ((c3 j h2).2 q).1
  omega
theorem dsI.uniq {n o : Nat} {t : Int32 × Int32 × Int32} {d l s d2 l2 s2 : Int32} (h : dsI n t o d l s) (g : dsI n t o d2 l2 s2) : d = d2 ∧ s = s2 := by
  have e : (d, l, s) = (d2, l2, s2) := (show dsL n t o = (d, l, s) from h).symm.trans g
  cases e
  exact ⟨rfl, rfl⟩
theorem cak_iff {be n k a : Nat} {nf kf lf f : Nat → Int32} {u : Nat → Nat} {S : Int32} (hn : n ≤ 8) (ha : a < n) (h : relN be nf kf lf f u a) : cakP n k (nI a) S nf kf ↔ (msmP n k a S ∧ mcaP f a) := by
  unfold cakP
  rw [nI_clamp (by omega), smp_iff hn ha, ask_iff h]
def runR (be : Nat) (kf lf pof : Nat → Int32) (t : rnC) (t' : rnS) : Prop := t.1 = t'.1 ∧ grpA be t.2.1 kf lf pof t'.2.1 ∧ (∀ j, j < 8 → t.2.2.1 j = t'.2.2.1 j) ∧ t.2.2.2 = t'.2.2.2.2
theorem upd_q {f g : Nat → Int32} (h : ∀ j, j < 8 → f j = g j) {a : Nat} (ha : a < 8) : ∀ j, j < 8 → upd f a (f a + nI 1) j = upd g a (g a + nI 1) j := fun j hj => by
  unfold upd
  by_cases q : j = a
  · rw [if_pos q, if_pos q, h a ha]
  · rw [if_neg q, if_neg q]; exact h j hj
theorem run_step {be n k al : Nat} {pr : Int32} {kf lf pof : Nat → Int32} {m t : rnC} {m' t' : rnS} (hn : n ≤ 8) (hk : k < n) (hal : al ≤ 8) (hbe : 1 ≤ be ∧ be ≤ 15) (h2 : k < 2 * al) (h : runR be kf lf pof m m') (hc : stepC n k al be pr kf lf m t) (hm : stepM n k al be pr m' t') : runR be kf lf pof t t' := by
  obtain ⟨md, mf, mq, mc⟩ := m
  obtain ⟨md', mf', mq', mn', mc'⟩ := m'
  obtain ⟨td, tf, tq, tc⟩ := t
  obtain ⟨td', tf', tq', tn', tc'⟩ := t'
  obtain ⟨h1, hg, hq, hcn⟩ := h
  obtain ⟨a, l, S, ha, ea, hd, hcase⟩ := hc
  obtain ⟨a', l', S', ha', ea', hd', hcase'⟩ := hm
  replace h1 : md = md' := h1
  subst h1
  obtain rfl : a = a' := (nI_eq (by omega) (by omega)).mp (ea.trans ea'.symm)
  obtain ⟨e1, e2⟩ := hd.uniq hd'
  replace e1 : td = td' := e1
  subst e1
  subst e2
  have hS := ds_smp hn hk ha hd
  obtain ⟨s, hs⟩ := hg.1
  have hi := cak_iff (k := k) (S := S) hn ha (hs a (by omega))
  rcases hcase with ⟨c1, c2⟩ | ⟨c1, y1, y2, y3, r, hl, hr, hA, hqf, hct⟩
  · rcases hcase' with ⟨d1, d2⟩ | ⟨d1, _⟩
    · cases c2; cases d2
      exact ⟨rfl, hg, hq, hcn⟩
    · exact absurd (hi.mpr ⟨hS, d1⟩) c1
  · rcases hcase' with ⟨d1, d2⟩ | ⟨d1, u, r', hu, huk, hask, hqq, hnq, hct'⟩
    · exact absurd (hi.mp c1).2 d1
    · have b := ask_grp hg ha hn hk hal hbe h2 d1 hS hu huk hl hA hask
      have er : r = r' := hr.trans b.1.symm
      refine ⟨rfl, b.2, ?_, ?_⟩
      · replace hqf : tq = upd mq a (mq a + nI 1) := hqf
        replace hqq : tq' = upd mq' a (mq' a + nI 1) := hqq
        show ∀ j, j < 8 → tq j = tq' j
        rw [hqf, hqq]
        exact upd_q hq (by omega)
      · replace hct : tc = if r = nI 2 then mc + nI 1 else mc := hct
        replace hct' : tc' = if r' = nI 2 then mc' + nI 1 else mc' := hct'
        replace hcn : mc = mc' := hcn
        show tc = tc'
        rw [hct, hct', er, hcn]
theorem run_grp {be n k al : Nat} {pr : Int32} {kf lf pof : Nat → Int32} {s : rnC} {s' : rnS} (hn : n ≤ 8) (hk : k < n) (hal : al ≤ 8) (hbe : 1 ≤ be ∧ be ≤ 15) (h2 : k < 2 * al) (h : runR be kf lf pof s s') : ∀ o t t', runC n k al be pr kf lf o s t → runM n k al be pr o s' t' → runR be kf lf pof t t' := by
  intro o
  induction o with
  | zero =>
    intro t t' h1 h3
    replace h1 : t = s := h1
    replace h3 : t' = s' := h3
    rw [h1, h3]
    exact h
  | succ o ih =>
    rintro t t' ⟨m, h1, h3⟩ ⟨m', h4, h5⟩
    exact run_step hn hk hal hbe h2 (ih m m' h1 h4) h3 h5
/-- polls -/
theorem grpA.poll {be a e : Nat} {nf kf lf pof poz f fz : Nat → Int32} (h : grpA be nf kf lf pof f) (ha : a < 8) (hp : ∀ j, j < 8 → poz j = upd pof a (pof a ||| bitI e) j) (hl : lowE (upd f (72 + a) (f (72 + a) ||| bitI e)) fz) : grpA be nf kf lf poz fz := by
  obtain ⟨⟨s, hs⟩, hq⟩ := h
  have e1 : ∀ i, i < 64 → fz i = f i := fun i hi => by rw [hl i (Or.inl hi)]; unfold upd; rw [if_neg (by omega)]
  refine ⟨⟨s, fun j hj => (hs j hj).congr hj rfl rfl rfl e1⟩, fun j hj => ?_⟩
  rw [hp j hj, hl _ (Or.inr (by omega))]
  unfold upd
  by_cases q : j = a
  · rw [if_pos q, if_pos (by omega), hq a ha]
  · rw [if_neg q, if_neg (by omega)]; exact hq j hj
theorem ccp_iff {be n k a e : Nat} {nf kf lf pof f : Nat → Int32} {b : Int32} (h : grpA be nf kf lf pof f) (hn : n ≤ 8) (ha : a < n) : ccpP n k kf pof (nI a) b a e ↔ mcpP n k f b a e := by
  obtain ⟨⟨s, hs⟩, hq⟩ := h
  unfold ccpP mcpP
  rw [smp_iff hn ha, (hs a (by omega)).2.2.2.1, hq a (by omega)]
theorem pol_step {be n k en : Nat} {nf kf lf : Nat → Int32} {m t : Int32 × (Nat → Int32)} {m' t' : Int32 × (Nat → Int32)} (hn : n ≤ 8) (h : m.1 = m'.1 ∧ grpA be nf kf lf m.2 m'.2) (hc : stepPC n k en kf m t) (hm : stepPM n k en m' t') : t.1 = t'.1 ∧ grpA be nf kf lf t.2 t'.2 := by
  obtain ⟨md, mf⟩ := m
  obtain ⟨md', mf'⟩ := m'
  obtain ⟨td, tf⟩ := t
  obtain ⟨td', tf'⟩ := t'
  obtain ⟨h1, hg⟩ := h
  replace h1 : md = md' := h1
  subst h1
  replace hg : grpA be nf kf lf mf mf' := hg
  obtain ⟨a, ha, ea, hcase⟩ := hc
  obtain ⟨a', ha', ea', hcase'⟩ := hm
  obtain rfl : a = a' := (nI_eq (by omega) (by omega)).mp (ea.trans ea'.symm)
  obtain ⟨⟨s, hs⟩, hq⟩ := id hg
  have e1 : kf a = mf' (48 + a) := (hs a (by omega)).2.2.2.1
  have e2 : mf a = mf' (72 + a) := hq a (by omega)
  replace hcase : (¬ (kf a = 0 ∧ ¬ leftF en (mf a) = 0) ∧ (td, tf) = (nxD md, mf)) ∨ (kf a = 0 ∧ ¬ leftF en (mf a) = 0 ∧ ∃ (e : Nat) (l S : Int32), e < en ∧ e = nthB (leftF en (mf a)) 31 (drV (nxD (nxD md)) (nI (cntL (leftF en (mf a)) 16))) ∧ dsI n (nxD (nxD md), lefI n a, nI 0) k td l S ∧ ∀ j, j < 8 → tf j = upd mf a (mf a ||| bitI e) j) := hcase
  rw [e1, e2] at hcase
  rcases hcase with ⟨c1, c2⟩ | ⟨c1, c2, e, l, S, he, en1, hd, hp⟩
  · rcases hcase' with ⟨d1, d2⟩ | ⟨d1, d2, _⟩
    · obtain ⟨e5, e6⟩ := Prod.mk.inj c2
      obtain ⟨e7, e8⟩ := Prod.mk.inj d2
      subst e5; subst e6; subst e7; subst e8
      exact ⟨rfl, hg⟩
    · exact absurd ⟨d1, d2⟩ c1
  · rcases hcase' with ⟨d1, d2⟩ | ⟨d1, d2, e', l', S', he', en2, hd', hl⟩
    · exact absurd ⟨c1, c2⟩ d1
    · obtain rfl : e = e' := en1.trans en2.symm
      refine ⟨(hd.uniq hd').1, hg.poll (by omega) (fun j hj => ?_) hl⟩
      show tf j = _
      rw [hp j hj, e2]
theorem pol_grp {be n k en : Nat} {nf kf lf : Nat → Int32} {s s' : Int32 × (Nat → Int32)} (hn : n ≤ 8) (h : s.1 = s'.1 ∧ grpA be nf kf lf s.2 s'.2) : ∀ o t t', polsC n k en kf o s t → polsM n k en o s' t' → t.1 = t'.1 ∧ grpA be nf kf lf t.2 t'.2 := by
  intro o
  induction o with
  | zero =>
    intro t t' h1 h3
    replace h1 : t = s := h1
    replace h3 : t' = s' := h3
    rw [h1, h3]
    exact h
  | succ o ih =>
    rintro t t' ⟨m, h1, h3⟩ ⟨m', h4, h5⟩
    exact pol_step hn (ih m m' h1 h4) h3 h5
/-- what a node has -/
theorem nd_eq {be a : Nat} {nf kf lf pof f qf qq : Nat → Int32} {y : Int32} (h : grpA be nf kf lf pof f) (ha : a < 8) (hq : ∀ j, j < 8 → qf j = qq j) : ndC nf kf qf a y = ndV f qq a y := by
  obtain ⟨⟨s, hs⟩, _⟩ := h
  obtain ⟨a1, a2, a3, a4, a5⟩ := hs a ha
  have c3 : cofF (nf a) (nI 0) = f (24 + a) := by rw [show nI 0 = cI 1 from by decide, a1.cof (Or.inl rfl)]; exact a2.2.2.2.1.symm
  have c4 : cofF (nf a) (nI 1) = f (32 + a) := by rw [show nI 1 = cI 2 from by decide, a1.cof (Or.inr rfl)]; exact a2.2.2.2.2.1.symm
  have c5 : (if nf a &&& dcM = 0 then nI 0 else nI 1) = f (40 + a) := by
    rw [a2.2.2.2.2.2]
    have := a3.2.2.2.2.2.1
    by_cases q : s a 5 = 0
    · rw [if_pos (a1.dec.mpr q), q]
    · rw [if_neg (fun z => q (a1.dec.mp z)), show s a 5 = 1 by omega]
  unfold ndC ndV
  rw [a1.col, a1.las, a1.cnt, c3, c4, c5, a4, hq a ha, ← a2.1, ← a2.2.1, ← a2.2.2.1]
