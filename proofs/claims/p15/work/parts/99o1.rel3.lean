theorem lowQ.of {f g : Nat → Int32} (h : g = f) : lowQ f g := fun j _ => (congrFun h j).symm

/-- what a run of queries leaves alone -/
theorem run_more {n k al be : Nat} {pr : Int32} {s : rnS} (hn : n ≤ 8) (hs : s.2.2.2.1 = qsm s.2.2.1 n) : ∀ o t, runM n k al be pr o s t → (∀ j, 48 ≤ j → t.2.1 j = s.2.1 j) ∧ t.2.2.2.1 = qsm t.2.2.1 n := by
  intro o
  induction o with
  | zero => intro t h; replace h : t = s := h; rw [h]; exact ⟨fun _ _ => rfl, hs⟩
  | succ o ih =>
    rintro t ⟨m, h1, a, l, S, ha, _, _, h2⟩
    obtain ⟨i1, i2⟩ := ih m h1
    rcases h2 with ⟨_, h2⟩ | ⟨_, u, r, _, _, hask, hq, hnq, _⟩
    · rw [h2]; exact ⟨i1, i2⟩
    · refine ⟨fun j hj => (asked_hi (by omega) hask j hj).trans (i1 j hj), ?_⟩
      rw [hnq, hq, qsm_upd n ha, i2]
/-- the rest: the entries, early, what was counted -/
def RstB (n en : Nat) (ea : Int32) (cI : Nat → Int32) (cF : Nat → Nat → Int32) (mI : Nat → Int32) (mF : Nat → Nat → Int32) : Prop := gphR en (cF 5) (cF 6) (cF 7) (cF 8) (cF 9) (cF 11) (mF 4) (mF 5) (mF 6) (mF 7) ∧ ¬ ea < nI 1 ∧ (inP 16 8 (mF 4) ∧ parF en (mF 5) ∧ parF en (mF 6)) ∧ cI 0 = mI 1 ∧ mI 0 = qsm (mF 3) n
def RelB (n be en : Nat) (ea pr : Int32) (cN : Nat → Nat) (cI : Nat → Int32) (cF : Nat → Nat → Int32) (cG : Nat → Nat → Nat → Int32) (cP cQ : Nat → Nat → Nat → Int32) (mN : Nat → Nat) (mI : Nat → Int32) (mF : Nat → Nat → Int32) : Prop := (pr = 0 ∨ pr = nI 1 ∨ pr = nI 2) ∧ grpB be en (mF 4) (cF 0) (cF 1) (cF 2) (cF 3) (cF 4) (cG 0) (mF 0) ∧ keptB be en (mF 4) (cN 1) (cN 2) (cP 0) (cP 1) (cP 2) (cP 3) (cP 4) cQ (mN 0) (mF 1) ∧ (∀ j, j < 8 → cF 16 j = mF 3 j) ∧ RstB n en ea cI cF mI mF
theorem vewR.fresh {sof : Nat → Int32} {v : Nat} (hv : v < 8) : vewR 0 sof (nI 0) (nI 0) vF freshS v := by
  have e1 : ∀ v, v < 8 → freshS (64 + v) = nI 0 ∧ freshS (72 + v) = nI 0 ∧ freshS (80 + v) = nI 0 ∧ freshS (88 + v) = nI 0 := by decide +kernel
  have e2 : ∀ i, i < 64 → freshS (96 + i) = -1 ∧ freshS (160 + i) = -1 ∧ freshS (224 + i) = nI 0 := by decide +kernel
  have e3 : ∀ t, t < 8 → vF (t * 4 + 0) = -1 ∧ vF (t * 4 + 1) = -1 ∧ vF (t * 4 + 2) = nI 0 ∧ vF (t * 4 + 3) = -1 := by decide +kernel
  obtain ⟨a1, a2, a3, a4⟩ := e1 v hv
  refine ⟨a1.symm, a2.symm, fun t ht => ?_, fun e e' he => absurd he (Nat.not_lt_zero _), fun e he => absurd he (Nat.not_lt_zero _), fun k _ hk => ?_, fun t ht => Or.inl ⟨(e2 (8 * v + t) (by omega)).1, fun e he => absurd he (Nat.not_lt_zero _)⟩⟩
  · obtain ⟨b1, b2, b3⟩ := e2 (8 * v + t) (by omega)
    obtain ⟨c1, c2, c3, c4⟩ := e3 t ht
    exact ⟨c1.trans b1.symm, c2.trans b2.symm, c3.trans b3.symm, Or.inr ⟨fun e he => absurd he (Nat.not_lt_zero _), c4⟩⟩
  · rw [a1, a2, a3, a4]
    exact ⟨hasB_0 hk, hasB_0 hk, hasB_0 hk, hasB_0 hk⟩
theorem grpB.fresh {be : Nat} {sof : Nat → Int32} (hb : 1 ≤ be) : grpB be 0 sof (fun _ => nI 0) (fun _ => nI 0) (fun _ => -1) (fun _ => nI 0) (fun _ => nI 0) (fun _ => vF) freshS := ⟨(grpA.fresh hb).1, fun _ hv => vewR.fresh hv⟩
theorem gphR.fresh {gsf g1f g2f gaf gpf sof onf otf anf : Nat → Int32} : gphR 0 gsf g1f g2f gaf gpf (fun _ => nI 0) sof onf otf anf := ⟨fun e he => absurd he (Nat.not_lt_zero _), fun t _ k hk => ⟨fun q => absurd q (hasB_0 hk), fun q => absurd q.1 (Nat.not_lt_zero _)⟩⟩
theorem parF.fresh {f : Nat → Int32} : parF 0 f := fun e he => absurd he (Nat.not_lt_zero _)
theorem mnE_1 {ea : Int32} {be : Nat} (h : ¬ ea < nI 1) (hb : 1 ≤ be ∧ be ≤ 15) : ¬ mnE ea be < nI 1 := by
  unfold mnE
  split
  · intro q
    exact absurd ((nI_ltI (by omega) (by decide)).mp q) (by omega)
  · exact h
section RELS
variable {n k al be en : Nat} {ea pr r r2 : Int32} {x y z w9 : Int32} {cN : Nat → Nat} {cI : Nat → Int32} {cF : Nat → Nat → Int32} {cG : Nat → Nat → Nat → Int32} {cP : Nat → Nat → Nat → Int32} {cQ : Nat → Nat → Nat → Int32} {cN2 : Nat → Nat} {cI2 : Nat → Int32} {cF2 : Nat → Nat → Int32} {cG2 : Nat → Nat → Nat → Int32} {cP2 : Nat → Nat → Nat → Int32} {cQ2 : Nat → Nat → Nat → Int32} {mN : Nat → Nat} {mI : Nat → Int32} {mF : Nat → Nat → Int32} {mN2 : Nat → Nat} {mI2 : Nat → Int32} {mF2 : Nat → Nat → Int32}
theorem RstB.mk (h : RstB n en ea cI cF mI mF) (e1 : cF2 5 = cF 5) (e2 : cF2 6 = cF 6) (e3 : cF2 7 = cF 7) (e4 : cF2 8 = cF 8) (e5 : cF2 9 = cF 9) (e6 : cF2 11 = cF 11) (f1 : mF2 4 = mF 4) (f2 : mF2 5 = mF 5) (f3 : mF2 6 = mF 6) (f4 : mF2 7 = mF 7) (hp : cI2 0 = mI2 1) (hn : mI2 0 = qsm (mF2 3) n) : RstB n en ea cI2 cF2 mI2 mF2 := by
  unfold RstB
  rw [e1, e2, e3, e4, e5, e6, f1, f2, f3, f4]
  exact ⟨h.1, h.2.1, h.2.2.1, hp, hn⟩
theorem RelB.row (h : RelB n be en ea pr cN cI cF cG cP cQ mN mI mF) : ∃ uu : Nat → Nat → Nat, ∀ j, j < 8 → rowU (mF 0) j (uu j) ∧ okU be (uu j) := by
  obtain ⟨_, ⟨⟨s, hs⟩, _⟩, _⟩ := h
  exact ⟨s, fun j hj => ⟨(hs j hj).2.1, (hs j hj).2.2.1⟩⟩
theorem RelB.row1 (h : RelB n be en ea pr cN cI cF cG cP cQ mN mI mF) : ∀ j, j < 8 → ∃ v, rowU (mF 0) j v ∧ okU be v := by
  obtain ⟨s, hs⟩ := h.row
  exact fun j hj => ⟨s j, hs j hj⟩
theorem RelB.prf (h : RelB n be en ea pr cN cI cF cG cP cQ mN mI mF) (hen : en ≤ 16) : ∀ a, a < 8 → prfM en (mF 4) a (mF 0) := fun a ha k hk => by
  obtain ⟨h8, hs8⟩ := sT_eq h.2.2.2.2.2.2.1.1 (show k < 16 by omega)
  rcases (h.2.1.2 a ha).2.2.2.2.2.2 _ h8 with ⟨_, q⟩ | ⟨p, hp, _, q⟩
  · exact absurd hs8 (q k hk)
  · exact ⟨p, by omega, q⟩
theorem RelB.same (h : RelB n be en ea pr cN cI cF cG cP cQ mN mI mF) (e1 : cN2 1 = cN 1) (e2 : cN2 2 = cN 2) (ep : cI2 0 = cI 0) (a0 : cF2 0 = cF 0) (a1 : cF2 1 = cF 1) (a2 : cF2 2 = cF 2) (a3 : cF2 3 = cF 3) (a4 : cF2 4 = cF 4) (a5 : cG2 0 = cG 0) (aq : cF2 16 = cF 16) (g1 : cF2 5 = cF 5) (g2 : cF2 6 = cF 6) (g3 : cF2 7 = cF 7) (g4 : cF2 8 = cF 8) (g5 : cF2 9 = cF 9) (g6 : cF2 11 = cF 11) (p : cP2 = cP) (q : cQ2 = cQ)
    (b0 : mN2 0 = mN 0) (bn : mI2 0 = mI 0) (bp : mI2 1 = mI 1) (b1 : ∀ j, j < 288 → mF2 0 j = mF 0 j) (b2 : mF2 1 = mF 1) (b3 : mF2 3 = mF 3) (f1 : mF2 4 = mF 4) (f2 : mF2 5 = mF 5) (f3 : mF2 6 = mF 6) (f4 : mF2 7 = mF 7) : RelB n be en ea pr cN2 cI2 cF2 cG2 cP2 cQ2 mN2 mI2 mF2 := by
  obtain ⟨h1, h2, h3, h4, h5⟩ := h
  refine ⟨h1, ?_, ?_, ?_, h5.mk g1 g2 g3 g4 g5 g6 f1 f2 f3 f4 (by rw [ep, bp]; exact h5.2.2.2.1) (by rw [bn, b3]; exact h5.2.2.2.2)⟩
  · rw [f1, a0, a1, a2, a3, a4, a5]
    exact h2.congr (fun _ _ => rfl) (fun _ _ => rfl) (fun _ _ => rfl) (fun _ _ => rfl) (fun _ _ => rfl) (fun _ _ => rfl) b1
  · rw [f1, e1, e2, p, q, b0, b2]; exact h3
  · rw [aq, b3]; exact h4
theorem RelB.prz (h : RelB n be en ea pr cN cI cF cG cP cQ mN mI mF) {p2 : Int32} (hp : (¬ x < 0 ∧ x ≤ nI 2 → p2 = x) ∧ (¬ (¬ x < 0 ∧ x ≤ nI 2) → p2 = pr)) : RelB n be en ea p2 cN cI cF cG cP cQ mN mI mF := by
  refine ⟨?_, h.2⟩
  by_cases q : ¬ x < 0 ∧ x ≤ nI 2
  · obtain ⟨j, hj, e⟩ := nI_of2 (n := 2) (M := nI 2) (by decide) q.1 q.2
    rw [hp.1 q, e]
    rcases (show j = 0 ∨ j = 1 ∨ j = 2 by omega) with rfl | rfl | rfl
    · exact Or.inl rfl
    · exact Or.inr (Or.inl rfl)
    · exact Or.inr (Or.inr rfl)
  · rw [hp.2 q]; exact h.1
theorem RelB.eaz (h : RelB n be en ea pr cN cI cF cG cP cQ mN mI mF) {e2 : Int32} (hp : (¬ x < nI 1 ∧ x ≤ nI be → e2 = x) ∧ (¬ (¬ x < nI 1 ∧ x ≤ nI be) → e2 = ea)) : RelB n be en e2 pr cN cI cF cG cP cQ mN mI mF := by
  obtain ⟨h1, h2, h3, h4, h5, h6, h7⟩ := h
  refine ⟨h1, h2, h3, h4, h5, ?_, h7⟩
  by_cases q : ¬ x < nI 1 ∧ x ≤ nI be
  · rw [hp.1 q]; exact q.1
  · rw [hp.2 q]; exact h6
theorem RelB.fresh {n2 be2 : Nat} (h : RelB n be en ea pr cN cI cF cG cP cQ mN mI mF) (hb : 1 ≤ be2 ∧ be2 ≤ 15) (hc : cN2 1 = 0 ∧ cF2 0 = (fun _ => nI 0) ∧ cF2 1 = (fun _ => nI 0) ∧ cF2 2 = (fun _ => -1) ∧ cF2 3 = (fun _ => nI 0) ∧ cF2 4 = (fun _ => nI 0) ∧ cG2 0 = (fun _ => vF) ∧ cF2 16 = (fun _ => nI 0) ∧ cI2 0 = nI 0 ∧ cF2 11 = (fun _ => nI 0) ∧ cN2 2 = cN 2 ∧ cP2 = cP ∧ cQ2 = cQ) (hm : mN2 0 = 0 ∧ mF2 0 = freshS ∧ mF2 3 = (fun _ => nI 0) ∧ mF2 1 = mF 1 ∧ mI2 0 = nI 0 ∧ mI2 1 = nI 0 ∧ inP 16 8 (mF2 4)) : RelB n2 be2 0 (mnE ea be2) pr cN2 cI2 cF2 cG2 cP2 cQ2 mN2 mI2 mF2 := by
  obtain ⟨h1, h2, h3, h4, h5⟩ := h
  obtain ⟨c1, c2, c3, c4, c5, c6, c7, c8, c9, c10, c11, c12, c13⟩ := hc
  obtain ⟨m1, m2, m3, m4, m5, m6, m7⟩ := hm
  refine ⟨h1, ?_, ?_, ?_, ?_, mnE_1 h5.2.1 hb, ⟨m7, parF.fresh, parF.fresh⟩, ?_, ?_⟩
  · rw [c2, c3, c4, c5, c6, c7, m2]; exact grpB.fresh hb.1
  · rw [c1, m1, c11]; exact keptB.zero _ _ _ _ _ _ _ h3.1.2.2
  · rw [c8, m3]; exact fun _ _ => rfl
  · rw [c10]; exact gphR.fresh
  · rw [c9, m6]
  · rw [m5, m3]; exact (qsm_0 n2).symm

theorem br_kind (hG : GP n k al be en) (hR : RelB n be en ea pr cN cI cF cG cP cQ mN mI mF) (hc : ∃ (d1 d2 d3 d4 d5 : Nat → Int32) (d6 : Nat → Nat → Int32), ((((cN2 1) ≤ 8 ∧ (cN2 2) < 8 ∧ ∀ j, j < 8 → prP (d6 j)) ∧ ((∃ a, a < n ∧ x = nI a ∧ (¬ y < 0 ∧ y ≤ nI 4) ∧ r = (cF 1) a ∧ (cF2 1) = upd (cF 1) a y ∧ (((cN2 1), (cI2 2)) = (mnK (cN 1), (cI 2) + nI 1) ∧ (cN2 2) = ((cN 2) + 1) % 8 ∧ d1 = (cF 0) ∧ d2 = (cF 1) ∧ d3 = (cF 2) ∧ (∀ j, j < 8 → d4 j = (cF 3) j) ∧ (∀ j, j < 8 → d5 j = (cF 4) j) ∧ ∀ j, j < 8 → d6 j = (cG 0) j)) ∨ (¬ (okN n x ∧ ¬ y < 0 ∧ y ≤ nI 4) ∧ r = -1 ∧ (((cN2 1), (cI2 2)) = ((cN 1), (cI 2)) ∧ (cN2 2) = (cN 2) ∧ d1 = (cP 0 (cN 2)) ∧ d2 = (cP 1 (cN 2)) ∧ d3 = (cP 2 (cN 2)) ∧ d4 = (cP 3 (cN 2)) ∧ d5 = (cP 4 (cN 2)) ∧ d6 = (cQ (cN 2))) ∧ (cF2 1) = (cF 1)))) ∧ cP2 0 = (fun j => if j = (cN 2) then d1 else cP 0 j) ∧ cP2 1 = (fun j => if j = (cN 2) then d2 else cP 1 j) ∧ cP2 2 = (fun j => if j = (cN 2) then d3 else cP 2 j) ∧ cP2 3 = (fun j => if j = (cN 2) then d4 else cP 3 j) ∧ cP2 4 = (fun j => if j = (cN 2) then d5 else cP 4 j) ∧ cQ2 = (fun j => if j = (cN 2) then d6 else cQ j))) (he : cI2 0 = cI 0 ∧ cF2 0 = cF 0 ∧ cF2 2 = cF 2 ∧ cF2 3 = cF 3 ∧ cF2 4 = cF 4 ∧ cG2 0 = cG 0 ∧ cF2 16 = cF 16 ∧ cF2 5 = cF 5 ∧ cF2 6 = cF 6 ∧ cF2 7 = cF 7 ∧ cF2 8 = cF 8 ∧ cF2 9 = cF 9 ∧ cF2 10 = cF 10 ∧ cF2 11 = cF 11 ∧ cN2 0 = cN 0 ∧ cG2 1 = cG 1 ∧ cI2 6 = cI 6 ∧ cI2 7 = cI 7) (hm : (colP (mF2 0) ∧ keptP (mF2 1) ∧ (mN2 0) ≤ 8) ∧ ((∃ a, a < n ∧ x = nI a ∧ (¬ y < nI 0 ∧ y ≤ nI 4) ∧ r2 = (mF 0) (48 + a) ∧ (mF2 0) = upd (mF 0) (48 + a) y ∧ kpdP (mN 0) (mF 0) (mF 1) (mN2 0) (mF2 1)) ∨ (¬ (okN n x ∧ ¬ y < nI 0 ∧ y ≤ nI 4) ∧ r2 = -1 ∧ (mF2 0) = (mF 0) ∧ (mF2 1) = (mF 1) ∧ (mN2 0) = (mN 0)))) (hf : mI2 0 = mI 0 ∧ mI2 1 = mI 1 ∧ mF2 3 = mF 3 ∧ mF2 4 = mF 4 ∧ mF2 5 = mF 5 ∧ mF2 6 = mF 6 ∧ mF2 7 = mF 7) : RelB n be en ea pr cN2 cI2 cF2 cG2 cP2 cQ2 mN2 mI2 mF2 ∧ r = r2 ∧ ((cI2 2 = cI 2 ∧ lowQ (mF 0) (mF2 0)) ∨ cI2 2 = cI 2 + nI 1) := by
  obtain ⟨⟨hn2, hn8⟩, hkn, hal, hbe, hen⟩ := hG
  obtain ⟨hp, hg, hk, hq, hT⟩ := hR
  obtain ⟨d1, d2, d3, d4, d5, d6, ⟨_, hc⟩, p0, p1, p2, p3, p4, p5⟩ := hc
  obtain ⟨_, hm⟩ := hm
  rcases hc with ⟨a, ha, hx, hy, hr, hz, k1, k2, k3, k4, k5, k6, k7, k8⟩ | ⟨hn, hr, ⟨s1, s2, s3, s4, s5, s6, s7, s8⟩, hz⟩
  · rcases hm with ⟨a', ha', hx', hy', hr', hfz, hkp⟩ | ⟨hn', _⟩
    · obtain rfl : a = a' := (nI_eq (by omega) (by omega)).mp (hx.symm.trans hx')
      refine ⟨⟨hp, ?_, (by rw [hf.2.2.2.1]; exact hk.keep hg (pf1 k1) k2 p0 p1 p2 p3 p4 p5 k3 k4 k5 k6 k7 k8 hkp), (by rw [he.2.2.2.2.2.2.1, hf.2.2.1]; exact hq), (hT.mk he.2.2.2.2.2.2.2.1 he.2.2.2.2.2.2.2.2.1 he.2.2.2.2.2.2.2.2.2.1 he.2.2.2.2.2.2.2.2.2.2.1 he.2.2.2.2.2.2.2.2.2.2.2.1 he.2.2.2.2.2.2.2.2.2.2.2.2.2.1 hf.2.2.2.1 hf.2.2.2.2.1 hf.2.2.2.2.2.1 hf.2.2.2.2.2.2 (by rw [he.1, hf.2.1]; exact hT.2.2.2.1) (by rw [hf.1, hf.2.2.1]; exact hT.2.2.2.2))⟩, ?_, Or.inr (pf2 k1)⟩
      · rw [he.2.1, hz, he.2.2.1, he.2.2.2.1, he.2.2.2.2.1, he.2.2.2.2.2.1, hfz, hf.2.2.2.1]; exact hg.nodes (hg.a.kind (by omega) y) (fun j _ h6 => upN _ _ (by omega))
      · obtain ⟨⟨s, hs⟩, _⟩ := hg
        rw [hr, hr']; exact (hs a (by omega)).2.2.2.1
    · exact absurd ⟨hx ▸ okN_nI ha (by omega), hy⟩ hn'
  · rcases hm with ⟨a', ha', hx', hy', _⟩ | ⟨hn', hr', hfz, hgz, hkm⟩
    · exact absurd ⟨hx' ▸ okN_nI ha' (by omega), hy'⟩ hn
    · refine ⟨⟨hp, ?_, (by rw [hf.2.2.2.1]; exact hk.same (pf1 s1) s2 p0 p1 p2 p3 p4 p5 s3 s4 s5 s6 s7 s8 hkm hgz), (by rw [he.2.2.2.2.2.2.1, hf.2.2.1]; exact hq), (hT.mk he.2.2.2.2.2.2.2.1 he.2.2.2.2.2.2.2.2.1 he.2.2.2.2.2.2.2.2.2.1 he.2.2.2.2.2.2.2.2.2.2.1 he.2.2.2.2.2.2.2.2.2.2.2.1 he.2.2.2.2.2.2.2.2.2.2.2.2.2.1 hf.2.2.2.1 hf.2.2.2.2.1 hf.2.2.2.2.2.1 hf.2.2.2.2.2.2 (by rw [he.1, hf.2.1]; exact hT.2.2.2.1) (by rw [hf.1, hf.2.2.1]; exact hT.2.2.2.2))⟩, hr.trans hr'.symm, Or.inl ⟨pf2 s1, lowQ.of hfz⟩⟩
      rw [he.2.1, hz, he.2.2.1, he.2.2.2.1, he.2.2.2.2.1, he.2.2.2.2.2.1, hfz, hf.2.2.2.1]; exact hg

theorem br_colour (hG : GP n k al be en) (hR : RelB n be en ea pr cN cI cF cG cP cQ mN mI mF) (hc : ∃ (d1 d2 d3 d4 d5 : Nat → Int32) (d6 : Nat → Nat → Int32), ((((cN2 1) ≤ 8 ∧ (cN2 2) < 8 ∧ ∀ j, j < 8 → prP (d6 j)) ∧ ((∃ a, a < n ∧ x = nI a ∧ (¬ y < -1 ∧ y ≤ nI 1) ∧ r = nI 1 ∧ (cF2 0) = upd (cF 0) a (wtC (nI 0) y) ∧ (((cN2 1), (cI2 2)) = (mnK (cN 1), (cI 2) + nI 1) ∧ (cN2 2) = ((cN 2) + 1) % 8 ∧ d1 = (cF 0) ∧ d2 = (cF 1) ∧ d3 = (cF 2) ∧ (∀ j, j < 8 → d4 j = (cF 3) j) ∧ (∀ j, j < 8 → d5 j = (cF 4) j) ∧ ∀ j, j < 8 → d6 j = (cG 0) j)) ∨ (¬ (okN n x ∧ ¬ y < -1 ∧ y ≤ nI 1) ∧ r = nI 0 ∧ (((cN2 1), (cI2 2)) = ((cN 1), (cI 2)) ∧ (cN2 2) = (cN 2) ∧ d1 = (cP 0 (cN 2)) ∧ d2 = (cP 1 (cN 2)) ∧ d3 = (cP 2 (cN 2)) ∧ d4 = (cP 3 (cN 2)) ∧ d5 = (cP 4 (cN 2)) ∧ d6 = (cQ (cN 2))) ∧ (cF2 0) = (cF 0)))) ∧ cP2 0 = (fun j => if j = (cN 2) then d1 else cP 0 j) ∧ cP2 1 = (fun j => if j = (cN 2) then d2 else cP 1 j) ∧ cP2 2 = (fun j => if j = (cN 2) then d3 else cP 2 j) ∧ cP2 3 = (fun j => if j = (cN 2) then d4 else cP 3 j) ∧ cP2 4 = (fun j => if j = (cN 2) then d5 else cP 4 j) ∧ cQ2 = (fun j => if j = (cN 2) then d6 else cQ j))) (he : cI2 0 = cI 0 ∧ cF2 1 = cF 1 ∧ cF2 2 = cF 2 ∧ cF2 3 = cF 3 ∧ cF2 4 = cF 4 ∧ cG2 0 = cG 0 ∧ cF2 16 = cF 16 ∧ cF2 5 = cF 5 ∧ cF2 6 = cF 6 ∧ cF2 7 = cF 7 ∧ cF2 8 = cF 8 ∧ cF2 9 = cF 9 ∧ cF2 10 = cF 10 ∧ cF2 11 = cF 11 ∧ cN2 0 = cN 0 ∧ cG2 1 = cG 1 ∧ cI2 6 = cI 6 ∧ cI2 7 = cI 7) (hm : (colP (mF2 0) ∧ keptP (mF2 1) ∧ (mN2 0) ≤ 8) ∧ ((∃ a, a < n ∧ x = nI a ∧ (¬ y < -1 ∧ y ≤ nI 1) ∧ r2 = nI 1 ∧ (mF2 0) = upd (upd (upd (upd (upd (upd (mF 0) (0 + a) y) (8 + a) (-1)) (16 + a) (nI 0)) (24 + a) (nI 0)) (32 + a) (nI 0)) (40 + a) (nI 0) ∧ kpdP (mN 0) (mF 0) (mF 1) (mN2 0) (mF2 1)) ∨ (¬ (okN n x ∧ ¬ y < -1 ∧ y ≤ nI 1) ∧ r2 = nI 0 ∧ (mF2 0) = (mF 0) ∧ (mF2 1) = (mF 1) ∧ (mN2 0) = (mN 0)))) (hf : mI2 0 = mI 0 ∧ mI2 1 = mI 1 ∧ mF2 3 = mF 3 ∧ mF2 4 = mF 4 ∧ mF2 5 = mF 5 ∧ mF2 6 = mF 6 ∧ mF2 7 = mF 7) : RelB n be en ea pr cN2 cI2 cF2 cG2 cP2 cQ2 mN2 mI2 mF2 ∧ r = r2 ∧ ((cI2 2 = cI 2 ∧ lowQ (mF 0) (mF2 0)) ∨ cI2 2 = cI 2 + nI 1) := by
  obtain ⟨⟨hn2, hn8⟩, hkn, hal, hbe, hen⟩ := hG
  obtain ⟨hp, hg, hk, hq, hT⟩ := hR
  obtain ⟨d1, d2, d3, d4, d5, d6, ⟨_, hc⟩, p0, p1, p2, p3, p4, p5⟩ := hc
  obtain ⟨_, hm⟩ := hm
  rcases hc with ⟨a, ha, hx, hy, hr, hz, k1, k2, k3, k4, k5, k6, k7, k8⟩ | ⟨hn, hr, ⟨s1, s2, s3, s4, s5, s6, s7, s8⟩, hz⟩
  · rcases hm with ⟨a', ha', hx', hy', hr', hfz, hkp⟩ | ⟨hn', _⟩
    · obtain rfl : a = a' := (nI_eq (by omega) (by omega)).mp (hx.symm.trans hx')
      refine ⟨⟨hp, ?_, (by rw [hf.2.2.2.1]; exact hk.keep hg (pf1 k1) k2 p0 p1 p2 p3 p4 p5 k3 k4 k5 k6 k7 k8 hkp), (by rw [he.2.2.2.2.2.2.1, hf.2.2.1]; exact hq), (hT.mk he.2.2.2.2.2.2.2.1 he.2.2.2.2.2.2.2.2.1 he.2.2.2.2.2.2.2.2.2.1 he.2.2.2.2.2.2.2.2.2.2.1 he.2.2.2.2.2.2.2.2.2.2.2.1 he.2.2.2.2.2.2.2.2.2.2.2.2.2.1 hf.2.2.2.1 hf.2.2.2.2.1 hf.2.2.2.2.2.1 hf.2.2.2.2.2.2 (by rw [he.1, hf.2.1]; exact hT.2.2.2.1) (by rw [hf.1, hf.2.2.1]; exact hT.2.2.2.2))⟩, hr.trans hr'.symm, Or.inr (pf2 k1)⟩
      rw [hz, he.2.1, he.2.2.1, he.2.2.2.1, he.2.2.2.2.1, he.2.2.2.2.2.1, hfz, hf.2.2.2.1]
      exact hg.nodes (hg.a.colour hbe.1 (by omega) (col_of hy)) (fun j _ h6 => by unfold upd; rw [if_neg (by omega), if_neg (by omega), if_neg (by omega), if_neg (by omega), if_neg (by omega), if_neg (by omega)])
    · exact absurd ⟨hx ▸ okN_nI ha (by omega), hy⟩ hn'
  · rcases hm with ⟨a', ha', hx', hy', _⟩ | ⟨hn', hr', hfz, hgz, hkm⟩
    · exact absurd ⟨hx' ▸ okN_nI ha' (by omega), hy'⟩ hn
    · refine ⟨⟨hp, ?_, (by rw [hf.2.2.2.1]; exact hk.same (pf1 s1) s2 p0 p1 p2 p3 p4 p5 s3 s4 s5 s6 s7 s8 hkm hgz), (by rw [he.2.2.2.2.2.2.1, hf.2.2.1]; exact hq), (hT.mk he.2.2.2.2.2.2.2.1 he.2.2.2.2.2.2.2.2.1 he.2.2.2.2.2.2.2.2.2.1 he.2.2.2.2.2.2.2.2.2.2.1 he.2.2.2.2.2.2.2.2.2.2.2.1 he.2.2.2.2.2.2.2.2.2.2.2.2.2.1 hf.2.2.2.1 hf.2.2.2.2.1 hf.2.2.2.2.2.1 hf.2.2.2.2.2.2 (by rw [he.1, hf.2.1]; exact hT.2.2.2.1) (by rw [hf.1, hf.2.2.1]; exact hT.2.2.2.2))⟩, hr.trans hr'.symm, Or.inl ⟨pf2 s1, lowQ.of hfz⟩⟩
      rw [hz, he.2.1, he.2.2.1, he.2.2.2.1, he.2.2.2.2.1, he.2.2.2.2.2.1, hfz, hf.2.2.2.1]; exact hg

theorem grpA.lnk {nf kf lf pof f : Nat → Int32} {a b : Nat} (h : grpA be nf kf lf pof f) (ha : a < 8) (hb : b < 8) : hasB (lf a) b ↔ hasB (f (56 + a)) b := by
  obtain ⟨⟨s, hs⟩, _⟩ := h
  exact (hs a ha).2.2.2.2 b hb

theorem br_link (hG : GP n k al be en) (hR : RelB n be en ea pr cN cI cF cG cP cQ mN mI mF) (hc : ∃ (d1 d2 d3 d4 d5 : Nat → Int32) (d6 : Nat → Nat → Int32), ((((cN2 1) ≤ 8 ∧ (cN2 2) < 8 ∧ ∀ j, j < 8 → prP (d6 j)) ∧ ((∃ (a b : Nat) (h : Int32), a < n ∧ b < n ∧ x = nI a ∧ y = nI b ∧ ¬ nI a = nI b ∧ PQ (hasB ((cF 2) a) b) h (nI 1) (nI 0) ∧ ¬ h = z ∧ r = nI 1 ∧ (cF2 2) = linkC (cF 2) a b ∧ (((cN2 1), (cI2 2)) = (mnK (cN 1), (cI 2) + nI 1) ∧ (cN2 2) = ((cN 2) + 1) % 8 ∧ d1 = (cF 0) ∧ d2 = (cF 1) ∧ d3 = (cF 2) ∧ (∀ j, j < 8 → d4 j = (cF 3) j) ∧ (∀ j, j < 8 → d5 j = (cF 4) j) ∧ ∀ j, j < 8 → d6 j = (cG 0) j)) ∨ (¬ (okN n x ∧ okN n y ∧ ¬ x = y ∧ ∀ a b, x = nI a → y = nI b → a < n → b < n → ∃ h, PQ (hasB ((cF 2) a) b) h (nI 1) (nI 0) ∧ ¬ h = z) ∧ r = nI 0 ∧ (((cN2 1), (cI2 2)) = ((cN 1), (cI 2)) ∧ (cN2 2) = (cN 2) ∧ d1 = (cP 0 (cN 2)) ∧ d2 = (cP 1 (cN 2)) ∧ d3 = (cP 2 (cN 2)) ∧ d4 = (cP 3 (cN 2)) ∧ d5 = (cP 4 (cN 2)) ∧ d6 = (cQ (cN 2))) ∧ (cF2 2) = (cF 2)))) ∧ cP2 0 = (fun j => if j = (cN 2) then d1 else cP 0 j) ∧ cP2 1 = (fun j => if j = (cN 2) then d2 else cP 1 j) ∧ cP2 2 = (fun j => if j = (cN 2) then d3 else cP 2 j) ∧ cP2 3 = (fun j => if j = (cN 2) then d4 else cP 3 j) ∧ cP2 4 = (fun j => if j = (cN 2) then d5 else cP 4 j) ∧ cQ2 = (fun j => if j = (cN 2) then d6 else cQ j))) (he : cI2 0 = cI 0 ∧ cF2 0 = cF 0 ∧ cF2 1 = cF 1 ∧ cF2 3 = cF 3 ∧ cF2 4 = cF 4 ∧ cG2 0 = cG 0 ∧ cF2 16 = cF 16 ∧ cF2 5 = cF 5 ∧ cF2 6 = cF 6 ∧ cF2 7 = cF 7 ∧ cF2 8 = cF 8 ∧ cF2 9 = cF 9 ∧ cF2 10 = cF 10 ∧ cF2 11 = cF 11 ∧ cN2 0 = cN 0 ∧ cG2 1 = cG 1 ∧ cI2 6 = cI 6 ∧ cI2 7 = cI 7) (hm : (colP (mF2 0) ∧ keptP (mF2 1) ∧ (mN2 0) ≤ 8) ∧ ((∃ (a b : Nat) (h : Int32), a < n ∧ b < n ∧ x = nI a ∧ y = nI b ∧ ¬ nI a = nI b ∧ PQ (hasB ((mF 0) (56 + a)) b) h (nI 1) (nI 0) ∧ ¬ h = z ∧ r2 = nI 1 ∧ (mF2 0) = linkG (mF 0) a b ∧ kpdP (mN 0) (mF 0) (mF 1) (mN2 0) (mF2 1)) ∨ (¬ (okN n x ∧ okN n y ∧ ¬ x = y ∧ ∀ a b, x = nI a → y = nI b → a < n → b < n → ∃ h, PQ (hasB ((mF 0) (56 + a)) b) h (nI 1) (nI 0) ∧ ¬ h = z) ∧ r2 = nI 0 ∧ (mF2 0) = (mF 0) ∧ (mF2 1) = (mF 1) ∧ (mN2 0) = (mN 0)))) (hf : mI2 0 = mI 0 ∧ mI2 1 = mI 1 ∧ mF2 3 = mF 3 ∧ mF2 4 = mF 4 ∧ mF2 5 = mF 5 ∧ mF2 6 = mF 6 ∧ mF2 7 = mF 7) : RelB n be en ea pr cN2 cI2 cF2 cG2 cP2 cQ2 mN2 mI2 mF2 ∧ r = r2 ∧ ((cI2 2 = cI 2 ∧ lowQ (mF 0) (mF2 0)) ∨ cI2 2 = cI 2 + nI 1) := by
  obtain ⟨⟨hn2, hn8⟩, hkn, hal, hbe, hen⟩ := hG
  obtain ⟨hp, hg, hk, hq, hT⟩ := hR
  obtain ⟨d1, d2, d3, d4, d5, d6, ⟨_, hc⟩, p0, p1, p2, p3, p4, p5⟩ := hc
  obtain ⟨_, hm⟩ := hm
  rcases hc with ⟨a, b, h, ha, hb, hx, hy, hne, hpq, hhz, hr, hz, k1, k2, k3, k4, k5, k6, k7, k8⟩ | ⟨hn, hr, ⟨s1, s2, s3, s4, s5, s6, s7, s8⟩, hz⟩
  · rcases hm with ⟨a', b', h', ha', hb', hx', hy', hne', hpq', hhz', hr', hfz, hkp⟩ | ⟨hn', _⟩
    · obtain rfl : a = a' := (nI_eq (by omega) (by omega)).mp (hx.symm.trans hx')
      obtain rfl : b = b' := (nI_eq (by omega) (by omega)).mp (hy.symm.trans hy')
      refine ⟨⟨hp, ?_, (by rw [hf.2.2.2.1]; exact hk.keep hg (pf1 k1) k2 p0 p1 p2 p3 p4 p5 k3 k4 k5 k6 k7 k8 hkp), (by rw [he.2.2.2.2.2.2.1, hf.2.2.1]; exact hq), (hT.mk he.2.2.2.2.2.2.2.1 he.2.2.2.2.2.2.2.2.1 he.2.2.2.2.2.2.2.2.2.1 he.2.2.2.2.2.2.2.2.2.2.1 he.2.2.2.2.2.2.2.2.2.2.2.1 he.2.2.2.2.2.2.2.2.2.2.2.2.2.1 hf.2.2.2.1 hf.2.2.2.2.1 hf.2.2.2.2.2.1 hf.2.2.2.2.2.2 (by rw [he.1, hf.2.1]; exact hT.2.2.2.1) (by rw [hf.1, hf.2.2.1]; exact hT.2.2.2.2))⟩, hr.trans hr'.symm, Or.inr (pf2 k1)⟩
      rw [he.2.1, he.2.2.1, hz, he.2.2.2.1, he.2.2.2.2.1, he.2.2.2.2.2.1, hfz, hf.2.2.2.1]
      exact hg.nodes (hg.a.link (by omega) (by omega) (fun z => hne (by rw [z]))) (fun j _ h6 => by unfold linkG upd; rw [if_neg (by omega), if_neg (by omega)])
    · refine absurd ⟨hx ▸ okN_nI ha (by omega), hy ▸ okN_nI hb (by omega), by rw [hx, hy]; exact hne, fun a' b' hx' hy' ha' hb' => ?_⟩ hn'
      obtain rfl : a = a' := (nI_eq (by omega) (by omega)).mp (hx.symm.trans hx')
      obtain rfl : b = b' := (nI_eq (by omega) (by omega)).mp (hy.symm.trans hy')
      exact ⟨h, PQ.iff (hg.a.lnk (by omega) (by omega)) hpq, hhz⟩
  · rcases hm with ⟨a', b', h', ha', hb', hx', hy', hne', hpq', hhz', _⟩ | ⟨hn', hr', hfz, hgz, hkm⟩
    · refine absurd ⟨hx' ▸ okN_nI ha' (by omega), hy' ▸ okN_nI hb' (by omega), by rw [hx', hy']; exact hne', fun a b hx hy ha hb => ?_⟩ hn
      obtain rfl : a = a' := (nI_eq (by omega) (by omega)).mp (hx.symm.trans hx')
      obtain rfl : b = b' := (nI_eq (by omega) (by omega)).mp (hy.symm.trans hy')
      exact ⟨h', PQ.iff (hg.a.lnk (by omega) (by omega)).symm hpq', hhz'⟩
    · refine ⟨⟨hp, ?_, (by rw [hf.2.2.2.1]; exact hk.same (pf1 s1) s2 p0 p1 p2 p3 p4 p5 s3 s4 s5 s6 s7 s8 hkm hgz), (by rw [he.2.2.2.2.2.2.1, hf.2.2.1]; exact hq), (hT.mk he.2.2.2.2.2.2.2.1 he.2.2.2.2.2.2.2.2.1 he.2.2.2.2.2.2.2.2.2.1 he.2.2.2.2.2.2.2.2.2.2.1 he.2.2.2.2.2.2.2.2.2.2.2.1 he.2.2.2.2.2.2.2.2.2.2.2.2.2.1 hf.2.2.2.1 hf.2.2.2.2.1 hf.2.2.2.2.2.1 hf.2.2.2.2.2.2 (by rw [he.1, hf.2.1]; exact hT.2.2.2.1) (by rw [hf.1, hf.2.2.1]; exact hT.2.2.2.2))⟩, hr.trans hr'.symm, Or.inl ⟨pf2 s1, lowQ.of hfz⟩⟩
      rw [he.2.1, he.2.2.1, hz, he.2.2.2.1, he.2.2.2.2.1, he.2.2.2.2.2.1, hfz, hf.2.2.2.1]; exact hg

theorem br_query (hG : GP n k al be en) (hR : RelB n be en ea pr cN cI cF cG cP cQ mN mI mF) {uu : Nat → Nat → Nat} (hrow : ∀ j, j < 8 → rowU (mF 0) j (uu j) ∧ okU be (uu j)) (hc : ∃ (d1 d2 d3 d4 d5 : Nat → Int32) (d6 : Nat → Nat → Int32), ((((cN2 1) ≤ 8 ∧ (cN2 2) < 8 ∧ ∀ j, j < 8 → prP (d6 j)) ∧ ((¬ cakP n k x y (cF 0) (cF 1) ∧ r = -1 ∧ (((cN2 1), (cI2 2)) = ((cN 1), (cI 2)) ∧ (cN2 2) = (cN 2) ∧ d1 = (cP 0 (cN 2)) ∧ d2 = (cP 1 (cN 2)) ∧ d3 = (cP 2 (cN 2)) ∧ d4 = (cP 3 (cN 2)) ∧ d5 = (cP 4 (cN 2)) ∧ d6 = (cQ (cN 2))) ∧ (cF2 0) = (cF 0) ∧ (cF2 16) = (cF 16)) ∨ (cakP n k x y (cF 0) (cF 1) ∧ (((cN2 1), (cI2 2)) = (mnK (cN 1), (cI 2) + nI 1) ∧ (cN2 2) = ((cN 2) + 1) % 8 ∧ d1 = (cF 0) ∧ d2 = (cF 1) ∧ d3 = (cF 2) ∧ (∀ j, j < 8 → d4 j = (cF 3) j) ∧ (∀ j, j < 8 → d5 j = (cF 4) j) ∧ ∀ j, j < 8 → d6 j = (cG 0) j) ∧ lisI n x.toNatClampNeg (cF 2) (cF 1) (cF 0) 0 (cI2 3) (cI2 4) (cI2 5) ∧ r = chgF ((cF 0) x.toNatClampNeg) ((cF2 0) x.toNatClampNeg) ∧ askR n al be pr (cF 0) (cF2 0) x.toNatClampNeg y (cI2 3) (cI2 4) (cI2 5) ∧ (cF2 16) = upd (cF 16) x.toNatClampNeg ((cF 16) x.toNatClampNeg + nI 1)))) ∧ cP2 0 = (fun j => if j = (cN 2) then d1 else cP 0 j) ∧ cP2 1 = (fun j => if j = (cN 2) then d2 else cP 1 j) ∧ cP2 2 = (fun j => if j = (cN 2) then d3 else cP 2 j) ∧ cP2 3 = (fun j => if j = (cN 2) then d4 else cP 3 j) ∧ cP2 4 = (fun j => if j = (cN 2) then d5 else cP 4 j) ∧ cQ2 = (fun j => if j = (cN 2) then d6 else cQ j))) (he : cI2 0 = cI 0 ∧ cF2 1 = cF 1 ∧ cF2 2 = cF 2 ∧ cF2 3 = cF 3 ∧ cF2 4 = cF 4 ∧ cG2 0 = cG 0 ∧ cF2 5 = cF 5 ∧ cF2 6 = cF 6 ∧ cF2 7 = cF 7 ∧ cF2 8 = cF 8 ∧ cF2 9 = cF 9 ∧ cF2 10 = cF 10 ∧ cF2 11 = cF 11 ∧ cN2 0 = cN 0 ∧ cG2 1 = cG 1 ∧ cI2 6 = cI 6 ∧ cI2 7 = cI 7) (hm : (colP (mF2 0) ∧ keptP (mF2 1) ∧ (mN2 0) ≤ 8) ∧ ((∃ a, a < n ∧ x = nI a ∧ msmP n k a y ∧ mcaP (mF 0) a ∧ askedP n al be pr (mF 0) y a (uu a) r2 (mF2 0) ∧ kpdP (mN 0) (mF 0) (mF 1) (mN2 0) (mF2 1) ∧ (mF2 3) = upd (mF 3) a ((mF 3) a + nI 1) ∧ (mI2 0) = (mI 0) + nI 1) ∨ (¬ (okN n x ∧ ∀ a, a < n → x = nI a → msmP n k a y ∧ mcaP (mF 0) a) ∧ r2 = -1 ∧ ((mF2 0) = (mF 0) ∧ (mF2 1) = (mF 1) ∧ (mN2 0) = (mN 0)) ∧ (mF2 3) = (mF 3) ∧ (mI2 0) = (mI 0)))) (hf : mI2 1 = mI 1 ∧ mF2 4 = mF 4 ∧ mF2 5 = mF 5 ∧ mF2 6 = mF 6 ∧ mF2 7 = mF 7) : RelB n be en ea pr cN2 cI2 cF2 cG2 cP2 cQ2 mN2 mI2 mF2 ∧ r = r2 ∧ ((cI2 2 = cI 2 ∧ lowQ (mF 0) (mF2 0)) ∨ cI2 2 = cI 2 + nI 1) := by
  obtain ⟨⟨hn2, hn8⟩, hkn, hal, hbe, hen⟩ := hG
  obtain ⟨hp, hg, hk, hq, hT⟩ := hR
  obtain ⟨d1, d2, d3, d4, d5, d6, ⟨_, hc⟩, p0, p1, p2, p3, p4, p5⟩ := hc
  obtain ⟨_, hm⟩ := hm
  rcases hc with ⟨hn, hr, ⟨s1, s2, s3, s4, s5, s6, s7, s8⟩, hz, hqz⟩ | ⟨hca, ⟨k1, k2, k3, k4, k5, k6, k7, k8⟩, hl, hr, hA, hqz⟩
  · rcases hm with ⟨a', ha', hx', hS, hmc, _⟩ | ⟨hn', hr', ⟨hfz, hgz, hkm⟩, hq2, hnq⟩
    · obtain ⟨⟨s, hs⟩, _⟩ := hg
      exact absurd (by rw [hx']; exact (cak_iff hn8 ha' (hs a' (by omega))).mpr ⟨hS, hmc⟩) hn
    · refine ⟨⟨hp, ?_, (by rw [hf.2.1]; exact hk.same (pf1 s1) s2 p0 p1 p2 p3 p4 p5 s3 s4 s5 s6 s7 s8 hkm hgz), ?_, (hT.mk he.2.2.2.2.2.2.1 he.2.2.2.2.2.2.2.1 he.2.2.2.2.2.2.2.2.1 he.2.2.2.2.2.2.2.2.2.1 he.2.2.2.2.2.2.2.2.2.2.1 he.2.2.2.2.2.2.2.2.2.2.2.2.1 hf.2.1 hf.2.2.1 hf.2.2.2.1 hf.2.2.2.2 (by rw [he.1, hf.1]; exact hT.2.2.2.1) (by rw [hnq, hq2]; exact hT.2.2.2.2))⟩, hr.trans hr'.symm, Or.inl ⟨pf2 s1, lowQ.of hfz⟩⟩
      · rw [hz, he.2.1, he.2.2.1, he.2.2.2.1, he.2.2.2.2.1, he.2.2.2.2.2.1, hfz, hf.2.1]; exact hg
      · rw [hqz, hq2]; exact hq
  · obtain ⟨a, ha, hx⟩ := okN_of hca.1.1 (by omega)
    rw [hx] at hca hl hr hA hqz
    rw [nI_clamp (by omega)] at hl hr hA hqz
    have hi : msmP n k a y ∧ mcaP (mF 0) a := by
      obtain ⟨⟨s, hs⟩, _⟩ := hg
      exact (cak_iff hn8 ha (hs a (by omega))).mp hca
    rcases hm with ⟨a', ha', hx', hS, hmc, hask, hkp, hq2, hnq⟩ | ⟨hn', _⟩
    · obtain rfl : a = a' := (nI_eq (by omega) (by omega)).mp (hx.symm.trans hx')
      have hb := ask_grp hg.a ha hn8 hkn.2 (by omega) hbe hal.2.2 hi.2 hi.1 (hrow a (by omega)).1 (hrow a (by omega)).2 hl hA hask
      refine ⟨⟨hp, ?_, (by rw [hf.2.1]; exact hk.keep hg (pf1 k1) k2 p0 p1 p2 p3 p4 p5 k3 k4 k5 k6 k7 k8 hkp), ?_, (hT.mk he.2.2.2.2.2.2.1 he.2.2.2.2.2.2.2.1 he.2.2.2.2.2.2.2.2.1 he.2.2.2.2.2.2.2.2.2.1 he.2.2.2.2.2.2.2.2.2.2.1 he.2.2.2.2.2.2.2.2.2.2.2.2.1 hf.2.1 hf.2.2.1 hf.2.2.2.1 hf.2.2.2.2 (by rw [he.1, hf.1]; exact hT.2.2.2.1) (by rw [hnq, hq2, qsm_upd n (by omega), hT.2.2.2.2]))⟩, hr.trans hb.1.symm, Or.inr (pf2 k1)⟩
      · rw [he.2.1, he.2.2.1, he.2.2.2.1, he.2.2.2.2.1, he.2.2.2.2.2.1, hf.2.1]
        exact hg.nodes hb.2 (fun j _ h6 => asked_hi (by omega) hask j (by omega))
      · rw [hqz, hq2]; exact upd_q hq (by omega)
    · refine absurd ⟨hx ▸ okN_nI ha (by omega), fun a' ha' hx' => ?_⟩ hn'
      obtain rfl : a = a' := (nI_eq (by omega) (by omega)).mp (hx.symm.trans hx')
      exact hi

theorem lisI.congr {o i b : Nat} {lf kf f f' : Nat → Int32} {u1 u2 u3 : Int32} (h : lisI o i lf kf f b u1 u2 u3) (e : ∀ j, j < o → f' (b + j) = f (b + j)) (ei : f' (b + i) = f (b + i)) : lisI o i lf kf f' b u1 u2 u3 := fun k hk => by
  obtain ⟨h1, h2, h3⟩ := h k hk
  unfold lisP blkP at *
  refine ⟨h1.trans ?_, h2.trans ?_, h3.trans ?_⟩
  · constructor <;> rintro ⟨q, q1, q2, q3⟩ <;> refine ⟨q, q1, q2, ?_⟩ <;> rw [e k q, ei] at * <;> exact q3
  · constructor <;> rintro ⟨q, q1, q2, q3⟩ <;> refine ⟨q, q1, q2, ?_⟩ <;> rw [e k q, ei] at * <;> exact q3
  · constructor <;> rintro ⟨q, q1, q2, q3, q4⟩ <;> refine ⟨q, q1, q2, q3, ?_⟩ <;> rw [e k q] at * <;> exact q4
theorem cpy8 {f g : Nat → Int32} {j : Nat} (hj : j < 8) : va_cpy f g 0 0 8 j = f j := by
  unfold va_cpy
  rw [if_pos (by omega)]
  exact congrArg f (by omega)

theorem br_node (hG : GP n k al be en) (hR : RelB n be en ea pr cN cI cF cG cP cQ mN mI mF) (hc : (∃ a, a < n ∧ x = nI a ∧ r = ndC (cF 0) (cF 1) (cF 16) a y) ∨ (¬ okN n x ∧ r = -2)) (he : cN2 1 = cN 1 ∧ cN2 2 = cN 2 ∧ cI2 0 = cI 0 ∧ cF2 0 = cF 0 ∧ cF2 1 = cF 1 ∧ cF2 2 = cF 2 ∧ cF2 3 = cF 3 ∧ cF2 4 = cF 4 ∧ cG2 0 = cG 0 ∧ cF2 16 = cF 16 ∧ cF2 5 = cF 5 ∧ cF2 6 = cF 6 ∧ cF2 7 = cF 7 ∧ cF2 8 = cF 8 ∧ cF2 9 = cF 9 ∧ cF2 10 = cF 10 ∧ cF2 11 = cF 11 ∧ cP2 = cP ∧ cQ2 = cQ ∧ cN2 0 = cN 0 ∧ cG2 1 = cG 1 ∧ cI2 2 = cI 2 ∧ cI2 6 = cI 6 ∧ cI2 7 = cI 7) (hm : (∃ a, a < n ∧ x = nI a ∧ r2 = ndV (mF 0) (mF 3) a y) ∨ (¬ okN n x ∧ r2 = -2)) (hf : mN2 0 = mN 0 ∧ mI2 0 = mI 0 ∧ mI2 1 = mI 1 ∧ mF2 0 = mF 0 ∧ mF2 1 = mF 1 ∧ mF2 3 = mF 3 ∧ mF2 4 = mF 4 ∧ mF2 5 = mF 5 ∧ mF2 6 = mF 6 ∧ mF2 7 = mF 7) : RelB n be en ea pr cN2 cI2 cF2 cG2 cP2 cQ2 mN2 mI2 mF2 ∧ r = r2 := by
  obtain ⟨⟨hn2, hn8⟩, hkn, hal, hbe, hen⟩ := hG
  obtain ⟨hp, hg, hk, hq, hT⟩ := hR
  refine ⟨RelB.same (pr := pr) (n := n) ⟨hp, hg, hk, hq, hT⟩ he.1 he.2.1 he.2.2.1 he.2.2.2.1 he.2.2.2.2.1 he.2.2.2.2.2.1 he.2.2.2.2.2.2.1 he.2.2.2.2.2.2.2.1 he.2.2.2.2.2.2.2.2.1 he.2.2.2.2.2.2.2.2.2.1 he.2.2.2.2.2.2.2.2.2.2.1 he.2.2.2.2.2.2.2.2.2.2.2.1 he.2.2.2.2.2.2.2.2.2.2.2.2.1 he.2.2.2.2.2.2.2.2.2.2.2.2.2.1 he.2.2.2.2.2.2.2.2.2.2.2.2.2.2.1 he.2.2.2.2.2.2.2.2.2.2.2.2.2.2.2.2.1 he.2.2.2.2.2.2.2.2.2.2.2.2.2.2.2.2.2.1 he.2.2.2.2.2.2.2.2.2.2.2.2.2.2.2.2.2.2.1 hf.1 hf.2.1 hf.2.2.1 (fun j _ => congrFun hf.2.2.2.1 j) hf.2.2.2.2.1 hf.2.2.2.2.2.1 hf.2.2.2.2.2.2.1 hf.2.2.2.2.2.2.2.1 hf.2.2.2.2.2.2.2.2.1 hf.2.2.2.2.2.2.2.2.2, ?_⟩
  rcases hc with ⟨a, ha, hx, hr⟩ | ⟨hn, hr⟩
  · rcases hm with ⟨a', ha', hx', hr'⟩ | ⟨hn', _⟩
    · obtain rfl : a = a' := (nI_eq (by omega) (by omega)).mp (hx.symm.trans hx')
      rw [hr, hr']; exact nd_eq hg.a (by omega) hq
    · exact absurd (hx ▸ okN_nI ha (by omega)) hn'
  · rcases hm with ⟨a', ha', hx', hr'⟩ | ⟨hn', hr'⟩
    · exact absurd (hx' ▸ okN_nI ha' (by omega)) hn
    · rw [hr, hr']

theorem br_would (hG : GP n k al be en) (hR : RelB n be en ea pr cN cI cF cG cP cQ mN mI mF) {uu : Nat → Nat → Nat} (hrow : ∀ j, j < 8 → rowU (mF 0) j (uu j) ∧ okU be (uu j)) (hc : (¬ cakP n k x y (cF 0) (cF 1) ∧ r = -1) ∨ (∃ a, a < n ∧ x = nI a ∧ cakP n k x y (cF 0) (cF 1) ∧ lisI n a (cF 2) (cF 1) (cF 0) 0 (cI2 3) (cI2 4) (cI2 5) ∧ r = chgF ((cF 0) a) ((cF2 15) a) ∧ askR n al be pr (va_cpy (cF 0) (cF 15) 0 0 8) (cF2 15) a y (cI2 3) (cI2 4) (cI2 5))) (he : cN2 1 = cN 1 ∧ cN2 2 = cN 2 ∧ cI2 0 = cI 0 ∧ cF2 0 = cF 0 ∧ cF2 1 = cF 1 ∧ cF2 2 = cF 2 ∧ cF2 3 = cF 3 ∧ cF2 4 = cF 4 ∧ cG2 0 = cG 0 ∧ cF2 16 = cF 16 ∧ cF2 5 = cF 5 ∧ cF2 6 = cF 6 ∧ cF2 7 = cF 7 ∧ cF2 8 = cF 8 ∧ cF2 9 = cF 9 ∧ cF2 10 = cF 10 ∧ cF2 11 = cF 11 ∧ cP2 = cP ∧ cQ2 = cQ ∧ cN2 0 = cN 0 ∧ cG2 1 = cG 1 ∧ cI2 2 = cI 2 ∧ cI2 6 = cI 6 ∧ cI2 7 = cI 7) (hm : (colP (mF2 0) ∧ ∀ j, j < 288 → (mF2 0) j = (mF 0) j) ∧ ((∃ a, a < n ∧ x = nI a ∧ msmP n k a y ∧ mcaP (mF 0) a ∧ ∃ fy, askedP n al be pr (mF 0) y a (uu a) r2 fy) ∨ (¬ (okN n x ∧ ∀ a, a < n → x = nI a → msmP n k a y ∧ mcaP (mF 0) a) ∧ r2 = -1 ∧ (mF2 0) = (mF 0)))) (hf : mN2 0 = mN 0 ∧ mI2 0 = mI 0 ∧ mI2 1 = mI 1 ∧ mF2 1 = mF 1 ∧ mF2 3 = mF 3 ∧ mF2 4 = mF 4 ∧ mF2 5 = mF 5 ∧ mF2 6 = mF 6 ∧ mF2 7 = mF 7) : RelB n be en ea pr cN2 cI2 cF2 cG2 cP2 cQ2 mN2 mI2 mF2 ∧ r = r2 := by
  obtain ⟨⟨hn2, hn8⟩, hkn, hal, hbe, hen⟩ := hG
  obtain ⟨hp, hg, hk, hq, hT⟩ := hR
  refine ⟨RelB.same (pr := pr) (n := n) ⟨hp, hg, hk, hq, hT⟩ he.1 he.2.1 he.2.2.1 he.2.2.2.1 he.2.2.2.2.1 he.2.2.2.2.2.1 he.2.2.2.2.2.2.1 he.2.2.2.2.2.2.2.1 he.2.2.2.2.2.2.2.2.1 he.2.2.2.2.2.2.2.2.2.1 he.2.2.2.2.2.2.2.2.2.2.1 he.2.2.2.2.2.2.2.2.2.2.2.1 he.2.2.2.2.2.2.2.2.2.2.2.2.1 he.2.2.2.2.2.2.2.2.2.2.2.2.2.1 he.2.2.2.2.2.2.2.2.2.2.2.2.2.2.1 he.2.2.2.2.2.2.2.2.2.2.2.2.2.2.2.2.1 he.2.2.2.2.2.2.2.2.2.2.2.2.2.2.2.2.2.1 he.2.2.2.2.2.2.2.2.2.2.2.2.2.2.2.2.2.2.1 hf.1 hf.2.1 hf.2.2.1 hm.1.2 hf.2.2.2.1 hf.2.2.2.2.1 hf.2.2.2.2.2.1 hf.2.2.2.2.2.2.1 hf.2.2.2.2.2.2.2.1 hf.2.2.2.2.2.2.2.2, ?_⟩
  replace hm := hm.2
  rcases hc with ⟨hn, hr⟩ | ⟨a, ha, hx, hca, hl, hr, hA⟩
  · rcases hm with ⟨a', ha', hx', hS, hmc, _⟩ | ⟨hn', hr', _⟩
    · obtain ⟨⟨s, hs⟩, _⟩ := hg
      exact absurd (by rw [hx']; exact (cak_iff hn8 ha' (hs a' (by omega))).mpr ⟨hS, hmc⟩) hn
    · rw [hr, hr']
  · rw [hx] at hca
    have hi : msmP n k a y ∧ mcaP (mF 0) a := by
      obtain ⟨⟨s, hs⟩, _⟩ := hg
      exact (cak_iff hn8 ha (hs a (by omega))).mp hca
    rcases hm with ⟨a', ha', hx', hS, hmc, fy, hask⟩ | ⟨hn', _⟩
    · obtain rfl : a = a' := (nI_eq (by omega) (by omega)).mp (hx.symm.trans hx')
      have hg2 : grpA be (va_cpy (cF 0) (cF 15) 0 0 8) (cF 1) (cF 2) (cF 4) (mF 0) := hg.a.congr (fun j hj => cpy8 hj) (fun _ _ => rfl) (fun _ _ => rfl) (fun _ _ => rfl) (lowE.refl _)
      have hb := ask_grp hg2 ha hn8 hkn.2 (by omega) hbe hal.2.2 hi.2 hi.1 (hrow a (by omega)).1 (hrow a (by omega)).2 (hl.congr (fun j hj => cpy8 (by omega)) (cpy8 (by omega))) hA hask
      rw [hr, hb.1, cpy8 (by omega)]
    · refine absurd ⟨hx ▸ okN_nI ha (by omega), fun a' ha' hx' => ?_⟩ hn'
      obtain rfl : a = a' := (nI_eq (by omega) (by omega)).mp (hx.symm.trans hx')
      exact hi

theorem br_run (hG : GP n k al be en) (hR : RelB n be en ea pr cN cI cF cG cP cQ mN mI mF) (hc : ∃ (d1 d2 d3 d4 d5 : Nat → Int32) (d6 : Nat → Nat → Int32), ((((cN2 1) ≤ 8 ∧ (cN2 2) < 8 ∧ ∀ j, j < 8 → prP (d6 j)) ∧ ((∃ nm, nm ≤ 300 ∧ x = nI nm ∧ ¬ x < nI 1 ∧ runC n k al be pr (cF 1) (cF 2) nm (y, (cF 0), (cF 16), nI 0) ((cI2 1), (cF2 0), (cF2 16), r) ∧ (((cN2 1), (cI2 2)) = (mnK (cN 1), (cI 2) + nI 1) ∧ (cN2 2) = ((cN 2) + 1) % 8 ∧ d1 = (cF 0) ∧ d2 = (cF 1) ∧ d3 = (cF 2) ∧ (∀ j, j < 8 → d4 j = (cF 3) j) ∧ (∀ j, j < 8 → d5 j = (cF 4) j) ∧ ∀ j, j < 8 → d6 j = (cG 0) j)) ∨ (¬ (¬ x < nI 1 ∧ x ≤ nI 300) ∧ r = -1 ∧ (((cN2 1), (cI2 2)) = ((cN 1), (cI 2)) ∧ (cN2 2) = (cN 2) ∧ d1 = (cP 0 (cN 2)) ∧ d2 = (cP 1 (cN 2)) ∧ d3 = (cP 2 (cN 2)) ∧ d4 = (cP 3 (cN 2)) ∧ d5 = (cP 4 (cN 2)) ∧ d6 = (cQ (cN 2))) ∧ (cF2 0) = (cF 0) ∧ (cF2 16) = (cF 16) ∧ (cI2 1) = (cI 1)))) ∧ cP2 0 = (fun j => if j = (cN 2) then d1 else cP 0 j) ∧ cP2 1 = (fun j => if j = (cN 2) then d2 else cP 1 j) ∧ cP2 2 = (fun j => if j = (cN 2) then d3 else cP 2 j) ∧ cP2 3 = (fun j => if j = (cN 2) then d4 else cP 3 j) ∧ cP2 4 = (fun j => if j = (cN 2) then d5 else cP 4 j) ∧ cQ2 = (fun j => if j = (cN 2) then d6 else cQ j))) (he : cI2 0 = cI 0 ∧ cF2 1 = cF 1 ∧ cF2 2 = cF 2 ∧ cF2 3 = cF 3 ∧ cF2 4 = cF 4 ∧ cG2 0 = cG 0 ∧ cF2 5 = cF 5 ∧ cF2 6 = cF 6 ∧ cF2 7 = cF 7 ∧ cF2 8 = cF 8 ∧ cF2 9 = cF 9 ∧ cF2 10 = cF 10 ∧ cF2 11 = cF 11 ∧ cN2 0 = cN 0 ∧ cG2 1 = cG 1 ∧ cI2 6 = cI 6 ∧ cI2 7 = cI 7) (hm : (colP (mF2 0) ∧ keptP (mF2 1) ∧ (mN2 0) ≤ 8) ∧ (∀ j, j < 8 → ∃ v, rowU (mF2 0) j v ∧ okU be v) ∧ ((∃ nm, nm ≤ 300 ∧ x = nI nm ∧ ¬ x < nI 1 ∧ runM n k al be pr nm (y, (mF 0), (mF 3), (mI 0), nI 0) ((mI2 3), (mF2 0), (mF2 3), (mI2 0), r2) ∧ kpdP (mN 0) (mF 0) (mF 1) (mN2 0) (mF2 1)) ∨ (¬ (¬ x < nI 1 ∧ x ≤ nI 300) ∧ r2 = -1 ∧ ((mF2 0) = (mF 0) ∧ (mF2 1) = (mF 1) ∧ (mN2 0) = (mN 0)) ∧ (mF2 3) = (mF 3) ∧ (mI2 0) = (mI 0) ∧ (mI2 3) = (mI 3)))) (hf : mI2 1 = mI 1 ∧ mF2 4 = mF 4 ∧ mF2 5 = mF 5 ∧ mF2 6 = mF 6 ∧ mF2 7 = mF 7) : RelB n be en ea pr cN2 cI2 cF2 cG2 cP2 cQ2 mN2 mI2 mF2 ∧ r = r2 ∧ ((cI2 2 = cI 2 ∧ lowQ (mF 0) (mF2 0)) ∨ cI2 2 = cI 2 + nI 1) := by
  obtain ⟨⟨hn2, hn8⟩, hkn, hal, hbe, hen⟩ := hG
  obtain ⟨hp, hg, hk, hq, hT⟩ := hR
  obtain ⟨d1, d2, d3, d4, d5, d6, ⟨_, hc⟩, p0, p1, p2, p3, p4, p5⟩ := hc
  obtain ⟨_, _, hm⟩ := hm
  rcases hc with ⟨m, hm1, hx, hm0, hrc, k1, k2, k3, k4, k5, k6, k7, k8⟩ | ⟨hn, hr, ⟨s1, s2, s3, s4, s5, s6, s7, s8⟩, hz, hqz, _⟩
  · rcases hm with ⟨m', hm1', hx', _, hrm, hkp⟩ | ⟨hn', _⟩
    · obtain rfl : m = m' := (nI_eq (by omega) (by omega)).mp (hx.symm.trans hx')
      have hb := run_grp (pof := cF 4) hn8 hkn.2 (by omega) hbe hal.2.2 (⟨rfl, hg.a, hq, rfl⟩ : runR be (cF 1) (cF 2) (cF 4) (y, cF 0, cF 16, nI 0) (y, mF 0, mF 3, mI 0, nI 0)) m _ _ hrc hrm
      have hb2 := run_more hn8 (show ((y, mF 0, mF 3, mI 0, nI 0) : rnS).2.2.2.1 = qsm ((y, mF 0, mF 3, mI 0, nI 0) : rnS).2.2.1 n from hT.2.2.2.2) m _ hrm
      refine ⟨⟨hp, ?_, (by rw [hf.2.1]; exact hk.keep hg (pf1 k1) k2 p0 p1 p2 p3 p4 p5 k3 k4 k5 k6 k7 k8 hkp), hb.2.2.1, (hT.mk he.2.2.2.2.2.2.1 he.2.2.2.2.2.2.2.1 he.2.2.2.2.2.2.2.2.1 he.2.2.2.2.2.2.2.2.2.1 he.2.2.2.2.2.2.2.2.2.2.1 he.2.2.2.2.2.2.2.2.2.2.2.2.1 hf.2.1 hf.2.2.1 hf.2.2.2.1 hf.2.2.2.2 (by rw [he.1, hf.1]; exact hT.2.2.2.1) hb2.2)⟩, hb.2.2.2, Or.inr (pf2 k1)⟩
      rw [he.2.1, he.2.2.1, he.2.2.2.1, he.2.2.2.2.1, he.2.2.2.2.2.1, hf.2.1]
      exact hg.nodes hb.2.1 (fun j _ h6 => hb2.1 j (by omega))
    · exact absurd ⟨hm0, by rw [hx]; exact (nI_leI (by omega) (by decide)).mpr hm1⟩ hn'
  · rcases hm with ⟨m', hm1', hx', hm0', hrm, hkp⟩ | ⟨hn', hr', ⟨hfz, hgz, hkm⟩, hq2, hnq, _⟩
    · exact absurd ⟨hm0', by rw [hx']; exact (nI_leI (by omega) (by decide)).mpr hm1'⟩ hn
    · refine ⟨⟨hp, ?_, (by rw [hf.2.1]; exact hk.same (pf1 s1) s2 p0 p1 p2 p3 p4 p5 s3 s4 s5 s6 s7 s8 hkm hgz), ?_, (hT.mk he.2.2.2.2.2.2.1 he.2.2.2.2.2.2.2.1 he.2.2.2.2.2.2.2.2.1 he.2.2.2.2.2.2.2.2.2.1 he.2.2.2.2.2.2.2.2.2.2.1 he.2.2.2.2.2.2.2.2.2.2.2.2.1 hf.2.1 hf.2.2.1 hf.2.2.2.1 hf.2.2.2.2 (by rw [he.1, hf.1]; exact hT.2.2.2.1) (by rw [hnq, hq2]; exact hT.2.2.2.2))⟩, hr.trans hr'.symm, Or.inl ⟨pf2 s1, lowQ.of hfz⟩⟩
      · rw [hz, he.2.1, he.2.2.1, he.2.2.2.1, he.2.2.2.2.1, he.2.2.2.2.2.1, hfz, hf.2.1]; exact hg
      · rw [hqz, hq2]; exact hq

theorem br_back (hG : GP n k al be en) (hR : RelB n be en ea pr cN cI cF cG cP cQ mN mI mF) (hc : ∃ (d1 d2 d3 d4 d5 : Nat → Int32) (d6 : Nat → Nat → Int32), ((((cN2 1) ≤ 8 ∧ (cN2 2) < 8 ∧ ∀ j, j < 8 → prP ((cG2 0) j)) ∧ (((cN 1) = 0 ∧ r = nI 0 ∧ ((cN2 1), (cI2 2)) = ((cN 1), (cI 2)) ∧ (cN2 2) = (cN 2) ∧ (cF2 0) = (cF 0) ∧ (cF2 1) = (cF 1) ∧ (cF2 2) = (cF 2) ∧ (cF2 3) = (cF 3) ∧ (cF2 4) = (cF 4) ∧ (cG2 0) = (cG 0)) ∨ (¬ (cN 1) = 0 ∧ r = nI 1 ∧ ((cN2 1), (cI2 2)) = ((cN 1) - 1, (cI 2) + nI 1) ∧ (cN2 2) = ((cN 2) + 7) % 8 ∧ (cF2 0) = (cP 0 (((cN 2) + 7) % 8)) ∧ (cF2 1) = (cP 1 (((cN 2) + 7) % 8)) ∧ (cF2 2) = (cP 2 (((cN 2) + 7) % 8)) ∧ (∀ j, j < 8 → (cF2 3) j = (cP 3 (((cN 2) + 7) % 8)) j) ∧ (∀ j, j < 8 → (cF2 4) j = (cP 4 (((cN 2) + 7) % 8)) j) ∧ ∀ j, j < 8 → (cG2 0) j = (cQ (((cN 2) + 7) % 8)) j))) ∧ (d1 = cP 0 (((cN 2) + 7) % 8) ∧ d2 = cP 1 (((cN 2) + 7) % 8) ∧ d3 = cP 2 (((cN 2) + 7) % 8) ∧ d4 = cP 3 (((cN 2) + 7) % 8) ∧ d5 = cP 4 (((cN 2) + 7) % 8) ∧ d6 = cQ (((cN 2) + 7) % 8)) ∧ cP2 0 = (fun j => if j = (((cN 2) + 7) % 8) then d1 else cP 0 j) ∧ cP2 1 = (fun j => if j = (((cN 2) + 7) % 8) then d2 else cP 1 j) ∧ cP2 2 = (fun j => if j = (((cN 2) + 7) % 8) then d3 else cP 2 j) ∧ cP2 3 = (fun j => if j = (((cN 2) + 7) % 8) then d4 else cP 3 j) ∧ cP2 4 = (fun j => if j = (((cN 2) + 7) % 8) then d5 else cP 4 j) ∧ cQ2 = (fun j => if j = (((cN 2) + 7) % 8) then d6 else cQ j))) (he : cI2 0 = cI 0 ∧ cF2 16 = cF 16 ∧ cF2 5 = cF 5 ∧ cF2 6 = cF 6 ∧ cF2 7 = cF 7 ∧ cF2 8 = cF 8 ∧ cF2 9 = cF 9 ∧ cF2 10 = cF 10 ∧ cF2 11 = cF 11 ∧ cN2 0 = cN 0 ∧ cG2 1 = cG 1 ∧ cI2 6 = cI 6 ∧ cI2 7 = cI 7) (hm : (colP (mF2 0) ∧ (mN2 0) ≤ 8) ∧ (((mN 0) = 0 ∧ r2 = nI 0 ∧ (mN2 0) = (mN 0) ∧ (mF2 0) = (mF 0)) ∨ (¬ (mN 0) = 0 ∧ r2 = nI 1 ∧ (mN2 0) = (mN 0) - 1 ∧ ∀ j, j < 288 → (mF2 0) j = (mF 1) (288 * ((mN 0) - 1) + j)))) (hf : mI2 0 = mI 0 ∧ mI2 1 = mI 1 ∧ mF2 1 = mF 1 ∧ mF2 3 = mF 3 ∧ mF2 4 = mF 4 ∧ mF2 5 = mF 5 ∧ mF2 6 = mF 6 ∧ mF2 7 = mF 7) : RelB n be en ea pr cN2 cI2 cF2 cG2 cP2 cQ2 mN2 mI2 mF2 ∧ r = r2 ∧ ((cI2 2 = cI 2 ∧ lowQ (mF 0) (mF2 0)) ∨ cI2 2 = cI 2 + nI 1) := by
  obtain ⟨⟨hn2, hn8⟩, hkn, hal, hbe, hen⟩ := hG
  obtain ⟨hp, hg, hk, hq, hT⟩ := hR
  obtain ⟨d1, d2, d3, d4, d5, d6, ⟨_, hc⟩, ⟨t1, t2, t3, t4, t5, t6⟩, p0, p1, p2, p3, p4, p5⟩ := hc
  obtain ⟨_, hm⟩ := hm
  rcases hc with ⟨h0, hr, b1, b2, b3, b4, b5, b6, b7, b8⟩ | ⟨h0, hr, b1, b2, b3, b4, b5, b6, b7, b8⟩
  · rcases hm with ⟨h0', hr', hkm, hfz⟩ | ⟨h0', _⟩
    · refine ⟨⟨hp, ?_, (by rw [hf.2.2.2.2.1]; exact hk.same (pf1 b1) b2 p0 p1 p2 p3 p4 p5 t1 t2 t3 t4 t5 t6 hkm hf.2.2.1), (by rw [he.2.1, hf.2.2.2.1]; exact hq), (hT.mk he.2.2.1 he.2.2.2.1 he.2.2.2.2.1 he.2.2.2.2.2.1 he.2.2.2.2.2.2.1 he.2.2.2.2.2.2.2.2.1 hf.2.2.2.2.1 hf.2.2.2.2.2.1 hf.2.2.2.2.2.2.1 hf.2.2.2.2.2.2.2 (by rw [he.1, hf.2.1]; exact hT.2.2.2.1) (by rw [hf.1, hf.2.2.2.1]; exact hT.2.2.2.2))⟩, hr.trans hr'.symm, Or.inl ⟨pf2 b1, lowQ.of hfz⟩⟩
      rw [b3, b4, b5, b6, b7, b8, hfz, hf.2.2.2.2.1]; exact hg
    · exact absurd (hk.1.1.symm.trans h0) h0'
  · rcases hm with ⟨h0', _⟩ | ⟨h0', hr', hkm, hfz⟩
    · exact absurd (hk.1.1.trans h0') h0
    · have hb := hk.back h0' hfz
      refine ⟨⟨hp, ?_, (by rw [hf.2.2.2.2.1]; exact hb.2.same (pf1 b1) b2 p0 p1 p2 p3 p4 p5 t1 t2 t3 t4 t5 t6 hkm hf.2.2.1), (by rw [he.2.1, hf.2.2.2.1]; exact hq), (hT.mk he.2.2.1 he.2.2.2.1 he.2.2.2.2.1 he.2.2.2.2.2.1 he.2.2.2.2.2.2.1 he.2.2.2.2.2.2.2.2.1 hf.2.2.2.2.1 hf.2.2.2.2.2.1 hf.2.2.2.2.2.2.1 hf.2.2.2.2.2.2.2 (by rw [he.1, hf.2.1]; exact hT.2.2.2.1) (by rw [hf.1, hf.2.2.2.1]; exact hT.2.2.2.2))⟩, hr.trans hr'.symm, Or.inr (pf2 b1)⟩
      rw [b3, b4, b5, hf.2.2.2.2.1]; exact hb.1.congr (fun _ _ => rfl) (fun _ _ => rfl) (fun _ _ => rfl) b6 b7 b8 (fun _ _ => rfl)

theorem br_poll (hG : GP n k al be en) (hR : RelB n be en ea pr cN cI cF cG cP cQ mN mI mF) (hc : ∃ (d1 d2 d3 d4 d5 : Nat → Int32) (d6 : Nat → Nat → Int32), (((((cN2 1) ≤ 8 ∧ (cN2 2) < 8 ∧ ∀ j, j < 8 → prP (d6 j)) ∧ ∀ j, j < 8 → prP ((cG2 0) j)) ∧ ((∃ a e, a < n ∧ e < en ∧ x = nI a ∧ y = nI e ∧ ccpP n k (cF 1) (cF 4) x z a e ∧ (∀ j, j < 8 → (cF2 4) j = upd (cF 4) a ((cF 4) a ||| bitI e) j) ∧ hldC n al be en ea (cF 2) (cF 1) (cF 5) (cF 6) (cF 7) (cF 8) (cF 9) (cF 11) (cF 3) (cG 0) a e z r (cF2 3) (cG2 0) ∧ (cI2 0) = (cI 0) + nI 1 ∧ (((cN2 1), (cI2 2)) = (mnK (cN 1), (cI 2) + nI 1) ∧ (cN2 2) = ((cN 2) + 1) % 8 ∧ d1 = (cF 0) ∧ d2 = (cF 1) ∧ d3 = (cF 2) ∧ (∀ j, j < 8 → d4 j = (cF 3) j) ∧ (∀ j, j < 8 → d5 j = (cF 4) j) ∧ ∀ j, j < 8 → d6 j = (cG 0) j)) ∨ (¬ (ccpA n k en (cF 1) (cF 4) x y z ∧ smpP n k x z) ∧ r = -1 ∧ (((cN2 1), (cI2 2)) = ((cN 1), (cI 2)) ∧ (cN2 2) = (cN 2) ∧ d1 = (cP 0 (cN 2)) ∧ d2 = (cP 1 (cN 2)) ∧ d3 = (cP 2 (cN 2)) ∧ d4 = (cP 3 (cN 2)) ∧ d5 = (cP 4 (cN 2)) ∧ d6 = (cQ (cN 2))) ∧ ((cF2 3) = (cF 3) ∧ (cF2 4) = (cF 4) ∧ (cG2 0) = (cG 0)) ∧ (cI2 0) = (cI 0)))) ∧ cP2 0 = (fun j => if j = (cN 2) then d1 else cP 0 j) ∧ cP2 1 = (fun j => if j = (cN 2) then d2 else cP 1 j) ∧ cP2 2 = (fun j => if j = (cN 2) then d3 else cP 2 j) ∧ cP2 3 = (fun j => if j = (cN 2) then d4 else cP 3 j) ∧ cP2 4 = (fun j => if j = (cN 2) then d5 else cP 4 j) ∧ cQ2 = (fun j => if j = (cN 2) then d6 else cQ j))) (he : cF2 0 = cF 0 ∧ cF2 1 = cF 1 ∧ cF2 2 = cF 2 ∧ cF2 16 = cF 16 ∧ cF2 5 = cF 5 ∧ cF2 6 = cF 6 ∧ cF2 7 = cF 7 ∧ cF2 8 = cF 8 ∧ cF2 9 = cF 9 ∧ cF2 10 = cF 10 ∧ cF2 11 = cF 11 ∧ cN2 0 = cN 0 ∧ cG2 1 = cG 1 ∧ cI2 6 = cI 6 ∧ cI2 7 = cI 7) (hm : (colP (mF2 0) ∧ keptP (mF2 1) ∧ (mN2 0) ≤ 8) ∧ ((∃ a e, a < n ∧ e < en ∧ x = nI a ∧ y = nI e ∧ mcpP n k (mF 0) z a e ∧ hldM n al be en ea (mF 4) (mF 5) (mF 6) (mF 7) a e z r2 (mF 0) (mF2 0) ∧ (mI2 1) = (mI 1) + nI 1 ∧ kpdP (mN 0) (mF 0) (mF 1) (mN2 0) (mF2 1)) ∨ (¬ mcpA n k en (mF 0) x y z ∧ r2 = -1 ∧ ((mF2 0) = (mF 0) ∧ (mF2 1) = (mF 1) ∧ (mN2 0) = (mN 0)) ∧ (mI2 1) = (mI 1)))) (hf : mI2 0 = mI 0 ∧ mF2 3 = mF 3 ∧ mF2 4 = mF 4 ∧ mF2 5 = mF 5 ∧ mF2 6 = mF 6 ∧ mF2 7 = mF 7) : RelB n be en ea pr cN2 cI2 cF2 cG2 cP2 cQ2 mN2 mI2 mF2 ∧ r = r2 ∧ ((cI2 2 = cI 2 ∧ lowQ (mF 0) (mF2 0)) ∨ cI2 2 = cI 2 + nI 1) := by
  obtain ⟨⟨hn2, hn8⟩, hkn, hal, hbe, hen⟩ := hG
  obtain ⟨hp, hg, hk, hq, hT⟩ := hR
  obtain ⟨d1, d2, d3, d4, d5, d6, ⟨_, hc⟩, p0, p1, p2, p3, p4, p5⟩ := hc
  obtain ⟨_, hm⟩ := hm
  rcases hc with ⟨a, e, ha, hae, hx, hy, hcp, hpz, hhc, hpm, k1, k2, k3, k4, k5, k6, k7, k8⟩ | ⟨hn, hr, ⟨s1, s2, s3, s4, s5, s6, s7, s8⟩, ⟨v1, v2, v3⟩, hpm⟩
  · have hi : mcpP n k (mF 0) z a e := (ccp_iff hg.a hn8 ha).mp (hx ▸ hcp)
    rcases hm with ⟨a', e', ha', hae', hx', hy', hmp, hhm, hpo, hkp⟩ | ⟨hn', _⟩
    · obtain rfl : a = a' := (nI_eq (by omega) (by omega)).mp (hx.symm.trans hx')
      obtain rfl : e = e' := (nI_eq (by omega) (by omega)).mp (hy.symm.trans hy')
      have hb := hg.hld hT.1 hT.2.2.1.1 hen hT.2.2.1.2.1 hT.2.2.1.2.2 hae (by omega) hn8 (by omega) hbe hT.2.1 hpz hhc hhm
      refine ⟨⟨hp, ?_, (by rw [hf.2.2.1]; exact hk.keep hg (pf1 k1) k2 p0 p1 p2 p3 p4 p5 k3 k4 k5 k6 k7 k8 hkp), (by rw [he.2.2.2.1, hf.2.1]; exact hq), (hT.mk he.2.2.2.2.1 he.2.2.2.2.2.1 he.2.2.2.2.2.2.1 he.2.2.2.2.2.2.2.1 he.2.2.2.2.2.2.2.2.1 he.2.2.2.2.2.2.2.2.2.2.1 hf.2.2.1 hf.2.2.2.1 hf.2.2.2.2.1 hf.2.2.2.2.2 (by rw [hpm, hpo, hT.2.2.2.1]) (by rw [hf.1, hf.2.1]; exact hT.2.2.2.2))⟩, hb.1, Or.inr (pf2 k1)⟩
      rw [he.1, he.2.1, he.2.2.1, hf.2.2.1]; exact hb.2
    · refine absurd ⟨hx ▸ okN_nI ha (by omega), hy ▸ okN_nI hae (by omega), fun a' e' ha' hae' hx' hy' => ?_⟩ hn'
      obtain rfl : a = a' := (nI_eq (by omega) (by omega)).mp (hx.symm.trans hx')
      obtain rfl : e = e' := (nI_eq (by omega) (by omega)).mp (hy.symm.trans hy')
      exact hi
  · rcases hm with ⟨a', e', ha', hae', hx', hy', hmp, _⟩ | ⟨hn', hr', ⟨hfz, hgz, hkm⟩, hpo⟩
    · have hi : ccpP n k (cF 1) (cF 4) x z a' e' := by rw [hx']; exact (ccp_iff hg.a hn8 ha').mpr hmp
      refine absurd ⟨⟨hx' ▸ okN_nI ha' (by omega), hy' ▸ okN_nI hae' (by omega), fun a e ha hae hx hy => ?_⟩, hi.1⟩ hn
      obtain rfl : a = a' := (nI_eq (by omega) (by omega)).mp (hx.symm.trans hx')
      obtain rfl : e = e' := (nI_eq (by omega) (by omega)).mp (hy.symm.trans hy')
      exact hi
    · refine ⟨⟨hp, ?_, (by rw [hf.2.2.1]; exact hk.same (pf1 s1) s2 p0 p1 p2 p3 p4 p5 s3 s4 s5 s6 s7 s8 hkm hgz), (by rw [he.2.2.2.1, hf.2.1]; exact hq), (hT.mk he.2.2.2.2.1 he.2.2.2.2.2.1 he.2.2.2.2.2.2.1 he.2.2.2.2.2.2.2.1 he.2.2.2.2.2.2.2.2.1 he.2.2.2.2.2.2.2.2.2.2.1 hf.2.2.1 hf.2.2.2.1 hf.2.2.2.2.1 hf.2.2.2.2.2 (by rw [hpm, hpo]; exact hT.2.2.2.1) (by rw [hf.1, hf.2.1]; exact hT.2.2.2.2))⟩, hr.trans hr'.symm, Or.inl ⟨pf2 s1, lowQ.of hfz⟩⟩
      rw [he.1, he.2.1, he.2.2.1, v1, v2, v3, hfz, hf.2.2.1]; exact hg

theorem br_polls (hG : GP n k al be en) (hR : RelB n be en ea pr cN cI cF cG cP cQ mN mI mF) (hc : ∃ (d1 d2 d3 d4 d5 : Nat → Int32) (d6 : Nat → Nat → Int32), (((((cN2 1) ≤ 8 ∧ (cN2 2) < 8 ∧ ∀ j, j < 8 → prP (d6 j)) ∧ ∀ j, j < 8 → prP ((cG2 0) j)) ∧ ((∃ nm, nm ≤ 100 ∧ x = nI nm ∧ ¬ x < nI 1 ∧ polBC n k al be en ea (cF 1) (cF 2) (cF 5) (cF 6) (cF 7) (cF 8) (cF 9) (cF 11) nm (y, (cF 4), (cF 3), (cG 0), (cI 0), nI 0) ((cI2 1), (cF2 4), (cF2 3), (cG2 0), (cI2 0), r) ∧ (((cN2 1), (cI2 2)) = (mnK (cN 1), (cI 2) + nI 1) ∧ (cN2 2) = ((cN 2) + 1) % 8 ∧ d1 = (cF 0) ∧ d2 = (cF 1) ∧ d3 = (cF 2) ∧ (∀ j, j < 8 → d4 j = (cF 3) j) ∧ (∀ j, j < 8 → d5 j = (cF 4) j) ∧ ∀ j, j < 8 → d6 j = (cG 0) j)) ∨ (¬ (¬ x < nI 1 ∧ x ≤ nI 100) ∧ r = -1 ∧ (((cN2 1), (cI2 2)) = ((cN 1), (cI 2)) ∧ (cN2 2) = (cN 2) ∧ d1 = (cP 0 (cN 2)) ∧ d2 = (cP 1 (cN 2)) ∧ d3 = (cP 2 (cN 2)) ∧ d4 = (cP 3 (cN 2)) ∧ d5 = (cP 4 (cN 2)) ∧ d6 = (cQ (cN 2))) ∧ ((cF2 3) = (cF 3) ∧ (cF2 4) = (cF 4) ∧ (cG2 0) = (cG 0)) ∧ (cI2 0) = (cI 0) ∧ (cI2 1) = (cI 1)))) ∧ cP2 0 = (fun j => if j = (cN 2) then d1 else cP 0 j) ∧ cP2 1 = (fun j => if j = (cN 2) then d2 else cP 1 j) ∧ cP2 2 = (fun j => if j = (cN 2) then d3 else cP 2 j) ∧ cP2 3 = (fun j => if j = (cN 2) then d4 else cP 3 j) ∧ cP2 4 = (fun j => if j = (cN 2) then d5 else cP 4 j) ∧ cQ2 = (fun j => if j = (cN 2) then d6 else cQ j))) (he : cF2 0 = cF 0 ∧ cF2 1 = cF 1 ∧ cF2 2 = cF 2 ∧ cF2 16 = cF 16 ∧ cF2 5 = cF 5 ∧ cF2 6 = cF 6 ∧ cF2 7 = cF 7 ∧ cF2 8 = cF 8 ∧ cF2 9 = cF 9 ∧ cF2 10 = cF 10 ∧ cF2 11 = cF 11 ∧ cN2 0 = cN 0 ∧ cG2 1 = cG 1 ∧ cI2 6 = cI 6 ∧ cI2 7 = cI 7) (hm : (colP (mF2 0) ∧ keptP (mF2 1) ∧ (mN2 0) ≤ 8) ∧ ((∃ nm, nm ≤ 100 ∧ x = nI nm ∧ ¬ x < nI 1 ∧ polBM n k al be en ea (mF 4) (mF 5) (mF 6) (mF 7) nm (y, (mF 0), (mI 1), nI 0) ((mI2 3), (mF2 0), (mI2 1), r2) ∧ kpdP (mN 0) (mF 0) (mF 1) (mN2 0) (mF2 1)) ∨ (¬ (¬ x < nI 1 ∧ x ≤ nI 100) ∧ r2 = -1 ∧ ((mF2 0) = (mF 0) ∧ (mF2 1) = (mF 1) ∧ (mN2 0) = (mN 0)) ∧ (mI2 1) = (mI 1) ∧ (mI2 3) = (mI 3)))) (hf : mI2 0 = mI 0 ∧ mF2 3 = mF 3 ∧ mF2 4 = mF 4 ∧ mF2 5 = mF 5 ∧ mF2 6 = mF 6 ∧ mF2 7 = mF 7) : RelB n be en ea pr cN2 cI2 cF2 cG2 cP2 cQ2 mN2 mI2 mF2 ∧ r = r2 ∧ ((cI2 2 = cI 2 ∧ lowQ (mF 0) (mF2 0)) ∨ cI2 2 = cI 2 + nI 1) := by
  obtain ⟨⟨hn2, hn8⟩, hkn, hal, hbe, hen⟩ := hG
  obtain ⟨hp, hg, hk, hq, hT⟩ := hR
  obtain ⟨d1, d2, d3, d4, d5, d6, ⟨_, hc⟩, p0, p1, p2, p3, p4, p5⟩ := hc
  obtain ⟨_, hm⟩ := hm
  rcases hc with ⟨m, hm1, hx, hm0, hpc, k1, k2, k3, k4, k5, k6, k7, k8⟩ | ⟨hn, hr, ⟨s1, s2, s3, s4, s5, s6, s7, s8⟩, ⟨v1, v2, v3⟩, hpm, _⟩
  · rcases hm with ⟨m', hm1', hx', _, hpm, hkp⟩ | ⟨hn', _⟩
    · obtain rfl : m = m' := (nI_eq (by omega) (by omega)).mp (hx.symm.trans hx')
      have hb := polB_all hT.1 hT.2.2.1.1 hen hT.2.2.1.2.1 hT.2.2.1.2.2 hn8 (by omega) hbe hT.2.1 (⟨rfl, hg, hT.2.2.2.1, rfl⟩ : polR be en (mF 4) (cF 0) (cF 1) (cF 2) (y, cF 4, cF 3, cG 0, cI 0, nI 0) (y, mF 0, mI 1, nI 0)) m _ _ hpc hpm
      refine ⟨⟨hp, ?_, (by rw [hf.2.2.1]; exact hk.keep hg (pf1 k1) k2 p0 p1 p2 p3 p4 p5 k3 k4 k5 k6 k7 k8 hkp), (by rw [he.2.2.2.1, hf.2.1]; exact hq), (hT.mk he.2.2.2.2.1 he.2.2.2.2.2.1 he.2.2.2.2.2.2.1 he.2.2.2.2.2.2.2.1 he.2.2.2.2.2.2.2.2.1 he.2.2.2.2.2.2.2.2.2.2.1 hf.2.2.1 hf.2.2.2.1 hf.2.2.2.2.1 hf.2.2.2.2.2 hb.2.2.1 (by rw [hf.1, hf.2.1]; exact hT.2.2.2.2))⟩, hb.2.2.2, Or.inr (pf2 k1)⟩
      rw [he.1, he.2.1, he.2.2.1, hf.2.2.1]; exact hb.2.1
    · exact absurd ⟨hm0, by rw [hx]; exact (nI_leI (by omega) (by decide)).mpr hm1⟩ hn'
  · rcases hm with ⟨m', hm1', hx', hm0', hpm', hkp⟩ | ⟨hn', hr', ⟨hfz, hgz, hkm⟩, hpo, _⟩
    · exact absurd ⟨hm0', by rw [hx']; exact (nI_leI (by omega) (by decide)).mpr hm1'⟩ hn
    · refine ⟨⟨hp, ?_, (by rw [hf.2.2.1]; exact hk.same (pf1 s1) s2 p0 p1 p2 p3 p4 p5 s3 s4 s5 s6 s7 s8 hkm hgz), (by rw [he.2.2.2.1, hf.2.1]; exact hq), (hT.mk he.2.2.2.2.1 he.2.2.2.2.2.1 he.2.2.2.2.2.2.1 he.2.2.2.2.2.2.2.1 he.2.2.2.2.2.2.2.2.1 he.2.2.2.2.2.2.2.2.2.2.1 hf.2.2.1 hf.2.2.2.1 hf.2.2.2.2.1 hf.2.2.2.2.2 (by rw [hpm, hpo]; exact hT.2.2.2.1) (by rw [hf.1, hf.2.1]; exact hT.2.2.2.2))⟩, hr.trans hr'.symm, Or.inl ⟨pf2 s1, lowQ.of hfz⟩⟩
      rw [he.1, he.2.1, he.2.2.1, v1, v2, v3, hfz, hf.2.2.1]; exact hg

theorem br_yes (hG : GP n k al be en) (hR : RelB n be en ea pr cN cI cF cG cP cQ mN mI mF) (hc : (∃ a e c, a < n ∧ e < en ∧ c ≤ 8 ∧ x = nI a ∧ y = nI e ∧ ccpP n k (cF 1) (cF 4) x z a e ∧ r = nI c ∧ yesN n (cF 2) (cF 1) (cF 8) (cF 5) (cG 0) a e z c) ∨ (¬ (ccpA n k en (cF 1) (cF 4) x y z ∧ smpP n k x z) ∧ r = -1)) (he : cN2 1 = cN 1 ∧ cN2 2 = cN 2 ∧ cI2 0 = cI 0 ∧ cF2 0 = cF 0 ∧ cF2 1 = cF 1 ∧ cF2 2 = cF 2 ∧ cF2 3 = cF 3 ∧ cF2 4 = cF 4 ∧ cG2 0 = cG 0 ∧ cF2 16 = cF 16 ∧ cF2 5 = cF 5 ∧ cF2 6 = cF 6 ∧ cF2 7 = cF 7 ∧ cF2 8 = cF 8 ∧ cF2 9 = cF 9 ∧ cF2 10 = cF 10 ∧ cF2 11 = cF 11 ∧ cP2 = cP ∧ cQ2 = cQ ∧ cN2 0 = cN 0 ∧ cG2 1 = cG 1 ∧ cI2 2 = cI 2 ∧ cI2 6 = cI 6 ∧ cI2 7 = cI 7) (hm : (∃ a e c, a < n ∧ e < en ∧ c ≤ 8 ∧ x = nI a ∧ y = nI e ∧ mcpP n k (mF 0) z a e ∧ r2 = nI c ∧ yesM en (mF 4) (mF 7) (mF 0) a e z n c) ∨ (¬ mcpA n k en (mF 0) x y z ∧ r2 = -1)) (hf : mN2 0 = mN 0 ∧ mI2 0 = mI 0 ∧ mI2 1 = mI 1 ∧ mF2 0 = mF 0 ∧ mF2 1 = mF 1 ∧ mF2 3 = mF 3 ∧ mF2 4 = mF 4 ∧ mF2 5 = mF 5 ∧ mF2 6 = mF 6 ∧ mF2 7 = mF 7) : RelB n be en ea pr cN2 cI2 cF2 cG2 cP2 cQ2 mN2 mI2 mF2 ∧ r = r2 := by
  obtain ⟨⟨hn2, hn8⟩, hkn, hal, hbe, hen⟩ := hG
  obtain ⟨hp, hg, hk, hq, hT⟩ := hR
  refine ⟨RelB.same (pr := pr) (n := n) ⟨hp, hg, hk, hq, hT⟩ he.1 he.2.1 he.2.2.1 he.2.2.2.1 he.2.2.2.2.1 he.2.2.2.2.2.1 he.2.2.2.2.2.2.1 he.2.2.2.2.2.2.2.1 he.2.2.2.2.2.2.2.2.1 he.2.2.2.2.2.2.2.2.2.1 he.2.2.2.2.2.2.2.2.2.2.1 he.2.2.2.2.2.2.2.2.2.2.2.1 he.2.2.2.2.2.2.2.2.2.2.2.2.1 he.2.2.2.2.2.2.2.2.2.2.2.2.2.1 he.2.2.2.2.2.2.2.2.2.2.2.2.2.2.1 he.2.2.2.2.2.2.2.2.2.2.2.2.2.2.2.2.1 he.2.2.2.2.2.2.2.2.2.2.2.2.2.2.2.2.2.1 he.2.2.2.2.2.2.2.2.2.2.2.2.2.2.2.2.2.2.1 hf.1 hf.2.1 hf.2.2.1 (fun j _ => congrFun hf.2.2.2.1 j) hf.2.2.2.2.1 hf.2.2.2.2.2.1 hf.2.2.2.2.2.2.1 hf.2.2.2.2.2.2.2.1 hf.2.2.2.2.2.2.2.2.1 hf.2.2.2.2.2.2.2.2.2, ?_⟩
  rcases hc with ⟨a, e, c, ha, hae, _, hx, hy, hcp, hr, sx, hsx, hyc⟩ | ⟨hn, hr⟩
  · have hi : mcpP n k (mF 0) z a e := (ccp_iff hg.a hn8 ha).mp (hx ▸ hcp)
    rcases hm with ⟨a', e', c', ha', hae', _, hx', hy', hmp, hr', hyc'⟩ | ⟨hn', _⟩
    · obtain rfl : a = a' := (nI_eq (by omega) (by omega)).mp (hx.symm.trans hx')
      obtain rfl : e = e' := (nI_eq (by omega) (by omega)).mp (hy.symm.trans hy')
      obtain ⟨⟨s, hs⟩, hv⟩ := hg
      have hb := yes_eq hT.1 hv hT.2.2.1.1 hen hae (show a < 8 by omega) (fun o ho => (hs o ho).2.2.2.1) (fun o ho => (hs a (by omega)).2.2.2.2 o ho) hsx n hn8 c c' hyc hyc'
      rw [hr, hr', hb]
    · refine absurd ⟨hx ▸ okN_nI ha (by omega), hy ▸ okN_nI hae (by omega), fun a' e' ha' hae' hx' hy' => ?_⟩ hn'
      obtain rfl : a = a' := (nI_eq (by omega) (by omega)).mp (hx.symm.trans hx')
      obtain rfl : e = e' := (nI_eq (by omega) (by omega)).mp (hy.symm.trans hy')
      exact hi
  · rcases hm with ⟨a', e', c', ha', hae', _, hx', hy', hmp, _⟩ | ⟨hn', hr'⟩
    · have hi : ccpP n k (cF 1) (cF 4) x z a' e' := by rw [hx']; exact (ccp_iff hg.a hn8 ha').mpr hmp
      refine absurd ⟨⟨hx' ▸ okN_nI ha' (by omega), hy' ▸ okN_nI hae' (by omega), fun a e ha hae hx hy => ?_⟩, hi.1⟩ hn
      obtain rfl : a = a' := (nI_eq (by omega) (by omega)).mp (hx.symm.trans hx')
      obtain rfl : e = e' := (nI_eq (by omega) (by omega)).mp (hy.symm.trans hy')
      exact hi
    · rw [hr, hr']

theorem br_alike (hG : GP n k al be en) (hR : RelB n be en ea pr cN cI cF cG cP cQ mN mI mF) (hc : (∃ a b c, a < n ∧ b < n ∧ c ≤ 16 ∧ x = nI a ∧ y = nI b ∧ (cF 1) a = nI 0 ∧ (cF 1) b = nI 0 ∧ r = nI c ∧ alkC (cF 5) (cG 0) a b en c) ∨ (¬ ((∃ a, a < n ∧ x = nI a ∧ (cF 1) a = nI 0) ∧ (∃ a, a < n ∧ y = nI a ∧ (cF 1) a = nI 0)) ∧ r = -1)) (he : cN2 1 = cN 1 ∧ cN2 2 = cN 2 ∧ cI2 0 = cI 0 ∧ cF2 0 = cF 0 ∧ cF2 1 = cF 1 ∧ cF2 2 = cF 2 ∧ cF2 3 = cF 3 ∧ cF2 4 = cF 4 ∧ cG2 0 = cG 0 ∧ cF2 16 = cF 16 ∧ cF2 5 = cF 5 ∧ cF2 6 = cF 6 ∧ cF2 7 = cF 7 ∧ cF2 8 = cF 8 ∧ cF2 9 = cF 9 ∧ cF2 10 = cF 10 ∧ cF2 11 = cF 11 ∧ cP2 = cP ∧ cQ2 = cQ ∧ cN2 0 = cN 0 ∧ cG2 1 = cG 1 ∧ cI2 2 = cI 2 ∧ cI2 6 = cI 6 ∧ cI2 7 = cI 7) (hm : (∃ a b c, a < n ∧ b < n ∧ c ≤ 16 ∧ x = nI a ∧ y = nI b ∧ (mF 0) (48 + a) = 0 ∧ (mF 0) (48 + b) = 0 ∧ r2 = nI c ∧ alkM (mF 0) a b en c) ∨ (¬ ((∃ a, a < n ∧ x = nI a ∧ (mF 0) (48 + a) = 0) ∧ (∃ a, a < n ∧ y = nI a ∧ (mF 0) (48 + a) = 0)) ∧ r2 = -1)) (hf : mN2 0 = mN 0 ∧ mI2 0 = mI 0 ∧ mI2 1 = mI 1 ∧ mF2 0 = mF 0 ∧ mF2 1 = mF 1 ∧ mF2 3 = mF 3 ∧ mF2 4 = mF 4 ∧ mF2 5 = mF 5 ∧ mF2 6 = mF 6 ∧ mF2 7 = mF 7) : RelB n be en ea pr cN2 cI2 cF2 cG2 cP2 cQ2 mN2 mI2 mF2 ∧ r = r2 := by
  obtain ⟨⟨hn2, hn8⟩, hkn, hal, hbe, hen⟩ := hG
  obtain ⟨hp, hg, hk, hq, hT⟩ := hR
  refine ⟨RelB.same (pr := pr) (n := n) ⟨hp, hg, hk, hq, hT⟩ he.1 he.2.1 he.2.2.1 he.2.2.2.1 he.2.2.2.2.1 he.2.2.2.2.2.1 he.2.2.2.2.2.2.1 he.2.2.2.2.2.2.2.1 he.2.2.2.2.2.2.2.2.1 he.2.2.2.2.2.2.2.2.2.1 he.2.2.2.2.2.2.2.2.2.2.1 he.2.2.2.2.2.2.2.2.2.2.2.1 he.2.2.2.2.2.2.2.2.2.2.2.2.1 he.2.2.2.2.2.2.2.2.2.2.2.2.2.1 he.2.2.2.2.2.2.2.2.2.2.2.2.2.2.1 he.2.2.2.2.2.2.2.2.2.2.2.2.2.2.2.2.1 he.2.2.2.2.2.2.2.2.2.2.2.2.2.2.2.2.2.1 he.2.2.2.2.2.2.2.2.2.2.2.2.2.2.2.2.2.2.1 hf.1 hf.2.1 hf.2.2.1 (fun j _ => congrFun hf.2.2.2.1 j) hf.2.2.2.2.1 hf.2.2.2.2.2.1 hf.2.2.2.2.2.2.1 hf.2.2.2.2.2.2.2.1 hf.2.2.2.2.2.2.2.2.1 hf.2.2.2.2.2.2.2.2.2, ?_⟩
  obtain ⟨⟨s, hs⟩, hv⟩ := hg
  have hkk : ∀ o, o < 8 → (cF 1 o = nI 0 ↔ mF 0 (48 + o) = 0) := fun o ho => by rw [(hs o ho).2.2.2.1]; exact Iff.rfl
  rcases hc with ⟨a, b, c, ha, hb, _, hx, hy, hka, hkb, hr, hcc⟩ | ⟨hn, hr⟩
  · rcases hm with ⟨a', b', c', ha', hb', _, hx', hy', hka', hkb', hr', hcc'⟩ | ⟨hn', _⟩
    · obtain rfl : a = a' := (nI_eq (by omega) (by omega)).mp (hx.symm.trans hx')
      obtain rfl : b = b' := (nI_eq (by omega) (by omega)).mp (hy.symm.trans hy')
      rw [hr, hr', alk_eq hT.1 hv hT.2.2.1.1 hen (by omega) (by omega) en (Nat.le_refl _) c c' hcc hcc']
    · exact absurd ⟨⟨a, ha, hx, (hkk a (by omega)).mp hka⟩, ⟨b, hb, hy, (hkk b (by omega)).mp hkb⟩⟩ hn'
  · rcases hm with ⟨a', b', c', ha', hb', _, hx', hy', hka', hkb', hr', hcc'⟩ | ⟨hn', hr'⟩
    · exact absurd ⟨⟨a', ha', hx', (hkk a' (by omega)).mpr hka'⟩, ⟨b', hb', hy', (hkk b' (by omega)).mpr hkb'⟩⟩ hn
    · rw [hr, hr']

theorem RelB.accq (h : RelB n be en ea pr cN cI cF cG cP cQ mN mI mF) (hen : en ≤ 16) : accQ (cG 0) := fun v hv t ht => by
  rcases ((h.2.1.2 v hv).2.2.1 t ht).2.2.2 with ⟨e, he, _, _, q⟩ | ⟨_, q⟩
  · exact Or.inr ⟨e, by omega, q⟩
  · exact Or.inl q
theorem RelB.acv (h : RelB n be en ea pr cN cI cF cG cP cQ mN mI mF) : ∀ v, v < 8 → ∀ t, t < 8 → ∀ r, accM en (mF 4) (mF 0) v (nI t) r → r = cG 0 v (t * 4 + 3) := fun v hv t ht r hr => by
  have hV := h.2.1.2 v hv
  rcases (hV.2.2.1 t ht).2.2.2 with ⟨e, he, w1, w2, w3⟩ | ⟨w1, w2⟩ <;> rcases hr with ⟨e', he', y1, y2, y3⟩ | ⟨y1, y2⟩
  · rw [w3, y3, hV.2.2.2.1 e e' he he' w2 y2 (w1.trans y1.symm)]
  · exact absurd w2 (y1 e he w1)
  · exact absurd y2 (w1 e' he' y1)
  · rw [w2, y2]
def OkM (mN : Nat → Nat) (mF : Nat → Nat → Int32) : Prop := okF (mF 0) ∧ ∀ r, r < mN 0 → okF (fun j => mF 1 (288 * r + j))
theorem okF.congr {f g : Nat → Int32} (h : okF f) (e : ∀ j, j < 64 → g j = f j) : okF g := by
  obtain ⟨h1, h2⟩ := h
  exact ⟨fun j hj => by rw [e _ (by omega), e _ (by omega)]; exact h1 j hj, fun i j hi hj => by rw [e _ (by omega), e _ (by omega)]; exact h2 i j hi hj⟩
theorem okF.fresh : okF freshS := by
  have e1 : ∀ j, j < 8 → freshS (40 + j) = nI 0 := by decide
  have e2 : ∀ i, i < 8 → freshS (56 + i) = nI 255 := by decide
  have e3 : ∀ i, i < 8 → hasB (nI 255) i := by decide
  exact ⟨fun j hj q => absurd ((e1 j hj).symm.trans q) (by decide), fun i j hi hj => by rw [e2 i hi, e2 j hj]; exact ⟨fun _ => e3 i hi, fun _ => e3 j hj⟩⟩
theorem okF.colour {f : Nat → Int32} {a : Nat} {y : Int32} (h : okF f) (ha : a < 8) : okF (upd (upd (upd (upd (upd (upd f (0 + a) y) (8 + a) (-1)) (16 + a) (nI 0)) (24 + a) (nI 0)) (32 + a) (nI 0)) (40 + a) (nI 0)) := by
  obtain ⟨h1, h2⟩ := h
  have e : ∀ i, ¬ i = 0 + a → ¬ i = 8 + a → ¬ i = 16 + a → ¬ i = 24 + a → ¬ i = 32 + a → ¬ i = 40 + a → upd (upd (upd (upd (upd (upd f (0 + a) y) (8 + a) (-1)) (16 + a) (nI 0)) (24 + a) (nI 0)) (32 + a) (nI 0)) (40 + a) (nI 0) i = f i := fun i q1 q2 q3 q4 q5 q6 => by
    unfold upd; rw [if_neg q6, if_neg q5, if_neg q4, if_neg q3, if_neg q2, if_neg q1]
  refine ⟨fun j hj q => ?_, fun i j hi hj => ?_⟩
  · by_cases z : j = a
    · subst z; rw [upA] at q; exact absurd q (by decide)
    · rw [e _ (by omega) (by omega) (by omega) (by omega) (by omega) (by omega)] at q
      rw [e _ (by omega) (by omega) (by omega) (by omega) (by omega) (by omega)]
      exact h1 j hj q
  · rw [e _ (by omega) (by omega) (by omega) (by omega) (by omega) (by omega), e _ (by omega) (by omega) (by omega) (by omega) (by omega) (by omega)]
    exact h2 i j hi hj
theorem okF.link {f : Nat → Int32} {a b : Nat} (h : okF f) (ha : a < 8) (hb : b < 8) (hab : ¬ a = b) : okF (linkG f a b) := by
  obtain ⟨h1, h2⟩ := h
  have e : ∀ i, ¬ i = 56 + a → ¬ i = 56 + b → linkG f a b i = f i := fun i q1 q2 => by unfold linkG; rw [upN _ _ q2, upN _ _ q1]
  have key : ∀ i k, i < 8 → k < 8 → (hasB (linkG f a b (56 + i)) k ↔ ¬ (hasB (f (56 + i)) k ↔ ((i = a ∧ k = b) ∨ (i = b ∧ k = a)))) := fun i k hi hk => by
    by_cases q1 : i = b
    · subst q1
      have e1 : linkG f a i (56 + i) = f (56 + i) ^^^ bitI a := by unfold linkG; rw [upA, upN _ _ (by omega)]
      rw [e1, hasB_xor (by omega), hasB_bit (by omega) (by omega)]
      have z : (k = a) ↔ ((i = a ∧ k = i) ∨ (i = i ∧ k = a)) := ⟨fun w => Or.inr ⟨rfl, w⟩, fun w => w.elim (fun v => absurd v.1.symm hab) (fun v => v.2)⟩
      rw [← z]
    · by_cases q2 : i = a
      · subst q2
        have e1 : linkG f i b (56 + i) = f (56 + i) ^^^ bitI b := by unfold linkG; rw [upN _ _ (by omega), upA]
        rw [e1, hasB_xor (by omega), hasB_bit (by omega) (by omega)]
        have z : (k = b) ↔ ((i = i ∧ k = b) ∨ (i = b ∧ k = i)) := ⟨fun w => Or.inl ⟨rfl, w⟩, fun w => w.elim (fun v => v.2) (fun v => absurd v.1 q1)⟩
        rw [← z]
      · rw [e _ (by omega) (by omega)]
        constructor
        · intro w v
          rcases v.mp w with u | u
          · exact q2 u.1
          · exact q1 u.1
        · intro w
          apply Decidable.byContradiction
          intro v
          exact w ⟨fun u => absurd u v, fun u => u.elim (fun y => absurd y.1 q2) (fun y => absurd y.1 q1)⟩
  refine ⟨fun j hj => by rw [e _ (by omega) (by omega), e _ (by omega) (by omega)]; exact h1 j hj, fun i j hi hj => ?_⟩
  rw [key i j hi hj, key j i hj hi, h2 i j hi hj]
  have z : ((i = a ∧ j = b) ∨ (i = b ∧ j = a)) ↔ ((j = a ∧ i = b) ∨ (j = b ∧ i = a)) := ⟨fun w => w.elim (fun v => Or.inr ⟨v.2, v.1⟩) (fun v => Or.inl ⟨v.2, v.1⟩), fun w => w.elim (fun v => Or.inr ⟨v.2, v.1⟩) (fun v => Or.inl ⟨v.2, v.1⟩)⟩
  rw [z]
theorem uSet_c {pr : Int32} {be W : Nat} {u : Nat → Nat} (h0 : u 0 = 1 ∨ u 0 = 2) (hW : W < 3) : uSet pr be W u 0 = 1 ∨ uSet pr be W u 0 = 2 := by
  have hWW : ¬ W = 0 → W = 1 ∨ W = 2 := fun q => by omega
  have s : ∀ (v : Nat → Nat) (i x : Nat), ¬ i = 0 → setU v i x 0 = v 0 := fun v i x hi => setU_ne v x (fun q => hi q.symm)
  have hf : ¬ W = 0 → flkU W u 0 = 1 ∨ flkU W u 0 = 2 := fun q => by
    unfold flkU
    by_cases z : W = u 0
    · rw [if_pos z, s _ _ _ (by decide)]; exact h0
    · rw [if_neg z, s _ _ _ (by decide), setU_eq]; exact hWW q
  have hbp : bpU W u 0 = u 0 := s _ _ _ (by omega)
  have hbc : ¬ W = 0 → bcU W u 0 = 1 ∨ bcU W u 0 = 2 := fun q => by
    unfold bcU
    split
    · rw [setU_eq]; exact hWW q
    · rw [hbp]; exact h0
  have hbl : ¬ W = 0 → balU W u 0 = 1 ∨ balU W u 0 = 2 := fun q => by
    unfold balU
    by_cases z : W = bcU W u 1
    · rw [if_pos z, s _ _ _ (by decide)]; exact hbc q
    · rw [if_neg z, s _ _ _ (by decide), s _ _ _ (by decide)]; exact hbc q
  have hx : ¬ W = 0 → nxtU pr W u 0 = 1 ∨ nxtU pr W u 0 = 2 := fun q => by
    unfold nxtU
    split
    · exact hf q
    · exact hbl q
  unfold uSet
  by_cases q1 : pr = 0
  · rw [if_pos q1]
    by_cases q2 : W = 0
    · rw [if_pos q2]; exact h0
    · rw [if_neg q2, setU_eq]; exact hWW q2
  · rw [if_neg q1]
    by_cases q2 : W = 0
    · rw [if_pos q2, s _ _ _ (by decide)]; exact h0
    · rw [if_neg q2]
      by_cases q3 : nxtU pr W u 2 < be
      · rw [if_pos q3]; exact hx q2
      · rw [if_neg q3, s _ _ _ (by decide)]; exact hx q2
theorem okF.ask {n al be a : Nat} {pr x r : Int32} {f fz : Nat → Int32} {u : Nat → Nat} (h : okF f) (ha : a < 8) (hn : n ≤ 8) (hu : rowU f a u) (h0 : u 0 = 1 ∨ u 0 = 2) (hask : askedP n al be pr f x a u r fz) : okF fz := by
  have hna : ¬ f (0 + a) < 0 := by
    rw [hu.1]
    rcases h0 with q | q
    · rw [q]; decide
    · rw [q]; decide
  have hi := asked_hi ha hask
  obtain ⟨g, z, o, hL, hup, hfin, hr, hoth, hcol⟩ := hask
  refine ⟨fun j hj q => ?_, fun i j hi' hj' => ?_⟩
  · by_cases w : j = a
    · subst w
      rw [hfin.1]
      rcases uSet_c (pr := pr) (be := be) (W := winU al z o) (u := u) h0 (by unfold winU; split; split; decide; decide; decide) with c | c
      · rw [c]; decide
      · rw [c]; decide
    · have e : ∀ c, c = 0 ∨ c = 8 ∨ c = 16 ∨ c = 24 ∨ c = 32 ∨ c = 40 → fz (c + j) = g (c + j) := fun c hc => hoth (c + j) (by omega) (by omega) (by omega) (by omega) (by omega) (by omega)
      rw [e 40 (by omega), hup _ (by omega)] at q
      have e0 : g (0 + j) = givM f x a n (0 + j) := by
        have z1 := askL_row (S := x) ha hna n hn (0 + j)
        rw [show askL f x a n = (g, z, o) from hL, if_pos (by omega)] at z1
        exact z1
      rw [e 0 (by omega), e0]
      unfold givM
      split
      · exact hna
      · exact h.1 j hj q
  · rw [hi _ (by omega), hi _ (by omega)]; exact h.2 i j hi' hj'
theorem OkM.same (h : OkM mN mF) (b0 : mN2 0 = mN 0) (b1 : ∀ j, j < 288 → mF2 0 j = mF 0 j) (b2 : mF2 1 = mF 1) : OkM mN2 mF2 := ⟨h.1.congr (fun j hj => b1 j (by omega)), by rw [b0, b2]; exact h.2⟩
theorem OkM.keep (h : OkM mN mF) (hkm : mN 0 ≤ 8) (hf : okF (mF2 0)) (hp : kpdP (mN 0) (mF 0) (mF 1) (mN2 0) (mF2 1)) : OkM mN2 mF2 := by
  obtain ⟨hkz, hgz⟩ := hp
  refine ⟨hf, fun r hr => ?_⟩
  by_cases q : mN 0 < 8
  · rw [if_pos q] at hkz
    by_cases z : r = mN 0
    · refine h.1.congr (fun j hj => ?_)
      show mF2 1 (288 * r + j) = mF 0 j
      rw [hgz _ (by omega)]
      unfold keepG
      rw [if_pos q, if_pos (by omega)]
      exact congrArg (mF 0) (by omega)
    · refine (h.2 r (by omega)).congr (fun j hj => ?_)
      show mF2 1 (288 * r + j) = mF 1 (288 * r + j)
      rw [hgz _ (by omega)]
      unfold keepG
      rw [if_pos q, if_neg (by omega)]
  · rw [if_neg q] at hkz
    by_cases z : r = 7
    · refine h.1.congr (fun j hj => ?_)
      show mF2 1 (288 * r + j) = mF 0 j
      rw [hgz _ (by omega)]
      unfold keepG
      rw [if_neg q, if_pos (by omega)]
      exact congrArg (mF 0) (by omega)
    · refine (h.2 (r + 1) (by omega)).congr (fun j hj => ?_)
      show mF2 1 (288 * r + j) = mF 1 (288 * (r + 1) + j)
      rw [hgz _ (by omega)]
      unfold keepG
      rw [if_neg q, if_neg (by omega)]
      exact congrArg (mF 1) (by omega)
theorem run_ok {s : rnS} (hn : n ≤ 8) (hbe : 1 ≤ be ∧ be ≤ 15) (hs : okF s.2.1) : ∀ o t, runM n k al be pr o s t → okF t.2.1 := by
  intro o
  induction o with
  | zero => intro t h; replace h : t = s := h; rw [h]; exact hs
  | succ o ih =>
    rintro t ⟨m, h1, a, l, S, ha, _, _, h2⟩
    have i1 := ih m h1
    rcases h2 with ⟨_, h2⟩ | ⟨hca, u, r, hu, huk, hask, _⟩
    · rw [h2]; exact i1
    · exact i1.ask (by omega) hn hu (can_u hu huk hbe.2 hca).1 hask
theorem hldM.low {a e : Nat} {sof onf otf anf f g : Nat → Int32} (ha : a < 8) (hso : inP 16 8 sof) (hen : en ≤ 16) (h : hldM n al be en ea sof onf otf anf a e x r f g) : ∀ j, j < 64 → g j = f j := fun j hj => by
  obtain ⟨c, b, m, h', _, _, hmm, hac, _⟩ := h
  have hv : ¬ vCell a j := by unfold vCell; omega
  rw [acs_frame ha en g b hac j (by omega) hv]
  rcases hmm with ⟨_, hh, q⟩ | ⟨_, hh, q⟩
  · rw [mks_frame ha hso hen en (Nat.le_refl _) m q j (by omega) hv, hh, upN _ _ (by omega)]
  · rw [mks_frame ha hso hen en (Nat.le_refl _) m q j (by omega) hv, hh, upN _ _ (by omega), upN _ _ (by omega)]
theorem pol_low {sof onf otf anf : Nat → Int32} {s : plM} (hn : n ≤ 8) (hso : inP 16 8 sof) (hen : en ≤ 16) : ∀ o t, polBM n k al be en ea sof onf otf anf o s t → ∀ j, j < 64 → t.2.1 j = s.2.1 j := by
  intro o
  induction o with
  | zero => intro t h; replace h : t = s := h; rw [h]; exact fun _ _ => rfl
  | succ o ih =>
    rintro t ⟨m, h1, a, ha, _, h2⟩ j hj
    rcases h2 with ⟨_, h2⟩ | ⟨_, _, e, l, S, r, _, _, _, hh, _⟩
    · rw [h2]; exact ih m h1 j hj
    · rw [hh.low (by omega) hso hen j hj]; exact ih m h1 j hj

theorem ok_kind (hG : GP n k al be en) (hR : RelB n be en ea pr cN cI cF cG cP cQ mN mI mF) (hO : OkM mN mF) (hm : (colP (mF2 0) ∧ keptP (mF2 1) ∧ (mN2 0) ≤ 8) ∧ ((∃ a, a < n ∧ x = nI a ∧ (¬ y < nI 0 ∧ y ≤ nI 4) ∧ r2 = (mF 0) (48 + a) ∧ (mF2 0) = upd (mF 0) (48 + a) y ∧ kpdP (mN 0) (mF 0) (mF 1) (mN2 0) (mF2 1)) ∨ (¬ (okN n x ∧ ¬ y < nI 0 ∧ y ≤ nI 4) ∧ r2 = -1 ∧ (mF2 0) = (mF 0) ∧ (mF2 1) = (mF 1) ∧ (mN2 0) = (mN 0)))) (hf : mI2 0 = mI 0 ∧ mI2 1 = mI 1 ∧ mF2 3 = mF 3 ∧ mF2 4 = mF 4 ∧ mF2 5 = mF 5 ∧ mF2 6 = mF 6 ∧ mF2 7 = mF 7) : OkM mN2 mF2 := by
  obtain ⟨⟨hn2, hn8⟩, hkn, hal, hbe, hen⟩ := hG
  obtain ⟨hp, hg, hk, hq, hT⟩ := hR
  have hkm8 : mN 0 ≤ 8 := hk.1.2.1
  obtain ⟨_, hm⟩ := hm
  rcases hm with ⟨a', ha', hx', hy', hr', hfz, hkp⟩ | ⟨hn', hr', hfz, hgz, hkm⟩
  · exact hO.keep hkm8 (by rw [hfz]; exact ⟨fun j hj => by rw [upN _ _ (by omega), upN _ _ (by omega)]; exact hO.1.1 j hj, fun i j hi hj => by rw [upN _ _ (by omega), upN _ _ (by omega)]; exact hO.1.2 i j hi hj⟩) hkp
  · exact hO.same hkm (fun j _ => congrFun hfz j) hgz

theorem ok_colour (hG : GP n k al be en) (hR : RelB n be en ea pr cN cI cF cG cP cQ mN mI mF) (hO : OkM mN mF) (hm : (colP (mF2 0) ∧ keptP (mF2 1) ∧ (mN2 0) ≤ 8) ∧ ((∃ a, a < n ∧ x = nI a ∧ (¬ y < -1 ∧ y ≤ nI 1) ∧ r2 = nI 1 ∧ (mF2 0) = upd (upd (upd (upd (upd (upd (mF 0) (0 + a) y) (8 + a) (-1)) (16 + a) (nI 0)) (24 + a) (nI 0)) (32 + a) (nI 0)) (40 + a) (nI 0) ∧ kpdP (mN 0) (mF 0) (mF 1) (mN2 0) (mF2 1)) ∨ (¬ (okN n x ∧ ¬ y < -1 ∧ y ≤ nI 1) ∧ r2 = nI 0 ∧ (mF2 0) = (mF 0) ∧ (mF2 1) = (mF 1) ∧ (mN2 0) = (mN 0)))) (hf : mI2 0 = mI 0 ∧ mI2 1 = mI 1 ∧ mF2 3 = mF 3 ∧ mF2 4 = mF 4 ∧ mF2 5 = mF 5 ∧ mF2 6 = mF 6 ∧ mF2 7 = mF 7) : OkM mN2 mF2 := by
  obtain ⟨⟨hn2, hn8⟩, hkn, hal, hbe, hen⟩ := hG
  obtain ⟨hp, hg, hk, hq, hT⟩ := hR
  have hkm8 : mN 0 ≤ 8 := hk.1.2.1
  obtain ⟨_, hm⟩ := hm
  rcases hm with ⟨a', ha', hx', hy', hr', hfz, hkp⟩ | ⟨hn', hr', hfz, hgz, hkm⟩
  · exact hO.keep hkm8 (by rw [hfz]; exact hO.1.colour (by omega)) hkp
  · exact hO.same hkm (fun j _ => congrFun hfz j) hgz

theorem ok_link (hG : GP n k al be en) (hR : RelB n be en ea pr cN cI cF cG cP cQ mN mI mF) (hO : OkM mN mF) (hm : (colP (mF2 0) ∧ keptP (mF2 1) ∧ (mN2 0) ≤ 8) ∧ ((∃ (a b : Nat) (h : Int32), a < n ∧ b < n ∧ x = nI a ∧ y = nI b ∧ ¬ nI a = nI b ∧ PQ (hasB ((mF 0) (56 + a)) b) h (nI 1) (nI 0) ∧ ¬ h = z ∧ r2 = nI 1 ∧ (mF2 0) = linkG (mF 0) a b ∧ kpdP (mN 0) (mF 0) (mF 1) (mN2 0) (mF2 1)) ∨ (¬ (okN n x ∧ okN n y ∧ ¬ x = y ∧ ∀ a b, x = nI a → y = nI b → a < n → b < n → ∃ h, PQ (hasB ((mF 0) (56 + a)) b) h (nI 1) (nI 0) ∧ ¬ h = z) ∧ r2 = nI 0 ∧ (mF2 0) = (mF 0) ∧ (mF2 1) = (mF 1) ∧ (mN2 0) = (mN 0)))) (hf : mI2 0 = mI 0 ∧ mI2 1 = mI 1 ∧ mF2 3 = mF 3 ∧ mF2 4 = mF 4 ∧ mF2 5 = mF 5 ∧ mF2 6 = mF 6 ∧ mF2 7 = mF 7) : OkM mN2 mF2 := by
  obtain ⟨⟨hn2, hn8⟩, hkn, hal, hbe, hen⟩ := hG
  obtain ⟨hp, hg, hk, hq, hT⟩ := hR
  have hkm8 : mN 0 ≤ 8 := hk.1.2.1
  obtain ⟨_, hm⟩ := hm
  rcases hm with ⟨a', b', h', ha', hb', hx', hy', hne', hpq', hhz', hr', hfz, hkp⟩ | ⟨hn', hr', hfz, hgz, hkm⟩
  · exact hO.keep hkm8 (by rw [hfz]; exact hO.1.link (by omega) (by omega) (fun z => hne' (by rw [z]))) hkp
  · exact hO.same hkm (fun j _ => congrFun hfz j) hgz

theorem ok_query (hG : GP n k al be en) (hR : RelB n be en ea pr cN cI cF cG cP cQ mN mI mF) (hO : OkM mN mF) {uu : Nat → Nat → Nat} (hrow : ∀ j, j < 8 → rowU (mF 0) j (uu j) ∧ okU be (uu j)) (hm : (colP (mF2 0) ∧ keptP (mF2 1) ∧ (mN2 0) ≤ 8) ∧ ((∃ a, a < n ∧ x = nI a ∧ msmP n k a y ∧ mcaP (mF 0) a ∧ askedP n al be pr (mF 0) y a (uu a) r2 (mF2 0) ∧ kpdP (mN 0) (mF 0) (mF 1) (mN2 0) (mF2 1) ∧ (mF2 3) = upd (mF 3) a ((mF 3) a + nI 1) ∧ (mI2 0) = (mI 0) + nI 1) ∨ (¬ (okN n x ∧ ∀ a, a < n → x = nI a → msmP n k a y ∧ mcaP (mF 0) a) ∧ r2 = -1 ∧ ((mF2 0) = (mF 0) ∧ (mF2 1) = (mF 1) ∧ (mN2 0) = (mN 0)) ∧ (mF2 3) = (mF 3) ∧ (mI2 0) = (mI 0)))) (hf : mI2 1 = mI 1 ∧ mF2 4 = mF 4 ∧ mF2 5 = mF 5 ∧ mF2 6 = mF 6 ∧ mF2 7 = mF 7) : OkM mN2 mF2 := by
  obtain ⟨⟨hn2, hn8⟩, hkn, hal, hbe, hen⟩ := hG
  obtain ⟨hp, hg, hk, hq, hT⟩ := hR
  have hkm8 : mN 0 ≤ 8 := hk.1.2.1
  obtain ⟨_, hm⟩ := hm
  rcases hm with ⟨a', ha', hx', hS, hmc, hask, hkp, hq2, hnq⟩ | ⟨hn', hr', ⟨hfz, hgz, hkm⟩, hq2, hnq⟩
  · exact hO.keep hkm8 (hO.1.ask (by omega) hn8 (hrow a' (by omega)).1 (can_u (hrow a' (by omega)).1 (hrow a' (by omega)).2 hbe.2 hmc).1 hask) hkp
  · exact hO.same hkm (fun j _ => congrFun hfz j) hgz

theorem ok_run (hG : GP n k al be en) (hR : RelB n be en ea pr cN cI cF cG cP cQ mN mI mF) (hO : OkM mN mF) (hm : (colP (mF2 0) ∧ keptP (mF2 1) ∧ (mN2 0) ≤ 8) ∧ (∀ j, j < 8 → ∃ v, rowU (mF2 0) j v ∧ okU be v) ∧ ((∃ nm, nm ≤ 300 ∧ x = nI nm ∧ ¬ x < nI 1 ∧ runM n k al be pr nm (y, (mF 0), (mF 3), (mI 0), nI 0) ((mI2 3), (mF2 0), (mF2 3), (mI2 0), r2) ∧ kpdP (mN 0) (mF 0) (mF 1) (mN2 0) (mF2 1)) ∨ (¬ (¬ x < nI 1 ∧ x ≤ nI 300) ∧ r2 = -1 ∧ ((mF2 0) = (mF 0) ∧ (mF2 1) = (mF 1) ∧ (mN2 0) = (mN 0)) ∧ (mF2 3) = (mF 3) ∧ (mI2 0) = (mI 0) ∧ (mI2 3) = (mI 3)))) (hf : mI2 1 = mI 1 ∧ mF2 4 = mF 4 ∧ mF2 5 = mF 5 ∧ mF2 6 = mF 6 ∧ mF2 7 = mF 7) : OkM mN2 mF2 := by
  obtain ⟨⟨hn2, hn8⟩, hkn, hal, hbe, hen⟩ := hG
  obtain ⟨hp, hg, hk, hq, hT⟩ := hR
  have hkm8 : mN 0 ≤ 8 := hk.1.2.1
  obtain ⟨_, _, hm⟩ := hm
  rcases hm with ⟨m', hm1', hx', _, hrm, hkp⟩ | ⟨hn', hr', ⟨hfz, hgz, hkm⟩, hq2, hnq, _⟩
  · exact hO.keep hkm8 (run_ok (n := n) hn8 hbe hO.1 m' _ hrm) hkp
  · exact hO.same hkm (fun j _ => congrFun hfz j) hgz

theorem ok_back (hG : GP n k al be en) (hR : RelB n be en ea pr cN cI cF cG cP cQ mN mI mF) (hO : OkM mN mF) (hm : (colP (mF2 0) ∧ (mN2 0) ≤ 8) ∧ (((mN 0) = 0 ∧ r2 = nI 0 ∧ (mN2 0) = (mN 0) ∧ (mF2 0) = (mF 0)) ∨ (¬ (mN 0) = 0 ∧ r2 = nI 1 ∧ (mN2 0) = (mN 0) - 1 ∧ ∀ j, j < 288 → (mF2 0) j = (mF 1) (288 * ((mN 0) - 1) + j)))) (hf : mI2 0 = mI 0 ∧ mI2 1 = mI 1 ∧ mF2 1 = mF 1 ∧ mF2 3 = mF 3 ∧ mF2 4 = mF 4 ∧ mF2 5 = mF 5 ∧ mF2 6 = mF 6 ∧ mF2 7 = mF 7) : OkM mN2 mF2 := by
  obtain ⟨⟨hn2, hn8⟩, hkn, hal, hbe, hen⟩ := hG
  obtain ⟨hp, hg, hk, hq, hT⟩ := hR
  have hkm8 : mN 0 ≤ 8 := hk.1.2.1
  obtain ⟨_, hm⟩ := hm
  rcases hm with ⟨h0', hr', hkm, hfz⟩ | ⟨h0', hr', hkm, hfz⟩
  · exact hO.same hkm (fun j _ => congrFun hfz j) hf.2.2.1
  · refine ⟨(hO.2 (mN 0 - 1) (by omega)).congr (fun j hj => hfz j (by omega)), fun r hr => ?_⟩
    rw [hf.2.2.1]
    exact hO.2 r (by omega)

theorem ok_poll (hG : GP n k al be en) (hR : RelB n be en ea pr cN cI cF cG cP cQ mN mI mF) (hO : OkM mN mF) (hm : (colP (mF2 0) ∧ keptP (mF2 1) ∧ (mN2 0) ≤ 8) ∧ ((∃ a e, a < n ∧ e < en ∧ x = nI a ∧ y = nI e ∧ mcpP n k (mF 0) z a e ∧ hldM n al be en ea (mF 4) (mF 5) (mF 6) (mF 7) a e z r2 (mF 0) (mF2 0) ∧ (mI2 1) = (mI 1) + nI 1 ∧ kpdP (mN 0) (mF 0) (mF 1) (mN2 0) (mF2 1)) ∨ (¬ mcpA n k en (mF 0) x y z ∧ r2 = -1 ∧ ((mF2 0) = (mF 0) ∧ (mF2 1) = (mF 1) ∧ (mN2 0) = (mN 0)) ∧ (mI2 1) = (mI 1)))) (hf : mI2 0 = mI 0 ∧ mF2 3 = mF 3 ∧ mF2 4 = mF 4 ∧ mF2 5 = mF 5 ∧ mF2 6 = mF 6 ∧ mF2 7 = mF 7) : OkM mN2 mF2 := by
  obtain ⟨⟨hn2, hn8⟩, hkn, hal, hbe, hen⟩ := hG
  obtain ⟨hp, hg, hk, hq, hT⟩ := hR
  have hkm8 : mN 0 ≤ 8 := hk.1.2.1
  obtain ⟨_, hm⟩ := hm
  rcases hm with ⟨a', e', ha', hae', hx', hy', hmp, hhm, hpo, hkp⟩ | ⟨hn', hr', ⟨hfz, hgz, hkm⟩, hpo⟩
  · exact hO.keep hkm8 (hO.1.congr (hhm.low (by omega) hT.2.2.1.1 hen)) hkp
  · exact hO.same hkm (fun j _ => congrFun hfz j) hgz

theorem ok_polls (hG : GP n k al be en) (hR : RelB n be en ea pr cN cI cF cG cP cQ mN mI mF) (hO : OkM mN mF) (hm : (colP (mF2 0) ∧ keptP (mF2 1) ∧ (mN2 0) ≤ 8) ∧ ((∃ nm, nm ≤ 100 ∧ x = nI nm ∧ ¬ x < nI 1 ∧ polBM n k al be en ea (mF 4) (mF 5) (mF 6) (mF 7) nm (y, (mF 0), (mI 1), nI 0) ((mI2 3), (mF2 0), (mI2 1), r2) ∧ kpdP (mN 0) (mF 0) (mF 1) (mN2 0) (mF2 1)) ∨ (¬ (¬ x < nI 1 ∧ x ≤ nI 100) ∧ r2 = -1 ∧ ((mF2 0) = (mF 0) ∧ (mF2 1) = (mF 1) ∧ (mN2 0) = (mN 0)) ∧ (mI2 1) = (mI 1) ∧ (mI2 3) = (mI 3)))) (hf : mI2 0 = mI 0 ∧ mF2 3 = mF 3 ∧ mF2 4 = mF 4 ∧ mF2 5 = mF 5 ∧ mF2 6 = mF 6 ∧ mF2 7 = mF 7) : OkM mN2 mF2 := by
  obtain ⟨⟨hn2, hn8⟩, hkn, hal, hbe, hen⟩ := hG
  obtain ⟨hp, hg, hk, hq, hT⟩ := hR
  have hkm8 : mN 0 ≤ 8 := hk.1.2.1
  obtain ⟨_, hm⟩ := hm
  rcases hm with ⟨m', hm1', hx', _, hpm, hkp⟩ | ⟨hn', hr', ⟨hfz, hgz, hkm⟩, hpo, _⟩
  · exact hO.keep hkm8 (hO.1.congr (pol_low (n := n) hn8 hT.2.2.1.1 hen m' _ hpm)) hkp
  · exact hO.same hkm (fun j _ => congrFun hfz j) hgz

theorem ok_entry {enz : Nat} (hO : OkM mN mF) (hm : (PQ (entP en x y z) r2 (nI en) (-1) ∧ (entP en x y z → enz = en + 1) ∧ (¬ entP en x y z → enz = en)) ∧ enz ≤ 16 ∧ (inP 16 8 (mF2 4) ∧ parF enz (mF2 5) ∧ parF enz (mF2 6)) ∧ ((entP en x y z ∧ enz = en + 1 ∧ (mN2 0) = 0 ∧ ∃ t, t < 8 ∧ x = nI t ∧ (mF2 4) = upd (mF 4) en (nI t) ∧ (mF2 5) = upd (mF 5) en y ∧ (mF2 6) = upd (mF 6) en z ∧ (mF2 7) en = linF (mF 7) y ||| linF (mF 7) z ∧ (∀ j, ¬ j = en → (mF2 7) j = (mF 7) j) ∧ entV en (upd (mF 4) en (nI t)) t 8 (mF 0) (mF2 0)) ∨ (¬ entP en x y z ∧ enz = en ∧ (mN2 0) = (mN 0) ∧ (mF2 4) = (mF 4) ∧ (mF2 5) = (mF 5) ∧ (mF2 6) = (mF 6) ∧ (mF2 7) = (mF 7) ∧ (mF2 0) = (mF 0)))) (hf : mI2 0 = mI 0 ∧ mI2 1 = mI 1 ∧ mF2 1 = mF 1 ∧ mF2 3 = mF 3) : OkM mN2 mF2 := by
  rcases hm.2.2.2 with ⟨d1, d2, d3, t', ht', hx', hso', hon', hot', han, hanj, hev⟩ | ⟨d1, d2, d3, y1, y2, y3, y4, y5⟩
  · exact ⟨hO.1.congr (fun j hj => hev.2 j (fun v hv => ⟨by omega, by omega⟩)), fun r hr => by omega⟩
  · exact hO.same d3 (fun j _ => congrFun y5 j) hf.2.2.1

theorem br_count (hG : GP n k al be en) (hR : RelB n be en ea pr cN cI cF cG cP cQ mN mI mF) (hO : OkM mN mF) (hc : (∃ w, w < 17 ∧ x = nI w ∧ cntC n k al be en (cN 1) ea pr (cI 0) (cF 1) (cF 0) (cF 2) (cF 16) (cF 8) (cF 9) (cG 0) w r) ∨ ((∀ w, w < 17 → ¬ x = nI w) ∧ r = -1)) (he : cN2 1 = cN 1 ∧ cN2 2 = cN 2 ∧ cI2 0 = cI 0 ∧ cF2 0 = cF 0 ∧ cF2 1 = cF 1 ∧ cF2 2 = cF 2 ∧ cF2 3 = cF 3 ∧ cF2 4 = cF 4 ∧ cG2 0 = cG 0 ∧ cF2 16 = cF 16 ∧ cF2 5 = cF 5 ∧ cF2 6 = cF 6 ∧ cF2 7 = cF 7 ∧ cF2 8 = cF 8 ∧ cF2 9 = cF 9 ∧ cF2 10 = cF 10 ∧ cF2 11 = cF 11 ∧ cP2 = cP ∧ cQ2 = cQ ∧ cN2 0 = cN 0 ∧ cG2 1 = cG 1 ∧ cI2 2 = cI 2 ∧ cI2 6 = cI 6 ∧ cI2 7 = cI 7) (hm : (∃ w, w < 17 ∧ x = nI w ∧ cntM n k al be en (mN 0) ea pr (mI 0) (mI 1) (mF 0) (mF 7) (cG 0) w r2) ∨ ((∀ w, w < 17 → ¬ x = nI w) ∧ r2 = -1)) (hf : mN2 0 = mN 0 ∧ mI2 0 = mI 0 ∧ mI2 1 = mI 1 ∧ mF2 0 = mF 0 ∧ mF2 1 = mF 1 ∧ mF2 3 = mF 3 ∧ mF2 4 = mF 4 ∧ mF2 5 = mF 5 ∧ mF2 6 = mF 6 ∧ mF2 7 = mF 7) : RelB n be en ea pr cN2 cI2 cF2 cG2 cP2 cQ2 mN2 mI2 mF2 ∧ r = r2 := by
  obtain ⟨⟨hn2, hn8⟩, hkn, hal, hbe, hen⟩ := hG
  obtain ⟨hp, hg, hk, hq, hT⟩ := hR
  refine ⟨RelB.same (pr := pr) (n := n) ⟨hp, hg, hk, hq, hT⟩ he.1 he.2.1 he.2.2.1 he.2.2.2.1 he.2.2.2.2.1 he.2.2.2.2.2.1 he.2.2.2.2.2.2.1 he.2.2.2.2.2.2.2.1 he.2.2.2.2.2.2.2.2.1 he.2.2.2.2.2.2.2.2.2.1 he.2.2.2.2.2.2.2.2.2.2.1 he.2.2.2.2.2.2.2.2.2.2.2.1 he.2.2.2.2.2.2.2.2.2.2.2.2.1 he.2.2.2.2.2.2.2.2.2.2.2.2.2.1 he.2.2.2.2.2.2.2.2.2.2.2.2.2.2.1 he.2.2.2.2.2.2.2.2.2.2.2.2.2.2.2.2.1 he.2.2.2.2.2.2.2.2.2.2.2.2.2.2.2.2.2.1 he.2.2.2.2.2.2.2.2.2.2.2.2.2.2.2.2.2.2.1 hf.1 hf.2.1 hf.2.2.1 (fun j _ => congrFun hf.2.2.2.1 j) hf.2.2.2.2.1 hf.2.2.2.2.2.1 hf.2.2.2.2.2.2.1 hf.2.2.2.2.2.2.2.1 hf.2.2.2.2.2.2.2.2.1 hf.2.2.2.2.2.2.2.2.2, ?_⟩
  obtain ⟨⟨s, hs⟩, hv⟩ := hg
  have hkk : ∀ o, o < 8 → cF 1 o = mF 0 (48 + o) := fun o ho => (hs o ho).2.2.2.1
  rcases hc with ⟨w, hw, hx, hc⟩ | ⟨hn, hr⟩
  · rcases hm with ⟨w', hw', hx', hm⟩ | ⟨hn', _⟩
    · obtain rfl : w = w' := (nI_eq (by omega) (by omega)).mp (hx.symm.trans hx')
      rcases hc with ⟨q, c⟩ | ⟨q, c⟩ | ⟨q, c⟩ | ⟨q, c⟩ | ⟨q, c⟩ | ⟨q, c⟩ | ⟨q, c⟩ | ⟨q, c⟩ | ⟨q, c⟩ | ⟨q, c⟩ | ⟨q, c⟩ | ⟨q, c⟩ | ⟨q, c⟩ | ⟨q, c⟩ | ⟨q, c⟩ | ⟨q, c⟩ | ⟨q, c⟩ <;> rcases hm with ⟨y, d⟩ | ⟨y, d⟩ | ⟨y, d⟩ | ⟨y, d⟩ | ⟨y, d⟩ | ⟨y, d⟩ | ⟨y, d⟩ | ⟨y, d⟩ | ⟨y, d⟩ | ⟨y, d⟩ | ⟨y, d⟩ | ⟨y, d⟩ | ⟨y, d⟩ | ⟨y, d⟩ | ⟨y, d⟩ | ⟨y, d⟩ | ⟨y, d⟩ <;> first | (exfalso; omega) | skip
      · rw [c, d]
      · rw [c, d]
      · rw [c, d]
      · rw [c, d]
      · rw [c, d]
      · rw [c, d]
      · exact bits_eq c d (fun j _ => and_congr_right (fun hj => by rw [hkk j (by omega)]; exact Iff.rfl))
      · exact bits_eq c d (fun j _ => and_congr_right (fun hj => dec_iff (hs j (by omega))))
      · exact bits_eq c d (fun j _ => and_congr_right (fun hj => by rw [hkk j (by omega), show cF 0 (0 + j) = cF 0 j by rw [Nat.zero_add], col_eq (hs j (by omega))]))
      · rw [c, d]
      · exact bits_eq c d (fun j _ => and_congr_right (fun hj => spt_iff hn8 hkk))
      · obtain ⟨c1, x1, _, h1, h2, h3⟩ := c
        obtain ⟨c2, _, h4, h5⟩ := d
        rw [h1, h4, (wd_CM hT.1 hen h3 h2).uniq h5]
      · rw [c, d, hT.2.2.2.2]; exact qsm_eq hq n hn8
      · rw [c, d]; exact hT.2.2.2.1
      · exact PQ.eq c (PQ.iff (spl_iff hn8 hs hO.1).symm d)
      · rw [c, d, apart_eq hn8 (fun i j hi hj => ((hs i hi).2.2.2.2 j hj).trans (hO.1.2 i j hi hj))]
      · rw [c, d, hk.1.1]
    · exact absurd hx (hn' w hw)
  · rcases hm with ⟨w', hw', hx', _⟩ | ⟨hn', hr'⟩
    · exact absurd hx' (hn w' hw')
    · rw [hr, hr']

theorem br_entry {enz : Nat} (hR : RelB n be en ea pr cN cI cF cG cP cQ mN mI mF) (hc : (PQ (entP en x y z) r (nI en) (-1) ∧ (entP en x y z → enz = en + 1) ∧ (¬ entP en x y z → enz = en)) ∧ enz ≤ 16 ∧ ((entP en x y z ∧ enz = en + 1 ∧ (cN2 1) = 0 ∧ ∃ t, t < 8 ∧ x = nI t ∧ addC en t y z (cF 5) (cF 6) (cF 7) (cF 8) (cF 9) (cF 11) (cF2 5) (cF2 6) (cF2 7) (cF2 8) (cF2 9) (cF2 11) ∧ (((cF 11) t = 0 ∧ ∀ j, j < 8 → (cG2 0) j = upd ((cG 0) j) (t * 4 + 0) (nI en)) ∨ (¬ (cF 11) t = 0 ∧ ∀ j, j < 8 → (cG2 0) j = (cG 0) j))) ∨ (¬ entP en x y z ∧ enz = en ∧ (cN2 1) = (cN 1) ∧ (cF2 5) = (cF 5) ∧ (cF2 6) = (cF 6) ∧ (cF2 7) = (cF 7) ∧ (cF2 8) = (cF 8) ∧ (cF2 9) = (cF 9) ∧ (cF2 11) = (cF 11) ∧ (cG2 0) = (cG 0)))) (he : cN2 0 = cN 0 ∧ cG2 1 = cG 1 ∧ cI2 2 = cI 2 ∧ cI2 6 = cI 6 ∧ cI2 7 = cI 7 ∧ cN2 2 = cN 2 ∧ cI2 0 = cI 0 ∧ cF2 0 = cF 0 ∧ cF2 1 = cF 1 ∧ cF2 2 = cF 2 ∧ cF2 3 = cF 3 ∧ cF2 4 = cF 4 ∧ cF2 16 = cF 16 ∧ cP2 = cP ∧ cQ2 = cQ) (hm : (PQ (entP en x y z) r2 (nI en) (-1) ∧ (entP en x y z → enz = en + 1) ∧ (¬ entP en x y z → enz = en)) ∧ enz ≤ 16 ∧ (inP 16 8 (mF2 4) ∧ parF enz (mF2 5) ∧ parF enz (mF2 6)) ∧ ((entP en x y z ∧ enz = en + 1 ∧ (mN2 0) = 0 ∧ ∃ t, t < 8 ∧ x = nI t ∧ (mF2 4) = upd (mF 4) en (nI t) ∧ (mF2 5) = upd (mF 5) en y ∧ (mF2 6) = upd (mF 6) en z ∧ (mF2 7) en = linF (mF 7) y ||| linF (mF 7) z ∧ (∀ j, ¬ j = en → (mF2 7) j = (mF 7) j) ∧ entV en (upd (mF 4) en (nI t)) t 8 (mF 0) (mF2 0)) ∨ (¬ entP en x y z ∧ enz = en ∧ (mN2 0) = (mN 0) ∧ (mF2 4) = (mF 4) ∧ (mF2 5) = (mF 5) ∧ (mF2 6) = (mF 6) ∧ (mF2 7) = (mF 7) ∧ (mF2 0) = (mF 0)))) (hf : mI2 0 = mI 0 ∧ mI2 1 = mI 1 ∧ mF2 1 = mF 1 ∧ mF2 3 = mF 3) : RelB n be enz ea pr cN2 cI2 cF2 cG2 cP2 cQ2 mN2 mI2 mF2 := by
  obtain ⟨hp, hg, hk, hq, hT⟩ := hR
  rcases hc.2.2 with ⟨c1, c2, c3, t, ht, hx, hadd, hse⟩ | ⟨c1, c2, c3, z1, z2, z3, z4, z5, z6, z7⟩
  · rcases hm.2.2.2 with ⟨d1, d2, d3, t', ht', hx', hso', hon', hot', han, hanj, hev⟩ | ⟨d1, _⟩
    · obtain rfl : t = t' := (nI_eq (by omega) (by omega)).mp (hx.symm.trans hx')
      have hen : en < 16 := c1.2.2.2.2
      subst c2
      have hgn := gph_next hT.1 hen ht (c1.2.1.imp id (fun q => by obtain ⟨j, hj, e⟩ := okN_of q (by omega); exact ⟨j, hj, e⟩)) (c1.2.2.1.imp id (fun q => by obtain ⟨j, hj, e⟩ := okN_of q (by omega); exact ⟨j, hj, e⟩)) hadd hso' hon' hot' han hanj
      rw [← hso'] at hev
      refine ⟨hp, ⟨?_, fun v hv => ?_⟩, ?_, (by rw [he.2.2.2.2.2.2.2.2.2.2.2.2.1, hf.2.2.2]; exact hq), ⟨hgn, hT.2.1, hm.2.2.1, (by rw [he.2.2.2.2.2.2.1, hf.2.1]; exact hT.2.2.2.1), (by rw [hf.1, hf.2.2.2]; exact hT.2.2.2.2)⟩⟩
      · rw [he.2.2.2.2.2.2.2.1, he.2.2.2.2.2.2.2.2.1, he.2.2.2.2.2.2.2.2.2.1]
        exact (hg.a.low (fun j hj => hev.2 j (fun v hv => ⟨by omega, by omega⟩))).1
      · rw [he.2.2.2.2.2.2.2.2.2.2.1, he.2.2.2.2.2.2.2.2.2.2.2.1]
        refine vew_next hT.1 hen ht hv (hg.2 v hv) hso' hev ?_
        exact hse.imp (fun q => ⟨q.1, q.2 v hv⟩) (fun q => ⟨q.1, q.2 v hv⟩)
      · rw [c3, d3, he.2.2.2.2.2.1]; exact keptB.zero _ _ _ _ _ _ _ hk.1.2.2
    · exact absurd c1 d1
  · rcases hm.2.2.2 with ⟨d1, _⟩ | ⟨d1, d2, d3, y1, y2, y3, y4, y5⟩
    · exact absurd d1 c1
    · rw [c2]
      exact RelB.same (pr := pr) (n := n) ⟨hp, hg, hk, hq, hT⟩ c3 he.2.2.2.2.2.1 he.2.2.2.2.2.2.1 he.2.2.2.2.2.2.2.1 he.2.2.2.2.2.2.2.2.1 he.2.2.2.2.2.2.2.2.2.1 he.2.2.2.2.2.2.2.2.2.2.1 he.2.2.2.2.2.2.2.2.2.2.2.1 z7 he.2.2.2.2.2.2.2.2.2.2.2.2.1 z1 z2 z3 z4 z5 z6 he.2.2.2.2.2.2.2.2.2.2.2.2.2.1 he.2.2.2.2.2.2.2.2.2.2.2.2.2.2 d3 hf.1 hf.2.1 (fun j _ => congrFun y5 j) hf.2.2.1 hf.2.2.2 y1 y2 y3 y4
end RELS

/-- what the class keeps of a search, and where its samples stand -/
def RelS (n k al be : Nat) (pr : Int32) (B : Nat) (cN : Nat → Nat) (cI : Nat → Int32) (cG : Nat → Nat → Nat → Int32) (mF : Nat → Nat → Int32) : Prop := (cN 0 ≤ 35 ∧ chF (n - 1) k = nI (cN 0) ∧ ∀ j, j < n → smT n k j (2 ^ n) (cG 1 j)) ∧ ∃ u v : Nat, (cI 7 = nI u ∧ cI 2 = nI v ∧ u ≤ v ∧ 1 ≤ v ∧ v ≤ B) ∧ (u = v → ∃ F, lowQ F (mF 0) ∧ srP n k al be pr F (cI 6))
section RELSS
variable {n k al be en : Nat} {ea pr r r2 : Int32} {x y z w9 : Int32} {cN : Nat → Nat} {cI : Nat → Int32} {cF : Nat → Nat → Int32} {cG : Nat → Nat → Nat → Int32} {cP : Nat → Nat → Nat → Int32} {cQ : Nat → Nat → Nat → Int32} {cN2 : Nat → Nat} {cI2 : Nat → Int32} {cF2 : Nat → Nat → Int32} {cG2 : Nat → Nat → Nat → Int32} {cP2 : Nat → Nat → Nat → Int32} {cQ2 : Nat → Nat → Nat → Int32} {mN : Nat → Nat} {mI : Nat → Int32} {mF : Nat → Nat → Int32} {mN2 : Nat → Nat} {mI2 : Nat → Int32} {mF2 : Nat → Nat → Int32} {pr2 : Int32} {B : Nat}
theorem RelB.relR (h : RelB n be en ea pr cN cI cF cG cP cQ mN mI mF) : relR be (cF 0) (cF 1) (cF 2) (mF 0) := by
  obtain ⟨_, ⟨⟨s, hs⟩, _⟩, _⟩ := h
  exact hs.u
theorem RelS.hse (h : RelS n k al be pr B cN cI cG mF) (hG : GP n k al be en) : ∀ i, i < n → cN 0 = (smL n k i (2 ^ n)).length := fun i hi => by
  have z := smL_len n hG.1.2 k hG.2.1.2 hG.2.1.1 i hi
  have := h.1.1
  exact (nI_eq (by omega) (by omega)).mp (h.1.2.1.symm.trans z.1.symm)
theorem RelS.mono (h : RelS n k al be pr B cN cI cG mF) {B2 : Nat} (hb : B ≤ B2) : RelS n k al be pr B2 cN cI cG mF := by
  obtain ⟨h1, u, v, ⟨a1, a2, a3, a4, a5⟩, hs⟩ := h
  exact ⟨h1, u, v, ⟨a1, a2, a3, a4, by omega⟩, hs⟩
theorem RelS.up (h : RelS n k al be pr B cN cI cG mF) (e0 : cN2 0 = cN 0) (eg : cG2 1 = cG 1) (ef : cI2 6 = cI 6) (ev : cI2 7 = cI 7) (hv : (cI2 2 = cI 2 ∧ lowQ (mF 0) (mF2 0) ∧ pr2 = pr) ∨ cI2 2 = cI 2 + nI 1) : RelS n k al be pr2 (B + 1) cN2 cI2 cG2 mF2 := by
  obtain ⟨h1, u, v, ⟨a1, a2, a3, a4, a5⟩, hs⟩ := h
  refine ⟨by rw [e0, eg]; exact h1, ?_⟩
  rcases hv with ⟨b1, b2, b3⟩ | b1
  · refine ⟨u, v, ⟨ev.trans a1, b1.trans a2, a3, a4, by omega⟩, fun q => ?_⟩
    obtain ⟨F, f1, f2⟩ := hs q
    rw [ef, b3]
    exact ⟨F, f1.trans b2, f2⟩
  · exact ⟨u, v + 1, ⟨ev.trans a1, by rw [b1, a2, nI_add], by omega, by omega, by omega⟩, fun q => absurd q (by omega)⟩
theorem RelS.fnd (h : RelS n k al be pr B cN cI cG mF) (e0 : cN2 0 = cN 0) (eg : cG2 1 = cG 1) (e2 : cI2 2 = cI 2) (hl : lowQ (mF 0) (mF2 0)) (hx : (cI2 6 = cI 6 ∧ cI2 7 = cI 7) ∨ (srP n k al be pr (mF 0) (cI2 6) ∧ cI2 7 = cI 2)) : RelS n k al be pr (B + 1) cN2 cI2 cG2 mF2 := by
  rcases hx with ⟨x1, x2⟩ | ⟨x1, x2⟩
  · exact h.up e0 eg x1 x2 (Or.inl ⟨e2, hl, rfl⟩)
  · obtain ⟨h1, u, v, ⟨a1, a2, a3, a4, a5⟩, hs⟩ := h
    exact ⟨by rw [e0, eg]; exact h1, v, v, ⟨x2.trans a2, e2.trans a2, Nat.le_refl _, a4, by omega⟩, fun _ => ⟨mF 0, hl, x1⟩⟩
theorem RelS.fresh {n2 k2 al2 be2 : Nat} (h : RelS n k al be pr B cN cI cG mF) (hd : cI2 2 = cI 2 + nI 1 ∧ cI2 6 = cI 6 ∧ cI2 7 = cI 7 ∧ cN2 0 ≤ 35 ∧ chF (n2 - 1) k2 = nI (cN2 0) ∧ ∀ j, j < n2 → smT n2 k2 j (2 ^ n2) (cG2 1 j)) : RelS n2 k2 al2 be2 pr (B + 1) cN2 cI2 cG2 mF2 := by
  obtain ⟨h1, u, v, ⟨a1, a2, a3, a4, a5⟩, hs⟩ := h
  obtain ⟨d1, d2, d3, d4, d5, d6⟩ := hd
  exact ⟨⟨d4, d5, d6⟩, u, v + 1, ⟨d3.trans a1, by rw [d1, a2, nI_add], by omega, by omega, by omega⟩, fun q => absurd q (by omega)⟩
theorem sv_entry {enz : Nat} (hm : (PQ (entP en x y z) r2 (nI en) (-1) ∧ (entP en x y z → enz = en + 1) ∧ (¬ entP en x y z → enz = en)) ∧ enz ≤ 16 ∧ (inP 16 8 (mF2 4) ∧ parF enz (mF2 5) ∧ parF enz (mF2 6)) ∧ ((entP en x y z ∧ enz = en + 1 ∧ (mN2 0) = 0 ∧ ∃ t, t < 8 ∧ x = nI t ∧ (mF2 4) = upd (mF 4) en (nI t) ∧ (mF2 5) = upd (mF 5) en y ∧ (mF2 6) = upd (mF 6) en z ∧ (mF2 7) en = linF (mF 7) y ||| linF (mF 7) z ∧ (∀ j, ¬ j = en → (mF2 7) j = (mF 7) j) ∧ entV en (upd (mF 4) en (nI t)) t 8 (mF 0) (mF2 0)) ∨ (¬ entP en x y z ∧ enz = en ∧ (mN2 0) = (mN 0) ∧ (mF2 4) = (mF 4) ∧ (mF2 5) = (mF 5) ∧ (mF2 6) = (mF 6) ∧ (mF2 7) = (mF 7) ∧ (mF2 0) = (mF 0)))) (hf : mI2 0 = mI 0 ∧ mI2 1 = mI 1 ∧ mF2 1 = mF 1 ∧ mF2 3 = mF 3) : lowQ (mF 0) (mF2 0) := by
  rcases hm.2.2.2 with ⟨d1, d2, d3, t', ht', hx', hso', hon', hot', han, hanj, hev⟩ | ⟨d1, d2, d3, y1, y2, y3, y4, y5⟩
  · exact fun j hj => (hev.2 j (fun v hv => ⟨by omega, by omega⟩)).symm
  · exact lowQ.of y5
theorem br_soonest (hG : GP n k al be en) (hV : RelS n k al be pr B cN cI cG mF) (hB : B ≤ 10000) (hc : (cI 7 = cI 2 ∧ r = cI 6 ∧ cI2 6 = cI 6 ∧ cI2 7 = cI 7) ∨ (srP n k al be pr (mF 0) r ∧ cI2 6 = r ∧ cI2 7 = cI 2)) (hm : (∀ j, j < 288 → mF2 0 j = mF 0 j) ∧ srP n k al be pr (mF 0) r2) : r = r2 := by
  rcases hc with ⟨c1, c2, c3, c4⟩ | ⟨c1, _⟩
  · obtain ⟨_, u, v, ⟨a1, a2, a3, a4, a5⟩, hs⟩ := hV
    have q : u = v := (nI_eq (by omega) (by omega)).mp (a1.symm.trans (c1.trans a2))
    obtain ⟨F, f1, f2⟩ := hs q
    rw [c2]
    exact srP.low hG.1.2 f1 f2 hm.2
  · exact c1.uniq hm.2
end RELSS
