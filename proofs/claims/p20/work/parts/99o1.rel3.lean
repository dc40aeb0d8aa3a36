/-- what a run of queries leaves alone -/
theorem run_more {n k al be : Nat} {pr : Int32} {s : rnS} (hn : n ≤ 8) (hs : s.2.2.2.1 = qsm s.2.2.1 n) : ∀ o t, runM n k al be pr o s t → (∀ j, 48 ≤ j → t.2.1 j = s.2.1 j) ∧ t.2.2.2.1 = qsm t.2.2.1 n := by
  intro o
  induction o with
  | zero => intro t h; replace h : t = s := h; rw [h]; exact ⟨fun _ _ => rfl, hs⟩
  | succ o ih =>
    rintro t ⟨m, h1, a, l, S, ha, _, _, h2⟩
    obtain ⟨i1, i2⟩ := ih m h1
    rcases h2 with ⟨_, h2⟩ | ⟨_, u, r, _, _, hask, hq, hnq, _⟩
    · rw [h2]; exact ⟨i1, i2⟩
    · refine ⟨fun j hj => (asked_hi (by omega) hask j hj).trans (i1 j hj), ?_⟩
      rw [hnq, hq, qsm_upd n ha, i2]
/-- the rest: the entries, early, what was counted -/
def RstB (n en : Nat) (ea : Int32) (cI : Nat → Int32) (cF : Nat → Nat → Int32) (mI : Nat → Int32) (mF : Nat → Nat → Int32) : Prop := gphR en (cF 5) (cF 6) (cF 7) (cF 8) (cF 9) (cF 11) (mF 4) (mF 5) (mF 6) (mF 7) ∧ ¬ ea < nI 1 ∧ (inP 16 8 (mF 4) ∧ parF en (mF 5) ∧ parF en (mF 6)) ∧ cI 0 = mI 1 ∧ mI 0 = qsm (mF 3) n
def RelB (n be en : Nat) (ea pr : Int32) (cN : Nat → Nat) (cI : Nat → Int32) (cF : Nat → Nat → Int32) (cG : Nat → Nat → Nat → Int32) (cP cQ : Nat → Nat → Nat → Int32) (mN : Nat → Nat) (mI : Nat → Int32) (mF : Nat → Nat → Int32) : Prop := (pr = 0 ∨ pr = nI 1 ∨ pr = nI 2) ∧ grpB be en (mF 4) (cF 0) (cF 1) (cF 2) (cF 3) (cF 4) (cG 0) (mF 0) ∧ keptB be en (mF 4) (cN 1) (cN 2) (cP 0) (cP 1) (cP 2) (cP 3) (cP 4) cQ (mN 0) (mF 1) ∧ (∀ j, j < 8 → cF 16 j = mF 3 j) ∧ RstB n en ea cI cF mI mF
theorem vewR.fresh {sof : Nat → Int32} {v : Nat} (hv : v < 8) : vewR 0 sof (nI 0) (nI 0) vF freshS v := by
  have e1 : ∀ v, v < 8 → freshS (64 + v) = nI 0 ∧ freshS (72 + v) = nI 0 ∧ freshS (80 + v) = nI 0 ∧ freshS (88 + v) = nI 0 := by decide +kernel
  have e2 : ∀ i, i < 64 → freshS (96 + i) = -1 ∧ freshS (160 + i) = -1 ∧ freshS (224 + i) = nI 0 := by decide +kernel
  have e3 : ∀ t, t < 8 → vF (t * 4 + 0) = -1 ∧ vF (t * 4 + 1) = -1 ∧ vF (t * 4 + 2) = nI 0 ∧ vF (t * 4 + 3) = -1 := by decide +kernel
  obtain ⟨a1, a2, a3, a4⟩ := e1 v hv
  refine ⟨a1.symm, a2.symm, fun t ht => ?_, fun e e' he => absurd he (Nat.not_lt_zero _), fun e he => absurd he (Nat.not_lt_zero _), fun k _ hk => ?_, fun t ht => Or.inl ⟨(e2 (8 * v + t) (by omega)).1, fun e he => absurd he (Nat.not_lt_zero _)⟩⟩
  · obtain ⟨b1, b2, b3⟩ := e2 (8 * v + t) (by omega)
    obtain ⟨c1, c2, c3, c4⟩ := e3 t ht
    exact ⟨c1.trans b1.symm, c2.trans b2.symm, c3.trans b3.symm, Or.inr ⟨fun e he => absurd he (Nat.not_lt_zero _), c4⟩⟩
  · rw [a1, a2, a3, a4]
    exact ⟨hasB_0 hk, hasB_0 hk, hasB_0 hk, hasB_0 hk⟩
theorem grpB.fresh {be : Nat} {sof : Nat → Int32} (hb : 1 ≤ be) : grpB be 0 sof (fun _ => nI 0) (fun _ => nI 0) (fun _ => -1) (fun _ => nI 0) (fun _ => nI 0) (fun _ => vF) freshS := ⟨(grpA.fresh hb).1, fun _ hv => vewR.fresh hv⟩
theorem gphR.fresh {gsf g1f g2f gaf gpf sof onf otf anf : Nat → Int32} : gphR 0 gsf g1f g2f gaf gpf (fun _ => nI 0) sof onf otf anf := ⟨fun e he => absurd he (Nat.not_lt_zero _), fun t _ k hk => ⟨fun q => absurd q (hasB_0 hk), fun q => absurd q.1 (Nat.not_lt_zero _)⟩⟩
theorem parF.fresh {f : Nat → Int32} : parF 0 f := fun e he => absurd he (Nat.not_lt_zero _)
theorem mnE_1 {ea : Int32} {be : Nat} (h : ¬ ea < nI 1) (hb : 1 ≤ be ∧ be ≤ 15) : ¬ mnE ea be < nI 1 := by
  unfold mnE
  split
  · intro q
    exact absurd ((nI_ltI (by omega) (by decide)).mp q) (by omega)
  · exact h
section RELS
variable {n k al be en : Nat} {ea pr r r2 : Int32} {x y z w9 : Int32} {cN : Nat → Nat} {cI : Nat → Int32} {cF : Nat → Nat → Int32} {cG : Nat → Nat → Nat → Int32} {cP : Nat → Nat → Nat → Int32} {cQ : Nat → Nat → Nat → Int32} {cN2 : Nat → Nat} {cI2 : Nat → Int32} {cF2 : Nat → Nat → Int32} {cG2 : Nat → Nat → Nat → Int32} {cP2 : Nat → Nat → Nat → Int32} {cQ2 : Nat → Nat → Nat → Int32} {mN : Nat → Nat} {mI : Nat → Int32} {mF : Nat → Nat → Int32} {mN2 : Nat → Nat} {mI2 : Nat → Int32} {mF2 : Nat → Nat → Int32}
theorem RstB.mk (h : RstB n en ea cI cF mI mF) (e1 : cF2 5 = cF 5) (e2 : cF2 6 = cF 6) (e3 : cF2 7 = cF 7) (e4 : cF2 8 = cF 8) (e5 : cF2 9 = cF 9) (e6 : cF2 11 = cF 11) (f1 : mF2 4 = mF 4) (f2 : mF2 5 = mF 5) (f3 : mF2 6 = mF 6) (f4 : mF2 7 = mF 7) (hp : cI2 0 = mI2 1) (hn : mI2 0 = qsm (mF2 3) n) : RstB n en ea cI2 cF2 mI2 mF2 := by
  unfold RstB
  rw [e1, e2, e3, e4, e5, e6, f1, f2, f3, f4]
  exact ⟨h.1, h.2.1, h.2.2.1, hp, hn⟩
theorem RelB.row (h : RelB n be en ea pr cN cI cF cG cP cQ mN mI mF) : ∃ uu : Nat → Nat → Nat, ∀ j, j < 8 → rowU (mF 0) j (uu j) ∧ okU be (uu j) := by
  obtain ⟨_, ⟨⟨s, hs⟩, _⟩, _⟩ := h
  exact ⟨s, fun j hj => ⟨(hs j hj).2.1, (hs j hj).2.2.1⟩⟩
theorem RelB.row1 (h : RelB n be en ea pr cN cI cF cG cP cQ mN mI mF) : ∀ j, j < 8 → ∃ v, rowU (mF 0) j v ∧ okU be v := by
  obtain ⟨s, hs⟩ := h.row
  exact fun j hj => ⟨s j, hs j hj⟩
theorem RelB.prf (h : RelB n be en ea pr cN cI cF cG cP cQ mN mI mF) (hen : en ≤ 16) : ∀ a, a < 8 → prfM en (mF 4) a (mF 0) := fun a ha k hk => by
  obtain ⟨h8, hs8⟩ := sT_eq h.2.2.2.2.2.2.1.1 (show k < 16 by omega)
  rcases (h.2.1.2 a ha).2.2.2.2.2.2 _ h8 with ⟨_, q⟩ | ⟨p, hp, _, q⟩
  · exact absurd hs8 (q k hk)
  · exact ⟨p, by omega, q⟩
theorem RelB.same (h : RelB n be en ea pr cN cI cF cG cP cQ mN mI mF) (e1 : cN2 1 = cN 1) (e2 : cN2 2 = cN 2) (ep : cI2 0 = cI 0) (a0 : cF2 0 = cF 0) (a1 : cF2 1 = cF 1) (a2 : cF2 2 = cF 2) (a3 : cF2 3 = cF 3) (a4 : cF2 4 = cF 4) (a5 : cG2 0 = cG 0) (aq : cF2 16 = cF 16) (g1 : cF2 5 = cF 5) (g2 : cF2 6 = cF 6) (g3 : cF2 7 = cF 7) (g4 : cF2 8 = cF 8) (g5 : cF2 9 = cF 9) (g6 : cF2 11 = cF 11) (p : cP2 = cP) (q : cQ2 = cQ)
    (b0 : mN2 0 = mN 0) (bn : mI2 0 = mI 0) (bp : mI2 1 = mI 1) (b1 : ∀ j, j < 288 → mF2 0 j = mF 0 j) (b2 : mF2 1 = mF 1) (b3 : mF2 3 = mF 3) (f1 : mF2 4 = mF 4) (f2 : mF2 5 = mF 5) (f3 : mF2 6 = mF 6) (f4 : mF2 7 = mF 7) : RelB n be en ea pr cN2 cI2 cF2 cG2 cP2 cQ2 mN2 mI2 mF2 := by
  obtain ⟨h1, h2, h3, h4, h5⟩ := h
  refine ⟨h1, ?_, ?_, ?_, h5.mk g1 g2 g3 g4 g5 g6 f1 f2 f3 f4 (by rw [ep, bp]; exact h5.2.2.2.1) (by rw [bn, b3]; exact h5.2.2.2.2)⟩
  · rw [f1, a0, a1, a2, a3, a4, a5]
    exact h2.congr (fun _ _ => rfl) (fun _ _ => rfl) (fun _ _ => rfl) (fun _ _ => rfl) (fun _ _ => rfl) (fun _ _ => rfl) b1
  · rw [f1, e1, e2, p, q, b0, b2]; exact h3
  · rw [aq, b3]; exact h4
theorem RelB.prz (h : RelB n be en ea pr cN cI cF cG cP cQ mN mI mF) {p2 : Int32} (hp : (¬ x < 0 ∧ x ≤ nI 2 → p2 = x) ∧ (¬ (¬ x < 0 ∧ x ≤ nI 2) → p2 = pr)) : RelB n be en ea p2 cN cI cF cG cP cQ mN mI mF := by
  refine ⟨?_, h.2⟩
  by_cases q : ¬ x < 0 ∧ x ≤ nI 2
  · obtain ⟨j, hj, e⟩ := nI_of2 (n := 2) (M := nI 2) (by decide) q.1 q.2
    rw [hp.1 q, e]
    rcases (show j = 0 ∨ j = 1 ∨ j = 2 by omega) with rfl | rfl | rfl
    · exact Or.inl rfl
    · exact Or.inr (Or.inl rfl)
    · exact Or.inr (Or.inr rfl)
  · rw [hp.2 q]; exact h.1
theorem RelB.eaz (h : RelB n be en ea pr cN cI cF cG cP cQ mN mI mF) {e2 : Int32} (hp : (¬ x < nI 1 ∧ x ≤ nI be → e2 = x) ∧ (¬ (¬ x < nI 1 ∧ x ≤ nI be) → e2 = ea)) : RelB n be en e2 pr cN cI cF cG cP cQ mN mI mF := by
  obtain ⟨h1, h2, h3, h4, h5, h6, h7⟩ := h
  refine ⟨h1, h2, h3, h4, h5, ?_, h7⟩
  by_cases q : ¬ x < nI 1 ∧ x ≤ nI be
  · rw [hp.1 q]; exact q.1
  · rw [hp.2 q]; exact h6
theorem RelB.fresh {n2 be2 : Nat} (h : RelB n be en ea pr cN cI cF cG cP cQ mN mI mF) (hb : 1 ≤ be2 ∧ be2 ≤ 15) (hc : cN2 1 = 0 ∧ cF2 0 = (fun _ => nI 0) ∧ cF2 1 = (fun _ => nI 0) ∧ cF2 2 = (fun _ => -1) ∧ cF2 3 = (fun _ => nI 0) ∧ cF2 4 = (fun _ => nI 0) ∧ cG2 0 = (fun _ => vF) ∧ cF2 16 = (fun _ => nI 0) ∧ cI2 0 = nI 0 ∧ cF2 11 = (fun _ => nI 0) ∧ cN2 2 = cN 2 ∧ cP2 = cP ∧ cQ2 = cQ) (hm : mN2 0 = 0 ∧ mF2 0 = freshS ∧ mF2 3 = (fun _ => nI 0) ∧ mF2 1 = mF 1 ∧ mI2 0 = nI 0 ∧ mI2 1 = nI 0 ∧ inP 16 8 (mF2 4)) : RelB n2 be2 0 (mnE ea be2) pr cN2 cI2 cF2 cG2 cP2 cQ2 mN2 mI2 mF2 := by
  obtain ⟨h1, h2, h3, h4, h5⟩ := h
  obtain ⟨c1, c2, c3, c4, c5, c6, c7, c8, c9, c10, c11, c12, c13⟩ := hc
  obtain ⟨m1, m2, m3, m4, m5, m6, m7⟩ := hm
  refine ⟨h1, ?_, ?_, ?_, ?_, mnE_1 h5.2.1 hb, ⟨m7, parF.fresh, parF.fresh⟩, ?_, ?_⟩
  · rw [c2, c3, c4, c5, c6, c7, m2]; exact grpB.fresh hb.1
  · rw [c1, m1, c11]; exact keptB.zero _ _ _ _ _ _ _ h3.1.2.2
  · rw [c8, m3]; exact fun _ _ => rfl
  · rw [c10]; exact gphR.fresh
  · rw [c9, m6]
  · rw [m5, m3]; exact (qsm_0 n2).symm

theorem br_kind (hG : GP n k al be en) (hR : RelB n be en ea pr cN cI cF cG cP cQ mN mI mF) (hc : ∃ (d1 d2 d3 d4 d5 : Nat → Int32) (d6 : Nat → Nat → Int32), ((((cN2 1) ≤ 8 ∧ (cN2 2) < 8 ∧ ∀ j, j < 8 → prP (d6 j)) ∧ ((∃ a, a < n ∧ x = nI a ∧ (¬ y < 0 ∧ y ≤ nI 4) ∧ r = (cF 1) a ∧ (cF2 1) = upd (cF 1) a y ∧ ((cN2 1) = mnK (cN 1) ∧ (cN2 2) = ((cN 2) + 1) % 8 ∧ d1 = (cF 0) ∧ d2 = (cF 1) ∧ d3 = (cF 2) ∧ (∀ j, j < 8 → d4 j = (cF 3) j) ∧ (∀ j, j < 8 → d5 j = (cF 4) j) ∧ ∀ j, j < 8 → d6 j = (cG 0) j)) ∨ (¬ (okN n x ∧ ¬ y < 0 ∧ y ≤ nI 4) ∧ r = -1 ∧ ((cN2 1) = (cN 1) ∧ (cN2 2) = (cN 2) ∧ d1 = (cP 0 (cN 2)) ∧ d2 = (cP 1 (cN 2)) ∧ d3 = (cP 2 (cN 2)) ∧ d4 = (cP 3 (cN 2)) ∧ d5 = (cP 4 (cN 2)) ∧ d6 = (cQ (cN 2))) ∧ (cF2 1) = (cF 1)))) ∧ cP2 0 = (fun j => if j = (cN 2) then d1 else cP 0 j) ∧ cP2 1 = (fun j => if j = (cN 2) then d2 else cP 1 j) ∧ cP2 2 = (fun j => if j = (cN 2) then d3 else cP 2 j) ∧ cP2 3 = (fun j => if j = (cN 2) then d4 else cP 3 j) ∧ cP2 4 = (fun j => if j = (cN 2) then d5 else cP 4 j) ∧ cQ2 = (fun j => if j = (cN 2) then d6 else cQ j))) (he : cI2 0 = cI 0 ∧ cF2 0 = cF 0 ∧ cF2 2 = cF 2 ∧ cF2 3 = cF 3 ∧ cF2 4 = cF 4 ∧ cG2 0 = cG 0 ∧ cF2 16 = cF 16 ∧ cF2 5 = cF 5 ∧ cF2 6 = cF 6 ∧ cF2 7 = cF 7 ∧ cF2 8 = cF 8 ∧ cF2 9 = cF 9 ∧ cF2 10 = cF 10 ∧ cF2 11 = cF 11) (hm : (colP (mF2 0) ∧ keptP (mF2 1) ∧ (mN2 0) ≤ 8) ∧ ((∃ a, a < n ∧ x = nI a ∧ (¬ y < nI 0 ∧ y ≤ nI 4) ∧ r2 = (mF 0) (48 + a) ∧ (mF2 0) = upd (mF 0) (48 + a) y ∧ kpdP (mN 0) (mF 0) (mF 1) (mN2 0) (mF2 1)) ∨ (¬ (okN n x ∧ ¬ y < nI 0 ∧ y ≤ nI 4) ∧ r2 = -1 ∧ (mF2 0) = (mF 0) ∧ (mF2 1) = (mF 1) ∧ (mN2 0) = (mN 0)))) (hf : mI2 0 = mI 0 ∧ mI2 1 = mI 1 ∧ mF2 3 = mF 3 ∧ mF2 4 = mF 4 ∧ mF2 5 = mF 5 ∧ mF2 6 = mF 6 ∧ mF2 7 = mF 7) : RelB n be en ea pr cN2 cI2 cF2 cG2 cP2 cQ2 mN2 mI2 mF2 ∧ r = r2 := by
  obtain ⟨⟨hn2, hn8⟩, hkn, hal, hbe, hen⟩ := hG
  obtain ⟨hp, hg, hk, hq, hT⟩ := hR
  obtain ⟨d1, d2, d3, d4, d5, d6, ⟨_, hc⟩, p0, p1, p2, p3, p4, p5⟩ := hc
  obtain ⟨_, hm⟩ := hm
  rcases hc with ⟨a, ha, hx, hy, hr, hz, k1, k2, k3, k4, k5, k6, k7, k8⟩ | ⟨hn, hr, ⟨s1, s2, s3, s4, s5, s6, s7, s8⟩, hz⟩
  · rcases hm with ⟨a', ha', hx', hy', hr', hfz, hkp⟩ | ⟨hn', _⟩
    · obtain rfl : a = a' := (nI_eq (by omega) (by omega)).mp (hx.symm.trans hx')
      refine ⟨⟨hp, ?_, (by rw [hf.2.2.2.1]; exact hk.keep hg k1 k2 p0 p1 p2 p3 p4 p5 k3 k4 k5 k6 k7 k8 hkp), (by rw [he.2.2.2.2.2.2.1, hf.2.2.1]; exact hq), (hT.mk he.2.2.2.2.2.2.2.1 he.2.2.2.2.2.2.2.2.1 he.2.2.2.2.2.2.2.2.2.1 he.2.2.2.2.2.2.2.2.2.2.1 he.2.2.2.2.2.2.2.2.2.2.2.1 he.2.2.2.2.2.2.2.2.2.2.2.2.2 hf.2.2.2.1 hf.2.2.2.2.1 hf.2.2.2.2.2.1 hf.2.2.2.2.2.2 (by rw [he.1, hf.2.1]; exact hT.2.2.2.1) (by rw [hf.1, hf.2.2.1]; exact hT.2.2.2.2))⟩, ?_⟩
      · rw [he.2.1, hz, he.2.2.1, he.2.2.2.1, he.2.2.2.2.1, he.2.2.2.2.2.1, hfz, hf.2.2.2.1]; exact hg.nodes (hg.a.kind (by omega) y) (fun j _ h6 => upN _ _ (by omega))
      · obtain ⟨⟨s, hs⟩, _⟩ := hg
        rw [hr, hr']; exact (hs a (by omega)).2.2.2.1
    · exact absurd ⟨hx ▸ okN_nI ha (by omega), hy⟩ hn'
  · rcases hm with ⟨a', ha', hx', hy', _⟩ | ⟨hn', hr', hfz, hgz, hkm⟩
    · exact absurd ⟨hx' ▸ okN_nI ha' (by omega), hy'⟩ hn
    · refine ⟨⟨hp, ?_, (by rw [hf.2.2.2.1]; exact hk.same s1 s2 p0 p1 p2 p3 p4 p5 s3 s4 s5 s6 s7 s8 hkm hgz), (by rw [he.2.2.2.2.2.2.1, hf.2.2.1]; exact hq), (hT.mk he.2.2.2.2.2.2.2.1 he.2.2.2.2.2.2.2.2.1 he.2.2.2.2.2.2.2.2.2.1 he.2.2.2.2.2.2.2.2.2.2.1 he.2.2.2.2.2.2.2.2.2.2.2.1 he.2.2.2.2.2.2.2.2.2.2.2.2.2 hf.2.2.2.1 hf.2.2.2.2.1 hf.2.2.2.2.2.1 hf.2.2.2.2.2.2 (by rw [he.1, hf.2.1]; exact hT.2.2.2.1) (by rw [hf.1, hf.2.2.1]; exact hT.2.2.2.2))⟩, hr.trans hr'.symm⟩
      rw [he.2.1, hz, he.2.2.1, he.2.2.2.1, he.2.2.2.2.1, he.2.2.2.2.2.1, hfz, hf.2.2.2.1]; exact hg

theorem br_colour (hG : GP n k al be en) (hR : RelB n be en ea pr cN cI cF cG cP cQ mN mI mF) (hc : ∃ (d1 d2 d3 d4 d5 : Nat → Int32) (d6 : Nat → Nat → Int32), ((((cN2 1) ≤ 8 ∧ (cN2 2) < 8 ∧ ∀ j, j < 8 → prP (d6 j)) ∧ ((∃ a, a < n ∧ x = nI a ∧ (¬ y < -1 ∧ y ≤ nI 1) ∧ r = nI 1 ∧ (cF2 0) = upd (cF 0) a (wtC (nI 0) y) ∧ ((cN2 1) = mnK (cN 1) ∧ (cN2 2) = ((cN 2) + 1) % 8 ∧ d1 = (cF 0) ∧ d2 = (cF 1) ∧ d3 = (cF 2) ∧ (∀ j, j < 8 → d4 j = (cF 3) j) ∧ (∀ j, j < 8 → d5 j = (cF 4) j) ∧ ∀ j, j < 8 → d6 j = (cG 0) j)) ∨ (¬ (okN n x ∧ ¬ y < -1 ∧ y ≤ nI 1) ∧ r = nI 0 ∧ ((cN2 1) = (cN 1) ∧ (cN2 2) = (cN 2) ∧ d1 = (cP 0 (cN 2)) ∧ d2 = (cP 1 (cN 2)) ∧ d3 = (cP 2 (cN 2)) ∧ d4 = (cP 3 (cN 2)) ∧ d5 = (cP 4 (cN 2)) ∧ d6 = (cQ (cN 2))) ∧ (cF2 0) = (cF 0)))) ∧ cP2 0 = (fun j => if j = (cN 2) then d1 else cP 0 j) ∧ cP2 1 = (fun j => if j = (cN 2) then d2 else cP 1 j) ∧ cP2 2 = (fun j => if j = (cN 2) then d3 else cP 2 j) ∧ cP2 3 = (fun j => if j = (cN 2) then d4 else cP 3 j) ∧ cP2 4 = (fun j => if j = (cN 2) then d5 else cP 4 j) ∧ cQ2 = (fun j => if j = (cN 2) then d6 else cQ j))) (he : cI2 0 = cI 0 ∧ cF2 1 = cF 1 ∧ cF2 2 = cF 2 ∧ cF2 3 = cF 3 ∧ cF2 4 = cF 4 ∧ cG2 0 = cG 0 ∧ cF2 16 = cF 16 ∧ cF2 5 = cF 5 ∧ cF2 6 = cF 6 ∧ cF2 7 = cF 7 ∧ cF2 8 = cF 8 ∧ cF2 9 = cF 9 ∧ cF2 10 = cF 10 ∧ cF2 11 = cF 11) (hm : (colP (mF2 0) ∧ keptP (mF2 1) ∧ (mN2 0) ≤ 8) ∧ ((∃ a, a < n ∧ x = nI a ∧ (¬ y < -1 ∧ y ≤ nI 1) ∧ r2 = nI 1 ∧ (mF2 0) = upd (upd (upd (upd (upd (upd (mF 0) (0 + a) y) (8 + a) (-1)) (16 + a) (nI 0)) (24 + a) (nI 0)) (32 + a) (nI 0)) (40 + a) (nI 0) ∧ kpdP (mN 0) (mF 0) (mF 1) (mN2 0) (mF2 1)) ∨ (¬ (okN n x ∧ ¬ y < -1 ∧ y ≤ nI 1) ∧ r2 = nI 0 ∧ (mF2 0) = (mF 0) ∧ (mF2 1) = (mF 1) ∧ (mN2 0) = (mN 0)))) (hf : mI2 0 = mI 0 ∧ mI2 1 = mI 1 ∧ mF2 3 = mF 3 ∧ mF2 4 = mF 4 ∧ mF2 5 = mF 5 ∧ mF2 6 = mF 6 ∧ mF2 7 = mF 7) : RelB n be en ea pr cN2 cI2 cF2 cG2 cP2 cQ2 mN2 mI2 mF2 ∧ r = r2 := by
  obtain ⟨⟨hn2, hn8⟩, hkn, hal, hbe, hen⟩ := hG
  obtain ⟨hp, hg, hk, hq, hT⟩ := hR
  obtain ⟨d1, d2, d3, d4, d5, d6, ⟨_, hc⟩, p0, p1, p2, p3, p4, p5⟩ := hc
  obtain ⟨_, hm⟩ := hm
  rcases hc with ⟨a, ha, hx, hy, hr, hz, k1, k2, k3, k4, k5, k6, k7, k8⟩ | ⟨hn, hr, ⟨s1, s2, s3, s4, s5, s6, s7, s8⟩, hz⟩
  · rcases hm with ⟨a', ha', hx', hy', hr', hfz, hkp⟩ | ⟨hn', _⟩
    · obtain rfl : a = a' := (nI_eq (by omega) (by omega)).mp (hx.symm.trans hx')
      refine ⟨⟨hp, ?_, (by rw [hf.2.2.2.1]; exact hk.keep hg k1 k2 p0 p1 p2 p3 p4 p5 k3 k4 k5 k6 k7 k8 hkp), (by rw [he.2.2.2.2.2.2.1, hf.2.2.1]; exact hq), (hT.mk he.2.2.2.2.2.2.2.1 he.2.2.2.2.2.2.2.2.1 he.2.2.2.2.2.2.2.2.2.1 he.2.2.2.2.2.2.2.2.2.2.1 he.2.2.2.2.2.2.2.2.2.2.2.1 he.2.2.2.2.2.2.2.2.2.2.2.2.2 hf.2.2.2.1 hf.2.2.2.2.1 hf.2.2.2.2.2.1 hf.2.2.2.2.2.2 (by rw [he.1, hf.2.1]; exact hT.2.2.2.1) (by rw [hf.1, hf.2.2.1]; exact hT.2.2.2.2))⟩, hr.trans hr'.symm⟩
      rw [hz, he.2.1, he.2.2.1, he.2.2.2.1, he.2.2.2.2.1, he.2.2.2.2.2.1, hfz, hf.2.2.2.1]
      exact hg.nodes (hg.a.colour hbe.1 (by omega) (col_of hy)) (fun j _ h6 => by unfold upd; rw [if_neg (by omega), if_neg (by omega), if_neg (by omega), if_neg (by omega), if_neg (by omega), if_neg (by omega)])
    · exact absurd ⟨hx ▸ okN_nI ha (by omega), hy⟩ hn'
  · rcases hm with ⟨a', ha', hx', hy', _⟩ | ⟨hn', hr', hfz, hgz, hkm⟩
    · exact absurd ⟨hx' ▸ okN_nI ha' (by omega), hy'⟩ hn
    · refine ⟨⟨hp, ?_, (by rw [hf.2.2.2.1]; exact hk.same s1 s2 p0 p1 p2 p3 p4 p5 s3 s4 s5 s6 s7 s8 hkm hgz), (by rw [he.2.2.2.2.2.2.1, hf.2.2.1]; exact hq), (hT.mk he.2.2.2.2.2.2.2.1 he.2.2.2.2.2.2.2.2.1 he.2.2.2.2.2.2.2.2.2.1 he.2.2.2.2.2.2.2.2.2.2.1 he.2.2.2.2.2.2.2.2.2.2.2.1 he.2.2.2.2.2.2.2.2.2.2.2.2.2 hf.2.2.2.1 hf.2.2.2.2.1 hf.2.2.2.2.2.1 hf.2.2.2.2.2.2 (by rw [he.1, hf.2.1]; exact hT.2.2.2.1) (by rw [hf.1, hf.2.2.1]; exact hT.2.2.2.2))⟩, hr.trans hr'.symm⟩
      rw [hz, he.2.1, he.2.2.1, he.2.2.2.1, he.2.2.2.2.1, he.2.2.2.2.2.1, hfz, hf.2.2.2.1]; exact hg

theorem grpA.lnk {nf kf lf pof f : Nat → Int32} {a b : Nat} (h : grpA be nf kf lf pof f) (ha : a < 8) (hb : b < 8) : hasB (lf a) b ↔ hasB (f (56 + a)) b := by
  obtain ⟨⟨s, hs⟩, _⟩ := h
  exact (hs a ha).2.2.2.2 b hb

theorem br_link (hG : GP n k al be en) (hR : RelB n be en ea pr cN cI cF cG cP cQ mN mI mF) (hc : ∃ (d1 d2 d3 d4 d5 : Nat → Int32) (d6 : Nat → Nat → Int32), ((((cN2 1) ≤ 8 ∧ (cN2 2) < 8 ∧ ∀ j, j < 8 → prP (d6 j)) ∧ ((∃ (a b : Nat) (h : Int32), a < n ∧ b < n ∧ x = nI a ∧ y = nI b ∧ ¬ nI a = nI b ∧ PQ (hasB ((cF 2) a) b) h (nI 1) (nI 0) ∧ ¬ h = z ∧ r = nI 1 ∧ (cF2 2) = linkC (cF 2) a b ∧ ((cN2 1) = mnK (cN 1) ∧ (cN2 2) = ((cN 2) + 1) % 8 ∧ d1 = (cF 0) ∧ d2 = (cF 1) ∧ d3 = (cF 2) ∧ (∀ j, j < 8 → d4 j = (cF 3) j) ∧ (∀ j, j < 8 → d5 j = (cF 4) j) ∧ ∀ j, j < 8 → d6 j = (cG 0) j)) ∨ (¬ (okN n x ∧ okN n y ∧ ¬ x = y ∧ ∀ a b, x = nI a → y = nI b → a < n → b < n → ∃ h, PQ (hasB ((cF 2) a) b) h (nI 1) (nI 0) ∧ ¬ h = z) ∧ r = nI 0 ∧ ((cN2 1) = (cN 1) ∧ (cN2 2) = (cN 2) ∧ d1 = (cP 0 (cN 2)) ∧ d2 = (cP 1 (cN 2)) ∧ d3 = (cP 2 (cN 2)) ∧ d4 = (cP 3 (cN 2)) ∧ d5 = (cP 4 (cN 2)) ∧ d6 = (cQ (cN 2))) ∧ (cF2 2) = (cF 2)))) ∧ cP2 0 = (fun j => if j = (cN 2) then d1 else cP 0 j) ∧ cP2 1 = (fun j => if j = (cN 2) then d2 else cP 1 j) ∧ cP2 2 = (fun j => if j = (cN 2) then d3 else cP 2 j) ∧ cP2 3 = (fun j => if j = (cN 2) then d4 else cP 3 j) ∧ cP2 4 = (fun j => if j = (cN 2) then d5 else cP 4 j) ∧ cQ2 = (fun j => if j = (cN 2) then d6 else cQ j))) (he : cI2 0 = cI 0 ∧ cF2 0 = cF 0 ∧ cF2 1 = cF 1 ∧ cF2 3 = cF 3 ∧ cF2 4 = cF 4 ∧ cG2 0 = cG 0 ∧ cF2 16 = cF 16 ∧ cF2 5 = cF 5 ∧ cF2 6 = cF 6 ∧ cF2 7 = cF 7 ∧ cF2 8 = cF 8 ∧ cF2 9 = cF 9 ∧ cF2 10 = cF 10 ∧ cF2 11 = cF 11) (hm : (colP (mF2 0) ∧ keptP (mF2 1) ∧ (mN2 0) ≤ 8) ∧ ((∃ (a b : Nat) (h : Int32), a < n ∧ b < n ∧ x = nI a ∧ y = nI b ∧ ¬ nI a = nI b ∧ PQ (hasB ((mF 0) (56 + a)) b) h (nI 1) (nI 0) ∧ ¬ h = z ∧ r2 = nI 1 ∧ (mF2 0) = linkG (mF 0) a b ∧ kpdP (mN 0) (mF 0) (mF 1) (mN2 0) (mF2 1)) ∨ (¬ (okN n x ∧ okN n y ∧ ¬ x = y ∧ ∀ a b, x = nI a → y = nI b → a < n → b < n → ∃ h, PQ (hasB ((mF 0) (56 + a)) b) h (nI 1) (nI 0) ∧ ¬ h = z) ∧ r2 = nI 0 ∧ (mF2 0) = (mF 0) ∧ (mF2 1) = (mF 1) ∧ (mN2 0) = (mN 0)))) (hf : mI2 0 = mI 0 ∧ mI2 1 = mI 1 ∧ mF2 3 = mF 3 ∧ mF2 4 = mF 4 ∧ mF2 5 = mF 5 ∧ mF2 6 = mF 6 ∧ mF2 7 = mF 7) : RelB n be en ea pr cN2 cI2 cF2 cG2 cP2 cQ2 mN2 mI2 mF2 ∧ r = r2 := by
  obtain ⟨⟨hn2, hn8⟩, hkn, hal, hbe, hen⟩ := hG
  obtain ⟨hp, hg, hk, hq, hT⟩ := hR
  obtain ⟨d1, d2, d3, d4, d5, d6, ⟨_, hc⟩, p0, p1, p2, p3, p4, p5⟩ := hc
  obtain ⟨_, hm⟩ := hm
  rcases hc with ⟨a, b, h, ha, hb, hx, hy, hne, hpq, hhz, hr, hz, k1, k2, k3, k4, k5, k6, k7, k8⟩ | ⟨hn, hr, ⟨s1, s2, s3, s4, s5, s6, s7, s8⟩, hz⟩
  · rcases hm with ⟨a', b', h', ha', hb', hx', hy', hne', hpq', hhz', hr', hfz, hkp⟩ | ⟨hn', _⟩
    · obtain rfl : a = a' := (nI_eq (by omega) (by omega)).mp (hx.symm.trans hx')
      obtain rfl : b = b' := (nI_eq (by omega) (by omega)).mp (hy.symm.trans hy')
      refine ⟨⟨hp, ?_, (by rw [hf.2.2.2.1]; exact hk.keep hg k1 k2 p0 p1 p2 p3 p4 p5 k3 k4 k5 k6 k7 k8 hkp), (by rw [he.2.2.2.2.2.2.1, hf.2.2.1]; exact hq), (hT.mk he.2.2.2.2.2.2.2.1 he.2.2.2.2.2.2.2.2.1 he.2.2.2.2.2.2.2.2.2.1 he.2.2.2.2.2.2.2.2.2.2.1 he.2.2.2.2.2.2.2.2.2.2.2.1 he.2.2.2.2.2.2.2.2.2.2.2.2.2 hf.2.2.2.1 hf.2.2.2.2.1 hf.2.2.2.2.2.1 hf.2.2.2.2.2.2 (by rw [he.1, hf.2.1]; exact hT.2.2.2.1) (by rw [hf.1, hf.2.2.1]; exact hT.2.2.2.2))⟩, hr.trans hr'.symm⟩
      rw [he.2.1, he.2.2.1, hz, he.2.2.2.1, he.2.2.2.2.1, he.2.2.2.2.2.1, hfz, hf.2.2.2.1]
      exact hg.nodes (hg.a.link (by omega) (by omega) (fun z => hne (by rw [z]))) (fun j _ h6 => by unfold linkG upd; rw [if_neg (by omega), if_neg (by omega)])
    · refine absurd ⟨hx ▸ okN_nI ha (by omega), hy ▸ okN_nI hb (by omega), by rw [hx, hy]; exact hne, fun a' b' hx' hy' ha' hb' => ?_⟩ hn'
      obtain rfl : a = a' := (nI_eq (by omega) (by omega)).mp (hx.symm.trans hx')
      obtain rfl : b = b' := (nI_eq (by omega) (by omega)).mp (hy.symm.trans hy')
      exact ⟨h, PQ.iff (hg.a.lnk (by omega) (by omega)) hpq, hhz⟩
  · rcases hm with ⟨a', b', h', ha', hb', hx', hy', hne', hpq', hhz', _⟩ | ⟨hn', hr', hfz, hgz, hkm⟩
    · refine absurd ⟨hx' ▸ okN_nI ha' (by omega), hy' ▸ okN_nI hb' (by omega), by rw [hx', hy']; exact hne', fun a b hx hy ha hb => ?_⟩ hn
      obtain rfl : a = a' := (nI_eq (by omega) (by omega)).mp (hx.symm.trans hx')
      obtain rfl : b = b' := (nI_eq (by omega) (by omega)).mp (hy.symm.trans hy')
      exact ⟨h', PQ.iff (hg.a.lnk (by omega) (by omega)).symm hpq', hhz'⟩
    · refine ⟨⟨hp, ?_, (by rw [hf.2.2.2.1]; exact hk.same s1 s2 p0 p1 p2 p3 p4 p5 s3 s4 s5 s6 s7 s8 hkm hgz), (by rw [he.2.2.2.2.2.2.1, hf.2.2.1]; exact hq), (hT.mk he.2.2.2.2.2.2.2.1 he.2.2.2.2.2.2.2.2.1 he.2.2.2.2.2.2.2.2.2.1 he.2.2.2.2.2.2.2.2.2.2.1 he.2.2.2.2.2.2.2.2.2.2.2.1 he.2.2.2.2.2.2.2.2.2.2.2.2.2 hf.2.2.2.1 hf.2.2.2.2.1 hf.2.2.2.2.2.1 hf.2.2.2.2.2.2 (by rw [he.1, hf.2.1]; exact hT.2.2.2.1) (by rw [hf.1, hf.2.2.1]; exact hT.2.2.2.2))⟩, hr.trans hr'.symm⟩
      rw [he.2.1, he.2.2.1, hz, he.2.2.2.1, he.2.2.2.2.1, he.2.2.2.2.2.1, hfz, hf.2.2.2.1]; exact hg

theorem br_query (hG : GP n k al be en) (hR : RelB n be en ea pr cN cI cF cG cP cQ mN mI mF) {uu : Nat → Nat → Nat} (hrow : ∀ j, j < 8 → rowU (mF 0) j (uu j) ∧ okU be (uu j)) (hc : ∃ (d1 d2 d3 d4 d5 : Nat → Int32) (d6 : Nat → Nat → Int32), ((((cN2 1) ≤ 8 ∧ (cN2 2) < 8 ∧ ∀ j, j < 8 → prP (d6 j)) ∧ ((¬ cakP n k x y (cF 0) (cF 1) ∧ r = -1 ∧ ((cN2 1) = (cN 1) ∧ (cN2 2) = (cN 2) ∧ d1 = (cP 0 (cN 2)) ∧ d2 = (cP 1 (cN 2)) ∧ d3 = (cP 2 (cN 2)) ∧ d4 = (cP 3 (cN 2)) ∧ d5 = (cP 4 (cN 2)) ∧ d6 = (cQ (cN 2))) ∧ (cF2 0) = (cF 0) ∧ (cF2 16) = (cF 16)) ∨ (cakP n k x y (cF 0) (cF 1) ∧ ((cN2 1) = mnK (cN 1) ∧ (cN2 2) = ((cN 2) + 1) % 8 ∧ d1 = (cF 0) ∧ d2 = (cF 1) ∧ d3 = (cF 2) ∧ (∀ j, j < 8 → d4 j = (cF 3) j) ∧ (∀ j, j < 8 → d5 j = (cF 4) j) ∧ ∀ j, j < 8 → d6 j = (cG 0) j) ∧ lisI n x.toNatClampNeg (cF 2) (cF 1) (cF 0) 0 (cI2 3) (cI2 4) (cI2 5) ∧ r = chgF ((cF 0) x.toNatClampNeg) ((cF2 0) x.toNatClampNeg) ∧ askR n al be pr (cF 0) (cF2 0) x.toNatClampNeg y (cI2 3) (cI2 4) (cI2 5) ∧ (cF2 16) = upd (cF 16) x.toNatClampNeg ((cF 16) x.toNatClampNeg + nI 1)))) ∧ cP2 0 = (fun j => if j = (cN 2) then d1 else cP 0 j) ∧ cP2 1 = (fun j => if j = (cN 2) then d2 else cP 1 j) ∧ cP2 2 = (fun j => if j = (cN 2) then d3 else cP 2 j) ∧ cP2 3 = (fun j => if j = (cN 2) then d4 else cP 3 j) ∧ cP2 4 = (fun j => if j = (cN 2) then d5 else cP 4 j) ∧ cQ2 = (fun j => if j = (cN 2) then d6 else cQ j))) (he : cI2 0 = cI 0 ∧ cF2 1 = cF 1 ∧ cF2 2 = cF 2 ∧ cF2 3 = cF 3 ∧ cF2 4 = cF 4 ∧ cG2 0 = cG 0 ∧ cF2 5 = cF 5 ∧ cF2 6 = cF 6 ∧ cF2 7 = cF 7 ∧ cF2 8 = cF 8 ∧ cF2 9 = cF 9 ∧ cF2 10 = cF 10 ∧ cF2 11 = cF 11) (hm : (colP (mF2 0) ∧ keptP (mF2 1) ∧ (mN2 0) ≤ 8) ∧ ((∃ a, a < n ∧ x = nI a ∧ msmP n k a y ∧ mcaP (mF 0) a ∧ askedP n al be pr (mF 0) y a (uu a) r2 (mF2 0) ∧ kpdP (mN 0) (mF 0) (mF 1) (mN2 0) (mF2 1) ∧ (mF2 3) = upd (mF 3) a ((mF 3) a + nI 1) ∧ (mI2 0) = (mI 0) + nI 1) ∨ (¬ (okN n x ∧ ∀ a, a < n → x = nI a → msmP n k a y ∧ mcaP (mF 0) a) ∧ r2 = -1 ∧ ((mF2 0) = (mF 0) ∧ (mF2 1) = (mF 1) ∧ (mN2 0) = (mN 0)) ∧ (mF2 3) = (mF 3) ∧ (mI2 0) = (mI 0)))) (hf : mI2 1 = mI 1 ∧ mF2 4 = mF 4 ∧ mF2 5 = mF 5 ∧ mF2 6 = mF 6 ∧ mF2 7 = mF 7) : RelB n be en ea pr cN2 cI2 cF2 cG2 cP2 cQ2 mN2 mI2 mF2 ∧ r = r2 := by
  obtain ⟨⟨hn2, hn8⟩, hkn, hal, hbe, hen⟩ := hG
  obtain ⟨hp, hg, hk, hq, hT⟩ := hR
  obtain ⟨d1, d2, d3, d4, d5, d6, ⟨_, hc⟩, p0, p1, p2, p3, p4, p5⟩ := hc
  obtain ⟨_, hm⟩ := hm
  rcases hc with ⟨hn, hr, ⟨s1, s2, s3, s4, s5, s6, s7, s8⟩, hz, hqz⟩ | ⟨hca, ⟨k1, k2, k3, k4, k5, k6, k7, k8⟩, hl, hr, hA, hqz⟩
  · rcases hm with ⟨a', ha', hx', hS, hmc, _⟩ | ⟨hn', hr', ⟨hfz, hgz, hkm⟩, hq2, hnq⟩
    · obtain ⟨⟨s, hs⟩, _⟩ := hg
      exact absurd (by rw [hx']; exact (cak_iff hn8 ha' (hs a' (by omega))).mpr ⟨hS, hmc⟩) hn
    · refine ⟨⟨hp, ?_, (by rw [hf.2.1]; exact hk.same s1 s2 p0 p1 p2 p3 p4 p5 s3 s4 s5 s6 s7 s8 hkm hgz), ?_, (hT.mk he.2.2.2.2.2.2.1 he.2.2.2.2.2.2.2.1 he.2.2.2.2.2.2.2.2.1 he.2.2.2.2.2.2.2.2.2.1 he.2.2.2.2.2.2.2.2.2.2.1 he.2.2.2.2.2.2.2.2.2.2.2.2 hf.2.1 hf.2.2.1 hf.2.2.2.1 hf.2.2.2.2 (by rw [he.1, hf.1]; exact hT.2.2.2.1) (by rw [hnq, hq2]; exact hT.2.2.2.2))⟩, hr.trans hr'.symm⟩
      · rw [hz, he.2.1, he.2.2.1, he.2.2.2.1, he.2.2.2.2.1, he.2.2.2.2.2.1, hfz, hf.2.1]; exact hg
      · rw [hqz, hq2]; exact hq
  · obtain ⟨a, ha, hx⟩ := okN_of hca.1.1 (by omega)
    rw [hx] at hca hl hr hA hqz
    rw [nI_clamp (by omega)] at hl hr hA hqz
    have hi : msmP n k a y ∧ mcaP (mF 0) a := by
      obtain ⟨⟨s, hs⟩, _⟩ := hg
      exact (cak_iff hn8 ha (hs a (by omega))).mp hca
    rcases hm with ⟨a', ha', hx', hS, hmc, hask, hkp, hq2, hnq⟩ | ⟨hn', _⟩
    · obtain rfl : a = a' := (nI_eq (by omega) (by omega)).mp (hx.symm.trans hx')
      have hb := ask_grp hg.a ha hn8 hkn.2 (by omega) hbe hal.2.2 hi.2 hi.1 (hrow a (by omega)).1 (hrow a (by omega)).2 hl hA hask
      refine ⟨⟨hp, ?_, (by rw [hf.2.1]; exact hk.keep hg k1 k2 p0 p1 p2 p3 p4 p5 k3 k4 k5 k6 k7 k8 hkp), ?_, (hT.mk he.2.2.2.2.2.2.1 he.2.2.2.2.2.2.2.1 he.2.2.2.2.2.2.2.2.1 he.2.2.2.2.2.2.2.2.2.1 he.2.2.2.2.2.2.2.2.2.2.1 he.2.2.2.2.2.2.2.2.2.2.2.2 hf.2.1 hf.2.2.1 hf.2.2.2.1 hf.2.2.2.2 (by rw [he.1, hf.1]; exact hT.2.2.2.1) (by rw [hnq, hq2, qsm_upd n (by omega), hT.2.2.2.2]))⟩, hr.trans hb.1.symm⟩
      · rw [he.2.1, he.2.2.1, he.2.2.2.1, he.2.2.2.2.1, he.2.2.2.2.2.1, hf.2.1]
        exact hg.nodes hb.2 (fun j _ h6 => asked_hi (by omega) hask j (by omega))
      · rw [hqz, hq2]; exact upd_q hq (by omega)
    · refine absurd ⟨hx ▸ okN_nI ha (by omega), fun a' ha' hx' => ?_⟩ hn'
      obtain rfl : a = a' := (nI_eq (by omega) (by omega)).mp (hx.symm.trans hx')
      exact hi

theorem lisI.congr {o i b : Nat} {lf kf f f' : Nat → Int32} {u1 u2 u3 : Int32} (h : lisI o i lf kf f b u1 u2 u3) (e : ∀ j, j < o → f' (b + j) = f (b + j)) (ei : f' (b + i) = f (b + i)) : lisI o i lf kf f' b u1 u2 u3 := fun k hk => by
  obtain ⟨h1, h2, h3⟩ := h k hk
  unfold lisP blkP at *
  refine ⟨h1.trans ?_, h2.trans ?_, h3.trans ?_⟩
  · constructor <;> rintro ⟨q, q1, q2, q3⟩ <;> refine ⟨q, q1, q2, ?_⟩ <;> rw [e k q, ei] at * <;> exact q3
  · constructor <;> rintro ⟨q, q1, q2, q3⟩ <;> refine ⟨q, q1, q2, ?_⟩ <;> rw [e k q, ei] at * <;> exact q3
  · constructor <;> rintro ⟨q, q1, q2, q3, q4⟩ <;> refine ⟨q, q1, q2, q3, ?_⟩ <;> rw [e k q] at * <;> exact q4
theorem cpy8 {f g : Nat → Int32} {j : Nat} (hj : j < 8) : va_cpy f g 0 0 8 j = f j := by
  unfold va_cpy
  rw [if_pos (by omega)]
  exact congrArg f (by omega)

theorem br_node (hG : GP n k al be en) (hR : RelB n be en ea pr cN cI cF cG cP cQ mN mI mF) (hc : (∃ a, a < n ∧ x = nI a ∧ r = ndC (cF 0) (cF 1) (cF 16) a y) ∨ (¬ okN n x ∧ r = -2)) (he : cN2 1 = cN 1 ∧ cN2 2 = cN 2 ∧ cI2 0 = cI 0 ∧ cF2 0 = cF 0 ∧ cF2 1 = cF 1 ∧ cF2 2 = cF 2 ∧ cF2 3 = cF 3 ∧ cF2 4 = cF 4 ∧ cG2 0 = cG 0 ∧ cF2 16 = cF 16 ∧ cF2 5 = cF 5 ∧ cF2 6 = cF 6 ∧ cF2 7 = cF 7 ∧ cF2 8 = cF 8 ∧ cF2 9 = cF 9 ∧ cF2 10 = cF 10 ∧ cF2 11 = cF 11 ∧ cP2 = cP ∧ cQ2 = cQ) (hm : (∃ a, a < n ∧ x = nI a ∧ r2 = ndV (mF 0) (mF 3) a y) ∨ (¬ okN n x ∧ r2 = -2)) (hf : mN2 0 = mN 0 ∧ mI2 0 = mI 0 ∧ mI2 1 = mI 1 ∧ mF2 0 = mF 0 ∧ mF2 1 = mF 1 ∧ mF2 3 = mF 3 ∧ mF2 4 = mF 4 ∧ mF2 5 = mF 5 ∧ mF2 6 = mF 6 ∧ mF2 7 = mF 7) : RelB n be en ea pr cN2 cI2 cF2 cG2 cP2 cQ2 mN2 mI2 mF2 ∧ r = r2 := by
  obtain ⟨⟨hn2, hn8⟩, hkn, hal, hbe, hen⟩ := hG
  obtain ⟨hp, hg, hk, hq, hT⟩ := hR
  refine ⟨RelB.same (pr := pr) (n := n) ⟨hp, hg, hk, hq, hT⟩ he.1 he.2.1 he.2.2.1 he.2.2.2.1 he.2.2.2.2.1 he.2.2.2.2.2.1 he.2.2.2.2.2.2.1 he.2.2.2.2.2.2.2.1 he.2.2.2.2.2.2.2.2.1 he.2.2.2.2.2.2.2.2.2.1 he.2.2.2.2.2.2.2.2.2.2.1 he.2.2.2.2.2.2.2.2.2.2.2.1 he.2.2.2.2.2.2.2.2.2.2.2.2.1 he.2.2.2.2.2.2.2.2.2.2.2.2.2.1 he.2.2.2.2.2.2.2.2.2.2.2.2.2.2.1 he.2.2.2.2.2.2.2.2.2.2.2.2.2.2.2.2.1 he.2.2.2.2.2.2.2.2.2.2.2.2.2.2.2.2.2.1 he.2.2.2.2.2.2.2.2.2.2.2.2.2.2.2.2.2.2 hf.1 hf.2.1 hf.2.2.1 (fun j _ => congrFun hf.2.2.2.1 j) hf.2.2.2.2.1 hf.2.2.2.2.2.1 hf.2.2.2.2.2.2.1 hf.2.2.2.2.2.2.2.1 hf.2.2.2.2.2.2.2.2.1 hf.2.2.2.2.2.2.2.2.2, ?_⟩
  rcases hc with ⟨a, ha, hx, hr⟩ | ⟨hn, hr⟩
  · rcases hm with ⟨a', ha', hx', hr'⟩ | ⟨hn', _⟩
    · obtain rfl : a = a' := (nI_eq (by omega) (by omega)).mp (hx.symm.trans hx')
      rw [hr, hr']; exact nd_eq hg.a (by omega) hq
    · exact absurd (hx ▸ okN_nI ha (by omega)) hn'
  · rcases hm with ⟨a', ha', hx', hr'⟩ | ⟨hn', hr'⟩
    · exact absurd (hx' ▸ okN_nI ha' (by omega)) hn
    · rw [hr, hr']

theorem br_would (hG : GP n k al be en) (hR : RelB n be en ea pr cN cI cF cG cP cQ mN mI mF) {uu : Nat → Nat → Nat} (hrow : ∀ j, j < 8 → rowU (mF 0) j (uu j) ∧ okU be (uu j)) (hc : (¬ cakP n k x y (cF 0) (cF 1) ∧ r = -1) ∨ (∃ a, a < n ∧ x = nI a ∧ cakP n k x y (cF 0) (cF 1) ∧ lisI n a (cF 2) (cF 1) (cF 0) 0 (cI2 3) (cI2 4) (cI2 5) ∧ r = chgF ((cF 0) a) ((cF2 15) a) ∧ askR n al be pr (va_cpy (cF 0) (cF 15) 0 0 8) (cF2 15) a y (cI2 3) (cI2 4) (cI2 5))) (he : cN2 1 = cN 1 ∧ cN2 2 = cN 2 ∧ cI2 0 = cI 0 ∧ cF2 0 = cF 0 ∧ cF2 1 = cF 1 ∧ cF2 2 = cF 2 ∧ cF2 3 = cF 3 ∧ cF2 4 = cF 4 ∧ cG2 0 = cG 0 ∧ cF2 16 = cF 16 ∧ cF2 5 = cF 5 ∧ cF2 6 = cF 6 ∧ cF2 7 = cF 7 ∧ cF2 8 = cF 8 ∧ cF2 9 = cF 9 ∧ cF2 10 = cF 10 ∧ cF2 11 = cF 11 ∧ cP2 = cP ∧ cQ2 = cQ) (hm : (colP (mF2 0) ∧ ∀ j, j < 288 → (mF2 0) j = (mF 0) j) ∧ ((∃ a, a < n ∧ x = nI a ∧ msmP n k a y ∧ mcaP (mF 0) a ∧ ∃ fy, askedP n al be pr (mF 0) y a (uu a) r2 fy) ∨ (¬ (okN n x ∧ ∀ a, a < n → x = nI a → msmP n k a y ∧ mcaP (mF 0) a) ∧ r2 = -1 ∧ (mF2 0) = (mF 0)))) (hf : mN2 0 = mN 0 ∧ mI2 0 = mI 0 ∧ mI2 1 = mI 1 ∧ mF2 1 = mF 1 ∧ mF2 3 = mF 3 ∧ mF2 4 = mF 4 ∧ mF2 5 = mF 5 ∧ mF2 6 = mF 6 ∧ mF2 7 = mF 7) : RelB n be en ea pr cN2 cI2 cF2 cG2 cP2 cQ2 mN2 mI2 mF2 ∧ r = r2 := by
  obtain ⟨⟨hn2, hn8⟩, hkn, hal, hbe, hen⟩ := hG
  obtain ⟨hp, hg, hk, hq, hT⟩ := hR
  refine ⟨RelB.same (pr := pr) (n := n) ⟨hp, hg, hk, hq, hT⟩ he.1 he.2.1 he.2.2.1 he.2.2.2.1 he.2.2.2.2.1 he.2.2.2.2.2.1 he.2.2.2.2.2.2.1 he.2.2.2.2.2.2.2.1 he.2.2.2.2.2.2.2.2.1 he.2.2.2.2.2.2.2.2.2.1 he.2.2.2.2.2.2.2.2.2.2.1 he.2.2.2.2.2.2.2.2.2.2.2.1 he.2.2.2.2.2.2.2.2.2.2.2.2.1 he.2.2.2.2.2.2.2.2.2.2.2.2.2.1 he.2.2.2.2.2.2.2.2.2.2.2.2.2.2.1 he.2.2.2.2.2.2.2.2.2.2.2.2.2.2.2.2.1 he.2.2.2.2.2.2.2.2.2.2.2.2.2.2.2.2.2.1 he.2.2.2.2.2.2.2.2.2.2.2.2.2.2.2.2.2.2 hf.1 hf.2.1 hf.2.2.1 hm.1.2 hf.2.2.2.1 hf.2.2.2.2.1 hf.2.2.2.2.2.1 hf.2.2.2.2.2.2.1 hf.2.2.2.2.2.2.2.1 hf.2.2.2.2.2.2.2.2, ?_⟩
  replace hm := hm.2
  rcases hc with ⟨hn, hr⟩ | ⟨a, ha, hx, hca, hl, hr, hA⟩
  · rcases hm with ⟨a', ha', hx', hS, hmc, _⟩ | ⟨hn', hr', _⟩
    · obtain ⟨⟨s, hs⟩, _⟩ := hg
      exact absurd (by rw [hx']; exact (cak_iff hn8 ha' (hs a' (by omega))).mpr ⟨hS, hmc⟩) hn
    · rw [hr, hr']
  · rw [hx] at hca
    have hi : msmP n k a y ∧ mcaP (mF 0) a := by
      obtain ⟨⟨s, hs⟩, _⟩ := hg
      exact (cak_iff hn8 ha (hs a (by omega))).mp hca
    rcases hm with ⟨a', ha', hx', hS, hmc, fy, hask⟩ | ⟨hn', _⟩
    · obtain rfl : a = a' := (nI_eq (by omega) (by omega)).mp (hx.symm.trans hx')
      have hg2 : grpA be (va_cpy (cF 0) (cF 15) 0 0 8) (cF 1) (cF 2) (cF 4) (mF 0) := hg.a.congr (fun j hj => cpy8 hj) (fun _ _ => rfl) (fun _ _ => rfl) (fun _ _ => rfl) (lowE.refl _)
      have hb := ask_grp hg2 ha hn8 hkn.2 (by omega) hbe hal.2.2 hi.2 hi.1 (hrow a (by omega)).1 (hrow a (by omega)).2 (hl.congr (fun j hj => cpy8 (by omega)) (cpy8 (by omega))) hA hask
      rw [hr, hb.1, cpy8 (by omega)]
    · refine absurd ⟨hx ▸ okN_nI ha (by omega), fun a' ha' hx' => ?_⟩ hn'
      obtain rfl : a = a' := (nI_eq (by omega) (by omega)).mp (hx.symm.trans hx')
      exact hi

theorem br_run (hG : GP n k al be en) (hR : RelB n be en ea pr cN cI cF cG cP cQ mN mI mF) (hc : ∃ (d1 d2 d3 d4 d5 : Nat → Int32) (d6 : Nat → Nat → Int32), ((((cN2 1) ≤ 8 ∧ (cN2 2) < 8 ∧ ∀ j, j < 8 → prP (d6 j)) ∧ ((∃ nm, nm ≤ 300 ∧ x = nI nm ∧ ¬ x < nI 1 ∧ runC n k al be pr (cF 1) (cF 2) nm (y, (cF 0), (cF 16), nI 0) ((cI2 1), (cF2 0), (cF2 16), r) ∧ ((cN2 1) = mnK (cN 1) ∧ (cN2 2) = ((cN 2) + 1) % 8 ∧ d1 = (cF 0) ∧ d2 = (cF 1) ∧ d3 = (cF 2) ∧ (∀ j, j < 8 → d4 j = (cF 3) j) ∧ (∀ j, j < 8 → d5 j = (cF 4) j) ∧ ∀ j, j < 8 → d6 j = (cG 0) j)) ∨ (¬ (¬ x < nI 1 ∧ x ≤ nI 300) ∧ r = -1 ∧ ((cN2 1) = (cN 1) ∧ (cN2 2) = (cN 2) ∧ d1 = (cP 0 (cN 2)) ∧ d2 = (cP 1 (cN 2)) ∧ d3 = (cP 2 (cN 2)) ∧ d4 = (cP 3 (cN 2)) ∧ d5 = (cP 4 (cN 2)) ∧ d6 = (cQ (cN 2))) ∧ (cF2 0) = (cF 0) ∧ (cF2 16) = (cF 16) ∧ (cI2 1) = (cI 1)))) ∧ cP2 0 = (fun j => if j = (cN 2) then d1 else cP 0 j) ∧ cP2 1 = (fun j => if j = (cN 2) then d2 else cP 1 j) ∧ cP2 2 = (fun j => if j = (cN 2) then d3 else cP 2 j) ∧ cP2 3 = (fun j => if j = (cN 2) then d4 else cP 3 j) ∧ cP2 4 = (fun j => if j = (cN 2) then d5 else cP 4 j) ∧ cQ2 = (fun j => if j = (cN 2) then d6 else cQ j))) (he : cI2 0 = cI 0 ∧ cF2 1 = cF 1 ∧ cF2 2 = cF 2 ∧ cF2 3 = cF 3 ∧ cF2 4 = cF 4 ∧ cG2 0 = cG 0 ∧ cF2 5 = cF 5 ∧ cF2 6 = cF 6 ∧ cF2 7 = cF 7 ∧ cF2 8 = cF 8 ∧ cF2 9 = cF 9 ∧ cF2 10 = cF 10 ∧ cF2 11 = cF 11) (hm : (colP (mF2 0) ∧ keptP (mF2 1) ∧ (mN2 0) ≤ 8) ∧ (∀ j, j < 8 → ∃ v, rowU (mF2 0) j v ∧ okU be v) ∧ ((∃ nm, nm ≤ 300 ∧ x = nI nm ∧ ¬ x < nI 1 ∧ runM n k al be pr nm (y, (mF 0), (mF 3), (mI 0), nI 0) ((mI2 3), (mF2 0), (mF2 3), (mI2 0), r2) ∧ kpdP (mN 0) (mF 0) (mF 1) (mN2 0) (mF2 1)) ∨ (¬ (¬ x < nI 1 ∧ x ≤ nI 300) ∧ r2 = -1 ∧ ((mF2 0) = (mF 0) ∧ (mF2 1) = (mF 1) ∧ (mN2 0) = (mN 0)) ∧ (mF2 3) = (mF 3) ∧ (mI2 0) = (mI 0) ∧ (mI2 3) = (mI 3)))) (hf : mI2 1 = mI 1 ∧ mF2 4 = mF 4 ∧ mF2 5 = mF 5 ∧ mF2 6 = mF 6 ∧ mF2 7 = mF 7) : RelB n be en ea pr cN2 cI2 cF2 cG2 cP2 cQ2 mN2 mI2 mF2 ∧ r = r2 := by
  obtain ⟨⟨hn2, hn8⟩, hkn, hal, hbe, hen⟩ := hG
  obtain ⟨hp, hg, hk, hq, hT⟩ := hR
  obtain ⟨d1, d2, d3, d4, d5, d6, ⟨_, hc⟩, p0, p1, p2, p3, p4, p5⟩ := hc
  obtain ⟨_, _, hm⟩ := hm
  rcases hc with ⟨m, hm1, hx, hm0, hrc, k1, k2, k3, k4, k5, k6, k7, k8⟩ | ⟨hn, hr, ⟨s1, s2, s3, s4, s5, s6, s7, s8⟩, hz, hqz, _⟩
  · rcases hm with ⟨m', hm1', hx', _, hrm, hkp⟩ | ⟨hn', _⟩
    · obtain rfl : m = m' := (nI_eq (by omega) (by omega)).mp (hx.symm.trans hx')
      have hb := run_grp (pof := cF 4) hn8 hkn.2 (by omega) hbe hal.2.2 (⟨rfl, hg.a, hq, rfl⟩ : runR be (cF 1) (cF 2) (cF 4) (y, cF 0, cF 16, nI 0) (y, mF 0, mF 3, mI 0, nI 0)) m _ _ hrc hrm
      have hb2 := run_more hn8 (show ((y, mF 0, mF 3, mI 0, nI 0) : rnS).2.2.2.1 = qsm ((y, mF 0, mF 3, mI 0, nI 0) : rnS).2.2.1 n from hT.2.2.2.2) m _ hrm
      refine ⟨⟨hp, ?_, (by rw [hf.2.1]; exact hk.keep hg k1 k2 p0 p1 p2 p3 p4 p5 k3 k4 k5 k6 k7 k8 hkp), hb.2.2.1, (hT.mk he.2.2.2.2.2.2.1 he.2.2.2.2.2.2.2.1 he.2.2.2.2.2.2.2.2.1 he.2.2.2.2.2.2.2.2.2.1 he.2.2.2.2.2.2.2.2.2.2.1 he.2.2.2.2.2.2.2.2.2.2.2.2 hf.2.1 hf.2.2.1 hf.2.2.2.1 hf.2.2.2.2 (by rw [he.1, hf.1]; exact hT.2.2.2.1) hb2.2)⟩, hb.2.2.2⟩
      rw [he.2.1, he.2.2.1, he.2.2.2.1, he.2.2.2.2.1, he.2.2.2.2.2.1, hf.2.1]
      exact hg.nodes hb.2.1 (fun j _ h6 => hb2.1 j (by omega))
    · exact absurd ⟨hm0, by rw [hx]; exact (nI_leI (by omega) (by decide)).mpr hm1⟩ hn'
  · rcases hm with ⟨m', hm1', hx', hm0', hrm, hkp⟩ | ⟨hn', hr', ⟨hfz, hgz, hkm⟩, hq2, hnq, _⟩
    · exact absurd ⟨hm0', by rw [hx']; exact (nI_leI (by omega) (by decide)).mpr hm1'⟩ hn
    · refine ⟨⟨hp, ?_, (by rw [hf.2.1]; exact hk.same s1 s2 p0 p1 p2 p3 p4 p5 s3 s4 s5 s6 s7 s8 hkm hgz), ?_, (hT.mk he.2.2.2.2.2.2.1 he.2.2.2.2.2.2.2.1 he.2.2.2.2.2.2.2.2.1 he.2.2.2.2.2.2.2.2.2.1 he.2.2.2.2.2.2.2.2.2.2.1 he.2.2.2.2.2.2.2.2.2.2.2.2 hf.2.1 hf.2.2.1 hf.2.2.2.1 hf.2.2.2.2 (by rw [he.1, hf.1]; exact hT.2.2.2.1) (by rw [hnq, hq2]; exact hT.2.2.2.2))⟩, hr.trans hr'.symm⟩
      · rw [hz, he.2.1, he.2.2.1, he.2.2.2.1, he.2.2.2.2.1, he.2.2.2.2.2.1, hfz, hf.2.1]; exact hg
      · rw [hqz, hq2]; exact hq

theorem br_back (hG : GP n k al be en) (hR : RelB n be en ea pr cN cI cF cG cP cQ mN mI mF) (hc : ∃ (d1 d2 d3 d4 d5 : Nat → Int32) (d6 : Nat → Nat → Int32), ((((cN2 1) ≤ 8 ∧ (cN2 2) < 8 ∧ ∀ j, j < 8 → prP ((cG2 0) j)) ∧ (((cN 1) = 0 ∧ r = nI 0 ∧ (cN2 1) = (cN 1) ∧ (cN2 2) = (cN 2) ∧ (cF2 0) = (cF 0) ∧ (cF2 1) = (cF 1) ∧ (cF2 2) = (cF 2) ∧ (cF2 3) = (cF 3) ∧ (cF2 4) = (cF 4) ∧ (cG2 0) = (cG 0)) ∨ (¬ (cN 1) = 0 ∧ r = nI 1 ∧ (cN2 1) = (cN 1) - 1 ∧ (cN2 2) = ((cN 2) + 7) % 8 ∧ (cF2 0) = (cP 0 (((cN 2) + 7) % 8)) ∧ (cF2 1) = (cP 1 (((cN 2) + 7) % 8)) ∧ (cF2 2) = (cP 2 (((cN 2) + 7) % 8)) ∧ (∀ j, j < 8 → (cF2 3) j = (cP 3 (((cN 2) + 7) % 8)) j) ∧ (∀ j, j < 8 → (cF2 4) j = (cP 4 (((cN 2) + 7) % 8)) j) ∧ ∀ j, j < 8 → (cG2 0) j = (cQ (((cN 2) + 7) % 8)) j))) ∧ (d1 = cP 0 (((cN 2) + 7) % 8) ∧ d2 = cP 1 (((cN 2) + 7) % 8) ∧ d3 = cP 2 (((cN 2) + 7) % 8) ∧ d4 = cP 3 (((cN 2) + 7) % 8) ∧ d5 = cP 4 (((cN 2) + 7) % 8) ∧ d6 = cQ (((cN 2) + 7) % 8)) ∧ cP2 0 = (fun j => if j = (((cN 2) + 7) % 8) then d1 else cP 0 j) ∧ cP2 1 = (fun j => if j = (((cN 2) + 7) % 8) then d2 else cP 1 j) ∧ cP2 2 = (fun j => if j = (((cN 2) + 7) % 8) then d3 else cP 2 j) ∧ cP2 3 = (fun j => if j = (((cN 2) + 7) % 8) then d4 else cP 3 j) ∧ cP2 4 = (fun j => if j = (((cN 2) + 7) % 8) then d5 else cP 4 j) ∧ cQ2 = (fun j => if j = (((cN 2) + 7) % 8) then d6 else cQ j))) (he : cI2 0 = cI 0 ∧ cF2 16 = cF 16 ∧ cF2 5 = cF 5 ∧ cF2 6 = cF 6 ∧ cF2 7 = cF 7 ∧ cF2 8 = cF 8 ∧ cF2 9 = cF 9 ∧ cF2 10 = cF 10 ∧ cF2 11 = cF 11) (hm : (colP (mF2 0) ∧ (mN2 0) ≤ 8) ∧ (((mN 0) = 0 ∧ r2 = nI 0 ∧ (mN2 0) = (mN 0) ∧ (mF2 0) = (mF 0)) ∨ (¬ (mN 0) = 0 ∧ r2 = nI 1 ∧ (mN2 0) = (mN 0) - 1 ∧ ∀ j, j < 288 → (mF2 0) j = (mF 1) (288 * ((mN 0) - 1) + j)))) (hf : mI2 0 = mI 0 ∧ mI2 1 = mI 1 ∧ mF2 1 = mF 1 ∧ mF2 3 = mF 3 ∧ mF2 4 = mF 4 ∧ mF2 5 = mF 5 ∧ mF2 6 = mF 6 ∧ mF2 7 = mF 7) : RelB n be en ea pr cN2 cI2 cF2 cG2 cP2 cQ2 mN2 mI2 mF2 ∧ r = r2 := by
  obtain ⟨⟨hn2, hn8⟩, hkn, hal, hbe, hen⟩ := hG
  obtain ⟨hp, hg, hk, hq, hT⟩ := hR
  obtain ⟨d1, d2, d3, d4, d5, d6, ⟨_, hc⟩, ⟨t1, t2, t3, t4, t5, t6⟩, p0, p1, p2, p3, p4, p5⟩ := hc
  obtain ⟨_, hm⟩ := hm
  rcases hc with ⟨h0, hr, b1, b2, b3, b4, b5, b6, b7, b8⟩ | ⟨h0, hr, b1, b2, b3, b4, b5, b6, b7, b8⟩
  · rcases hm with ⟨h0', hr', hkm, hfz⟩ | ⟨h0', _⟩
    · refine ⟨⟨hp, ?_, (by rw [hf.2.2.2.2.1]; exact hk.same b1 b2 p0 p1 p2 p3 p4 p5 t1 t2 t3 t4 t5 t6 hkm hf.2.2.1), (by rw [he.2.1, hf.2.2.2.1]; exact hq), (hT.mk he.2.2.1 he.2.2.2.1 he.2.2.2.2.1 he.2.2.2.2.2.1 he.2.2.2.2.2.2.1 he.2.2.2.2.2.2.2.2 hf.2.2.2.2.1 hf.2.2.2.2.2.1 hf.2.2.2.2.2.2.1 hf.2.2.2.2.2.2.2 (by rw [he.1, hf.2.1]; exact hT.2.2.2.1) (by rw [hf.1, hf.2.2.2.1]; exact hT.2.2.2.2))⟩, hr.trans hr'.symm⟩
      rw [b3, b4, b5, b6, b7, b8, hfz, hf.2.2.2.2.1]; exact hg
    · exact absurd (hk.1.1.symm.trans h0) h0'
  · rcases hm with ⟨h0', _⟩ | ⟨h0', hr', hkm, hfz⟩
    · exact absurd (hk.1.1.trans h0') h0
    · have hb := hk.back h0' hfz
      refine ⟨⟨hp, ?_, (by rw [hf.2.2.2.2.1]; exact hb.2.same b1 b2 p0 p1 p2 p3 p4 p5 t1 t2 t3 t4 t5 t6 hkm hf.2.2.1), (by rw [he.2.1, hf.2.2.2.1]; exact hq), (hT.mk he.2.2.1 he.2.2.2.1 he.2.2.2.2.1 he.2.2.2.2.2.1 he.2.2.2.2.2.2.1 he.2.2.2.2.2.2.2.2 hf.2.2.2.2.1 hf.2.2.2.2.2.1 hf.2.2.2.2.2.2.1 hf.2.2.2.2.2.2.2 (by rw [he.1, hf.2.1]; exact hT.2.2.2.1) (by rw [hf.1, hf.2.2.2.1]; exact hT.2.2.2.2))⟩, hr.trans hr'.symm⟩
      rw [b3, b4, b5, hf.2.2.2.2.1]; exact hb.1.congr (fun _ _ => rfl) (fun _ _ => rfl) (fun _ _ => rfl) b6 b7 b8 (fun _ _ => rfl)

theorem br_poll (hG : GP n k al be en) (hR : RelB n be en ea pr cN cI cF cG cP cQ mN mI mF) (hc : ∃ (d1 d2 d3 d4 d5 : Nat → Int32) (d6 : Nat → Nat → Int32), (((((cN2 1) ≤ 8 ∧ (cN2 2) < 8 ∧ ∀ j, j < 8 → prP (d6 j)) ∧ ∀ j, j < 8 → prP ((cG2 0) j)) ∧ ((∃ a e, a < n ∧ e < en ∧ x = nI a ∧ y = nI e ∧ ccpP n k (cF 1) (cF 4) x z a e ∧ (∀ j, j < 8 → (cF2 4) j = upd (cF 4) a ((cF 4) a ||| bitI e) j) ∧ hldC n al be en ea (cF 2) (cF 1) (cF 5) (cF 6) (cF 7) (cF 8) (cF 9) (cF 11) (cF 3) (cG 0) a e z r (cF2 3) (cG2 0) ∧ (cI2 0) = (cI 0) + nI 1 ∧ ((cN2 1) = mnK (cN 1) ∧ (cN2 2) = ((cN 2) + 1) % 8 ∧ d1 = (cF 0) ∧ d2 = (cF 1) ∧ d3 = (cF 2) ∧ (∀ j, j < 8 → d4 j = (cF 3) j) ∧ (∀ j, j < 8 → d5 j = (cF 4) j) ∧ ∀ j, j < 8 → d6 j = (cG 0) j)) ∨ (¬ (ccpA n k en (cF 1) (cF 4) x y z ∧ smpP n k x z) ∧ r = -1 ∧ ((cN2 1) = (cN 1) ∧ (cN2 2) = (cN 2) ∧ d1 = (cP 0 (cN 2)) ∧ d2 = (cP 1 (cN 2)) ∧ d3 = (cP 2 (cN 2)) ∧ d4 = (cP 3 (cN 2)) ∧ d5 = (cP 4 (cN 2)) ∧ d6 = (cQ (cN 2))) ∧ ((cF2 3) = (cF 3) ∧ (cF2 4) = (cF 4) ∧ (cG2 0) = (cG 0)) ∧ (cI2 0) = (cI 0)))) ∧ cP2 0 = (fun j => if j = (cN 2) then d1 else cP 0 j) ∧ cP2 1 = (fun j => if j = (cN 2) then d2 else cP 1 j) ∧ cP2 2 = (fun j => if j = (cN 2) then d3 else cP 2 j) ∧ cP2 3 = (fun j => if j = (cN 2) then d4 else cP 3 j) ∧ cP2 4 = (fun j => if j = (cN 2) then d5 else cP 4 j) ∧ cQ2 = (fun j => if j = (cN 2) then d6 else cQ j))) (he : cF2 0 = cF 0 ∧ cF2 1 = cF 1 ∧ cF2 2 = cF 2 ∧ cF2 16 = cF 16 ∧ cF2 5 = cF 5 ∧ cF2 6 = cF 6 ∧ cF2 7 = cF 7 ∧ cF2 8 = cF 8 ∧ cF2 9 = cF 9 ∧ cF2 10 = cF 10 ∧ cF2 11 = cF 11) (hm : (colP (mF2 0) ∧ keptP (mF2 1) ∧ (mN2 0) ≤ 8) ∧ ((∃ a e, a < n ∧ e < en ∧ x = nI a ∧ y = nI e ∧ mcpP n k (mF 0) z a e ∧ hldM n al be en ea (mF 4) (mF 5) (mF 6) (mF 7) a e z r2 (mF 0) (mF2 0) ∧ (mI2 1) = (mI 1) + nI 1 ∧ kpdP (mN 0) (mF 0) (mF 1) (mN2 0) (mF2 1)) ∨ (¬ mcpA n k en (mF 0) x y z ∧ r2 = -1 ∧ ((mF2 0) = (mF 0) ∧ (mF2 1) = (mF 1) ∧ (mN2 0) = (mN 0)) ∧ (mI2 1) = (mI 1)))) (hf : mI2 0 = mI 0 ∧ mF2 3 = mF 3 ∧ mF2 4 = mF 4 ∧ mF2 5 = mF 5 ∧ mF2 6 = mF 6 ∧ mF2 7 = mF 7) : RelB n be en ea pr cN2 cI2 cF2 cG2 cP2 cQ2 mN2 mI2 mF2 ∧ r = r2 := by
  obtain ⟨⟨hn2, hn8⟩, hkn, hal, hbe, hen⟩ := hG
  obtain ⟨hp, hg, hk, hq, hT⟩ := hR
  obtain ⟨d1, d2, d3, d4, d5, d6, ⟨_, hc⟩, p0, p1, p2, p3, p4, p5⟩ := hc
  obtain ⟨_, hm⟩ := hm
  rcases hc with ⟨a, e, ha, hae, hx, hy, hcp, hpz, hhc, hpm, k1, k2, k3, k4, k5, k6, k7, k8⟩ | ⟨hn, hr, ⟨s1, s2, s3, s4, s5, s6, s7, s8⟩, ⟨v1, v2, v3⟩, hpm⟩
  · have hi : mcpP n k (mF 0) z a e := (ccp_iff hg.a hn8 ha).mp (hx ▸ hcp)
    rcases hm with ⟨a', e', ha', hae', hx', hy', hmp, hhm, hpo, hkp⟩ | ⟨hn', _⟩
    · obtain rfl : a = a' := (nI_eq (by omega) (by omega)).mp (hx.symm.trans hx')
      obtain rfl : e = e' := (nI_eq (by omega) (by omega)).mp (hy.symm.trans hy')
      have hb := hg.hld hT.1 hT.2.2.1.1 hen hT.2.2.1.2.1 hT.2.2.1.2.2 hae (by omega) hn8 (by omega) hbe hT.2.1 hpz hhc hhm
      refine ⟨⟨hp, ?_, (by rw [hf.2.2.1]; exact hk.keep hg k1 k2 p0 p1 p2 p3 p4 p5 k3 k4 k5 k6 k7 k8 hkp), (by rw [he.2.2.2.1, hf.2.1]; exact hq), (hT.mk he.2.2.2.2.1 he.2.2.2.2.2.1 he.2.2.2.2.2.2.1 he.2.2.2.2.2.2.2.1 he.2.2.2.2.2.2.2.2.1 he.2.2.2.2.2.2.2.2.2.2 hf.2.2.1 hf.2.2.2.1 hf.2.2.2.2.1 hf.2.2.2.2.2 (by rw [hpm, hpo, hT.2.2.2.1]) (by rw [hf.1, hf.2.1]; exact hT.2.2.2.2))⟩, hb.1⟩
      rw [he.1, he.2.1, he.2.2.1, hf.2.2.1]; exact hb.2
    · refine absurd ⟨hx ▸ okN_nI ha (by omega), hy ▸ okN_nI hae (by omega), fun a' e' ha' hae' hx' hy' => ?_⟩ hn'
      obtain rfl : a = a' := (nI_eq (by omega) (by omega)).mp (hx.symm.trans hx')
      obtain rfl : e = e' := (nI_eq (by omega) (by omega)).mp (hy.symm.trans hy')
      exact hi
  · rcases hm with ⟨a', e', ha', hae', hx', hy', hmp, _⟩ | ⟨hn', hr', ⟨hfz, hgz, hkm⟩, hpo⟩
    · have hi : ccpP n k (cF 1) (cF 4) x z a' e' := by rw [hx']; exact (ccp_iff hg.a hn8 ha').mpr hmp
      refine absurd ⟨⟨hx' ▸ okN_nI ha' (by omega), hy' ▸ okN_nI hae' (by omega), fun a e ha hae hx hy => ?_⟩, hi.1⟩ hn
      obtain rfl : a = a' := (nI_eq (by omega) (by omega)).mp (hx.symm.trans hx')
      obtain rfl : e = e' := (nI_eq (by omega) (by omega)).mp (hy.symm.trans hy')
      exact hi
    · refine ⟨⟨hp, ?_, (by rw [hf.2.2.1]; exact hk.same s1 s2 p0 p1 p2 p3 p4 p5 s3 s4 s5 s6 s7 s8 hkm hgz), (by rw [he.2.2.2.1, hf.2.1]; exact hq), (hT.mk he.2.2.2.2.1 he.2.2.2.2.2.1 he.2.2.2.2.2.2.1 he.2.2.2.2.2.2.2.1 he.2.2.2.2.2.2.2.2.1 he.2.2.2.2.2.2.2.2.2.2 hf.2.2.1 hf.2.2.2.1 hf.2.2.2.2.1 hf.2.2.2.2.2 (by rw [hpm, hpo]; exact hT.2.2.2.1) (by rw [hf.1, hf.2.1]; exact hT.2.2.2.2))⟩, hr.trans hr'.symm⟩
      rw [he.1, he.2.1, he.2.2.1, v1, v2, v3, hfz, hf.2.2.1]; exact hg

theorem br_polls (hG : GP n k al be en) (hR : RelB n be en ea pr cN cI cF cG cP cQ mN mI mF) (hc : ∃ (d1 d2 d3 d4 d5 : Nat → Int32) (d6 : Nat → Nat → Int32), (((((cN2 1) ≤ 8 ∧ (cN2 2) < 8 ∧ ∀ j, j < 8 → prP (d6 j)) ∧ ∀ j, j < 8 → prP ((cG2 0) j)) ∧ ((∃ nm, nm ≤ 100 ∧ x = nI nm ∧ ¬ x < nI 1 ∧ polBC n k al be en ea (cF 1) (cF 2) (cF 5) (cF 6) (cF 7) (cF 8) (cF 9) (cF 11) nm (y, (cF 4), (cF 3), (cG 0), (cI 0), nI 0) ((cI2 1), (cF2 4), (cF2 3), (cG2 0), (cI2 0), r) ∧ ((cN2 1) = mnK (cN 1) ∧ (cN2 2) = ((cN 2) + 1) % 8 ∧ d1 = (cF 0) ∧ d2 = (cF 1) ∧ d3 = (cF 2) ∧ (∀ j, j < 8 → d4 j = (cF 3) j) ∧ (∀ j, j < 8 → d5 j = (cF 4) j) ∧ ∀ j, j < 8 → d6 j = (cG 0) j)) ∨ (¬ (¬ x < nI 1 ∧ x ≤ nI 100) ∧ r = -1 ∧ ((cN2 1) = (cN 1) ∧ (cN2 2) = (cN 2) ∧ d1 = (cP 0 (cN 2)) ∧ d2 = (cP 1 (cN 2)) ∧ d3 = (cP 2 (cN 2)) ∧ d4 = (cP 3 (cN 2)) ∧ d5 = (cP 4 (cN 2)) ∧ d6 = (cQ (cN 2))) ∧ ((cF2 3) = (cF 3) ∧ (cF2 4) = (cF 4) ∧ (cG2 0) = (cG 0)) ∧ (cI2 0) = (cI 0) ∧ (cI2 1) = (cI 1)))) ∧ cP2 0 = (fun j => if j = (cN 2) then d1 else cP 0 j) ∧ cP2 1 = (fun j => if j = (cN 2) then d2 else cP 1 j) ∧ cP2 2 = (fun j => if j = (cN 2) then d3 else cP 2 j) ∧ cP2 3 = (fun j => if j = (cN 2) then d4 else cP 3 j) ∧ cP2 4 = (fun j => if j = (cN 2) then d5 else cP 4 j) ∧ cQ2 = (fun j => if j = (cN 2) then d6 else cQ j))) (he : cF2 0 = cF 0 ∧ cF2 1 = cF 1 ∧ cF2 2 = cF 2 ∧ cF2 16 = cF 16 ∧ cF2 5 = cF 5 ∧ cF2 6 = cF 6 ∧ cF2 7 = cF 7 ∧ cF2 8 = cF 8 ∧ cF2 9 = cF 9 ∧ cF2 10 = cF 10 ∧ cF2 11 = cF 11) (hm : (colP (mF2 0) ∧ keptP (mF2 1) ∧ (mN2 0) ≤ 8) ∧ ((∃ nm, nm ≤ 100 ∧ x = nI nm ∧ ¬ x < nI 1 ∧ polBM n k al be en ea (mF 4) (mF 5) (mF 6) (mF 7) nm (y, (mF 0), (mI 1), nI 0) ((mI2 3), (mF2 0), (mI2 1), r2) ∧ kpdP (mN 0) (mF 0) (mF 1) (mN2 0) (mF2 1)) ∨ (¬ (¬ x < nI 1 ∧ x ≤ nI 100) ∧ r2 = -1 ∧ ((mF2 0) = (mF 0) ∧ (mF2 1) = (mF 1) ∧ (mN2 0) = (mN 0)) ∧ (mI2 1) = (mI 1) ∧ (mI2 3) = (mI 3)))) (hf : mI2 0 = mI 0 ∧ mF2 3 = mF 3 ∧ mF2 4 = mF 4 ∧ mF2 5 = mF 5 ∧ mF2 6 = mF 6 ∧ mF2 7 = mF 7) : RelB n be en ea pr cN2 cI2 cF2 cG2 cP2 cQ2 mN2 mI2 mF2 ∧ r = r2 := by
  obtain ⟨⟨hn2, hn8⟩, hkn, hal, hbe, hen⟩ := hG
  obtain ⟨hp, hg, hk, hq, hT⟩ := hR
  obtain ⟨d1, d2, d3, d4, d5, d6, ⟨_, hc⟩, p0, p1, p2, p3, p4, p5⟩ := hc
  obtain ⟨_, hm⟩ := hm
  rcases hc with ⟨m, hm1, hx, hm0, hpc, k1, k2, k3, k4, k5, k6, k7, k8⟩ | ⟨hn, hr, ⟨s1, s2, s3, s4, s5, s6, s7, s8⟩, ⟨v1, v2, v3⟩, hpm, _⟩
  · rcases hm with ⟨m', hm1', hx', _, hpm, hkp⟩ | ⟨hn', _⟩
    · obtain rfl : m = m' := (nI_eq (by omega) (by omega)).mp (hx.symm.trans hx')
      have hb := polB_all hT.1 hT.2.2.1.1 hen hT.2.2.1.2.1 hT.2.2.1.2.2 hn8 (by omega) hbe hT.2.1 (⟨rfl, hg, hT.2.2.2.1, rfl⟩ : polR be en (mF 4) (cF 0) (cF 1) (cF 2) (y, cF 4, cF 3, cG 0, cI 0, nI 0) (y, mF 0, mI 1, nI 0)) m _ _ hpc hpm
      refine ⟨⟨hp, ?_, (by rw [hf.2.2.1]; exact hk.keep hg k1 k2 p0 p1 p2 p3 p4 p5 k3 k4 k5 k6 k7 k8 hkp), (by rw [he.2.2.2.1, hf.2.1]; exact hq), (hT.mk he.2.2.2.2.1 he.2.2.2.2.2.1 he.2.2.2.2.2.2.1 he.2.2.2.2.2.2.2.1 he.2.2.2.2.2.2.2.2.1 he.2.2.2.2.2.2.2.2.2.2 hf.2.2.1 hf.2.2.2.1 hf.2.2.2.2.1 hf.2.2.2.2.2 hb.2.2.1 (by rw [hf.1, hf.2.1]; exact hT.2.2.2.2))⟩, hb.2.2.2⟩
      rw [he.1, he.2.1, he.2.2.1, hf.2.2.1]; exact hb.2.1
    · exact absurd ⟨hm0, by rw [hx]; exact (nI_leI (by omega) (by decide)).mpr hm1⟩ hn'
  · rcases hm with ⟨m', hm1', hx', hm0', hpm', hkp⟩ | ⟨hn', hr', ⟨hfz, hgz, hkm⟩, hpo, _⟩
    · exact absurd ⟨hm0', by rw [hx']; exact (nI_leI (by omega) (by decide)).mpr hm1'⟩ hn
    · refine ⟨⟨hp, ?_, (by rw [hf.2.2.1]; exact hk.same s1 s2 p0 p1 p2 p3 p4 p5 s3 s4 s5 s6 s7 s8 hkm hgz), (by rw [he.2.2.2.1, hf.2.1]; exact hq), (hT.mk he.2.2.2.2.1 he.2.2.2.2.2.1 he.2.2.2.2.2.2.1 he.2.2.2.2.2.2.2.1 he.2.2.2.2.2.2.2.2.1 he.2.2.2.2.2.2.2.2.2.2 hf.2.2.1 hf.2.2.2.1 hf.2.2.2.2.1 hf.2.2.2.2.2 (by rw [hpm, hpo]; exact hT.2.2.2.1) (by rw [hf.1, hf.2.1]; exact hT.2.2.2.2))⟩, hr.trans hr'.symm⟩
      rw [he.1, he.2.1, he.2.2.1, v1, v2, v3, hfz, hf.2.2.1]; exact hg

theorem br_yes (hG : GP n k al be en) (hR : RelB n be en ea pr cN cI cF cG cP cQ mN mI mF) (hc : (∃ a e c, a < n ∧ e < en ∧ c ≤ 8 ∧ x = nI a ∧ y = nI e ∧ ccpP n k (cF 1) (cF 4) x z a e ∧ r = nI c ∧ yesN n (cF 2) (cF 1) (cF 8) (cF 5) (cG 0) a e z c) ∨ (¬ (ccpA n k en (cF 1) (cF 4) x y z ∧ smpP n k x z) ∧ r = -1)) (he : cN2 1 = cN 1 ∧ cN2 2 = cN 2 ∧ cI2 0 = cI 0 ∧ cF2 0 = cF 0 ∧ cF2 1 = cF 1 ∧ cF2 2 = cF 2 ∧ cF2 3 = cF 3 ∧ cF2 4 = cF 4 ∧ cG2 0 = cG 0 ∧ cF2 16 = cF 16 ∧ cF2 5 = cF 5 ∧ cF2 6 = cF 6 ∧ cF2 7 = cF 7 ∧ cF2 8 = cF 8 ∧ cF2 9 = cF 9 ∧ cF2 10 = cF 10 ∧ cF2 11 = cF 11 ∧ cP2 = cP ∧ cQ2 = cQ) (hm : (∃ a e c, a < n ∧ e < en ∧ c ≤ 8 ∧ x = nI a ∧ y = nI e ∧ mcpP n k (mF 0) z a e ∧ r2 = nI c ∧ yesM en (mF 4) (mF 7) (mF 0) a e z n c) ∨ (¬ mcpA n k en (mF 0) x y z ∧ r2 = -1)) (hf : mN2 0 = mN 0 ∧ mI2 0 = mI 0 ∧ mI2 1 = mI 1 ∧ mF2 0 = mF 0 ∧ mF2 1 = mF 1 ∧ mF2 3 = mF 3 ∧ mF2 4 = mF 4 ∧ mF2 5 = mF 5 ∧ mF2 6 = mF 6 ∧ mF2 7 = mF 7) : RelB n be en ea pr cN2 cI2 cF2 cG2 cP2 cQ2 mN2 mI2 mF2 ∧ r = r2 := by
  obtain ⟨⟨hn2, hn8⟩, hkn, hal, hbe, hen⟩ := hG
  obtain ⟨hp, hg, hk, hq, hT⟩ := hR
  refine ⟨RelB.same (pr := pr) (n := n) ⟨hp, hg, hk, hq, hT⟩ he.1 he.2.1 he.2.2.1 he.2.2.2.1 he.2.2.2.2.1 he.2.2.2.2.2.1 he.2.2.2.2.2.2.1 he.2.2.2.2.2.2.2.1 he.2.2.2.2.2.2.2.2.1 he.2.2.2.2.2.2.2.2.2.1 he.2.2.2.2.2.2.2.2.2.2.1 he.2.2.2.2.2.2.2.2.2.2.2.1 he.2.2.2.2.2.2.2.2.2.2.2.2.1 he.2.2.2.2.2.2.2.2.2.2.2.2.2.1 he.2.2.2.2.2.2.2.2.2.2.2.2.2.2.1 he.2.2.2.2.2.2.2.2.2.2.2.2.2.2.2.2.1 he.2.2.2.2.2.2.2.2.2.2.2.2.2.2.2.2.2.1 he.2.2.2.2.2.2.2.2.2.2.2.2.2.2.2.2.2.2 hf.1 hf.2.1 hf.2.2.1 (fun j _ => congrFun hf.2.2.2.1 j) hf.2.2.2.2.1 hf.2.2.2.2.2.1 hf.2.2.2.2.2.2.1 hf.2.2.2.2.2.2.2.1 hf.2.2.2.2.2.2.2.2.1 hf.2.2.2.2.2.2.2.2.2, ?_⟩
  rcases hc with ⟨a, e, c, ha, hae, _, hx, hy, hcp, hr, sx, hsx, hyc⟩ | ⟨hn, hr⟩
  · have hi : mcpP n k (mF 0) z a e := (ccp_iff hg.a hn8 ha).mp (hx ▸ hcp)
    rcases hm with ⟨a', e', c', ha', hae', _, hx', hy', hmp, hr', hyc'⟩ | ⟨hn', _⟩
    · obtain rfl : a = a' := (nI_eq (by omega) (by omega)).mp (hx.symm.trans hx')
      obtain rfl : e = e' := (nI_eq (by omega) (by omega)).mp (hy.symm.trans hy')
      obtain ⟨⟨s, hs⟩, hv⟩ := hg
      have hb := yes_eq hT.1 hv hT.2.2.1.1 hen hae (show a < 8 by omega) (fun o ho => (hs o ho).2.2.2.1) (fun o ho => (hs a (by omega)).2.2.2.2 o ho) hsx n hn8 c c' hyc hyc'
      rw [hr, hr', hb]
    · refine absurd ⟨hx ▸ okN_nI ha (by omega), hy ▸ okN_nI hae (by omega), fun a' e' ha' hae' hx' hy' => ?_⟩ hn'
      obtain rfl : a = a' := (nI_eq (by omega) (by omega)).mp (hx.symm.trans hx')
      obtain rfl : e = e' := (nI_eq (by omega) (by omega)).mp (hy.symm.trans hy')
      exact hi
  · rcases hm with ⟨a', e', c', ha', hae', _, hx', hy', hmp, _⟩ | ⟨hn', hr'⟩
    · have hi : ccpP n k (cF 1) (cF 4) x z a' e' := by rw [hx']; exact (ccp_iff hg.a hn8 ha').mpr hmp
      refine absurd ⟨⟨hx' ▸ okN_nI ha' (by omega), hy' ▸ okN_nI hae' (by omega), fun a e ha hae hx hy => ?_⟩, hi.1⟩ hn
      obtain rfl : a = a' := (nI_eq (by omega) (by omega)).mp (hx.symm.trans hx')
      obtain rfl : e = e' := (nI_eq (by omega) (by omega)).mp (hy.symm.trans hy')
      exact hi
    · rw [hr, hr']

theorem br_alike (hG : GP n k al be en) (hR : RelB n be en ea pr cN cI cF cG cP cQ mN mI mF) (hc : (∃ a b c, a < n ∧ b < n ∧ c ≤ 16 ∧ x = nI a ∧ y = nI b ∧ (cF 1) a = nI 0 ∧ (cF 1) b = nI 0 ∧ r = nI c ∧ alkC (cF 5) (cG 0) a b en c) ∨ (¬ ((∃ a, a < n ∧ x = nI a ∧ (cF 1) a = nI 0) ∧ (∃ a, a < n ∧ y = nI a ∧ (cF 1) a = nI 0)) ∧ r = -1)) (he : cN2 1 = cN 1 ∧ cN2 2 = cN 2 ∧ cI2 0 = cI 0 ∧ cF2 0 = cF 0 ∧ cF2 1 = cF 1 ∧ cF2 2 = cF 2 ∧ cF2 3 = cF 3 ∧ cF2 4 = cF 4 ∧ cG2 0 = cG 0 ∧ cF2 16 = cF 16 ∧ cF2 5 = cF 5 ∧ cF2 6 = cF 6 ∧ cF2 7 = cF 7 ∧ cF2 8 = cF 8 ∧ cF2 9 = cF 9 ∧ cF2 10 = cF 10 ∧ cF2 11 = cF 11 ∧ cP2 = cP ∧ cQ2 = cQ) (hm : (∃ a b c, a < n ∧ b < n ∧ c ≤ 16 ∧ x = nI a ∧ y = nI b ∧ (mF 0) (48 + a) = 0 ∧ (mF 0) (48 + b) = 0 ∧ r2 = nI c ∧ alkM (mF 0) a b en c) ∨ (¬ ((∃ a, a < n ∧ x = nI a ∧ (mF 0) (48 + a) = 0) ∧ (∃ a, a < n ∧ y = nI a ∧ (mF 0) (48 + a) = 0)) ∧ r2 = -1)) (hf : mN2 0 = mN 0 ∧ mI2 0 = mI 0 ∧ mI2 1 = mI 1 ∧ mF2 0 = mF 0 ∧ mF2 1 = mF 1 ∧ mF2 3 = mF 3 ∧ mF2 4 = mF 4 ∧ mF2 5 = mF 5 ∧ mF2 6 = mF 6 ∧ mF2 7 = mF 7) : RelB n be en ea pr cN2 cI2 cF2 cG2 cP2 cQ2 mN2 mI2 mF2 ∧ r = r2 := by
  obtain ⟨⟨hn2, hn8⟩, hkn, hal, hbe, hen⟩ := hG
  obtain ⟨hp, hg, hk, hq, hT⟩ := hR
  refine ⟨RelB.same (pr := pr) (n := n) ⟨hp, hg, hk, hq, hT⟩ he.1 he.2.1 he.2.2.1 he.2.2.2.1 he.2.2.2.2.1 he.2.2.2.2.2.1 he.2.2.2.2.2.2.1 he.2.2.2.2.2.2.2.1 he.2.2.2.2.2.2.2.2.1 he.2.2.2.2.2.2.2.2.2.1 he.2.2.2.2.2.2.2.2.2.2.1 he.2.2.2.2.2.2.2.2.2.2.2.1 he.2.2.2.2.2.2.2.2.2.2.2.2.1 he.2.2.2.2.2.2.2.2.2.2.2.2.2.1 he.2.2.2.2.2.2.2.2.2.2.2.2.2.2.1 he.2.2.2.2.2.2.2.2.2.2.2.2.2.2.2.2.1 he.2.2.2.2.2.2.2.2.2.2.2.2.2.2.2.2.2.1 he.2.2.2.2.2.2.2.2.2.2.2.2.2.2.2.2.2.2 hf.1 hf.2.1 hf.2.2.1 (fun j _ => congrFun hf.2.2.2.1 j) hf.2.2.2.2.1 hf.2.2.2.2.2.1 hf.2.2.2.2.2.2.1 hf.2.2.2.2.2.2.2.1 hf.2.2.2.2.2.2.2.2.1 hf.2.2.2.2.2.2.2.2.2, ?_⟩
  obtain ⟨⟨s, hs⟩, hv⟩ := hg
  have hkk : ∀ o, o < 8 → (cF 1 o = nI 0 ↔ mF 0 (48 + o) = 0) := fun o ho => by rw [(hs o ho).2.2.2.1]; exact Iff.rfl
  rcases hc with ⟨a, b, c, ha, hb, _, hx, hy, hka, hkb, hr, hcc⟩ | ⟨hn, hr⟩
  · rcases hm with ⟨a', b', c', ha', hb', _, hx', hy', hka', hkb', hr', hcc'⟩ | ⟨hn', _⟩
    · obtain rfl : a = a' := (nI_eq (by omega) (by omega)).mp (hx.symm.trans hx')
      obtain rfl : b = b' := (nI_eq (by omega) (by omega)).mp (hy.symm.trans hy')
      rw [hr, hr', alk_eq hT.1 hv hT.2.2.1.1 hen (by omega) (by omega) en (Nat.le_refl _) c c' hcc hcc']
    · exact absurd ⟨⟨a, ha, hx, (hkk a (by omega)).mp hka⟩, ⟨b, hb, hy, (hkk b (by omega)).mp hkb⟩⟩ hn'
  · rcases hm with ⟨a', b', c', ha', hb', _, hx', hy', hka', hkb', hr', hcc'⟩ | ⟨hn', hr'⟩
    · exact absurd ⟨⟨a', ha', hx', (hkk a' (by omega)).mpr hka'⟩, ⟨b', hb', hy', (hkk b' (by omega)).mpr hkb'⟩⟩ hn
    · rw [hr, hr']

theorem br_entry {enz : Nat} (hR : RelB n be en ea pr cN cI cF cG cP cQ mN mI mF) (hc : (PQ (entP en x y z) r (nI en) (-1) ∧ (entP en x y z → enz = en + 1) ∧ (¬ entP en x y z → enz = en)) ∧ enz ≤ 16 ∧ ((entP en x y z ∧ enz = en + 1 ∧ (cN2 1) = 0 ∧ ∃ t, t < 8 ∧ x = nI t ∧ addC en t y z (cF 5) (cF 6) (cF 7) (cF 8) (cF 9) (cF 11) (cF2 5) (cF2 6) (cF2 7) (cF2 8) (cF2 9) (cF2 11) ∧ (((cF 11) t = 0 ∧ ∀ j, j < 8 → (cG2 0) j = upd ((cG 0) j) (t * 4 + 0) (nI en)) ∨ (¬ (cF 11) t = 0 ∧ ∀ j, j < 8 → (cG2 0) j = (cG 0) j))) ∨ (¬ entP en x y z ∧ enz = en ∧ (cN2 1) = (cN 1) ∧ (cF2 5) = (cF 5) ∧ (cF2 6) = (cF 6) ∧ (cF2 7) = (cF 7) ∧ (cF2 8) = (cF 8) ∧ (cF2 9) = (cF 9) ∧ (cF2 11) = (cF 11) ∧ (cG2 0) = (cG 0)))) (he : cN2 2 = cN 2 ∧ cI2 0 = cI 0 ∧ cF2 0 = cF 0 ∧ cF2 1 = cF 1 ∧ cF2 2 = cF 2 ∧ cF2 3 = cF 3 ∧ cF2 4 = cF 4 ∧ cF2 16 = cF 16 ∧ cP2 = cP ∧ cQ2 = cQ) (hm : (PQ (entP en x y z) r2 (nI en) (-1) ∧ (entP en x y z → enz = en + 1) ∧ (¬ entP en x y z → enz = en)) ∧ enz ≤ 16 ∧ (inP 16 8 (mF2 4) ∧ parF enz (mF2 5) ∧ parF enz (mF2 6)) ∧ ((entP en x y z ∧ enz = en + 1 ∧ (mN2 0) = 0 ∧ ∃ t, t < 8 ∧ x = nI t ∧ (mF2 4) = upd (mF 4) en (nI t) ∧ (mF2 5) = upd (mF 5) en y ∧ (mF2 6) = upd (mF 6) en z ∧ (mF2 7) en = linF (mF 7) y ||| linF (mF 7) z ∧ (∀ j, ¬ j = en → (mF2 7) j = (mF 7) j) ∧ entV en (upd (mF 4) en (nI t)) t 8 (mF 0) (mF2 0)) ∨ (¬ entP en x y z ∧ enz = en ∧ (mN2 0) = (mN 0) ∧ (mF2 4) = (mF 4) ∧ (mF2 5) = (mF 5) ∧ (mF2 6) = (mF 6) ∧ (mF2 7) = (mF 7) ∧ (mF2 0) = (mF 0)))) (hf : mI2 0 = mI 0 ∧ mI2 1 = mI 1 ∧ mF2 1 = mF 1 ∧ mF2 3 = mF 3) : RelB n be enz ea pr cN2 cI2 cF2 cG2 cP2 cQ2 mN2 mI2 mF2 := by
  obtain ⟨hp, hg, hk, hq, hT⟩ := hR
  rcases hc.2.2 with ⟨c1, c2, c3, t, ht, hx, hadd, hse⟩ | ⟨c1, c2, c3, z1, z2, z3, z4, z5, z6, z7⟩
  · rcases hm.2.2.2 with ⟨d1, d2, d3, t', ht', hx', hso', hon', hot', han, hanj, hev⟩ | ⟨d1, _⟩
    · obtain rfl : t = t' := (nI_eq (by omega) (by omega)).mp (hx.symm.trans hx')
      have hen : en < 16 := c1.2.2.2.2
      subst c2
      have hgn := gph_next hT.1 hen ht (c1.2.1.imp id (fun q => by obtain ⟨j, hj, e⟩ := okN_of q (by omega); exact ⟨j, hj, e⟩)) (c1.2.2.1.imp id (fun q => by obtain ⟨j, hj, e⟩ := okN_of q (by omega); exact ⟨j, hj, e⟩)) hadd hso' hon' hot' han hanj
      rw [← hso'] at hev
      refine ⟨hp, ⟨?_, fun v hv => ?_⟩, ?_, (by rw [he.2.2.2.2.2.2.2.1, hf.2.2.2]; exact hq), ⟨hgn, hT.2.1, hm.2.2.1, (by rw [he.2.1, hf.2.1]; exact hT.2.2.2.1), (by rw [hf.1, hf.2.2.2]; exact hT.2.2.2.2)⟩⟩
      · rw [he.2.2.1, he.2.2.2.1, he.2.2.2.2.1]
        exact (hg.a.low (fun j hj => hev.2 j (fun v hv => ⟨by omega, by omega⟩))).1
      · rw [he.2.2.2.2.2.1, he.2.2.2.2.2.2.1]
        refine vew_next hT.1 hen ht hv (hg.2 v hv) hso' hev ?_
        exact hse.imp (fun q => ⟨q.1, q.2 v hv⟩) (fun q => ⟨q.1, q.2 v hv⟩)
      · rw [c3, d3, he.1]; exact keptB.zero _ _ _ _ _ _ _ hk.1.2.2
    · exact absurd c1 d1
  · rcases hm.2.2.2 with ⟨d1, _⟩ | ⟨d1, d2, d3, y1, y2, y3, y4, y5⟩
    · exact absurd d1 c1
    · rw [c2]
      exact RelB.same (pr := pr) (n := n) ⟨hp, hg, hk, hq, hT⟩ c3 he.1 he.2.1 he.2.2.1 he.2.2.2.1 he.2.2.2.2.1 he.2.2.2.2.2.1 he.2.2.2.2.2.2.1 z7 he.2.2.2.2.2.2.2.1 z1 z2 z3 z4 z5 z6 he.2.2.2.2.2.2.2.2.1 he.2.2.2.2.2.2.2.2.2 d3 hf.1 hf.2.1 (fun j _ => congrFun y5 j) hf.2.2.1 hf.2.2.2 y1 y2 y3 y4
end RELS
