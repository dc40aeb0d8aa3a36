def RelA (be : Nat) (pr : Int32) (cN : Nat → Nat) (cF : Nat → Nat → Int32) (cP : Nat → Nat → Nat → Int32) (mN : Nat → Nat) (mF : Nat → Nat → Int32) : Prop := (pr = 0 ∨ pr = nI 1 ∨ pr = nI 2) ∧ grpA be (cF 0) (cF 1) (cF 2) (cF 4) (mF 0) ∧ keptA be (cN 1) (cN 2) (cP 0) (cP 1) (cP 2) (cP 4) (mN 0) (mF 1) ∧ ∀ j, j < 8 → cF 16 j = mF 3 j
section RELS
variable {n k al be en : Nat} {ea pr r r2 : Int32} {x y z w9 : Int32} {cN : Nat → Nat} {cI : Nat → Int32} {cF : Nat → Nat → Int32} {cG : Nat → Nat → Nat → Int32} {cP : Nat → Nat → Nat → Int32} {cQ : Nat → Nat → Nat → Int32} {cN2 : Nat → Nat} {cI2 : Nat → Int32} {cF2 : Nat → Nat → Int32} {cG2 : Nat → Nat → Nat → Int32} {cP2 : Nat → Nat → Nat → Int32} {cQ2 : Nat → Nat → Nat → Int32} {mN : Nat → Nat} {mI : Nat → Int32} {mF : Nat → Nat → Int32} {mN2 : Nat → Nat} {mI2 : Nat → Int32} {mF2 : Nat → Nat → Int32}
theorem RelA.row (h : RelA be pr cN cF cP mN mF) : ∃ uu : Nat → Nat → Nat, ∀ j, j < 8 → rowU (mF 0) j (uu j) ∧ okU be (uu j) := by
  obtain ⟨_, ⟨⟨s, hs⟩, _⟩, _⟩ := h
  exact ⟨s, fun j hj => ⟨(hs j hj).2.1, (hs j hj).2.2.1⟩⟩
theorem RelA.row1 (h : RelA be pr cN cF cP mN mF) : ∀ j, j < 8 → ∃ v, rowU (mF 0) j v ∧ okU be v := by
  obtain ⟨s, hs⟩ := h.row
  exact fun j hj => ⟨s j, hs j hj⟩
theorem RelA.same (h : RelA be pr cN cF cP mN mF) (e1 : cN2 1 = cN 1) (e2 : cN2 2 = cN 2) (a0 : cF2 0 = cF 0) (a1 : cF2 1 = cF 1) (a2 : cF2 2 = cF 2) (a4 : cF2 4 = cF 4) (aq : cF2 16 = cF 16) (p : cP2 = cP) (b0 : mN2 0 = mN 0) (b1 : ∀ j, j < 288 → mF2 0 j = mF 0 j) (b2 : mF2 1 = mF 1) (b3 : mF2 3 = mF 3) : RelA be pr cN2 cF2 cP2 mN2 mF2 := by
  obtain ⟨h1, h2, h3, h4⟩ := h
  unfold RelA
  rw [e1, e2, a0, a1, a2, a4, aq, p, b0, b2, b3]
  exact ⟨h1, h2.low (fun j hj => b1 j (by omega)), h3, h4⟩
theorem RelA.prz (h : RelA be pr cN cF cP mN mF) {p2 : Int32} (hp : (¬ x < 0 ∧ x ≤ nI 2 → p2 = x) ∧ (¬ (¬ x < 0 ∧ x ≤ nI 2) → p2 = pr)) : RelA be p2 cN cF cP mN mF := by
  refine ⟨?_, h.2⟩
  by_cases q : ¬ x < 0 ∧ x ≤ nI 2
  · obtain ⟨j, hj, e⟩ := nI_of2 (n := 2) (M := nI 2) (by decide) q.1 q.2
    rw [hp.1 q, e]
    rcases (show j = 0 ∨ j = 1 ∨ j = 2 by omega) with rfl | rfl | rfl
    · exact Or.inl rfl
    · exact Or.inr (Or.inl rfl)
    · exact Or.inr (Or.inr rfl)
  · rw [hp.2 q]; exact h.1
theorem RelA.fresh {be2 : Nat} (h : RelA be pr cN cF cP mN mF) (hb : 1 ≤ be2) (hc : cN2 1 = 0 ∧ cF2 0 = (fun _ => nI 0) ∧ cF2 1 = (fun _ => nI 0) ∧ cF2 2 = (fun _ => -1) ∧ cF2 3 = (fun _ => nI 0) ∧ cF2 4 = (fun _ => nI 0) ∧ cG2 0 = (fun _ => vF) ∧ cF2 16 = (fun _ => nI 0) ∧ cI2 0 = nI 0 ∧ cN2 2 = cN 2 ∧ cP2 = cP ∧ cQ2 = cQ) (hm : mN2 0 = 0 ∧ mF2 0 = freshS ∧ mF2 3 = (fun _ => nI 0) ∧ mF2 1 = mF 1) : RelA be2 pr cN2 cF2 cP2 mN2 mF2 := by
  obtain ⟨h1, h2, h3, h4⟩ := h
  obtain ⟨c1, c2, c3, c4, c5, c6, c7, c8, c9, c10, c11, c12⟩ := hc
  obtain ⟨m1, m2, m3, m4⟩ := hm
  refine ⟨h1, ?_, ?_, ?_⟩
  · rw [c2, c3, c4, c6, m2]; exact grpA.fresh hb
  · rw [c1, m1, c10]; exact keptA.zero _ _ _ _ _ h3.1.2.2
  · rw [c8, m3]; exact fun _ _ => rfl

theorem br_kind (hG : GP n k al be en) (hR : RelA be pr cN cF cP mN mF) (hc : ∃ (d1 d2 d3 d4 d5 : Nat → Int32) (d6 : Nat → Nat → Int32), ((((cN2 1) ≤ 8 ∧ (cN2 2) < 8 ∧ ∀ j, j < 8 → prP (d6 j)) ∧ ((∃ a, a < n ∧ x = nI a ∧ (¬ y < 0 ∧ y ≤ nI 4) ∧ r = (cF 1) a ∧ (cF2 1) = upd (cF 1) a y ∧ ((cN2 1) = mnK (cN 1) ∧ (cN2 2) = ((cN 2) + 1) % 8 ∧ d1 = (cF 0) ∧ d2 = (cF 1) ∧ d3 = (cF 2) ∧ (∀ j, j < 8 → d4 j = (cF 3) j) ∧ (∀ j, j < 8 → d5 j = (cF 4) j) ∧ ∀ j, j < 8 → d6 j = (cG 0) j)) ∨ (¬ (okN n x ∧ ¬ y < 0 ∧ y ≤ nI 4) ∧ r = -1 ∧ ((cN2 1) = (cN 1) ∧ (cN2 2) = (cN 2) ∧ d1 = (cP 0 (cN 2)) ∧ d2 = (cP 1 (cN 2)) ∧ d3 = (cP 2 (cN 2)) ∧ d4 = (cP 3 (cN 2)) ∧ d5 = (cP 4 (cN 2)) ∧ d6 = (cQ (cN 2))) ∧ (cF2 1) = (cF 1)))) ∧ cP2 0 = (fun j => if j = (cN 2) then d1 else cP 0 j) ∧ cP2 1 = (fun j => if j = (cN 2) then d2 else cP 1 j) ∧ cP2 2 = (fun j => if j = (cN 2) then d3 else cP 2 j) ∧ cP2 3 = (fun j => if j = (cN 2) then d4 else cP 3 j) ∧ cP2 4 = (fun j => if j = (cN 2) then d5 else cP 4 j) ∧ cQ2 = (fun j => if j = (cN 2) then d6 else cQ j))) (he : cI2 0 = cI 0 ∧ cF2 0 = cF 0 ∧ cF2 2 = cF 2 ∧ cF2 3 = cF 3 ∧ cF2 4 = cF 4 ∧ cG2 0 = cG 0 ∧ cF2 16 = cF 16 ∧ cF2 5 = cF 5 ∧ cF2 6 = cF 6 ∧ cF2 7 = cF 7 ∧ cF2 8 = cF 8 ∧ cF2 9 = cF 9 ∧ cF2 10 = cF 10 ∧ cF2 11 = cF 11) (hm : (colP (mF2 0) ∧ keptP (mF2 1) ∧ (mN2 0) ≤ 8) ∧ ((∃ a, a < n ∧ x = nI a ∧ (¬ y < nI 0 ∧ y ≤ nI 4) ∧ r2 = (mF 0) (48 + a) ∧ (mF2 0) = upd (mF 0) (48 + a) y ∧ kpdP (mN 0) (mF 0) (mF 1) (mN2 0) (mF2 1)) ∨ (¬ (okN n x ∧ ¬ y < nI 0 ∧ y ≤ nI 4) ∧ r2 = -1 ∧ (mF2 0) = (mF 0) ∧ (mF2 1) = (mF 1) ∧ (mN2 0) = (mN 0)))) (hf : mI2 0 = mI 0 ∧ mI2 1 = mI 1 ∧ mF2 3 = mF 3 ∧ mF2 4 = mF 4 ∧ mF2 5 = mF 5 ∧ mF2 6 = mF 6 ∧ mF2 7 = mF 7) : RelA be pr cN2 cF2 cP2 mN2 mF2 ∧ r = r2 := by
  obtain ⟨⟨hn2, hn8⟩, hkn, hal, hbe, hen⟩ := hG
  obtain ⟨hp, hg, hk, hq⟩ := hR
  obtain ⟨d1, d2, d3, d4, d5, d6, ⟨_, hc⟩, p0, p1, p2, p3, p4, p5⟩ := hc
  obtain ⟨_, hm⟩ := hm
  rcases hc with ⟨a, ha, hx, hy, hr, hz, k1, k2, k3, k4, k5, k6, k7, k8⟩ | ⟨hn, hr, ⟨s1, s2, s3, s4, s5, s6, s7, s8⟩, hz⟩
  · rcases hm with ⟨a', ha', hx', hy', hr', hfz, hkp⟩ | ⟨hn', _⟩
    · obtain rfl : a = a' := (nI_eq (by omega) (by omega)).mp (hx.symm.trans hx')
      refine ⟨⟨hp, ?_, hk.keep hg k1 k2 p0 p1 p2 p4 k3 k4 k5 k7 hkp, ?_⟩, ?_⟩
      · rw [he.2.1, hz, he.2.2.1, he.2.2.2.2.1, hfz]; exact hg.kind (by omega) y
      · rw [he.2.2.2.2.2.2.1, hf.2.2.1]; exact hq
      · obtain ⟨⟨s, hs⟩, _⟩ := hg
        rw [hr, hr']; exact (hs a (by omega)).2.2.2.1
    · exact absurd ⟨hx ▸ okN_nI ha (by omega), hy⟩ hn'
  · rcases hm with ⟨a', ha', hx', hy', _⟩ | ⟨hn', hr', hfz, hgz, hkm⟩
    · exact absurd ⟨hx' ▸ okN_nI ha' (by omega), hy'⟩ hn
    · refine ⟨⟨hp, ?_, hk.same s1 s2 p0 p1 p2 p4 s3 s4 s5 s7 hkm hgz, ?_⟩, hr.trans hr'.symm⟩
      · rw [he.2.1, hz, he.2.2.1, he.2.2.2.2.1, hfz]; exact hg
      · rw [he.2.2.2.2.2.2.1, hf.2.2.1]; exact hq

theorem br_colour (hG : GP n k al be en) (hR : RelA be pr cN cF cP mN mF) (hc : ∃ (d1 d2 d3 d4 d5 : Nat → Int32) (d6 : Nat → Nat → Int32), ((((cN2 1) ≤ 8 ∧ (cN2 2) < 8 ∧ ∀ j, j < 8 → prP (d6 j)) ∧ ((∃ a, a < n ∧ x = nI a ∧ (¬ y < -1 ∧ y ≤ nI 1) ∧ r = nI 1 ∧ (cF2 0) = upd (cF 0) a (wtC (nI 0) y) ∧ ((cN2 1) = mnK (cN 1) ∧ (cN2 2) = ((cN 2) + 1) % 8 ∧ d1 = (cF 0) ∧ d2 = (cF 1) ∧ d3 = (cF 2) ∧ (∀ j, j < 8 → d4 j = (cF 3) j) ∧ (∀ j, j < 8 → d5 j = (cF 4) j) ∧ ∀ j, j < 8 → d6 j = (cG 0) j)) ∨ (¬ (okN n x ∧ ¬ y < -1 ∧ y ≤ nI 1) ∧ r = nI 0 ∧ ((cN2 1) = (cN 1) ∧ (cN2 2) = (cN 2) ∧ d1 = (cP 0 (cN 2)) ∧ d2 = (cP 1 (cN 2)) ∧ d3 = (cP 2 (cN 2)) ∧ d4 = (cP 3 (cN 2)) ∧ d5 = (cP 4 (cN 2)) ∧ d6 = (cQ (cN 2))) ∧ (cF2 0) = (cF 0)))) ∧ cP2 0 = (fun j => if j = (cN 2) then d1 else cP 0 j) ∧ cP2 1 = (fun j => if j = (cN 2) then d2 else cP 1 j) ∧ cP2 2 = (fun j => if j = (cN 2) then d3 else cP 2 j) ∧ cP2 3 = (fun j => if j = (cN 2) then d4 else cP 3 j) ∧ cP2 4 = (fun j => if j = (cN 2) then d5 else cP 4 j) ∧ cQ2 = (fun j => if j = (cN 2) then d6 else cQ j))) (he : cI2 0 = cI 0 ∧ cF2 1 = cF 1 ∧ cF2 2 = cF 2 ∧ cF2 3 = cF 3 ∧ cF2 4 = cF 4 ∧ cG2 0 = cG 0 ∧ cF2 16 = cF 16 ∧ cF2 5 = cF 5 ∧ cF2 6 = cF 6 ∧ cF2 7 = cF 7 ∧ cF2 8 = cF 8 ∧ cF2 9 = cF 9 ∧ cF2 10 = cF 10 ∧ cF2 11 = cF 11) (hm : (colP (mF2 0) ∧ keptP (mF2 1) ∧ (mN2 0) ≤ 8) ∧ ((∃ a, a < n ∧ x = nI a ∧ (¬ y < -1 ∧ y ≤ nI 1) ∧ r2 = nI 1 ∧ (mF2 0) = upd (upd (upd (upd (upd (upd (mF 0) (0 + a) y) (8 + a) (-1)) (16 + a) (nI 0)) (24 + a) (nI 0)) (32 + a) (nI 0)) (40 + a) (nI 0) ∧ kpdP (mN 0) (mF 0) (mF 1) (mN2 0) (mF2 1)) ∨ (¬ (okN n x ∧ ¬ y < -1 ∧ y ≤ nI 1) ∧ r2 = nI 0 ∧ (mF2 0) = (mF 0) ∧ (mF2 1) = (mF 1) ∧ (mN2 0) = (mN 0)))) (hf : mI2 0 = mI 0 ∧ mI2 1 = mI 1 ∧ mF2 3 = mF 3 ∧ mF2 4 = mF 4 ∧ mF2 5 = mF 5 ∧ mF2 6 = mF 6 ∧ mF2 7 = mF 7) : RelA be pr cN2 cF2 cP2 mN2 mF2 ∧ r = r2 := by
  obtain ⟨⟨hn2, hn8⟩, hkn, hal, hbe, hen⟩ := hG
  obtain ⟨hp, hg, hk, hq⟩ := hR
  obtain ⟨d1, d2, d3, d4, d5, d6, ⟨_, hc⟩, p0, p1, p2, p3, p4, p5⟩ := hc
  obtain ⟨_, hm⟩ := hm
  rcases hc with ⟨a, ha, hx, hy, hr, hz, k1, k2, k3, k4, k5, k6, k7, k8⟩ | ⟨hn, hr, ⟨s1, s2, s3, s4, s5, s6, s7, s8⟩, hz⟩
  · rcases hm with ⟨a', ha', hx', hy', hr', hfz, hkp⟩ | ⟨hn', _⟩
    · obtain rfl : a = a' := (nI_eq (by omega) (by omega)).mp (hx.symm.trans hx')
      refine ⟨⟨hp, ?_, hk.keep hg k1 k2 p0 p1 p2 p4 k3 k4 k5 k7 hkp, ?_⟩, hr.trans hr'.symm⟩
      · rw [hz, he.2.1, he.2.2.1, he.2.2.2.2.1, hfz]; exact hg.colour hbe.1 (by omega) (col_of hy)
      · rw [he.2.2.2.2.2.2.1, hf.2.2.1]; exact hq
    · exact absurd ⟨hx ▸ okN_nI ha (by omega), hy⟩ hn'
  · rcases hm with ⟨a', ha', hx', hy', _⟩ | ⟨hn', hr', hfz, hgz, hkm⟩
    · exact absurd ⟨hx' ▸ okN_nI ha' (by omega), hy'⟩ hn
    · refine ⟨⟨hp, ?_, hk.same s1 s2 p0 p1 p2 p4 s3 s4 s5 s7 hkm hgz, ?_⟩, hr.trans hr'.symm⟩
      · rw [hz, he.2.1, he.2.2.1, he.2.2.2.2.1, hfz]; exact hg
      · rw [he.2.2.2.2.2.2.1, hf.2.2.1]; exact hq

theorem grpA.lnk {nf kf lf pof f : Nat → Int32} {a b : Nat} (h : grpA be nf kf lf pof f) (ha : a < 8) (hb : b < 8) : hasB (lf a) b ↔ hasB (f (56 + a)) b := by
  obtain ⟨⟨s, hs⟩, _⟩ := h
  exact (hs a ha).2.2.2.2 b hb

theorem br_link (hG : GP n k al be en) (hR : RelA be pr cN cF cP mN mF) (hc : ∃ (d1 d2 d3 d4 d5 : Nat → Int32) (d6 : Nat → Nat → Int32), ((((cN2 1) ≤ 8 ∧ (cN2 2) < 8 ∧ ∀ j, j < 8 → prP (d6 j)) ∧ ((∃ (a b : Nat) (h : Int32), a < n ∧ b < n ∧ x = nI a ∧ y = nI b ∧ ¬ nI a = nI b ∧ PQ (hasB ((cF 2) a) b) h (nI 1) (nI 0) ∧ ¬ h = z ∧ r = nI 1 ∧ (cF2 2) = linkC (cF 2) a b ∧ ((cN2 1) = mnK (cN 1) ∧ (cN2 2) = ((cN 2) + 1) % 8 ∧ d1 = (cF 0) ∧ d2 = (cF 1) ∧ d3 = (cF 2) ∧ (∀ j, j < 8 → d4 j = (cF 3) j) ∧ (∀ j, j < 8 → d5 j = (cF 4) j) ∧ ∀ j, j < 8 → d6 j = (cG 0) j)) ∨ (¬ (okN n x ∧ okN n y ∧ ¬ x = y ∧ ∀ a b, x = nI a → y = nI b → a < n → b < n → ∃ h, PQ (hasB ((cF 2) a) b) h (nI 1) (nI 0) ∧ ¬ h = z) ∧ r = nI 0 ∧ ((cN2 1) = (cN 1) ∧ (cN2 2) = (cN 2) ∧ d1 = (cP 0 (cN 2)) ∧ d2 = (cP 1 (cN 2)) ∧ d3 = (cP 2 (cN 2)) ∧ d4 = (cP 3 (cN 2)) ∧ d5 = (cP 4 (cN 2)) ∧ d6 = (cQ (cN 2))) ∧ (cF2 2) = (cF 2)))) ∧ cP2 0 = (fun j => if j = (cN 2) then d1 else cP 0 j) ∧ cP2 1 = (fun j => if j = (cN 2) then d2 else cP 1 j) ∧ cP2 2 = (fun j => if j = (cN 2) then d3 else cP 2 j) ∧ cP2 3 = (fun j => if j = (cN 2) then d4 else cP 3 j) ∧ cP2 4 = (fun j => if j = (cN 2) then d5 else cP 4 j) ∧ cQ2 = (fun j => if j = (cN 2) then d6 else cQ j))) (he : cI2 0 = cI 0 ∧ cF2 0 = cF 0 ∧ cF2 1 = cF 1 ∧ cF2 3 = cF 3 ∧ cF2 4 = cF 4 ∧ cG2 0 = cG 0 ∧ cF2 16 = cF 16 ∧ cF2 5 = cF 5 ∧ cF2 6 = cF 6 ∧ cF2 7 = cF 7 ∧ cF2 8 = cF 8 ∧ cF2 9 = cF 9 ∧ cF2 10 = cF 10 ∧ cF2 11 = cF 11) (hm : (colP (mF2 0) ∧ keptP (mF2 1) ∧ (mN2 0) ≤ 8) ∧ ((∃ (a b : Nat) (h : Int32), a < n ∧ b < n ∧ x = nI a ∧ y = nI b ∧ ¬ nI a = nI b ∧ PQ (hasB ((mF 0) (56 + a)) b) h (nI 1) (nI 0) ∧ ¬ h = z ∧ r2 = nI 1 ∧ (mF2 0) = linkG (mF 0) a b ∧ kpdP (mN 0) (mF 0) (mF 1) (mN2 0) (mF2 1)) ∨ (¬ (okN n x ∧ okN n y ∧ ¬ x = y ∧ ∀ a b, x = nI a → y = nI b → a < n → b < n → ∃ h, PQ (hasB ((mF 0) (56 + a)) b) h (nI 1) (nI 0) ∧ ¬ h = z) ∧ r2 = nI 0 ∧ (mF2 0) = (mF 0) ∧ (mF2 1) = (mF 1) ∧ (mN2 0) = (mN 0)))) (hf : mI2 0 = mI 0 ∧ mI2 1 = mI 1 ∧ mF2 3 = mF 3 ∧ mF2 4 = mF 4 ∧ mF2 5 = mF 5 ∧ mF2 6 = mF 6 ∧ mF2 7 = mF 7) : RelA be pr cN2 cF2 cP2 mN2 mF2 ∧ r = r2 := by
  obtain ⟨⟨hn2, hn8⟩, hkn, hal, hbe, hen⟩ := hG
  obtain ⟨hp, hg, hk, hq⟩ := hR
  obtain ⟨d1, d2, d3, d4, d5, d6, ⟨_, hc⟩, p0, p1, p2, p3, p4, p5⟩ := hc
  obtain ⟨_, hm⟩ := hm
  rcases hc with ⟨a, b, h, ha, hb, hx, hy, hne, hpq, hhz, hr, hz, k1, k2, k3, k4, k5, k6, k7, k8⟩ | ⟨hn, hr, ⟨s1, s2, s3, s4, s5, s6, s7, s8⟩, hz⟩
  · rcases hm with ⟨a', b', h', ha', hb', hx', hy', hne', hpq', hhz', hr', hfz, hkp⟩ | ⟨hn', _⟩
    · obtain rfl : a = a' := (nI_eq (by omega) (by omega)).mp (hx.symm.trans hx')
      obtain rfl : b = b' := (nI_eq (by omega) (by omega)).mp (hy.symm.trans hy')
      refine ⟨⟨hp, ?_, hk.keep hg k1 k2 p0 p1 p2 p4 k3 k4 k5 k7 hkp, ?_⟩, hr.trans hr'.symm⟩
      · rw [he.2.1, he.2.2.1, hz, he.2.2.2.2.1, hfz]; exact hg.link (by omega) (by omega) (fun z => hne (by rw [z]))
      · rw [he.2.2.2.2.2.2.1, hf.2.2.1]; exact hq
    · refine absurd ⟨hx ▸ okN_nI ha (by omega), hy ▸ okN_nI hb (by omega), by rw [hx, hy]; exact hne, fun a' b' hx' hy' ha' hb' => ?_⟩ hn'
      obtain rfl : a = a' := (nI_eq (by omega) (by omega)).mp (hx.symm.trans hx')
      obtain rfl : b = b' := (nI_eq (by omega) (by omega)).mp (hy.symm.trans hy')
      exact ⟨h, PQ.iff (hg.lnk (by omega) (by omega)) hpq, hhz⟩
  · rcases hm with ⟨a', b', h', ha', hb', hx', hy', hne', hpq', hhz', _⟩ | ⟨hn', hr', hfz, hgz, hkm⟩
    · refine absurd ⟨hx' ▸ okN_nI ha' (by omega), hy' ▸ okN_nI hb' (by omega), by rw [hx', hy']; exact hne', fun a b hx hy ha hb => ?_⟩ hn
      obtain rfl : a = a' := (nI_eq (by omega) (by omega)).mp (hx.symm.trans hx')
      obtain rfl : b = b' := (nI_eq (by omega) (by omega)).mp (hy.symm.trans hy')
      exact ⟨h', PQ.iff (hg.lnk (by omega) (by omega)).symm hpq', hhz'⟩
    · refine ⟨⟨hp, ?_, hk.same s1 s2 p0 p1 p2 p4 s3 s4 s5 s7 hkm hgz, ?_⟩, hr.trans hr'.symm⟩
      · rw [he.2.1, he.2.2.1, hz, he.2.2.2.2.1, hfz]; exact hg
      · rw [he.2.2.2.2.2.2.1, hf.2.2.1]; exact hq

theorem br_query (hG : GP n k al be en) (hR : RelA be pr cN cF cP mN mF) {uu : Nat → Nat → Nat} (hrow : ∀ j, j < 8 → rowU (mF 0) j (uu j) ∧ okU be (uu j)) (hc : ∃ (d1 d2 d3 d4 d5 : Nat → Int32) (d6 : Nat → Nat → Int32), ((((cN2 1) ≤ 8 ∧ (cN2 2) < 8 ∧ ∀ j, j < 8 → prP (d6 j)) ∧ ((¬ cakP n k x y (cF 0) (cF 1) ∧ r = -1 ∧ ((cN2 1) = (cN 1) ∧ (cN2 2) = (cN 2) ∧ d1 = (cP 0 (cN 2)) ∧ d2 = (cP 1 (cN 2)) ∧ d3 = (cP 2 (cN 2)) ∧ d4 = (cP 3 (cN 2)) ∧ d5 = (cP 4 (cN 2)) ∧ d6 = (cQ (cN 2))) ∧ (cF2 0) = (cF 0) ∧ (cF2 16) = (cF 16)) ∨ (cakP n k x y (cF 0) (cF 1) ∧ ((cN2 1) = mnK (cN 1) ∧ (cN2 2) = ((cN 2) + 1) % 8 ∧ d1 = (cF 0) ∧ d2 = (cF 1) ∧ d3 = (cF 2) ∧ (∀ j, j < 8 → d4 j = (cF 3) j) ∧ (∀ j, j < 8 → d5 j = (cF 4) j) ∧ ∀ j, j < 8 → d6 j = (cG 0) j) ∧ lisI n x.toNatClampNeg (cF 2) (cF 1) (cF 0) 0 (cI2 3) (cI2 4) (cI2 5) ∧ r = chgF ((cF 0) x.toNatClampNeg) ((cF2 0) x.toNatClampNeg) ∧ askR n al be pr (cF 0) (cF2 0) x.toNatClampNeg y (cI2 3) (cI2 4) (cI2 5) ∧ (cF2 16) = upd (cF 16) x.toNatClampNeg ((cF 16) x.toNatClampNeg + nI 1)))) ∧ cP2 0 = (fun j => if j = (cN 2) then d1 else cP 0 j) ∧ cP2 1 = (fun j => if j = (cN 2) then d2 else cP 1 j) ∧ cP2 2 = (fun j => if j = (cN 2) then d3 else cP 2 j) ∧ cP2 3 = (fun j => if j = (cN 2) then d4 else cP 3 j) ∧ cP2 4 = (fun j => if j = (cN 2) then d5 else cP 4 j) ∧ cQ2 = (fun j => if j = (cN 2) then d6 else cQ j))) (he : cI2 0 = cI 0 ∧ cF2 1 = cF 1 ∧ cF2 2 = cF 2 ∧ cF2 3 = cF 3 ∧ cF2 4 = cF 4 ∧ cG2 0 = cG 0 ∧ cF2 5 = cF 5 ∧ cF2 6 = cF 6 ∧ cF2 7 = cF 7 ∧ cF2 8 = cF 8 ∧ cF2 9 = cF 9 ∧ cF2 10 = cF 10 ∧ cF2 11 = cF 11) (hm : (colP (mF2 0) ∧ keptP (mF2 1) ∧ (mN2 0) ≤ 8) ∧ ((∃ a, a < n ∧ x = nI a ∧ msmP n k a y ∧ mcaP (mF 0) a ∧ askedP n al be pr (mF 0) y a (uu a) r2 (mF2 0) ∧ kpdP (mN 0) (mF 0) (mF 1) (mN2 0) (mF2 1) ∧ (mF2 3) = upd (mF 3) a ((mF 3) a + nI 1) ∧ (mI2 0) = (mI 0) + nI 1) ∨ (¬ (okN n x ∧ ∀ a, a < n → x = nI a → msmP n k a y ∧ mcaP (mF 0) a) ∧ r2 = -1 ∧ ((mF2 0) = (mF 0) ∧ (mF2 1) = (mF 1) ∧ (mN2 0) = (mN 0)) ∧ (mF2 3) = (mF 3) ∧ (mI2 0) = (mI 0)))) (hf : mI2 1 = mI 1 ∧ mF2 4 = mF 4 ∧ mF2 5 = mF 5 ∧ mF2 6 = mF 6 ∧ mF2 7 = mF 7) : RelA be pr cN2 cF2 cP2 mN2 mF2 ∧ r = r2 := by
  obtain ⟨⟨hn2, hn8⟩, hkn, hal, hbe, hen⟩ := hG
  obtain ⟨hp, hg, hk, hq⟩ := hR
  obtain ⟨d1, d2, d3, d4, d5, d6, ⟨_, hc⟩, p0, p1, p2, p3, p4, p5⟩ := hc
  obtain ⟨_, hm⟩ := hm
  rcases hc with ⟨hn, hr, ⟨s1, s2, s3, s4, s5, s6, s7, s8⟩, hz, hqz⟩ | ⟨hca, ⟨k1, k2, k3, k4, k5, k6, k7, k8⟩, hl, hr, hA, hqz⟩
  · rcases hm with ⟨a', ha', hx', hS, hmc, _⟩ | ⟨hn', hr', ⟨hfz, hgz, hkm⟩, hq2, _⟩
    · obtain ⟨⟨s, hs⟩, _⟩ := hg
      exact absurd (by rw [hx']; exact (cak_iff hn8 ha' (hs a' (by omega))).mpr ⟨hS, hmc⟩) hn
    · refine ⟨⟨hp, ?_, hk.same s1 s2 p0 p1 p2 p4 s3 s4 s5 s7 hkm hgz, ?_⟩, hr.trans hr'.symm⟩
      · rw [hz, he.2.1, he.2.2.1, he.2.2.2.2.1, hfz]; exact hg
      · rw [hqz, hq2]; exact hq
  · obtain ⟨a, ha, hx⟩ := okN_of hca.1.1 (by omega)
    rw [hx] at hca hl hr hA hqz
    rw [nI_clamp (by omega)] at hl hr hA hqz
    have hi : msmP n k a y ∧ mcaP (mF 0) a := by
      obtain ⟨⟨s, hs⟩, _⟩ := hg
      exact (cak_iff hn8 ha (hs a (by omega))).mp hca
    rcases hm with ⟨a', ha', hx', hS, hmc, hask, hkp, hq2, _⟩ | ⟨hn', _⟩
    · obtain rfl : a = a' := (nI_eq (by omega) (by omega)).mp (hx.symm.trans hx')
      have hb := ask_grp hg ha hn8 hkn.2 (by omega) hbe hal.2.2 hi.2 hi.1 (hrow a (by omega)).1 (hrow a (by omega)).2 hl hA hask
      refine ⟨⟨hp, ?_, hk.keep hg k1 k2 p0 p1 p2 p4 k3 k4 k5 k7 hkp, ?_⟩, hr.trans hb.1.symm⟩
      · rw [he.2.1, he.2.2.1, he.2.2.2.2.1]; exact hb.2
      · rw [hqz, hq2]; exact upd_q hq (by omega)
    · refine absurd ⟨hx ▸ okN_nI ha (by omega), fun a' ha' hx' => ?_⟩ hn'
      obtain rfl : a = a' := (nI_eq (by omega) (by omega)).mp (hx.symm.trans hx')
      exact hi

theorem lisI.congr {o i b : Nat} {lf kf f f' : Nat → Int32} {u1 u2 u3 : Int32} (h : lisI o i lf kf f b u1 u2 u3) (e : ∀ j, j < o → f' (b + j) = f (b + j)) (ei : f' (b + i) = f (b + i)) : lisI o i lf kf f' b u1 u2 u3 := fun k hk => by
  obtain ⟨h1, h2, h3⟩ := h k hk
  unfold lisP blkP at *
  refine ⟨h1.trans ?_, h2.trans ?_, h3.trans ?_⟩
  · constructor <;> rintro ⟨q, q1, q2, q3⟩ <;> refine ⟨q, q1, q2, ?_⟩ <;> rw [e k q, ei] at * <;> exact q3
  · constructor <;> rintro ⟨q, q1, q2, q3⟩ <;> refine ⟨q, q1, q2, ?_⟩ <;> rw [e k q, ei] at * <;> exact q3
  · constructor <;> rintro ⟨q, q1, q2, q3, q4⟩ <;> refine ⟨q, q1, q2, q3, ?_⟩ <;> rw [e k q] at * <;> exact q4
theorem cpy8 {f g : Nat → Int32} {j : Nat} (hj : j < 8) : va_cpy f g 0 0 8 j = f j := by
  unfold va_cpy
  rw [if_pos (by omega)]
  exact congrArg f (by omega)

theorem br_node (hG : GP n k al be en) (hR : RelA be pr cN cF cP mN mF) (hc : (∃ a, a < n ∧ x = nI a ∧ r = ndC (cF 0) (cF 1) (cF 16) a y) ∨ (¬ okN n x ∧ r = -2)) (he : cN2 1 = cN 1 ∧ cN2 2 = cN 2 ∧ cI2 0 = cI 0 ∧ cF2 0 = cF 0 ∧ cF2 1 = cF 1 ∧ cF2 2 = cF 2 ∧ cF2 3 = cF 3 ∧ cF2 4 = cF 4 ∧ cG2 0 = cG 0 ∧ cF2 16 = cF 16 ∧ cF2 5 = cF 5 ∧ cF2 6 = cF 6 ∧ cF2 7 = cF 7 ∧ cF2 8 = cF 8 ∧ cF2 9 = cF 9 ∧ cF2 10 = cF 10 ∧ cF2 11 = cF 11 ∧ cP2 = cP ∧ cQ2 = cQ) (hm : (∃ a, a < n ∧ x = nI a ∧ r2 = ndV (mF 0) (mF 3) a y) ∨ (¬ okN n x ∧ r2 = -2)) (hf : mN2 0 = mN 0 ∧ mI2 0 = mI 0 ∧ mI2 1 = mI 1 ∧ mF2 0 = mF 0 ∧ mF2 1 = mF 1 ∧ mF2 3 = mF 3 ∧ mF2 4 = mF 4 ∧ mF2 5 = mF 5 ∧ mF2 6 = mF 6 ∧ mF2 7 = mF 7) : RelA be pr cN2 cF2 cP2 mN2 mF2 ∧ r = r2 := by
  obtain ⟨⟨hn2, hn8⟩, hkn, hal, hbe, hen⟩ := hG
  obtain ⟨hp, hg, hk, hq⟩ := hR
  refine ⟨RelA.same (pr := pr) ⟨hp, hg, hk, hq⟩ he.1 he.2.1 he.2.2.2.1 he.2.2.2.2.1 he.2.2.2.2.2.1 he.2.2.2.2.2.2.2.1 he.2.2.2.2.2.2.2.2.2.1 he.2.2.2.2.2.2.2.2.2.2.2.2.2.2.2.2.2.1 hf.1 (fun j _ => congrFun hf.2.2.2.1 j) hf.2.2.2.2.1 hf.2.2.2.2.2.1, ?_⟩
  rcases hc with ⟨a, ha, hx, hr⟩ | ⟨hn, hr⟩
  · rcases hm with ⟨a', ha', hx', hr'⟩ | ⟨hn', _⟩
    · obtain rfl : a = a' := (nI_eq (by omega) (by omega)).mp (hx.symm.trans hx')
      rw [hr, hr']; exact nd_eq hg (by omega) hq
    · exact absurd (hx ▸ okN_nI ha (by omega)) hn'
  · rcases hm with ⟨a', ha', hx', hr'⟩ | ⟨hn', hr'⟩
    · exact absurd (hx' ▸ okN_nI ha' (by omega)) hn
    · rw [hr, hr']

theorem br_would (hG : GP n k al be en) (hR : RelA be pr cN cF cP mN mF) {uu : Nat → Nat → Nat} (hrow : ∀ j, j < 8 → rowU (mF 0) j (uu j) ∧ okU be (uu j)) (hc : (¬ cakP n k x y (cF 0) (cF 1) ∧ r = -1) ∨ (∃ a, a < n ∧ x = nI a ∧ cakP n k x y (cF 0) (cF 1) ∧ lisI n a (cF 2) (cF 1) (cF 0) 0 (cI2 3) (cI2 4) (cI2 5) ∧ r = chgF ((cF 0) a) ((cF2 15) a) ∧ askR n al be pr (va_cpy (cF 0) (cF 15) 0 0 8) (cF2 15) a y (cI2 3) (cI2 4) (cI2 5))) (he : cN2 1 = cN 1 ∧ cN2 2 = cN 2 ∧ cI2 0 = cI 0 ∧ cF2 0 = cF 0 ∧ cF2 1 = cF 1 ∧ cF2 2 = cF 2 ∧ cF2 3 = cF 3 ∧ cF2 4 = cF 4 ∧ cG2 0 = cG 0 ∧ cF2 16 = cF 16 ∧ cF2 5 = cF 5 ∧ cF2 6 = cF 6 ∧ cF2 7 = cF 7 ∧ cF2 8 = cF 8 ∧ cF2 9 = cF 9 ∧ cF2 10 = cF 10 ∧ cF2 11 = cF 11 ∧ cP2 = cP ∧ cQ2 = cQ) (hm : (colP (mF2 0) ∧ ∀ j, j < 288 → (mF2 0) j = (mF 0) j) ∧ ((∃ a, a < n ∧ x = nI a ∧ msmP n k a y ∧ mcaP (mF 0) a ∧ ∃ fy, askedP n al be pr (mF 0) y a (uu a) r2 fy) ∨ (¬ (okN n x ∧ ∀ a, a < n → x = nI a → msmP n k a y ∧ mcaP (mF 0) a) ∧ r2 = -1 ∧ (mF2 0) = (mF 0)))) (hf : mN2 0 = mN 0 ∧ mI2 0 = mI 0 ∧ mI2 1 = mI 1 ∧ mF2 1 = mF 1 ∧ mF2 3 = mF 3 ∧ mF2 4 = mF 4 ∧ mF2 5 = mF 5 ∧ mF2 6 = mF 6 ∧ mF2 7 = mF 7) : RelA be pr cN2 cF2 cP2 mN2 mF2 ∧ r = r2 := by
  obtain ⟨⟨hn2, hn8⟩, hkn, hal, hbe, hen⟩ := hG
  obtain ⟨hp, hg, hk, hq⟩ := hR
  refine ⟨RelA.same (pr := pr) ⟨hp, hg, hk, hq⟩ he.1 he.2.1 he.2.2.2.1 he.2.2.2.2.1 he.2.2.2.2.2.1 he.2.2.2.2.2.2.2.1 he.2.2.2.2.2.2.2.2.2.1 he.2.2.2.2.2.2.2.2.2.2.2.2.2.2.2.2.2.1 hf.1 hm.1.2 hf.2.2.2.1 hf.2.2.2.2.1, ?_⟩
  replace hm := hm.2
  rcases hc with ⟨hn, hr⟩ | ⟨a, ha, hx, hca, hl, hr, hA⟩
  · rcases hm with ⟨a', ha', hx', hS, hmc, _⟩ | ⟨hn', hr', _⟩
    · obtain ⟨⟨s, hs⟩, _⟩ := hg
      exact absurd (by rw [hx']; exact (cak_iff hn8 ha' (hs a' (by omega))).mpr ⟨hS, hmc⟩) hn
    · rw [hr, hr']
  · rw [hx] at hca
    have hi : msmP n k a y ∧ mcaP (mF 0) a := by
      obtain ⟨⟨s, hs⟩, _⟩ := hg
      exact (cak_iff hn8 ha (hs a (by omega))).mp hca
    rcases hm with ⟨a', ha', hx', hS, hmc, fy, hask⟩ | ⟨hn', _⟩
    · obtain rfl : a = a' := (nI_eq (by omega) (by omega)).mp (hx.symm.trans hx')
      have hg2 : grpA be (va_cpy (cF 0) (cF 15) 0 0 8) (cF 1) (cF 2) (cF 4) (mF 0) := hg.congr (fun j hj => cpy8 hj) (fun _ _ => rfl) (fun _ _ => rfl) (fun _ _ => rfl) (lowE.refl _)
      have hb := ask_grp hg2 ha hn8 hkn.2 (by omega) hbe hal.2.2 hi.2 hi.1 (hrow a (by omega)).1 (hrow a (by omega)).2 (hl.congr (fun j hj => cpy8 (by omega)) (cpy8 (by omega))) hA hask
      rw [hr, hb.1, cpy8 (by omega)]
    · refine absurd ⟨hx ▸ okN_nI ha (by omega), fun a' ha' hx' => ?_⟩ hn'
      obtain rfl : a = a' := (nI_eq (by omega) (by omega)).mp (hx.symm.trans hx')
      exact hi

theorem br_run (hG : GP n k al be en) (hR : RelA be pr cN cF cP mN mF) (hc : ∃ (d1 d2 d3 d4 d5 : Nat → Int32) (d6 : Nat → Nat → Int32), ((((cN2 1) ≤ 8 ∧ (cN2 2) < 8 ∧ ∀ j, j < 8 → prP (d6 j)) ∧ ((∃ nm, nm ≤ 300 ∧ x = nI nm ∧ ¬ x < nI 1 ∧ runC n k al be pr (cF 1) (cF 2) nm (y, (cF 0), (cF 16), nI 0) ((cI2 1), (cF2 0), (cF2 16), r) ∧ ((cN2 1) = mnK (cN 1) ∧ (cN2 2) = ((cN 2) + 1) % 8 ∧ d1 = (cF 0) ∧ d2 = (cF 1) ∧ d3 = (cF 2) ∧ (∀ j, j < 8 → d4 j = (cF 3) j) ∧ (∀ j, j < 8 → d5 j = (cF 4) j) ∧ ∀ j, j < 8 → d6 j = (cG 0) j)) ∨ (¬ (¬ x < nI 1 ∧ x ≤ nI 300) ∧ r = -1 ∧ ((cN2 1) = (cN 1) ∧ (cN2 2) = (cN 2) ∧ d1 = (cP 0 (cN 2)) ∧ d2 = (cP 1 (cN 2)) ∧ d3 = (cP 2 (cN 2)) ∧ d4 = (cP 3 (cN 2)) ∧ d5 = (cP 4 (cN 2)) ∧ d6 = (cQ (cN 2))) ∧ (cF2 0) = (cF 0) ∧ (cF2 16) = (cF 16) ∧ (cI2 1) = (cI 1)))) ∧ cP2 0 = (fun j => if j = (cN 2) then d1 else cP 0 j) ∧ cP2 1 = (fun j => if j = (cN 2) then d2 else cP 1 j) ∧ cP2 2 = (fun j => if j = (cN 2) then d3 else cP 2 j) ∧ cP2 3 = (fun j => if j = (cN 2) then d4 else cP 3 j) ∧ cP2 4 = (fun j => if j = (cN 2) then d5 else cP 4 j) ∧ cQ2 = (fun j => if j = (cN 2) then d6 else cQ j))) (he : cI2 0 = cI 0 ∧ cF2 1 = cF 1 ∧ cF2 2 = cF 2 ∧ cF2 3 = cF 3 ∧ cF2 4 = cF 4 ∧ cG2 0 = cG 0 ∧ cF2 5 = cF 5 ∧ cF2 6 = cF 6 ∧ cF2 7 = cF 7 ∧ cF2 8 = cF 8 ∧ cF2 9 = cF 9 ∧ cF2 10 = cF 10 ∧ cF2 11 = cF 11) (hm : (colP (mF2 0) ∧ keptP (mF2 1) ∧ (mN2 0) ≤ 8) ∧ (∀ j, j < 8 → ∃ v, rowU (mF2 0) j v ∧ okU be v) ∧ ((∃ nm, nm ≤ 300 ∧ x = nI nm ∧ ¬ x < nI 1 ∧ runM n k al be pr nm (y, (mF 0), (mF 3), (mI 0), nI 0) ((mI2 3), (mF2 0), (mF2 3), (mI2 0), r2) ∧ kpdP (mN 0) (mF 0) (mF 1) (mN2 0) (mF2 1)) ∨ (¬ (¬ x < nI 1 ∧ x ≤ nI 300) ∧ r2 = -1 ∧ ((mF2 0) = (mF 0) ∧ (mF2 1) = (mF 1) ∧ (mN2 0) = (mN 0)) ∧ (mF2 3) = (mF 3) ∧ (mI2 0) = (mI 0) ∧ (mI2 3) = (mI 3)))) (hf : mI2 1 = mI 1 ∧ mF2 4 = mF 4 ∧ mF2 5 = mF 5 ∧ mF2 6 = mF 6 ∧ mF2 7 = mF 7) : RelA be pr cN2 cF2 cP2 mN2 mF2 ∧ r = r2 := by
  obtain ⟨⟨hn2, hn8⟩, hkn, hal, hbe, hen⟩ := hG
  obtain ⟨hp, hg, hk, hq⟩ := hR
  obtain ⟨d1, d2, d3, d4, d5, d6, ⟨_, hc⟩, p0, p1, p2, p3, p4, p5⟩ := hc
  obtain ⟨_, _, hm⟩ := hm
  rcases hc with ⟨m, hm1, hx, hm0, hrc, k1, k2, k3, k4, k5, k6, k7, k8⟩ | ⟨hn, hr, ⟨s1, s2, s3, s4, s5, s6, s7, s8⟩, hz, hqz, _⟩
  · rcases hm with ⟨m', hm1', hx', _, hrm, hkp⟩ | ⟨hn', _⟩
    · obtain rfl : m = m' := (nI_eq (by omega) (by omega)).mp (hx.symm.trans hx')
      have hb := run_grp (pof := cF 4) hn8 hkn.2 (by omega) hbe hal.2.2 (⟨rfl, hg, hq, rfl⟩ : runR be (cF 1) (cF 2) (cF 4) (y, cF 0, cF 16, nI 0) (y, mF 0, mF 3, mI 0, nI 0)) m _ _ hrc hrm
      refine ⟨⟨hp, ?_, hk.keep hg k1 k2 p0 p1 p2 p4 k3 k4 k5 k7 hkp, hb.2.2.1⟩, hb.2.2.2⟩
      rw [he.2.1, he.2.2.1, he.2.2.2.2.1]; exact hb.2.1
    · exact absurd ⟨hm0, by rw [hx]; exact (nI_leI (by omega) (by decide)).mpr hm1⟩ hn'
  · rcases hm with ⟨m', hm1', hx', hm0', hrm, hkp⟩ | ⟨hn', hr', ⟨hfz, hgz, hkm⟩, hq2, _⟩
    · exact absurd ⟨hm0', by rw [hx']; exact (nI_leI (by omega) (by decide)).mpr hm1'⟩ hn
    · refine ⟨⟨hp, ?_, hk.same s1 s2 p0 p1 p2 p4 s3 s4 s5 s7 hkm hgz, ?_⟩, hr.trans hr'.symm⟩
      · rw [hz, he.2.1, he.2.2.1, he.2.2.2.2.1, hfz]; exact hg
      · rw [hqz, hq2]; exact hq

theorem br_back (hG : GP n k al be en) (hR : RelA be pr cN cF cP mN mF) (hc : ∃ (d1 d2 d3 d4 d5 : Nat → Int32) (d6 : Nat → Nat → Int32), ((((cN2 1) ≤ 8 ∧ (cN2 2) < 8 ∧ ∀ j, j < 8 → prP ((cG2 0) j)) ∧ (((cN 1) = 0 ∧ r = nI 0 ∧ (cN2 1) = (cN 1) ∧ (cN2 2) = (cN 2) ∧ (cF2 0) = (cF 0) ∧ (cF2 1) = (cF 1) ∧ (cF2 2) = (cF 2) ∧ (cF2 3) = (cF 3) ∧ (cF2 4) = (cF 4) ∧ (cG2 0) = (cG 0)) ∨ (¬ (cN 1) = 0 ∧ r = nI 1 ∧ (cN2 1) = (cN 1) - 1 ∧ (cN2 2) = ((cN 2) + 7) % 8 ∧ (cF2 0) = (cP 0 (((cN 2) + 7) % 8)) ∧ (cF2 1) = (cP 1 (((cN 2) + 7) % 8)) ∧ (cF2 2) = (cP 2 (((cN 2) + 7) % 8)) ∧ (∀ j, j < 8 → (cF2 3) j = (cP 3 (((cN 2) + 7) % 8)) j) ∧ (∀ j, j < 8 → (cF2 4) j = (cP 4 (((cN 2) + 7) % 8)) j) ∧ ∀ j, j < 8 → (cG2 0) j = (cQ (((cN 2) + 7) % 8)) j))) ∧ (d1 = cP 0 (((cN 2) + 7) % 8) ∧ d2 = cP 1 (((cN 2) + 7) % 8) ∧ d3 = cP 2 (((cN 2) + 7) % 8) ∧ d4 = cP 3 (((cN 2) + 7) % 8) ∧ d5 = cP 4 (((cN 2) + 7) % 8) ∧ d6 = cQ (((cN 2) + 7) % 8)) ∧ cP2 0 = (fun j => if j = (((cN 2) + 7) % 8) then d1 else cP 0 j) ∧ cP2 1 = (fun j => if j = (((cN 2) + 7) % 8) then d2 else cP 1 j) ∧ cP2 2 = (fun j => if j = (((cN 2) + 7) % 8) then d3 else cP 2 j) ∧ cP2 3 = (fun j => if j = (((cN 2) + 7) % 8) then d4 else cP 3 j) ∧ cP2 4 = (fun j => if j = (((cN 2) + 7) % 8) then d5 else cP 4 j) ∧ cQ2 = (fun j => if j = (((cN 2) + 7) % 8) then d6 else cQ j))) (he : cI2 0 = cI 0 ∧ cF2 16 = cF 16 ∧ cF2 5 = cF 5 ∧ cF2 6 = cF 6 ∧ cF2 7 = cF 7 ∧ cF2 8 = cF 8 ∧ cF2 9 = cF 9 ∧ cF2 10 = cF 10 ∧ cF2 11 = cF 11) (hm : (colP (mF2 0) ∧ (mN2 0) ≤ 8) ∧ (((mN 0) = 0 ∧ r2 = nI 0 ∧ (mN2 0) = (mN 0) ∧ (mF2 0) = (mF 0)) ∨ (¬ (mN 0) = 0 ∧ r2 = nI 1 ∧ (mN2 0) = (mN 0) - 1 ∧ ∀ j, j < 288 → (mF2 0) j = (mF 1) (288 * ((mN 0) - 1) + j)))) (hf : mI2 0 = mI 0 ∧ mI2 1 = mI 1 ∧ mF2 1 = mF 1 ∧ mF2 3 = mF 3 ∧ mF2 4 = mF 4 ∧ mF2 5 = mF 5 ∧ mF2 6 = mF 6 ∧ mF2 7 = mF 7) : RelA be pr cN2 cF2 cP2 mN2 mF2 ∧ r = r2 := by
  obtain ⟨⟨hn2, hn8⟩, hkn, hal, hbe, hen⟩ := hG
  obtain ⟨hp, hg, hk, hq⟩ := hR
  obtain ⟨d1, d2, d3, d4, d5, d6, ⟨_, hc⟩, ⟨t1, t2, t3, t4, t5, t6⟩, p0, p1, p2, p3, p4, p5⟩ := hc
  obtain ⟨_, hm⟩ := hm
  rcases hc with ⟨h0, hr, b1, b2, b3, b4, b5, b6, b7, b8⟩ | ⟨h0, hr, b1, b2, b3, b4, b5, b6, b7, b8⟩
  · rcases hm with ⟨h0', hr', hkm, hfz⟩ | ⟨h0', _⟩
    · refine ⟨⟨hp, ?_, hk.same b1 b2 p0 p1 p2 p4 t1 t2 t3 t5 hkm hf.2.2.1, ?_⟩, hr.trans hr'.symm⟩
      · rw [b3, b4, b5, b7, hfz]; exact hg
      · rw [he.2.1, hf.2.2.2.1]; exact hq
    · exact absurd (hk.1.1.symm.trans h0) h0'
  · rcases hm with ⟨h0', _⟩ | ⟨h0', hr', hkm, hfz⟩
    · exact absurd (hk.1.1.trans h0') h0
    · have hb := hk.back h0' hfz
      refine ⟨⟨hp, ?_, ?_, ?_⟩, hr.trans hr'.symm⟩
      · rw [b3, b4, b5]; exact hb.1.congr (fun _ _ => rfl) (fun _ _ => rfl) (fun _ _ => rfl) b7 (lowE.refl _)
      · exact hb.2.same b1 b2 p0 p1 p2 p4 t1 t2 t3 t5 hkm hf.2.2.1
      · rw [he.2.1, hf.2.2.2.1]; exact hq

theorem br_poll (hG : GP n k al be en) (hR : RelA be pr cN cF cP mN mF) (hc : ∃ (d1 d2 d3 d4 d5 : Nat → Int32) (d6 : Nat → Nat → Int32), (((((cN2 1) ≤ 8 ∧ (cN2 2) < 8 ∧ ∀ j, j < 8 → prP (d6 j)) ∧ ∀ j, j < 8 → prP ((cG2 0) j)) ∧ ((∃ a e, a < n ∧ e < en ∧ x = nI a ∧ y = nI e ∧ ccpP n k (cF 1) (cF 4) x z a e ∧ (∀ j, j < 8 → (cF2 4) j = upd (cF 4) a ((cF 4) a ||| bitI e) j) ∧ ((cN2 1) = mnK (cN 1) ∧ (cN2 2) = ((cN 2) + 1) % 8 ∧ d1 = (cF 0) ∧ d2 = (cF 1) ∧ d3 = (cF 2) ∧ (∀ j, j < 8 → d4 j = (cF 3) j) ∧ (∀ j, j < 8 → d5 j = (cF 4) j) ∧ ∀ j, j < 8 → d6 j = (cG 0) j)) ∨ (¬ (ccpA n k en (cF 1) (cF 4) x y z ∧ smpP n k x z) ∧ r = -1 ∧ ((cN2 1) = (cN 1) ∧ (cN2 2) = (cN 2) ∧ d1 = (cP 0 (cN 2)) ∧ d2 = (cP 1 (cN 2)) ∧ d3 = (cP 2 (cN 2)) ∧ d4 = (cP 3 (cN 2)) ∧ d5 = (cP 4 (cN 2)) ∧ d6 = (cQ (cN 2))) ∧ (cF2 3) = (cF 3) ∧ (cF2 4) = (cF 4) ∧ (cG2 0) = (cG 0)))) ∧ cP2 0 = (fun j => if j = (cN 2) then d1 else cP 0 j) ∧ cP2 1 = (fun j => if j = (cN 2) then d2 else cP 1 j) ∧ cP2 2 = (fun j => if j = (cN 2) then d3 else cP 2 j) ∧ cP2 3 = (fun j => if j = (cN 2) then d4 else cP 3 j) ∧ cP2 4 = (fun j => if j = (cN 2) then d5 else cP 4 j) ∧ cQ2 = (fun j => if j = (cN 2) then d6 else cQ j))) (he : cF2 0 = cF 0 ∧ cF2 1 = cF 1 ∧ cF2 2 = cF 2 ∧ cF2 16 = cF 16 ∧ cF2 5 = cF 5 ∧ cF2 6 = cF 6 ∧ cF2 7 = cF 7 ∧ cF2 8 = cF 8 ∧ cF2 9 = cF 9 ∧ cF2 10 = cF 10 ∧ cF2 11 = cF 11) (hm : (colP (mF2 0) ∧ keptP (mF2 1) ∧ (mN2 0) ≤ 8) ∧ ((∃ a e, a < n ∧ e < en ∧ x = nI a ∧ y = nI e ∧ mcpP n k (mF 0) z a e ∧ lowE (upd (mF 0) (72 + a) ((mF 0) (72 + a) ||| bitI e)) (mF2 0) ∧ kpdP (mN 0) (mF 0) (mF 1) (mN2 0) (mF2 1)) ∨ (¬ mcpA n k en (mF 0) x y z ∧ r2 = -1 ∧ (mF2 0) = (mF 0) ∧ (mF2 1) = (mF 1) ∧ (mN2 0) = (mN 0)))) (hf : mI2 0 = mI 0 ∧ mF2 3 = mF 3 ∧ mF2 4 = mF 4 ∧ mF2 5 = mF 5 ∧ mF2 6 = mF 6 ∧ mF2 7 = mF 7) : RelA be pr cN2 cF2 cP2 mN2 mF2 := by
  obtain ⟨⟨hn2, hn8⟩, hkn, hal, hbe, hen⟩ := hG
  obtain ⟨hp, hg, hk, hq⟩ := hR
  obtain ⟨d1, d2, d3, d4, d5, d6, ⟨_, hc⟩, p0, p1, p2, p3, p4, p5⟩ := hc
  obtain ⟨_, hm⟩ := hm
  rcases hc with ⟨a, e, ha, hae, hx, hy, hcp, hpz, k1, k2, k3, k4, k5, k6, k7, k8⟩ | ⟨hn, hr, ⟨s1, s2, s3, s4, s5, s6, s7, s8⟩, v1, v2, v3⟩
  · have hi : mcpP n k (mF 0) z a e := (ccp_iff hg hn8 ha).mp (hx ▸ hcp)
    rcases hm with ⟨a', e', ha', hae', hx', hy', hmp, hlo, hkp⟩ | ⟨hn', _⟩
    · obtain rfl : a = a' := (nI_eq (by omega) (by omega)).mp (hx.symm.trans hx')
      obtain rfl : e = e' := (nI_eq (by omega) (by omega)).mp (hy.symm.trans hy')
      refine ⟨hp, ?_, hk.keep hg k1 k2 p0 p1 p2 p4 k3 k4 k5 k7 hkp, ?_⟩
      · rw [he.1, he.2.1, he.2.2.1]; exact hg.poll (by omega) hpz hlo
      · rw [he.2.2.2.1, hf.2.1]; exact hq
    · refine absurd ⟨hx ▸ okN_nI ha (by omega), hy ▸ okN_nI hae (by omega), fun a' e' ha' hae' hx' hy' => ?_⟩ hn'
      obtain rfl : a = a' := (nI_eq (by omega) (by omega)).mp (hx.symm.trans hx')
      obtain rfl : e = e' := (nI_eq (by omega) (by omega)).mp (hy.symm.trans hy')
      exact hi
  · rcases hm with ⟨a', e', ha', hae', hx', hy', hmp, _⟩ | ⟨hn', hr', hfz, hgz, hkm⟩
    · have hi : ccpP n k (cF 1) (cF 4) x z a' e' := by rw [hx']; exact (ccp_iff hg hn8 ha').mpr hmp
      refine absurd ⟨⟨hx' ▸ okN_nI ha' (by omega), hy' ▸ okN_nI hae' (by omega), fun a e ha hae hx hy => ?_⟩, hi.1⟩ hn
      obtain rfl : a = a' := (nI_eq (by omega) (by omega)).mp (hx.symm.trans hx')
      obtain rfl : e = e' := (nI_eq (by omega) (by omega)).mp (hy.symm.trans hy')
      exact hi
    · refine ⟨hp, ?_, hk.same s1 s2 p0 p1 p2 p4 s3 s4 s5 s7 hkm hgz, ?_⟩
      · rw [he.1, he.2.1, he.2.2.1, v2, hfz]; exact hg
      · rw [he.2.2.2.1, hf.2.1]; exact hq

theorem br_polls (hG : GP n k al be en) (hR : RelA be pr cN cF cP mN mF) (hc : ∃ (d1 d2 d3 d4 d5 : Nat → Int32) (d6 : Nat → Nat → Int32), (((((cN2 1) ≤ 8 ∧ (cN2 2) < 8 ∧ ∀ j, j < 8 → prP (d6 j)) ∧ ∀ j, j < 8 → prP ((cG2 0) j)) ∧ ((∃ nm, nm ≤ 100 ∧ x = nI nm ∧ ¬ x < nI 1 ∧ polsC n k en (cF 1) nm (y, (cF 4)) ((cI2 1), (cF2 4)) ∧ ((cN2 1) = mnK (cN 1) ∧ (cN2 2) = ((cN 2) + 1) % 8 ∧ d1 = (cF 0) ∧ d2 = (cF 1) ∧ d3 = (cF 2) ∧ (∀ j, j < 8 → d4 j = (cF 3) j) ∧ (∀ j, j < 8 → d5 j = (cF 4) j) ∧ ∀ j, j < 8 → d6 j = (cG 0) j)) ∨ (¬ (¬ x < nI 1 ∧ x ≤ nI 100) ∧ r = -1 ∧ ((cN2 1) = (cN 1) ∧ (cN2 2) = (cN 2) ∧ d1 = (cP 0 (cN 2)) ∧ d2 = (cP 1 (cN 2)) ∧ d3 = (cP 2 (cN 2)) ∧ d4 = (cP 3 (cN 2)) ∧ d5 = (cP 4 (cN 2)) ∧ d6 = (cQ (cN 2))) ∧ ((cF2 3) = (cF 3) ∧ (cF2 4) = (cF 4) ∧ (cG2 0) = (cG 0)) ∧ (cI2 1) = (cI 1)))) ∧ cP2 0 = (fun j => if j = (cN 2) then d1 else cP 0 j) ∧ cP2 1 = (fun j => if j = (cN 2) then d2 else cP 1 j) ∧ cP2 2 = (fun j => if j = (cN 2) then d3 else cP 2 j) ∧ cP2 3 = (fun j => if j = (cN 2) then d4 else cP 3 j) ∧ cP2 4 = (fun j => if j = (cN 2) then d5 else cP 4 j) ∧ cQ2 = (fun j => if j = (cN 2) then d6 else cQ j))) (he : cF2 0 = cF 0 ∧ cF2 1 = cF 1 ∧ cF2 2 = cF 2 ∧ cF2 16 = cF 16 ∧ cF2 5 = cF 5 ∧ cF2 6 = cF 6 ∧ cF2 7 = cF 7 ∧ cF2 8 = cF 8 ∧ cF2 9 = cF 9 ∧ cF2 10 = cF 10 ∧ cF2 11 = cF 11) (hm : (colP (mF2 0) ∧ keptP (mF2 1) ∧ (mN2 0) ≤ 8) ∧ ((∃ nm, nm ≤ 100 ∧ x = nI nm ∧ ¬ x < nI 1 ∧ polsM n k en nm (y, (mF 0)) ((mI2 3), (mF2 0)) ∧ kpdP (mN 0) (mF 0) (mF 1) (mN2 0) (mF2 1)) ∨ (¬ (¬ x < nI 1 ∧ x ≤ nI 100) ∧ r2 = -1 ∧ ((mF2 0) = (mF 0) ∧ (mF2 1) = (mF 1) ∧ (mN2 0) = (mN 0)) ∧ (mI2 3) = (mI 3)))) (hf : mI2 0 = mI 0 ∧ mF2 3 = mF 3 ∧ mF2 4 = mF 4 ∧ mF2 5 = mF 5 ∧ mF2 6 = mF 6 ∧ mF2 7 = mF 7) : RelA be pr cN2 cF2 cP2 mN2 mF2 := by
  obtain ⟨⟨hn2, hn8⟩, hkn, hal, hbe, hen⟩ := hG
  obtain ⟨hp, hg, hk, hq⟩ := hR
  obtain ⟨d1, d2, d3, d4, d5, d6, ⟨_, hc⟩, p0, p1, p2, p3, p4, p5⟩ := hc
  obtain ⟨_, hm⟩ := hm
  rcases hc with ⟨m, hm1, hx, hm0, hpc, k1, k2, k3, k4, k5, k6, k7, k8⟩ | ⟨hn, hr, ⟨s1, s2, s3, s4, s5, s6, s7, s8⟩, ⟨v1, v2, v3⟩, _⟩
  · rcases hm with ⟨m', hm1', hx', _, hpm, hkp⟩ | ⟨hn', _⟩
    · obtain rfl : m = m' := (nI_eq (by omega) (by omega)).mp (hx.symm.trans hx')
      have hb := pol_grp (be := be) (nf := cF 0) (lf := cF 2) (s := (y, cF 4)) (s' := (y, mF 0)) hn8 ⟨rfl, hg⟩ m _ _ hpc hpm
      refine ⟨hp, ?_, hk.keep hg k1 k2 p0 p1 p2 p4 k3 k4 k5 k7 hkp, ?_⟩
      · rw [he.1, he.2.1, he.2.2.1]; exact hb.2
      · rw [he.2.2.2.1, hf.2.1]; exact hq
    · exact absurd ⟨hm0, by rw [hx]; exact (nI_leI (by omega) (by decide)).mpr hm1⟩ hn'
  · rcases hm with ⟨m', hm1', hx', hm0', hpm, hkp⟩ | ⟨hn', hr', ⟨hfz, hgz, hkm⟩, _⟩
    · exact absurd ⟨hm0', by rw [hx']; exact (nI_leI (by omega) (by decide)).mpr hm1'⟩ hn
    · refine ⟨hp, ?_, hk.same s1 s2 p0 p1 p2 p4 s3 s4 s5 s7 hkm hgz, ?_⟩
      · rw [he.1, he.2.1, he.2.2.1, v2, hfz]; exact hg
      · rw [he.2.2.2.1, hf.2.1]; exact hq

theorem br_entry {enz enz2 : Nat} (hR : RelA be pr cN cF cP mN mF) (hc : (PQ (entP en x y z) r (nI en) (-1) ∧ (entP en x y z → enz = en + 1) ∧ (¬ entP en x y z → enz = en)) ∧ enz ≤ 16 ∧ (entP en x y z → cN2 1 = 0) ∧ (¬ entP en x y z → cN2 1 = cN 1)) (he : cN2 2 = cN 2 ∧ cI2 0 = cI 0 ∧ cF2 0 = cF 0 ∧ cF2 1 = cF 1 ∧ cF2 2 = cF 2 ∧ cF2 3 = cF 3 ∧ cF2 4 = cF 4 ∧ cF2 16 = cF 16 ∧ cP2 = cP ∧ cQ2 = cQ) (hm : (PQ (entP en x y z) r2 (nI en) (-1) ∧ (entP en x y z → enz2 = en + 1) ∧ (¬ entP en x y z → enz2 = en)) ∧ enz2 ≤ 16 ∧ lowE (mF 0) (mF2 0) ∧ (entP en x y z → mN2 0 = 0) ∧ (¬ entP en x y z → mN2 0 = mN 0)) (hf : mI2 0 = mI 0 ∧ mI2 1 = mI 1 ∧ mF2 1 = mF 1 ∧ mF2 3 = mF 3) : RelA be pr cN2 cF2 cP2 mN2 mF2 := by
  obtain ⟨hp, hg, hk, hq⟩ := hR
  refine ⟨hp, ?_, ?_, ?_⟩
  · rw [he.2.2.1, he.2.2.2.1, he.2.2.2.2.1, he.2.2.2.2.2.2.1]; exact hg.low hm.2.2.1
  · by_cases q : entP en x y z
    · rw [hc.2.2.1 q, hm.2.2.2.1 q, he.1, he.2.2.2.2.2.2.2.2.1]; exact keptA.zero _ _ _ _ _ hk.1.2.2
    · rw [hc.2.2.2 q, hm.2.2.2.2 q, he.1, he.2.2.2.2.2.2.2.2.1, hf.2.2.1]; exact hk
  · rw [he.2.2.2.2.2.2.2.1, hf.2.2.2]; exact hq
end RELS
