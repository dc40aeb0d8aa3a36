/-! what both sides hold, side by side -/
def grpA (be : Nat) (nf kf lf pof f : Nat → Int32) : Prop := (∃ s, relA be nf kf lf f s) ∧ ∀ j, j < 8 → pof j = f (72 + j)
theorem relN.congr {be j : Nat} {nf kf lf f nf' kf' lf' f' : Nat → Int32} {u : Nat → Nat} (h : relN be nf kf lf f u j) (hj : j < 8) (h1 : nf' j = nf j) (h2 : kf' j = kf j) (h3 : lf' j = lf j) (hf : ∀ i, i < 64 → f' i = f i) : relN be nf' kf' lf' f' u j := by
  obtain ⟨a1, a2, a3, a4, a5⟩ := h
  obtain ⟨b0, b1, b2, b3, b4, b5⟩ := a2
  refine ⟨by rw [h1]; exact a1, ⟨(hf _ (by omega)).trans b0, (hf _ (by omega)).trans b1, (hf _ (by omega)).trans b2, (hf _ (by omega)).trans b3, (hf _ (by omega)).trans b4, (hf _ (by omega)).trans b5⟩, a3, ?_, fun k hk => ?_⟩
  · rw [h2, hf _ (by omega)]; exact a4
  · rw [h3, hf _ (by omega)]; exact a5 k hk
theorem grpA.congr {be : Nat} {nf kf lf pof f nf' kf' lf' pof' f' : Nat → Int32} (h : grpA be nf kf lf pof f) (h1 : ∀ j, j < 8 → nf' j = nf j) (h2 : ∀ j, j < 8 → kf' j = kf j) (h3 : ∀ j, j < 8 → lf' j = lf j) (h4 : ∀ j, j < 8 → pof' j = pof j) (hf : lowE f f') : grpA be nf' kf' lf' pof' f' := by
  obtain ⟨⟨s, hs⟩, hp⟩ := h
  exact ⟨⟨s, fun j hj => (hs j hj).congr hj (h1 j hj) (h2 j hj) (h3 j hj) (fun i hi => hf i (Or.inl hi))⟩, fun j hj => by rw [h4 j hj, hf _ (Or.inr (by omega))]; exact hp j hj⟩
theorem grpA.low {be : Nat} {nf kf lf pof f f' : Nat → Int32} (h : grpA be nf kf lf pof f) (hf : lowE f f') : grpA be nf kf lf pof f' := h.congr (fun _ _ => rfl) (fun _ _ => rfl) (fun _ _ => rfl) (fun _ _ => rfl) hf
theorem hasB_xor {x y : Int32} {k : Nat} (hk : k < 32) : hasB (x ^^^ y) k ↔ ¬ (hasB x k ↔ hasB y k) := by
  rw [hasB_iff hk, hasB_iff hk, hasB_iff hk, Int32.toBitVec_xor, BitVec.getLsbD_xor]
  cases x.toBitVec.getLsbD k <;> cases y.toBitVec.getLsbD k <;> decide
theorem isU_0 : isU (nI 0) (fun _ => 0) := ⟨by decide, by decide, by decide, by decide, by decide, by decide, by decide⟩
theorem grpA.fresh {be : Nat} (hb : 1 ≤ be) : grpA be (fun _ => nI 0) (fun _ => nI 0) (fun _ => -1) (fun _ => nI 0) freshS := by
  refine ⟨⟨fun _ _ => 0, fun j hj => ⟨?_, ?_, ?_, ?_, fun k hk => ?_⟩⟩, fun j hj => ?_⟩
  · exact isU_0
  · have e : ∀ j, j < 8 → freshS (0 + j) = cI 0 ∧ freshS (8 + j) = cI 0 ∧ freshS (16 + j) = nI 0 ∧ freshS (24 + j) = nI 0 ∧ freshS (32 + j) = nI 0 ∧ freshS (40 + j) = nI 0 := by decide
    exact e j hj
  · exact ⟨(by decide : 0 < 3), (by decide : 0 < 3), (by decide : 0 ≤ 15), (by decide : 0 ≤ 999), (by decide : 0 ≤ 999), (by decide : 0 < 2), fun _ => by show 0 < be; omega⟩
  · have e : ∀ j, j < 8 → nI 0 = freshS (48 + j) := by decide
    exact e j hj
  · have e : ∀ j, j < 8 → ∀ k, k < 8 → (hasB (-1) k ↔ hasB (freshS (56 + j)) k) := by decide
    exact e j hj k hk
  · have e : ∀ j, j < 8 → nI 0 = freshS (72 + j) := by decide
    exact e j hj
/-- kinds, links, colours -/
theorem grpA.kind {be a : Nat} {nf kf lf pof f : Nat → Int32} (h : grpA be nf kf lf pof f) (ha : a < 8) (y : Int32) : grpA be nf (upd kf a y) lf pof (upd f (48 + a) y) := by
  obtain ⟨⟨s, hs⟩, hp⟩ := h
  refine ⟨⟨s, fun j hj => ?_⟩, fun j hj => by unfold upd; rw [if_neg (by omega)]; exact hp j hj⟩
  obtain ⟨a1, ⟨b0, b1, b2, b3, b4, b5⟩, a3, a4, a5⟩ := hs j hj
  have e : ∀ i, ¬ i = 48 + a → upd f (48 + a) y i = f i := fun i hi => by unfold upd; exact if_neg hi
  refine ⟨a1, ⟨(e _ (by omega)).trans b0, (e _ (by omega)).trans b1, (e _ (by omega)).trans b2, (e _ (by omega)).trans b3, (e _ (by omega)).trans b4, (e _ (by omega)).trans b5⟩, a3, ?_, fun k hk => by rw [e _ (by omega)]; exact a5 k hk⟩
  unfold upd
  by_cases q : j = a
  · rw [if_pos q, if_pos (by omega)]
  · rw [if_neg q, if_neg (by omega)]; exact a4
theorem grpA.link {be a b : Nat} {nf kf lf pof f : Nat → Int32} (h : grpA be nf kf lf pof f) (ha : a < 8) (hb : b < 8) (hab : ¬ a = b) : grpA be nf kf (linkC lf a b) pof (linkG f a b) := by
  obtain ⟨⟨s, hs⟩, hp⟩ := h
  have e : ∀ i, ¬ i = 56 + a → ¬ i = 56 + b → linkG f a b i = f i := fun i h1 h2 => by unfold linkG upd; rw [if_neg h2, if_neg h1]
  refine ⟨⟨s, fun j hj => ?_⟩, fun j hj => by rw [e _ (by omega) (by omega)]; exact hp j hj⟩
  obtain ⟨a1, ⟨b0, b1, b2, b3, b4, b5⟩, a3, a4, a5⟩ := hs j hj
  refine ⟨a1, ⟨(e _ (by omega) (by omega)).trans b0, (e _ (by omega) (by omega)).trans b1, (e _ (by omega) (by omega)).trans b2, (e _ (by omega) (by omega)).trans b3, (e _ (by omega) (by omega)).trans b4, (e _ (by omega) (by omega)).trans b5⟩, a3, by rw [e _ (by omega) (by omega)]; exact a4, fun k hk => ?_⟩
  unfold linkC linkG upd
  by_cases q1 : j = b
  · have q2 : ¬ b = a := fun z => hab z.symm
    rw [if_pos q1, if_neg q2, if_pos (by omega), if_neg (by omega), hasB_xor (by omega), hasB_xor (by omega), ← q1, a5 k hk]
  · by_cases q2 : j = a
    · rw [if_neg q1, if_pos q2, if_neg (by omega), if_pos (by omega), hasB_xor (by omega), hasB_xor (by omega), ← q2, a5 k hk]
    · rw [if_neg q1, if_neg q2, if_neg (by omega), if_neg (by omega)]; exact a5 k hk
theorem col_cI {y : Int32} (h : colV y) : ∃ c, c < 3 ∧ y = cI c := by
  rcases h with rfl | rfl | rfl
  · exact ⟨0, by decide, by decide⟩
  · exact ⟨1, by decide, by decide⟩
  · exact ⟨2, by decide, by decide⟩
theorem grpA.colour {be a : Nat} {nf kf lf pof f : Nat → Int32} (h : grpA be nf kf lf pof f) (hb : 1 ≤ be) (ha : a < 8) {y : Int32} (hy : colV y) : grpA be (upd nf a (wtC (nI 0) y)) kf lf pof (upd (upd (upd (upd (upd (upd f (0 + a) y) (8 + a) (-1)) (16 + a) (nI 0)) (24 + a) (nI 0)) (32 + a) (nI 0)) (40 + a) (nI 0)) := by
  obtain ⟨⟨s, hs⟩, hp⟩ := h
  obtain ⟨c, hc, rfl⟩ := col_cI hy
  obtain ⟨s', hs'⟩ : ∃ s' : Nat → Nat → Nat, s' = fun j => if j = a then setU (fun _ => 0) 0 c else s j := ⟨_, rfl⟩
  refine ⟨⟨s', fun j hj => ?_⟩, fun j hj => ?_⟩
  · have hj1 := hs j hj
    by_cases q : j = a
    · subst q
      obtain ⟨a1, a2, a3, a4, a5⟩ := hj1
      have hsj : s' j = setU (fun _ => 0) 0 c := by rw [hs']; exact if_pos rfl
      unfold relN
      rw [hsj]
      refine ⟨?_, ?_, ?_, ?_, fun k hk => ?_⟩
      · unfold upd; rw [if_pos rfl]; exact isU_0.c hc
      · unfold rowU upd setU
        refine ⟨?_, ?_, ?_, ?_, ?_, ?_⟩
        · rw [if_neg (by omega), if_neg (by omega), if_neg (by omega), if_neg (by omega), if_neg (by omega), if_pos rfl, if_pos rfl]
        · rw [if_neg (by omega), if_neg (by omega), if_neg (by omega), if_neg (by omega), if_pos rfl, if_neg (by decide)]; decide
        · rw [if_neg (by omega), if_neg (by omega), if_neg (by omega), if_pos rfl, if_neg (by decide)]
        · rw [if_neg (by omega), if_neg (by omega), if_pos rfl, if_neg (by decide)]
        · rw [if_neg (by omega), if_pos rfl, if_neg (by decide)]
        · rw [if_pos rfl, if_neg (by decide)]
      · exact ⟨hc, by show 0 < 3; decide, by show 0 ≤ 15; decide, by show 0 ≤ 999; decide, by show 0 ≤ 999; decide, by show 0 < 2; decide, fun _ => by show 0 < be; omega⟩
      · unfold upd; rw [if_neg (by omega), if_neg (by omega), if_neg (by omega), if_neg (by omega), if_neg (by omega), if_neg (by omega)]; exact a4
      · unfold upd; rw [if_neg (by omega), if_neg (by omega), if_neg (by omega), if_neg (by omega), if_neg (by omega), if_neg (by omega)]; exact a5 k hk
    · have e : ∀ i, ¬ i = 0 + a → ¬ i = 8 + a → ¬ i = 16 + a → ¬ i = 24 + a → ¬ i = 32 + a → ¬ i = 40 + a → upd (upd (upd (upd (upd (upd f (0 + a) (cI c)) (8 + a) (-1)) (16 + a) (nI 0)) (24 + a) (nI 0)) (32 + a) (nI 0)) (40 + a) (nI 0) i = f i := fun i h1 h2 h3 h4 h5 h6 => by
        unfold upd; rw [if_neg h6, if_neg h5, if_neg h4, if_neg h3, if_neg h2, if_neg h1]
      obtain ⟨a1, ⟨b0, b1, b2, b3, b4, b5⟩, a3, a4, a5⟩ := hj1
      have hsj : s' j = s j := by rw [hs']; exact if_neg q
      unfold relN
      rw [hsj]
      refine ⟨by unfold upd; rw [if_neg q]; exact a1, ⟨?_, ?_, ?_, ?_, ?_, ?_⟩, a3, ?_, fun k hk => ?_⟩
      · rw [e _ (by omega) (by omega) (by omega) (by omega) (by omega) (by omega)]; exact b0
      · rw [e _ (by omega) (by omega) (by omega) (by omega) (by omega) (by omega)]; exact b1
      · rw [e _ (by omega) (by omega) (by omega) (by omega) (by omega) (by omega)]; exact b2
      · rw [e _ (by omega) (by omega) (by omega) (by omega) (by omega) (by omega)]; exact b3
      · rw [e _ (by omega) (by omega) (by omega) (by omega) (by omega) (by omega)]; exact b4
      · rw [e _ (by omega) (by omega) (by omega) (by omega) (by omega) (by omega)]; exact b5
      · rw [e _ (by omega) (by omega) (by omega) (by omega) (by omega) (by omega)]; exact a4
      · rw [e _ (by omega) (by omega) (by omega) (by omega) (by omega) (by omega)]; exact a5 k hk
  · unfold upd
    rw [if_neg (by omega), if_neg (by omega), if_neg (by omega), if_neg (by omega), if_neg (by omega), if_neg (by omega)]
    exact hp j hj
/-- what is kept, the oldest first -/
def ixK (nk km r : Nat) : Nat := (nk + 8 - km + r) % 8
def keptA (be ke nk : Nat) (c1 c2 c3 c5 : Nat → Nat → Int32) (km : Nat) (g : Nat → Int32) : Prop := (ke = km ∧ km ≤ 8 ∧ nk < 8) ∧ ∀ r, r < km → grpA be (c1 (ixK nk km r)) (c2 (ixK nk km r)) (c3 (ixK nk km r)) (c5 (ixK nk km r)) (fun j => g (288 * r + j))
theorem put_at {α : Type} (c : Nat → α) (d : α) (I : Nat) : (fun j => if j = I then d else c j) I = d := if_pos rfl
theorem put_ne {α : Type} (c : Nat → α) (d : α) {I i : Nat} (h : ¬ i = I) : (fun j => if j = I then d else c j) i = c i := if_neg h
theorem put_same {α : Type} (c : Nat → α) (I : Nat) : (fun j => if j = I then c I else c j) = c := by
  funext j
  show (if j = I then c I else c j) = c j
  by_cases q : j = I
  · rw [if_pos q, q]
  · rw [if_neg q]
theorem keptA.keep {be ke nk kez nkz km kmz : Nat} {c1 c2 c3 c5 e1 e2 e3 e5 : Nat → Nat → Int32} {nf kf lf pof d1 d2 d3 d5 f g gz : Nat → Int32} (h : keptA be ke nk c1 c2 c3 c5 km g) (hg : grpA be nf kf lf pof f) (hke : kez = mnK ke) (hnk : nkz = (nk + 1) % 8)
    (q1 : e1 = fun j => if j = nk then d1 else c1 j) (q2 : e2 = fun j => if j = nk then d2 else c2 j) (q3 : e3 = fun j => if j = nk then d3 else c3 j) (q5 : e5 = fun j => if j = nk then d5 else c5 j) (h1 : d1 = nf) (h2 : d2 = kf) (h3 : d3 = lf) (h5 : ∀ j, j < 8 → d5 j = pof j) (hm : kpdP km f g kmz gz) : keptA be kez nkz e1 e2 e3 e5 kmz gz := by
  obtain ⟨⟨hk1, hkm, hnk8⟩, hr⟩ := h
  obtain ⟨hkz, hgz⟩ := hm
  have new : ∀ (i r : Nat), i = nk → lowE f (fun j => gz (288 * r + j)) → grpA be (e1 i) (e2 i) (e3 i) (e5 i) (fun j => gz (288 * r + j)) := fun i r hi hl => by
    rw [q1, q2, q3, q5, hi]
    simp only [if_true]
    exact hg.congr (fun j _ => by rw [h1]) (fun j _ => by rw [h2]) (fun j _ => by rw [h3]) h5 hl
  have old : ∀ (i r s : Nat), ¬ i = nk → s < km → i = ixK nk km s → lowE (fun j => g (288 * s + j)) (fun j => gz (288 * r + j)) → grpA be (e1 i) (e2 i) (e3 i) (e5 i) (fun j => gz (288 * r + j)) := fun i r s hi hs hx hl => by
    rw [q1, q2, q3, q5]
    simp only [if_neg hi]
    rw [hx]
    exact (hr s hs).low hl
  by_cases q : km < 8
  · rw [if_pos q] at hkz
    have hk2 : kez = ke + 1 := by rw [hke]; unfold mnK; exact if_pos (by omega)
    refine ⟨⟨by omega, by omega, by omega⟩, fun r hr' => ?_⟩
    by_cases z : r = km
    · refine new _ r (by unfold ixK; omega) (fun j hj => ?_)
      show gz (288 * r + j) = f j
      rw [hgz _ (by omega)]
      unfold keepG
      rw [if_pos q, if_pos (by omega)]
      exact congrArg f (by omega)
    · refine old _ r r (by unfold ixK; omega) (by omega) (by unfold ixK; omega) (fun j hj => ?_)
      show gz (288 * r + j) = g (288 * r + j)
      rw [hgz _ (by omega)]
      unfold keepG
      rw [if_pos q, if_neg (by omega)]
  · rw [if_neg q] at hkz
    have hk2 : kez = 8 := by rw [hke]; unfold mnK; exact if_neg (by omega)
    refine ⟨⟨by omega, by omega, by omega⟩, fun r hr' => ?_⟩
    by_cases z : r = 7
    · refine new _ r (by unfold ixK; omega) (fun j hj => ?_)
      show gz (288 * r + j) = f j
      rw [hgz _ (by omega)]
      unfold keepG
      rw [if_neg q, if_pos (by omega)]
      exact congrArg f (by omega)
    · refine old _ r (r + 1) (by unfold ixK; omega) (by omega) (by unfold ixK; omega) (fun j hj => ?_)
      show gz (288 * r + j) = g (288 * (r + 1) + j)
      rw [hgz _ (by omega)]
      unfold keepG
      rw [if_neg q, if_neg (by omega)]
      exact congrArg g (by omega)
theorem keptA.same {be ke nk kez nkz km kmz : Nat} {c1 c2 c3 c5 e1 e2 e3 e5 : Nat → Nat → Int32} {d1 d2 d3 d5 g gz : Nat → Int32} {I : Nat} (h : keptA be ke nk c1 c2 c3 c5 km g) (hke : kez = ke) (hnk : nkz = nk)
    (q1 : e1 = fun j => if j = I then d1 else c1 j) (q2 : e2 = fun j => if j = I then d2 else c2 j) (q3 : e3 = fun j => if j = I then d3 else c3 j) (q5 : e5 = fun j => if j = I then d5 else c5 j) (h1 : d1 = c1 I) (h2 : d2 = c2 I) (h3 : d3 = c3 I) (h5 : d5 = c5 I) (hkm : kmz = km) (hgz : gz = g) : keptA be kez nkz e1 e2 e3 e5 kmz gz := by
  rw [q1, q2, q3, q5, h1, h2, h3, h5, put_same, put_same, put_same, put_same, hke, hnk, hkm, hgz]
  exact h
theorem keptA.back {be ke nk km : Nat} {c1 c2 c3 c5 : Nat → Nat → Int32} {g fz : Nat → Int32} (h : keptA be ke nk c1 c2 c3 c5 km g) (h0 : ¬ km = 0) (hf : ∀ j, j < 288 → fz j = g (288 * (km - 1) + j)) : grpA be (c1 ((nk + 7) % 8)) (c2 ((nk + 7) % 8)) (c3 ((nk + 7) % 8)) (c5 ((nk + 7) % 8)) fz ∧ keptA be (ke - 1) ((nk + 7) % 8) c1 c2 c3 c5 (km - 1) g := by
  obtain ⟨⟨hk1, hkm, hnk8⟩, hr⟩ := h
  constructor
  · have z := hr (km - 1) (by omega)
    rw [show ixK nk km (km - 1) = (nk + 7) % 8 by unfold ixK; omega] at z
    exact z.low (fun j hj => hf j (by omega))
  · refine ⟨⟨by omega, by omega, by omega⟩, fun r hr' => ?_⟩
    rw [show ixK ((nk + 7) % 8) (km - 1) r = ixK nk km r by unfold ixK; omega]
    exact hr r (by omega)
theorem keptA.zero {be nk : Nat} (c1 c2 c3 c5 : Nat → Nat → Int32) (g : Nat → Int32) (h : nk < 8) : keptA be 0 nk c1 c2 c3 c5 0 g := ⟨⟨rfl, by decide, h⟩, fun r hr => absurd hr (Nat.not_lt_zero _)⟩
