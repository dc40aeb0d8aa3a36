/-! an entry laid down, on both sides -/
section ENTB
variable {en t : Nat} {x y : Int32} {gsf g1f g2f gaf gpf gmf sof onf otf anf gz g1z g2z gaz gpz gmz soz onz otz anz : Nat → Int32}
theorem lin_eq (hg : gphR en gsf g1f g2f gaf gpf gmf sof onf otf anf) (hen : en ≤ 16) (hx : x = -1 ∨ ∃ j, j < en ∧ x = nI j) : linF gaf x = linF anf x ∧ ∀ k, k < 32 → hasB (linF anf x) k → k < en := by
  rcases hx with rfl | ⟨j, hj, rfl⟩
  · have e : ∀ f : Nat → Int32, linF f (-1) = nI 0 := fun f => if_pos rfl
    rw [e, e]
    exact ⟨rfl, fun k hk q => absurd q (hasB_0 hk)⟩
  · have e : ∀ f : Nat → Int32, linF f (nI j) = f j ||| bitI j := fun f => by unfold linF; rw [if_neg (nI_ne_m1 (by omega)), nI_clamp (by omega)]
    rw [e, e, (hg.1 j hj).2.2.2.1]
    refine ⟨rfl, fun k hk q => ?_⟩
    rcases (hasB_orbit (by omega) hk).mp q with w | w
    · have := (hg.1 j hj).2.2.2.2.2 k hk w; omega
    · omega
theorem gph_next (hg : gphR en gsf g1f g2f gaf gpf gmf sof onf otf anf) (hen : en < 16) (ht : t < 8) (hx : x = -1 ∨ ∃ j, j < en ∧ x = nI j) (hy : y = -1 ∨ ∃ j, j < en ∧ y = nI j) (hc : addC en t x y gsf g1f g2f gaf gpf gmf gz g1z g2z gaz gpz gmz)
    (h1 : soz = upd sof en (nI t)) (h2 : onz = upd onf en x) (h3 : otz = upd otf en y) (h4 : anz en = linF anf x ||| linF anf y) (h5 : ∀ j, ¬ j = en → anz j = anf j) : gphR (en + 1) gz g1z g2z gaz gpz gmz soz onz otz anz := by
  obtain ⟨c1, c2, c3, c4, c5, c6⟩ := hc
  obtain ⟨lx1, lx2⟩ := lin_eq hg (by omega) hx
  obtain ⟨ly1, ly2⟩ := lin_eq hg (by omega) hy
  have hw : linF gaf x ||| linF gaf y = anz en := by rw [lx1, ly1, h4]
  have hwb : ∀ k, k < 32 → hasB (anz en) k → k < en := fun k hk q => by
    rw [h4] at q
    rcases (hasB_or hk).mp q with w | w
    · exact lx2 k hk w
    · exact ly2 k hk w
  constructor
  · intro e he
    by_cases q : e = en
    · subst q
      refine ⟨by rw [c1, h1, upA, upA], by rw [c2, h2, upA, upA], by rw [c3, h3, upA, upA], by rw [c4, upA, hw], fun k hk => ?_, fun k hk w => hwb k hk w⟩
      rw [c5 e]
      have e0 : prgF gpf (linF gaf x ||| linF gaf y) e e e = nI 0 := by unfold prgF; rw [if_neg (Nat.lt_irrefl _), upA]
      rw [e0]
      refine ⟨fun w => absurd w (hasB_0 hk), fun ⟨w1, w2⟩ => ?_⟩
      by_cases z : k = e
      · subst z; have := hwb k hk w2; omega
      · rw [h5 k z] at w2
        have := (hg.1 k (by omega)).2.2.2.2.2 e (by omega) w2
        omega
    · obtain ⟨a1, a2, a3, a4, a5, a6⟩ := hg.1 e (by omega)
      refine ⟨by rw [c1, h1, upN _ _ q, upN _ _ q]; exact a1, by rw [c2, h2, upN _ _ q, upN _ _ q]; exact a2, by rw [c3, h3, upN _ _ q, upN _ _ q]; exact a3, by rw [c4, upN _ _ q, h5 e q]; exact a4, fun k hk => ?_, fun k hk w => by rw [h5 e q] at w; exact a6 k hk w⟩
      rw [c5 e]
      have e0 : prgF gpf (linF gaf x ||| linF gaf y) en en e = gpf e ||| (((anz en >>> ((nI e) &&& 31)) &&& (nI 1)) <<< ((nI en) &&& 31)) := by unfold prgF; rw [if_pos (by omega), hw]
      rw [e0, hasB_or hk, a5 k hk, one_bit (by omega) (by omega) hk]
      constructor
      · rintro (⟨w1, w2⟩ | ⟨w1, w2⟩)
        · exact ⟨by omega, by rw [h5 k (by omega)]; exact w2⟩
        · subst w1; exact ⟨by omega, w2⟩
      · rintro ⟨w1, w2⟩
        by_cases z : k = en
        · subst z; exact Or.inr ⟨rfl, w2⟩
        · rw [h5 k z] at w2; exact Or.inl ⟨by omega, w2⟩
  · intro s hs k hk
    rw [c6, h1]
    by_cases q : s = t
    · subst q
      rw [upA, hasB_orbit (by omega) hk, hg.2 s hs k hk]
      by_cases z : k = en
      · subst z; rw [upA]; exact ⟨fun _ => ⟨by omega, rfl⟩, fun _ => Or.inr rfl⟩
      · rw [upN _ _ z]
        constructor
        · rintro (⟨w1, w2⟩ | w1)
          · exact ⟨by omega, w2⟩
          · exact absurd w1 z
        · rintro ⟨w1, w2⟩; exact Or.inl ⟨by omega, w2⟩
    · rw [upN _ _ q, hg.2 s hs k hk]
      by_cases z : k = en
      · subst z
        rw [upA]
        exact ⟨fun w => absurd w.1 (Nat.lt_irrefl _), fun w => absurd ((nI_eq (by omega) (by omega)).mp w.2).symm q⟩
      · rw [upN _ _ z]
        exact ⟨fun w => ⟨by omega, w.2⟩, fun w => ⟨by omega, w.2⟩⟩
theorem mem_0 (hg : gphR en gsf g1f g2f gaf gpf gmf sof onf otf anf) (hen : en ≤ 16) (ht : t < 8) : gmf t = 0 ↔ ∀ e, e < en → ¬ sof e = nI t := by
  constructor
  · intro h e he q
    have := (hg.2 t ht e (by omega)).mpr ⟨he, q⟩
    rw [h] at this
    exact hasB_0 (by omega) this
  · intro h
    apply hasB_ext
    intro k hk
    rw [hg.2 t ht k hk]
    exact ⟨fun q => absurd q.2 (h k q.1), fun q => absurd q (hasB_0 hk)⟩
theorem vew_next {v : Nat} {se se' f g : Nat → Int32} {ch po : Int32} (hg : gphR en gsf g1f g2f gaf gpf gmf sof onf otf anf) (hen : en < 16) (ht : t < 8) (hv : v < 8) (h : vewR en sof ch po se f v) (hs : soz = upd sof en (nI t)) (he : entV en soz t 8 f g)
    (hse : (gmf t = 0 ∧ se' = upd se (t * 4 + 0) (nI en)) ∨ (¬ gmf t = 0 ∧ se' = se)) : vewR (en + 1) soz ch po se' g v := by
  obtain ⟨p, q⟩ := he
  obtain ⟨p1, p2⟩ := p v hv
  have so : ∀ e, e < en → soz e = sof e := fun e h1 => by rw [hs, upN _ _ (by omega)]
  have son : soz en = nI t := by rw [hs, upA]
  have e1 : ∀ j, (j < 88 ∨ 160 ≤ j) → g j = f j := fun j hj => q j (fun w hw => by omega)
  have ep : ∀ s, s < 8 → ¬ s = t → g (96 + (8 * v + s)) = f (96 + (8 * v + s)) := fun s h1 h2 => q _ (fun w hw => by omega)
  have ept : g (96 + (8 * v + t)) = (if f (96 + (8 * v + t)) < 0 then nI en else f (96 + (8 * v + t))) := by
    rw [show 96 + (8 * v + t) = 96 + 8 * v + t by omega]; exact p1
  obtain ⟨h1, h2, h3, h4, h5, h6, h7⟩ := h
  have hno : ¬ hasB (f (80 + v)) en := (h6 en (Nat.le_refl _) (by omega)).2.2.1
  have hpos : ∀ p : Nat, p < 16 → ¬ nI p < 0 := fun p hp => Int32.not_lt.mpr ((nI_leI (a := 0) (by decide) (by omega)).mpr (Nat.zero_le _))
  -- what is preferred in the set
  have hpt : (gmf t = 0 ∧ f (96 + (8 * v + t)) < 0) ∨ (¬ gmf t = 0 ∧ ¬ f (96 + (8 * v + t)) < 0) := by
    rcases h7 t ht with ⟨w1, w2⟩ | ⟨p, w1, w2, w3⟩
    · exact Or.inl ⟨(mem_0 hg (by omega) ht).mpr w2, by rw [w1]; decide⟩
    · exact Or.inr ⟨fun z => (mem_0 hg (by omega) ht).mp z p w1 w2, by rw [w3]; exact hpos p (by omega)⟩
  refine ⟨h1.trans (e1 _ (by omega)).symm, h2.trans (e1 _ (by omega)).symm, fun s hs' => ?_, ?_, ?_, ?_, fun s hs' => ?_⟩
  · obtain ⟨b0, b1, b2, b3⟩ := h3 s hs'
    have hse3 : ∀ i, i < 4 → ¬ (s = t ∧ i = 0) → se' (s * 4 + i) = se (s * 4 + i) := fun i hi hne => by
      rcases hse with ⟨_, rfl⟩ | ⟨_, rfl⟩
      · exact upN _ _ (by omega)
      · rfl
    refine ⟨?_, ?_, ?_, ?_⟩
    · by_cases z : s = t
      · subst z
        rcases hpt with ⟨w1, w2⟩ | ⟨w1, w2⟩
        · rcases hse with ⟨_, rfl⟩ | ⟨w3, _⟩
          · rw [upA, ept, if_pos w2]
          · exact absurd w1 w3
        · rcases hse with ⟨w3, _⟩ | ⟨_, rfl⟩
          · exact absurd w3 w1
          · rw [ept, if_neg w2]; exact b0
      · rw [hse3 0 (by decide) (fun w => z w.1), ep s hs' z]; exact b0
    · rw [hse3 1 (by decide) (by omega), e1 _ (by omega)]; exact b1
    · rw [hse3 2 (by decide) (by omega), e1 _ (by omega)]; exact b2
    · rw [hse3 3 (by decide) (by omega)]
      unfold accM at *
      rw [e1 (80 + v) (by omega)]
      rcases b3 with ⟨e, he, w1, w2, w3⟩ | ⟨w1, w2⟩
      · exact Or.inl ⟨e, by omega, by rw [so e he]; exact w1, w2, w3⟩
      · refine Or.inr ⟨fun e he w3 w4 => ?_, w2⟩
        by_cases z : e = en
        · subst z; exact hno w4
        · rw [so e (by omega)] at w3; exact w1 e (by omega) w3 w4
  · intro e e' he he' w1 w2 w3
    rw [e1 (80 + v) (by omega)] at w1 w2
    have z1 : e < en := by
      by_cases z : e = en
      · subst z; exact absurd w1 hno
      · omega
    have z2 : e' < en := by
      by_cases z : e' = en
      · subst z; exact absurd w2 hno
      · omega
    rw [so e z1, so e' z2] at w3
    exact h4 e e' z1 z2 w1 w2 w3
  · intro e he
    rw [e1 (80 + v) (by omega)]
    by_cases z : e = en
    · subst z
      rcases p2 with ⟨⟨e', w1, w2, w3⟩, w4⟩ | ⟨w1, w4⟩
      · rw [w4, hasB_orbit (by omega) (by omega)]
        refine ⟨fun _ => ⟨e', w1, fun y => hno (y ▸ w3), w2.trans son.symm, w3⟩, fun _ => Or.inr rfl⟩
      · rw [w4]
        refine ⟨fun y => absurd y (h6 e (Nat.le_refl _) (by omega)).2.2.2, fun ⟨e', y1, y2, y3, y4⟩ => absurd y4 (w1 e' y1 (y3.trans son))⟩
    · have hb : hasB (g (88 + v)) e ↔ hasB (f (88 + v)) e := by
        rcases p2 with ⟨_, w4⟩ | ⟨_, w4⟩
        · rw [w4, hasB_orbit (by omega) (by omega)]
          exact ⟨fun y => y.elim id (fun y => absurd y z), Or.inl⟩
        · rw [w4]
      rw [hb, h5 e (by omega)]
      constructor
      · rintro ⟨e', w1, w2, w3, w4⟩
        exact ⟨e', by omega, w2, by rw [so e' w1, so e (by omega)]; exact w3, w4⟩
      · rintro ⟨e', w1, w2, w3, w4⟩
        have y : e' < en := by
          by_cases y : e' = en
          · subst y; exact absurd w4 hno
          · omega
        rw [so e' y, so e (by omega)] at w3
        exact ⟨e', y, w2, w3, w4⟩
  · intro k hk1 hk2
    obtain ⟨w1, w2, w3, w4⟩ := h6 k (by omega) hk2
    rw [e1 (64 + v) (by omega), e1 (72 + v) (by omega), e1 (80 + v) (by omega)]
    refine ⟨w1, w2, w3, fun y => ?_⟩
    rcases p2 with ⟨_, w5⟩ | ⟨_, w5⟩
    · rw [w5] at y
      rcases (hasB_orbit (by omega) hk2).mp y with u | u
      · exact w4 u
      · omega
    · rw [w5] at y; exact w4 y
  · by_cases z : s = t
    · subst z
      rw [ept]
      by_cases w : f (96 + (8 * v + s)) < 0
      · rw [if_pos w]; exact Or.inr ⟨en, by omega, son, rfl⟩
      · rw [if_neg w]
        rcases h7 s hs' with ⟨w1, _⟩ | ⟨p, w1, w2, w3⟩
        · rw [w1] at w; exact absurd (by decide) w
        · exact Or.inr ⟨p, by omega, by rw [so p w1]; exact w2, w3⟩
    · rw [ep s hs' z]
      rcases h7 s hs' with ⟨w1, w2⟩ | ⟨p, w1, w2, w3⟩
      · refine Or.inl ⟨w1, fun e he y => ?_⟩
        by_cases u : e = en
        · subst u; exact z ((nI_eq (by omega) (by omega)).mp (y.symm.trans son))
        · rw [so e (by omega)] at y; exact w2 e (by omega) y
      · exact Or.inr ⟨p, by omega, by rw [so p w1]; exact w2, w3⟩
end ENTB
