/-! a poll on both sides, step by step -/
theorem upA (f : Nat → Int32) (i : Nat) (x : Int32) : upd f i x i = x := if_pos rfl
theorem upN (f : Nat → Int32) {i j : Nat} (x : Int32) (h : ¬ j = i) : upd f i x j = f j := if_neg h
section VREL2
variable {en v : Nat} {gsf g1f g2f gaf gpf gmf sof onf otf anf : Nat → Int32}
theorem vewR.bld {se se' f g : Nat → Int32} {ch po : Int32} (h : vewR en sof ch po se f v) (a1 : g (64 + v) = f (64 + v)) (a2 : g (72 + v) = f (72 + v)) (a3 : g (80 + v) = f (80 + v)) (a4 : g (88 + v) = f (88 + v)) (c0 : ∀ t, t < 8 → se' (t * 4 + 0) = g (96 + (8 * v + t)) ∧ se' (t * 4 + 1) = g (160 + (8 * v + t)) ∧ se' (t * 4 + 2) = g (224 + (8 * v + t)) ∧ se' (t * 4 + 3) = se (t * 4 + 3))
    (hp : ∀ t, t < 8 → (g (96 + (8 * v + t)) = -1 ∧ ∀ e, e < en → ¬ sof e = nI t) ∨ ∃ p, p < en ∧ sof p = nI t ∧ g (96 + (8 * v + t)) = nI p) : vewR en sof ch po se' g v := by
  obtain ⟨h1, h2, h3, h4, h5, h6, h7⟩ := h
  refine ⟨h1.trans a1.symm, h2.trans a2.symm, fun t ht => ?_, ?_, ?_, ?_, hp⟩
  · obtain ⟨d0, d1, d2, d3⟩ := c0 t ht
    refine ⟨d0, d1, d2, ?_⟩
    rw [d3]
    have := (h3 t ht).2.2.2
    unfold accM at *
    rw [a3]; exact this
  · rw [a3]; exact h4
  · rw [a3, a4]; exact h5
  · rw [a1, a2, a3, a4]; exact h6
theorem vewR.cnt {se f : Nat → Int32} {ch po : Int32} (h : vewR en sof ch po se f v) (hv : v < 8) {t : Nat} (ht : t < 8) (x : Int32) : vewR en sof ch po (upd se (t * 4 + 2) x) (upd f (224 + (8 * v + t)) x) v := by
  refine h.bld (upN _ _ (by omega)) (upN _ _ (by omega)) (upN _ _ (by omega)) (upN _ _ (by omega)) (fun s hs => ?_) (fun s hs => ?_)
  · obtain ⟨b0, b1, b2, b3⟩ := h.2.2.1 s hs
    refine ⟨?_, ?_, ?_, upN _ _ (by omega)⟩
    · rw [upN _ _ (by omega), upN _ _ (by omega)]; exact b0
    · rw [upN _ _ (by omega), upN _ _ (by omega)]; exact b1
    · by_cases q : s = t
      · subst q; rw [upA, upA]
      · rw [upN _ _ (by omega), upN _ _ (by omega)]; exact b2
  · rw [upN _ _ (by omega)]; exact h.2.2.2.2.2.2 s hs
theorem vewR.lst {se f : Nat → Int32} {ch po : Int32} (h : vewR en sof ch po se f v) (hv : v < 8) {t : Nat} (ht : t < 8) (x : Int32) : vewR en sof ch po (upd se (t * 4 + 1) x) (upd f (160 + (8 * v + t)) x) v := by
  refine h.bld (upN _ _ (by omega)) (upN _ _ (by omega)) (upN _ _ (by omega)) (upN _ _ (by omega)) (fun s hs => ?_) (fun s hs => ?_)
  · obtain ⟨b0, b1, b2, b3⟩ := h.2.2.1 s hs
    refine ⟨?_, ?_, ?_, upN _ _ (by omega)⟩
    · rw [upN _ _ (by omega), upN _ _ (by omega)]; exact b0
    · by_cases q : s = t
      · subst q; rw [upA, upA]
      · rw [upN _ _ (by omega), upN _ _ (by omega)]; exact b1
    · rw [upN _ _ (by omega), upN _ _ (by omega)]; exact b2
  · rw [upN _ _ (by omega)]; exact h.2.2.2.2.2.2 s hs
theorem vewR.prf {se f : Nat → Int32} {ch po : Int32} (h : vewR en sof ch po se f v) (hv : v < 8) {t k : Nat} (ht : t < 8) (hk : k < en) (hs : sof k = nI t) : vewR en sof ch po (upd se (t * 4 + 0) (nI k)) (upd f (96 + (8 * v + t)) (nI k)) v := by
  refine h.bld (upN _ _ (by omega)) (upN _ _ (by omega)) (upN _ _ (by omega)) (upN _ _ (by omega)) (fun s hs => ?_) (fun s hs' => ?_)
  · obtain ⟨b0, b1, b2, b3⟩ := h.2.2.1 s hs
    refine ⟨?_, ?_, ?_, upN _ _ (by omega)⟩
    · by_cases q : s = t
      · subst q; rw [upA, upA]
      · rw [upN _ _ (by omega), upN _ _ (by omega)]; exact b0
    · rw [upN _ _ (by omega), upN _ _ (by omega)]; exact b1
    · rw [upN _ _ (by omega), upN _ _ (by omega)]; exact b2
  · by_cases q : s = t
    · subst q; rw [upA]; exact Or.inr ⟨k, hk, hs, rfl⟩
    · rw [upN _ _ (by omega)]; exact h.2.2.2.2.2.2 s hs'
/-- one entry of the line, where yes is lost -/
theorem los_step {se m g : Nat → Int32} {f f' : Nat → Int32} {ch po th : Int32} {o : Nat} (hg : gphR en gsf g1f g2f gaf gpf gmf sof onf otf anf) (h : vewR en sof ch po m f v) (hv : v < 8) (hso : inP 16 8 sof) (hen : en ≤ 16) (ho : o < en)
    (hc : (opnC gsf th m o ∧ g = upd m (sT gsf o * 4 + 2) (nI 0)) ∨ (¬ opnC gsf th m o ∧ g = m)) (hm : ((hasB th o ∧ ∀ e, e < en → sof e = sof o → ¬ hasB (f (80 + v)) e) ∧ mrkM en sof anf v o (nI 0) f f') ∨ (¬ (hasB th o ∧ ∀ e, e < en → sof e = sof o → ¬ hasB (f (80 + v)) e) ∧ f' = f)) : vewR en sof ch po g f' v := by
  have ho' := open_iff h (hg.1 o ho).1 hso (by omega) hen
  have h8 := (sT_eq hso (show o < 16 by omega)).1
  rcases hc with ⟨⟨c1, c2⟩, rfl⟩ | ⟨c1, rfl⟩
  · rcases hm with ⟨_, d⟩ | ⟨d, _⟩
    · rcases d with ⟨_, rfl⟩ | ⟨d, _⟩
      · rw [sT_c (hg.1 o ho).1]; exact h.cnt hv h8 _
      · exact absurd rfl d
    · exact absurd ⟨c1, ho'.mp c2⟩ d
  · rcases hm with ⟨⟨d1, d2⟩, _⟩ | ⟨_, rfl⟩
    · exact absurd ⟨d1, ho'.mpr d2⟩ c1
    · exact h
theorem los_sim {ch po th : Int32} {se f : Nat → Int32} (hg : gphR en gsf g1f g2f gaf gpf gmf sof onf otf anf) (hv : v < 8) (hso : inP 16 8 sof) (hen : en ≤ 16) (h : vewR en sof ch po se f v) : ∀ o, o ≤ en → ∀ g f', losC gsf th o se g → mksM en sof anf v th (nI 0) o f f' → vewR en sof ch po g f' v := by
  intro o
  induction o with
  | zero => intro _ g f' h1 h2; replace h1 : g = se := h1; replace h2 : f' = f := h2; rw [h1, h2]; exact h
  | succ o ih =>
    rintro ho g f' ⟨m, h1, h2⟩ ⟨m', h3, h4⟩
    exact los_step (se := se) hg (ih (by omega) m m' h1 h3) hv hso hen (by omega) h2 h4
theorem gai_step {m g : Nat → Int32} {f f' : Nat → Int32} {ch po th : Int32} {o : Nat} (hg : gphR en gsf g1f g2f gaf gpf gmf sof onf otf anf) (h : vewR en sof ch po m f v) (hv : v < 8) (hso : inP 16 8 sof) (hen : en ≤ 16) (ho : o < en)
    (hc : (opnC gsf th m o ∧ gaP gpf ch (sT gsf o) o m g) ∨ (¬ opnC gsf th m o ∧ g = m)) (hm : ((hasB th o ∧ ∀ e, e < en → sof e = sof o → ¬ hasB (f (80 + v)) e) ∧ mrkM en sof anf v o (nI 1) f f') ∨ (¬ (hasB th o ∧ ∀ e, e < en → sof e = sof o → ¬ hasB (f (80 + v)) e) ∧ f' = f)) : vewR en sof ch po g f' v := by
  have ho' := open_iff h (hg.1 o ho).1 hso (by omega) hen
  obtain ⟨h8, hs8⟩ := sT_eq hso (show o < 16 by omega)
  rcases hc with ⟨⟨c1, c2⟩, c3⟩ | ⟨c1, rfl⟩
  · rcases hm with ⟨_, d⟩ | ⟨d, _⟩
    · rcases d with ⟨d, _⟩ | ⟨_, p, k1, k2, m', hp, hk1, hk2, hfp, hcf1, hcf2, d1, d2⟩
      · exact absurd d (by decide)
      · rw [sT_c (hg.1 o ho).1] at c3
        have hpe : p < en := by
          rcases h.2.2.2.2.2.2 _ h8 with ⟨_, q⟩ | ⟨p', hp', _, q⟩
          · exact absurd hs8 (q o ho)
          · have := (nI_eq (by omega) (by omega)).mp (hfp.symm.trans q)
            omega
        have hpm : m (sT sof o * 4 + 0) = nI p := (h.2.2.1 _ h8).1.trans hfp
        have hch := h.1
        have hhi : ∀ k, en ≤ k → k < 32 → ¬ hasB (f (64 + v)) k := fun k h1 h2 => (h.2.2.2.2.2.1 k h1 h2).1
        have e1 := cnf_eq hg ho hen hhi hcf1
        have e2 := cnf_eq hg hpe hen hhi hcf2
        rw [← hch] at e1 e2
        obtain ⟨mc, c4, c5⟩ := c3
        have hcond : prfC gpf ch (sT sof o) o m ↔ k2 < k1 := by
          unfold prfC
          rw [hpm, nI_clamp (by omega), e1, e2, nI_ltI (by omega) (by omega)]
          exact ⟨fun q => q.elim (fun z => absurd z (nI_ne_m1 (by omega))) id, Or.inr⟩
        have hmid : vewR en sof ch po mc m' v := by
          rcases c4 with ⟨c6, rfl⟩ | ⟨c6, rfl⟩
          · rcases d1 with ⟨_, rfl⟩ | ⟨d3, _⟩
            · exact h.prf hv h8 ho hs8
            · exact absurd (hcond.mp c6) d3
          · rcases d1 with ⟨d3, _⟩ | ⟨_, rfl⟩
            · exact absurd (hcond.mpr d3) c6
            · exact h
        have hl := (hmid.2.2.1 _ h8).2.1
        have hn := (hmid.2.2.1 _ h8).2.2.1
        rcases c5 with ⟨c6, rfl⟩ | ⟨c6, rfl⟩
        · rcases d2 with ⟨_, rfl⟩ | ⟨d3, _⟩
          · rw [hn]; exact hmid.cnt hv h8 _
          · exact absurd (hl.symm.trans c6) d3
        · rcases d2 with ⟨d3, _⟩ | ⟨_, rfl⟩
          · exact absurd (hl.trans d3) c6
          · exact (hmid.lst hv h8 _).cnt hv h8 _
    · exact absurd ⟨c1, ho'.mp c2⟩ d
  · rcases hm with ⟨⟨d1, d2⟩, _⟩ | ⟨_, rfl⟩
    · exact absurd ⟨d1, ho'.mpr d2⟩ c1
    · exact h
theorem gai_sim {ch po th : Int32} {se f : Nat → Int32} (hg : gphR en gsf g1f g2f gaf gpf gmf sof onf otf anf) (hv : v < 8) (hso : inP 16 8 sof) (hen : en ≤ 16) (h : vewR en sof ch po se f v) : ∀ o, o ≤ en → ∀ g f', gaiC gsf gpf ch th o se g → mksM en sof anf v th (nI 1) o f f' → vewR en sof ch po g f' v := by
  intro o
  induction o with
  | zero => intro _ g f' h1 h2; replace h1 : g = se := h1; replace h2 : f' = f := h2; rw [h1, h2]; exact h
  | succ o ih =>
    rintro ho g f' ⟨m, h1, h2⟩ ⟨m', h3, h4⟩
    exact gai_step hg (ih (by omega) m m' h1 h3) hv hso hen (by omega) h2 h4
theorem bit_eq {x : Int32} {j : Nat} (hj : j < 31) : x = bitI j ↔ ∀ k, k < 32 → (hasB x k ↔ k = j) := by
  constructor
  · rintro rfl k hk; exact hasB_bit hj hk
  · intro h; exact hasB_ext (fun k hk => (h k hk).trans (hasB_bit hj hk).symm)
theorem alo_iff {o : Nat} (hg : gphR en gsf g1f g2f gaf gpf gmf sof onf otf anf) (hso : inP 16 8 sof) (hen : en ≤ 16) (ho : o < en) : gmf (sT gsf o) = bitI o ↔ aloM en sof o := by
  obtain ⟨h8, hs8⟩ := sT_eq hso (show o < 16 by omega)
  rw [sT_c (hg.1 o ho).1, bit_eq (by omega)]
  constructor
  · intro h i hi hne he
    exact hne ((h i (by omega)).mp ((hg.2 _ h8 i (by omega)).mpr ⟨hi, he.trans hs8⟩))
  · intro h k hk
    rw [hg.2 _ h8 k hk]
    constructor
    · rintro ⟨q1, q2⟩
      apply Decidable.byContradiction
      intro z
      exact h k q1 z (q2.trans hs8.symm)
    · rintro rfl; exact ⟨ho, hs8⟩
theorem std_1 {se f : Nat → Int32} {ch po : Int32} {i : Nat} (hg : gphR en gsf g1f g2f gaf gpf gmf sof onf otf anf) (h : vewR en sof ch po se f v) (hso : inP 16 8 sof) (hen : en ≤ 16) (hi : i < en) : stdF (se (sT gsf i * 4 + 3)) i = nI 1 ↔ hasB (f (80 + v)) i := by
  obtain ⟨h8, hs8⟩ := sT_eq hso (show i < 16 by omega)
  rw [sT_c (hg.1 i hi).1]
  have ha := (h.2.2.1 _ h8).2.2.2
  rw [← hs8] at ha
  unfold stdF
  rcases ha with ⟨e, he, h1, h2, h3⟩ | ⟨h1, h2⟩
  · rw [h3, if_neg (nI_ne_m1 (by omega))]
    by_cases q : e = i
    · subst q; rw [if_pos rfl]; exact ⟨fun _ => h2, fun _ => rfl⟩
    · rw [if_neg (fun z => q ((nI_eq (by omega) (by omega)).mp z))]
      exact ⟨fun z => absurd z (by decide), fun z => absurd (h.2.2.2.1 e i he hi h2 z h1) q⟩
  · rw [h2, if_pos rfl]
    exact ⟨fun z => absurd z (by decide), fun z => absurd z (h1 i hi rfl)⟩
theorem parB_bit {e i : Nat} (hi : i < 16) (h1 : g1f e = -1 ∨ ∃ j, j < 16 ∧ g1f e = nI j) (h2 : g2f e = -1 ∨ ∃ j, j < 16 ∧ g2f e = nI j) : hasB (parB g1f g2f e) i ↔ g1f e = nI i ∨ g2f e = nI i := by
  have key : ∀ x : Int32, (x = -1 ∨ ∃ j, j < 16 ∧ x = nI j) → (hasB (if x = -1 then nI 0 else (nI 1) <<< (x &&& 31)) i ↔ x = nI i) := fun x hx => by
    rcases hx with rfl | ⟨j, hj, rfl⟩
    · rw [if_pos rfl]
      exact ⟨fun q => absurd q (hasB_0 (by omega)), fun q => absurd q.symm (nI_ne_m1 (by omega))⟩
    · rw [if_neg (nI_ne_m1 (by omega))]
      rw [show ((nI 1) <<< ((nI j) &&& 31)) = bitI j from rfl, hasB_bit (by omega) (by omega), nI_eq (by omega) (by omega)]
      exact eq_comm
  unfold parB
  rw [hasB_or (by omega), key _ h1, key _ h2]
theorem ara_iff {se f : Nat → Int32} {ch po : Int32} {e : Nat} (hg : gphR en gsf g1f g2f gaf gpf gmf sof onf otf anf) (h : vewR en sof ch po se f v) (hso : inP 16 8 sof) (hen : en ≤ 16) (he : e < en) (hon : parF en onf) (hot : parF en otf) : araC en gsf se (parB g1f g2f e) ↔ araM onf otf f v e := by
  obtain ⟨_, g1, g2, _⟩ := hg.1 e he
  have p1 : onf e = -1 ∨ ∃ j, j < 16 ∧ onf e = nI j := (hon e he).imp id (fun ⟨j, hj, q⟩ => ⟨j, by omega, q⟩)
  have p2 : otf e = -1 ∨ ∃ j, j < 16 ∧ otf e = nI j := (hot e he).imp id (fun ⟨j, hj, q⟩ => ⟨j, by omega, q⟩)
  have hb : ∀ i, i < 16 → (hasB (parB g1f g2f e) i ↔ onf e = nI i ∨ otf e = nI i) := fun i hi => by
    rw [← g1, ← g2]
    rw [← g1] at p1; rw [← g2] at p2
    exact parB_bit hi p1 p2
  constructor
  · intro q
    constructor
    · intro j hj e1
      have hje : j < en := by
        rcases hon e he with z | ⟨i, hi, z⟩
        · exact absurd (z.symm.trans e1).symm (nI_ne_m1 (by omega))
        · have := (nI_eq (by omega) (by omega)).mp (z.symm.trans e1); omega
      exact (std_1 hg h hso hen hje).mp (q j hje ((hb j hj).mpr (Or.inl e1)))
    · intro j hj e1
      have hje : j < en := by
        rcases hot e he with z | ⟨i, hi, z⟩
        · exact absurd (z.symm.trans e1).symm (nI_ne_m1 (by omega))
        · have := (nI_eq (by omega) (by omega)).mp (z.symm.trans e1); omega
      exact (std_1 hg h hso hen hje).mp (q j hje ((hb j hj).mpr (Or.inr e1)))
  · rintro ⟨q1, q2⟩ i hi hbi
    rw [std_1 hg h hso hen hi]
    rcases (hb i (by omega)).mp hbi with z | z
    · exact q1 i (by omega) z
    · exact q2 i (by omega) z
theorem rip_iff {be : Nat} {ea : Int32} {se f : Nat → Int32} {ch po th : Int32} {o : Nat} (hg : gphR en gsf g1f g2f gaf gpf gmf sof onf otf anf) (h : vewR en sof ch po se f v) (hso : inP 16 8 sof) (hen : en ≤ 16) (ho : o < en) (hon : parF en onf) (hot : parF en otf) : (opnC gsf th se o ∧ ripC en be ea gsf g1f g2f gmf (sT gsf o) o se) ↔ (hasB th o ∧ ripM en be ea sof onf otf v o f) := by
  have ho' := open_iff h (hg.1 o ho).1 hso (by omega) hen
  obtain ⟨h8, hs8⟩ := sT_eq hso (show o < 16 by omega)
  obtain ⟨b0, b1, b2, b3⟩ := h.2.2.1 _ h8
  unfold opnC ripC ripM
  rw [ho', alo_iff hg hso hen ho, ara_iff hg h hso hen ho hon hot, sT_c (hg.1 o ho).1, b0, b1, b2]
  constructor
  · rintro ⟨⟨q1, q2⟩, q3, q4, q5⟩
    exact ⟨q1, q2, q3, q4, q5.imp id (fun ⟨z1, z2, z3⟩ => ⟨z2, z3, z1⟩)⟩
  · rintro ⟨q1, q2, q3, q4, q5⟩
    exact ⟨⟨q1, q2⟩, q3, q4, q5.imp id (fun ⟨z1, z2, z3⟩ => ⟨z3, z1, z2⟩)⟩
theorem vewR.acc {se f g : Nat → Int32} {ch po : Int32} (h : vewR en sof ch po se f v) (hv : v < 8) {k : Nat} (hk : k < en) (hso : inP 16 8 sof) (hen : en ≤ 16) (hno : ∀ e, e < en → sof e = sof k → ¬ hasB (f (80 + v)) e) (hr : rejM en sof v k f g) : vewR en sof ch po (upd se (sT sof k * 4 + 3) (nI k)) g v := by
  obtain ⟨h8, hs8⟩ := sT_eq hso (show k < 16 by omega)
  obtain ⟨r1, r2⟩ := hr
  have e1 : ∀ j, ¬ j = 88 + v → ¬ j = 80 + v → g j = f j := fun j q1 q2 => (r1 j q1).trans (upN _ _ q2)
  have e80 : g (80 + v) = f (80 + v) ||| bitI k := (r1 _ (by omega)).trans (upA _ _ _)
  have hb : ∀ i, i < 32 → (hasB (g (80 + v)) i ↔ hasB (f (80 + v)) i ∨ i = k) := fun i hi => by rw [e80, hasB_orbit (by omega) hi]
  obtain ⟨h1, h2, h3, h4, h5, h6, h7⟩ := h
  refine ⟨h1.trans (e1 _ (by omega) (by omega)).symm, h2.trans (e1 _ (by omega) (by omega)).symm, fun t ht => ?_, ?_, ?_, ?_, fun t ht => ?_⟩
  · obtain ⟨b0, b1, b2, b3⟩ := h3 t ht
    refine ⟨?_, ?_, ?_, ?_⟩
    · rw [upN _ _ (by omega), e1 _ (by omega) (by omega)]; exact b0
    · rw [upN _ _ (by omega), e1 _ (by omega) (by omega)]; exact b1
    · rw [upN _ _ (by omega), e1 _ (by omega) (by omega)]; exact b2
    · by_cases q : t = sT sof k
      · subst q
        rw [upA]
        exact Or.inl ⟨k, hk, hs8, (hb k (by omega)).mpr (Or.inr rfl), rfl⟩
      · rw [upN _ _ (by omega)]
        rcases b3 with ⟨e, he, q1, q2, q3⟩ | ⟨q1, q2⟩
        · exact Or.inl ⟨e, he, q1, (hb e (by omega)).mpr (Or.inl q2), q3⟩
        · refine Or.inr ⟨fun e he he2 hbe => ?_, q2⟩
          rcases (hb e (by omega)).mp hbe with z | z
          · exact q1 e he he2 z
          · subst z
            exact q ((nI_eq (by omega) (by omega)).mp (he2.symm.trans hs8))
  · intro e e' he he' q1 q2 q3
    rcases (hb e (by omega)).mp q1 with z | z <;> rcases (hb e' (by omega)).mp q2 with w | w
    · exact h4 e e' he he' z w q3
    · subst w; exact absurd z (hno e he q3)
    · subst z; exact absurd w (hno e' he' q3.symm)
    · rw [z, w]
  · intro e he
    rw [r2 e (by omega), h5 e he]
    constructor
    · rintro (⟨e', q1, q2, q3, q4⟩ | ⟨_, q2, q3⟩)
      · exact ⟨e', q1, q2, q3, (hb e' (by omega)).mpr (Or.inl q4)⟩
      · exact ⟨k, hk, fun z => q2 z.symm, q3.symm, (hb k (by omega)).mpr (Or.inr rfl)⟩
    · rintro ⟨e', q1, q2, q3, q4⟩
      rcases (hb e' (by omega)).mp q4 with z | z
      · exact Or.inl ⟨e', q1, q2, q3, z⟩
      · subst z; exact Or.inr ⟨he, fun w => q2 w.symm, q3.symm⟩
  · intro j h1' h2'
    obtain ⟨a1, a2, a3, a4⟩ := h6 j h1' h2'
    refine ⟨?_, ?_, fun z => ?_, fun z => ?_⟩
    · rw [e1 _ (by omega) (by omega)]; exact a1
    · rw [e1 _ (by omega) (by omega)]; exact a2
    · rcases (hb j h2').mp z with w | w
      · exact a3 w
      · omega
    · rcases (r2 j h2').mp z with w | w
      · exact a4 w
      · omega
  · rw [e1 _ (by omega) (by omega)]; exact h7 t ht
theorem acc_sim {be : Nat} {ea : Int32} {ch po th : Int32} {se f : Nat → Int32} (hg : gphR en gsf g1f g2f gaf gpf gmf sof onf otf anf) (hv : v < 8) (hso : inP 16 8 sof) (hen : en ≤ 16) (hon : parF en onf) (hot : parF en otf) (h : vewR en sof ch po se f v) : ∀ o, o ≤ en → ∀ g b f' b', accC en be ea gsf g1f g2f gmf th o se g b → acsM en be ea sof onf otf v th o f f' b' → b = b' ∧ vewR en sof ch po g f' v := by
  intro o
  induction o with
  | zero =>
    rintro _ g b f' b' ⟨h1, h2⟩ ⟨h3, h4⟩
    rw [h1, h3, h2, h4]; exact ⟨rfl, h⟩
  | succ o ih =>
    rintro ho g b f' b' ⟨m, c, h1, h2⟩ ⟨m', c', h3, h4⟩
    obtain ⟨ih1, ih2⟩ := ih (by omega) m c m' c' h1 h3
    have hi := rip_iff (be := be) (ea := ea) (th := th) hg ih2 hso hen (show o < en by omega) hon hot
    rcases h2 with ⟨q1, q2, q3⟩ | ⟨q1, q2, q3⟩
    · rcases h4 with ⟨w1, w2, w3⟩ | ⟨w1, _⟩
      · refine ⟨q3.trans w3.symm, ?_⟩
        rw [q2, sT_c (hg.1 o (by omega)).1]
        exact ih2.acc hv (by omega) hso hen w1.2.1 w2
      · exact absurd (hi.mp q1) w1
    · rcases h4 with ⟨w1, _⟩ | ⟨w1, w2, w3⟩
      · exact absurd (hi.mpr w1) q1
      · rw [q2, w2, q3, w3]; exact ⟨ih1, ih2⟩
end VREL2
