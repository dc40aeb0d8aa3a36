/-! a poll on both sides -/
section VREL3
variable {n al be en : Nat} {ea : Int32} {gsf g1f g2f gaf gpf gmf sof onf otf anf : Nat → Int32}
/-- all views -/
def vwsR (en : Nat) (sof chf pof : Nat → Int32) (sef : Nat → Nat → Int32) (f : Nat → Int32) : Prop := ∀ v, v < 8 → vewR en sof (chf v) (pof v) (sef v) f v
theorem sys_iff {kf lf chf pof f : Nat → Int32} {sef : Nat → Nat → Int32} {sx x : Int32} {i o e : Nat} (hg : gphR en gsf g1f g2f gaf gpf gmf sof onf otf anf) (hv : vwsR en sof chf pof sef f) (hso : inP 16 8 sof) (hen : en ≤ 16) (he : e < en) (hi : i < 8) (ho : o < 8) (hk : kf o = f (48 + o)) (hl : hasB (lf i) o ↔ hasB (f (56 + i)) o) (hsx : PQ (strC gaf gsf (sef i) e) sx (nI 1) (nI 0)) :
    (hasB x o ∧ hasB (lf i) o ∧ sysC kf gaf gsf sef o e sx) ↔ (hasB x o ∧ sysM en sof anf f o i e) := by
  have h1 := str_iff hg (hv o ho) hso hen he
  have h2 := str_iff hg (hv i hi) hso hen he
  have h3 : sx = nI 0 ↔ ¬ strM en sof anf f i e := by
    rcases hsx with ⟨q, rfl⟩ | ⟨q, rfl⟩
    · exact ⟨fun z => absurd z (by decide), fun z => absurd (h2.mp q) z⟩
    · exact ⟨fun _ z => q (h2.mpr z), fun _ => rfl⟩
  unfold sysC sysM
  rw [hk, hl, h1, h3]
  exact Iff.rfl
theorem yes_eq {kf lf chf pof f : Nat → Int32} {sef : Nat → Nat → Int32} {sx x : Int32} {i e : Nat} (hg : gphR en gsf g1f g2f gaf gpf gmf sof onf otf anf) (hv : vwsR en sof chf pof sef f) (hso : inP 16 8 sof) (hen : en ≤ 16) (he : e < en) (hi : i < 8) (hk : ∀ o, o < 8 → kf o = f (48 + o)) (hl : ∀ o, o < 8 → (hasB (lf i) o ↔ hasB (f (56 + i)) o)) (hsx : PQ (strC gaf gsf (sef i) e) sx (nI 1) (nI 0)) : ∀ o, o ≤ 8 → ∀ c c', yesC lf kf gaf gsf sef i e x sx o c → yesM en sof anf f i e x o c' → c = c' := by
  intro o
  induction o with
  | zero => intro _ c c' h1 h2; exact (show c = 0 from h1).trans (show c' = 0 from h2).symm
  | succ o ih =>
    rintro ho c c' ⟨d, h1, h2⟩ ⟨d', h3, h4⟩
    have e1 := ih (by omega) d d' h1 h3
    have hi' := sys_iff (x := x) hg hv hso hen he hi (show o < 8 by omega) (hk o (by omega)) (hl o (by omega)) hsx
    rcases h2 with ⟨q1, q2⟩ | ⟨q1, q2⟩ <;> rcases h4 with ⟨w1, w2⟩ | ⟨w1, w2⟩
    · omega
    · exact absurd (hi'.mp q1) w1
    · exact absurd (hi'.mpr w1) q1
    · omega
/-- where no is said nothing is accepted -/
def zroM (en : Nat) (sof : Nat → Int32) (v : Nat) (th : Int32) (o : Nat) (f : Nat → Int32) : Prop := ∀ k, k < o → hasB th k → (∀ e, e < en → sof e = sof k → ¬ hasB (f (80 + v)) e) → f (224 + (8 * v + sT sof k)) = nI 0
theorem zro_mks {v : Nat} {th : Int32} {f : Nat → Int32} (hv : v < 8) (hso : inP 16 8 sof) (hen : en ≤ 16) : ∀ o, o ≤ en → ∀ g, mksM en sof anf v th (nI 0) o f g → zroM en sof v th o g ∧ g (80 + v) = f (80 + v) := by
  intro o
  induction o with
  | zero => intro _ g h; replace h : g = f := h; rw [h]; exact ⟨fun k hk => absurd hk (Nat.not_lt_zero _), rfl⟩
  | succ o ih =>
    rintro ho g ⟨m, h1, h2⟩
    obtain ⟨z1, z2⟩ := ih (by omega) m h1
    have h8 := (sT_eq hso (show o < 16 by omega)).1
    rcases h2 with ⟨_, h2⟩ | ⟨h2, rfl⟩
    · rcases h2 with ⟨_, rfl⟩ | ⟨h2, _⟩
      · refine ⟨fun k hk hb hn => ?_, (upN _ _ (by omega)).trans z2⟩
        have hk8 := (sT_eq hso (show k < 16 by omega)).1
        by_cases q : sT sof k = sT sof o
        · rw [q, upA]
        · rw [upN _ _ (by omega)]
          refine z1 k ?_ hb (fun e he hs => by have := hn e he hs; rw [upN _ _ (by omega)] at this; exact this)
          by_cases w : k = o
          · exact absurd (by rw [w]) q
          · omega
      · exact absurd rfl h2
    · refine ⟨fun k hk hb hn => ?_, z2⟩
      by_cases w : k = o
      · subst w; exact absurd ⟨hb, hn⟩ h2
      · exact z1 k (by omega) hb hn
theorem acs_none {v : Nat} {th : Int32} {f : Nat → Int32} (hbe : 1 ≤ be ∧ be ≤ 15) (hea : ¬ ea < nI 1) (hz : zroM en sof v th en f) : ∀ o, o ≤ en → ∀ g b, acsM en be ea sof onf otf v th o f g b → g = f ∧ b = 0 := by
  intro o
  induction o with
  | zero => rintro _ g b ⟨h1, h2⟩; exact ⟨h1, h2⟩
  | succ o ih =>
    rintro ho g b ⟨m, c, h1, h2⟩
    obtain ⟨e1, e2⟩ := ih (by omega) m c h1
    subst e1
    rcases h2 with ⟨⟨q1, q2⟩, _⟩ | ⟨_, q2, q3⟩
    · exfalso
      obtain ⟨r1, _, _, r2⟩ := q2
      have hc := hz o (by omega) q1 r1
      rw [hc] at r2
      rcases r2 with r2 | ⟨_, _, r2⟩
      · have := (nI_leI (by omega) (by decide)).mp r2; omega
      · apply hea
        rw [Int32.lt_iff_toInt_lt]
        rw [Int32.le_iff_toInt_le] at r2
        have e0 : (nI 0).toInt = 0 := by decide
        have e1 : (nI 1).toInt = 1 := by decide
        rw [e0] at r2
        rw [e1]
        omega
    · exact ⟨q2, q3.trans e2⟩
/-- what a poll leaves alone -/
theorem mks_frame {v : Nat} {th x : Int32} {f : Nat → Int32} (hv : v < 8) (hso : inP 16 8 sof) (hen : en ≤ 16) : ∀ o, o ≤ en → ∀ g, mksM en sof anf v th x o f g → ∀ j, j < 288 → ¬ vCell v j → g j = f j := by
  intro o
  induction o with
  | zero => intro _ g h j _ _; replace h : g = f := h; rw [h]
  | succ o ih =>
    rintro ho g ⟨m, h1, h2⟩ j hj hc
    have e := ih (by omega) m h1 j hj hc
    have h8 := (sT_eq hso (show o < 16 by omega)).1
    unfold vCell at hc
    rcases h2 with ⟨_, h2⟩ | ⟨_, rfl⟩
    · rcases h2 with ⟨_, rfl⟩ | ⟨_, p, c1, c2, m', _, _, _, _, _, _, d1, d2⟩
      · rw [upN _ _ (by omega)]; exact e
      · have em : m' j = m j := by
          rcases d1 with ⟨_, rfl⟩ | ⟨_, rfl⟩
          · exact upN _ _ (by omega)
          · rfl
        rcases d2 with ⟨_, rfl⟩ | ⟨_, rfl⟩
        · rw [upN _ _ (by omega), em]; exact e
        · rw [upN _ _ (by omega), upN _ _ (by omega), em]; exact e
    · exact e
theorem acs_frame {v : Nat} {th : Int32} {f : Nat → Int32} (hv : v < 8) : ∀ o, ∀ g b, acsM en be ea sof onf otf v th o f g b → ∀ j, j < 288 → ¬ vCell v j → g j = f j := by
  intro o
  induction o with
  | zero => rintro g b ⟨h, _⟩ j _ _; rw [h]
  | succ o ih =>
    rintro g b ⟨m, c, h1, h2⟩ j hj hc
    have e := ih m c h1 j hj hc
    rcases h2 with ⟨_, q2, _⟩ | ⟨_, rfl, _⟩
    · unfold vCell at hc
      rw [q2.1 j (by omega), upN _ _ (by omega)]; exact e
    · exact e
theorem hld_sim {kf lf chf pof poz chz f g : Nat → Int32} {sef sez : Nat → Nat → Int32} {x r r2 : Int32} {i e : Nat} (hg : gphR en gsf g1f g2f gaf gpf gmf sof onf otf anf) (hv : vwsR en sof chf pof sef f) (hso : inP 16 8 sof) (hen : en ≤ 16) (hon : parF en onf) (hot : parF en otf) (he : e < en) (hi : i < 8) (hn : n ≤ 8) (hal : al ≤ 8) (hbe : 1 ≤ be ∧ be ≤ 15) (hea : ¬ ea < nI 1) (hk : ∀ o, o < 8 → kf o = f (48 + o)) (hl : ∀ o, o < 8 → (hasB (lf i) o ↔ hasB (f (56 + i)) o))
    (hp : ∀ j, j < 8 → poz j = upd pof i (pof i ||| bitI e) j) (hc : hldC n al be en ea lf kf gsf g1f g2f gaf gpf gmf chf sef i e x r chz sez) (hm : hldM n al be en ea sof onf otf anf i e x r2 f g) : r = r2 ∧ vwsR en sof chz poz sez g ∧ (∀ j, j < 288 → ¬ vCell i j → g j = f j) := by
  obtain ⟨c, ⟨sx, hsx, hy⟩, hoth, hcc⟩ := hc
  obtain ⟨c', b, m, h, hc8, hy', hmm, hac, hrr⟩ := hm
  obtain rfl : c = c' := yes_eq hg hv hso hen he hi hk hl hsx n hn c c' hy hy'
  obtain ⟨hth, h5⟩ : gaf e = anf e ∧ prgP en anf e (gpf e) := ⟨(hg.1 e he).2.2.2.1, (hg.1 e he).2.2.2.2.1⟩
  have hvi := hv i hi
  -- frame
  have hfr : ∀ j, j < 288 → ¬ vCell i j → h j = f j := fun j hj hcj => by
    unfold vCell at hcj
    rcases hmm with ⟨_, rfl, _⟩ | ⟨_, rfl, _⟩
    · exact upN _ _ (by omega)
    · rw [upN _ _ (by omega), upN _ _ (by omega)]
  have hfm : ∀ j, j < 288 → ¬ vCell i j → g j = f j := fun j hj hcj => by
    rw [acs_frame hi en g b hac j hj hcj]
    rcases hmm with ⟨_, _, q⟩ | ⟨_, _, q⟩
    · rw [mks_frame hi hso hen en (Nat.le_refl _) m q j hj hcj]; exact hfr j hj hcj
    · rw [mks_frame hi hso hen en (Nat.le_refl _) m q j hj hcj]; exact hfr j hj hcj
  have hothr : ∀ w, w < 8 → ¬ w = i → vewR en sof (chz w) (poz w) (sez w) g w := fun w hw hne => by
    obtain ⟨q1, q2⟩ := hoth w hw hne
    rw [q1, q2, hp w hw, upN _ _ hne]
    exact (hv w hw).frame hw (fun j hj hcw => hfm j hj (fun z => hne (by unfold vCell at *; omega)))
  have hpi : poz i = pof i ||| bitI e := by rw [hp i hi, upA]
  -- the view that polls, ahead of the loops
  have hpo : ∀ k, en ≤ k → k < 32 → ¬ hasB (pof i ||| bitI e) k := fun k h1 h2 q => by
    rcases (hasB_orbit (by omega) h2).mp q with w | w
    · rw [hvi.2.1] at w; exact (hvi.2.2.2.2.2.1 k h1 h2).2.1 w
    · omega
  have hchb : ∀ k, en ≤ k → k < 32 → ¬ hasB (chf i ||| bitI e) k := fun k h1 h2 q => by
    rcases (hasB_orbit (by omega) h2).mp q with w | w
    · rw [hvi.1] at w; exact (hvi.2.2.2.2.2.1 k h1 h2).1 w
    · omega
  have base : ∀ (ch : Int32) (h' : Nat → Int32), h' (64 + i) = ch → h' (72 + i) = pof i ||| bitI e → (∀ k, en ≤ k → k < 32 → ¬ hasB ch k) → (∀ j, ¬ j = 64 + i → ¬ j = 72 + i → h' j = f j) → vewR en sof ch (pof i ||| bitI e) (sef i) h' i := fun ch h' w1 w2 w3 w4 => by
    obtain ⟨q1, q2, q3, q4, q5, q6, q7⟩ := hvi
    refine ⟨w1.symm, w2.symm, fun t ht => ?_, ?_, ?_, ?_, fun t ht => ?_⟩
    · obtain ⟨b1, b2, b3, b4⟩ := q3 t ht
      refine ⟨b1.trans (w4 _ (by omega) (by omega)).symm, b2.trans (w4 _ (by omega) (by omega)).symm, b3.trans (w4 _ (by omega) (by omega)).symm, ?_⟩
      unfold accM at *
      rw [w4 (80 + i) (by omega) (by omega)]; exact b4
    · rw [w4 (80 + i) (by omega) (by omega)]; exact q4
    · rw [w4 (80 + i) (by omega) (by omega), w4 (88 + i) (by omega) (by omega)]; exact q5
    · intro k h1 h2
      obtain ⟨_, _, z3, z4⟩ := q6 k h1 h2
      rw [w1, w2, w4 (80 + i) (by omega) (by omega), w4 (88 + i) (by omega) (by omega)]
      exact ⟨w3 k h1 h2, hpo k h1 h2, z3, z4⟩
    · rw [w4 _ (by omega) (by omega)]; exact q7 t ht
  rw [hth] at hcc
  rcases hcc with ⟨hca, hr, hch, hls⟩ | ⟨hca, hch, mc, bc, hgai, hacc, hr⟩
  · rcases hmm with ⟨_, hh, hmk⟩ | ⟨q, _⟩
    · have hb0 := base (chf i) h (by rw [hh, upN _ _ (by omega), hvi.1]) (by rw [hh, upA, ← hvi.2.1]) (fun k h1 h2 => by rw [hvi.1]; exact (hvi.2.2.2.2.2.1 k h1 h2).1) (fun j j1 j2 => by rw [hh, upN _ _ j2])
      have hs := los_sim hg hi hso hen hb0 en (Nat.le_refl _) (sez i) m hls hmk
      obtain ⟨e1, e2⟩ := acs_none hbe hea (zro_mks hi hso hen en (Nat.le_refl _) m hmk).1 en (Nat.le_refl _) g b hac
      refine ⟨?_, fun w hw => ?_, hfm⟩
      · rcases hrr with ⟨z, _⟩ | ⟨_, z, _⟩ | ⟨_, _, z⟩
        · exact absurd e2 z
        · exact absurd hca z
        · exact hr.trans z.symm
      · by_cases q : w = i
        · subst q; rw [hch, hpi, e1]; exact hs
        · exact hothr w hw q
    · exact absurd hca q
  · rcases hmm with ⟨q, _⟩ | ⟨_, hh, hmk⟩
    · exact absurd q hca
    · have e72 : (upd f (72 + i) (f (72 + i) ||| bitI e)) (64 + i) = f (64 + i) := upN _ _ (by omega)
      have hb0 := base (chf i ||| bitI e) h (by rw [hh, upA, e72, hvi.1]) (by rw [hh, upN _ _ (by omega), upA, ← hvi.2.1]) hchb (fun j j1 j2 => by rw [hh, upN _ _ j1, upN _ _ j2])
      have hs := gai_sim hg hi hso hen hb0 en (Nat.le_refl _) mc m hgai hmk
      obtain ⟨e1, e2⟩ := acc_sim hg hi hso hen hon hot hs en (Nat.le_refl _) (sez i) bc g b hacc hac
      refine ⟨?_, fun w hw => ?_, hfm⟩
      · rw [← e1] at hrr
        rcases hr with ⟨w1, w2⟩ | ⟨w1, w2⟩
        · rcases hrr with ⟨z, _⟩ | ⟨_, _, z⟩ | ⟨_, z, _⟩
          · exact absurd w1 z
          · exact w2.trans z.symm
          · exact absurd z hca
        · rcases hrr with ⟨_, z⟩ | ⟨z, _⟩ | ⟨z, _⟩
          · exact w2.trans z.symm
          · exact absurd z w1
          · exact absurd z w1
      · by_cases q : w = i
        · subst q; rw [hch, hpi]; exact e2
        · exact hothr w hw q
end VREL3
/-! polls that are drawn, with all that they do -/
abbrev plC := Int32 × (Nat → Int32) × (Nat → Int32) × (Nat → Nat → Int32) × Int32 × Int32
def stepBC (n k al be en : Nat) (ea : Int32) (kf lf gsf g1f g2f gaf gpf gmf : Nat → Int32) (s t : plC) : Prop := ∃ a, a < n ∧ nI a = drV (nxD s.1) (nI n) ∧ ((¬ (kf a = 0 ∧ ¬ leftF en (s.2.1 a) = 0) ∧ t = (nxD s.1, s.2)) ∨ (kf a = 0 ∧ ¬ leftF en (s.2.1 a) = 0 ∧ ∃ (e : Nat) (l S r : Int32), e < en ∧ e = nthB (leftF en (s.2.1 a)) 31 (drV (nxD (nxD s.1)) (nI (cntL (leftF en (s.2.1 a)) 16))) ∧ dsI n (nxD (nxD s.1), lefI n a, nI 0) k t.1 l S ∧ (∀ j, j < 8 → t.2.1 j = upd s.2.1 a (s.2.1 a ||| bitI e) j) ∧ hldC n al be en ea lf kf gsf g1f g2f gaf gpf gmf s.2.2.1 s.2.2.2.1 a e S r t.2.2.1 t.2.2.2.1 ∧ t.2.2.2.2.1 = s.2.2.2.2.1 + nI 1 ∧ t.2.2.2.2.2 = s.2.2.2.2.2 + (if nI 0 < r then nI 1 else nI 0)))
def polBC (n k al be en : Nat) (ea : Int32) (kf lf gsf g1f g2f gaf gpf gmf : Nat → Int32) : Nat → plC → plC → Prop
  | 0, s, t => t = s
  | o + 1, s, t => ∃ m, polBC n k al be en ea kf lf gsf g1f g2f gaf gpf gmf o s m ∧ stepBC n k al be en ea kf lf gsf g1f g2f gaf gpf gmf m t
abbrev plM := Int32 × (Nat → Int32) × Int32 × Int32
def stepBM (n k al be en : Nat) (ea : Int32) (sof onf otf anf : Nat → Int32) (s t : plM) : Prop := ∃ a, a < n ∧ nI a = drV (nxD s.1) (nI n) ∧ ((¬ (s.2.1 (48 + a) = 0 ∧ ¬ leftF en (s.2.1 (72 + a)) = 0) ∧ t = (nxD s.1, s.2)) ∨ (s.2.1 (48 + a) = 0 ∧ ¬ leftF en (s.2.1 (72 + a)) = 0 ∧ ∃ (e : Nat) (l S r : Int32), e < en ∧ e = nthB (leftF en (s.2.1 (72 + a))) 31 (drV (nxD (nxD s.1)) (nI (cntL (leftF en (s.2.1 (72 + a))) 16))) ∧ dsI n (nxD (nxD s.1), lefI n a, nI 0) k t.1 l S ∧ hldM n al be en ea sof onf otf anf a e S r s.2.1 t.2.1 ∧ t.2.2.1 = s.2.2.1 + nI 1 ∧ ((nI 0 < r ∧ hasB (t.2.1 (64 + a)) e ∧ t.2.2.2 = s.2.2.2 + nI 1) ∨ (¬ (nI 0 < r ∧ hasB (t.2.1 (64 + a)) e) ∧ t.2.2.2 = s.2.2.2))))
def polBM (n k al be en : Nat) (ea : Int32) (sof onf otf anf : Nat → Int32) : Nat → plM → plM → Prop
  | 0, s, t => t = s
  | o + 1, s, t => ∃ m, polBM n k al be en ea sof onf otf anf o s m ∧ stepBM n k al be en ea sof onf otf anf m t
