/-! views, side by side -/
def gphR (en : Nat) (gsf g1f g2f gaf gpf gmf sof onf otf anf : Nat → Int32) : Prop := (∀ e, e < en → gsf e = sof e ∧ g1f e = onf e ∧ g2f e = otf e ∧ gaf e = anf e ∧ prgP en anf e (gpf e) ∧ ∀ k, k < 32 → hasB (anf e) k → k < e) ∧ ∀ t, t < 8 → ∀ k, k < 32 → (hasB (gmf t) k ↔ k < en ∧ sof k = nI t)
def vewR (en : Nat) (sof : Nat → Int32) (ch po : Int32) (se f : Nat → Int32) (v : Nat) : Prop := ch = f (64 + v) ∧ po = f (72 + v) ∧
  (∀ t, t < 8 → se (t * 4 + 0) = f (96 + (8 * v + t)) ∧ se (t * 4 + 1) = f (160 + (8 * v + t)) ∧ se (t * 4 + 2) = f (224 + (8 * v + t)) ∧ accM en sof f v (nI t) (se (t * 4 + 3))) ∧
  (∀ e e', e < en → e' < en → hasB (f (80 + v)) e → hasB (f (80 + v)) e' → sof e = sof e' → e = e') ∧
  (∀ e, e < en → (hasB (f (88 + v)) e ↔ ∃ e', e' < en ∧ ¬ e' = e ∧ sof e' = sof e ∧ hasB (f (80 + v)) e')) ∧
  (∀ k, en ≤ k → k < 32 → ¬ hasB (f (64 + v)) k ∧ ¬ hasB (f (72 + v)) k ∧ ¬ hasB (f (80 + v)) k ∧ ¬ hasB (f (88 + v)) k) ∧
  ∀ t, t < 8 → (f (96 + (8 * v + t)) = -1 ∧ ∀ e, e < en → ¬ sof e = nI t) ∨ ∃ p, p < en ∧ sof p = nI t ∧ f (96 + (8 * v + t)) = nI p
/-- the cells of a view -/
def vCell (v j : Nat) : Prop := j = 64 + v ∨ j = 72 + v ∨ j = 80 + v ∨ j = 88 + v ∨ (96 ≤ j ∧ (j - 96) % 64 / 8 = v)
theorem vewR.frame {en v : Nat} {sof se f g : Nat → Int32} {ch po : Int32} (h : vewR en sof ch po se f v) (hv : v < 8) (e : ∀ j, j < 288 → vCell v j → g j = f j) : vewR en sof ch po se g v := by
  have a1 : g (64 + v) = f (64 + v) := e _ (by omega) (Or.inl rfl)
  have a2 : g (72 + v) = f (72 + v) := e _ (by omega) (Or.inr (Or.inl rfl))
  have a3 : g (80 + v) = f (80 + v) := e _ (by omega) (Or.inr (Or.inr (Or.inl rfl)))
  have a4 : g (88 + v) = f (88 + v) := e _ (by omega) (Or.inr (Or.inr (Or.inr (Or.inl rfl))))
  have c1 : ∀ t, t < 8 → g (96 + (8 * v + t)) = f (96 + (8 * v + t)) := fun t ht => e _ (by omega) (by unfold vCell; omega)
  have c2 : ∀ t, t < 8 → g (160 + (8 * v + t)) = f (160 + (8 * v + t)) := fun t ht => e _ (by omega) (by unfold vCell; omega)
  have c3 : ∀ t, t < 8 → g (224 + (8 * v + t)) = f (224 + (8 * v + t)) := fun t ht => e _ (by omega) (by unfold vCell; omega)
  obtain ⟨h1, h2, h3, h4, h5, h6, h7⟩ := h
  refine ⟨h1.trans a1.symm, h2.trans a2.symm, fun t ht => ?_, ?_, ?_, ?_, fun t ht => ?_⟩
  · obtain ⟨b1, b2, b3, b4⟩ := h3 t ht
    refine ⟨b1.trans (c1 t ht).symm, b2.trans (c2 t ht).symm, b3.trans (c3 t ht).symm, ?_⟩
    unfold accM at *
    rw [a3]; exact b4
  · rw [a3]; exact h4
  · rw [a3, a4]; exact h5
  · rw [a1, a2, a3, a4]; exact h6
  · rw [c1 t ht]; exact h7 t ht
section VREL
variable {en v : Nat} {gsf g1f g2f gaf gpf gmf sof onf otf anf : Nat → Int32}
theorem sT_c {gsf sof : Nat → Int32} {i : Nat} (h : gsf i = sof i) : sT gsf i = sT sof i := by unfold sT; rw [h]
theorem str_iff {se f : Nat → Int32} {ch po : Int32} {e : Nat} (hg : gphR en gsf g1f g2f gaf gpf gmf sof onf otf anf) (h : vewR en sof ch po se f v) (hso : inP 16 8 sof) (hen : en ≤ 16) (he : e < en) : strC gaf gsf se e ↔ strM en sof anf f v e := by
  obtain ⟨g1, g2, g3, g4, g5, g6⟩ := hg.1 e he
  have key : ∀ i, i < en → se (sT gsf i * 4 + 0) = f (96 + 8 * v + sT sof i) := fun i hi => by
    rw [sT_c (hg.1 i hi).1, (h.2.2.1 _ (sT_eq hso (by omega)).1).1]
    exact congrArg f (by omega)
  constructor
  · intro q i hi hb
    rw [← key i hi]
    refine q i ?_ (by rw [g4]; exact hb)
    rcases (hasB_orbit (by omega) (by omega)).mp hb with w | w
    · exact Nat.le_of_lt (g6 i (by omega) w)
    · omega
  · intro q i hi hb
    rw [key i (by omega)]
    exact q i (by omega) (by rw [← g4]; exact hb)
theorem open_iff {se f : Nat → Int32} {ch po : Int32} {o : Nat} (h : vewR en sof ch po se f v) (hgs : gsf o = sof o) (hso : inP 16 8 sof) (ho : o < 16) (hen : en ≤ 16) : se (sT gsf o * 4 + 3) = -1 ↔ ∀ e, e < en → sof e = sof o → ¬ hasB (f (80 + v)) e := by
  have h8 := sT_eq hso ho
  rw [sT_c hgs]
  have ha := (h.2.2.1 _ h8.1).2.2.2
  rw [← h8.2] at ha
  rcases ha with ⟨e, he, h1, h2, h3⟩ | ⟨h1, h2⟩
  · rw [h3]
    exact ⟨fun q => absurd q (nI_ne_m1 (by omega)), fun q => absurd h2 (q e he h1)⟩
  · exact ⟨fun _ => h1, fun _ => h2⟩
theorem prg_eq {pg pg' : Int32} {e : Nat} (h : prgP en anf e pg) (h' : prgP en anf e pg') : pg = pg' := hasB_ext (fun k hk => (h k hk).trans (h' k hk).symm)
theorem cnf_eq {f : Nat → Int32} {e c : Nat} (hg : gphR en gsf g1f g2f gaf gpf gmf sof onf otf anf) (he : e < en) (hen : en ≤ 16) (hch : ∀ k, en ≤ k → k < 32 → ¬ hasB (f (64 + v)) k) (hc : cnfM en anf f v e c) : cnfC gpf (f (64 + v)) e = nI c := by
  obtain ⟨pg, h1, h2⟩ := hc
  unfold cnfC
  rw [← prg_eq h1 (hg.1 e he).2.2.2.2.1, bc_cnt16 (fun k h3 h4 q => hch k (by omega) h4 ((hasB_and h4).mp q).1), h2]
end VREL
