/-! what the class keeps of a search -/
theorem relR.congr {be : Nat} {nf nf' kf lf f : Nat → Int32} (h : relR be nf kf lf f) (e : ∀ j, j < 8 → nf' j = nf j) : relR be nf' kf lf f := fun j hj => by
  have z := h j hj
  unfold relN at *
  rw [e j hj]
  exact z
theorem cpy_at {f g : Nat → Int32} {d j : Nat} (hj : j < 8) : va_cpy f g 0 d 8 (d + j) = f j := by
  unfold va_cpy
  rw [if_pos (by omega)]
  exact congrArg f (by omega)
theorem cpy_lo {f g : Nat → Int32} {d j : Nat} (hj : j < d) : va_cpy f g 0 d 8 j = g j := by
  unfold va_cpy
  rw [if_neg (by omega)]
theorem cpy_of {f g : Nat → Int32} {d j : Nat} (hj : j < 8) : va_cpy f g d 0 8 j = f (d + j) := by
  unfold va_cpy
  rw [if_pos (by omega)]
  exact congrArg f (by omega)
/-- the state that each was found behind, and how deep it lies -/
def paT (pf : Nat → Int32) (N : Nat) (dp : Nat → Nat) : Prop := dp 0 = 0 ∧ ∀ m, m < N → 0 < m → ∃ p, (p < m ∧ dp m = dp p + 1) ∧ pf m = nI p
theorem paT.le {pf : Nat → Int32} {N : Nat} {dp : Nat → Nat} (h : paT pf N dp) : ∀ b m, m ≤ b → m < N → dp m ≤ m
  | 0, m, hm, _ => by
    obtain rfl : m = 0 := by omega
    rw [h.1]
    exact Nat.le_refl _
  | b + 1, m, hm, hN => by
    by_cases q : m = 0
    · subst q; rw [h.1]; exact Nat.le_refl _
    · obtain ⟨p, ⟨h1, h2⟩, _⟩ := h.2 m hN (by omega)
      have := paT.le h b p (by omega) (by omega)
      omega
theorem paT.add {pf : Nat → Int32} {N v : Nat} {dp : Nat → Nat} (h : paT pf N dp) (hv : v < N) : paT (upd pf N (nI v)) (N + 1) (updN dp N (dp v + 1)) := by
  refine ⟨by rw [updN_ne _ _ (by omega)]; exact h.1, fun m hm h0 => ?_⟩
  by_cases q : m = N
  · subst q
    exact ⟨v, ⟨hv, by rw [updN_at, updN_ne _ _ (by omega)]⟩, if_pos rfl⟩
  · obtain ⟨p, ⟨h1, h2⟩, h3⟩ := h.2 m (by omega) h0
    exact ⟨p, ⟨h1, by rw [updN_ne _ _ q, updN_ne _ _ (by omega)]; exact h2⟩, (if_neg q).trans h3⟩
def srI (n be : Nat) (kf lf rf sf pf : Nat → Int32) (sz : Nat) (A : srS) : Prop := tbC rf sf sz ∧ A.1 = sz ∧ (∀ m, m < sz → relR be (fun j => rf (m * 8 + j)) kf lf (A.2.1 m)) ∧ paT pf sz A.2.2.1 ∧ (∀ m, m < sz → ¬ splP n (A.2.1 m) ∧ okF (A.2.1 m)) ∧ A.2.2.2 = -1 ∧ sz ≤ 2000
/-- what a state that comes leads to -/
def cmR (n be : Nat) (kf lf rf sf pf wf : Nat → Int32) (sz : Nat) (A : srS) (v : Nat) (t : Nat → Int32) (few r fewz : Int32) (rz fz pz : Nat → Int32) (zz : Nat) : Prop := ∃ B, srStep n A v t B ∧ ((r = nI 0 ∧ fewz = few ∧ srI n be kf lf rz fz pz zz B ∧ sz ≤ zz ∧ (∀ j, j < sz * 8 → rz j = rf j) ∧ ∃ m, m < zz ∧ rwE rz m wf) ∨ (r = nI 1 ∧ ¬ B.2.2.2 = -1 ∧ fewz = B.2.2.2))
theorem spl_same {n : Nat} {f t : Nat → Int32} (hn : n ≤ 8) (e : sameS f t) (k : ∀ j, j < 8 → f (48 + j) = t (48 + j)) (h : splP n f) : splP n t := by
  obtain ⟨a, ha, b, hb, ⟨h1, h2⟩, ⟨h3, h4⟩, h5⟩ := h
  exact ⟨a, ha, b, hb, ⟨(k a (by omega)).symm.trans h1, (e _ (by omega)).symm.trans h2⟩, ⟨(k b (by omega)).symm.trans h3, (e _ (by omega)).symm.trans h4⟩, fun q => h5 ((e _ (by omega)).trans (q.trans (e _ (by omega)).symm))⟩
section SRI
variable {n be sz v c m : Nat} {kf lf rf sf pf wf t : Nat → Int32} {A : srS} {few : Int32}
theorem srI.pa (h : srI n be kf lf rf sf pf sz A) : paT pf sz A.2.2.1 := h.2.2.2.1
theorem srI.same (h : srI n be kf lf rf sf pf sz A) (hw : relR be wf kf lf t) (hm : m < sz) : rwE rf m wf ↔ sameS (A.2.1 m) t := rel_same (h.2.2.1 m hm) hw
theorem srI.kin (h : srI n be kf lf rf sf pf sz A) (hw : relR be wf kf lf t) (hm : m < sz) : ∀ j, j < 8 → A.2.1 m (48 + j) = t (48 + j) := fun j hj => (h.2.2.1 m hm j hj).2.2.2.1.symm.trans (hw j hj).2.2.2.1
theorem cm_seen (hn : n ≤ 8) (h : srI n be kf lf rf sf pf sz A) (hw : relR be wf kf lf t) (hm : m < sz) (e : rwE rf m wf) : cmR n be kf lf rf sf pf wf sz A v t few (nI 0) few rf sf pf sz := by
  have s := (h.same hw hm).mp e
  refine ⟨A, Or.inr ⟨h.2.2.2.2.2.1, Or.inr ⟨fun q => (h.2.2.2.2.1 m hm).1 (spl_same hn s.symm (fun j hj => (h.kin hw hm j hj).symm) q), Or.inl ⟨fun q => q m (by rw [h.2.1]; exact hm) s, rfl⟩⟩⟩, Or.inl ⟨rfl, rfl, h, Nat.le_refl _, fun _ _ => rfl, m, hm, e⟩⟩
theorem srI.new (h : srI n be kf lf rf sf pf sz A) (hw : relR be wf kf lf t) (hno : ∀ m, m < sz → ¬ rwE rf m wf) : srNew A t := fun i hi q => by
  rw [h.2.1] at hi
  exact hno i hi ((h.same hw hi).mpr q)
theorem cm_full (h : srI n be kf lf rf sf pf sz A) (hw : relR be wf kf lf t) (hs : ¬ splP n t) (hsl : slC rf sf sz wf c) (h0 : sf ((hsN wf + c) % 4096) = nI 0) (hz : 2000 ≤ sz) : cmR n be kf lf rf sf pf wf sz A v t few (nI 1) (-3) rf sf pf sz :=
  ⟨srEnd A (-3), Or.inr ⟨h.2.2.2.2.2.1, Or.inr ⟨hs, Or.inr ⟨h.new hw (h.1.none hsl h0), Or.inl ⟨by have := h.2.1; have := h.2.2.2.2.2.2; omega, rfl⟩⟩⟩⟩, Or.inr ⟨rfl, (show ¬ (-3 : Int32) = -1 by decide), rfl⟩⟩
theorem cm_split {rz fz pz : Nat → Int32} {zz : Nat} (h : srI n be kf lf rf sf pf sz A) (hv : v < sz) (hs : splP n t) : cmR n be kf lf rf sf pf wf sz A v t few (nI 1) (nI (A.2.2.1 v + 1)) rz fz pz zz :=
  ⟨srEnd A (nI (A.2.2.1 v + 1)), Or.inr ⟨h.2.2.2.2.2.1, Or.inl ⟨hs, rfl⟩⟩, Or.inr ⟨rfl, nI_ne_m1 (by have := h.pa.le v v (Nat.le_refl _) hv; have := h.2.2.2.2.2.2; omega), rfl⟩⟩
theorem cm_nw (h : srI n be kf lf rf sf pf sz A) (hw : relR be wf kf lf t) (hot : okF t) (hv : v < sz) (hs : ¬ splP n t) (hsl : slC rf sf sz wf c) (h0 : sf ((hsN wf + c) % 4096) = nI 0) (hz : sz < 2000) : cmR n be kf lf rf sf pf wf sz A v t few (nI 0) few (va_cpy wf rf 0 (sz * 8) 8) (upd sf ((hsN wf + c) % 4096) (nI (sz + 1))) (upd pf sz (nI v)) (sz + 1) := by
  have lo : ∀ j, j < sz * 8 → va_cpy wf rf 0 (sz * 8) 8 j = rf j := fun j hj => cpy_lo hj
  have at_ : ∀ j, j < 8 → va_cpy wf rf 0 (sz * 8) 8 (sz * 8 + j) = wf j := fun j hj => cpy_at hj
  refine ⟨srAdd A v t, Or.inr ⟨h.2.2.2.2.2.1, Or.inr ⟨hs, Or.inr ⟨h.new hw (h.1.none hsl h0), Or.inr ⟨by rw [h.2.1]; exact hz, rfl⟩⟩⟩⟩, Or.inl ⟨rfl, rfl, ⟨h.1.add hsl h0 (by omega) lo at_, by unfold srAdd; rw [h.2.1], fun m hm => ?_, ?_, fun m hm => ?_, rfl, by omega⟩, by omega, lo, sz, by omega, at_⟩⟩
  · show relR be (fun j => va_cpy wf rf 0 (sz * 8) 8 (m * 8 + j)) kf lf (updN A.2.1 A.1 t m)
    rw [h.2.1]
    by_cases q : m = sz
    · subst q
      rw [updN_at]
      exact hw.congr (fun j hj => at_ j hj)
    · rw [updN_ne _ _ q]
      exact (h.2.2.1 m (by omega)).congr (fun j hj => lo _ (by omega))
  · show paT (upd pf sz (nI v)) (sz + 1) (updN A.2.2.1 A.1 (A.2.2.1 v + 1))
    rw [h.2.1]
    exact h.pa.add hv
  · show ¬ splP n (updN A.2.1 A.1 t m) ∧ okF (updN A.2.1 A.1 t m)
    rw [h.2.1]
    by_cases q : m = sz
    · subst q
      rw [updN_at]
      exact ⟨hs, hot⟩
    · rw [updN_ne _ _ q]
      exact h.2.2.2.2.1 m (by omega)
end SRI
