/-! behind an asking every row still tells six numbers; the run of the model -/
theorem rows_step {n al be : Nat} {pr : Int32} {f fz : Nat → Int32} {x r : Int32} {a : Nat} {u : Nat → Nat} (ha : a < 8) (hn : n ≤ 8) (hna : ¬ f (0 + a) < 0) (hbe : 1 ≤ be ∧ be ≤ 15) (hu : rowU f a u) (huk : okU be u) (h0 : u 0 = 1 ∨ u 0 = 2) (h5 : u 5 = 0) (hrow : ∀ j, j < 8 → ∃ v, rowU f j v ∧ okU be v) (h : askedP n al be pr f x a u r fz) : ∀ j, j < 8 → ∃ v, rowU fz j v ∧ okU be v := by
  intro j hj
  obtain ⟨g, z, o, hL, hup, hfin, hr, hoth, hcol⟩ := h
  by_cases q : j = a
  · subst q
    exact ⟨_, hfin, (uSet_ok (W := winU al z o) (by unfold winU; split; split; decide; decide; decide) hbe huk h0 h5).1⟩
  · obtain ⟨v, hv, hvk⟩ := hrow j hj
    have e : ∀ c, c = 0 ∨ c = 8 ∨ c = 16 ∨ c = 24 ∨ c = 32 ∨ c = 40 → fz (c + j) = g (c + j) := fun c hc => hoth (c + j) (by omega) (by omega) (by omega) (by omega) (by omega) (by omega)
    have e8 : ∀ c, 8 ≤ c → g (c + j) = f (c + j) := fun c hc => hup (c + j) (by omega)
    have e0 : g (0 + j) = givM f x a n (0 + j) := by
      have z1 := askL_row (S := x) ha hna n hn (0 + j)
      rw [show askL f x a n = (g, z, o) from hL, if_pos (by omega)] at z1
      exact z1
    have r1 : fz (8 + j) = cI (v 1) := by rw [e 8 (by omega), e8 8 (by omega)]; exact hv.2.1
    have r2 : fz (16 + j) = nI (v 2) := by rw [e 16 (by omega), e8 16 (by omega)]; exact hv.2.2.1
    have r3 : fz (24 + j) = nI (v 3) := by rw [e 24 (by omega), e8 24 (by omega)]; exact hv.2.2.2.1
    have r4 : fz (32 + j) = nI (v 4) := by rw [e 32 (by omega), e8 32 (by omega)]; exact hv.2.2.2.2.1
    have r5 : fz (40 + j) = nI (v 5) := by rw [e 40 (by omega), e8 40 (by omega)]; exact hv.2.2.2.2.2
    have r0 := (e 0 (by omega)).trans e0
    unfold givM at r0
    split at r0
    · exact ⟨setU v 0 (u 0), ⟨r0.trans hu.1, r1, r2, r3, r4, r5⟩, ⟨huk.1, hvk.2⟩⟩
    · refine ⟨v, ⟨?_, r1, r2, r3, r4, r5⟩, hvk⟩
      rw [r0, Nat.zero_add]
      have := hv.1
      rw [Nat.zero_add] at this
      exact this
abbrev rnS := Int32 × (Nat → Int32) × (Nat → Int32) × Int32 × Int32
def stepM (n k al be : Nat) (pr : Int32) (s t : rnS) : Prop := ∃ (a : Nat) (l S : Int32), a < n ∧ nI a = drV (nxD s.1) (nI n) ∧ dsI n (nxD s.1, lefI n a, nI 0) k t.1 l S ∧ ((¬ mcaP s.2.1 a ∧ t.2 = s.2) ∨ (mcaP s.2.1 a ∧ ∃ (u : Nat → Nat) (r : Int32), rowU s.2.1 a u ∧ okU be u ∧ askedP n al be pr s.2.1 S a u r t.2.1 ∧ t.2.2.1 = upd s.2.2.1 a (s.2.2.1 a + nI 1) ∧ t.2.2.2.1 = s.2.2.2.1 + nI 1 ∧ t.2.2.2.2 = if r = nI 2 then s.2.2.2.2 + nI 1 else s.2.2.2.2))
def runM (n k al be : Nat) (pr : Int32) : Nat → rnS → rnS → Prop
  | 0, s, t => t = s
  | o + 1, s, t => ∃ m, runM n k al be pr o s m ∧ stepM n k al be pr m t
