/-! the model's states -/
def hmF (f : Nat → Int32) : Nat → Int32
  | 0 => nI 17
  | i + 1 => nI 31 * hmF f i + f i
def hmX (m : Int32) : Int32 := m ^^^ (m.toUInt32 >>> ((nI 15).toUInt32 &&& Int32.toUInt32 31)).toInt32
def hmN (f : Nat → Int32) : Nat := (hmX (hmF f 48) &&& nI 8191).toNatClampNeg
theorem hmN_eq (f : Nat → Int32) : hmX (hmF f 48) &&& nI 8191 = nI (hmN f) ∧ hmN f < 8192 := by
  obtain ⟨v, hv, e⟩ := pk_andE (hmX (hmF f 48)) (m := nI 8191) 13 (by decide)
  unfold hmN
  rw [e, nI_clamp (by omega)]
  exact ⟨rfl, by omega⟩
theorem hmF_congr {f g : Nat → Int32} (h : ∀ j, j < 48 → f j = g j) : ∀ i, i ≤ 48 → hmF f i = hmF g i
  | 0, _ => rfl
  | i + 1, hi => by
    show nI 31 * hmF f i + f i = nI 31 * hmF g i + g i
    rw [hmF_congr h i (by omega), h i (by omega)]
theorem hmN_congr {f g : Nat → Int32} (h : ∀ j, j < 48 → f j = g j) : hmN f = hmN g := by
  unfold hmN
  rw [hmF_congr h 48 (Nat.le_refl _)]
/-- the row of a state -/
def rwM (sf : Nat → Int32) (m : Nat) (f : Nat → Int32) : Prop := ∀ j, j < 48 → sf (48 * m + j) = f j
def hsM (sf : Nat → Int32) (m : Nat) : Nat := hmN (fun j => sf (48 * m + j))
theorem rwM.hs {sf f : Nat → Int32} {m : Nat} (h : rwM sf m f) : hsM sf m = hmN f := hmN_congr h
/-- the table, and that no two are alike -/
def tbM (sf tf : Nat → Int32) (sz : Nat) : Prop := tbX 8192 sz (hsM sf) tf ∧ (∀ m m', m < sz → m' < sz → (∀ j, j < 48 → sf (48 * m + j) = sf (48 * m' + j)) → m = m') ∧ sz ≤ 2000
theorem tbM.tab {sf tf : Nat → Int32} {sz : Nat} (t : tbM sf tf sz) : tabP sz tf := ⟨t.1.1, t.1.2.1⟩
theorem tbM.zero (sf : Nat → Int32) {tf : Nat → Int32} (h : ∀ i, i < 8192 → tf i = nI 0) : tbM sf tf 0 := ⟨tbX.zero 8192 _ h, fun m _ hm => absurd hm (Nat.not_lt_zero _), by decide⟩
/-- none so far is like this one -/
def noM (sf tf f : Nat → Int32) (sz k c : Nat) : Prop := ∀ e, e < c → ∀ m, m < sz → tf ((k + e) % 8192) = nI (m + 1) → ¬ rwM sf m f
theorem noM.zero {sf tf f : Nat → Int32} {sz k : Nat} : noM sf tf f sz k 0 := fun _ he => absurd he (Nat.not_lt_zero _)
theorem noM.next {sf tf f : Nat → Int32} {sz k c m : Nat} (h : noM sf tf f sz k c) (e : tf ((k + c) % 8192) = nI (m + 1)) (hm : m < sz) (hz : sz ≤ 2000) (hn : ¬ rwM sf m f) : noM sf tf f sz k (c + 1) := fun q hq m' hm' z => by
  by_cases w : q = c
  · subst w
    have := (nI_eq (by omega) (by omega)).mp (e.symm.trans z)
    rw [show m' = m by omega]
    exact hn
  · exact h q (by omega) m' hm' z
theorem tbM.none {sf tf f : Nat → Int32} {sz c : Nat} (t : tbM sf tf sz) (h : noM sf tf f sz (hmN f) c) (hc : c < 8192) (h0 : tf ((hmN f + c) % 8192) = nI 0) : ∀ m, m < sz → ¬ rwM sf m f := t.1.none (by have := t.2.2; omega) hc (fun m _ p => p.hs) h0 h
theorem tbM.add {sf tf sz' f : Nat → Int32} {sz c : Nat} (t : tbM sf tf sz) (h : noM sf tf f sz (hmN f) c) (hc : c < 8192) (h0 : tf ((hmN f + c) % 8192) = nI 0) (hv : ∀ e, e < c → ¬ tf ((hmN f + e) % 8192) = nI 0) (hz : sz < 2000) (h1 : ∀ j, j < 48 * sz → sz' j = sf j) (h2 : ∀ j, j < 48 → sz' (48 * sz + j) = f j) : tbM sz' (upd tf ((hmN f + c) % 8192) (nI (sz + 1))) (sz + 1) := by
  have e : ∀ m, m < sz → ∀ j, j < 48 → sz' (48 * m + j) = sf (48 * m + j) := fun m hm j hj => h1 _ (by omega)
  refine ⟨t.1.add (by decide) (by omega) hc (fun m hm => hmN_congr (fun j hj => e m hm j hj)) (hmN_congr h2) h0 hv, fun m m' hm hm' q => ?_, by omega⟩
  have nn := t.none h hc h0
  by_cases w : m = sz
  · by_cases w' : m' = sz
    · omega
    · exact absurd (fun j hj => by rw [← e m' (by omega) j hj, ← q j hj, w]; exact h2 j hj) (nn m' (by omega))
  · by_cases w' : m' = sz
    · exact absurd (fun j hj => by rw [← e m (by omega) j hj, q j hj, w']; exact h2 j hj) (nn m (by omega))
    · exact t.2.1 m m' (by omega) (by omega) (fun j hj => by rw [← e m (by omega) j hj, ← e m' (by omega) j hj]; exact q j hj)
/-- while a row is put there -/
def cpM (sf s9 f : Nat → Int32) (sz o : Nat) : Prop := (∀ j, j < 48 * sz → s9 j = sf j) ∧ ∀ j, j < o → s9 (48 * sz + j) = f j
theorem cpM.zero {sf f : Nat → Int32} {sz : Nat} : cpM sf sf f sz 0 := ⟨fun _ _ => rfl, fun _ hj => absurd hj (Nat.not_lt_zero _)⟩
theorem cpM.next {sf s9 f : Nat → Int32} {sz o : Nat} (h : cpM sf s9 f sz o) : cpM sf (upd s9 (48 * sz + o) (f o)) f sz (o + 1) := ⟨fun j hj => by unfold upd; rw [if_neg (by omega)]; exact h.1 j hj, fun j hj => by
  unfold upd
  by_cases q : j = o
  · rw [if_pos (by omega), q]
  · rw [if_neg (by omega)]; exact h.2 j (by omega)⟩
/-- what the number of a state comes to: it is there; there is no room; it is new -/
def nofF (sz szz : Nat) (sf sfz tf tfz smf smz f : Nat → Int32) (ti tiz : Nat → Int64) (g : Nat) (r : Int32) : Prop :=
  (∃ m, m < sz ∧ rwM sf m f ∧ r = nI m ∧ szz = sz ∧ sfz = sf ∧ tfz = tf ∧ smz = smf ∧ tiz = ti) ∨
  ((∀ m, m < sz → ¬ rwM sf m f) ∧ ((sz = 2000 ∧ r = -1 ∧ szz = sz ∧ sfz = sf ∧ tfz = tf ∧ smz = smf ∧ tiz = ti) ∨
    (sz < 2000 ∧ r = nI sz ∧ szz = sz + 1 ∧ (∀ j, j < 48 * sz → sfz j = sf j) ∧ rwM sfz sz f ∧ smz = upd smf g (nI (sz + 1)) ∧ tiz = vp_updL ti sz 0)))
