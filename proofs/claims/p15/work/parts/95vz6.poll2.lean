/-! which entry is drawn; who can be polled, of the class -/
theorem nth_in {x : Int32} : ∀ (v o i : Nat), 16 - o < v → o ≤ 16 → i < cntL x (16 - o) → hasB x (nthB x (31 - o) (nI i)) ∧ nthB x (31 - o) (nI i) < 16 := by
  intro v
  induction v with
  | zero => intro o i h; exact absurd h (Nat.not_lt_zero _)
  | succ v ih =>
    intro o i hv ho hi
    have ho16 : o < 16 := Decidable.byContradiction fun q => by
      obtain rfl : o = 16 := by omega
      exact absurd hi (Nat.not_lt_zero _)
    by_cases c : hasB x o
    · rw [cnt_yes ho16 c] at hi
      by_cases z : i = 0
      · subst z
        rw [nthB_at (by omega) c (show nI 0 = 0 from rfl)]
        exact ⟨c, ho16⟩
      · rw [nthB_yes (by omega) c (fun q => z ((nI_eq (b := 0) (by have := cnt_le x (16 - (o + 1)); omega) (by decide)).mp q)), show nI i + -1 = nI (i - 1) from nI_dec (by omega)]
        exact ih (o + 1) (i - 1) (by omega) (by omega) (by omega)
    · rw [cnt_no ho16 c] at hi
      rw [nthB_no (by omega) c]
      exact ih (o + 1) i (by omega) (by omega) hi
theorem nth_lt {en i : Nat} {x : Int32} (hen : en ≤ 16) (hi : i < cntL (leftF en x) 16) : nthB (leftF en x) 31 (nI i) < en := ((left_bit hen (by have := (nth_in (x := leftF en x) 17 0 i (by omega) (by omega) hi).2; omega)).mp (nth_in 17 0 i (by omega) (by omega) hi).1).1
/-- an entry that is drawn of those left -/
theorem nth_dr {en : Nat} {x d : Int32} (hen : en ≤ 16) (hx : ¬ leftF en x = 0) : nthB (leftF en x) 31 (drV d (nI (cntL (leftF en x) 16))) < en := by
  have hc : 0 < cntL (leftF en x) 16 := cnt_pos hx (left_hi hen)
  obtain ⟨j, hj, e⟩ : ∃ j, j < cntL (leftF en x) 16 ∧ drV d (nI (cntL (leftF en x) 16)) = nI j := drw d hc (Nat.lt_of_le_of_lt (cnt_le _ 16) (by decide))
  rw [e]
  exact nth_lt hen hj
def unpP (n en : Nat) (kf pof : Nat → Int32) (x r : Int32) : Prop := (∃ a, a < n ∧ x = nI a ∧ kf a = 0 ∧ r = leftF en (pof a)) ∨ (¬ (okN n x ∧ ∀ a, a < n → x = nI a → kf a = 0) ∧ r = nI 0)
theorem unp_at {n en jx : Nat} {kf pof : Nat → Int32} {r : Int32} (hn : n ≤ 8) (hj : jx < n) (h : unpP n en kf pof (nI jx) r) : (kf jx = 0 ∧ r = leftF en (pof jx)) ∨ (¬ kf jx = 0 ∧ r = 0) := by
  rcases h with ⟨a, h1, h2, h3, h4⟩ | ⟨h1, h2⟩
  · obtain rfl : jx = a := (nI_eq (by omega) (by omega)).mp h2
    exact Or.inl ⟨h3, h4⟩
  · refine Or.inr ⟨fun q => h1 ⟨okN_nI hj (by omega), fun a ha e => ?_⟩, h2⟩
    obtain rfl : jx = a := (nI_eq (by omega) (by omega)).mp e
    exact q
theorem unp_bit {n en jx jy : Nat} {kf pof : Nat → Int32} {r : Int32} (hn : n ≤ 8) (hj : jx < n) (hen : en ≤ 16) (hy : jy < en) (h : unpP n en kf pof (nI jx) r) : hasB r jy ↔ kf jx = 0 ∧ ¬ hasB (pof jx) jy := by
  rcases unp_at hn hj h with ⟨h1, h2⟩ | ⟨h1, h2⟩
  · rw [h2, left_bit hen (by omega)]
    exact ⟨fun q => ⟨h1, q.2⟩, fun q => ⟨hy, q.2⟩⟩
  · rw [h2]
    exact ⟨fun q => absurd q (hasB_0 (by omega)), fun q => absurd q.1 h1⟩
theorem unp_ne {n en jx : Nat} {kf pof : Nat → Int32} {r : Int32} (hn : n ≤ 8) (hj : jx < n) (h : unpP n en kf pof (nI jx) r) (c : ¬ r = 0) : kf jx = 0 ∧ r = leftF en (pof jx) := by
  rcases unp_at hn hj h with h1 | ⟨_, h2⟩
  · exact h1
  · exact absurd h2 c
theorem unp_no {n en jx : Nat} {kf pof : Nat → Int32} {r : Int32} (hn : n ≤ 8) (hj : jx < n) (h : unpP n en kf pof (nI jx) r) (c : r = 0) : ¬ (kf jx = 0 ∧ ¬ leftF en (pof jx) = 0) := by
  rcases unp_at hn hj h with ⟨_, h2⟩ | ⟨h1, _⟩
  · exact fun q => q.2 (h2.symm.trans c)
  · exact fun q => h1 q.1
