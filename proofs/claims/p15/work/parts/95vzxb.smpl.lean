/-! all samples of a node, the less ahead -/
def smB (n k i s : Nat) : Bool := decide (i < n) && (!(s.testBit i) && decide (cntA s = k))
theorem smB_iff {n k i s : Nat} (hn : n ≤ 8) (hi : i < n) (hk : k < n) (hs : s < 2 ^ n) : smB n k i s = true ↔ msmP n k i (nI s) := by
  have h256 : 2 ^ n ≤ 256 := Nat.le_trans (Nat.pow_le_pow_right (by decide) hn) (by decide)
  have c : cntL (nI s) 16 = cntA s := (cnt_nat (show s < 65536 by omega) 16 (Nat.le_refl _)).trans rfl
  have hc := cnt_le (nI s) 16
  have hb : hasB (nI s) i ↔ s.testBit i = true := by rw [hasB_iff (by omega), nI_bit (by omega)]
  unfold smB msmP
  rw [xshl n (by omega), hb, c, nI_eq (by omega) (by omega), nI_ltI (by omega) (by omega), Bool.and_eq_true, Bool.and_eq_true, decide_eq_true_eq, decide_eq_true_eq, Bool.not_eq_true']
  constructor
  · rintro ⟨_, h1, h2⟩
    exact ⟨⟨Int32.not_lt.mpr ((nI_leI (a := 0) (by decide) (by omega)).mpr (Nat.zero_le _)), hs⟩, by rw [h1]; decide, h2⟩
  · rintro ⟨_, h1, h2⟩
    exact ⟨hi, by cases q : s.testBit i with | false => rfl | true => exact absurd q h1, h2⟩
def smL (n k i b : Nat) : List Nat := (List.range b).filter (smB n k i)
theorem smL_yes {n k i b : Nat} (h : smB n k i b = true) : smL n k i (b + 1) = smL n k i b ++ [b] := by
  unfold smL
  rw [List.range_succ, List.filter_append, List.filter_cons_of_pos h]
  rfl
theorem smL_no {n k i b : Nat} (h : ¬ smB n k i b = true) : smL n k i (b + 1) = smL n k i b := by
  unfold smL
  rw [List.range_succ, List.filter_append, List.filter_cons_of_neg h, List.filter_nil, List.append_nil]
/-- the row tells the first samples -/
def smT (n k i b : Nat) (g : Nat → Int32) : Prop := ∀ j, j < (smL n k i b).length → g j = nI ((smL n k i b).getD j 0)
theorem smT.yes {n k i b : Nat} {g : Nat → Int32} (h : smT n k i b g) (hb : smB n k i b = true) : smT n k i (b + 1) (upd g (smL n k i b).length (nI b)) ∧ (smL n k i (b + 1)).length = (smL n k i b).length + 1 := by
  have e := smL_yes hb
  have l : (smL n k i (b + 1)).length = (smL n k i b).length + 1 := by rw [e, List.length_append]; rfl
  refine ⟨fun j hj => ?_, l⟩
  rw [l] at hj
  rw [e]
  by_cases q : j = (smL n k i b).length
  · subst q
    rw [upA, List.getD_eq_getElem?_getD, List.getElem?_append_right (Nat.le_refl _), Nat.sub_self]
    rfl
  · rw [upN _ _ q, List.getD_eq_getElem?_getD, List.getElem?_append_left (by omega), ← List.getD_eq_getElem?_getD]
    exact h j (by omega)
theorem smT.no {n k i b : Nat} {g : Nat → Int32} (h : smT n k i b g) (hb : ¬ smB n k i b = true) : smT n k i (b + 1) g ∧ (smL n k i (b + 1)).length = (smL n k i b).length := by
  unfold smT at *
  rw [smL_no hb]
  exact ⟨h, rfl⟩
/-- how many they are -/
theorem smL_len : ∀ n, n ≤ 8 → ∀ k, k < n → 1 ≤ k → ∀ i, i < n → nI (smL n k i (2 ^ n)).length = chF (n - 1) k ∧ (smL n k i (2 ^ n)).length ≤ 35 := by decide +kernel
theorem smL_mono {n k i b c : Nat} (h : b ≤ c) : (smL n k i b).length ≤ (smL n k i c).length := by
  obtain ⟨d, rfl⟩ : ∃ d, c = b + d := ⟨c - b, by omega⟩
  induction d with
  | zero => exact Nat.le_refl _
  | succ d ih =>
    refine Nat.le_trans (ih (by omega)) ?_
    by_cases q : smB n k i (b + d) = true
    · rw [show b + (d + 1) = (b + d) + 1 by omega, smL_yes q, List.length_append]; exact Nat.le_add_right _ _
    · rw [show b + (d + 1) = (b + d) + 1 by omega, smL_no q]; exact Nat.le_refl _
/-- where as many were found as there are, no more come -/
theorem smT.full {n k i b c : Nat} {g : Nat → Int32} (h : smT n k i b g) (hbc : b ≤ c) (hl : (smL n k i c).length ≤ (smL n k i b).length) : smT n k i c g := by
  obtain ⟨d, rfl⟩ : ∃ d, c = b + d := ⟨c - b, by omega⟩
  have key : ∀ e, e ≤ d → smL n k i (b + e) = smL n k i b := by
    intro e
    induction e with
    | zero => intro _; rfl
    | succ e ih =>
      intro he
      have e1 := ih (by omega)
      by_cases q : smB n k i (b + e) = true
      · exfalso
        have l1 : (smL n k i (b + (e + 1))).length = (smL n k i b).length + 1 := by
          rw [show b + (e + 1) = (b + e) + 1 by omega, smL_yes q, e1, List.length_append]; rfl
        have l2 := smL_mono (n := n) (k := k) (i := i) (show b + (e + 1) ≤ b + d by omega)
        omega
      · rw [show b + (e + 1) = (b + e) + 1 by omega, smL_no q, e1]
  unfold smT
  rw [key d (Nat.le_refl _)]
  exact h
