/-! samples, as both sides test them -/
theorem hasB_not {x : Int32} {k : Nat} (hk : k < 32) : hasB (x ^^^ -1) k ↔ ¬ hasB x k := by
  rw [hasB_iff hk, hasB_iff hk, Int32.toBitVec_xor, BitVec.getLsbD_xor]
  have e : ∀ k, k < 32 → (-1 : Int32).toBitVec.getLsbD k = true := by decide
  rw [e k hk, Bool.xor_true]
  cases x.toBitVec.getLsbD k <;> simp
theorem bits_sub {x m : Int32} : x &&& (m ^^^ -1) = 0 ↔ ∀ k, k < 32 → hasB x k → hasB m k := by
  constructor
  · intro h k hk hx
    apply Decidable.byContradiction
    intro q
    have : hasB (x &&& (m ^^^ -1)) k := (hasB_and hk).mpr ⟨hx, (hasB_not hk).mpr q⟩
    rw [h] at this
    exact hasB_0 hk this
  · intro h
    apply hasB_ext
    intro k hk
    rw [hasB_and hk, hasB_not hk]
    exact ⟨fun q => absurd (h k hk q.1) q.2, fun q => absurd q (hasB_0 hk)⟩
theorem nI_of_low {x : Int32} {n : Nat} (hn : n ≤ 8) (h : ∀ k, n ≤ k → k < 32 → ¬ hasB x k) : ∃ v, v < 2 ^ n ∧ x = nI v := by
  refine ⟨x.toBitVec.toNat % 2 ^ n, Nat.mod_lt _ (Nat.two_pow_pos n), ?_⟩
  have hb : x.toBitVec.toNat % 2 ^ n < 2 ^ 32 := Nat.lt_of_lt_of_le (Nat.mod_lt _ (Nat.two_pow_pos n)) (Nat.pow_le_pow_right (by decide) (by omega))
  apply hasB_ext
  intro k hk
  rw [hasB_iff hk, hasB_iff hk, nI_bit hb, Nat.testBit_mod_two_pow]
  rcases Nat.lt_or_ge k n with q | q
  · rw [decide_eq_true q, Bool.true_and]; rfl
  · rw [decide_eq_false (by omega), Bool.false_and]
    have := h k q hk
    rw [hasB_iff hk] at this
    exact iff_of_false this (by decide)
theorem low_range {x : Int32} {n : Nat} (hn : n ≤ 8) : (¬ x < 0 ∧ x < (nI 1) <<< ((nI n) &&& 31)) ↔ ∀ k, n ≤ k → k < 32 → ¬ hasB x k := by
  have e : (nI 1) <<< ((nI n) &&& 31) = nI (2 ^ n) := xshl n (by omega)
  have h256 : 2 ^ n ≤ 256 := Nat.le_trans (Nat.pow_le_pow_right (by decide) hn) (by decide)
  rw [e]
  constructor
  · rintro ⟨h1, h2⟩ k hk hk2
    obtain ⟨v, hv, rfl⟩ : ∃ v, v < 2 ^ n ∧ x = nI v := by
      refine ⟨x.toInt.toNat, ?_, ?_⟩
      · rw [Int32.lt_iff_toInt_lt, nI_toInt (by omega)] at h2
        rw [Int32.lt_iff_toInt_lt] at h1
        have e0 : (0 : Int32).toInt = 0 := by decide
        rw [e0] at h1
        omega
      · rw [Int32.lt_iff_toInt_lt, nI_toInt (by omega)] at h2
        rw [Int32.lt_iff_toInt_lt] at h1
        have e0 : (0 : Int32).toInt = 0 := by decide
        rw [e0] at h1
        apply Int32.toInt_inj.mp
        rw [nI_toInt (by omega)]
        omega
    rw [hasB_iff hk2, nI_bit (by omega)]
    rw [Nat.testBit_lt_two_pow (Nat.lt_of_lt_of_le hv (Nat.pow_le_pow_right (by decide) hk))]
    decide
  · intro h
    obtain ⟨v, hv, rfl⟩ := nI_of_low hn h
    constructor
    · intro q
      rw [Int32.lt_iff_toInt_lt, nI_toInt (by omega)] at q
      have e0 : (0 : Int32).toInt = 0 := by decide
      rw [e0] at q
      omega
    · exact nI_lt hv (by omega)
def msmP (n k j : Nat) (y : Int32) : Prop := (¬ y < 0 ∧ y < (nI 1) <<< ((nI n) &&& 31)) ∧ ¬ hasB y j ∧ nI (cntL y 16) = nI k
theorem smp_bits {n j : Nat} (hn : n ≤ 8) (hj : j < n) {y : Int32} : y &&& (((nI (2 ^ n - 1)) &&& ((nI 1 <<< ((nI j) &&& 31)) ^^^ (-1))) ^^^ (-1)) = 0 ↔ ((¬ y < 0 ∧ y < (nI 1) <<< ((nI n) &&& 31)) ∧ ¬ hasB y j) := by
  have eM : ∀ k, k < 32 → (hasB ((nI (2 ^ n - 1)) &&& ((nI 1 <<< ((nI j) &&& 31)) ^^^ (-1))) k ↔ k < n ∧ k ≠ j) := fun k hk => by
    have e : ∀ n, n ≤ 8 → nI (2 ^ n - 1) = ((nI 1) <<< ((nI n) &&& 31)) - (nI 1) := by decide
    rw [hasB_and hk, e n hn, hasB_msk (by omega) hk, hasB_m1 (by omega) hk]
  rw [bits_sub, low_range hn]
  constructor
  · intro h
    exact ⟨fun k h1 h2 q => by have := ((eM k h2).mp (h k h2 q)).1; omega, fun q => ((eM j (by omega)).mp (h j (by omega) q)).2 rfl⟩
  · rintro ⟨h1, h2⟩ k hk q
    refine (eM k hk).mpr ⟨?_, fun z => h2 (z ▸ q)⟩
    rcases Nat.lt_or_ge k n with w | w
    · exact w
    · exact absurd q (h1 k w hk)
theorem smp_iff {n k j : Nat} (hn : n ≤ 8) (hj : j < n) {y : Int32} : smpP n k (nI j) y ↔ msmP n k j y := by
  unfold smpP msmP
  rw [smp_bits hn hj]
  constructor
  · rintro ⟨_, ⟨h1, h2⟩, h3⟩
    refine ⟨h1, h2, ?_⟩
    rw [← bc_cnt (fun i hi hi2 => (low_range hn).mp h1 i (by omega) hi2)]
    exact h3
  · rintro ⟨h1, h2, h3⟩
    refine ⟨okN_nI hj (by omega), ⟨h1, h2⟩, ?_⟩
    rw [bc_cnt (fun i hi hi2 => (low_range hn).mp h1 i (by omega) hi2)]
    exact h3
theorem smp_S {n k j : Nat} (hn : n ≤ 8) (hk : k < 8) {y : Int32} (h : msmP n k j y) : (∀ i, i < 32 → hasB y i → i < n ∧ ¬ i = j) ∧ cntL y 16 = k := by
  refine ⟨fun i hi q => ⟨?_, fun z => h.2.1 (z ▸ q)⟩, (nI_eq (by have := cnt_le y 16; omega) (by omega)).mp h.2.2⟩
  rcases Nat.lt_or_ge i n with w | w
  · exact w
  · exact absurd q ((low_range hn).mp h.1 i w hi)
def mcaP (f : Nat → Int32) (a : Nat) : Prop := f (48 + a) = 0 ∧ f (40 + a) = 0 ∧ ¬ f (0 + a) < 0
/-- the same question on both sides -/
theorem ask_iff {be : Nat} {nf kf lf f : Nat → Int32} {u : Nat → Nat} {a : Nat} (h : relN be nf kf lf f u a) : askP a nf kf ↔ mcaP f a := by
  obtain ⟨h1, h2, h3, h4, h5⟩ := h
  unfold askP mcaP
  have h20 := h2.1
  rw [Nat.zero_add] at h20
  rw [Nat.zero_add, h1.dec, h1.col, cI_m1 h3.1, h4, h2.2.2.2.2.2, h20, cI_neg h3.1]
  have e : u 5 = 0 ↔ nI (u 5) = 0 := by
    have := h3.2.2.2.2.2.1
    rcases (show u 5 = 0 ∨ u 5 = 1 by omega) with q | q <;> rw [q]
    · exact iff_of_true rfl rfl
    · exact iff_of_false (by decide) (by decide)
  rw [e]
  exact Iff.rfl
def keepG (km : Nat) (f g : Nat → Int32) (j : Nat) : Int32 := if km < 8 then (if 288 * km ≤ j ∧ j < 288 * km + 288 then f (j - 288 * km) else g j) else (if 2016 ≤ j then f (j - 2016) else g (j + 288))
