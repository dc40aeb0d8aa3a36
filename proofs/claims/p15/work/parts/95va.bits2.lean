/-! fields of a packed word -/
def fld (s w : Nat) (x : Int32) : Nat := x.toBitVec.toNat / 2 ^ s % 2 ^ w
theorem fld_lt (s w : Nat) (x : Int32) : fld s w x < 2 ^ w := Nat.mod_lt _ (Nat.two_pow_pos w)
theorem fld_bit (s w : Nat) (x : Int32) (i : Nat) : (fld s w x).testBit i = (decide (i < w) && x.toBitVec.getLsbD (s + i)) := by
  unfold fld
  rw [Nat.testBit_mod_two_pow, Nat.testBit_div_two_pow]
  rw [Nat.add_comm i s]
  rfl
theorem nat_bits {a b : Nat} (h : ∀ i, a.testBit i = b.testBit i) : a = b := Nat.eq_of_testBit_eq h
theorem nI_bit {n : Nat} (hn : n < 2 ^ 32) (i : Nat) : (nI n).toBitVec.getLsbD i = n.testBit i := by
  show (nI n).toBitVec.toNat.testBit i = n.testBit i
  congr 1
  show (BitVec.ofNat 32 n).toNat = n
  rw [BitVec.toNat_ofNat]
  exact Nat.mod_eq_of_lt hn
/-- a word in which a field of w bits from s on is v -/
def isSet (s w v : Nat) (x y : Int32) : Prop := ∀ i, i < 32 → y.toBitVec.getLsbD i = if s ≤ i ∧ i < s + w then v.testBit (i - s) else x.toBitVec.getLsbD i
theorem isSet.get {s w v : Nat} {x y : Int32} (h : isSet s w v x y) (hs : s + w ≤ 32) (hv : v < 2 ^ w) : fld s w y = v := by
  apply nat_bits
  intro i
  rw [fld_bit]
  by_cases q : i < w
  · rw [h (s + i) (by omega), if_pos (by omega), decide_eq_true q, Bool.true_and, Nat.add_sub_cancel_left]
  · rw [decide_eq_false q, Bool.false_and]
    symm
    exact Nat.testBit_lt_two_pow (Nat.lt_of_lt_of_le hv (Nat.pow_le_pow_right (by decide) (by omega)))
theorem isSet.keep {s w v s2 w2 : Nat} {x y : Int32} (h : isSet s w v x y) (hs : s2 + w2 ≤ 32) (hd : s2 + w2 ≤ s ∨ s + w ≤ s2) : fld s2 w2 y = fld s2 w2 x := by
  apply nat_bits
  intro i
  rw [fld_bit, fld_bit]
  by_cases q : i < w2
  · rw [h (s2 + i) (by omega), if_neg (by omega)]
  · rw [decide_eq_false q, Bool.false_and, Bool.false_and]
/-- x & ~mask | v << s -/
theorem isSet_of {s w v : Nat} {x m z : Int32} (hm : ∀ i, i < 32 → m.toBitVec.getLsbD i = decide (¬ (s ≤ i ∧ i < s + w))) (hz : ∀ i, i < 32 → z.toBitVec.getLsbD i = (decide (s ≤ i) && v.testBit (i - s))) (hv : v < 2 ^ w) : isSet s w v x ((x &&& m) ||| z) := fun i hi => by
  rw [Int32.toBitVec_or, Int32.toBitVec_and, BitVec.getLsbD_or, BitVec.getLsbD_and, hm i hi, hz i hi]
  by_cases q : s ≤ i ∧ i < s + w
  · rw [if_pos q, decide_eq_false (not_not_intro q), Bool.and_false, Bool.false_or, decide_eq_true q.1, Bool.true_and]
  · rw [if_neg q, decide_eq_true q, Bool.and_true]
    have : (decide (s ≤ i) && v.testBit (i - s)) = false := by
      by_cases g : s ≤ i
      · rw [decide_eq_true g, Bool.true_and]
        exact Nat.testBit_lt_two_pow (Nat.lt_of_lt_of_le hv (Nat.pow_le_pow_right (by decide) (by omega)))
      · rw [decide_eq_false g, Bool.false_and]
    rw [this, Bool.or_false]
theorem shl_bit {s v : Nat} (hs : s < 32) (hv : v < 2 ^ 32) (i : Nat) (hi : i < 32) : ((nI v) <<< ((nI s) &&& 31)).toBitVec.getLsbD i = (decide (s ≤ i) && v.testBit (i - s)) := by
  have e : ∀ s, s < 32 → (nI s) &&& 31 = nI s := by decide
  have e2 : ∀ s, s < 32 → (nI s).toBitVec.smod 32 = BitVec.ofNat 32 s := by decide
  rw [e s hs, Int32.toBitVec_shiftLeft, e2 s hs, BitVec.shiftLeft_eq', BitVec.getLsbD_shiftLeft]
  have h3 : (BitVec.ofNat 32 s).toNat = s := by rw [BitVec.toNat_ofNat]; omega
  rw [h3, nI_bit hv]
  by_cases q : i < s
  · rw [decide_eq_true q, decide_eq_false (by omega : ¬ s ≤ i)]; simp
  · rw [decide_eq_false q, decide_eq_true (by omega : s ≤ i), decide_eq_true hi]; simp
theorem ushr_bit (x : Int32) {s : Nat} (hs : s < 32) (i : Nat) : ((x.toUInt32 >>> ((nI s).toUInt32 &&& Int32.toUInt32 31)).toInt32).toBitVec.getLsbD i = x.toBitVec.getLsbD (s + i) := by
  have e : ∀ s, s < 32 → (nI s).toUInt32 &&& Int32.toUInt32 31 = (nI s).toUInt32 := by decide
  have e2 : ∀ s, s < 32 → ((nI s).toUInt32.toBitVec % 32).toNat = s := by decide
  rw [e s hs]
  show (x.toUInt32 >>> (nI s).toUInt32).toBitVec.getLsbD i = _
  rw [UInt32.toBitVec_shiftRight, BitVec.ushiftRight_eq', BitVec.getLsbD_ushiftRight, e2 s hs]
  rfl
theorem low_and (x : Int32) {m : Int32} {w : Nat} (hm : m.toBitVec.toNat = 2 ^ w - 1) : x &&& m = nI (fld 0 w x) := by
  rw [pk_and x w hm]
  unfold fld
  rw [Nat.pow_zero, Nat.div_one]
theorem get_and (x : Int32) {s w : Nat} {m : Int32} (hs : s < 32) (hm : m.toBitVec.toNat = 2 ^ w - 1) : ((x.toUInt32 >>> ((nI s).toUInt32 &&& Int32.toUInt32 31)).toInt32) &&& m = nI (fld s w x) := by
  rw [pk_and _ w hm]
  congr 1
  apply nat_bits
  intro i
  rw [fld_bit, Nat.testBit_mod_two_pow]
  congr 1
  exact ushr_bit x hs i
