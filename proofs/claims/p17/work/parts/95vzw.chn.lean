/-! the chain, as the class finds it -/
def upI (n : Nat) (cf : Nat → Int32) (i : Nat) : Int32 := nI (n - i) * cf i
def dnI (n : Nat) (cf : Nat → Int32) (i : Nat) : Int32 := nI i * cf (n - i)
def uqF (n : Nat) (cf : Nat → Int32) (i : Nat) : fr := ((upI n cf i).toInt64, 1)
def dqF (n : Nat) (cf : Nat → Int32) (i : Nat) : fr := ((dnI n cf i).toInt64, 1)
def elM (n : Nat) (cf : Nat → Int32) (i : Nat) (bu : fr) : fr := leF (plF (uqF n cf i) (dqF n cf i)) (tiF (dqF n cf i) bu)
def elB (n : Nat) (cf : Nat → Int32) (i : Nat) (bu : fr) : fr := if (elM n cf i bu).1 = 0 ∧ (elM n cf i bu).2 ≠ 0 then (0, 1) else byF (uqF n cf i) (elM n cf i bu)
def elR (n : Nat) (cf : Nat → Int32) (cost : fr) (i : Nat) (bu re : fr) : fr := if (elM n cf i bu).1 = 0 ∧ (elM n cf i bu).2 ≠ 0 then (0, 1) else byF (plF cost (tiF (dqF n cf i) re)) (elM n cf i bu)
def buF (n : Nat) (cf : Nat → Int32) : Nat → fr
  | 0 => (0, 1)
  | i + 1 => elB n cf (i + 1) (buF n cf i)
def reF (n : Nat) (cf : Nat → Int32) (cost : fr) : Nat → fr
  | 0 => (0, 1)
  | i + 1 => elR n cf cost (i + 1) (buF n cf i) (reF n cf cost i)
/-- d below the most -/
def soF (n : Nat) (cf : Nat → Int32) (cost last : fr) : Nat → fr
  | 0 => last
  | d + 1 => plF (tiF (buF n cf (n - 1 - d)) (soF n cf cost last d)) (reF n cf cost (n - 1 - d))
def csT (n se : Nat) : fr := ((nI n).toInt64 * (nI se).toInt64, 1)
def odF (n : Nat) (cf : Nat → Int32) (j : Nat) : fr := soF n cf (0, 1) (1, 1) (n - j)
def tmF (n se : Nat) (cf : Nat → Int32) (j : Nat) : fr := soF n cf (csT n se) (0, 1) (n - j)
/-- where it may stay -/
def stA (n : Nat) (cf : Nat → Int32) : Nat → Nat → Bool
  | 0, _ => false
  | o + 1, i => if 0 < i ∧ i < n then (if upI n cf i = 0 then decide (dnI n cf i = 0) else stA n cf o (i + 1)) else false
def stB (n : Nat) (cf : Nat → Int32) : Nat → Nat → Bool
  | 0, _ => false
  | o + 1, i => if 0 < i ∧ i < n then (if dnI n cf i = 0 then decide (upI n cf i = 0) else stB n cf o (i - 1)) else false
def msC (n : Nat) (cf : Nat → Int32) (j : Nat) : Bool := stA n cf 10 j || stB n cf 10 j
def chA (x : fr) (w : Nat) : Int64 := if x.2 = 0 then -2 else if w % 2 = 0 then x.1 else x.2
def chC (n se : Nat) (cf : Nat → Int32) (j w : Nat) : Int64 := if 2 ≤ w ∧ msC n cf j = true then -1 else chA (if w < 2 then odF n cf j else tmF n se cf j) w
theorem el_z {n i : Nat} {cf : Nat → Int32} {cost bu re : fr} (h : (elM n cf i bu).1 = 0 ∧ (elM n cf i bu).2 ≠ 0) : elB n cf i bu = (0, 1) ∧ elR n cf cost i bu re = (0, 1) := ⟨if_pos h, if_pos h⟩
theorem el_n {n i : Nat} {cf : Nat → Int32} {cost bu re : fr} (h : ¬ ((elM n cf i bu).1 = 0 ∧ (elM n cf i bu).2 ≠ 0)) : elB n cf i bu = byF (uqF n cf i) (elM n cf i bu) ∧ elR n cf cost i bu re = byF (plF cost (tiF (dqF n cf i) re)) (elM n cf i bu) := ⟨if_neg h, if_neg h⟩
theorem iz_t {x : fr} (h : (if x.1 = 0 ∧ x.2 ≠ 0 then nI 1 else nI 0) = 0) : ¬ (x.1 = 0 ∧ x.2 ≠ 0) := fun q => by
  rw [if_pos q] at h
  exact absurd h (by decide)
theorem iz_f {x : fr} (h : ¬ (if x.1 = 0 ∧ x.2 ≠ 0 then nI 1 else nI 0) = 0) : x.1 = 0 ∧ x.2 ≠ 0 := by
  apply Decidable.byContradiction
  intro q
  rw [if_neg q] at h
  exact h rfl
theorem tg_t {x : Int64} (h : (if x = 0 then nI 1 else nI 0) = 0) : ¬ x = 0 := fun q => by
  rw [if_pos q] at h
  exact absurd h (by decide)
theorem tg_f {x : Int64} (h : ¬ (if x = 0 then nI 1 else nI 0) = 0) : x = 0 := by
  apply Decidable.byContradiction
  intro q
  rw [if_neg q] at h
  exact h rfl
theorem stA_stop {n o i : Nat} {cf : Nat → Int32} (h : i ≤ 0 ∨ n ≤ i) : stA n cf o i = false := by
  cases o with
  | zero => rfl
  | succ o => exact if_neg (by omega)
theorem stA_next {n o i : Nat} {cf : Nat → Int32} (h : 0 < i ∧ i < n) (u : ¬ upI n cf i = 0) : stA n cf (o + 1) i = stA n cf o (i + 1) := (if_pos h).trans (if_neg u)
theorem stA_end {n o i : Nat} {cf : Nat → Int32} (h : 0 < i ∧ i < n) (u : upI n cf i = 0) : stA n cf (o + 1) i = decide (dnI n cf i = 0) := (if_pos h).trans (if_pos u)
theorem stB_stop {n o i : Nat} {cf : Nat → Int32} (h : i ≤ 0 ∨ n ≤ i) : stB n cf o i = false := by
  cases o with
  | zero => rfl
  | succ o => exact if_neg (by omega)
theorem stB_next {n o i : Nat} {cf : Nat → Int32} (h : 0 < i ∧ i < n) (u : ¬ dnI n cf i = 0) : stB n cf (o + 1) i = stB n cf o (i - 1) := (if_pos h).trans (if_neg u)
theorem stB_end {n o i : Nat} {cf : Nat → Int32} (h : 0 < i ∧ i < n) (u : dnI n cf i = 0) : stB n cf (o + 1) i = decide (upI n cf i = 0) := (if_pos h).trans (if_pos u)
def chok (n : Nat) (x y : Int32) : Prop := ¬ x < 0 ∧ x ≤ nI n ∧ ¬ y < 0 ∧ y ≤ nI 3
theorem ch_lo {n se j w : Nat} {cf : Nat → Int32} (hw : w < 2) : chC n se cf j w = chA (odF n cf j) w := by
  unfold chC
  rw [if_neg (fun q => by have := q.1; omega), if_pos hw]
theorem ch_hi {n se j w : Nat} {cf : Nat → Int32} (hw : 2 ≤ w) (h : ¬ msC n cf j = true) : chC n se cf j w = chA (tmF n se cf j) w := by
  unfold chC
  rw [if_neg (fun q => h q.2), if_neg (by omega)]
theorem ch_st {n se j w : Nat} {cf : Nat → Int32} (hw : 2 ≤ w) (h : msC n cf j = true) : chC n se cf j w = -1 := if_pos ⟨hw, h⟩
theorem chA_g {x : fr} {w : Nat} (h : x.2 = 0) : chA x w = -2 := if_pos h
theorem chA_a {x : fr} {w : Nat} (h : ¬ x.2 = 0) (hw : w % 2 = 0) : chA x w = x.1 := (if_neg h).trans (if_pos hw)
theorem chA_b {x : fr} {w : Nat} (h : ¬ x.2 = 0) (hw : ¬ w % 2 = 0) : chA x w = x.2 := (if_neg h).trans (if_neg hw)
theorem ms_t {n j : Nat} {cf : Nat → Int32} {r : Int32} (h : r = if msC n cf j = true then nI 1 else nI 0) (q : r = 0) : ¬ msC n cf j = true := fun z => by
  rw [if_pos z] at h
  exact absurd (h.symm.trans q) (by decide)
theorem ms_f {n j : Nat} {cf : Nat → Int32} {r : Int32} (h : r = if msC n cf j = true then nI 1 else nI 0) (q : ¬ r = 0) : msC n cf j = true := by
  apply Decidable.byContradiction
  intro z
  rw [if_neg z] at h
  exact q h
