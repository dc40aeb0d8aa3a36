/-! the chain, as the model finds it -/
def mtV (a b : Int64) : Int64 := if a = 0 ∨ b = 0 then 0 else a * b
def mtI (ig : Int32) (a b : Int64) : Int32 := if a = 0 ∨ b = 0 then ig else if a * b / b = a then ig else nI 1
def mpI (ig : Int32) (a b : Int64) : Int32 := if (a < 0 ↔ b < 0) ∧ ¬ (a + b < 0 ↔ a < 0) then nI 1 else ig
def abL (p : Int64) : Int64 := if p < 0 then -p else p
def msA (ig : Int32) (p q : Int64) : Int64 := if ig = 0 then p / gcR 200 (abL p) q else 0
def msB (ig : Int32) (p q : Int64) : Int64 := if ig = 0 then q / gcR 200 (abL p) q else 1
abbrev msT : Type := Int32 × fr
def mset (ig : Int32) (p q : Int64) : msT := (ig, (msA ig p q, msB ig p q))
def maddI (ig : Int32) (p q r t : Int64) : Int32 := mtI (mpI (mtI (mtI ig p t) r q) (mtV p t) (mtV r q)) q t
def madd (ig : Int32) (p q r t : Int64) : msT := mset (maddI ig p q r t) (mtV p t + mtV r q) (mtV q t)
def mlesI (ig : Int32) (p q r t : Int64) : Int32 := mtI (mpI (mtI (mtI ig p t) r q) (mtV p t) (-(mtV r q))) q t
def mles (ig : Int32) (p q r t : Int64) : msT := mset (mlesI ig p q r t) (mtV p t + -(mtV r q)) (mtV q t)
def mmul (ig : Int32) (p q r t : Int64) : msT := mset (mtI (mtI ig p r) q t) (mtV p r) (mtV q t)
def mdiv (ig : Int32) (p q r t : Int64) : msT := mset (mtI (mtI ig p t) q r) (mtV p t) (mtV q r)
theorem abL_n {p : Int64} (h : p < 0) : abL p = -p := if_pos h
theorem abL_p {p : Int64} (h : ¬ p < 0) : abL p = p := if_neg h
theorem gc_end (K : Nat) (g : Int64) : gcR K g 0 = g := by
  cases K with
  | zero => rfl
  | succ K => exact if_pos rfl
theorem gc_step {o : Nat} {u v : Int64} (ho : o < 200) (hv : ¬ v = 0) : gcR (200 - o) u v = gcR (200 - (o + 1)) v (u - u / v * v) := by
  rw [show 200 - o = (200 - (o + 1)) + 1 by omega]
  exact if_neg hv
/-- how far Euclid's steps may go -/
def gcB (o : Nat) (u v : Int64) : Prop := o = 0 ∨ (v.toInt.natAbs < u.toInt.natAbs ∧ u.toInt.natAbs * v.toInt.natAbs * 2 ^ (o - 1) ≤ 2 ^ 126)
theorem abs63 (x : Int64) : x.toInt.natAbs ≤ 2 ^ 63 := by have := Int64.le_toInt x; have := Int64.toInt_lt x; omega
theorem rem_abs {a b : Int64} (hb : ¬ b = 0) : (a - a / b * b).toInt.natAbs = a.toInt.natAbs % b.toInt.natAbs := by
  have hb' : b.toInt ≠ 0 := fun q => hb (Int64.toInt_inj.mp (by rw [q]; decide))
  have e : (a - a / b * b).toInt = a.toInt.tmod b.toInt := by
    rw [Int64.toInt_sub, Int64.toInt_mul, Int64.toInt_div]
    have h := Int.mul_tdiv_add_tmod a.toInt b.toInt
    have h3 : (a.toInt.tmod b.toInt).natAbs = a.toInt.natAbs % b.toInt.natAbs := Int.natAbs_tmod ..
    have h4 : a.toInt.natAbs % b.toInt.natAbs < b.toInt.natAbs := Nat.mod_lt _ (by omega)
    have h5 := Int64.le_toInt b
    have h6 := Int64.toInt_lt b
    have this : a.toInt - a.toInt.tdiv b.toInt * b.toInt = a.toInt.tmod b.toInt := by rw [Int.mul_comm]; omega
    simp only [Int.sub_bmod_bmod, Int.bmod_mul_bmod]
    rw [this]
    rw [Int.bmod_def]
    have : (2 : Int) ^ 64 = 18446744073709551616 := by decide
    split <;> omega
  rw [e, Int.natAbs_tmod]
theorem gcB_lt {o : Nat} {u v : Int64} (h : gcB o u v) (hv : ¬ v = 0) : o < 200 := by
  rcases h with h | ⟨h1, h2⟩
  · omega
  · have hv1 : 1 ≤ v.toInt.natAbs := by
      have : v.toInt ≠ 0 := fun q => hv (Int64.toInt_inj.mp (by rw [q]; decide))
      omega
    have h3 : 1 ≤ u.toInt.natAbs * v.toInt.natAbs := Nat.mul_pos (by omega) hv1
    have h4 : 2 ^ (o - 1) ≤ 2 ^ 126 := Nat.le_trans (by have := Nat.mul_le_mul_right (2 ^ (o - 1)) h3; rw [Nat.one_mul] at this; exact this) h2
    have h5 := (Nat.pow_le_pow_iff_right (a := 2) (by decide)).mp h4
    omega
theorem gcB_step {o : Nat} {u v : Int64} (h : gcB o u v) (hv : ¬ v = 0) : gcB (o + 1) v (u - u / v * v) := by
  have hv1 : 1 ≤ v.toInt.natAbs := by
    have : v.toInt ≠ 0 := fun q => hv (Int64.toInt_inj.mp (by rw [q]; decide))
    omega
  refine Or.inr ⟨by rw [rem_abs hv]; exact Nat.mod_lt _ hv1, ?_⟩
  rw [rem_abs hv]
  have hr : u.toInt.natAbs % v.toInt.natAbs < v.toInt.natAbs := Nat.mod_lt _ hv1
  obtain ⟨A, hA⟩ : ∃ A, A = u.toInt.natAbs := ⟨_, rfl⟩
  obtain ⟨B, hB⟩ : ∃ B, B = v.toInt.natAbs := ⟨_, rfl⟩
  rw [← hA, ← hB] at hr ⊢
  rcases h with h | ⟨h1, h2⟩
  · subst h
    show B * (A % B) * 2 ^ 0 ≤ 2 ^ 126
    have b1 : B ≤ 2 ^ 63 := by rw [hB]; exact abs63 v
    rw [Nat.pow_zero, Nat.mul_one]
    exact Nat.le_trans (Nat.mul_le_mul b1 (show A % B ≤ 2 ^ 63 by omega)) (by decide)
  · rw [← hA, ← hB] at h1 h2
    have e : o = (o - 1) + 1 ∨ o = 0 := by omega
    have h3 : 2 * (A % B) ≤ A := by
      have d := Nat.div_add_mod A B
      have q1 : 1 ≤ A / B := (Nat.le_div_iff_mul_le (by omega)).mpr (by omega)
      have q2 : B * 1 ≤ B * (A / B) := Nat.mul_le_mul_left B q1
      omega
    show B * (A % B) * 2 ^ o ≤ 2 ^ 126
    rcases e with e | e
    · rw [e, Nat.pow_succ]
      have s1 : B * (A % B) * (2 ^ (o - 1) * 2) = B * (2 * (A % B)) * 2 ^ (o - 1) := by
        rw [Nat.mul_comm (2 ^ (o - 1)) 2, ← Nat.mul_assoc, Nat.mul_assoc B (A % B) 2, Nat.mul_comm (A % B) 2]
      rw [s1]
      refine Nat.le_trans (Nat.mul_le_mul_right _ (Nat.mul_le_mul_left B h3)) ?_
      rw [Nat.mul_comm B A]
      exact h2
    · rw [e] at h2 ⊢
      have : B * (A % B) ≤ B * A := Nat.mul_le_mul_left B (Nat.mod_le A B)
      rw [Nat.mul_comm B A] at this
      have h2' : A * B * 2 ^ 0 ≤ 2 ^ 126 := h2
      rw [Nat.pow_zero, Nat.mul_one] at h2' ⊢
      omega
/-- what carries a colour, in so many samples -/
def enS (n k s al : Nat) : Nat → Int64
  | 0 => 0
  | d + 1 => enS n k s al d + chV (nI s) (al + d) * chV (nI n - nI 1 - nI s) (k - (al + d))
def enM (n k al s : Nat) : Int64 := enS n k s al (k + 1 - al)
def upM (n k al i : Nat) : Int64 := (nI n - nI i).toInt64 * enM n k al i
def dnM (n k al i : Nat) : Int64 := (nI i).toInt64 * enM n k al (n - i)
/-- a step laid -/
def st1M (n k al i : Nat) (ig : Int32) (A : fr) : msT := mmul ig (dnM n k al i) 1 A.1 A.2
def st2M (n k al i : Nat) (ig : Int32) (A : fr) : msT := mles (st1M n k al i ig A).1 (upM n k al i + dnM n k al i) 1 (st1M n k al i ig A).2.1 (st1M n k al i ig A).2.2
def st3M (n k al i : Nat) (ig : Int32) (A : fr) : msT := mdiv (st2M n k al i ig A).1 (upM n k al i) 1 (st2M n k al i ig A).2.1 (st2M n k al i ig A).2.2
def st4M (n k al i : Nat) (ig : Int32) (A B : fr) : msT := mmul (st3M n k al i ig A).1 (dnM n k al i) 1 B.1 B.2
def st5M (n k al i : Nat) (x ig : Int32) (A B : fr) : msT := if x = 0 then st4M n k al i ig A B else madd (st4M n k al i ig A B).1 ((nI n).toInt64 * smV n k) 1 (st4M n k al i ig A B).2.1 (st4M n k al i ig A B).2.2
def st6M (n k al i : Nat) (x ig : Int32) (A B : fr) : msT := mdiv (st5M n k al i x ig A B).1 (st5M n k al i x ig A B).2.1 (st5M n k al i x ig A B).2.2 (st2M n k al i ig A).2.1 (st2M n k al i ig A).2.2
/-- a step laid: whether it is too great, A, B -/
def stM (n k al i : Nat) (x ig : Int32) (A B : fr) : Int32 × fr × fr := if upM n k al i = 0 ∧ dnM n k al i = 0 then (ig, (0, 1), (0, 1)) else if (st2M n k al i ig A).2.1 = 0 ∨ ¬ (st2M n k al i ig A).1 = 0 then ((st2M n k al i ig A).1, (0, 1), (0, 1)) else ((st6M n k al i x ig A B).1, (st3M n k al i ig A).2, (st6M n k al i x ig A B).2)
def sqM (n k al : Nat) (x : Int32) : Nat → Int32 × fr × fr
  | 0 => (0, (0, 1), (0, 1))
  | i + 1 => stM n k al (i + 1) x (sqM n k al x i).1 (sqM n k al x i).2.1 (sqM n k al x i).2.2
/-- down from all -/
def gdM (n k al : Nat) (x : Int32) (first : Int64) : Nat → msT
  | 0 => ((sqM n k al x (n - 1)).1, (first, 1))
  | d + 1 => madd (mmul (gdM n k al x first d).1 (sqM n k al x (n - 1 - d)).2.1.1 (sqM n k al x (n - 1 - d)).2.1.2 (gdM n k al x first d).2.1 (gdM n k al x first d).2.2).1 (mmul (gdM n k al x first d).1 (sqM n k al x (n - 1 - d)).2.1.1 (sqM n k al x (n - 1 - d)).2.1.2 (gdM n k al x first d).2.1 (gdM n k al x first d).2.2).2.1 (mmul (gdM n k al x first d).1 (sqM n k al x (n - 1 - d)).2.1.1 (sqM n k al x (n - 1 - d)).2.1.2 (gdM n k al x first d).2.1 (gdM n k al x first d).2.2).2.2 (sqM n k al x (n - 1 - d)).2.2.1 (sqM n k al x (n - 1 - d)).2.2.2
/-- what stays great -/
theorem mtI_g {ig : Int32} {a b : Int64} (h : gr ig) : gr (mtI ig a b) := by
  unfold mtI
  split
  · exact h
  · split
    · exact h
    · exact gr_1
theorem mpI_g {ig : Int32} {a b : Int64} (h : gr ig) : gr (mpI ig a b) := by
  unfold mpI
  split
  · exact gr_1
  · exact h
theorem mmul_g {ig : Int32} {p q r t : Int64} (h : gr ig) : gr (mmul ig p q r t).1 := mtI_g (mtI_g h)
theorem mdiv_g {ig : Int32} {p q r t : Int64} (h : gr ig) : gr (mdiv ig p q r t).1 := mtI_g (mtI_g h)
theorem madd_g {ig : Int32} {p q r t : Int64} (h : gr ig) : gr (madd ig p q r t).1 := mtI_g (mpI_g (mtI_g (mtI_g h)))
theorem mles_g {ig : Int32} {p q r t : Int64} (h : gr ig) : gr (mles ig p q r t).1 := mtI_g (mpI_g (mtI_g (mtI_g h)))
theorem st2_g {n k al i : Nat} {ig : Int32} {A : fr} (h : gr ig) : gr (st2M n k al i ig A).1 := mles_g (mmul_g h)
theorem st6_g {n k al i : Nat} {x ig : Int32} {A B : fr} (h : gr ig) : gr (st6M n k al i x ig A B).1 := by
  refine mdiv_g ?_
  have h4 : gr (st4M n k al i ig A B).1 := mmul_g (mdiv_g (st2_g h))
  unfold st5M
  split
  · exact h4
  · exact madd_g h4
theorem stM_g {n k al i : Nat} {x ig : Int32} {A B : fr} (h : gr ig) : gr (stM n k al i x ig A B).1 := by
  unfold stM
  split
  · exact h
  · split
    · exact st2_g h
    · exact st6_g h
theorem sq_g {n k al : Nat} {x : Int32} {i : Nat} (h : gr (sqM n k al x i).1) : ∀ d, gr (sqM n k al x (i + d)).1
  | 0 => h
  | d + 1 => stM_g (sq_g h d)
theorem gd_g {n k al : Nat} {x : Int32} {first : Int64} {i : Nat} (h : gr (gdM n k al x first i).1) : ∀ d, gr (gdM n k al x first (i + d)).1
  | 0 => h
  | d + 1 => madd_g (mmul_g (gd_g h d))
/-- where it may stay -/
def loM (n k al : Nat) : Nat → Nat
  | 0 => 0
  | l + 1 => if 0 < dnM n k al (l + 1) then loM n k al l else l + 1
def hiM (n k al : Nat) : Nat → Nat → Nat
  | 0, h => h
  | o + 1, h => if h < n ∧ 0 < upM n k al h then hiM n k al o (h + 1) else h
def anM (n k al hi : Nat) : Nat → Nat → Bool
  | 0, _ => false
  | o + 1, i => if i ≤ hi ∧ i < n then (if upM n k al i = 0 ∧ dnM n k al i = 0 then true else anM n k al hi o (i + 1)) else false
def msM (n k al j : Nat) : Bool := if j = 0 ∨ j = n then false else anM n k al (hiM n k al 10 j) 10 (if 1 < loM n k al j then loM n k al j else 1)
def chM (n k al j w : Nat) : Int64 := if 2 ≤ w ∧ msM n k al j = true then -1 else
  if ¬ (sqM n k al (if w < 2 then nI 0 else nI 1) (n - 1)).1 = 0 then -2 else
  if ¬ (gdM n k al (if w < 2 then nI 0 else nI 1) (if w < 2 then 1 else 0) (n - j)).1 = 0 then -2 else
  if w % 2 = 0 then (if 2 ≤ w ∧ j = 0 then 0 else (gdM n k al (if w < 2 then nI 0 else nI 1) (if w < 2 then 1 else 0) (n - j)).2.1) else (if 2 ≤ w ∧ j = 0 then 1 else (gdM n k al (if w < 2 then nI 0 else nI 1) (if w < 2 then 1 else 0) (n - j)).2.2)
section SQ
variable {n k al o : Nat} {x g igz : Int32} {a b c d az bz cz dz : Nat → Int64}
/-- what lies in the rows is what the steps tell -/
def sqR (n k al : Nat) (x : Int32) (o : Nat) (a b c d : Nat → Int64) : Prop := ∀ j, j < o → a j = (sqM n k al x j).2.1.1 ∧ b j = (sqM n k al x j).2.1.2 ∧ c j = (sqM n k al x j).2.2.1 ∧ d j = (sqM n k al x j).2.2.2
theorem sq_step (ho : 1 ≤ o) (hg : g = (sqM n k al x (o - 1)).1) (h : sqR n k al x o a b c d) (h1 : igz = (stM n k al o x g (a (o - 1), b (o - 1)) (c (o - 1), d (o - 1))).1)
    (h2 : az o = (stM n k al o x g (a (o - 1), b (o - 1)) (c (o - 1), d (o - 1))).2.1.1 ∧ bz o = (stM n k al o x g (a (o - 1), b (o - 1)) (c (o - 1), d (o - 1))).2.1.2 ∧ cz o = (stM n k al o x g (a (o - 1), b (o - 1)) (c (o - 1), d (o - 1))).2.2.1 ∧ dz o = (stM n k al o x g (a (o - 1), b (o - 1)) (c (o - 1), d (o - 1))).2.2.2)
    (h3 : ∀ j, ¬ j = o → az j = a j ∧ bz j = b j ∧ cz j = c j ∧ dz j = d j) : igz = (sqM n k al x o).1 ∧ sqR n k al x (o + 1) az bz cz dz := by
  have e : stM n k al o x g (a (o - 1), b (o - 1)) (c (o - 1), d (o - 1)) = sqM n k al x o := by
    obtain ⟨q, rfl⟩ : ∃ q, o = q + 1 := ⟨o - 1, by omega⟩
    obtain ⟨e1, e2, e3, e4⟩ := h q (by omega)
    rw [hg]
    show stM n k al (q + 1) x (sqM n k al x q).1 (a q, b q) (c q, d q) = stM n k al (q + 1) x (sqM n k al x q).1 (sqM n k al x q).2.1 (sqM n k al x q).2.2
    rw [e1, e2, e3, e4]
  rw [e] at h1 h2
  refine ⟨h1, fun j hj => ?_⟩
  by_cases w : j = o
  · subst w; exact h2
  · obtain ⟨e1, e2, e3, e4⟩ := h3 j w
    rw [e1, e2, e3, e4]
    exact h j (by omega)
theorem sq_gr (ho : 1 ≤ o) (hn : o ≤ n) (hg : g = (sqM n k al x (o - 1)).1) (h : gr g) : gr (sqM n k al x (n - 1)).1 := by
  have := sq_g (hg ▸ h) (n - o)
  rw [show o - 1 + (n - o) = n - 1 by omega] at this
  exact this
end SQ
theorem gd_exit {q j n : Nat} (hq : q ≤ n) (hn : n ≤ 8) (hjq : j ≤ q) (c : nI q + (-1) < nI j) : q = j := by
  cases q with
  | zero => omega
  | succ i =>
    rw [show nI (i + 1) + (-1) = nI i from pk_m1 i] at c
    have := (nI_ltI (by omega) (by omega)).mp c
    omega
theorem lo_z {n k al : Nat} : loM n k al 0 = 0 := rfl
theorem lo_s {n k al l : Nat} (hl : 0 < l) (h : 0 < dnM n k al l) : loM n k al l = loM n k al (l - 1) := by
  obtain ⟨q, rfl⟩ : ∃ q, l = q + 1 := ⟨l - 1, by omega⟩
  exact if_pos h
theorem lo_e {n k al l : Nat} (h : ¬ 0 < dnM n k al l) : loM n k al l = l := by
  cases l with
  | zero => rfl
  | succ q => exact if_neg h
theorem hi_s {n k al o h : Nat} (hn : h < n) (hu : 0 < upM n k al h) : hiM n k al (o + 1) h = hiM n k al o (h + 1) := if_pos ⟨hn, hu⟩
theorem hi_e {n k al o h : Nat} (q : ¬ (h < n ∧ 0 < upM n k al h)) : hiM n k al o h = h := by
  cases o with
  | zero => rfl
  | succ o => exact if_neg q
theorem an_s {n k al hi o i : Nat} (h1 : i ≤ hi ∧ i < n) (h2 : ¬ (upM n k al i = 0 ∧ dnM n k al i = 0)) : anM n k al hi (o + 1) i = anM n k al hi o (i + 1) := (if_pos h1).trans (if_neg h2)
theorem an_t {n k al hi o i : Nat} (h1 : i ≤ hi ∧ i < n) (h2 : upM n k al i = 0 ∧ dnM n k al i = 0) : anM n k al hi (o + 1) i = true := (if_pos h1).trans (if_pos h2)
theorem an_e {n k al hi o i : Nat} (h1 : ¬ (i ≤ hi ∧ i < n)) : anM n k al hi o i = false := by
  cases o with
  | zero => rfl
  | succ o => exact if_neg h1
theorem l_le0 {x : Int64} (h : lg_cmp x 0 ≤ 0) : ¬ 0 < x := Int64.not_lt.mpr ((lg_cmp_le x 0).mp h)
theorem l_nle0 {x : Int64} (h : ¬ lg_cmp x 0 ≤ 0) : 0 < x := Int64.not_le.mp (fun q => h ((lg_cmp_le x 0).mpr q))
theorem gd_low {j i n : Nat} (hi : i + 1 ≤ n) (hn : n ≤ 8) (hj : j ≤ n) (c : ¬ nI i < nI j) : j ≤ i := by
  apply Decidable.byContradiction
  intro q
  exact c ((nI_ltI (by omega) (by omega)).mpr (by omega))
theorem gd_gr {n k al q j : Nat} {x g : Int32} {p9 : Int64} (hq : q ≤ n) (hj : j ≤ q) (hg : g = (gdM n k al x p9 (n - q)).1) (h : gr g) : gr (gdM n k al x p9 (n - j)).1 := by
  have := gd_g (hg ▸ h) (q - j)
  rw [show n - q + (q - j) = n - j by omega] at this
  exact this
theorem gd_step {n k al q : Nat} {x g g1 g2 : Int32} {p9 xa xb a1 b1 a2 b2 : Int64} {a b c d : Nat → Int64} (hq : q + 1 ≤ n) (hs : sqR n k al x n a b c d) (h1 : g = (gdM n k al x p9 (n - (q + 1))).1) (h2 : xa = (gdM n k al x p9 (n - (q + 1))).2.1) (h3 : xb = (gdM n k al x p9 (n - (q + 1))).2.2)
    (m1 : g1 = (mmul g (a q) (b q) xa xb).1) (m2 : a1 = (mmul g (a q) (b q) xa xb).2.1) (m3 : b1 = (mmul g (a q) (b q) xa xb).2.2) (s1 : g2 = (madd g1 a1 b1 (c q) (d q)).1) (s2 : a2 = (madd g1 a1 b1 (c q) (d q)).2.1) (s3 : b2 = (madd g1 a1 b1 (c q) (d q)).2.2) :
    g2 = (gdM n k al x p9 (n - q)).1 ∧ a2 = (gdM n k al x p9 (n - q)).2.1 ∧ b2 = (gdM n k al x p9 (n - q)).2.2 := by
  obtain ⟨e1, e2, e3, e4⟩ := hs q (by omega)
  have e : gdM n k al x p9 (n - q) = madd g1 a1 b1 (c q) (d q) := by
    rw [show n - q = (n - (q + 1)) + 1 by omega]
    rw [m1, m2, m3, h1, h2, h3, e1, e2, e3, e4]
    show madd (mmul (gdM n k al x p9 (n - (q + 1))).1 (sqM n k al x (n - 1 - (n - (q + 1)))).2.1.1 (sqM n k al x (n - 1 - (n - (q + 1)))).2.1.2 (gdM n k al x p9 (n - (q + 1))).2.1 (gdM n k al x p9 (n - (q + 1))).2.2).1 _ _ _ _ = _
    rw [show n - 1 - (n - (q + 1)) = q by omega]
  rw [e]
  exact ⟨s1, s2, s3⟩
section CHM
variable {n k al j w : Nat}
theorem cm_st (hw : 2 ≤ w) (h : msM n k al j = true) : chM n k al j w = -1 := if_pos ⟨hw, h⟩
theorem cm_no (hw : w < 2 ∨ ¬ msM n k al j = true) : ¬ (2 ≤ w ∧ msM n k al j = true) := fun q => hw.elim (fun z => by have := q.1; omega) (fun z => z q.2)
theorem cm_2 {X : Int32} (hw : w < 2 ∨ ¬ msM n k al j = true) (hX : (if w < 2 then nI 0 else nI 1) = X) (h : gr (sqM n k al X (n - 1)).1) : chM n k al j w = -2 := by
  unfold chM
  rw [if_neg (cm_no hw), hX, if_pos h]
theorem cm_3 {X : Int32} {p : Int64} (hw : w < 2 ∨ ¬ msM n k al j = true) (hX : (if w < 2 then nI 0 else nI 1) = X) (hp : (if w < 2 then (1 : Int64) else 0) = p) (h : (sqM n k al X (n - 1)).1 = 0) (h2 : gr (gdM n k al X p (n - j)).1) : chM n k al j w = -2 := by
  unfold chM
  rw [if_neg (cm_no hw), hX, hp, if_neg (fun q => q h), if_pos h2]
theorem cm_4 {X : Int32} {p v : Int64} (hw : w < 2 ∨ ¬ msM n k al j = true) (hX : (if w < 2 then nI 0 else nI 1) = X) (hp : (if w < 2 then (1 : Int64) else 0) = p) (h : (sqM n k al X (n - 1)).1 = 0) (h2 : (gdM n k al X p (n - j)).1 = 0) (he : w % 2 = 0) (hv : (if 2 ≤ w ∧ j = 0 then 0 else (gdM n k al X p (n - j)).2.1) = v) : chM n k al j w = v := by
  unfold chM
  rw [if_neg (cm_no hw), hX, hp, if_neg (fun q => q h), if_neg (fun q => q h2), if_pos he]
  exact hv
theorem cm_5 {X : Int32} {p v : Int64} (hw : w < 2 ∨ ¬ msM n k al j = true) (hX : (if w < 2 then nI 0 else nI 1) = X) (hp : (if w < 2 then (1 : Int64) else 0) = p) (h : (sqM n k al X (n - 1)).1 = 0) (h2 : (gdM n k al X p (n - j)).1 = 0) (he : ¬ w % 2 = 0) (hv : (if 2 ≤ w ∧ j = 0 then 1 else (gdM n k al X p (n - j)).2.2) = v) : chM n k al j w = v := by
  unfold chM
  rw [if_neg (cm_no hw), hX, hp, if_neg (fun q => q h), if_neg (fun q => q h2), if_neg he]
  exact hv
end CHM
