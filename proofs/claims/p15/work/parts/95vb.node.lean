/-! a node's word: what it holds, what is put into it -/
abbrev dcM : Int32 := nI 268435456
def colF (x : Int32) : Int32 := (x &&& nI 3) - nI 1
def lasF (x : Int32) : Int32 := (((x).toUInt32 >>> ((nI 2).toUInt32 &&& Int32.toUInt32 31)).toInt32 &&& nI 3) - nI 1
def cntF (x : Int32) : Int32 := ((x).toUInt32 >>> ((nI 4).toUInt32 &&& Int32.toUInt32 31)).toInt32 &&& nI 15
def cofF (x y : Int32) : Int32 := ((x).toUInt32 >>> ((nI 8 + y * nI 10).toUInt32 &&& Int32.toUInt32 31)).toInt32 &&& nI 1023
def wtC (x y : Int32) : Int32 := (x &&& (-4)) ||| (y + nI 1)
def cI (v : Nat) : Int32 := nI v - nI 1
theorem cI_inj {u v : Nat} (hu : u < 3) (hv : v < 3) (h : cI u = cI v) : u = v := by
  have e : ∀ u, u < 3 → ∀ v, v < 3 → cI u = cI v → u = v := by decide
  exact e u hu v hv h
theorem cI_add {v : Nat} (hv : v < 3) : cI v + nI 1 = nI v := by
  have e : ∀ v, v < 3 → cI v + nI 1 = nI v := by decide
  exact e v hv
theorem col_fld (x : Int32) : colF x = cI (fld 0 2 x) := by unfold colF cI; rw [low_and x (w := 2) (by decide)]
theorem las_fld (x : Int32) : lasF x = cI (fld 2 2 x) := by unfold lasF cI; rw [get_and x (s := 2) (w := 2) (by decide) (by decide)]
theorem cnt_fld (x : Int32) : cntF x = nI (fld 4 4 x) := by unfold cntF; rw [get_and x (s := 4) (w := 4) (by decide) (by decide)]
theorem cof_fld (x : Int32) {u : Nat} (hu : u < 2) : cofF x (nI u) = nI (fld (8 + 10 * u) 10 x) := by
  unfold cofF
  have e : ∀ u, u < 2 → nI 8 + nI u * nI 10 = nI (8 + 10 * u) := by decide
  rw [e u hu, get_and x (s := 8 + 10 * u) (w := 10) (by omega) (by decide)]
theorem dec_fld (x : Int32) : x &&& dcM = 0 ↔ fld 28 1 x = 0 := by
  have hb : ∀ i, i < 32 → dcM.toBitVec.getLsbD i = decide (i = 28) := by decide
  constructor
  · intro h
    apply nat_bits
    intro i
    rw [fld_bit, Nat.zero_testBit]
    by_cases q : i < 1
    · have := congrArg (fun z : Int32 => z.toBitVec.getLsbD 28) h
      simp only [Int32.toBitVec_and, BitVec.getLsbD_and] at this
      rw [hb 28 (by decide)] at this
      have e0 : (0 : Int32).toBitVec.getLsbD 28 = false := by decide
      rw [e0] at this
      obtain rfl : i = 0 := by omega
      simpa using this
    · rw [decide_eq_false q, Bool.false_and]
  · intro h
    apply Int32.toBitVec_inj.mp
    apply BitVec.eq_of_getLsbD_eq
    intro i hi
    rw [Int32.toBitVec_and, BitVec.getLsbD_and, hb i hi]
    have e0 : ∀ i, i < 32 → (0 : Int32).toBitVec.getLsbD i = false := by decide
    rw [e0 i hi]
    by_cases q : i = 28
    · subst q
      have := fld_bit 28 1 x 0
      rw [h, Nat.zero_testBit] at this
      simpa using this.symm
    · rw [decide_eq_false q, Bool.and_false]
theorem wtC_set {x : Int32} {v : Nat} (hv : v < 3) : isSet 0 2 v x (wtC x (cI v)) := by
  unfold wtC
  rw [cI_add hv]
  exact isSet_of (by decide) (fun i hi => by rw [nI_bit (by omega)]; simp) (by omega)
theorem wl_set {x : Int32} {v : Nat} (hv : v < 3) : isSet 2 2 v x (wlF x (cI v)) := by
  unfold wlF
  rw [cI_add hv]
  exact isSet_of (by decide) (fun i hi => shl_bit (by decide) (by omega) i hi) (by omega)
theorem wc_set {x : Int32} {v : Nat} (hv : v < 16) : isSet 4 4 v x (wcF x (nI v)) := by
  unfold wcF
  exact isSet_of (by decide) (fun i hi => shl_bit (by decide) (by omega) i hi) (by omega)
theorem wf_set {x : Int32} {u v : Nat} (hu : u < 2) (hv : v < 1024) : isSet (8 + 10 * u) 10 v x (wfF x (nI u) (nI v)) := by
  unfold wfF
  have e : ∀ u, u < 2 → nI 8 + nI u * nI 10 = nI (8 + 10 * u) := by decide
  rw [e u hu]
  refine isSet_of (w := 10) ?_ (fun i hi => shl_bit (by omega) (by omega) i hi) (by omega)
  have h : ∀ u, u < 2 → ∀ i, i < 32 → (((nI 1023) <<< ((nI (8 + 10 * u)) &&& 31)) ^^^ (-1)).toBitVec.getLsbD i = decide (¬ (8 + 10 * u ≤ i ∧ i < 8 + 10 * u + 10)) := by decide
  exact h u hu
theorem wd_set (x : Int32) : isSet 28 1 1 x (wdF x) := fun i hi => by
  unfold wdF
  have hb : ∀ i, i < 32 → dcM.toBitVec.getLsbD i = decide (i = 28) := by decide
  rw [Int32.toBitVec_or, BitVec.getLsbD_or]
  show (x.toBitVec.getLsbD i || dcM.toBitVec.getLsbD i) = _
  rw [hb i hi]
  by_cases q : i = 28
  · subst q; simp
  · rw [decide_eq_false q, Bool.or_false, if_neg (by omega)]
/-- what an other one says: kind, colour, the asker's -/
def sayF (x y z : Int32) : Int32 := if x = nI 0 then (if y = -1 then z else y) else if x = nI 1 then nI 0 else if x = nI 2 then nI 1 else if x = nI 3 then nI 1 - z else -1
theorem sayF_out {x : Int32} (y z : Int32) (h : x.toInt < 0 ∨ ((4 : Nat) : Int) - 1 < x.toInt) : sayF x y z = -1 := by
  have g : ∀ v, v < 4 → ¬ x = nI v := fun v hv q => by
    subst q
    rw [nI_toInt (by omega)] at h
    omega
  unfold sayF
  rw [if_neg (g 0 (by decide)), if_neg (g 1 (by decide)), if_neg (g 2 (by decide)), if_neg (g 3 (by decide))]
abbrev bitI (j : Nat) : Int32 := (nI 1) <<< ((nI j) &&& 31)
theorem hasB_bit {j k : Nat} (hj : j < 31) (hk : k < 32) : hasB (bitI j) k ↔ k = j := by
  have h : ∀ j, j < 31 → ∀ k, k < 32 → (hasB (bitI j) k ↔ k = j) := by decide +kernel
  exact h j hj k hk
theorem hasB_orbit {z : Int32} {j k : Nat} (hj : j < 31) (hk : k < 32) : hasB (z ||| bitI j) k ↔ hasB z k ∨ k = j := by rw [hasB_or hk, hasB_bit hj hk]
def lisP (i : Nat) (lf kf f : Nat → Int32) (b : Nat) (v : Int32) (k : Nat) : Prop := ¬ k = i ∧ hasB (lf i) k ∧ sayF (kf k) (colF (f (b + k))) (colF (f (b + i))) = v
def blkP (i : Nat) (lf kf f : Nat → Int32) (b : Nat) (k : Nat) : Prop := ¬ k = i ∧ hasB (lf i) k ∧ kf k = nI 0 ∧ colF (f (b + k)) = -1
/-- what was heard of those below o -/
def lisI (o i : Nat) (lf kf f : Nat → Int32) (b : Nat) (u1 u2 u3 : Int32) : Prop := ∀ k, k < 32 → (hasB u1 k ↔ k < o ∧ lisP i lf kf f b (nI 0) k) ∧ (hasB u2 k ↔ k < o ∧ lisP i lf kf f b (nI 1) k) ∧ (hasB u3 k ↔ k < o ∧ blkP i lf kf f b k)
theorem lisI_0 (i : Nat) (lf kf f : Nat → Int32) (b : Nat) : lisI 0 i lf kf f b (nI 0) (nI 0) (nI 0) := fun k hk => by
  have h : ¬ hasB (nI 0) k := hasB_0 hk
  exact ⟨⟨fun q => absurd q h, fun q => absurd q.1 (Nat.not_lt_zero _)⟩, ⟨fun q => absurd q h, fun q => absurd q.1 (Nat.not_lt_zero _)⟩, ⟨fun q => absurd q h, fun q => absurd q.1 (Nat.not_lt_zero _)⟩⟩
theorem lisI_skip {o i : Nat} {lf kf f : Nat → Int32} {b : Nat} {u1 u2 u3 : Int32} (h : lisI o i lf kf f b u1 u2 u3) (hs : o = i ∨ ¬ hasB (lf i) o) : lisI (o + 1) i lf kf f b u1 u2 u3 := fun k hk => by
  obtain ⟨h1, h2, h3⟩ := h k hk
  have no : ∀ P : Prop, (P → ¬ o = i ∧ hasB (lf i) o) → ¬ P := fun P z q => by
    rcases hs with g | g
    · exact (z q).1 g
    · exact g (z q).2
  have key : ∀ Q : Nat → Prop, (Q o → ¬ o = i ∧ hasB (lf i) o) → ((k < o ∧ Q k) ↔ (k < o + 1 ∧ Q k)) := fun Q z =>
    ⟨fun q => ⟨by omega, q.2⟩, fun q => ⟨by
      rcases Nat.lt_or_ge k o with g | g
      · exact g
      · obtain rfl : k = o := by omega
        exact absurd q.2 (no _ z), q.2⟩⟩
  exact ⟨h1.trans (key (lisP i lf kf f b (nI 0)) (fun q => ⟨q.1, q.2.1⟩)), h2.trans (key (lisP i lf kf f b (nI 1)) (fun q => ⟨q.1, q.2.1⟩)), h3.trans (key (blkP i lf kf f b) (fun q => ⟨q.1, q.2.1⟩))⟩
theorem lisI_hear {o i : Nat} {lf kf f : Nat → Int32} {b : Nat} {u1 u2 u3 y1 y2 y3 : Int32} (ho : o < 31) (h : lisI o i lf kf f b u1 u2 u3) (hi : ¬ o = i) (hl : hasB (lf i) o)
    (h1 : y1 = if sayF (kf o) (colF (f (b + o))) (colF (f (b + i))) = nI 0 then u1 ||| bitI o else u1) (h2 : y2 = if sayF (kf o) (colF (f (b + o))) (colF (f (b + i))) = nI 1 then u2 ||| bitI o else u2) (h3 : y3 = if kf o = nI 0 ∧ colF (f (b + o)) = -1 then u3 ||| bitI o else u3) : lisI (o + 1) i lf kf f b y1 y2 y3 := fun k hk => by
  obtain ⟨g1, g2, g3⟩ := h k hk
  have key : ∀ (Q : Nat → Prop) (C : Prop) (u y : Int32) [Decidable C], (hasB u k ↔ k < o ∧ Q k) → (Q o ↔ C) → y = (if C then u ||| bitI o else u) → (hasB y k ↔ k < o + 1 ∧ Q k) := fun Q C u y _ g c e => by
    by_cases q : C
    · rw [e, if_pos q, hasB_orbit ho hk, g]
      constructor
      · rintro (⟨z1, z2⟩ | rfl)
        · exact ⟨by omega, z2⟩
        · exact ⟨by omega, c.mpr q⟩
      · rintro ⟨z1, z2⟩
        rcases Nat.lt_or_ge k o with w | w
        · exact Or.inl ⟨w, z2⟩
        · exact Or.inr (by omega)
    · rw [e, if_neg q, g]
      constructor
      · rintro ⟨z1, z2⟩; exact ⟨by omega, z2⟩
      · rintro ⟨z1, z2⟩
        refine ⟨?_, z2⟩
        rcases Nat.lt_or_ge k o with w | w
        · exact w
        · obtain rfl : k = o := by omega
          exact absurd (c.mp z2) q
  exact ⟨key _ _ _ _ g1 ⟨fun q => q.2.2, fun q => ⟨hi, hl, q⟩⟩ h1, key _ _ _ _ g2 ⟨fun q => q.2.2, fun q => ⟨hi, hl, q⟩⟩ h2, key _ _ _ _ g3 ⟨fun q => q.2.2, fun q => ⟨hi, hl, q⟩⟩ h3⟩
/-- byFlake, byBall, settle on a word -/
def flkF (x w : Int32) : Int32 := if w = colF x then wcF x (cntF x + nI 1) else wcF (wtC x w) (nI 1)
def b1F (x w : Int32) : Int32 := if nI 999 < cofF x w + nI 1 then nI 999 else cofF x w + nI 1
def b2F (x w : Int32) : Int32 := wfF x w (b1F x w)
def b3F (x w : Int32) : Int32 := if cofF (b2F x w) (colF (b2F x w)) < b1F x w then wtC (b2F x w) w else b2F x w
def balF (x w : Int32) : Int32 := if w = lasF (b3F x w) then wcF (b3F x w) (cntF (b3F x w) + nI 1) else wcF (wlF (b3F x w) w) (nI 1)
def nxtF (pr : Int32) (x w : Int32) : Int32 := if pr = nI 1 then flkF x w else balF x w
def setF (pr : Int32) (be : Nat) (x w : Int32) : Int32 := if pr = 0 then (if w = -1 then x else wtC x w) else if w = -1 then wcF x (nI 0) else if cntF (nxtF pr x w) < nI be then nxtF pr x w else wdF (nxtF pr x w)
def chgF (x y : Int32) : Int32 := if y &&& dcM = 0 then (if colF x = colF y then nI 0 else nI 1) else nI 2
def givF (o : Nat) (t c : Int32) (f : Nat → Int32) (j : Nat) : Int32 := if j < o ∧ hasB t j then wtC (f j) c else f j
theorem givF_0 (t c : Int32) (f : Nat → Int32) (j : Nat) : f j = givF 0 t c f j := by unfold givF; rw [if_neg (fun q => absurd q.1 (Nat.not_lt_zero _))]
theorem givF_s {o : Nat} {t c : Int32} {f g : Nat → Int32} (h : ∀ j, g j = givF o t c f j) (hb : hasB t o) (j : Nat) : upd g o (wtC (g o) c) j = givF (o + 1) t c f j := by
  unfold upd
  by_cases q : j = o
  · subst q
    rw [if_pos rfl, h j]
    unfold givF
    rw [if_neg (fun z => Nat.lt_irrefl _ z.1), if_pos ⟨by omega, hb⟩]
  · rw [if_neg q, h j]
    unfold givF
    by_cases z : j < o ∧ hasB t j
    · rw [if_pos z, if_pos ⟨by omega, z.2⟩]
    · rw [if_neg z, if_neg (fun y => z ⟨by omega, y.2⟩)]
theorem givF_n {o : Nat} {t c : Int32} {f g : Nat → Int32} (h : ∀ j, g j = givF o t c f j) (hb : ¬ hasB t o) (j : Nat) : g j = givF (o + 1) t c f j := by
  rw [h j]
  unfold givF
  by_cases z : j < o ∧ hasB t j
  · rw [if_pos z, if_pos ⟨by omega, z.2⟩]
  · rw [if_neg z, if_neg (fun y => z ⟨by
      rcases Nat.lt_or_ge j o with w | w
      · exact w
      · obtain rfl : j = o := by omega
        exact absurd y.2 hb, y.2⟩)]
theorem givF_z {o n : Nat} {t c : Int32} {f g : Nat → Int32} (h : ∀ j, g j = givF o t c f j) (ht : t = 0) (j : Nat) (hj : j < 32) : g j = givF n t c f j := by
  rw [h j]
  unfold givF
  rw [if_neg (fun q => by rw [ht] at q; exact hasB_0 hj q.2), if_neg (fun q => by rw [ht] at q; exact hasB_0 hj q.2)]
def winF (al : Nat) (b1 b0 : Int32) : Int32 := if b1 < nI al then (if b0 < nI al then -1 else nI 0) else nI 1
theorem updEq {g G : Nat → Int32} {i : Nat} {V V' : Int32} (h : ∀ j, j < 32 → g j = G j) (hv : V = V') : ∀ j, j < 32 → upd g i V j = upd G i V' j := fun j hj => by
  unfold upd
  by_cases q : j = i
  · rw [if_pos q, if_pos q]; exact hv
  · rw [if_neg q, if_neg q]; exact h j hj
