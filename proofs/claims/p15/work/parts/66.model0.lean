abbrev hasB (x : Int32) (k : Nat) : Prop := (x >>> ((nI k) &&& 31)) &&& (nI 1) = nI 1
theorem shr0 (x : Int32) {k : Nat} (hk : k < 32) : (x >>> ((nI k) &&& 31)).toBitVec.getLsbD 0 = x.toBitVec.getLsbD k := by
  have e : ∀ k, k < 32 → (nI k) &&& 31 = nI k := by decide
  have e2 : ∀ k, k < 32 → (nI k).toBitVec.smod 32 = BitVec.ofNat 32 k := by decide
  rw [e k hk, Int32.toBitVec_shiftRight, e2 k hk, BitVec.sshiftRight_eq', BitVec.getLsbD_sshiftRight]
  have : (BitVec.ofNat 32 k).toNat = k := by rw [BitVec.toNat_ofNat]; omega
  rw [this]
  simp [hk]
theorem hasB_iff {x : Int32} {k : Nat} (hk : k < 32) : hasB x k ↔ x.toBitVec.getLsbD k = true := by
  unfold hasB
  rw [← shr0 x hk]
  constructor
  · intro h
    have h2 := congrArg (fun z : Int32 => z.toBitVec.getLsbD 0) h
    simp only [Int32.toBitVec_and, BitVec.getLsbD_and] at h2
    have : ((nI 1).toBitVec.getLsbD 0) = true := by decide
    rw [this, Bool.and_true] at h2
    exact h2
  · intro h
    apply Int32.toBitVec_inj.mp
    apply BitVec.eq_of_getLsbD_eq
    intro i hi
    rw [Int32.toBitVec_and, BitVec.getLsbD_and]
    rcases Nat.eq_zero_or_pos i with rfl | q
    · rw [h]; decide
    · have : ∀ i, i < 32 → 0 < i → (nI 1).toBitVec.getLsbD i = false := by decide
      rw [this i hi q, Bool.and_false]
theorem hasB_ext {x y : Int32} (h : ∀ k, k < 32 → (hasB x k ↔ hasB y k)) : x = y := by
  apply Int32.toBitVec_inj.mp
  apply BitVec.eq_of_getLsbD_eq
  intro i hi
  have := h i hi
  rw [hasB_iff hi, hasB_iff hi] at this
  exact Bool.eq_iff_iff.mpr this
theorem hasB_and {x y : Int32} {k : Nat} (hk : k < 32) : hasB (x &&& y) k ↔ hasB x k ∧ hasB y k := by
  rw [hasB_iff hk, hasB_iff hk, hasB_iff hk, Int32.toBitVec_and, BitVec.getLsbD_and, Bool.and_eq_true]
theorem hasB_or {x y : Int32} {k : Nat} (hk : k < 32) : hasB (x ||| y) k ↔ hasB x k ∨ hasB y k := by
  rw [hasB_iff hk, hasB_iff hk, hasB_iff hk, Int32.toBitVec_or, BitVec.getLsbD_or, Bool.or_eq_true]
theorem hasB_m1 {b k : Nat} (hb : b < 32) (hk : k < 32) : hasB (((nI 1) <<< ((nI b) &&& 31)) ^^^ -1) k ↔ k ≠ b := by
  have h : ∀ b, b < 32 → ∀ k, k < 32 → (hasB (((nI 1) <<< ((nI b) &&& 31)) ^^^ -1) k ↔ k ≠ b) := by decide +kernel
  exact h b hb k hk
theorem hasB_msk {n k : Nat} (hn : n ≤ 16) (hk : k < 32) : hasB (((nI 1) <<< ((nI n) &&& 31)) - (nI 1)) k ↔ k < n := by
  have h : ∀ n, n ≤ 16 → ∀ k, k < 32 → (hasB (((nI 1) <<< ((nI n) &&& 31)) - (nI 1)) k ↔ k < n) := by decide +kernel
  exact h n hn k hk
theorem hasB_0 {k : Nat} (hk : k < 32) : ¬ hasB 0 k := by
  have h : ∀ k, k < 32 → ¬ hasB 0 k := by decide
  exact h k hk
/-- how many of the bits from 16 - d on are set -/
def cntL (x : Int32) : Nat → Nat | 0 => 0 | d + 1 => (if hasB x (15 - d) then 1 else 0) + cntL x d
theorem cnt_yes {x : Int32} {i : Nat} (hi : i < 16) (h : hasB x i) : cntL x (16 - i) = 1 + cntL x (16 - (i + 1)) := by
  obtain ⟨d, hd⟩ : ∃ d, 16 - i = d + 1 := ⟨15 - i, by omega⟩
  rw [hd, show 16 - (i + 1) = d by omega]
  show (if hasB x (15 - d) then 1 else 0) + cntL x d = _
  rw [show 15 - d = i by omega, if_pos h]
theorem cnt_no {x : Int32} {i : Nat} (hi : i < 16) (h : ¬ hasB x i) : cntL x (16 - i) = cntL x (16 - (i + 1)) := by
  obtain ⟨d, hd⟩ : ∃ d, 16 - i = d + 1 := ⟨15 - i, by omega⟩
  rw [hd, show 16 - (i + 1) = d by omega]
  show (if hasB x (15 - d) then 1 else 0) + cntL x d = _
  rw [show 15 - d = i by omega, if_neg h, Nat.zero_add]
theorem cnt_le (x : Int32) : ∀ d, cntL x d ≤ d
  | 0 => Nat.le_refl _
  | d + 1 => by
    have := cnt_le x d
    show (if hasB x (15 - d) then 1 else 0) + cntL x d ≤ _
    split <;> omega
theorem cnt_pos {x : Int32} (hx : x ≠ 0) (h : ∀ k, 16 ≤ k → k < 32 → ¬ hasB x k) : 0 < cntL x 16 := by
  apply Decidable.byContradiction
  intro q
  apply hx
  have z : ∀ d, d ≤ 16 → cntL x d = 0 → ∀ k, 16 - d ≤ k → k < 16 → ¬ hasB x k := by
    intro d
    induction d with
    | zero => intro _ _ k h1 h2; omega
    | succ d ih =>
      intro hd h0 k h1 h2
      change (if hasB x (15 - d) then 1 else 0) + cntL x d = 0 at h0
      by_cases e : k = 15 - d
      · subst e; intro hb; rw [if_pos hb] at h0; omega
      · exact ih (by omega) (by omega) k (by omega) h2
  apply hasB_ext
  intro k hk
  have h1 : ¬ hasB x k := by
    rcases Nat.lt_or_ge k 16 with g | g
    · exact z 16 (by decide) (by omega) k (by omega) g
    · exact h k g hk
  exact ⟨fun g => absurd g h1, fun g => absurd g (hasB_0 hk)⟩
theorem cnt_rem {x : Int32} {b : Nat} (hb : b < 16) (h : hasB x b) : cntL (x &&& (((nI 1) <<< ((nI b) &&& 31)) ^^^ -1)) 16 + 1 = cntL x 16 := by
  have z : ∀ d, d ≤ 16 → cntL (x &&& (((nI 1) <<< ((nI b) &&& 31)) ^^^ -1)) d + (if 16 - d ≤ b then 1 else 0) = cntL x d := by
    intro d
    induction d with
    | zero => intro _; rw [if_neg (by omega)]; rfl
    | succ d ih =>
      intro hd
      have i := ih (by omega)
      show (if hasB _ (15 - d) then 1 else 0) + cntL _ d + _ = (if hasB x (15 - d) then 1 else 0) + cntL x d
      have e : hasB (x &&& (((nI 1) <<< ((nI b) &&& 31)) ^^^ -1)) (15 - d) ↔ hasB x (15 - d) ∧ 15 - d ≠ b := by
        rw [hasB_and (by omega), hasB_m1 (by omega) (by omega)]
      by_cases g : 15 - d = b
      · rw [if_neg (fun q => (e.mp q).2 g), if_pos (by omega), if_pos (by rw [g]; exact h)]
        rw [if_neg (by omega)] at i
        omega
      · have e2 : (if hasB (x &&& (((nI 1) <<< ((nI b) &&& 31)) ^^^ -1)) (15 - d) then 1 else 0) = (if hasB x (15 - d) then 1 else 0) := by
          by_cases q : hasB x (15 - d)
          · rw [if_pos (e.mpr ⟨q, g⟩), if_pos q]
          · rw [if_neg (fun z => q (e.mp z).1), if_neg q]
        rw [e2, ← i]
        have : (16 - (d + 1) ≤ b) ↔ (16 - d ≤ b) := by omega
        by_cases q : 16 - d ≤ b
        · rw [if_pos q, if_pos (this.mpr q)]; omega
        · rw [if_neg q, if_neg (fun z => q (this.mp z))]; omega
  have := z 16 (Nat.le_refl _)
  rw [if_pos (by omega)] at this
  exact this
theorem cnt_all {n a : Nat} (hn : n ≤ 8) (ha : a < n) : cntL ((((nI 1) <<< ((nI n) &&& 31)) - (nI 1)) &&& (((nI 1) <<< ((nI a) &&& 31)) ^^^ -1)) 16 = n - 1 := by
  have h : ∀ n, n ≤ 8 → ∀ a, a < n → cntL ((((nI 1) <<< ((nI n) &&& 31)) - (nI 1)) &&& (((nI 1) <<< ((nI a) &&& 31)) ^^^ -1)) 16 = n - 1 := by decide +kernel
  exact h n hn a ha

theorem hasB_raw {x : Int32} {k : Nat} : ((x >>> ((nI k) &&& 31)) &&& (nI 1) = nI 1) ↔ hasB x k := Iff.rfl
def colV (x : Int32) : Prop := x = -1 ∨ x = nI 0 ∨ x = nI 1
def colP (f : Nat → Int32) : Prop := ∀ a, a < 8 → colV (f a)
theorem colV_m1 : colV (-1) := Or.inl rfl
theorem colV_0 : colV (nI 0) := Or.inr (Or.inl rfl)
theorem colV_1 : colV (nI 1) := Or.inr (Or.inr rfl)
theorem colP_hi {f : Nat → Int32} (h : colP f) {i : Nat} (x : Int32) (hi : 8 ≤ i) : colP (upd f i x) := fun a ha => by
  unfold upd
  rw [if_neg (by omega)]
  exact h a ha
theorem colP_up {f : Nat → Int32} (h : colP f) (i : Nat) {x : Int32} (hx : colV x) : colP (upd f i x) := fun a ha => by
  unfold upd
  by_cases q : a = i
  · rw [if_pos q]; exact hx
  · rw [if_neg q]; exact h a ha
/-- eight rows of 288, what is kept -/
def keptP (g : Nat → Int32) : Prop := ∀ r, r < 8 → ∀ a, a < 8 → colV (g (288 * r + a))
theorem okN_w {n : Nat} {x : Int32} (h : n ≤ 16) : okN n x ↔ (¬ x < nI 0 ∧ x ≤ nI n - nI 1) := by
  have e : ∀ n, n ≤ 16 → (nI n - nI 1).toInt = (n : Int) - 1 := by decide +kernel
  constructor
  · rintro ⟨a, b⟩
    refine ⟨a, ?_⟩
    rw [Int32.le_iff_toInt_le] at b ⊢
    rw [nI_toInt (by omega)] at b
    rw [e n h]
    omega
  · rintro ⟨a, b⟩
    refine ⟨a, ?_⟩
    rw [Int32.le_iff_toInt_le] at b ⊢
    rw [nI_toInt (by omega)]
    rw [e n h] at b
    omega
theorem PQ.iff {P Q : Prop} {r a b : Int32} (h : P ↔ Q) (q : PQ P r a b) : PQ Q r a b := by
  rcases q with ⟨z, e⟩ | ⟨z, e⟩
  · exact Or.inl ⟨h.mp z, e⟩
  · exact Or.inr ⟨fun y => z (h.mpr y), e⟩
theorem PQ.b01 {P : Prop} {r : Int32} (q : PQ P r (nI 1) (nI 0)) : r = nI 0 ∨ r = nI 1 := by
  rcases q with ⟨_, e⟩ | ⟨_, e⟩
  · exact Or.inr e
  · exact Or.inl e
def zuF (f : Nat → Int32) (i j : Nat) : Int32 := if j < i then nI 0 else f j
def freshS (j : Nat) : Int32 := if j < 16 then -1 else if 56 ≤ j ∧ j < 64 then nI 255 else if 96 ≤ j ∧ j < 224 then -1 else nI 0
def bgF (i k j : Nat) : Int32 := if j < i then -1 else if 8 ≤ j ∧ j < 8 + i then -1 else if 56 ≤ j ∧ j < 56 + i then nI 255 else if 96 ≤ j ∧ j < 96 + k then -1 else if 160 ≤ j ∧ j < 160 + k then -1 else nI 0
theorem fS_16 {j : Nat} (h : j < 16) : freshS j = -1 := by unfold freshS; exact if_pos h
theorem colP_fresh : colP freshS := fun a ha => by rw [fS_16 (by omega)]; exact colV_m1

set_option maxHeartbeats 4000000 in
set_option maxRecDepth 100000 in
theorem c_X12_within (l : Launch) (D : va_G) (cs : Nat → ClassId) (x lo hi : Int32) : xMet l D cs yX12_within cX12_within 3 (some .boolean) ({ frames := 0, cells := 0, slots := 0, locals := 0 } : Room) [.int x, .int lo, .int hi] [] (xQi D (fun (r : Int32) (_u : Unit) => PQ (¬ x < lo ∧ x ≤ hi) r (nI 1) (nI 0)) (fun (_u : Unit) => [])) := by
  refine xMet.intro (by decide) (Nat.le_of_ble_eq_true rfl) ?_
  intro p e s m args below meth c A ls C hP hD hS hl
  have hx := C.1
  have hb := C.2.1
  have hz := C.2.2.2.2.1
  have hown := C.2.2.2.1
  have hA := C.2.2.2.2.2.2.2.2.2
  have hAO := C.2.2.2.2.2.2.2.2.1.2.2
  replace hl : lv_has ls 3 [(0, .int x), (1, .int lo), (2, .int hi)] := hl
  obtain ⟨H, hH⟩ : ∃ H, H = s.heap := ⟨_, rfl⟩
  replace hP : va_P D vwCl [] H := by rw [hH]; exact hP
  replace hS : va_S A s.heap H [] := by rw [hH]; exact hS
  obtain ⟨locs, hlocs⟩ : ∃ z : List Loc, z = [] := ⟨_, rfl⟩
  rw [← hlocs] at hS
  suffices hW : W p l e ({ frames := 0, cells := 0, slots := 0, locals := 0 } : Room) s m args below meth c H locs 0 0 (MQ below ((xQi D (fun (r : Int32) (_u : Unit) => PQ (¬ x < lo ∧ x ≤ hi) r (nI 1) (nI 0)) (fun (_u : Unit) => [])) A) args s 0 0 A) (F0 m 0 ls []) by rw [hlocs, hH] at hW; exact hW
  clear hH hlocs
  refine lv_iload_n hx hb dX12_within_0 rfl (lv_at hl 0 rfl) ?_
  refine lv_iload_n hx hb dX12_within_1 rfl (lv_at hl 1 rfl) ?_
  refine lv_icmp_lt (tgt := 14) hx hb dX12_within_2 (by decide) (fun c_1 => ?_) (fun c_1 => ?_)
  · -- 2 t
    refine lv_iconst (v := nI 0) hx hb dX12_within_14 (by decide) ?_
    exact xreti C () (Or.inr ⟨fun q => q.1 c_1, rfl⟩) hP hD hS (Nat.le_of_ble_eq_true rfl) (Nat.le_of_ble_eq_true rfl) (by decide) dX12_within_15
  · -- 2 f
    refine lv_iload_n hx hb dX12_within_5 rfl (lv_at hl 0 rfl) ?_
    refine lv_iload_n hx hb dX12_within_6 rfl (lv_at hl 2 rfl) ?_
    refine lv_icmp_gt (tgt := 14) hx hb dX12_within_7 (by decide) (fun c_2 => ?_) (fun c_2 => ?_)
    · -- 7 t
      refine lv_iconst (v := nI 0) hx hb dX12_within_14 (by decide) ?_
      exact xreti C () (Or.inr ⟨fun q => Int32.not_lt.mpr q.2 c_2, rfl⟩) hP hD hS (Nat.le_of_ble_eq_true rfl) (Nat.le_of_ble_eq_true rfl) (by decide) dX12_within_15
    · -- 7 f
      refine lv_iconst (v := nI 1) hx hb dX12_within_10 (by decide) ?_
      refine lv_goto (tgt := 15) hx hb dX12_within_11 (by decide) ?_
      exact xreti C () (Or.inl ⟨⟨c_1, Int32.not_lt.mp c_2⟩, rfl⟩) hP hD hS (Nat.le_of_ble_eq_true rfl) (Nat.le_of_ble_eq_true rfl) (by decide) dX12_within_15

set_option maxHeartbeats 4000000 in
set_option maxRecDepth 100000 in
theorem c_X12_has (l : Launch) (D : va_G) (cs : Nat → ClassId) (x : Int32) (y : Nat) : xMet l D cs yX12_has cX12_has 2 (some .boolean) ({ frames := 0, cells := 0, slots := 0, locals := 0 } : Room) [.int x, .int (nI y)] [] (xQi D (fun (r : Int32) (_u : Unit) => PQ (hasB x y) r (nI 1) (nI 0)) (fun (_u : Unit) => [])) := by
  refine xMet.intro (by decide) (Nat.le_of_ble_eq_true rfl) ?_
  intro p e s m args below meth c A ls C hP hD hS hl
  have hx := C.1
  have hb := C.2.1
  have hz := C.2.2.2.2.1
  have hown := C.2.2.2.1
  have hA := C.2.2.2.2.2.2.2.2.2
  have hAO := C.2.2.2.2.2.2.2.2.1.2.2
  replace hl : lv_has ls 2 [(0, .int x), (1, .int (nI y))] := hl
  obtain ⟨H, hH⟩ : ∃ H, H = s.heap := ⟨_, rfl⟩
  replace hP : va_P D vwCl [] H := by rw [hH]; exact hP
  replace hS : va_S A s.heap H [] := by rw [hH]; exact hS
  obtain ⟨locs, hlocs⟩ : ∃ z : List Loc, z = [] := ⟨_, rfl⟩
  rw [← hlocs] at hS
  suffices hW : W p l e ({ frames := 0, cells := 0, slots := 0, locals := 0 } : Room) s m args below meth c H locs 0 0 (MQ below ((xQi D (fun (r : Int32) (_u : Unit) => PQ (hasB x y) r (nI 1) (nI 0)) (fun (_u : Unit) => [])) A) args s 0 0 A) (F0 m 0 ls []) by rw [hlocs, hH] at hW; exact hW
  clear hH hlocs
  refine lv_iload_n hx hb dX12_has_0 rfl (lv_at hl 0 rfl) ?_
  refine lv_iload_n hx hb dX12_has_1 rfl (lv_at hl 1 rfl) ?_
  refine lv_ishr hx hb dX12_has_2 ?_
  refine lv_iconst (v := nI 1) hx hb dX12_has_3 (by decide) ?_
  refine lv_iand hx hb dX12_has_4 ?_
  refine lv_iconst (v := nI 1) hx hb dX12_has_5 (by decide) ?_
  refine lv_icmp_ne (tgt := 13) hx hb dX12_has_6 (by decide) (fun c_1 => ?_) (fun c_1 => ?_)
  · -- 6 t
    refine lv_iconst (v := nI 0) hx hb dX12_has_13 (by decide) ?_
    exact xreti C () (Or.inr ⟨c_1, rfl⟩) hP hD hS (Nat.le_of_ble_eq_true rfl) (Nat.le_of_ble_eq_true rfl) (by decide) dX12_has_14
  · -- 6 f
    refine lv_iconst (v := nI 1) hx hb dX12_has_9 (by decide) ?_
    refine lv_goto (tgt := 14) hx hb dX12_has_10 (by decide) ?_
    exact xreti C () (Or.inl ⟨c_1, rfl⟩) hP hD hS (Nat.le_of_ble_eq_true rfl) (Nat.le_of_ble_eq_true rfl) (by decide) dX12_has_14

set_option maxHeartbeats 4000000 in
set_option maxRecDepth 100000 in
theorem c_X12_has_any (l : Launch) (D : va_G) (cs : Nat → ClassId) (x : Int32) (y : Int32) : xMet l D cs yX12_has cX12_has 2 (some .boolean) ({ frames := 0, cells := 0, slots := 0, locals := 0 } : Room) [.int x, .int y] [] (xQi D (fun (r : Int32) (_u : Unit) => (r = nI 0 ∨ r = nI 1)) (fun (_u : Unit) => [])) := by
  refine xMet.intro (by decide) (Nat.le_of_ble_eq_true rfl) ?_
  intro p e s m args below meth c A ls C hP hD hS hl
  have hx := C.1
  have hb := C.2.1
  have hz := C.2.2.2.2.1
  have hown := C.2.2.2.1
  have hA := C.2.2.2.2.2.2.2.2.2
  have hAO := C.2.2.2.2.2.2.2.2.1.2.2
  replace hl : lv_has ls 2 [(0, .int x), (1, .int y)] := hl
  obtain ⟨H, hH⟩ : ∃ H, H = s.heap := ⟨_, rfl⟩
  replace hP : va_P D vwCl [] H := by rw [hH]; exact hP
  replace hS : va_S A s.heap H [] := by rw [hH]; exact hS
  obtain ⟨locs, hlocs⟩ : ∃ z : List Loc, z = [] := ⟨_, rfl⟩
  rw [← hlocs] at hS
  suffices hW : W p l e ({ frames := 0, cells := 0, slots := 0, locals := 0 } : Room) s m args below meth c H locs 0 0 (MQ below ((xQi D (fun (r : Int32) (_u : Unit) => (r = nI 0 ∨ r = nI 1)) (fun (_u : Unit) => [])) A) args s 0 0 A) (F0 m 0 ls []) by rw [hlocs, hH] at hW; exact hW
  clear hH hlocs
  refine lv_iload_n hx hb dX12_has_0 rfl (lv_at hl 0 rfl) ?_
  refine lv_iload_n hx hb dX12_has_1 rfl (lv_at hl 1 rfl) ?_
  refine lv_ishr hx hb dX12_has_2 ?_
  refine lv_iconst (v := nI 1) hx hb dX12_has_3 (by decide) ?_
  refine lv_iand hx hb dX12_has_4 ?_
  refine lv_iconst (v := nI 1) hx hb dX12_has_5 (by decide) ?_
  refine lv_icmp_ne (tgt := 13) hx hb dX12_has_6 (by decide) (fun c_1 => ?_) (fun c_1 => ?_)
  · -- 6 t
    refine lv_iconst (v := nI 0) hx hb dX12_has_13 (by decide) ?_
    exact xreti C () (by decide) hP hD hS (Nat.le_of_ble_eq_true rfl) (Nat.le_of_ble_eq_true rfl) (by decide) dX12_has_14
  · -- 6 f
    refine lv_iconst (v := nI 1) hx hb dX12_has_9 (by decide) ?_
    refine lv_goto (tgt := 14) hx hb dX12_has_10 (by decide) ?_
    exact xreti C () (by decide) hP hD hS (Nat.le_of_ble_eq_true rfl) (Nat.le_of_ble_eq_true rfl) (by decide) dX12_has_14

set_option maxHeartbeats 4000000 in
set_option maxRecDepth 100000 in
theorem c_X12_many (l : Launch) (D : va_G) (cs : Nat → ClassId) (x : Int32) : xMet l D cs yX12_many cX12_many 3 (some .int) ({ frames := 1, cells := 0, slots := 0, locals := 21 } : Room) [.int x] [] (xQi D (fun (r : Int32) (_u : Unit) => r = nI (cntL x 16)) (fun (_u : Unit) => [])) := by
  refine xMet.intro (by decide) (Nat.le_of_ble_eq_true rfl) ?_
  intro p e s m args below meth c A ls C hP hD hS hl
  have hx := C.1
  have hb := C.2.1
  have hz := C.2.2.2.2.1
  have hown := C.2.2.2.1
  have hA := C.2.2.2.2.2.2.2.2.2
  have hAO := C.2.2.2.2.2.2.2.2.1.2.2
  replace hl : lv_has ls 3 [(0, .int x)] := hl
  obtain ⟨H, hH⟩ : ∃ H, H = s.heap := ⟨_, rfl⟩
  replace hP : va_P D vwCl [] H := by rw [hH]; exact hP
  replace hS : va_S A s.heap H [] := by rw [hH]; exact hS
  obtain ⟨locs, hlocs⟩ : ∃ z : List Loc, z = [] := ⟨_, rfl⟩
  rw [← hlocs] at hS
  suffices hW : W p l e ({ frames := 1, cells := 0, slots := 0, locals := 21 } : Room) s m args below meth c H locs 0 0 (MQ below ((xQi D (fun (r : Int32) (_u : Unit) => r = nI (cntL x 16)) (fun (_u : Unit) => [])) A) args s 0 0 A) (F0 m 0 ls []) by rw [hlocs, hH] at hW; exact hW
  clear hH hlocs
  refine lv_iconst (v := nI 0) hx hb dX12_many_0 (by decide) ?_
  refine lv_istore_n (lv' := [(1, .int (nI 0)), (0, .int x)]) hx hb dX12_many_1 rfl hl (by decide) rfl ?_
  clear hl
  try clear ls
  intro ls hl
  refine lv_iconst (v := nI 0) hx hb dX12_many_2 (by decide) ?_
  refine lv_istore_n (lv' := [(2, .int (nI 0)), (1, .int (nI 0)), (0, .int x)]) hx hb dX12_many_3 rfl hl (by decide) rfl ?_
  clear hl
  try clear ls
  intro ls hl
  have loop_1 : ∀ (n_loop_1 : Nat) (i : Nat) (c9 : Nat), (i ≤ 16) → (c9 + cntL x (16 - i) = cntL x 16) → 16 - i < n_loop_1 → ∀ (H : Heap) (locs : List Loc) (ls : Array Slot), va_P D vwCl [] H → va_D A [] → va_S A s.heap H locs → lv_has ls 3 [(2, .int (nI i)), (1, .int (nI c9)), (0, .int x)] → W p l e ({ frames := 1, cells := 0, slots := 0, locals := 21 } : Room) s m args below meth c H locs 0 0 (MQ below ((xQi D (fun (r : Int32) (_u : Unit) => r = nI (cntL x 16)) (fun (_u : Unit) => [])) A) args s 0 0 A) (F0 m 4 ls []) := by
    intro n_loop_1
    induction n_loop_1 with
    | zero => intro i c9 h_i hc9 hlt H locs ls hP hD hS hl; exact absurd hlt (Nat.not_lt_zero _)
    | succ n_loop_1 ih_loop_1 =>
      intro i c9 h_i hc9 hlt_loop_1 H locs ls hP hD hS hl
      refine lv_iload_n hx hb dX12_many_4 rfl (lv_at hl 0 rfl) ?_
      refine lv_bipush (v := nI 16) hx hb dX12_many_5 (by decide) ?_
      refine lv_icmp_ge (tgt := 27) hx hb dX12_many_7 (by decide) (fun c_2 => ?_) (fun c_2 => ?_)
      · -- 7 t
        have fc_2 : 16 ≤ i := nf_le (by omega) (by omega) c_2
        refine lv_iload_n hx hb dX12_many_27 rfl (lv_at hl 1 rfl) ?_
        exact xreti C () (by have qq : i = 16 := (by omega); subst qq; rw [show c9 = cntL x 16 from hc9]) hP hD hS (Nat.le_of_ble_eq_true rfl) (Nat.le_of_ble_eq_true rfl) rfl dX12_many_28
      · -- 7 f
        have fc_2 : i < 16 := nf_nle (by omega) (by omega) c_2
        refine lv_iload_n hx hb dX12_many_10 rfl (lv_at hl 2 rfl) ?_
        refine lv_iload_n hx hb dX12_many_11 rfl (lv_at hl 0 rfl) ?_
        refine xi (wr := []) (xS (As := [.int x, .int (nI i)]) (rest := []) C (c_X12_has l D cs x i) kX12_100 hP hD [] rfl (by decide +kernel) ⟨Nat.le_of_ble_eq_true rfl, Nat.le_of_ble_eq_true rfl⟩ rfl hl.1 rfl (Nat.le_of_ble_eq_true rfl) dX12_many_12 ⟨Nat.le_of_ble_eq_true rfl, Nat.le_of_ble_eq_true rfl⟩) hP hD hS hA [] [] rfl rfl (by decide +kernel) (by decide +kernel) ?_
        clear hP hD hS
        try clear locs
        try clear H
        intro r_3 u_4 H locs hw_r_3 hP hD hS
        have hw_r_3 : PQ (hasB x i) r_3 (nI 1) (nI 0) := hw_r_3
        refine W.widen (k := 0) (n := 0) (Nat.le_of_ble_eq_true rfl) (Nat.le_of_ble_eq_true rfl) ?_
        replace hP : va_P D vwCl [] H := hP
        replace hD : va_D A [] := hD
        refine lv_if_eq (tgt := 21) hx hb dX12_many_15 (by decide) (fun c_5 => ?_) (fun c_5 => ?_)
        · -- 15 t
          refine lv_iinc (v := nI (i + 1)) (lv' := [(2, .int (nI (i + 1))), (1, .int (nI c9)), (0, .int x)]) hx hb dX12_many_21 hl (k := 0) rfl (nI_add i 1) (by decide) rfl ?_
          clear hl
          try clear ls
          intro ls hl
          refine lv_goto (tgt := 4) hx hb dX12_many_24 (by decide) ?_
          exact ih_loop_1 (i + 1) c9 (by omega) (by rw [← hc9, cnt_no (x := x) (by omega) (PQ.no hw_r_3 c_5 (by decide))]) (by omega) H locs ls hP hD hS (lv_sub hl [0, 1, 2] rfl)
        · -- 15 f
          refine lv_iinc (v := nI (c9 + 1)) (lv' := [(1, .int (nI (c9 + 1))), (2, .int (nI i)), (0, .int x)]) hx hb dX12_many_18 hl (k := 1) rfl (nI_add c9 1) (by decide) rfl ?_
          clear hl
          try clear ls
          intro ls hl
          refine lv_iinc (v := nI (i + 1)) (lv' := [(2, .int (nI (i + 1))), (1, .int (nI (c9 + 1))), (0, .int x)]) hx hb dX12_many_21 hl (k := 1) rfl (nI_add i 1) (by decide) rfl ?_
          clear hl
          try clear ls
          intro ls hl
          refine lv_goto (tgt := 4) hx hb dX12_many_24 (by decide) ?_
          exact ih_loop_1 (i + 1) (c9 + 1) (by omega) (by rw [← hc9, cnt_yes (x := x) (by omega) (PQ.yes hw_r_3 c_5)]; omega) (by omega) H locs ls hP hD hS (lv_sub hl [0, 1, 2] rfl)
  exact loop_1 _ 0 0 (by omega) (by simp) (Nat.lt_succ_self _) H locs ls hP hD hS (lv_sub hl [0, 1, 2] rfl)

set_option maxHeartbeats 4000000 in
set_option maxRecDepth 100000 in
theorem c_X12_nth (l : Launch) (D : va_G) (cs : Nat → ClassId) (x : Int32) (i : Nat) (hi : i < cntL x 16) : xMet l D cs yX12_nth cX12_nth 4 (some .int) ({ frames := 1, cells := 0, slots := 0, locals := 21 } : Room) [.int x, .int (nI i)] [] (xQi D (fun (r : Int32) (_u : Unit) => ∃ b, b < 16 ∧ r = nI b ∧ hasB x b) (fun (_u : Unit) => [])) := by
  refine xMet.intro (by decide) (Nat.le_of_ble_eq_true rfl) ?_
  intro p e s m args below meth c A ls C hP hD hS hl
  have hx := C.1
  have hb := C.2.1
  have hz := C.2.2.2.2.1
  have hown := C.2.2.2.1
  have hA := C.2.2.2.2.2.2.2.2.2
  have hAO := C.2.2.2.2.2.2.2.2.1.2.2
  replace hl : lv_has ls 4 [(0, .int x), (1, .int (nI i))] := hl
  obtain ⟨H, hH⟩ : ∃ H, H = s.heap := ⟨_, rfl⟩
  replace hP : va_P D vwCl [] H := by rw [hH]; exact hP
  replace hS : va_S A s.heap H [] := by rw [hH]; exact hS
  obtain ⟨locs, hlocs⟩ : ∃ z : List Loc, z = [] := ⟨_, rfl⟩
  rw [← hlocs] at hS
  suffices hW : W p l e ({ frames := 1, cells := 0, slots := 0, locals := 21 } : Room) s m args below meth c H locs 0 0 (MQ below ((xQi D (fun (r : Int32) (_u : Unit) => ∃ b, b < 16 ∧ r = nI b ∧ hasB x b) (fun (_u : Unit) => [])) A) args s 0 0 A) (F0 m 0 ls []) by rw [hlocs, hH] at hW; exact hW
  clear hH hlocs
  refine lv_iload_n hx hb dX12_nth_0 rfl (lv_at hl 1 rfl) ?_
  refine lv_istore_n (lv' := [(2, .int (nI i)), (0, .int x), (1, .int (nI i))]) hx hb dX12_nth_1 rfl hl (by decide) rfl ?_
  clear hl
  try clear ls
  intro ls hl
  refine lv_iconst (v := nI 0) hx hb dX12_nth_2 (by decide) ?_
  refine lv_istore_n (lv' := [(3, .int (nI 0)), (2, .int (nI i)), (0, .int x), (1, .int (nI i))]) hx hb dX12_nth_3 rfl hl (by decide) rfl ?_
  clear hl
  try clear ls
  intro ls hl
  have loop_1 : ∀ (n_loop_1 : Nat) (o : Nat) (l9 : Nat), (o ≤ 16) → (l9 < cntL x (16 - o)) → (l9 ≤ 16) → 16 - o < n_loop_1 → ∀ (H : Heap) (locs : List Loc) (ls : Array Slot), va_P D vwCl [] H → va_D A [] → va_S A s.heap H locs → lv_has ls 4 [(3, .int (nI o)), (2, .int (nI l9)), (0, .int x), (1, .int (nI i))] → W p l e ({ frames := 1, cells := 0, slots := 0, locals := 21 } : Room) s m args below meth c H locs 0 0 (MQ below ((xQi D (fun (r : Int32) (_u : Unit) => ∃ b, b < 16 ∧ r = nI b ∧ hasB x b) (fun (_u : Unit) => [])) A) args s 0 0 A) (F0 m 4 ls []) := by
    intro n_loop_1
    induction n_loop_1 with
    | zero => intro o l9 h_o hl9 hl16 hlt H locs ls hP hD hS hl; exact absurd hlt (Nat.not_lt_zero _)
    | succ n_loop_1 ih_loop_1 =>
      intro o l9 h_o hl9 hl16 hlt_loop_1 H locs ls hP hD hS hl
      have ho16 : o < 16 := Decidable.byContradiction fun q => by
        obtain rfl : o = 16 := by omega
        exact absurd hl9 (Nat.not_lt_zero _)
      refine lv_iload_n hx hb dX12_nth_4 rfl (lv_at hl 2 rfl) ?_
      refine lv_iload_n hx hb dX12_nth_5 rfl (lv_at hl 0 rfl) ?_
      refine xi (wr := []) (xS (As := [.int x, .int (nI o)]) (rest := []) C (c_X12_has l D cs x o) kX12_100 hP hD [] rfl (by decide +kernel) ⟨Nat.le_of_ble_eq_true rfl, Nat.le_of_ble_eq_true rfl⟩ rfl hl.1 rfl (Nat.le_of_ble_eq_true rfl) dX12_nth_6 ⟨Nat.le_of_ble_eq_true rfl, Nat.le_of_ble_eq_true rfl⟩) hP hD hS hA [] [] rfl rfl (by decide +kernel) (by decide +kernel) ?_
      clear hP hD hS
      try clear locs
      try clear H
      intro r_2 u_3 H locs hw_r_2 hP hD hS
      have hw_r_2 : PQ (hasB x o) r_2 (nI 1) (nI 0) := hw_r_2
      refine W.widen (k := 0) (n := 0) (Nat.le_of_ble_eq_true rfl) (Nat.le_of_ble_eq_true rfl) ?_
      replace hP : va_P D vwCl [] H := hP
      replace hD : va_D A [] := hD
      refine lv_if_ne (tgt := 15) hx hb dX12_nth_9 (by decide) (fun c_4 => ?_) (fun c_4 => ?_)
      · -- 9 t
        refine lv_iload_n hx hb dX12_nth_15 rfl (lv_at hl 1 rfl) ?_
        refine lv_if_ne (tgt := 21) hx hb dX12_nth_16 (by decide) (fun c_5 => ?_) (fun c_5 => ?_)
        · -- 16 t
          have fc_5 : l9 ≠ 0 := nf_ne (by omega) (by omega) c_5
          refine lv_iinc (v := nI (l9 - 1)) (lv' := [(2, .int (nI (l9 - 1))), (3, .int (nI o)), (0, .int x), (1, .int (nI i))]) hx hb dX12_nth_21 hl (k := 1) rfl (nI_dec (by omega)) (by decide) rfl ?_
          clear hl
          try clear ls
          intro ls hl
          refine lv_iinc (v := nI (o + 1)) (lv' := [(3, .int (nI (o + 1))), (2, .int (nI (l9 - 1))), (0, .int x), (1, .int (nI i))]) hx hb dX12_nth_24 hl (k := 1) rfl (nI_add o 1) (by decide) rfl ?_
          clear hl
          try clear ls
          intro ls hl
          refine lv_goto (tgt := 4) hx hb dX12_nth_27 (by decide) ?_
          exact ih_loop_1 (o + 1) (l9 - 1) (by omega) (by rw [cnt_yes (x := x) (by omega) (PQ.yes hw_r_2 c_4)] at hl9; omega) (by omega) (by omega) H locs ls hP hD hS (lv_sub hl [0, 1, 2, 3] rfl)
        · -- 16 f
          have fc_5 : l9 = 0 := nf_eq (by omega) (by omega) c_5
          refine lv_iload_n hx hb dX12_nth_19 rfl (lv_at hl 0 rfl) ?_
          exact xreti C () (⟨o, ho16, rfl, PQ.yes hw_r_2 c_4⟩) hP hD hS (Nat.le_of_ble_eq_true rfl) (Nat.le_of_ble_eq_true rfl) rfl dX12_nth_20
      · -- 9 f
        refine lv_goto (tgt := 24) hx hb dX12_nth_12 (by decide) ?_
        refine lv_iinc (v := nI (o + 1)) (lv' := [(3, .int (nI (o + 1))), (2, .int (nI l9)), (0, .int x), (1, .int (nI i))]) hx hb dX12_nth_24 hl (k := 0) rfl (nI_add o 1) (by decide) rfl ?_
        clear hl
        try clear ls
        intro ls hl
        refine lv_goto (tgt := 4) hx hb dX12_nth_27 (by decide) ?_
        exact ih_loop_1 (o + 1) l9 (by omega) (by rw [← cnt_no (x := x) (by omega) (PQ.no hw_r_2 c_4 (by decide))]; exact hl9) (by omega) (by omega) H locs ls hP hD hS (lv_sub hl [0, 1, 2, 3] rfl)
  exact loop_1 _ 0 i (by omega) hi (by have := cnt_le x 16; omega) (Nat.lt_succ_self _) H locs ls hP hD hS (lv_sub hl [0, 1, 2, 3] rfl)
