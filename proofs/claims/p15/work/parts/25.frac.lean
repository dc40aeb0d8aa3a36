def prF (a b : Int64) : Int64 := if a < 0 ∨ b < 0 then -1 else if a ≠ 0 ∧ 9223372036854775807 / a < b then -1 else a * b
def smF (a b : Int64) : Int64 := if a < 0 ∨ b < 0 ∨ 9223372036854775807 - b < a then -1 else a + b
def dfF (a b : Int64) : Int64 := if a < 0 ∨ b < 0 then -1 else a - b
def gcR : Nat → Int64 → Int64 → Int64 | 0, g, _ => g | k + 1, g, z => if z = 0 then g else gcR k z (g - g / z * z)
def gcF (a b : Int64) : Int64 := gcR 200 a b
def lsF (a b : Int64) : Int64 × Int64 := if a < 0 ∨ b ≤ 0 then (0, 0) else if gcF a b = 0 then (0, 0) else (a / gcF a b, b / gcF a b)
abbrev fr : Type := Int64 × Int64
def plF (x y : fr) : fr := lsF (smF (prF x.1 y.2) (prF y.1 x.2)) (prF x.2 y.2)
def leF (x y : fr) : fr := lsF (dfF (prF x.1 y.2) (prF y.1 x.2)) (prF x.2 y.2)
def tiF (x y : fr) : fr := lsF (prF x.1 y.1) (prF x.2 y.2)
def byF (x y : fr) : fr := lsF (prF x.1 y.2) (prF x.2 y.1)
theorem l_lt {x y : Int64} (h : lg_cmp x y < 0) : x < y := (lg_cmp_lt x y).mp h
theorem l_nlt {x y : Int64} (h : ¬ lg_cmp x y < 0) : ¬ x < y := fun q => h ((lg_cmp_lt x y).mpr q)
theorem l_ge {x y : Int64} (h : 0 ≤ lg_cmp x y) : ¬ x < y := fun q => Int64.lt_irrefl (Int64.lt_of_lt_of_le q ((lg_cmp_ge x y).mp h))
theorem l_nge {x y : Int64} (h : ¬ 0 ≤ lg_cmp x y) : x < y := Int64.not_le.mp fun q => h ((lg_cmp_ge x y).mpr q)
theorem l_gt {x y : Int64} (h : 0 < lg_cmp x y) : y < x := (lg_cmp_gt x y).mp h
theorem l_ngt {x y : Int64} (h : ¬ 0 < lg_cmp x y) : ¬ y < x := fun q => h ((lg_cmp_gt x y).mpr q)
theorem l_le {x y : Int64} (h : lg_cmp x y ≤ 0) : ¬ y < x := fun q => Int64.lt_irrefl (Int64.lt_of_lt_of_le q ((lg_cmp_le x y).mp h))
theorem l_nle {x y : Int64} (h : ¬ lg_cmp x y ≤ 0) : y < x := Int64.not_le.mp fun q => h ((lg_cmp_le x y).mpr q)
theorem l_eq {x y : Int64} (h : lg_cmp x y = 0) : x = y := (lg_cmp_eq x y).mp h
theorem l_ne {x y : Int64} (h : ¬ lg_cmp x y = 0) : x ≠ y := fun q => h ((lg_cmp_eq x y).mpr q)

set_option maxHeartbeats 4000000 in
set_option maxRecDepth 100000 in
theorem c_X2_product (l : Launch) (D : va_G) (cs : Nat → ClassId) (a b : Int64) : xMet l D cs yX2_product cX2_product 4 (some .long) ({ frames := 0, cells := 0, slots := 0, locals := 0 } : Room) [.long a, .long b] [] (xQl D (fun (r : Int64) (_u : Unit) => r = prF a b) (fun (_u : Unit) => [])) := by
  refine xMet.intro (by decide) (Nat.le_of_ble_eq_true rfl) ?_
  intro p e s m args below meth c A ls C hP hD hS hl
  have hx := C.1
  have hb := C.2.1
  have hz := C.2.2.2.2.1
  have hown := C.2.2.2.1
  have hA := C.2.2.2.2.2.2.2.2.2
  have hAO := C.2.2.2.2.2.2.2.2.1.2.2
  replace hl : lv_has ls 4 [(0, .long a), (2, .long b)] := hl
  obtain ⟨H, hH⟩ : ∃ H, H = s.heap := ⟨_, rfl⟩
  replace hP : va_P D vwCl [] H := by rw [hH]; exact hP
  replace hS : va_S A s.heap H [] := by rw [hH]; exact hS
  obtain ⟨locs, hlocs⟩ : ∃ z : List Loc, z = [] := ⟨_, rfl⟩
  rw [← hlocs] at hS
  suffices hW : W p l e ({ frames := 0, cells := 0, slots := 0, locals := 0 } : Room) s m args below meth c H locs 0 0 (MQ below ((xQl D (fun (r : Int64) (_u : Unit) => r = prF a b) (fun (_u : Unit) => [])) A) args s 0 0 A) (F0 m 0 ls []) by rw [hlocs, hH] at hW; exact hW
  clear hH hlocs
  refine lv_lload_n hx hb dX2_product_0 rfl (lv_at hl 0 rfl) ?_
  refine lv_lconst (v := 0) hx hb dX2_product_1 (by decide) ?_
  refine W.lcmp hx hb dX2_product_2 ?_
  refine lv_if_lt (tgt := 12) hx hb dX2_product_3 (by decide) (fun c_1 => ?_) (fun c_1 => ?_)
  · -- 3 t
    refine lv_ldc2 (v := (-1)) hx hb hown (hz _ zw3_151) dX2_product_12 ?_
    exact xretl C () (by simp [prF, (l_lt c_1)]) hP hD hS (Nat.le_of_ble_eq_true rfl) (Nat.le_of_ble_eq_true rfl) dX2_product_15
  · -- 3 f
    refine lv_lload_n hx hb dX2_product_6 rfl (lv_at hl 1 rfl) ?_
    refine lv_lconst (v := 0) hx hb dX2_product_7 (by decide) ?_
    refine W.lcmp hx hb dX2_product_8 ?_
    refine lv_if_ge (tgt := 16) hx hb dX2_product_9 (by decide) (fun c_2 => ?_) (fun c_2 => ?_)
    · -- 9 t
      refine lv_lload_n hx hb dX2_product_16 rfl (lv_at hl 0 rfl) ?_
      refine lv_lconst (v := 0) hx hb dX2_product_17 (by decide) ?_
      refine W.lcmp hx hb dX2_product_18 ?_
      refine lv_if_eq (tgt := 38) hx hb dX2_product_19 (by decide) (fun c_3 => ?_) (fun c_3 => ?_)
      · -- 19 t
        refine lv_lload_n hx hb dX2_product_38 rfl (lv_at hl 0 rfl) ?_
        refine lv_lload_n hx hb dX2_product_39 rfl (lv_at hl 1 rfl) ?_
        refine lv_lmul hx hb dX2_product_40 ?_
        exact xretl C () (by simp [prF, (l_nlt c_1), (l_ge c_2), (l_eq c_3)]) hP hD hS (Nat.le_of_ble_eq_true rfl) (Nat.le_of_ble_eq_true rfl) dX2_product_41
      · -- 19 f
        refine lv_lload_n hx hb dX2_product_22 rfl (lv_at hl 1 rfl) ?_
        refine lv_ldc2 (v := 9223372036854775807) hx hb hown (hz _ zw3_152) dX2_product_23 ?_
        refine lv_lload_n hx hb dX2_product_26 rfl (lv_at hl 0 rfl) ?_
        refine lv_ldiv hx hb dX2_product_27 (l_ne c_3) ?_
        refine W.lcmp hx hb dX2_product_28 ?_
        refine lv_if_le (tgt := 38) hx hb dX2_product_29 (by decide) (fun c_4 => ?_) (fun c_4 => ?_)
        · -- 29 t
          refine lv_lload_n hx hb dX2_product_38 rfl (lv_at hl 0 rfl) ?_
          refine lv_lload_n hx hb dX2_product_39 rfl (lv_at hl 1 rfl) ?_
          refine lv_lmul hx hb dX2_product_40 ?_
          exact xretl C () (by simp [prF, (l_nlt c_1), (l_ge c_2), (l_ne c_3), (l_le c_4)]) hP hD hS (Nat.le_of_ble_eq_true rfl) (Nat.le_of_ble_eq_true rfl) dX2_product_41
        · -- 29 f
          refine lv_ldc2 (v := (-1)) hx hb hown (hz _ zw3_151) dX2_product_32 ?_
          refine lv_goto (tgt := 41) hx hb dX2_product_35 (by decide) ?_
          exact xretl C () (by simp [prF, (l_nlt c_1), (l_ge c_2), (l_ne c_3), (l_nle c_4)]) hP hD hS (Nat.le_of_ble_eq_true rfl) (Nat.le_of_ble_eq_true rfl) dX2_product_41
    · -- 9 f
      refine lv_ldc2 (v := (-1)) hx hb hown (hz _ zw3_151) dX2_product_12 ?_
      exact xretl C () (by simp [prF, (l_nlt c_1), (l_nge c_2)]) hP hD hS (Nat.le_of_ble_eq_true rfl) (Nat.le_of_ble_eq_true rfl) dX2_product_15

set_option maxHeartbeats 4000000 in
set_option maxRecDepth 100000 in
theorem c_X2_sum (l : Launch) (D : va_G) (cs : Nat → ClassId) (a b : Int64) : xMet l D cs yX2_sum cX2_sum 4 (some .long) ({ frames := 0, cells := 0, slots := 0, locals := 0 } : Room) [.long a, .long b] [] (xQl D (fun (r : Int64) (_u : Unit) => r = smF a b) (fun (_u : Unit) => [])) := by
  refine xMet.intro (by decide) (Nat.le_of_ble_eq_true rfl) ?_
  intro p e s m args below meth c A ls C hP hD hS hl
  have hx := C.1
  have hb := C.2.1
  have hz := C.2.2.2.2.1
  have hown := C.2.2.2.1
  have hA := C.2.2.2.2.2.2.2.2.2
  have hAO := C.2.2.2.2.2.2.2.2.1.2.2
  replace hl : lv_has ls 4 [(0, .long a), (2, .long b)] := hl
  obtain ⟨H, hH⟩ : ∃ H, H = s.heap := ⟨_, rfl⟩
  replace hP : va_P D vwCl [] H := by rw [hH]; exact hP
  replace hS : va_S A s.heap H [] := by rw [hH]; exact hS
  obtain ⟨locs, hlocs⟩ : ∃ z : List Loc, z = [] := ⟨_, rfl⟩
  rw [← hlocs] at hS
  suffices hW : W p l e ({ frames := 0, cells := 0, slots := 0, locals := 0 } : Room) s m args below meth c H locs 0 0 (MQ below ((xQl D (fun (r : Int64) (_u : Unit) => r = smF a b) (fun (_u : Unit) => [])) A) args s 0 0 A) (F0 m 0 ls []) by rw [hlocs, hH] at hW; exact hW
  clear hH hlocs
  refine lv_lload_n hx hb dX2_sum_0 rfl (lv_at hl 0 rfl) ?_
  refine lv_lconst (v := 0) hx hb dX2_sum_1 (by decide) ?_
  refine W.lcmp hx hb dX2_sum_2 ?_
  refine lv_if_lt (tgt := 22) hx hb dX2_sum_3 (by decide) (fun c_1 => ?_) (fun c_1 => ?_)
  · -- 3 t
    refine lv_ldc2 (v := (-1)) hx hb hown (hz _ zw3_151) dX2_sum_22 ?_
    refine lv_goto (tgt := 31) hx hb dX2_sum_25 (by decide) ?_
    exact xretl C () (by simp [smF, (l_lt c_1)]) hP hD hS (Nat.le_of_ble_eq_true rfl) (Nat.le_of_ble_eq_true rfl) dX2_sum_31
  · -- 3 f
    refine lv_lload_n hx hb dX2_sum_6 rfl (lv_at hl 1 rfl) ?_
    refine lv_lconst (v := 0) hx hb dX2_sum_7 (by decide) ?_
    refine W.lcmp hx hb dX2_sum_8 ?_
    refine lv_if_lt (tgt := 22) hx hb dX2_sum_9 (by decide) (fun c_2 => ?_) (fun c_2 => ?_)
    · -- 9 t
      refine lv_ldc2 (v := (-1)) hx hb hown (hz _ zw3_151) dX2_sum_22 ?_
      refine lv_goto (tgt := 31) hx hb dX2_sum_25 (by decide) ?_
      exact xretl C () (by simp [smF, (l_nlt c_1), (l_lt c_2)]) hP hD hS (Nat.le_of_ble_eq_true rfl) (Nat.le_of_ble_eq_true rfl) dX2_sum_31
    · -- 9 f
      refine lv_lload_n hx hb dX2_sum_12 rfl (lv_at hl 0 rfl) ?_
      refine lv_ldc2 (v := 9223372036854775807) hx hb hown (hz _ zw3_152) dX2_sum_13 ?_
      refine lv_lload_n hx hb dX2_sum_16 rfl (lv_at hl 1 rfl) ?_
      refine lv_lsub hx hb dX2_sum_17 ?_
      refine W.lcmp hx hb dX2_sum_18 ?_
      refine lv_if_le (tgt := 28) hx hb dX2_sum_19 (by decide) (fun c_3 => ?_) (fun c_3 => ?_)
      · -- 19 t
        refine lv_lload_n hx hb dX2_sum_28 rfl (lv_at hl 0 rfl) ?_
        refine lv_lload_n hx hb dX2_sum_29 rfl (lv_at hl 1 rfl) ?_
        refine lv_ladd hx hb dX2_sum_30 ?_
        exact xretl C () (by simp [smF, (l_nlt c_1), (l_nlt c_2), (l_le c_3)]) hP hD hS (Nat.le_of_ble_eq_true rfl) (Nat.le_of_ble_eq_true rfl) dX2_sum_31
      · -- 19 f
        refine lv_ldc2 (v := (-1)) hx hb hown (hz _ zw3_151) dX2_sum_22 ?_
        refine lv_goto (tgt := 31) hx hb dX2_sum_25 (by decide) ?_
        exact xretl C () (by simp [smF, (l_nlt c_1), (l_nlt c_2), (l_nle c_3)]) hP hD hS (Nat.le_of_ble_eq_true rfl) (Nat.le_of_ble_eq_true rfl) dX2_sum_31

set_option maxHeartbeats 4000000 in
set_option maxRecDepth 100000 in
theorem c_X2_difference (l : Launch) (D : va_G) (cs : Nat → ClassId) (a b : Int64) : xMet l D cs yX2_difference cX2_difference 4 (some .long) ({ frames := 0, cells := 0, slots := 0, locals := 0 } : Room) [.long a, .long b] [] (xQl D (fun (r : Int64) (_u : Unit) => r = dfF a b) (fun (_u : Unit) => [])) := by
  refine xMet.intro (by decide) (Nat.le_of_ble_eq_true rfl) ?_
  intro p e s m args below meth c A ls C hP hD hS hl
  have hx := C.1
  have hb := C.2.1
  have hz := C.2.2.2.2.1
  have hown := C.2.2.2.1
  have hA := C.2.2.2.2.2.2.2.2.2
  have hAO := C.2.2.2.2.2.2.2.2.1.2.2
  replace hl : lv_has ls 4 [(0, .long a), (2, .long b)] := hl
  obtain ⟨H, hH⟩ : ∃ H, H = s.heap := ⟨_, rfl⟩
  replace hP : va_P D vwCl [] H := by rw [hH]; exact hP
  replace hS : va_S A s.heap H [] := by rw [hH]; exact hS
  obtain ⟨locs, hlocs⟩ : ∃ z : List Loc, z = [] := ⟨_, rfl⟩
  rw [← hlocs] at hS
  suffices hW : W p l e ({ frames := 0, cells := 0, slots := 0, locals := 0 } : Room) s m args below meth c H locs 0 0 (MQ below ((xQl D (fun (r : Int64) (_u : Unit) => r = dfF a b) (fun (_u : Unit) => [])) A) args s 0 0 A) (F0 m 0 ls []) by rw [hlocs, hH] at hW; exact hW
  clear hH hlocs
  refine lv_lload_n hx hb dX2_difference_0 rfl (lv_at hl 0 rfl) ?_
  refine lv_lconst (v := 0) hx hb dX2_difference_1 (by decide) ?_
  refine W.lcmp hx hb dX2_difference_2 ?_
  refine lv_if_lt (tgt := 12) hx hb dX2_difference_3 (by decide) (fun c_1 => ?_) (fun c_1 => ?_)
  · -- 3 t
    refine lv_ldc2 (v := (-1)) hx hb hown (hz _ zw3_151) dX2_difference_12 ?_
    refine lv_goto (tgt := 21) hx hb dX2_difference_15 (by decide) ?_
    exact xretl C () (by simp [dfF, (l_lt c_1)]) hP hD hS (Nat.le_of_ble_eq_true rfl) (Nat.le_of_ble_eq_true rfl) dX2_difference_21
  · -- 3 f
    refine lv_lload_n hx hb dX2_difference_6 rfl (lv_at hl 1 rfl) ?_
    refine lv_lconst (v := 0) hx hb dX2_difference_7 (by decide) ?_
    refine W.lcmp hx hb dX2_difference_8 ?_
    refine lv_if_ge (tgt := 18) hx hb dX2_difference_9 (by decide) (fun c_2 => ?_) (fun c_2 => ?_)
    · -- 9 t
      refine lv_lload_n hx hb dX2_difference_18 rfl (lv_at hl 0 rfl) ?_
      refine lv_lload_n hx hb dX2_difference_19 rfl (lv_at hl 1 rfl) ?_
      refine lv_lsub hx hb dX2_difference_20 ?_
      exact xretl C () (by simp [dfF, (l_nlt c_1), (l_ge c_2)]) hP hD hS (Nat.le_of_ble_eq_true rfl) (Nat.le_of_ble_eq_true rfl) dX2_difference_21
    · -- 9 f
      refine lv_ldc2 (v := (-1)) hx hb hown (hz _ zw3_151) dX2_difference_12 ?_
      refine lv_goto (tgt := 21) hx hb dX2_difference_15 (by decide) ?_
      exact xretl C () (by simp [dfF, (l_nlt c_1), (l_nge c_2)]) hP hD hS (Nat.le_of_ble_eq_true rfl) (Nat.le_of_ble_eq_true rfl) dX2_difference_21

set_option maxHeartbeats 4000000 in
set_option maxRecDepth 100000 in
theorem c_X2_common (l : Launch) (D : va_G) (cs : Nat → ClassId) (a b : Int64) : xMet l D cs yX2_common cX2_common 11 (some .long) ({ frames := 0, cells := 0, slots := 0, locals := 0 } : Room) [.long a, .long b] [] (xQl D (fun (r : Int64) (_u : Unit) => r = gcF a b) (fun (_u : Unit) => [])) := by
  refine xMet.intro (by decide) (Nat.le_of_ble_eq_true rfl) ?_
  intro p e s m args below meth c A ls C hP hD hS hl
  have hx := C.1
  have hb := C.2.1
  have hz := C.2.2.2.2.1
  have hown := C.2.2.2.1
  have hA := C.2.2.2.2.2.2.2.2.2
  have hAO := C.2.2.2.2.2.2.2.2.1.2.2
  replace hl : lv_has ls 11 [(0, .long a), (2, .long b)] := hl
  obtain ⟨H, hH⟩ : ∃ H, H = s.heap := ⟨_, rfl⟩
  replace hP : va_P D vwCl [] H := by rw [hH]; exact hP
  replace hS : va_S A s.heap H [] := by rw [hH]; exact hS
  obtain ⟨locs, hlocs⟩ : ∃ z : List Loc, z = [] := ⟨_, rfl⟩
  rw [← hlocs] at hS
  suffices hW : W p l e ({ frames := 0, cells := 0, slots := 0, locals := 0 } : Room) s m args below meth c H locs 0 0 (MQ below ((xQl D (fun (r : Int64) (_u : Unit) => r = gcF a b) (fun (_u : Unit) => [])) A) args s 0 0 A) (F0 m 0 ls []) by rw [hlocs, hH] at hW; exact hW
  clear hH hlocs
  refine lv_lload_n hx hb dX2_common_0 rfl (lv_at hl 0 rfl) ?_
  refine lv_lstore (lv' := [(4, .long a), (0, .long a), (2, .long b)]) hx hb dX2_common_1 hl (by decide) rfl ?_
  clear hl
  try clear ls
  intro ls hl
  refine lv_lload_n hx hb dX2_common_3 rfl (lv_at hl 2 rfl) ?_
  refine lv_lstore (lv' := [(6, .long b), (4, .long a), (0, .long a), (2, .long b)]) hx hb dX2_common_4 hl (by decide) rfl ?_
  clear hl
  try clear ls
  intro ls hl
  refine lv_iconst (v := nI 0) hx hb dX2_common_6 (by decide) ?_
  refine lv_istore (lv' := [(8, .int (nI 0)), (6, .long b), (4, .long a), (0, .long a), (2, .long b)]) hx hb dX2_common_7 hl (by decide) rfl ?_
  clear hl
  try clear ls
  intro ls hl
  have loop_1 : ∀ (n_loop_1 : Nat) (i : Nat) (g : Int64) (z : Int64), (i ≤ 200) → (gcR (200 - i) g z = gcF a b) → 200 - i < n_loop_1 → ∀ (H : Heap) (locs : List Loc) (ls : Array Slot), va_P D vwCl [] H → va_D A [] → va_S A s.heap H locs → lv_has ls 11 [(8, .int (nI i)), (6, .long z), (4, .long g), (0, .long a), (2, .long b)] → W p l e ({ frames := 0, cells := 0, slots := 0, locals := 0 } : Room) s m args below meth c H locs 0 0 (MQ below ((xQl D (fun (r : Int64) (_u : Unit) => r = gcF a b) (fun (_u : Unit) => [])) A) args s 0 0 A) (F0 m 9 ls []) := by
    intro n_loop_1
    induction n_loop_1 with
    | zero => intro i g z h_i hg hlt H locs ls hP hD hS hl; exact absurd hlt (Nat.not_lt_zero _)
    | succ n_loop_1 ih_loop_1 =>
      intro i g z h_i hg hlt_loop_1 H locs ls hP hD hS hl
      refine lv_iload hx hb dX2_common_9 (lv_at hl 0 rfl) ?_
      refine lv_sipush (v := nI 200) hx hb dX2_common_11 (by decide) ?_
      refine lv_icmp_ge (tgt := 45) hx hb dX2_common_14 (by decide) (fun c_2 => ?_) (fun c_2 => ?_)
      · -- 14 t
        have fc_2 : 200 ≤ i := nf_le (by omega) (by omega) c_2
        have hend : g = gcF a b := by rw [← hg, show 200 - i = 0 by omega]; rfl
        refine lv_lload hx hb dX2_common_45 (lv_at hl 2 rfl) ?_
        exact xretl C () hend hP hD hS (Nat.le_of_ble_eq_true rfl) (Nat.le_of_ble_eq_true rfl) dX2_common_47
      · -- 14 f
        have fc_2 : i < 200 := nf_nle (by omega) (by omega) c_2
        refine lv_lload hx hb dX2_common_17 (lv_at hl 1 rfl) ?_
        refine lv_lconst (v := 0) hx hb dX2_common_19 (by decide) ?_
        refine W.lcmp hx hb dX2_common_20 ?_
        refine lv_if_eq (tgt := 45) hx hb dX2_common_21 (by decide) (fun c_3 => ?_) (fun c_3 => ?_)
        · -- 21 t
          have hend : g = gcF a b := by rw [← hg, show 200 - i = (200 - (i + 1)) + 1 by omega, gcR, if_pos (l_eq c_3)]
          refine lv_lload hx hb dX2_common_45 (lv_at hl 2 rfl) ?_
          exact xretl C () hend hP hD hS (Nat.le_of_ble_eq_true rfl) (Nat.le_of_ble_eq_true rfl) dX2_common_47
        · -- 21 f
          refine lv_lload hx hb dX2_common_24 (lv_at hl 2 rfl) ?_
          refine lv_lload hx hb dX2_common_26 (lv_at hl 1 rfl) ?_
          refine lv_lrem hx hb dX2_common_28 (l_ne c_3) ?_
          refine lv_lstore (lv' := [(9, .long (g - g / z * z)), (8, .int (nI i)), (6, .long z), (4, .long g), (0, .long a), (2, .long b)]) hx hb dX2_common_29 hl (by decide) rfl ?_
          clear hl
          try clear ls
          intro ls hl
          refine lv_lload hx hb dX2_common_31 (lv_at hl 2 rfl) ?_
          refine lv_lstore (lv' := [(4, .long z), (9, .long (g - g / z * z)), (8, .int (nI i)), (6, .long z), (0, .long a), (2, .long b)]) hx hb dX2_common_33 hl (by decide) rfl ?_
          clear hl
          try clear ls
          intro ls hl
          refine lv_lload hx hb dX2_common_35 (lv_at hl 1 rfl) ?_
          refine lv_lstore (lv' := [(6, .long (g - g / z * z)), (4, .long z), (9, .long (g - g / z * z)), (8, .int (nI i)), (0, .long a), (2, .long b)]) hx hb dX2_common_37 hl (by decide) rfl ?_
          clear hl
          try clear ls
          intro ls hl
          refine lv_iinc (v := nI (i + 1)) (lv' := [(8, .int (nI (i + 1))), (6, .long (g - g / z * z)), (4, .long z), (9, .long (g - g / z * z)), (0, .long a), (2, .long b)]) hx hb dX2_common_39 hl (k := 3) rfl (nI_add i 1) (by decide) rfl ?_
          clear hl
          try clear ls
          intro ls hl
          refine lv_goto (tgt := 9) hx hb dX2_common_42 (by decide) ?_
          exact ih_loop_1 (i + 1) z (g - g / z * z) (by omega) (by rw [← hg, show 200 - i = (200 - (i + 1)) + 1 by omega, gcR, if_neg (l_ne c_3)]) (by omega) H locs ls hP hD hS (lv_sub hl [0, 1, 2, 4, 5] rfl)
  exact loop_1 _ 0 a b (by omega) rfl (Nat.lt_succ_self _) H locs ls hP hD hS (lv_sub hl [0, 1, 2, 3, 4] rfl)

set_option maxHeartbeats 4000000 in
set_option maxRecDepth 100000 in
theorem c_X2_init (l : Launch) (D : va_G) (cs : Nat → ClassId) (h : Nat) (a b a0 b0 : Int64) : xMet l D cs yX2_init cX2_init 5 none ({ frames := 1, cells := 0, slots := 0, locals := 20 } : Room) [.ref h, .long a, .long b] [(h, .inr (2, [.long a0, .long b0]))] (xQv D (fun (_u : Unit) => True) (fun (_u : Unit) => [(h, .inr (2, [.long a, .long b]))])) := by
  refine xMet.intro (by decide) (Nat.le_of_ble_eq_true rfl) ?_
  intro p e s m args below meth c A ls C hP hD hS hl
  have hx := C.1
  have hb := C.2.1
  have hz := C.2.2.2.2.1
  have hown := C.2.2.2.1
  have hA := C.2.2.2.2.2.2.2.2.2
  have hAO := C.2.2.2.2.2.2.2.2.1.2.2
  replace hl : lv_has ls 5 [(0, .ref h), (1, .long a), (3, .long b)] := hl
  obtain ⟨H, hH⟩ : ∃ H, H = s.heap := ⟨_, rfl⟩
  replace hP : va_P D vwCl [(h, .inr (2, [.long a0, .long b0]))] H := by rw [hH]; exact hP
  replace hS : va_S A s.heap H [] := by rw [hH]; exact hS
  obtain ⟨locs, hlocs⟩ : ∃ z : List Loc, z = [] := ⟨_, rfl⟩
  rw [← hlocs] at hS
  suffices hW : W p l e ({ frames := 1, cells := 0, slots := 0, locals := 20 } : Room) s m args below meth c H locs 0 0 (MQ below ((xQv D (fun (_u : Unit) => True) (fun (_u : Unit) => [(h, .inr (2, [.long a, .long b]))])) A) args s 0 0 A) (F0 m 0 ls []) by rw [hlocs, hH] at hW; exact hW
  clear hH hlocs
  refine lv_aload_n hx hb dX2_init_0 rfl (lv_at hl 0 rfl) ?_
  refine W.objInit hx hb hown (hz _ zw4_122) (hz _ zw1_30) (hz _ zw1_31) rfl (by rw [C.2.2.1]; exact hl.1) rfl dX2_init_1 (Nat.le_of_ble_eq_true rfl) (Nat.le_of_ble_eq_true rfl) ?_
  refine W.eq (g2 := F0 m 4 ls []) rfl ?_
  refine lv_aload_n hx hb dX2_init_4 rfl (lv_at hl 0 rfl) ?_
  refine lv_lload_n hx hb dX2_init_5 rfl (lv_at hl 1 rfl) ?_
  refine xputF C hP hD hS 0 rfl rfl zuX2 tyX2 tyX2_ok nmX2 0 (by decide) zw4_123 rfl rfl rfl rfl rfl (Nat.le_of_ble_eq_true rfl) dX2_init_6 ?_
  clear hP hD hS
  try clear locs
  try clear H
  intro H locs hP hD hS
  replace hP : va_P D vwCl [(h, .inr (2, [.long a, .long b0]))] H := hP
  replace hD : va_D A [(h, .inr (2, [.long a, .long b0]))] := hD
  refine lv_aload_n hx hb dX2_init_9 rfl (lv_at hl 0 rfl) ?_
  refine lv_lload_n hx hb dX2_init_10 rfl (lv_at hl 2 rfl) ?_
  refine xputF C hP hD hS 0 rfl rfl zuX2 tyX2 tyX2_ok nmX2 1 (by decide) zw4_125 rfl rfl rfl rfl rfl (Nat.le_of_ble_eq_true rfl) dX2_init_11 ?_
  clear hP hD hS
  try clear locs
  try clear H
  intro H locs hP hD hS
  replace hP : va_P D vwCl [(h, .inr (2, [.long a, .long b]))] H := hP
  replace hD : va_D A [(h, .inr (2, [.long a, .long b]))] := hD
  exact xretv C () trivial hP hD hS (Nat.le_of_ble_eq_true rfl) (Nat.le_of_ble_eq_true rfl) dX2_init_14

set_option maxHeartbeats 4000000 in
set_option maxRecDepth 100000 in
theorem c_X2_whole (l : Launch) (D : va_G) (cs : Nat → ClassId) (a : Int64) : xMet l D cs yX2_whole cX2_whole 2 (some (.object "SampleHouse$Fraction")) ({ frames := 2, cells := 1, slots := 2, locals := 44 } : Room) [.long a] [] (xQr D (fun (_u : Unit) => True) (fun (_u : Unit) (ra : Nat) => [(ra, .inr (2, [.long a, .long 1]))])) := by
  refine xMet.intro (by decide) (Nat.le_of_ble_eq_true rfl) ?_
  intro p e s m args below meth c A ls C hP hD hS hl
  have hx := C.1
  have hb := C.2.1
  have hz := C.2.2.2.2.1
  have hown := C.2.2.2.1
  have hA := C.2.2.2.2.2.2.2.2.2
  have hAO := C.2.2.2.2.2.2.2.2.1.2.2
  replace hl : lv_has ls 2 [(0, .long a)] := hl
  obtain ⟨H, hH⟩ : ∃ H, H = s.heap := ⟨_, rfl⟩
  replace hP : va_P D vwCl [] H := by rw [hH]; exact hP
  replace hS : va_S A s.heap H [] := by rw [hH]; exact hS
  obtain ⟨locs, hlocs⟩ : ∃ z : List Loc, z = [] := ⟨_, rfl⟩
  rw [← hlocs] at hS
  suffices hW : W p l e ({ frames := 2, cells := 1, slots := 2, locals := 44 } : Room) s m args below meth c H locs 0 0 (MQ below ((xQr D (fun (_u : Unit) => True) (fun (_u : Unit) (ra : Nat) => [(ra, .inr (2, [.long a, .long 1]))])) A) args s 1 2 A) (F0 m 0 ls []) by rw [hlocs, hH] at hW; exact hW
  clear hH hlocs
  refine xnew (ci := 2) (fs := [.long 0, .long 0]) C hP hD hS rfl zuX2 tyX2 tyX2_ok zw4_117 zw4_118 zw1_17 (fun j hj => by rcases (show j = 0 ∨ j = 1 by omega) with rfl | rfl <;> rfl) (Nat.le_of_ble_eq_true rfl) (Nat.le_of_ble_eq_true rfl) dX2_whole_0 ?_
  clear hP hD hS
  try clear H
  intro q_1 H hP hD hS
  refine W.widen (k := 1) (n := 2) (Nat.le_of_ble_eq_true rfl) (Nat.le_of_ble_eq_true rfl) ?_
  replace hP : va_P D vwCl [(q_1, .inr (2, [.long 0, .long 0]))] H := hP
  replace hD : va_D A [(q_1, .inr (2, [.long 0, .long 0]))] := hD
  refine lv_dup hx hb dX2_whole_3 rfl ?_
  refine lv_lload_n hx hb dX2_whole_4 rfl (lv_at hl 0 rfl) ?_
  refine lv_lconst (v := 1) hx hb dX2_whole_5 (by decide) ?_
  refine xv (wr := []) (xI (As := [.long a, .long 1]) (rest := [.ref q_1]) C (c_X2_init l D cs q_1 a 1 0 0) kX2_18 hP hD [0] rfl (by decide) ⟨Nat.le_of_ble_eq_true rfl, Nat.le_of_ble_eq_true rfl⟩ rfl hl.1 rfl (Nat.le_of_ble_eq_true rfl) dX2_whole_6 ⟨Nat.le_of_ble_eq_true rfl, Nat.le_of_ble_eq_true rfl⟩) hP hD hS hA [0] [] rfl rfl (by decide) (by decide) ?_
  clear hP hD hS
  try clear locs
  try clear H
  intro u_3 H locs hw_r_2 hP hD hS
  refine W.widen (k := 1) (n := 2) (Nat.le_of_ble_eq_true rfl) (Nat.le_of_ble_eq_true rfl) ?_
  replace hP : va_P D vwCl [(q_1, .inr (2, [.long a, .long 1]))] H := hP
  replace hD : va_D A [(q_1, .inr (2, [.long a, .long 1]))] := hD
  exact xretr C (Or.inl ⟨_, rfl⟩) () trivial hP hD hS (Nat.le_of_ble_eq_true rfl) (Nat.le_of_ble_eq_true rfl) dX2_whole_9

set_option maxHeartbeats 4000000 in
set_option maxRecDepth 100000 in
theorem c_X2_least (l : Launch) (D : va_G) (cs : Nat → ClassId) (a b : Int64) : xMet l D cs yX2_least cX2_least 6 (some (.object "SampleHouse$Fraction")) ({ frames := 2, cells := 1, slots := 2, locals := 44 } : Room) [.long a, .long b] [] (xQr D (fun (_u : Unit) => True) (fun (_u : Unit) (ra : Nat) => [(ra, .inr (2, [.long ((lsF a b).1), .long ((lsF a b).2)]))])) := by
  refine xMet.intro (by decide) (Nat.le_of_ble_eq_true rfl) ?_
  intro p e s m args below meth c A ls C hP hD hS hl
  have hx := C.1
  have hb := C.2.1
  have hz := C.2.2.2.2.1
  have hown := C.2.2.2.1
  have hA := C.2.2.2.2.2.2.2.2.2
  have hAO := C.2.2.2.2.2.2.2.2.1.2.2
  replace hl : lv_has ls 6 [(0, .long a), (2, .long b)] := hl
  obtain ⟨H, hH⟩ : ∃ H, H = s.heap := ⟨_, rfl⟩
  replace hP : va_P D vwCl [] H := by rw [hH]; exact hP
  replace hS : va_S A s.heap H [] := by rw [hH]; exact hS
  obtain ⟨locs, hlocs⟩ : ∃ z : List Loc, z = [] := ⟨_, rfl⟩
  rw [← hlocs] at hS
  suffices hW : W p l e ({ frames := 2, cells := 1, slots := 2, locals := 44 } : Room) s m args below meth c H locs 0 0 (MQ below ((xQr D (fun (_u : Unit) => True) (fun (_u : Unit) (ra : Nat) => [(ra, .inr (2, [.long ((lsF a b).1), .long ((lsF a b).2)]))])) A) args s 1 2 A) (F0 m 0 ls []) by rw [hlocs, hH] at hW; exact hW
  clear hH hlocs
  refine lv_lload_n hx hb dX2_least_0 rfl (lv_at hl 0 rfl) ?_
  refine lv_lconst (v := 0) hx hb dX2_least_1 (by decide) ?_
  refine W.lcmp hx hb dX2_least_2 ?_
  refine lv_if_lt (tgt := 12) hx hb dX2_least_3 (by decide) (fun c_1 => ?_) (fun c_1 => ?_)
  · -- 3 t
    refine xnew (ci := 2) (fs := [.long 0, .long 0]) C hP hD hS rfl zuX2 tyX2 tyX2_ok zw4_117 zw4_118 zw1_17 (fun j hj => by rcases (show j = 0 ∨ j = 1 by omega) with rfl | rfl <;> rfl) (Nat.le_of_ble_eq_true rfl) (Nat.le_of_ble_eq_true rfl) dX2_least_12 ?_
    clear hP hD hS
    try clear H
    intro q_2 H hP hD hS
    refine W.widen (k := 1) (n := 2) (Nat.le_of_ble_eq_true rfl) (Nat.le_of_ble_eq_true rfl) ?_
    replace hP : va_P D vwCl [(q_2, .inr (2, [.long 0, .long 0]))] H := hP
    replace hD : va_D A [(q_2, .inr (2, [.long 0, .long 0]))] := hD
    refine lv_dup hx hb dX2_least_15 rfl ?_
    refine lv_lconst (v := 0) hx hb dX2_least_16 (by decide) ?_
    refine lv_lconst (v := 0) hx hb dX2_least_17 (by decide) ?_
    refine xv (wr := []) (xI (As := [.long 0, .long 0]) (rest := [.ref q_2]) C (c_X2_init l D cs q_2 0 0 0 0) kX2_18 hP hD [0] rfl (by decide) ⟨Nat.le_of_ble_eq_true rfl, Nat.le_of_ble_eq_true rfl⟩ rfl hl.1 rfl (Nat.le_of_ble_eq_true rfl) dX2_least_18 ⟨Nat.le_of_ble_eq_true rfl, Nat.le_of_ble_eq_true rfl⟩) hP hD hS hA [0] [] rfl rfl (by decide) (by decide) ?_
    clear hP hD hS
    try clear locs
    try clear H
    intro u_4 H locs hw_r_3 hP hD hS
    refine W.widen (k := 1) (n := 2) (Nat.le_of_ble_eq_true rfl) (Nat.le_of_ble_eq_true rfl) ?_
    replace hP : va_P D vwCl [(q_2, .inr (2, [.long 0, .long 0]))] H := hP
    replace hD : va_D A [(q_2, .inr (2, [.long 0, .long 0]))] := hD
    have els : lsF a b = (0, 0) := by simp [lsF, (l_lt c_1)]
    replace hP : va_P D vwCl [(q_2, .inr (2, [.long ((lsF a b).1), .long ((lsF a b).2)]))] H := by rw [els]; exact hP
    replace hD : va_D A [(q_2, .inr (2, [.long ((lsF a b).1), .long ((lsF a b).2)]))] := by rw [els]; exact hD
    exact xretr C (Or.inl ⟨_, rfl⟩) () trivial hP hD hS (Nat.le_of_ble_eq_true rfl) (Nat.le_of_ble_eq_true rfl) dX2_least_21
  · -- 3 f
    refine lv_lload_n hx hb dX2_least_6 rfl (lv_at hl 1 rfl) ?_
    refine lv_lconst (v := 0) hx hb dX2_least_7 (by decide) ?_
    refine W.lcmp hx hb dX2_least_8 ?_
    refine lv_if_gt (tgt := 22) hx hb dX2_least_9 (by decide) (fun c_5 => ?_) (fun c_5 => ?_)
    · -- 9 t
      refine lv_lload_n hx hb dX2_least_22 rfl (lv_at hl 0 rfl) ?_
      refine lv_lload_n hx hb dX2_least_23 rfl (lv_at hl 1 rfl) ?_
      refine xl (wr := []) (xS (As := [.long a, .long b]) (rest := []) C (c_X2_common l D cs a b) kX2_21 hP hD [] rfl (by decide) ⟨Nat.le_of_ble_eq_true rfl, Nat.le_of_ble_eq_true rfl⟩ rfl hl.1 rfl (Nat.le_of_ble_eq_true rfl) dX2_least_24 ⟨Nat.le_of_ble_eq_true rfl, Nat.le_of_ble_eq_true rfl⟩) hP hD hS hA [] [] rfl rfl (by decide) (by decide) ?_
      clear hP hD hS
      try clear locs
      try clear H
      intro r_6 u_7 H locs hw_r_6 hP hD hS
      have hw_r_6 : r_6 = gcF a b := hw_r_6
      refine W.widen (k := 0) (n := 0) (Nat.le_of_ble_eq_true rfl) (Nat.le_of_ble_eq_true rfl) ?_
      replace hP : va_P D vwCl [] H := hP
      replace hD : va_D A [] := hD
      subst hw_r_6
      refine lv_lstore (lv' := [(4, .long (gcF a b)), (0, .long a), (2, .long b)]) hx hb dX2_least_27 hl (by decide) rfl ?_
      clear hl
      try clear ls
      intro ls hl
      refine lv_lload hx hb dX2_least_29 (lv_at hl 0 rfl) ?_
      refine lv_lconst (v := 0) hx hb dX2_least_31 (by decide) ?_
      refine W.lcmp hx hb dX2_least_32 ?_
      refine lv_if_ne (tgt := 48) hx hb dX2_least_33 (by decide) (fun c_8 => ?_) (fun c_8 => ?_)
      · -- 33 t
        refine xnew (ci := 2) (fs := [.long 0, .long 0]) C hP hD hS rfl zuX2 tyX2 tyX2_ok zw4_117 zw4_118 zw1_17 (fun j hj => by rcases (show j = 0 ∨ j = 1 by omega) with rfl | rfl <;> rfl) (Nat.le_of_ble_eq_true rfl) (Nat.le_of_ble_eq_true rfl) dX2_least_48 ?_
        clear hP hD hS
        try clear H
        intro q_9 H hP hD hS
        refine W.widen (k := 1) (n := 2) (Nat.le_of_ble_eq_true rfl) (Nat.le_of_ble_eq_true rfl) ?_
        replace hP : va_P D vwCl [(q_9, .inr (2, [.long 0, .long 0]))] H := hP
        replace hD : va_D A [(q_9, .inr (2, [.long 0, .long 0]))] := hD
        refine lv_dup hx hb dX2_least_51 rfl ?_
        refine lv_lload_n hx hb dX2_least_52 rfl (lv_at hl 1 rfl) ?_
        refine lv_lload hx hb dX2_least_53 (lv_at hl 0 rfl) ?_
        refine lv_ldiv hx hb dX2_least_55 (l_ne c_8) ?_
        refine lv_lload_n hx hb dX2_least_56 rfl (lv_at hl 2 rfl) ?_
        refine lv_lload hx hb dX2_least_57 (lv_at hl 0 rfl) ?_
        refine lv_ldiv hx hb dX2_least_59 (l_ne c_8) ?_
        refine xv (wr := []) (xI (As := [.long (a / (gcF a b)), .long (b / (gcF a b))]) (rest := [.ref q_9]) C (c_X2_init l D cs q_9 (a / (gcF a b)) (b / (gcF a b)) 0 0) kX2_18 hP hD [0] rfl (by decide) ⟨Nat.le_of_ble_eq_true rfl, Nat.le_of_ble_eq_true rfl⟩ rfl hl.1 rfl (Nat.le_of_ble_eq_true rfl) dX2_least_60 ⟨Nat.le_of_ble_eq_true rfl, Nat.le_of_ble_eq_true rfl⟩) hP hD hS hA [0] [] rfl rfl (by decide) (by decide) ?_
        clear hP hD hS
        try clear locs
        try clear H
        intro u_11 H locs hw_r_10 hP hD hS
        refine W.widen (k := 1) (n := 2) (Nat.le_of_ble_eq_true rfl) (Nat.le_of_ble_eq_true rfl) ?_
        replace hP : va_P D vwCl [(q_9, .inr (2, [.long (a / (gcF a b)), .long (b / (gcF a b))]))] H := hP
        replace hD : va_D A [(q_9, .inr (2, [.long (a / (gcF a b)), .long (b / (gcF a b))]))] := hD
        have els : lsF a b = (a / (gcF a b), b / (gcF a b)) := by simp [lsF, (l_nlt c_1), (Int64.not_le.mpr (l_gt c_5)), (l_ne c_8)]
        replace hP : va_P D vwCl [(q_9, .inr (2, [.long ((lsF a b).1), .long ((lsF a b).2)]))] H := by rw [els]; exact hP
        replace hD : va_D A [(q_9, .inr (2, [.long ((lsF a b).1), .long ((lsF a b).2)]))] := by rw [els]; exact hD
        exact xretr C (Or.inl ⟨_, rfl⟩) () trivial hP hD hS (Nat.le_of_ble_eq_true rfl) (Nat.le_of_ble_eq_true rfl) dX2_least_63
      · -- 33 f
        refine xnew (ci := 2) (fs := [.long 0, .long 0]) C hP hD hS rfl zuX2 tyX2 tyX2_ok zw4_117 zw4_118 zw1_17 (fun j hj => by rcases (show j = 0 ∨ j = 1 by omega) with rfl | rfl <;> rfl) (Nat.le_of_ble_eq_true rfl) (Nat.le_of_ble_eq_true rfl) dX2_least_36 ?_
        clear hP hD hS
        try clear H
        intro q_12 H hP hD hS
        refine W.widen (k := 1) (n := 2) (Nat.le_of_ble_eq_true rfl) (Nat.le_of_ble_eq_true rfl) ?_
        replace hP : va_P D vwCl [(q_12, .inr (2, [.long 0, .long 0]))] H := hP
        replace hD : va_D A [(q_12, .inr (2, [.long 0, .long 0]))] := hD
        refine lv_dup hx hb dX2_least_39 rfl ?_
        refine lv_lconst (v := 0) hx hb dX2_least_40 (by decide) ?_
        refine lv_lconst (v := 0) hx hb dX2_least_41 (by decide) ?_
        refine xv (wr := []) (xI (As := [.long 0, .long 0]) (rest := [.ref q_12]) C (c_X2_init l D cs q_12 0 0 0 0) kX2_18 hP hD [0] rfl (by decide) ⟨Nat.le_of_ble_eq_true rfl, Nat.le_of_ble_eq_true rfl⟩ rfl hl.1 rfl (Nat.le_of_ble_eq_true rfl) dX2_least_42 ⟨Nat.le_of_ble_eq_true rfl, Nat.le_of_ble_eq_true rfl⟩) hP hD hS hA [0] [] rfl rfl (by decide) (by decide) ?_
        clear hP hD hS
        try clear locs
        try clear H
        intro u_14 H locs hw_r_13 hP hD hS
        refine W.widen (k := 1) (n := 2) (Nat.le_of_ble_eq_true rfl) (Nat.le_of_ble_eq_true rfl) ?_
        replace hP : va_P D vwCl [(q_12, .inr (2, [.long 0, .long 0]))] H := hP
        replace hD : va_D A [(q_12, .inr (2, [.long 0, .long 0]))] := hD
        refine lv_goto (tgt := 63) hx hb dX2_least_45 (by decide) ?_
        have els : lsF a b = (0, 0) := by simp [lsF, (l_nlt c_1), (Int64.not_le.mpr (l_gt c_5)), (l_eq c_8)]
        replace hP : va_P D vwCl [(q_12, .inr (2, [.long ((lsF a b).1), .long ((lsF a b).2)]))] H := by rw [els]; exact hP
        replace hD : va_D A [(q_12, .inr (2, [.long ((lsF a b).1), .long ((lsF a b).2)]))] := by rw [els]; exact hD
        exact xretr C (Or.inl ⟨_, rfl⟩) () trivial hP hD hS (Nat.le_of_ble_eq_true rfl) (Nat.le_of_ble_eq_true rfl) dX2_least_63
    · -- 9 f
      refine xnew (ci := 2) (fs := [.long 0, .long 0]) C hP hD hS rfl zuX2 tyX2 tyX2_ok zw4_117 zw4_118 zw1_17 (fun j hj => by rcases (show j = 0 ∨ j = 1 by omega) with rfl | rfl <;> rfl) (Nat.le_of_ble_eq_true rfl) (Nat.le_of_ble_eq_true rfl) dX2_least_12 ?_
      clear hP hD hS
      try clear H
      intro q_15 H hP hD hS
      refine W.widen (k := 1) (n := 2) (Nat.le_of_ble_eq_true rfl) (Nat.le_of_ble_eq_true rfl) ?_
      replace hP : va_P D vwCl [(q_15, .inr (2, [.long 0, .long 0]))] H := hP
      replace hD : va_D A [(q_15, .inr (2, [.long 0, .long 0]))] := hD
      refine lv_dup hx hb dX2_least_15 rfl ?_
      refine lv_lconst (v := 0) hx hb dX2_least_16 (by decide) ?_
      refine lv_lconst (v := 0) hx hb dX2_least_17 (by decide) ?_
      refine xv (wr := []) (xI (As := [.long 0, .long 0]) (rest := [.ref q_15]) C (c_X2_init l D cs q_15 0 0 0 0) kX2_18 hP hD [0] rfl (by decide) ⟨Nat.le_of_ble_eq_true rfl, Nat.le_of_ble_eq_true rfl⟩ rfl hl.1 rfl (Nat.le_of_ble_eq_true rfl) dX2_least_18 ⟨Nat.le_of_ble_eq_true rfl, Nat.le_of_ble_eq_true rfl⟩) hP hD hS hA [0] [] rfl rfl (by decide) (by decide) ?_
      clear hP hD hS
      try clear locs
      try clear H
      intro u_17 H locs hw_r_16 hP hD hS
      refine W.widen (k := 1) (n := 2) (Nat.le_of_ble_eq_true rfl) (Nat.le_of_ble_eq_true rfl) ?_
      replace hP : va_P D vwCl [(q_15, .inr (2, [.long 0, .long 0]))] H := hP
      replace hD : va_D A [(q_15, .inr (2, [.long 0, .long 0]))] := hD
      have els : lsF a b = (0, 0) := by simp [lsF, (l_nlt c_1), (Int64.not_lt.mp (l_ngt c_5))]
      replace hP : va_P D vwCl [(q_15, .inr (2, [.long ((lsF a b).1), .long ((lsF a b).2)]))] H := by rw [els]; exact hP
      replace hD : va_D A [(q_15, .inr (2, [.long ((lsF a b).1), .long ((lsF a b).2)]))] := by rw [els]; exact hD
      exact xretr C (Or.inl ⟨_, rfl⟩) () trivial hP hD hS (Nat.le_of_ble_eq_true rfl) (Nat.le_of_ble_eq_true rfl) dX2_least_21

set_option maxHeartbeats 4000000 in
set_option maxRecDepth 100000 in
theorem c_X2_isTooGreat (l : Launch) (D : va_G) (cs : Nat → ClassId) (h : Nat) (a b : Int64) : xMet l D cs yX2_isTooGreat cX2_isTooGreat 1 (some .boolean) ({ frames := 0, cells := 0, slots := 0, locals := 0 } : Room) [.ref h] [(h, .inr (2, [.long a, .long b]))] (xQi D (fun (r : Int32) (_u : Unit) => r = if b = 0 then nI 1 else nI 0) (fun (_u : Unit) => [(h, .inr (2, [.long a, .long b]))])) := by
  refine xMet.intro (by decide) (Nat.le_of_ble_eq_true rfl) ?_
  intro p e s m args below meth c A ls C hP hD hS hl
  have hx := C.1
  have hb := C.2.1
  have hz := C.2.2.2.2.1
  have hown := C.2.2.2.1
  have hA := C.2.2.2.2.2.2.2.2.2
  have hAO := C.2.2.2.2.2.2.2.2.1.2.2
  replace hl : lv_has ls 1 [(0, .ref h)] := hl
  obtain ⟨H, hH⟩ : ∃ H, H = s.heap := ⟨_, rfl⟩
  replace hP : va_P D vwCl [(h, .inr (2, [.long a, .long b]))] H := by rw [hH]; exact hP
  replace hS : va_S A s.heap H [] := by rw [hH]; exact hS
  obtain ⟨locs, hlocs⟩ : ∃ z : List Loc, z = [] := ⟨_, rfl⟩
  rw [← hlocs] at hS
  suffices hW : W p l e ({ frames := 0, cells := 0, slots := 0, locals := 0 } : Room) s m args below meth c H locs 0 0 (MQ below ((xQi D (fun (r : Int32) (_u : Unit) => r = if b = 0 then nI 1 else nI 0) (fun (_u : Unit) => [(h, .inr (2, [.long a, .long b]))])) A) args s 0 0 A) (F0 m 0 ls []) by rw [hlocs, hH] at hW; exact hW
  clear hH hlocs
  refine lv_aload_n hx hb dX2_isTooGreat_0 rfl (lv_at hl 0 rfl) ?_
  refine xget C hP 0 rfl rfl zuX2 1 (by decide) zw4_125 rfl dX2_isTooGreat_1 ?_
  refine lv_lconst (v := 0) hx hb dX2_isTooGreat_4 (by decide) ?_
  refine W.lcmp hx hb dX2_isTooGreat_5 ?_
  refine lv_if_ne (tgt := 13) hx hb dX2_isTooGreat_6 (by decide) (fun c_1 => ?_) (fun c_1 => ?_)
  · -- 6 t
    refine lv_iconst (v := nI 0) hx hb dX2_isTooGreat_13 (by decide) ?_
    exact xreti C () ((if_neg (l_ne c_1)).symm) hP hD hS (Nat.le_of_ble_eq_true rfl) (Nat.le_of_ble_eq_true rfl) (by decide) dX2_isTooGreat_14
  · -- 6 f
    refine lv_iconst (v := nI 1) hx hb dX2_isTooGreat_9 (by decide) ?_
    refine lv_goto (tgt := 14) hx hb dX2_isTooGreat_10 (by decide) ?_
    exact xreti C () ((if_pos (l_eq c_1)).symm) hP hD hS (Nat.le_of_ble_eq_true rfl) (Nat.le_of_ble_eq_true rfl) (by decide) dX2_isTooGreat_14

set_option maxHeartbeats 4000000 in
set_option maxRecDepth 100000 in
theorem c_X2_isZero (l : Launch) (D : va_G) (cs : Nat → ClassId) (h : Nat) (a b : Int64) : xMet l D cs yX2_isZero cX2_isZero 1 (some .boolean) ({ frames := 0, cells := 0, slots := 0, locals := 0 } : Room) [.ref h] [(h, .inr (2, [.long a, .long b]))] (xQi D (fun (r : Int32) (_u : Unit) => r = if a = 0 ∧ b ≠ 0 then nI 1 else nI 0) (fun (_u : Unit) => [(h, .inr (2, [.long a, .long b]))])) := by
  refine xMet.intro (by decide) (Nat.le_of_ble_eq_true rfl) ?_
  intro p e s m args below meth c A ls C hP hD hS hl
  have hx := C.1
  have hb := C.2.1
  have hz := C.2.2.2.2.1
  have hown := C.2.2.2.1
  have hA := C.2.2.2.2.2.2.2.2.2
  have hAO := C.2.2.2.2.2.2.2.2.1.2.2
  replace hl : lv_has ls 1 [(0, .ref h)] := hl
  obtain ⟨H, hH⟩ : ∃ H, H = s.heap := ⟨_, rfl⟩
  replace hP : va_P D vwCl [(h, .inr (2, [.long a, .long b]))] H := by rw [hH]; exact hP
  replace hS : va_S A s.heap H [] := by rw [hH]; exact hS
  obtain ⟨locs, hlocs⟩ : ∃ z : List Loc, z = [] := ⟨_, rfl⟩
  rw [← hlocs] at hS
  suffices hW : W p l e ({ frames := 0, cells := 0, slots := 0, locals := 0 } : Room) s m args below meth c H locs 0 0 (MQ below ((xQi D (fun (r : Int32) (_u : Unit) => r = if a = 0 ∧ b ≠ 0 then nI 1 else nI 0) (fun (_u : Unit) => [(h, .inr (2, [.long a, .long b]))])) A) args s 0 0 A) (F0 m 0 ls []) by rw [hlocs, hH] at hW; exact hW
  clear hH hlocs
  refine lv_aload_n hx hb dX2_isZero_0 rfl (lv_at hl 0 rfl) ?_
  refine xget C hP 0 rfl rfl zuX2 0 (by decide) zw4_123 rfl dX2_isZero_1 ?_
  refine lv_lconst (v := 0) hx hb dX2_isZero_4 (by decide) ?_
  refine W.lcmp hx hb dX2_isZero_5 ?_
  refine lv_if_ne (tgt := 22) hx hb dX2_isZero_6 (by decide) (fun c_1 => ?_) (fun c_1 => ?_)
  · -- 6 t
    refine lv_iconst (v := nI 0) hx hb dX2_isZero_22 (by decide) ?_
    exact xreti C () (by simp [(l_ne c_1)]) hP hD hS (Nat.le_of_ble_eq_true rfl) (Nat.le_of_ble_eq_true rfl) (by decide) dX2_isZero_23
  · -- 6 f
    refine lv_aload_n hx hb dX2_isZero_9 rfl (lv_at hl 0 rfl) ?_
    refine xget C hP 0 rfl rfl zuX2 1 (by decide) zw4_125 rfl dX2_isZero_10 ?_
    refine lv_lconst (v := 0) hx hb dX2_isZero_13 (by decide) ?_
    refine W.lcmp hx hb dX2_isZero_14 ?_
    refine lv_if_eq (tgt := 22) hx hb dX2_isZero_15 (by decide) (fun c_2 => ?_) (fun c_2 => ?_)
    · -- 15 t
      refine lv_iconst (v := nI 0) hx hb dX2_isZero_22 (by decide) ?_
      exact xreti C () (by simp [(l_eq c_1), (l_eq c_2)]) hP hD hS (Nat.le_of_ble_eq_true rfl) (Nat.le_of_ble_eq_true rfl) (by decide) dX2_isZero_23
    · -- 15 f
      refine lv_iconst (v := nI 1) hx hb dX2_isZero_18 (by decide) ?_
      refine lv_goto (tgt := 23) hx hb dX2_isZero_19 (by decide) ?_
      exact xreti C () (by simp [(l_eq c_1), (l_ne c_2)]) hP hD hS (Nat.le_of_ble_eq_true rfl) (Nat.le_of_ble_eq_true rfl) (by decide) dX2_isZero_23

set_option maxHeartbeats 4000000 in
set_option maxRecDepth 100000 in
theorem c_X2_plus (l : Launch) (D : va_G) (cs : Nat → ClassId) (h h2 : Nat) (a b a2 b2 : Int64) : xMet l D cs yX2_plus cX2_plus 2 (some (.object "SampleHouse$Fraction")) ({ frames := 3, cells := 1, slots := 2, locals := 69 } : Room) [.ref h, .ref h2] [(h, .inr (2, [.long a, .long b])), (h2, .inr (2, [.long a2, .long b2]))] (xQr D (fun (_u : Unit) => True) (fun (_u : Unit) (ra : Nat) => [(h, .inr (2, [.long a, .long b])), (h2, .inr (2, [.long a2, .long b2])), (ra, .inr (2, [.long ((plF (a, b) (a2, b2)).1), .long ((plF (a, b) (a2, b2)).2)]))])) := by
  refine xMet.intro (by decide) (Nat.le_of_ble_eq_true rfl) ?_
  intro p e s m args below meth c A ls C hP hD hS hl
  have hx := C.1
  have hb := C.2.1
  have hz := C.2.2.2.2.1
  have hown := C.2.2.2.1
  have hA := C.2.2.2.2.2.2.2.2.2
  have hAO := C.2.2.2.2.2.2.2.2.1.2.2
  replace hl : lv_has ls 2 [(0, .ref h), (1, .ref h2)] := hl
  obtain ⟨H, hH⟩ : ∃ H, H = s.heap := ⟨_, rfl⟩
  replace hP : va_P D vwCl [(h, .inr (2, [.long a, .long b])), (h2, .inr (2, [.long a2, .long b2]))] H := by rw [hH]; exact hP
  replace hS : va_S A s.heap H [] := by rw [hH]; exact hS
  obtain ⟨locs, hlocs⟩ : ∃ z : List Loc, z = [] := ⟨_, rfl⟩
  rw [← hlocs] at hS
  suffices hW : W p l e ({ frames := 3, cells := 1, slots := 2, locals := 69 } : Room) s m args below meth c H locs 0 0 (MQ below ((xQr D (fun (_u : Unit) => True) (fun (_u : Unit) (ra : Nat) => [(h, .inr (2, [.long a, .long b])), (h2, .inr (2, [.long a2, .long b2])), (ra, .inr (2, [.long ((plF (a, b) (a2, b2)).1), .long ((plF (a, b) (a2, b2)).2)]))])) A) args s 1 2 A) (F0 m 0 ls []) by rw [hlocs, hH] at hW; exact hW
  clear hH hlocs
  refine lv_aload_n hx hb dX2_plus_0 rfl (lv_at hl 0 rfl) ?_
  refine xget C hP 0 rfl rfl zuX2 0 (by decide) zw4_123 rfl dX2_plus_1 ?_
  refine lv_aload_n hx hb dX2_plus_4 rfl (lv_at hl 1 rfl) ?_
  refine xget C hP 1 rfl rfl zuX2 1 (by decide) zw4_125 rfl dX2_plus_5 ?_
  refine xl (wr := [(h, .inr (2, [.long a, .long b])), (h2, .inr (2, [.long a2, .long b2]))]) (xS (As := [.long a, .long b2]) (rest := []) C (c_X2_product l D cs a b2) kX2_29 hP hD [] rfl (by decide) ⟨Nat.le_of_ble_eq_true rfl, Nat.le_of_ble_eq_true rfl⟩ rfl hl.1 rfl (Nat.le_of_ble_eq_true rfl) dX2_plus_8 ⟨Nat.le_of_ble_eq_true rfl, Nat.le_of_ble_eq_true rfl⟩) hP hD hS hA [] [0, 1] rfl rfl (by decide) (by decide) ?_
  clear hP hD hS
  try clear locs
  try clear H
  intro r_1 u_2 H locs hw_r_1 hP hD hS
  have hw_r_1 : r_1 = prF a b2 := hw_r_1
  refine W.widen (k := 0) (n := 0) (Nat.le_of_ble_eq_true rfl) (Nat.le_of_ble_eq_true rfl) ?_
  replace hP : va_P D vwCl [(h, .inr (2, [.long a, .long b])), (h2, .inr (2, [.long a2, .long b2]))] H := hP
  replace hD : va_D A [(h, .inr (2, [.long a, .long b])), (h2, .inr (2, [.long a2, .long b2]))] := hD
  subst hw_r_1
  refine lv_aload_n hx hb dX2_plus_11 rfl (lv_at hl 1 rfl) ?_
  refine xget C hP 1 rfl rfl zuX2 0 (by decide) zw4_123 rfl dX2_plus_12 ?_
  refine lv_aload_n hx hb dX2_plus_15 rfl (lv_at hl 0 rfl) ?_
  refine xget C hP 0 rfl rfl zuX2 1 (by decide) zw4_125 rfl dX2_plus_16 ?_
  refine xl (wr := [(h, .inr (2, [.long a, .long b])), (h2, .inr (2, [.long a2, .long b2]))]) (xS (As := [.long a2, .long b]) (rest := [.long (prF a b2)]) C (c_X2_product l D cs a2 b) kX2_29 hP hD [] rfl (by decide) ⟨Nat.le_of_ble_eq_true rfl, Nat.le_of_ble_eq_true rfl⟩ rfl hl.1 rfl (Nat.le_of_ble_eq_true rfl) dX2_plus_19 ⟨Nat.le_of_ble_eq_true rfl, Nat.le_of_ble_eq_true rfl⟩) hP hD hS hA [] [0, 1] rfl rfl (by decide) (by decide) ?_
  clear hP hD hS
  try clear locs
  try clear H
  intro r_3 u_4 H locs hw_r_3 hP hD hS
  have hw_r_3 : r_3 = prF a2 b := hw_r_3
  refine W.widen (k := 0) (n := 0) (Nat.le_of_ble_eq_true rfl) (Nat.le_of_ble_eq_true rfl) ?_
  replace hP : va_P D vwCl [(h, .inr (2, [.long a, .long b])), (h2, .inr (2, [.long a2, .long b2]))] H := hP
  replace hD : va_D A [(h, .inr (2, [.long a, .long b])), (h2, .inr (2, [.long a2, .long b2]))] := hD
  subst hw_r_3
  refine xl (wr := [(h, .inr (2, [.long a, .long b])), (h2, .inr (2, [.long a2, .long b2]))]) (xS (As := [.long (prF a b2), .long (prF a2 b)]) (rest := []) C (c_X2_sum l D cs (prF a b2) (prF a2 b)) kX2_32 hP hD [] rfl (by decide) ⟨Nat.le_of_ble_eq_true rfl, Nat.le_of_ble_eq_true rfl⟩ rfl hl.1 rfl (Nat.le_of_ble_eq_true rfl) dX2_plus_22 ⟨Nat.le_of_ble_eq_true rfl, Nat.le_of_ble_eq_true rfl⟩) hP hD hS hA [] [0, 1] rfl rfl (by decide) (by decide) ?_
  clear hP hD hS
  try clear locs
  try clear H
  intro r_5 u_6 H locs hw_r_5 hP hD hS
  have hw_r_5 : r_5 = smF (prF a b2) (prF a2 b) := hw_r_5
  refine W.widen (k := 0) (n := 0) (Nat.le_of_ble_eq_true rfl) (Nat.le_of_ble_eq_true rfl) ?_
  replace hP : va_P D vwCl [(h, .inr (2, [.long a, .long b])), (h2, .inr (2, [.long a2, .long b2]))] H := hP
  replace hD : va_D A [(h, .inr (2, [.long a, .long b])), (h2, .inr (2, [.long a2, .long b2]))] := hD
  subst hw_r_5
  refine lv_aload_n hx hb dX2_plus_25 rfl (lv_at hl 0 rfl) ?_
  refine xget C hP 0 rfl rfl zuX2 1 (by decide) zw4_125 rfl dX2_plus_26 ?_
  refine lv_aload_n hx hb dX2_plus_29 rfl (lv_at hl 1 rfl) ?_
  refine xget C hP 1 rfl rfl zuX2 1 (by decide) zw4_125 rfl dX2_plus_30 ?_
  refine xl (wr := [(h, .inr (2, [.long a, .long b])), (h2, .inr (2, [.long a2, .long b2]))]) (xS (As := [.long b, .long b2]) (rest := [.long (smF (prF a b2) (prF a2 b))]) C (c_X2_product l D cs b b2) kX2_29 hP hD [] rfl (by decide) ⟨Nat.le_of_ble_eq_true rfl, Nat.le_of_ble_eq_true rfl⟩ rfl hl.1 rfl (Nat.le_of_ble_eq_true rfl) dX2_plus_33 ⟨Nat.le_of_ble_eq_true rfl, Nat.le_of_ble_eq_true rfl⟩) hP hD hS hA [] [0, 1] rfl rfl (by decide) (by decide) ?_
  clear hP hD hS
  try clear locs
  try clear H
  intro r_7 u_8 H locs hw_r_7 hP hD hS
  have hw_r_7 : r_7 = prF b b2 := hw_r_7
  refine W.widen (k := 0) (n := 0) (Nat.le_of_ble_eq_true rfl) (Nat.le_of_ble_eq_true rfl) ?_
  replace hP : va_P D vwCl [(h, .inr (2, [.long a, .long b])), (h2, .inr (2, [.long a2, .long b2]))] H := hP
  replace hD : va_D A [(h, .inr (2, [.long a, .long b])), (h2, .inr (2, [.long a2, .long b2]))] := hD
  subst hw_r_7
  refine xr (wr := [(h, .inr (2, [.long a, .long b])), (h2, .inr (2, [.long a2, .long b2]))]) (xS (As := [.long (smF (prF a b2) (prF a2 b)), .long (prF b b2)]) (rest := []) C (c_X2_least l D cs (smF (prF a b2) (prF a2 b)) (prF b b2)) kX2_35 hP hD [] rfl (by decide) ⟨Nat.le_of_ble_eq_true rfl, Nat.le_of_ble_eq_true rfl⟩ rfl hl.1 rfl (Nat.le_of_ble_eq_true rfl) dX2_plus_36 ⟨Nat.le_of_ble_eq_true rfl, Nat.le_of_ble_eq_true rfl⟩) hP hD hS hA [] [0, 1] rfl rfl (by decide) (by decide) ?_
  clear hP hD hS
  try clear locs
  try clear H
  intro u_10 r_9 H locs hw_r_9 hP hD hS
  refine W.widen (k := 1) (n := 2) (Nat.le_of_ble_eq_true rfl) (Nat.le_of_ble_eq_true rfl) ?_
  replace hP : va_P D vwCl [(h, .inr (2, [.long a, .long b])), (h2, .inr (2, [.long a2, .long b2])), (r_9, .inr (2, [.long ((lsF (smF (prF a b2) (prF a2 b)) (prF b b2)).1), .long ((lsF (smF (prF a b2) (prF a2 b)) (prF b b2)).2)]))] H := hP
  replace hD : va_D A [(h, .inr (2, [.long a, .long b])), (h2, .inr (2, [.long a2, .long b2])), (r_9, .inr (2, [.long ((lsF (smF (prF a b2) (prF a2 b)) (prF b b2)).1), .long ((lsF (smF (prF a b2) (prF a2 b)) (prF b b2)).2)]))] := hD
  exact xretr C (Or.inl ⟨_, rfl⟩) () trivial hP hD hS (Nat.le_of_ble_eq_true rfl) (Nat.le_of_ble_eq_true rfl) dX2_plus_39

set_option maxHeartbeats 4000000 in
set_option maxRecDepth 100000 in
theorem c_X2_less (l : Launch) (D : va_G) (cs : Nat → ClassId) (h h2 : Nat) (a b a2 b2 : Int64) : xMet l D cs yX2_less cX2_less 2 (some (.object "SampleHouse$Fraction")) ({ frames := 3, cells := 1, slots := 2, locals := 69 } : Room) [.ref h, .ref h2] [(h, .inr (2, [.long a, .long b])), (h2, .inr (2, [.long a2, .long b2]))] (xQr D (fun (_u : Unit) => True) (fun (_u : Unit) (ra : Nat) => [(h, .inr (2, [.long a, .long b])), (h2, .inr (2, [.long a2, .long b2])), (ra, .inr (2, [.long ((leF (a, b) (a2, b2)).1), .long ((leF (a, b) (a2, b2)).2)]))])) := by
  refine xMet.intro (by decide) (Nat.le_of_ble_eq_true rfl) ?_
  intro p e s m args below meth c A ls C hP hD hS hl
  have hx := C.1
  have hb := C.2.1
  have hz := C.2.2.2.2.1
  have hown := C.2.2.2.1
  have hA := C.2.2.2.2.2.2.2.2.2
  have hAO := C.2.2.2.2.2.2.2.2.1.2.2
  replace hl : lv_has ls 2 [(0, .ref h), (1, .ref h2)] := hl
  obtain ⟨H, hH⟩ : ∃ H, H = s.heap := ⟨_, rfl⟩
  replace hP : va_P D vwCl [(h, .inr (2, [.long a, .long b])), (h2, .inr (2, [.long a2, .long b2]))] H := by rw [hH]; exact hP
  replace hS : va_S A s.heap H [] := by rw [hH]; exact hS
  obtain ⟨locs, hlocs⟩ : ∃ z : List Loc, z = [] := ⟨_, rfl⟩
  rw [← hlocs] at hS
  suffices hW : W p l e ({ frames := 3, cells := 1, slots := 2, locals := 69 } : Room) s m args below meth c H locs 0 0 (MQ below ((xQr D (fun (_u : Unit) => True) (fun (_u : Unit) (ra : Nat) => [(h, .inr (2, [.long a, .long b])), (h2, .inr (2, [.long a2, .long b2])), (ra, .inr (2, [.long ((leF (a, b) (a2, b2)).1), .long ((leF (a, b) (a2, b2)).2)]))])) A) args s 1 2 A) (F0 m 0 ls []) by rw [hlocs, hH] at hW; exact hW
  clear hH hlocs
  refine lv_aload_n hx hb dX2_less_0 rfl (lv_at hl 0 rfl) ?_
  refine xget C hP 0 rfl rfl zuX2 0 (by decide) zw4_123 rfl dX2_less_1 ?_
  refine lv_aload_n hx hb dX2_less_4 rfl (lv_at hl 1 rfl) ?_
  refine xget C hP 1 rfl rfl zuX2 1 (by decide) zw4_125 rfl dX2_less_5 ?_
  refine xl (wr := [(h, .inr (2, [.long a, .long b])), (h2, .inr (2, [.long a2, .long b2]))]) (xS (As := [.long a, .long b2]) (rest := []) C (c_X2_product l D cs a b2) kX2_29 hP hD [] rfl (by decide) ⟨Nat.le_of_ble_eq_true rfl, Nat.le_of_ble_eq_true rfl⟩ rfl hl.1 rfl (Nat.le_of_ble_eq_true rfl) dX2_less_8 ⟨Nat.le_of_ble_eq_true rfl, Nat.le_of_ble_eq_true rfl⟩) hP hD hS hA [] [0, 1] rfl rfl (by decide) (by decide) ?_
  clear hP hD hS
  try clear locs
  try clear H
  intro r_1 u_2 H locs hw_r_1 hP hD hS
  have hw_r_1 : r_1 = prF a b2 := hw_r_1
  refine W.widen (k := 0) (n := 0) (Nat.le_of_ble_eq_true rfl) (Nat.le_of_ble_eq_true rfl) ?_
  replace hP : va_P D vwCl [(h, .inr (2, [.long a, .long b])), (h2, .inr (2, [.long a2, .long b2]))] H := hP
  replace hD : va_D A [(h, .inr (2, [.long a, .long b])), (h2, .inr (2, [.long a2, .long b2]))] := hD
  subst hw_r_1
  refine lv_aload_n hx hb dX2_less_11 rfl (lv_at hl 1 rfl) ?_
  refine xget C hP 1 rfl rfl zuX2 0 (by decide) zw4_123 rfl dX2_less_12 ?_
  refine lv_aload_n hx hb dX2_less_15 rfl (lv_at hl 0 rfl) ?_
  refine xget C hP 0 rfl rfl zuX2 1 (by decide) zw4_125 rfl dX2_less_16 ?_
  refine xl (wr := [(h, .inr (2, [.long a, .long b])), (h2, .inr (2, [.long a2, .long b2]))]) (xS (As := [.long a2, .long b]) (rest := [.long (prF a b2)]) C (c_X2_product l D cs a2 b) kX2_29 hP hD [] rfl (by decide) ⟨Nat.le_of_ble_eq_true rfl, Nat.le_of_ble_eq_true rfl⟩ rfl hl.1 rfl (Nat.le_of_ble_eq_true rfl) dX2_less_19 ⟨Nat.le_of_ble_eq_true rfl, Nat.le_of_ble_eq_true rfl⟩) hP hD hS hA [] [0, 1] rfl rfl (by decide) (by decide) ?_
  clear hP hD hS
  try clear locs
  try clear H
  intro r_3 u_4 H locs hw_r_3 hP hD hS
  have hw_r_3 : r_3 = prF a2 b := hw_r_3
  refine W.widen (k := 0) (n := 0) (Nat.le_of_ble_eq_true rfl) (Nat.le_of_ble_eq_true rfl) ?_
  replace hP : va_P D vwCl [(h, .inr (2, [.long a, .long b])), (h2, .inr (2, [.long a2, .long b2]))] H := hP
  replace hD : va_D A [(h, .inr (2, [.long a, .long b])), (h2, .inr (2, [.long a2, .long b2]))] := hD
  subst hw_r_3
  refine xl (wr := [(h, .inr (2, [.long a, .long b])), (h2, .inr (2, [.long a2, .long b2]))]) (xS (As := [.long (prF a b2), .long (prF a2 b)]) (rest := []) C (c_X2_difference l D cs (prF a b2) (prF a2 b)) kX2_39 hP hD [] rfl (by decide) ⟨Nat.le_of_ble_eq_true rfl, Nat.le_of_ble_eq_true rfl⟩ rfl hl.1 rfl (Nat.le_of_ble_eq_true rfl) dX2_less_22 ⟨Nat.le_of_ble_eq_true rfl, Nat.le_of_ble_eq_true rfl⟩) hP hD hS hA [] [0, 1] rfl rfl (by decide) (by decide) ?_
  clear hP hD hS
  try clear locs
  try clear H
  intro r_5 u_6 H locs hw_r_5 hP hD hS
  have hw_r_5 : r_5 = dfF (prF a b2) (prF a2 b) := hw_r_5
  refine W.widen (k := 0) (n := 0) (Nat.le_of_ble_eq_true rfl) (Nat.le_of_ble_eq_true rfl) ?_
  replace hP : va_P D vwCl [(h, .inr (2, [.long a, .long b])), (h2, .inr (2, [.long a2, .long b2]))] H := hP
  replace hD : va_D A [(h, .inr (2, [.long a, .long b])), (h2, .inr (2, [.long a2, .long b2]))] := hD
  subst hw_r_5
  refine lv_aload_n hx hb dX2_less_25 rfl (lv_at hl 0 rfl) ?_
  refine xget C hP 0 rfl rfl zuX2 1 (by decide) zw4_125 rfl dX2_less_26 ?_
  refine lv_aload_n hx hb dX2_less_29 rfl (lv_at hl 1 rfl) ?_
  refine xget C hP 1 rfl rfl zuX2 1 (by decide) zw4_125 rfl dX2_less_30 ?_
  refine xl (wr := [(h, .inr (2, [.long a, .long b])), (h2, .inr (2, [.long a2, .long b2]))]) (xS (As := [.long b, .long b2]) (rest := [.long (dfF (prF a b2) (prF a2 b))]) C (c_X2_product l D cs b b2) kX2_29 hP hD [] rfl (by decide) ⟨Nat.le_of_ble_eq_true rfl, Nat.le_of_ble_eq_true rfl⟩ rfl hl.1 rfl (Nat.le_of_ble_eq_true rfl) dX2_less_33 ⟨Nat.le_of_ble_eq_true rfl, Nat.le_of_ble_eq_true rfl⟩) hP hD hS hA [] [0, 1] rfl rfl (by decide) (by decide) ?_
  clear hP hD hS
  try clear locs
  try clear H
  intro r_7 u_8 H locs hw_r_7 hP hD hS
  have hw_r_7 : r_7 = prF b b2 := hw_r_7
  refine W.widen (k := 0) (n := 0) (Nat.le_of_ble_eq_true rfl) (Nat.le_of_ble_eq_true rfl) ?_
  replace hP : va_P D vwCl [(h, .inr (2, [.long a, .long b])), (h2, .inr (2, [.long a2, .long b2]))] H := hP
  replace hD : va_D A [(h, .inr (2, [.long a, .long b])), (h2, .inr (2, [.long a2, .long b2]))] := hD
  subst hw_r_7
  refine xr (wr := [(h, .inr (2, [.long a, .long b])), (h2, .inr (2, [.long a2, .long b2]))]) (xS (As := [.long (dfF (prF a b2) (prF a2 b)), .long (prF b b2)]) (rest := []) C (c_X2_least l D cs (dfF (prF a b2) (prF a2 b)) (prF b b2)) kX2_35 hP hD [] rfl (by decide) ⟨Nat.le_of_ble_eq_true rfl, Nat.le_of_ble_eq_true rfl⟩ rfl hl.1 rfl (Nat.le_of_ble_eq_true rfl) dX2_less_36 ⟨Nat.le_of_ble_eq_true rfl, Nat.le_of_ble_eq_true rfl⟩) hP hD hS hA [] [0, 1] rfl rfl (by decide) (by decide) ?_
  clear hP hD hS
  try clear locs
  try clear H
  intro u_10 r_9 H locs hw_r_9 hP hD hS
  refine W.widen (k := 1) (n := 2) (Nat.le_of_ble_eq_true rfl) (Nat.le_of_ble_eq_true rfl) ?_
  replace hP : va_P D vwCl [(h, .inr (2, [.long a, .long b])), (h2, .inr (2, [.long a2, .long b2])), (r_9, .inr (2, [.long ((lsF (dfF (prF a b2) (prF a2 b)) (prF b b2)).1), .long ((lsF (dfF (prF a b2) (prF a2 b)) (prF b b2)).2)]))] H := hP
  replace hD : va_D A [(h, .inr (2, [.long a, .long b])), (h2, .inr (2, [.long a2, .long b2])), (r_9, .inr (2, [.long ((lsF (dfF (prF a b2) (prF a2 b)) (prF b b2)).1), .long ((lsF (dfF (prF a b2) (prF a2 b)) (prF b b2)).2)]))] := hD
  exact xretr C (Or.inl ⟨_, rfl⟩) () trivial hP hD hS (Nat.le_of_ble_eq_true rfl) (Nat.le_of_ble_eq_true rfl) dX2_less_39

set_option maxHeartbeats 4000000 in
set_option maxRecDepth 100000 in
theorem c_X2_times (l : Launch) (D : va_G) (cs : Nat → ClassId) (h h2 : Nat) (a b a2 b2 : Int64) : xMet l D cs yX2_times cX2_times 2 (some (.object "SampleHouse$Fraction")) ({ frames := 3, cells := 1, slots := 2, locals := 69 } : Room) [.ref h, .ref h2] [(h, .inr (2, [.long a, .long b])), (h2, .inr (2, [.long a2, .long b2]))] (xQr D (fun (_u : Unit) => True) (fun (_u : Unit) (ra : Nat) => [(h, .inr (2, [.long a, .long b])), (h2, .inr (2, [.long a2, .long b2])), (ra, .inr (2, [.long ((tiF (a, b) (a2, b2)).1), .long ((tiF (a, b) (a2, b2)).2)]))])) := by
  refine xMet.intro (by decide) (Nat.le_of_ble_eq_true rfl) ?_
  intro p e s m args below meth c A ls C hP hD hS hl
  have hx := C.1
  have hb := C.2.1
  have hz := C.2.2.2.2.1
  have hown := C.2.2.2.1
  have hA := C.2.2.2.2.2.2.2.2.2
  have hAO := C.2.2.2.2.2.2.2.2.1.2.2
  replace hl : lv_has ls 2 [(0, .ref h), (1, .ref h2)] := hl
  obtain ⟨H, hH⟩ : ∃ H, H = s.heap := ⟨_, rfl⟩
  replace hP : va_P D vwCl [(h, .inr (2, [.long a, .long b])), (h2, .inr (2, [.long a2, .long b2]))] H := by rw [hH]; exact hP
  replace hS : va_S A s.heap H [] := by rw [hH]; exact hS
  obtain ⟨locs, hlocs⟩ : ∃ z : List Loc, z = [] := ⟨_, rfl⟩
  rw [← hlocs] at hS
  suffices hW : W p l e ({ frames := 3, cells := 1, slots := 2, locals := 69 } : Room) s m args below meth c H locs 0 0 (MQ below ((xQr D (fun (_u : Unit) => True) (fun (_u : Unit) (ra : Nat) => [(h, .inr (2, [.long a, .long b])), (h2, .inr (2, [.long a2, .long b2])), (ra, .inr (2, [.long ((tiF (a, b) (a2, b2)).1), .long ((tiF (a, b) (a2, b2)).2)]))])) A) args s 1 2 A) (F0 m 0 ls []) by rw [hlocs, hH] at hW; exact hW
  clear hH hlocs
  refine lv_aload_n hx hb dX2_times_0 rfl (lv_at hl 0 rfl) ?_
  refine xget C hP 0 rfl rfl zuX2 0 (by decide) zw4_123 rfl dX2_times_1 ?_
  refine lv_aload_n hx hb dX2_times_4 rfl (lv_at hl 1 rfl) ?_
  refine xget C hP 1 rfl rfl zuX2 0 (by decide) zw4_123 rfl dX2_times_5 ?_
  refine xl (wr := [(h, .inr (2, [.long a, .long b])), (h2, .inr (2, [.long a2, .long b2]))]) (xS (As := [.long a, .long a2]) (rest := []) C (c_X2_product l D cs a a2) kX2_29 hP hD [] rfl (by decide) ⟨Nat.le_of_ble_eq_true rfl, Nat.le_of_ble_eq_true rfl⟩ rfl hl.1 rfl (Nat.le_of_ble_eq_true rfl) dX2_times_8 ⟨Nat.le_of_ble_eq_true rfl, Nat.le_of_ble_eq_true rfl⟩) hP hD hS hA [] [0, 1] rfl rfl (by decide) (by decide) ?_
  clear hP hD hS
  try clear locs
  try clear H
  intro r_1 u_2 H locs hw_r_1 hP hD hS
  have hw_r_1 : r_1 = prF a a2 := hw_r_1
  refine W.widen (k := 0) (n := 0) (Nat.le_of_ble_eq_true rfl) (Nat.le_of_ble_eq_true rfl) ?_
  replace hP : va_P D vwCl [(h, .inr (2, [.long a, .long b])), (h2, .inr (2, [.long a2, .long b2]))] H := hP
  replace hD : va_D A [(h, .inr (2, [.long a, .long b])), (h2, .inr (2, [.long a2, .long b2]))] := hD
  subst hw_r_1
  refine lv_aload_n hx hb dX2_times_11 rfl (lv_at hl 0 rfl) ?_
  refine xget C hP 0 rfl rfl zuX2 1 (by decide) zw4_125 rfl dX2_times_12 ?_
  refine lv_aload_n hx hb dX2_times_15 rfl (lv_at hl 1 rfl) ?_
  refine xget C hP 1 rfl rfl zuX2 1 (by decide) zw4_125 rfl dX2_times_16 ?_
  refine xl (wr := [(h, .inr (2, [.long a, .long b])), (h2, .inr (2, [.long a2, .long b2]))]) (xS (As := [.long b, .long b2]) (rest := [.long (prF a a2)]) C (c_X2_product l D cs b b2) kX2_29 hP hD [] rfl (by decide) ⟨Nat.le_of_ble_eq_true rfl, Nat.le_of_ble_eq_true rfl⟩ rfl hl.1 rfl (Nat.le_of_ble_eq_true rfl) dX2_times_19 ⟨Nat.le_of_ble_eq_true rfl, Nat.le_of_ble_eq_true rfl⟩) hP hD hS hA [] [0, 1] rfl rfl (by decide) (by decide) ?_
  clear hP hD hS
  try clear locs
  try clear H
  intro r_3 u_4 H locs hw_r_3 hP hD hS
  have hw_r_3 : r_3 = prF b b2 := hw_r_3
  refine W.widen (k := 0) (n := 0) (Nat.le_of_ble_eq_true rfl) (Nat.le_of_ble_eq_true rfl) ?_
  replace hP : va_P D vwCl [(h, .inr (2, [.long a, .long b])), (h2, .inr (2, [.long a2, .long b2]))] H := hP
  replace hD : va_D A [(h, .inr (2, [.long a, .long b])), (h2, .inr (2, [.long a2, .long b2]))] := hD
  subst hw_r_3
  refine xr (wr := [(h, .inr (2, [.long a, .long b])), (h2, .inr (2, [.long a2, .long b2]))]) (xS (As := [.long (prF a a2), .long (prF b b2)]) (rest := []) C (c_X2_least l D cs (prF a a2) (prF b b2)) kX2_35 hP hD [] rfl (by decide) ⟨Nat.le_of_ble_eq_true rfl, Nat.le_of_ble_eq_true rfl⟩ rfl hl.1 rfl (Nat.le_of_ble_eq_true rfl) dX2_times_22 ⟨Nat.le_of_ble_eq_true rfl, Nat.le_of_ble_eq_true rfl⟩) hP hD hS hA [] [0, 1] rfl rfl (by decide) (by decide) ?_
  clear hP hD hS
  try clear locs
  try clear H
  intro u_6 r_5 H locs hw_r_5 hP hD hS
  refine W.widen (k := 1) (n := 2) (Nat.le_of_ble_eq_true rfl) (Nat.le_of_ble_eq_true rfl) ?_
  replace hP : va_P D vwCl [(h, .inr (2, [.long a, .long b])), (h2, .inr (2, [.long a2, .long b2])), (r_5, .inr (2, [.long ((lsF (prF a a2) (prF b b2)).1), .long ((lsF (prF a a2) (prF b b2)).2)]))] H := hP
  replace hD : va_D A [(h, .inr (2, [.long a, .long b])), (h2, .inr (2, [.long a2, .long b2])), (r_5, .inr (2, [.long ((lsF (prF a a2) (prF b b2)).1), .long ((lsF (prF a a2) (prF b b2)).2)]))] := hD
  exact xretr C (Or.inl ⟨_, rfl⟩) () trivial hP hD hS (Nat.le_of_ble_eq_true rfl) (Nat.le_of_ble_eq_true rfl) dX2_times_25

set_option maxHeartbeats 4000000 in
set_option maxRecDepth 100000 in
theorem c_X2_by (l : Launch) (D : va_G) (cs : Nat → ClassId) (h h2 : Nat) (a b a2 b2 : Int64) : xMet l D cs yX2_by cX2_by 2 (some (.object "SampleHouse$Fraction")) ({ frames := 3, cells := 1, slots := 2, locals := 69 } : Room) [.ref h, .ref h2] [(h, .inr (2, [.long a, .long b])), (h2, .inr (2, [.long a2, .long b2]))] (xQr D (fun (_u : Unit) => True) (fun (_u : Unit) (ra : Nat) => [(h, .inr (2, [.long a, .long b])), (h2, .inr (2, [.long a2, .long b2])), (ra, .inr (2, [.long ((byF (a, b) (a2, b2)).1), .long ((byF (a, b) (a2, b2)).2)]))])) := by
  refine xMet.intro (by decide) (Nat.le_of_ble_eq_true rfl) ?_
  intro p e s m args below meth c A ls C hP hD hS hl
  have hx := C.1
  have hb := C.2.1
  have hz := C.2.2.2.2.1
  have hown := C.2.2.2.1
  have hA := C.2.2.2.2.2.2.2.2.2
  have hAO := C.2.2.2.2.2.2.2.2.1.2.2
  replace hl : lv_has ls 2 [(0, .ref h), (1, .ref h2)] := hl
  obtain ⟨H, hH⟩ : ∃ H, H = s.heap := ⟨_, rfl⟩
  replace hP : va_P D vwCl [(h, .inr (2, [.long a, .long b])), (h2, .inr (2, [.long a2, .long b2]))] H := by rw [hH]; exact hP
  replace hS : va_S A s.heap H [] := by rw [hH]; exact hS
  obtain ⟨locs, hlocs⟩ : ∃ z : List Loc, z = [] := ⟨_, rfl⟩
  rw [← hlocs] at hS
  suffices hW : W p l e ({ frames := 3, cells := 1, slots := 2, locals := 69 } : Room) s m args below meth c H locs 0 0 (MQ below ((xQr D (fun (_u : Unit) => True) (fun (_u : Unit) (ra : Nat) => [(h, .inr (2, [.long a, .long b])), (h2, .inr (2, [.long a2, .long b2])), (ra, .inr (2, [.long ((byF (a, b) (a2, b2)).1), .long ((byF (a, b) (a2, b2)).2)]))])) A) args s 1 2 A) (F0 m 0 ls []) by rw [hlocs, hH] at hW; exact hW
  clear hH hlocs
  refine lv_aload_n hx hb dX2_by_0 rfl (lv_at hl 0 rfl) ?_
  refine xget C hP 0 rfl rfl zuX2 0 (by decide) zw4_123 rfl dX2_by_1 ?_
  refine lv_aload_n hx hb dX2_by_4 rfl (lv_at hl 1 rfl) ?_
  refine xget C hP 1 rfl rfl zuX2 1 (by decide) zw4_125 rfl dX2_by_5 ?_
  refine xl (wr := [(h, .inr (2, [.long a, .long b])), (h2, .inr (2, [.long a2, .long b2]))]) (xS (As := [.long a, .long b2]) (rest := []) C (c_X2_product l D cs a b2) kX2_29 hP hD [] rfl (by decide) ⟨Nat.le_of_ble_eq_true rfl, Nat.le_of_ble_eq_true rfl⟩ rfl hl.1 rfl (Nat.le_of_ble_eq_true rfl) dX2_by_8 ⟨Nat.le_of_ble_eq_true rfl, Nat.le_of_ble_eq_true rfl⟩) hP hD hS hA [] [0, 1] rfl rfl (by decide) (by decide) ?_
  clear hP hD hS
  try clear locs
  try clear H
  intro r_1 u_2 H locs hw_r_1 hP hD hS
  have hw_r_1 : r_1 = prF a b2 := hw_r_1
  refine W.widen (k := 0) (n := 0) (Nat.le_of_ble_eq_true rfl) (Nat.le_of_ble_eq_true rfl) ?_
  replace hP : va_P D vwCl [(h, .inr (2, [.long a, .long b])), (h2, .inr (2, [.long a2, .long b2]))] H := hP
  replace hD : va_D A [(h, .inr (2, [.long a, .long b])), (h2, .inr (2, [.long a2, .long b2]))] := hD
  subst hw_r_1
  refine lv_aload_n hx hb dX2_by_11 rfl (lv_at hl 0 rfl) ?_
  refine xget C hP 0 rfl rfl zuX2 1 (by decide) zw4_125 rfl dX2_by_12 ?_
  refine lv_aload_n hx hb dX2_by_15 rfl (lv_at hl 1 rfl) ?_
  refine xget C hP 1 rfl rfl zuX2 0 (by decide) zw4_123 rfl dX2_by_16 ?_
  refine xl (wr := [(h, .inr (2, [.long a, .long b])), (h2, .inr (2, [.long a2, .long b2]))]) (xS (As := [.long b, .long a2]) (rest := [.long (prF a b2)]) C (c_X2_product l D cs b a2) kX2_29 hP hD [] rfl (by decide) ⟨Nat.le_of_ble_eq_true rfl, Nat.le_of_ble_eq_true rfl⟩ rfl hl.1 rfl (Nat.le_of_ble_eq_true rfl) dX2_by_19 ⟨Nat.le_of_ble_eq_true rfl, Nat.le_of_ble_eq_true rfl⟩) hP hD hS hA [] [0, 1] rfl rfl (by decide) (by decide) ?_
  clear hP hD hS
  try clear locs
  try clear H
  intro r_3 u_4 H locs hw_r_3 hP hD hS
  have hw_r_3 : r_3 = prF b a2 := hw_r_3
  refine W.widen (k := 0) (n := 0) (Nat.le_of_ble_eq_true rfl) (Nat.le_of_ble_eq_true rfl) ?_
  replace hP : va_P D vwCl [(h, .inr (2, [.long a, .long b])), (h2, .inr (2, [.long a2, .long b2]))] H := hP
  replace hD : va_D A [(h, .inr (2, [.long a, .long b])), (h2, .inr (2, [.long a2, .long b2]))] := hD
  subst hw_r_3
  refine xr (wr := [(h, .inr (2, [.long a, .long b])), (h2, .inr (2, [.long a2, .long b2]))]) (xS (As := [.long (prF a b2), .long (prF b a2)]) (rest := []) C (c_X2_least l D cs (prF a b2) (prF b a2)) kX2_35 hP hD [] rfl (by decide) ⟨Nat.le_of_ble_eq_true rfl, Nat.le_of_ble_eq_true rfl⟩ rfl hl.1 rfl (Nat.le_of_ble_eq_true rfl) dX2_by_22 ⟨Nat.le_of_ble_eq_true rfl, Nat.le_of_ble_eq_true rfl⟩) hP hD hS hA [] [0, 1] rfl rfl (by decide) (by decide) ?_
  clear hP hD hS
  try clear locs
  try clear H
  intro u_6 r_5 H locs hw_r_5 hP hD hS
  refine W.widen (k := 1) (n := 2) (Nat.le_of_ble_eq_true rfl) (Nat.le_of_ble_eq_true rfl) ?_
  replace hP : va_P D vwCl [(h, .inr (2, [.long a, .long b])), (h2, .inr (2, [.long a2, .long b2])), (r_5, .inr (2, [.long ((lsF (prF a b2) (prF b a2)).1), .long ((lsF (prF a b2) (prF b a2)).2)]))] H := hP
  replace hD : va_D A [(h, .inr (2, [.long a, .long b])), (h2, .inr (2, [.long a2, .long b2])), (r_5, .inr (2, [.long ((lsF (prF a b2) (prF b a2)).1), .long ((lsF (prF a b2) (prF b a2)).2)]))] := hD
  exact xretr C (Or.inl ⟨_, rfl⟩) () trivial hP hD hS (Nat.le_of_ble_eq_true rfl) (Nat.le_of_ble_eq_true rfl) dX2_by_25

theorem ways_step : ∀ i, i < 12 → prF (lN (12 ^ i)) (lN 12) = lN (12 ^ (i + 1)) ∧ ¬ (lN (12 ^ (i + 1))) < 0 := by decide

set_option maxHeartbeats 4000000 in
set_option maxRecDepth 100000 in
theorem c_X7_ways (l : Launch) (D : va_G) (cs : Nat → ClassId) (h sm ca k al be : Nat) (ea pr : Int32) (t : Nat) (ht : t ≤ 12) : xMet l D cs yX7_ways cX7_ways 7 (some .long) ({ frames := 1, cells := 0, slots := 0, locals := 23 } : Room) [.ref h, .int (nI t)] [(h, .inr (7, [.int (nI 4), .int (nI k), .int (nI al), .int (nI be), .int ea, .int pr, .ref sm, .int (nI 3), .ref ca]))] (xQl D (fun (r : Int64) (_u : Unit) => r = lN (12 ^ t)) (fun (_u : Unit) => [(h, .inr (7, [.int (nI 4), .int (nI k), .int (nI al), .int (nI be), .int ea, .int pr, .ref sm, .int (nI 3), .ref ca]))])) := by
  refine xMet.intro (by decide) (Nat.le_of_ble_eq_true rfl) ?_
  intro p e s m args below meth c A ls C hP hD hS hl
  have hx := C.1
  have hb := C.2.1
  have hz := C.2.2.2.2.1
  have hown := C.2.2.2.1
  have hA := C.2.2.2.2.2.2.2.2.2
  have hAO := C.2.2.2.2.2.2.2.2.1.2.2
  replace hl : lv_has ls 7 [(0, .ref h), (1, .int (nI t))] := hl
  obtain ⟨H, hH⟩ : ∃ H, H = s.heap := ⟨_, rfl⟩
  replace hP : va_P D vwCl [(h, .inr (7, [.int (nI 4), .int (nI k), .int (nI al), .int (nI be), .int ea, .int pr, .ref sm, .int (nI 3), .ref ca]))] H := by rw [hH]; exact hP
  replace hS : va_S A s.heap H [] := by rw [hH]; exact hS
  obtain ⟨locs, hlocs⟩ : ∃ z : List Loc, z = [] := ⟨_, rfl⟩
  rw [← hlocs] at hS
  suffices hW : W p l e ({ frames := 1, cells := 0, slots := 0, locals := 23 } : Room) s m args below meth c H locs 0 0 (MQ below ((xQl D (fun (r : Int64) (_u : Unit) => r = lN (12 ^ t)) (fun (_u : Unit) => [(h, .inr (7, [.int (nI 4), .int (nI k), .int (nI al), .int (nI be), .int ea, .int pr, .ref sm, .int (nI 3), .ref ca]))])) A) args s 0 0 A) (F0 m 0 ls []) by rw [hlocs, hH] at hW; exact hW
  clear hH hlocs
  refine lv_aload_n hx hb dX7_ways_0 rfl (lv_at hl 0 rfl) ?_
  refine xget C hP 0 rfl rfl zuX7 0 (by decide) zw1_78 rfl dX7_ways_1 ?_
  refine lv_i2l hx hb dX7_ways_4 rfl ?_
  refine lv_aload_n hx hb dX7_ways_5 rfl (lv_at hl 0 rfl) ?_
  refine xget C hP 0 rfl rfl zuX7 7 (by decide) zw1_102 rfl dX7_ways_6 ?_
  refine lv_i2l hx hb dX7_ways_9 rfl ?_
  refine lv_lmul hx hb dX7_ways_10 ?_
  refine lv_topl (nm_r (e' := lN 12) (by decide) ?_)
  refine lv_lstore_n (lv' := [(2, .long (lN 12)), (0, .ref h), (1, .int (nI t))]) hx hb dX7_ways_11 rfl hl (by decide) rfl ?_
  clear hl
  try clear ls
  intro ls hl
  refine lv_lconst (v := 1) hx hb dX7_ways_12 (by decide) ?_
  refine lv_lstore (lv' := [(4, .long 1), (2, .long (lN 12)), (0, .ref h), (1, .int (nI t))]) hx hb dX7_ways_13 hl (by decide) rfl ?_
  clear hl
  try clear ls
  intro ls hl
  refine lv_iconst (v := nI 0) hx hb dX7_ways_15 (by decide) ?_
  refine lv_istore (lv' := [(6, .int (nI 0)), (4, .long 1), (2, .long (lN 12)), (0, .ref h), (1, .int (nI t))]) hx hb dX7_ways_16 hl (by decide) rfl ?_
  clear hl
  try clear ls
  intro ls hl
  have loop_1 : ∀ (n_loop_1 : Nat) (i : Nat), (i ≤ t) → t - i < n_loop_1 → ∀ (H : Heap) (locs : List Loc) (ls : Array Slot), va_P D vwCl [(h, .inr (7, [.int (nI 4), .int (nI k), .int (nI al), .int (nI be), .int ea, .int pr, .ref sm, .int (nI 3), .ref ca]))] H → va_D A [(h, .inr (7, [.int (nI 4), .int (nI k), .int (nI al), .int (nI be), .int ea, .int pr, .ref sm, .int (nI 3), .ref ca]))] → va_S A s.heap H locs → lv_has ls 7 [(6, .int (nI i)), (4, .long (lN (12 ^ i))), (2, .long (lN 12)), (0, .ref h), (1, .int (nI t))] → W p l e ({ frames := 1, cells := 0, slots := 0, locals := 23 } : Room) s m args below meth c H locs 0 0 (MQ below ((xQl D (fun (r : Int64) (_u : Unit) => r = lN (12 ^ t)) (fun (_u : Unit) => [(h, .inr (7, [.int (nI 4), .int (nI k), .int (nI al), .int (nI be), .int ea, .int pr, .ref sm, .int (nI 3), .ref ca]))])) A) args s 0 0 A) (F0 m 18 ls []) := by
    intro n_loop_1
    induction n_loop_1 with
    | zero => intro i h_i hlt H locs ls hP hD hS hl; exact absurd hlt (Nat.not_lt_zero _)
    | succ n_loop_1 ih_loop_1 =>
      intro i h_i hlt_loop_1 H locs ls hP hD hS hl
      refine lv_iload hx hb dX7_ways_18 (lv_at hl 0 rfl) ?_
      refine lv_iload_n hx hb dX7_ways_20 rfl (lv_at hl 4 rfl) ?_
      refine lv_icmp_ge (tgt := 49) hx hb dX7_ways_21 (by decide) (fun c_2 => ?_) (fun c_2 => ?_)
      · -- 21 t
        have fc_2 : t ≤ i := nf_le (by omega) (by omega) c_2
        obtain rfl : t = i := by omega
        replace hP : va_P D vwCl [(h, .inr (7, [.int (nI 4), .int (nI k), .int (nI al), .int (nI be), .int ea, .int pr, .ref sm, .int (nI 3), .ref ca]))] H := hP
        replace hD : va_D A [(h, .inr (7, [.int (nI 4), .int (nI k), .int (nI al), .int (nI be), .int ea, .int pr, .ref sm, .int (nI 3), .ref ca]))] := hD
        refine lv_lload hx hb dX7_ways_49 (lv_at hl 1 rfl) ?_
        exact xretl C () rfl hP hD hS (Nat.le_of_ble_eq_true rfl) (Nat.le_of_ble_eq_true rfl) dX7_ways_51
      · -- 21 f
        have fc_2 : i < t := nf_nle (by omega) (by omega) c_2
        refine lv_lload hx hb dX7_ways_24 (lv_at hl 1 rfl) ?_
        refine lv_lload_n hx hb dX7_ways_26 rfl (lv_at hl 2 rfl) ?_
        refine xl (wr := [(h, .inr (7, [.int (nI 4), .int (nI k), .int (nI al), .int (nI be), .int ea, .int pr, .ref sm, .int (nI 3), .ref ca]))]) (xS (As := [.long (lN (12 ^ i)), .long (lN 12)]) (rest := []) C (c_X2_product l D cs (lN (12 ^ i)) (lN 12)) kX7_80 hP hD [] rfl (by decide) ⟨Nat.le_of_ble_eq_true rfl, Nat.le_of_ble_eq_true rfl⟩ rfl hl.1 rfl (Nat.le_of_ble_eq_true rfl) dX7_ways_27 ⟨Nat.le_of_ble_eq_true rfl, Nat.le_of_ble_eq_true rfl⟩) hP hD hS hA [] [0] rfl rfl (by decide) (by decide) ?_
        clear hP hD hS
        try clear locs
        try clear H
        intro r_3 u_4 H locs hw_r_3 hP hD hS
        have hw_r_3 : r_3 = prF (lN (12 ^ i)) (lN 12) := hw_r_3
        refine W.widen (k := 0) (n := 0) (Nat.le_of_ble_eq_true rfl) (Nat.le_of_ble_eq_true rfl) ?_
        replace hP : va_P D vwCl [(h, .inr (7, [.int (nI 4), .int (nI k), .int (nI al), .int (nI be), .int ea, .int pr, .ref sm, .int (nI 3), .ref ca]))] H := hP
        replace hD : va_D A [(h, .inr (7, [.int (nI 4), .int (nI k), .int (nI al), .int (nI be), .int ea, .int pr, .ref sm, .int (nI 3), .ref ca]))] := hD
        rw [(ways_step i (by omega)).1] at hw_r_3
        subst hw_r_3
        refine lv_lstore (lv' := [(4, .long (lN (12 ^ (i + 1)))), (6, .int (nI i)), (2, .long (lN 12)), (0, .ref h), (1, .int (nI t))]) hx hb dX7_ways_30 hl (by decide) rfl ?_
        clear hl
        try clear ls
        intro ls hl
        refine lv_lload hx hb dX7_ways_32 (lv_at hl 0 rfl) ?_
        refine lv_lconst (v := 0) hx hb dX7_ways_34 (by decide) ?_
        refine W.lcmp hx hb dX7_ways_35 ?_
        refine lv_if_ge (tgt := 43) hx hb dX7_ways_36 (by decide) (fun _ => ?_) (fun c => absurd ((lg_cmp_ge _ _).mpr (Int64.not_lt.mp (ways_step i (by omega)).2)) c)
        refine lv_iinc (v := nI (i + 1)) (lv' := [(6, .int (nI (i + 1))), (4, .long (lN (12 ^ (i + 1)))), (2, .long (lN 12)), (0, .ref h), (1, .int (nI t))]) hx hb dX7_ways_43 hl (k := 1) rfl (nI_add i 1) (by decide) rfl ?_
        clear hl
        try clear ls
        intro ls hl
        refine lv_goto (tgt := 18) hx hb dX7_ways_46 (by decide) ?_
        exact ih_loop_1 (i + 1) (by omega) (by omega) H locs ls hP hD hS (lv_sub hl [0, 1, 2, 3, 4] rfl)
  exact loop_1 _ 0 (by omega) (Nat.lt_succ_self _) H locs ls hP hD hS (lv_sub hl [0, 1, 2, 3, 4] rfl)

set_option maxHeartbeats 4000000 in
set_option maxRecDepth 100000 in
theorem c_X7_carriedBy_n (l : Launch) (D : va_G) (cs : Nat → ClassId) (h sm ca n k al be : Nat) (ea pr se : Int32) (cf : Nat → Int32) (i : Nat) (hn : n ≤ 8) (hi : i < n) : xMet l D cs yX7_carriedBy cX7_carriedBy 2 (some .int) ({ frames := 0, cells := 0, slots := 0, locals := 0 } : Room) [.ref h, .int (nI i)] [(h, .inr (7, [.int (nI n), .int (nI k), .int (nI al), .int (nI be), .int ea, .int pr, .ref sm, .int se, .ref ca])), (ca, .inl (cs 0, 8, .inl cf))] (xQi D (fun (r : Int32) (_u : Unit) => r = cf i) (fun (_u : Unit) => [(h, .inr (7, [.int (nI n), .int (nI k), .int (nI al), .int (nI be), .int ea, .int pr, .ref sm, .int se, .ref ca])), (ca, .inl (cs 0, 8, .inl cf))])) := by
  refine xMet.intro (by decide) (Nat.le_of_ble_eq_true rfl) ?_
  intro p e s m args below meth c A ls C hP hD hS hl
  have hx := C.1
  have hb := C.2.1
  have hz := C.2.2.2.2.1
  have hown := C.2.2.2.1
  have hA := C.2.2.2.2.2.2.2.2.2
  have hAO := C.2.2.2.2.2.2.2.2.1.2.2
  replace hl : lv_has ls 2 [(0, .ref h), (1, .int (nI i))] := hl
  obtain ⟨H, hH⟩ : ∃ H, H = s.heap := ⟨_, rfl⟩
  replace hP : va_P D vwCl [(h, .inr (7, [.int (nI n), .int (nI k), .int (nI al), .int (nI be), .int ea, .int pr, .ref sm, .int se, .ref ca])), (ca, .inl (cs 0, 8, .inl cf))] H := by rw [hH]; exact hP
  replace hS : va_S A s.heap H [] := by rw [hH]; exact hS
  obtain ⟨locs, hlocs⟩ : ∃ z : List Loc, z = [] := ⟨_, rfl⟩
  rw [← hlocs] at hS
  suffices hW : W p l e ({ frames := 0, cells := 0, slots := 0, locals := 0 } : Room) s m args below meth c H locs 0 0 (MQ below ((xQi D (fun (r : Int32) (_u : Unit) => r = cf i) (fun (_u : Unit) => [(h, .inr (7, [.int (nI n), .int (nI k), .int (nI al), .int (nI be), .int ea, .int pr, .ref sm, .int se, .ref ca])), (ca, .inl (cs 0, 8, .inl cf))])) A) args s 0 0 A) (F0 m 0 ls []) by rw [hlocs, hH] at hW; exact hW
  clear hH hlocs
  refine lv_iload_n hx hb dX7_carriedBy_0 rfl (lv_at hl 1 rfl) ?_
  refine lv_if_lt (tgt := 12) hx hb dX7_carriedBy_1 (by decide) (fun c => absurd c (nI_pos (by omega))) (fun _ => ?_)
  refine lv_iload_n hx hb dX7_carriedBy_4 rfl (lv_at hl 1 rfl) ?_
  refine lv_aload_n hx hb dX7_carriedBy_5 rfl (lv_at hl 0 rfl) ?_
  refine xget C hP 0 rfl rfl zuX7 0 (by decide) zw1_78 rfl dX7_carriedBy_6 ?_
  refine lv_icmp_lt (tgt := 16) hx hb dX7_carriedBy_9 (by decide) (fun _ => ?_) (fun c => absurd (nI_lt hi (by omega)) c)
  refine lv_aload_n hx hb dX7_carriedBy_16 rfl (lv_at hl 0 rfl) ?_
  refine xget C hP 0 rfl rfl zuX7 8 (by decide) zw1_106 rfl dX7_carriedBy_17 ?_
  refine lv_iload_n hx hb dX7_carriedBy_20 rfl (lv_at hl 1 rfl) ?_
  refine xiald C hP 1 rfl i rfl (by omega) (by decide) dX7_carriedBy_21 ?_
  exact xreti C () rfl hP hD hS (Nat.le_of_ble_eq_true rfl) (Nat.le_of_ble_eq_true rfl) rfl dX7_carriedBy_22

set_option maxHeartbeats 4000000 in
set_option maxRecDepth 100000 in
theorem c_X7_up (l : Launch) (D : va_G) (cs : Nat → ClassId) (h sm ca n k al be : Nat) (ea pr se : Int32) (cf : Nat → Int32) (i : Nat) (hn : n ≤ 8) (hi : i < n) : xMet l D cs yX7_up cX7_up 2 (some .int) ({ frames := 1, cells := 0, slots := 0, locals := 21 } : Room) [.ref h, .int (nI i)] [(h, .inr (7, [.int (nI n), .int (nI k), .int (nI al), .int (nI be), .int ea, .int pr, .ref sm, .int se, .ref ca])), (ca, .inl (cs 0, 8, .inl cf))] (xQi D (fun (r : Int32) (_u : Unit) => r = nI (n - i) * cf i) (fun (_u : Unit) => [(h, .inr (7, [.int (nI n), .int (nI k), .int (nI al), .int (nI be), .int ea, .int pr, .ref sm, .int se, .ref ca])), (ca, .inl (cs 0, 8, .inl cf))])) := by
  refine xMet.intro (by decide) (Nat.le_of_ble_eq_true rfl) ?_
  intro p e s m args below meth c A ls C hP hD hS hl
  have hx := C.1
  have hb := C.2.1
  have hz := C.2.2.2.2.1
  have hown := C.2.2.2.1
  have hA := C.2.2.2.2.2.2.2.2.2
  have hAO := C.2.2.2.2.2.2.2.2.1.2.2
  replace hl : lv_has ls 2 [(0, .ref h), (1, .int (nI i))] := hl
  obtain ⟨H, hH⟩ : ∃ H, H = s.heap := ⟨_, rfl⟩
  replace hP : va_P D vwCl [(h, .inr (7, [.int (nI n), .int (nI k), .int (nI al), .int (nI be), .int ea, .int pr, .ref sm, .int se, .ref ca])), (ca, .inl (cs 0, 8, .inl cf))] H := by rw [hH]; exact hP
  replace hS : va_S A s.heap H [] := by rw [hH]; exact hS
  obtain ⟨locs, hlocs⟩ : ∃ z : List Loc, z = [] := ⟨_, rfl⟩
  rw [← hlocs] at hS
  suffices hW : W p l e ({ frames := 1, cells := 0, slots := 0, locals := 21 } : Room) s m args below meth c H locs 0 0 (MQ below ((xQi D (fun (r : Int32) (_u : Unit) => r = nI (n - i) * cf i) (fun (_u : Unit) => [(h, .inr (7, [.int (nI n), .int (nI k), .int (nI al), .int (nI be), .int ea, .int pr, .ref sm, .int se, .ref ca])), (ca, .inl (cs 0, 8, .inl cf))])) A) args s 0 0 A) (F0 m 0 ls []) by rw [hlocs, hH] at hW; exact hW
  clear hH hlocs
  refine lv_aload_n hx hb dX7_up_0 rfl (lv_at hl 0 rfl) ?_
  refine xget C hP 0 rfl rfl zuX7 0 (by decide) zw1_78 rfl dX7_up_1 ?_
  refine lv_iload_n hx hb dX7_up_4 rfl (lv_at hl 1 rfl) ?_
  refine lv_isub hx hb dX7_up_5 ?_
  refine lv_topi (nm_r (e' := nI (n - i)) (pk_sub (by omega)) ?_)
  refine lv_aload_n hx hb dX7_up_6 rfl (lv_at hl 0 rfl) ?_
  refine lv_iload_n hx hb dX7_up_7 rfl (lv_at hl 1 rfl) ?_
  refine xi (wr := []) (xV (As := [.int (nI i)]) (rest := [.int (nI (n - i))]) C (c_X7_carriedBy_n l D cs h sm ca n k al be ea pr se cf i hn hi) kX7_88 hP hD [0, 1] rfl (by decide) 0 rfl rfl rfl ⟨Nat.le_of_ble_eq_true rfl, Nat.le_of_ble_eq_true rfl⟩ rfl hl.1 rfl (Nat.le_of_ble_eq_true rfl) dX7_up_8 ⟨Nat.le_of_ble_eq_true rfl, Nat.le_of_ble_eq_true rfl⟩) hP hD hS hA [0, 1] [] rfl rfl (by decide) (by decide) ?_
  clear hP hD hS
  try clear locs
  try clear H
  intro r_1 u_2 H locs hw_r_1 hP hD hS
  have hw_r_1 : r_1 = cf i := hw_r_1
  refine W.widen (k := 0) (n := 0) (Nat.le_of_ble_eq_true rfl) (Nat.le_of_ble_eq_true rfl) ?_
  replace hP : va_P D vwCl [(h, .inr (7, [.int (nI n), .int (nI k), .int (nI al), .int (nI be), .int ea, .int pr, .ref sm, .int se, .ref ca])), (ca, .inl (cs 0, 8, .inl cf))] H := hP
  replace hD : va_D A [(h, .inr (7, [.int (nI n), .int (nI k), .int (nI al), .int (nI be), .int ea, .int pr, .ref sm, .int se, .ref ca])), (ca, .inl (cs 0, 8, .inl cf))] := hD
  subst hw_r_1
  refine lv_imul hx hb dX7_up_11 ?_
  exact xreti C () rfl hP hD hS (Nat.le_of_ble_eq_true rfl) (Nat.le_of_ble_eq_true rfl) rfl dX7_up_12

set_option maxHeartbeats 4000000 in
set_option maxRecDepth 100000 in
theorem c_X7_down (l : Launch) (D : va_G) (cs : Nat → ClassId) (h sm ca n k al be : Nat) (ea pr se : Int32) (cf : Nat → Int32) (i : Nat) (hn : n ≤ 8) (h0 : 0 < i) (hi : i ≤ n) : xMet l D cs yX7_down cX7_down 2 (some .int) ({ frames := 1, cells := 0, slots := 0, locals := 21 } : Room) [.ref h, .int (nI i)] [(h, .inr (7, [.int (nI n), .int (nI k), .int (nI al), .int (nI be), .int ea, .int pr, .ref sm, .int se, .ref ca])), (ca, .inl (cs 0, 8, .inl cf))] (xQi D (fun (r : Int32) (_u : Unit) => r = nI i * cf (n - i)) (fun (_u : Unit) => [(h, .inr (7, [.int (nI n), .int (nI k), .int (nI al), .int (nI be), .int ea, .int pr, .ref sm, .int se, .ref ca])), (ca, .inl (cs 0, 8, .inl cf))])) := by
  refine xMet.intro (by decide) (Nat.le_of_ble_eq_true rfl) ?_
  intro p e s m args below meth c A ls C hP hD hS hl
  have hx := C.1
  have hb := C.2.1
  have hz := C.2.2.2.2.1
  have hown := C.2.2.2.1
  have hA := C.2.2.2.2.2.2.2.2.2
  have hAO := C.2.2.2.2.2.2.2.2.1.2.2
  replace hl : lv_has ls 2 [(0, .ref h), (1, .int (nI i))] := hl
  obtain ⟨H, hH⟩ : ∃ H, H = s.heap := ⟨_, rfl⟩
  replace hP : va_P D vwCl [(h, .inr (7, [.int (nI n), .int (nI k), .int (nI al), .int (nI be), .int ea, .int pr, .ref sm, .int se, .ref ca])), (ca, .inl (cs 0, 8, .inl cf))] H := by rw [hH]; exact hP
  replace hS : va_S A s.heap H [] := by rw [hH]; exact hS
  obtain ⟨locs, hlocs⟩ : ∃ z : List Loc, z = [] := ⟨_, rfl⟩
  rw [← hlocs] at hS
  suffices hW : W p l e ({ frames := 1, cells := 0, slots := 0, locals := 21 } : Room) s m args below meth c H locs 0 0 (MQ below ((xQi D (fun (r : Int32) (_u : Unit) => r = nI i * cf (n - i)) (fun (_u : Unit) => [(h, .inr (7, [.int (nI n), .int (nI k), .int (nI al), .int (nI be), .int ea, .int pr, .ref sm, .int se, .ref ca])), (ca, .inl (cs 0, 8, .inl cf))])) A) args s 0 0 A) (F0 m 0 ls []) by rw [hlocs, hH] at hW; exact hW
  clear hH hlocs
  refine lv_iload_n hx hb dX7_down_0 rfl (lv_at hl 1 rfl) ?_
  refine lv_aload_n hx hb dX7_down_1 rfl (lv_at hl 0 rfl) ?_
  refine lv_aload_n hx hb dX7_down_2 rfl (lv_at hl 0 rfl) ?_
  refine xget C hP 0 rfl rfl zuX7 0 (by decide) zw1_78 rfl dX7_down_3 ?_
  refine lv_iload_n hx hb dX7_down_6 rfl (lv_at hl 1 rfl) ?_
  refine lv_isub hx hb dX7_down_7 ?_
  refine lv_topi (nm_r (e' := nI (n - i)) (pk_sub (by omega)) ?_)
  refine xi (wr := []) (xV (As := [.int (nI (n - i))]) (rest := [.int (nI i)]) C (c_X7_carriedBy_n l D cs h sm ca n k al be ea pr se cf (n - i) hn (by omega)) kX7_88 hP hD [0, 1] rfl (by decide) 0 rfl rfl rfl ⟨Nat.le_of_ble_eq_true rfl, Nat.le_of_ble_eq_true rfl⟩ rfl hl.1 rfl (Nat.le_of_ble_eq_true rfl) dX7_down_8 ⟨Nat.le_of_ble_eq_true rfl, Nat.le_of_ble_eq_true rfl⟩) hP hD hS hA [0, 1] [] rfl rfl (by decide) (by decide) ?_
  clear hP hD hS
  try clear locs
  try clear H
  intro r_1 u_2 H locs hw_r_1 hP hD hS
  have hw_r_1 : r_1 = cf (n - i) := hw_r_1
  refine W.widen (k := 0) (n := 0) (Nat.le_of_ble_eq_true rfl) (Nat.le_of_ble_eq_true rfl) ?_
  replace hP : va_P D vwCl [(h, .inr (7, [.int (nI n), .int (nI k), .int (nI al), .int (nI be), .int ea, .int pr, .ref sm, .int se, .ref ca])), (ca, .inl (cs 0, 8, .inl cf))] H := hP
  replace hD : va_D A [(h, .inr (7, [.int (nI n), .int (nI k), .int (nI al), .int (nI be), .int ea, .int pr, .ref sm, .int se, .ref ca])), (ca, .inl (cs 0, 8, .inl cf))] := hD
  subst hw_r_1
  refine lv_imul hx hb dX7_down_11 ?_
  exact xreti C () rfl hP hD hS (Nat.le_of_ble_eq_true rfl) (Nat.le_of_ble_eq_true rfl) rfl dX7_down_12
