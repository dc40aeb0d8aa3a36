theorem mways_mul : ∀ i, i < 12 → lN (12 ^ i) * lN 12 = lN (12 ^ (i + 1)) := by decide
theorem mways_cmp : ∀ i, i < 12 → lg_cmp (lN (12 ^ i)) (9223372036854775807 / lN 12) ≤ 0 := by decide
def cpF (f g : Nat → Int32) (i j : Nat) : Int32 := if j < i then f j else g j
theorem cpF_0 (f g : Nat → Int32) : g = cpF f g 0 := by funext j; simp [cpF]
theorem cpF_s (f g : Nat → Int32) (i : Nat) : upd (cpF f g i) i (f i) = cpF f g (i + 1) := by
  funext j
  simp only [upd, cpF]
  by_cases h : j = i
  · rw [if_pos h, if_pos (by omega), h]
  · rw [if_neg h]
    by_cases h2 : j < i
    · rw [if_pos h2, if_pos (by omega)]
    · rw [if_neg h2, if_neg (by omega)]
def slF : Nat → Int32
  | 0 => nI 17
  | i + 1 => nI 31 * slF i + freshS i

set_option maxHeartbeats 4000000 in
set_option maxRecDepth 100000 in
theorem c_X12_puts (l : Launch) (D : va_G) (cs : Nat → ClassId) (hm a b : Nat) (f g : Nat → Int32) : xMet l D cs yX12_puts cX12_puts 4 none ({ frames := 0, cells := 0, slots := 0, locals := 0 } : Room) [.ref hm, .ref a, .ref b] [(a, .inl (cs 0, 288, .inl f)), (b, .inl (cs 0, 288, .inl g))] (xQv D (fun (_u : Unit) => True) (fun (_u : Unit) => [(a, .inl (cs 0, 288, .inl f)), (b, .inl (cs 0, 288, .inl f))])) := by
  refine xMet.intro (by decide) (Nat.le_of_ble_eq_true rfl) ?_
  intro p e s m args below meth c A ls C hP hD hS hl
  have hx := C.1
  have hb := C.2.1
  have hz := C.2.2.2.2.1
  have hown := C.2.2.2.1
  have hA := C.2.2.2.2.2.2.2.2.2
  have hAO := C.2.2.2.2.2.2.2.2.1.2.2
  have hl : lv_has ls 4 [(0, .ref hm), (1, .ref a), (2, .ref b)] := hl
  obtain ⟨H, hH⟩ : ∃ H, H = s.heap := ⟨_, rfl⟩
  have hP : va_P D vwCl [(a, .inl (cs 0, 288, .inl f)), (b, .inl (cs 0, 288, .inl g))] H := by rw [hH]; exact hP
  have hS : va_S A s.heap H [] := by rw [hH]; exact hS
  obtain ⟨locs, hlocs⟩ : ∃ z : List Loc, z = [] := ⟨_, rfl⟩
  rw [← hlocs] at hS
  suffices hW : W p l e ({ frames := 0, cells := 0, slots := 0, locals := 0 } : Room) s m args below meth c H locs 0 0 (MQ below ((xQv D (fun (_u : Unit) => True) (fun (_u : Unit) => [(a, .inl (cs 0, 288, .inl f)), (b, .inl (cs 0, 288, .inl f))])) A) args s 0 0 A) (F0 m 0 ls []) by rw [hlocs, hH] at hW; exact hW
  refine lv_iconst (v := nI 0) hx hb dX12_puts_0 (by decide) ?_
  refine lv_istore_n (lv' := [(3, .int (nI 0)), (0, .ref hm), (1, .ref a), (2, .ref b)]) hx hb dX12_puts_1 rfl hl (by decide) rfl (fun ls hl => ?_)
  have hP : va_P D vwCl [(a, .inl (cs 0, 288, .inl f)), (b, .inl (cs 0, 288, .inl (cpF f g 0)))] H := by rw [← cpF_0 f g]; exact hP
  have hD : va_D A [(a, .inl (cs 0, 288, .inl f)), (b, .inl (cs 0, 288, .inl (cpF f g 0)))] := by rw [← cpF_0 f g]; exact hD
  have loop_1 : ∀ (n_loop_1 : Nat) (i : Nat), (i ≤ 288) → 288 - i < n_loop_1 → ∀ (H : Heap) (locs : List Loc) (ls : Array Slot), va_P D vwCl [(a, .inl (cs 0, 288, .inl f)), (b, .inl (cs 0, 288, .inl (cpF f g i)))] H → va_D A [(a, .inl (cs 0, 288, .inl f)), (b, .inl (cs 0, 288, .inl (cpF f g i)))] → va_S A s.heap H locs → lv_has ls 4 [(3, .int (nI i)), (0, .ref hm), (1, .ref a), (2, .ref b)] → W p l e ({ frames := 0, cells := 0, slots := 0, locals := 0 } : Room) s m args below meth c H locs 0 0 (MQ below ((xQv D (fun (_u : Unit) => True) (fun (_u : Unit) => [(a, .inl (cs 0, 288, .inl f)), (b, .inl (cs 0, 288, .inl f))])) A) args s 0 0 A) (F0 m 2 ls []) := by
    intro n_loop_1
    induction n_loop_1 with
    | zero => intro i h_i hlt H locs ls hP hD hS hl; exact absurd hlt (Nat.not_lt_zero _)
    | succ n_loop_1 ih_loop_1 =>
      intro i h_i hlt_loop_1 H locs ls hP hD hS hl
      refine lv_iload_n hx hb dX12_puts_2 rfl (lv_at hl 0 rfl) ?_
      refine lv_sipush (v := nI 288) hx hb dX12_puts_3 (by decide) ?_
      refine lv_icmp_ge (tgt := 21) hx hb dX12_puts_6 (by decide) (fun c_2 => ?_) (fun c_2 => ?_)
      · -- 6 t
        have fc_2 : 288 ≤ i := nf_le (by omega) (by omega) c_2
        obtain rfl : 288 = i := by omega
        have hP : va_P D vwCl [(a, .inl (cs 0, 288, .inl f)), (b, .inl (cs 0, 288, .inl (cpF f g 288)))] H := hP
        have hD : va_D A [(a, .inl (cs 0, 288, .inl f)), (b, .inl (cs 0, 288, .inl (cpF f g 288)))] := hD
        obtain ⟨hP, hD⟩ := xcongi (q0 := 1) (f) hP hD rfl (fun j hj => by unfold cpF; rw [if_pos (by omega)])
        have hP : va_P D vwCl [(a, .inl (cs 0, 288, .inl f)), (b, .inl (cs 0, 288, .inl f))] H := hP
        have hD : va_D A [(a, .inl (cs 0, 288, .inl f)), (b, .inl (cs 0, 288, .inl f))] := hD
        exact xretv C () trivial hP hD hS (Nat.le_of_ble_eq_true rfl) (Nat.le_of_ble_eq_true rfl) dX12_puts_21
      · -- 6 f
        have fc_2 : i < 288 := nf_nle (by omega) (by omega) c_2
        refine lv_aload_n hx hb dX12_puts_9 rfl (lv_at hl 3 rfl) ?_
        refine lv_iload_n hx hb dX12_puts_10 rfl (lv_at hl 0 rfl) ?_
        refine lv_aload_n hx hb dX12_puts_11 rfl (lv_at hl 2 rfl) ?_
        refine lv_iload_n hx hb dX12_puts_12 rfl (lv_at hl 0 rfl) ?_
        refine xiald C hP 0 rfl i rfl (by omega) (by decide) dX12_puts_13 ?_
        refine xiast C hP hD hS 1 rfl i rfl (by omega) (by decide) dX12_puts_14 (fun H locs hP hD hS => ?_)
        have hP : va_P D vwCl [(a, .inl (cs 0, 288, .inl f)), (b, .inl (cs 0, 288, .inl (upd (cpF f g i) i (f i))))] H := hP
        have hD : va_D A [(a, .inl (cs 0, 288, .inl f)), (b, .inl (cs 0, 288, .inl (upd (cpF f g i) i (f i))))] := hD
        refine lv_iinc (v := nI (i + 1)) (lv' := [(3, .int (nI (i + 1))), (0, .ref hm), (1, .ref a), (2, .ref b)]) hx hb dX12_puts_15 hl (k := 0) rfl (nI_add i 1) (by decide) rfl (fun ls hl => ?_)
        refine lv_goto (tgt := 2) hx hb dX12_puts_18 (by decide) ?_
        have hP : va_P D vwCl [(a, .inl (cs 0, 288, .inl f)), (b, .inl (cs 0, 288, .inl (cpF f g (i + 1))))] H := by rw [← cpF_s f g i]; exact hP
        have hD : va_D A [(a, .inl (cs 0, 288, .inl f)), (b, .inl (cs 0, 288, .inl (cpF f g (i + 1))))] := by rw [← cpF_s f g i]; exact hD
        exact ih_loop_1 (i + 1) (by omega) (by omega) H locs ls hP hD hS (lv_sub hl [0, 1, 2, 3] rfl)
  exact loop_1 _ 0 (by omega) (Nat.lt_succ_self _) H locs ls hP hD hS (lv_sub hl [0, 1, 2, 3] rfl)

set_option maxHeartbeats 4000000 in
set_option maxRecDepth 100000 in
theorem c_X12_choose (l : Launch) (D : va_G) (cs : Nat → ClassId) (u0 : Nat) : xMet l D cs yX12_choose cX12_choose 5 (some .long) ({ frames := 0, cells := 0, slots := 0, locals := 0 } : Room) [.int (nI 3), .int (nI 2)] [] (xQl D (fun (r : Int64) (_u : Unit) => r = lN 3) (fun (_u : Unit) => [])) := by
  refine xMet.intro (by decide) (Nat.le_of_ble_eq_true rfl) ?_
  intro p e s m args below meth c A ls C hP hD hS hl
  have hx := C.1
  have hb := C.2.1
  have hz := C.2.2.2.2.1
  have hown := C.2.2.2.1
  have hA := C.2.2.2.2.2.2.2.2.2
  have hAO := C.2.2.2.2.2.2.2.2.1.2.2
  have hl : lv_has ls 5 [(0, .int (nI 3)), (1, .int (nI 2))] := hl
  obtain ⟨H, hH⟩ : ∃ H, H = s.heap := ⟨_, rfl⟩
  have hP : va_P D vwCl [] H := by rw [hH]; exact hP
  have hS : va_S A s.heap H [] := by rw [hH]; exact hS
  obtain ⟨locs, hlocs⟩ : ∃ z : List Loc, z = [] := ⟨_, rfl⟩
  rw [← hlocs] at hS
  suffices hW : W p l e ({ frames := 0, cells := 0, slots := 0, locals := 0 } : Room) s m args below meth c H locs 0 0 (MQ below ((xQl D (fun (r : Int64) (_u : Unit) => r = lN 3) (fun (_u : Unit) => [])) A) args s 0 0 A) (F0 m 0 ls []) by rw [hlocs, hH] at hW; exact hW
  refine lv_lconst (v := 1) hx hb dX12_choose_0 (by decide) ?_
  refine lv_lstore_n (lv' := [(2, .long 1), (0, .int (nI 3)), (1, .int (nI 2))]) hx hb dX12_choose_1 rfl hl (by decide) rfl (fun ls hl => ?_)
  refine lv_iconst (v := nI 0) hx hb dX12_choose_2 (by decide) ?_
  refine lv_istore (lv' := [(4, .int (nI 0)), (2, .long 1), (0, .int (nI 3)), (1, .int (nI 2))]) hx hb dX12_choose_3 hl (by decide) rfl (fun ls hl => ?_)
  refine lv_iload hx hb dX12_choose_5 (lv_at hl 0 rfl) ?_
  refine lv_iload_n hx hb dX12_choose_7 rfl (lv_at hl 3 rfl) ?_
  refine lv_icmp_ge (tgt := 31) hx hb dX12_choose_8 (by decide) (fun c => absurd c (by decide)) (fun _ => ?_)
  refine lv_lload_n hx hb dX12_choose_11 rfl (lv_at hl 1 rfl) ?_
  refine lv_iload_n hx hb dX12_choose_12 rfl (lv_at hl 2 rfl) ?_
  refine lv_iload hx hb dX12_choose_13 (lv_at hl 0 rfl) ?_
  refine lv_isub hx hb dX12_choose_15 ?_
  refine lv_topi (nm_r (e' := nI 3) (by decide) ?_)
  refine lv_i2l hx hb dX12_choose_16 rfl ?_
  refine lv_lmul hx hb dX12_choose_17 ?_
  refine lv_iload hx hb dX12_choose_18 (lv_at hl 0 rfl) ?_
  refine lv_iconst (v := nI 1) hx hb dX12_choose_20 (by decide) ?_
  refine lv_iadd hx hb dX12_choose_21 ?_
  refine lv_topi (nm_r (e' := nI 1) (by decide) ?_)
  refine lv_i2l hx hb dX12_choose_22 rfl ?_
  refine lv_ldiv hx hb dX12_choose_23 (by decide) ?_
  refine lv_lstore_n (lv' := [(2, .long ((1 * ((nI 3).toInt64)) / ((nI 1).toInt64))), (4, .int (nI 0)), (0, .int (nI 3)), (1, .int (nI 2))]) hx hb dX12_choose_24 rfl hl (by decide) rfl (fun ls hl => ?_)
  refine lv_iinc (v := nI 1) (lv' := [(4, .int (nI 1)), (2, .long ((1 * ((nI 3).toInt64)) / ((nI 1).toInt64))), (0, .int (nI 3)), (1, .int (nI 2))]) hx hb dX12_choose_25 hl (k := 1) rfl (by decide) (by decide) rfl (fun ls hl => ?_)
  refine lv_goto (tgt := 5) hx hb dX12_choose_28 (by decide) ?_
  refine lv_iload hx hb dX12_choose_5 (lv_at hl 0 rfl) ?_
  refine lv_iload_n hx hb dX12_choose_7 rfl (lv_at hl 3 rfl) ?_
  refine lv_icmp_ge (tgt := 31) hx hb dX12_choose_8 (by decide) (fun c => absurd c (by decide)) (fun _ => ?_)
  refine lv_lload_n hx hb dX12_choose_11 rfl (lv_at hl 1 rfl) ?_
  refine lv_iload_n hx hb dX12_choose_12 rfl (lv_at hl 2 rfl) ?_
  refine lv_iload hx hb dX12_choose_13 (lv_at hl 0 rfl) ?_
  refine lv_isub hx hb dX12_choose_15 ?_
  refine lv_topi (nm_r (e' := nI 2) (by decide) ?_)
  refine lv_i2l hx hb dX12_choose_16 rfl ?_
  refine lv_lmul hx hb dX12_choose_17 ?_
  refine lv_iload hx hb dX12_choose_18 (lv_at hl 0 rfl) ?_
  refine lv_iconst (v := nI 1) hx hb dX12_choose_20 (by decide) ?_
  refine lv_iadd hx hb dX12_choose_21 ?_
  refine lv_topi (nm_r (e' := nI 2) (by decide) ?_)
  refine lv_i2l hx hb dX12_choose_22 rfl ?_
  refine lv_ldiv hx hb dX12_choose_23 (by decide) ?_
  refine lv_lstore_n (lv' := [(2, .long ((((1 * ((nI 3).toInt64)) / ((nI 1).toInt64)) * ((nI 2).toInt64)) / ((nI 2).toInt64))), (4, .int (nI 1)), (0, .int (nI 3)), (1, .int (nI 2))]) hx hb dX12_choose_24 rfl hl (by decide) rfl (fun ls hl => ?_)
  refine lv_iinc (v := nI 2) (lv' := [(4, .int (nI 2)), (2, .long ((((1 * ((nI 3).toInt64)) / ((nI 1).toInt64)) * ((nI 2).toInt64)) / ((nI 2).toInt64))), (0, .int (nI 3)), (1, .int (nI 2))]) hx hb dX12_choose_25 hl (k := 1) rfl (by decide) (by decide) rfl (fun ls hl => ?_)
  refine lv_goto (tgt := 5) hx hb dX12_choose_28 (by decide) ?_
  refine lv_iload hx hb dX12_choose_5 (lv_at hl 0 rfl) ?_
  refine lv_iload_n hx hb dX12_choose_7 rfl (lv_at hl 3 rfl) ?_
  refine lv_icmp_ge (tgt := 31) hx hb dX12_choose_8 (by decide) (fun _ => ?_) (fun c => absurd (by decide) c)
  refine lv_iload_n hx hb dX12_choose_31 rfl (lv_at hl 3 rfl) ?_
  refine lv_if_lt (tgt := 40) hx hb dX12_choose_32 (by decide) (fun c => absurd c (by decide)) (fun _ => ?_)
  refine lv_iload_n hx hb dX12_choose_35 rfl (lv_at hl 3 rfl) ?_
  refine lv_iload_n hx hb dX12_choose_36 rfl (lv_at hl 2 rfl) ?_
  refine lv_icmp_le (tgt := 44) hx hb dX12_choose_37 (by decide) (fun _ => ?_) (fun c => absurd (by decide) c)
  refine lv_lload_n hx hb dX12_choose_44 rfl (lv_at hl 1 rfl) ?_
  exact xretl C () (by decide) hP hD hS (Nat.le_of_ble_eq_true rfl) (Nat.le_of_ble_eq_true rfl) dX12_choose_45

set_option maxHeartbeats 4000000 in
set_option maxRecDepth 100000 in
theorem c_X12_samples_z (l : Launch) (D : va_G) (cs : Nat → ClassId) (hm ms mkp mtr mas mso mon mot man mst msm mtb mti mfr mbn mbs mde maa mab mba mbb : Nat) : xMet l D cs yX12_samples cX12_samples 1 (some .long) ({ frames := 1, cells := 0, slots := 0, locals := 24 } : Room) [.ref hm] [(hm, .inr (12, [.ref ms, .ref mkp, .int (nI 0), .ref mtr, .int (nI 4), .int (nI 2), .int (nI 2), .int (nI 3), .int (nI 2), .int (nI 1), .ref mas, .int (nI 0), .int (nI 0), .int (nI 0), .ref mso, .ref mon, .ref mot, .ref man, .int (nI 0), .int (nI 0), .ref mst, .ref msm, .ref mtb, .ref mti, .ref mfr, .ref mbn, .ref mbs, .ref mde, .int (nI 0), .int (nI 0), .int (nI 0), .int (nI 0), .long 0, .long 0, .ref maa, .ref mab, .ref mba, .ref mbb]))] (xQl D (fun (r : Int64) (_u : Unit) => r = lN 3) (fun (_u : Unit) => [(hm, .inr (12, [.ref ms, .ref mkp, .int (nI 0), .ref mtr, .int (nI 4), .int (nI 2), .int (nI 2), .int (nI 3), .int (nI 2), .int (nI 1), .ref mas, .int (nI 0), .int (nI 0), .int (nI 0), .ref mso, .ref mon, .ref mot, .ref man, .int (nI 0), .int (nI 0), .ref mst, .ref msm, .ref mtb, .ref mti, .ref mfr, .ref mbn, .ref mbs, .ref mde, .int (nI 0), .int (nI 0), .int (nI 0), .int (nI 0), .long 0, .long 0, .ref maa, .ref mab, .ref mba, .ref mbb]))])) := by
  refine xMet.intro (by decide) (Nat.le_of_ble_eq_true rfl) ?_
  intro p e s m args below meth c A ls C hP hD hS hl
  have hx := C.1
  have hb := C.2.1
  have hz := C.2.2.2.2.1
  have hown := C.2.2.2.1
  have hA := C.2.2.2.2.2.2.2.2.2
  have hAO := C.2.2.2.2.2.2.2.2.1.2.2
  have hl : lv_has ls 1 [(0, .ref hm)] := hl
  obtain ⟨H, hH⟩ : ∃ H, H = s.heap := ⟨_, rfl⟩
  have hP : va_P D vwCl [(hm, .inr (12, [.ref ms, .ref mkp, .int (nI 0), .ref mtr, .int (nI 4), .int (nI 2), .int (nI 2), .int (nI 3), .int (nI 2), .int (nI 1), .ref mas, .int (nI 0), .int (nI 0), .int (nI 0), .ref mso, .ref mon, .ref mot, .ref man, .int (nI 0), .int (nI 0), .ref mst, .ref msm, .ref mtb, .ref mti, .ref mfr, .ref mbn, .ref mbs, .ref mde, .int (nI 0), .int (nI 0), .int (nI 0), .int (nI 0), .long 0, .long 0, .ref maa, .ref mab, .ref mba, .ref mbb]))] H := by rw [hH]; exact hP
  have hS : va_S A s.heap H [] := by rw [hH]; exact hS
  obtain ⟨locs, hlocs⟩ : ∃ z : List Loc, z = [] := ⟨_, rfl⟩
  rw [← hlocs] at hS
  suffices hW : W p l e ({ frames := 1, cells := 0, slots := 0, locals := 24 } : Room) s m args below meth c H locs 0 0 (MQ below ((xQl D (fun (r : Int64) (_u : Unit) => r = lN 3) (fun (_u : Unit) => [(hm, .inr (12, [.ref ms, .ref mkp, .int (nI 0), .ref mtr, .int (nI 4), .int (nI 2), .int (nI 2), .int (nI 3), .int (nI 2), .int (nI 1), .ref mas, .int (nI 0), .int (nI 0), .int (nI 0), .ref mso, .ref mon, .ref mot, .ref man, .int (nI 0), .int (nI 0), .ref mst, .ref msm, .ref mtb, .ref mti, .ref mfr, .ref mbn, .ref mbs, .ref mde, .int (nI 0), .int (nI 0), .int (nI 0), .int (nI 0), .long 0, .long 0, .ref maa, .ref mab, .ref mba, .ref mbb]))])) A) args s 0 0 A) (F0 m 0 ls []) by rw [hlocs, hH] at hW; exact hW
  refine lv_aload_n hx hb dX12_samples_0 rfl (lv_at hl 0 rfl) ?_
  refine xget C hP 0 rfl rfl zuX12 4 (by decide) zw5_217 rfl dX12_samples_1 ?_
  refine lv_iconst (v := nI 1) hx hb dX12_samples_4 (by decide) ?_
  refine lv_isub hx hb dX12_samples_5 ?_
  refine lv_topi (nm_r (e' := nI 3) (by decide) ?_)
  refine lv_aload_n hx hb dX12_samples_6 rfl (lv_at hl 0 rfl) ?_
  refine xget C hP 0 rfl rfl zuX12 5 (by decide) zw5_218 rfl dX12_samples_7 ?_
  refine xl (wr := [(hm, .inr (12, [.ref ms, .ref mkp, .int (nI 0), .ref mtr, .int (nI 4), .int (nI 2), .int (nI 2), .int (nI 3), .int (nI 2), .int (nI 1), .ref mas, .int (nI 0), .int (nI 0), .int (nI 0), .ref mso, .ref mon, .ref mot, .ref man, .int (nI 0), .int (nI 0), .ref mst, .ref msm, .ref mtb, .ref mti, .ref mfr, .ref mbn, .ref mbs, .ref mde, .int (nI 0), .int (nI 0), .int (nI 0), .int (nI 0), .long 0, .long 0, .ref maa, .ref mab, .ref mba, .ref mbb]))]) (xS (As := [.int (nI 3), .int (nI 2)]) (rest := []) C (c_X12_choose l D cs 0) kX12_176 hP hD [] rfl (by decide +kernel) ⟨Nat.le_of_ble_eq_true rfl, Nat.le_of_ble_eq_true rfl⟩ rfl hl.1 rfl (Nat.le_of_ble_eq_true rfl) dX12_samples_10 ⟨Nat.le_of_ble_eq_true rfl, Nat.le_of_ble_eq_true rfl⟩) hP hD hS hA [] [0] rfl rfl (by decide +kernel) (by decide +kernel) (fun r_1 u_2 H locs hw_r_1 hP hD hS => ?_)
  have hw_r_1 : r_1 = lN 3 := hw_r_1
  refine W.widen (k := 0) (n := 0) (Nat.le_of_ble_eq_true rfl) (Nat.le_of_ble_eq_true rfl) ?_
  have hP : va_P D vwCl [(hm, .inr (12, [.ref ms, .ref mkp, .int (nI 0), .ref mtr, .int (nI 4), .int (nI 2), .int (nI 2), .int (nI 3), .int (nI 2), .int (nI 1), .ref mas, .int (nI 0), .int (nI 0), .int (nI 0), .ref mso, .ref mon, .ref mot, .ref man, .int (nI 0), .int (nI 0), .ref mst, .ref msm, .ref mtb, .ref mti, .ref mfr, .ref mbn, .ref mbs, .ref mde, .int (nI 0), .int (nI 0), .int (nI 0), .int (nI 0), .long 0, .long 0, .ref maa, .ref mab, .ref mba, .ref mbb]))] H := hP
  have hD : va_D A [(hm, .inr (12, [.ref ms, .ref mkp, .int (nI 0), .ref mtr, .int (nI 4), .int (nI 2), .int (nI 2), .int (nI 3), .int (nI 2), .int (nI 1), .ref mas, .int (nI 0), .int (nI 0), .int (nI 0), .ref mso, .ref mon, .ref mot, .ref man, .int (nI 0), .int (nI 0), .ref mst, .ref msm, .ref mtb, .ref mti, .ref mfr, .ref mbn, .ref mbs, .ref mde, .int (nI 0), .int (nI 0), .int (nI 0), .int (nI 0), .long 0, .long 0, .ref maa, .ref mab, .ref mba, .ref mbb]))] := hD
  subst hw_r_1
  exact xretl C () rfl hP hD hS (Nat.le_of_ble_eq_true rfl) (Nat.le_of_ble_eq_true rfl) dX12_samples_13

set_option maxHeartbeats 4000000 in
set_option maxRecDepth 100000 in
theorem c_X12_waysOf_z (l : Launch) (D : va_G) (cs : Nat → ClassId) (hm ms mkp mtr mas mso mon mot man mst msm mtb mti mfr mbn mbs mde maa mab mba mbb : Nat) (t : Nat) (ht : t ≤ 12) : xMet l D cs yX12_waysOf cX12_waysOf 7 (some .long) ({ frames := 2, cells := 0, slots := 0, locals := 44 } : Room) [.ref hm, .int (nI t)] [(hm, .inr (12, [.ref ms, .ref mkp, .int (nI 0), .ref mtr, .int (nI 4), .int (nI 2), .int (nI 2), .int (nI 3), .int (nI 2), .int (nI 1), .ref mas, .int (nI 0), .int (nI 0), .int (nI 0), .ref mso, .ref mon, .ref mot, .ref man, .int (nI 0), .int (nI 0), .ref mst, .ref msm, .ref mtb, .ref mti, .ref mfr, .ref mbn, .ref mbs, .ref mde, .int (nI 0), .int (nI 0), .int (nI 0), .int (nI 0), .long 0, .long 0, .ref maa, .ref mab, .ref mba, .ref mbb]))] (xQl D (fun (r : Int64) (_u : Unit) => r = lN (12 ^ t)) (fun (_u : Unit) => [(hm, .inr (12, [.ref ms, .ref mkp, .int (nI 0), .ref mtr, .int (nI 4), .int (nI 2), .int (nI 2), .int (nI 3), .int (nI 2), .int (nI 1), .ref mas, .int (nI 0), .int (nI 0), .int (nI 0), .ref mso, .ref mon, .ref mot, .ref man, .int (nI 0), .int (nI 0), .ref mst, .ref msm, .ref mtb, .ref mti, .ref mfr, .ref mbn, .ref mbs, .ref mde, .int (nI 0), .int (nI 0), .int (nI 0), .int (nI 0), .long 0, .long 0, .ref maa, .ref mab, .ref mba, .ref mbb]))])) := by
  refine xMet.intro (by decide) (Nat.le_of_ble_eq_true rfl) ?_
  intro p e s m args below meth c A ls C hP hD hS hl
  have hx := C.1
  have hb := C.2.1
  have hz := C.2.2.2.2.1
  have hown := C.2.2.2.1
  have hA := C.2.2.2.2.2.2.2.2.2
  have hAO := C.2.2.2.2.2.2.2.2.1.2.2
  have hl : lv_has ls 7 [(0, .ref hm), (1, .int (nI t))] := hl
  obtain ⟨H, hH⟩ : ∃ H, H = s.heap := ⟨_, rfl⟩
  have hP : va_P D vwCl [(hm, .inr (12, [.ref ms, .ref mkp, .int (nI 0), .ref mtr, .int (nI 4), .int (nI 2), .int (nI 2), .int (nI 3), .int (nI 2), .int (nI 1), .ref mas, .int (nI 0), .int (nI 0), .int (nI 0), .ref mso, .ref mon, .ref mot, .ref man, .int (nI 0), .int (nI 0), .ref mst, .ref msm, .ref mtb, .ref mti, .ref mfr, .ref mbn, .ref mbs, .ref mde, .int (nI 0), .int (nI 0), .int (nI 0), .int (nI 0), .long 0, .long 0, .ref maa, .ref mab, .ref mba, .ref mbb]))] H := by rw [hH]; exact hP
  have hS : va_S A s.heap H [] := by rw [hH]; exact hS
  obtain ⟨locs, hlocs⟩ : ∃ z : List Loc, z = [] := ⟨_, rfl⟩
  rw [← hlocs] at hS
  suffices hW : W p l e ({ frames := 2, cells := 0, slots := 0, locals := 44 } : Room) s m args below meth c H locs 0 0 (MQ below ((xQl D (fun (r : Int64) (_u : Unit) => r = lN (12 ^ t)) (fun (_u : Unit) => [(hm, .inr (12, [.ref ms, .ref mkp, .int (nI 0), .ref mtr, .int (nI 4), .int (nI 2), .int (nI 2), .int (nI 3), .int (nI 2), .int (nI 1), .ref mas, .int (nI 0), .int (nI 0), .int (nI 0), .ref mso, .ref mon, .ref mot, .ref man, .int (nI 0), .int (nI 0), .ref mst, .ref msm, .ref mtb, .ref mti, .ref mfr, .ref mbn, .ref mbs, .ref mde, .int (nI 0), .int (nI 0), .int (nI 0), .int (nI 0), .long 0, .long 0, .ref maa, .ref mab, .ref mba, .ref mbb]))])) A) args s 0 0 A) (F0 m 0 ls []) by rw [hlocs, hH] at hW; exact hW
  refine lv_aload_n hx hb dX12_waysOf_0 rfl (lv_at hl 0 rfl) ?_
  refine xget C hP 0 rfl rfl zuX12 4 (by decide) zw5_217 rfl dX12_waysOf_1 ?_
  refine lv_i2l hx hb dX12_waysOf_4 rfl ?_
  refine lv_aload_n hx hb dX12_waysOf_5 rfl (lv_at hl 0 rfl) ?_
  refine xl (wr := []) (xV (As := []) (rest := [.long ((nI 4).toInt64)]) C (c_X12_samples_z l D cs hm ms mkp mtr mas mso mon mot man mst msm mtb mti mfr mbn mbs mde maa mab mba mbb) kX12_180 hP hD [0] rfl (by decide +kernel) 0 rfl rfl rfl ⟨Nat.le_of_ble_eq_true rfl, Nat.le_of_ble_eq_true rfl⟩ rfl hl.1 rfl (Nat.le_of_ble_eq_true rfl) dX12_waysOf_6 ⟨Nat.le_of_ble_eq_true rfl, Nat.le_of_ble_eq_true rfl⟩) hP hD hS hA [0] [] rfl rfl (by decide +kernel) (by decide +kernel) (fun r_1 u_2 H locs hw_r_1 hP hD hS => ?_)
  have hw_r_1 : r_1 = lN 3 := hw_r_1
  refine W.widen (k := 0) (n := 0) (Nat.le_of_ble_eq_true rfl) (Nat.le_of_ble_eq_true rfl) ?_
  have hP : va_P D vwCl [(hm, .inr (12, [.ref ms, .ref mkp, .int (nI 0), .ref mtr, .int (nI 4), .int (nI 2), .int (nI 2), .int (nI 3), .int (nI 2), .int (nI 1), .ref mas, .int (nI 0), .int (nI 0), .int (nI 0), .ref mso, .ref mon, .ref mot, .ref man, .int (nI 0), .int (nI 0), .ref mst, .ref msm, .ref mtb, .ref mti, .ref mfr, .ref mbn, .ref mbs, .ref mde, .int (nI 0), .int (nI 0), .int (nI 0), .int (nI 0), .long 0, .long 0, .ref maa, .ref mab, .ref mba, .ref mbb]))] H := hP
  have hD : va_D A [(hm, .inr (12, [.ref ms, .ref mkp, .int (nI 0), .ref mtr, .int (nI 4), .int (nI 2), .int (nI 2), .int (nI 3), .int (nI 2), .int (nI 1), .ref mas, .int (nI 0), .int (nI 0), .int (nI 0), .ref mso, .ref mon, .ref mot, .ref man, .int (nI 0), .int (nI 0), .ref mst, .ref msm, .ref mtb, .ref mti, .ref mfr, .ref mbn, .ref mbs, .ref mde, .int (nI 0), .int (nI 0), .int (nI 0), .int (nI 0), .long 0, .long 0, .ref maa, .ref mab, .ref mba, .ref mbb]))] := hD
  subst hw_r_1
  refine lv_lmul hx hb dX12_waysOf_9 ?_
  refine lv_topl (nm_r (e' := lN 12) (by decide) ?_)
  refine lv_lstore_n (lv' := [(2, .long (lN 12)), (0, .ref hm), (1, .int (nI t))]) hx hb dX12_waysOf_10 rfl hl (by decide) rfl (fun ls hl => ?_)
  refine lv_lconst (v := 1) hx hb dX12_waysOf_11 (by decide) ?_
  refine lv_lstore (lv' := [(4, .long 1), (2, .long (lN 12)), (0, .ref hm), (1, .int (nI t))]) hx hb dX12_waysOf_12 hl (by decide) rfl (fun ls hl => ?_)
  refine lv_iconst (v := nI 0) hx hb dX12_waysOf_14 (by decide) ?_
  refine lv_istore (lv' := [(6, .int (nI 0)), (4, .long 1), (2, .long (lN 12)), (0, .ref hm), (1, .int (nI t))]) hx hb dX12_waysOf_15 hl (by decide) rfl (fun ls hl => ?_)
  have loop_3 : ∀ (n_loop_3 : Nat) (i : Nat), (i ≤ t) → t - i < n_loop_3 → ∀ (H : Heap) (locs : List Loc) (ls : Array Slot), va_P D vwCl [(hm, .inr (12, [.ref ms, .ref mkp, .int (nI 0), .ref mtr, .int (nI 4), .int (nI 2), .int (nI 2), .int (nI 3), .int (nI 2), .int (nI 1), .ref mas, .int (nI 0), .int (nI 0), .int (nI 0), .ref mso, .ref mon, .ref mot, .ref man, .int (nI 0), .int (nI 0), .ref mst, .ref msm, .ref mtb, .ref mti, .ref mfr, .ref mbn, .ref mbs, .ref mde, .int (nI 0), .int (nI 0), .int (nI 0), .int (nI 0), .long 0, .long 0, .ref maa, .ref mab, .ref mba, .ref mbb]))] H → va_D A [(hm, .inr (12, [.ref ms, .ref mkp, .int (nI 0), .ref mtr, .int (nI 4), .int (nI 2), .int (nI 2), .int (nI 3), .int (nI 2), .int (nI 1), .ref mas, .int (nI 0), .int (nI 0), .int (nI 0), .ref mso, .ref mon, .ref mot, .ref man, .int (nI 0), .int (nI 0), .ref mst, .ref msm, .ref mtb, .ref mti, .ref mfr, .ref mbn, .ref mbs, .ref mde, .int (nI 0), .int (nI 0), .int (nI 0), .int (nI 0), .long 0, .long 0, .ref maa, .ref mab, .ref mba, .ref mbb]))] → va_S A s.heap H locs → lv_has ls 7 [(6, .int (nI i)), (4, .long (lN (12 ^ i))), (2, .long (lN 12)), (0, .ref hm), (1, .int (nI t))] → W p l e ({ frames := 2, cells := 0, slots := 0, locals := 44 } : Room) s m args below meth c H locs 0 0 (MQ below ((xQl D (fun (r : Int64) (_u : Unit) => r = lN (12 ^ t)) (fun (_u : Unit) => [(hm, .inr (12, [.ref ms, .ref mkp, .int (nI 0), .ref mtr, .int (nI 4), .int (nI 2), .int (nI 2), .int (nI 3), .int (nI 2), .int (nI 1), .ref mas, .int (nI 0), .int (nI 0), .int (nI 0), .ref mso, .ref mon, .ref mot, .ref man, .int (nI 0), .int (nI 0), .ref mst, .ref msm, .ref mtb, .ref mti, .ref mfr, .ref mbn, .ref mbs, .ref mde, .int (nI 0), .int (nI 0), .int (nI 0), .int (nI 0), .long 0, .long 0, .ref maa, .ref mab, .ref mba, .ref mbb]))])) A) args s 0 0 A) (F0 m 17 ls []) := by
    intro n_loop_3
    induction n_loop_3 with
    | zero => intro i h_i hlt H locs ls hP hD hS hl; exact absurd hlt (Nat.not_lt_zero _)
    | succ n_loop_3 ih_loop_3 =>
      intro i h_i hlt_loop_3 H locs ls hP hD hS hl
      refine lv_iload hx hb dX12_waysOf_17 (lv_at hl 0 rfl) ?_
      refine lv_iload_n hx hb dX12_waysOf_19 rfl (lv_at hl 4 rfl) ?_
      refine lv_icmp_ge (tgt := 50) hx hb dX12_waysOf_20 (by decide) (fun c_4 => ?_) (fun c_4 => ?_)
      · -- 20 t
        have fc_4 : t ≤ i := nf_le (by omega) (by omega) c_4
        obtain rfl : t = i := by omega
        have hP : va_P D vwCl [(hm, .inr (12, [.ref ms, .ref mkp, .int (nI 0), .ref mtr, .int (nI 4), .int (nI 2), .int (nI 2), .int (nI 3), .int (nI 2), .int (nI 1), .ref mas, .int (nI 0), .int (nI 0), .int (nI 0), .ref mso, .ref mon, .ref mot, .ref man, .int (nI 0), .int (nI 0), .ref mst, .ref msm, .ref mtb, .ref mti, .ref mfr, .ref mbn, .ref mbs, .ref mde, .int (nI 0), .int (nI 0), .int (nI 0), .int (nI 0), .long 0, .long 0, .ref maa, .ref mab, .ref mba, .ref mbb]))] H := hP
        have hD : va_D A [(hm, .inr (12, [.ref ms, .ref mkp, .int (nI 0), .ref mtr, .int (nI 4), .int (nI 2), .int (nI 2), .int (nI 3), .int (nI 2), .int (nI 1), .ref mas, .int (nI 0), .int (nI 0), .int (nI 0), .ref mso, .ref mon, .ref mot, .ref man, .int (nI 0), .int (nI 0), .ref mst, .ref msm, .ref mtb, .ref mti, .ref mfr, .ref mbn, .ref mbs, .ref mde, .int (nI 0), .int (nI 0), .int (nI 0), .int (nI 0), .long 0, .long 0, .ref maa, .ref mab, .ref mba, .ref mbb]))] := hD
        refine lv_lload hx hb dX12_waysOf_50 (lv_at hl 1 rfl) ?_
        exact xretl C () rfl hP hD hS (Nat.le_of_ble_eq_true rfl) (Nat.le_of_ble_eq_true rfl) dX12_waysOf_52
      · -- 20 f
        have fc_4 : i < t := nf_nle (by omega) (by omega) c_4
        refine lv_lload hx hb dX12_waysOf_23 (lv_at hl 1 rfl) ?_
        refine lv_ldc2 (v := 9223372036854775807) hx hb hown (hz _ zw6_205) dX12_waysOf_25 ?_
        refine lv_lload_n hx hb dX12_waysOf_28 rfl (lv_at hl 2 rfl) ?_
        refine lv_ldiv hx hb dX12_waysOf_29 (by decide) ?_
        refine W.lcmp hx hb dX12_waysOf_30 ?_
        refine lv_if_le (tgt := 38) hx hb dX12_waysOf_31 (by decide) (fun _ => ?_) (fun c => absurd (mways_cmp i (by omega)) c)
        refine lv_lload hx hb dX12_waysOf_38 (lv_at hl 1 rfl) ?_
        refine lv_lload_n hx hb dX12_waysOf_40 rfl (lv_at hl 2 rfl) ?_
        refine lv_lmul hx hb dX12_waysOf_41 ?_
        refine lv_topl (nm_r (e' := lN (12 ^ (i + 1))) (mways_mul i (by omega)) ?_)
        refine lv_lstore (lv' := [(4, .long (lN (12 ^ (i + 1)))), (6, .int (nI i)), (2, .long (lN 12)), (0, .ref hm), (1, .int (nI t))]) hx hb dX12_waysOf_42 hl (by decide) rfl (fun ls hl => ?_)
        refine lv_iinc (v := nI (i + 1)) (lv' := [(6, .int (nI (i + 1))), (4, .long (lN (12 ^ (i + 1)))), (2, .long (lN 12)), (0, .ref hm), (1, .int (nI t))]) hx hb dX12_waysOf_44 hl (k := 1) rfl (nI_add i 1) (by decide) rfl (fun ls hl => ?_)
        refine lv_goto (tgt := 17) hx hb dX12_waysOf_47 (by decide) ?_
        exact ih_loop_3 (i + 1) (by omega) (by omega) H locs ls hP hD hS (lv_sub hl [0, 1, 2, 3, 4] rfl)
  exact loop_3 _ 0 (by omega) (Nat.lt_succ_self _) H locs ls hP hD hS (lv_sub hl [0, 1, 2, 3, 4] rfl)
