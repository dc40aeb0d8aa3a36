theorem cpF_lt {f g : Nat → Int32} {n j : Nat} (h : j < n) : cpF f g n j = f j := if_pos h
def smF2 (a b : Int32) (j : Nat) : Int32 := if j = 0 then a else b
theorem smF2_0 (a b v : Int32) (j : Nat) : smF2 v b j = upd (smF2 a b) 0 v j := by
  unfold upd smF2
  by_cases h : j = 0
  · rw [if_pos h, if_pos h]
  · rw [if_neg h, if_neg h, if_neg h]
theorem smF2_1 (a b v : Int32) (j : Nat) (hj : j < 2) : smF2 a v j = upd (smF2 a b) 1 v j := by
  unfold upd smF2
  by_cases h : j = 0
  · rw [if_pos h, if_neg (by omega), if_pos h]
  · rw [if_neg h, if_pos (by omega)]
theorem upL_1 (u : Nat → Int64) (a b : Int64) (j : Nat) : vp_updL u 0 b j = vp_updL (vp_updL u 0 a) 0 b j := by
  unfold vp_updL
  by_cases h : j = 0
  · rw [if_pos h, if_pos h]
  · rw [if_neg h, if_neg h, if_neg h]
theorem upL_0 (u : Nat → Int64) (a : Int64) : vp_updL u 0 a 0 = a := if_pos rfl
theorem lN_a (w c : Nat) : lN (w * c) + lN w = lN (w * (c + 1)) := by rw [lN_add, Nat.mul_add, Nat.mul_one]
theorem lN_a0 (w : Nat) : (0 : Int64) + lN w = lN (w * 1) := by rw [Nat.mul_one, Int64.zero_add]

set_option maxHeartbeats 4000000 in
set_option maxRecDepth 100000 in
theorem c_X12_spreads_0 (l : Launch) (D : va_G) (cs : Nat → ClassId) (hm ms mkp mtr mas mso mon mot man mst msm mtb mti mfr mbn mbs mde maa mab mba mbb : Nat) (st0 st1 tb1 ti0 ti1 : Nat) (fst ftb fti : Nat → Option Nat) (a0 b0 : Int32) (q0 q1 : Nat → Int32) (u0 u1 : Nat → Int64) (ww : Nat) (hf0 : fst 0 = some st0) (hf1 : fst 1 = some st1) (hg : ftb 1 = some tb1) (ht0 : fti 0 = some ti0) (ht1 : fti 1 = some ti1) (hq : ∀ j, j < 48 → q0 j = freshS j) (hw : u0 0 = lN ww) : xMet l D cs yX12_spreads cX12_spreads 6 (some .boolean) ({ frames := 3, cells := 0, slots := 0, locals := 65 } : Room) [.ref hm, .int (nI 0), .int (nI 0)] [(hm, .inr (12, [.ref ms, .ref mkp, .int (nI 0), .ref mtr, .int (nI 4), .int (nI 2), .int (nI 2), .int (nI 3), .int (nI 2), .int (nI 1), .ref mas, .int (nI 0), .int (nI 0), .int (nI 0), .ref mso, .ref mon, .ref mot, .ref man, .int (nI 0), .int (nI 0), .ref mst, .ref msm, .ref mtb, .ref mti, .ref mfr, .ref mbn, .ref mbs, .ref mde, .int (nI 0), .int (nI 0), .int (nI 0), .int (nI 0), .long 0, .long 0, .ref maa, .ref mab, .ref mba, .ref mbb])), (ms, .inl (cs 0, 288, .inl freshS)), (msm, .inl (cs 0, 2, .inl (smF2 a0 (nI 0)))), (mst, .inl (cs 5, 2, .inr (.inr (.inr (.inr fst))))), (st0, .inl (cs 0, 96048, .inl q0)), (st1, .inl (cs 0, 96048, .inl q1)), (mtb, .inl (cs 5, 2, .inr (.inr (.inr (.inr ftb))))), (tb1, .inl (cs 0, 8192, .inl (fun _ => nI 0))), (mti, .inl (cs 6, 2, .inr (.inr (.inr (.inr fti))))), (ti0, .inl (cs 1, 2001, .inr (.inl u0))), (ti1, .inl (cs 1, 2001, .inr (.inl u1)))] (xQi D (fun (r : Int32) (u : (Nat → Int32) × (Nat → Int64)) => match u with | (qz, uz) => r = nI 1 ∧ (∀ j, j < 48 → qz j = freshS j) ∧ uz 0 = lN (ww * 12)) (fun (u : (Nat → Int32) × (Nat → Int64)) => match u with | (qz, uz) => [(hm, .inr (12, [.ref ms, .ref mkp, .int (nI 0), .ref mtr, .int (nI 4), .int (nI 2), .int (nI 2), .int (nI 3), .int (nI 2), .int (nI 1), .ref mas, .int (nI 0), .int (nI 0), .int (nI 0), .ref mso, .ref mon, .ref mot, .ref man, .int (nI 0), .int (nI 0), .ref mst, .ref msm, .ref mtb, .ref mti, .ref mfr, .ref mbn, .ref mbs, .ref mde, .int (nI 0), .int (nI 0), .int (nI 0), .int (nI 0), .long 0, .long 0, .ref maa, .ref mab, .ref mba, .ref mbb])), (ms, .inl (cs 0, 288, .inl freshS)), (msm, .inl (cs 0, 2, .inl (smF2 a0 (nI 1)))), (mst, .inl (cs 5, 2, .inr (.inr (.inr (.inr fst))))), (st0, .inl (cs 0, 96048, .inl q0)), (st1, .inl (cs 0, 96048, .inl qz)), (mtb, .inl (cs 5, 2, .inr (.inr (.inr (.inr ftb))))), (tb1, .inl (cs 0, 8192, .inl (upd (fun _ => nI 0) 965 (nI 1)))), (mti, .inl (cs 6, 2, .inr (.inr (.inr (.inr fti))))), (ti0, .inl (cs 1, 2001, .inr (.inl u0))), (ti1, .inl (cs 1, 2001, .inr (.inl uz)))])) := by
  refine xMet.intro (by decide) (Nat.le_of_ble_eq_true rfl) ?_
  intro p e s m args below meth c A ls C hP hD hS hl
  have hx := C.1
  have hb := C.2.1
  have hz := C.2.2.2.2.1
  have hown := C.2.2.2.1
  have hA := C.2.2.2.2.2.2.2.2.2
  have hAO := C.2.2.2.2.2.2.2.2.1.2.2
  replace hl : lv_has ls 6 [(0, .ref hm), (1, .int (nI 0)), (2, .int (nI 0))] := hl
  obtain ⟨H, hH⟩ : ∃ H, H = s.heap := ⟨_, rfl⟩
  replace hP : va_P D vwCl [(hm, .inr (12, [.ref ms, .ref mkp, .int (nI 0), .ref mtr, .int (nI 4), .int (nI 2), .int (nI 2), .int (nI 3), .int (nI 2), .int (nI 1), .ref mas, .int (nI 0), .int (nI 0), .int (nI 0), .ref mso, .ref mon, .ref mot, .ref man, .int (nI 0), .int (nI 0), .ref mst, .ref msm, .ref mtb, .ref mti, .ref mfr, .ref mbn, .ref mbs, .ref mde, .int (nI 0), .int (nI 0), .int (nI 0), .int (nI 0), .long 0, .long 0, .ref maa, .ref mab, .ref mba, .ref mbb])), (ms, .inl (cs 0, 288, .inl freshS)), (msm, .inl (cs 0, 2, .inl (smF2 a0 (nI 0)))), (mst, .inl (cs 5, 2, .inr (.inr (.inr (.inr fst))))), (st0, .inl (cs 0, 96048, .inl q0)), (st1, .inl (cs 0, 96048, .inl q1)), (mtb, .inl (cs 5, 2, .inr (.inr (.inr (.inr ftb))))), (tb1, .inl (cs 0, 8192, .inl (fun _ => nI 0))), (mti, .inl (cs 6, 2, .inr (.inr (.inr (.inr fti))))), (ti0, .inl (cs 1, 2001, .inr (.inl u0))), (ti1, .inl (cs 1, 2001, .inr (.inl u1)))] H := by rw [hH]; exact hP
  replace hS : va_S A s.heap H [] := by rw [hH]; exact hS
  obtain ⟨locs, hlocs⟩ : ∃ z : List Loc, z = [] := ⟨_, rfl⟩
  rw [← hlocs] at hS
  suffices hW : W p l e ({ frames := 3, cells := 0, slots := 0, locals := 65 } : Room) s m args below meth c H locs 0 0 (MQ below ((xQi D (fun (r : Int32) (u : (Nat → Int32) × (Nat → Int64)) => match u with | (qz, uz) => r = nI 1 ∧ (∀ j, j < 48 → qz j = freshS j) ∧ uz 0 = lN (ww * 12)) (fun (u : (Nat → Int32) × (Nat → Int64)) => match u with | (qz, uz) => [(hm, .inr (12, [.ref ms, .ref mkp, .int (nI 0), .ref mtr, .int (nI 4), .int (nI 2), .int (nI 2), .int (nI 3), .int (nI 2), .int (nI 1), .ref mas, .int (nI 0), .int (nI 0), .int (nI 0), .ref mso, .ref mon, .ref mot, .ref man, .int (nI 0), .int (nI 0), .ref mst, .ref msm, .ref mtb, .ref mti, .ref mfr, .ref mbn, .ref mbs, .ref mde, .int (nI 0), .int (nI 0), .int (nI 0), .int (nI 0), .long 0, .long 0, .ref maa, .ref mab, .ref mba, .ref mbb])), (ms, .inl (cs 0, 288, .inl freshS)), (msm, .inl (cs 0, 2, .inl (smF2 a0 (nI 1)))), (mst, .inl (cs 5, 2, .inr (.inr (.inr (.inr fst))))), (st0, .inl (cs 0, 96048, .inl q0)), (st1, .inl (cs 0, 96048, .inl qz)), (mtb, .inl (cs 5, 2, .inr (.inr (.inr (.inr ftb))))), (tb1, .inl (cs 0, 8192, .inl (upd (fun _ => nI 0) 965 (nI 1)))), (mti, .inl (cs 6, 2, .inr (.inr (.inr (.inr fti))))), (ti0, .inl (cs 1, 2001, .inr (.inl u0))), (ti1, .inl (cs 1, 2001, .inr (.inl uz)))])) A) args s 0 0 A) (F0 m 0 ls []) by rw [hlocs, hH] at hW; exact hW
  clear hH hlocs
  refine lv_iconst (v := nI 0) hx hb dX12_spreads_0 (by decide) ?_
  refine lv_istore_n (lv' := [(3, .int (nI 0)), (0, .ref hm), (1, .int (nI 0)), (2, .int (nI 0))]) hx hb dX12_spreads_1 rfl hl (by decide) rfl ?_
  clear hl
  try clear ls
  intro ls hl
  refine lv_iload_n hx hb dX12_spreads_2 rfl (lv_at hl 0 rfl) ?_
  refine lv_aload_n hx hb dX12_spreads_3 rfl (lv_at hl 1 rfl) ?_
  refine xget C hP 0 rfl rfl zuX12 4 (by decide) zw5_217 rfl dX12_spreads_4 ?_
  refine lv_icmp_ge (tgt := 120) hx hb dX12_spreads_7 (by decide) (fun c => absurd c (by decide)) (fun _ => ?_)
  refine lv_iconst (v := nI 0) hx hb dX12_spreads_10 (by decide) ?_
  refine lv_istore (lv' := [(4, .int (nI 0)), (3, .int (nI 0)), (0, .ref hm), (1, .int (nI 0)), (2, .int (nI 0))]) hx hb dX12_spreads_11 hl (by decide) rfl ?_
  clear hl
  try clear ls
  intro ls hl
  refine lv_iload hx hb dX12_spreads_13 (lv_at hl 0 rfl) ?_
  refine lv_iconst (v := nI 1) hx hb dX12_spreads_15 (by decide) ?_
  refine lv_aload_n hx hb dX12_spreads_16 rfl (lv_at hl 2 rfl) ?_
  refine xget C hP 0 rfl rfl zuX12 4 (by decide) zw5_217 rfl dX12_spreads_17 ?_
  refine lv_ishl hx hb dX12_spreads_20 ?_
  refine lv_topi (nm_r (e' := nI 16) (by decide) ?_)
  refine lv_icmp_ge (tgt := 114) hx hb dX12_spreads_21 (by decide) (fun c => absurd c (by decide)) (fun _ => ?_)
  refine lv_aload_n hx hb dX12_spreads_24 rfl (lv_at hl 2 rfl) ?_
  refine lv_iload_n hx hb dX12_spreads_25 rfl (lv_at hl 1 rfl) ?_
  refine lv_iload hx hb dX12_spreads_26 (lv_at hl 0 rfl) ?_
  refine xi (wr := [(ms, .inl (cs 0, 288, .inl freshS)), (msm, .inl (cs 0, 2, .inl (smF2 a0 (nI 0)))), (mst, .inl (cs 5, 2, .inr (.inr (.inr (.inr fst))))), (st0, .inl (cs 0, 96048, .inl q0)), (st1, .inl (cs 0, 96048, .inl q1)), (mtb, .inl (cs 5, 2, .inr (.inr (.inr (.inr ftb))))), (tb1, .inl (cs 0, 8192, .inl (fun _ => nI 0))), (mti, .inl (cs 6, 2, .inr (.inr (.inr (.inr fti))))), (ti0, .inl (cs 1, 2001, .inr (.inl u0))), (ti1, .inl (cs 1, 2001, .inr (.inl u1)))]) (xV (As := [.int (nI 0), .int (nI 0)]) (rest := []) C (c_X12_isSample_x l D cs hm ms mkp mtr mas mso mon mot man mst msm mtb mti mfr mbn mbs mde maa mab mba mbb 0 0 (by decide) (by decide)) kX12_139 hP hD [0] rfl (by decide +kernel) 0 rfl rfl rfl ⟨Nat.le_of_ble_eq_true rfl, Nat.le_of_ble_eq_true rfl⟩ rfl hl.1 rfl (Nat.le_of_ble_eq_true rfl) dX12_spreads_28 ⟨Nat.le_of_ble_eq_true rfl, Nat.le_of_ble_eq_true rfl⟩) hP hD hS hA [0] [1, 2, 3, 4, 5, 6, 7, 8, 9, 10] rfl rfl (by decide +kernel) (by decide +kernel) ?_
  clear hP hD hS
  try clear locs
  try clear H
  intro r_1 u_2 H locs hw_r_1 hP hD hS
  have hw_r_1 : r_1 = smB 0 0 := hw_r_1
  refine W.widen (k := 0) (n := 0) (Nat.le_of_ble_eq_true rfl) (Nat.le_of_ble_eq_true rfl) ?_
  replace hP : va_P D vwCl [(ms, .inl (cs 0, 288, .inl freshS)), (msm, .inl (cs 0, 2, .inl (smF2 a0 (nI 0)))), (mst, .inl (cs 5, 2, .inr (.inr (.inr (.inr fst))))), (st0, .inl (cs 0, 96048, .inl q0)), (st1, .inl (cs 0, 96048, .inl q1)), (mtb, .inl (cs 5, 2, .inr (.inr (.inr (.inr ftb))))), (tb1, .inl (cs 0, 8192, .inl (fun _ => nI 0))), (mti, .inl (cs 6, 2, .inr (.inr (.inr (.inr fti))))), (ti0, .inl (cs 1, 2001, .inr (.inl u0))), (ti1, .inl (cs 1, 2001, .inr (.inl u1))), (hm, .inr (12, [.ref ms, .ref mkp, .int (nI 0), .ref mtr, .int (nI 4), .int (nI 2), .int (nI 2), .int (nI 3), .int (nI 2), .int (nI 1), .ref mas, .int (nI 0), .int (nI 0), .int (nI 0), .ref mso, .ref mon, .ref mot, .ref man, .int (nI 0), .int (nI 0), .ref mst, .ref msm, .ref mtb, .ref mti, .ref mfr, .ref mbn, .ref mbs, .ref mde, .int (nI 0), .int (nI 0), .int (nI 0), .int (nI 0), .long 0, .long 0, .ref maa, .ref mab, .ref mba, .ref mbb]))] H := hP
  replace hD : va_D A [(ms, .inl (cs 0, 288, .inl freshS)), (msm, .inl (cs 0, 2, .inl (smF2 a0 (nI 0)))), (mst, .inl (cs 5, 2, .inr (.inr (.inr (.inr fst))))), (st0, .inl (cs 0, 96048, .inl q0)), (st1, .inl (cs 0, 96048, .inl q1)), (mtb, .inl (cs 5, 2, .inr (.inr (.inr (.inr ftb))))), (tb1, .inl (cs 0, 8192, .inl (fun _ => nI 0))), (mti, .inl (cs 6, 2, .inr (.inr (.inr (.inr fti))))), (ti0, .inl (cs 1, 2001, .inr (.inl u0))), (ti1, .inl (cs 1, 2001, .inr (.inl u1))), (hm, .inr (12, [.ref ms, .ref mkp, .int (nI 0), .ref mtr, .int (nI 4), .int (nI 2), .int (nI 2), .int (nI 3), .int (nI 2), .int (nI 1), .ref mas, .int (nI 0), .int (nI 0), .int (nI 0), .ref mso, .ref mon, .ref mot, .ref man, .int (nI 0), .int (nI 0), .ref mst, .ref msm, .ref mtb, .ref mti, .ref mfr, .ref mbn, .ref mbs, .ref mde, .int (nI 0), .int (nI 0), .int (nI 0), .int (nI 0), .long 0, .long 0, .ref maa, .ref mab, .ref mba, .ref mbb]))] := hD
  obtain rfl : r_1 = nI 0 := by rw [hw_r_1]; decide +kernel
  refine lv_if_ne (tgt := 37) hx hb dX12_spreads_31 (by decide) (fun c => absurd (by decide) c) (fun _ => ?_)
  refine lv_goto (tgt := 108) hx hb dX12_spreads_34 (by decide) ?_
  refine lv_iinc (v := nI 1) (lv' := [(4, .int (nI 1)), (3, .int (nI 0)), (0, .ref hm), (1, .int (nI 0)), (2, .int (nI 0))]) hx hb dX12_spreads_108 hl (k := 0) rfl (by decide) (by decide) rfl ?_
  clear hl
  try clear ls
  intro ls hl
  refine lv_goto (tgt := 13) hx hb dX12_spreads_111 (by decide) ?_
  refine lv_iload hx hb dX12_spreads_13 (lv_at hl 0 rfl) ?_
  refine lv_iconst (v := nI 1) hx hb dX12_spreads_15 (by decide) ?_
  refine lv_aload_n hx hb dX12_spreads_16 rfl (lv_at hl 2 rfl) ?_
  refine xget C hP 10 rfl rfl zuX12 4 (by decide) zw5_217 rfl dX12_spreads_17 ?_
  refine lv_ishl hx hb dX12_spreads_20 ?_
  refine lv_topi (nm_r (e' := nI 16) (by decide) ?_)
  refine lv_icmp_ge (tgt := 114) hx hb dX12_spreads_21 (by decide) (fun c => absurd c (by decide)) (fun _ => ?_)
  refine lv_aload_n hx hb dX12_spreads_24 rfl (lv_at hl 2 rfl) ?_
  refine lv_iload_n hx hb dX12_spreads_25 rfl (lv_at hl 1 rfl) ?_
  refine lv_iload hx hb dX12_spreads_26 (lv_at hl 0 rfl) ?_
  refine xi (wr := [(ms, .inl (cs 0, 288, .inl freshS)), (msm, .inl (cs 0, 2, .inl (smF2 a0 (nI 0)))), (mst, .inl (cs 5, 2, .inr (.inr (.inr (.inr fst))))), (st0, .inl (cs 0, 96048, .inl q0)), (st1, .inl (cs 0, 96048, .inl q1)), (mtb, .inl (cs 5, 2, .inr (.inr (.inr (.inr ftb))))), (tb1, .inl (cs 0, 8192, .inl (fun _ => nI 0))), (mti, .inl (cs 6, 2, .inr (.inr (.inr (.inr fti))))), (ti0, .inl (cs 1, 2001, .inr (.inl u0))), (ti1, .inl (cs 1, 2001, .inr (.inl u1)))]) (xV (As := [.int (nI 0), .int (nI 1)]) (rest := []) C (c_X12_isSample_x l D cs hm ms mkp mtr mas mso mon mot man mst msm mtb mti mfr mbn mbs mde maa mab mba mbb 0 1 (by decide) (by decide)) kX12_139 hP hD [10] rfl (by decide +kernel) 0 rfl rfl rfl ⟨Nat.le_of_ble_eq_true rfl, Nat.le_of_ble_eq_true rfl⟩ rfl hl.1 rfl (Nat.le_of_ble_eq_true rfl) dX12_spreads_28 ⟨Nat.le_of_ble_eq_true rfl, Nat.le_of_ble_eq_true rfl⟩) hP hD hS hA [10] [0, 1, 2, 3, 4, 5, 6, 7, 8, 9] rfl rfl (by decide +kernel) (by decide +kernel) ?_
  clear hP hD hS
  try clear locs
  try clear H
  intro r_3 u_4 H locs hw_r_3 hP hD hS
  have hw_r_3 : r_3 = smB 0 1 := hw_r_3
  refine W.widen (k := 0) (n := 0) (Nat.le_of_ble_eq_true rfl) (Nat.le_of_ble_eq_true rfl) ?_
  replace hP : va_P D vwCl [(ms, .inl (cs 0, 288, .inl freshS)), (msm, .inl (cs 0, 2, .inl (smF2 a0 (nI 0)))), (mst, .inl (cs 5, 2, .inr (.inr (.inr (.inr fst))))), (st0, .inl (cs 0, 96048, .inl q0)), (st1, .inl (cs 0, 96048, .inl q1)), (mtb, .inl (cs 5, 2, .inr (.inr (.inr (.inr ftb))))), (tb1, .inl (cs 0, 8192, .inl (fun _ => nI 0))), (mti, .inl (cs 6, 2, .inr (.inr (.inr (.inr fti))))), (ti0, .inl (cs 1, 2001, .inr (.inl u0))), (ti1, .inl (cs 1, 2001, .inr (.inl u1))), (hm, .inr (12, [.ref ms, .ref mkp, .int (nI 0), .ref mtr, .int (nI 4), .int (nI 2), .int (nI 2), .int (nI 3), .int (nI 2), .int (nI 1), .ref mas, .int (nI 0), .int (nI 0), .int (nI 0), .ref mso, .ref mon, .ref mot, .ref man, .int (nI 0), .int (nI 0), .ref mst, .ref msm, .ref mtb, .ref mti, .ref mfr, .ref mbn, .ref mbs, .ref mde, .int (nI 0), .int (nI 0), .int (nI 0), .int (nI 0), .long 0, .long 0, .ref maa, .ref mab, .ref mba, .ref mbb]))] H := hP
  replace hD : va_D A [(ms, .inl (cs 0, 288, .inl freshS)), (msm, .inl (cs 0, 2, .inl (smF2 a0 (nI 0)))), (mst, .inl (cs 5, 2, .inr (.inr (.inr (.inr fst))))), (st0, .inl (cs 0, 96048, .inl q0)), (st1, .inl (cs 0, 96048, .inl q1)), (mtb, .inl (cs 5, 2, .inr (.inr (.inr (.inr ftb))))), (tb1, .inl (cs 0, 8192, .inl (fun _ => nI 0))), (mti, .inl (cs 6, 2, .inr (.inr (.inr (.inr fti))))), (ti0, .inl (cs 1, 2001, .inr (.inl u0))), (ti1, .inl (cs 1, 2001, .inr (.inl u1))), (hm, .inr (12, [.ref ms, .ref mkp, .int (nI 0), .ref mtr, .int (nI 4), .int (nI 2), .int (nI 2), .int (nI 3), .int (nI 2), .int (nI 1), .ref mas, .int (nI 0), .int (nI 0), .int (nI 0), .ref mso, .ref mon, .ref mot, .ref man, .int (nI 0), .int (nI 0), .ref mst, .ref msm, .ref mtb, .ref mti, .ref mfr, .ref mbn, .ref mbs, .ref mde, .int (nI 0), .int (nI 0), .int (nI 0), .int (nI 0), .long 0, .long 0, .ref maa, .ref mab, .ref mba, .ref mbb]))] := hD
  obtain rfl : r_3 = nI 0 := by rw [hw_r_3]; decide +kernel
  refine lv_if_ne (tgt := 37) hx hb dX12_spreads_31 (by decide) (fun c => absurd (by decide) c) (fun _ => ?_)
  refine lv_goto (tgt := 108) hx hb dX12_spreads_34 (by decide) ?_
  refine lv_iinc (v := nI 2) (lv' := [(4, .int (nI 2)), (3, .int (nI 0)), (0, .ref hm), (1, .int (nI 0)), (2, .int (nI 0))]) hx hb dX12_spreads_108 hl (k := 0) rfl (by decide) (by decide) rfl ?_
  clear hl
  try clear ls
  intro ls hl
  refine lv_goto (tgt := 13) hx hb dX12_spreads_111 (by decide) ?_
  refine lv_iload hx hb dX12_spreads_13 (lv_at hl 0 rfl) ?_
  refine lv_iconst (v := nI 1) hx hb dX12_spreads_15 (by decide) ?_
  refine lv_aload_n hx hb dX12_spreads_16 rfl (lv_at hl 2 rfl) ?_
  refine xget C hP 10 rfl rfl zuX12 4 (by decide) zw5_217 rfl dX12_spreads_17 ?_
  refine lv_ishl hx hb dX12_spreads_20 ?_
  refine lv_topi (nm_r (e' := nI 16) (by decide) ?_)
  refine lv_icmp_ge (tgt := 114) hx hb dX12_spreads_21 (by decide) (fun c => absurd c (by decide)) (fun _ => ?_)
  refine lv_aload_n hx hb dX12_spreads_24 rfl (lv_at hl 2 rfl) ?_
  refine lv_iload_n hx hb dX12_spreads_25 rfl (lv_at hl 1 rfl) ?_
  refine lv_iload hx hb dX12_spreads_26 (lv_at hl 0 rfl) ?_
  refine xi (wr := [(ms, .inl (cs 0, 288, .inl freshS)), (msm, .inl (cs 0, 2, .inl (smF2 a0 (nI 0)))), (mst, .inl (cs 5, 2, .inr (.inr (.inr (.inr fst))))), (st0, .inl (cs 0, 96048, .inl q0)), (st1, .inl (cs 0, 96048, .inl q1)), (mtb, .inl (cs 5, 2, .inr (.inr (.inr (.inr ftb))))), (tb1, .inl (cs 0, 8192, .inl (fun _ => nI 0))), (mti, .inl (cs 6, 2, .inr (.inr (.inr (.inr fti))))), (ti0, .inl (cs 1, 2001, .inr (.inl u0))), (ti1, .inl (cs 1, 2001, .inr (.inl u1)))]) (xV (As := [.int (nI 0), .int (nI 2)]) (rest := []) C (c_X12_isSample_x l D cs hm ms mkp mtr mas mso mon mot man mst msm mtb mti mfr mbn mbs mde maa mab mba mbb 0 2 (by decide) (by decide)) kX12_139 hP hD [10] rfl (by decide +kernel) 0 rfl rfl rfl ⟨Nat.le_of_ble_eq_true rfl, Nat.le_of_ble_eq_true rfl⟩ rfl hl.1 rfl (Nat.le_of_ble_eq_true rfl) dX12_spreads_28 ⟨Nat.le_of_ble_eq_true rfl, Nat.le_of_ble_eq_true rfl⟩) hP hD hS hA [10] [0, 1, 2, 3, 4, 5, 6, 7, 8, 9] rfl rfl (by decide +kernel) (by decide +kernel) ?_
  clear hP hD hS
  try clear locs
  try clear H
  intro r_5 u_6 H locs hw_r_5 hP hD hS
  have hw_r_5 : r_5 = smB 0 2 := hw_r_5
  refine W.widen (k := 0) (n := 0) (Nat.le_of_ble_eq_true rfl) (Nat.le_of_ble_eq_true rfl) ?_
  replace hP : va_P D vwCl [(ms, .inl (cs 0, 288, .inl freshS)), (msm, .inl (cs 0, 2, .inl (smF2 a0 (nI 0)))), (mst, .inl (cs 5, 2, .inr (.inr (.inr (.inr fst))))), (st0, .inl (cs 0, 96048, .inl q0)), (st1, .inl (cs 0, 96048, .inl q1)), (mtb, .inl (cs 5, 2, .inr (.inr (.inr (.inr ftb))))), (tb1, .inl (cs 0, 8192, .inl (fun _ => nI 0))), (mti, .inl (cs 6, 2, .inr (.inr (.inr (.inr fti))))), (ti0, .inl (cs 1, 2001, .inr (.inl u0))), (ti1, .inl (cs 1, 2001, .inr (.inl u1))), (hm, .inr (12, [.ref ms, .ref mkp, .int (nI 0), .ref mtr, .int (nI 4), .int (nI 2), .int (nI 2), .int (nI 3), .int (nI 2), .int (nI 1), .ref mas, .int (nI 0), .int (nI 0), .int (nI 0), .ref mso, .ref mon, .ref mot, .ref man, .int (nI 0), .int (nI 0), .ref mst, .ref msm, .ref mtb, .ref mti, .ref mfr, .ref mbn, .ref mbs, .ref mde, .int (nI 0), .int (nI 0), .int (nI 0), .int (nI 0), .long 0, .long 0, .ref maa, .ref mab, .ref mba, .ref mbb]))] H := hP
  replace hD : va_D A [(ms, .inl (cs 0, 288, .inl freshS)), (msm, .inl (cs 0, 2, .inl (smF2 a0 (nI 0)))), (mst, .inl (cs 5, 2, .inr (.inr (.inr (.inr fst))))), (st0, .inl (cs 0, 96048, .inl q0)), (st1, .inl (cs 0, 96048, .inl q1)), (mtb, .inl (cs 5, 2, .inr (.inr (.inr (.inr ftb))))), (tb1, .inl (cs 0, 8192, .inl (fun _ => nI 0))), (mti, .inl (cs 6, 2, .inr (.inr (.inr (.inr fti))))), (ti0, .inl (cs 1, 2001, .inr (.inl u0))), (ti1, .inl (cs 1, 2001, .inr (.inl u1))), (hm, .inr (12, [.ref ms, .ref mkp, .int (nI 0), .ref mtr, .int (nI 4), .int (nI 2), .int (nI 2), .int (nI 3), .int (nI 2), .int (nI 1), .ref mas, .int (nI 0), .int (nI 0), .int (nI 0), .ref mso, .ref mon, .ref mot, .ref man, .int (nI 0), .int (nI 0), .ref mst, .ref msm, .ref mtb, .ref mti, .ref mfr, .ref mbn, .ref mbs, .ref mde, .int (nI 0), .int (nI 0), .int (nI 0), .int (nI 0), .long 0, .long 0, .ref maa, .ref mab, .ref mba, .ref mbb]))] := hD
  obtain rfl : r_5 = nI 0 := by rw [hw_r_5]; decide +kernel
  refine lv_if_ne (tgt := 37) hx hb dX12_spreads_31 (by decide) (fun c => absurd (by decide) c) (fun _ => ?_)
  refine lv_goto (tgt := 108) hx hb dX12_spreads_34 (by decide) ?_
  refine lv_iinc (v := nI 3) (lv' := [(4, .int (nI 3)), (3, .int (nI 0)), (0, .ref hm), (1, .int (nI 0)), (2, .int (nI 0))]) hx hb dX12_spreads_108 hl (k := 0) rfl (by decide) (by decide) rfl ?_
  clear hl
  try clear ls
  intro ls hl
  refine lv_goto (tgt := 13) hx hb dX12_spreads_111 (by decide) ?_
  refine lv_iload hx hb dX12_spreads_13 (lv_at hl 0 rfl) ?_
  refine lv_iconst (v := nI 1) hx hb dX12_spreads_15 (by decide) ?_
  refine lv_aload_n hx hb dX12_spreads_16 rfl (lv_at hl 2 rfl) ?_
  refine xget C hP 10 rfl rfl zuX12 4 (by decide) zw5_217 rfl dX12_spreads_17 ?_
  refine lv_ishl hx hb dX12_spreads_20 ?_
  refine lv_topi (nm_r (e' := nI 16) (by decide) ?_)
  refine lv_icmp_ge (tgt := 114) hx hb dX12_spreads_21 (by decide) (fun c => absurd c (by decide)) (fun _ => ?_)
  refine lv_aload_n hx hb dX12_spreads_24 rfl (lv_at hl 2 rfl) ?_
  refine lv_iload_n hx hb dX12_spreads_25 rfl (lv_at hl 1 rfl) ?_
  refine lv_iload hx hb dX12_spreads_26 (lv_at hl 0 rfl) ?_
  refine xi (wr := [(ms, .inl (cs 0, 288, .inl freshS)), (msm, .inl (cs 0, 2, .inl (smF2 a0 (nI 0)))), (mst, .inl (cs 5, 2, .inr (.inr (.inr (.inr fst))))), (st0, .inl (cs 0, 96048, .inl q0)), (st1, .inl (cs 0, 96048, .inl q1)), (mtb, .inl (cs 5, 2, .inr (.inr (.inr (.inr ftb))))), (tb1, .inl (cs 0, 8192, .inl (fun _ => nI 0))), (mti, .inl (cs 6, 2, .inr (.inr (.inr (.inr fti))))), (ti0, .inl (cs 1, 2001, .inr (.inl u0))), (ti1, .inl (cs 1, 2001, .inr (.inl u1)))]) (xV (As := [.int (nI 0), .int (nI 3)]) (rest := []) C (c_X12_isSample_x l D cs hm ms mkp mtr mas mso mon mot man mst msm mtb mti mfr mbn mbs mde maa mab mba mbb 0 3 (by decide) (by decide)) kX12_139 hP hD [10] rfl (by decide +kernel) 0 rfl rfl rfl ⟨Nat.le_of_ble_eq_true rfl, Nat.le_of_ble_eq_true rfl⟩ rfl hl.1 rfl (Nat.le_of_ble_eq_true rfl) dX12_spreads_28 ⟨Nat.le_of_ble_eq_true rfl, Nat.le_of_ble_eq_true rfl⟩) hP hD hS hA [10] [0, 1, 2, 3, 4, 5, 6, 7, 8, 9] rfl rfl (by decide +kernel) (by decide +kernel) ?_
  clear hP hD hS
  try clear locs
  try clear H
  intro r_7 u_8 H locs hw_r_7 hP hD hS
  have hw_r_7 : r_7 = smB 0 3 := hw_r_7
  refine W.widen (k := 0) (n := 0) (Nat.le_of_ble_eq_true rfl) (Nat.le_of_ble_eq_true rfl) ?_
  replace hP : va_P D vwCl [(ms, .inl (cs 0, 288, .inl freshS)), (msm, .inl (cs 0, 2, .inl (smF2 a0 (nI 0)))), (mst, .inl (cs 5, 2, .inr (.inr (.inr (.inr fst))))), (st0, .inl (cs 0, 96048, .inl q0)), (st1, .inl (cs 0, 96048, .inl q1)), (mtb, .inl (cs 5, 2, .inr (.inr (.inr (.inr ftb))))), (tb1, .inl (cs 0, 8192, .inl (fun _ => nI 0))), (mti, .inl (cs 6, 2, .inr (.inr (.inr (.inr fti))))), (ti0, .inl (cs 1, 2001, .inr (.inl u0))), (ti1, .inl (cs 1, 2001, .inr (.inl u1))), (hm, .inr (12, [.ref ms, .ref mkp, .int (nI 0), .ref mtr, .int (nI 4), .int (nI 2), .int (nI 2), .int (nI 3), .int (nI 2), .int (nI 1), .ref mas, .int (nI 0), .int (nI 0), .int (nI 0), .ref mso, .ref mon, .ref mot, .ref man, .int (nI 0), .int (nI 0), .ref mst, .ref msm, .ref mtb, .ref mti, .ref mfr, .ref mbn, .ref mbs, .ref mde, .int (nI 0), .int (nI 0), .int (nI 0), .int (nI 0), .long 0, .long 0, .ref maa, .ref mab, .ref mba, .ref mbb]))] H := hP
  replace hD : va_D A [(ms, .inl (cs 0, 288, .inl freshS)), (msm, .inl (cs 0, 2, .inl (smF2 a0 (nI 0)))), (mst, .inl (cs 5, 2, .inr (.inr (.inr (.inr fst))))), (st0, .inl (cs 0, 96048, .inl q0)), (st1, .inl (cs 0, 96048, .inl q1)), (mtb, .inl (cs 5, 2, .inr (.inr (.inr (.inr ftb))))), (tb1, .inl (cs 0, 8192, .inl (fun _ => nI 0))), (mti, .inl (cs 6, 2, .inr (.inr (.inr (.inr fti))))), (ti0, .inl (cs 1, 2001, .inr (.inl u0))), (ti1, .inl (cs 1, 2001, .inr (.inl u1))), (hm, .inr (12, [.ref ms, .ref mkp, .int (nI 0), .ref mtr, .int (nI 4), .int (nI 2), .int (nI 2), .int (nI 3), .int (nI 2), .int (nI 1), .ref mas, .int (nI 0), .int (nI 0), .int (nI 0), .ref mso, .ref mon, .ref mot, .ref man, .int (nI 0), .int (nI 0), .ref mst, .ref msm, .ref mtb, .ref mti, .ref mfr, .ref mbn, .ref mbs, .ref mde, .int (nI 0), .int (nI 0), .int (nI 0), .int (nI 0), .long 0, .long 0, .ref maa, .ref mab, .ref mba, .ref mbb]))] := hD
  obtain rfl : r_7 = nI 0 := by rw [hw_r_7]; decide +kernel
  refine lv_if_ne (tgt := 37) hx hb dX12_spreads_31 (by decide) (fun c => absurd (by decide) c) (fun _ => ?_)
  refine lv_goto (tgt := 108) hx hb dX12_spreads_34 (by decide) ?_
  refine lv_iinc (v := nI 4) (lv' := [(4, .int (nI 4)), (3, .int (nI 0)), (0, .ref hm), (1, .int (nI 0)), (2, .int (nI 0))]) hx hb dX12_spreads_108 hl (k := 0) rfl (by decide) (by decide) rfl ?_
  clear hl
  try clear ls
  intro ls hl
  refine lv_goto (tgt := 13) hx hb dX12_spreads_111 (by decide) ?_
  refine lv_iload hx hb dX12_spreads_13 (lv_at hl 0 rfl) ?_
  refine lv_iconst (v := nI 1) hx hb dX12_spreads_15 (by decide) ?_
  refine lv_aload_n hx hb dX12_spreads_16 rfl (lv_at hl 2 rfl) ?_
  refine xget C hP 10 rfl rfl zuX12 4 (by decide) zw5_217 rfl dX12_spreads_17 ?_
  refine lv_ishl hx hb dX12_spreads_20 ?_
  refine lv_topi (nm_r (e' := nI 16) (by decide) ?_)
  refine lv_icmp_ge (tgt := 114) hx hb dX12_spreads_21 (by decide) (fun c => absurd c (by decide)) (fun _ => ?_)
  refine lv_aload_n hx hb dX12_spreads_24 rfl (lv_at hl 2 rfl) ?_
  refine lv_iload_n hx hb dX12_spreads_25 rfl (lv_at hl 1 rfl) ?_
  refine lv_iload hx hb dX12_spreads_26 (lv_at hl 0 rfl) ?_
  refine xi (wr := [(ms, .inl (cs 0, 288, .inl freshS)), (msm, .inl (cs 0, 2, .inl (smF2 a0 (nI 0)))), (mst, .inl (cs 5, 2, .inr (.inr (.inr (.inr fst))))), (st0, .inl (cs 0, 96048, .inl q0)), (st1, .inl (cs 0, 96048, .inl q1)), (mtb, .inl (cs 5, 2, .inr (.inr (.inr (.inr ftb))))), (tb1, .inl (cs 0, 8192, .inl (fun _ => nI 0))), (mti, .inl (cs 6, 2, .inr (.inr (.inr (.inr fti))))), (ti0, .inl (cs 1, 2001, .inr (.inl u0))), (ti1, .inl (cs 1, 2001, .inr (.inl u1)))]) (xV (As := [.int (nI 0), .int (nI 4)]) (rest := []) C (c_X12_isSample_x l D cs hm ms mkp mtr mas mso mon mot man mst msm mtb mti mfr mbn mbs mde maa mab mba mbb 0 4 (by decide) (by decide)) kX12_139 hP hD [10] rfl (by decide +kernel) 0 rfl rfl rfl ⟨Nat.le_of_ble_eq_true rfl, Nat.le_of_ble_eq_true rfl⟩ rfl hl.1 rfl (Nat.le_of_ble_eq_true rfl) dX12_spreads_28 ⟨Nat.le_of_ble_eq_true rfl, Nat.le_of_ble_eq_true rfl⟩) hP hD hS hA [10] [0, 1, 2, 3, 4, 5, 6, 7, 8, 9] rfl rfl (by decide +kernel) (by decide +kernel) ?_
  clear hP hD hS
  try clear locs
  try clear H
  intro r_9 u_10 H locs hw_r_9 hP hD hS
  have hw_r_9 : r_9 = smB 0 4 := hw_r_9
  refine W.widen (k := 0) (n := 0) (Nat.le_of_ble_eq_true rfl) (Nat.le_of_ble_eq_true rfl) ?_
  replace hP : va_P D vwCl [(ms, .inl (cs 0, 288, .inl freshS)), (msm, .inl (cs 0, 2, .inl (smF2 a0 (nI 0)))), (mst, .inl (cs 5, 2, .inr (.inr (.inr (.inr fst))))), (st0, .inl (cs 0, 96048, .inl q0)), (st1, .inl (cs 0, 96048, .inl q1)), (mtb, .inl (cs 5, 2, .inr (.inr (.inr (.inr ftb))))), (tb1, .inl (cs 0, 8192, .inl (fun _ => nI 0))), (mti, .inl (cs 6, 2, .inr (.inr (.inr (.inr fti))))), (ti0, .inl (cs 1, 2001, .inr (.inl u0))), (ti1, .inl (cs 1, 2001, .inr (.inl u1))), (hm, .inr (12, [.ref ms, .ref mkp, .int (nI 0), .ref mtr, .int (nI 4), .int (nI 2), .int (nI 2), .int (nI 3), .int (nI 2), .int (nI 1), .ref mas, .int (nI 0), .int (nI 0), .int (nI 0), .ref mso, .ref mon, .ref mot, .ref man, .int (nI 0), .int (nI 0), .ref mst, .ref msm, .ref mtb, .ref mti, .ref mfr, .ref mbn, .ref mbs, .ref mde, .int (nI 0), .int (nI 0), .int (nI 0), .int (nI 0), .long 0, .long 0, .ref maa, .ref mab, .ref mba, .ref mbb]))] H := hP
  replace hD : va_D A [(ms, .inl (cs 0, 288, .inl freshS)), (msm, .inl (cs 0, 2, .inl (smF2 a0 (nI 0)))), (mst, .inl (cs 5, 2, .inr (.inr (.inr (.inr fst))))), (st0, .inl (cs 0, 96048, .inl q0)), (st1, .inl (cs 0, 96048, .inl q1)), (mtb, .inl (cs 5, 2, .inr (.inr (.inr (.inr ftb))))), (tb1, .inl (cs 0, 8192, .inl (fun _ => nI 0))), (mti, .inl (cs 6, 2, .inr (.inr (.inr (.inr fti))))), (ti0, .inl (cs 1, 2001, .inr (.inl u0))), (ti1, .inl (cs 1, 2001, .inr (.inl u1))), (hm, .inr (12, [.ref ms, .ref mkp, .int (nI 0), .ref mtr, .int (nI 4), .int (nI 2), .int (nI 2), .int (nI 3), .int (nI 2), .int (nI 1), .ref mas, .int (nI 0), .int (nI 0), .int (nI 0), .ref mso, .ref mon, .ref mot, .ref man, .int (nI 0), .int (nI 0), .ref mst, .ref msm, .ref mtb, .ref mti, .ref mfr, .ref mbn, .ref mbs, .ref mde, .int (nI 0), .int (nI 0), .int (nI 0), .int (nI 0), .long 0, .long 0, .ref maa, .ref mab, .ref mba, .ref mbb]))] := hD
  obtain rfl : r_9 = nI 0 := by rw [hw_r_9]; decide +kernel
  refine lv_if_ne (tgt := 37) hx hb dX12_spreads_31 (by decide) (fun c => absurd (by decide) c) (fun _ => ?_)
  refine lv_goto (tgt := 108) hx hb dX12_spreads_34 (by decide) ?_
  refine lv_iinc (v := nI 5) (lv' := [(4, .int (nI 5)), (3, .int (nI 0)), (0, .ref hm), (1, .int (nI 0)), (2, .int (nI 0))]) hx hb dX12_spreads_108 hl (k := 0) rfl (by decide) (by decide) rfl ?_
  clear hl
  try clear ls
  intro ls hl
  refine lv_goto (tgt := 13) hx hb dX12_spreads_111 (by decide) ?_
  refine lv_iload hx hb dX12_spreads_13 (lv_at hl 0 rfl) ?_
  refine lv_iconst (v := nI 1) hx hb dX12_spreads_15 (by decide) ?_
  refine lv_aload_n hx hb dX12_spreads_16 rfl (lv_at hl 2 rfl) ?_
  refine xget C hP 10 rfl rfl zuX12 4 (by decide) zw5_217 rfl dX12_spreads_17 ?_
  refine lv_ishl hx hb dX12_spreads_20 ?_
  refine lv_topi (nm_r (e' := nI 16) (by decide) ?_)
  refine lv_icmp_ge (tgt := 114) hx hb dX12_spreads_21 (by decide) (fun c => absurd c (by decide)) (fun _ => ?_)
  refine lv_aload_n hx hb dX12_spreads_24 rfl (lv_at hl 2 rfl) ?_
  refine lv_iload_n hx hb dX12_spreads_25 rfl (lv_at hl 1 rfl) ?_
  refine lv_iload hx hb dX12_spreads_26 (lv_at hl 0 rfl) ?_
  refine xi (wr := [(ms, .inl (cs 0, 288, .inl freshS)), (msm, .inl (cs 0, 2, .inl (smF2 a0 (nI 0)))), (mst, .inl (cs 5, 2, .inr (.inr (.inr (.inr fst))))), (st0, .inl (cs 0, 96048, .inl q0)), (st1, .inl (cs 0, 96048, .inl q1)), (mtb, .inl (cs 5, 2, .inr (.inr (.inr (.inr ftb))))), (tb1, .inl (cs 0, 8192, .inl (fun _ => nI 0))), (mti, .inl (cs 6, 2, .inr (.inr (.inr (.inr fti))))), (ti0, .inl (cs 1, 2001, .inr (.inl u0))), (ti1, .inl (cs 1, 2001, .inr (.inl u1)))]) (xV (As := [.int (nI 0), .int (nI 5)]) (rest := []) C (c_X12_isSample_x l D cs hm ms mkp mtr mas mso mon mot man mst msm mtb mti mfr mbn mbs mde maa mab mba mbb 0 5 (by decide) (by decide)) kX12_139 hP hD [10] rfl (by decide +kernel) 0 rfl rfl rfl ⟨Nat.le_of_ble_eq_true rfl, Nat.le_of_ble_eq_true rfl⟩ rfl hl.1 rfl (Nat.le_of_ble_eq_true rfl) dX12_spreads_28 ⟨Nat.le_of_ble_eq_true rfl, Nat.le_of_ble_eq_true rfl⟩) hP hD hS hA [10] [0, 1, 2, 3, 4, 5, 6, 7, 8, 9] rfl rfl (by decide +kernel) (by decide +kernel) ?_
  clear hP hD hS
  try clear locs
  try clear H
  intro r_11 u_12 H locs hw_r_11 hP hD hS
  have hw_r_11 : r_11 = smB 0 5 := hw_r_11
  refine W.widen (k := 0) (n := 0) (Nat.le_of_ble_eq_true rfl) (Nat.le_of_ble_eq_true rfl) ?_
  replace hP : va_P D vwCl [(ms, .inl (cs 0, 288, .inl freshS)), (msm, .inl (cs 0, 2, .inl (smF2 a0 (nI 0)))), (mst, .inl (cs 5, 2, .inr (.inr (.inr (.inr fst))))), (st0, .inl (cs 0, 96048, .inl q0)), (st1, .inl (cs 0, 96048, .inl q1)), (mtb, .inl (cs 5, 2, .inr (.inr (.inr (.inr ftb))))), (tb1, .inl (cs 0, 8192, .inl (fun _ => nI 0))), (mti, .inl (cs 6, 2, .inr (.inr (.inr (.inr fti))))), (ti0, .inl (cs 1, 2001, .inr (.inl u0))), (ti1, .inl (cs 1, 2001, .inr (.inl u1))), (hm, .inr (12, [.ref ms, .ref mkp, .int (nI 0), .ref mtr, .int (nI 4), .int (nI 2), .int (nI 2), .int (nI 3), .int (nI 2), .int (nI 1), .ref mas, .int (nI 0), .int (nI 0), .int (nI 0), .ref mso, .ref mon, .ref mot, .ref man, .int (nI 0), .int (nI 0), .ref mst, .ref msm, .ref mtb, .ref mti, .ref mfr, .ref mbn, .ref mbs, .ref mde, .int (nI 0), .int (nI 0), .int (nI 0), .int (nI 0), .long 0, .long 0, .ref maa, .ref mab, .ref mba, .ref mbb]))] H := hP
  replace hD : va_D A [(ms, .inl (cs 0, 288, .inl freshS)), (msm, .inl (cs 0, 2, .inl (smF2 a0 (nI 0)))), (mst, .inl (cs 5, 2, .inr (.inr (.inr (.inr fst))))), (st0, .inl (cs 0, 96048, .inl q0)), (st1, .inl (cs 0, 96048, .inl q1)), (mtb, .inl (cs 5, 2, .inr (.inr (.inr (.inr ftb))))), (tb1, .inl (cs 0, 8192, .inl (fun _ => nI 0))), (mti, .inl (cs 6, 2, .inr (.inr (.inr (.inr fti))))), (ti0, .inl (cs 1, 2001, .inr (.inl u0))), (ti1, .inl (cs 1, 2001, .inr (.inl u1))), (hm, .inr (12, [.ref ms, .ref mkp, .int (nI 0), .ref mtr, .int (nI 4), .int (nI 2), .int (nI 2), .int (nI 3), .int (nI 2), .int (nI 1), .ref mas, .int (nI 0), .int (nI 0), .int (nI 0), .ref mso, .ref mon, .ref mot, .ref man, .int (nI 0), .int (nI 0), .ref mst, .ref msm, .ref mtb, .ref mti, .ref mfr, .ref mbn, .ref mbs, .ref mde, .int (nI 0), .int (nI 0), .int (nI 0), .int (nI 0), .long 0, .long 0, .ref maa, .ref mab, .ref mba, .ref mbb]))] := hD
  obtain rfl : r_11 = nI 0 := by rw [hw_r_11]; decide +kernel
  refine lv_if_ne (tgt := 37) hx hb dX12_spreads_31 (by decide) (fun c => absurd (by decide) c) (fun _ => ?_)
  refine lv_goto (tgt := 108) hx hb dX12_spreads_34 (by decide) ?_
  refine lv_iinc (v := nI 6) (lv' := [(4, .int (nI 6)), (3, .int (nI 0)), (0, .ref hm), (1, .int (nI 0)), (2, .int (nI 0))]) hx hb dX12_spreads_108 hl (k := 0) rfl (by decide) (by decide) rfl ?_
  clear hl
  try clear ls
  intro ls hl
  refine lv_goto (tgt := 13) hx hb dX12_spreads_111 (by decide) ?_
  refine lv_iload hx hb dX12_spreads_13 (lv_at hl 0 rfl) ?_
  refine lv_iconst (v := nI 1) hx hb dX12_spreads_15 (by decide) ?_
  refine lv_aload_n hx hb dX12_spreads_16 rfl (lv_at hl 2 rfl) ?_
  refine xget C hP 10 rfl rfl zuX12 4 (by decide) zw5_217 rfl dX12_spreads_17 ?_
  refine lv_ishl hx hb dX12_spreads_20 ?_
  refine lv_topi (nm_r (e' := nI 16) (by decide) ?_)
  refine lv_icmp_ge (tgt := 114) hx hb dX12_spreads_21 (by decide) (fun c => absurd c (by decide)) (fun _ => ?_)
  refine lv_aload_n hx hb dX12_spreads_24 rfl (lv_at hl 2 rfl) ?_
  refine lv_iload_n hx hb dX12_spreads_25 rfl (lv_at hl 1 rfl) ?_
  refine lv_iload hx hb dX12_spreads_26 (lv_at hl 0 rfl) ?_
  refine xi (wr := [(ms, .inl (cs 0, 288, .inl freshS)), (msm, .inl (cs 0, 2, .inl (smF2 a0 (nI 0)))), (mst, .inl (cs 5, 2, .inr (.inr (.inr (.inr fst))))), (st0, .inl (cs 0, 96048, .inl q0)), (st1, .inl (cs 0, 96048, .inl q1)), (mtb, .inl (cs 5, 2, .inr (.inr (.inr (.inr ftb))))), (tb1, .inl (cs 0, 8192, .inl (fun _ => nI 0))), (mti, .inl (cs 6, 2, .inr (.inr (.inr (.inr fti))))), (ti0, .inl (cs 1, 2001, .inr (.inl u0))), (ti1, .inl (cs 1, 2001, .inr (.inl u1)))]) (xV (As := [.int (nI 0), .int (nI 6)]) (rest := []) C (c_X12_isSample_x l D cs hm ms mkp mtr mas mso mon mot man mst msm mtb mti mfr mbn mbs mde maa mab mba mbb 0 6 (by decide) (by decide)) kX12_139 hP hD [10] rfl (by decide +kernel) 0 rfl rfl rfl ⟨Nat.le_of_ble_eq_true rfl, Nat.le_of_ble_eq_true rfl⟩ rfl hl.1 rfl (Nat.le_of_ble_eq_true rfl) dX12_spreads_28 ⟨Nat.le_of_ble_eq_true rfl, Nat.le_of_ble_eq_true rfl⟩) hP hD hS hA [10] [0, 1, 2, 3, 4, 5, 6, 7, 8, 9] rfl rfl (by decide +kernel) (by decide +kernel) ?_
  clear hP hD hS
  try clear locs
  try clear H
  intro r_13 u_14 H locs hw_r_13 hP hD hS
  have hw_r_13 : r_13 = smB 0 6 := hw_r_13
  refine W.widen (k := 0) (n := 0) (Nat.le_of_ble_eq_true rfl) (Nat.le_of_ble_eq_true rfl) ?_
  replace hP : va_P D vwCl [(ms, .inl (cs 0, 288, .inl freshS)), (msm, .inl (cs 0, 2, .inl (smF2 a0 (nI 0)))), (mst, .inl (cs 5, 2, .inr (.inr (.inr (.inr fst))))), (st0, .inl (cs 0, 96048, .inl q0)), (st1, .inl (cs 0, 96048, .inl q1)), (mtb, .inl (cs 5, 2, .inr (.inr (.inr (.inr ftb))))), (tb1, .inl (cs 0, 8192, .inl (fun _ => nI 0))), (mti, .inl (cs 6, 2, .inr (.inr (.inr (.inr fti))))), (ti0, .inl (cs 1, 2001, .inr (.inl u0))), (ti1, .inl (cs 1, 2001, .inr (.inl u1))), (hm, .inr (12, [.ref ms, .ref mkp, .int (nI 0), .ref mtr, .int (nI 4), .int (nI 2), .int (nI 2), .int (nI 3), .int (nI 2), .int (nI 1), .ref mas, .int (nI 0), .int (nI 0), .int (nI 0), .ref mso, .ref mon, .ref mot, .ref man, .int (nI 0), .int (nI 0), .ref mst, .ref msm, .ref mtb, .ref mti, .ref mfr, .ref mbn, .ref mbs, .ref mde, .int (nI 0), .int (nI 0), .int (nI 0), .int (nI 0), .long 0, .long 0, .ref maa, .ref mab, .ref mba, .ref mbb]))] H := hP
  replace hD : va_D A [(ms, .inl (cs 0, 288, .inl freshS)), (msm, .inl (cs 0, 2, .inl (smF2 a0 (nI 0)))), (mst, .inl (cs 5, 2, .inr (.inr (.inr (.inr fst))))), (st0, .inl (cs 0, 96048, .inl q0)), (st1, .inl (cs 0, 96048, .inl q1)), (mtb, .inl (cs 5, 2, .inr (.inr (.inr (.inr ftb))))), (tb1, .inl (cs 0, 8192, .inl (fun _ => nI 0))), (mti, .inl (cs 6, 2, .inr (.inr (.inr (.inr fti))))), (ti0, .inl (cs 1, 2001, .inr (.inl u0))), (ti1, .inl (cs 1, 2001, .inr (.inl u1))), (hm, .inr (12, [.ref ms, .ref mkp, .int (nI 0), .ref mtr, .int (nI 4), .int (nI 2), .int (nI 2), .int (nI 3), .int (nI 2), .int (nI 1), .ref mas, .int (nI 0), .int (nI 0), .int (nI 0), .ref mso, .ref mon, .ref mot, .ref man, .int (nI 0), .int (nI 0), .ref mst, .ref msm, .ref mtb, .ref mti, .ref mfr, .ref mbn, .ref mbs, .ref mde, .int (nI 0), .int (nI 0), .int (nI 0), .int (nI 0), .long 0, .long 0, .ref maa, .ref mab, .ref mba, .ref mbb]))] := hD
  obtain rfl : r_13 = nI 1 := by rw [hw_r_13]; decide +kernel
  refine lv_if_ne (tgt := 37) hx hb dX12_spreads_31 (by decide) (fun _ => ?_) (fun c => absurd c (by decide))
  refine lv_aload_n hx hb dX12_spreads_37 rfl (lv_at hl 2 rfl) ?_
  refine lv_iload_n hx hb dX12_spreads_38 rfl (lv_at hl 3 rfl) ?_
  refine lv_iload_n hx hb dX12_spreads_39 rfl (lv_at hl 4 rfl) ?_
  refine xv (wr := [(msm, .inl (cs 0, 2, .inl (smF2 a0 (nI 0)))), (st1, .inl (cs 0, 96048, .inl q1)), (mtb, .inl (cs 5, 2, .inr (.inr (.inr (.inr ftb))))), (tb1, .inl (cs 0, 8192, .inl (fun _ => nI 0))), (mti, .inl (cs 6, 2, .inr (.inr (.inr (.inr fti))))), (ti0, .inl (cs 1, 2001, .inr (.inl u0))), (ti1, .inl (cs 1, 2001, .inr (.inl u1)))]) (xV (As := [.int (nI 0), .int (nI 0)]) (rest := []) C (c_X12_brings_0 l D cs hm ms mkp mtr mas mso mon mot man mst msm mtb mti mfr mbn mbs mde maa mab mba mbb st0 fst q0 hf0 hq) kX12_203 hP hD [10, 0, 2, 3] rfl (by decide +kernel) 0 rfl rfl rfl ⟨Nat.le_of_ble_eq_true rfl, Nat.le_of_ble_eq_true rfl⟩ rfl hl.1 rfl (Nat.le_of_ble_eq_true rfl) dX12_spreads_40 ⟨Nat.le_of_ble_eq_true rfl, Nat.le_of_ble_eq_true rfl⟩) hP hD hS hA [10, 0, 2, 3] [1, 4, 5, 6, 7, 8, 9] rfl rfl (by decide +kernel) (by decide +kernel) ?_
  clear hP hD hS
  try clear locs
  try clear H
  intro u_16 H locs hw_r_15 hP hD hS
  refine W.widen (k := 0) (n := 0) (Nat.le_of_ble_eq_true rfl) (Nat.le_of_ble_eq_true rfl) ?_
  replace hP : va_P D vwCl [(msm, .inl (cs 0, 2, .inl (smF2 a0 (nI 0)))), (st1, .inl (cs 0, 96048, .inl q1)), (mtb, .inl (cs 5, 2, .inr (.inr (.inr (.inr ftb))))), (tb1, .inl (cs 0, 8192, .inl (fun _ => nI 0))), (mti, .inl (cs 6, 2, .inr (.inr (.inr (.inr fti))))), (ti0, .inl (cs 1, 2001, .inr (.inl u0))), (ti1, .inl (cs 1, 2001, .inr (.inl u1))), (hm, .inr (12, [.ref ms, .ref mkp, .int (nI 0), .ref mtr, .int (nI 4), .int (nI 2), .int (nI 2), .int (nI 3), .int (nI 2), .int (nI 1), .ref mas, .int (nI 0), .int (nI 0), .int (nI 0), .ref mso, .ref mon, .ref mot, .ref man, .int (nI 0), .int (nI 0), .ref mst, .ref msm, .ref mtb, .ref mti, .ref mfr, .ref mbn, .ref mbs, .ref mde, .int (nI 0), .int (nI 0), .int (nI 0), .int (nI 0), .long 0, .long 0, .ref maa, .ref mab, .ref mba, .ref mbb])), (ms, .inl (cs 0, 288, .inl freshS)), (mst, .inl (cs 5, 2, .inr (.inr (.inr (.inr fst))))), (st0, .inl (cs 0, 96048, .inl q0))] H := hP
  replace hD : va_D A [(msm, .inl (cs 0, 2, .inl (smF2 a0 (nI 0)))), (st1, .inl (cs 0, 96048, .inl q1)), (mtb, .inl (cs 5, 2, .inr (.inr (.inr (.inr ftb))))), (tb1, .inl (cs 0, 8192, .inl (fun _ => nI 0))), (mti, .inl (cs 6, 2, .inr (.inr (.inr (.inr fti))))), (ti0, .inl (cs 1, 2001, .inr (.inl u0))), (ti1, .inl (cs 1, 2001, .inr (.inl u1))), (hm, .inr (12, [.ref ms, .ref mkp, .int (nI 0), .ref mtr, .int (nI 4), .int (nI 2), .int (nI 2), .int (nI 3), .int (nI 2), .int (nI 1), .ref mas, .int (nI 0), .int (nI 0), .int (nI 0), .ref mso, .ref mon, .ref mot, .ref man, .int (nI 0), .int (nI 0), .ref mst, .ref msm, .ref mtb, .ref mti, .ref mfr, .ref mbn, .ref mbs, .ref mde, .int (nI 0), .int (nI 0), .int (nI 0), .int (nI 0), .long 0, .long 0, .ref maa, .ref mab, .ref mba, .ref mbb])), (ms, .inl (cs 0, 288, .inl freshS)), (mst, .inl (cs 5, 2, .inr (.inr (.inr (.inr fst))))), (st0, .inl (cs 0, 96048, .inl q0))] := hD
  refine lv_aload_n hx hb dX12_spreads_43 rfl (lv_at hl 2 rfl) ?_
  refine lv_iload_n hx hb dX12_spreads_44 rfl (lv_at hl 1 rfl) ?_
  refine xi (wr := [(msm, .inl (cs 0, 2, .inl (smF2 a0 (nI 0)))), (st1, .inl (cs 0, 96048, .inl q1)), (mtb, .inl (cs 5, 2, .inr (.inr (.inr (.inr ftb))))), (tb1, .inl (cs 0, 8192, .inl (fun _ => nI 0))), (mti, .inl (cs 6, 2, .inr (.inr (.inr (.inr fti))))), (ti0, .inl (cs 1, 2001, .inr (.inl u0))), (ti1, .inl (cs 1, 2001, .inr (.inl u1))), (mst, .inl (cs 5, 2, .inr (.inr (.inr (.inr fst))))), (st0, .inl (cs 0, 96048, .inl q0))]) (xV (As := [.int (nI 0)]) (rest := []) C (c_X12_canAsk_z l D cs hm ms mkp mtr mas mso mon mot man mst msm mtb mti mfr mbn mbs mde maa mab mba mbb 0 (by decide)) kX12_142 hP hD [7, 8] rfl (by decide +kernel) 0 rfl rfl rfl ⟨Nat.le_of_ble_eq_true rfl, Nat.le_of_ble_eq_true rfl⟩ rfl hl.1 rfl (Nat.le_of_ble_eq_true rfl) dX12_spreads_45 ⟨Nat.le_of_ble_eq_true rfl, Nat.le_of_ble_eq_true rfl⟩) hP hD hS hA [7, 8] [0, 1, 2, 3, 4, 5, 6, 9, 10] rfl rfl (by decide +kernel) (by decide +kernel) ?_
  clear hP hD hS
  try clear locs
  try clear H
  intro r_17 u_18 H locs hw_r_17 hP hD hS
  have hw_r_17 : r_17 = nI 0 := hw_r_17
  refine W.widen (k := 0) (n := 0) (Nat.le_of_ble_eq_true rfl) (Nat.le_of_ble_eq_true rfl) ?_
  replace hP : va_P D vwCl [(msm, .inl (cs 0, 2, .inl (smF2 a0 (nI 0)))), (st1, .inl (cs 0, 96048, .inl q1)), (mtb, .inl (cs 5, 2, .inr (.inr (.inr (.inr ftb))))), (tb1, .inl (cs 0, 8192, .inl (fun _ => nI 0))), (mti, .inl (cs 6, 2, .inr (.inr (.inr (.inr fti))))), (ti0, .inl (cs 1, 2001, .inr (.inl u0))), (ti1, .inl (cs 1, 2001, .inr (.inl u1))), (mst, .inl (cs 5, 2, .inr (.inr (.inr (.inr fst))))), (st0, .inl (cs 0, 96048, .inl q0)), (hm, .inr (12, [.ref ms, .ref mkp, .int (nI 0), .ref mtr, .int (nI 4), .int (nI 2), .int (nI 2), .int (nI 3), .int (nI 2), .int (nI 1), .ref mas, .int (nI 0), .int (nI 0), .int (nI 0), .ref mso, .ref mon, .ref mot, .ref man, .int (nI 0), .int (nI 0), .ref mst, .ref msm, .ref mtb, .ref mti, .ref mfr, .ref mbn, .ref mbs, .ref mde, .int (nI 0), .int (nI 0), .int (nI 0), .int (nI 0), .long 0, .long 0, .ref maa, .ref mab, .ref mba, .ref mbb])), (ms, .inl (cs 0, 288, .inl freshS))] H := hP
  replace hD : va_D A [(msm, .inl (cs 0, 2, .inl (smF2 a0 (nI 0)))), (st1, .inl (cs 0, 96048, .inl q1)), (mtb, .inl (cs 5, 2, .inr (.inr (.inr (.inr ftb))))), (tb1, .inl (cs 0, 8192, .inl (fun _ => nI 0))), (mti, .inl (cs 6, 2, .inr (.inr (.inr (.inr fti))))), (ti0, .inl (cs 1, 2001, .inr (.inl u0))), (ti1, .inl (cs 1, 2001, .inr (.inl u1))), (mst, .inl (cs 5, 2, .inr (.inr (.inr (.inr fst))))), (st0, .inl (cs 0, 96048, .inl q0)), (hm, .inr (12, [.ref ms, .ref mkp, .int (nI 0), .ref mtr, .int (nI 4), .int (nI 2), .int (nI 2), .int (nI 3), .int (nI 2), .int (nI 1), .ref mas, .int (nI 0), .int (nI 0), .int (nI 0), .ref mso, .ref mon, .ref mot, .ref man, .int (nI 0), .int (nI 0), .ref mst, .ref msm, .ref mtb, .ref mti, .ref mfr, .ref mbn, .ref mbs, .ref mde, .int (nI 0), .int (nI 0), .int (nI 0), .int (nI 0), .long 0, .long 0, .ref maa, .ref mab, .ref mba, .ref mbb])), (ms, .inl (cs 0, 288, .inl freshS))] := hD
  subst hw_r_17
  refine lv_if_eq (tgt := 67) hx hb dX12_spreads_48 (by decide) (fun _ => ?_) (fun c => absurd (by decide) c)
  refine lv_aload_n hx hb dX12_spreads_67 rfl (lv_at hl 2 rfl) ?_
  refine lv_iconst (v := nI 1) hx hb dX12_spreads_68 (by decide) ?_
  refine lv_iload_n hx hb dX12_spreads_69 rfl (lv_at hl 3 rfl) ?_
  refine lv_isub hx hb dX12_spreads_70 ?_
  refine lv_topi (nm_r (e' := nI 1) (by decide) ?_)
  refine lv_sipush (v := nI 2000) hx hb dX12_spreads_71 (by decide) ?_
  refine xi (wr := [(ti0, .inl (cs 1, 2001, .inr (.inl u0))), (st0, .inl (cs 0, 96048, .inl q0))]) (xV (As := [.int (nI 1), .int (nI 2000)]) (rest := []) C (c_X12_numberOf_a1 l D cs hm ms mkp mtr mas mso mon mot man mst msm mtb mti mfr mbn mbs mde maa mab mba mbb st1 tb1 ti1 fst ftb fti (smF2 a0 (nI 0)) q1 u1 hf1 hg ht1 rfl) kX12_197 hP hD [9, 10, 0, 7, 1, 2, 3, 4, 6] rfl (by decide +kernel) 0 rfl rfl rfl ⟨Nat.le_of_ble_eq_true rfl, Nat.le_of_ble_eq_true rfl⟩ rfl hl.1 rfl (Nat.le_of_ble_eq_true rfl) dX12_spreads_74 ⟨Nat.le_of_ble_eq_true rfl, Nat.le_of_ble_eq_true rfl⟩) hP hD hS hA [9, 10, 0, 7, 1, 2, 3, 4, 6] [5, 8] rfl rfl (by decide +kernel) (by decide +kernel) ?_
  clear hP hD hS
  try clear locs
  try clear H
  intro r_19 u_20 H locs hw_r_19 hP hD hS
  have hw_r_19 : r_19 = nI 0 := hw_r_19
  refine W.widen (k := 0) (n := 0) (Nat.le_of_ble_eq_true rfl) (Nat.le_of_ble_eq_true rfl) ?_
  replace hP : va_P D vwCl [(ti0, .inl (cs 1, 2001, .inr (.inl u0))), (st0, .inl (cs 0, 96048, .inl q0)), (hm, .inr (12, [.ref ms, .ref mkp, .int (nI 0), .ref mtr, .int (nI 4), .int (nI 2), .int (nI 2), .int (nI 3), .int (nI 2), .int (nI 1), .ref mas, .int (nI 0), .int (nI 0), .int (nI 0), .ref mso, .ref mon, .ref mot, .ref man, .int (nI 0), .int (nI 0), .ref mst, .ref msm, .ref mtb, .ref mti, .ref mfr, .ref mbn, .ref mbs, .ref mde, .int (nI 0), .int (nI 0), .int (nI 0), .int (nI 0), .long 0, .long 0, .ref maa, .ref mab, .ref mba, .ref mbb])), (ms, .inl (cs 0, 288, .inl freshS)), (msm, .inl (cs 0, 2, .inl (upd (smF2 a0 (nI 0)) 1 (nI 1)))), (mst, .inl (cs 5, 2, .inr (.inr (.inr (.inr fst))))), (st1, .inl (cs 0, 96048, .inl (cpF freshS q1 48))), (mtb, .inl (cs 5, 2, .inr (.inr (.inr (.inr ftb))))), (tb1, .inl (cs 0, 8192, .inl (upd (fun _ => nI 0) 965 (nI 1)))), (mti, .inl (cs 6, 2, .inr (.inr (.inr (.inr fti))))), (ti1, .inl (cs 1, 2001, .inr (.inl (vp_updL u1 0 0))))] H := hP
  replace hD : va_D A [(ti0, .inl (cs 1, 2001, .inr (.inl u0))), (st0, .inl (cs 0, 96048, .inl q0)), (hm, .inr (12, [.ref ms, .ref mkp, .int (nI 0), .ref mtr, .int (nI 4), .int (nI 2), .int (nI 2), .int (nI 3), .int (nI 2), .int (nI 1), .ref mas, .int (nI 0), .int (nI 0), .int (nI 0), .ref mso, .ref mon, .ref mot, .ref man, .int (nI 0), .int (nI 0), .ref mst, .ref msm, .ref mtb, .ref mti, .ref mfr, .ref mbn, .ref mbs, .ref mde, .int (nI 0), .int (nI 0), .int (nI 0), .int (nI 0), .long 0, .long 0, .ref maa, .ref mab, .ref mba, .ref mbb])), (ms, .inl (cs 0, 288, .inl freshS)), (msm, .inl (cs 0, 2, .inl (upd (smF2 a0 (nI 0)) 1 (nI 1)))), (mst, .inl (cs 5, 2, .inr (.inr (.inr (.inr fst))))), (st1, .inl (cs 0, 96048, .inl (cpF freshS q1 48))), (mtb, .inl (cs 5, 2, .inr (.inr (.inr (.inr ftb))))), (tb1, .inl (cs 0, 8192, .inl (upd (fun _ => nI 0) 965 (nI 1)))), (mti, .inl (cs 6, 2, .inr (.inr (.inr (.inr fti))))), (ti1, .inl (cs 1, 2001, .inr (.inl (vp_updL u1 0 0))))] := hD
  subst hw_r_19
  have hPD := xcongi (q0 := 4) (smF2 a0 (nI 1)) hP hD rfl (fun j hj => smF2_1 a0 (nI 0) (nI 1) j hj)
  clear hP hD
  obtain ⟨hP, hD⟩ := hPD
  replace hP : va_P D vwCl [(ti0, .inl (cs 1, 2001, .inr (.inl u0))), (st0, .inl (cs 0, 96048, .inl q0)), (hm, .inr (12, [.ref ms, .ref mkp, .int (nI 0), .ref mtr, .int (nI 4), .int (nI 2), .int (nI 2), .int (nI 3), .int (nI 2), .int (nI 1), .ref mas, .int (nI 0), .int (nI 0), .int (nI 0), .ref mso, .ref mon, .ref mot, .ref man, .int (nI 0), .int (nI 0), .ref mst, .ref msm, .ref mtb, .ref mti, .ref mfr, .ref mbn, .ref mbs, .ref mde, .int (nI 0), .int (nI 0), .int (nI 0), .int (nI 0), .long 0, .long 0, .ref maa, .ref mab, .ref mba, .ref mbb])), (ms, .inl (cs 0, 288, .inl freshS)), (msm, .inl (cs 0, 2, .inl (smF2 a0 (nI 1)))), (mst, .inl (cs 5, 2, .inr (.inr (.inr (.inr fst))))), (st1, .inl (cs 0, 96048, .inl (cpF freshS q1 48))), (mtb, .inl (cs 5, 2, .inr (.inr (.inr (.inr ftb))))), (tb1, .inl (cs 0, 8192, .inl (upd (fun _ => nI 0) 965 (nI 1)))), (mti, .inl (cs 6, 2, .inr (.inr (.inr (.inr fti))))), (ti1, .inl (cs 1, 2001, .inr (.inl (vp_updL u1 0 0))))] H := hP
  replace hD : va_D A [(ti0, .inl (cs 1, 2001, .inr (.inl u0))), (st0, .inl (cs 0, 96048, .inl q0)), (hm, .inr (12, [.ref ms, .ref mkp, .int (nI 0), .ref mtr, .int (nI 4), .int (nI 2), .int (nI 2), .int (nI 3), .int (nI 2), .int (nI 1), .ref mas, .int (nI 0), .int (nI 0), .int (nI 0), .ref mso, .ref mon, .ref mot, .ref man, .int (nI 0), .int (nI 0), .ref mst, .ref msm, .ref mtb, .ref mti, .ref mfr, .ref mbn, .ref mbs, .ref mde, .int (nI 0), .int (nI 0), .int (nI 0), .int (nI 0), .long 0, .long 0, .ref maa, .ref mab, .ref mba, .ref mbb])), (ms, .inl (cs 0, 288, .inl freshS)), (msm, .inl (cs 0, 2, .inl (smF2 a0 (nI 1)))), (mst, .inl (cs 5, 2, .inr (.inr (.inr (.inr fst))))), (st1, .inl (cs 0, 96048, .inl (cpF freshS q1 48))), (mtb, .inl (cs 5, 2, .inr (.inr (.inr (.inr ftb))))), (tb1, .inl (cs 0, 8192, .inl (upd (fun _ => nI 0) 965 (nI 1)))), (mti, .inl (cs 6, 2, .inr (.inr (.inr (.inr fti))))), (ti1, .inl (cs 1, 2001, .inr (.inl (vp_updL u1 0 0))))] := hD
  refine lv_istore (lv' := [(5, .int (nI 0)), (4, .int (nI 6)), (3, .int (nI 0)), (0, .ref hm), (1, .int (nI 0)), (2, .int (nI 0))]) hx hb dX12_spreads_77 hl (by decide) rfl ?_
  clear hl
  try clear ls
  intro ls hl
  refine lv_iload hx hb dX12_spreads_79 (lv_at hl 0 rfl) ?_
  refine lv_if_ge (tgt := 86) hx hb dX12_spreads_81 (by decide) (fun _ => ?_) (fun c => absurd (by decide) c)
  refine lv_aload_n hx hb dX12_spreads_86 rfl (lv_at hl 3 rfl) ?_
  refine xget C hP 2 rfl rfl zuX12 23 (by decide) zw5_236 rfl dX12_spreads_87 ?_
  refine lv_iconst (v := nI 1) hx hb dX12_spreads_90 (by decide) ?_
  refine lv_iload_n hx hb dX12_spreads_91 rfl (lv_at hl 4 rfl) ?_
  refine lv_isub hx hb dX12_spreads_92 ?_
  refine lv_topi (nm_r (e' := nI 1) (by decide) ?_)
  refine xaald C hP 9 6 rfl rfl rfl 1 rfl (by decide) (by decide) ht1 dX12_spreads_93 ?_
  refine lv_iload hx hb dX12_spreads_94 (lv_at hl 0 rfl) ?_
  refine lv_dup2_11 hx hb dX12_spreads_96 rfl rfl ?_
  refine xlald C hP 10 rfl 0 rfl (by decide) (by decide) dX12_spreads_97 ?_
  refine lv_topl (nm_r (e' := (0 : Int64)) (upL_0 _ _) ?_)
  refine lv_aload_n hx hb dX12_spreads_98 rfl (lv_at hl 3 rfl) ?_
  refine xget C hP 2 rfl rfl zuX12 23 (by decide) zw5_236 rfl dX12_spreads_99 ?_
  refine lv_iload_n hx hb dX12_spreads_102 rfl (lv_at hl 4 rfl) ?_
  refine xaald C hP 9 6 rfl rfl rfl 0 rfl (by decide) (by decide) ht0 dX12_spreads_103 ?_
  refine lv_iload_n hx hb dX12_spreads_104 rfl (lv_at hl 5 rfl) ?_
  refine xlald C hP 0 rfl 0 rfl (by decide) (by decide) dX12_spreads_105 ?_
  refine lv_topl (nm_r (e' := lN ww) hw ?_)
  refine lv_ladd hx hb dX12_spreads_106 ?_
  refine lv_topl (nm_r (e' := lN (ww * 1)) (lN_a0 ww) ?_)
  refine xlast C hP hD hS 10 rfl 0 rfl (by decide) (by decide) dX12_spreads_107 ?_
  clear hP hD hS
  try clear locs
  try clear H
  intro H locs hP hD hS
  replace hP : va_P D vwCl [(ti0, .inl (cs 1, 2001, .inr (.inl u0))), (st0, .inl (cs 0, 96048, .inl q0)), (hm, .inr (12, [.ref ms, .ref mkp, .int (nI 0), .ref mtr, .int (nI 4), .int (nI 2), .int (nI 2), .int (nI 3), .int (nI 2), .int (nI 1), .ref mas, .int (nI 0), .int (nI 0), .int (nI 0), .ref mso, .ref mon, .ref mot, .ref man, .int (nI 0), .int (nI 0), .ref mst, .ref msm, .ref mtb, .ref mti, .ref mfr, .ref mbn, .ref mbs, .ref mde, .int (nI 0), .int (nI 0), .int (nI 0), .int (nI 0), .long 0, .long 0, .ref maa, .ref mab, .ref mba, .ref mbb])), (ms, .inl (cs 0, 288, .inl freshS)), (msm, .inl (cs 0, 2, .inl (smF2 a0 (nI 1)))), (mst, .inl (cs 5, 2, .inr (.inr (.inr (.inr fst))))), (st1, .inl (cs 0, 96048, .inl (cpF freshS q1 48))), (mtb, .inl (cs 5, 2, .inr (.inr (.inr (.inr ftb))))), (tb1, .inl (cs 0, 8192, .inl (upd (fun _ => nI 0) 965 (nI 1)))), (mti, .inl (cs 6, 2, .inr (.inr (.inr (.inr fti))))), (ti1, .inl (cs 1, 2001, .inr (.inl (vp_updL (vp_updL u1 0 0) 0 (lN (ww * 1))))))] H := hP
  replace hD : va_D A [(ti0, .inl (cs 1, 2001, .inr (.inl u0))), (st0, .inl (cs 0, 96048, .inl q0)), (hm, .inr (12, [.ref ms, .ref mkp, .int (nI 0), .ref mtr, .int (nI 4), .int (nI 2), .int (nI 2), .int (nI 3), .int (nI 2), .int (nI 1), .ref mas, .int (nI 0), .int (nI 0), .int (nI 0), .ref mso, .ref mon, .ref mot, .ref man, .int (nI 0), .int (nI 0), .ref mst, .ref msm, .ref mtb, .ref mti, .ref mfr, .ref mbn, .ref mbs, .ref mde, .int (nI 0), .int (nI 0), .int (nI 0), .int (nI 0), .long 0, .long 0, .ref maa, .ref mab, .ref mba, .ref mbb])), (ms, .inl (cs 0, 288, .inl freshS)), (msm, .inl (cs 0, 2, .inl (smF2 a0 (nI 1)))), (mst, .inl (cs 5, 2, .inr (.inr (.inr (.inr fst))))), (st1, .inl (cs 0, 96048, .inl (cpF freshS q1 48))), (mtb, .inl (cs 5, 2, .inr (.inr (.inr (.inr ftb))))), (tb1, .inl (cs 0, 8192, .inl (upd (fun _ => nI 0) 965 (nI 1)))), (mti, .inl (cs 6, 2, .inr (.inr (.inr (.inr fti))))), (ti1, .inl (cs 1, 2001, .inr (.inl (vp_updL (vp_updL u1 0 0) 0 (lN (ww * 1))))))] := hD
  have hPD := xcongl (q0 := 10) (vp_updL u1 0 (lN (ww * 1))) hP hD rfl (fun j hj => upL_1 u1 _ _ j)
  clear hP hD
  obtain ⟨hP, hD⟩ := hPD
  replace hP : va_P D vwCl [(ti0, .inl (cs 1, 2001, .inr (.inl u0))), (st0, .inl (cs 0, 96048, .inl q0)), (hm, .inr (12, [.ref ms, .ref mkp, .int (nI 0), .ref mtr, .int (nI 4), .int (nI 2), .int (nI 2), .int (nI 3), .int (nI 2), .int (nI 1), .ref mas, .int (nI 0), .int (nI 0), .int (nI 0), .ref mso, .ref mon, .ref mot, .ref man, .int (nI 0), .int (nI 0), .ref mst, .ref msm, .ref mtb, .ref mti, .ref mfr, .ref mbn, .ref mbs, .ref mde, .int (nI 0), .int (nI 0), .int (nI 0), .int (nI 0), .long 0, .long 0, .ref maa, .ref mab, .ref mba, .ref mbb])), (ms, .inl (cs 0, 288, .inl freshS)), (msm, .inl (cs 0, 2, .inl (smF2 a0 (nI 1)))), (mst, .inl (cs 5, 2, .inr (.inr (.inr (.inr fst))))), (st1, .inl (cs 0, 96048, .inl (cpF freshS q1 48))), (mtb, .inl (cs 5, 2, .inr (.inr (.inr (.inr ftb))))), (tb1, .inl (cs 0, 8192, .inl (upd (fun _ => nI 0) 965 (nI 1)))), (mti, .inl (cs 6, 2, .inr (.inr (.inr (.inr fti))))), (ti1, .inl (cs 1, 2001, .inr (.inl (vp_updL u1 0 (lN (ww * 1))))))] H := hP
  replace hD : va_D A [(ti0, .inl (cs 1, 2001, .inr (.inl u0))), (st0, .inl (cs 0, 96048, .inl q0)), (hm, .inr (12, [.ref ms, .ref mkp, .int (nI 0), .ref mtr, .int (nI 4), .int (nI 2), .int (nI 2), .int (nI 3), .int (nI 2), .int (nI 1), .ref mas, .int (nI 0), .int (nI 0), .int (nI 0), .ref mso, .ref mon, .ref mot, .ref man, .int (nI 0), .int (nI 0), .ref mst, .ref msm, .ref mtb, .ref mti, .ref mfr, .ref mbn, .ref mbs, .ref mde, .int (nI 0), .int (nI 0), .int (nI 0), .int (nI 0), .long 0, .long 0, .ref maa, .ref mab, .ref mba, .ref mbb])), (ms, .inl (cs 0, 288, .inl freshS)), (msm, .inl (cs 0, 2, .inl (smF2 a0 (nI 1)))), (mst, .inl (cs 5, 2, .inr (.inr (.inr (.inr fst))))), (st1, .inl (cs 0, 96048, .inl (cpF freshS q1 48))), (mtb, .inl (cs 5, 2, .inr (.inr (.inr (.inr ftb))))), (tb1, .inl (cs 0, 8192, .inl (upd (fun _ => nI 0) 965 (nI 1)))), (mti, .inl (cs 6, 2, .inr (.inr (.inr (.inr fti))))), (ti1, .inl (cs 1, 2001, .inr (.inl (vp_updL u1 0 (lN (ww * 1))))))] := hD
  refine lv_iinc (v := nI 7) (lv' := [(4, .int (nI 7)), (5, .int (nI 0)), (3, .int (nI 0)), (0, .ref hm), (1, .int (nI 0)), (2, .int (nI 0))]) hx hb dX12_spreads_108 hl (k := 1) rfl (by decide) (by decide) rfl ?_
  clear hl
  try clear ls
  intro ls hl
  refine lv_goto (tgt := 13) hx hb dX12_spreads_111 (by decide) ?_
  refine lv_iload hx hb dX12_spreads_13 (lv_at hl 0 rfl) ?_
  refine lv_iconst (v := nI 1) hx hb dX12_spreads_15 (by decide) ?_
  refine lv_aload_n hx hb dX12_spreads_16 rfl (lv_at hl 3 rfl) ?_
  refine xget C hP 2 rfl rfl zuX12 4 (by decide) zw5_217 rfl dX12_spreads_17 ?_
  refine lv_ishl hx hb dX12_spreads_20 ?_
  refine lv_topi (nm_r (e' := nI 16) (by decide) ?_)
  refine lv_icmp_ge (tgt := 114) hx hb dX12_spreads_21 (by decide) (fun c => absurd c (by decide)) (fun _ => ?_)
  refine lv_aload_n hx hb dX12_spreads_24 rfl (lv_at hl 3 rfl) ?_
  refine lv_iload_n hx hb dX12_spreads_25 rfl (lv_at hl 2 rfl) ?_
  refine lv_iload hx hb dX12_spreads_26 (lv_at hl 0 rfl) ?_
  refine xi (wr := [(ti0, .inl (cs 1, 2001, .inr (.inl u0))), (st0, .inl (cs 0, 96048, .inl q0)), (ms, .inl (cs 0, 288, .inl freshS)), (msm, .inl (cs 0, 2, .inl (smF2 a0 (nI 1)))), (mst, .inl (cs 5, 2, .inr (.inr (.inr (.inr fst))))), (st1, .inl (cs 0, 96048, .inl (cpF freshS q1 48))), (mtb, .inl (cs 5, 2, .inr (.inr (.inr (.inr ftb))))), (tb1, .inl (cs 0, 8192, .inl (upd (fun _ => nI 0) 965 (nI 1)))), (mti, .inl (cs 6, 2, .inr (.inr (.inr (.inr fti))))), (ti1, .inl (cs 1, 2001, .inr (.inl (vp_updL u1 0 (lN (ww * 1))))))]) (xV (As := [.int (nI 0), .int (nI 7)]) (rest := []) C (c_X12_isSample_x l D cs hm ms mkp mtr mas mso mon mot man mst msm mtb mti mfr mbn mbs mde maa mab mba mbb 0 7 (by decide) (by decide)) kX12_139 hP hD [2] rfl (by decide +kernel) 0 rfl rfl rfl ⟨Nat.le_of_ble_eq_true rfl, Nat.le_of_ble_eq_true rfl⟩ rfl hl.1 rfl (Nat.le_of_ble_eq_true rfl) dX12_spreads_28 ⟨Nat.le_of_ble_eq_true rfl, Nat.le_of_ble_eq_true rfl⟩) hP hD hS hA [2] [0, 1, 3, 4, 5, 6, 7, 8, 9, 10] rfl rfl (by decide +kernel) (by decide +kernel) ?_
  clear hP hD hS
  try clear locs
  try clear H
  intro r_21 u_22 H locs hw_r_21 hP hD hS
  have hw_r_21 : r_21 = smB 0 7 := hw_r_21
  refine W.widen (k := 0) (n := 0) (Nat.le_of_ble_eq_true rfl) (Nat.le_of_ble_eq_true rfl) ?_
  replace hP : va_P D vwCl [(ti0, .inl (cs 1, 2001, .inr (.inl u0))), (st0, .inl (cs 0, 96048, .inl q0)), (ms, .inl (cs 0, 288, .inl freshS)), (msm, .inl (cs 0, 2, .inl (smF2 a0 (nI 1)))), (mst, .inl (cs 5, 2, .inr (.inr (.inr (.inr fst))))), (st1, .inl (cs 0, 96048, .inl (cpF freshS q1 48))), (mtb, .inl (cs 5, 2, .inr (.inr (.inr (.inr ftb))))), (tb1, .inl (cs 0, 8192, .inl (upd (fun _ => nI 0) 965 (nI 1)))), (mti, .inl (cs 6, 2, .inr (.inr (.inr (.inr fti))))), (ti1, .inl (cs 1, 2001, .inr (.inl (vp_updL u1 0 (lN (ww * 1)))))), (hm, .inr (12, [.ref ms, .ref mkp, .int (nI 0), .ref mtr, .int (nI 4), .int (nI 2), .int (nI 2), .int (nI 3), .int (nI 2), .int (nI 1), .ref mas, .int (nI 0), .int (nI 0), .int (nI 0), .ref mso, .ref mon, .ref mot, .ref man, .int (nI 0), .int (nI 0), .ref mst, .ref msm, .ref mtb, .ref mti, .ref mfr, .ref mbn, .ref mbs, .ref mde, .int (nI 0), .int (nI 0), .int (nI 0), .int (nI 0), .long 0, .long 0, .ref maa, .ref mab, .ref mba, .ref mbb]))] H := hP
  replace hD : va_D A [(ti0, .inl (cs 1, 2001, .inr (.inl u0))), (st0, .inl (cs 0, 96048, .inl q0)), (ms, .inl (cs 0, 288, .inl freshS)), (msm, .inl (cs 0, 2, .inl (smF2 a0 (nI 1)))), (mst, .inl (cs 5, 2, .inr (.inr (.inr (.inr fst))))), (st1, .inl (cs 0, 96048, .inl (cpF freshS q1 48))), (mtb, .inl (cs 5, 2, .inr (.inr (.inr (.inr ftb))))), (tb1, .inl (cs 0, 8192, .inl (upd (fun _ => nI 0) 965 (nI 1)))), (mti, .inl (cs 6, 2, .inr (.inr (.inr (.inr fti))))), (ti1, .inl (cs 1, 2001, .inr (.inl (vp_updL u1 0 (lN (ww * 1)))))), (hm, .inr (12, [.ref ms, .ref mkp, .int (nI 0), .ref mtr, .int (nI 4), .int (nI 2), .int (nI 2), .int (nI 3), .int (nI 2), .int (nI 1), .ref mas, .int (nI 0), .int (nI 0), .int (nI 0), .ref mso, .ref mon, .ref mot, .ref man, .int (nI 0), .int (nI 0), .ref mst, .ref msm, .ref mtb, .ref mti, .ref mfr, .ref mbn, .ref mbs, .ref mde, .int (nI 0), .int (nI 0), .int (nI 0), .int (nI 0), .long 0, .long 0, .ref maa, .ref mab, .ref mba, .ref mbb]))] := hD
  obtain rfl : r_21 = nI 0 := by rw [hw_r_21]; decide +kernel
  refine lv_if_ne (tgt := 37) hx hb dX12_spreads_31 (by decide) (fun c => absurd (by decide) c) (fun _ => ?_)
  refine lv_goto (tgt := 108) hx hb dX12_spreads_34 (by decide) ?_
  refine lv_iinc (v := nI 8) (lv' := [(4, .int (nI 8)), (5, .int (nI 0)), (3, .int (nI 0)), (0, .ref hm), (1, .int (nI 0)), (2, .int (nI 0))]) hx hb dX12_spreads_108 hl (k := 0) rfl (by decide) (by decide) rfl ?_
  clear hl
  try clear ls
  intro ls hl
  refine lv_goto (tgt := 13) hx hb dX12_spreads_111 (by decide) ?_
  refine lv_iload hx hb dX12_spreads_13 (lv_at hl 0 rfl) ?_
  refine lv_iconst (v := nI 1) hx hb dX12_spreads_15 (by decide) ?_
  refine lv_aload_n hx hb dX12_spreads_16 rfl (lv_at hl 3 rfl) ?_
  refine xget C hP 10 rfl rfl zuX12 4 (by decide) zw5_217 rfl dX12_spreads_17 ?_
  refine lv_ishl hx hb dX12_spreads_20 ?_
  refine lv_topi (nm_r (e' := nI 16) (by decide) ?_)
  refine lv_icmp_ge (tgt := 114) hx hb dX12_spreads_21 (by decide) (fun c => absurd c (by decide)) (fun _ => ?_)
  refine lv_aload_n hx hb dX12_spreads_24 rfl (lv_at hl 3 rfl) ?_
  refine lv_iload_n hx hb dX12_spreads_25 rfl (lv_at hl 2 rfl) ?_
  refine lv_iload hx hb dX12_spreads_26 (lv_at hl 0 rfl) ?_
  refine xi (wr := [(ti0, .inl (cs 1, 2001, .inr (.inl u0))), (st0, .inl (cs 0, 96048, .inl q0)), (ms, .inl (cs 0, 288, .inl freshS)), (msm, .inl (cs 0, 2, .inl (smF2 a0 (nI 1)))), (mst, .inl (cs 5, 2, .inr (.inr (.inr (.inr fst))))), (st1, .inl (cs 0, 96048, .inl (cpF freshS q1 48))), (mtb, .inl (cs 5, 2, .inr (.inr (.inr (.inr ftb))))), (tb1, .inl (cs 0, 8192, .inl (upd (fun _ => nI 0) 965 (nI 1)))), (mti, .inl (cs 6, 2, .inr (.inr (.inr (.inr fti))))), (ti1, .inl (cs 1, 2001, .inr (.inl (vp_updL u1 0 (lN (ww * 1))))))]) (xV (As := [.int (nI 0), .int (nI 8)]) (rest := []) C (c_X12_isSample_x l D cs hm ms mkp mtr mas mso mon mot man mst msm mtb mti mfr mbn mbs mde maa mab mba mbb 0 8 (by decide) (by decide)) kX12_139 hP hD [10] rfl (by decide +kernel) 0 rfl rfl rfl ⟨Nat.le_of_ble_eq_true rfl, Nat.le_of_ble_eq_true rfl⟩ rfl hl.1 rfl (Nat.le_of_ble_eq_true rfl) dX12_spreads_28 ⟨Nat.le_of_ble_eq_true rfl, Nat.le_of_ble_eq_true rfl⟩) hP hD hS hA [10] [0, 1, 2, 3, 4, 5, 6, 7, 8, 9] rfl rfl (by decide +kernel) (by decide +kernel) ?_
  clear hP hD hS
  try clear locs
  try clear H
  intro r_23 u_24 H locs hw_r_23 hP hD hS
  have hw_r_23 : r_23 = smB 0 8 := hw_r_23
  refine W.widen (k := 0) (n := 0) (Nat.le_of_ble_eq_true rfl) (Nat.le_of_ble_eq_true rfl) ?_
  replace hP : va_P D vwCl [(ti0, .inl (cs 1, 2001, .inr (.inl u0))), (st0, .inl (cs 0, 96048, .inl q0)), (ms, .inl (cs 0, 288, .inl freshS)), (msm, .inl (cs 0, 2, .inl (smF2 a0 (nI 1)))), (mst, .inl (cs 5, 2, .inr (.inr (.inr (.inr fst))))), (st1, .inl (cs 0, 96048, .inl (cpF freshS q1 48))), (mtb, .inl (cs 5, 2, .inr (.inr (.inr (.inr ftb))))), (tb1, .inl (cs 0, 8192, .inl (upd (fun _ => nI 0) 965 (nI 1)))), (mti, .inl (cs 6, 2, .inr (.inr (.inr (.inr fti))))), (ti1, .inl (cs 1, 2001, .inr (.inl (vp_updL u1 0 (lN (ww * 1)))))), (hm, .inr (12, [.ref ms, .ref mkp, .int (nI 0), .ref mtr, .int (nI 4), .int (nI 2), .int (nI 2), .int (nI 3), .int (nI 2), .int (nI 1), .ref mas, .int (nI 0), .int (nI 0), .int (nI 0), .ref mso, .ref mon, .ref mot, .ref man, .int (nI 0), .int (nI 0), .ref mst, .ref msm, .ref mtb, .ref mti, .ref mfr, .ref mbn, .ref mbs, .ref mde, .int (nI 0), .int (nI 0), .int (nI 0), .int (nI 0), .long 0, .long 0, .ref maa, .ref mab, .ref mba, .ref mbb]))] H := hP
  replace hD : va_D A [(ti0, .inl (cs 1, 2001, .inr (.inl u0))), (st0, .inl (cs 0, 96048, .inl q0)), (ms, .inl (cs 0, 288, .inl freshS)), (msm, .inl (cs 0, 2, .inl (smF2 a0 (nI 1)))), (mst, .inl (cs 5, 2, .inr (.inr (.inr (.inr fst))))), (st1, .inl (cs 0, 96048, .inl (cpF freshS q1 48))), (mtb, .inl (cs 5, 2, .inr (.inr (.inr (.inr ftb))))), (tb1, .inl (cs 0, 8192, .inl (upd (fun _ => nI 0) 965 (nI 1)))), (mti, .inl (cs 6, 2, .inr (.inr (.inr (.inr fti))))), (ti1, .inl (cs 1, 2001, .inr (.inl (vp_updL u1 0 (lN (ww * 1)))))), (hm, .inr (12, [.ref ms, .ref mkp, .int (nI 0), .ref mtr, .int (nI 4), .int (nI 2), .int (nI 2), .int (nI 3), .int (nI 2), .int (nI 1), .ref mas, .int (nI 0), .int (nI 0), .int (nI 0), .ref mso, .ref mon, .ref mot, .ref man, .int (nI 0), .int (nI 0), .ref mst, .ref msm, .ref mtb, .ref mti, .ref mfr, .ref mbn, .ref mbs, .ref mde, .int (nI 0), .int (nI 0), .int (nI 0), .int (nI 0), .long 0, .long 0, .ref maa, .ref mab, .ref mba, .ref mbb]))] := hD
  obtain rfl : r_23 = nI 0 := by rw [hw_r_23]; decide +kernel
  refine lv_if_ne (tgt := 37) hx hb dX12_spreads_31 (by decide) (fun c => absurd (by decide) c) (fun _ => ?_)
  refine lv_goto (tgt := 108) hx hb dX12_spreads_34 (by decide) ?_
  refine lv_iinc (v := nI 9) (lv' := [(4, .int (nI 9)), (5, .int (nI 0)), (3, .int (nI 0)), (0, .ref hm), (1, .int (nI 0)), (2, .int (nI 0))]) hx hb dX12_spreads_108 hl (k := 0) rfl (by decide) (by decide) rfl ?_
  clear hl
  try clear ls
  intro ls hl
  refine lv_goto (tgt := 13) hx hb dX12_spreads_111 (by decide) ?_
  refine lv_iload hx hb dX12_spreads_13 (lv_at hl 0 rfl) ?_
  refine lv_iconst (v := nI 1) hx hb dX12_spreads_15 (by decide) ?_
  refine lv_aload_n hx hb dX12_spreads_16 rfl (lv_at hl 3 rfl) ?_
  refine xget C hP 10 rfl rfl zuX12 4 (by decide) zw5_217 rfl dX12_spreads_17 ?_
  refine lv_ishl hx hb dX12_spreads_20 ?_
  refine lv_topi (nm_r (e' := nI 16) (by decide) ?_)
  refine lv_icmp_ge (tgt := 114) hx hb dX12_spreads_21 (by decide) (fun c => absurd c (by decide)) (fun _ => ?_)
  refine lv_aload_n hx hb dX12_spreads_24 rfl (lv_at hl 3 rfl) ?_
  refine lv_iload_n hx hb dX12_spreads_25 rfl (lv_at hl 2 rfl) ?_
  refine lv_iload hx hb dX12_spreads_26 (lv_at hl 0 rfl) ?_
  refine xi (wr := [(ti0, .inl (cs 1, 2001, .inr (.inl u0))), (st0, .inl (cs 0, 96048, .inl q0)), (ms, .inl (cs 0, 288, .inl freshS)), (msm, .inl (cs 0, 2, .inl (smF2 a0 (nI 1)))), (mst, .inl (cs 5, 2, .inr (.inr (.inr (.inr fst))))), (st1, .inl (cs 0, 96048, .inl (cpF freshS q1 48))), (mtb, .inl (cs 5, 2, .inr (.inr (.inr (.inr ftb))))), (tb1, .inl (cs 0, 8192, .inl (upd (fun _ => nI 0) 965 (nI 1)))), (mti, .inl (cs 6, 2, .inr (.inr (.inr (.inr fti))))), (ti1, .inl (cs 1, 2001, .inr (.inl (vp_updL u1 0 (lN (ww * 1))))))]) (xV (As := [.int (nI 0), .int (nI 9)]) (rest := []) C (c_X12_isSample_x l D cs hm ms mkp mtr mas mso mon mot man mst msm mtb mti mfr mbn mbs mde maa mab mba mbb 0 9 (by decide) (by decide)) kX12_139 hP hD [10] rfl (by decide +kernel) 0 rfl rfl rfl ⟨Nat.le_of_ble_eq_true rfl, Nat.le_of_ble_eq_true rfl⟩ rfl hl.1 rfl (Nat.le_of_ble_eq_true rfl) dX12_spreads_28 ⟨Nat.le_of_ble_eq_true rfl, Nat.le_of_ble_eq_true rfl⟩) hP hD hS hA [10] [0, 1, 2, 3, 4, 5, 6, 7, 8, 9] rfl rfl (by decide +kernel) (by decide +kernel) ?_
  clear hP hD hS
  try clear locs
  try clear H
  intro r_25 u_26 H locs hw_r_25 hP hD hS
  have hw_r_25 : r_25 = smB 0 9 := hw_r_25
  refine W.widen (k := 0) (n := 0) (Nat.le_of_ble_eq_true rfl) (Nat.le_of_ble_eq_true rfl) ?_
  replace hP : va_P D vwCl [(ti0, .inl (cs 1, 2001, .inr (.inl u0))), (st0, .inl (cs 0, 96048, .inl q0)), (ms, .inl (cs 0, 288, .inl freshS)), (msm, .inl (cs 0, 2, .inl (smF2 a0 (nI 1)))), (mst, .inl (cs 5, 2, .inr (.inr (.inr (.inr fst))))), (st1, .inl (cs 0, 96048, .inl (cpF freshS q1 48))), (mtb, .inl (cs 5, 2, .inr (.inr (.inr (.inr ftb))))), (tb1, .inl (cs 0, 8192, .inl (upd (fun _ => nI 0) 965 (nI 1)))), (mti, .inl (cs 6, 2, .inr (.inr (.inr (.inr fti))))), (ti1, .inl (cs 1, 2001, .inr (.inl (vp_updL u1 0 (lN (ww * 1)))))), (hm, .inr (12, [.ref ms, .ref mkp, .int (nI 0), .ref mtr, .int (nI 4), .int (nI 2), .int (nI 2), .int (nI 3), .int (nI 2), .int (nI 1), .ref mas, .int (nI 0), .int (nI 0), .int (nI 0), .ref mso, .ref mon, .ref mot, .ref man, .int (nI 0), .int (nI 0), .ref mst, .ref msm, .ref mtb, .ref mti, .ref mfr, .ref mbn, .ref mbs, .ref mde, .int (nI 0), .int (nI 0), .int (nI 0), .int (nI 0), .long 0, .long 0, .ref maa, .ref mab, .ref mba, .ref mbb]))] H := hP
  replace hD : va_D A [(ti0, .inl (cs 1, 2001, .inr (.inl u0))), (st0, .inl (cs 0, 96048, .inl q0)), (ms, .inl (cs 0, 288, .inl freshS)), (msm, .inl (cs 0, 2, .inl (smF2 a0 (nI 1)))), (mst, .inl (cs 5, 2, .inr (.inr (.inr (.inr fst))))), (st1, .inl (cs 0, 96048, .inl (cpF freshS q1 48))), (mtb, .inl (cs 5, 2, .inr (.inr (.inr (.inr ftb))))), (tb1, .inl (cs 0, 8192, .inl (upd (fun _ => nI 0) 965 (nI 1)))), (mti, .inl (cs 6, 2, .inr (.inr (.inr (.inr fti))))), (ti1, .inl (cs 1, 2001, .inr (.inl (vp_updL u1 0 (lN (ww * 1)))))), (hm, .inr (12, [.ref ms, .ref mkp, .int (nI 0), .ref mtr, .int (nI 4), .int (nI 2), .int (nI 2), .int (nI 3), .int (nI 2), .int (nI 1), .ref mas, .int (nI 0), .int (nI 0), .int (nI 0), .ref mso, .ref mon, .ref mot, .ref man, .int (nI 0), .int (nI 0), .ref mst, .ref msm, .ref mtb, .ref mti, .ref mfr, .ref mbn, .ref mbs, .ref mde, .int (nI 0), .int (nI 0), .int (nI 0), .int (nI 0), .long 0, .long 0, .ref maa, .ref mab, .ref mba, .ref mbb]))] := hD
  obtain rfl : r_25 = nI 0 := by rw [hw_r_25]; decide +kernel
  refine lv_if_ne (tgt := 37) hx hb dX12_spreads_31 (by decide) (fun c => absurd (by decide) c) (fun _ => ?_)
  refine lv_goto (tgt := 108) hx hb dX12_spreads_34 (by decide) ?_
  refine lv_iinc (v := nI 10) (lv' := [(4, .int (nI 10)), (5, .int (nI 0)), (3, .int (nI 0)), (0, .ref hm), (1, .int (nI 0)), (2, .int (nI 0))]) hx hb dX12_spreads_108 hl (k := 0) rfl (by decide) (by decide) rfl ?_
  clear hl
  try clear ls
  intro ls hl
  refine lv_goto (tgt := 13) hx hb dX12_spreads_111 (by decide) ?_
  refine lv_iload hx hb dX12_spreads_13 (lv_at hl 0 rfl) ?_
  refine lv_iconst (v := nI 1) hx hb dX12_spreads_15 (by decide) ?_
  refine lv_aload_n hx hb dX12_spreads_16 rfl (lv_at hl 3 rfl) ?_
  refine xget C hP 10 rfl rfl zuX12 4 (by decide) zw5_217 rfl dX12_spreads_17 ?_
  refine lv_ishl hx hb dX12_spreads_20 ?_
  refine lv_topi (nm_r (e' := nI 16) (by decide) ?_)
  refine lv_icmp_ge (tgt := 114) hx hb dX12_spreads_21 (by decide) (fun c => absurd c (by decide)) (fun _ => ?_)
  refine lv_aload_n hx hb dX12_spreads_24 rfl (lv_at hl 3 rfl) ?_
  refine lv_iload_n hx hb dX12_spreads_25 rfl (lv_at hl 2 rfl) ?_
  refine lv_iload hx hb dX12_spreads_26 (lv_at hl 0 rfl) ?_
  refine xi (wr := [(ti0, .inl (cs 1, 2001, .inr (.inl u0))), (st0, .inl (cs 0, 96048, .inl q0)), (ms, .inl (cs 0, 288, .inl freshS)), (msm, .inl (cs 0, 2, .inl (smF2 a0 (nI 1)))), (mst, .inl (cs 5, 2, .inr (.inr (.inr (.inr fst))))), (st1, .inl (cs 0, 96048, .inl (cpF freshS q1 48))), (mtb, .inl (cs 5, 2, .inr (.inr (.inr (.inr ftb))))), (tb1, .inl (cs 0, 8192, .inl (upd (fun _ => nI 0) 965 (nI 1)))), (mti, .inl (cs 6, 2, .inr (.inr (.inr (.inr fti))))), (ti1, .inl (cs 1, 2001, .inr (.inl (vp_updL u1 0 (lN (ww * 1))))))]) (xV (As := [.int (nI 0), .int (nI 10)]) (rest := []) C (c_X12_isSample_x l D cs hm ms mkp mtr mas mso mon mot man mst msm mtb mti mfr mbn mbs mde maa mab mba mbb 0 10 (by decide) (by decide)) kX12_139 hP hD [10] rfl (by decide +kernel) 0 rfl rfl rfl ⟨Nat.le_of_ble_eq_true rfl, Nat.le_of_ble_eq_true rfl⟩ rfl hl.1 rfl (Nat.le_of_ble_eq_true rfl) dX12_spreads_28 ⟨Nat.le_of_ble_eq_true rfl, Nat.le_of_ble_eq_true rfl⟩) hP hD hS hA [10] [0, 1, 2, 3, 4, 5, 6, 7, 8, 9] rfl rfl (by decide +kernel) (by decide +kernel) ?_
  clear hP hD hS
  try clear locs
  try clear H
  intro r_27 u_28 H locs hw_r_27 hP hD hS
  have hw_r_27 : r_27 = smB 0 10 := hw_r_27
  refine W.widen (k := 0) (n := 0) (Nat.le_of_ble_eq_true rfl) (Nat.le_of_ble_eq_true rfl) ?_
  replace hP : va_P D vwCl [(ti0, .inl (cs 1, 2001, .inr (.inl u0))), (st0, .inl (cs 0, 96048, .inl q0)), (ms, .inl (cs 0, 288, .inl freshS)), (msm, .inl (cs 0, 2, .inl (smF2 a0 (nI 1)))), (mst, .inl (cs 5, 2, .inr (.inr (.inr (.inr fst))))), (st1, .inl (cs 0, 96048, .inl (cpF freshS q1 48))), (mtb, .inl (cs 5, 2, .inr (.inr (.inr (.inr ftb))))), (tb1, .inl (cs 0, 8192, .inl (upd (fun _ => nI 0) 965 (nI 1)))), (mti, .inl (cs 6, 2, .inr (.inr (.inr (.inr fti))))), (ti1, .inl (cs 1, 2001, .inr (.inl (vp_updL u1 0 (lN (ww * 1)))))), (hm, .inr (12, [.ref ms, .ref mkp, .int (nI 0), .ref mtr, .int (nI 4), .int (nI 2), .int (nI 2), .int (nI 3), .int (nI 2), .int (nI 1), .ref mas, .int (nI 0), .int (nI 0), .int (nI 0), .ref mso, .ref mon, .ref mot, .ref man, .int (nI 0), .int (nI 0), .ref mst, .ref msm, .ref mtb, .ref mti, .ref mfr, .ref mbn, .ref mbs, .ref mde, .int (nI 0), .int (nI 0), .int (nI 0), .int (nI 0), .long 0, .long 0, .ref maa, .ref mab, .ref mba, .ref mbb]))] H := hP
  replace hD : va_D A [(ti0, .inl (cs 1, 2001, .inr (.inl u0))), (st0, .inl (cs 0, 96048, .inl q0)), (ms, .inl (cs 0, 288, .inl freshS)), (msm, .inl (cs 0, 2, .inl (smF2 a0 (nI 1)))), (mst, .inl (cs 5, 2, .inr (.inr (.inr (.inr fst))))), (st1, .inl (cs 0, 96048, .inl (cpF freshS q1 48))), (mtb, .inl (cs 5, 2, .inr (.inr (.inr (.inr ftb))))), (tb1, .inl (cs 0, 8192, .inl (upd (fun _ => nI 0) 965 (nI 1)))), (mti, .inl (cs 6, 2, .inr (.inr (.inr (.inr fti))))), (ti1, .inl (cs 1, 2001, .inr (.inl (vp_updL u1 0 (lN (ww * 1)))))), (hm, .inr (12, [.ref ms, .ref mkp, .int (nI 0), .ref mtr, .int (nI 4), .int (nI 2), .int (nI 2), .int (nI 3), .int (nI 2), .int (nI 1), .ref mas, .int (nI 0), .int (nI 0), .int (nI 0), .ref mso, .ref mon, .ref mot, .ref man, .int (nI 0), .int (nI 0), .ref mst, .ref msm, .ref mtb, .ref mti, .ref mfr, .ref mbn, .ref mbs, .ref mde, .int (nI 0), .int (nI 0), .int (nI 0), .int (nI 0), .long 0, .long 0, .ref maa, .ref mab, .ref mba, .ref mbb]))] := hD
  obtain rfl : r_27 = nI 1 := by rw [hw_r_27]; decide +kernel
  refine lv_if_ne (tgt := 37) hx hb dX12_spreads_31 (by decide) (fun _ => ?_) (fun c => absurd c (by decide))
  refine lv_aload_n hx hb dX12_spreads_37 rfl (lv_at hl 3 rfl) ?_
  refine lv_iload_n hx hb dX12_spreads_38 rfl (lv_at hl 4 rfl) ?_
  refine lv_iload_n hx hb dX12_spreads_39 rfl (lv_at hl 5 rfl) ?_
  refine xv (wr := [(ti0, .inl (cs 1, 2001, .inr (.inl u0))), (msm, .inl (cs 0, 2, .inl (smF2 a0 (nI 1)))), (st1, .inl (cs 0, 96048, .inl (cpF freshS q1 48))), (mtb, .inl (cs 5, 2, .inr (.inr (.inr (.inr ftb))))), (tb1, .inl (cs 0, 8192, .inl (upd (fun _ => nI 0) 965 (nI 1)))), (mti, .inl (cs 6, 2, .inr (.inr (.inr (.inr fti))))), (ti1, .inl (cs 1, 2001, .inr (.inl (vp_updL u1 0 (lN (ww * 1))))))]) (xV (As := [.int (nI 0), .int (nI 0)]) (rest := []) C (c_X12_brings_0 l D cs hm ms mkp mtr mas mso mon mot man mst msm mtb mti mfr mbn mbs mde maa mab mba mbb st0 fst q0 hf0 hq) kX12_203 hP hD [10, 2, 4, 1] rfl (by decide +kernel) 0 rfl rfl rfl ⟨Nat.le_of_ble_eq_true rfl, Nat.le_of_ble_eq_true rfl⟩ rfl hl.1 rfl (Nat.le_of_ble_eq_true rfl) dX12_spreads_40 ⟨Nat.le_of_ble_eq_true rfl, Nat.le_of_ble_eq_true rfl⟩) hP hD hS hA [10, 2, 4, 1] [0, 3, 5, 6, 7, 8, 9] rfl rfl (by decide +kernel) (by decide +kernel) ?_
  clear hP hD hS
  try clear locs
  try clear H
  intro u_30 H locs hw_r_29 hP hD hS
  refine W.widen (k := 0) (n := 0) (Nat.le_of_ble_eq_true rfl) (Nat.le_of_ble_eq_true rfl) ?_
  replace hP : va_P D vwCl [(ti0, .inl (cs 1, 2001, .inr (.inl u0))), (msm, .inl (cs 0, 2, .inl (smF2 a0 (nI 1)))), (st1, .inl (cs 0, 96048, .inl (cpF freshS q1 48))), (mtb, .inl (cs 5, 2, .inr (.inr (.inr (.inr ftb))))), (tb1, .inl (cs 0, 8192, .inl (upd (fun _ => nI 0) 965 (nI 1)))), (mti, .inl (cs 6, 2, .inr (.inr (.inr (.inr fti))))), (ti1, .inl (cs 1, 2001, .inr (.inl (vp_updL u1 0 (lN (ww * 1)))))), (hm, .inr (12, [.ref ms, .ref mkp, .int (nI 0), .ref mtr, .int (nI 4), .int (nI 2), .int (nI 2), .int (nI 3), .int (nI 2), .int (nI 1), .ref mas, .int (nI 0), .int (nI 0), .int (nI 0), .ref mso, .ref mon, .ref mot, .ref man, .int (nI 0), .int (nI 0), .ref mst, .ref msm, .ref mtb, .ref mti, .ref mfr, .ref mbn, .ref mbs, .ref mde, .int (nI 0), .int (nI 0), .int (nI 0), .int (nI 0), .long 0, .long 0, .ref maa, .ref mab, .ref mba, .ref mbb])), (ms, .inl (cs 0, 288, .inl freshS)), (mst, .inl (cs 5, 2, .inr (.inr (.inr (.inr fst))))), (st0, .inl (cs 0, 96048, .inl q0))] H := hP
  replace hD : va_D A [(ti0, .inl (cs 1, 2001, .inr (.inl u0))), (msm, .inl (cs 0, 2, .inl (smF2 a0 (nI 1)))), (st1, .inl (cs 0, 96048, .inl (cpF freshS q1 48))), (mtb, .inl (cs 5, 2, .inr (.inr (.inr (.inr ftb))))), (tb1, .inl (cs 0, 8192, .inl (upd (fun _ => nI 0) 965 (nI 1)))), (mti, .inl (cs 6, 2, .inr (.inr (.inr (.inr fti))))), (ti1, .inl (cs 1, 2001, .inr (.inl (vp_updL u1 0 (lN (ww * 1)))))), (hm, .inr (12, [.ref ms, .ref mkp, .int (nI 0), .ref mtr, .int (nI 4), .int (nI 2), .int (nI 2), .int (nI 3), .int (nI 2), .int (nI 1), .ref mas, .int (nI 0), .int (nI 0), .int (nI 0), .ref mso, .ref mon, .ref mot, .ref man, .int (nI 0), .int (nI 0), .ref mst, .ref msm, .ref mtb, .ref mti, .ref mfr, .ref mbn, .ref mbs, .ref mde, .int (nI 0), .int (nI 0), .int (nI 0), .int (nI 0), .long 0, .long 0, .ref maa, .ref mab, .ref mba, .ref mbb])), (ms, .inl (cs 0, 288, .inl freshS)), (mst, .inl (cs 5, 2, .inr (.inr (.inr (.inr fst))))), (st0, .inl (cs 0, 96048, .inl q0))] := hD
  refine lv_aload_n hx hb dX12_spreads_43 rfl (lv_at hl 3 rfl) ?_
  refine lv_iload_n hx hb dX12_spreads_44 rfl (lv_at hl 2 rfl) ?_
  refine xi (wr := [(ti0, .inl (cs 1, 2001, .inr (.inl u0))), (msm, .inl (cs 0, 2, .inl (smF2 a0 (nI 1)))), (st1, .inl (cs 0, 96048, .inl (cpF freshS q1 48))), (mtb, .inl (cs 5, 2, .inr (.inr (.inr (.inr ftb))))), (tb1, .inl (cs 0, 8192, .inl (upd (fun _ => nI 0) 965 (nI 1)))), (mti, .inl (cs 6, 2, .inr (.inr (.inr (.inr fti))))), (ti1, .inl (cs 1, 2001, .inr (.inl (vp_updL u1 0 (lN (ww * 1)))))), (mst, .inl (cs 5, 2, .inr (.inr (.inr (.inr fst))))), (st0, .inl (cs 0, 96048, .inl q0))]) (xV (As := [.int (nI 0)]) (rest := []) C (c_X12_canAsk_z l D cs hm ms mkp mtr mas mso mon mot man mst msm mtb mti mfr mbn mbs mde maa mab mba mbb 0 (by decide)) kX12_142 hP hD [7, 8] rfl (by decide +kernel) 0 rfl rfl rfl ⟨Nat.le_of_ble_eq_true rfl, Nat.le_of_ble_eq_true rfl⟩ rfl hl.1 rfl (Nat.le_of_ble_eq_true rfl) dX12_spreads_45 ⟨Nat.le_of_ble_eq_true rfl, Nat.le_of_ble_eq_true rfl⟩) hP hD hS hA [7, 8] [0, 1, 2, 3, 4, 5, 6, 9, 10] rfl rfl (by decide +kernel) (by decide +kernel) ?_
  clear hP hD hS
  try clear locs
  try clear H
  intro r_31 u_32 H locs hw_r_31 hP hD hS
  have hw_r_31 : r_31 = nI 0 := hw_r_31
  refine W.widen (k := 0) (n := 0) (Nat.le_of_ble_eq_true rfl) (Nat.le_of_ble_eq_true rfl) ?_
  replace hP : va_P D vwCl [(ti0, .inl (cs 1, 2001, .inr (.inl u0))), (msm, .inl (cs 0, 2, .inl (smF2 a0 (nI 1)))), (st1, .inl (cs 0, 96048, .inl (cpF freshS q1 48))), (mtb, .inl (cs 5, 2, .inr (.inr (.inr (.inr ftb))))), (tb1, .inl (cs 0, 8192, .inl (upd (fun _ => nI 0) 965 (nI 1)))), (mti, .inl (cs 6, 2, .inr (.inr (.inr (.inr fti))))), (ti1, .inl (cs 1, 2001, .inr (.inl (vp_updL u1 0 (lN (ww * 1)))))), (mst, .inl (cs 5, 2, .inr (.inr (.inr (.inr fst))))), (st0, .inl (cs 0, 96048, .inl q0)), (hm, .inr (12, [.ref ms, .ref mkp, .int (nI 0), .ref mtr, .int (nI 4), .int (nI 2), .int (nI 2), .int (nI 3), .int (nI 2), .int (nI 1), .ref mas, .int (nI 0), .int (nI 0), .int (nI 0), .ref mso, .ref mon, .ref mot, .ref man, .int (nI 0), .int (nI 0), .ref mst, .ref msm, .ref mtb, .ref mti, .ref mfr, .ref mbn, .ref mbs, .ref mde, .int (nI 0), .int (nI 0), .int (nI 0), .int (nI 0), .long 0, .long 0, .ref maa, .ref mab, .ref mba, .ref mbb])), (ms, .inl (cs 0, 288, .inl freshS))] H := hP
  replace hD : va_D A [(ti0, .inl (cs 1, 2001, .inr (.inl u0))), (msm, .inl (cs 0, 2, .inl (smF2 a0 (nI 1)))), (st1, .inl (cs 0, 96048, .inl (cpF freshS q1 48))), (mtb, .inl (cs 5, 2, .inr (.inr (.inr (.inr ftb))))), (tb1, .inl (cs 0, 8192, .inl (upd (fun _ => nI 0) 965 (nI 1)))), (mti, .inl (cs 6, 2, .inr (.inr (.inr (.inr fti))))), (ti1, .inl (cs 1, 2001, .inr (.inl (vp_updL u1 0 (lN (ww * 1)))))), (mst, .inl (cs 5, 2, .inr (.inr (.inr (.inr fst))))), (st0, .inl (cs 0, 96048, .inl q0)), (hm, .inr (12, [.ref ms, .ref mkp, .int (nI 0), .ref mtr, .int (nI 4), .int (nI 2), .int (nI 2), .int (nI 3), .int (nI 2), .int (nI 1), .ref mas, .int (nI 0), .int (nI 0), .int (nI 0), .ref mso, .ref mon, .ref mot, .ref man, .int (nI 0), .int (nI 0), .ref mst, .ref msm, .ref mtb, .ref mti, .ref mfr, .ref mbn, .ref mbs, .ref mde, .int (nI 0), .int (nI 0), .int (nI 0), .int (nI 0), .long 0, .long 0, .ref maa, .ref mab, .ref mba, .ref mbb])), (ms, .inl (cs 0, 288, .inl freshS))] := hD
  subst hw_r_31
  refine lv_if_eq (tgt := 67) hx hb dX12_spreads_48 (by decide) (fun _ => ?_) (fun c => absurd (by decide) c)
  refine lv_aload_n hx hb dX12_spreads_67 rfl (lv_at hl 3 rfl) ?_
  refine lv_iconst (v := nI 1) hx hb dX12_spreads_68 (by decide) ?_
  refine lv_iload_n hx hb dX12_spreads_69 rfl (lv_at hl 4 rfl) ?_
  refine lv_isub hx hb dX12_spreads_70 ?_
  refine lv_topi (nm_r (e' := nI 1) (by decide) ?_)
  refine lv_sipush (v := nI 2000) hx hb dX12_spreads_71 (by decide) ?_
  refine xi (wr := [(ti0, .inl (cs 1, 2001, .inr (.inl u0))), (st0, .inl (cs 0, 96048, .inl q0))]) (xV (As := [.int (nI 1), .int (nI 2000)]) (rest := []) C (c_X12_numberOf_b1 l D cs hm ms mkp mtr mas mso mon mot man mst msm mtb mti mfr mbn mbs mde maa mab mba mbb st1 tb1 ti1 fst ftb fti (smF2 a0 (nI 1)) (cpF freshS q1 48) (upd (fun _ => nI 0) 965 (nI 1)) (vp_updL u1 0 (lN (ww * 1))) hf1 hg ht1 (if_pos rfl) (fun j hj => cpF_lt hj)) kX12_197 hP hD [9, 10, 1, 7, 2, 3, 4, 5, 6] rfl (by decide +kernel) 0 rfl rfl rfl ⟨Nat.le_of_ble_eq_true rfl, Nat.le_of_ble_eq_true rfl⟩ rfl hl.1 rfl (Nat.le_of_ble_eq_true rfl) dX12_spreads_74 ⟨Nat.le_of_ble_eq_true rfl, Nat.le_of_ble_eq_true rfl⟩) hP hD hS hA [9, 10, 1, 7, 2, 3, 4, 5, 6] [0, 8] rfl rfl (by decide +kernel) (by decide +kernel) ?_
  clear hP hD hS
  try clear locs
  try clear H
  intro r_33 u_34 H locs hw_r_33 hP hD hS
  have hw_r_33 : r_33 = nI 0 := hw_r_33
  refine W.widen (k := 0) (n := 0) (Nat.le_of_ble_eq_true rfl) (Nat.le_of_ble_eq_true rfl) ?_
  replace hP : va_P D vwCl [(ti0, .inl (cs 1, 2001, .inr (.inl u0))), (st0, .inl (cs 0, 96048, .inl q0)), (hm, .inr (12, [.ref ms, .ref mkp, .int (nI 0), .ref mtr, .int (nI 4), .int (nI 2), .int (nI 2), .int (nI 3), .int (nI 2), .int (nI 1), .ref mas, .int (nI 0), .int (nI 0), .int (nI 0), .ref mso, .ref mon, .ref mot, .ref man, .int (nI 0), .int (nI 0), .ref mst, .ref msm, .ref mtb, .ref mti, .ref mfr, .ref mbn, .ref mbs, .ref mde, .int (nI 0), .int (nI 0), .int (nI 0), .int (nI 0), .long 0, .long 0, .ref maa, .ref mab, .ref mba, .ref mbb])), (ms, .inl (cs 0, 288, .inl freshS)), (msm, .inl (cs 0, 2, .inl (smF2 a0 (nI 1)))), (mst, .inl (cs 5, 2, .inr (.inr (.inr (.inr fst))))), (st1, .inl (cs 0, 96048, .inl (cpF freshS q1 48))), (mtb, .inl (cs 5, 2, .inr (.inr (.inr (.inr ftb))))), (tb1, .inl (cs 0, 8192, .inl (upd (fun _ => nI 0) 965 (nI 1)))), (mti, .inl (cs 6, 2, .inr (.inr (.inr (.inr fti))))), (ti1, .inl (cs 1, 2001, .inr (.inl (vp_updL u1 0 (lN (ww * 1))))))] H := hP
  replace hD : va_D A [(ti0, .inl (cs 1, 2001, .inr (.inl u0))), (st0, .inl (cs 0, 96048, .inl q0)), (hm, .inr (12, [.ref ms, .ref mkp, .int (nI 0), .ref mtr, .int (nI 4), .int (nI 2), .int (nI 2), .int (nI 3), .int (nI 2), .int (nI 1), .ref mas, .int (nI 0), .int (nI 0), .int (nI 0), .ref mso, .ref mon, .ref mot, .ref man, .int (nI 0), .int (nI 0), .ref mst, .ref msm, .ref mtb, .ref mti, .ref mfr, .ref mbn, .ref mbs, .ref mde, .int (nI 0), .int (nI 0), .int (nI 0), .int (nI 0), .long 0, .long 0, .ref maa, .ref mab, .ref mba, .ref mbb])), (ms, .inl (cs 0, 288, .inl freshS)), (msm, .inl (cs 0, 2, .inl (smF2 a0 (nI 1)))), (mst, .inl (cs 5, 2, .inr (.inr (.inr (.inr fst))))), (st1, .inl (cs 0, 96048, .inl (cpF freshS q1 48))), (mtb, .inl (cs 5, 2, .inr (.inr (.inr (.inr ftb))))), (tb1, .inl (cs 0, 8192, .inl (upd (fun _ => nI 0) 965 (nI 1)))), (mti, .inl (cs 6, 2, .inr (.inr (.inr (.inr fti))))), (ti1, .inl (cs 1, 2001, .inr (.inl (vp_updL u1 0 (lN (ww * 1))))))] := hD
  subst hw_r_33
  refine lv_istore (lv' := [(5, .int (nI 0)), (4, .int (nI 10)), (3, .int (nI 0)), (0, .ref hm), (1, .int (nI 0)), (2, .int (nI 0))]) hx hb dX12_spreads_77 hl (by decide) rfl ?_
  clear hl
  try clear ls
  intro ls hl
  refine lv_iload hx hb dX12_spreads_79 (lv_at hl 0 rfl) ?_
  refine lv_if_ge (tgt := 86) hx hb dX12_spreads_81 (by decide) (fun _ => ?_) (fun c => absurd (by decide) c)
  refine lv_aload_n hx hb dX12_spreads_86 rfl (lv_at hl 3 rfl) ?_
  refine xget C hP 2 rfl rfl zuX12 23 (by decide) zw5_236 rfl dX12_spreads_87 ?_
  refine lv_iconst (v := nI 1) hx hb dX12_spreads_90 (by decide) ?_
  refine lv_iload_n hx hb dX12_spreads_91 rfl (lv_at hl 4 rfl) ?_
  refine lv_isub hx hb dX12_spreads_92 ?_
  refine lv_topi (nm_r (e' := nI 1) (by decide) ?_)
  refine xaald C hP 9 6 rfl rfl rfl 1 rfl (by decide) (by decide) ht1 dX12_spreads_93 ?_
  refine lv_iload hx hb dX12_spreads_94 (lv_at hl 0 rfl) ?_
  refine lv_dup2_11 hx hb dX12_spreads_96 rfl rfl ?_
  refine xlald C hP 10 rfl 0 rfl (by decide) (by decide) dX12_spreads_97 ?_
  refine lv_topl (nm_r (e' := lN (ww * 1)) (upL_0 _ _) ?_)
  refine lv_aload_n hx hb dX12_spreads_98 rfl (lv_at hl 3 rfl) ?_
  refine xget C hP 2 rfl rfl zuX12 23 (by decide) zw5_236 rfl dX12_spreads_99 ?_
  refine lv_iload_n hx hb dX12_spreads_102 rfl (lv_at hl 4 rfl) ?_
  refine xaald C hP 9 6 rfl rfl rfl 0 rfl (by decide) (by decide) ht0 dX12_spreads_103 ?_
  refine lv_iload_n hx hb dX12_spreads_104 rfl (lv_at hl 5 rfl) ?_
  refine xlald C hP 0 rfl 0 rfl (by decide) (by decide) dX12_spreads_105 ?_
  refine lv_topl (nm_r (e' := lN ww) hw ?_)
  refine lv_ladd hx hb dX12_spreads_106 ?_
  refine lv_topl (nm_r (e' := lN (ww * 2)) (lN_a ww 1) ?_)
  refine xlast C hP hD hS 10 rfl 0 rfl (by decide) (by decide) dX12_spreads_107 ?_
  clear hP hD hS
  try clear locs
  try clear H
  intro H locs hP hD hS
  replace hP : va_P D vwCl [(ti0, .inl (cs 1, 2001, .inr (.inl u0))), (st0, .inl (cs 0, 96048, .inl q0)), (hm, .inr (12, [.ref ms, .ref mkp, .int (nI 0), .ref mtr, .int (nI 4), .int (nI 2), .int (nI 2), .int (nI 3), .int (nI 2), .int (nI 1), .ref mas, .int (nI 0), .int (nI 0), .int (nI 0), .ref mso, .ref mon, .ref mot, .ref man, .int (nI 0), .int (nI 0), .ref mst, .ref msm, .ref mtb, .ref mti, .ref mfr, .ref mbn, .ref mbs, .ref mde, .int (nI 0), .int (nI 0), .int (nI 0), .int (nI 0), .long 0, .long 0, .ref maa, .ref mab, .ref mba, .ref mbb])), (ms, .inl (cs 0, 288, .inl freshS)), (msm, .inl (cs 0, 2, .inl (smF2 a0 (nI 1)))), (mst, .inl (cs 5, 2, .inr (.inr (.inr (.inr fst))))), (st1, .inl (cs 0, 96048, .inl (cpF freshS q1 48))), (mtb, .inl (cs 5, 2, .inr (.inr (.inr (.inr ftb))))), (tb1, .inl (cs 0, 8192, .inl (upd (fun _ => nI 0) 965 (nI 1)))), (mti, .inl (cs 6, 2, .inr (.inr (.inr (.inr fti))))), (ti1, .inl (cs 1, 2001, .inr (.inl (vp_updL (vp_updL u1 0 (lN (ww * 1))) 0 (lN (ww * 2))))))] H := hP
  replace hD : va_D A [(ti0, .inl (cs 1, 2001, .inr (.inl u0))), (st0, .inl (cs 0, 96048, .inl q0)), (hm, .inr (12, [.ref ms, .ref mkp, .int (nI 0), .ref mtr, .int (nI 4), .int (nI 2), .int (nI 2), .int (nI 3), .int (nI 2), .int (nI 1), .ref mas, .int (nI 0), .int (nI 0), .int (nI 0), .ref mso, .ref mon, .ref mot, .ref man, .int (nI 0), .int (nI 0), .ref mst, .ref msm, .ref mtb, .ref mti, .ref mfr, .ref mbn, .ref mbs, .ref mde, .int (nI 0), .int (nI 0), .int (nI 0), .int (nI 0), .long 0, .long 0, .ref maa, .ref mab, .ref mba, .ref mbb])), (ms, .inl (cs 0, 288, .inl freshS)), (msm, .inl (cs 0, 2, .inl (smF2 a0 (nI 1)))), (mst, .inl (cs 5, 2, .inr (.inr (.inr (.inr fst))))), (st1, .inl (cs 0, 96048, .inl (cpF freshS q1 48))), (mtb, .inl (cs 5, 2, .inr (.inr (.inr (.inr ftb))))), (tb1, .inl (cs 0, 8192, .inl (upd (fun _ => nI 0) 965 (nI 1)))), (mti, .inl (cs 6, 2, .inr (.inr (.inr (.inr fti))))), (ti1, .inl (cs 1, 2001, .inr (.inl (vp_updL (vp_updL u1 0 (lN (ww * 1))) 0 (lN (ww * 2))))))] := hD
  have hPD := xcongl (q0 := 10) (vp_updL u1 0 (lN (ww * 2))) hP hD rfl (fun j hj => upL_1 u1 _ _ j)
  clear hP hD
  obtain ⟨hP, hD⟩ := hPD
  replace hP : va_P D vwCl [(ti0, .inl (cs 1, 2001, .inr (.inl u0))), (st0, .inl (cs 0, 96048, .inl q0)), (hm, .inr (12, [.ref ms, .ref mkp, .int (nI 0), .ref mtr, .int (nI 4), .int (nI 2), .int (nI 2), .int (nI 3), .int (nI 2), .int (nI 1), .ref mas, .int (nI 0), .int (nI 0), .int (nI 0), .ref mso, .ref mon, .ref mot, .ref man, .int (nI 0), .int (nI 0), .ref mst, .ref msm, .ref mtb, .ref mti, .ref mfr, .ref mbn, .ref mbs, .ref mde, .int (nI 0), .int (nI 0), .int (nI 0), .int (nI 0), .long 0, .long 0, .ref maa, .ref mab, .ref mba, .ref mbb])), (ms, .inl (cs 0, 288, .inl freshS)), (msm, .inl (cs 0, 2, .inl (smF2 a0 (nI 1)))), (mst, .inl (cs 5, 2, .inr (.inr (.inr (.inr fst))))), (st1, .inl (cs 0, 96048, .inl (cpF freshS q1 48))), (mtb, .inl (cs 5, 2, .inr (.inr (.inr (.inr ftb))))), (tb1, .inl (cs 0, 8192, .inl (upd (fun _ => nI 0) 965 (nI 1)))), (mti, .inl (cs 6, 2, .inr (.inr (.inr (.inr fti))))), (ti1, .inl (cs 1, 2001, .inr (.inl (vp_updL u1 0 (lN (ww * 2))))))] H := hP
  replace hD : va_D A [(ti0, .inl (cs 1, 2001, .inr (.inl u0))), (st0, .inl (cs 0, 96048, .inl q0)), (hm, .inr (12, [.ref ms, .ref mkp, .int (nI 0), .ref mtr, .int (nI 4), .int (nI 2), .int (nI 2), .int (nI 3), .int (nI 2), .int (nI 1), .ref mas, .int (nI 0), .int (nI 0), .int (nI 0), .ref mso, .ref mon, .ref mot, .ref man, .int (nI 0), .int (nI 0), .ref mst, .ref msm, .ref mtb, .ref mti, .ref mfr, .ref mbn, .ref mbs, .ref mde, .int (nI 0), .int (nI 0), .int (nI 0), .int (nI 0), .long 0, .long 0, .ref maa, .ref mab, .ref mba, .ref mbb])), (ms, .inl (cs 0, 288, .inl freshS)), (msm, .inl (cs 0, 2, .inl (smF2 a0 (nI 1)))), (mst, .inl (cs 5, 2, .inr (.inr (.inr (.inr fst))))), (st1, .inl (cs 0, 96048, .inl (cpF freshS q1 48))), (mtb, .inl (cs 5, 2, .inr (.inr (.inr (.inr ftb))))), (tb1, .inl (cs 0, 8192, .inl (upd (fun _ => nI 0) 965 (nI 1)))), (mti, .inl (cs 6, 2, .inr (.inr (.inr (.inr fti))))), (ti1, .inl (cs 1, 2001, .inr (.inl (vp_updL u1 0 (lN (ww * 2))))))] := hD
  refine lv_iinc (v := nI 11) (lv' := [(4, .int (nI 11)), (5, .int (nI 0)), (3, .int (nI 0)), (0, .ref hm), (1, .int (nI 0)), (2, .int (nI 0))]) hx hb dX12_spreads_108 hl (k := 1) rfl (by decide) (by decide) rfl ?_
  clear hl
  try clear ls
  intro ls hl
  refine lv_goto (tgt := 13) hx hb dX12_spreads_111 (by decide) ?_
  refine lv_iload hx hb dX12_spreads_13 (lv_at hl 0 rfl) ?_
  refine lv_iconst (v := nI 1) hx hb dX12_spreads_15 (by decide) ?_
  refine lv_aload_n hx hb dX12_spreads_16 rfl (lv_at hl 3 rfl) ?_
  refine xget C hP 2 rfl rfl zuX12 4 (by decide) zw5_217 rfl dX12_spreads_17 ?_
  refine lv_ishl hx hb dX12_spreads_20 ?_
  refine lv_topi (nm_r (e' := nI 16) (by decide) ?_)
  refine lv_icmp_ge (tgt := 114) hx hb dX12_spreads_21 (by decide) (fun c => absurd c (by decide)) (fun _ => ?_)
  refine lv_aload_n hx hb dX12_spreads_24 rfl (lv_at hl 3 rfl) ?_
  refine lv_iload_n hx hb dX12_spreads_25 rfl (lv_at hl 2 rfl) ?_
  refine lv_iload hx hb dX12_spreads_26 (lv_at hl 0 rfl) ?_
  refine xi (wr := [(ti0, .inl (cs 1, 2001, .inr (.inl u0))), (st0, .inl (cs 0, 96048, .inl q0)), (ms, .inl (cs 0, 288, .inl freshS)), (msm, .inl (cs 0, 2, .inl (smF2 a0 (nI 1)))), (mst, .inl (cs 5, 2, .inr (.inr (.inr (.inr fst))))), (st1, .inl (cs 0, 96048, .inl (cpF freshS q1 48))), (mtb, .inl (cs 5, 2, .inr (.inr (.inr (.inr ftb))))), (tb1, .inl (cs 0, 8192, .inl (upd (fun _ => nI 0) 965 (nI 1)))), (mti, .inl (cs 6, 2, .inr (.inr (.inr (.inr fti))))), (ti1, .inl (cs 1, 2001, .inr (.inl (vp_updL u1 0 (lN (ww * 2))))))]) (xV (As := [.int (nI 0), .int (nI 11)]) (rest := []) C (c_X12_isSample_x l D cs hm ms mkp mtr mas mso mon mot man mst msm mtb mti mfr mbn mbs mde maa mab mba mbb 0 11 (by decide) (by decide)) kX12_139 hP hD [2] rfl (by decide +kernel) 0 rfl rfl rfl ⟨Nat.le_of_ble_eq_true rfl, Nat.le_of_ble_eq_true rfl⟩ rfl hl.1 rfl (Nat.le_of_ble_eq_true rfl) dX12_spreads_28 ⟨Nat.le_of_ble_eq_true rfl, Nat.le_of_ble_eq_true rfl⟩) hP hD hS hA [2] [0, 1, 3, 4, 5, 6, 7, 8, 9, 10] rfl rfl (by decide +kernel) (by decide +kernel) ?_
  clear hP hD hS
  try clear locs
  try clear H
  intro r_35 u_36 H locs hw_r_35 hP hD hS
  have hw_r_35 : r_35 = smB 0 11 := hw_r_35
  refine W.widen (k := 0) (n := 0) (Nat.le_of_ble_eq_true rfl) (Nat.le_of_ble_eq_true rfl) ?_
  replace hP : va_P D vwCl [(ti0, .inl (cs 1, 2001, .inr (.inl u0))), (st0, .inl (cs 0, 96048, .inl q0)), (ms, .inl (cs 0, 288, .inl freshS)), (msm, .inl (cs 0, 2, .inl (smF2 a0 (nI 1)))), (mst, .inl (cs 5, 2, .inr (.inr (.inr (.inr fst))))), (st1, .inl (cs 0, 96048, .inl (cpF freshS q1 48))), (mtb, .inl (cs 5, 2, .inr (.inr (.inr (.inr ftb))))), (tb1, .inl (cs 0, 8192, .inl (upd (fun _ => nI 0) 965 (nI 1)))), (mti, .inl (cs 6, 2, .inr (.inr (.inr (.inr fti))))), (ti1, .inl (cs 1, 2001, .inr (.inl (vp_updL u1 0 (lN (ww * 2)))))), (hm, .inr (12, [.ref ms, .ref mkp, .int (nI 0), .ref mtr, .int (nI 4), .int (nI 2), .int (nI 2), .int (nI 3), .int (nI 2), .int (nI 1), .ref mas, .int (nI 0), .int (nI 0), .int (nI 0), .ref mso, .ref mon, .ref mot, .ref man, .int (nI 0), .int (nI 0), .ref mst, .ref msm, .ref mtb, .ref mti, .ref mfr, .ref mbn, .ref mbs, .ref mde, .int (nI 0), .int (nI 0), .int (nI 0), .int (nI 0), .long 0, .long 0, .ref maa, .ref mab, .ref mba, .ref mbb]))] H := hP
  replace hD : va_D A [(ti0, .inl (cs 1, 2001, .inr (.inl u0))), (st0, .inl (cs 0, 96048, .inl q0)), (ms, .inl (cs 0, 288, .inl freshS)), (msm, .inl (cs 0, 2, .inl (smF2 a0 (nI 1)))), (mst, .inl (cs 5, 2, .inr (.inr (.inr (.inr fst))))), (st1, .inl (cs 0, 96048, .inl (cpF freshS q1 48))), (mtb, .inl (cs 5, 2, .inr (.inr (.inr (.inr ftb))))), (tb1, .inl (cs 0, 8192, .inl (upd (fun _ => nI 0) 965 (nI 1)))), (mti, .inl (cs 6, 2, .inr (.inr (.inr (.inr fti))))), (ti1, .inl (cs 1, 2001, .inr (.inl (vp_updL u1 0 (lN (ww * 2)))))), (hm, .inr (12, [.ref ms, .ref mkp, .int (nI 0), .ref mtr, .int (nI 4), .int (nI 2), .int (nI 2), .int (nI 3), .int (nI 2), .int (nI 1), .ref mas, .int (nI 0), .int (nI 0), .int (nI 0), .ref mso, .ref mon, .ref mot, .ref man, .int (nI 0), .int (nI 0), .ref mst, .ref msm, .ref mtb, .ref mti, .ref mfr, .ref mbn, .ref mbs, .ref mde, .int (nI 0), .int (nI 0), .int (nI 0), .int (nI 0), .long 0, .long 0, .ref maa, .ref mab, .ref mba, .ref mbb]))] := hD
  obtain rfl : r_35 = nI 0 := by rw [hw_r_35]; decide +kernel
  refine lv_if_ne (tgt := 37) hx hb dX12_spreads_31 (by decide) (fun c => absurd (by decide) c) (fun _ => ?_)
  refine lv_goto (tgt := 108) hx hb dX12_spreads_34 (by decide) ?_
  refine lv_iinc (v := nI 12) (lv' := [(4, .int (nI 12)), (5, .int (nI 0)), (3, .int (nI 0)), (0, .ref hm), (1, .int (nI 0)), (2, .int (nI 0))]) hx hb dX12_spreads_108 hl (k := 0) rfl (by decide) (by decide) rfl ?_
  clear hl
  try clear ls
  intro ls hl
  refine lv_goto (tgt := 13) hx hb dX12_spreads_111 (by decide) ?_
  refine lv_iload hx hb dX12_spreads_13 (lv_at hl 0 rfl) ?_
  refine lv_iconst (v := nI 1) hx hb dX12_spreads_15 (by decide) ?_
  refine lv_aload_n hx hb dX12_spreads_16 rfl (lv_at hl 3 rfl) ?_
  refine xget C hP 10 rfl rfl zuX12 4 (by decide) zw5_217 rfl dX12_spreads_17 ?_
  refine lv_ishl hx hb dX12_spreads_20 ?_
  refine lv_topi (nm_r (e' := nI 16) (by decide) ?_)
  refine lv_icmp_ge (tgt := 114) hx hb dX12_spreads_21 (by decide) (fun c => absurd c (by decide)) (fun _ => ?_)
  refine lv_aload_n hx hb dX12_spreads_24 rfl (lv_at hl 3 rfl) ?_
  refine lv_iload_n hx hb dX12_spreads_25 rfl (lv_at hl 2 rfl) ?_
  refine lv_iload hx hb dX12_spreads_26 (lv_at hl 0 rfl) ?_
  refine xi (wr := [(ti0, .inl (cs 1, 2001, .inr (.inl u0))), (st0, .inl (cs 0, 96048, .inl q0)), (ms, .inl (cs 0, 288, .inl freshS)), (msm, .inl (cs 0, 2, .inl (smF2 a0 (nI 1)))), (mst, .inl (cs 5, 2, .inr (.inr (.inr (.inr fst))))), (st1, .inl (cs 0, 96048, .inl (cpF freshS q1 48))), (mtb, .inl (cs 5, 2, .inr (.inr (.inr (.inr ftb))))), (tb1, .inl (cs 0, 8192, .inl (upd (fun _ => nI 0) 965 (nI 1)))), (mti, .inl (cs 6, 2, .inr (.inr (.inr (.inr fti))))), (ti1, .inl (cs 1, 2001, .inr (.inl (vp_updL u1 0 (lN (ww * 2))))))]) (xV (As := [.int (nI 0), .int (nI 12)]) (rest := []) C (c_X12_isSample_x l D cs hm ms mkp mtr mas mso mon mot man mst msm mtb mti mfr mbn mbs mde maa mab mba mbb 0 12 (by decide) (by decide)) kX12_139 hP hD [10] rfl (by decide +kernel) 0 rfl rfl rfl ⟨Nat.le_of_ble_eq_true rfl, Nat.le_of_ble_eq_true rfl⟩ rfl hl.1 rfl (Nat.le_of_ble_eq_true rfl) dX12_spreads_28 ⟨Nat.le_of_ble_eq_true rfl, Nat.le_of_ble_eq_true rfl⟩) hP hD hS hA [10] [0, 1, 2, 3, 4, 5, 6, 7, 8, 9] rfl rfl (by decide +kernel) (by decide +kernel) ?_
  clear hP hD hS
  try clear locs
  try clear H
  intro r_37 u_38 H locs hw_r_37 hP hD hS
  have hw_r_37 : r_37 = smB 0 12 := hw_r_37
  refine W.widen (k := 0) (n := 0) (Nat.le_of_ble_eq_true rfl) (Nat.le_of_ble_eq_true rfl) ?_
  replace hP : va_P D vwCl [(ti0, .inl (cs 1, 2001, .inr (.inl u0))), (st0, .inl (cs 0, 96048, .inl q0)), (ms, .inl (cs 0, 288, .inl freshS)), (msm, .inl (cs 0, 2, .inl (smF2 a0 (nI 1)))), (mst, .inl (cs 5, 2, .inr (.inr (.inr (.inr fst))))), (st1, .inl (cs 0, 96048, .inl (cpF freshS q1 48))), (mtb, .inl (cs 5, 2, .inr (.inr (.inr (.inr ftb))))), (tb1, .inl (cs 0, 8192, .inl (upd (fun _ => nI 0) 965 (nI 1)))), (mti, .inl (cs 6, 2, .inr (.inr (.inr (.inr fti))))), (ti1, .inl (cs 1, 2001, .inr (.inl (vp_updL u1 0 (lN (ww * 2)))))), (hm, .inr (12, [.ref ms, .ref mkp, .int (nI 0), .ref mtr, .int (nI 4), .int (nI 2), .int (nI 2), .int (nI 3), .int (nI 2), .int (nI 1), .ref mas, .int (nI 0), .int (nI 0), .int (nI 0), .ref mso, .ref mon, .ref mot, .ref man, .int (nI 0), .int (nI 0), .ref mst, .ref msm, .ref mtb, .ref mti, .ref mfr, .ref mbn, .ref mbs, .ref mde, .int (nI 0), .int (nI 0), .int (nI 0), .int (nI 0), .long 0, .long 0, .ref maa, .ref mab, .ref mba, .ref mbb]))] H := hP
  replace hD : va_D A [(ti0, .inl (cs 1, 2001, .inr (.inl u0))), (st0, .inl (cs 0, 96048, .inl q0)), (ms, .inl (cs 0, 288, .inl freshS)), (msm, .inl (cs 0, 2, .inl (smF2 a0 (nI 1)))), (mst, .inl (cs 5, 2, .inr (.inr (.inr (.inr fst))))), (st1, .inl (cs 0, 96048, .inl (cpF freshS q1 48))), (mtb, .inl (cs 5, 2, .inr (.inr (.inr (.inr ftb))))), (tb1, .inl (cs 0, 8192, .inl (upd (fun _ => nI 0) 965 (nI 1)))), (mti, .inl (cs 6, 2, .inr (.inr (.inr (.inr fti))))), (ti1, .inl (cs 1, 2001, .inr (.inl (vp_updL u1 0 (lN (ww * 2)))))), (hm, .inr (12, [.ref ms, .ref mkp, .int (nI 0), .ref mtr, .int (nI 4), .int (nI 2), .int (nI 2), .int (nI 3), .int (nI 2), .int (nI 1), .ref mas, .int (nI 0), .int (nI 0), .int (nI 0), .ref mso, .ref mon, .ref mot, .ref man, .int (nI 0), .int (nI 0), .ref mst, .ref msm, .ref mtb, .ref mti, .ref mfr, .ref mbn, .ref mbs, .ref mde, .int (nI 0), .int (nI 0), .int (nI 0), .int (nI 0), .long 0, .long 0, .ref maa, .ref mab, .ref mba, .ref mbb]))] := hD
  obtain rfl : r_37 = nI 1 := by rw [hw_r_37]; decide +kernel
  refine lv_if_ne (tgt := 37) hx hb dX12_spreads_31 (by decide) (fun _ => ?_) (fun c => absurd c (by decide))
  refine lv_aload_n hx hb dX12_spreads_37 rfl (lv_at hl 3 rfl) ?_
  refine lv_iload_n hx hb dX12_spreads_38 rfl (lv_at hl 4 rfl) ?_
  refine lv_iload_n hx hb dX12_spreads_39 rfl (lv_at hl 5 rfl) ?_
  refine xv (wr := [(ti0, .inl (cs 1, 2001, .inr (.inl u0))), (msm, .inl (cs 0, 2, .inl (smF2 a0 (nI 1)))), (st1, .inl (cs 0, 96048, .inl (cpF freshS q1 48))), (mtb, .inl (cs 5, 2, .inr (.inr (.inr (.inr ftb))))), (tb1, .inl (cs 0, 8192, .inl (upd (fun _ => nI 0) 965 (nI 1)))), (mti, .inl (cs 6, 2, .inr (.inr (.inr (.inr fti))))), (ti1, .inl (cs 1, 2001, .inr (.inl (vp_updL u1 0 (lN (ww * 2))))))]) (xV (As := [.int (nI 0), .int (nI 0)]) (rest := []) C (c_X12_brings_0 l D cs hm ms mkp mtr mas mso mon mot man mst msm mtb mti mfr mbn mbs mde maa mab mba mbb st0 fst q0 hf0 hq) kX12_203 hP hD [10, 2, 4, 1] rfl (by decide +kernel) 0 rfl rfl rfl ⟨Nat.le_of_ble_eq_true rfl, Nat.le_of_ble_eq_true rfl⟩ rfl hl.1 rfl (Nat.le_of_ble_eq_true rfl) dX12_spreads_40 ⟨Nat.le_of_ble_eq_true rfl, Nat.le_of_ble_eq_true rfl⟩) hP hD hS hA [10, 2, 4, 1] [0, 3, 5, 6, 7, 8, 9] rfl rfl (by decide +kernel) (by decide +kernel) ?_
  clear hP hD hS
  try clear locs
  try clear H
  intro u_40 H locs hw_r_39 hP hD hS
  refine W.widen (k := 0) (n := 0) (Nat.le_of_ble_eq_true rfl) (Nat.le_of_ble_eq_true rfl) ?_
  replace hP : va_P D vwCl [(ti0, .inl (cs 1, 2001, .inr (.inl u0))), (msm, .inl (cs 0, 2, .inl (smF2 a0 (nI 1)))), (st1, .inl (cs 0, 96048, .inl (cpF freshS q1 48))), (mtb, .inl (cs 5, 2, .inr (.inr (.inr (.inr ftb))))), (tb1, .inl (cs 0, 8192, .inl (upd (fun _ => nI 0) 965 (nI 1)))), (mti, .inl (cs 6, 2, .inr (.inr (.inr (.inr fti))))), (ti1, .inl (cs 1, 2001, .inr (.inl (vp_updL u1 0 (lN (ww * 2)))))), (hm, .inr (12, [.ref ms, .ref mkp, .int (nI 0), .ref mtr, .int (nI 4), .int (nI 2), .int (nI 2), .int (nI 3), .int (nI 2), .int (nI 1), .ref mas, .int (nI 0), .int (nI 0), .int (nI 0), .ref mso, .ref mon, .ref mot, .ref man, .int (nI 0), .int (nI 0), .ref mst, .ref msm, .ref mtb, .ref mti, .ref mfr, .ref mbn, .ref mbs, .ref mde, .int (nI 0), .int (nI 0), .int (nI 0), .int (nI 0), .long 0, .long 0, .ref maa, .ref mab, .ref mba, .ref mbb])), (ms, .inl (cs 0, 288, .inl freshS)), (mst, .inl (cs 5, 2, .inr (.inr (.inr (.inr fst))))), (st0, .inl (cs 0, 96048, .inl q0))] H := hP
  replace hD : va_D A [(ti0, .inl (cs 1, 2001, .inr (.inl u0))), (msm, .inl (cs 0, 2, .inl (smF2 a0 (nI 1)))), (st1, .inl (cs 0, 96048, .inl (cpF freshS q1 48))), (mtb, .inl (cs 5, 2, .inr (.inr (.inr (.inr ftb))))), (tb1, .inl (cs 0, 8192, .inl (upd (fun _ => nI 0) 965 (nI 1)))), (mti, .inl (cs 6, 2, .inr (.inr (.inr (.inr fti))))), (ti1, .inl (cs 1, 2001, .inr (.inl (vp_updL u1 0 (lN (ww * 2)))))), (hm, .inr (12, [.ref ms, .ref mkp, .int (nI 0), .ref mtr, .int (nI 4), .int (nI 2), .int (nI 2), .int (nI 3), .int (nI 2), .int (nI 1), .ref mas, .int (nI 0), .int (nI 0), .int (nI 0), .ref mso, .ref mon, .ref mot, .ref man, .int (nI 0), .int (nI 0), .ref mst, .ref msm, .ref mtb, .ref mti, .ref mfr, .ref mbn, .ref mbs, .ref mde, .int (nI 0), .int (nI 0), .int (nI 0), .int (nI 0), .long 0, .long 0, .ref maa, .ref mab, .ref mba, .ref mbb])), (ms, .inl (cs 0, 288, .inl freshS)), (mst, .inl (cs 5, 2, .inr (.inr (.inr (.inr fst))))), (st0, .inl (cs 0, 96048, .inl q0))] := hD
  refine lv_aload_n hx hb dX12_spreads_43 rfl (lv_at hl 3 rfl) ?_
  refine lv_iload_n hx hb dX12_spreads_44 rfl (lv_at hl 2 rfl) ?_
  refine xi (wr := [(ti0, .inl (cs 1, 2001, .inr (.inl u0))), (msm, .inl (cs 0, 2, .inl (smF2 a0 (nI 1)))), (st1, .inl (cs 0, 96048, .inl (cpF freshS q1 48))), (mtb, .inl (cs 5, 2, .inr (.inr (.inr (.inr ftb))))), (tb1, .inl (cs 0, 8192, .inl (upd (fun _ => nI 0) 965 (nI 1)))), (mti, .inl (cs 6, 2, .inr (.inr (.inr (.inr fti))))), (ti1, .inl (cs 1, 2001, .inr (.inl (vp_updL u1 0 (lN (ww * 2)))))), (mst, .inl (cs 5, 2, .inr (.inr (.inr (.inr fst))))), (st0, .inl (cs 0, 96048, .inl q0))]) (xV (As := [.int (nI 0)]) (rest := []) C (c_X12_canAsk_z l D cs hm ms mkp mtr mas mso mon mot man mst msm mtb mti mfr mbn mbs mde maa mab mba mbb 0 (by decide)) kX12_142 hP hD [7, 8] rfl (by decide +kernel) 0 rfl rfl rfl ⟨Nat.le_of_ble_eq_true rfl, Nat.le_of_ble_eq_true rfl⟩ rfl hl.1 rfl (Nat.le_of_ble_eq_true rfl) dX12_spreads_45 ⟨Nat.le_of_ble_eq_true rfl, Nat.le_of_ble_eq_true rfl⟩) hP hD hS hA [7, 8] [0, 1, 2, 3, 4, 5, 6, 9, 10] rfl rfl (by decide +kernel) (by decide +kernel) ?_
  clear hP hD hS
  try clear locs
  try clear H
  intro r_41 u_42 H locs hw_r_41 hP hD hS
  have hw_r_41 : r_41 = nI 0 := hw_r_41
  refine W.widen (k := 0) (n := 0) (Nat.le_of_ble_eq_true rfl) (Nat.le_of_ble_eq_true rfl) ?_
  replace hP : va_P D vwCl [(ti0, .inl (cs 1, 2001, .inr (.inl u0))), (msm, .inl (cs 0, 2, .inl (smF2 a0 (nI 1)))), (st1, .inl (cs 0, 96048, .inl (cpF freshS q1 48))), (mtb, .inl (cs 5, 2, .inr (.inr (.inr (.inr ftb))))), (tb1, .inl (cs 0, 8192, .inl (upd (fun _ => nI 0) 965 (nI 1)))), (mti, .inl (cs 6, 2, .inr (.inr (.inr (.inr fti))))), (ti1, .inl (cs 1, 2001, .inr (.inl (vp_updL u1 0 (lN (ww * 2)))))), (mst, .inl (cs 5, 2, .inr (.inr (.inr (.inr fst))))), (st0, .inl (cs 0, 96048, .inl q0)), (hm, .inr (12, [.ref ms, .ref mkp, .int (nI 0), .ref mtr, .int (nI 4), .int (nI 2), .int (nI 2), .int (nI 3), .int (nI 2), .int (nI 1), .ref mas, .int (nI 0), .int (nI 0), .int (nI 0), .ref mso, .ref mon, .ref mot, .ref man, .int (nI 0), .int (nI 0), .ref mst, .ref msm, .ref mtb, .ref mti, .ref mfr, .ref mbn, .ref mbs, .ref mde, .int (nI 0), .int (nI 0), .int (nI 0), .int (nI 0), .long 0, .long 0, .ref maa, .ref mab, .ref mba, .ref mbb])), (ms, .inl (cs 0, 288, .inl freshS))] H := hP
  replace hD : va_D A [(ti0, .inl (cs 1, 2001, .inr (.inl u0))), (msm, .inl (cs 0, 2, .inl (smF2 a0 (nI 1)))), (st1, .inl (cs 0, 96048, .inl (cpF freshS q1 48))), (mtb, .inl (cs 5, 2, .inr (.inr (.inr (.inr ftb))))), (tb1, .inl (cs 0, 8192, .inl (upd (fun _ => nI 0) 965 (nI 1)))), (mti, .inl (cs 6, 2, .inr (.inr (.inr (.inr fti))))), (ti1, .inl (cs 1, 2001, .inr (.inl (vp_updL u1 0 (lN (ww * 2)))))), (mst, .inl (cs 5, 2, .inr (.inr (.inr (.inr fst))))), (st0, .inl (cs 0, 96048, .inl q0)), (hm, .inr (12, [.ref ms, .ref mkp, .int (nI 0), .ref mtr, .int (nI 4), .int (nI 2), .int (nI 2), .int (nI 3), .int (nI 2), .int (nI 1), .ref mas, .int (nI 0), .int (nI 0), .int (nI 0), .ref mso, .ref mon, .ref mot, .ref man, .int (nI 0), .int (nI 0), .ref mst, .ref msm, .ref mtb, .ref mti, .ref mfr, .ref mbn, .ref mbs, .ref mde, .int (nI 0), .int (nI 0), .int (nI 0), .int (nI 0), .long 0, .long 0, .ref maa, .ref mab, .ref mba, .ref mbb])), (ms, .inl (cs 0, 288, .inl freshS))] := hD
  subst hw_r_41
  refine lv_if_eq (tgt := 67) hx hb dX12_spreads_48 (by decide) (fun _ => ?_) (fun c => absurd (by decide) c)
  refine lv_aload_n hx hb dX12_spreads_67 rfl (lv_at hl 3 rfl) ?_
  refine lv_iconst (v := nI 1) hx hb dX12_spreads_68 (by decide) ?_
  refine lv_iload_n hx hb dX12_spreads_69 rfl (lv_at hl 4 rfl) ?_
  refine lv_isub hx hb dX12_spreads_70 ?_
  refine lv_topi (nm_r (e' := nI 1) (by decide) ?_)
  refine lv_sipush (v := nI 2000) hx hb dX12_spreads_71 (by decide) ?_
  refine xi (wr := [(ti0, .inl (cs 1, 2001, .inr (.inl u0))), (st0, .inl (cs 0, 96048, .inl q0))]) (xV (As := [.int (nI 1), .int (nI 2000)]) (rest := []) C (c_X12_numberOf_b1 l D cs hm ms mkp mtr mas mso mon mot man mst msm mtb mti mfr mbn mbs mde maa mab mba mbb st1 tb1 ti1 fst ftb fti (smF2 a0 (nI 1)) (cpF freshS q1 48) (upd (fun _ => nI 0) 965 (nI 1)) (vp_updL u1 0 (lN (ww * 2))) hf1 hg ht1 (if_pos rfl) (fun j hj => cpF_lt hj)) kX12_197 hP hD [9, 10, 1, 7, 2, 3, 4, 5, 6] rfl (by decide +kernel) 0 rfl rfl rfl ⟨Nat.le_of_ble_eq_true rfl, Nat.le_of_ble_eq_true rfl⟩ rfl hl.1 rfl (Nat.le_of_ble_eq_true rfl) dX12_spreads_74 ⟨Nat.le_of_ble_eq_true rfl, Nat.le_of_ble_eq_true rfl⟩) hP hD hS hA [9, 10, 1, 7, 2, 3, 4, 5, 6] [0, 8] rfl rfl (by decide +kernel) (by decide +kernel) ?_
  clear hP hD hS
  try clear locs
  try clear H
  intro r_43 u_44 H locs hw_r_43 hP hD hS
  have hw_r_43 : r_43 = nI 0 := hw_r_43
  refine W.widen (k := 0) (n := 0) (Nat.le_of_ble_eq_true rfl) (Nat.le_of_ble_eq_true rfl) ?_
  replace hP : va_P D vwCl [(ti0, .inl (cs 1, 2001, .inr (.inl u0))), (st0, .inl (cs 0, 96048, .inl q0)), (hm, .inr (12, [.ref ms, .ref mkp, .int (nI 0), .ref mtr, .int (nI 4), .int (nI 2), .int (nI 2), .int (nI 3), .int (nI 2), .int (nI 1), .ref mas, .int (nI 0), .int (nI 0), .int (nI 0), .ref mso, .ref mon, .ref mot, .ref man, .int (nI 0), .int (nI 0), .ref mst, .ref msm, .ref mtb, .ref mti, .ref mfr, .ref mbn, .ref mbs, .ref mde, .int (nI 0), .int (nI 0), .int (nI 0), .int (nI 0), .long 0, .long 0, .ref maa, .ref mab, .ref mba, .ref mbb])), (ms, .inl (cs 0, 288, .inl freshS)), (msm, .inl (cs 0, 2, .inl (smF2 a0 (nI 1)))), (mst, .inl (cs 5, 2, .inr (.inr (.inr (.inr fst))))), (st1, .inl (cs 0, 96048, .inl (cpF freshS q1 48))), (mtb, .inl (cs 5, 2, .inr (.inr (.inr (.inr ftb))))), (tb1, .inl (cs 0, 8192, .inl (upd (fun _ => nI 0) 965 (nI 1)))), (mti, .inl (cs 6, 2, .inr (.inr (.inr (.inr fti))))), (ti1, .inl (cs 1, 2001, .inr (.inl (vp_updL u1 0 (lN (ww * 2))))))] H := hP
  replace hD : va_D A [(ti0, .inl (cs 1, 2001, .inr (.inl u0))), (st0, .inl (cs 0, 96048, .inl q0)), (hm, .inr (12, [.ref ms, .ref mkp, .int (nI 0), .ref mtr, .int (nI 4), .int (nI 2), .int (nI 2), .int (nI 3), .int (nI 2), .int (nI 1), .ref mas, .int (nI 0), .int (nI 0), .int (nI 0), .ref mso, .ref mon, .ref mot, .ref man, .int (nI 0), .int (nI 0), .ref mst, .ref msm, .ref mtb, .ref mti, .ref mfr, .ref mbn, .ref mbs, .ref mde, .int (nI 0), .int (nI 0), .int (nI 0), .int (nI 0), .long 0, .long 0, .ref maa, .ref mab, .ref mba, .ref mbb])), (ms, .inl (cs 0, 288, .inl freshS)), (msm, .inl (cs 0, 2, .inl (smF2 a0 (nI 1)))), (mst, .inl (cs 5, 2, .inr (.inr (.inr (.inr fst))))), (st1, .inl (cs 0, 96048, .inl (cpF freshS q1 48))), (mtb, .inl (cs 5, 2, .inr (.inr (.inr (.inr ftb))))), (tb1, .inl (cs 0, 8192, .inl (upd (fun _ => nI 0) 965 (nI 1)))), (mti, .inl (cs 6, 2, .inr (.inr (.inr (.inr fti))))), (ti1, .inl (cs 1, 2001, .inr (.inl (vp_updL u1 0 (lN (ww * 2))))))] := hD
  subst hw_r_43
  refine lv_istore (lv' := [(5, .int (nI 0)), (4, .int (nI 12)), (3, .int (nI 0)), (0, .ref hm), (1, .int (nI 0)), (2, .int (nI 0))]) hx hb dX12_spreads_77 hl (by decide) rfl ?_
  clear hl
  try clear ls
  intro ls hl
  refine lv_iload hx hb dX12_spreads_79 (lv_at hl 0 rfl) ?_
  refine lv_if_ge (tgt := 86) hx hb dX12_spreads_81 (by decide) (fun _ => ?_) (fun c => absurd (by decide) c)
  refine lv_aload_n hx hb dX12_spreads_86 rfl (lv_at hl 3 rfl) ?_
  refine xget C hP 2 rfl rfl zuX12 23 (by decide) zw5_236 rfl dX12_spreads_87 ?_
  refine lv_iconst (v := nI 1) hx hb dX12_spreads_90 (by decide) ?_
  refine lv_iload_n hx hb dX12_spreads_91 rfl (lv_at hl 4 rfl) ?_
  refine lv_isub hx hb dX12_spreads_92 ?_
  refine lv_topi (nm_r (e' := nI 1) (by decide) ?_)
  refine xaald C hP 9 6 rfl rfl rfl 1 rfl (by decide) (by decide) ht1 dX12_spreads_93 ?_
  refine lv_iload hx hb dX12_spreads_94 (lv_at hl 0 rfl) ?_
  refine lv_dup2_11 hx hb dX12_spreads_96 rfl rfl ?_
  refine xlald C hP 10 rfl 0 rfl (by decide) (by decide) dX12_spreads_97 ?_
  refine lv_topl (nm_r (e' := lN (ww * 2)) (upL_0 _ _) ?_)
  refine lv_aload_n hx hb dX12_spreads_98 rfl (lv_at hl 3 rfl) ?_
  refine xget C hP 2 rfl rfl zuX12 23 (by decide) zw5_236 rfl dX12_spreads_99 ?_
  refine lv_iload_n hx hb dX12_spreads_102 rfl (lv_at hl 4 rfl) ?_
  refine xaald C hP 9 6 rfl rfl rfl 0 rfl (by decide) (by decide) ht0 dX12_spreads_103 ?_
  refine lv_iload_n hx hb dX12_spreads_104 rfl (lv_at hl 5 rfl) ?_
  refine xlald C hP 0 rfl 0 rfl (by decide) (by decide) dX12_spreads_105 ?_
  refine lv_topl (nm_r (e' := lN ww) hw ?_)
  refine lv_ladd hx hb dX12_spreads_106 ?_
  refine lv_topl (nm_r (e' := lN (ww * 3)) (lN_a ww 2) ?_)
  refine xlast C hP hD hS 10 rfl 0 rfl (by decide) (by decide) dX12_spreads_107 ?_
  clear hP hD hS
  try clear locs
  try clear H
  intro H locs hP hD hS
  replace hP : va_P D vwCl [(ti0, .inl (cs 1, 2001, .inr (.inl u0))), (st0, .inl (cs 0, 96048, .inl q0)), (hm, .inr (12, [.ref ms, .ref mkp, .int (nI 0), .ref mtr, .int (nI 4), .int (nI 2), .int (nI 2), .int (nI 3), .int (nI 2), .int (nI 1), .ref mas, .int (nI 0), .int (nI 0), .int (nI 0), .ref mso, .ref mon, .ref mot, .ref man, .int (nI 0), .int (nI 0), .ref mst, .ref msm, .ref mtb, .ref mti, .ref mfr, .ref mbn, .ref mbs, .ref mde, .int (nI 0), .int (nI 0), .int (nI 0), .int (nI 0), .long 0, .long 0, .ref maa, .ref mab, .ref mba, .ref mbb])), (ms, .inl (cs 0, 288, .inl freshS)), (msm, .inl (cs 0, 2, .inl (smF2 a0 (nI 1)))), (mst, .inl (cs 5, 2, .inr (.inr (.inr (.inr fst))))), (st1, .inl (cs 0, 96048, .inl (cpF freshS q1 48))), (mtb, .inl (cs 5, 2, .inr (.inr (.inr (.inr ftb))))), (tb1, .inl (cs 0, 8192, .inl (upd (fun _ => nI 0) 965 (nI 1)))), (mti, .inl (cs 6, 2, .inr (.inr (.inr (.inr fti))))), (ti1, .inl (cs 1, 2001, .inr (.inl (vp_updL (vp_updL u1 0 (lN (ww * 2))) 0 (lN (ww * 3))))))] H := hP
  replace hD : va_D A [(ti0, .inl (cs 1, 2001, .inr (.inl u0))), (st0, .inl (cs 0, 96048, .inl q0)), (hm, .inr (12, [.ref ms, .ref mkp, .int (nI 0), .ref mtr, .int (nI 4), .int (nI 2), .int (nI 2), .int (nI 3), .int (nI 2), .int (nI 1), .ref mas, .int (nI 0), .int (nI 0), .int (nI 0), .ref mso, .ref mon, .ref mot, .ref man, .int (nI 0), .int (nI 0), .ref mst, .ref msm, .ref mtb, .ref mti, .ref mfr, .ref mbn, .ref mbs, .ref mde, .int (nI 0), .int (nI 0), .int (nI 0), .int (nI 0), .long 0, .long 0, .ref maa, .ref mab, .ref mba, .ref mbb])), (ms, .inl (cs 0, 288, .inl freshS)), (msm, .inl (cs 0, 2, .inl (smF2 a0 (nI 1)))), (mst, .inl (cs 5, 2, .inr (.inr (.inr (.inr fst))))), (st1, .inl (cs 0, 96048, .inl (cpF freshS q1 48))), (mtb, .inl (cs 5, 2, .inr (.inr (.inr (.inr ftb))))), (tb1, .inl (cs 0, 8192, .inl (upd (fun _ => nI 0) 965 (nI 1)))), (mti, .inl (cs 6, 2, .inr (.inr (.inr (.inr fti))))), (ti1, .inl (cs 1, 2001, .inr (.inl (vp_updL (vp_updL u1 0 (lN (ww * 2))) 0 (lN (ww * 3))))))] := hD
  have hPD := xcongl (q0 := 10) (vp_updL u1 0 (lN (ww * 3))) hP hD rfl (fun j hj => upL_1 u1 _ _ j)
  clear hP hD
  obtain ⟨hP, hD⟩ := hPD
  replace hP : va_P D vwCl [(ti0, .inl (cs 1, 2001, .inr (.inl u0))), (st0, .inl (cs 0, 96048, .inl q0)), (hm, .inr (12, [.ref ms, .ref mkp, .int (nI 0), .ref mtr, .int (nI 4), .int (nI 2), .int (nI 2), .int (nI 3), .int (nI 2), .int (nI 1), .ref mas, .int (nI 0), .int (nI 0), .int (nI 0), .ref mso, .ref mon, .ref mot, .ref man, .int (nI 0), .int (nI 0), .ref mst, .ref msm, .ref mtb, .ref mti, .ref mfr, .ref mbn, .ref mbs, .ref mde, .int (nI 0), .int (nI 0), .int (nI 0), .int (nI 0), .long 0, .long 0, .ref maa, .ref mab, .ref mba, .ref mbb])), (ms, .inl (cs 0, 288, .inl freshS)), (msm, .inl (cs 0, 2, .inl (smF2 a0 (nI 1)))), (mst, .inl (cs 5, 2, .inr (.inr (.inr (.inr fst))))), (st1, .inl (cs 0, 96048, .inl (cpF freshS q1 48))), (mtb, .inl (cs 5, 2, .inr (.inr (.inr (.inr ftb))))), (tb1, .inl (cs 0, 8192, .inl (upd (fun _ => nI 0) 965 (nI 1)))), (mti, .inl (cs 6, 2, .inr (.inr (.inr (.inr fti))))), (ti1, .inl (cs 1, 2001, .inr (.inl (vp_updL u1 0 (lN (ww * 3))))))] H := hP
  replace hD : va_D A [(ti0, .inl (cs 1, 2001, .inr (.inl u0))), (st0, .inl (cs 0, 96048, .inl q0)), (hm, .inr (12, [.ref ms, .ref mkp, .int (nI 0), .ref mtr, .int (nI 4), .int (nI 2), .int (nI 2), .int (nI 3), .int (nI 2), .int (nI 1), .ref mas, .int (nI 0), .int (nI 0), .int (nI 0), .ref mso, .ref mon, .ref mot, .ref man, .int (nI 0), .int (nI 0), .ref mst, .ref msm, .ref mtb, .ref mti, .ref mfr, .ref mbn, .ref mbs, .ref mde, .int (nI 0), .int (nI 0), .int (nI 0), .int (nI 0), .long 0, .long 0, .ref maa, .ref mab, .ref mba, .ref mbb])), (ms, .inl (cs 0, 288, .inl freshS)), (msm, .inl (cs 0, 2, .inl (smF2 a0 (nI 1)))), (mst, .inl (cs 5, 2, .inr (.inr (.inr (.inr fst))))), (st1, .inl (cs 0, 96048, .inl (cpF freshS q1 48))), (mtb, .inl (cs 5, 2, .inr (.inr (.inr (.inr ftb))))), (tb1, .inl (cs 0, 8192, .inl (upd (fun _ => nI 0) 965 (nI 1)))), (mti, .inl (cs 6, 2, .inr (.inr (.inr (.inr fti))))), (ti1, .inl (cs 1, 2001, .inr (.inl (vp_updL u1 0 (lN (ww * 3))))))] := hD
  refine lv_iinc (v := nI 13) (lv' := [(4, .int (nI 13)), (5, .int (nI 0)), (3, .int (nI 0)), (0, .ref hm), (1, .int (nI 0)), (2, .int (nI 0))]) hx hb dX12_spreads_108 hl (k := 1) rfl (by decide) (by decide) rfl ?_
  clear hl
  try clear ls
  intro ls hl
  refine lv_goto (tgt := 13) hx hb dX12_spreads_111 (by decide) ?_
  refine lv_iload hx hb dX12_spreads_13 (lv_at hl 0 rfl) ?_
  refine lv_iconst (v := nI 1) hx hb dX12_spreads_15 (by decide) ?_
  refine lv_aload_n hx hb dX12_spreads_16 rfl (lv_at hl 3 rfl) ?_
  refine xget C hP 2 rfl rfl zuX12 4 (by decide) zw5_217 rfl dX12_spreads_17 ?_
  refine lv_ishl hx hb dX12_spreads_20 ?_
  refine lv_topi (nm_r (e' := nI 16) (by decide) ?_)
  refine lv_icmp_ge (tgt := 114) hx hb dX12_spreads_21 (by decide) (fun c => absurd c (by decide)) (fun _ => ?_)
  refine lv_aload_n hx hb dX12_spreads_24 rfl (lv_at hl 3 rfl) ?_
  refine lv_iload_n hx hb dX12_spreads_25 rfl (lv_at hl 2 rfl) ?_
  refine lv_iload hx hb dX12_spreads_26 (lv_at hl 0 rfl) ?_
  refine xi (wr := [(ti0, .inl (cs 1, 2001, .inr (.inl u0))), (st0, .inl (cs 0, 96048, .inl q0)), (ms, .inl (cs 0, 288, .inl freshS)), (msm, .inl (cs 0, 2, .inl (smF2 a0 (nI 1)))), (mst, .inl (cs 5, 2, .inr (.inr (.inr (.inr fst))))), (st1, .inl (cs 0, 96048, .inl (cpF freshS q1 48))), (mtb, .inl (cs 5, 2, .inr (.inr (.inr (.inr ftb))))), (tb1, .inl (cs 0, 8192, .inl (upd (fun _ => nI 0) 965 (nI 1)))), (mti, .inl (cs 6, 2, .inr (.inr (.inr (.inr fti))))), (ti1, .inl (cs 1, 2001, .inr (.inl (vp_updL u1 0 (lN (ww * 3))))))]) (xV (As := [.int (nI 0), .int (nI 13)]) (rest := []) C (c_X12_isSample_x l D cs hm ms mkp mtr mas mso mon mot man mst msm mtb mti mfr mbn mbs mde maa mab mba mbb 0 13 (by decide) (by decide)) kX12_139 hP hD [2] rfl (by decide +kernel) 0 rfl rfl rfl ⟨Nat.le_of_ble_eq_true rfl, Nat.le_of_ble_eq_true rfl⟩ rfl hl.1 rfl (Nat.le_of_ble_eq_true rfl) dX12_spreads_28 ⟨Nat.le_of_ble_eq_true rfl, Nat.le_of_ble_eq_true rfl⟩) hP hD hS hA [2] [0, 1, 3, 4, 5, 6, 7, 8, 9, 10] rfl rfl (by decide +kernel) (by decide +kernel) ?_
  clear hP hD hS
  try clear locs
  try clear H
  intro r_45 u_46 H locs hw_r_45 hP hD hS
  have hw_r_45 : r_45 = smB 0 13 := hw_r_45
  refine W.widen (k := 0) (n := 0) (Nat.le_of_ble_eq_true rfl) (Nat.le_of_ble_eq_true rfl) ?_
  replace hP : va_P D vwCl [(ti0, .inl (cs 1, 2001, .inr (.inl u0))), (st0, .inl (cs 0, 96048, .inl q0)), (ms, .inl (cs 0, 288, .inl freshS)), (msm, .inl (cs 0, 2, .inl (smF2 a0 (nI 1)))), (mst, .inl (cs 5, 2, .inr (.inr (.inr (.inr fst))))), (st1, .inl (cs 0, 96048, .inl (cpF freshS q1 48))), (mtb, .inl (cs 5, 2, .inr (.inr (.inr (.inr ftb))))), (tb1, .inl (cs 0, 8192, .inl (upd (fun _ => nI 0) 965 (nI 1)))), (mti, .inl (cs 6, 2, .inr (.inr (.inr (.inr fti))))), (ti1, .inl (cs 1, 2001, .inr (.inl (vp_updL u1 0 (lN (ww * 3)))))), (hm, .inr (12, [.ref ms, .ref mkp, .int (nI 0), .ref mtr, .int (nI 4), .int (nI 2), .int (nI 2), .int (nI 3), .int (nI 2), .int (nI 1), .ref mas, .int (nI 0), .int (nI 0), .int (nI 0), .ref mso, .ref mon, .ref mot, .ref man, .int (nI 0), .int (nI 0), .ref mst, .ref msm, .ref mtb, .ref mti, .ref mfr, .ref mbn, .ref mbs, .ref mde, .int (nI 0), .int (nI 0), .int (nI 0), .int (nI 0), .long 0, .long 0, .ref maa, .ref mab, .ref mba, .ref mbb]))] H := hP
  replace hD : va_D A [(ti0, .inl (cs 1, 2001, .inr (.inl u0))), (st0, .inl (cs 0, 96048, .inl q0)), (ms, .inl (cs 0, 288, .inl freshS)), (msm, .inl (cs 0, 2, .inl (smF2 a0 (nI 1)))), (mst, .inl (cs 5, 2, .inr (.inr (.inr (.inr fst))))), (st1, .inl (cs 0, 96048, .inl (cpF freshS q1 48))), (mtb, .inl (cs 5, 2, .inr (.inr (.inr (.inr ftb))))), (tb1, .inl (cs 0, 8192, .inl (upd (fun _ => nI 0) 965 (nI 1)))), (mti, .inl (cs 6, 2, .inr (.inr (.inr (.inr fti))))), (ti1, .inl (cs 1, 2001, .inr (.inl (vp_updL u1 0 (lN (ww * 3)))))), (hm, .inr (12, [.ref ms, .ref mkp, .int (nI 0), .ref mtr, .int (nI 4), .int (nI 2), .int (nI 2), .int (nI 3), .int (nI 2), .int (nI 1), .ref mas, .int (nI 0), .int (nI 0), .int (nI 0), .ref mso, .ref mon, .ref mot, .ref man, .int (nI 0), .int (nI 0), .ref mst, .ref msm, .ref mtb, .ref mti, .ref mfr, .ref mbn, .ref mbs, .ref mde, .int (nI 0), .int (nI 0), .int (nI 0), .int (nI 0), .long 0, .long 0, .ref maa, .ref mab, .ref mba, .ref mbb]))] := hD
  obtain rfl : r_45 = nI 0 := by rw [hw_r_45]; decide +kernel
  refine lv_if_ne (tgt := 37) hx hb dX12_spreads_31 (by decide) (fun c => absurd (by decide) c) (fun _ => ?_)
  refine lv_goto (tgt := 108) hx hb dX12_spreads_34 (by decide) ?_
  refine lv_iinc (v := nI 14) (lv' := [(4, .int (nI 14)), (5, .int (nI 0)), (3, .int (nI 0)), (0, .ref hm), (1, .int (nI 0)), (2, .int (nI 0))]) hx hb dX12_spreads_108 hl (k := 0) rfl (by decide) (by decide) rfl ?_
  clear hl
  try clear ls
  intro ls hl
  refine lv_goto (tgt := 13) hx hb dX12_spreads_111 (by decide) ?_
  refine lv_iload hx hb dX12_spreads_13 (lv_at hl 0 rfl) ?_
  refine lv_iconst (v := nI 1) hx hb dX12_spreads_15 (by decide) ?_
  refine lv_aload_n hx hb dX12_spreads_16 rfl (lv_at hl 3 rfl) ?_
  refine xget C hP 10 rfl rfl zuX12 4 (by decide) zw5_217 rfl dX12_spreads_17 ?_
  refine lv_ishl hx hb dX12_spreads_20 ?_
  refine lv_topi (nm_r (e' := nI 16) (by decide) ?_)
  refine lv_icmp_ge (tgt := 114) hx hb dX12_spreads_21 (by decide) (fun c => absurd c (by decide)) (fun _ => ?_)
  refine lv_aload_n hx hb dX12_spreads_24 rfl (lv_at hl 3 rfl) ?_
  refine lv_iload_n hx hb dX12_spreads_25 rfl (lv_at hl 2 rfl) ?_
  refine lv_iload hx hb dX12_spreads_26 (lv_at hl 0 rfl) ?_
  refine xi (wr := [(ti0, .inl (cs 1, 2001, .inr (.inl u0))), (st0, .inl (cs 0, 96048, .inl q0)), (ms, .inl (cs 0, 288, .inl freshS)), (msm, .inl (cs 0, 2, .inl (smF2 a0 (nI 1)))), (mst, .inl (cs 5, 2, .inr (.inr (.inr (.inr fst))))), (st1, .inl (cs 0, 96048, .inl (cpF freshS q1 48))), (mtb, .inl (cs 5, 2, .inr (.inr (.inr (.inr ftb))))), (tb1, .inl (cs 0, 8192, .inl (upd (fun _ => nI 0) 965 (nI 1)))), (mti, .inl (cs 6, 2, .inr (.inr (.inr (.inr fti))))), (ti1, .inl (cs 1, 2001, .inr (.inl (vp_updL u1 0 (lN (ww * 3))))))]) (xV (As := [.int (nI 0), .int (nI 14)]) (rest := []) C (c_X12_isSample_x l D cs hm ms mkp mtr mas mso mon mot man mst msm mtb mti mfr mbn mbs mde maa mab mba mbb 0 14 (by decide) (by decide)) kX12_139 hP hD [10] rfl (by decide +kernel) 0 rfl rfl rfl ⟨Nat.le_of_ble_eq_true rfl, Nat.le_of_ble_eq_true rfl⟩ rfl hl.1 rfl (Nat.le_of_ble_eq_true rfl) dX12_spreads_28 ⟨Nat.le_of_ble_eq_true rfl, Nat.le_of_ble_eq_true rfl⟩) hP hD hS hA [10] [0, 1, 2, 3, 4, 5, 6, 7, 8, 9] rfl rfl (by decide +kernel) (by decide +kernel) ?_
  clear hP hD hS
  try clear locs
  try clear H
  intro r_47 u_48 H locs hw_r_47 hP hD hS
  have hw_r_47 : r_47 = smB 0 14 := hw_r_47
  refine W.widen (k := 0) (n := 0) (Nat.le_of_ble_eq_true rfl) (Nat.le_of_ble_eq_true rfl) ?_
  replace hP : va_P D vwCl [(ti0, .inl (cs 1, 2001, .inr (.inl u0))), (st0, .inl (cs 0, 96048, .inl q0)), (ms, .inl (cs 0, 288, .inl freshS)), (msm, .inl (cs 0, 2, .inl (smF2 a0 (nI 1)))), (mst, .inl (cs 5, 2, .inr (.inr (.inr (.inr fst))))), (st1, .inl (cs 0, 96048, .inl (cpF freshS q1 48))), (mtb, .inl (cs 5, 2, .inr (.inr (.inr (.inr ftb))))), (tb1, .inl (cs 0, 8192, .inl (upd (fun _ => nI 0) 965 (nI 1)))), (mti, .inl (cs 6, 2, .inr (.inr (.inr (.inr fti))))), (ti1, .inl (cs 1, 2001, .inr (.inl (vp_updL u1 0 (lN (ww * 3)))))), (hm, .inr (12, [.ref ms, .ref mkp, .int (nI 0), .ref mtr, .int (nI 4), .int (nI 2), .int (nI 2), .int (nI 3), .int (nI 2), .int (nI 1), .ref mas, .int (nI 0), .int (nI 0), .int (nI 0), .ref mso, .ref mon, .ref mot, .ref man, .int (nI 0), .int (nI 0), .ref mst, .ref msm, .ref mtb, .ref mti, .ref mfr, .ref mbn, .ref mbs, .ref mde, .int (nI 0), .int (nI 0), .int (nI 0), .int (nI 0), .long 0, .long 0, .ref maa, .ref mab, .ref mba, .ref mbb]))] H := hP
  replace hD : va_D A [(ti0, .inl (cs 1, 2001, .inr (.inl u0))), (st0, .inl (cs 0, 96048, .inl q0)), (ms, .inl (cs 0, 288, .inl freshS)), (msm, .inl (cs 0, 2, .inl (smF2 a0 (nI 1)))), (mst, .inl (cs 5, 2, .inr (.inr (.inr (.inr fst))))), (st1, .inl (cs 0, 96048, .inl (cpF freshS q1 48))), (mtb, .inl (cs 5, 2, .inr (.inr (.inr (.inr ftb))))), (tb1, .inl (cs 0, 8192, .inl (upd (fun _ => nI 0) 965 (nI 1)))), (mti, .inl (cs 6, 2, .inr (.inr (.inr (.inr fti))))), (ti1, .inl (cs 1, 2001, .inr (.inl (vp_updL u1 0 (lN (ww * 3)))))), (hm, .inr (12, [.ref ms, .ref mkp, .int (nI 0), .ref mtr, .int (nI 4), .int (nI 2), .int (nI 2), .int (nI 3), .int (nI 2), .int (nI 1), .ref mas, .int (nI 0), .int (nI 0), .int (nI 0), .ref mso, .ref mon, .ref mot, .ref man, .int (nI 0), .int (nI 0), .ref mst, .ref msm, .ref mtb, .ref mti, .ref mfr, .ref mbn, .ref mbs, .ref mde, .int (nI 0), .int (nI 0), .int (nI 0), .int (nI 0), .long 0, .long 0, .ref maa, .ref mab, .ref mba, .ref mbb]))] := hD
  obtain rfl : r_47 = nI 0 := by rw [hw_r_47]; decide +kernel
  refine lv_if_ne (tgt := 37) hx hb dX12_spreads_31 (by decide) (fun c => absurd (by decide) c) (fun _ => ?_)
  refine lv_goto (tgt := 108) hx hb dX12_spreads_34 (by decide) ?_
  refine lv_iinc (v := nI 15) (lv' := [(4, .int (nI 15)), (5, .int (nI 0)), (3, .int (nI 0)), (0, .ref hm), (1, .int (nI 0)), (2, .int (nI 0))]) hx hb dX12_spreads_108 hl (k := 0) rfl (by decide) (by decide) rfl ?_
  clear hl
  try clear ls
  intro ls hl
  refine lv_goto (tgt := 13) hx hb dX12_spreads_111 (by decide) ?_
  refine lv_iload hx hb dX12_spreads_13 (lv_at hl 0 rfl) ?_
  refine lv_iconst (v := nI 1) hx hb dX12_spreads_15 (by decide) ?_
  refine lv_aload_n hx hb dX12_spreads_16 rfl (lv_at hl 3 rfl) ?_
  refine xget C hP 10 rfl rfl zuX12 4 (by decide) zw5_217 rfl dX12_spreads_17 ?_
  refine lv_ishl hx hb dX12_spreads_20 ?_
  refine lv_topi (nm_r (e' := nI 16) (by decide) ?_)
  refine lv_icmp_ge (tgt := 114) hx hb dX12_spreads_21 (by decide) (fun c => absurd c (by decide)) (fun _ => ?_)
  refine lv_aload_n hx hb dX12_spreads_24 rfl (lv_at hl 3 rfl) ?_
  refine lv_iload_n hx hb dX12_spreads_25 rfl (lv_at hl 2 rfl) ?_
  refine lv_iload hx hb dX12_spreads_26 (lv_at hl 0 rfl) ?_
  refine xi (wr := [(ti0, .inl (cs 1, 2001, .inr (.inl u0))), (st0, .inl (cs 0, 96048, .inl q0)), (ms, .inl (cs 0, 288, .inl freshS)), (msm, .inl (cs 0, 2, .inl (smF2 a0 (nI 1)))), (mst, .inl (cs 5, 2, .inr (.inr (.inr (.inr fst))))), (st1, .inl (cs 0, 96048, .inl (cpF freshS q1 48))), (mtb, .inl (cs 5, 2, .inr (.inr (.inr (.inr ftb))))), (tb1, .inl (cs 0, 8192, .inl (upd (fun _ => nI 0) 965 (nI 1)))), (mti, .inl (cs 6, 2, .inr (.inr (.inr (.inr fti))))), (ti1, .inl (cs 1, 2001, .inr (.inl (vp_updL u1 0 (lN (ww * 3))))))]) (xV (As := [.int (nI 0), .int (nI 15)]) (rest := []) C (c_X12_isSample_x l D cs hm ms mkp mtr mas mso mon mot man mst msm mtb mti mfr mbn mbs mde maa mab mba mbb 0 15 (by decide) (by decide)) kX12_139 hP hD [10] rfl (by decide +kernel) 0 rfl rfl rfl ⟨Nat.le_of_ble_eq_true rfl, Nat.le_of_ble_eq_true rfl⟩ rfl hl.1 rfl (Nat.le_of_ble_eq_true rfl) dX12_spreads_28 ⟨Nat.le_of_ble_eq_true rfl, Nat.le_of_ble_eq_true rfl⟩) hP hD hS hA [10] [0, 1, 2, 3, 4, 5, 6, 7, 8, 9] rfl rfl (by decide +kernel) (by decide +kernel) ?_
  clear hP hD hS
  try clear locs
  try clear H
  intro r_49 u_50 H locs hw_r_49 hP hD hS
  have hw_r_49 : r_49 = smB 0 15 := hw_r_49
  refine W.widen (k := 0) (n := 0) (Nat.le_of_ble_eq_true rfl) (Nat.le_of_ble_eq_true rfl) ?_
  replace hP : va_P D vwCl [(ti0, .inl (cs 1, 2001, .inr (.inl u0))), (st0, .inl (cs 0, 96048, .inl q0)), (ms, .inl (cs 0, 288, .inl freshS)), (msm, .inl (cs 0, 2, .inl (smF2 a0 (nI 1)))), (mst, .inl (cs 5, 2, .inr (.inr (.inr (.inr fst))))), (st1, .inl (cs 0, 96048, .inl (cpF freshS q1 48))), (mtb, .inl (cs 5, 2, .inr (.inr (.inr (.inr ftb))))), (tb1, .inl (cs 0, 8192, .inl (upd (fun _ => nI 0) 965 (nI 1)))), (mti, .inl (cs 6, 2, .inr (.inr (.inr (.inr fti))))), (ti1, .inl (cs 1, 2001, .inr (.inl (vp_updL u1 0 (lN (ww * 3)))))), (hm, .inr (12, [.ref ms, .ref mkp, .int (nI 0), .ref mtr, .int (nI 4), .int (nI 2), .int (nI 2), .int (nI 3), .int (nI 2), .int (nI 1), .ref mas, .int (nI 0), .int (nI 0), .int (nI 0), .ref mso, .ref mon, .ref mot, .ref man, .int (nI 0), .int (nI 0), .ref mst, .ref msm, .ref mtb, .ref mti, .ref mfr, .ref mbn, .ref mbs, .ref mde, .int (nI 0), .int (nI 0), .int (nI 0), .int (nI 0), .long 0, .long 0, .ref maa, .ref mab, .ref mba, .ref mbb]))] H := hP
  replace hD : va_D A [(ti0, .inl (cs 1, 2001, .inr (.inl u0))), (st0, .inl (cs 0, 96048, .inl q0)), (ms, .inl (cs 0, 288, .inl freshS)), (msm, .inl (cs 0, 2, .inl (smF2 a0 (nI 1)))), (mst, .inl (cs 5, 2, .inr (.inr (.inr (.inr fst))))), (st1, .inl (cs 0, 96048, .inl (cpF freshS q1 48))), (mtb, .inl (cs 5, 2, .inr (.inr (.inr (.inr ftb))))), (tb1, .inl (cs 0, 8192, .inl (upd (fun _ => nI 0) 965 (nI 1)))), (mti, .inl (cs 6, 2, .inr (.inr (.inr (.inr fti))))), (ti1, .inl (cs 1, 2001, .inr (.inl (vp_updL u1 0 (lN (ww * 3)))))), (hm, .inr (12, [.ref ms, .ref mkp, .int (nI 0), .ref mtr, .int (nI 4), .int (nI 2), .int (nI 2), .int (nI 3), .int (nI 2), .int (nI 1), .ref mas, .int (nI 0), .int (nI 0), .int (nI 0), .ref mso, .ref mon, .ref mot, .ref man, .int (nI 0), .int (nI 0), .ref mst, .ref msm, .ref mtb, .ref mti, .ref mfr, .ref mbn, .ref mbs, .ref mde, .int (nI 0), .int (nI 0), .int (nI 0), .int (nI 0), .long 0, .long 0, .ref maa, .ref mab, .ref mba, .ref mbb]))] := hD
  obtain rfl : r_49 = nI 0 := by rw [hw_r_49]; decide +kernel
  refine lv_if_ne (tgt := 37) hx hb dX12_spreads_31 (by decide) (fun c => absurd (by decide) c) (fun _ => ?_)
  refine lv_goto (tgt := 108) hx hb dX12_spreads_34 (by decide) ?_
  refine lv_iinc (v := nI 16) (lv' := [(4, .int (nI 16)), (5, .int (nI 0)), (3, .int (nI 0)), (0, .ref hm), (1, .int (nI 0)), (2, .int (nI 0))]) hx hb dX12_spreads_108 hl (k := 0) rfl (by decide) (by decide) rfl ?_
  clear hl
  try clear ls
  intro ls hl
  refine lv_goto (tgt := 13) hx hb dX12_spreads_111 (by decide) ?_
  refine lv_iload hx hb dX12_spreads_13 (lv_at hl 0 rfl) ?_
  refine lv_iconst (v := nI 1) hx hb dX12_spreads_15 (by decide) ?_
  refine lv_aload_n hx hb dX12_spreads_16 rfl (lv_at hl 3 rfl) ?_
  refine xget C hP 10 rfl rfl zuX12 4 (by decide) zw5_217 rfl dX12_spreads_17 ?_
  refine lv_ishl hx hb dX12_spreads_20 ?_
  refine lv_topi (nm_r (e' := nI 16) (by decide) ?_)
  refine lv_icmp_ge (tgt := 114) hx hb dX12_spreads_21 (by decide) (fun _ => ?_) (fun c => absurd (by decide) c)
  refine lv_iinc (v := nI 1) (lv' := [(3, .int (nI 1)), (4, .int (nI 16)), (5, .int (nI 0)), (0, .ref hm), (1, .int (nI 0)), (2, .int (nI 0))]) hx hb dX12_spreads_114 hl (k := 2) rfl (by decide) (by decide) rfl ?_
  clear hl
  try clear ls
  intro ls hl
  refine lv_goto (tgt := 2) hx hb dX12_spreads_117 (by decide) ?_
  refine lv_iload_n hx hb dX12_spreads_2 rfl (lv_at hl 0 rfl) ?_
  refine lv_aload_n hx hb dX12_spreads_3 rfl (lv_at hl 3 rfl) ?_
  refine xget C hP 10 rfl rfl zuX12 4 (by decide) zw5_217 rfl dX12_spreads_4 ?_
  refine lv_icmp_ge (tgt := 120) hx hb dX12_spreads_7 (by decide) (fun c => absurd c (by decide)) (fun _ => ?_)
  refine lv_iconst (v := nI 0) hx hb dX12_spreads_10 (by decide) ?_
  refine lv_istore (lv' := [(4, .int (nI 0)), (3, .int (nI 1)), (5, .int (nI 0)), (0, .ref hm), (1, .int (nI 0)), (2, .int (nI 0))]) hx hb dX12_spreads_11 hl (by decide) rfl ?_
  clear hl
  try clear ls
  intro ls hl
  refine lv_iload hx hb dX12_spreads_13 (lv_at hl 0 rfl) ?_
  refine lv_iconst (v := nI 1) hx hb dX12_spreads_15 (by decide) ?_
  refine lv_aload_n hx hb dX12_spreads_16 rfl (lv_at hl 3 rfl) ?_
  refine xget C hP 10 rfl rfl zuX12 4 (by decide) zw5_217 rfl dX12_spreads_17 ?_
  refine lv_ishl hx hb dX12_spreads_20 ?_
  refine lv_topi (nm_r (e' := nI 16) (by decide) ?_)
  refine lv_icmp_ge (tgt := 114) hx hb dX12_spreads_21 (by decide) (fun c => absurd c (by decide)) (fun _ => ?_)
  refine lv_aload_n hx hb dX12_spreads_24 rfl (lv_at hl 3 rfl) ?_
  refine lv_iload_n hx hb dX12_spreads_25 rfl (lv_at hl 1 rfl) ?_
  refine lv_iload hx hb dX12_spreads_26 (lv_at hl 0 rfl) ?_
  refine xi (wr := [(ti0, .inl (cs 1, 2001, .inr (.inl u0))), (st0, .inl (cs 0, 96048, .inl q0)), (ms, .inl (cs 0, 288, .inl freshS)), (msm, .inl (cs 0, 2, .inl (smF2 a0 (nI 1)))), (mst, .inl (cs 5, 2, .inr (.inr (.inr (.inr fst))))), (st1, .inl (cs 0, 96048, .inl (cpF freshS q1 48))), (mtb, .inl (cs 5, 2, .inr (.inr (.inr (.inr ftb))))), (tb1, .inl (cs 0, 8192, .inl (upd (fun _ => nI 0) 965 (nI 1)))), (mti, .inl (cs 6, 2, .inr (.inr (.inr (.inr fti))))), (ti1, .inl (cs 1, 2001, .inr (.inl (vp_updL u1 0 (lN (ww * 3))))))]) (xV (As := [.int (nI 1), .int (nI 0)]) (rest := []) C (c_X12_isSample_x l D cs hm ms mkp mtr mas mso mon mot man mst msm mtb mti mfr mbn mbs mde maa mab mba mbb 1 0 (by decide) (by decide)) kX12_139 hP hD [10] rfl (by decide +kernel) 0 rfl rfl rfl ⟨Nat.le_of_ble_eq_true rfl, Nat.le_of_ble_eq_true rfl⟩ rfl hl.1 rfl (Nat.le_of_ble_eq_true rfl) dX12_spreads_28 ⟨Nat.le_of_ble_eq_true rfl, Nat.le_of_ble_eq_true rfl⟩) hP hD hS hA [10] [0, 1, 2, 3, 4, 5, 6, 7, 8, 9] rfl rfl (by decide +kernel) (by decide +kernel) ?_
  clear hP hD hS
  try clear locs
  try clear H
  intro r_51 u_52 H locs hw_r_51 hP hD hS
  have hw_r_51 : r_51 = smB 1 0 := hw_r_51
  refine W.widen (k := 0) (n := 0) (Nat.le_of_ble_eq_true rfl) (Nat.le_of_ble_eq_true rfl) ?_
  replace hP : va_P D vwCl [(ti0, .inl (cs 1, 2001, .inr (.inl u0))), (st0, .inl (cs 0, 96048, .inl q0)), (ms, .inl (cs 0, 288, .inl freshS)), (msm, .inl (cs 0, 2, .inl (smF2 a0 (nI 1)))), (mst, .inl (cs 5, 2, .inr (.inr (.inr (.inr fst))))), (st1, .inl (cs 0, 96048, .inl (cpF freshS q1 48))), (mtb, .inl (cs 5, 2, .inr (.inr (.inr (.inr ftb))))), (tb1, .inl (cs 0, 8192, .inl (upd (fun _ => nI 0) 965 (nI 1)))), (mti, .inl (cs 6, 2, .inr (.inr (.inr (.inr fti))))), (ti1, .inl (cs 1, 2001, .inr (.inl (vp_updL u1 0 (lN (ww * 3)))))), (hm, .inr (12, [.ref ms, .ref mkp, .int (nI 0), .ref mtr, .int (nI 4), .int (nI 2), .int (nI 2), .int (nI 3), .int (nI 2), .int (nI 1), .ref mas, .int (nI 0), .int (nI 0), .int (nI 0), .ref mso, .ref mon, .ref mot, .ref man, .int (nI 0), .int (nI 0), .ref mst, .ref msm, .ref mtb, .ref mti, .ref mfr, .ref mbn, .ref mbs, .ref mde, .int (nI 0), .int (nI 0), .int (nI 0), .int (nI 0), .long 0, .long 0, .ref maa, .ref mab, .ref mba, .ref mbb]))] H := hP
  replace hD : va_D A [(ti0, .inl (cs 1, 2001, .inr (.inl u0))), (st0, .inl (cs 0, 96048, .inl q0)), (ms, .inl (cs 0, 288, .inl freshS)), (msm, .inl (cs 0, 2, .inl (smF2 a0 (nI 1)))), (mst, .inl (cs 5, 2, .inr (.inr (.inr (.inr fst))))), (st1, .inl (cs 0, 96048, .inl (cpF freshS q1 48))), (mtb, .inl (cs 5, 2, .inr (.inr (.inr (.inr ftb))))), (tb1, .inl (cs 0, 8192, .inl (upd (fun _ => nI 0) 965 (nI 1)))), (mti, .inl (cs 6, 2, .inr (.inr (.inr (.inr fti))))), (ti1, .inl (cs 1, 2001, .inr (.inl (vp_updL u1 0 (lN (ww * 3)))))), (hm, .inr (12, [.ref ms, .ref mkp, .int (nI 0), .ref mtr, .int (nI 4), .int (nI 2), .int (nI 2), .int (nI 3), .int (nI 2), .int (nI 1), .ref mas, .int (nI 0), .int (nI 0), .int (nI 0), .ref mso, .ref mon, .ref mot, .ref man, .int (nI 0), .int (nI 0), .ref mst, .ref msm, .ref mtb, .ref mti, .ref mfr, .ref mbn, .ref mbs, .ref mde, .int (nI 0), .int (nI 0), .int (nI 0), .int (nI 0), .long 0, .long 0, .ref maa, .ref mab, .ref mba, .ref mbb]))] := hD
  obtain rfl : r_51 = nI 0 := by rw [hw_r_51]; decide +kernel
  refine lv_if_ne (tgt := 37) hx hb dX12_spreads_31 (by decide) (fun c => absurd (by decide) c) (fun _ => ?_)
  refine lv_goto (tgt := 108) hx hb dX12_spreads_34 (by decide) ?_
  refine lv_iinc (v := nI 1) (lv' := [(4, .int (nI 1)), (3, .int (nI 1)), (5, .int (nI 0)), (0, .ref hm), (1, .int (nI 0)), (2, .int (nI 0))]) hx hb dX12_spreads_108 hl (k := 0) rfl (by decide) (by decide) rfl ?_
  clear hl
  try clear ls
  intro ls hl
  refine lv_goto (tgt := 13) hx hb dX12_spreads_111 (by decide) ?_
  refine lv_iload hx hb dX12_spreads_13 (lv_at hl 0 rfl) ?_
  refine lv_iconst (v := nI 1) hx hb dX12_spreads_15 (by decide) ?_
  refine lv_aload_n hx hb dX12_spreads_16 rfl (lv_at hl 3 rfl) ?_
  refine xget C hP 10 rfl rfl zuX12 4 (by decide) zw5_217 rfl dX12_spreads_17 ?_
  refine lv_ishl hx hb dX12_spreads_20 ?_
  refine lv_topi (nm_r (e' := nI 16) (by decide) ?_)
  refine lv_icmp_ge (tgt := 114) hx hb dX12_spreads_21 (by decide) (fun c => absurd c (by decide)) (fun _ => ?_)
  refine lv_aload_n hx hb dX12_spreads_24 rfl (lv_at hl 3 rfl) ?_
  refine lv_iload_n hx hb dX12_spreads_25 rfl (lv_at hl 1 rfl) ?_
  refine lv_iload hx hb dX12_spreads_26 (lv_at hl 0 rfl) ?_
  refine xi (wr := [(ti0, .inl (cs 1, 2001, .inr (.inl u0))), (st0, .inl (cs 0, 96048, .inl q0)), (ms, .inl (cs 0, 288, .inl freshS)), (msm, .inl (cs 0, 2, .inl (smF2 a0 (nI 1)))), (mst, .inl (cs 5, 2, .inr (.inr (.inr (.inr fst))))), (st1, .inl (cs 0, 96048, .inl (cpF freshS q1 48))), (mtb, .inl (cs 5, 2, .inr (.inr (.inr (.inr ftb))))), (tb1, .inl (cs 0, 8192, .inl (upd (fun _ => nI 0) 965 (nI 1)))), (mti, .inl (cs 6, 2, .inr (.inr (.inr (.inr fti))))), (ti1, .inl (cs 1, 2001, .inr (.inl (vp_updL u1 0 (lN (ww * 3))))))]) (xV (As := [.int (nI 1), .int (nI 1)]) (rest := []) C (c_X12_isSample_x l D cs hm ms mkp mtr mas mso mon mot man mst msm mtb mti mfr mbn mbs mde maa mab mba mbb 1 1 (by decide) (by decide)) kX12_139 hP hD [10] rfl (by decide +kernel) 0 rfl rfl rfl ⟨Nat.le_of_ble_eq_true rfl, Nat.le_of_ble_eq_true rfl⟩ rfl hl.1 rfl (Nat.le_of_ble_eq_true rfl) dX12_spreads_28 ⟨Nat.le_of_ble_eq_true rfl, Nat.le_of_ble_eq_true rfl⟩) hP hD hS hA [10] [0, 1, 2, 3, 4, 5, 6, 7, 8, 9] rfl rfl (by decide +kernel) (by decide +kernel) ?_
  clear hP hD hS
  try clear locs
  try clear H
  intro r_53 u_54 H locs hw_r_53 hP hD hS
  have hw_r_53 : r_53 = smB 1 1 := hw_r_53
  refine W.widen (k := 0) (n := 0) (Nat.le_of_ble_eq_true rfl) (Nat.le_of_ble_eq_true rfl) ?_
  replace hP : va_P D vwCl [(ti0, .inl (cs 1, 2001, .inr (.inl u0))), (st0, .inl (cs 0, 96048, .inl q0)), (ms, .inl (cs 0, 288, .inl freshS)), (msm, .inl (cs 0, 2, .inl (smF2 a0 (nI 1)))), (mst, .inl (cs 5, 2, .inr (.inr (.inr (.inr fst))))), (st1, .inl (cs 0, 96048, .inl (cpF freshS q1 48))), (mtb, .inl (cs 5, 2, .inr (.inr (.inr (.inr ftb))))), (tb1, .inl (cs 0, 8192, .inl (upd (fun _ => nI 0) 965 (nI 1)))), (mti, .inl (cs 6, 2, .inr (.inr (.inr (.inr fti))))), (ti1, .inl (cs 1, 2001, .inr (.inl (vp_updL u1 0 (lN (ww * 3)))))), (hm, .inr (12, [.ref ms, .ref mkp, .int (nI 0), .ref mtr, .int (nI 4), .int (nI 2), .int (nI 2), .int (nI 3), .int (nI 2), .int (nI 1), .ref mas, .int (nI 0), .int (nI 0), .int (nI 0), .ref mso, .ref mon, .ref mot, .ref man, .int (nI 0), .int (nI 0), .ref mst, .ref msm, .ref mtb, .ref mti, .ref mfr, .ref mbn, .ref mbs, .ref mde, .int (nI 0), .int (nI 0), .int (nI 0), .int (nI 0), .long 0, .long 0, .ref maa, .ref mab, .ref mba, .ref mbb]))] H := hP
  replace hD : va_D A [(ti0, .inl (cs 1, 2001, .inr (.inl u0))), (st0, .inl (cs 0, 96048, .inl q0)), (ms, .inl (cs 0, 288, .inl freshS)), (msm, .inl (cs 0, 2, .inl (smF2 a0 (nI 1)))), (mst, .inl (cs 5, 2, .inr (.inr (.inr (.inr fst))))), (st1, .inl (cs 0, 96048, .inl (cpF freshS q1 48))), (mtb, .inl (cs 5, 2, .inr (.inr (.inr (.inr ftb))))), (tb1, .inl (cs 0, 8192, .inl (upd (fun _ => nI 0) 965 (nI 1)))), (mti, .inl (cs 6, 2, .inr (.inr (.inr (.inr fti))))), (ti1, .inl (cs 1, 2001, .inr (.inl (vp_updL u1 0 (lN (ww * 3)))))), (hm, .inr (12, [.ref ms, .ref mkp, .int (nI 0), .ref mtr, .int (nI 4), .int (nI 2), .int (nI 2), .int (nI 3), .int (nI 2), .int (nI 1), .ref mas, .int (nI 0), .int (nI 0), .int (nI 0), .ref mso, .ref mon, .ref mot, .ref man, .int (nI 0), .int (nI 0), .ref mst, .ref msm, .ref mtb, .ref mti, .ref mfr, .ref mbn, .ref mbs, .ref mde, .int (nI 0), .int (nI 0), .int (nI 0), .int (nI 0), .long 0, .long 0, .ref maa, .ref mab, .ref mba, .ref mbb]))] := hD
  obtain rfl : r_53 = nI 0 := by rw [hw_r_53]; decide +kernel
  refine lv_if_ne (tgt := 37) hx hb dX12_spreads_31 (by decide) (fun c => absurd (by decide) c) (fun _ => ?_)
  refine lv_goto (tgt := 108) hx hb dX12_spreads_34 (by decide) ?_
  refine lv_iinc (v := nI 2) (lv' := [(4, .int (nI 2)), (3, .int (nI 1)), (5, .int (nI 0)), (0, .ref hm), (1, .int (nI 0)), (2, .int (nI 0))]) hx hb dX12_spreads_108 hl (k := 0) rfl (by decide) (by decide) rfl ?_
  clear hl
  try clear ls
  intro ls hl
  refine lv_goto (tgt := 13) hx hb dX12_spreads_111 (by decide) ?_
  refine lv_iload hx hb dX12_spreads_13 (lv_at hl 0 rfl) ?_
  refine lv_iconst (v := nI 1) hx hb dX12_spreads_15 (by decide) ?_
  refine lv_aload_n hx hb dX12_spreads_16 rfl (lv_at hl 3 rfl) ?_
  refine xget C hP 10 rfl rfl zuX12 4 (by decide) zw5_217 rfl dX12_spreads_17 ?_
  refine lv_ishl hx hb dX12_spreads_20 ?_
  refine lv_topi (nm_r (e' := nI 16) (by decide) ?_)
  refine lv_icmp_ge (tgt := 114) hx hb dX12_spreads_21 (by decide) (fun c => absurd c (by decide)) (fun _ => ?_)
  refine lv_aload_n hx hb dX12_spreads_24 rfl (lv_at hl 3 rfl) ?_
  refine lv_iload_n hx hb dX12_spreads_25 rfl (lv_at hl 1 rfl) ?_
  refine lv_iload hx hb dX12_spreads_26 (lv_at hl 0 rfl) ?_
  refine xi (wr := [(ti0, .inl (cs 1, 2001, .inr (.inl u0))), (st0, .inl (cs 0, 96048, .inl q0)), (ms, .inl (cs 0, 288, .inl freshS)), (msm, .inl (cs 0, 2, .inl (smF2 a0 (nI 1)))), (mst, .inl (cs 5, 2, .inr (.inr (.inr (.inr fst))))), (st1, .inl (cs 0, 96048, .inl (cpF freshS q1 48))), (mtb, .inl (cs 5, 2, .inr (.inr (.inr (.inr ftb))))), (tb1, .inl (cs 0, 8192, .inl (upd (fun _ => nI 0) 965 (nI 1)))), (mti, .inl (cs 6, 2, .inr (.inr (.inr (.inr fti))))), (ti1, .inl (cs 1, 2001, .inr (.inl (vp_updL u1 0 (lN (ww * 3))))))]) (xV (As := [.int (nI 1), .int (nI 2)]) (rest := []) C (c_X12_isSample_x l D cs hm ms mkp mtr mas mso mon mot man mst msm mtb mti mfr mbn mbs mde maa mab mba mbb 1 2 (by decide) (by decide)) kX12_139 hP hD [10] rfl (by decide +kernel) 0 rfl rfl rfl ⟨Nat.le_of_ble_eq_true rfl, Nat.le_of_ble_eq_true rfl⟩ rfl hl.1 rfl (Nat.le_of_ble_eq_true rfl) dX12_spreads_28 ⟨Nat.le_of_ble_eq_true rfl, Nat.le_of_ble_eq_true rfl⟩) hP hD hS hA [10] [0, 1, 2, 3, 4, 5, 6, 7, 8, 9] rfl rfl (by decide +kernel) (by decide +kernel) ?_
  clear hP hD hS
  try clear locs
  try clear H
  intro r_55 u_56 H locs hw_r_55 hP hD hS
  have hw_r_55 : r_55 = smB 1 2 := hw_r_55
  refine W.widen (k := 0) (n := 0) (Nat.le_of_ble_eq_true rfl) (Nat.le_of_ble_eq_true rfl) ?_
  replace hP : va_P D vwCl [(ti0, .inl (cs 1, 2001, .inr (.inl u0))), (st0, .inl (cs 0, 96048, .inl q0)), (ms, .inl (cs 0, 288, .inl freshS)), (msm, .inl (cs 0, 2, .inl (smF2 a0 (nI 1)))), (mst, .inl (cs 5, 2, .inr (.inr (.inr (.inr fst))))), (st1, .inl (cs 0, 96048, .inl (cpF freshS q1 48))), (mtb, .inl (cs 5, 2, .inr (.inr (.inr (.inr ftb))))), (tb1, .inl (cs 0, 8192, .inl (upd (fun _ => nI 0) 965 (nI 1)))), (mti, .inl (cs 6, 2, .inr (.inr (.inr (.inr fti))))), (ti1, .inl (cs 1, 2001, .inr (.inl (vp_updL u1 0 (lN (ww * 3)))))), (hm, .inr (12, [.ref ms, .ref mkp, .int (nI 0), .ref mtr, .int (nI 4), .int (nI 2), .int (nI 2), .int (nI 3), .int (nI 2), .int (nI 1), .ref mas, .int (nI 0), .int (nI 0), .int (nI 0), .ref mso, .ref mon, .ref mot, .ref man, .int (nI 0), .int (nI 0), .ref mst, .ref msm, .ref mtb, .ref mti, .ref mfr, .ref mbn, .ref mbs, .ref mde, .int (nI 0), .int (nI 0), .int (nI 0), .int (nI 0), .long 0, .long 0, .ref maa, .ref mab, .ref mba, .ref mbb]))] H := hP
  replace hD : va_D A [(ti0, .inl (cs 1, 2001, .inr (.inl u0))), (st0, .inl (cs 0, 96048, .inl q0)), (ms, .inl (cs 0, 288, .inl freshS)), (msm, .inl (cs 0, 2, .inl (smF2 a0 (nI 1)))), (mst, .inl (cs 5, 2, .inr (.inr (.inr (.inr fst))))), (st1, .inl (cs 0, 96048, .inl (cpF freshS q1 48))), (mtb, .inl (cs 5, 2, .inr (.inr (.inr (.inr ftb))))), (tb1, .inl (cs 0, 8192, .inl (upd (fun _ => nI 0) 965 (nI 1)))), (mti, .inl (cs 6, 2, .inr (.inr (.inr (.inr fti))))), (ti1, .inl (cs 1, 2001, .inr (.inl (vp_updL u1 0 (lN (ww * 3)))))), (hm, .inr (12, [.ref ms, .ref mkp, .int (nI 0), .ref mtr, .int (nI 4), .int (nI 2), .int (nI 2), .int (nI 3), .int (nI 2), .int (nI 1), .ref mas, .int (nI 0), .int (nI 0), .int (nI 0), .ref mso, .ref mon, .ref mot, .ref man, .int (nI 0), .int (nI 0), .ref mst, .ref msm, .ref mtb, .ref mti, .ref mfr, .ref mbn, .ref mbs, .ref mde, .int (nI 0), .int (nI 0), .int (nI 0), .int (nI 0), .long 0, .long 0, .ref maa, .ref mab, .ref mba, .ref mbb]))] := hD
  obtain rfl : r_55 = nI 0 := by rw [hw_r_55]; decide +kernel
  refine lv_if_ne (tgt := 37) hx hb dX12_spreads_31 (by decide) (fun c => absurd (by decide) c) (fun _ => ?_)
  refine lv_goto (tgt := 108) hx hb dX12_spreads_34 (by decide) ?_
  refine lv_iinc (v := nI 3) (lv' := [(4, .int (nI 3)), (3, .int (nI 1)), (5, .int (nI 0)), (0, .ref hm), (1, .int (nI 0)), (2, .int (nI 0))]) hx hb dX12_spreads_108 hl (k := 0) rfl (by decide) (by decide) rfl ?_
  clear hl
  try clear ls
  intro ls hl
  refine lv_goto (tgt := 13) hx hb dX12_spreads_111 (by decide) ?_
  refine lv_iload hx hb dX12_spreads_13 (lv_at hl 0 rfl) ?_
  refine lv_iconst (v := nI 1) hx hb dX12_spreads_15 (by decide) ?_
  refine lv_aload_n hx hb dX12_spreads_16 rfl (lv_at hl 3 rfl) ?_
  refine xget C hP 10 rfl rfl zuX12 4 (by decide) zw5_217 rfl dX12_spreads_17 ?_
  refine lv_ishl hx hb dX12_spreads_20 ?_
  refine lv_topi (nm_r (e' := nI 16) (by decide) ?_)
  refine lv_icmp_ge (tgt := 114) hx hb dX12_spreads_21 (by decide) (fun c => absurd c (by decide)) (fun _ => ?_)
  refine lv_aload_n hx hb dX12_spreads_24 rfl (lv_at hl 3 rfl) ?_
  refine lv_iload_n hx hb dX12_spreads_25 rfl (lv_at hl 1 rfl) ?_
  refine lv_iload hx hb dX12_spreads_26 (lv_at hl 0 rfl) ?_
  refine xi (wr := [(ti0, .inl (cs 1, 2001, .inr (.inl u0))), (st0, .inl (cs 0, 96048, .inl q0)), (ms, .inl (cs 0, 288, .inl freshS)), (msm, .inl (cs 0, 2, .inl (smF2 a0 (nI 1)))), (mst, .inl (cs 5, 2, .inr (.inr (.inr (.inr fst))))), (st1, .inl (cs 0, 96048, .inl (cpF freshS q1 48))), (mtb, .inl (cs 5, 2, .inr (.inr (.inr (.inr ftb))))), (tb1, .inl (cs 0, 8192, .inl (upd (fun _ => nI 0) 965 (nI 1)))), (mti, .inl (cs 6, 2, .inr (.inr (.inr (.inr fti))))), (ti1, .inl (cs 1, 2001, .inr (.inl (vp_updL u1 0 (lN (ww * 3))))))]) (xV (As := [.int (nI 1), .int (nI 3)]) (rest := []) C (c_X12_isSample_x l D cs hm ms mkp mtr mas mso mon mot man mst msm mtb mti mfr mbn mbs mde maa mab mba mbb 1 3 (by decide) (by decide)) kX12_139 hP hD [10] rfl (by decide +kernel) 0 rfl rfl rfl ⟨Nat.le_of_ble_eq_true rfl, Nat.le_of_ble_eq_true rfl⟩ rfl hl.1 rfl (Nat.le_of_ble_eq_true rfl) dX12_spreads_28 ⟨Nat.le_of_ble_eq_true rfl, Nat.le_of_ble_eq_true rfl⟩) hP hD hS hA [10] [0, 1, 2, 3, 4, 5, 6, 7, 8, 9] rfl rfl (by decide +kernel) (by decide +kernel) ?_
  clear hP hD hS
  try clear locs
  try clear H
  intro r_57 u_58 H locs hw_r_57 hP hD hS
  have hw_r_57 : r_57 = smB 1 3 := hw_r_57
  refine W.widen (k := 0) (n := 0) (Nat.le_of_ble_eq_true rfl) (Nat.le_of_ble_eq_true rfl) ?_
  replace hP : va_P D vwCl [(ti0, .inl (cs 1, 2001, .inr (.inl u0))), (st0, .inl (cs 0, 96048, .inl q0)), (ms, .inl (cs 0, 288, .inl freshS)), (msm, .inl (cs 0, 2, .inl (smF2 a0 (nI 1)))), (mst, .inl (cs 5, 2, .inr (.inr (.inr (.inr fst))))), (st1, .inl (cs 0, 96048, .inl (cpF freshS q1 48))), (mtb, .inl (cs 5, 2, .inr (.inr (.inr (.inr ftb))))), (tb1, .inl (cs 0, 8192, .inl (upd (fun _ => nI 0) 965 (nI 1)))), (mti, .inl (cs 6, 2, .inr (.inr (.inr (.inr fti))))), (ti1, .inl (cs 1, 2001, .inr (.inl (vp_updL u1 0 (lN (ww * 3)))))), (hm, .inr (12, [.ref ms, .ref mkp, .int (nI 0), .ref mtr, .int (nI 4), .int (nI 2), .int (nI 2), .int (nI 3), .int (nI 2), .int (nI 1), .ref mas, .int (nI 0), .int (nI 0), .int (nI 0), .ref mso, .ref mon, .ref mot, .ref man, .int (nI 0), .int (nI 0), .ref mst, .ref msm, .ref mtb, .ref mti, .ref mfr, .ref mbn, .ref mbs, .ref mde, .int (nI 0), .int (nI 0), .int (nI 0), .int (nI 0), .long 0, .long 0, .ref maa, .ref mab, .ref mba, .ref mbb]))] H := hP
  replace hD : va_D A [(ti0, .inl (cs 1, 2001, .inr (.inl u0))), (st0, .inl (cs 0, 96048, .inl q0)), (ms, .inl (cs 0, 288, .inl freshS)), (msm, .inl (cs 0, 2, .inl (smF2 a0 (nI 1)))), (mst, .inl (cs 5, 2, .inr (.inr (.inr (.inr fst))))), (st1, .inl (cs 0, 96048, .inl (cpF freshS q1 48))), (mtb, .inl (cs 5, 2, .inr (.inr (.inr (.inr ftb))))), (tb1, .inl (cs 0, 8192, .inl (upd (fun _ => nI 0) 965 (nI 1)))), (mti, .inl (cs 6, 2, .inr (.inr (.inr (.inr fti))))), (ti1, .inl (cs 1, 2001, .inr (.inl (vp_updL u1 0 (lN (ww * 3)))))), (hm, .inr (12, [.ref ms, .ref mkp, .int (nI 0), .ref mtr, .int (nI 4), .int (nI 2), .int (nI 2), .int (nI 3), .int (nI 2), .int (nI 1), .ref mas, .int (nI 0), .int (nI 0), .int (nI 0), .ref mso, .ref mon, .ref mot, .ref man, .int (nI 0), .int (nI 0), .ref mst, .ref msm, .ref mtb, .ref mti, .ref mfr, .ref mbn, .ref mbs, .ref mde, .int (nI 0), .int (nI 0), .int (nI 0), .int (nI 0), .long 0, .long 0, .ref maa, .ref mab, .ref mba, .ref mbb]))] := hD
  obtain rfl : r_57 = nI 0 := by rw [hw_r_57]; decide +kernel
  refine lv_if_ne (tgt := 37) hx hb dX12_spreads_31 (by decide) (fun c => absurd (by decide) c) (fun _ => ?_)
  refine lv_goto (tgt := 108) hx hb dX12_spreads_34 (by decide) ?_
  refine lv_iinc (v := nI 4) (lv' := [(4, .int (nI 4)), (3, .int (nI 1)), (5, .int (nI 0)), (0, .ref hm), (1, .int (nI 0)), (2, .int (nI 0))]) hx hb dX12_spreads_108 hl (k := 0) rfl (by decide) (by decide) rfl ?_
  clear hl
  try clear ls
  intro ls hl
  refine lv_goto (tgt := 13) hx hb dX12_spreads_111 (by decide) ?_
  refine lv_iload hx hb dX12_spreads_13 (lv_at hl 0 rfl) ?_
  refine lv_iconst (v := nI 1) hx hb dX12_spreads_15 (by decide) ?_
  refine lv_aload_n hx hb dX12_spreads_16 rfl (lv_at hl 3 rfl) ?_
  refine xget C hP 10 rfl rfl zuX12 4 (by decide) zw5_217 rfl dX12_spreads_17 ?_
  refine lv_ishl hx hb dX12_spreads_20 ?_
  refine lv_topi (nm_r (e' := nI 16) (by decide) ?_)
  refine lv_icmp_ge (tgt := 114) hx hb dX12_spreads_21 (by decide) (fun c => absurd c (by decide)) (fun _ => ?_)
  refine lv_aload_n hx hb dX12_spreads_24 rfl (lv_at hl 3 rfl) ?_
  refine lv_iload_n hx hb dX12_spreads_25 rfl (lv_at hl 1 rfl) ?_
  refine lv_iload hx hb dX12_spreads_26 (lv_at hl 0 rfl) ?_
  refine xi (wr := [(ti0, .inl (cs 1, 2001, .inr (.inl u0))), (st0, .inl (cs 0, 96048, .inl q0)), (ms, .inl (cs 0, 288, .inl freshS)), (msm, .inl (cs 0, 2, .inl (smF2 a0 (nI 1)))), (mst, .inl (cs 5, 2, .inr (.inr (.inr (.inr fst))))), (st1, .inl (cs 0, 96048, .inl (cpF freshS q1 48))), (mtb, .inl (cs 5, 2, .inr (.inr (.inr (.inr ftb))))), (tb1, .inl (cs 0, 8192, .inl (upd (fun _ => nI 0) 965 (nI 1)))), (mti, .inl (cs 6, 2, .inr (.inr (.inr (.inr fti))))), (ti1, .inl (cs 1, 2001, .inr (.inl (vp_updL u1 0 (lN (ww * 3))))))]) (xV (As := [.int (nI 1), .int (nI 4)]) (rest := []) C (c_X12_isSample_x l D cs hm ms mkp mtr mas mso mon mot man mst msm mtb mti mfr mbn mbs mde maa mab mba mbb 1 4 (by decide) (by decide)) kX12_139 hP hD [10] rfl (by decide +kernel) 0 rfl rfl rfl ⟨Nat.le_of_ble_eq_true rfl, Nat.le_of_ble_eq_true rfl⟩ rfl hl.1 rfl (Nat.le_of_ble_eq_true rfl) dX12_spreads_28 ⟨Nat.le_of_ble_eq_true rfl, Nat.le_of_ble_eq_true rfl⟩) hP hD hS hA [10] [0, 1, 2, 3, 4, 5, 6, 7, 8, 9] rfl rfl (by decide +kernel) (by decide +kernel) ?_
  clear hP hD hS
  try clear locs
  try clear H
  intro r_59 u_60 H locs hw_r_59 hP hD hS
  have hw_r_59 : r_59 = smB 1 4 := hw_r_59
  refine W.widen (k := 0) (n := 0) (Nat.le_of_ble_eq_true rfl) (Nat.le_of_ble_eq_true rfl) ?_
  replace hP : va_P D vwCl [(ti0, .inl (cs 1, 2001, .inr (.inl u0))), (st0, .inl (cs 0, 96048, .inl q0)), (ms, .inl (cs 0, 288, .inl freshS)), (msm, .inl (cs 0, 2, .inl (smF2 a0 (nI 1)))), (mst, .inl (cs 5, 2, .inr (.inr (.inr (.inr fst))))), (st1, .inl (cs 0, 96048, .inl (cpF freshS q1 48))), (mtb, .inl (cs 5, 2, .inr (.inr (.inr (.inr ftb))))), (tb1, .inl (cs 0, 8192, .inl (upd (fun _ => nI 0) 965 (nI 1)))), (mti, .inl (cs 6, 2, .inr (.inr (.inr (.inr fti))))), (ti1, .inl (cs 1, 2001, .inr (.inl (vp_updL u1 0 (lN (ww * 3)))))), (hm, .inr (12, [.ref ms, .ref mkp, .int (nI 0), .ref mtr, .int (nI 4), .int (nI 2), .int (nI 2), .int (nI 3), .int (nI 2), .int (nI 1), .ref mas, .int (nI 0), .int (nI 0), .int (nI 0), .ref mso, .ref mon, .ref mot, .ref man, .int (nI 0), .int (nI 0), .ref mst, .ref msm, .ref mtb, .ref mti, .ref mfr, .ref mbn, .ref mbs, .ref mde, .int (nI 0), .int (nI 0), .int (nI 0), .int (nI 0), .long 0, .long 0, .ref maa, .ref mab, .ref mba, .ref mbb]))] H := hP
  replace hD : va_D A [(ti0, .inl (cs 1, 2001, .inr (.inl u0))), (st0, .inl (cs 0, 96048, .inl q0)), (ms, .inl (cs 0, 288, .inl freshS)), (msm, .inl (cs 0, 2, .inl (smF2 a0 (nI 1)))), (mst, .inl (cs 5, 2, .inr (.inr (.inr (.inr fst))))), (st1, .inl (cs 0, 96048, .inl (cpF freshS q1 48))), (mtb, .inl (cs 5, 2, .inr (.inr (.inr (.inr ftb))))), (tb1, .inl (cs 0, 8192, .inl (upd (fun _ => nI 0) 965 (nI 1)))), (mti, .inl (cs 6, 2, .inr (.inr (.inr (.inr fti))))), (ti1, .inl (cs 1, 2001, .inr (.inl (vp_updL u1 0 (lN (ww * 3)))))), (hm, .inr (12, [.ref ms, .ref mkp, .int (nI 0), .ref mtr, .int (nI 4), .int (nI 2), .int (nI 2), .int (nI 3), .int (nI 2), .int (nI 1), .ref mas, .int (nI 0), .int (nI 0), .int (nI 0), .ref mso, .ref mon, .ref mot, .ref man, .int (nI 0), .int (nI 0), .ref mst, .ref msm, .ref mtb, .ref mti, .ref mfr, .ref mbn, .ref mbs, .ref mde, .int (nI 0), .int (nI 0), .int (nI 0), .int (nI 0), .long 0, .long 0, .ref maa, .ref mab, .ref mba, .ref mbb]))] := hD
  obtain rfl : r_59 = nI 0 := by rw [hw_r_59]; decide +kernel
  refine lv_if_ne (tgt := 37) hx hb dX12_spreads_31 (by decide) (fun c => absurd (by decide) c) (fun _ => ?_)
  refine lv_goto (tgt := 108) hx hb dX12_spreads_34 (by decide) ?_
  refine lv_iinc (v := nI 5) (lv' := [(4, .int (nI 5)), (3, .int (nI 1)), (5, .int (nI 0)), (0, .ref hm), (1, .int (nI 0)), (2, .int (nI 0))]) hx hb dX12_spreads_108 hl (k := 0) rfl (by decide) (by decide) rfl ?_
  clear hl
  try clear ls
  intro ls hl
  refine lv_goto (tgt := 13) hx hb dX12_spreads_111 (by decide) ?_
  refine lv_iload hx hb dX12_spreads_13 (lv_at hl 0 rfl) ?_
  refine lv_iconst (v := nI 1) hx hb dX12_spreads_15 (by decide) ?_
  refine lv_aload_n hx hb dX12_spreads_16 rfl (lv_at hl 3 rfl) ?_
  refine xget C hP 10 rfl rfl zuX12 4 (by decide) zw5_217 rfl dX12_spreads_17 ?_
  refine lv_ishl hx hb dX12_spreads_20 ?_
  refine lv_topi (nm_r (e' := nI 16) (by decide) ?_)
  refine lv_icmp_ge (tgt := 114) hx hb dX12_spreads_21 (by decide) (fun c => absurd c (by decide)) (fun _ => ?_)
  refine lv_aload_n hx hb dX12_spreads_24 rfl (lv_at hl 3 rfl) ?_
  refine lv_iload_n hx hb dX12_spreads_25 rfl (lv_at hl 1 rfl) ?_
  refine lv_iload hx hb dX12_spreads_26 (lv_at hl 0 rfl) ?_
  refine xi (wr := [(ti0, .inl (cs 1, 2001, .inr (.inl u0))), (st0, .inl (cs 0, 96048, .inl q0)), (ms, .inl (cs 0, 288, .inl freshS)), (msm, .inl (cs 0, 2, .inl (smF2 a0 (nI 1)))), (mst, .inl (cs 5, 2, .inr (.inr (.inr (.inr fst))))), (st1, .inl (cs 0, 96048, .inl (cpF freshS q1 48))), (mtb, .inl (cs 5, 2, .inr (.inr (.inr (.inr ftb))))), (tb1, .inl (cs 0, 8192, .inl (upd (fun _ => nI 0) 965 (nI 1)))), (mti, .inl (cs 6, 2, .inr (.inr (.inr (.inr fti))))), (ti1, .inl (cs 1, 2001, .inr (.inl (vp_updL u1 0 (lN (ww * 3))))))]) (xV (As := [.int (nI 1), .int (nI 5)]) (rest := []) C (c_X12_isSample_x l D cs hm ms mkp mtr mas mso mon mot man mst msm mtb mti mfr mbn mbs mde maa mab mba mbb 1 5 (by decide) (by decide)) kX12_139 hP hD [10] rfl (by decide +kernel) 0 rfl rfl rfl ⟨Nat.le_of_ble_eq_true rfl, Nat.le_of_ble_eq_true rfl⟩ rfl hl.1 rfl (Nat.le_of_ble_eq_true rfl) dX12_spreads_28 ⟨Nat.le_of_ble_eq_true rfl, Nat.le_of_ble_eq_true rfl⟩) hP hD hS hA [10] [0, 1, 2, 3, 4, 5, 6, 7, 8, 9] rfl rfl (by decide +kernel) (by decide +kernel) ?_
  clear hP hD hS
  try clear locs
  try clear H
  intro r_61 u_62 H locs hw_r_61 hP hD hS
  have hw_r_61 : r_61 = smB 1 5 := hw_r_61
  refine W.widen (k := 0) (n := 0) (Nat.le_of_ble_eq_true rfl) (Nat.le_of_ble_eq_true rfl) ?_
  replace hP : va_P D vwCl [(ti0, .inl (cs 1, 2001, .inr (.inl u0))), (st0, .inl (cs 0, 96048, .inl q0)), (ms, .inl (cs 0, 288, .inl freshS)), (msm, .inl (cs 0, 2, .inl (smF2 a0 (nI 1)))), (mst, .inl (cs 5, 2, .inr (.inr (.inr (.inr fst))))), (st1, .inl (cs 0, 96048, .inl (cpF freshS q1 48))), (mtb, .inl (cs 5, 2, .inr (.inr (.inr (.inr ftb))))), (tb1, .inl (cs 0, 8192, .inl (upd (fun _ => nI 0) 965 (nI 1)))), (mti, .inl (cs 6, 2, .inr (.inr (.inr (.inr fti))))), (ti1, .inl (cs 1, 2001, .inr (.inl (vp_updL u1 0 (lN (ww * 3)))))), (hm, .inr (12, [.ref ms, .ref mkp, .int (nI 0), .ref mtr, .int (nI 4), .int (nI 2), .int (nI 2), .int (nI 3), .int (nI 2), .int (nI 1), .ref mas, .int (nI 0), .int (nI 0), .int (nI 0), .ref mso, .ref mon, .ref mot, .ref man, .int (nI 0), .int (nI 0), .ref mst, .ref msm, .ref mtb, .ref mti, .ref mfr, .ref mbn, .ref mbs, .ref mde, .int (nI 0), .int (nI 0), .int (nI 0), .int (nI 0), .long 0, .long 0, .ref maa, .ref mab, .ref mba, .ref mbb]))] H := hP
  replace hD : va_D A [(ti0, .inl (cs 1, 2001, .inr (.inl u0))), (st0, .inl (cs 0, 96048, .inl q0)), (ms, .inl (cs 0, 288, .inl freshS)), (msm, .inl (cs 0, 2, .inl (smF2 a0 (nI 1)))), (mst, .inl (cs 5, 2, .inr (.inr (.inr (.inr fst))))), (st1, .inl (cs 0, 96048, .inl (cpF freshS q1 48))), (mtb, .inl (cs 5, 2, .inr (.inr (.inr (.inr ftb))))), (tb1, .inl (cs 0, 8192, .inl (upd (fun _ => nI 0) 965 (nI 1)))), (mti, .inl (cs 6, 2, .inr (.inr (.inr (.inr fti))))), (ti1, .inl (cs 1, 2001, .inr (.inl (vp_updL u1 0 (lN (ww * 3)))))), (hm, .inr (12, [.ref ms, .ref mkp, .int (nI 0), .ref mtr, .int (nI 4), .int (nI 2), .int (nI 2), .int (nI 3), .int (nI 2), .int (nI 1), .ref mas, .int (nI 0), .int (nI 0), .int (nI 0), .ref mso, .ref mon, .ref mot, .ref man, .int (nI 0), .int (nI 0), .ref mst, .ref msm, .ref mtb, .ref mti, .ref mfr, .ref mbn, .ref mbs, .ref mde, .int (nI 0), .int (nI 0), .int (nI 0), .int (nI 0), .long 0, .long 0, .ref maa, .ref mab, .ref mba, .ref mbb]))] := hD
  obtain rfl : r_61 = nI 1 := by rw [hw_r_61]; decide +kernel
  refine lv_if_ne (tgt := 37) hx hb dX12_spreads_31 (by decide) (fun _ => ?_) (fun c => absurd c (by decide))
  refine lv_aload_n hx hb dX12_spreads_37 rfl (lv_at hl 3 rfl) ?_
  refine lv_iload_n hx hb dX12_spreads_38 rfl (lv_at hl 4 rfl) ?_
  refine lv_iload_n hx hb dX12_spreads_39 rfl (lv_at hl 5 rfl) ?_
  refine xv (wr := [(ti0, .inl (cs 1, 2001, .inr (.inl u0))), (msm, .inl (cs 0, 2, .inl (smF2 a0 (nI 1)))), (st1, .inl (cs 0, 96048, .inl (cpF freshS q1 48))), (mtb, .inl (cs 5, 2, .inr (.inr (.inr (.inr ftb))))), (tb1, .inl (cs 0, 8192, .inl (upd (fun _ => nI 0) 965 (nI 1)))), (mti, .inl (cs 6, 2, .inr (.inr (.inr (.inr fti))))), (ti1, .inl (cs 1, 2001, .inr (.inl (vp_updL u1 0 (lN (ww * 3))))))]) (xV (As := [.int (nI 0), .int (nI 0)]) (rest := []) C (c_X12_brings_0 l D cs hm ms mkp mtr mas mso mon mot man mst msm mtb mti mfr mbn mbs mde maa mab mba mbb st0 fst q0 hf0 hq) kX12_203 hP hD [10, 2, 4, 1] rfl (by decide +kernel) 0 rfl rfl rfl ⟨Nat.le_of_ble_eq_true rfl, Nat.le_of_ble_eq_true rfl⟩ rfl hl.1 rfl (Nat.le_of_ble_eq_true rfl) dX12_spreads_40 ⟨Nat.le_of_ble_eq_true rfl, Nat.le_of_ble_eq_true rfl⟩) hP hD hS hA [10, 2, 4, 1] [0, 3, 5, 6, 7, 8, 9] rfl rfl (by decide +kernel) (by decide +kernel) ?_
  clear hP hD hS
  try clear locs
  try clear H
  intro u_64 H locs hw_r_63 hP hD hS
  refine W.widen (k := 0) (n := 0) (Nat.le_of_ble_eq_true rfl) (Nat.le_of_ble_eq_true rfl) ?_
  replace hP : va_P D vwCl [(ti0, .inl (cs 1, 2001, .inr (.inl u0))), (msm, .inl (cs 0, 2, .inl (smF2 a0 (nI 1)))), (st1, .inl (cs 0, 96048, .inl (cpF freshS q1 48))), (mtb, .inl (cs 5, 2, .inr (.inr (.inr (.inr ftb))))), (tb1, .inl (cs 0, 8192, .inl (upd (fun _ => nI 0) 965 (nI 1)))), (mti, .inl (cs 6, 2, .inr (.inr (.inr (.inr fti))))), (ti1, .inl (cs 1, 2001, .inr (.inl (vp_updL u1 0 (lN (ww * 3)))))), (hm, .inr (12, [.ref ms, .ref mkp, .int (nI 0), .ref mtr, .int (nI 4), .int (nI 2), .int (nI 2), .int (nI 3), .int (nI 2), .int (nI 1), .ref mas, .int (nI 0), .int (nI 0), .int (nI 0), .ref mso, .ref mon, .ref mot, .ref man, .int (nI 0), .int (nI 0), .ref mst, .ref msm, .ref mtb, .ref mti, .ref mfr, .ref mbn, .ref mbs, .ref mde, .int (nI 0), .int (nI 0), .int (nI 0), .int (nI 0), .long 0, .long 0, .ref maa, .ref mab, .ref mba, .ref mbb])), (ms, .inl (cs 0, 288, .inl freshS)), (mst, .inl (cs 5, 2, .inr (.inr (.inr (.inr fst))))), (st0, .inl (cs 0, 96048, .inl q0))] H := hP
  replace hD : va_D A [(ti0, .inl (cs 1, 2001, .inr (.inl u0))), (msm, .inl (cs 0, 2, .inl (smF2 a0 (nI 1)))), (st1, .inl (cs 0, 96048, .inl (cpF freshS q1 48))), (mtb, .inl (cs 5, 2, .inr (.inr (.inr (.inr ftb))))), (tb1, .inl (cs 0, 8192, .inl (upd (fun _ => nI 0) 965 (nI 1)))), (mti, .inl (cs 6, 2, .inr (.inr (.inr (.inr fti))))), (ti1, .inl (cs 1, 2001, .inr (.inl (vp_updL u1 0 (lN (ww * 3)))))), (hm, .inr (12, [.ref ms, .ref mkp, .int (nI 0), .ref mtr, .int (nI 4), .int (nI 2), .int (nI 2), .int (nI 3), .int (nI 2), .int (nI 1), .ref mas, .int (nI 0), .int (nI 0), .int (nI 0), .ref mso, .ref mon, .ref mot, .ref man, .int (nI 0), .int (nI 0), .ref mst, .ref msm, .ref mtb, .ref mti, .ref mfr, .ref mbn, .ref mbs, .ref mde, .int (nI 0), .int (nI 0), .int (nI 0), .int (nI 0), .long 0, .long 0, .ref maa, .ref mab, .ref mba, .ref mbb])), (ms, .inl (cs 0, 288, .inl freshS)), (mst, .inl (cs 5, 2, .inr (.inr (.inr (.inr fst))))), (st0, .inl (cs 0, 96048, .inl q0))] := hD
  refine lv_aload_n hx hb dX12_spreads_43 rfl (lv_at hl 3 rfl) ?_
  refine lv_iload_n hx hb dX12_spreads_44 rfl (lv_at hl 1 rfl) ?_
  refine xi (wr := [(ti0, .inl (cs 1, 2001, .inr (.inl u0))), (msm, .inl (cs 0, 2, .inl (smF2 a0 (nI 1)))), (st1, .inl (cs 0, 96048, .inl (cpF freshS q1 48))), (mtb, .inl (cs 5, 2, .inr (.inr (.inr (.inr ftb))))), (tb1, .inl (cs 0, 8192, .inl (upd (fun _ => nI 0) 965 (nI 1)))), (mti, .inl (cs 6, 2, .inr (.inr (.inr (.inr fti))))), (ti1, .inl (cs 1, 2001, .inr (.inl (vp_updL u1 0 (lN (ww * 3)))))), (mst, .inl (cs 5, 2, .inr (.inr (.inr (.inr fst))))), (st0, .inl (cs 0, 96048, .inl q0))]) (xV (As := [.int (nI 1)]) (rest := []) C (c_X12_canAsk_z l D cs hm ms mkp mtr mas mso mon mot man mst msm mtb mti mfr mbn mbs mde maa mab mba mbb 1 (by decide)) kX12_142 hP hD [7, 8] rfl (by decide +kernel) 0 rfl rfl rfl ⟨Nat.le_of_ble_eq_true rfl, Nat.le_of_ble_eq_true rfl⟩ rfl hl.1 rfl (Nat.le_of_ble_eq_true rfl) dX12_spreads_45 ⟨Nat.le_of_ble_eq_true rfl, Nat.le_of_ble_eq_true rfl⟩) hP hD hS hA [7, 8] [0, 1, 2, 3, 4, 5, 6, 9, 10] rfl rfl (by decide +kernel) (by decide +kernel) ?_
  clear hP hD hS
  try clear locs
  try clear H
  intro r_65 u_66 H locs hw_r_65 hP hD hS
  have hw_r_65 : r_65 = nI 0 := hw_r_65
  refine W.widen (k := 0) (n := 0) (Nat.le_of_ble_eq_true rfl) (Nat.le_of_ble_eq_true rfl) ?_
  replace hP : va_P D vwCl [(ti0, .inl (cs 1, 2001, .inr (.inl u0))), (msm, .inl (cs 0, 2, .inl (smF2 a0 (nI 1)))), (st1, .inl (cs 0, 96048, .inl (cpF freshS q1 48))), (mtb, .inl (cs 5, 2, .inr (.inr (.inr (.inr ftb))))), (tb1, .inl (cs 0, 8192, .inl (upd (fun _ => nI 0) 965 (nI 1)))), (mti, .inl (cs 6, 2, .inr (.inr (.inr (.inr fti))))), (ti1, .inl (cs 1, 2001, .inr (.inl (vp_updL u1 0 (lN (ww * 3)))))), (mst, .inl (cs 5, 2, .inr (.inr (.inr (.inr fst))))), (st0, .inl (cs 0, 96048, .inl q0)), (hm, .inr (12, [.ref ms, .ref mkp, .int (nI 0), .ref mtr, .int (nI 4), .int (nI 2), .int (nI 2), .int (nI 3), .int (nI 2), .int (nI 1), .ref mas, .int (nI 0), .int (nI 0), .int (nI 0), .ref mso, .ref mon, .ref mot, .ref man, .int (nI 0), .int (nI 0), .ref mst, .ref msm, .ref mtb, .ref mti, .ref mfr, .ref mbn, .ref mbs, .ref mde, .int (nI 0), .int (nI 0), .int (nI 0), .int (nI 0), .long 0, .long 0, .ref maa, .ref mab, .ref mba, .ref mbb])), (ms, .inl (cs 0, 288, .inl freshS))] H := hP
  replace hD : va_D A [(ti0, .inl (cs 1, 2001, .inr (.inl u0))), (msm, .inl (cs 0, 2, .inl (smF2 a0 (nI 1)))), (st1, .inl (cs 0, 96048, .inl (cpF freshS q1 48))), (mtb, .inl (cs 5, 2, .inr (.inr (.inr (.inr ftb))))), (tb1, .inl (cs 0, 8192, .inl (upd (fun _ => nI 0) 965 (nI 1)))), (mti, .inl (cs 6, 2, .inr (.inr (.inr (.inr fti))))), (ti1, .inl (cs 1, 2001, .inr (.inl (vp_updL u1 0 (lN (ww * 3)))))), (mst, .inl (cs 5, 2, .inr (.inr (.inr (.inr fst))))), (st0, .inl (cs 0, 96048, .inl q0)), (hm, .inr (12, [.ref ms, .ref mkp, .int (nI 0), .ref mtr, .int (nI 4), .int (nI 2), .int (nI 2), .int (nI 3), .int (nI 2), .int (nI 1), .ref mas, .int (nI 0), .int (nI 0), .int (nI 0), .ref mso, .ref mon, .ref mot, .ref man, .int (nI 0), .int (nI 0), .ref mst, .ref msm, .ref mtb, .ref mti, .ref mfr, .ref mbn, .ref mbs, .ref mde, .int (nI 0), .int (nI 0), .int (nI 0), .int (nI 0), .long 0, .long 0, .ref maa, .ref mab, .ref mba, .ref mbb])), (ms, .inl (cs 0, 288, .inl freshS))] := hD
  subst hw_r_65
  refine lv_if_eq (tgt := 67) hx hb dX12_spreads_48 (by decide) (fun _ => ?_) (fun c => absurd (by decide) c)
  refine lv_aload_n hx hb dX12_spreads_67 rfl (lv_at hl 3 rfl) ?_
  refine lv_iconst (v := nI 1) hx hb dX12_spreads_68 (by decide) ?_
  refine lv_iload_n hx hb dX12_spreads_69 rfl (lv_at hl 4 rfl) ?_
  refine lv_isub hx hb dX12_spreads_70 ?_
  refine lv_topi (nm_r (e' := nI 1) (by decide) ?_)
  refine lv_sipush (v := nI 2000) hx hb dX12_spreads_71 (by decide) ?_
  refine xi (wr := [(ti0, .inl (cs 1, 2001, .inr (.inl u0))), (st0, .inl (cs 0, 96048, .inl q0))]) (xV (As := [.int (nI 1), .int (nI 2000)]) (rest := []) C (c_X12_numberOf_b1 l D cs hm ms mkp mtr mas mso mon mot man mst msm mtb mti mfr mbn mbs mde maa mab mba mbb st1 tb1 ti1 fst ftb fti (smF2 a0 (nI 1)) (cpF freshS q1 48) (upd (fun _ => nI 0) 965 (nI 1)) (vp_updL u1 0 (lN (ww * 3))) hf1 hg ht1 (if_pos rfl) (fun j hj => cpF_lt hj)) kX12_197 hP hD [9, 10, 1, 7, 2, 3, 4, 5, 6] rfl (by decide +kernel) 0 rfl rfl rfl ⟨Nat.le_of_ble_eq_true rfl, Nat.le_of_ble_eq_true rfl⟩ rfl hl.1 rfl (Nat.le_of_ble_eq_true rfl) dX12_spreads_74 ⟨Nat.le_of_ble_eq_true rfl, Nat.le_of_ble_eq_true rfl⟩) hP hD hS hA [9, 10, 1, 7, 2, 3, 4, 5, 6] [0, 8] rfl rfl (by decide +kernel) (by decide +kernel) ?_
  clear hP hD hS
  try clear locs
  try clear H
  intro r_67 u_68 H locs hw_r_67 hP hD hS
  have hw_r_67 : r_67 = nI 0 := hw_r_67
  refine W.widen (k := 0) (n := 0) (Nat.le_of_ble_eq_true rfl) (Nat.le_of_ble_eq_true rfl) ?_
  replace hP : va_P D vwCl [(ti0, .inl (cs 1, 2001, .inr (.inl u0))), (st0, .inl (cs 0, 96048, .inl q0)), (hm, .inr (12, [.ref ms, .ref mkp, .int (nI 0), .ref mtr, .int (nI 4), .int (nI 2), .int (nI 2), .int (nI 3), .int (nI 2), .int (nI 1), .ref mas, .int (nI 0), .int (nI 0), .int (nI 0), .ref mso, .ref mon, .ref mot, .ref man, .int (nI 0), .int (nI 0), .ref mst, .ref msm, .ref mtb, .ref mti, .ref mfr, .ref mbn, .ref mbs, .ref mde, .int (nI 0), .int (nI 0), .int (nI 0), .int (nI 0), .long 0, .long 0, .ref maa, .ref mab, .ref mba, .ref mbb])), (ms, .inl (cs 0, 288, .inl freshS)), (msm, .inl (cs 0, 2, .inl (smF2 a0 (nI 1)))), (mst, .inl (cs 5, 2, .inr (.inr (.inr (.inr fst))))), (st1, .inl (cs 0, 96048, .inl (cpF freshS q1 48))), (mtb, .inl (cs 5, 2, .inr (.inr (.inr (.inr ftb))))), (tb1, .inl (cs 0, 8192, .inl (upd (fun _ => nI 0) 965 (nI 1)))), (mti, .inl (cs 6, 2, .inr (.inr (.inr (.inr fti))))), (ti1, .inl (cs 1, 2001, .inr (.inl (vp_updL u1 0 (lN (ww * 3))))))] H := hP
  replace hD : va_D A [(ti0, .inl (cs 1, 2001, .inr (.inl u0))), (st0, .inl (cs 0, 96048, .inl q0)), (hm, .inr (12, [.ref ms, .ref mkp, .int (nI 0), .ref mtr, .int (nI 4), .int (nI 2), .int (nI 2), .int (nI 3), .int (nI 2), .int (nI 1), .ref mas, .int (nI 0), .int (nI 0), .int (nI 0), .ref mso, .ref mon, .ref mot, .ref man, .int (nI 0), .int (nI 0), .ref mst, .ref msm, .ref mtb, .ref mti, .ref mfr, .ref mbn, .ref mbs, .ref mde, .int (nI 0), .int (nI 0), .int (nI 0), .int (nI 0), .long 0, .long 0, .ref maa, .ref mab, .ref mba, .ref mbb])), (ms, .inl (cs 0, 288, .inl freshS)), (msm, .inl (cs 0, 2, .inl (smF2 a0 (nI 1)))), (mst, .inl (cs 5, 2, .inr (.inr (.inr (.inr fst))))), (st1, .inl (cs 0, 96048, .inl (cpF freshS q1 48))), (mtb, .inl (cs 5, 2, .inr (.inr (.inr (.inr ftb))))), (tb1, .inl (cs 0, 8192, .inl (upd (fun _ => nI 0) 965 (nI 1)))), (mti, .inl (cs 6, 2, .inr (.inr (.inr (.inr fti))))), (ti1, .inl (cs 1, 2001, .inr (.inl (vp_updL u1 0 (lN (ww * 3))))))] := hD
  subst hw_r_67
  refine lv_istore (lv' := [(5, .int (nI 0)), (4, .int (nI 5)), (3, .int (nI 1)), (0, .ref hm), (1, .int (nI 0)), (2, .int (nI 0))]) hx hb dX12_spreads_77 hl (by decide) rfl ?_
  clear hl
  try clear ls
  intro ls hl
  refine lv_iload hx hb dX12_spreads_79 (lv_at hl 0 rfl) ?_
  refine lv_if_ge (tgt := 86) hx hb dX12_spreads_81 (by decide) (fun _ => ?_) (fun c => absurd (by decide) c)
  refine lv_aload_n hx hb dX12_spreads_86 rfl (lv_at hl 3 rfl) ?_
  refine xget C hP 2 rfl rfl zuX12 23 (by decide) zw5_236 rfl dX12_spreads_87 ?_
  refine lv_iconst (v := nI 1) hx hb dX12_spreads_90 (by decide) ?_
  refine lv_iload_n hx hb dX12_spreads_91 rfl (lv_at hl 4 rfl) ?_
  refine lv_isub hx hb dX12_spreads_92 ?_
  refine lv_topi (nm_r (e' := nI 1) (by decide) ?_)
  refine xaald C hP 9 6 rfl rfl rfl 1 rfl (by decide) (by decide) ht1 dX12_spreads_93 ?_
  refine lv_iload hx hb dX12_spreads_94 (lv_at hl 0 rfl) ?_
  refine lv_dup2_11 hx hb dX12_spreads_96 rfl rfl ?_
  refine xlald C hP 10 rfl 0 rfl (by decide) (by decide) dX12_spreads_97 ?_
  refine lv_topl (nm_r (e' := lN (ww * 3)) (upL_0 _ _) ?_)
  refine lv_aload_n hx hb dX12_spreads_98 rfl (lv_at hl 3 rfl) ?_
  refine xget C hP 2 rfl rfl zuX12 23 (by decide) zw5_236 rfl dX12_spreads_99 ?_
  refine lv_iload_n hx hb dX12_spreads_102 rfl (lv_at hl 4 rfl) ?_
  refine xaald C hP 9 6 rfl rfl rfl 0 rfl (by decide) (by decide) ht0 dX12_spreads_103 ?_
  refine lv_iload_n hx hb dX12_spreads_104 rfl (lv_at hl 5 rfl) ?_
  refine xlald C hP 0 rfl 0 rfl (by decide) (by decide) dX12_spreads_105 ?_
  refine lv_topl (nm_r (e' := lN ww) hw ?_)
  refine lv_ladd hx hb dX12_spreads_106 ?_
  refine lv_topl (nm_r (e' := lN (ww * 4)) (lN_a ww 3) ?_)
  refine xlast C hP hD hS 10 rfl 0 rfl (by decide) (by decide) dX12_spreads_107 ?_
  clear hP hD hS
  try clear locs
  try clear H
  intro H locs hP hD hS
  replace hP : va_P D vwCl [(ti0, .inl (cs 1, 2001, .inr (.inl u0))), (st0, .inl (cs 0, 96048, .inl q0)), (hm, .inr (12, [.ref ms, .ref mkp, .int (nI 0), .ref mtr, .int (nI 4), .int (nI 2), .int (nI 2), .int (nI 3), .int (nI 2), .int (nI 1), .ref mas, .int (nI 0), .int (nI 0), .int (nI 0), .ref mso, .ref mon, .ref mot, .ref man, .int (nI 0), .int (nI 0), .ref mst, .ref msm, .ref mtb, .ref mti, .ref mfr, .ref mbn, .ref mbs, .ref mde, .int (nI 0), .int (nI 0), .int (nI 0), .int (nI 0), .long 0, .long 0, .ref maa, .ref mab, .ref mba, .ref mbb])), (ms, .inl (cs 0, 288, .inl freshS)), (msm, .inl (cs 0, 2, .inl (smF2 a0 (nI 1)))), (mst, .inl (cs 5, 2, .inr (.inr (.inr (.inr fst))))), (st1, .inl (cs 0, 96048, .inl (cpF freshS q1 48))), (mtb, .inl (cs 5, 2, .inr (.inr (.inr (.inr ftb))))), (tb1, .inl (cs 0, 8192, .inl (upd (fun _ => nI 0) 965 (nI 1)))), (mti, .inl (cs 6, 2, .inr (.inr (.inr (.inr fti))))), (ti1, .inl (cs 1, 2001, .inr (.inl (vp_updL (vp_updL u1 0 (lN (ww * 3))) 0 (lN (ww * 4))))))] H := hP
  replace hD : va_D A [(ti0, .inl (cs 1, 2001, .inr (.inl u0))), (st0, .inl (cs 0, 96048, .inl q0)), (hm, .inr (12, [.ref ms, .ref mkp, .int (nI 0), .ref mtr, .int (nI 4), .int (nI 2), .int (nI 2), .int (nI 3), .int (nI 2), .int (nI 1), .ref mas, .int (nI 0), .int (nI 0), .int (nI 0), .ref mso, .ref mon, .ref mot, .ref man, .int (nI 0), .int (nI 0), .ref mst, .ref msm, .ref mtb, .ref mti, .ref mfr, .ref mbn, .ref mbs, .ref mde, .int (nI 0), .int (nI 0), .int (nI 0), .int (nI 0), .long 0, .long 0, .ref maa, .ref mab, .ref mba, .ref mbb])), (ms, .inl (cs 0, 288, .inl freshS)), (msm, .inl (cs 0, 2, .inl (smF2 a0 (nI 1)))), (mst, .inl (cs 5, 2, .inr (.inr (.inr (.inr fst))))), (st1, .inl (cs 0, 96048, .inl (cpF freshS q1 48))), (mtb, .inl (cs 5, 2, .inr (.inr (.inr (.inr ftb))))), (tb1, .inl (cs 0, 8192, .inl (upd (fun _ => nI 0) 965 (nI 1)))), (mti, .inl (cs 6, 2, .inr (.inr (.inr (.inr fti))))), (ti1, .inl (cs 1, 2001, .inr (.inl (vp_updL (vp_updL u1 0 (lN (ww * 3))) 0 (lN (ww * 4))))))] := hD
  have hPD := xcongl (q0 := 10) (vp_updL u1 0 (lN (ww * 4))) hP hD rfl (fun j hj => upL_1 u1 _ _ j)
  clear hP hD
  obtain ⟨hP, hD⟩ := hPD
  replace hP : va_P D vwCl [(ti0, .inl (cs 1, 2001, .inr (.inl u0))), (st0, .inl (cs 0, 96048, .inl q0)), (hm, .inr (12, [.ref ms, .ref mkp, .int (nI 0), .ref mtr, .int (nI 4), .int (nI 2), .int (nI 2), .int (nI 3), .int (nI 2), .int (nI 1), .ref mas, .int (nI 0), .int (nI 0), .int (nI 0), .ref mso, .ref mon, .ref mot, .ref man, .int (nI 0), .int (nI 0), .ref mst, .ref msm, .ref mtb, .ref mti, .ref mfr, .ref mbn, .ref mbs, .ref mde, .int (nI 0), .int (nI 0), .int (nI 0), .int (nI 0), .long 0, .long 0, .ref maa, .ref mab, .ref mba, .ref mbb])), (ms, .inl (cs 0, 288, .inl freshS)), (msm, .inl (cs 0, 2, .inl (smF2 a0 (nI 1)))), (mst, .inl (cs 5, 2, .inr (.inr (.inr (.inr fst))))), (st1, .inl (cs 0, 96048, .inl (cpF freshS q1 48))), (mtb, .inl (cs 5, 2, .inr (.inr (.inr (.inr ftb))))), (tb1, .inl (cs 0, 8192, .inl (upd (fun _ => nI 0) 965 (nI 1)))), (mti, .inl (cs 6, 2, .inr (.inr (.inr (.inr fti))))), (ti1, .inl (cs 1, 2001, .inr (.inl (vp_updL u1 0 (lN (ww * 4))))))] H := hP
  replace hD : va_D A [(ti0, .inl (cs 1, 2001, .inr (.inl u0))), (st0, .inl (cs 0, 96048, .inl q0)), (hm, .inr (12, [.ref ms, .ref mkp, .int (nI 0), .ref mtr, .int (nI 4), .int (nI 2), .int (nI 2), .int (nI 3), .int (nI 2), .int (nI 1), .ref mas, .int (nI 0), .int (nI 0), .int (nI 0), .ref mso, .ref mon, .ref mot, .ref man, .int (nI 0), .int (nI 0), .ref mst, .ref msm, .ref mtb, .ref mti, .ref mfr, .ref mbn, .ref mbs, .ref mde, .int (nI 0), .int (nI 0), .int (nI 0), .int (nI 0), .long 0, .long 0, .ref maa, .ref mab, .ref mba, .ref mbb])), (ms, .inl (cs 0, 288, .inl freshS)), (msm, .inl (cs 0, 2, .inl (smF2 a0 (nI 1)))), (mst, .inl (cs 5, 2, .inr (.inr (.inr (.inr fst))))), (st1, .inl (cs 0, 96048, .inl (cpF freshS q1 48))), (mtb, .inl (cs 5, 2, .inr (.inr (.inr (.inr ftb))))), (tb1, .inl (cs 0, 8192, .inl (upd (fun _ => nI 0) 965 (nI 1)))), (mti, .inl (cs 6, 2, .inr (.inr (.inr (.inr fti))))), (ti1, .inl (cs 1, 2001, .inr (.inl (vp_updL u1 0 (lN (ww * 4))))))] := hD
  refine lv_iinc (v := nI 6) (lv' := [(4, .int (nI 6)), (5, .int (nI 0)), (3, .int (nI 1)), (0, .ref hm), (1, .int (nI 0)), (2, .int (nI 0))]) hx hb dX12_spreads_108 hl (k := 1) rfl (by decide) (by decide) rfl ?_
  clear hl
  try clear ls
  intro ls hl
  refine lv_goto (tgt := 13) hx hb dX12_spreads_111 (by decide) ?_
  refine lv_iload hx hb dX12_spreads_13 (lv_at hl 0 rfl) ?_
  refine lv_iconst (v := nI 1) hx hb dX12_spreads_15 (by decide) ?_
  refine lv_aload_n hx hb dX12_spreads_16 rfl (lv_at hl 3 rfl) ?_
  refine xget C hP 2 rfl rfl zuX12 4 (by decide) zw5_217 rfl dX12_spreads_17 ?_
  refine lv_ishl hx hb dX12_spreads_20 ?_
  refine lv_topi (nm_r (e' := nI 16) (by decide) ?_)
  refine lv_icmp_ge (tgt := 114) hx hb dX12_spreads_21 (by decide) (fun c => absurd c (by decide)) (fun _ => ?_)
  refine lv_aload_n hx hb dX12_spreads_24 rfl (lv_at hl 3 rfl) ?_
  refine lv_iload_n hx hb dX12_spreads_25 rfl (lv_at hl 2 rfl) ?_
  refine lv_iload hx hb dX12_spreads_26 (lv_at hl 0 rfl) ?_
  refine xi (wr := [(ti0, .inl (cs 1, 2001, .inr (.inl u0))), (st0, .inl (cs 0, 96048, .inl q0)), (ms, .inl (cs 0, 288, .inl freshS)), (msm, .inl (cs 0, 2, .inl (smF2 a0 (nI 1)))), (mst, .inl (cs 5, 2, .inr (.inr (.inr (.inr fst))))), (st1, .inl (cs 0, 96048, .inl (cpF freshS q1 48))), (mtb, .inl (cs 5, 2, .inr (.inr (.inr (.inr ftb))))), (tb1, .inl (cs 0, 8192, .inl (upd (fun _ => nI 0) 965 (nI 1)))), (mti, .inl (cs 6, 2, .inr (.inr (.inr (.inr fti))))), (ti1, .inl (cs 1, 2001, .inr (.inl (vp_updL u1 0 (lN (ww * 4))))))]) (xV (As := [.int (nI 1), .int (nI 6)]) (rest := []) C (c_X12_isSample_x l D cs hm ms mkp mtr mas mso mon mot man mst msm mtb mti mfr mbn mbs mde maa mab mba mbb 1 6 (by decide) (by decide)) kX12_139 hP hD [2] rfl (by decide +kernel) 0 rfl rfl rfl ⟨Nat.le_of_ble_eq_true rfl, Nat.le_of_ble_eq_true rfl⟩ rfl hl.1 rfl (Nat.le_of_ble_eq_true rfl) dX12_spreads_28 ⟨Nat.le_of_ble_eq_true rfl, Nat.le_of_ble_eq_true rfl⟩) hP hD hS hA [2] [0, 1, 3, 4, 5, 6, 7, 8, 9, 10] rfl rfl (by decide +kernel) (by decide +kernel) ?_
  clear hP hD hS
  try clear locs
  try clear H
  intro r_69 u_70 H locs hw_r_69 hP hD hS
  have hw_r_69 : r_69 = smB 1 6 := hw_r_69
  refine W.widen (k := 0) (n := 0) (Nat.le_of_ble_eq_true rfl) (Nat.le_of_ble_eq_true rfl) ?_
  replace hP : va_P D vwCl [(ti0, .inl (cs 1, 2001, .inr (.inl u0))), (st0, .inl (cs 0, 96048, .inl q0)), (ms, .inl (cs 0, 288, .inl freshS)), (msm, .inl (cs 0, 2, .inl (smF2 a0 (nI 1)))), (mst, .inl (cs 5, 2, .inr (.inr (.inr (.inr fst))))), (st1, .inl (cs 0, 96048, .inl (cpF freshS q1 48))), (mtb, .inl (cs 5, 2, .inr (.inr (.inr (.inr ftb))))), (tb1, .inl (cs 0, 8192, .inl (upd (fun _ => nI 0) 965 (nI 1)))), (mti, .inl (cs 6, 2, .inr (.inr (.inr (.inr fti))))), (ti1, .inl (cs 1, 2001, .inr (.inl (vp_updL u1 0 (lN (ww * 4)))))), (hm, .inr (12, [.ref ms, .ref mkp, .int (nI 0), .ref mtr, .int (nI 4), .int (nI 2), .int (nI 2), .int (nI 3), .int (nI 2), .int (nI 1), .ref mas, .int (nI 0), .int (nI 0), .int (nI 0), .ref mso, .ref mon, .ref mot, .ref man, .int (nI 0), .int (nI 0), .ref mst, .ref msm, .ref mtb, .ref mti, .ref mfr, .ref mbn, .ref mbs, .ref mde, .int (nI 0), .int (nI 0), .int (nI 0), .int (nI 0), .long 0, .long 0, .ref maa, .ref mab, .ref mba, .ref mbb]))] H := hP
  replace hD : va_D A [(ti0, .inl (cs 1, 2001, .inr (.inl u0))), (st0, .inl (cs 0, 96048, .inl q0)), (ms, .inl (cs 0, 288, .inl freshS)), (msm, .inl (cs 0, 2, .inl (smF2 a0 (nI 1)))), (mst, .inl (cs 5, 2, .inr (.inr (.inr (.inr fst))))), (st1, .inl (cs 0, 96048, .inl (cpF freshS q1 48))), (mtb, .inl (cs 5, 2, .inr (.inr (.inr (.inr ftb))))), (tb1, .inl (cs 0, 8192, .inl (upd (fun _ => nI 0) 965 (nI 1)))), (mti, .inl (cs 6, 2, .inr (.inr (.inr (.inr fti))))), (ti1, .inl (cs 1, 2001, .inr (.inl (vp_updL u1 0 (lN (ww * 4)))))), (hm, .inr (12, [.ref ms, .ref mkp, .int (nI 0), .ref mtr, .int (nI 4), .int (nI 2), .int (nI 2), .int (nI 3), .int (nI 2), .int (nI 1), .ref mas, .int (nI 0), .int (nI 0), .int (nI 0), .ref mso, .ref mon, .ref mot, .ref man, .int (nI 0), .int (nI 0), .ref mst, .ref msm, .ref mtb, .ref mti, .ref mfr, .ref mbn, .ref mbs, .ref mde, .int (nI 0), .int (nI 0), .int (nI 0), .int (nI 0), .long 0, .long 0, .ref maa, .ref mab, .ref mba, .ref mbb]))] := hD
  obtain rfl : r_69 = nI 0 := by rw [hw_r_69]; decide +kernel
  refine lv_if_ne (tgt := 37) hx hb dX12_spreads_31 (by decide) (fun c => absurd (by decide) c) (fun _ => ?_)
  refine lv_goto (tgt := 108) hx hb dX12_spreads_34 (by decide) ?_
  refine lv_iinc (v := nI 7) (lv' := [(4, .int (nI 7)), (5, .int (nI 0)), (3, .int (nI 1)), (0, .ref hm), (1, .int (nI 0)), (2, .int (nI 0))]) hx hb dX12_spreads_108 hl (k := 0) rfl (by decide) (by decide) rfl ?_
  clear hl
  try clear ls
  intro ls hl
  refine lv_goto (tgt := 13) hx hb dX12_spreads_111 (by decide) ?_
  refine lv_iload hx hb dX12_spreads_13 (lv_at hl 0 rfl) ?_
  refine lv_iconst (v := nI 1) hx hb dX12_spreads_15 (by decide) ?_
  refine lv_aload_n hx hb dX12_spreads_16 rfl (lv_at hl 3 rfl) ?_
  refine xget C hP 10 rfl rfl zuX12 4 (by decide) zw5_217 rfl dX12_spreads_17 ?_
  refine lv_ishl hx hb dX12_spreads_20 ?_
  refine lv_topi (nm_r (e' := nI 16) (by decide) ?_)
  refine lv_icmp_ge (tgt := 114) hx hb dX12_spreads_21 (by decide) (fun c => absurd c (by decide)) (fun _ => ?_)
  refine lv_aload_n hx hb dX12_spreads_24 rfl (lv_at hl 3 rfl) ?_
  refine lv_iload_n hx hb dX12_spreads_25 rfl (lv_at hl 2 rfl) ?_
  refine lv_iload hx hb dX12_spreads_26 (lv_at hl 0 rfl) ?_
  refine xi (wr := [(ti0, .inl (cs 1, 2001, .inr (.inl u0))), (st0, .inl (cs 0, 96048, .inl q0)), (ms, .inl (cs 0, 288, .inl freshS)), (msm, .inl (cs 0, 2, .inl (smF2 a0 (nI 1)))), (mst, .inl (cs 5, 2, .inr (.inr (.inr (.inr fst))))), (st1, .inl (cs 0, 96048, .inl (cpF freshS q1 48))), (mtb, .inl (cs 5, 2, .inr (.inr (.inr (.inr ftb))))), (tb1, .inl (cs 0, 8192, .inl (upd (fun _ => nI 0) 965 (nI 1)))), (mti, .inl (cs 6, 2, .inr (.inr (.inr (.inr fti))))), (ti1, .inl (cs 1, 2001, .inr (.inl (vp_updL u1 0 (lN (ww * 4))))))]) (xV (As := [.int (nI 1), .int (nI 7)]) (rest := []) C (c_X12_isSample_x l D cs hm ms mkp mtr mas mso mon mot man mst msm mtb mti mfr mbn mbs mde maa mab mba mbb 1 7 (by decide) (by decide)) kX12_139 hP hD [10] rfl (by decide +kernel) 0 rfl rfl rfl ⟨Nat.le_of_ble_eq_true rfl, Nat.le_of_ble_eq_true rfl⟩ rfl hl.1 rfl (Nat.le_of_ble_eq_true rfl) dX12_spreads_28 ⟨Nat.le_of_ble_eq_true rfl, Nat.le_of_ble_eq_true rfl⟩) hP hD hS hA [10] [0, 1, 2, 3, 4, 5, 6, 7, 8, 9] rfl rfl (by decide +kernel) (by decide +kernel) ?_
  clear hP hD hS
  try clear locs
  try clear H
  intro r_71 u_72 H locs hw_r_71 hP hD hS
  have hw_r_71 : r_71 = smB 1 7 := hw_r_71
  refine W.widen (k := 0) (n := 0) (Nat.le_of_ble_eq_true rfl) (Nat.le_of_ble_eq_true rfl) ?_
  replace hP : va_P D vwCl [(ti0, .inl (cs 1, 2001, .inr (.inl u0))), (st0, .inl (cs 0, 96048, .inl q0)), (ms, .inl (cs 0, 288, .inl freshS)), (msm, .inl (cs 0, 2, .inl (smF2 a0 (nI 1)))), (mst, .inl (cs 5, 2, .inr (.inr (.inr (.inr fst))))), (st1, .inl (cs 0, 96048, .inl (cpF freshS q1 48))), (mtb, .inl (cs 5, 2, .inr (.inr (.inr (.inr ftb))))), (tb1, .inl (cs 0, 8192, .inl (upd (fun _ => nI 0) 965 (nI 1)))), (mti, .inl (cs 6, 2, .inr (.inr (.inr (.inr fti))))), (ti1, .inl (cs 1, 2001, .inr (.inl (vp_updL u1 0 (lN (ww * 4)))))), (hm, .inr (12, [.ref ms, .ref mkp, .int (nI 0), .ref mtr, .int (nI 4), .int (nI 2), .int (nI 2), .int (nI 3), .int (nI 2), .int (nI 1), .ref mas, .int (nI 0), .int (nI 0), .int (nI 0), .ref mso, .ref mon, .ref mot, .ref man, .int (nI 0), .int (nI 0), .ref mst, .ref msm, .ref mtb, .ref mti, .ref mfr, .ref mbn, .ref mbs, .ref mde, .int (nI 0), .int (nI 0), .int (nI 0), .int (nI 0), .long 0, .long 0, .ref maa, .ref mab, .ref mba, .ref mbb]))] H := hP
  replace hD : va_D A [(ti0, .inl (cs 1, 2001, .inr (.inl u0))), (st0, .inl (cs 0, 96048, .inl q0)), (ms, .inl (cs 0, 288, .inl freshS)), (msm, .inl (cs 0, 2, .inl (smF2 a0 (nI 1)))), (mst, .inl (cs 5, 2, .inr (.inr (.inr (.inr fst))))), (st1, .inl (cs 0, 96048, .inl (cpF freshS q1 48))), (mtb, .inl (cs 5, 2, .inr (.inr (.inr (.inr ftb))))), (tb1, .inl (cs 0, 8192, .inl (upd (fun _ => nI 0) 965 (nI 1)))), (mti, .inl (cs 6, 2, .inr (.inr (.inr (.inr fti))))), (ti1, .inl (cs 1, 2001, .inr (.inl (vp_updL u1 0 (lN (ww * 4)))))), (hm, .inr (12, [.ref ms, .ref mkp, .int (nI 0), .ref mtr, .int (nI 4), .int (nI 2), .int (nI 2), .int (nI 3), .int (nI 2), .int (nI 1), .ref mas, .int (nI 0), .int (nI 0), .int (nI 0), .ref mso, .ref mon, .ref mot, .ref man, .int (nI 0), .int (nI 0), .ref mst, .ref msm, .ref mtb, .ref mti, .ref mfr, .ref mbn, .ref mbs, .ref mde, .int (nI 0), .int (nI 0), .int (nI 0), .int (nI 0), .long 0, .long 0, .ref maa, .ref mab, .ref mba, .ref mbb]))] := hD
  obtain rfl : r_71 = nI 0 := by rw [hw_r_71]; decide +kernel
  refine lv_if_ne (tgt := 37) hx hb dX12_spreads_31 (by decide) (fun c => absurd (by decide) c) (fun _ => ?_)
  refine lv_goto (tgt := 108) hx hb dX12_spreads_34 (by decide) ?_
  refine lv_iinc (v := nI 8) (lv' := [(4, .int (nI 8)), (5, .int (nI 0)), (3, .int (nI 1)), (0, .ref hm), (1, .int (nI 0)), (2, .int (nI 0))]) hx hb dX12_spreads_108 hl (k := 0) rfl (by decide) (by decide) rfl ?_
  clear hl
  try clear ls
  intro ls hl
  refine lv_goto (tgt := 13) hx hb dX12_spreads_111 (by decide) ?_
  refine lv_iload hx hb dX12_spreads_13 (lv_at hl 0 rfl) ?_
  refine lv_iconst (v := nI 1) hx hb dX12_spreads_15 (by decide) ?_
  refine lv_aload_n hx hb dX12_spreads_16 rfl (lv_at hl 3 rfl) ?_
  refine xget C hP 10 rfl rfl zuX12 4 (by decide) zw5_217 rfl dX12_spreads_17 ?_
  refine lv_ishl hx hb dX12_spreads_20 ?_
  refine lv_topi (nm_r (e' := nI 16) (by decide) ?_)
  refine lv_icmp_ge (tgt := 114) hx hb dX12_spreads_21 (by decide) (fun c => absurd c (by decide)) (fun _ => ?_)
  refine lv_aload_n hx hb dX12_spreads_24 rfl (lv_at hl 3 rfl) ?_
  refine lv_iload_n hx hb dX12_spreads_25 rfl (lv_at hl 2 rfl) ?_
  refine lv_iload hx hb dX12_spreads_26 (lv_at hl 0 rfl) ?_
  refine xi (wr := [(ti0, .inl (cs 1, 2001, .inr (.inl u0))), (st0, .inl (cs 0, 96048, .inl q0)), (ms, .inl (cs 0, 288, .inl freshS)), (msm, .inl (cs 0, 2, .inl (smF2 a0 (nI 1)))), (mst, .inl (cs 5, 2, .inr (.inr (.inr (.inr fst))))), (st1, .inl (cs 0, 96048, .inl (cpF freshS q1 48))), (mtb, .inl (cs 5, 2, .inr (.inr (.inr (.inr ftb))))), (tb1, .inl (cs 0, 8192, .inl (upd (fun _ => nI 0) 965 (nI 1)))), (mti, .inl (cs 6, 2, .inr (.inr (.inr (.inr fti))))), (ti1, .inl (cs 1, 2001, .inr (.inl (vp_updL u1 0 (lN (ww * 4))))))]) (xV (As := [.int (nI 1), .int (nI 8)]) (rest := []) C (c_X12_isSample_x l D cs hm ms mkp mtr mas mso mon mot man mst msm mtb mti mfr mbn mbs mde maa mab mba mbb 1 8 (by decide) (by decide)) kX12_139 hP hD [10] rfl (by decide +kernel) 0 rfl rfl rfl ⟨Nat.le_of_ble_eq_true rfl, Nat.le_of_ble_eq_true rfl⟩ rfl hl.1 rfl (Nat.le_of_ble_eq_true rfl) dX12_spreads_28 ⟨Nat.le_of_ble_eq_true rfl, Nat.le_of_ble_eq_true rfl⟩) hP hD hS hA [10] [0, 1, 2, 3, 4, 5, 6, 7, 8, 9] rfl rfl (by decide +kernel) (by decide +kernel) ?_
  clear hP hD hS
  try clear locs
  try clear H
  intro r_73 u_74 H locs hw_r_73 hP hD hS
  have hw_r_73 : r_73 = smB 1 8 := hw_r_73
  refine W.widen (k := 0) (n := 0) (Nat.le_of_ble_eq_true rfl) (Nat.le_of_ble_eq_true rfl) ?_
  replace hP : va_P D vwCl [(ti0, .inl (cs 1, 2001, .inr (.inl u0))), (st0, .inl (cs 0, 96048, .inl q0)), (ms, .inl (cs 0, 288, .inl freshS)), (msm, .inl (cs 0, 2, .inl (smF2 a0 (nI 1)))), (mst, .inl (cs 5, 2, .inr (.inr (.inr (.inr fst))))), (st1, .inl (cs 0, 96048, .inl (cpF freshS q1 48))), (mtb, .inl (cs 5, 2, .inr (.inr (.inr (.inr ftb))))), (tb1, .inl (cs 0, 8192, .inl (upd (fun _ => nI 0) 965 (nI 1)))), (mti, .inl (cs 6, 2, .inr (.inr (.inr (.inr fti))))), (ti1, .inl (cs 1, 2001, .inr (.inl (vp_updL u1 0 (lN (ww * 4)))))), (hm, .inr (12, [.ref ms, .ref mkp, .int (nI 0), .ref mtr, .int (nI 4), .int (nI 2), .int (nI 2), .int (nI 3), .int (nI 2), .int (nI 1), .ref mas, .int (nI 0), .int (nI 0), .int (nI 0), .ref mso, .ref mon, .ref mot, .ref man, .int (nI 0), .int (nI 0), .ref mst, .ref msm, .ref mtb, .ref mti, .ref mfr, .ref mbn, .ref mbs, .ref mde, .int (nI 0), .int (nI 0), .int (nI 0), .int (nI 0), .long 0, .long 0, .ref maa, .ref mab, .ref mba, .ref mbb]))] H := hP
  replace hD : va_D A [(ti0, .inl (cs 1, 2001, .inr (.inl u0))), (st0, .inl (cs 0, 96048, .inl q0)), (ms, .inl (cs 0, 288, .inl freshS)), (msm, .inl (cs 0, 2, .inl (smF2 a0 (nI 1)))), (mst, .inl (cs 5, 2, .inr (.inr (.inr (.inr fst))))), (st1, .inl (cs 0, 96048, .inl (cpF freshS q1 48))), (mtb, .inl (cs 5, 2, .inr (.inr (.inr (.inr ftb))))), (tb1, .inl (cs 0, 8192, .inl (upd (fun _ => nI 0) 965 (nI 1)))), (mti, .inl (cs 6, 2, .inr (.inr (.inr (.inr fti))))), (ti1, .inl (cs 1, 2001, .inr (.inl (vp_updL u1 0 (lN (ww * 4)))))), (hm, .inr (12, [.ref ms, .ref mkp, .int (nI 0), .ref mtr, .int (nI 4), .int (nI 2), .int (nI 2), .int (nI 3), .int (nI 2), .int (nI 1), .ref mas, .int (nI 0), .int (nI 0), .int (nI 0), .ref mso, .ref mon, .ref mot, .ref man, .int (nI 0), .int (nI 0), .ref mst, .ref msm, .ref mtb, .ref mti, .ref mfr, .ref mbn, .ref mbs, .ref mde, .int (nI 0), .int (nI 0), .int (nI 0), .int (nI 0), .long 0, .long 0, .ref maa, .ref mab, .ref mba, .ref mbb]))] := hD
  obtain rfl : r_73 = nI 0 := by rw [hw_r_73]; decide +kernel
  refine lv_if_ne (tgt := 37) hx hb dX12_spreads_31 (by decide) (fun c => absurd (by decide) c) (fun _ => ?_)
  refine lv_goto (tgt := 108) hx hb dX12_spreads_34 (by decide) ?_
  refine lv_iinc (v := nI 9) (lv' := [(4, .int (nI 9)), (5, .int (nI 0)), (3, .int (nI 1)), (0, .ref hm), (1, .int (nI 0)), (2, .int (nI 0))]) hx hb dX12_spreads_108 hl (k := 0) rfl (by decide) (by decide) rfl ?_
  clear hl
  try clear ls
  intro ls hl
  refine lv_goto (tgt := 13) hx hb dX12_spreads_111 (by decide) ?_
  refine lv_iload hx hb dX12_spreads_13 (lv_at hl 0 rfl) ?_
  refine lv_iconst (v := nI 1) hx hb dX12_spreads_15 (by decide) ?_
  refine lv_aload_n hx hb dX12_spreads_16 rfl (lv_at hl 3 rfl) ?_
  refine xget C hP 10 rfl rfl zuX12 4 (by decide) zw5_217 rfl dX12_spreads_17 ?_
  refine lv_ishl hx hb dX12_spreads_20 ?_
  refine lv_topi (nm_r (e' := nI 16) (by decide) ?_)
  refine lv_icmp_ge (tgt := 114) hx hb dX12_spreads_21 (by decide) (fun c => absurd c (by decide)) (fun _ => ?_)
  refine lv_aload_n hx hb dX12_spreads_24 rfl (lv_at hl 3 rfl) ?_
  refine lv_iload_n hx hb dX12_spreads_25 rfl (lv_at hl 2 rfl) ?_
  refine lv_iload hx hb dX12_spreads_26 (lv_at hl 0 rfl) ?_
  refine xi (wr := [(ti0, .inl (cs 1, 2001, .inr (.inl u0))), (st0, .inl (cs 0, 96048, .inl q0)), (ms, .inl (cs 0, 288, .inl freshS)), (msm, .inl (cs 0, 2, .inl (smF2 a0 (nI 1)))), (mst, .inl (cs 5, 2, .inr (.inr (.inr (.inr fst))))), (st1, .inl (cs 0, 96048, .inl (cpF freshS q1 48))), (mtb, .inl (cs 5, 2, .inr (.inr (.inr (.inr ftb))))), (tb1, .inl (cs 0, 8192, .inl (upd (fun _ => nI 0) 965 (nI 1)))), (mti, .inl (cs 6, 2, .inr (.inr (.inr (.inr fti))))), (ti1, .inl (cs 1, 2001, .inr (.inl (vp_updL u1 0 (lN (ww * 4))))))]) (xV (As := [.int (nI 1), .int (nI 9)]) (rest := []) C (c_X12_isSample_x l D cs hm ms mkp mtr mas mso mon mot man mst msm mtb mti mfr mbn mbs mde maa mab mba mbb 1 9 (by decide) (by decide)) kX12_139 hP hD [10] rfl (by decide +kernel) 0 rfl rfl rfl ⟨Nat.le_of_ble_eq_true rfl, Nat.le_of_ble_eq_true rfl⟩ rfl hl.1 rfl (Nat.le_of_ble_eq_true rfl) dX12_spreads_28 ⟨Nat.le_of_ble_eq_true rfl, Nat.le_of_ble_eq_true rfl⟩) hP hD hS hA [10] [0, 1, 2, 3, 4, 5, 6, 7, 8, 9] rfl rfl (by decide +kernel) (by decide +kernel) ?_
  clear hP hD hS
  try clear locs
  try clear H
  intro r_75 u_76 H locs hw_r_75 hP hD hS
  have hw_r_75 : r_75 = smB 1 9 := hw_r_75
  refine W.widen (k := 0) (n := 0) (Nat.le_of_ble_eq_true rfl) (Nat.le_of_ble_eq_true rfl) ?_
  replace hP : va_P D vwCl [(ti0, .inl (cs 1, 2001, .inr (.inl u0))), (st0, .inl (cs 0, 96048, .inl q0)), (ms, .inl (cs 0, 288, .inl freshS)), (msm, .inl (cs 0, 2, .inl (smF2 a0 (nI 1)))), (mst, .inl (cs 5, 2, .inr (.inr (.inr (.inr fst))))), (st1, .inl (cs 0, 96048, .inl (cpF freshS q1 48))), (mtb, .inl (cs 5, 2, .inr (.inr (.inr (.inr ftb))))), (tb1, .inl (cs 0, 8192, .inl (upd (fun _ => nI 0) 965 (nI 1)))), (mti, .inl (cs 6, 2, .inr (.inr (.inr (.inr fti))))), (ti1, .inl (cs 1, 2001, .inr (.inl (vp_updL u1 0 (lN (ww * 4)))))), (hm, .inr (12, [.ref ms, .ref mkp, .int (nI 0), .ref mtr, .int (nI 4), .int (nI 2), .int (nI 2), .int (nI 3), .int (nI 2), .int (nI 1), .ref mas, .int (nI 0), .int (nI 0), .int (nI 0), .ref mso, .ref mon, .ref mot, .ref man, .int (nI 0), .int (nI 0), .ref mst, .ref msm, .ref mtb, .ref mti, .ref mfr, .ref mbn, .ref mbs, .ref mde, .int (nI 0), .int (nI 0), .int (nI 0), .int (nI 0), .long 0, .long 0, .ref maa, .ref mab, .ref mba, .ref mbb]))] H := hP
  replace hD : va_D A [(ti0, .inl (cs 1, 2001, .inr (.inl u0))), (st0, .inl (cs 0, 96048, .inl q0)), (ms, .inl (cs 0, 288, .inl freshS)), (msm, .inl (cs 0, 2, .inl (smF2 a0 (nI 1)))), (mst, .inl (cs 5, 2, .inr (.inr (.inr (.inr fst))))), (st1, .inl (cs 0, 96048, .inl (cpF freshS q1 48))), (mtb, .inl (cs 5, 2, .inr (.inr (.inr (.inr ftb))))), (tb1, .inl (cs 0, 8192, .inl (upd (fun _ => nI 0) 965 (nI 1)))), (mti, .inl (cs 6, 2, .inr (.inr (.inr (.inr fti))))), (ti1, .inl (cs 1, 2001, .inr (.inl (vp_updL u1 0 (lN (ww * 4)))))), (hm, .inr (12, [.ref ms, .ref mkp, .int (nI 0), .ref mtr, .int (nI 4), .int (nI 2), .int (nI 2), .int (nI 3), .int (nI 2), .int (nI 1), .ref mas, .int (nI 0), .int (nI 0), .int (nI 0), .ref mso, .ref mon, .ref mot, .ref man, .int (nI 0), .int (nI 0), .ref mst, .ref msm, .ref mtb, .ref mti, .ref mfr, .ref mbn, .ref mbs, .ref mde, .int (nI 0), .int (nI 0), .int (nI 0), .int (nI 0), .long 0, .long 0, .ref maa, .ref mab, .ref mba, .ref mbb]))] := hD
  obtain rfl : r_75 = nI 1 := by rw [hw_r_75]; decide +kernel
  refine lv_if_ne (tgt := 37) hx hb dX12_spreads_31 (by decide) (fun _ => ?_) (fun c => absurd c (by decide))
  refine lv_aload_n hx hb dX12_spreads_37 rfl (lv_at hl 3 rfl) ?_
  refine lv_iload_n hx hb dX12_spreads_38 rfl (lv_at hl 4 rfl) ?_
  refine lv_iload_n hx hb dX12_spreads_39 rfl (lv_at hl 5 rfl) ?_
  refine xv (wr := [(ti0, .inl (cs 1, 2001, .inr (.inl u0))), (msm, .inl (cs 0, 2, .inl (smF2 a0 (nI 1)))), (st1, .inl (cs 0, 96048, .inl (cpF freshS q1 48))), (mtb, .inl (cs 5, 2, .inr (.inr (.inr (.inr ftb))))), (tb1, .inl (cs 0, 8192, .inl (upd (fun _ => nI 0) 965 (nI 1)))), (mti, .inl (cs 6, 2, .inr (.inr (.inr (.inr fti))))), (ti1, .inl (cs 1, 2001, .inr (.inl (vp_updL u1 0 (lN (ww * 4))))))]) (xV (As := [.int (nI 0), .int (nI 0)]) (rest := []) C (c_X12_brings_0 l D cs hm ms mkp mtr mas mso mon mot man mst msm mtb mti mfr mbn mbs mde maa mab mba mbb st0 fst q0 hf0 hq) kX12_203 hP hD [10, 2, 4, 1] rfl (by decide +kernel) 0 rfl rfl rfl ⟨Nat.le_of_ble_eq_true rfl, Nat.le_of_ble_eq_true rfl⟩ rfl hl.1 rfl (Nat.le_of_ble_eq_true rfl) dX12_spreads_40 ⟨Nat.le_of_ble_eq_true rfl, Nat.le_of_ble_eq_true rfl⟩) hP hD hS hA [10, 2, 4, 1] [0, 3, 5, 6, 7, 8, 9] rfl rfl (by decide +kernel) (by decide +kernel) ?_
  clear hP hD hS
  try clear locs
  try clear H
  intro u_78 H locs hw_r_77 hP hD hS
  refine W.widen (k := 0) (n := 0) (Nat.le_of_ble_eq_true rfl) (Nat.le_of_ble_eq_true rfl) ?_
  replace hP : va_P D vwCl [(ti0, .inl (cs 1, 2001, .inr (.inl u0))), (msm, .inl (cs 0, 2, .inl (smF2 a0 (nI 1)))), (st1, .inl (cs 0, 96048, .inl (cpF freshS q1 48))), (mtb, .inl (cs 5, 2, .inr (.inr (.inr (.inr ftb))))), (tb1, .inl (cs 0, 8192, .inl (upd (fun _ => nI 0) 965 (nI 1)))), (mti, .inl (cs 6, 2, .inr (.inr (.inr (.inr fti))))), (ti1, .inl (cs 1, 2001, .inr (.inl (vp_updL u1 0 (lN (ww * 4)))))), (hm, .inr (12, [.ref ms, .ref mkp, .int (nI 0), .ref mtr, .int (nI 4), .int (nI 2), .int (nI 2), .int (nI 3), .int (nI 2), .int (nI 1), .ref mas, .int (nI 0), .int (nI 0), .int (nI 0), .ref mso, .ref mon, .ref mot, .ref man, .int (nI 0), .int (nI 0), .ref mst, .ref msm, .ref mtb, .ref mti, .ref mfr, .ref mbn, .ref mbs, .ref mde, .int (nI 0), .int (nI 0), .int (nI 0), .int (nI 0), .long 0, .long 0, .ref maa, .ref mab, .ref mba, .ref mbb])), (ms, .inl (cs 0, 288, .inl freshS)), (mst, .inl (cs 5, 2, .inr (.inr (.inr (.inr fst))))), (st0, .inl (cs 0, 96048, .inl q0))] H := hP
  replace hD : va_D A [(ti0, .inl (cs 1, 2001, .inr (.inl u0))), (msm, .inl (cs 0, 2, .inl (smF2 a0 (nI 1)))), (st1, .inl (cs 0, 96048, .inl (cpF freshS q1 48))), (mtb, .inl (cs 5, 2, .inr (.inr (.inr (.inr ftb))))), (tb1, .inl (cs 0, 8192, .inl (upd (fun _ => nI 0) 965 (nI 1)))), (mti, .inl (cs 6, 2, .inr (.inr (.inr (.inr fti))))), (ti1, .inl (cs 1, 2001, .inr (.inl (vp_updL u1 0 (lN (ww * 4)))))), (hm, .inr (12, [.ref ms, .ref mkp, .int (nI 0), .ref mtr, .int (nI 4), .int (nI 2), .int (nI 2), .int (nI 3), .int (nI 2), .int (nI 1), .ref mas, .int (nI 0), .int (nI 0), .int (nI 0), .ref mso, .ref mon, .ref mot, .ref man, .int (nI 0), .int (nI 0), .ref mst, .ref msm, .ref mtb, .ref mti, .ref mfr, .ref mbn, .ref mbs, .ref mde, .int (nI 0), .int (nI 0), .int (nI 0), .int (nI 0), .long 0, .long 0, .ref maa, .ref mab, .ref mba, .ref mbb])), (ms, .inl (cs 0, 288, .inl freshS)), (mst, .inl (cs 5, 2, .inr (.inr (.inr (.inr fst))))), (st0, .inl (cs 0, 96048, .inl q0))] := hD
  refine lv_aload_n hx hb dX12_spreads_43 rfl (lv_at hl 3 rfl) ?_
  refine lv_iload_n hx hb dX12_spreads_44 rfl (lv_at hl 2 rfl) ?_
  refine xi (wr := [(ti0, .inl (cs 1, 2001, .inr (.inl u0))), (msm, .inl (cs 0, 2, .inl (smF2 a0 (nI 1)))), (st1, .inl (cs 0, 96048, .inl (cpF freshS q1 48))), (mtb, .inl (cs 5, 2, .inr (.inr (.inr (.inr ftb))))), (tb1, .inl (cs 0, 8192, .inl (upd (fun _ => nI 0) 965 (nI 1)))), (mti, .inl (cs 6, 2, .inr (.inr (.inr (.inr fti))))), (ti1, .inl (cs 1, 2001, .inr (.inl (vp_updL u1 0 (lN (ww * 4)))))), (mst, .inl (cs 5, 2, .inr (.inr (.inr (.inr fst))))), (st0, .inl (cs 0, 96048, .inl q0))]) (xV (As := [.int (nI 1)]) (rest := []) C (c_X12_canAsk_z l D cs hm ms mkp mtr mas mso mon mot man mst msm mtb mti mfr mbn mbs mde maa mab mba mbb 1 (by decide)) kX12_142 hP hD [7, 8] rfl (by decide +kernel) 0 rfl rfl rfl ⟨Nat.le_of_ble_eq_true rfl, Nat.le_of_ble_eq_true rfl⟩ rfl hl.1 rfl (Nat.le_of_ble_eq_true rfl) dX12_spreads_45 ⟨Nat.le_of_ble_eq_true rfl, Nat.le_of_ble_eq_true rfl⟩) hP hD hS hA [7, 8] [0, 1, 2, 3, 4, 5, 6, 9, 10] rfl rfl (by decide +kernel) (by decide +kernel) ?_
  clear hP hD hS
  try clear locs
  try clear H
  intro r_79 u_80 H locs hw_r_79 hP hD hS
  have hw_r_79 : r_79 = nI 0 := hw_r_79
  refine W.widen (k := 0) (n := 0) (Nat.le_of_ble_eq_true rfl) (Nat.le_of_ble_eq_true rfl) ?_
  replace hP : va_P D vwCl [(ti0, .inl (cs 1, 2001, .inr (.inl u0))), (msm, .inl (cs 0, 2, .inl (smF2 a0 (nI 1)))), (st1, .inl (cs 0, 96048, .inl (cpF freshS q1 48))), (mtb, .inl (cs 5, 2, .inr (.inr (.inr (.inr ftb))))), (tb1, .inl (cs 0, 8192, .inl (upd (fun _ => nI 0) 965 (nI 1)))), (mti, .inl (cs 6, 2, .inr (.inr (.inr (.inr fti))))), (ti1, .inl (cs 1, 2001, .inr (.inl (vp_updL u1 0 (lN (ww * 4)))))), (mst, .inl (cs 5, 2, .inr (.inr (.inr (.inr fst))))), (st0, .inl (cs 0, 96048, .inl q0)), (hm, .inr (12, [.ref ms, .ref mkp, .int (nI 0), .ref mtr, .int (nI 4), .int (nI 2), .int (nI 2), .int (nI 3), .int (nI 2), .int (nI 1), .ref mas, .int (nI 0), .int (nI 0), .int (nI 0), .ref mso, .ref mon, .ref mot, .ref man, .int (nI 0), .int (nI 0), .ref mst, .ref msm, .ref mtb, .ref mti, .ref mfr, .ref mbn, .ref mbs, .ref mde, .int (nI 0), .int (nI 0), .int (nI 0), .int (nI 0), .long 0, .long 0, .ref maa, .ref mab, .ref mba, .ref mbb])), (ms, .inl (cs 0, 288, .inl freshS))] H := hP
  replace hD : va_D A [(ti0, .inl (cs 1, 2001, .inr (.inl u0))), (msm, .inl (cs 0, 2, .inl (smF2 a0 (nI 1)))), (st1, .inl (cs 0, 96048, .inl (cpF freshS q1 48))), (mtb, .inl (cs 5, 2, .inr (.inr (.inr (.inr ftb))))), (tb1, .inl (cs 0, 8192, .inl (upd (fun _ => nI 0) 965 (nI 1)))), (mti, .inl (cs 6, 2, .inr (.inr (.inr (.inr fti))))), (ti1, .inl (cs 1, 2001, .inr (.inl (vp_updL u1 0 (lN (ww * 4)))))), (mst, .inl (cs 5, 2, .inr (.inr (.inr (.inr fst))))), (st0, .inl (cs 0, 96048, .inl q0)), (hm, .inr (12, [.ref ms, .ref mkp, .int (nI 0), .ref mtr, .int (nI 4), .int (nI 2), .int (nI 2), .int (nI 3), .int (nI 2), .int (nI 1), .ref mas, .int (nI 0), .int (nI 0), .int (nI 0), .ref mso, .ref mon, .ref mot, .ref man, .int (nI 0), .int (nI 0), .ref mst, .ref msm, .ref mtb, .ref mti, .ref mfr, .ref mbn, .ref mbs, .ref mde, .int (nI 0), .int (nI 0), .int (nI 0), .int (nI 0), .long 0, .long 0, .ref maa, .ref mab, .ref mba, .ref mbb])), (ms, .inl (cs 0, 288, .inl freshS))] := hD
  subst hw_r_79
  refine lv_if_eq (tgt := 67) hx hb dX12_spreads_48 (by decide) (fun _ => ?_) (fun c => absurd (by decide) c)
  refine lv_aload_n hx hb dX12_spreads_67 rfl (lv_at hl 3 rfl) ?_
  refine lv_iconst (v := nI 1) hx hb dX12_spreads_68 (by decide) ?_
  refine lv_iload_n hx hb dX12_spreads_69 rfl (lv_at hl 4 rfl) ?_
  refine lv_isub hx hb dX12_spreads_70 ?_
  refine lv_topi (nm_r (e' := nI 1) (by decide) ?_)
  refine lv_sipush (v := nI 2000) hx hb dX12_spreads_71 (by decide) ?_
  refine xi (wr := [(ti0, .inl (cs 1, 2001, .inr (.inl u0))), (st0, .inl (cs 0, 96048, .inl q0))]) (xV (As := [.int (nI 1), .int (nI 2000)]) (rest := []) C (c_X12_numberOf_b1 l D cs hm ms mkp mtr mas mso mon mot man mst msm mtb mti mfr mbn mbs mde maa mab mba mbb st1 tb1 ti1 fst ftb fti (smF2 a0 (nI 1)) (cpF freshS q1 48) (upd (fun _ => nI 0) 965 (nI 1)) (vp_updL u1 0 (lN (ww * 4))) hf1 hg ht1 (if_pos rfl) (fun j hj => cpF_lt hj)) kX12_197 hP hD [9, 10, 1, 7, 2, 3, 4, 5, 6] rfl (by decide +kernel) 0 rfl rfl rfl ⟨Nat.le_of_ble_eq_true rfl, Nat.le_of_ble_eq_true rfl⟩ rfl hl.1 rfl (Nat.le_of_ble_eq_true rfl) dX12_spreads_74 ⟨Nat.le_of_ble_eq_true rfl, Nat.le_of_ble_eq_true rfl⟩) hP hD hS hA [9, 10, 1, 7, 2, 3, 4, 5, 6] [0, 8] rfl rfl (by decide +kernel) (by decide +kernel) ?_
  clear hP hD hS
  try clear locs
  try clear H
  intro r_81 u_82 H locs hw_r_81 hP hD hS
  have hw_r_81 : r_81 = nI 0 := hw_r_81
  refine W.widen (k := 0) (n := 0) (Nat.le_of_ble_eq_true rfl) (Nat.le_of_ble_eq_true rfl) ?_
  replace hP : va_P D vwCl [(ti0, .inl (cs 1, 2001, .inr (.inl u0))), (st0, .inl (cs 0, 96048, .inl q0)), (hm, .inr (12, [.ref ms, .ref mkp, .int (nI 0), .ref mtr, .int (nI 4), .int (nI 2), .int (nI 2), .int (nI 3), .int (nI 2), .int (nI 1), .ref mas, .int (nI 0), .int (nI 0), .int (nI 0), .ref mso, .ref mon, .ref mot, .ref man, .int (nI 0), .int (nI 0), .ref mst, .ref msm, .ref mtb, .ref mti, .ref mfr, .ref mbn, .ref mbs, .ref mde, .int (nI 0), .int (nI 0), .int (nI 0), .int (nI 0), .long 0, .long 0, .ref maa, .ref mab, .ref mba, .ref mbb])), (ms, .inl (cs 0, 288, .inl freshS)), (msm, .inl (cs 0, 2, .inl (smF2 a0 (nI 1)))), (mst, .inl (cs 5, 2, .inr (.inr (.inr (.inr fst))))), (st1, .inl (cs 0, 96048, .inl (cpF freshS q1 48))), (mtb, .inl (cs 5, 2, .inr (.inr (.inr (.inr ftb))))), (tb1, .inl (cs 0, 8192, .inl (upd (fun _ => nI 0) 965 (nI 1)))), (mti, .inl (cs 6, 2, .inr (.inr (.inr (.inr fti))))), (ti1, .inl (cs 1, 2001, .inr (.inl (vp_updL u1 0 (lN (ww * 4))))))] H := hP
  replace hD : va_D A [(ti0, .inl (cs 1, 2001, .inr (.inl u0))), (st0, .inl (cs 0, 96048, .inl q0)), (hm, .inr (12, [.ref ms, .ref mkp, .int (nI 0), .ref mtr, .int (nI 4), .int (nI 2), .int (nI 2), .int (nI 3), .int (nI 2), .int (nI 1), .ref mas, .int (nI 0), .int (nI 0), .int (nI 0), .ref mso, .ref mon, .ref mot, .ref man, .int (nI 0), .int (nI 0), .ref mst, .ref msm, .ref mtb, .ref mti, .ref mfr, .ref mbn, .ref mbs, .ref mde, .int (nI 0), .int (nI 0), .int (nI 0), .int (nI 0), .long 0, .long 0, .ref maa, .ref mab, .ref mba, .ref mbb])), (ms, .inl (cs 0, 288, .inl freshS)), (msm, .inl (cs 0, 2, .inl (smF2 a0 (nI 1)))), (mst, .inl (cs 5, 2, .inr (.inr (.inr (.inr fst))))), (st1, .inl (cs 0, 96048, .inl (cpF freshS q1 48))), (mtb, .inl (cs 5, 2, .inr (.inr (.inr (.inr ftb))))), (tb1, .inl (cs 0, 8192, .inl (upd (fun _ => nI 0) 965 (nI 1)))), (mti, .inl (cs 6, 2, .inr (.inr (.inr (.inr fti))))), (ti1, .inl (cs 1, 2001, .inr (.inl (vp_updL u1 0 (lN (ww * 4))))))] := hD
  subst hw_r_81
  refine lv_istore (lv' := [(5, .int (nI 0)), (4, .int (nI 9)), (3, .int (nI 1)), (0, .ref hm), (1, .int (nI 0)), (2, .int (nI 0))]) hx hb dX12_spreads_77 hl (by decide) rfl ?_
  clear hl
  try clear ls
  intro ls hl
  refine lv_iload hx hb dX12_spreads_79 (lv_at hl 0 rfl) ?_
  refine lv_if_ge (tgt := 86) hx hb dX12_spreads_81 (by decide) (fun _ => ?_) (fun c => absurd (by decide) c)
  refine lv_aload_n hx hb dX12_spreads_86 rfl (lv_at hl 3 rfl) ?_
  refine xget C hP 2 rfl rfl zuX12 23 (by decide) zw5_236 rfl dX12_spreads_87 ?_
  refine lv_iconst (v := nI 1) hx hb dX12_spreads_90 (by decide) ?_
  refine lv_iload_n hx hb dX12_spreads_91 rfl (lv_at hl 4 rfl) ?_
  refine lv_isub hx hb dX12_spreads_92 ?_
  refine lv_topi (nm_r (e' := nI 1) (by decide) ?_)
  refine xaald C hP 9 6 rfl rfl rfl 1 rfl (by decide) (by decide) ht1 dX12_spreads_93 ?_
  refine lv_iload hx hb dX12_spreads_94 (lv_at hl 0 rfl) ?_
  refine lv_dup2_11 hx hb dX12_spreads_96 rfl rfl ?_
  refine xlald C hP 10 rfl 0 rfl (by decide) (by decide) dX12_spreads_97 ?_
  refine lv_topl (nm_r (e' := lN (ww * 4)) (upL_0 _ _) ?_)
  refine lv_aload_n hx hb dX12_spreads_98 rfl (lv_at hl 3 rfl) ?_
  refine xget C hP 2 rfl rfl zuX12 23 (by decide) zw5_236 rfl dX12_spreads_99 ?_
  refine lv_iload_n hx hb dX12_spreads_102 rfl (lv_at hl 4 rfl) ?_
  refine xaald C hP 9 6 rfl rfl rfl 0 rfl (by decide) (by decide) ht0 dX12_spreads_103 ?_
  refine lv_iload_n hx hb dX12_spreads_104 rfl (lv_at hl 5 rfl) ?_
  refine xlald C hP 0 rfl 0 rfl (by decide) (by decide) dX12_spreads_105 ?_
  refine lv_topl (nm_r (e' := lN ww) hw ?_)
  refine lv_ladd hx hb dX12_spreads_106 ?_
  refine lv_topl (nm_r (e' := lN (ww * 5)) (lN_a ww 4) ?_)
  refine xlast C hP hD hS 10 rfl 0 rfl (by decide) (by decide) dX12_spreads_107 ?_
  clear hP hD hS
  try clear locs
  try clear H
  intro H locs hP hD hS
  replace hP : va_P D vwCl [(ti0, .inl (cs 1, 2001, .inr (.inl u0))), (st0, .inl (cs 0, 96048, .inl q0)), (hm, .inr (12, [.ref ms, .ref mkp, .int (nI 0), .ref mtr, .int (nI 4), .int (nI 2), .int (nI 2), .int (nI 3), .int (nI 2), .int (nI 1), .ref mas, .int (nI 0), .int (nI 0), .int (nI 0), .ref mso, .ref mon, .ref mot, .ref man, .int (nI 0), .int (nI 0), .ref mst, .ref msm, .ref mtb, .ref mti, .ref mfr, .ref mbn, .ref mbs, .ref mde, .int (nI 0), .int (nI 0), .int (nI 0), .int (nI 0), .long 0, .long 0, .ref maa, .ref mab, .ref mba, .ref mbb])), (ms, .inl (cs 0, 288, .inl freshS)), (msm, .inl (cs 0, 2, .inl (smF2 a0 (nI 1)))), (mst, .inl (cs 5, 2, .inr (.inr (.inr (.inr fst))))), (st1, .inl (cs 0, 96048, .inl (cpF freshS q1 48))), (mtb, .inl (cs 5, 2, .inr (.inr (.inr (.inr ftb))))), (tb1, .inl (cs 0, 8192, .inl (upd (fun _ => nI 0) 965 (nI 1)))), (mti, .inl (cs 6, 2, .inr (.inr (.inr (.inr fti))))), (ti1, .inl (cs 1, 2001, .inr (.inl (vp_updL (vp_updL u1 0 (lN (ww * 4))) 0 (lN (ww * 5))))))] H := hP
  replace hD : va_D A [(ti0, .inl (cs 1, 2001, .inr (.inl u0))), (st0, .inl (cs 0, 96048, .inl q0)), (hm, .inr (12, [.ref ms, .ref mkp, .int (nI 0), .ref mtr, .int (nI 4), .int (nI 2), .int (nI 2), .int (nI 3), .int (nI 2), .int (nI 1), .ref mas, .int (nI 0), .int (nI 0), .int (nI 0), .ref mso, .ref mon, .ref mot, .ref man, .int (nI 0), .int (nI 0), .ref mst, .ref msm, .ref mtb, .ref mti, .ref mfr, .ref mbn, .ref mbs, .ref mde, .int (nI 0), .int (nI 0), .int (nI 0), .int (nI 0), .long 0, .long 0, .ref maa, .ref mab, .ref mba, .ref mbb])), (ms, .inl (cs 0, 288, .inl freshS)), (msm, .inl (cs 0, 2, .inl (smF2 a0 (nI 1)))), (mst, .inl (cs 5, 2, .inr (.inr (.inr (.inr fst))))), (st1, .inl (cs 0, 96048, .inl (cpF freshS q1 48))), (mtb, .inl (cs 5, 2, .inr (.inr (.inr (.inr ftb))))), (tb1, .inl (cs 0, 8192, .inl (upd (fun _ => nI 0) 965 (nI 1)))), (mti, .inl (cs 6, 2, .inr (.inr (.inr (.inr fti))))), (ti1, .inl (cs 1, 2001, .inr (.inl (vp_updL (vp_updL u1 0 (lN (ww * 4))) 0 (lN (ww * 5))))))] := hD
  have hPD := xcongl (q0 := 10) (vp_updL u1 0 (lN (ww * 5))) hP hD rfl (fun j hj => upL_1 u1 _ _ j)
  clear hP hD
  obtain ⟨hP, hD⟩ := hPD
  replace hP : va_P D vwCl [(ti0, .inl (cs 1, 2001, .inr (.inl u0))), (st0, .inl (cs 0, 96048, .inl q0)), (hm, .inr (12, [.ref ms, .ref mkp, .int (nI 0), .ref mtr, .int (nI 4), .int (nI 2), .int (nI 2), .int (nI 3), .int (nI 2), .int (nI 1), .ref mas, .int (nI 0), .int (nI 0), .int (nI 0), .ref mso, .ref mon, .ref mot, .ref man, .int (nI 0), .int (nI 0), .ref mst, .ref msm, .ref mtb, .ref mti, .ref mfr, .ref mbn, .ref mbs, .ref mde, .int (nI 0), .int (nI 0), .int (nI 0), .int (nI 0), .long 0, .long 0, .ref maa, .ref mab, .ref mba, .ref mbb])), (ms, .inl (cs 0, 288, .inl freshS)), (msm, .inl (cs 0, 2, .inl (smF2 a0 (nI 1)))), (mst, .inl (cs 5, 2, .inr (.inr (.inr (.inr fst))))), (st1, .inl (cs 0, 96048, .inl (cpF freshS q1 48))), (mtb, .inl (cs 5, 2, .inr (.inr (.inr (.inr ftb))))), (tb1, .inl (cs 0, 8192, .inl (upd (fun _ => nI 0) 965 (nI 1)))), (mti, .inl (cs 6, 2, .inr (.inr (.inr (.inr fti))))), (ti1, .inl (cs 1, 2001, .inr (.inl (vp_updL u1 0 (lN (ww * 5))))))] H := hP
  replace hD : va_D A [(ti0, .inl (cs 1, 2001, .inr (.inl u0))), (st0, .inl (cs 0, 96048, .inl q0)), (hm, .inr (12, [.ref ms, .ref mkp, .int (nI 0), .ref mtr, .int (nI 4), .int (nI 2), .int (nI 2), .int (nI 3), .int (nI 2), .int (nI 1), .ref mas, .int (nI 0), .int (nI 0), .int (nI 0), .ref mso, .ref mon, .ref mot, .ref man, .int (nI 0), .int (nI 0), .ref mst, .ref msm, .ref mtb, .ref mti, .ref mfr, .ref mbn, .ref mbs, .ref mde, .int (nI 0), .int (nI 0), .int (nI 0), .int (nI 0), .long 0, .long 0, .ref maa, .ref mab, .ref mba, .ref mbb])), (ms, .inl (cs 0, 288, .inl freshS)), (msm, .inl (cs 0, 2, .inl (smF2 a0 (nI 1)))), (mst, .inl (cs 5, 2, .inr (.inr (.inr (.inr fst))))), (st1, .inl (cs 0, 96048, .inl (cpF freshS q1 48))), (mtb, .inl (cs 5, 2, .inr (.inr (.inr (.inr ftb))))), (tb1, .inl (cs 0, 8192, .inl (upd (fun _ => nI 0) 965 (nI 1)))), (mti, .inl (cs 6, 2, .inr (.inr (.inr (.inr fti))))), (ti1, .inl (cs 1, 2001, .inr (.inl (vp_updL u1 0 (lN (ww * 5))))))] := hD
  refine lv_iinc (v := nI 10) (lv' := [(4, .int (nI 10)), (5, .int (nI 0)), (3, .int (nI 1)), (0, .ref hm), (1, .int (nI 0)), (2, .int (nI 0))]) hx hb dX12_spreads_108 hl (k := 1) rfl (by decide) (by decide) rfl ?_
  clear hl
  try clear ls
  intro ls hl
  refine lv_goto (tgt := 13) hx hb dX12_spreads_111 (by decide) ?_
  refine lv_iload hx hb dX12_spreads_13 (lv_at hl 0 rfl) ?_
  refine lv_iconst (v := nI 1) hx hb dX12_spreads_15 (by decide) ?_
  refine lv_aload_n hx hb dX12_spreads_16 rfl (lv_at hl 3 rfl) ?_
  refine xget C hP 2 rfl rfl zuX12 4 (by decide) zw5_217 rfl dX12_spreads_17 ?_
  refine lv_ishl hx hb dX12_spreads_20 ?_
  refine lv_topi (nm_r (e' := nI 16) (by decide) ?_)
  refine lv_icmp_ge (tgt := 114) hx hb dX12_spreads_21 (by decide) (fun c => absurd c (by decide)) (fun _ => ?_)
  refine lv_aload_n hx hb dX12_spreads_24 rfl (lv_at hl 3 rfl) ?_
  refine lv_iload_n hx hb dX12_spreads_25 rfl (lv_at hl 2 rfl) ?_
  refine lv_iload hx hb dX12_spreads_26 (lv_at hl 0 rfl) ?_
  refine xi (wr := [(ti0, .inl (cs 1, 2001, .inr (.inl u0))), (st0, .inl (cs 0, 96048, .inl q0)), (ms, .inl (cs 0, 288, .inl freshS)), (msm, .inl (cs 0, 2, .inl (smF2 a0 (nI 1)))), (mst, .inl (cs 5, 2, .inr (.inr (.inr (.inr fst))))), (st1, .inl (cs 0, 96048, .inl (cpF freshS q1 48))), (mtb, .inl (cs 5, 2, .inr (.inr (.inr (.inr ftb))))), (tb1, .inl (cs 0, 8192, .inl (upd (fun _ => nI 0) 965 (nI 1)))), (mti, .inl (cs 6, 2, .inr (.inr (.inr (.inr fti))))), (ti1, .inl (cs 1, 2001, .inr (.inl (vp_updL u1 0 (lN (ww * 5))))))]) (xV (As := [.int (nI 1), .int (nI 10)]) (rest := []) C (c_X12_isSample_x l D cs hm ms mkp mtr mas mso mon mot man mst msm mtb mti mfr mbn mbs mde maa mab mba mbb 1 10 (by decide) (by decide)) kX12_139 hP hD [2] rfl (by decide +kernel) 0 rfl rfl rfl ⟨Nat.le_of_ble_eq_true rfl, Nat.le_of_ble_eq_true rfl⟩ rfl hl.1 rfl (Nat.le_of_ble_eq_true rfl) dX12_spreads_28 ⟨Nat.le_of_ble_eq_true rfl, Nat.le_of_ble_eq_true rfl⟩) hP hD hS hA [2] [0, 1, 3, 4, 5, 6, 7, 8, 9, 10] rfl rfl (by decide +kernel) (by decide +kernel) ?_
  clear hP hD hS
  try clear locs
  try clear H
  intro r_83 u_84 H locs hw_r_83 hP hD hS
  have hw_r_83 : r_83 = smB 1 10 := hw_r_83
  refine W.widen (k := 0) (n := 0) (Nat.le_of_ble_eq_true rfl) (Nat.le_of_ble_eq_true rfl) ?_
  replace hP : va_P D vwCl [(ti0, .inl (cs 1, 2001, .inr (.inl u0))), (st0, .inl (cs 0, 96048, .inl q0)), (ms, .inl (cs 0, 288, .inl freshS)), (msm, .inl (cs 0, 2, .inl (smF2 a0 (nI 1)))), (mst, .inl (cs 5, 2, .inr (.inr (.inr (.inr fst))))), (st1, .inl (cs 0, 96048, .inl (cpF freshS q1 48))), (mtb, .inl (cs 5, 2, .inr (.inr (.inr (.inr ftb))))), (tb1, .inl (cs 0, 8192, .inl (upd (fun _ => nI 0) 965 (nI 1)))), (mti, .inl (cs 6, 2, .inr (.inr (.inr (.inr fti))))), (ti1, .inl (cs 1, 2001, .inr (.inl (vp_updL u1 0 (lN (ww * 5)))))), (hm, .inr (12, [.ref ms, .ref mkp, .int (nI 0), .ref mtr, .int (nI 4), .int (nI 2), .int (nI 2), .int (nI 3), .int (nI 2), .int (nI 1), .ref mas, .int (nI 0), .int (nI 0), .int (nI 0), .ref mso, .ref mon, .ref mot, .ref man, .int (nI 0), .int (nI 0), .ref mst, .ref msm, .ref mtb, .ref mti, .ref mfr, .ref mbn, .ref mbs, .ref mde, .int (nI 0), .int (nI 0), .int (nI 0), .int (nI 0), .long 0, .long 0, .ref maa, .ref mab, .ref mba, .ref mbb]))] H := hP
  replace hD : va_D A [(ti0, .inl (cs 1, 2001, .inr (.inl u0))), (st0, .inl (cs 0, 96048, .inl q0)), (ms, .inl (cs 0, 288, .inl freshS)), (msm, .inl (cs 0, 2, .inl (smF2 a0 (nI 1)))), (mst, .inl (cs 5, 2, .inr (.inr (.inr (.inr fst))))), (st1, .inl (cs 0, 96048, .inl (cpF freshS q1 48))), (mtb, .inl (cs 5, 2, .inr (.inr (.inr (.inr ftb))))), (tb1, .inl (cs 0, 8192, .inl (upd (fun _ => nI 0) 965 (nI 1)))), (mti, .inl (cs 6, 2, .inr (.inr (.inr (.inr fti))))), (ti1, .inl (cs 1, 2001, .inr (.inl (vp_updL u1 0 (lN (ww * 5)))))), (hm, .inr (12, [.ref ms, .ref mkp, .int (nI 0), .ref mtr, .int (nI 4), .int (nI 2), .int (nI 2), .int (nI 3), .int (nI 2), .int (nI 1), .ref mas, .int (nI 0), .int (nI 0), .int (nI 0), .ref mso, .ref mon, .ref mot, .ref man, .int (nI 0), .int (nI 0), .ref mst, .ref msm, .ref mtb, .ref mti, .ref mfr, .ref mbn, .ref mbs, .ref mde, .int (nI 0), .int (nI 0), .int (nI 0), .int (nI 0), .long 0, .long 0, .ref maa, .ref mab, .ref mba, .ref mbb]))] := hD
  obtain rfl : r_83 = nI 0 := by rw [hw_r_83]; decide +kernel
  refine lv_if_ne (tgt := 37) hx hb dX12_spreads_31 (by decide) (fun c => absurd (by decide) c) (fun _ => ?_)
  refine lv_goto (tgt := 108) hx hb dX12_spreads_34 (by decide) ?_
  refine lv_iinc (v := nI 11) (lv' := [(4, .int (nI 11)), (5, .int (nI 0)), (3, .int (nI 1)), (0, .ref hm), (1, .int (nI 0)), (2, .int (nI 0))]) hx hb dX12_spreads_108 hl (k := 0) rfl (by decide) (by decide) rfl ?_
  clear hl
  try clear ls
  intro ls hl
  refine lv_goto (tgt := 13) hx hb dX12_spreads_111 (by decide) ?_
  refine lv_iload hx hb dX12_spreads_13 (lv_at hl 0 rfl) ?_
  refine lv_iconst (v := nI 1) hx hb dX12_spreads_15 (by decide) ?_
  refine lv_aload_n hx hb dX12_spreads_16 rfl (lv_at hl 3 rfl) ?_
  refine xget C hP 10 rfl rfl zuX12 4 (by decide) zw5_217 rfl dX12_spreads_17 ?_
  refine lv_ishl hx hb dX12_spreads_20 ?_
  refine lv_topi (nm_r (e' := nI 16) (by decide) ?_)
  refine lv_icmp_ge (tgt := 114) hx hb dX12_spreads_21 (by decide) (fun c => absurd c (by decide)) (fun _ => ?_)
  refine lv_aload_n hx hb dX12_spreads_24 rfl (lv_at hl 3 rfl) ?_
  refine lv_iload_n hx hb dX12_spreads_25 rfl (lv_at hl 2 rfl) ?_
  refine lv_iload hx hb dX12_spreads_26 (lv_at hl 0 rfl) ?_
  refine xi (wr := [(ti0, .inl (cs 1, 2001, .inr (.inl u0))), (st0, .inl (cs 0, 96048, .inl q0)), (ms, .inl (cs 0, 288, .inl freshS)), (msm, .inl (cs 0, 2, .inl (smF2 a0 (nI 1)))), (mst, .inl (cs 5, 2, .inr (.inr (.inr (.inr fst))))), (st1, .inl (cs 0, 96048, .inl (cpF freshS q1 48))), (mtb, .inl (cs 5, 2, .inr (.inr (.inr (.inr ftb))))), (tb1, .inl (cs 0, 8192, .inl (upd (fun _ => nI 0) 965 (nI 1)))), (mti, .inl (cs 6, 2, .inr (.inr (.inr (.inr fti))))), (ti1, .inl (cs 1, 2001, .inr (.inl (vp_updL u1 0 (lN (ww * 5))))))]) (xV (As := [.int (nI 1), .int (nI 11)]) (rest := []) C (c_X12_isSample_x l D cs hm ms mkp mtr mas mso mon mot man mst msm mtb mti mfr mbn mbs mde maa mab mba mbb 1 11 (by decide) (by decide)) kX12_139 hP hD [10] rfl (by decide +kernel) 0 rfl rfl rfl ⟨Nat.le_of_ble_eq_true rfl, Nat.le_of_ble_eq_true rfl⟩ rfl hl.1 rfl (Nat.le_of_ble_eq_true rfl) dX12_spreads_28 ⟨Nat.le_of_ble_eq_true rfl, Nat.le_of_ble_eq_true rfl⟩) hP hD hS hA [10] [0, 1, 2, 3, 4, 5, 6, 7, 8, 9] rfl rfl (by decide +kernel) (by decide +kernel) ?_
  clear hP hD hS
  try clear locs
  try clear H
  intro r_85 u_86 H locs hw_r_85 hP hD hS
  have hw_r_85 : r_85 = smB 1 11 := hw_r_85
  refine W.widen (k := 0) (n := 0) (Nat.le_of_ble_eq_true rfl) (Nat.le_of_ble_eq_true rfl) ?_
  replace hP : va_P D vwCl [(ti0, .inl (cs 1, 2001, .inr (.inl u0))), (st0, .inl (cs 0, 96048, .inl q0)), (ms, .inl (cs 0, 288, .inl freshS)), (msm, .inl (cs 0, 2, .inl (smF2 a0 (nI 1)))), (mst, .inl (cs 5, 2, .inr (.inr (.inr (.inr fst))))), (st1, .inl (cs 0, 96048, .inl (cpF freshS q1 48))), (mtb, .inl (cs 5, 2, .inr (.inr (.inr (.inr ftb))))), (tb1, .inl (cs 0, 8192, .inl (upd (fun _ => nI 0) 965 (nI 1)))), (mti, .inl (cs 6, 2, .inr (.inr (.inr (.inr fti))))), (ti1, .inl (cs 1, 2001, .inr (.inl (vp_updL u1 0 (lN (ww * 5)))))), (hm, .inr (12, [.ref ms, .ref mkp, .int (nI 0), .ref mtr, .int (nI 4), .int (nI 2), .int (nI 2), .int (nI 3), .int (nI 2), .int (nI 1), .ref mas, .int (nI 0), .int (nI 0), .int (nI 0), .ref mso, .ref mon, .ref mot, .ref man, .int (nI 0), .int (nI 0), .ref mst, .ref msm, .ref mtb, .ref mti, .ref mfr, .ref mbn, .ref mbs, .ref mde, .int (nI 0), .int (nI 0), .int (nI 0), .int (nI 0), .long 0, .long 0, .ref maa, .ref mab, .ref mba, .ref mbb]))] H := hP
  replace hD : va_D A [(ti0, .inl (cs 1, 2001, .inr (.inl u0))), (st0, .inl (cs 0, 96048, .inl q0)), (ms, .inl (cs 0, 288, .inl freshS)), (msm, .inl (cs 0, 2, .inl (smF2 a0 (nI 1)))), (mst, .inl (cs 5, 2, .inr (.inr (.inr (.inr fst))))), (st1, .inl (cs 0, 96048, .inl (cpF freshS q1 48))), (mtb, .inl (cs 5, 2, .inr (.inr (.inr (.inr ftb))))), (tb1, .inl (cs 0, 8192, .inl (upd (fun _ => nI 0) 965 (nI 1)))), (mti, .inl (cs 6, 2, .inr (.inr (.inr (.inr fti))))), (ti1, .inl (cs 1, 2001, .inr (.inl (vp_updL u1 0 (lN (ww * 5)))))), (hm, .inr (12, [.ref ms, .ref mkp, .int (nI 0), .ref mtr, .int (nI 4), .int (nI 2), .int (nI 2), .int (nI 3), .int (nI 2), .int (nI 1), .ref mas, .int (nI 0), .int (nI 0), .int (nI 0), .ref mso, .ref mon, .ref mot, .ref man, .int (nI 0), .int (nI 0), .ref mst, .ref msm, .ref mtb, .ref mti, .ref mfr, .ref mbn, .ref mbs, .ref mde, .int (nI 0), .int (nI 0), .int (nI 0), .int (nI 0), .long 0, .long 0, .ref maa, .ref mab, .ref mba, .ref mbb]))] := hD
  obtain rfl : r_85 = nI 0 := by rw [hw_r_85]; decide +kernel
  refine lv_if_ne (tgt := 37) hx hb dX12_spreads_31 (by decide) (fun c => absurd (by decide) c) (fun _ => ?_)
  refine lv_goto (tgt := 108) hx hb dX12_spreads_34 (by decide) ?_
  refine lv_iinc (v := nI 12) (lv' := [(4, .int (nI 12)), (5, .int (nI 0)), (3, .int (nI 1)), (0, .ref hm), (1, .int (nI 0)), (2, .int (nI 0))]) hx hb dX12_spreads_108 hl (k := 0) rfl (by decide) (by decide) rfl ?_
  clear hl
  try clear ls
  intro ls hl
  refine lv_goto (tgt := 13) hx hb dX12_spreads_111 (by decide) ?_
  refine lv_iload hx hb dX12_spreads_13 (lv_at hl 0 rfl) ?_
  refine lv_iconst (v := nI 1) hx hb dX12_spreads_15 (by decide) ?_
  refine lv_aload_n hx hb dX12_spreads_16 rfl (lv_at hl 3 rfl) ?_
  refine xget C hP 10 rfl rfl zuX12 4 (by decide) zw5_217 rfl dX12_spreads_17 ?_
  refine lv_ishl hx hb dX12_spreads_20 ?_
  refine lv_topi (nm_r (e' := nI 16) (by decide) ?_)
  refine lv_icmp_ge (tgt := 114) hx hb dX12_spreads_21 (by decide) (fun c => absurd c (by decide)) (fun _ => ?_)
  refine lv_aload_n hx hb dX12_spreads_24 rfl (lv_at hl 3 rfl) ?_
  refine lv_iload_n hx hb dX12_spreads_25 rfl (lv_at hl 2 rfl) ?_
  refine lv_iload hx hb dX12_spreads_26 (lv_at hl 0 rfl) ?_
  refine xi (wr := [(ti0, .inl (cs 1, 2001, .inr (.inl u0))), (st0, .inl (cs 0, 96048, .inl q0)), (ms, .inl (cs 0, 288, .inl freshS)), (msm, .inl (cs 0, 2, .inl (smF2 a0 (nI 1)))), (mst, .inl (cs 5, 2, .inr (.inr (.inr (.inr fst))))), (st1, .inl (cs 0, 96048, .inl (cpF freshS q1 48))), (mtb, .inl (cs 5, 2, .inr (.inr (.inr (.inr ftb))))), (tb1, .inl (cs 0, 8192, .inl (upd (fun _ => nI 0) 965 (nI 1)))), (mti, .inl (cs 6, 2, .inr (.inr (.inr (.inr fti))))), (ti1, .inl (cs 1, 2001, .inr (.inl (vp_updL u1 0 (lN (ww * 5))))))]) (xV (As := [.int (nI 1), .int (nI 12)]) (rest := []) C (c_X12_isSample_x l D cs hm ms mkp mtr mas mso mon mot man mst msm mtb mti mfr mbn mbs mde maa mab mba mbb 1 12 (by decide) (by decide)) kX12_139 hP hD [10] rfl (by decide +kernel) 0 rfl rfl rfl ⟨Nat.le_of_ble_eq_true rfl, Nat.le_of_ble_eq_true rfl⟩ rfl hl.1 rfl (Nat.le_of_ble_eq_true rfl) dX12_spreads_28 ⟨Nat.le_of_ble_eq_true rfl, Nat.le_of_ble_eq_true rfl⟩) hP hD hS hA [10] [0, 1, 2, 3, 4, 5, 6, 7, 8, 9] rfl rfl (by decide +kernel) (by decide +kernel) ?_
  clear hP hD hS
  try clear locs
  try clear H
  intro r_87 u_88 H locs hw_r_87 hP hD hS
  have hw_r_87 : r_87 = smB 1 12 := hw_r_87
  refine W.widen (k := 0) (n := 0) (Nat.le_of_ble_eq_true rfl) (Nat.le_of_ble_eq_true rfl) ?_
  replace hP : va_P D vwCl [(ti0, .inl (cs 1, 2001, .inr (.inl u0))), (st0, .inl (cs 0, 96048, .inl q0)), (ms, .inl (cs 0, 288, .inl freshS)), (msm, .inl (cs 0, 2, .inl (smF2 a0 (nI 1)))), (mst, .inl (cs 5, 2, .inr (.inr (.inr (.inr fst))))), (st1, .inl (cs 0, 96048, .inl (cpF freshS q1 48))), (mtb, .inl (cs 5, 2, .inr (.inr (.inr (.inr ftb))))), (tb1, .inl (cs 0, 8192, .inl (upd (fun _ => nI 0) 965 (nI 1)))), (mti, .inl (cs 6, 2, .inr (.inr (.inr (.inr fti))))), (ti1, .inl (cs 1, 2001, .inr (.inl (vp_updL u1 0 (lN (ww * 5)))))), (hm, .inr (12, [.ref ms, .ref mkp, .int (nI 0), .ref mtr, .int (nI 4), .int (nI 2), .int (nI 2), .int (nI 3), .int (nI 2), .int (nI 1), .ref mas, .int (nI 0), .int (nI 0), .int (nI 0), .ref mso, .ref mon, .ref mot, .ref man, .int (nI 0), .int (nI 0), .ref mst, .ref msm, .ref mtb, .ref mti, .ref mfr, .ref mbn, .ref mbs, .ref mde, .int (nI 0), .int (nI 0), .int (nI 0), .int (nI 0), .long 0, .long 0, .ref maa, .ref mab, .ref mba, .ref mbb]))] H := hP
  replace hD : va_D A [(ti0, .inl (cs 1, 2001, .inr (.inl u0))), (st0, .inl (cs 0, 96048, .inl q0)), (ms, .inl (cs 0, 288, .inl freshS)), (msm, .inl (cs 0, 2, .inl (smF2 a0 (nI 1)))), (mst, .inl (cs 5, 2, .inr (.inr (.inr (.inr fst))))), (st1, .inl (cs 0, 96048, .inl (cpF freshS q1 48))), (mtb, .inl (cs 5, 2, .inr (.inr (.inr (.inr ftb))))), (tb1, .inl (cs 0, 8192, .inl (upd (fun _ => nI 0) 965 (nI 1)))), (mti, .inl (cs 6, 2, .inr (.inr (.inr (.inr fti))))), (ti1, .inl (cs 1, 2001, .inr (.inl (vp_updL u1 0 (lN (ww * 5)))))), (hm, .inr (12, [.ref ms, .ref mkp, .int (nI 0), .ref mtr, .int (nI 4), .int (nI 2), .int (nI 2), .int (nI 3), .int (nI 2), .int (nI 1), .ref mas, .int (nI 0), .int (nI 0), .int (nI 0), .ref mso, .ref mon, .ref mot, .ref man, .int (nI 0), .int (nI 0), .ref mst, .ref msm, .ref mtb, .ref mti, .ref mfr, .ref mbn, .ref mbs, .ref mde, .int (nI 0), .int (nI 0), .int (nI 0), .int (nI 0), .long 0, .long 0, .ref maa, .ref mab, .ref mba, .ref mbb]))] := hD
  obtain rfl : r_87 = nI 1 := by rw [hw_r_87]; decide +kernel
  refine lv_if_ne (tgt := 37) hx hb dX12_spreads_31 (by decide) (fun _ => ?_) (fun c => absurd c (by decide))
  refine lv_aload_n hx hb dX12_spreads_37 rfl (lv_at hl 3 rfl) ?_
  refine lv_iload_n hx hb dX12_spreads_38 rfl (lv_at hl 4 rfl) ?_
  refine lv_iload_n hx hb dX12_spreads_39 rfl (lv_at hl 5 rfl) ?_
  refine xv (wr := [(ti0, .inl (cs 1, 2001, .inr (.inl u0))), (msm, .inl (cs 0, 2, .inl (smF2 a0 (nI 1)))), (st1, .inl (cs 0, 96048, .inl (cpF freshS q1 48))), (mtb, .inl (cs 5, 2, .inr (.inr (.inr (.inr ftb))))), (tb1, .inl (cs 0, 8192, .inl (upd (fun _ => nI 0) 965 (nI 1)))), (mti, .inl (cs 6, 2, .inr (.inr (.inr (.inr fti))))), (ti1, .inl (cs 1, 2001, .inr (.inl (vp_updL u1 0 (lN (ww * 5))))))]) (xV (As := [.int (nI 0), .int (nI 0)]) (rest := []) C (c_X12_brings_0 l D cs hm ms mkp mtr mas mso mon mot man mst msm mtb mti mfr mbn mbs mde maa mab mba mbb st0 fst q0 hf0 hq) kX12_203 hP hD [10, 2, 4, 1] rfl (by decide +kernel) 0 rfl rfl rfl ⟨Nat.le_of_ble_eq_true rfl, Nat.le_of_ble_eq_true rfl⟩ rfl hl.1 rfl (Nat.le_of_ble_eq_true rfl) dX12_spreads_40 ⟨Nat.le_of_ble_eq_true rfl, Nat.le_of_ble_eq_true rfl⟩) hP hD hS hA [10, 2, 4, 1] [0, 3, 5, 6, 7, 8, 9] rfl rfl (by decide +kernel) (by decide +kernel) ?_
  clear hP hD hS
  try clear locs
  try clear H
  intro u_90 H locs hw_r_89 hP hD hS
  refine W.widen (k := 0) (n := 0) (Nat.le_of_ble_eq_true rfl) (Nat.le_of_ble_eq_true rfl) ?_
  replace hP : va_P D vwCl [(ti0, .inl (cs 1, 2001, .inr (.inl u0))), (msm, .inl (cs 0, 2, .inl (smF2 a0 (nI 1)))), (st1, .inl (cs 0, 96048, .inl (cpF freshS q1 48))), (mtb, .inl (cs 5, 2, .inr (.inr (.inr (.inr ftb))))), (tb1, .inl (cs 0, 8192, .inl (upd (fun _ => nI 0) 965 (nI 1)))), (mti, .inl (cs 6, 2, .inr (.inr (.inr (.inr fti))))), (ti1, .inl (cs 1, 2001, .inr (.inl (vp_updL u1 0 (lN (ww * 5)))))), (hm, .inr (12, [.ref ms, .ref mkp, .int (nI 0), .ref mtr, .int (nI 4), .int (nI 2), .int (nI 2), .int (nI 3), .int (nI 2), .int (nI 1), .ref mas, .int (nI 0), .int (nI 0), .int (nI 0), .ref mso, .ref mon, .ref mot, .ref man, .int (nI 0), .int (nI 0), .ref mst, .ref msm, .ref mtb, .ref mti, .ref mfr, .ref mbn, .ref mbs, .ref mde, .int (nI 0), .int (nI 0), .int (nI 0), .int (nI 0), .long 0, .long 0, .ref maa, .ref mab, .ref mba, .ref mbb])), (ms, .inl (cs 0, 288, .inl freshS)), (mst, .inl (cs 5, 2, .inr (.inr (.inr (.inr fst))))), (st0, .inl (cs 0, 96048, .inl q0))] H := hP
  replace hD : va_D A [(ti0, .inl (cs 1, 2001, .inr (.inl u0))), (msm, .inl (cs 0, 2, .inl (smF2 a0 (nI 1)))), (st1, .inl (cs 0, 96048, .inl (cpF freshS q1 48))), (mtb, .inl (cs 5, 2, .inr (.inr (.inr (.inr ftb))))), (tb1, .inl (cs 0, 8192, .inl (upd (fun _ => nI 0) 965 (nI 1)))), (mti, .inl (cs 6, 2, .inr (.inr (.inr (.inr fti))))), (ti1, .inl (cs 1, 2001, .inr (.inl (vp_updL u1 0 (lN (ww * 5)))))), (hm, .inr (12, [.ref ms, .ref mkp, .int (nI 0), .ref mtr, .int (nI 4), .int (nI 2), .int (nI 2), .int (nI 3), .int (nI 2), .int (nI 1), .ref mas, .int (nI 0), .int (nI 0), .int (nI 0), .ref mso, .ref mon, .ref mot, .ref man, .int (nI 0), .int (nI 0), .ref mst, .ref msm, .ref mtb, .ref mti, .ref mfr, .ref mbn, .ref mbs, .ref mde, .int (nI 0), .int (nI 0), .int (nI 0), .int (nI 0), .long 0, .long 0, .ref maa, .ref mab, .ref mba, .ref mbb])), (ms, .inl (cs 0, 288, .inl freshS)), (mst, .inl (cs 5, 2, .inr (.inr (.inr (.inr fst))))), (st0, .inl (cs 0, 96048, .inl q0))] := hD
  refine lv_aload_n hx hb dX12_spreads_43 rfl (lv_at hl 3 rfl) ?_
  refine lv_iload_n hx hb dX12_spreads_44 rfl (lv_at hl 2 rfl) ?_
  refine xi (wr := [(ti0, .inl (cs 1, 2001, .inr (.inl u0))), (msm, .inl (cs 0, 2, .inl (smF2 a0 (nI 1)))), (st1, .inl (cs 0, 96048, .inl (cpF freshS q1 48))), (mtb, .inl (cs 5, 2, .inr (.inr (.inr (.inr ftb))))), (tb1, .inl (cs 0, 8192, .inl (upd (fun _ => nI 0) 965 (nI 1)))), (mti, .inl (cs 6, 2, .inr (.inr (.inr (.inr fti))))), (ti1, .inl (cs 1, 2001, .inr (.inl (vp_updL u1 0 (lN (ww * 5)))))), (mst, .inl (cs 5, 2, .inr (.inr (.inr (.inr fst))))), (st0, .inl (cs 0, 96048, .inl q0))]) (xV (As := [.int (nI 1)]) (rest := []) C (c_X12_canAsk_z l D cs hm ms mkp mtr mas mso mon mot man mst msm mtb mti mfr mbn mbs mde maa mab mba mbb 1 (by decide)) kX12_142 hP hD [7, 8] rfl (by decide +kernel) 0 rfl rfl rfl ⟨Nat.le_of_ble_eq_true rfl, Nat.le_of_ble_eq_true rfl⟩ rfl hl.1 rfl (Nat.le_of_ble_eq_true rfl) dX12_spreads_45 ⟨Nat.le_of_ble_eq_true rfl, Nat.le_of_ble_eq_true rfl⟩) hP hD hS hA [7, 8] [0, 1, 2, 3, 4, 5, 6, 9, 10] rfl rfl (by decide +kernel) (by decide +kernel) ?_
  clear hP hD hS
  try clear locs
  try clear H
  intro r_91 u_92 H locs hw_r_91 hP hD hS
  have hw_r_91 : r_91 = nI 0 := hw_r_91
  refine W.widen (k := 0) (n := 0) (Nat.le_of_ble_eq_true rfl) (Nat.le_of_ble_eq_true rfl) ?_
  replace hP : va_P D vwCl [(ti0, .inl (cs 1, 2001, .inr (.inl u0))), (msm, .inl (cs 0, 2, .inl (smF2 a0 (nI 1)))), (st1, .inl (cs 0, 96048, .inl (cpF freshS q1 48))), (mtb, .inl (cs 5, 2, .inr (.inr (.inr (.inr ftb))))), (tb1, .inl (cs 0, 8192, .inl (upd (fun _ => nI 0) 965 (nI 1)))), (mti, .inl (cs 6, 2, .inr (.inr (.inr (.inr fti))))), (ti1, .inl (cs 1, 2001, .inr (.inl (vp_updL u1 0 (lN (ww * 5)))))), (mst, .inl (cs 5, 2, .inr (.inr (.inr (.inr fst))))), (st0, .inl (cs 0, 96048, .inl q0)), (hm, .inr (12, [.ref ms, .ref mkp, .int (nI 0), .ref mtr, .int (nI 4), .int (nI 2), .int (nI 2), .int (nI 3), .int (nI 2), .int (nI 1), .ref mas, .int (nI 0), .int (nI 0), .int (nI 0), .ref mso, .ref mon, .ref mot, .ref man, .int (nI 0), .int (nI 0), .ref mst, .ref msm, .ref mtb, .ref mti, .ref mfr, .ref mbn, .ref mbs, .ref mde, .int (nI 0), .int (nI 0), .int (nI 0), .int (nI 0), .long 0, .long 0, .ref maa, .ref mab, .ref mba, .ref mbb])), (ms, .inl (cs 0, 288, .inl freshS))] H := hP
  replace hD : va_D A [(ti0, .inl (cs 1, 2001, .inr (.inl u0))), (msm, .inl (cs 0, 2, .inl (smF2 a0 (nI 1)))), (st1, .inl (cs 0, 96048, .inl (cpF freshS q1 48))), (mtb, .inl (cs 5, 2, .inr (.inr (.inr (.inr ftb))))), (tb1, .inl (cs 0, 8192, .inl (upd (fun _ => nI 0) 965 (nI 1)))), (mti, .inl (cs 6, 2, .inr (.inr (.inr (.inr fti))))), (ti1, .inl (cs 1, 2001, .inr (.inl (vp_updL u1 0 (lN (ww * 5)))))), (mst, .inl (cs 5, 2, .inr (.inr (.inr (.inr fst))))), (st0, .inl (cs 0, 96048, .inl q0)), (hm, .inr (12, [.ref ms, .ref mkp, .int (nI 0), .ref mtr, .int (nI 4), .int (nI 2), .int (nI 2), .int (nI 3), .int (nI 2), .int (nI 1), .ref mas, .int (nI 0), .int (nI 0), .int (nI 0), .ref mso, .ref mon, .ref mot, .ref man, .int (nI 0), .int (nI 0), .ref mst, .ref msm, .ref mtb, .ref mti, .ref mfr, .ref mbn, .ref mbs, .ref mde, .int (nI 0), .int (nI 0), .int (nI 0), .int (nI 0), .long 0, .long 0, .ref maa, .ref mab, .ref mba, .ref mbb])), (ms, .inl (cs 0, 288, .inl freshS))] := hD
  subst hw_r_91
  refine lv_if_eq (tgt := 67) hx hb dX12_spreads_48 (by decide) (fun _ => ?_) (fun c => absurd (by decide) c)
  refine lv_aload_n hx hb dX12_spreads_67 rfl (lv_at hl 3 rfl) ?_
  refine lv_iconst (v := nI 1) hx hb dX12_spreads_68 (by decide) ?_
  refine lv_iload_n hx hb dX12_spreads_69 rfl (lv_at hl 4 rfl) ?_
  refine lv_isub hx hb dX12_spreads_70 ?_
  refine lv_topi (nm_r (e' := nI 1) (by decide) ?_)
  refine lv_sipush (v := nI 2000) hx hb dX12_spreads_71 (by decide) ?_
  refine xi (wr := [(ti0, .inl (cs 1, 2001, .inr (.inl u0))), (st0, .inl (cs 0, 96048, .inl q0))]) (xV (As := [.int (nI 1), .int (nI 2000)]) (rest := []) C (c_X12_numberOf_b1 l D cs hm ms mkp mtr mas mso mon mot man mst msm mtb mti mfr mbn mbs mde maa mab mba mbb st1 tb1 ti1 fst ftb fti (smF2 a0 (nI 1)) (cpF freshS q1 48) (upd (fun _ => nI 0) 965 (nI 1)) (vp_updL u1 0 (lN (ww * 5))) hf1 hg ht1 (if_pos rfl) (fun j hj => cpF_lt hj)) kX12_197 hP hD [9, 10, 1, 7, 2, 3, 4, 5, 6] rfl (by decide +kernel) 0 rfl rfl rfl ⟨Nat.le_of_ble_eq_true rfl, Nat.le_of_ble_eq_true rfl⟩ rfl hl.1 rfl (Nat.le_of_ble_eq_true rfl) dX12_spreads_74 ⟨Nat.le_of_ble_eq_true rfl, Nat.le_of_ble_eq_true rfl⟩) hP hD hS hA [9, 10, 1, 7, 2, 3, 4, 5, 6] [0, 8] rfl rfl (by decide +kernel) (by decide +kernel) ?_
  clear hP hD hS
  try clear locs
  try clear H
  intro r_93 u_94 H locs hw_r_93 hP hD hS
  have hw_r_93 : r_93 = nI 0 := hw_r_93
  refine W.widen (k := 0) (n := 0) (Nat.le_of_ble_eq_true rfl) (Nat.le_of_ble_eq_true rfl) ?_
  replace hP : va_P D vwCl [(ti0, .inl (cs 1, 2001, .inr (.inl u0))), (st0, .inl (cs 0, 96048, .inl q0)), (hm, .inr (12, [.ref ms, .ref mkp, .int (nI 0), .ref mtr, .int (nI 4), .int (nI 2), .int (nI 2), .int (nI 3), .int (nI 2), .int (nI 1), .ref mas, .int (nI 0), .int (nI 0), .int (nI 0), .ref mso, .ref mon, .ref mot, .ref man, .int (nI 0), .int (nI 0), .ref mst, .ref msm, .ref mtb, .ref mti, .ref mfr, .ref mbn, .ref mbs, .ref mde, .int (nI 0), .int (nI 0), .int (nI 0), .int (nI 0), .long 0, .long 0, .ref maa, .ref mab, .ref mba, .ref mbb])), (ms, .inl (cs 0, 288, .inl freshS)), (msm, .inl (cs 0, 2, .inl (smF2 a0 (nI 1)))), (mst, .inl (cs 5, 2, .inr (.inr (.inr (.inr fst))))), (st1, .inl (cs 0, 96048, .inl (cpF freshS q1 48))), (mtb, .inl (cs 5, 2, .inr (.inr (.inr (.inr ftb))))), (tb1, .inl (cs 0, 8192, .inl (upd (fun _ => nI 0) 965 (nI 1)))), (mti, .inl (cs 6, 2, .inr (.inr (.inr (.inr fti))))), (ti1, .inl (cs 1, 2001, .inr (.inl (vp_updL u1 0 (lN (ww * 5))))))] H := hP
  replace hD : va_D A [(ti0, .inl (cs 1, 2001, .inr (.inl u0))), (st0, .inl (cs 0, 96048, .inl q0)), (hm, .inr (12, [.ref ms, .ref mkp, .int (nI 0), .ref mtr, .int (nI 4), .int (nI 2), .int (nI 2), .int (nI 3), .int (nI 2), .int (nI 1), .ref mas, .int (nI 0), .int (nI 0), .int (nI 0), .ref mso, .ref mon, .ref mot, .ref man, .int (nI 0), .int (nI 0), .ref mst, .ref msm, .ref mtb, .ref mti, .ref mfr, .ref mbn, .ref mbs, .ref mde, .int (nI 0), .int (nI 0), .int (nI 0), .int (nI 0), .long 0, .long 0, .ref maa, .ref mab, .ref mba, .ref mbb])), (ms, .inl (cs 0, 288, .inl freshS)), (msm, .inl (cs 0, 2, .inl (smF2 a0 (nI 1)))), (mst, .inl (cs 5, 2, .inr (.inr (.inr (.inr fst))))), (st1, .inl (cs 0, 96048, .inl (cpF freshS q1 48))), (mtb, .inl (cs 5, 2, .inr (.inr (.inr (.inr ftb))))), (tb1, .inl (cs 0, 8192, .inl (upd (fun _ => nI 0) 965 (nI 1)))), (mti, .inl (cs 6, 2, .inr (.inr (.inr (.inr fti))))), (ti1, .inl (cs 1, 2001, .inr (.inl (vp_updL u1 0 (lN (ww * 5))))))] := hD
  subst hw_r_93
  refine lv_istore (lv' := [(5, .int (nI 0)), (4, .int (nI 12)), (3, .int (nI 1)), (0, .ref hm), (1, .int (nI 0)), (2, .int (nI 0))]) hx hb dX12_spreads_77 hl (by decide) rfl ?_
  clear hl
  try clear ls
  intro ls hl
  refine lv_iload hx hb dX12_spreads_79 (lv_at hl 0 rfl) ?_
  refine lv_if_ge (tgt := 86) hx hb dX12_spreads_81 (by decide) (fun _ => ?_) (fun c => absurd (by decide) c)
  refine lv_aload_n hx hb dX12_spreads_86 rfl (lv_at hl 3 rfl) ?_
  refine xget C hP 2 rfl rfl zuX12 23 (by decide) zw5_236 rfl dX12_spreads_87 ?_
  refine lv_iconst (v := nI 1) hx hb dX12_spreads_90 (by decide) ?_
  refine lv_iload_n hx hb dX12_spreads_91 rfl (lv_at hl 4 rfl) ?_
  refine lv_isub hx hb dX12_spreads_92 ?_
  refine lv_topi (nm_r (e' := nI 1) (by decide) ?_)
  refine xaald C hP 9 6 rfl rfl rfl 1 rfl (by decide) (by decide) ht1 dX12_spreads_93 ?_
  refine lv_iload hx hb dX12_spreads_94 (lv_at hl 0 rfl) ?_
  refine lv_dup2_11 hx hb dX12_spreads_96 rfl rfl ?_
  refine xlald C hP 10 rfl 0 rfl (by decide) (by decide) dX12_spreads_97 ?_
  refine lv_topl (nm_r (e' := lN (ww * 5)) (upL_0 _ _) ?_)
  refine lv_aload_n hx hb dX12_spreads_98 rfl (lv_at hl 3 rfl) ?_
  refine xget C hP 2 rfl rfl zuX12 23 (by decide) zw5_236 rfl dX12_spreads_99 ?_
  refine lv_iload_n hx hb dX12_spreads_102 rfl (lv_at hl 4 rfl) ?_
  refine xaald C hP 9 6 rfl rfl rfl 0 rfl (by decide) (by decide) ht0 dX12_spreads_103 ?_
  refine lv_iload_n hx hb dX12_spreads_104 rfl (lv_at hl 5 rfl) ?_
  refine xlald C hP 0 rfl 0 rfl (by decide) (by decide) dX12_spreads_105 ?_
  refine lv_topl (nm_r (e' := lN ww) hw ?_)
  refine lv_ladd hx hb dX12_spreads_106 ?_
  refine lv_topl (nm_r (e' := lN (ww * 6)) (lN_a ww 5) ?_)
  refine xlast C hP hD hS 10 rfl 0 rfl (by decide) (by decide) dX12_spreads_107 ?_
  clear hP hD hS
  try clear locs
  try clear H
  intro H locs hP hD hS
  replace hP : va_P D vwCl [(ti0, .inl (cs 1, 2001, .inr (.inl u0))), (st0, .inl (cs 0, 96048, .inl q0)), (hm, .inr (12, [.ref ms, .ref mkp, .int (nI 0), .ref mtr, .int (nI 4), .int (nI 2), .int (nI 2), .int (nI 3), .int (nI 2), .int (nI 1), .ref mas, .int (nI 0), .int (nI 0), .int (nI 0), .ref mso, .ref mon, .ref mot, .ref man, .int (nI 0), .int (nI 0), .ref mst, .ref msm, .ref mtb, .ref mti, .ref mfr, .ref mbn, .ref mbs, .ref mde, .int (nI 0), .int (nI 0), .int (nI 0), .int (nI 0), .long 0, .long 0, .ref maa, .ref mab, .ref mba, .ref mbb])), (ms, .inl (cs 0, 288, .inl freshS)), (msm, .inl (cs 0, 2, .inl (smF2 a0 (nI 1)))), (mst, .inl (cs 5, 2, .inr (.inr (.inr (.inr fst))))), (st1, .inl (cs 0, 96048, .inl (cpF freshS q1 48))), (mtb, .inl (cs 5, 2, .inr (.inr (.inr (.inr ftb))))), (tb1, .inl (cs 0, 8192, .inl (upd (fun _ => nI 0) 965 (nI 1)))), (mti, .inl (cs 6, 2, .inr (.inr (.inr (.inr fti))))), (ti1, .inl (cs 1, 2001, .inr (.inl (vp_updL (vp_updL u1 0 (lN (ww * 5))) 0 (lN (ww * 6))))))] H := hP
  replace hD : va_D A [(ti0, .inl (cs 1, 2001, .inr (.inl u0))), (st0, .inl (cs 0, 96048, .inl q0)), (hm, .inr (12, [.ref ms, .ref mkp, .int (nI 0), .ref mtr, .int (nI 4), .int (nI 2), .int (nI 2), .int (nI 3), .int (nI 2), .int (nI 1), .ref mas, .int (nI 0), .int (nI 0), .int (nI 0), .ref mso, .ref mon, .ref mot, .ref man, .int (nI 0), .int (nI 0), .ref mst, .ref msm, .ref mtb, .ref mti, .ref mfr, .ref mbn, .ref mbs, .ref mde, .int (nI 0), .int (nI 0), .int (nI 0), .int (nI 0), .long 0, .long 0, .ref maa, .ref mab, .ref mba, .ref mbb])), (ms, .inl (cs 0, 288, .inl freshS)), (msm, .inl (cs 0, 2, .inl (smF2 a0 (nI 1)))), (mst, .inl (cs 5, 2, .inr (.inr (.inr (.inr fst))))), (st1, .inl (cs 0, 96048, .inl (cpF freshS q1 48))), (mtb, .inl (cs 5, 2, .inr (.inr (.inr (.inr ftb))))), (tb1, .inl (cs 0, 8192, .inl (upd (fun _ => nI 0) 965 (nI 1)))), (mti, .inl (cs 6, 2, .inr (.inr (.inr (.inr fti))))), (ti1, .inl (cs 1, 2001, .inr (.inl (vp_updL (vp_updL u1 0 (lN (ww * 5))) 0 (lN (ww * 6))))))] := hD
  have hPD := xcongl (q0 := 10) (vp_updL u1 0 (lN (ww * 6))) hP hD rfl (fun j hj => upL_1 u1 _ _ j)
  clear hP hD
  obtain ⟨hP, hD⟩ := hPD
  replace hP : va_P D vwCl [(ti0, .inl (cs 1, 2001, .inr (.inl u0))), (st0, .inl (cs 0, 96048, .inl q0)), (hm, .inr (12, [.ref ms, .ref mkp, .int (nI 0), .ref mtr, .int (nI 4), .int (nI 2), .int (nI 2), .int (nI 3), .int (nI 2), .int (nI 1), .ref mas, .int (nI 0), .int (nI 0), .int (nI 0), .ref mso, .ref mon, .ref mot, .ref man, .int (nI 0), .int (nI 0), .ref mst, .ref msm, .ref mtb, .ref mti, .ref mfr, .ref mbn, .ref mbs, .ref mde, .int (nI 0), .int (nI 0), .int (nI 0), .int (nI 0), .long 0, .long 0, .ref maa, .ref mab, .ref mba, .ref mbb])), (ms, .inl (cs 0, 288, .inl freshS)), (msm, .inl (cs 0, 2, .inl (smF2 a0 (nI 1)))), (mst, .inl (cs 5, 2, .inr (.inr (.inr (.inr fst))))), (st1, .inl (cs 0, 96048, .inl (cpF freshS q1 48))), (mtb, .inl (cs 5, 2, .inr (.inr (.inr (.inr ftb))))), (tb1, .inl (cs 0, 8192, .inl (upd (fun _ => nI 0) 965 (nI 1)))), (mti, .inl (cs 6, 2, .inr (.inr (.inr (.inr fti))))), (ti1, .inl (cs 1, 2001, .inr (.inl (vp_updL u1 0 (lN (ww * 6))))))] H := hP
  replace hD : va_D A [(ti0, .inl (cs 1, 2001, .inr (.inl u0))), (st0, .inl (cs 0, 96048, .inl q0)), (hm, .inr (12, [.ref ms, .ref mkp, .int (nI 0), .ref mtr, .int (nI 4), .int (nI 2), .int (nI 2), .int (nI 3), .int (nI 2), .int (nI 1), .ref mas, .int (nI 0), .int (nI 0), .int (nI 0), .ref mso, .ref mon, .ref mot, .ref man, .int (nI 0), .int (nI 0), .ref mst, .ref msm, .ref mtb, .ref mti, .ref mfr, .ref mbn, .ref mbs, .ref mde, .int (nI 0), .int (nI 0), .int (nI 0), .int (nI 0), .long 0, .long 0, .ref maa, .ref mab, .ref mba, .ref mbb])), (ms, .inl (cs 0, 288, .inl freshS)), (msm, .inl (cs 0, 2, .inl (smF2 a0 (nI 1)))), (mst, .inl (cs 5, 2, .inr (.inr (.inr (.inr fst))))), (st1, .inl (cs 0, 96048, .inl (cpF freshS q1 48))), (mtb, .inl (cs 5, 2, .inr (.inr (.inr (.inr ftb))))), (tb1, .inl (cs 0, 8192, .inl (upd (fun _ => nI 0) 965 (nI 1)))), (mti, .inl (cs 6, 2, .inr (.inr (.inr (.inr fti))))), (ti1, .inl (cs 1, 2001, .inr (.inl (vp_updL u1 0 (lN (ww * 6))))))] := hD
  refine lv_iinc (v := nI 13) (lv' := [(4, .int (nI 13)), (5, .int (nI 0)), (3, .int (nI 1)), (0, .ref hm), (1, .int (nI 0)), (2, .int (nI 0))]) hx hb dX12_spreads_108 hl (k := 1) rfl (by decide) (by decide) rfl ?_
  clear hl
  try clear ls
  intro ls hl
  refine lv_goto (tgt := 13) hx hb dX12_spreads_111 (by decide) ?_
  refine lv_iload hx hb dX12_spreads_13 (lv_at hl 0 rfl) ?_
  refine lv_iconst (v := nI 1) hx hb dX12_spreads_15 (by decide) ?_
  refine lv_aload_n hx hb dX12_spreads_16 rfl (lv_at hl 3 rfl) ?_
  refine xget C hP 2 rfl rfl zuX12 4 (by decide) zw5_217 rfl dX12_spreads_17 ?_
  refine lv_ishl hx hb dX12_spreads_20 ?_
  refine lv_topi (nm_r (e' := nI 16) (by decide) ?_)
  refine lv_icmp_ge (tgt := 114) hx hb dX12_spreads_21 (by decide) (fun c => absurd c (by decide)) (fun _ => ?_)
  refine lv_aload_n hx hb dX12_spreads_24 rfl (lv_at hl 3 rfl) ?_
  refine lv_iload_n hx hb dX12_spreads_25 rfl (lv_at hl 2 rfl) ?_
  refine lv_iload hx hb dX12_spreads_26 (lv_at hl 0 rfl) ?_
  refine xi (wr := [(ti0, .inl (cs 1, 2001, .inr (.inl u0))), (st0, .inl (cs 0, 96048, .inl q0)), (ms, .inl (cs 0, 288, .inl freshS)), (msm, .inl (cs 0, 2, .inl (smF2 a0 (nI 1)))), (mst, .inl (cs 5, 2, .inr (.inr (.inr (.inr fst))))), (st1, .inl (cs 0, 96048, .inl (cpF freshS q1 48))), (mtb, .inl (cs 5, 2, .inr (.inr (.inr (.inr ftb))))), (tb1, .inl (cs 0, 8192, .inl (upd (fun _ => nI 0) 965 (nI 1)))), (mti, .inl (cs 6, 2, .inr (.inr (.inr (.inr fti))))), (ti1, .inl (cs 1, 2001, .inr (.inl (vp_updL u1 0 (lN (ww * 6))))))]) (xV (As := [.int (nI 1), .int (nI 13)]) (rest := []) C (c_X12_isSample_x l D cs hm ms mkp mtr mas mso mon mot man mst msm mtb mti mfr mbn mbs mde maa mab mba mbb 1 13 (by decide) (by decide)) kX12_139 hP hD [2] rfl (by decide +kernel) 0 rfl rfl rfl ⟨Nat.le_of_ble_eq_true rfl, Nat.le_of_ble_eq_true rfl⟩ rfl hl.1 rfl (Nat.le_of_ble_eq_true rfl) dX12_spreads_28 ⟨Nat.le_of_ble_eq_true rfl, Nat.le_of_ble_eq_true rfl⟩) hP hD hS hA [2] [0, 1, 3, 4, 5, 6, 7, 8, 9, 10] rfl rfl (by decide +kernel) (by decide +kernel) ?_
  clear hP hD hS
  try clear locs
  try clear H
  intro r_95 u_96 H locs hw_r_95 hP hD hS
  have hw_r_95 : r_95 = smB 1 13 := hw_r_95
  refine W.widen (k := 0) (n := 0) (Nat.le_of_ble_eq_true rfl) (Nat.le_of_ble_eq_true rfl) ?_
  replace hP : va_P D vwCl [(ti0, .inl (cs 1, 2001, .inr (.inl u0))), (st0, .inl (cs 0, 96048, .inl q0)), (ms, .inl (cs 0, 288, .inl freshS)), (msm, .inl (cs 0, 2, .inl (smF2 a0 (nI 1)))), (mst, .inl (cs 5, 2, .inr (.inr (.inr (.inr fst))))), (st1, .inl (cs 0, 96048, .inl (cpF freshS q1 48))), (mtb, .inl (cs 5, 2, .inr (.inr (.inr (.inr ftb))))), (tb1, .inl (cs 0, 8192, .inl (upd (fun _ => nI 0) 965 (nI 1)))), (mti, .inl (cs 6, 2, .inr (.inr (.inr (.inr fti))))), (ti1, .inl (cs 1, 2001, .inr (.inl (vp_updL u1 0 (lN (ww * 6)))))), (hm, .inr (12, [.ref ms, .ref mkp, .int (nI 0), .ref mtr, .int (nI 4), .int (nI 2), .int (nI 2), .int (nI 3), .int (nI 2), .int (nI 1), .ref mas, .int (nI 0), .int (nI 0), .int (nI 0), .ref mso, .ref mon, .ref mot, .ref man, .int (nI 0), .int (nI 0), .ref mst, .ref msm, .ref mtb, .ref mti, .ref mfr, .ref mbn, .ref mbs, .ref mde, .int (nI 0), .int (nI 0), .int (nI 0), .int (nI 0), .long 0, .long 0, .ref maa, .ref mab, .ref mba, .ref mbb]))] H := hP
  replace hD : va_D A [(ti0, .inl (cs 1, 2001, .inr (.inl u0))), (st0, .inl (cs 0, 96048, .inl q0)), (ms, .inl (cs 0, 288, .inl freshS)), (msm, .inl (cs 0, 2, .inl (smF2 a0 (nI 1)))), (mst, .inl (cs 5, 2, .inr (.inr (.inr (.inr fst))))), (st1, .inl (cs 0, 96048, .inl (cpF freshS q1 48))), (mtb, .inl (cs 5, 2, .inr (.inr (.inr (.inr ftb))))), (tb1, .inl (cs 0, 8192, .inl (upd (fun _ => nI 0) 965 (nI 1)))), (mti, .inl (cs 6, 2, .inr (.inr (.inr (.inr fti))))), (ti1, .inl (cs 1, 2001, .inr (.inl (vp_updL u1 0 (lN (ww * 6)))))), (hm, .inr (12, [.ref ms, .ref mkp, .int (nI 0), .ref mtr, .int (nI 4), .int (nI 2), .int (nI 2), .int (nI 3), .int (nI 2), .int (nI 1), .ref mas, .int (nI 0), .int (nI 0), .int (nI 0), .ref mso, .ref mon, .ref mot, .ref man, .int (nI 0), .int (nI 0), .ref mst, .ref msm, .ref mtb, .ref mti, .ref mfr, .ref mbn, .ref mbs, .ref mde, .int (nI 0), .int (nI 0), .int (nI 0), .int (nI 0), .long 0, .long 0, .ref maa, .ref mab, .ref mba, .ref mbb]))] := hD
  obtain rfl : r_95 = nI 0 := by rw [hw_r_95]; decide +kernel
  refine lv_if_ne (tgt := 37) hx hb dX12_spreads_31 (by decide) (fun c => absurd (by decide) c) (fun _ => ?_)
  refine lv_goto (tgt := 108) hx hb dX12_spreads_34 (by decide) ?_
  refine lv_iinc (v := nI 14) (lv' := [(4, .int (nI 14)), (5, .int (nI 0)), (3, .int (nI 1)), (0, .ref hm), (1, .int (nI 0)), (2, .int (nI 0))]) hx hb dX12_spreads_108 hl (k := 0) rfl (by decide) (by decide) rfl ?_
  clear hl
  try clear ls
  intro ls hl
  refine lv_goto (tgt := 13) hx hb dX12_spreads_111 (by decide) ?_
  refine lv_iload hx hb dX12_spreads_13 (lv_at hl 0 rfl) ?_
  refine lv_iconst (v := nI 1) hx hb dX12_spreads_15 (by decide) ?_
  refine lv_aload_n hx hb dX12_spreads_16 rfl (lv_at hl 3 rfl) ?_
  refine xget C hP 10 rfl rfl zuX12 4 (by decide) zw5_217 rfl dX12_spreads_17 ?_
  refine lv_ishl hx hb dX12_spreads_20 ?_
  refine lv_topi (nm_r (e' := nI 16) (by decide) ?_)
  refine lv_icmp_ge (tgt := 114) hx hb dX12_spreads_21 (by decide) (fun c => absurd c (by decide)) (fun _ => ?_)
  refine lv_aload_n hx hb dX12_spreads_24 rfl (lv_at hl 3 rfl) ?_
  refine lv_iload_n hx hb dX12_spreads_25 rfl (lv_at hl 2 rfl) ?_
  refine lv_iload hx hb dX12_spreads_26 (lv_at hl 0 rfl) ?_
  refine xi (wr := [(ti0, .inl (cs 1, 2001, .inr (.inl u0))), (st0, .inl (cs 0, 96048, .inl q0)), (ms, .inl (cs 0, 288, .inl freshS)), (msm, .inl (cs 0, 2, .inl (smF2 a0 (nI 1)))), (mst, .inl (cs 5, 2, .inr (.inr (.inr (.inr fst))))), (st1, .inl (cs 0, 96048, .inl (cpF freshS q1 48))), (mtb, .inl (cs 5, 2, .inr (.inr (.inr (.inr ftb))))), (tb1, .inl (cs 0, 8192, .inl (upd (fun _ => nI 0) 965 (nI 1)))), (mti, .inl (cs 6, 2, .inr (.inr (.inr (.inr fti))))), (ti1, .inl (cs 1, 2001, .inr (.inl (vp_updL u1 0 (lN (ww * 6))))))]) (xV (As := [.int (nI 1), .int (nI 14)]) (rest := []) C (c_X12_isSample_x l D cs hm ms mkp mtr mas mso mon mot man mst msm mtb mti mfr mbn mbs mde maa mab mba mbb 1 14 (by decide) (by decide)) kX12_139 hP hD [10] rfl (by decide +kernel) 0 rfl rfl rfl ⟨Nat.le_of_ble_eq_true rfl, Nat.le_of_ble_eq_true rfl⟩ rfl hl.1 rfl (Nat.le_of_ble_eq_true rfl) dX12_spreads_28 ⟨Nat.le_of_ble_eq_true rfl, Nat.le_of_ble_eq_true rfl⟩) hP hD hS hA [10] [0, 1, 2, 3, 4, 5, 6, 7, 8, 9] rfl rfl (by decide +kernel) (by decide +kernel) ?_
  clear hP hD hS
  try clear locs
  try clear H
  intro r_97 u_98 H locs hw_r_97 hP hD hS
  have hw_r_97 : r_97 = smB 1 14 := hw_r_97
  refine W.widen (k := 0) (n := 0) (Nat.le_of_ble_eq_true rfl) (Nat.le_of_ble_eq_true rfl) ?_
  replace hP : va_P D vwCl [(ti0, .inl (cs 1, 2001, .inr (.inl u0))), (st0, .inl (cs 0, 96048, .inl q0)), (ms, .inl (cs 0, 288, .inl freshS)), (msm, .inl (cs 0, 2, .inl (smF2 a0 (nI 1)))), (mst, .inl (cs 5, 2, .inr (.inr (.inr (.inr fst))))), (st1, .inl (cs 0, 96048, .inl (cpF freshS q1 48))), (mtb, .inl (cs 5, 2, .inr (.inr (.inr (.inr ftb))))), (tb1, .inl (cs 0, 8192, .inl (upd (fun _ => nI 0) 965 (nI 1)))), (mti, .inl (cs 6, 2, .inr (.inr (.inr (.inr fti))))), (ti1, .inl (cs 1, 2001, .inr (.inl (vp_updL u1 0 (lN (ww * 6)))))), (hm, .inr (12, [.ref ms, .ref mkp, .int (nI 0), .ref mtr, .int (nI 4), .int (nI 2), .int (nI 2), .int (nI 3), .int (nI 2), .int (nI 1), .ref mas, .int (nI 0), .int (nI 0), .int (nI 0), .ref mso, .ref mon, .ref mot, .ref man, .int (nI 0), .int (nI 0), .ref mst, .ref msm, .ref mtb, .ref mti, .ref mfr, .ref mbn, .ref mbs, .ref mde, .int (nI 0), .int (nI 0), .int (nI 0), .int (nI 0), .long 0, .long 0, .ref maa, .ref mab, .ref mba, .ref mbb]))] H := hP
  replace hD : va_D A [(ti0, .inl (cs 1, 2001, .inr (.inl u0))), (st0, .inl (cs 0, 96048, .inl q0)), (ms, .inl (cs 0, 288, .inl freshS)), (msm, .inl (cs 0, 2, .inl (smF2 a0 (nI 1)))), (mst, .inl (cs 5, 2, .inr (.inr (.inr (.inr fst))))), (st1, .inl (cs 0, 96048, .inl (cpF freshS q1 48))), (mtb, .inl (cs 5, 2, .inr (.inr (.inr (.inr ftb))))), (tb1, .inl (cs 0, 8192, .inl (upd (fun _ => nI 0) 965 (nI 1)))), (mti, .inl (cs 6, 2, .inr (.inr (.inr (.inr fti))))), (ti1, .inl (cs 1, 2001, .inr (.inl (vp_updL u1 0 (lN (ww * 6)))))), (hm, .inr (12, [.ref ms, .ref mkp, .int (nI 0), .ref mtr, .int (nI 4), .int (nI 2), .int (nI 2), .int (nI 3), .int (nI 2), .int (nI 1), .ref mas, .int (nI 0), .int (nI 0), .int (nI 0), .ref mso, .ref mon, .ref mot, .ref man, .int (nI 0), .int (nI 0), .ref mst, .ref msm, .ref mtb, .ref mti, .ref mfr, .ref mbn, .ref mbs, .ref mde, .int (nI 0), .int (nI 0), .int (nI 0), .int (nI 0), .long 0, .long 0, .ref maa, .ref mab, .ref mba, .ref mbb]))] := hD
  obtain rfl : r_97 = nI 0 := by rw [hw_r_97]; decide +kernel
  refine lv_if_ne (tgt := 37) hx hb dX12_spreads_31 (by decide) (fun c => absurd (by decide) c) (fun _ => ?_)
  refine lv_goto (tgt := 108) hx hb dX12_spreads_34 (by decide) ?_
  refine lv_iinc (v := nI 15) (lv' := [(4, .int (nI 15)), (5, .int (nI 0)), (3, .int (nI 1)), (0, .ref hm), (1, .int (nI 0)), (2, .int (nI 0))]) hx hb dX12_spreads_108 hl (k := 0) rfl (by decide) (by decide) rfl ?_
  clear hl
  try clear ls
  intro ls hl
  refine lv_goto (tgt := 13) hx hb dX12_spreads_111 (by decide) ?_
  refine lv_iload hx hb dX12_spreads_13 (lv_at hl 0 rfl) ?_
  refine lv_iconst (v := nI 1) hx hb dX12_spreads_15 (by decide) ?_
  refine lv_aload_n hx hb dX12_spreads_16 rfl (lv_at hl 3 rfl) ?_
  refine xget C hP 10 rfl rfl zuX12 4 (by decide) zw5_217 rfl dX12_spreads_17 ?_
  refine lv_ishl hx hb dX12_spreads_20 ?_
  refine lv_topi (nm_r (e' := nI 16) (by decide) ?_)
  refine lv_icmp_ge (tgt := 114) hx hb dX12_spreads_21 (by decide) (fun c => absurd c (by decide)) (fun _ => ?_)
  refine lv_aload_n hx hb dX12_spreads_24 rfl (lv_at hl 3 rfl) ?_
  refine lv_iload_n hx hb dX12_spreads_25 rfl (lv_at hl 2 rfl) ?_
  refine lv_iload hx hb dX12_spreads_26 (lv_at hl 0 rfl) ?_
  refine xi (wr := [(ti0, .inl (cs 1, 2001, .inr (.inl u0))), (st0, .inl (cs 0, 96048, .inl q0)), (ms, .inl (cs 0, 288, .inl freshS)), (msm, .inl (cs 0, 2, .inl (smF2 a0 (nI 1)))), (mst, .inl (cs 5, 2, .inr (.inr (.inr (.inr fst))))), (st1, .inl (cs 0, 96048, .inl (cpF freshS q1 48))), (mtb, .inl (cs 5, 2, .inr (.inr (.inr (.inr ftb))))), (tb1, .inl (cs 0, 8192, .inl (upd (fun _ => nI 0) 965 (nI 1)))), (mti, .inl (cs 6, 2, .inr (.inr (.inr (.inr fti))))), (ti1, .inl (cs 1, 2001, .inr (.inl (vp_updL u1 0 (lN (ww * 6))))))]) (xV (As := [.int (nI 1), .int (nI 15)]) (rest := []) C (c_X12_isSample_x l D cs hm ms mkp mtr mas mso mon mot man mst msm mtb mti mfr mbn mbs mde maa mab mba mbb 1 15 (by decide) (by decide)) kX12_139 hP hD [10] rfl (by decide +kernel) 0 rfl rfl rfl ⟨Nat.le_of_ble_eq_true rfl, Nat.le_of_ble_eq_true rfl⟩ rfl hl.1 rfl (Nat.le_of_ble_eq_true rfl) dX12_spreads_28 ⟨Nat.le_of_ble_eq_true rfl, Nat.le_of_ble_eq_true rfl⟩) hP hD hS hA [10] [0, 1, 2, 3, 4, 5, 6, 7, 8, 9] rfl rfl (by decide +kernel) (by decide +kernel) ?_
  clear hP hD hS
  try clear locs
  try clear H
  intro r_99 u_100 H locs hw_r_99 hP hD hS
  have hw_r_99 : r_99 = smB 1 15 := hw_r_99
  refine W.widen (k := 0) (n := 0) (Nat.le_of_ble_eq_true rfl) (Nat.le_of_ble_eq_true rfl) ?_
  replace hP : va_P D vwCl [(ti0, .inl (cs 1, 2001, .inr (.inl u0))), (st0, .inl (cs 0, 96048, .inl q0)), (ms, .inl (cs 0, 288, .inl freshS)), (msm, .inl (cs 0, 2, .inl (smF2 a0 (nI 1)))), (mst, .inl (cs 5, 2, .inr (.inr (.inr (.inr fst))))), (st1, .inl (cs 0, 96048, .inl (cpF freshS q1 48))), (mtb, .inl (cs 5, 2, .inr (.inr (.inr (.inr ftb))))), (tb1, .inl (cs 0, 8192, .inl (upd (fun _ => nI 0) 965 (nI 1)))), (mti, .inl (cs 6, 2, .inr (.inr (.inr (.inr fti))))), (ti1, .inl (cs 1, 2001, .inr (.inl (vp_updL u1 0 (lN (ww * 6)))))), (hm, .inr (12, [.ref ms, .ref mkp, .int (nI 0), .ref mtr, .int (nI 4), .int (nI 2), .int (nI 2), .int (nI 3), .int (nI 2), .int (nI 1), .ref mas, .int (nI 0), .int (nI 0), .int (nI 0), .ref mso, .ref mon, .ref mot, .ref man, .int (nI 0), .int (nI 0), .ref mst, .ref msm, .ref mtb, .ref mti, .ref mfr, .ref mbn, .ref mbs, .ref mde, .int (nI 0), .int (nI 0), .int (nI 0), .int (nI 0), .long 0, .long 0, .ref maa, .ref mab, .ref mba, .ref mbb]))] H := hP
  replace hD : va_D A [(ti0, .inl (cs 1, 2001, .inr (.inl u0))), (st0, .inl (cs 0, 96048, .inl q0)), (ms, .inl (cs 0, 288, .inl freshS)), (msm, .inl (cs 0, 2, .inl (smF2 a0 (nI 1)))), (mst, .inl (cs 5, 2, .inr (.inr (.inr (.inr fst))))), (st1, .inl (cs 0, 96048, .inl (cpF freshS q1 48))), (mtb, .inl (cs 5, 2, .inr (.inr (.inr (.inr ftb))))), (tb1, .inl (cs 0, 8192, .inl (upd (fun _ => nI 0) 965 (nI 1)))), (mti, .inl (cs 6, 2, .inr (.inr (.inr (.inr fti))))), (ti1, .inl (cs 1, 2001, .inr (.inl (vp_updL u1 0 (lN (ww * 6)))))), (hm, .inr (12, [.ref ms, .ref mkp, .int (nI 0), .ref mtr, .int (nI 4), .int (nI 2), .int (nI 2), .int (nI 3), .int (nI 2), .int (nI 1), .ref mas, .int (nI 0), .int (nI 0), .int (nI 0), .ref mso, .ref mon, .ref mot, .ref man, .int (nI 0), .int (nI 0), .ref mst, .ref msm, .ref mtb, .ref mti, .ref mfr, .ref mbn, .ref mbs, .ref mde, .int (nI 0), .int (nI 0), .int (nI 0), .int (nI 0), .long 0, .long 0, .ref maa, .ref mab, .ref mba, .ref mbb]))] := hD
  obtain rfl : r_99 = nI 0 := by rw [hw_r_99]; decide +kernel
  refine lv_if_ne (tgt := 37) hx hb dX12_spreads_31 (by decide) (fun c => absurd (by decide) c) (fun _ => ?_)
  refine lv_goto (tgt := 108) hx hb dX12_spreads_34 (by decide) ?_
  refine lv_iinc (v := nI 16) (lv' := [(4, .int (nI 16)), (5, .int (nI 0)), (3, .int (nI 1)), (0, .ref hm), (1, .int (nI 0)), (2, .int (nI 0))]) hx hb dX12_spreads_108 hl (k := 0) rfl (by decide) (by decide) rfl ?_
  clear hl
  try clear ls
  intro ls hl
  refine lv_goto (tgt := 13) hx hb dX12_spreads_111 (by decide) ?_
  refine lv_iload hx hb dX12_spreads_13 (lv_at hl 0 rfl) ?_
  refine lv_iconst (v := nI 1) hx hb dX12_spreads_15 (by decide) ?_
  refine lv_aload_n hx hb dX12_spreads_16 rfl (lv_at hl 3 rfl) ?_
  refine xget C hP 10 rfl rfl zuX12 4 (by decide) zw5_217 rfl dX12_spreads_17 ?_
  refine lv_ishl hx hb dX12_spreads_20 ?_
  refine lv_topi (nm_r (e' := nI 16) (by decide) ?_)
  refine lv_icmp_ge (tgt := 114) hx hb dX12_spreads_21 (by decide) (fun _ => ?_) (fun c => absurd (by decide) c)
  refine lv_iinc (v := nI 2) (lv' := [(3, .int (nI 2)), (4, .int (nI 16)), (5, .int (nI 0)), (0, .ref hm), (1, .int (nI 0)), (2, .int (nI 0))]) hx hb dX12_spreads_114 hl (k := 2) rfl (by decide) (by decide) rfl ?_
  clear hl
  try clear ls
  intro ls hl
  refine lv_goto (tgt := 2) hx hb dX12_spreads_117 (by decide) ?_
  refine lv_iload_n hx hb dX12_spreads_2 rfl (lv_at hl 0 rfl) ?_
  refine lv_aload_n hx hb dX12_spreads_3 rfl (lv_at hl 3 rfl) ?_
  refine xget C hP 10 rfl rfl zuX12 4 (by decide) zw5_217 rfl dX12_spreads_4 ?_
  refine lv_icmp_ge (tgt := 120) hx hb dX12_spreads_7 (by decide) (fun c => absurd c (by decide)) (fun _ => ?_)
  refine lv_iconst (v := nI 0) hx hb dX12_spreads_10 (by decide) ?_
  refine lv_istore (lv' := [(4, .int (nI 0)), (3, .int (nI 2)), (5, .int (nI 0)), (0, .ref hm), (1, .int (nI 0)), (2, .int (nI 0))]) hx hb dX12_spreads_11 hl (by decide) rfl ?_
  clear hl
  try clear ls
  intro ls hl
  refine lv_iload hx hb dX12_spreads_13 (lv_at hl 0 rfl) ?_
  refine lv_iconst (v := nI 1) hx hb dX12_spreads_15 (by decide) ?_
  refine lv_aload_n hx hb dX12_spreads_16 rfl (lv_at hl 3 rfl) ?_
  refine xget C hP 10 rfl rfl zuX12 4 (by decide) zw5_217 rfl dX12_spreads_17 ?_
  refine lv_ishl hx hb dX12_spreads_20 ?_
  refine lv_topi (nm_r (e' := nI 16) (by decide) ?_)
  refine lv_icmp_ge (tgt := 114) hx hb dX12_spreads_21 (by decide) (fun c => absurd c (by decide)) (fun _ => ?_)
  refine lv_aload_n hx hb dX12_spreads_24 rfl (lv_at hl 3 rfl) ?_
  refine lv_iload_n hx hb dX12_spreads_25 rfl (lv_at hl 1 rfl) ?_
  refine lv_iload hx hb dX12_spreads_26 (lv_at hl 0 rfl) ?_
  refine xi (wr := [(ti0, .inl (cs 1, 2001, .inr (.inl u0))), (st0, .inl (cs 0, 96048, .inl q0)), (ms, .inl (cs 0, 288, .inl freshS)), (msm, .inl (cs 0, 2, .inl (smF2 a0 (nI 1)))), (mst, .inl (cs 5, 2, .inr (.inr (.inr (.inr fst))))), (st1, .inl (cs 0, 96048, .inl (cpF freshS q1 48))), (mtb, .inl (cs 5, 2, .inr (.inr (.inr (.inr ftb))))), (tb1, .inl (cs 0, 8192, .inl (upd (fun _ => nI 0) 965 (nI 1)))), (mti, .inl (cs 6, 2, .inr (.inr (.inr (.inr fti))))), (ti1, .inl (cs 1, 2001, .inr (.inl (vp_updL u1 0 (lN (ww * 6))))))]) (xV (As := [.int (nI 2), .int (nI 0)]) (rest := []) C (c_X12_isSample_x l D cs hm ms mkp mtr mas mso mon mot man mst msm mtb mti mfr mbn mbs mde maa mab mba mbb 2 0 (by decide) (by decide)) kX12_139 hP hD [10] rfl (by decide +kernel) 0 rfl rfl rfl ⟨Nat.le_of_ble_eq_true rfl, Nat.le_of_ble_eq_true rfl⟩ rfl hl.1 rfl (Nat.le_of_ble_eq_true rfl) dX12_spreads_28 ⟨Nat.le_of_ble_eq_true rfl, Nat.le_of_ble_eq_true rfl⟩) hP hD hS hA [10] [0, 1, 2, 3, 4, 5, 6, 7, 8, 9] rfl rfl (by decide +kernel) (by decide +kernel) ?_
  clear hP hD hS
  try clear locs
  try clear H
  intro r_101 u_102 H locs hw_r_101 hP hD hS
  have hw_r_101 : r_101 = smB 2 0 := hw_r_101
  refine W.widen (k := 0) (n := 0) (Nat.le_of_ble_eq_true rfl) (Nat.le_of_ble_eq_true rfl) ?_
  replace hP : va_P D vwCl [(ti0, .inl (cs 1, 2001, .inr (.inl u0))), (st0, .inl (cs 0, 96048, .inl q0)), (ms, .inl (cs 0, 288, .inl freshS)), (msm, .inl (cs 0, 2, .inl (smF2 a0 (nI 1)))), (mst, .inl (cs 5, 2, .inr (.inr (.inr (.inr fst))))), (st1, .inl (cs 0, 96048, .inl (cpF freshS q1 48))), (mtb, .inl (cs 5, 2, .inr (.inr (.inr (.inr ftb))))), (tb1, .inl (cs 0, 8192, .inl (upd (fun _ => nI 0) 965 (nI 1)))), (mti, .inl (cs 6, 2, .inr (.inr (.inr (.inr fti))))), (ti1, .inl (cs 1, 2001, .inr (.inl (vp_updL u1 0 (lN (ww * 6)))))), (hm, .inr (12, [.ref ms, .ref mkp, .int (nI 0), .ref mtr, .int (nI 4), .int (nI 2), .int (nI 2), .int (nI 3), .int (nI 2), .int (nI 1), .ref mas, .int (nI 0), .int (nI 0), .int (nI 0), .ref mso, .ref mon, .ref mot, .ref man, .int (nI 0), .int (nI 0), .ref mst, .ref msm, .ref mtb, .ref mti, .ref mfr, .ref mbn, .ref mbs, .ref mde, .int (nI 0), .int (nI 0), .int (nI 0), .int (nI 0), .long 0, .long 0, .ref maa, .ref mab, .ref mba, .ref mbb]))] H := hP
  replace hD : va_D A [(ti0, .inl (cs 1, 2001, .inr (.inl u0))), (st0, .inl (cs 0, 96048, .inl q0)), (ms, .inl (cs 0, 288, .inl freshS)), (msm, .inl (cs 0, 2, .inl (smF2 a0 (nI 1)))), (mst, .inl (cs 5, 2, .inr (.inr (.inr (.inr fst))))), (st1, .inl (cs 0, 96048, .inl (cpF freshS q1 48))), (mtb, .inl (cs 5, 2, .inr (.inr (.inr (.inr ftb))))), (tb1, .inl (cs 0, 8192, .inl (upd (fun _ => nI 0) 965 (nI 1)))), (mti, .inl (cs 6, 2, .inr (.inr (.inr (.inr fti))))), (ti1, .inl (cs 1, 2001, .inr (.inl (vp_updL u1 0 (lN (ww * 6)))))), (hm, .inr (12, [.ref ms, .ref mkp, .int (nI 0), .ref mtr, .int (nI 4), .int (nI 2), .int (nI 2), .int (nI 3), .int (nI 2), .int (nI 1), .ref mas, .int (nI 0), .int (nI 0), .int (nI 0), .ref mso, .ref mon, .ref mot, .ref man, .int (nI 0), .int (nI 0), .ref mst, .ref msm, .ref mtb, .ref mti, .ref mfr, .ref mbn, .ref mbs, .ref mde, .int (nI 0), .int (nI 0), .int (nI 0), .int (nI 0), .long 0, .long 0, .ref maa, .ref mab, .ref mba, .ref mbb]))] := hD
  obtain rfl : r_101 = nI 0 := by rw [hw_r_101]; decide +kernel
  refine lv_if_ne (tgt := 37) hx hb dX12_spreads_31 (by decide) (fun c => absurd (by decide) c) (fun _ => ?_)
  refine lv_goto (tgt := 108) hx hb dX12_spreads_34 (by decide) ?_
  refine lv_iinc (v := nI 1) (lv' := [(4, .int (nI 1)), (3, .int (nI 2)), (5, .int (nI 0)), (0, .ref hm), (1, .int (nI 0)), (2, .int (nI 0))]) hx hb dX12_spreads_108 hl (k := 0) rfl (by decide) (by decide) rfl ?_
  clear hl
  try clear ls
  intro ls hl
  refine lv_goto (tgt := 13) hx hb dX12_spreads_111 (by decide) ?_
  refine lv_iload hx hb dX12_spreads_13 (lv_at hl 0 rfl) ?_
  refine lv_iconst (v := nI 1) hx hb dX12_spreads_15 (by decide) ?_
  refine lv_aload_n hx hb dX12_spreads_16 rfl (lv_at hl 3 rfl) ?_
  refine xget C hP 10 rfl rfl zuX12 4 (by decide) zw5_217 rfl dX12_spreads_17 ?_
  refine lv_ishl hx hb dX12_spreads_20 ?_
  refine lv_topi (nm_r (e' := nI 16) (by decide) ?_)
  refine lv_icmp_ge (tgt := 114) hx hb dX12_spreads_21 (by decide) (fun c => absurd c (by decide)) (fun _ => ?_)
  refine lv_aload_n hx hb dX12_spreads_24 rfl (lv_at hl 3 rfl) ?_
  refine lv_iload_n hx hb dX12_spreads_25 rfl (lv_at hl 1 rfl) ?_
  refine lv_iload hx hb dX12_spreads_26 (lv_at hl 0 rfl) ?_
  refine xi (wr := [(ti0, .inl (cs 1, 2001, .inr (.inl u0))), (st0, .inl (cs 0, 96048, .inl q0)), (ms, .inl (cs 0, 288, .inl freshS)), (msm, .inl (cs 0, 2, .inl (smF2 a0 (nI 1)))), (mst, .inl (cs 5, 2, .inr (.inr (.inr (.inr fst))))), (st1, .inl (cs 0, 96048, .inl (cpF freshS q1 48))), (mtb, .inl (cs 5, 2, .inr (.inr (.inr (.inr ftb))))), (tb1, .inl (cs 0, 8192, .inl (upd (fun _ => nI 0) 965 (nI 1)))), (mti, .inl (cs 6, 2, .inr (.inr (.inr (.inr fti))))), (ti1, .inl (cs 1, 2001, .inr (.inl (vp_updL u1 0 (lN (ww * 6))))))]) (xV (As := [.int (nI 2), .int (nI 1)]) (rest := []) C (c_X12_isSample_x l D cs hm ms mkp mtr mas mso mon mot man mst msm mtb mti mfr mbn mbs mde maa mab mba mbb 2 1 (by decide) (by decide)) kX12_139 hP hD [10] rfl (by decide +kernel) 0 rfl rfl rfl ⟨Nat.le_of_ble_eq_true rfl, Nat.le_of_ble_eq_true rfl⟩ rfl hl.1 rfl (Nat.le_of_ble_eq_true rfl) dX12_spreads_28 ⟨Nat.le_of_ble_eq_true rfl, Nat.le_of_ble_eq_true rfl⟩) hP hD hS hA [10] [0, 1, 2, 3, 4, 5, 6, 7, 8, 9] rfl rfl (by decide +kernel) (by decide +kernel) ?_
  clear hP hD hS
  try clear locs
  try clear H
  intro r_103 u_104 H locs hw_r_103 hP hD hS
  have hw_r_103 : r_103 = smB 2 1 := hw_r_103
  refine W.widen (k := 0) (n := 0) (Nat.le_of_ble_eq_true rfl) (Nat.le_of_ble_eq_true rfl) ?_
  replace hP : va_P D vwCl [(ti0, .inl (cs 1, 2001, .inr (.inl u0))), (st0, .inl (cs 0, 96048, .inl q0)), (ms, .inl (cs 0, 288, .inl freshS)), (msm, .inl (cs 0, 2, .inl (smF2 a0 (nI 1)))), (mst, .inl (cs 5, 2, .inr (.inr (.inr (.inr fst))))), (st1, .inl (cs 0, 96048, .inl (cpF freshS q1 48))), (mtb, .inl (cs 5, 2, .inr (.inr (.inr (.inr ftb))))), (tb1, .inl (cs 0, 8192, .inl (upd (fun _ => nI 0) 965 (nI 1)))), (mti, .inl (cs 6, 2, .inr (.inr (.inr (.inr fti))))), (ti1, .inl (cs 1, 2001, .inr (.inl (vp_updL u1 0 (lN (ww * 6)))))), (hm, .inr (12, [.ref ms, .ref mkp, .int (nI 0), .ref mtr, .int (nI 4), .int (nI 2), .int (nI 2), .int (nI 3), .int (nI 2), .int (nI 1), .ref mas, .int (nI 0), .int (nI 0), .int (nI 0), .ref mso, .ref mon, .ref mot, .ref man, .int (nI 0), .int (nI 0), .ref mst, .ref msm, .ref mtb, .ref mti, .ref mfr, .ref mbn, .ref mbs, .ref mde, .int (nI 0), .int (nI 0), .int (nI 0), .int (nI 0), .long 0, .long 0, .ref maa, .ref mab, .ref mba, .ref mbb]))] H := hP
  replace hD : va_D A [(ti0, .inl (cs 1, 2001, .inr (.inl u0))), (st0, .inl (cs 0, 96048, .inl q0)), (ms, .inl (cs 0, 288, .inl freshS)), (msm, .inl (cs 0, 2, .inl (smF2 a0 (nI 1)))), (mst, .inl (cs 5, 2, .inr (.inr (.inr (.inr fst))))), (st1, .inl (cs 0, 96048, .inl (cpF freshS q1 48))), (mtb, .inl (cs 5, 2, .inr (.inr (.inr (.inr ftb))))), (tb1, .inl (cs 0, 8192, .inl (upd (fun _ => nI 0) 965 (nI 1)))), (mti, .inl (cs 6, 2, .inr (.inr (.inr (.inr fti))))), (ti1, .inl (cs 1, 2001, .inr (.inl (vp_updL u1 0 (lN (ww * 6)))))), (hm, .inr (12, [.ref ms, .ref mkp, .int (nI 0), .ref mtr, .int (nI 4), .int (nI 2), .int (nI 2), .int (nI 3), .int (nI 2), .int (nI 1), .ref mas, .int (nI 0), .int (nI 0), .int (nI 0), .ref mso, .ref mon, .ref mot, .ref man, .int (nI 0), .int (nI 0), .ref mst, .ref msm, .ref mtb, .ref mti, .ref mfr, .ref mbn, .ref mbs, .ref mde, .int (nI 0), .int (nI 0), .int (nI 0), .int (nI 0), .long 0, .long 0, .ref maa, .ref mab, .ref mba, .ref mbb]))] := hD
  obtain rfl : r_103 = nI 0 := by rw [hw_r_103]; decide +kernel
  refine lv_if_ne (tgt := 37) hx hb dX12_spreads_31 (by decide) (fun c => absurd (by decide) c) (fun _ => ?_)
  refine lv_goto (tgt := 108) hx hb dX12_spreads_34 (by decide) ?_
  refine lv_iinc (v := nI 2) (lv' := [(4, .int (nI 2)), (3, .int (nI 2)), (5, .int (nI 0)), (0, .ref hm), (1, .int (nI 0)), (2, .int (nI 0))]) hx hb dX12_spreads_108 hl (k := 0) rfl (by decide) (by decide) rfl ?_
  clear hl
  try clear ls
  intro ls hl
  refine lv_goto (tgt := 13) hx hb dX12_spreads_111 (by decide) ?_
  refine lv_iload hx hb dX12_spreads_13 (lv_at hl 0 rfl) ?_
  refine lv_iconst (v := nI 1) hx hb dX12_spreads_15 (by decide) ?_
  refine lv_aload_n hx hb dX12_spreads_16 rfl (lv_at hl 3 rfl) ?_
  refine xget C hP 10 rfl rfl zuX12 4 (by decide) zw5_217 rfl dX12_spreads_17 ?_
  refine lv_ishl hx hb dX12_spreads_20 ?_
  refine lv_topi (nm_r (e' := nI 16) (by decide) ?_)
  refine lv_icmp_ge (tgt := 114) hx hb dX12_spreads_21 (by decide) (fun c => absurd c (by decide)) (fun _ => ?_)
  refine lv_aload_n hx hb dX12_spreads_24 rfl (lv_at hl 3 rfl) ?_
  refine lv_iload_n hx hb dX12_spreads_25 rfl (lv_at hl 1 rfl) ?_
  refine lv_iload hx hb dX12_spreads_26 (lv_at hl 0 rfl) ?_
  refine xi (wr := [(ti0, .inl (cs 1, 2001, .inr (.inl u0))), (st0, .inl (cs 0, 96048, .inl q0)), (ms, .inl (cs 0, 288, .inl freshS)), (msm, .inl (cs 0, 2, .inl (smF2 a0 (nI 1)))), (mst, .inl (cs 5, 2, .inr (.inr (.inr (.inr fst))))), (st1, .inl (cs 0, 96048, .inl (cpF freshS q1 48))), (mtb, .inl (cs 5, 2, .inr (.inr (.inr (.inr ftb))))), (tb1, .inl (cs 0, 8192, .inl (upd (fun _ => nI 0) 965 (nI 1)))), (mti, .inl (cs 6, 2, .inr (.inr (.inr (.inr fti))))), (ti1, .inl (cs 1, 2001, .inr (.inl (vp_updL u1 0 (lN (ww * 6))))))]) (xV (As := [.int (nI 2), .int (nI 2)]) (rest := []) C (c_X12_isSample_x l D cs hm ms mkp mtr mas mso mon mot man mst msm mtb mti mfr mbn mbs mde maa mab mba mbb 2 2 (by decide) (by decide)) kX12_139 hP hD [10] rfl (by decide +kernel) 0 rfl rfl rfl ⟨Nat.le_of_ble_eq_true rfl, Nat.le_of_ble_eq_true rfl⟩ rfl hl.1 rfl (Nat.le_of_ble_eq_true rfl) dX12_spreads_28 ⟨Nat.le_of_ble_eq_true rfl, Nat.le_of_ble_eq_true rfl⟩) hP hD hS hA [10] [0, 1, 2, 3, 4, 5, 6, 7, 8, 9] rfl rfl (by decide +kernel) (by decide +kernel) ?_
  clear hP hD hS
  try clear locs
  try clear H
  intro r_105 u_106 H locs hw_r_105 hP hD hS
  have hw_r_105 : r_105 = smB 2 2 := hw_r_105
  refine W.widen (k := 0) (n := 0) (Nat.le_of_ble_eq_true rfl) (Nat.le_of_ble_eq_true rfl) ?_
  replace hP : va_P D vwCl [(ti0, .inl (cs 1, 2001, .inr (.inl u0))), (st0, .inl (cs 0, 96048, .inl q0)), (ms, .inl (cs 0, 288, .inl freshS)), (msm, .inl (cs 0, 2, .inl (smF2 a0 (nI 1)))), (mst, .inl (cs 5, 2, .inr (.inr (.inr (.inr fst))))), (st1, .inl (cs 0, 96048, .inl (cpF freshS q1 48))), (mtb, .inl (cs 5, 2, .inr (.inr (.inr (.inr ftb))))), (tb1, .inl (cs 0, 8192, .inl (upd (fun _ => nI 0) 965 (nI 1)))), (mti, .inl (cs 6, 2, .inr (.inr (.inr (.inr fti))))), (ti1, .inl (cs 1, 2001, .inr (.inl (vp_updL u1 0 (lN (ww * 6)))))), (hm, .inr (12, [.ref ms, .ref mkp, .int (nI 0), .ref mtr, .int (nI 4), .int (nI 2), .int (nI 2), .int (nI 3), .int (nI 2), .int (nI 1), .ref mas, .int (nI 0), .int (nI 0), .int (nI 0), .ref mso, .ref mon, .ref mot, .ref man, .int (nI 0), .int (nI 0), .ref mst, .ref msm, .ref mtb, .ref mti, .ref mfr, .ref mbn, .ref mbs, .ref mde, .int (nI 0), .int (nI 0), .int (nI 0), .int (nI 0), .long 0, .long 0, .ref maa, .ref mab, .ref mba, .ref mbb]))] H := hP
  replace hD : va_D A [(ti0, .inl (cs 1, 2001, .inr (.inl u0))), (st0, .inl (cs 0, 96048, .inl q0)), (ms, .inl (cs 0, 288, .inl freshS)), (msm, .inl (cs 0, 2, .inl (smF2 a0 (nI 1)))), (mst, .inl (cs 5, 2, .inr (.inr (.inr (.inr fst))))), (st1, .inl (cs 0, 96048, .inl (cpF freshS q1 48))), (mtb, .inl (cs 5, 2, .inr (.inr (.inr (.inr ftb))))), (tb1, .inl (cs 0, 8192, .inl (upd (fun _ => nI 0) 965 (nI 1)))), (mti, .inl (cs 6, 2, .inr (.inr (.inr (.inr fti))))), (ti1, .inl (cs 1, 2001, .inr (.inl (vp_updL u1 0 (lN (ww * 6)))))), (hm, .inr (12, [.ref ms, .ref mkp, .int (nI 0), .ref mtr, .int (nI 4), .int (nI 2), .int (nI 2), .int (nI 3), .int (nI 2), .int (nI 1), .ref mas, .int (nI 0), .int (nI 0), .int (nI 0), .ref mso, .ref mon, .ref mot, .ref man, .int (nI 0), .int (nI 0), .ref mst, .ref msm, .ref mtb, .ref mti, .ref mfr, .ref mbn, .ref mbs, .ref mde, .int (nI 0), .int (nI 0), .int (nI 0), .int (nI 0), .long 0, .long 0, .ref maa, .ref mab, .ref mba, .ref mbb]))] := hD
  obtain rfl : r_105 = nI 0 := by rw [hw_r_105]; decide +kernel
  refine lv_if_ne (tgt := 37) hx hb dX12_spreads_31 (by decide) (fun c => absurd (by decide) c) (fun _ => ?_)
  refine lv_goto (tgt := 108) hx hb dX12_spreads_34 (by decide) ?_
  refine lv_iinc (v := nI 3) (lv' := [(4, .int (nI 3)), (3, .int (nI 2)), (5, .int (nI 0)), (0, .ref hm), (1, .int (nI 0)), (2, .int (nI 0))]) hx hb dX12_spreads_108 hl (k := 0) rfl (by decide) (by decide) rfl ?_
  clear hl
  try clear ls
  intro ls hl
  refine lv_goto (tgt := 13) hx hb dX12_spreads_111 (by decide) ?_
  refine lv_iload hx hb dX12_spreads_13 (lv_at hl 0 rfl) ?_
  refine lv_iconst (v := nI 1) hx hb dX12_spreads_15 (by decide) ?_
  refine lv_aload_n hx hb dX12_spreads_16 rfl (lv_at hl 3 rfl) ?_
  refine xget C hP 10 rfl rfl zuX12 4 (by decide) zw5_217 rfl dX12_spreads_17 ?_
  refine lv_ishl hx hb dX12_spreads_20 ?_
  refine lv_topi (nm_r (e' := nI 16) (by decide) ?_)
  refine lv_icmp_ge (tgt := 114) hx hb dX12_spreads_21 (by decide) (fun c => absurd c (by decide)) (fun _ => ?_)
  refine lv_aload_n hx hb dX12_spreads_24 rfl (lv_at hl 3 rfl) ?_
  refine lv_iload_n hx hb dX12_spreads_25 rfl (lv_at hl 1 rfl) ?_
  refine lv_iload hx hb dX12_spreads_26 (lv_at hl 0 rfl) ?_
  refine xi (wr := [(ti0, .inl (cs 1, 2001, .inr (.inl u0))), (st0, .inl (cs 0, 96048, .inl q0)), (ms, .inl (cs 0, 288, .inl freshS)), (msm, .inl (cs 0, 2, .inl (smF2 a0 (nI 1)))), (mst, .inl (cs 5, 2, .inr (.inr (.inr (.inr fst))))), (st1, .inl (cs 0, 96048, .inl (cpF freshS q1 48))), (mtb, .inl (cs 5, 2, .inr (.inr (.inr (.inr ftb))))), (tb1, .inl (cs 0, 8192, .inl (upd (fun _ => nI 0) 965 (nI 1)))), (mti, .inl (cs 6, 2, .inr (.inr (.inr (.inr fti))))), (ti1, .inl (cs 1, 2001, .inr (.inl (vp_updL u1 0 (lN (ww * 6))))))]) (xV (As := [.int (nI 2), .int (nI 3)]) (rest := []) C (c_X12_isSample_x l D cs hm ms mkp mtr mas mso mon mot man mst msm mtb mti mfr mbn mbs mde maa mab mba mbb 2 3 (by decide) (by decide)) kX12_139 hP hD [10] rfl (by decide +kernel) 0 rfl rfl rfl ⟨Nat.le_of_ble_eq_true rfl, Nat.le_of_ble_eq_true rfl⟩ rfl hl.1 rfl (Nat.le_of_ble_eq_true rfl) dX12_spreads_28 ⟨Nat.le_of_ble_eq_true rfl, Nat.le_of_ble_eq_true rfl⟩) hP hD hS hA [10] [0, 1, 2, 3, 4, 5, 6, 7, 8, 9] rfl rfl (by decide +kernel) (by decide +kernel) ?_
  clear hP hD hS
  try clear locs
  try clear H
  intro r_107 u_108 H locs hw_r_107 hP hD hS
  have hw_r_107 : r_107 = smB 2 3 := hw_r_107
  refine W.widen (k := 0) (n := 0) (Nat.le_of_ble_eq_true rfl) (Nat.le_of_ble_eq_true rfl) ?_
  replace hP : va_P D vwCl [(ti0, .inl (cs 1, 2001, .inr (.inl u0))), (st0, .inl (cs 0, 96048, .inl q0)), (ms, .inl (cs 0, 288, .inl freshS)), (msm, .inl (cs 0, 2, .inl (smF2 a0 (nI 1)))), (mst, .inl (cs 5, 2, .inr (.inr (.inr (.inr fst))))), (st1, .inl (cs 0, 96048, .inl (cpF freshS q1 48))), (mtb, .inl (cs 5, 2, .inr (.inr (.inr (.inr ftb))))), (tb1, .inl (cs 0, 8192, .inl (upd (fun _ => nI 0) 965 (nI 1)))), (mti, .inl (cs 6, 2, .inr (.inr (.inr (.inr fti))))), (ti1, .inl (cs 1, 2001, .inr (.inl (vp_updL u1 0 (lN (ww * 6)))))), (hm, .inr (12, [.ref ms, .ref mkp, .int (nI 0), .ref mtr, .int (nI 4), .int (nI 2), .int (nI 2), .int (nI 3), .int (nI 2), .int (nI 1), .ref mas, .int (nI 0), .int (nI 0), .int (nI 0), .ref mso, .ref mon, .ref mot, .ref man, .int (nI 0), .int (nI 0), .ref mst, .ref msm, .ref mtb, .ref mti, .ref mfr, .ref mbn, .ref mbs, .ref mde, .int (nI 0), .int (nI 0), .int (nI 0), .int (nI 0), .long 0, .long 0, .ref maa, .ref mab, .ref mba, .ref mbb]))] H := hP
  replace hD : va_D A [(ti0, .inl (cs 1, 2001, .inr (.inl u0))), (st0, .inl (cs 0, 96048, .inl q0)), (ms, .inl (cs 0, 288, .inl freshS)), (msm, .inl (cs 0, 2, .inl (smF2 a0 (nI 1)))), (mst, .inl (cs 5, 2, .inr (.inr (.inr (.inr fst))))), (st1, .inl (cs 0, 96048, .inl (cpF freshS q1 48))), (mtb, .inl (cs 5, 2, .inr (.inr (.inr (.inr ftb))))), (tb1, .inl (cs 0, 8192, .inl (upd (fun _ => nI 0) 965 (nI 1)))), (mti, .inl (cs 6, 2, .inr (.inr (.inr (.inr fti))))), (ti1, .inl (cs 1, 2001, .inr (.inl (vp_updL u1 0 (lN (ww * 6)))))), (hm, .inr (12, [.ref ms, .ref mkp, .int (nI 0), .ref mtr, .int (nI 4), .int (nI 2), .int (nI 2), .int (nI 3), .int (nI 2), .int (nI 1), .ref mas, .int (nI 0), .int (nI 0), .int (nI 0), .ref mso, .ref mon, .ref mot, .ref man, .int (nI 0), .int (nI 0), .ref mst, .ref msm, .ref mtb, .ref mti, .ref mfr, .ref mbn, .ref mbs, .ref mde, .int (nI 0), .int (nI 0), .int (nI 0), .int (nI 0), .long 0, .long 0, .ref maa, .ref mab, .ref mba, .ref mbb]))] := hD
  obtain rfl : r_107 = nI 1 := by rw [hw_r_107]; decide +kernel
  refine lv_if_ne (tgt := 37) hx hb dX12_spreads_31 (by decide) (fun _ => ?_) (fun c => absurd c (by decide))
  refine lv_aload_n hx hb dX12_spreads_37 rfl (lv_at hl 3 rfl) ?_
  refine lv_iload_n hx hb dX12_spreads_38 rfl (lv_at hl 4 rfl) ?_
  refine lv_iload_n hx hb dX12_spreads_39 rfl (lv_at hl 5 rfl) ?_
  refine xv (wr := [(ti0, .inl (cs 1, 2001, .inr (.inl u0))), (msm, .inl (cs 0, 2, .inl (smF2 a0 (nI 1)))), (st1, .inl (cs 0, 96048, .inl (cpF freshS q1 48))), (mtb, .inl (cs 5, 2, .inr (.inr (.inr (.inr ftb))))), (tb1, .inl (cs 0, 8192, .inl (upd (fun _ => nI 0) 965 (nI 1)))), (mti, .inl (cs 6, 2, .inr (.inr (.inr (.inr fti))))), (ti1, .inl (cs 1, 2001, .inr (.inl (vp_updL u1 0 (lN (ww * 6))))))]) (xV (As := [.int (nI 0), .int (nI 0)]) (rest := []) C (c_X12_brings_0 l D cs hm ms mkp mtr mas mso mon mot man mst msm mtb mti mfr mbn mbs mde maa mab mba mbb st0 fst q0 hf0 hq) kX12_203 hP hD [10, 2, 4, 1] rfl (by decide +kernel) 0 rfl rfl rfl ⟨Nat.le_of_ble_eq_true rfl, Nat.le_of_ble_eq_true rfl⟩ rfl hl.1 rfl (Nat.le_of_ble_eq_true rfl) dX12_spreads_40 ⟨Nat.le_of_ble_eq_true rfl, Nat.le_of_ble_eq_true rfl⟩) hP hD hS hA [10, 2, 4, 1] [0, 3, 5, 6, 7, 8, 9] rfl rfl (by decide +kernel) (by decide +kernel) ?_
  clear hP hD hS
  try clear locs
  try clear H
  intro u_110 H locs hw_r_109 hP hD hS
  refine W.widen (k := 0) (n := 0) (Nat.le_of_ble_eq_true rfl) (Nat.le_of_ble_eq_true rfl) ?_
  replace hP : va_P D vwCl [(ti0, .inl (cs 1, 2001, .inr (.inl u0))), (msm, .inl (cs 0, 2, .inl (smF2 a0 (nI 1)))), (st1, .inl (cs 0, 96048, .inl (cpF freshS q1 48))), (mtb, .inl (cs 5, 2, .inr (.inr (.inr (.inr ftb))))), (tb1, .inl (cs 0, 8192, .inl (upd (fun _ => nI 0) 965 (nI 1)))), (mti, .inl (cs 6, 2, .inr (.inr (.inr (.inr fti))))), (ti1, .inl (cs 1, 2001, .inr (.inl (vp_updL u1 0 (lN (ww * 6)))))), (hm, .inr (12, [.ref ms, .ref mkp, .int (nI 0), .ref mtr, .int (nI 4), .int (nI 2), .int (nI 2), .int (nI 3), .int (nI 2), .int (nI 1), .ref mas, .int (nI 0), .int (nI 0), .int (nI 0), .ref mso, .ref mon, .ref mot, .ref man, .int (nI 0), .int (nI 0), .ref mst, .ref msm, .ref mtb, .ref mti, .ref mfr, .ref mbn, .ref mbs, .ref mde, .int (nI 0), .int (nI 0), .int (nI 0), .int (nI 0), .long 0, .long 0, .ref maa, .ref mab, .ref mba, .ref mbb])), (ms, .inl (cs 0, 288, .inl freshS)), (mst, .inl (cs 5, 2, .inr (.inr (.inr (.inr fst))))), (st0, .inl (cs 0, 96048, .inl q0))] H := hP
  replace hD : va_D A [(ti0, .inl (cs 1, 2001, .inr (.inl u0))), (msm, .inl (cs 0, 2, .inl (smF2 a0 (nI 1)))), (st1, .inl (cs 0, 96048, .inl (cpF freshS q1 48))), (mtb, .inl (cs 5, 2, .inr (.inr (.inr (.inr ftb))))), (tb1, .inl (cs 0, 8192, .inl (upd (fun _ => nI 0) 965 (nI 1)))), (mti, .inl (cs 6, 2, .inr (.inr (.inr (.inr fti))))), (ti1, .inl (cs 1, 2001, .inr (.inl (vp_updL u1 0 (lN (ww * 6)))))), (hm, .inr (12, [.ref ms, .ref mkp, .int (nI 0), .ref mtr, .int (nI 4), .int (nI 2), .int (nI 2), .int (nI 3), .int (nI 2), .int (nI 1), .ref mas, .int (nI 0), .int (nI 0), .int (nI 0), .ref mso, .ref mon, .ref mot, .ref man, .int (nI 0), .int (nI 0), .ref mst, .ref msm, .ref mtb, .ref mti, .ref mfr, .ref mbn, .ref mbs, .ref mde, .int (nI 0), .int (nI 0), .int (nI 0), .int (nI 0), .long 0, .long 0, .ref maa, .ref mab, .ref mba, .ref mbb])), (ms, .inl (cs 0, 288, .inl freshS)), (mst, .inl (cs 5, 2, .inr (.inr (.inr (.inr fst))))), (st0, .inl (cs 0, 96048, .inl q0))] := hD
  refine lv_aload_n hx hb dX12_spreads_43 rfl (lv_at hl 3 rfl) ?_
  refine lv_iload_n hx hb dX12_spreads_44 rfl (lv_at hl 1 rfl) ?_
  refine xi (wr := [(ti0, .inl (cs 1, 2001, .inr (.inl u0))), (msm, .inl (cs 0, 2, .inl (smF2 a0 (nI 1)))), (st1, .inl (cs 0, 96048, .inl (cpF freshS q1 48))), (mtb, .inl (cs 5, 2, .inr (.inr (.inr (.inr ftb))))), (tb1, .inl (cs 0, 8192, .inl (upd (fun _ => nI 0) 965 (nI 1)))), (mti, .inl (cs 6, 2, .inr (.inr (.inr (.inr fti))))), (ti1, .inl (cs 1, 2001, .inr (.inl (vp_updL u1 0 (lN (ww * 6)))))), (mst, .inl (cs 5, 2, .inr (.inr (.inr (.inr fst))))), (st0, .inl (cs 0, 96048, .inl q0))]) (xV (As := [.int (nI 2)]) (rest := []) C (c_X12_canAsk_z l D cs hm ms mkp mtr mas mso mon mot man mst msm mtb mti mfr mbn mbs mde maa mab mba mbb 2 (by decide)) kX12_142 hP hD [7, 8] rfl (by decide +kernel) 0 rfl rfl rfl ⟨Nat.le_of_ble_eq_true rfl, Nat.le_of_ble_eq_true rfl⟩ rfl hl.1 rfl (Nat.le_of_ble_eq_true rfl) dX12_spreads_45 ⟨Nat.le_of_ble_eq_true rfl, Nat.le_of_ble_eq_true rfl⟩) hP hD hS hA [7, 8] [0, 1, 2, 3, 4, 5, 6, 9, 10] rfl rfl (by decide +kernel) (by decide +kernel) ?_
  clear hP hD hS
  try clear locs
  try clear H
  intro r_111 u_112 H locs hw_r_111 hP hD hS
  have hw_r_111 : r_111 = nI 0 := hw_r_111
  refine W.widen (k := 0) (n := 0) (Nat.le_of_ble_eq_true rfl) (Nat.le_of_ble_eq_true rfl) ?_
  replace hP : va_P D vwCl [(ti0, .inl (cs 1, 2001, .inr (.inl u0))), (msm, .inl (cs 0, 2, .inl (smF2 a0 (nI 1)))), (st1, .inl (cs 0, 96048, .inl (cpF freshS q1 48))), (mtb, .inl (cs 5, 2, .inr (.inr (.inr (.inr ftb))))), (tb1, .inl (cs 0, 8192, .inl (upd (fun _ => nI 0) 965 (nI 1)))), (mti, .inl (cs 6, 2, .inr (.inr (.inr (.inr fti))))), (ti1, .inl (cs 1, 2001, .inr (.inl (vp_updL u1 0 (lN (ww * 6)))))), (mst, .inl (cs 5, 2, .inr (.inr (.inr (.inr fst))))), (st0, .inl (cs 0, 96048, .inl q0)), (hm, .inr (12, [.ref ms, .ref mkp, .int (nI 0), .ref mtr, .int (nI 4), .int (nI 2), .int (nI 2), .int (nI 3), .int (nI 2), .int (nI 1), .ref mas, .int (nI 0), .int (nI 0), .int (nI 0), .ref mso, .ref mon, .ref mot, .ref man, .int (nI 0), .int (nI 0), .ref mst, .ref msm, .ref mtb, .ref mti, .ref mfr, .ref mbn, .ref mbs, .ref mde, .int (nI 0), .int (nI 0), .int (nI 0), .int (nI 0), .long 0, .long 0, .ref maa, .ref mab, .ref mba, .ref mbb])), (ms, .inl (cs 0, 288, .inl freshS))] H := hP
  replace hD : va_D A [(ti0, .inl (cs 1, 2001, .inr (.inl u0))), (msm, .inl (cs 0, 2, .inl (smF2 a0 (nI 1)))), (st1, .inl (cs 0, 96048, .inl (cpF freshS q1 48))), (mtb, .inl (cs 5, 2, .inr (.inr (.inr (.inr ftb))))), (tb1, .inl (cs 0, 8192, .inl (upd (fun _ => nI 0) 965 (nI 1)))), (mti, .inl (cs 6, 2, .inr (.inr (.inr (.inr fti))))), (ti1, .inl (cs 1, 2001, .inr (.inl (vp_updL u1 0 (lN (ww * 6)))))), (mst, .inl (cs 5, 2, .inr (.inr (.inr (.inr fst))))), (st0, .inl (cs 0, 96048, .inl q0)), (hm, .inr (12, [.ref ms, .ref mkp, .int (nI 0), .ref mtr, .int (nI 4), .int (nI 2), .int (nI 2), .int (nI 3), .int (nI 2), .int (nI 1), .ref mas, .int (nI 0), .int (nI 0), .int (nI 0), .ref mso, .ref mon, .ref mot, .ref man, .int (nI 0), .int (nI 0), .ref mst, .ref msm, .ref mtb, .ref mti, .ref mfr, .ref mbn, .ref mbs, .ref mde, .int (nI 0), .int (nI 0), .int (nI 0), .int (nI 0), .long 0, .long 0, .ref maa, .ref mab, .ref mba, .ref mbb])), (ms, .inl (cs 0, 288, .inl freshS))] := hD
  subst hw_r_111
  refine lv_if_eq (tgt := 67) hx hb dX12_spreads_48 (by decide) (fun _ => ?_) (fun c => absurd (by decide) c)
  refine lv_aload_n hx hb dX12_spreads_67 rfl (lv_at hl 3 rfl) ?_
  refine lv_iconst (v := nI 1) hx hb dX12_spreads_68 (by decide) ?_
  refine lv_iload_n hx hb dX12_spreads_69 rfl (lv_at hl 4 rfl) ?_
  refine lv_isub hx hb dX12_spreads_70 ?_
  refine lv_topi (nm_r (e' := nI 1) (by decide) ?_)
  refine lv_sipush (v := nI 2000) hx hb dX12_spreads_71 (by decide) ?_
  refine xi (wr := [(ti0, .inl (cs 1, 2001, .inr (.inl u0))), (st0, .inl (cs 0, 96048, .inl q0))]) (xV (As := [.int (nI 1), .int (nI 2000)]) (rest := []) C (c_X12_numberOf_b1 l D cs hm ms mkp mtr mas mso mon mot man mst msm mtb mti mfr mbn mbs mde maa mab mba mbb st1 tb1 ti1 fst ftb fti (smF2 a0 (nI 1)) (cpF freshS q1 48) (upd (fun _ => nI 0) 965 (nI 1)) (vp_updL u1 0 (lN (ww * 6))) hf1 hg ht1 (if_pos rfl) (fun j hj => cpF_lt hj)) kX12_197 hP hD [9, 10, 1, 7, 2, 3, 4, 5, 6] rfl (by decide +kernel) 0 rfl rfl rfl ⟨Nat.le_of_ble_eq_true rfl, Nat.le_of_ble_eq_true rfl⟩ rfl hl.1 rfl (Nat.le_of_ble_eq_true rfl) dX12_spreads_74 ⟨Nat.le_of_ble_eq_true rfl, Nat.le_of_ble_eq_true rfl⟩) hP hD hS hA [9, 10, 1, 7, 2, 3, 4, 5, 6] [0, 8] rfl rfl (by decide +kernel) (by decide +kernel) ?_
  clear hP hD hS
  try clear locs
  try clear H
  intro r_113 u_114 H locs hw_r_113 hP hD hS
  have hw_r_113 : r_113 = nI 0 := hw_r_113
  refine W.widen (k := 0) (n := 0) (Nat.le_of_ble_eq_true rfl) (Nat.le_of_ble_eq_true rfl) ?_
  replace hP : va_P D vwCl [(ti0, .inl (cs 1, 2001, .inr (.inl u0))), (st0, .inl (cs 0, 96048, .inl q0)), (hm, .inr (12, [.ref ms, .ref mkp, .int (nI 0), .ref mtr, .int (nI 4), .int (nI 2), .int (nI 2), .int (nI 3), .int (nI 2), .int (nI 1), .ref mas, .int (nI 0), .int (nI 0), .int (nI 0), .ref mso, .ref mon, .ref mot, .ref man, .int (nI 0), .int (nI 0), .ref mst, .ref msm, .ref mtb, .ref mti, .ref mfr, .ref mbn, .ref mbs, .ref mde, .int (nI 0), .int (nI 0), .int (nI 0), .int (nI 0), .long 0, .long 0, .ref maa, .ref mab, .ref mba, .ref mbb])), (ms, .inl (cs 0, 288, .inl freshS)), (msm, .inl (cs 0, 2, .inl (smF2 a0 (nI 1)))), (mst, .inl (cs 5, 2, .inr (.inr (.inr (.inr fst))))), (st1, .inl (cs 0, 96048, .inl (cpF freshS q1 48))), (mtb, .inl (cs 5, 2, .inr (.inr (.inr (.inr ftb))))), (tb1, .inl (cs 0, 8192, .inl (upd (fun _ => nI 0) 965 (nI 1)))), (mti, .inl (cs 6, 2, .inr (.inr (.inr (.inr fti))))), (ti1, .inl (cs 1, 2001, .inr (.inl (vp_updL u1 0 (lN (ww * 6))))))] H := hP
  replace hD : va_D A [(ti0, .inl (cs 1, 2001, .inr (.inl u0))), (st0, .inl (cs 0, 96048, .inl q0)), (hm, .inr (12, [.ref ms, .ref mkp, .int (nI 0), .ref mtr, .int (nI 4), .int (nI 2), .int (nI 2), .int (nI 3), .int (nI 2), .int (nI 1), .ref mas, .int (nI 0), .int (nI 0), .int (nI 0), .ref mso, .ref mon, .ref mot, .ref man, .int (nI 0), .int (nI 0), .ref mst, .ref msm, .ref mtb, .ref mti, .ref mfr, .ref mbn, .ref mbs, .ref mde, .int (nI 0), .int (nI 0), .int (nI 0), .int (nI 0), .long 0, .long 0, .ref maa, .ref mab, .ref mba, .ref mbb])), (ms, .inl (cs 0, 288, .inl freshS)), (msm, .inl (cs 0, 2, .inl (smF2 a0 (nI 1)))), (mst, .inl (cs 5, 2, .inr (.inr (.inr (.inr fst))))), (st1, .inl (cs 0, 96048, .inl (cpF freshS q1 48))), (mtb, .inl (cs 5, 2, .inr (.inr (.inr (.inr ftb))))), (tb1, .inl (cs 0, 8192, .inl (upd (fun _ => nI 0) 965 (nI 1)))), (mti, .inl (cs 6, 2, .inr (.inr (.inr (.inr fti))))), (ti1, .inl (cs 1, 2001, .inr (.inl (vp_updL u1 0 (lN (ww * 6))))))] := hD
  subst hw_r_113
  refine lv_istore (lv' := [(5, .int (nI 0)), (4, .int (nI 3)), (3, .int (nI 2)), (0, .ref hm), (1, .int (nI 0)), (2, .int (nI 0))]) hx hb dX12_spreads_77 hl (by decide) rfl ?_
  clear hl
  try clear ls
  intro ls hl
  refine lv_iload hx hb dX12_spreads_79 (lv_at hl 0 rfl) ?_
  refine lv_if_ge (tgt := 86) hx hb dX12_spreads_81 (by decide) (fun _ => ?_) (fun c => absurd (by decide) c)
  refine lv_aload_n hx hb dX12_spreads_86 rfl (lv_at hl 3 rfl) ?_
  refine xget C hP 2 rfl rfl zuX12 23 (by decide) zw5_236 rfl dX12_spreads_87 ?_
  refine lv_iconst (v := nI 1) hx hb dX12_spreads_90 (by decide) ?_
  refine lv_iload_n hx hb dX12_spreads_91 rfl (lv_at hl 4 rfl) ?_
  refine lv_isub hx hb dX12_spreads_92 ?_
  refine lv_topi (nm_r (e' := nI 1) (by decide) ?_)
  refine xaald C hP 9 6 rfl rfl rfl 1 rfl (by decide) (by decide) ht1 dX12_spreads_93 ?_
  refine lv_iload hx hb dX12_spreads_94 (lv_at hl 0 rfl) ?_
  refine lv_dup2_11 hx hb dX12_spreads_96 rfl rfl ?_
  refine xlald C hP 10 rfl 0 rfl (by decide) (by decide) dX12_spreads_97 ?_
  refine lv_topl (nm_r (e' := lN (ww * 6)) (upL_0 _ _) ?_)
  refine lv_aload_n hx hb dX12_spreads_98 rfl (lv_at hl 3 rfl) ?_
  refine xget C hP 2 rfl rfl zuX12 23 (by decide) zw5_236 rfl dX12_spreads_99 ?_
  refine lv_iload_n hx hb dX12_spreads_102 rfl (lv_at hl 4 rfl) ?_
  refine xaald C hP 9 6 rfl rfl rfl 0 rfl (by decide) (by decide) ht0 dX12_spreads_103 ?_
  refine lv_iload_n hx hb dX12_spreads_104 rfl (lv_at hl 5 rfl) ?_
  refine xlald C hP 0 rfl 0 rfl (by decide) (by decide) dX12_spreads_105 ?_
  refine lv_topl (nm_r (e' := lN ww) hw ?_)
  refine lv_ladd hx hb dX12_spreads_106 ?_
  refine lv_topl (nm_r (e' := lN (ww * 7)) (lN_a ww 6) ?_)
  refine xlast C hP hD hS 10 rfl 0 rfl (by decide) (by decide) dX12_spreads_107 ?_
  clear hP hD hS
  try clear locs
  try clear H
  intro H locs hP hD hS
  replace hP : va_P D vwCl [(ti0, .inl (cs 1, 2001, .inr (.inl u0))), (st0, .inl (cs 0, 96048, .inl q0)), (hm, .inr (12, [.ref ms, .ref mkp, .int (nI 0), .ref mtr, .int (nI 4), .int (nI 2), .int (nI 2), .int (nI 3), .int (nI 2), .int (nI 1), .ref mas, .int (nI 0), .int (nI 0), .int (nI 0), .ref mso, .ref mon, .ref mot, .ref man, .int (nI 0), .int (nI 0), .ref mst, .ref msm, .ref mtb, .ref mti, .ref mfr, .ref mbn, .ref mbs, .ref mde, .int (nI 0), .int (nI 0), .int (nI 0), .int (nI 0), .long 0, .long 0, .ref maa, .ref mab, .ref mba, .ref mbb])), (ms, .inl (cs 0, 288, .inl freshS)), (msm, .inl (cs 0, 2, .inl (smF2 a0 (nI 1)))), (mst, .inl (cs 5, 2, .inr (.inr (.inr (.inr fst))))), (st1, .inl (cs 0, 96048, .inl (cpF freshS q1 48))), (mtb, .inl (cs 5, 2, .inr (.inr (.inr (.inr ftb))))), (tb1, .inl (cs 0, 8192, .inl (upd (fun _ => nI 0) 965 (nI 1)))), (mti, .inl (cs 6, 2, .inr (.inr (.inr (.inr fti))))), (ti1, .inl (cs 1, 2001, .inr (.inl (vp_updL (vp_updL u1 0 (lN (ww * 6))) 0 (lN (ww * 7))))))] H := hP
  replace hD : va_D A [(ti0, .inl (cs 1, 2001, .inr (.inl u0))), (st0, .inl (cs 0, 96048, .inl q0)), (hm, .inr (12, [.ref ms, .ref mkp, .int (nI 0), .ref mtr, .int (nI 4), .int (nI 2), .int (nI 2), .int (nI 3), .int (nI 2), .int (nI 1), .ref mas, .int (nI 0), .int (nI 0), .int (nI 0), .ref mso, .ref mon, .ref mot, .ref man, .int (nI 0), .int (nI 0), .ref mst, .ref msm, .ref mtb, .ref mti, .ref mfr, .ref mbn, .ref mbs, .ref mde, .int (nI 0), .int (nI 0), .int (nI 0), .int (nI 0), .long 0, .long 0, .ref maa, .ref mab, .ref mba, .ref mbb])), (ms, .inl (cs 0, 288, .inl freshS)), (msm, .inl (cs 0, 2, .inl (smF2 a0 (nI 1)))), (mst, .inl (cs 5, 2, .inr (.inr (.inr (.inr fst))))), (st1, .inl (cs 0, 96048, .inl (cpF freshS q1 48))), (mtb, .inl (cs 5, 2, .inr (.inr (.inr (.inr ftb))))), (tb1, .inl (cs 0, 8192, .inl (upd (fun _ => nI 0) 965 (nI 1)))), (mti, .inl (cs 6, 2, .inr (.inr (.inr (.inr fti))))), (ti1, .inl (cs 1, 2001, .inr (.inl (vp_updL (vp_updL u1 0 (lN (ww * 6))) 0 (lN (ww * 7))))))] := hD
  have hPD := xcongl (q0 := 10) (vp_updL u1 0 (lN (ww * 7))) hP hD rfl (fun j hj => upL_1 u1 _ _ j)
  clear hP hD
  obtain ⟨hP, hD⟩ := hPD
  replace hP : va_P D vwCl [(ti0, .inl (cs 1, 2001, .inr (.inl u0))), (st0, .inl (cs 0, 96048, .inl q0)), (hm, .inr (12, [.ref ms, .ref mkp, .int (nI 0), .ref mtr, .int (nI 4), .int (nI 2), .int (nI 2), .int (nI 3), .int (nI 2), .int (nI 1), .ref mas, .int (nI 0), .int (nI 0), .int (nI 0), .ref mso, .ref mon, .ref mot, .ref man, .int (nI 0), .int (nI 0), .ref mst, .ref msm, .ref mtb, .ref mti, .ref mfr, .ref mbn, .ref mbs, .ref mde, .int (nI 0), .int (nI 0), .int (nI 0), .int (nI 0), .long 0, .long 0, .ref maa, .ref mab, .ref mba, .ref mbb])), (ms, .inl (cs 0, 288, .inl freshS)), (msm, .inl (cs 0, 2, .inl (smF2 a0 (nI 1)))), (mst, .inl (cs 5, 2, .inr (.inr (.inr (.inr fst))))), (st1, .inl (cs 0, 96048, .inl (cpF freshS q1 48))), (mtb, .inl (cs 5, 2, .inr (.inr (.inr (.inr ftb))))), (tb1, .inl (cs 0, 8192, .inl (upd (fun _ => nI 0) 965 (nI 1)))), (mti, .inl (cs 6, 2, .inr (.inr (.inr (.inr fti))))), (ti1, .inl (cs 1, 2001, .inr (.inl (vp_updL u1 0 (lN (ww * 7))))))] H := hP
  replace hD : va_D A [(ti0, .inl (cs 1, 2001, .inr (.inl u0))), (st0, .inl (cs 0, 96048, .inl q0)), (hm, .inr (12, [.ref ms, .ref mkp, .int (nI 0), .ref mtr, .int (nI 4), .int (nI 2), .int (nI 2), .int (nI 3), .int (nI 2), .int (nI 1), .ref mas, .int (nI 0), .int (nI 0), .int (nI 0), .ref mso, .ref mon, .ref mot, .ref man, .int (nI 0), .int (nI 0), .ref mst, .ref msm, .ref mtb, .ref mti, .ref mfr, .ref mbn, .ref mbs, .ref mde, .int (nI 0), .int (nI 0), .int (nI 0), .int (nI 0), .long 0, .long 0, .ref maa, .ref mab, .ref mba, .ref mbb])), (ms, .inl (cs 0, 288, .inl freshS)), (msm, .inl (cs 0, 2, .inl (smF2 a0 (nI 1)))), (mst, .inl (cs 5, 2, .inr (.inr (.inr (.inr fst))))), (st1, .inl (cs 0, 96048, .inl (cpF freshS q1 48))), (mtb, .inl (cs 5, 2, .inr (.inr (.inr (.inr ftb))))), (tb1, .inl (cs 0, 8192, .inl (upd (fun _ => nI 0) 965 (nI 1)))), (mti, .inl (cs 6, 2, .inr (.inr (.inr (.inr fti))))), (ti1, .inl (cs 1, 2001, .inr (.inl (vp_updL u1 0 (lN (ww * 7))))))] := hD
  refine lv_iinc (v := nI 4) (lv' := [(4, .int (nI 4)), (5, .int (nI 0)), (3, .int (nI 2)), (0, .ref hm), (1, .int (nI 0)), (2, .int (nI 0))]) hx hb dX12_spreads_108 hl (k := 1) rfl (by decide) (by decide) rfl ?_
  clear hl
  try clear ls
  intro ls hl
  refine lv_goto (tgt := 13) hx hb dX12_spreads_111 (by decide) ?_
  refine lv_iload hx hb dX12_spreads_13 (lv_at hl 0 rfl) ?_
  refine lv_iconst (v := nI 1) hx hb dX12_spreads_15 (by decide) ?_
  refine lv_aload_n hx hb dX12_spreads_16 rfl (lv_at hl 3 rfl) ?_
  refine xget C hP 2 rfl rfl zuX12 4 (by decide) zw5_217 rfl dX12_spreads_17 ?_
  refine lv_ishl hx hb dX12_spreads_20 ?_
  refine lv_topi (nm_r (e' := nI 16) (by decide) ?_)
  refine lv_icmp_ge (tgt := 114) hx hb dX12_spreads_21 (by decide) (fun c => absurd c (by decide)) (fun _ => ?_)
  refine lv_aload_n hx hb dX12_spreads_24 rfl (lv_at hl 3 rfl) ?_
  refine lv_iload_n hx hb dX12_spreads_25 rfl (lv_at hl 2 rfl) ?_
  refine lv_iload hx hb dX12_spreads_26 (lv_at hl 0 rfl) ?_
  refine xi (wr := [(ti0, .inl (cs 1, 2001, .inr (.inl u0))), (st0, .inl (cs 0, 96048, .inl q0)), (ms, .inl (cs 0, 288, .inl freshS)), (msm, .inl (cs 0, 2, .inl (smF2 a0 (nI 1)))), (mst, .inl (cs 5, 2, .inr (.inr (.inr (.inr fst))))), (st1, .inl (cs 0, 96048, .inl (cpF freshS q1 48))), (mtb, .inl (cs 5, 2, .inr (.inr (.inr (.inr ftb))))), (tb1, .inl (cs 0, 8192, .inl (upd (fun _ => nI 0) 965 (nI 1)))), (mti, .inl (cs 6, 2, .inr (.inr (.inr (.inr fti))))), (ti1, .inl (cs 1, 2001, .inr (.inl (vp_updL u1 0 (lN (ww * 7))))))]) (xV (As := [.int (nI 2), .int (nI 4)]) (rest := []) C (c_X12_isSample_x l D cs hm ms mkp mtr mas mso mon mot man mst msm mtb mti mfr mbn mbs mde maa mab mba mbb 2 4 (by decide) (by decide)) kX12_139 hP hD [2] rfl (by decide +kernel) 0 rfl rfl rfl ⟨Nat.le_of_ble_eq_true rfl, Nat.le_of_ble_eq_true rfl⟩ rfl hl.1 rfl (Nat.le_of_ble_eq_true rfl) dX12_spreads_28 ⟨Nat.le_of_ble_eq_true rfl, Nat.le_of_ble_eq_true rfl⟩) hP hD hS hA [2] [0, 1, 3, 4, 5, 6, 7, 8, 9, 10] rfl rfl (by decide +kernel) (by decide +kernel) ?_
  clear hP hD hS
  try clear locs
  try clear H
  intro r_115 u_116 H locs hw_r_115 hP hD hS
  have hw_r_115 : r_115 = smB 2 4 := hw_r_115
  refine W.widen (k := 0) (n := 0) (Nat.le_of_ble_eq_true rfl) (Nat.le_of_ble_eq_true rfl) ?_
  replace hP : va_P D vwCl [(ti0, .inl (cs 1, 2001, .inr (.inl u0))), (st0, .inl (cs 0, 96048, .inl q0)), (ms, .inl (cs 0, 288, .inl freshS)), (msm, .inl (cs 0, 2, .inl (smF2 a0 (nI 1)))), (mst, .inl (cs 5, 2, .inr (.inr (.inr (.inr fst))))), (st1, .inl (cs 0, 96048, .inl (cpF freshS q1 48))), (mtb, .inl (cs 5, 2, .inr (.inr (.inr (.inr ftb))))), (tb1, .inl (cs 0, 8192, .inl (upd (fun _ => nI 0) 965 (nI 1)))), (mti, .inl (cs 6, 2, .inr (.inr (.inr (.inr fti))))), (ti1, .inl (cs 1, 2001, .inr (.inl (vp_updL u1 0 (lN (ww * 7)))))), (hm, .inr (12, [.ref ms, .ref mkp, .int (nI 0), .ref mtr, .int (nI 4), .int (nI 2), .int (nI 2), .int (nI 3), .int (nI 2), .int (nI 1), .ref mas, .int (nI 0), .int (nI 0), .int (nI 0), .ref mso, .ref mon, .ref mot, .ref man, .int (nI 0), .int (nI 0), .ref mst, .ref msm, .ref mtb, .ref mti, .ref mfr, .ref mbn, .ref mbs, .ref mde, .int (nI 0), .int (nI 0), .int (nI 0), .int (nI 0), .long 0, .long 0, .ref maa, .ref mab, .ref mba, .ref mbb]))] H := hP
  replace hD : va_D A [(ti0, .inl (cs 1, 2001, .inr (.inl u0))), (st0, .inl (cs 0, 96048, .inl q0)), (ms, .inl (cs 0, 288, .inl freshS)), (msm, .inl (cs 0, 2, .inl (smF2 a0 (nI 1)))), (mst, .inl (cs 5, 2, .inr (.inr (.inr (.inr fst))))), (st1, .inl (cs 0, 96048, .inl (cpF freshS q1 48))), (mtb, .inl (cs 5, 2, .inr (.inr (.inr (.inr ftb))))), (tb1, .inl (cs 0, 8192, .inl (upd (fun _ => nI 0) 965 (nI 1)))), (mti, .inl (cs 6, 2, .inr (.inr (.inr (.inr fti))))), (ti1, .inl (cs 1, 2001, .inr (.inl (vp_updL u1 0 (lN (ww * 7)))))), (hm, .inr (12, [.ref ms, .ref mkp, .int (nI 0), .ref mtr, .int (nI 4), .int (nI 2), .int (nI 2), .int (nI 3), .int (nI 2), .int (nI 1), .ref mas, .int (nI 0), .int (nI 0), .int (nI 0), .ref mso, .ref mon, .ref mot, .ref man, .int (nI 0), .int (nI 0), .ref mst, .ref msm, .ref mtb, .ref mti, .ref mfr, .ref mbn, .ref mbs, .ref mde, .int (nI 0), .int (nI 0), .int (nI 0), .int (nI 0), .long 0, .long 0, .ref maa, .ref mab, .ref mba, .ref mbb]))] := hD
  obtain rfl : r_115 = nI 0 := by rw [hw_r_115]; decide +kernel
  refine lv_if_ne (tgt := 37) hx hb dX12_spreads_31 (by decide) (fun c => absurd (by decide) c) (fun _ => ?_)
  refine lv_goto (tgt := 108) hx hb dX12_spreads_34 (by decide) ?_
  refine lv_iinc (v := nI 5) (lv' := [(4, .int (nI 5)), (5, .int (nI 0)), (3, .int (nI 2)), (0, .ref hm), (1, .int (nI 0)), (2, .int (nI 0))]) hx hb dX12_spreads_108 hl (k := 0) rfl (by decide) (by decide) rfl ?_
  clear hl
  try clear ls
  intro ls hl
  refine lv_goto (tgt := 13) hx hb dX12_spreads_111 (by decide) ?_
  refine lv_iload hx hb dX12_spreads_13 (lv_at hl 0 rfl) ?_
  refine lv_iconst (v := nI 1) hx hb dX12_spreads_15 (by decide) ?_
  refine lv_aload_n hx hb dX12_spreads_16 rfl (lv_at hl 3 rfl) ?_
  refine xget C hP 10 rfl rfl zuX12 4 (by decide) zw5_217 rfl dX12_spreads_17 ?_
  refine lv_ishl hx hb dX12_spreads_20 ?_
  refine lv_topi (nm_r (e' := nI 16) (by decide) ?_)
  refine lv_icmp_ge (tgt := 114) hx hb dX12_spreads_21 (by decide) (fun c => absurd c (by decide)) (fun _ => ?_)
  refine lv_aload_n hx hb dX12_spreads_24 rfl (lv_at hl 3 rfl) ?_
  refine lv_iload_n hx hb dX12_spreads_25 rfl (lv_at hl 2 rfl) ?_
  refine lv_iload hx hb dX12_spreads_26 (lv_at hl 0 rfl) ?_
  refine xi (wr := [(ti0, .inl (cs 1, 2001, .inr (.inl u0))), (st0, .inl (cs 0, 96048, .inl q0)), (ms, .inl (cs 0, 288, .inl freshS)), (msm, .inl (cs 0, 2, .inl (smF2 a0 (nI 1)))), (mst, .inl (cs 5, 2, .inr (.inr (.inr (.inr fst))))), (st1, .inl (cs 0, 96048, .inl (cpF freshS q1 48))), (mtb, .inl (cs 5, 2, .inr (.inr (.inr (.inr ftb))))), (tb1, .inl (cs 0, 8192, .inl (upd (fun _ => nI 0) 965 (nI 1)))), (mti, .inl (cs 6, 2, .inr (.inr (.inr (.inr fti))))), (ti1, .inl (cs 1, 2001, .inr (.inl (vp_updL u1 0 (lN (ww * 7))))))]) (xV (As := [.int (nI 2), .int (nI 5)]) (rest := []) C (c_X12_isSample_x l D cs hm ms mkp mtr mas mso mon mot man mst msm mtb mti mfr mbn mbs mde maa mab mba mbb 2 5 (by decide) (by decide)) kX12_139 hP hD [10] rfl (by decide +kernel) 0 rfl rfl rfl ⟨Nat.le_of_ble_eq_true rfl, Nat.le_of_ble_eq_true rfl⟩ rfl hl.1 rfl (Nat.le_of_ble_eq_true rfl) dX12_spreads_28 ⟨Nat.le_of_ble_eq_true rfl, Nat.le_of_ble_eq_true rfl⟩) hP hD hS hA [10] [0, 1, 2, 3, 4, 5, 6, 7, 8, 9] rfl rfl (by decide +kernel) (by decide +kernel) ?_
  clear hP hD hS
  try clear locs
  try clear H
  intro r_117 u_118 H locs hw_r_117 hP hD hS
  have hw_r_117 : r_117 = smB 2 5 := hw_r_117
  refine W.widen (k := 0) (n := 0) (Nat.le_of_ble_eq_true rfl) (Nat.le_of_ble_eq_true rfl) ?_
  replace hP : va_P D vwCl [(ti0, .inl (cs 1, 2001, .inr (.inl u0))), (st0, .inl (cs 0, 96048, .inl q0)), (ms, .inl (cs 0, 288, .inl freshS)), (msm, .inl (cs 0, 2, .inl (smF2 a0 (nI 1)))), (mst, .inl (cs 5, 2, .inr (.inr (.inr (.inr fst))))), (st1, .inl (cs 0, 96048, .inl (cpF freshS q1 48))), (mtb, .inl (cs 5, 2, .inr (.inr (.inr (.inr ftb))))), (tb1, .inl (cs 0, 8192, .inl (upd (fun _ => nI 0) 965 (nI 1)))), (mti, .inl (cs 6, 2, .inr (.inr (.inr (.inr fti))))), (ti1, .inl (cs 1, 2001, .inr (.inl (vp_updL u1 0 (lN (ww * 7)))))), (hm, .inr (12, [.ref ms, .ref mkp, .int (nI 0), .ref mtr, .int (nI 4), .int (nI 2), .int (nI 2), .int (nI 3), .int (nI 2), .int (nI 1), .ref mas, .int (nI 0), .int (nI 0), .int (nI 0), .ref mso, .ref mon, .ref mot, .ref man, .int (nI 0), .int (nI 0), .ref mst, .ref msm, .ref mtb, .ref mti, .ref mfr, .ref mbn, .ref mbs, .ref mde, .int (nI 0), .int (nI 0), .int (nI 0), .int (nI 0), .long 0, .long 0, .ref maa, .ref mab, .ref mba, .ref mbb]))] H := hP
  replace hD : va_D A [(ti0, .inl (cs 1, 2001, .inr (.inl u0))), (st0, .inl (cs 0, 96048, .inl q0)), (ms, .inl (cs 0, 288, .inl freshS)), (msm, .inl (cs 0, 2, .inl (smF2 a0 (nI 1)))), (mst, .inl (cs 5, 2, .inr (.inr (.inr (.inr fst))))), (st1, .inl (cs 0, 96048, .inl (cpF freshS q1 48))), (mtb, .inl (cs 5, 2, .inr (.inr (.inr (.inr ftb))))), (tb1, .inl (cs 0, 8192, .inl (upd (fun _ => nI 0) 965 (nI 1)))), (mti, .inl (cs 6, 2, .inr (.inr (.inr (.inr fti))))), (ti1, .inl (cs 1, 2001, .inr (.inl (vp_updL u1 0 (lN (ww * 7)))))), (hm, .inr (12, [.ref ms, .ref mkp, .int (nI 0), .ref mtr, .int (nI 4), .int (nI 2), .int (nI 2), .int (nI 3), .int (nI 2), .int (nI 1), .ref mas, .int (nI 0), .int (nI 0), .int (nI 0), .ref mso, .ref mon, .ref mot, .ref man, .int (nI 0), .int (nI 0), .ref mst, .ref msm, .ref mtb, .ref mti, .ref mfr, .ref mbn, .ref mbs, .ref mde, .int (nI 0), .int (nI 0), .int (nI 0), .int (nI 0), .long 0, .long 0, .ref maa, .ref mab, .ref mba, .ref mbb]))] := hD
  obtain rfl : r_117 = nI 0 := by rw [hw_r_117]; decide +kernel
  refine lv_if_ne (tgt := 37) hx hb dX12_spreads_31 (by decide) (fun c => absurd (by decide) c) (fun _ => ?_)
  refine lv_goto (tgt := 108) hx hb dX12_spreads_34 (by decide) ?_
  refine lv_iinc (v := nI 6) (lv' := [(4, .int (nI 6)), (5, .int (nI 0)), (3, .int (nI 2)), (0, .ref hm), (1, .int (nI 0)), (2, .int (nI 0))]) hx hb dX12_spreads_108 hl (k := 0) rfl (by decide) (by decide) rfl ?_
  clear hl
  try clear ls
  intro ls hl
  refine lv_goto (tgt := 13) hx hb dX12_spreads_111 (by decide) ?_
  refine lv_iload hx hb dX12_spreads_13 (lv_at hl 0 rfl) ?_
  refine lv_iconst (v := nI 1) hx hb dX12_spreads_15 (by decide) ?_
  refine lv_aload_n hx hb dX12_spreads_16 rfl (lv_at hl 3 rfl) ?_
  refine xget C hP 10 rfl rfl zuX12 4 (by decide) zw5_217 rfl dX12_spreads_17 ?_
  refine lv_ishl hx hb dX12_spreads_20 ?_
  refine lv_topi (nm_r (e' := nI 16) (by decide) ?_)
  refine lv_icmp_ge (tgt := 114) hx hb dX12_spreads_21 (by decide) (fun c => absurd c (by decide)) (fun _ => ?_)
  refine lv_aload_n hx hb dX12_spreads_24 rfl (lv_at hl 3 rfl) ?_
  refine lv_iload_n hx hb dX12_spreads_25 rfl (lv_at hl 2 rfl) ?_
  refine lv_iload hx hb dX12_spreads_26 (lv_at hl 0 rfl) ?_
  refine xi (wr := [(ti0, .inl (cs 1, 2001, .inr (.inl u0))), (st0, .inl (cs 0, 96048, .inl q0)), (ms, .inl (cs 0, 288, .inl freshS)), (msm, .inl (cs 0, 2, .inl (smF2 a0 (nI 1)))), (mst, .inl (cs 5, 2, .inr (.inr (.inr (.inr fst))))), (st1, .inl (cs 0, 96048, .inl (cpF freshS q1 48))), (mtb, .inl (cs 5, 2, .inr (.inr (.inr (.inr ftb))))), (tb1, .inl (cs 0, 8192, .inl (upd (fun _ => nI 0) 965 (nI 1)))), (mti, .inl (cs 6, 2, .inr (.inr (.inr (.inr fti))))), (ti1, .inl (cs 1, 2001, .inr (.inl (vp_updL u1 0 (lN (ww * 7))))))]) (xV (As := [.int (nI 2), .int (nI 6)]) (rest := []) C (c_X12_isSample_x l D cs hm ms mkp mtr mas mso mon mot man mst msm mtb mti mfr mbn mbs mde maa mab mba mbb 2 6 (by decide) (by decide)) kX12_139 hP hD [10] rfl (by decide +kernel) 0 rfl rfl rfl ⟨Nat.le_of_ble_eq_true rfl, Nat.le_of_ble_eq_true rfl⟩ rfl hl.1 rfl (Nat.le_of_ble_eq_true rfl) dX12_spreads_28 ⟨Nat.le_of_ble_eq_true rfl, Nat.le_of_ble_eq_true rfl⟩) hP hD hS hA [10] [0, 1, 2, 3, 4, 5, 6, 7, 8, 9] rfl rfl (by decide +kernel) (by decide +kernel) ?_
  clear hP hD hS
  try clear locs
  try clear H
  intro r_119 u_120 H locs hw_r_119 hP hD hS
  have hw_r_119 : r_119 = smB 2 6 := hw_r_119
  refine W.widen (k := 0) (n := 0) (Nat.le_of_ble_eq_true rfl) (Nat.le_of_ble_eq_true rfl) ?_
  replace hP : va_P D vwCl [(ti0, .inl (cs 1, 2001, .inr (.inl u0))), (st0, .inl (cs 0, 96048, .inl q0)), (ms, .inl (cs 0, 288, .inl freshS)), (msm, .inl (cs 0, 2, .inl (smF2 a0 (nI 1)))), (mst, .inl (cs 5, 2, .inr (.inr (.inr (.inr fst))))), (st1, .inl (cs 0, 96048, .inl (cpF freshS q1 48))), (mtb, .inl (cs 5, 2, .inr (.inr (.inr (.inr ftb))))), (tb1, .inl (cs 0, 8192, .inl (upd (fun _ => nI 0) 965 (nI 1)))), (mti, .inl (cs 6, 2, .inr (.inr (.inr (.inr fti))))), (ti1, .inl (cs 1, 2001, .inr (.inl (vp_updL u1 0 (lN (ww * 7)))))), (hm, .inr (12, [.ref ms, .ref mkp, .int (nI 0), .ref mtr, .int (nI 4), .int (nI 2), .int (nI 2), .int (nI 3), .int (nI 2), .int (nI 1), .ref mas, .int (nI 0), .int (nI 0), .int (nI 0), .ref mso, .ref mon, .ref mot, .ref man, .int (nI 0), .int (nI 0), .ref mst, .ref msm, .ref mtb, .ref mti, .ref mfr, .ref mbn, .ref mbs, .ref mde, .int (nI 0), .int (nI 0), .int (nI 0), .int (nI 0), .long 0, .long 0, .ref maa, .ref mab, .ref mba, .ref mbb]))] H := hP
  replace hD : va_D A [(ti0, .inl (cs 1, 2001, .inr (.inl u0))), (st0, .inl (cs 0, 96048, .inl q0)), (ms, .inl (cs 0, 288, .inl freshS)), (msm, .inl (cs 0, 2, .inl (smF2 a0 (nI 1)))), (mst, .inl (cs 5, 2, .inr (.inr (.inr (.inr fst))))), (st1, .inl (cs 0, 96048, .inl (cpF freshS q1 48))), (mtb, .inl (cs 5, 2, .inr (.inr (.inr (.inr ftb))))), (tb1, .inl (cs 0, 8192, .inl (upd (fun _ => nI 0) 965 (nI 1)))), (mti, .inl (cs 6, 2, .inr (.inr (.inr (.inr fti))))), (ti1, .inl (cs 1, 2001, .inr (.inl (vp_updL u1 0 (lN (ww * 7)))))), (hm, .inr (12, [.ref ms, .ref mkp, .int (nI 0), .ref mtr, .int (nI 4), .int (nI 2), .int (nI 2), .int (nI 3), .int (nI 2), .int (nI 1), .ref mas, .int (nI 0), .int (nI 0), .int (nI 0), .ref mso, .ref mon, .ref mot, .ref man, .int (nI 0), .int (nI 0), .ref mst, .ref msm, .ref mtb, .ref mti, .ref mfr, .ref mbn, .ref mbs, .ref mde, .int (nI 0), .int (nI 0), .int (nI 0), .int (nI 0), .long 0, .long 0, .ref maa, .ref mab, .ref mba, .ref mbb]))] := hD
  obtain rfl : r_119 = nI 0 := by rw [hw_r_119]; decide +kernel
  refine lv_if_ne (tgt := 37) hx hb dX12_spreads_31 (by decide) (fun c => absurd (by decide) c) (fun _ => ?_)
  refine lv_goto (tgt := 108) hx hb dX12_spreads_34 (by decide) ?_
  refine lv_iinc (v := nI 7) (lv' := [(4, .int (nI 7)), (5, .int (nI 0)), (3, .int (nI 2)), (0, .ref hm), (1, .int (nI 0)), (2, .int (nI 0))]) hx hb dX12_spreads_108 hl (k := 0) rfl (by decide) (by decide) rfl ?_
  clear hl
  try clear ls
  intro ls hl
  refine lv_goto (tgt := 13) hx hb dX12_spreads_111 (by decide) ?_
  refine lv_iload hx hb dX12_spreads_13 (lv_at hl 0 rfl) ?_
  refine lv_iconst (v := nI 1) hx hb dX12_spreads_15 (by decide) ?_
  refine lv_aload_n hx hb dX12_spreads_16 rfl (lv_at hl 3 rfl) ?_
  refine xget C hP 10 rfl rfl zuX12 4 (by decide) zw5_217 rfl dX12_spreads_17 ?_
  refine lv_ishl hx hb dX12_spreads_20 ?_
  refine lv_topi (nm_r (e' := nI 16) (by decide) ?_)
  refine lv_icmp_ge (tgt := 114) hx hb dX12_spreads_21 (by decide) (fun c => absurd c (by decide)) (fun _ => ?_)
  refine lv_aload_n hx hb dX12_spreads_24 rfl (lv_at hl 3 rfl) ?_
  refine lv_iload_n hx hb dX12_spreads_25 rfl (lv_at hl 2 rfl) ?_
  refine lv_iload hx hb dX12_spreads_26 (lv_at hl 0 rfl) ?_
  refine xi (wr := [(ti0, .inl (cs 1, 2001, .inr (.inl u0))), (st0, .inl (cs 0, 96048, .inl q0)), (ms, .inl (cs 0, 288, .inl freshS)), (msm, .inl (cs 0, 2, .inl (smF2 a0 (nI 1)))), (mst, .inl (cs 5, 2, .inr (.inr (.inr (.inr fst))))), (st1, .inl (cs 0, 96048, .inl (cpF freshS q1 48))), (mtb, .inl (cs 5, 2, .inr (.inr (.inr (.inr ftb))))), (tb1, .inl (cs 0, 8192, .inl (upd (fun _ => nI 0) 965 (nI 1)))), (mti, .inl (cs 6, 2, .inr (.inr (.inr (.inr fti))))), (ti1, .inl (cs 1, 2001, .inr (.inl (vp_updL u1 0 (lN (ww * 7))))))]) (xV (As := [.int (nI 2), .int (nI 7)]) (rest := []) C (c_X12_isSample_x l D cs hm ms mkp mtr mas mso mon mot man mst msm mtb mti mfr mbn mbs mde maa mab mba mbb 2 7 (by decide) (by decide)) kX12_139 hP hD [10] rfl (by decide +kernel) 0 rfl rfl rfl ⟨Nat.le_of_ble_eq_true rfl, Nat.le_of_ble_eq_true rfl⟩ rfl hl.1 rfl (Nat.le_of_ble_eq_true rfl) dX12_spreads_28 ⟨Nat.le_of_ble_eq_true rfl, Nat.le_of_ble_eq_true rfl⟩) hP hD hS hA [10] [0, 1, 2, 3, 4, 5, 6, 7, 8, 9] rfl rfl (by decide +kernel) (by decide +kernel) ?_
  clear hP hD hS
  try clear locs
  try clear H
  intro r_121 u_122 H locs hw_r_121 hP hD hS
  have hw_r_121 : r_121 = smB 2 7 := hw_r_121
  refine W.widen (k := 0) (n := 0) (Nat.le_of_ble_eq_true rfl) (Nat.le_of_ble_eq_true rfl) ?_
  replace hP : va_P D vwCl [(ti0, .inl (cs 1, 2001, .inr (.inl u0))), (st0, .inl (cs 0, 96048, .inl q0)), (ms, .inl (cs 0, 288, .inl freshS)), (msm, .inl (cs 0, 2, .inl (smF2 a0 (nI 1)))), (mst, .inl (cs 5, 2, .inr (.inr (.inr (.inr fst))))), (st1, .inl (cs 0, 96048, .inl (cpF freshS q1 48))), (mtb, .inl (cs 5, 2, .inr (.inr (.inr (.inr ftb))))), (tb1, .inl (cs 0, 8192, .inl (upd (fun _ => nI 0) 965 (nI 1)))), (mti, .inl (cs 6, 2, .inr (.inr (.inr (.inr fti))))), (ti1, .inl (cs 1, 2001, .inr (.inl (vp_updL u1 0 (lN (ww * 7)))))), (hm, .inr (12, [.ref ms, .ref mkp, .int (nI 0), .ref mtr, .int (nI 4), .int (nI 2), .int (nI 2), .int (nI 3), .int (nI 2), .int (nI 1), .ref mas, .int (nI 0), .int (nI 0), .int (nI 0), .ref mso, .ref mon, .ref mot, .ref man, .int (nI 0), .int (nI 0), .ref mst, .ref msm, .ref mtb, .ref mti, .ref mfr, .ref mbn, .ref mbs, .ref mde, .int (nI 0), .int (nI 0), .int (nI 0), .int (nI 0), .long 0, .long 0, .ref maa, .ref mab, .ref mba, .ref mbb]))] H := hP
  replace hD : va_D A [(ti0, .inl (cs 1, 2001, .inr (.inl u0))), (st0, .inl (cs 0, 96048, .inl q0)), (ms, .inl (cs 0, 288, .inl freshS)), (msm, .inl (cs 0, 2, .inl (smF2 a0 (nI 1)))), (mst, .inl (cs 5, 2, .inr (.inr (.inr (.inr fst))))), (st1, .inl (cs 0, 96048, .inl (cpF freshS q1 48))), (mtb, .inl (cs 5, 2, .inr (.inr (.inr (.inr ftb))))), (tb1, .inl (cs 0, 8192, .inl (upd (fun _ => nI 0) 965 (nI 1)))), (mti, .inl (cs 6, 2, .inr (.inr (.inr (.inr fti))))), (ti1, .inl (cs 1, 2001, .inr (.inl (vp_updL u1 0 (lN (ww * 7)))))), (hm, .inr (12, [.ref ms, .ref mkp, .int (nI 0), .ref mtr, .int (nI 4), .int (nI 2), .int (nI 2), .int (nI 3), .int (nI 2), .int (nI 1), .ref mas, .int (nI 0), .int (nI 0), .int (nI 0), .ref mso, .ref mon, .ref mot, .ref man, .int (nI 0), .int (nI 0), .ref mst, .ref msm, .ref mtb, .ref mti, .ref mfr, .ref mbn, .ref mbs, .ref mde, .int (nI 0), .int (nI 0), .int (nI 0), .int (nI 0), .long 0, .long 0, .ref maa, .ref mab, .ref mba, .ref mbb]))] := hD
  obtain rfl : r_121 = nI 0 := by rw [hw_r_121]; decide +kernel
  refine lv_if_ne (tgt := 37) hx hb dX12_spreads_31 (by decide) (fun c => absurd (by decide) c) (fun _ => ?_)
  refine lv_goto (tgt := 108) hx hb dX12_spreads_34 (by decide) ?_
  refine lv_iinc (v := nI 8) (lv' := [(4, .int (nI 8)), (5, .int (nI 0)), (3, .int (nI 2)), (0, .ref hm), (1, .int (nI 0)), (2, .int (nI 0))]) hx hb dX12_spreads_108 hl (k := 0) rfl (by decide) (by decide) rfl ?_
  clear hl
  try clear ls
  intro ls hl
  refine lv_goto (tgt := 13) hx hb dX12_spreads_111 (by decide) ?_
  refine lv_iload hx hb dX12_spreads_13 (lv_at hl 0 rfl) ?_
  refine lv_iconst (v := nI 1) hx hb dX12_spreads_15 (by decide) ?_
  refine lv_aload_n hx hb dX12_spreads_16 rfl (lv_at hl 3 rfl) ?_
  refine xget C hP 10 rfl rfl zuX12 4 (by decide) zw5_217 rfl dX12_spreads_17 ?_
  refine lv_ishl hx hb dX12_spreads_20 ?_
  refine lv_topi (nm_r (e' := nI 16) (by decide) ?_)
  refine lv_icmp_ge (tgt := 114) hx hb dX12_spreads_21 (by decide) (fun c => absurd c (by decide)) (fun _ => ?_)
  refine lv_aload_n hx hb dX12_spreads_24 rfl (lv_at hl 3 rfl) ?_
  refine lv_iload_n hx hb dX12_spreads_25 rfl (lv_at hl 2 rfl) ?_
  refine lv_iload hx hb dX12_spreads_26 (lv_at hl 0 rfl) ?_
  refine xi (wr := [(ti0, .inl (cs 1, 2001, .inr (.inl u0))), (st0, .inl (cs 0, 96048, .inl q0)), (ms, .inl (cs 0, 288, .inl freshS)), (msm, .inl (cs 0, 2, .inl (smF2 a0 (nI 1)))), (mst, .inl (cs 5, 2, .inr (.inr (.inr (.inr fst))))), (st1, .inl (cs 0, 96048, .inl (cpF freshS q1 48))), (mtb, .inl (cs 5, 2, .inr (.inr (.inr (.inr ftb))))), (tb1, .inl (cs 0, 8192, .inl (upd (fun _ => nI 0) 965 (nI 1)))), (mti, .inl (cs 6, 2, .inr (.inr (.inr (.inr fti))))), (ti1, .inl (cs 1, 2001, .inr (.inl (vp_updL u1 0 (lN (ww * 7))))))]) (xV (As := [.int (nI 2), .int (nI 8)]) (rest := []) C (c_X12_isSample_x l D cs hm ms mkp mtr mas mso mon mot man mst msm mtb mti mfr mbn mbs mde maa mab mba mbb 2 8 (by decide) (by decide)) kX12_139 hP hD [10] rfl (by decide +kernel) 0 rfl rfl rfl ⟨Nat.le_of_ble_eq_true rfl, Nat.le_of_ble_eq_true rfl⟩ rfl hl.1 rfl (Nat.le_of_ble_eq_true rfl) dX12_spreads_28 ⟨Nat.le_of_ble_eq_true rfl, Nat.le_of_ble_eq_true rfl⟩) hP hD hS hA [10] [0, 1, 2, 3, 4, 5, 6, 7, 8, 9] rfl rfl (by decide +kernel) (by decide +kernel) ?_
  clear hP hD hS
  try clear locs
  try clear H
  intro r_123 u_124 H locs hw_r_123 hP hD hS
  have hw_r_123 : r_123 = smB 2 8 := hw_r_123
  refine W.widen (k := 0) (n := 0) (Nat.le_of_ble_eq_true rfl) (Nat.le_of_ble_eq_true rfl) ?_
  replace hP : va_P D vwCl [(ti0, .inl (cs 1, 2001, .inr (.inl u0))), (st0, .inl (cs 0, 96048, .inl q0)), (ms, .inl (cs 0, 288, .inl freshS)), (msm, .inl (cs 0, 2, .inl (smF2 a0 (nI 1)))), (mst, .inl (cs 5, 2, .inr (.inr (.inr (.inr fst))))), (st1, .inl (cs 0, 96048, .inl (cpF freshS q1 48))), (mtb, .inl (cs 5, 2, .inr (.inr (.inr (.inr ftb))))), (tb1, .inl (cs 0, 8192, .inl (upd (fun _ => nI 0) 965 (nI 1)))), (mti, .inl (cs 6, 2, .inr (.inr (.inr (.inr fti))))), (ti1, .inl (cs 1, 2001, .inr (.inl (vp_updL u1 0 (lN (ww * 7)))))), (hm, .inr (12, [.ref ms, .ref mkp, .int (nI 0), .ref mtr, .int (nI 4), .int (nI 2), .int (nI 2), .int (nI 3), .int (nI 2), .int (nI 1), .ref mas, .int (nI 0), .int (nI 0), .int (nI 0), .ref mso, .ref mon, .ref mot, .ref man, .int (nI 0), .int (nI 0), .ref mst, .ref msm, .ref mtb, .ref mti, .ref mfr, .ref mbn, .ref mbs, .ref mde, .int (nI 0), .int (nI 0), .int (nI 0), .int (nI 0), .long 0, .long 0, .ref maa, .ref mab, .ref mba, .ref mbb]))] H := hP
  replace hD : va_D A [(ti0, .inl (cs 1, 2001, .inr (.inl u0))), (st0, .inl (cs 0, 96048, .inl q0)), (ms, .inl (cs 0, 288, .inl freshS)), (msm, .inl (cs 0, 2, .inl (smF2 a0 (nI 1)))), (mst, .inl (cs 5, 2, .inr (.inr (.inr (.inr fst))))), (st1, .inl (cs 0, 96048, .inl (cpF freshS q1 48))), (mtb, .inl (cs 5, 2, .inr (.inr (.inr (.inr ftb))))), (tb1, .inl (cs 0, 8192, .inl (upd (fun _ => nI 0) 965 (nI 1)))), (mti, .inl (cs 6, 2, .inr (.inr (.inr (.inr fti))))), (ti1, .inl (cs 1, 2001, .inr (.inl (vp_updL u1 0 (lN (ww * 7)))))), (hm, .inr (12, [.ref ms, .ref mkp, .int (nI 0), .ref mtr, .int (nI 4), .int (nI 2), .int (nI 2), .int (nI 3), .int (nI 2), .int (nI 1), .ref mas, .int (nI 0), .int (nI 0), .int (nI 0), .ref mso, .ref mon, .ref mot, .ref man, .int (nI 0), .int (nI 0), .ref mst, .ref msm, .ref mtb, .ref mti, .ref mfr, .ref mbn, .ref mbs, .ref mde, .int (nI 0), .int (nI 0), .int (nI 0), .int (nI 0), .long 0, .long 0, .ref maa, .ref mab, .ref mba, .ref mbb]))] := hD
  obtain rfl : r_123 = nI 0 := by rw [hw_r_123]; decide +kernel
  refine lv_if_ne (tgt := 37) hx hb dX12_spreads_31 (by decide) (fun c => absurd (by decide) c) (fun _ => ?_)
  refine lv_goto (tgt := 108) hx hb dX12_spreads_34 (by decide) ?_
  refine lv_iinc (v := nI 9) (lv' := [(4, .int (nI 9)), (5, .int (nI 0)), (3, .int (nI 2)), (0, .ref hm), (1, .int (nI 0)), (2, .int (nI 0))]) hx hb dX12_spreads_108 hl (k := 0) rfl (by decide) (by decide) rfl ?_
  clear hl
  try clear ls
  intro ls hl
  refine lv_goto (tgt := 13) hx hb dX12_spreads_111 (by decide) ?_
  refine lv_iload hx hb dX12_spreads_13 (lv_at hl 0 rfl) ?_
  refine lv_iconst (v := nI 1) hx hb dX12_spreads_15 (by decide) ?_
  refine lv_aload_n hx hb dX12_spreads_16 rfl (lv_at hl 3 rfl) ?_
  refine xget C hP 10 rfl rfl zuX12 4 (by decide) zw5_217 rfl dX12_spreads_17 ?_
  refine lv_ishl hx hb dX12_spreads_20 ?_
  refine lv_topi (nm_r (e' := nI 16) (by decide) ?_)
  refine lv_icmp_ge (tgt := 114) hx hb dX12_spreads_21 (by decide) (fun c => absurd c (by decide)) (fun _ => ?_)
  refine lv_aload_n hx hb dX12_spreads_24 rfl (lv_at hl 3 rfl) ?_
  refine lv_iload_n hx hb dX12_spreads_25 rfl (lv_at hl 2 rfl) ?_
  refine lv_iload hx hb dX12_spreads_26 (lv_at hl 0 rfl) ?_
  refine xi (wr := [(ti0, .inl (cs 1, 2001, .inr (.inl u0))), (st0, .inl (cs 0, 96048, .inl q0)), (ms, .inl (cs 0, 288, .inl freshS)), (msm, .inl (cs 0, 2, .inl (smF2 a0 (nI 1)))), (mst, .inl (cs 5, 2, .inr (.inr (.inr (.inr fst))))), (st1, .inl (cs 0, 96048, .inl (cpF freshS q1 48))), (mtb, .inl (cs 5, 2, .inr (.inr (.inr (.inr ftb))))), (tb1, .inl (cs 0, 8192, .inl (upd (fun _ => nI 0) 965 (nI 1)))), (mti, .inl (cs 6, 2, .inr (.inr (.inr (.inr fti))))), (ti1, .inl (cs 1, 2001, .inr (.inl (vp_updL u1 0 (lN (ww * 7))))))]) (xV (As := [.int (nI 2), .int (nI 9)]) (rest := []) C (c_X12_isSample_x l D cs hm ms mkp mtr mas mso mon mot man mst msm mtb mti mfr mbn mbs mde maa mab mba mbb 2 9 (by decide) (by decide)) kX12_139 hP hD [10] rfl (by decide +kernel) 0 rfl rfl rfl ⟨Nat.le_of_ble_eq_true rfl, Nat.le_of_ble_eq_true rfl⟩ rfl hl.1 rfl (Nat.le_of_ble_eq_true rfl) dX12_spreads_28 ⟨Nat.le_of_ble_eq_true rfl, Nat.le_of_ble_eq_true rfl⟩) hP hD hS hA [10] [0, 1, 2, 3, 4, 5, 6, 7, 8, 9] rfl rfl (by decide +kernel) (by decide +kernel) ?_
  clear hP hD hS
  try clear locs
  try clear H
  intro r_125 u_126 H locs hw_r_125 hP hD hS
  have hw_r_125 : r_125 = smB 2 9 := hw_r_125
  refine W.widen (k := 0) (n := 0) (Nat.le_of_ble_eq_true rfl) (Nat.le_of_ble_eq_true rfl) ?_
  replace hP : va_P D vwCl [(ti0, .inl (cs 1, 2001, .inr (.inl u0))), (st0, .inl (cs 0, 96048, .inl q0)), (ms, .inl (cs 0, 288, .inl freshS)), (msm, .inl (cs 0, 2, .inl (smF2 a0 (nI 1)))), (mst, .inl (cs 5, 2, .inr (.inr (.inr (.inr fst))))), (st1, .inl (cs 0, 96048, .inl (cpF freshS q1 48))), (mtb, .inl (cs 5, 2, .inr (.inr (.inr (.inr ftb))))), (tb1, .inl (cs 0, 8192, .inl (upd (fun _ => nI 0) 965 (nI 1)))), (mti, .inl (cs 6, 2, .inr (.inr (.inr (.inr fti))))), (ti1, .inl (cs 1, 2001, .inr (.inl (vp_updL u1 0 (lN (ww * 7)))))), (hm, .inr (12, [.ref ms, .ref mkp, .int (nI 0), .ref mtr, .int (nI 4), .int (nI 2), .int (nI 2), .int (nI 3), .int (nI 2), .int (nI 1), .ref mas, .int (nI 0), .int (nI 0), .int (nI 0), .ref mso, .ref mon, .ref mot, .ref man, .int (nI 0), .int (nI 0), .ref mst, .ref msm, .ref mtb, .ref mti, .ref mfr, .ref mbn, .ref mbs, .ref mde, .int (nI 0), .int (nI 0), .int (nI 0), .int (nI 0), .long 0, .long 0, .ref maa, .ref mab, .ref mba, .ref mbb]))] H := hP
  replace hD : va_D A [(ti0, .inl (cs 1, 2001, .inr (.inl u0))), (st0, .inl (cs 0, 96048, .inl q0)), (ms, .inl (cs 0, 288, .inl freshS)), (msm, .inl (cs 0, 2, .inl (smF2 a0 (nI 1)))), (mst, .inl (cs 5, 2, .inr (.inr (.inr (.inr fst))))), (st1, .inl (cs 0, 96048, .inl (cpF freshS q1 48))), (mtb, .inl (cs 5, 2, .inr (.inr (.inr (.inr ftb))))), (tb1, .inl (cs 0, 8192, .inl (upd (fun _ => nI 0) 965 (nI 1)))), (mti, .inl (cs 6, 2, .inr (.inr (.inr (.inr fti))))), (ti1, .inl (cs 1, 2001, .inr (.inl (vp_updL u1 0 (lN (ww * 7)))))), (hm, .inr (12, [.ref ms, .ref mkp, .int (nI 0), .ref mtr, .int (nI 4), .int (nI 2), .int (nI 2), .int (nI 3), .int (nI 2), .int (nI 1), .ref mas, .int (nI 0), .int (nI 0), .int (nI 0), .ref mso, .ref mon, .ref mot, .ref man, .int (nI 0), .int (nI 0), .ref mst, .ref msm, .ref mtb, .ref mti, .ref mfr, .ref mbn, .ref mbs, .ref mde, .int (nI 0), .int (nI 0), .int (nI 0), .int (nI 0), .long 0, .long 0, .ref maa, .ref mab, .ref mba, .ref mbb]))] := hD
  obtain rfl : r_125 = nI 1 := by rw [hw_r_125]; decide +kernel
  refine lv_if_ne (tgt := 37) hx hb dX12_spreads_31 (by decide) (fun _ => ?_) (fun c => absurd c (by decide))
  refine lv_aload_n hx hb dX12_spreads_37 rfl (lv_at hl 3 rfl) ?_
  refine lv_iload_n hx hb dX12_spreads_38 rfl (lv_at hl 4 rfl) ?_
  refine lv_iload_n hx hb dX12_spreads_39 rfl (lv_at hl 5 rfl) ?_
  refine xv (wr := [(ti0, .inl (cs 1, 2001, .inr (.inl u0))), (msm, .inl (cs 0, 2, .inl (smF2 a0 (nI 1)))), (st1, .inl (cs 0, 96048, .inl (cpF freshS q1 48))), (mtb, .inl (cs 5, 2, .inr (.inr (.inr (.inr ftb))))), (tb1, .inl (cs 0, 8192, .inl (upd (fun _ => nI 0) 965 (nI 1)))), (mti, .inl (cs 6, 2, .inr (.inr (.inr (.inr fti))))), (ti1, .inl (cs 1, 2001, .inr (.inl (vp_updL u1 0 (lN (ww * 7))))))]) (xV (As := [.int (nI 0), .int (nI 0)]) (rest := []) C (c_X12_brings_0 l D cs hm ms mkp mtr mas mso mon mot man mst msm mtb mti mfr mbn mbs mde maa mab mba mbb st0 fst q0 hf0 hq) kX12_203 hP hD [10, 2, 4, 1] rfl (by decide +kernel) 0 rfl rfl rfl ⟨Nat.le_of_ble_eq_true rfl, Nat.le_of_ble_eq_true rfl⟩ rfl hl.1 rfl (Nat.le_of_ble_eq_true rfl) dX12_spreads_40 ⟨Nat.le_of_ble_eq_true rfl, Nat.le_of_ble_eq_true rfl⟩) hP hD hS hA [10, 2, 4, 1] [0, 3, 5, 6, 7, 8, 9] rfl rfl (by decide +kernel) (by decide +kernel) ?_
  clear hP hD hS
  try clear locs
  try clear H
  intro u_128 H locs hw_r_127 hP hD hS
  refine W.widen (k := 0) (n := 0) (Nat.le_of_ble_eq_true rfl) (Nat.le_of_ble_eq_true rfl) ?_
  replace hP : va_P D vwCl [(ti0, .inl (cs 1, 2001, .inr (.inl u0))), (msm, .inl (cs 0, 2, .inl (smF2 a0 (nI 1)))), (st1, .inl (cs 0, 96048, .inl (cpF freshS q1 48))), (mtb, .inl (cs 5, 2, .inr (.inr (.inr (.inr ftb))))), (tb1, .inl (cs 0, 8192, .inl (upd (fun _ => nI 0) 965 (nI 1)))), (mti, .inl (cs 6, 2, .inr (.inr (.inr (.inr fti))))), (ti1, .inl (cs 1, 2001, .inr (.inl (vp_updL u1 0 (lN (ww * 7)))))), (hm, .inr (12, [.ref ms, .ref mkp, .int (nI 0), .ref mtr, .int (nI 4), .int (nI 2), .int (nI 2), .int (nI 3), .int (nI 2), .int (nI 1), .ref mas, .int (nI 0), .int (nI 0), .int (nI 0), .ref mso, .ref mon, .ref mot, .ref man, .int (nI 0), .int (nI 0), .ref mst, .ref msm, .ref mtb, .ref mti, .ref mfr, .ref mbn, .ref mbs, .ref mde, .int (nI 0), .int (nI 0), .int (nI 0), .int (nI 0), .long 0, .long 0, .ref maa, .ref mab, .ref mba, .ref mbb])), (ms, .inl (cs 0, 288, .inl freshS)), (mst, .inl (cs 5, 2, .inr (.inr (.inr (.inr fst))))), (st0, .inl (cs 0, 96048, .inl q0))] H := hP
  replace hD : va_D A [(ti0, .inl (cs 1, 2001, .inr (.inl u0))), (msm, .inl (cs 0, 2, .inl (smF2 a0 (nI 1)))), (st1, .inl (cs 0, 96048, .inl (cpF freshS q1 48))), (mtb, .inl (cs 5, 2, .inr (.inr (.inr (.inr ftb))))), (tb1, .inl (cs 0, 8192, .inl (upd (fun _ => nI 0) 965 (nI 1)))), (mti, .inl (cs 6, 2, .inr (.inr (.inr (.inr fti))))), (ti1, .inl (cs 1, 2001, .inr (.inl (vp_updL u1 0 (lN (ww * 7)))))), (hm, .inr (12, [.ref ms, .ref mkp, .int (nI 0), .ref mtr, .int (nI 4), .int (nI 2), .int (nI 2), .int (nI 3), .int (nI 2), .int (nI 1), .ref mas, .int (nI 0), .int (nI 0), .int (nI 0), .ref mso, .ref mon, .ref mot, .ref man, .int (nI 0), .int (nI 0), .ref mst, .ref msm, .ref mtb, .ref mti, .ref mfr, .ref mbn, .ref mbs, .ref mde, .int (nI 0), .int (nI 0), .int (nI 0), .int (nI 0), .long 0, .long 0, .ref maa, .ref mab, .ref mba, .ref mbb])), (ms, .inl (cs 0, 288, .inl freshS)), (mst, .inl (cs 5, 2, .inr (.inr (.inr (.inr fst))))), (st0, .inl (cs 0, 96048, .inl q0))] := hD
  refine lv_aload_n hx hb dX12_spreads_43 rfl (lv_at hl 3 rfl) ?_
  refine lv_iload_n hx hb dX12_spreads_44 rfl (lv_at hl 2 rfl) ?_
  refine xi (wr := [(ti0, .inl (cs 1, 2001, .inr (.inl u0))), (msm, .inl (cs 0, 2, .inl (smF2 a0 (nI 1)))), (st1, .inl (cs 0, 96048, .inl (cpF freshS q1 48))), (mtb, .inl (cs 5, 2, .inr (.inr (.inr (.inr ftb))))), (tb1, .inl (cs 0, 8192, .inl (upd (fun _ => nI 0) 965 (nI 1)))), (mti, .inl (cs 6, 2, .inr (.inr (.inr (.inr fti))))), (ti1, .inl (cs 1, 2001, .inr (.inl (vp_updL u1 0 (lN (ww * 7)))))), (mst, .inl (cs 5, 2, .inr (.inr (.inr (.inr fst))))), (st0, .inl (cs 0, 96048, .inl q0))]) (xV (As := [.int (nI 2)]) (rest := []) C (c_X12_canAsk_z l D cs hm ms mkp mtr mas mso mon mot man mst msm mtb mti mfr mbn mbs mde maa mab mba mbb 2 (by decide)) kX12_142 hP hD [7, 8] rfl (by decide +kernel) 0 rfl rfl rfl ⟨Nat.le_of_ble_eq_true rfl, Nat.le_of_ble_eq_true rfl⟩ rfl hl.1 rfl (Nat.le_of_ble_eq_true rfl) dX12_spreads_45 ⟨Nat.le_of_ble_eq_true rfl, Nat.le_of_ble_eq_true rfl⟩) hP hD hS hA [7, 8] [0, 1, 2, 3, 4, 5, 6, 9, 10] rfl rfl (by decide +kernel) (by decide +kernel) ?_
  clear hP hD hS
  try clear locs
  try clear H
  intro r_129 u_130 H locs hw_r_129 hP hD hS
  have hw_r_129 : r_129 = nI 0 := hw_r_129
  refine W.widen (k := 0) (n := 0) (Nat.le_of_ble_eq_true rfl) (Nat.le_of_ble_eq_true rfl) ?_
  replace hP : va_P D vwCl [(ti0, .inl (cs 1, 2001, .inr (.inl u0))), (msm, .inl (cs 0, 2, .inl (smF2 a0 (nI 1)))), (st1, .inl (cs 0, 96048, .inl (cpF freshS q1 48))), (mtb, .inl (cs 5, 2, .inr (.inr (.inr (.inr ftb))))), (tb1, .inl (cs 0, 8192, .inl (upd (fun _ => nI 0) 965 (nI 1)))), (mti, .inl (cs 6, 2, .inr (.inr (.inr (.inr fti))))), (ti1, .inl (cs 1, 2001, .inr (.inl (vp_updL u1 0 (lN (ww * 7)))))), (mst, .inl (cs 5, 2, .inr (.inr (.inr (.inr fst))))), (st0, .inl (cs 0, 96048, .inl q0)), (hm, .inr (12, [.ref ms, .ref mkp, .int (nI 0), .ref mtr, .int (nI 4), .int (nI 2), .int (nI 2), .int (nI 3), .int (nI 2), .int (nI 1), .ref mas, .int (nI 0), .int (nI 0), .int (nI 0), .ref mso, .ref mon, .ref mot, .ref man, .int (nI 0), .int (nI 0), .ref mst, .ref msm, .ref mtb, .ref mti, .ref mfr, .ref mbn, .ref mbs, .ref mde, .int (nI 0), .int (nI 0), .int (nI 0), .int (nI 0), .long 0, .long 0, .ref maa, .ref mab, .ref mba, .ref mbb])), (ms, .inl (cs 0, 288, .inl freshS))] H := hP
  replace hD : va_D A [(ti0, .inl (cs 1, 2001, .inr (.inl u0))), (msm, .inl (cs 0, 2, .inl (smF2 a0 (nI 1)))), (st1, .inl (cs 0, 96048, .inl (cpF freshS q1 48))), (mtb, .inl (cs 5, 2, .inr (.inr (.inr (.inr ftb))))), (tb1, .inl (cs 0, 8192, .inl (upd (fun _ => nI 0) 965 (nI 1)))), (mti, .inl (cs 6, 2, .inr (.inr (.inr (.inr fti))))), (ti1, .inl (cs 1, 2001, .inr (.inl (vp_updL u1 0 (lN (ww * 7)))))), (mst, .inl (cs 5, 2, .inr (.inr (.inr (.inr fst))))), (st0, .inl (cs 0, 96048, .inl q0)), (hm, .inr (12, [.ref ms, .ref mkp, .int (nI 0), .ref mtr, .int (nI 4), .int (nI 2), .int (nI 2), .int (nI 3), .int (nI 2), .int (nI 1), .ref mas, .int (nI 0), .int (nI 0), .int (nI 0), .ref mso, .ref mon, .ref mot, .ref man, .int (nI 0), .int (nI 0), .ref mst, .ref msm, .ref mtb, .ref mti, .ref mfr, .ref mbn, .ref mbs, .ref mde, .int (nI 0), .int (nI 0), .int (nI 0), .int (nI 0), .long 0, .long 0, .ref maa, .ref mab, .ref mba, .ref mbb])), (ms, .inl (cs 0, 288, .inl freshS))] := hD
  subst hw_r_129
  refine lv_if_eq (tgt := 67) hx hb dX12_spreads_48 (by decide) (fun _ => ?_) (fun c => absurd (by decide) c)
  refine lv_aload_n hx hb dX12_spreads_67 rfl (lv_at hl 3 rfl) ?_
  refine lv_iconst (v := nI 1) hx hb dX12_spreads_68 (by decide) ?_
  refine lv_iload_n hx hb dX12_spreads_69 rfl (lv_at hl 4 rfl) ?_
  refine lv_isub hx hb dX12_spreads_70 ?_
  refine lv_topi (nm_r (e' := nI 1) (by decide) ?_)
  refine lv_sipush (v := nI 2000) hx hb dX12_spreads_71 (by decide) ?_
  refine xi (wr := [(ti0, .inl (cs 1, 2001, .inr (.inl u0))), (st0, .inl (cs 0, 96048, .inl q0))]) (xV (As := [.int (nI 1), .int (nI 2000)]) (rest := []) C (c_X12_numberOf_b1 l D cs hm ms mkp mtr mas mso mon mot man mst msm mtb mti mfr mbn mbs mde maa mab mba mbb st1 tb1 ti1 fst ftb fti (smF2 a0 (nI 1)) (cpF freshS q1 48) (upd (fun _ => nI 0) 965 (nI 1)) (vp_updL u1 0 (lN (ww * 7))) hf1 hg ht1 (if_pos rfl) (fun j hj => cpF_lt hj)) kX12_197 hP hD [9, 10, 1, 7, 2, 3, 4, 5, 6] rfl (by decide +kernel) 0 rfl rfl rfl ⟨Nat.le_of_ble_eq_true rfl, Nat.le_of_ble_eq_true rfl⟩ rfl hl.1 rfl (Nat.le_of_ble_eq_true rfl) dX12_spreads_74 ⟨Nat.le_of_ble_eq_true rfl, Nat.le_of_ble_eq_true rfl⟩) hP hD hS hA [9, 10, 1, 7, 2, 3, 4, 5, 6] [0, 8] rfl rfl (by decide +kernel) (by decide +kernel) ?_
  clear hP hD hS
  try clear locs
  try clear H
  intro r_131 u_132 H locs hw_r_131 hP hD hS
  have hw_r_131 : r_131 = nI 0 := hw_r_131
  refine W.widen (k := 0) (n := 0) (Nat.le_of_ble_eq_true rfl) (Nat.le_of_ble_eq_true rfl) ?_
  replace hP : va_P D vwCl [(ti0, .inl (cs 1, 2001, .inr (.inl u0))), (st0, .inl (cs 0, 96048, .inl q0)), (hm, .inr (12, [.ref ms, .ref mkp, .int (nI 0), .ref mtr, .int (nI 4), .int (nI 2), .int (nI 2), .int (nI 3), .int (nI 2), .int (nI 1), .ref mas, .int (nI 0), .int (nI 0), .int (nI 0), .ref mso, .ref mon, .ref mot, .ref man, .int (nI 0), .int (nI 0), .ref mst, .ref msm, .ref mtb, .ref mti, .ref mfr, .ref mbn, .ref mbs, .ref mde, .int (nI 0), .int (nI 0), .int (nI 0), .int (nI 0), .long 0, .long 0, .ref maa, .ref mab, .ref mba, .ref mbb])), (ms, .inl (cs 0, 288, .inl freshS)), (msm, .inl (cs 0, 2, .inl (smF2 a0 (nI 1)))), (mst, .inl (cs 5, 2, .inr (.inr (.inr (.inr fst))))), (st1, .inl (cs 0, 96048, .inl (cpF freshS q1 48))), (mtb, .inl (cs 5, 2, .inr (.inr (.inr (.inr ftb))))), (tb1, .inl (cs 0, 8192, .inl (upd (fun _ => nI 0) 965 (nI 1)))), (mti, .inl (cs 6, 2, .inr (.inr (.inr (.inr fti))))), (ti1, .inl (cs 1, 2001, .inr (.inl (vp_updL u1 0 (lN (ww * 7))))))] H := hP
  replace hD : va_D A [(ti0, .inl (cs 1, 2001, .inr (.inl u0))), (st0, .inl (cs 0, 96048, .inl q0)), (hm, .inr (12, [.ref ms, .ref mkp, .int (nI 0), .ref mtr, .int (nI 4), .int (nI 2), .int (nI 2), .int (nI 3), .int (nI 2), .int (nI 1), .ref mas, .int (nI 0), .int (nI 0), .int (nI 0), .ref mso, .ref mon, .ref mot, .ref man, .int (nI 0), .int (nI 0), .ref mst, .ref msm, .ref mtb, .ref mti, .ref mfr, .ref mbn, .ref mbs, .ref mde, .int (nI 0), .int (nI 0), .int (nI 0), .int (nI 0), .long 0, .long 0, .ref maa, .ref mab, .ref mba, .ref mbb])), (ms, .inl (cs 0, 288, .inl freshS)), (msm, .inl (cs 0, 2, .inl (smF2 a0 (nI 1)))), (mst, .inl (cs 5, 2, .inr (.inr (.inr (.inr fst))))), (st1, .inl (cs 0, 96048, .inl (cpF freshS q1 48))), (mtb, .inl (cs 5, 2, .inr (.inr (.inr (.inr ftb))))), (tb1, .inl (cs 0, 8192, .inl (upd (fun _ => nI 0) 965 (nI 1)))), (mti, .inl (cs 6, 2, .inr (.inr (.inr (.inr fti))))), (ti1, .inl (cs 1, 2001, .inr (.inl (vp_updL u1 0 (lN (ww * 7))))))] := hD
  subst hw_r_131
  refine lv_istore (lv' := [(5, .int (nI 0)), (4, .int (nI 9)), (3, .int (nI 2)), (0, .ref hm), (1, .int (nI 0)), (2, .int (nI 0))]) hx hb dX12_spreads_77 hl (by decide) rfl ?_
  clear hl
  try clear ls
  intro ls hl
  refine lv_iload hx hb dX12_spreads_79 (lv_at hl 0 rfl) ?_
  refine lv_if_ge (tgt := 86) hx hb dX12_spreads_81 (by decide) (fun _ => ?_) (fun c => absurd (by decide) c)
  refine lv_aload_n hx hb dX12_spreads_86 rfl (lv_at hl 3 rfl) ?_
  refine xget C hP 2 rfl rfl zuX12 23 (by decide) zw5_236 rfl dX12_spreads_87 ?_
  refine lv_iconst (v := nI 1) hx hb dX12_spreads_90 (by decide) ?_
  refine lv_iload_n hx hb dX12_spreads_91 rfl (lv_at hl 4 rfl) ?_
  refine lv_isub hx hb dX12_spreads_92 ?_
  refine lv_topi (nm_r (e' := nI 1) (by decide) ?_)
  refine xaald C hP 9 6 rfl rfl rfl 1 rfl (by decide) (by decide) ht1 dX12_spreads_93 ?_
  refine lv_iload hx hb dX12_spreads_94 (lv_at hl 0 rfl) ?_
  refine lv_dup2_11 hx hb dX12_spreads_96 rfl rfl ?_
  refine xlald C hP 10 rfl 0 rfl (by decide) (by decide) dX12_spreads_97 ?_
  refine lv_topl (nm_r (e' := lN (ww * 7)) (upL_0 _ _) ?_)
  refine lv_aload_n hx hb dX12_spreads_98 rfl (lv_at hl 3 rfl) ?_
  refine xget C hP 2 rfl rfl zuX12 23 (by decide) zw5_236 rfl dX12_spreads_99 ?_
  refine lv_iload_n hx hb dX12_spreads_102 rfl (lv_at hl 4 rfl) ?_
  refine xaald C hP 9 6 rfl rfl rfl 0 rfl (by decide) (by decide) ht0 dX12_spreads_103 ?_
  refine lv_iload_n hx hb dX12_spreads_104 rfl (lv_at hl 5 rfl) ?_
  refine xlald C hP 0 rfl 0 rfl (by decide) (by decide) dX12_spreads_105 ?_
  refine lv_topl (nm_r (e' := lN ww) hw ?_)
  refine lv_ladd hx hb dX12_spreads_106 ?_
  refine lv_topl (nm_r (e' := lN (ww * 8)) (lN_a ww 7) ?_)
  refine xlast C hP hD hS 10 rfl 0 rfl (by decide) (by decide) dX12_spreads_107 ?_
  clear hP hD hS
  try clear locs
  try clear H
  intro H locs hP hD hS
  replace hP : va_P D vwCl [(ti0, .inl (cs 1, 2001, .inr (.inl u0))), (st0, .inl (cs 0, 96048, .inl q0)), (hm, .inr (12, [.ref ms, .ref mkp, .int (nI 0), .ref mtr, .int (nI 4), .int (nI 2), .int (nI 2), .int (nI 3), .int (nI 2), .int (nI 1), .ref mas, .int (nI 0), .int (nI 0), .int (nI 0), .ref mso, .ref mon, .ref mot, .ref man, .int (nI 0), .int (nI 0), .ref mst, .ref msm, .ref mtb, .ref mti, .ref mfr, .ref mbn, .ref mbs, .ref mde, .int (nI 0), .int (nI 0), .int (nI 0), .int (nI 0), .long 0, .long 0, .ref maa, .ref mab, .ref mba, .ref mbb])), (ms, .inl (cs 0, 288, .inl freshS)), (msm, .inl (cs 0, 2, .inl (smF2 a0 (nI 1)))), (mst, .inl (cs 5, 2, .inr (.inr (.inr (.inr fst))))), (st1, .inl (cs 0, 96048, .inl (cpF freshS q1 48))), (mtb, .inl (cs 5, 2, .inr (.inr (.inr (.inr ftb))))), (tb1, .inl (cs 0, 8192, .inl (upd (fun _ => nI 0) 965 (nI 1)))), (mti, .inl (cs 6, 2, .inr (.inr (.inr (.inr fti))))), (ti1, .inl (cs 1, 2001, .inr (.inl (vp_updL (vp_updL u1 0 (lN (ww * 7))) 0 (lN (ww * 8))))))] H := hP
  replace hD : va_D A [(ti0, .inl (cs 1, 2001, .inr (.inl u0))), (st0, .inl (cs 0, 96048, .inl q0)), (hm, .inr (12, [.ref ms, .ref mkp, .int (nI 0), .ref mtr, .int (nI 4), .int (nI 2), .int (nI 2), .int (nI 3), .int (nI 2), .int (nI 1), .ref mas, .int (nI 0), .int (nI 0), .int (nI 0), .ref mso, .ref mon, .ref mot, .ref man, .int (nI 0), .int (nI 0), .ref mst, .ref msm, .ref mtb, .ref mti, .ref mfr, .ref mbn, .ref mbs, .ref mde, .int (nI 0), .int (nI 0), .int (nI 0), .int (nI 0), .long 0, .long 0, .ref maa, .ref mab, .ref mba, .ref mbb])), (ms, .inl (cs 0, 288, .inl freshS)), (msm, .inl (cs 0, 2, .inl (smF2 a0 (nI 1)))), (mst, .inl (cs 5, 2, .inr (.inr (.inr (.inr fst))))), (st1, .inl (cs 0, 96048, .inl (cpF freshS q1 48))), (mtb, .inl (cs 5, 2, .inr (.inr (.inr (.inr ftb))))), (tb1, .inl (cs 0, 8192, .inl (upd (fun _ => nI 0) 965 (nI 1)))), (mti, .inl (cs 6, 2, .inr (.inr (.inr (.inr fti))))), (ti1, .inl (cs 1, 2001, .inr (.inl (vp_updL (vp_updL u1 0 (lN (ww * 7))) 0 (lN (ww * 8))))))] := hD
  have hPD := xcongl (q0 := 10) (vp_updL u1 0 (lN (ww * 8))) hP hD rfl (fun j hj => upL_1 u1 _ _ j)
  clear hP hD
  obtain ⟨hP, hD⟩ := hPD
  replace hP : va_P D vwCl [(ti0, .inl (cs 1, 2001, .inr (.inl u0))), (st0, .inl (cs 0, 96048, .inl q0)), (hm, .inr (12, [.ref ms, .ref mkp, .int (nI 0), .ref mtr, .int (nI 4), .int (nI 2), .int (nI 2), .int (nI 3), .int (nI 2), .int (nI 1), .ref mas, .int (nI 0), .int (nI 0), .int (nI 0), .ref mso, .ref mon, .ref mot, .ref man, .int (nI 0), .int (nI 0), .ref mst, .ref msm, .ref mtb, .ref mti, .ref mfr, .ref mbn, .ref mbs, .ref mde, .int (nI 0), .int (nI 0), .int (nI 0), .int (nI 0), .long 0, .long 0, .ref maa, .ref mab, .ref mba, .ref mbb])), (ms, .inl (cs 0, 288, .inl freshS)), (msm, .inl (cs 0, 2, .inl (smF2 a0 (nI 1)))), (mst, .inl (cs 5, 2, .inr (.inr (.inr (.inr fst))))), (st1, .inl (cs 0, 96048, .inl (cpF freshS q1 48))), (mtb, .inl (cs 5, 2, .inr (.inr (.inr (.inr ftb))))), (tb1, .inl (cs 0, 8192, .inl (upd (fun _ => nI 0) 965 (nI 1)))), (mti, .inl (cs 6, 2, .inr (.inr (.inr (.inr fti))))), (ti1, .inl (cs 1, 2001, .inr (.inl (vp_updL u1 0 (lN (ww * 8))))))] H := hP
  replace hD : va_D A [(ti0, .inl (cs 1, 2001, .inr (.inl u0))), (st0, .inl (cs 0, 96048, .inl q0)), (hm, .inr (12, [.ref ms, .ref mkp, .int (nI 0), .ref mtr, .int (nI 4), .int (nI 2), .int (nI 2), .int (nI 3), .int (nI 2), .int (nI 1), .ref mas, .int (nI 0), .int (nI 0), .int (nI 0), .ref mso, .ref mon, .ref mot, .ref man, .int (nI 0), .int (nI 0), .ref mst, .ref msm, .ref mtb, .ref mti, .ref mfr, .ref mbn, .ref mbs, .ref mde, .int (nI 0), .int (nI 0), .int (nI 0), .int (nI 0), .long 0, .long 0, .ref maa, .ref mab, .ref mba, .ref mbb])), (ms, .inl (cs 0, 288, .inl freshS)), (msm, .inl (cs 0, 2, .inl (smF2 a0 (nI 1)))), (mst, .inl (cs 5, 2, .inr (.inr (.inr (.inr fst))))), (st1, .inl (cs 0, 96048, .inl (cpF freshS q1 48))), (mtb, .inl (cs 5, 2, .inr (.inr (.inr (.inr ftb))))), (tb1, .inl (cs 0, 8192, .inl (upd (fun _ => nI 0) 965 (nI 1)))), (mti, .inl (cs 6, 2, .inr (.inr (.inr (.inr fti))))), (ti1, .inl (cs 1, 2001, .inr (.inl (vp_updL u1 0 (lN (ww * 8))))))] := hD
  refine lv_iinc (v := nI 10) (lv' := [(4, .int (nI 10)), (5, .int (nI 0)), (3, .int (nI 2)), (0, .ref hm), (1, .int (nI 0)), (2, .int (nI 0))]) hx hb dX12_spreads_108 hl (k := 1) rfl (by decide) (by decide) rfl ?_
  clear hl
  try clear ls
  intro ls hl
  refine lv_goto (tgt := 13) hx hb dX12_spreads_111 (by decide) ?_
  refine lv_iload hx hb dX12_spreads_13 (lv_at hl 0 rfl) ?_
  refine lv_iconst (v := nI 1) hx hb dX12_spreads_15 (by decide) ?_
  refine lv_aload_n hx hb dX12_spreads_16 rfl (lv_at hl 3 rfl) ?_
  refine xget C hP 2 rfl rfl zuX12 4 (by decide) zw5_217 rfl dX12_spreads_17 ?_
  refine lv_ishl hx hb dX12_spreads_20 ?_
  refine lv_topi (nm_r (e' := nI 16) (by decide) ?_)
  refine lv_icmp_ge (tgt := 114) hx hb dX12_spreads_21 (by decide) (fun c => absurd c (by decide)) (fun _ => ?_)
  refine lv_aload_n hx hb dX12_spreads_24 rfl (lv_at hl 3 rfl) ?_
  refine lv_iload_n hx hb dX12_spreads_25 rfl (lv_at hl 2 rfl) ?_
  refine lv_iload hx hb dX12_spreads_26 (lv_at hl 0 rfl) ?_
  refine xi (wr := [(ti0, .inl (cs 1, 2001, .inr (.inl u0))), (st0, .inl (cs 0, 96048, .inl q0)), (ms, .inl (cs 0, 288, .inl freshS)), (msm, .inl (cs 0, 2, .inl (smF2 a0 (nI 1)))), (mst, .inl (cs 5, 2, .inr (.inr (.inr (.inr fst))))), (st1, .inl (cs 0, 96048, .inl (cpF freshS q1 48))), (mtb, .inl (cs 5, 2, .inr (.inr (.inr (.inr ftb))))), (tb1, .inl (cs 0, 8192, .inl (upd (fun _ => nI 0) 965 (nI 1)))), (mti, .inl (cs 6, 2, .inr (.inr (.inr (.inr fti))))), (ti1, .inl (cs 1, 2001, .inr (.inl (vp_updL u1 0 (lN (ww * 8))))))]) (xV (As := [.int (nI 2), .int (nI 10)]) (rest := []) C (c_X12_isSample_x l D cs hm ms mkp mtr mas mso mon mot man mst msm mtb mti mfr mbn mbs mde maa mab mba mbb 2 10 (by decide) (by decide)) kX12_139 hP hD [2] rfl (by decide +kernel) 0 rfl rfl rfl ⟨Nat.le_of_ble_eq_true rfl, Nat.le_of_ble_eq_true rfl⟩ rfl hl.1 rfl (Nat.le_of_ble_eq_true rfl) dX12_spreads_28 ⟨Nat.le_of_ble_eq_true rfl, Nat.le_of_ble_eq_true rfl⟩) hP hD hS hA [2] [0, 1, 3, 4, 5, 6, 7, 8, 9, 10] rfl rfl (by decide +kernel) (by decide +kernel) ?_
  clear hP hD hS
  try clear locs
  try clear H
  intro r_133 u_134 H locs hw_r_133 hP hD hS
  have hw_r_133 : r_133 = smB 2 10 := hw_r_133
  refine W.widen (k := 0) (n := 0) (Nat.le_of_ble_eq_true rfl) (Nat.le_of_ble_eq_true rfl) ?_
  replace hP : va_P D vwCl [(ti0, .inl (cs 1, 2001, .inr (.inl u0))), (st0, .inl (cs 0, 96048, .inl q0)), (ms, .inl (cs 0, 288, .inl freshS)), (msm, .inl (cs 0, 2, .inl (smF2 a0 (nI 1)))), (mst, .inl (cs 5, 2, .inr (.inr (.inr (.inr fst))))), (st1, .inl (cs 0, 96048, .inl (cpF freshS q1 48))), (mtb, .inl (cs 5, 2, .inr (.inr (.inr (.inr ftb))))), (tb1, .inl (cs 0, 8192, .inl (upd (fun _ => nI 0) 965 (nI 1)))), (mti, .inl (cs 6, 2, .inr (.inr (.inr (.inr fti))))), (ti1, .inl (cs 1, 2001, .inr (.inl (vp_updL u1 0 (lN (ww * 8)))))), (hm, .inr (12, [.ref ms, .ref mkp, .int (nI 0), .ref mtr, .int (nI 4), .int (nI 2), .int (nI 2), .int (nI 3), .int (nI 2), .int (nI 1), .ref mas, .int (nI 0), .int (nI 0), .int (nI 0), .ref mso, .ref mon, .ref mot, .ref man, .int (nI 0), .int (nI 0), .ref mst, .ref msm, .ref mtb, .ref mti, .ref mfr, .ref mbn, .ref mbs, .ref mde, .int (nI 0), .int (nI 0), .int (nI 0), .int (nI 0), .long 0, .long 0, .ref maa, .ref mab, .ref mba, .ref mbb]))] H := hP
  replace hD : va_D A [(ti0, .inl (cs 1, 2001, .inr (.inl u0))), (st0, .inl (cs 0, 96048, .inl q0)), (ms, .inl (cs 0, 288, .inl freshS)), (msm, .inl (cs 0, 2, .inl (smF2 a0 (nI 1)))), (mst, .inl (cs 5, 2, .inr (.inr (.inr (.inr fst))))), (st1, .inl (cs 0, 96048, .inl (cpF freshS q1 48))), (mtb, .inl (cs 5, 2, .inr (.inr (.inr (.inr ftb))))), (tb1, .inl (cs 0, 8192, .inl (upd (fun _ => nI 0) 965 (nI 1)))), (mti, .inl (cs 6, 2, .inr (.inr (.inr (.inr fti))))), (ti1, .inl (cs 1, 2001, .inr (.inl (vp_updL u1 0 (lN (ww * 8)))))), (hm, .inr (12, [.ref ms, .ref mkp, .int (nI 0), .ref mtr, .int (nI 4), .int (nI 2), .int (nI 2), .int (nI 3), .int (nI 2), .int (nI 1), .ref mas, .int (nI 0), .int (nI 0), .int (nI 0), .ref mso, .ref mon, .ref mot, .ref man, .int (nI 0), .int (nI 0), .ref mst, .ref msm, .ref mtb, .ref mti, .ref mfr, .ref mbn, .ref mbs, .ref mde, .int (nI 0), .int (nI 0), .int (nI 0), .int (nI 0), .long 0, .long 0, .ref maa, .ref mab, .ref mba, .ref mbb]))] := hD
  obtain rfl : r_133 = nI 1 := by rw [hw_r_133]; decide +kernel
  refine lv_if_ne (tgt := 37) hx hb dX12_spreads_31 (by decide) (fun _ => ?_) (fun c => absurd c (by decide))
  refine lv_aload_n hx hb dX12_spreads_37 rfl (lv_at hl 3 rfl) ?_
  refine lv_iload_n hx hb dX12_spreads_38 rfl (lv_at hl 4 rfl) ?_
  refine lv_iload_n hx hb dX12_spreads_39 rfl (lv_at hl 5 rfl) ?_
  refine xv (wr := [(ti0, .inl (cs 1, 2001, .inr (.inl u0))), (msm, .inl (cs 0, 2, .inl (smF2 a0 (nI 1)))), (st1, .inl (cs 0, 96048, .inl (cpF freshS q1 48))), (mtb, .inl (cs 5, 2, .inr (.inr (.inr (.inr ftb))))), (tb1, .inl (cs 0, 8192, .inl (upd (fun _ => nI 0) 965 (nI 1)))), (mti, .inl (cs 6, 2, .inr (.inr (.inr (.inr fti))))), (ti1, .inl (cs 1, 2001, .inr (.inl (vp_updL u1 0 (lN (ww * 8))))))]) (xV (As := [.int (nI 0), .int (nI 0)]) (rest := []) C (c_X12_brings_0 l D cs hm ms mkp mtr mas mso mon mot man mst msm mtb mti mfr mbn mbs mde maa mab mba mbb st0 fst q0 hf0 hq) kX12_203 hP hD [10, 2, 4, 1] rfl (by decide +kernel) 0 rfl rfl rfl ⟨Nat.le_of_ble_eq_true rfl, Nat.le_of_ble_eq_true rfl⟩ rfl hl.1 rfl (Nat.le_of_ble_eq_true rfl) dX12_spreads_40 ⟨Nat.le_of_ble_eq_true rfl, Nat.le_of_ble_eq_true rfl⟩) hP hD hS hA [10, 2, 4, 1] [0, 3, 5, 6, 7, 8, 9] rfl rfl (by decide +kernel) (by decide +kernel) ?_
  clear hP hD hS
  try clear locs
  try clear H
  intro u_136 H locs hw_r_135 hP hD hS
  refine W.widen (k := 0) (n := 0) (Nat.le_of_ble_eq_true rfl) (Nat.le_of_ble_eq_true rfl) ?_
  replace hP : va_P D vwCl [(ti0, .inl (cs 1, 2001, .inr (.inl u0))), (msm, .inl (cs 0, 2, .inl (smF2 a0 (nI 1)))), (st1, .inl (cs 0, 96048, .inl (cpF freshS q1 48))), (mtb, .inl (cs 5, 2, .inr (.inr (.inr (.inr ftb))))), (tb1, .inl (cs 0, 8192, .inl (upd (fun _ => nI 0) 965 (nI 1)))), (mti, .inl (cs 6, 2, .inr (.inr (.inr (.inr fti))))), (ti1, .inl (cs 1, 2001, .inr (.inl (vp_updL u1 0 (lN (ww * 8)))))), (hm, .inr (12, [.ref ms, .ref mkp, .int (nI 0), .ref mtr, .int (nI 4), .int (nI 2), .int (nI 2), .int (nI 3), .int (nI 2), .int (nI 1), .ref mas, .int (nI 0), .int (nI 0), .int (nI 0), .ref mso, .ref mon, .ref mot, .ref man, .int (nI 0), .int (nI 0), .ref mst, .ref msm, .ref mtb, .ref mti, .ref mfr, .ref mbn, .ref mbs, .ref mde, .int (nI 0), .int (nI 0), .int (nI 0), .int (nI 0), .long 0, .long 0, .ref maa, .ref mab, .ref mba, .ref mbb])), (ms, .inl (cs 0, 288, .inl freshS)), (mst, .inl (cs 5, 2, .inr (.inr (.inr (.inr fst))))), (st0, .inl (cs 0, 96048, .inl q0))] H := hP
  replace hD : va_D A [(ti0, .inl (cs 1, 2001, .inr (.inl u0))), (msm, .inl (cs 0, 2, .inl (smF2 a0 (nI 1)))), (st1, .inl (cs 0, 96048, .inl (cpF freshS q1 48))), (mtb, .inl (cs 5, 2, .inr (.inr (.inr (.inr ftb))))), (tb1, .inl (cs 0, 8192, .inl (upd (fun _ => nI 0) 965 (nI 1)))), (mti, .inl (cs 6, 2, .inr (.inr (.inr (.inr fti))))), (ti1, .inl (cs 1, 2001, .inr (.inl (vp_updL u1 0 (lN (ww * 8)))))), (hm, .inr (12, [.ref ms, .ref mkp, .int (nI 0), .ref mtr, .int (nI 4), .int (nI 2), .int (nI 2), .int (nI 3), .int (nI 2), .int (nI 1), .ref mas, .int (nI 0), .int (nI 0), .int (nI 0), .ref mso, .ref mon, .ref mot, .ref man, .int (nI 0), .int (nI 0), .ref mst, .ref msm, .ref mtb, .ref mti, .ref mfr, .ref mbn, .ref mbs, .ref mde, .int (nI 0), .int (nI 0), .int (nI 0), .int (nI 0), .long 0, .long 0, .ref maa, .ref mab, .ref mba, .ref mbb])), (ms, .inl (cs 0, 288, .inl freshS)), (mst, .inl (cs 5, 2, .inr (.inr (.inr (.inr fst))))), (st0, .inl (cs 0, 96048, .inl q0))] := hD
  refine lv_aload_n hx hb dX12_spreads_43 rfl (lv_at hl 3 rfl) ?_
  refine lv_iload_n hx hb dX12_spreads_44 rfl (lv_at hl 2 rfl) ?_
  refine xi (wr := [(ti0, .inl (cs 1, 2001, .inr (.inl u0))), (msm, .inl (cs 0, 2, .inl (smF2 a0 (nI 1)))), (st1, .inl (cs 0, 96048, .inl (cpF freshS q1 48))), (mtb, .inl (cs 5, 2, .inr (.inr (.inr (.inr ftb))))), (tb1, .inl (cs 0, 8192, .inl (upd (fun _ => nI 0) 965 (nI 1)))), (mti, .inl (cs 6, 2, .inr (.inr (.inr (.inr fti))))), (ti1, .inl (cs 1, 2001, .inr (.inl (vp_updL u1 0 (lN (ww * 8)))))), (mst, .inl (cs 5, 2, .inr (.inr (.inr (.inr fst))))), (st0, .inl (cs 0, 96048, .inl q0))]) (xV (As := [.int (nI 2)]) (rest := []) C (c_X12_canAsk_z l D cs hm ms mkp mtr mas mso mon mot man mst msm mtb mti mfr mbn mbs mde maa mab mba mbb 2 (by decide)) kX12_142 hP hD [7, 8] rfl (by decide +kernel) 0 rfl rfl rfl ⟨Nat.le_of_ble_eq_true rfl, Nat.le_of_ble_eq_true rfl⟩ rfl hl.1 rfl (Nat.le_of_ble_eq_true rfl) dX12_spreads_45 ⟨Nat.le_of_ble_eq_true rfl, Nat.le_of_ble_eq_true rfl⟩) hP hD hS hA [7, 8] [0, 1, 2, 3, 4, 5, 6, 9, 10] rfl rfl (by decide +kernel) (by decide +kernel) ?_
  clear hP hD hS
  try clear locs
  try clear H
  intro r_137 u_138 H locs hw_r_137 hP hD hS
  have hw_r_137 : r_137 = nI 0 := hw_r_137
  refine W.widen (k := 0) (n := 0) (Nat.le_of_ble_eq_true rfl) (Nat.le_of_ble_eq_true rfl) ?_
  replace hP : va_P D vwCl [(ti0, .inl (cs 1, 2001, .inr (.inl u0))), (msm, .inl (cs 0, 2, .inl (smF2 a0 (nI 1)))), (st1, .inl (cs 0, 96048, .inl (cpF freshS q1 48))), (mtb, .inl (cs 5, 2, .inr (.inr (.inr (.inr ftb))))), (tb1, .inl (cs 0, 8192, .inl (upd (fun _ => nI 0) 965 (nI 1)))), (mti, .inl (cs 6, 2, .inr (.inr (.inr (.inr fti))))), (ti1, .inl (cs 1, 2001, .inr (.inl (vp_updL u1 0 (lN (ww * 8)))))), (mst, .inl (cs 5, 2, .inr (.inr (.inr (.inr fst))))), (st0, .inl (cs 0, 96048, .inl q0)), (hm, .inr (12, [.ref ms, .ref mkp, .int (nI 0), .ref mtr, .int (nI 4), .int (nI 2), .int (nI 2), .int (nI 3), .int (nI 2), .int (nI 1), .ref mas, .int (nI 0), .int (nI 0), .int (nI 0), .ref mso, .ref mon, .ref mot, .ref man, .int (nI 0), .int (nI 0), .ref mst, .ref msm, .ref mtb, .ref mti, .ref mfr, .ref mbn, .ref mbs, .ref mde, .int (nI 0), .int (nI 0), .int (nI 0), .int (nI 0), .long 0, .long 0, .ref maa, .ref mab, .ref mba, .ref mbb])), (ms, .inl (cs 0, 288, .inl freshS))] H := hP
  replace hD : va_D A [(ti0, .inl (cs 1, 2001, .inr (.inl u0))), (msm, .inl (cs 0, 2, .inl (smF2 a0 (nI 1)))), (st1, .inl (cs 0, 96048, .inl (cpF freshS q1 48))), (mtb, .inl (cs 5, 2, .inr (.inr (.inr (.inr ftb))))), (tb1, .inl (cs 0, 8192, .inl (upd (fun _ => nI 0) 965 (nI 1)))), (mti, .inl (cs 6, 2, .inr (.inr (.inr (.inr fti))))), (ti1, .inl (cs 1, 2001, .inr (.inl (vp_updL u1 0 (lN (ww * 8)))))), (mst, .inl (cs 5, 2, .inr (.inr (.inr (.inr fst))))), (st0, .inl (cs 0, 96048, .inl q0)), (hm, .inr (12, [.ref ms, .ref mkp, .int (nI 0), .ref mtr, .int (nI 4), .int (nI 2), .int (nI 2), .int (nI 3), .int (nI 2), .int (nI 1), .ref mas, .int (nI 0), .int (nI 0), .int (nI 0), .ref mso, .ref mon, .ref mot, .ref man, .int (nI 0), .int (nI 0), .ref mst, .ref msm, .ref mtb, .ref mti, .ref mfr, .ref mbn, .ref mbs, .ref mde, .int (nI 0), .int (nI 0), .int (nI 0), .int (nI 0), .long 0, .long 0, .ref maa, .ref mab, .ref mba, .ref mbb])), (ms, .inl (cs 0, 288, .inl freshS))] := hD
  subst hw_r_137
  refine lv_if_eq (tgt := 67) hx hb dX12_spreads_48 (by decide) (fun _ => ?_) (fun c => absurd (by decide) c)
  refine lv_aload_n hx hb dX12_spreads_67 rfl (lv_at hl 3 rfl) ?_
  refine lv_iconst (v := nI 1) hx hb dX12_spreads_68 (by decide) ?_
  refine lv_iload_n hx hb dX12_spreads_69 rfl (lv_at hl 4 rfl) ?_
  refine lv_isub hx hb dX12_spreads_70 ?_
  refine lv_topi (nm_r (e' := nI 1) (by decide) ?_)
  refine lv_sipush (v := nI 2000) hx hb dX12_spreads_71 (by decide) ?_
  refine xi (wr := [(ti0, .inl (cs 1, 2001, .inr (.inl u0))), (st0, .inl (cs 0, 96048, .inl q0))]) (xV (As := [.int (nI 1), .int (nI 2000)]) (rest := []) C (c_X12_numberOf_b1 l D cs hm ms mkp mtr mas mso mon mot man mst msm mtb mti mfr mbn mbs mde maa mab mba mbb st1 tb1 ti1 fst ftb fti (smF2 a0 (nI 1)) (cpF freshS q1 48) (upd (fun _ => nI 0) 965 (nI 1)) (vp_updL u1 0 (lN (ww * 8))) hf1 hg ht1 (if_pos rfl) (fun j hj => cpF_lt hj)) kX12_197 hP hD [9, 10, 1, 7, 2, 3, 4, 5, 6] rfl (by decide +kernel) 0 rfl rfl rfl ⟨Nat.le_of_ble_eq_true rfl, Nat.le_of_ble_eq_true rfl⟩ rfl hl.1 rfl (Nat.le_of_ble_eq_true rfl) dX12_spreads_74 ⟨Nat.le_of_ble_eq_true rfl, Nat.le_of_ble_eq_true rfl⟩) hP hD hS hA [9, 10, 1, 7, 2, 3, 4, 5, 6] [0, 8] rfl rfl (by decide +kernel) (by decide +kernel) ?_
  clear hP hD hS
  try clear locs
  try clear H
  intro r_139 u_140 H locs hw_r_139 hP hD hS
  have hw_r_139 : r_139 = nI 0 := hw_r_139
  refine W.widen (k := 0) (n := 0) (Nat.le_of_ble_eq_true rfl) (Nat.le_of_ble_eq_true rfl) ?_
  replace hP : va_P D vwCl [(ti0, .inl (cs 1, 2001, .inr (.inl u0))), (st0, .inl (cs 0, 96048, .inl q0)), (hm, .inr (12, [.ref ms, .ref mkp, .int (nI 0), .ref mtr, .int (nI 4), .int (nI 2), .int (nI 2), .int (nI 3), .int (nI 2), .int (nI 1), .ref mas, .int (nI 0), .int (nI 0), .int (nI 0), .ref mso, .ref mon, .ref mot, .ref man, .int (nI 0), .int (nI 0), .ref mst, .ref msm, .ref mtb, .ref mti, .ref mfr, .ref mbn, .ref mbs, .ref mde, .int (nI 0), .int (nI 0), .int (nI 0), .int (nI 0), .long 0, .long 0, .ref maa, .ref mab, .ref mba, .ref mbb])), (ms, .inl (cs 0, 288, .inl freshS)), (msm, .inl (cs 0, 2, .inl (smF2 a0 (nI 1)))), (mst, .inl (cs 5, 2, .inr (.inr (.inr (.inr fst))))), (st1, .inl (cs 0, 96048, .inl (cpF freshS q1 48))), (mtb, .inl (cs 5, 2, .inr (.inr (.inr (.inr ftb))))), (tb1, .inl (cs 0, 8192, .inl (upd (fun _ => nI 0) 965 (nI 1)))), (mti, .inl (cs 6, 2, .inr (.inr (.inr (.inr fti))))), (ti1, .inl (cs 1, 2001, .inr (.inl (vp_updL u1 0 (lN (ww * 8))))))] H := hP
  replace hD : va_D A [(ti0, .inl (cs 1, 2001, .inr (.inl u0))), (st0, .inl (cs 0, 96048, .inl q0)), (hm, .inr (12, [.ref ms, .ref mkp, .int (nI 0), .ref mtr, .int (nI 4), .int (nI 2), .int (nI 2), .int (nI 3), .int (nI 2), .int (nI 1), .ref mas, .int (nI 0), .int (nI 0), .int (nI 0), .ref mso, .ref mon, .ref mot, .ref man, .int (nI 0), .int (nI 0), .ref mst, .ref msm, .ref mtb, .ref mti, .ref mfr, .ref mbn, .ref mbs, .ref mde, .int (nI 0), .int (nI 0), .int (nI 0), .int (nI 0), .long 0, .long 0, .ref maa, .ref mab, .ref mba, .ref mbb])), (ms, .inl (cs 0, 288, .inl freshS)), (msm, .inl (cs 0, 2, .inl (smF2 a0 (nI 1)))), (mst, .inl (cs 5, 2, .inr (.inr (.inr (.inr fst))))), (st1, .inl (cs 0, 96048, .inl (cpF freshS q1 48))), (mtb, .inl (cs 5, 2, .inr (.inr (.inr (.inr ftb))))), (tb1, .inl (cs 0, 8192, .inl (upd (fun _ => nI 0) 965 (nI 1)))), (mti, .inl (cs 6, 2, .inr (.inr (.inr (.inr fti))))), (ti1, .inl (cs 1, 2001, .inr (.inl (vp_updL u1 0 (lN (ww * 8))))))] := hD
  subst hw_r_139
  refine lv_istore (lv' := [(5, .int (nI 0)), (4, .int (nI 10)), (3, .int (nI 2)), (0, .ref hm), (1, .int (nI 0)), (2, .int (nI 0))]) hx hb dX12_spreads_77 hl (by decide) rfl ?_
  clear hl
  try clear ls
  intro ls hl
  refine lv_iload hx hb dX12_spreads_79 (lv_at hl 0 rfl) ?_
  refine lv_if_ge (tgt := 86) hx hb dX12_spreads_81 (by decide) (fun _ => ?_) (fun c => absurd (by decide) c)
  refine lv_aload_n hx hb dX12_spreads_86 rfl (lv_at hl 3 rfl) ?_
  refine xget C hP 2 rfl rfl zuX12 23 (by decide) zw5_236 rfl dX12_spreads_87 ?_
  refine lv_iconst (v := nI 1) hx hb dX12_spreads_90 (by decide) ?_
  refine lv_iload_n hx hb dX12_spreads_91 rfl (lv_at hl 4 rfl) ?_
  refine lv_isub hx hb dX12_spreads_92 ?_
  refine lv_topi (nm_r (e' := nI 1) (by decide) ?_)
  refine xaald C hP 9 6 rfl rfl rfl 1 rfl (by decide) (by decide) ht1 dX12_spreads_93 ?_
  refine lv_iload hx hb dX12_spreads_94 (lv_at hl 0 rfl) ?_
  refine lv_dup2_11 hx hb dX12_spreads_96 rfl rfl ?_
  refine xlald C hP 10 rfl 0 rfl (by decide) (by decide) dX12_spreads_97 ?_
  refine lv_topl (nm_r (e' := lN (ww * 8)) (upL_0 _ _) ?_)
  refine lv_aload_n hx hb dX12_spreads_98 rfl (lv_at hl 3 rfl) ?_
  refine xget C hP 2 rfl rfl zuX12 23 (by decide) zw5_236 rfl dX12_spreads_99 ?_
  refine lv_iload_n hx hb dX12_spreads_102 rfl (lv_at hl 4 rfl) ?_
  refine xaald C hP 9 6 rfl rfl rfl 0 rfl (by decide) (by decide) ht0 dX12_spreads_103 ?_
  refine lv_iload_n hx hb dX12_spreads_104 rfl (lv_at hl 5 rfl) ?_
  refine xlald C hP 0 rfl 0 rfl (by decide) (by decide) dX12_spreads_105 ?_
  refine lv_topl (nm_r (e' := lN ww) hw ?_)
  refine lv_ladd hx hb dX12_spreads_106 ?_
  refine lv_topl (nm_r (e' := lN (ww * 9)) (lN_a ww 8) ?_)
  refine xlast C hP hD hS 10 rfl 0 rfl (by decide) (by decide) dX12_spreads_107 ?_
  clear hP hD hS
  try clear locs
  try clear H
  intro H locs hP hD hS
  replace hP : va_P D vwCl [(ti0, .inl (cs 1, 2001, .inr (.inl u0))), (st0, .inl (cs 0, 96048, .inl q0)), (hm, .inr (12, [.ref ms, .ref mkp, .int (nI 0), .ref mtr, .int (nI 4), .int (nI 2), .int (nI 2), .int (nI 3), .int (nI 2), .int (nI 1), .ref mas, .int (nI 0), .int (nI 0), .int (nI 0), .ref mso, .ref mon, .ref mot, .ref man, .int (nI 0), .int (nI 0), .ref mst, .ref msm, .ref mtb, .ref mti, .ref mfr, .ref mbn, .ref mbs, .ref mde, .int (nI 0), .int (nI 0), .int (nI 0), .int (nI 0), .long 0, .long 0, .ref maa, .ref mab, .ref mba, .ref mbb])), (ms, .inl (cs 0, 288, .inl freshS)), (msm, .inl (cs 0, 2, .inl (smF2 a0 (nI 1)))), (mst, .inl (cs 5, 2, .inr (.inr (.inr (.inr fst))))), (st1, .inl (cs 0, 96048, .inl (cpF freshS q1 48))), (mtb, .inl (cs 5, 2, .inr (.inr (.inr (.inr ftb))))), (tb1, .inl (cs 0, 8192, .inl (upd (fun _ => nI 0) 965 (nI 1)))), (mti, .inl (cs 6, 2, .inr (.inr (.inr (.inr fti))))), (ti1, .inl (cs 1, 2001, .inr (.inl (vp_updL (vp_updL u1 0 (lN (ww * 8))) 0 (lN (ww * 9))))))] H := hP
  replace hD : va_D A [(ti0, .inl (cs 1, 2001, .inr (.inl u0))), (st0, .inl (cs 0, 96048, .inl q0)), (hm, .inr (12, [.ref ms, .ref mkp, .int (nI 0), .ref mtr, .int (nI 4), .int (nI 2), .int (nI 2), .int (nI 3), .int (nI 2), .int (nI 1), .ref mas, .int (nI 0), .int (nI 0), .int (nI 0), .ref mso, .ref mon, .ref mot, .ref man, .int (nI 0), .int (nI 0), .ref mst, .ref msm, .ref mtb, .ref mti, .ref mfr, .ref mbn, .ref mbs, .ref mde, .int (nI 0), .int (nI 0), .int (nI 0), .int (nI 0), .long 0, .long 0, .ref maa, .ref mab, .ref mba, .ref mbb])), (ms, .inl (cs 0, 288, .inl freshS)), (msm, .inl (cs 0, 2, .inl (smF2 a0 (nI 1)))), (mst, .inl (cs 5, 2, .inr (.inr (.inr (.inr fst))))), (st1, .inl (cs 0, 96048, .inl (cpF freshS q1 48))), (mtb, .inl (cs 5, 2, .inr (.inr (.inr (.inr ftb))))), (tb1, .inl (cs 0, 8192, .inl (upd (fun _ => nI 0) 965 (nI 1)))), (mti, .inl (cs 6, 2, .inr (.inr (.inr (.inr fti))))), (ti1, .inl (cs 1, 2001, .inr (.inl (vp_updL (vp_updL u1 0 (lN (ww * 8))) 0 (lN (ww * 9))))))] := hD
  have hPD := xcongl (q0 := 10) (vp_updL u1 0 (lN (ww * 9))) hP hD rfl (fun j hj => upL_1 u1 _ _ j)
  clear hP hD
  obtain ⟨hP, hD⟩ := hPD
  replace hP : va_P D vwCl [(ti0, .inl (cs 1, 2001, .inr (.inl u0))), (st0, .inl (cs 0, 96048, .inl q0)), (hm, .inr (12, [.ref ms, .ref mkp, .int (nI 0), .ref mtr, .int (nI 4), .int (nI 2), .int (nI 2), .int (nI 3), .int (nI 2), .int (nI 1), .ref mas, .int (nI 0), .int (nI 0), .int (nI 0), .ref mso, .ref mon, .ref mot, .ref man, .int (nI 0), .int (nI 0), .ref mst, .ref msm, .ref mtb, .ref mti, .ref mfr, .ref mbn, .ref mbs, .ref mde, .int (nI 0), .int (nI 0), .int (nI 0), .int (nI 0), .long 0, .long 0, .ref maa, .ref mab, .ref mba, .ref mbb])), (ms, .inl (cs 0, 288, .inl freshS)), (msm, .inl (cs 0, 2, .inl (smF2 a0 (nI 1)))), (mst, .inl (cs 5, 2, .inr (.inr (.inr (.inr fst))))), (st1, .inl (cs 0, 96048, .inl (cpF freshS q1 48))), (mtb, .inl (cs 5, 2, .inr (.inr (.inr (.inr ftb))))), (tb1, .inl (cs 0, 8192, .inl (upd (fun _ => nI 0) 965 (nI 1)))), (mti, .inl (cs 6, 2, .inr (.inr (.inr (.inr fti))))), (ti1, .inl (cs 1, 2001, .inr (.inl (vp_updL u1 0 (lN (ww * 9))))))] H := hP
  replace hD : va_D A [(ti0, .inl (cs 1, 2001, .inr (.inl u0))), (st0, .inl (cs 0, 96048, .inl q0)), (hm, .inr (12, [.ref ms, .ref mkp, .int (nI 0), .ref mtr, .int (nI 4), .int (nI 2), .int (nI 2), .int (nI 3), .int (nI 2), .int (nI 1), .ref mas, .int (nI 0), .int (nI 0), .int (nI 0), .ref mso, .ref mon, .ref mot, .ref man, .int (nI 0), .int (nI 0), .ref mst, .ref msm, .ref mtb, .ref mti, .ref mfr, .ref mbn, .ref mbs, .ref mde, .int (nI 0), .int (nI 0), .int (nI 0), .int (nI 0), .long 0, .long 0, .ref maa, .ref mab, .ref mba, .ref mbb])), (ms, .inl (cs 0, 288, .inl freshS)), (msm, .inl (cs 0, 2, .inl (smF2 a0 (nI 1)))), (mst, .inl (cs 5, 2, .inr (.inr (.inr (.inr fst))))), (st1, .inl (cs 0, 96048, .inl (cpF freshS q1 48))), (mtb, .inl (cs 5, 2, .inr (.inr (.inr (.inr ftb))))), (tb1, .inl (cs 0, 8192, .inl (upd (fun _ => nI 0) 965 (nI 1)))), (mti, .inl (cs 6, 2, .inr (.inr (.inr (.inr fti))))), (ti1, .inl (cs 1, 2001, .inr (.inl (vp_updL u1 0 (lN (ww * 9))))))] := hD
  refine lv_iinc (v := nI 11) (lv' := [(4, .int (nI 11)), (5, .int (nI 0)), (3, .int (nI 2)), (0, .ref hm), (1, .int (nI 0)), (2, .int (nI 0))]) hx hb dX12_spreads_108 hl (k := 1) rfl (by decide) (by decide) rfl ?_
  clear hl
  try clear ls
  intro ls hl
  refine lv_goto (tgt := 13) hx hb dX12_spreads_111 (by decide) ?_
  refine lv_iload hx hb dX12_spreads_13 (lv_at hl 0 rfl) ?_
  refine lv_iconst (v := nI 1) hx hb dX12_spreads_15 (by decide) ?_
  refine lv_aload_n hx hb dX12_spreads_16 rfl (lv_at hl 3 rfl) ?_
  refine xget C hP 2 rfl rfl zuX12 4 (by decide) zw5_217 rfl dX12_spreads_17 ?_
  refine lv_ishl hx hb dX12_spreads_20 ?_
  refine lv_topi (nm_r (e' := nI 16) (by decide) ?_)
  refine lv_icmp_ge (tgt := 114) hx hb dX12_spreads_21 (by decide) (fun c => absurd c (by decide)) (fun _ => ?_)
  refine lv_aload_n hx hb dX12_spreads_24 rfl (lv_at hl 3 rfl) ?_
  refine lv_iload_n hx hb dX12_spreads_25 rfl (lv_at hl 2 rfl) ?_
  refine lv_iload hx hb dX12_spreads_26 (lv_at hl 0 rfl) ?_
  refine xi (wr := [(ti0, .inl (cs 1, 2001, .inr (.inl u0))), (st0, .inl (cs 0, 96048, .inl q0)), (ms, .inl (cs 0, 288, .inl freshS)), (msm, .inl (cs 0, 2, .inl (smF2 a0 (nI 1)))), (mst, .inl (cs 5, 2, .inr (.inr (.inr (.inr fst))))), (st1, .inl (cs 0, 96048, .inl (cpF freshS q1 48))), (mtb, .inl (cs 5, 2, .inr (.inr (.inr (.inr ftb))))), (tb1, .inl (cs 0, 8192, .inl (upd (fun _ => nI 0) 965 (nI 1)))), (mti, .inl (cs 6, 2, .inr (.inr (.inr (.inr fti))))), (ti1, .inl (cs 1, 2001, .inr (.inl (vp_updL u1 0 (lN (ww * 9))))))]) (xV (As := [.int (nI 2), .int (nI 11)]) (rest := []) C (c_X12_isSample_x l D cs hm ms mkp mtr mas mso mon mot man mst msm mtb mti mfr mbn mbs mde maa mab mba mbb 2 11 (by decide) (by decide)) kX12_139 hP hD [2] rfl (by decide +kernel) 0 rfl rfl rfl ⟨Nat.le_of_ble_eq_true rfl, Nat.le_of_ble_eq_true rfl⟩ rfl hl.1 rfl (Nat.le_of_ble_eq_true rfl) dX12_spreads_28 ⟨Nat.le_of_ble_eq_true rfl, Nat.le_of_ble_eq_true rfl⟩) hP hD hS hA [2] [0, 1, 3, 4, 5, 6, 7, 8, 9, 10] rfl rfl (by decide +kernel) (by decide +kernel) ?_
  clear hP hD hS
  try clear locs
  try clear H
  intro r_141 u_142 H locs hw_r_141 hP hD hS
  have hw_r_141 : r_141 = smB 2 11 := hw_r_141
  refine W.widen (k := 0) (n := 0) (Nat.le_of_ble_eq_true rfl) (Nat.le_of_ble_eq_true rfl) ?_
  replace hP : va_P D vwCl [(ti0, .inl (cs 1, 2001, .inr (.inl u0))), (st0, .inl (cs 0, 96048, .inl q0)), (ms, .inl (cs 0, 288, .inl freshS)), (msm, .inl (cs 0, 2, .inl (smF2 a0 (nI 1)))), (mst, .inl (cs 5, 2, .inr (.inr (.inr (.inr fst))))), (st1, .inl (cs 0, 96048, .inl (cpF freshS q1 48))), (mtb, .inl (cs 5, 2, .inr (.inr (.inr (.inr ftb))))), (tb1, .inl (cs 0, 8192, .inl (upd (fun _ => nI 0) 965 (nI 1)))), (mti, .inl (cs 6, 2, .inr (.inr (.inr (.inr fti))))), (ti1, .inl (cs 1, 2001, .inr (.inl (vp_updL u1 0 (lN (ww * 9)))))), (hm, .inr (12, [.ref ms, .ref mkp, .int (nI 0), .ref mtr, .int (nI 4), .int (nI 2), .int (nI 2), .int (nI 3), .int (nI 2), .int (nI 1), .ref mas, .int (nI 0), .int (nI 0), .int (nI 0), .ref mso, .ref mon, .ref mot, .ref man, .int (nI 0), .int (nI 0), .ref mst, .ref msm, .ref mtb, .ref mti, .ref mfr, .ref mbn, .ref mbs, .ref mde, .int (nI 0), .int (nI 0), .int (nI 0), .int (nI 0), .long 0, .long 0, .ref maa, .ref mab, .ref mba, .ref mbb]))] H := hP
  replace hD : va_D A [(ti0, .inl (cs 1, 2001, .inr (.inl u0))), (st0, .inl (cs 0, 96048, .inl q0)), (ms, .inl (cs 0, 288, .inl freshS)), (msm, .inl (cs 0, 2, .inl (smF2 a0 (nI 1)))), (mst, .inl (cs 5, 2, .inr (.inr (.inr (.inr fst))))), (st1, .inl (cs 0, 96048, .inl (cpF freshS q1 48))), (mtb, .inl (cs 5, 2, .inr (.inr (.inr (.inr ftb))))), (tb1, .inl (cs 0, 8192, .inl (upd (fun _ => nI 0) 965 (nI 1)))), (mti, .inl (cs 6, 2, .inr (.inr (.inr (.inr fti))))), (ti1, .inl (cs 1, 2001, .inr (.inl (vp_updL u1 0 (lN (ww * 9)))))), (hm, .inr (12, [.ref ms, .ref mkp, .int (nI 0), .ref mtr, .int (nI 4), .int (nI 2), .int (nI 2), .int (nI 3), .int (nI 2), .int (nI 1), .ref mas, .int (nI 0), .int (nI 0), .int (nI 0), .ref mso, .ref mon, .ref mot, .ref man, .int (nI 0), .int (nI 0), .ref mst, .ref msm, .ref mtb, .ref mti, .ref mfr, .ref mbn, .ref mbs, .ref mde, .int (nI 0), .int (nI 0), .int (nI 0), .int (nI 0), .long 0, .long 0, .ref maa, .ref mab, .ref mba, .ref mbb]))] := hD
  obtain rfl : r_141 = nI 0 := by rw [hw_r_141]; decide +kernel
  refine lv_if_ne (tgt := 37) hx hb dX12_spreads_31 (by decide) (fun c => absurd (by decide) c) (fun _ => ?_)
  refine lv_goto (tgt := 108) hx hb dX12_spreads_34 (by decide) ?_
  refine lv_iinc (v := nI 12) (lv' := [(4, .int (nI 12)), (5, .int (nI 0)), (3, .int (nI 2)), (0, .ref hm), (1, .int (nI 0)), (2, .int (nI 0))]) hx hb dX12_spreads_108 hl (k := 0) rfl (by decide) (by decide) rfl ?_
  clear hl
  try clear ls
  intro ls hl
  refine lv_goto (tgt := 13) hx hb dX12_spreads_111 (by decide) ?_
  refine lv_iload hx hb dX12_spreads_13 (lv_at hl 0 rfl) ?_
  refine lv_iconst (v := nI 1) hx hb dX12_spreads_15 (by decide) ?_
  refine lv_aload_n hx hb dX12_spreads_16 rfl (lv_at hl 3 rfl) ?_
  refine xget C hP 10 rfl rfl zuX12 4 (by decide) zw5_217 rfl dX12_spreads_17 ?_
  refine lv_ishl hx hb dX12_spreads_20 ?_
  refine lv_topi (nm_r (e' := nI 16) (by decide) ?_)
  refine lv_icmp_ge (tgt := 114) hx hb dX12_spreads_21 (by decide) (fun c => absurd c (by decide)) (fun _ => ?_)
  refine lv_aload_n hx hb dX12_spreads_24 rfl (lv_at hl 3 rfl) ?_
  refine lv_iload_n hx hb dX12_spreads_25 rfl (lv_at hl 2 rfl) ?_
  refine lv_iload hx hb dX12_spreads_26 (lv_at hl 0 rfl) ?_
  refine xi (wr := [(ti0, .inl (cs 1, 2001, .inr (.inl u0))), (st0, .inl (cs 0, 96048, .inl q0)), (ms, .inl (cs 0, 288, .inl freshS)), (msm, .inl (cs 0, 2, .inl (smF2 a0 (nI 1)))), (mst, .inl (cs 5, 2, .inr (.inr (.inr (.inr fst))))), (st1, .inl (cs 0, 96048, .inl (cpF freshS q1 48))), (mtb, .inl (cs 5, 2, .inr (.inr (.inr (.inr ftb))))), (tb1, .inl (cs 0, 8192, .inl (upd (fun _ => nI 0) 965 (nI 1)))), (mti, .inl (cs 6, 2, .inr (.inr (.inr (.inr fti))))), (ti1, .inl (cs 1, 2001, .inr (.inl (vp_updL u1 0 (lN (ww * 9))))))]) (xV (As := [.int (nI 2), .int (nI 12)]) (rest := []) C (c_X12_isSample_x l D cs hm ms mkp mtr mas mso mon mot man mst msm mtb mti mfr mbn mbs mde maa mab mba mbb 2 12 (by decide) (by decide)) kX12_139 hP hD [10] rfl (by decide +kernel) 0 rfl rfl rfl ⟨Nat.le_of_ble_eq_true rfl, Nat.le_of_ble_eq_true rfl⟩ rfl hl.1 rfl (Nat.le_of_ble_eq_true rfl) dX12_spreads_28 ⟨Nat.le_of_ble_eq_true rfl, Nat.le_of_ble_eq_true rfl⟩) hP hD hS hA [10] [0, 1, 2, 3, 4, 5, 6, 7, 8, 9] rfl rfl (by decide +kernel) (by decide +kernel) ?_
  clear hP hD hS
  try clear locs
  try clear H
  intro r_143 u_144 H locs hw_r_143 hP hD hS
  have hw_r_143 : r_143 = smB 2 12 := hw_r_143
  refine W.widen (k := 0) (n := 0) (Nat.le_of_ble_eq_true rfl) (Nat.le_of_ble_eq_true rfl) ?_
  replace hP : va_P D vwCl [(ti0, .inl (cs 1, 2001, .inr (.inl u0))), (st0, .inl (cs 0, 96048, .inl q0)), (ms, .inl (cs 0, 288, .inl freshS)), (msm, .inl (cs 0, 2, .inl (smF2 a0 (nI 1)))), (mst, .inl (cs 5, 2, .inr (.inr (.inr (.inr fst))))), (st1, .inl (cs 0, 96048, .inl (cpF freshS q1 48))), (mtb, .inl (cs 5, 2, .inr (.inr (.inr (.inr ftb))))), (tb1, .inl (cs 0, 8192, .inl (upd (fun _ => nI 0) 965 (nI 1)))), (mti, .inl (cs 6, 2, .inr (.inr (.inr (.inr fti))))), (ti1, .inl (cs 1, 2001, .inr (.inl (vp_updL u1 0 (lN (ww * 9)))))), (hm, .inr (12, [.ref ms, .ref mkp, .int (nI 0), .ref mtr, .int (nI 4), .int (nI 2), .int (nI 2), .int (nI 3), .int (nI 2), .int (nI 1), .ref mas, .int (nI 0), .int (nI 0), .int (nI 0), .ref mso, .ref mon, .ref mot, .ref man, .int (nI 0), .int (nI 0), .ref mst, .ref msm, .ref mtb, .ref mti, .ref mfr, .ref mbn, .ref mbs, .ref mde, .int (nI 0), .int (nI 0), .int (nI 0), .int (nI 0), .long 0, .long 0, .ref maa, .ref mab, .ref mba, .ref mbb]))] H := hP
  replace hD : va_D A [(ti0, .inl (cs 1, 2001, .inr (.inl u0))), (st0, .inl (cs 0, 96048, .inl q0)), (ms, .inl (cs 0, 288, .inl freshS)), (msm, .inl (cs 0, 2, .inl (smF2 a0 (nI 1)))), (mst, .inl (cs 5, 2, .inr (.inr (.inr (.inr fst))))), (st1, .inl (cs 0, 96048, .inl (cpF freshS q1 48))), (mtb, .inl (cs 5, 2, .inr (.inr (.inr (.inr ftb))))), (tb1, .inl (cs 0, 8192, .inl (upd (fun _ => nI 0) 965 (nI 1)))), (mti, .inl (cs 6, 2, .inr (.inr (.inr (.inr fti))))), (ti1, .inl (cs 1, 2001, .inr (.inl (vp_updL u1 0 (lN (ww * 9)))))), (hm, .inr (12, [.ref ms, .ref mkp, .int (nI 0), .ref mtr, .int (nI 4), .int (nI 2), .int (nI 2), .int (nI 3), .int (nI 2), .int (nI 1), .ref mas, .int (nI 0), .int (nI 0), .int (nI 0), .ref mso, .ref mon, .ref mot, .ref man, .int (nI 0), .int (nI 0), .ref mst, .ref msm, .ref mtb, .ref mti, .ref mfr, .ref mbn, .ref mbs, .ref mde, .int (nI 0), .int (nI 0), .int (nI 0), .int (nI 0), .long 0, .long 0, .ref maa, .ref mab, .ref mba, .ref mbb]))] := hD
  obtain rfl : r_143 = nI 0 := by rw [hw_r_143]; decide +kernel
  refine lv_if_ne (tgt := 37) hx hb dX12_spreads_31 (by decide) (fun c => absurd (by decide) c) (fun _ => ?_)
  refine lv_goto (tgt := 108) hx hb dX12_spreads_34 (by decide) ?_
  refine lv_iinc (v := nI 13) (lv' := [(4, .int (nI 13)), (5, .int (nI 0)), (3, .int (nI 2)), (0, .ref hm), (1, .int (nI 0)), (2, .int (nI 0))]) hx hb dX12_spreads_108 hl (k := 0) rfl (by decide) (by decide) rfl ?_
  clear hl
  try clear ls
  intro ls hl
  refine lv_goto (tgt := 13) hx hb dX12_spreads_111 (by decide) ?_
  refine lv_iload hx hb dX12_spreads_13 (lv_at hl 0 rfl) ?_
  refine lv_iconst (v := nI 1) hx hb dX12_spreads_15 (by decide) ?_
  refine lv_aload_n hx hb dX12_spreads_16 rfl (lv_at hl 3 rfl) ?_
  refine xget C hP 10 rfl rfl zuX12 4 (by decide) zw5_217 rfl dX12_spreads_17 ?_
  refine lv_ishl hx hb dX12_spreads_20 ?_
  refine lv_topi (nm_r (e' := nI 16) (by decide) ?_)
  refine lv_icmp_ge (tgt := 114) hx hb dX12_spreads_21 (by decide) (fun c => absurd c (by decide)) (fun _ => ?_)
  refine lv_aload_n hx hb dX12_spreads_24 rfl (lv_at hl 3 rfl) ?_
  refine lv_iload_n hx hb dX12_spreads_25 rfl (lv_at hl 2 rfl) ?_
  refine lv_iload hx hb dX12_spreads_26 (lv_at hl 0 rfl) ?_
  refine xi (wr := [(ti0, .inl (cs 1, 2001, .inr (.inl u0))), (st0, .inl (cs 0, 96048, .inl q0)), (ms, .inl (cs 0, 288, .inl freshS)), (msm, .inl (cs 0, 2, .inl (smF2 a0 (nI 1)))), (mst, .inl (cs 5, 2, .inr (.inr (.inr (.inr fst))))), (st1, .inl (cs 0, 96048, .inl (cpF freshS q1 48))), (mtb, .inl (cs 5, 2, .inr (.inr (.inr (.inr ftb))))), (tb1, .inl (cs 0, 8192, .inl (upd (fun _ => nI 0) 965 (nI 1)))), (mti, .inl (cs 6, 2, .inr (.inr (.inr (.inr fti))))), (ti1, .inl (cs 1, 2001, .inr (.inl (vp_updL u1 0 (lN (ww * 9))))))]) (xV (As := [.int (nI 2), .int (nI 13)]) (rest := []) C (c_X12_isSample_x l D cs hm ms mkp mtr mas mso mon mot man mst msm mtb mti mfr mbn mbs mde maa mab mba mbb 2 13 (by decide) (by decide)) kX12_139 hP hD [10] rfl (by decide +kernel) 0 rfl rfl rfl ⟨Nat.le_of_ble_eq_true rfl, Nat.le_of_ble_eq_true rfl⟩ rfl hl.1 rfl (Nat.le_of_ble_eq_true rfl) dX12_spreads_28 ⟨Nat.le_of_ble_eq_true rfl, Nat.le_of_ble_eq_true rfl⟩) hP hD hS hA [10] [0, 1, 2, 3, 4, 5, 6, 7, 8, 9] rfl rfl (by decide +kernel) (by decide +kernel) ?_
  clear hP hD hS
  try clear locs
  try clear H
  intro r_145 u_146 H locs hw_r_145 hP hD hS
  have hw_r_145 : r_145 = smB 2 13 := hw_r_145
  refine W.widen (k := 0) (n := 0) (Nat.le_of_ble_eq_true rfl) (Nat.le_of_ble_eq_true rfl) ?_
  replace hP : va_P D vwCl [(ti0, .inl (cs 1, 2001, .inr (.inl u0))), (st0, .inl (cs 0, 96048, .inl q0)), (ms, .inl (cs 0, 288, .inl freshS)), (msm, .inl (cs 0, 2, .inl (smF2 a0 (nI 1)))), (mst, .inl (cs 5, 2, .inr (.inr (.inr (.inr fst))))), (st1, .inl (cs 0, 96048, .inl (cpF freshS q1 48))), (mtb, .inl (cs 5, 2, .inr (.inr (.inr (.inr ftb))))), (tb1, .inl (cs 0, 8192, .inl (upd (fun _ => nI 0) 965 (nI 1)))), (mti, .inl (cs 6, 2, .inr (.inr (.inr (.inr fti))))), (ti1, .inl (cs 1, 2001, .inr (.inl (vp_updL u1 0 (lN (ww * 9)))))), (hm, .inr (12, [.ref ms, .ref mkp, .int (nI 0), .ref mtr, .int (nI 4), .int (nI 2), .int (nI 2), .int (nI 3), .int (nI 2), .int (nI 1), .ref mas, .int (nI 0), .int (nI 0), .int (nI 0), .ref mso, .ref mon, .ref mot, .ref man, .int (nI 0), .int (nI 0), .ref mst, .ref msm, .ref mtb, .ref mti, .ref mfr, .ref mbn, .ref mbs, .ref mde, .int (nI 0), .int (nI 0), .int (nI 0), .int (nI 0), .long 0, .long 0, .ref maa, .ref mab, .ref mba, .ref mbb]))] H := hP
  replace hD : va_D A [(ti0, .inl (cs 1, 2001, .inr (.inl u0))), (st0, .inl (cs 0, 96048, .inl q0)), (ms, .inl (cs 0, 288, .inl freshS)), (msm, .inl (cs 0, 2, .inl (smF2 a0 (nI 1)))), (mst, .inl (cs 5, 2, .inr (.inr (.inr (.inr fst))))), (st1, .inl (cs 0, 96048, .inl (cpF freshS q1 48))), (mtb, .inl (cs 5, 2, .inr (.inr (.inr (.inr ftb))))), (tb1, .inl (cs 0, 8192, .inl (upd (fun _ => nI 0) 965 (nI 1)))), (mti, .inl (cs 6, 2, .inr (.inr (.inr (.inr fti))))), (ti1, .inl (cs 1, 2001, .inr (.inl (vp_updL u1 0 (lN (ww * 9)))))), (hm, .inr (12, [.ref ms, .ref mkp, .int (nI 0), .ref mtr, .int (nI 4), .int (nI 2), .int (nI 2), .int (nI 3), .int (nI 2), .int (nI 1), .ref mas, .int (nI 0), .int (nI 0), .int (nI 0), .ref mso, .ref mon, .ref mot, .ref man, .int (nI 0), .int (nI 0), .ref mst, .ref msm, .ref mtb, .ref mti, .ref mfr, .ref mbn, .ref mbs, .ref mde, .int (nI 0), .int (nI 0), .int (nI 0), .int (nI 0), .long 0, .long 0, .ref maa, .ref mab, .ref mba, .ref mbb]))] := hD
  obtain rfl : r_145 = nI 0 := by rw [hw_r_145]; decide +kernel
  refine lv_if_ne (tgt := 37) hx hb dX12_spreads_31 (by decide) (fun c => absurd (by decide) c) (fun _ => ?_)
  refine lv_goto (tgt := 108) hx hb dX12_spreads_34 (by decide) ?_
  refine lv_iinc (v := nI 14) (lv' := [(4, .int (nI 14)), (5, .int (nI 0)), (3, .int (nI 2)), (0, .ref hm), (1, .int (nI 0)), (2, .int (nI 0))]) hx hb dX12_spreads_108 hl (k := 0) rfl (by decide) (by decide) rfl ?_
  clear hl
  try clear ls
  intro ls hl
  refine lv_goto (tgt := 13) hx hb dX12_spreads_111 (by decide) ?_
  refine lv_iload hx hb dX12_spreads_13 (lv_at hl 0 rfl) ?_
  refine lv_iconst (v := nI 1) hx hb dX12_spreads_15 (by decide) ?_
  refine lv_aload_n hx hb dX12_spreads_16 rfl (lv_at hl 3 rfl) ?_
  refine xget C hP 10 rfl rfl zuX12 4 (by decide) zw5_217 rfl dX12_spreads_17 ?_
  refine lv_ishl hx hb dX12_spreads_20 ?_
  refine lv_topi (nm_r (e' := nI 16) (by decide) ?_)
  refine lv_icmp_ge (tgt := 114) hx hb dX12_spreads_21 (by decide) (fun c => absurd c (by decide)) (fun _ => ?_)
  refine lv_aload_n hx hb dX12_spreads_24 rfl (lv_at hl 3 rfl) ?_
  refine lv_iload_n hx hb dX12_spreads_25 rfl (lv_at hl 2 rfl) ?_
  refine lv_iload hx hb dX12_spreads_26 (lv_at hl 0 rfl) ?_
  refine xi (wr := [(ti0, .inl (cs 1, 2001, .inr (.inl u0))), (st0, .inl (cs 0, 96048, .inl q0)), (ms, .inl (cs 0, 288, .inl freshS)), (msm, .inl (cs 0, 2, .inl (smF2 a0 (nI 1)))), (mst, .inl (cs 5, 2, .inr (.inr (.inr (.inr fst))))), (st1, .inl (cs 0, 96048, .inl (cpF freshS q1 48))), (mtb, .inl (cs 5, 2, .inr (.inr (.inr (.inr ftb))))), (tb1, .inl (cs 0, 8192, .inl (upd (fun _ => nI 0) 965 (nI 1)))), (mti, .inl (cs 6, 2, .inr (.inr (.inr (.inr fti))))), (ti1, .inl (cs 1, 2001, .inr (.inl (vp_updL u1 0 (lN (ww * 9))))))]) (xV (As := [.int (nI 2), .int (nI 14)]) (rest := []) C (c_X12_isSample_x l D cs hm ms mkp mtr mas mso mon mot man mst msm mtb mti mfr mbn mbs mde maa mab mba mbb 2 14 (by decide) (by decide)) kX12_139 hP hD [10] rfl (by decide +kernel) 0 rfl rfl rfl ⟨Nat.le_of_ble_eq_true rfl, Nat.le_of_ble_eq_true rfl⟩ rfl hl.1 rfl (Nat.le_of_ble_eq_true rfl) dX12_spreads_28 ⟨Nat.le_of_ble_eq_true rfl, Nat.le_of_ble_eq_true rfl⟩) hP hD hS hA [10] [0, 1, 2, 3, 4, 5, 6, 7, 8, 9] rfl rfl (by decide +kernel) (by decide +kernel) ?_
  clear hP hD hS
  try clear locs
  try clear H
  intro r_147 u_148 H locs hw_r_147 hP hD hS
  have hw_r_147 : r_147 = smB 2 14 := hw_r_147
  refine W.widen (k := 0) (n := 0) (Nat.le_of_ble_eq_true rfl) (Nat.le_of_ble_eq_true rfl) ?_
  replace hP : va_P D vwCl [(ti0, .inl (cs 1, 2001, .inr (.inl u0))), (st0, .inl (cs 0, 96048, .inl q0)), (ms, .inl (cs 0, 288, .inl freshS)), (msm, .inl (cs 0, 2, .inl (smF2 a0 (nI 1)))), (mst, .inl (cs 5, 2, .inr (.inr (.inr (.inr fst))))), (st1, .inl (cs 0, 96048, .inl (cpF freshS q1 48))), (mtb, .inl (cs 5, 2, .inr (.inr (.inr (.inr ftb))))), (tb1, .inl (cs 0, 8192, .inl (upd (fun _ => nI 0) 965 (nI 1)))), (mti, .inl (cs 6, 2, .inr (.inr (.inr (.inr fti))))), (ti1, .inl (cs 1, 2001, .inr (.inl (vp_updL u1 0 (lN (ww * 9)))))), (hm, .inr (12, [.ref ms, .ref mkp, .int (nI 0), .ref mtr, .int (nI 4), .int (nI 2), .int (nI 2), .int (nI 3), .int (nI 2), .int (nI 1), .ref mas, .int (nI 0), .int (nI 0), .int (nI 0), .ref mso, .ref mon, .ref mot, .ref man, .int (nI 0), .int (nI 0), .ref mst, .ref msm, .ref mtb, .ref mti, .ref mfr, .ref mbn, .ref mbs, .ref mde, .int (nI 0), .int (nI 0), .int (nI 0), .int (nI 0), .long 0, .long 0, .ref maa, .ref mab, .ref mba, .ref mbb]))] H := hP
  replace hD : va_D A [(ti0, .inl (cs 1, 2001, .inr (.inl u0))), (st0, .inl (cs 0, 96048, .inl q0)), (ms, .inl (cs 0, 288, .inl freshS)), (msm, .inl (cs 0, 2, .inl (smF2 a0 (nI 1)))), (mst, .inl (cs 5, 2, .inr (.inr (.inr (.inr fst))))), (st1, .inl (cs 0, 96048, .inl (cpF freshS q1 48))), (mtb, .inl (cs 5, 2, .inr (.inr (.inr (.inr ftb))))), (tb1, .inl (cs 0, 8192, .inl (upd (fun _ => nI 0) 965 (nI 1)))), (mti, .inl (cs 6, 2, .inr (.inr (.inr (.inr fti))))), (ti1, .inl (cs 1, 2001, .inr (.inl (vp_updL u1 0 (lN (ww * 9)))))), (hm, .inr (12, [.ref ms, .ref mkp, .int (nI 0), .ref mtr, .int (nI 4), .int (nI 2), .int (nI 2), .int (nI 3), .int (nI 2), .int (nI 1), .ref mas, .int (nI 0), .int (nI 0), .int (nI 0), .ref mso, .ref mon, .ref mot, .ref man, .int (nI 0), .int (nI 0), .ref mst, .ref msm, .ref mtb, .ref mti, .ref mfr, .ref mbn, .ref mbs, .ref mde, .int (nI 0), .int (nI 0), .int (nI 0), .int (nI 0), .long 0, .long 0, .ref maa, .ref mab, .ref mba, .ref mbb]))] := hD
  obtain rfl : r_147 = nI 0 := by rw [hw_r_147]; decide +kernel
  refine lv_if_ne (tgt := 37) hx hb dX12_spreads_31 (by decide) (fun c => absurd (by decide) c) (fun _ => ?_)
  refine lv_goto (tgt := 108) hx hb dX12_spreads_34 (by decide) ?_
  refine lv_iinc (v := nI 15) (lv' := [(4, .int (nI 15)), (5, .int (nI 0)), (3, .int (nI 2)), (0, .ref hm), (1, .int (nI 0)), (2, .int (nI 0))]) hx hb dX12_spreads_108 hl (k := 0) rfl (by decide) (by decide) rfl ?_
  clear hl
  try clear ls
  intro ls hl
  refine lv_goto (tgt := 13) hx hb dX12_spreads_111 (by decide) ?_
  refine lv_iload hx hb dX12_spreads_13 (lv_at hl 0 rfl) ?_
  refine lv_iconst (v := nI 1) hx hb dX12_spreads_15 (by decide) ?_
  refine lv_aload_n hx hb dX12_spreads_16 rfl (lv_at hl 3 rfl) ?_
  refine xget C hP 10 rfl rfl zuX12 4 (by decide) zw5_217 rfl dX12_spreads_17 ?_
  refine lv_ishl hx hb dX12_spreads_20 ?_
  refine lv_topi (nm_r (e' := nI 16) (by decide) ?_)
  refine lv_icmp_ge (tgt := 114) hx hb dX12_spreads_21 (by decide) (fun c => absurd c (by decide)) (fun _ => ?_)
  refine lv_aload_n hx hb dX12_spreads_24 rfl (lv_at hl 3 rfl) ?_
  refine lv_iload_n hx hb dX12_spreads_25 rfl (lv_at hl 2 rfl) ?_
  refine lv_iload hx hb dX12_spreads_26 (lv_at hl 0 rfl) ?_
  refine xi (wr := [(ti0, .inl (cs 1, 2001, .inr (.inl u0))), (st0, .inl (cs 0, 96048, .inl q0)), (ms, .inl (cs 0, 288, .inl freshS)), (msm, .inl (cs 0, 2, .inl (smF2 a0 (nI 1)))), (mst, .inl (cs 5, 2, .inr (.inr (.inr (.inr fst))))), (st1, .inl (cs 0, 96048, .inl (cpF freshS q1 48))), (mtb, .inl (cs 5, 2, .inr (.inr (.inr (.inr ftb))))), (tb1, .inl (cs 0, 8192, .inl (upd (fun _ => nI 0) 965 (nI 1)))), (mti, .inl (cs 6, 2, .inr (.inr (.inr (.inr fti))))), (ti1, .inl (cs 1, 2001, .inr (.inl (vp_updL u1 0 (lN (ww * 9))))))]) (xV (As := [.int (nI 2), .int (nI 15)]) (rest := []) C (c_X12_isSample_x l D cs hm ms mkp mtr mas mso mon mot man mst msm mtb mti mfr mbn mbs mde maa mab mba mbb 2 15 (by decide) (by decide)) kX12_139 hP hD [10] rfl (by decide +kernel) 0 rfl rfl rfl ⟨Nat.le_of_ble_eq_true rfl, Nat.le_of_ble_eq_true rfl⟩ rfl hl.1 rfl (Nat.le_of_ble_eq_true rfl) dX12_spreads_28 ⟨Nat.le_of_ble_eq_true rfl, Nat.le_of_ble_eq_true rfl⟩) hP hD hS hA [10] [0, 1, 2, 3, 4, 5, 6, 7, 8, 9] rfl rfl (by decide +kernel) (by decide +kernel) ?_
  clear hP hD hS
  try clear locs
  try clear H
  intro r_149 u_150 H locs hw_r_149 hP hD hS
  have hw_r_149 : r_149 = smB 2 15 := hw_r_149
  refine W.widen (k := 0) (n := 0) (Nat.le_of_ble_eq_true rfl) (Nat.le_of_ble_eq_true rfl) ?_
  replace hP : va_P D vwCl [(ti0, .inl (cs 1, 2001, .inr (.inl u0))), (st0, .inl (cs 0, 96048, .inl q0)), (ms, .inl (cs 0, 288, .inl freshS)), (msm, .inl (cs 0, 2, .inl (smF2 a0 (nI 1)))), (mst, .inl (cs 5, 2, .inr (.inr (.inr (.inr fst))))), (st1, .inl (cs 0, 96048, .inl (cpF freshS q1 48))), (mtb, .inl (cs 5, 2, .inr (.inr (.inr (.inr ftb))))), (tb1, .inl (cs 0, 8192, .inl (upd (fun _ => nI 0) 965 (nI 1)))), (mti, .inl (cs 6, 2, .inr (.inr (.inr (.inr fti))))), (ti1, .inl (cs 1, 2001, .inr (.inl (vp_updL u1 0 (lN (ww * 9)))))), (hm, .inr (12, [.ref ms, .ref mkp, .int (nI 0), .ref mtr, .int (nI 4), .int (nI 2), .int (nI 2), .int (nI 3), .int (nI 2), .int (nI 1), .ref mas, .int (nI 0), .int (nI 0), .int (nI 0), .ref mso, .ref mon, .ref mot, .ref man, .int (nI 0), .int (nI 0), .ref mst, .ref msm, .ref mtb, .ref mti, .ref mfr, .ref mbn, .ref mbs, .ref mde, .int (nI 0), .int (nI 0), .int (nI 0), .int (nI 0), .long 0, .long 0, .ref maa, .ref mab, .ref mba, .ref mbb]))] H := hP
  replace hD : va_D A [(ti0, .inl (cs 1, 2001, .inr (.inl u0))), (st0, .inl (cs 0, 96048, .inl q0)), (ms, .inl (cs 0, 288, .inl freshS)), (msm, .inl (cs 0, 2, .inl (smF2 a0 (nI 1)))), (mst, .inl (cs 5, 2, .inr (.inr (.inr (.inr fst))))), (st1, .inl (cs 0, 96048, .inl (cpF freshS q1 48))), (mtb, .inl (cs 5, 2, .inr (.inr (.inr (.inr ftb))))), (tb1, .inl (cs 0, 8192, .inl (upd (fun _ => nI 0) 965 (nI 1)))), (mti, .inl (cs 6, 2, .inr (.inr (.inr (.inr fti))))), (ti1, .inl (cs 1, 2001, .inr (.inl (vp_updL u1 0 (lN (ww * 9)))))), (hm, .inr (12, [.ref ms, .ref mkp, .int (nI 0), .ref mtr, .int (nI 4), .int (nI 2), .int (nI 2), .int (nI 3), .int (nI 2), .int (nI 1), .ref mas, .int (nI 0), .int (nI 0), .int (nI 0), .ref mso, .ref mon, .ref mot, .ref man, .int (nI 0), .int (nI 0), .ref mst, .ref msm, .ref mtb, .ref mti, .ref mfr, .ref mbn, .ref mbs, .ref mde, .int (nI 0), .int (nI 0), .int (nI 0), .int (nI 0), .long 0, .long 0, .ref maa, .ref mab, .ref mba, .ref mbb]))] := hD
  obtain rfl : r_149 = nI 0 := by rw [hw_r_149]; decide +kernel
  refine lv_if_ne (tgt := 37) hx hb dX12_spreads_31 (by decide) (fun c => absurd (by decide) c) (fun _ => ?_)
  refine lv_goto (tgt := 108) hx hb dX12_spreads_34 (by decide) ?_
  refine lv_iinc (v := nI 16) (lv' := [(4, .int (nI 16)), (5, .int (nI 0)), (3, .int (nI 2)), (0, .ref hm), (1, .int (nI 0)), (2, .int (nI 0))]) hx hb dX12_spreads_108 hl (k := 0) rfl (by decide) (by decide) rfl ?_
  clear hl
  try clear ls
  intro ls hl
  refine lv_goto (tgt := 13) hx hb dX12_spreads_111 (by decide) ?_
  refine lv_iload hx hb dX12_spreads_13 (lv_at hl 0 rfl) ?_
  refine lv_iconst (v := nI 1) hx hb dX12_spreads_15 (by decide) ?_
  refine lv_aload_n hx hb dX12_spreads_16 rfl (lv_at hl 3 rfl) ?_
  refine xget C hP 10 rfl rfl zuX12 4 (by decide) zw5_217 rfl dX12_spreads_17 ?_
  refine lv_ishl hx hb dX12_spreads_20 ?_
  refine lv_topi (nm_r (e' := nI 16) (by decide) ?_)
  refine lv_icmp_ge (tgt := 114) hx hb dX12_spreads_21 (by decide) (fun _ => ?_) (fun c => absurd (by decide) c)
  refine lv_iinc (v := nI 3) (lv' := [(3, .int (nI 3)), (4, .int (nI 16)), (5, .int (nI 0)), (0, .ref hm), (1, .int (nI 0)), (2, .int (nI 0))]) hx hb dX12_spreads_114 hl (k := 2) rfl (by decide) (by decide) rfl ?_
  clear hl
  try clear ls
  intro ls hl
  refine lv_goto (tgt := 2) hx hb dX12_spreads_117 (by decide) ?_
  refine lv_iload_n hx hb dX12_spreads_2 rfl (lv_at hl 0 rfl) ?_
  refine lv_aload_n hx hb dX12_spreads_3 rfl (lv_at hl 3 rfl) ?_
  refine xget C hP 10 rfl rfl zuX12 4 (by decide) zw5_217 rfl dX12_spreads_4 ?_
  refine lv_icmp_ge (tgt := 120) hx hb dX12_spreads_7 (by decide) (fun c => absurd c (by decide)) (fun _ => ?_)
  refine lv_iconst (v := nI 0) hx hb dX12_spreads_10 (by decide) ?_
  refine lv_istore (lv' := [(4, .int (nI 0)), (3, .int (nI 3)), (5, .int (nI 0)), (0, .ref hm), (1, .int (nI 0)), (2, .int (nI 0))]) hx hb dX12_spreads_11 hl (by decide) rfl ?_
  clear hl
  try clear ls
  intro ls hl
  refine lv_iload hx hb dX12_spreads_13 (lv_at hl 0 rfl) ?_
  refine lv_iconst (v := nI 1) hx hb dX12_spreads_15 (by decide) ?_
  refine lv_aload_n hx hb dX12_spreads_16 rfl (lv_at hl 3 rfl) ?_
  refine xget C hP 10 rfl rfl zuX12 4 (by decide) zw5_217 rfl dX12_spreads_17 ?_
  refine lv_ishl hx hb dX12_spreads_20 ?_
  refine lv_topi (nm_r (e' := nI 16) (by decide) ?_)
  refine lv_icmp_ge (tgt := 114) hx hb dX12_spreads_21 (by decide) (fun c => absurd c (by decide)) (fun _ => ?_)
  refine lv_aload_n hx hb dX12_spreads_24 rfl (lv_at hl 3 rfl) ?_
  refine lv_iload_n hx hb dX12_spreads_25 rfl (lv_at hl 1 rfl) ?_
  refine lv_iload hx hb dX12_spreads_26 (lv_at hl 0 rfl) ?_
  refine xi (wr := [(ti0, .inl (cs 1, 2001, .inr (.inl u0))), (st0, .inl (cs 0, 96048, .inl q0)), (ms, .inl (cs 0, 288, .inl freshS)), (msm, .inl (cs 0, 2, .inl (smF2 a0 (nI 1)))), (mst, .inl (cs 5, 2, .inr (.inr (.inr (.inr fst))))), (st1, .inl (cs 0, 96048, .inl (cpF freshS q1 48))), (mtb, .inl (cs 5, 2, .inr (.inr (.inr (.inr ftb))))), (tb1, .inl (cs 0, 8192, .inl (upd (fun _ => nI 0) 965 (nI 1)))), (mti, .inl (cs 6, 2, .inr (.inr (.inr (.inr fti))))), (ti1, .inl (cs 1, 2001, .inr (.inl (vp_updL u1 0 (lN (ww * 9))))))]) (xV (As := [.int (nI 3), .int (nI 0)]) (rest := []) C (c_X12_isSample_x l D cs hm ms mkp mtr mas mso mon mot man mst msm mtb mti mfr mbn mbs mde maa mab mba mbb 3 0 (by decide) (by decide)) kX12_139 hP hD [10] rfl (by decide +kernel) 0 rfl rfl rfl ⟨Nat.le_of_ble_eq_true rfl, Nat.le_of_ble_eq_true rfl⟩ rfl hl.1 rfl (Nat.le_of_ble_eq_true rfl) dX12_spreads_28 ⟨Nat.le_of_ble_eq_true rfl, Nat.le_of_ble_eq_true rfl⟩) hP hD hS hA [10] [0, 1, 2, 3, 4, 5, 6, 7, 8, 9] rfl rfl (by decide +kernel) (by decide +kernel) ?_
  clear hP hD hS
  try clear locs
  try clear H
  intro r_151 u_152 H locs hw_r_151 hP hD hS
  have hw_r_151 : r_151 = smB 3 0 := hw_r_151
  refine W.widen (k := 0) (n := 0) (Nat.le_of_ble_eq_true rfl) (Nat.le_of_ble_eq_true rfl) ?_
  replace hP : va_P D vwCl [(ti0, .inl (cs 1, 2001, .inr (.inl u0))), (st0, .inl (cs 0, 96048, .inl q0)), (ms, .inl (cs 0, 288, .inl freshS)), (msm, .inl (cs 0, 2, .inl (smF2 a0 (nI 1)))), (mst, .inl (cs 5, 2, .inr (.inr (.inr (.inr fst))))), (st1, .inl (cs 0, 96048, .inl (cpF freshS q1 48))), (mtb, .inl (cs 5, 2, .inr (.inr (.inr (.inr ftb))))), (tb1, .inl (cs 0, 8192, .inl (upd (fun _ => nI 0) 965 (nI 1)))), (mti, .inl (cs 6, 2, .inr (.inr (.inr (.inr fti))))), (ti1, .inl (cs 1, 2001, .inr (.inl (vp_updL u1 0 (lN (ww * 9)))))), (hm, .inr (12, [.ref ms, .ref mkp, .int (nI 0), .ref mtr, .int (nI 4), .int (nI 2), .int (nI 2), .int (nI 3), .int (nI 2), .int (nI 1), .ref mas, .int (nI 0), .int (nI 0), .int (nI 0), .ref mso, .ref mon, .ref mot, .ref man, .int (nI 0), .int (nI 0), .ref mst, .ref msm, .ref mtb, .ref mti, .ref mfr, .ref mbn, .ref mbs, .ref mde, .int (nI 0), .int (nI 0), .int (nI 0), .int (nI 0), .long 0, .long 0, .ref maa, .ref mab, .ref mba, .ref mbb]))] H := hP
  replace hD : va_D A [(ti0, .inl (cs 1, 2001, .inr (.inl u0))), (st0, .inl (cs 0, 96048, .inl q0)), (ms, .inl (cs 0, 288, .inl freshS)), (msm, .inl (cs 0, 2, .inl (smF2 a0 (nI 1)))), (mst, .inl (cs 5, 2, .inr (.inr (.inr (.inr fst))))), (st1, .inl (cs 0, 96048, .inl (cpF freshS q1 48))), (mtb, .inl (cs 5, 2, .inr (.inr (.inr (.inr ftb))))), (tb1, .inl (cs 0, 8192, .inl (upd (fun _ => nI 0) 965 (nI 1)))), (mti, .inl (cs 6, 2, .inr (.inr (.inr (.inr fti))))), (ti1, .inl (cs 1, 2001, .inr (.inl (vp_updL u1 0 (lN (ww * 9)))))), (hm, .inr (12, [.ref ms, .ref mkp, .int (nI 0), .ref mtr, .int (nI 4), .int (nI 2), .int (nI 2), .int (nI 3), .int (nI 2), .int (nI 1), .ref mas, .int (nI 0), .int (nI 0), .int (nI 0), .ref mso, .ref mon, .ref mot, .ref man, .int (nI 0), .int (nI 0), .ref mst, .ref msm, .ref mtb, .ref mti, .ref mfr, .ref mbn, .ref mbs, .ref mde, .int (nI 0), .int (nI 0), .int (nI 0), .int (nI 0), .long 0, .long 0, .ref maa, .ref mab, .ref mba, .ref mbb]))] := hD
  obtain rfl : r_151 = nI 0 := by rw [hw_r_151]; decide +kernel
  refine lv_if_ne (tgt := 37) hx hb dX12_spreads_31 (by decide) (fun c => absurd (by decide) c) (fun _ => ?_)
  refine lv_goto (tgt := 108) hx hb dX12_spreads_34 (by decide) ?_
  refine lv_iinc (v := nI 1) (lv' := [(4, .int (nI 1)), (3, .int (nI 3)), (5, .int (nI 0)), (0, .ref hm), (1, .int (nI 0)), (2, .int (nI 0))]) hx hb dX12_spreads_108 hl (k := 0) rfl (by decide) (by decide) rfl ?_
  clear hl
  try clear ls
  intro ls hl
  refine lv_goto (tgt := 13) hx hb dX12_spreads_111 (by decide) ?_
  refine lv_iload hx hb dX12_spreads_13 (lv_at hl 0 rfl) ?_
  refine lv_iconst (v := nI 1) hx hb dX12_spreads_15 (by decide) ?_
  refine lv_aload_n hx hb dX12_spreads_16 rfl (lv_at hl 3 rfl) ?_
  refine xget C hP 10 rfl rfl zuX12 4 (by decide) zw5_217 rfl dX12_spreads_17 ?_
  refine lv_ishl hx hb dX12_spreads_20 ?_
  refine lv_topi (nm_r (e' := nI 16) (by decide) ?_)
  refine lv_icmp_ge (tgt := 114) hx hb dX12_spreads_21 (by decide) (fun c => absurd c (by decide)) (fun _ => ?_)
  refine lv_aload_n hx hb dX12_spreads_24 rfl (lv_at hl 3 rfl) ?_
  refine lv_iload_n hx hb dX12_spreads_25 rfl (lv_at hl 1 rfl) ?_
  refine lv_iload hx hb dX12_spreads_26 (lv_at hl 0 rfl) ?_
  refine xi (wr := [(ti0, .inl (cs 1, 2001, .inr (.inl u0))), (st0, .inl (cs 0, 96048, .inl q0)), (ms, .inl (cs 0, 288, .inl freshS)), (msm, .inl (cs 0, 2, .inl (smF2 a0 (nI 1)))), (mst, .inl (cs 5, 2, .inr (.inr (.inr (.inr fst))))), (st1, .inl (cs 0, 96048, .inl (cpF freshS q1 48))), (mtb, .inl (cs 5, 2, .inr (.inr (.inr (.inr ftb))))), (tb1, .inl (cs 0, 8192, .inl (upd (fun _ => nI 0) 965 (nI 1)))), (mti, .inl (cs 6, 2, .inr (.inr (.inr (.inr fti))))), (ti1, .inl (cs 1, 2001, .inr (.inl (vp_updL u1 0 (lN (ww * 9))))))]) (xV (As := [.int (nI 3), .int (nI 1)]) (rest := []) C (c_X12_isSample_x l D cs hm ms mkp mtr mas mso mon mot man mst msm mtb mti mfr mbn mbs mde maa mab mba mbb 3 1 (by decide) (by decide)) kX12_139 hP hD [10] rfl (by decide +kernel) 0 rfl rfl rfl ⟨Nat.le_of_ble_eq_true rfl, Nat.le_of_ble_eq_true rfl⟩ rfl hl.1 rfl (Nat.le_of_ble_eq_true rfl) dX12_spreads_28 ⟨Nat.le_of_ble_eq_true rfl, Nat.le_of_ble_eq_true rfl⟩) hP hD hS hA [10] [0, 1, 2, 3, 4, 5, 6, 7, 8, 9] rfl rfl (by decide +kernel) (by decide +kernel) ?_
  clear hP hD hS
  try clear locs
  try clear H
  intro r_153 u_154 H locs hw_r_153 hP hD hS
  have hw_r_153 : r_153 = smB 3 1 := hw_r_153
  refine W.widen (k := 0) (n := 0) (Nat.le_of_ble_eq_true rfl) (Nat.le_of_ble_eq_true rfl) ?_
  replace hP : va_P D vwCl [(ti0, .inl (cs 1, 2001, .inr (.inl u0))), (st0, .inl (cs 0, 96048, .inl q0)), (ms, .inl (cs 0, 288, .inl freshS)), (msm, .inl (cs 0, 2, .inl (smF2 a0 (nI 1)))), (mst, .inl (cs 5, 2, .inr (.inr (.inr (.inr fst))))), (st1, .inl (cs 0, 96048, .inl (cpF freshS q1 48))), (mtb, .inl (cs 5, 2, .inr (.inr (.inr (.inr ftb))))), (tb1, .inl (cs 0, 8192, .inl (upd (fun _ => nI 0) 965 (nI 1)))), (mti, .inl (cs 6, 2, .inr (.inr (.inr (.inr fti))))), (ti1, .inl (cs 1, 2001, .inr (.inl (vp_updL u1 0 (lN (ww * 9)))))), (hm, .inr (12, [.ref ms, .ref mkp, .int (nI 0), .ref mtr, .int (nI 4), .int (nI 2), .int (nI 2), .int (nI 3), .int (nI 2), .int (nI 1), .ref mas, .int (nI 0), .int (nI 0), .int (nI 0), .ref mso, .ref mon, .ref mot, .ref man, .int (nI 0), .int (nI 0), .ref mst, .ref msm, .ref mtb, .ref mti, .ref mfr, .ref mbn, .ref mbs, .ref mde, .int (nI 0), .int (nI 0), .int (nI 0), .int (nI 0), .long 0, .long 0, .ref maa, .ref mab, .ref mba, .ref mbb]))] H := hP
  replace hD : va_D A [(ti0, .inl (cs 1, 2001, .inr (.inl u0))), (st0, .inl (cs 0, 96048, .inl q0)), (ms, .inl (cs 0, 288, .inl freshS)), (msm, .inl (cs 0, 2, .inl (smF2 a0 (nI 1)))), (mst, .inl (cs 5, 2, .inr (.inr (.inr (.inr fst))))), (st1, .inl (cs 0, 96048, .inl (cpF freshS q1 48))), (mtb, .inl (cs 5, 2, .inr (.inr (.inr (.inr ftb))))), (tb1, .inl (cs 0, 8192, .inl (upd (fun _ => nI 0) 965 (nI 1)))), (mti, .inl (cs 6, 2, .inr (.inr (.inr (.inr fti))))), (ti1, .inl (cs 1, 2001, .inr (.inl (vp_updL u1 0 (lN (ww * 9)))))), (hm, .inr (12, [.ref ms, .ref mkp, .int (nI 0), .ref mtr, .int (nI 4), .int (nI 2), .int (nI 2), .int (nI 3), .int (nI 2), .int (nI 1), .ref mas, .int (nI 0), .int (nI 0), .int (nI 0), .ref mso, .ref mon, .ref mot, .ref man, .int (nI 0), .int (nI 0), .ref mst, .ref msm, .ref mtb, .ref mti, .ref mfr, .ref mbn, .ref mbs, .ref mde, .int (nI 0), .int (nI 0), .int (nI 0), .int (nI 0), .long 0, .long 0, .ref maa, .ref mab, .ref mba, .ref mbb]))] := hD
  obtain rfl : r_153 = nI 0 := by rw [hw_r_153]; decide +kernel
  refine lv_if_ne (tgt := 37) hx hb dX12_spreads_31 (by decide) (fun c => absurd (by decide) c) (fun _ => ?_)
  refine lv_goto (tgt := 108) hx hb dX12_spreads_34 (by decide) ?_
  refine lv_iinc (v := nI 2) (lv' := [(4, .int (nI 2)), (3, .int (nI 3)), (5, .int (nI 0)), (0, .ref hm), (1, .int (nI 0)), (2, .int (nI 0))]) hx hb dX12_spreads_108 hl (k := 0) rfl (by decide) (by decide) rfl ?_
  clear hl
  try clear ls
  intro ls hl
  refine lv_goto (tgt := 13) hx hb dX12_spreads_111 (by decide) ?_
  refine lv_iload hx hb dX12_spreads_13 (lv_at hl 0 rfl) ?_
  refine lv_iconst (v := nI 1) hx hb dX12_spreads_15 (by decide) ?_
  refine lv_aload_n hx hb dX12_spreads_16 rfl (lv_at hl 3 rfl) ?_
  refine xget C hP 10 rfl rfl zuX12 4 (by decide) zw5_217 rfl dX12_spreads_17 ?_
  refine lv_ishl hx hb dX12_spreads_20 ?_
  refine lv_topi (nm_r (e' := nI 16) (by decide) ?_)
  refine lv_icmp_ge (tgt := 114) hx hb dX12_spreads_21 (by decide) (fun c => absurd c (by decide)) (fun _ => ?_)
  refine lv_aload_n hx hb dX12_spreads_24 rfl (lv_at hl 3 rfl) ?_
  refine lv_iload_n hx hb dX12_spreads_25 rfl (lv_at hl 1 rfl) ?_
  refine lv_iload hx hb dX12_spreads_26 (lv_at hl 0 rfl) ?_
  refine xi (wr := [(ti0, .inl (cs 1, 2001, .inr (.inl u0))), (st0, .inl (cs 0, 96048, .inl q0)), (ms, .inl (cs 0, 288, .inl freshS)), (msm, .inl (cs 0, 2, .inl (smF2 a0 (nI 1)))), (mst, .inl (cs 5, 2, .inr (.inr (.inr (.inr fst))))), (st1, .inl (cs 0, 96048, .inl (cpF freshS q1 48))), (mtb, .inl (cs 5, 2, .inr (.inr (.inr (.inr ftb))))), (tb1, .inl (cs 0, 8192, .inl (upd (fun _ => nI 0) 965 (nI 1)))), (mti, .inl (cs 6, 2, .inr (.inr (.inr (.inr fti))))), (ti1, .inl (cs 1, 2001, .inr (.inl (vp_updL u1 0 (lN (ww * 9))))))]) (xV (As := [.int (nI 3), .int (nI 2)]) (rest := []) C (c_X12_isSample_x l D cs hm ms mkp mtr mas mso mon mot man mst msm mtb mti mfr mbn mbs mde maa mab mba mbb 3 2 (by decide) (by decide)) kX12_139 hP hD [10] rfl (by decide +kernel) 0 rfl rfl rfl ⟨Nat.le_of_ble_eq_true rfl, Nat.le_of_ble_eq_true rfl⟩ rfl hl.1 rfl (Nat.le_of_ble_eq_true rfl) dX12_spreads_28 ⟨Nat.le_of_ble_eq_true rfl, Nat.le_of_ble_eq_true rfl⟩) hP hD hS hA [10] [0, 1, 2, 3, 4, 5, 6, 7, 8, 9] rfl rfl (by decide +kernel) (by decide +kernel) ?_
  clear hP hD hS
  try clear locs
  try clear H
  intro r_155 u_156 H locs hw_r_155 hP hD hS
  have hw_r_155 : r_155 = smB 3 2 := hw_r_155
  refine W.widen (k := 0) (n := 0) (Nat.le_of_ble_eq_true rfl) (Nat.le_of_ble_eq_true rfl) ?_
  replace hP : va_P D vwCl [(ti0, .inl (cs 1, 2001, .inr (.inl u0))), (st0, .inl (cs 0, 96048, .inl q0)), (ms, .inl (cs 0, 288, .inl freshS)), (msm, .inl (cs 0, 2, .inl (smF2 a0 (nI 1)))), (mst, .inl (cs 5, 2, .inr (.inr (.inr (.inr fst))))), (st1, .inl (cs 0, 96048, .inl (cpF freshS q1 48))), (mtb, .inl (cs 5, 2, .inr (.inr (.inr (.inr ftb))))), (tb1, .inl (cs 0, 8192, .inl (upd (fun _ => nI 0) 965 (nI 1)))), (mti, .inl (cs 6, 2, .inr (.inr (.inr (.inr fti))))), (ti1, .inl (cs 1, 2001, .inr (.inl (vp_updL u1 0 (lN (ww * 9)))))), (hm, .inr (12, [.ref ms, .ref mkp, .int (nI 0), .ref mtr, .int (nI 4), .int (nI 2), .int (nI 2), .int (nI 3), .int (nI 2), .int (nI 1), .ref mas, .int (nI 0), .int (nI 0), .int (nI 0), .ref mso, .ref mon, .ref mot, .ref man, .int (nI 0), .int (nI 0), .ref mst, .ref msm, .ref mtb, .ref mti, .ref mfr, .ref mbn, .ref mbs, .ref mde, .int (nI 0), .int (nI 0), .int (nI 0), .int (nI 0), .long 0, .long 0, .ref maa, .ref mab, .ref mba, .ref mbb]))] H := hP
  replace hD : va_D A [(ti0, .inl (cs 1, 2001, .inr (.inl u0))), (st0, .inl (cs 0, 96048, .inl q0)), (ms, .inl (cs 0, 288, .inl freshS)), (msm, .inl (cs 0, 2, .inl (smF2 a0 (nI 1)))), (mst, .inl (cs 5, 2, .inr (.inr (.inr (.inr fst))))), (st1, .inl (cs 0, 96048, .inl (cpF freshS q1 48))), (mtb, .inl (cs 5, 2, .inr (.inr (.inr (.inr ftb))))), (tb1, .inl (cs 0, 8192, .inl (upd (fun _ => nI 0) 965 (nI 1)))), (mti, .inl (cs 6, 2, .inr (.inr (.inr (.inr fti))))), (ti1, .inl (cs 1, 2001, .inr (.inl (vp_updL u1 0 (lN (ww * 9)))))), (hm, .inr (12, [.ref ms, .ref mkp, .int (nI 0), .ref mtr, .int (nI 4), .int (nI 2), .int (nI 2), .int (nI 3), .int (nI 2), .int (nI 1), .ref mas, .int (nI 0), .int (nI 0), .int (nI 0), .ref mso, .ref mon, .ref mot, .ref man, .int (nI 0), .int (nI 0), .ref mst, .ref msm, .ref mtb, .ref mti, .ref mfr, .ref mbn, .ref mbs, .ref mde, .int (nI 0), .int (nI 0), .int (nI 0), .int (nI 0), .long 0, .long 0, .ref maa, .ref mab, .ref mba, .ref mbb]))] := hD
  obtain rfl : r_155 = nI 0 := by rw [hw_r_155]; decide +kernel
  refine lv_if_ne (tgt := 37) hx hb dX12_spreads_31 (by decide) (fun c => absurd (by decide) c) (fun _ => ?_)
  refine lv_goto (tgt := 108) hx hb dX12_spreads_34 (by decide) ?_
  refine lv_iinc (v := nI 3) (lv' := [(4, .int (nI 3)), (3, .int (nI 3)), (5, .int (nI 0)), (0, .ref hm), (1, .int (nI 0)), (2, .int (nI 0))]) hx hb dX12_spreads_108 hl (k := 0) rfl (by decide) (by decide) rfl ?_
  clear hl
  try clear ls
  intro ls hl
  refine lv_goto (tgt := 13) hx hb dX12_spreads_111 (by decide) ?_
  refine lv_iload hx hb dX12_spreads_13 (lv_at hl 0 rfl) ?_
  refine lv_iconst (v := nI 1) hx hb dX12_spreads_15 (by decide) ?_
  refine lv_aload_n hx hb dX12_spreads_16 rfl (lv_at hl 3 rfl) ?_
  refine xget C hP 10 rfl rfl zuX12 4 (by decide) zw5_217 rfl dX12_spreads_17 ?_
  refine lv_ishl hx hb dX12_spreads_20 ?_
  refine lv_topi (nm_r (e' := nI 16) (by decide) ?_)
  refine lv_icmp_ge (tgt := 114) hx hb dX12_spreads_21 (by decide) (fun c => absurd c (by decide)) (fun _ => ?_)
  refine lv_aload_n hx hb dX12_spreads_24 rfl (lv_at hl 3 rfl) ?_
  refine lv_iload_n hx hb dX12_spreads_25 rfl (lv_at hl 1 rfl) ?_
  refine lv_iload hx hb dX12_spreads_26 (lv_at hl 0 rfl) ?_
  refine xi (wr := [(ti0, .inl (cs 1, 2001, .inr (.inl u0))), (st0, .inl (cs 0, 96048, .inl q0)), (ms, .inl (cs 0, 288, .inl freshS)), (msm, .inl (cs 0, 2, .inl (smF2 a0 (nI 1)))), (mst, .inl (cs 5, 2, .inr (.inr (.inr (.inr fst))))), (st1, .inl (cs 0, 96048, .inl (cpF freshS q1 48))), (mtb, .inl (cs 5, 2, .inr (.inr (.inr (.inr ftb))))), (tb1, .inl (cs 0, 8192, .inl (upd (fun _ => nI 0) 965 (nI 1)))), (mti, .inl (cs 6, 2, .inr (.inr (.inr (.inr fti))))), (ti1, .inl (cs 1, 2001, .inr (.inl (vp_updL u1 0 (lN (ww * 9))))))]) (xV (As := [.int (nI 3), .int (nI 3)]) (rest := []) C (c_X12_isSample_x l D cs hm ms mkp mtr mas mso mon mot man mst msm mtb mti mfr mbn mbs mde maa mab mba mbb 3 3 (by decide) (by decide)) kX12_139 hP hD [10] rfl (by decide +kernel) 0 rfl rfl rfl ⟨Nat.le_of_ble_eq_true rfl, Nat.le_of_ble_eq_true rfl⟩ rfl hl.1 rfl (Nat.le_of_ble_eq_true rfl) dX12_spreads_28 ⟨Nat.le_of_ble_eq_true rfl, Nat.le_of_ble_eq_true rfl⟩) hP hD hS hA [10] [0, 1, 2, 3, 4, 5, 6, 7, 8, 9] rfl rfl (by decide +kernel) (by decide +kernel) ?_
  clear hP hD hS
  try clear locs
  try clear H
  intro r_157 u_158 H locs hw_r_157 hP hD hS
  have hw_r_157 : r_157 = smB 3 3 := hw_r_157
  refine W.widen (k := 0) (n := 0) (Nat.le_of_ble_eq_true rfl) (Nat.le_of_ble_eq_true rfl) ?_
  replace hP : va_P D vwCl [(ti0, .inl (cs 1, 2001, .inr (.inl u0))), (st0, .inl (cs 0, 96048, .inl q0)), (ms, .inl (cs 0, 288, .inl freshS)), (msm, .inl (cs 0, 2, .inl (smF2 a0 (nI 1)))), (mst, .inl (cs 5, 2, .inr (.inr (.inr (.inr fst))))), (st1, .inl (cs 0, 96048, .inl (cpF freshS q1 48))), (mtb, .inl (cs 5, 2, .inr (.inr (.inr (.inr ftb))))), (tb1, .inl (cs 0, 8192, .inl (upd (fun _ => nI 0) 965 (nI 1)))), (mti, .inl (cs 6, 2, .inr (.inr (.inr (.inr fti))))), (ti1, .inl (cs 1, 2001, .inr (.inl (vp_updL u1 0 (lN (ww * 9)))))), (hm, .inr (12, [.ref ms, .ref mkp, .int (nI 0), .ref mtr, .int (nI 4), .int (nI 2), .int (nI 2), .int (nI 3), .int (nI 2), .int (nI 1), .ref mas, .int (nI 0), .int (nI 0), .int (nI 0), .ref mso, .ref mon, .ref mot, .ref man, .int (nI 0), .int (nI 0), .ref mst, .ref msm, .ref mtb, .ref mti, .ref mfr, .ref mbn, .ref mbs, .ref mde, .int (nI 0), .int (nI 0), .int (nI 0), .int (nI 0), .long 0, .long 0, .ref maa, .ref mab, .ref mba, .ref mbb]))] H := hP
  replace hD : va_D A [(ti0, .inl (cs 1, 2001, .inr (.inl u0))), (st0, .inl (cs 0, 96048, .inl q0)), (ms, .inl (cs 0, 288, .inl freshS)), (msm, .inl (cs 0, 2, .inl (smF2 a0 (nI 1)))), (mst, .inl (cs 5, 2, .inr (.inr (.inr (.inr fst))))), (st1, .inl (cs 0, 96048, .inl (cpF freshS q1 48))), (mtb, .inl (cs 5, 2, .inr (.inr (.inr (.inr ftb))))), (tb1, .inl (cs 0, 8192, .inl (upd (fun _ => nI 0) 965 (nI 1)))), (mti, .inl (cs 6, 2, .inr (.inr (.inr (.inr fti))))), (ti1, .inl (cs 1, 2001, .inr (.inl (vp_updL u1 0 (lN (ww * 9)))))), (hm, .inr (12, [.ref ms, .ref mkp, .int (nI 0), .ref mtr, .int (nI 4), .int (nI 2), .int (nI 2), .int (nI 3), .int (nI 2), .int (nI 1), .ref mas, .int (nI 0), .int (nI 0), .int (nI 0), .ref mso, .ref mon, .ref mot, .ref man, .int (nI 0), .int (nI 0), .ref mst, .ref msm, .ref mtb, .ref mti, .ref mfr, .ref mbn, .ref mbs, .ref mde, .int (nI 0), .int (nI 0), .int (nI 0), .int (nI 0), .long 0, .long 0, .ref maa, .ref mab, .ref mba, .ref mbb]))] := hD
  obtain rfl : r_157 = nI 1 := by rw [hw_r_157]; decide +kernel
  refine lv_if_ne (tgt := 37) hx hb dX12_spreads_31 (by decide) (fun _ => ?_) (fun c => absurd c (by decide))
  refine lv_aload_n hx hb dX12_spreads_37 rfl (lv_at hl 3 rfl) ?_
  refine lv_iload_n hx hb dX12_spreads_38 rfl (lv_at hl 4 rfl) ?_
  refine lv_iload_n hx hb dX12_spreads_39 rfl (lv_at hl 5 rfl) ?_
  refine xv (wr := [(ti0, .inl (cs 1, 2001, .inr (.inl u0))), (msm, .inl (cs 0, 2, .inl (smF2 a0 (nI 1)))), (st1, .inl (cs 0, 96048, .inl (cpF freshS q1 48))), (mtb, .inl (cs 5, 2, .inr (.inr (.inr (.inr ftb))))), (tb1, .inl (cs 0, 8192, .inl (upd (fun _ => nI 0) 965 (nI 1)))), (mti, .inl (cs 6, 2, .inr (.inr (.inr (.inr fti))))), (ti1, .inl (cs 1, 2001, .inr (.inl (vp_updL u1 0 (lN (ww * 9))))))]) (xV (As := [.int (nI 0), .int (nI 0)]) (rest := []) C (c_X12_brings_0 l D cs hm ms mkp mtr mas mso mon mot man mst msm mtb mti mfr mbn mbs mde maa mab mba mbb st0 fst q0 hf0 hq) kX12_203 hP hD [10, 2, 4, 1] rfl (by decide +kernel) 0 rfl rfl rfl ⟨Nat.le_of_ble_eq_true rfl, Nat.le_of_ble_eq_true rfl⟩ rfl hl.1 rfl (Nat.le_of_ble_eq_true rfl) dX12_spreads_40 ⟨Nat.le_of_ble_eq_true rfl, Nat.le_of_ble_eq_true rfl⟩) hP hD hS hA [10, 2, 4, 1] [0, 3, 5, 6, 7, 8, 9] rfl rfl (by decide +kernel) (by decide +kernel) ?_
  clear hP hD hS
  try clear locs
  try clear H
  intro u_160 H locs hw_r_159 hP hD hS
  refine W.widen (k := 0) (n := 0) (Nat.le_of_ble_eq_true rfl) (Nat.le_of_ble_eq_true rfl) ?_
  replace hP : va_P D vwCl [(ti0, .inl (cs 1, 2001, .inr (.inl u0))), (msm, .inl (cs 0, 2, .inl (smF2 a0 (nI 1)))), (st1, .inl (cs 0, 96048, .inl (cpF freshS q1 48))), (mtb, .inl (cs 5, 2, .inr (.inr (.inr (.inr ftb))))), (tb1, .inl (cs 0, 8192, .inl (upd (fun _ => nI 0) 965 (nI 1)))), (mti, .inl (cs 6, 2, .inr (.inr (.inr (.inr fti))))), (ti1, .inl (cs 1, 2001, .inr (.inl (vp_updL u1 0 (lN (ww * 9)))))), (hm, .inr (12, [.ref ms, .ref mkp, .int (nI 0), .ref mtr, .int (nI 4), .int (nI 2), .int (nI 2), .int (nI 3), .int (nI 2), .int (nI 1), .ref mas, .int (nI 0), .int (nI 0), .int (nI 0), .ref mso, .ref mon, .ref mot, .ref man, .int (nI 0), .int (nI 0), .ref mst, .ref msm, .ref mtb, .ref mti, .ref mfr, .ref mbn, .ref mbs, .ref mde, .int (nI 0), .int (nI 0), .int (nI 0), .int (nI 0), .long 0, .long 0, .ref maa, .ref mab, .ref mba, .ref mbb])), (ms, .inl (cs 0, 288, .inl freshS)), (mst, .inl (cs 5, 2, .inr (.inr (.inr (.inr fst))))), (st0, .inl (cs 0, 96048, .inl q0))] H := hP
  replace hD : va_D A [(ti0, .inl (cs 1, 2001, .inr (.inl u0))), (msm, .inl (cs 0, 2, .inl (smF2 a0 (nI 1)))), (st1, .inl (cs 0, 96048, .inl (cpF freshS q1 48))), (mtb, .inl (cs 5, 2, .inr (.inr (.inr (.inr ftb))))), (tb1, .inl (cs 0, 8192, .inl (upd (fun _ => nI 0) 965 (nI 1)))), (mti, .inl (cs 6, 2, .inr (.inr (.inr (.inr fti))))), (ti1, .inl (cs 1, 2001, .inr (.inl (vp_updL u1 0 (lN (ww * 9)))))), (hm, .inr (12, [.ref ms, .ref mkp, .int (nI 0), .ref mtr, .int (nI 4), .int (nI 2), .int (nI 2), .int (nI 3), .int (nI 2), .int (nI 1), .ref mas, .int (nI 0), .int (nI 0), .int (nI 0), .ref mso, .ref mon, .ref mot, .ref man, .int (nI 0), .int (nI 0), .ref mst, .ref msm, .ref mtb, .ref mti, .ref mfr, .ref mbn, .ref mbs, .ref mde, .int (nI 0), .int (nI 0), .int (nI 0), .int (nI 0), .long 0, .long 0, .ref maa, .ref mab, .ref mba, .ref mbb])), (ms, .inl (cs 0, 288, .inl freshS)), (mst, .inl (cs 5, 2, .inr (.inr (.inr (.inr fst))))), (st0, .inl (cs 0, 96048, .inl q0))] := hD
  refine lv_aload_n hx hb dX12_spreads_43 rfl (lv_at hl 3 rfl) ?_
  refine lv_iload_n hx hb dX12_spreads_44 rfl (lv_at hl 1 rfl) ?_
  refine xi (wr := [(ti0, .inl (cs 1, 2001, .inr (.inl u0))), (msm, .inl (cs 0, 2, .inl (smF2 a0 (nI 1)))), (st1, .inl (cs 0, 96048, .inl (cpF freshS q1 48))), (mtb, .inl (cs 5, 2, .inr (.inr (.inr (.inr ftb))))), (tb1, .inl (cs 0, 8192, .inl (upd (fun _ => nI 0) 965 (nI 1)))), (mti, .inl (cs 6, 2, .inr (.inr (.inr (.inr fti))))), (ti1, .inl (cs 1, 2001, .inr (.inl (vp_updL u1 0 (lN (ww * 9)))))), (mst, .inl (cs 5, 2, .inr (.inr (.inr (.inr fst))))), (st0, .inl (cs 0, 96048, .inl q0))]) (xV (As := [.int (nI 3)]) (rest := []) C (c_X12_canAsk_z l D cs hm ms mkp mtr mas mso mon mot man mst msm mtb mti mfr mbn mbs mde maa mab mba mbb 3 (by decide)) kX12_142 hP hD [7, 8] rfl (by decide +kernel) 0 rfl rfl rfl ⟨Nat.le_of_ble_eq_true rfl, Nat.le_of_ble_eq_true rfl⟩ rfl hl.1 rfl (Nat.le_of_ble_eq_true rfl) dX12_spreads_45 ⟨Nat.le_of_ble_eq_true rfl, Nat.le_of_ble_eq_true rfl⟩) hP hD hS hA [7, 8] [0, 1, 2, 3, 4, 5, 6, 9, 10] rfl rfl (by decide +kernel) (by decide +kernel) ?_
  clear hP hD hS
  try clear locs
  try clear H
  intro r_161 u_162 H locs hw_r_161 hP hD hS
  have hw_r_161 : r_161 = nI 0 := hw_r_161
  refine W.widen (k := 0) (n := 0) (Nat.le_of_ble_eq_true rfl) (Nat.le_of_ble_eq_true rfl) ?_
  replace hP : va_P D vwCl [(ti0, .inl (cs 1, 2001, .inr (.inl u0))), (msm, .inl (cs 0, 2, .inl (smF2 a0 (nI 1)))), (st1, .inl (cs 0, 96048, .inl (cpF freshS q1 48))), (mtb, .inl (cs 5, 2, .inr (.inr (.inr (.inr ftb))))), (tb1, .inl (cs 0, 8192, .inl (upd (fun _ => nI 0) 965 (nI 1)))), (mti, .inl (cs 6, 2, .inr (.inr (.inr (.inr fti))))), (ti1, .inl (cs 1, 2001, .inr (.inl (vp_updL u1 0 (lN (ww * 9)))))), (mst, .inl (cs 5, 2, .inr (.inr (.inr (.inr fst))))), (st0, .inl (cs 0, 96048, .inl q0)), (hm, .inr (12, [.ref ms, .ref mkp, .int (nI 0), .ref mtr, .int (nI 4), .int (nI 2), .int (nI 2), .int (nI 3), .int (nI 2), .int (nI 1), .ref mas, .int (nI 0), .int (nI 0), .int (nI 0), .ref mso, .ref mon, .ref mot, .ref man, .int (nI 0), .int (nI 0), .ref mst, .ref msm, .ref mtb, .ref mti, .ref mfr, .ref mbn, .ref mbs, .ref mde, .int (nI 0), .int (nI 0), .int (nI 0), .int (nI 0), .long 0, .long 0, .ref maa, .ref mab, .ref mba, .ref mbb])), (ms, .inl (cs 0, 288, .inl freshS))] H := hP
  replace hD : va_D A [(ti0, .inl (cs 1, 2001, .inr (.inl u0))), (msm, .inl (cs 0, 2, .inl (smF2 a0 (nI 1)))), (st1, .inl (cs 0, 96048, .inl (cpF freshS q1 48))), (mtb, .inl (cs 5, 2, .inr (.inr (.inr (.inr ftb))))), (tb1, .inl (cs 0, 8192, .inl (upd (fun _ => nI 0) 965 (nI 1)))), (mti, .inl (cs 6, 2, .inr (.inr (.inr (.inr fti))))), (ti1, .inl (cs 1, 2001, .inr (.inl (vp_updL u1 0 (lN (ww * 9)))))), (mst, .inl (cs 5, 2, .inr (.inr (.inr (.inr fst))))), (st0, .inl (cs 0, 96048, .inl q0)), (hm, .inr (12, [.ref ms, .ref mkp, .int (nI 0), .ref mtr, .int (nI 4), .int (nI 2), .int (nI 2), .int (nI 3), .int (nI 2), .int (nI 1), .ref mas, .int (nI 0), .int (nI 0), .int (nI 0), .ref mso, .ref mon, .ref mot, .ref man, .int (nI 0), .int (nI 0), .ref mst, .ref msm, .ref mtb, .ref mti, .ref mfr, .ref mbn, .ref mbs, .ref mde, .int (nI 0), .int (nI 0), .int (nI 0), .int (nI 0), .long 0, .long 0, .ref maa, .ref mab, .ref mba, .ref mbb])), (ms, .inl (cs 0, 288, .inl freshS))] := hD
  subst hw_r_161
  refine lv_if_eq (tgt := 67) hx hb dX12_spreads_48 (by decide) (fun _ => ?_) (fun c => absurd (by decide) c)
  refine lv_aload_n hx hb dX12_spreads_67 rfl (lv_at hl 3 rfl) ?_
  refine lv_iconst (v := nI 1) hx hb dX12_spreads_68 (by decide) ?_
  refine lv_iload_n hx hb dX12_spreads_69 rfl (lv_at hl 4 rfl) ?_
  refine lv_isub hx hb dX12_spreads_70 ?_
  refine lv_topi (nm_r (e' := nI 1) (by decide) ?_)
  refine lv_sipush (v := nI 2000) hx hb dX12_spreads_71 (by decide) ?_
  refine xi (wr := [(ti0, .inl (cs 1, 2001, .inr (.inl u0))), (st0, .inl (cs 0, 96048, .inl q0))]) (xV (As := [.int (nI 1), .int (nI 2000)]) (rest := []) C (c_X12_numberOf_b1 l D cs hm ms mkp mtr mas mso mon mot man mst msm mtb mti mfr mbn mbs mde maa mab mba mbb st1 tb1 ti1 fst ftb fti (smF2 a0 (nI 1)) (cpF freshS q1 48) (upd (fun _ => nI 0) 965 (nI 1)) (vp_updL u1 0 (lN (ww * 9))) hf1 hg ht1 (if_pos rfl) (fun j hj => cpF_lt hj)) kX12_197 hP hD [9, 10, 1, 7, 2, 3, 4, 5, 6] rfl (by decide +kernel) 0 rfl rfl rfl ⟨Nat.le_of_ble_eq_true rfl, Nat.le_of_ble_eq_true rfl⟩ rfl hl.1 rfl (Nat.le_of_ble_eq_true rfl) dX12_spreads_74 ⟨Nat.le_of_ble_eq_true rfl, Nat.le_of_ble_eq_true rfl⟩) hP hD hS hA [9, 10, 1, 7, 2, 3, 4, 5, 6] [0, 8] rfl rfl (by decide +kernel) (by decide +kernel) ?_
  clear hP hD hS
  try clear locs
  try clear H
  intro r_163 u_164 H locs hw_r_163 hP hD hS
  have hw_r_163 : r_163 = nI 0 := hw_r_163
  refine W.widen (k := 0) (n := 0) (Nat.le_of_ble_eq_true rfl) (Nat.le_of_ble_eq_true rfl) ?_
  replace hP : va_P D vwCl [(ti0, .inl (cs 1, 2001, .inr (.inl u0))), (st0, .inl (cs 0, 96048, .inl q0)), (hm, .inr (12, [.ref ms, .ref mkp, .int (nI 0), .ref mtr, .int (nI 4), .int (nI 2), .int (nI 2), .int (nI 3), .int (nI 2), .int (nI 1), .ref mas, .int (nI 0), .int (nI 0), .int (nI 0), .ref mso, .ref mon, .ref mot, .ref man, .int (nI 0), .int (nI 0), .ref mst, .ref msm, .ref mtb, .ref mti, .ref mfr, .ref mbn, .ref mbs, .ref mde, .int (nI 0), .int (nI 0), .int (nI 0), .int (nI 0), .long 0, .long 0, .ref maa, .ref mab, .ref mba, .ref mbb])), (ms, .inl (cs 0, 288, .inl freshS)), (msm, .inl (cs 0, 2, .inl (smF2 a0 (nI 1)))), (mst, .inl (cs 5, 2, .inr (.inr (.inr (.inr fst))))), (st1, .inl (cs 0, 96048, .inl (cpF freshS q1 48))), (mtb, .inl (cs 5, 2, .inr (.inr (.inr (.inr ftb))))), (tb1, .inl (cs 0, 8192, .inl (upd (fun _ => nI 0) 965 (nI 1)))), (mti, .inl (cs 6, 2, .inr (.inr (.inr (.inr fti))))), (ti1, .inl (cs 1, 2001, .inr (.inl (vp_updL u1 0 (lN (ww * 9))))))] H := hP
  replace hD : va_D A [(ti0, .inl (cs 1, 2001, .inr (.inl u0))), (st0, .inl (cs 0, 96048, .inl q0)), (hm, .inr (12, [.ref ms, .ref mkp, .int (nI 0), .ref mtr, .int (nI 4), .int (nI 2), .int (nI 2), .int (nI 3), .int (nI 2), .int (nI 1), .ref mas, .int (nI 0), .int (nI 0), .int (nI 0), .ref mso, .ref mon, .ref mot, .ref man, .int (nI 0), .int (nI 0), .ref mst, .ref msm, .ref mtb, .ref mti, .ref mfr, .ref mbn, .ref mbs, .ref mde, .int (nI 0), .int (nI 0), .int (nI 0), .int (nI 0), .long 0, .long 0, .ref maa, .ref mab, .ref mba, .ref mbb])), (ms, .inl (cs 0, 288, .inl freshS)), (msm, .inl (cs 0, 2, .inl (smF2 a0 (nI 1)))), (mst, .inl (cs 5, 2, .inr (.inr (.inr (.inr fst))))), (st1, .inl (cs 0, 96048, .inl (cpF freshS q1 48))), (mtb, .inl (cs 5, 2, .inr (.inr (.inr (.inr ftb))))), (tb1, .inl (cs 0, 8192, .inl (upd (fun _ => nI 0) 965 (nI 1)))), (mti, .inl (cs 6, 2, .inr (.inr (.inr (.inr fti))))), (ti1, .inl (cs 1, 2001, .inr (.inl (vp_updL u1 0 (lN (ww * 9))))))] := hD
  subst hw_r_163
  refine lv_istore (lv' := [(5, .int (nI 0)), (4, .int (nI 3)), (3, .int (nI 3)), (0, .ref hm), (1, .int (nI 0)), (2, .int (nI 0))]) hx hb dX12_spreads_77 hl (by decide) rfl ?_
  clear hl
  try clear ls
  intro ls hl
  refine lv_iload hx hb dX12_spreads_79 (lv_at hl 0 rfl) ?_
  refine lv_if_ge (tgt := 86) hx hb dX12_spreads_81 (by decide) (fun _ => ?_) (fun c => absurd (by decide) c)
  refine lv_aload_n hx hb dX12_spreads_86 rfl (lv_at hl 3 rfl) ?_
  refine xget C hP 2 rfl rfl zuX12 23 (by decide) zw5_236 rfl dX12_spreads_87 ?_
  refine lv_iconst (v := nI 1) hx hb dX12_spreads_90 (by decide) ?_
  refine lv_iload_n hx hb dX12_spreads_91 rfl (lv_at hl 4 rfl) ?_
  refine lv_isub hx hb dX12_spreads_92 ?_
  refine lv_topi (nm_r (e' := nI 1) (by decide) ?_)
  refine xaald C hP 9 6 rfl rfl rfl 1 rfl (by decide) (by decide) ht1 dX12_spreads_93 ?_
  refine lv_iload hx hb dX12_spreads_94 (lv_at hl 0 rfl) ?_
  refine lv_dup2_11 hx hb dX12_spreads_96 rfl rfl ?_
  refine xlald C hP 10 rfl 0 rfl (by decide) (by decide) dX12_spreads_97 ?_
  refine lv_topl (nm_r (e' := lN (ww * 9)) (upL_0 _ _) ?_)
  refine lv_aload_n hx hb dX12_spreads_98 rfl (lv_at hl 3 rfl) ?_
  refine xget C hP 2 rfl rfl zuX12 23 (by decide) zw5_236 rfl dX12_spreads_99 ?_
  refine lv_iload_n hx hb dX12_spreads_102 rfl (lv_at hl 4 rfl) ?_
  refine xaald C hP 9 6 rfl rfl rfl 0 rfl (by decide) (by decide) ht0 dX12_spreads_103 ?_
  refine lv_iload_n hx hb dX12_spreads_104 rfl (lv_at hl 5 rfl) ?_
  refine xlald C hP 0 rfl 0 rfl (by decide) (by decide) dX12_spreads_105 ?_
  refine lv_topl (nm_r (e' := lN ww) hw ?_)
  refine lv_ladd hx hb dX12_spreads_106 ?_
  refine lv_topl (nm_r (e' := lN (ww * 10)) (lN_a ww 9) ?_)
  refine xlast C hP hD hS 10 rfl 0 rfl (by decide) (by decide) dX12_spreads_107 ?_
  clear hP hD hS
  try clear locs
  try clear H
  intro H locs hP hD hS
  replace hP : va_P D vwCl [(ti0, .inl (cs 1, 2001, .inr (.inl u0))), (st0, .inl (cs 0, 96048, .inl q0)), (hm, .inr (12, [.ref ms, .ref mkp, .int (nI 0), .ref mtr, .int (nI 4), .int (nI 2), .int (nI 2), .int (nI 3), .int (nI 2), .int (nI 1), .ref mas, .int (nI 0), .int (nI 0), .int (nI 0), .ref mso, .ref mon, .ref mot, .ref man, .int (nI 0), .int (nI 0), .ref mst, .ref msm, .ref mtb, .ref mti, .ref mfr, .ref mbn, .ref mbs, .ref mde, .int (nI 0), .int (nI 0), .int (nI 0), .int (nI 0), .long 0, .long 0, .ref maa, .ref mab, .ref mba, .ref mbb])), (ms, .inl (cs 0, 288, .inl freshS)), (msm, .inl (cs 0, 2, .inl (smF2 a0 (nI 1)))), (mst, .inl (cs 5, 2, .inr (.inr (.inr (.inr fst))))), (st1, .inl (cs 0, 96048, .inl (cpF freshS q1 48))), (mtb, .inl (cs 5, 2, .inr (.inr (.inr (.inr ftb))))), (tb1, .inl (cs 0, 8192, .inl (upd (fun _ => nI 0) 965 (nI 1)))), (mti, .inl (cs 6, 2, .inr (.inr (.inr (.inr fti))))), (ti1, .inl (cs 1, 2001, .inr (.inl (vp_updL (vp_updL u1 0 (lN (ww * 9))) 0 (lN (ww * 10))))))] H := hP
  replace hD : va_D A [(ti0, .inl (cs 1, 2001, .inr (.inl u0))), (st0, .inl (cs 0, 96048, .inl q0)), (hm, .inr (12, [.ref ms, .ref mkp, .int (nI 0), .ref mtr, .int (nI 4), .int (nI 2), .int (nI 2), .int (nI 3), .int (nI 2), .int (nI 1), .ref mas, .int (nI 0), .int (nI 0), .int (nI 0), .ref mso, .ref mon, .ref mot, .ref man, .int (nI 0), .int (nI 0), .ref mst, .ref msm, .ref mtb, .ref mti, .ref mfr, .ref mbn, .ref mbs, .ref mde, .int (nI 0), .int (nI 0), .int (nI 0), .int (nI 0), .long 0, .long 0, .ref maa, .ref mab, .ref mba, .ref mbb])), (ms, .inl (cs 0, 288, .inl freshS)), (msm, .inl (cs 0, 2, .inl (smF2 a0 (nI 1)))), (mst, .inl (cs 5, 2, .inr (.inr (.inr (.inr fst))))), (st1, .inl (cs 0, 96048, .inl (cpF freshS q1 48))), (mtb, .inl (cs 5, 2, .inr (.inr (.inr (.inr ftb))))), (tb1, .inl (cs 0, 8192, .inl (upd (fun _ => nI 0) 965 (nI 1)))), (mti, .inl (cs 6, 2, .inr (.inr (.inr (.inr fti))))), (ti1, .inl (cs 1, 2001, .inr (.inl (vp_updL (vp_updL u1 0 (lN (ww * 9))) 0 (lN (ww * 10))))))] := hD
  have hPD := xcongl (q0 := 10) (vp_updL u1 0 (lN (ww * 10))) hP hD rfl (fun j hj => upL_1 u1 _ _ j)
  clear hP hD
  obtain ⟨hP, hD⟩ := hPD
  replace hP : va_P D vwCl [(ti0, .inl (cs 1, 2001, .inr (.inl u0))), (st0, .inl (cs 0, 96048, .inl q0)), (hm, .inr (12, [.ref ms, .ref mkp, .int (nI 0), .ref mtr, .int (nI 4), .int (nI 2), .int (nI 2), .int (nI 3), .int (nI 2), .int (nI 1), .ref mas, .int (nI 0), .int (nI 0), .int (nI 0), .ref mso, .ref mon, .ref mot, .ref man, .int (nI 0), .int (nI 0), .ref mst, .ref msm, .ref mtb, .ref mti, .ref mfr, .ref mbn, .ref mbs, .ref mde, .int (nI 0), .int (nI 0), .int (nI 0), .int (nI 0), .long 0, .long 0, .ref maa, .ref mab, .ref mba, .ref mbb])), (ms, .inl (cs 0, 288, .inl freshS)), (msm, .inl (cs 0, 2, .inl (smF2 a0 (nI 1)))), (mst, .inl (cs 5, 2, .inr (.inr (.inr (.inr fst))))), (st1, .inl (cs 0, 96048, .inl (cpF freshS q1 48))), (mtb, .inl (cs 5, 2, .inr (.inr (.inr (.inr ftb))))), (tb1, .inl (cs 0, 8192, .inl (upd (fun _ => nI 0) 965 (nI 1)))), (mti, .inl (cs 6, 2, .inr (.inr (.inr (.inr fti))))), (ti1, .inl (cs 1, 2001, .inr (.inl (vp_updL u1 0 (lN (ww * 10))))))] H := hP
  replace hD : va_D A [(ti0, .inl (cs 1, 2001, .inr (.inl u0))), (st0, .inl (cs 0, 96048, .inl q0)), (hm, .inr (12, [.ref ms, .ref mkp, .int (nI 0), .ref mtr, .int (nI 4), .int (nI 2), .int (nI 2), .int (nI 3), .int (nI 2), .int (nI 1), .ref mas, .int (nI 0), .int (nI 0), .int (nI 0), .ref mso, .ref mon, .ref mot, .ref man, .int (nI 0), .int (nI 0), .ref mst, .ref msm, .ref mtb, .ref mti, .ref mfr, .ref mbn, .ref mbs, .ref mde, .int (nI 0), .int (nI 0), .int (nI 0), .int (nI 0), .long 0, .long 0, .ref maa, .ref mab, .ref mba, .ref mbb])), (ms, .inl (cs 0, 288, .inl freshS)), (msm, .inl (cs 0, 2, .inl (smF2 a0 (nI 1)))), (mst, .inl (cs 5, 2, .inr (.inr (.inr (.inr fst))))), (st1, .inl (cs 0, 96048, .inl (cpF freshS q1 48))), (mtb, .inl (cs 5, 2, .inr (.inr (.inr (.inr ftb))))), (tb1, .inl (cs 0, 8192, .inl (upd (fun _ => nI 0) 965 (nI 1)))), (mti, .inl (cs 6, 2, .inr (.inr (.inr (.inr fti))))), (ti1, .inl (cs 1, 2001, .inr (.inl (vp_updL u1 0 (lN (ww * 10))))))] := hD
  refine lv_iinc (v := nI 4) (lv' := [(4, .int (nI 4)), (5, .int (nI 0)), (3, .int (nI 3)), (0, .ref hm), (1, .int (nI 0)), (2, .int (nI 0))]) hx hb dX12_spreads_108 hl (k := 1) rfl (by decide) (by decide) rfl ?_
  clear hl
  try clear ls
  intro ls hl
  refine lv_goto (tgt := 13) hx hb dX12_spreads_111 (by decide) ?_
  refine lv_iload hx hb dX12_spreads_13 (lv_at hl 0 rfl) ?_
  refine lv_iconst (v := nI 1) hx hb dX12_spreads_15 (by decide) ?_
  refine lv_aload_n hx hb dX12_spreads_16 rfl (lv_at hl 3 rfl) ?_
  refine xget C hP 2 rfl rfl zuX12 4 (by decide) zw5_217 rfl dX12_spreads_17 ?_
  refine lv_ishl hx hb dX12_spreads_20 ?_
  refine lv_topi (nm_r (e' := nI 16) (by decide) ?_)
  refine lv_icmp_ge (tgt := 114) hx hb dX12_spreads_21 (by decide) (fun c => absurd c (by decide)) (fun _ => ?_)
  refine lv_aload_n hx hb dX12_spreads_24 rfl (lv_at hl 3 rfl) ?_
  refine lv_iload_n hx hb dX12_spreads_25 rfl (lv_at hl 2 rfl) ?_
  refine lv_iload hx hb dX12_spreads_26 (lv_at hl 0 rfl) ?_
  refine xi (wr := [(ti0, .inl (cs 1, 2001, .inr (.inl u0))), (st0, .inl (cs 0, 96048, .inl q0)), (ms, .inl (cs 0, 288, .inl freshS)), (msm, .inl (cs 0, 2, .inl (smF2 a0 (nI 1)))), (mst, .inl (cs 5, 2, .inr (.inr (.inr (.inr fst))))), (st1, .inl (cs 0, 96048, .inl (cpF freshS q1 48))), (mtb, .inl (cs 5, 2, .inr (.inr (.inr (.inr ftb))))), (tb1, .inl (cs 0, 8192, .inl (upd (fun _ => nI 0) 965 (nI 1)))), (mti, .inl (cs 6, 2, .inr (.inr (.inr (.inr fti))))), (ti1, .inl (cs 1, 2001, .inr (.inl (vp_updL u1 0 (lN (ww * 10))))))]) (xV (As := [.int (nI 3), .int (nI 4)]) (rest := []) C (c_X12_isSample_x l D cs hm ms mkp mtr mas mso mon mot man mst msm mtb mti mfr mbn mbs mde maa mab mba mbb 3 4 (by decide) (by decide)) kX12_139 hP hD [2] rfl (by decide +kernel) 0 rfl rfl rfl ⟨Nat.le_of_ble_eq_true rfl, Nat.le_of_ble_eq_true rfl⟩ rfl hl.1 rfl (Nat.le_of_ble_eq_true rfl) dX12_spreads_28 ⟨Nat.le_of_ble_eq_true rfl, Nat.le_of_ble_eq_true rfl⟩) hP hD hS hA [2] [0, 1, 3, 4, 5, 6, 7, 8, 9, 10] rfl rfl (by decide +kernel) (by decide +kernel) ?_
  clear hP hD hS
  try clear locs
  try clear H
  intro r_165 u_166 H locs hw_r_165 hP hD hS
  have hw_r_165 : r_165 = smB 3 4 := hw_r_165
  refine W.widen (k := 0) (n := 0) (Nat.le_of_ble_eq_true rfl) (Nat.le_of_ble_eq_true rfl) ?_
  replace hP : va_P D vwCl [(ti0, .inl (cs 1, 2001, .inr (.inl u0))), (st0, .inl (cs 0, 96048, .inl q0)), (ms, .inl (cs 0, 288, .inl freshS)), (msm, .inl (cs 0, 2, .inl (smF2 a0 (nI 1)))), (mst, .inl (cs 5, 2, .inr (.inr (.inr (.inr fst))))), (st1, .inl (cs 0, 96048, .inl (cpF freshS q1 48))), (mtb, .inl (cs 5, 2, .inr (.inr (.inr (.inr ftb))))), (tb1, .inl (cs 0, 8192, .inl (upd (fun _ => nI 0) 965 (nI 1)))), (mti, .inl (cs 6, 2, .inr (.inr (.inr (.inr fti))))), (ti1, .inl (cs 1, 2001, .inr (.inl (vp_updL u1 0 (lN (ww * 10)))))), (hm, .inr (12, [.ref ms, .ref mkp, .int (nI 0), .ref mtr, .int (nI 4), .int (nI 2), .int (nI 2), .int (nI 3), .int (nI 2), .int (nI 1), .ref mas, .int (nI 0), .int (nI 0), .int (nI 0), .ref mso, .ref mon, .ref mot, .ref man, .int (nI 0), .int (nI 0), .ref mst, .ref msm, .ref mtb, .ref mti, .ref mfr, .ref mbn, .ref mbs, .ref mde, .int (nI 0), .int (nI 0), .int (nI 0), .int (nI 0), .long 0, .long 0, .ref maa, .ref mab, .ref mba, .ref mbb]))] H := hP
  replace hD : va_D A [(ti0, .inl (cs 1, 2001, .inr (.inl u0))), (st0, .inl (cs 0, 96048, .inl q0)), (ms, .inl (cs 0, 288, .inl freshS)), (msm, .inl (cs 0, 2, .inl (smF2 a0 (nI 1)))), (mst, .inl (cs 5, 2, .inr (.inr (.inr (.inr fst))))), (st1, .inl (cs 0, 96048, .inl (cpF freshS q1 48))), (mtb, .inl (cs 5, 2, .inr (.inr (.inr (.inr ftb))))), (tb1, .inl (cs 0, 8192, .inl (upd (fun _ => nI 0) 965 (nI 1)))), (mti, .inl (cs 6, 2, .inr (.inr (.inr (.inr fti))))), (ti1, .inl (cs 1, 2001, .inr (.inl (vp_updL u1 0 (lN (ww * 10)))))), (hm, .inr (12, [.ref ms, .ref mkp, .int (nI 0), .ref mtr, .int (nI 4), .int (nI 2), .int (nI 2), .int (nI 3), .int (nI 2), .int (nI 1), .ref mas, .int (nI 0), .int (nI 0), .int (nI 0), .ref mso, .ref mon, .ref mot, .ref man, .int (nI 0), .int (nI 0), .ref mst, .ref msm, .ref mtb, .ref mti, .ref mfr, .ref mbn, .ref mbs, .ref mde, .int (nI 0), .int (nI 0), .int (nI 0), .int (nI 0), .long 0, .long 0, .ref maa, .ref mab, .ref mba, .ref mbb]))] := hD
  obtain rfl : r_165 = nI 0 := by rw [hw_r_165]; decide +kernel
  refine lv_if_ne (tgt := 37) hx hb dX12_spreads_31 (by decide) (fun c => absurd (by decide) c) (fun _ => ?_)
  refine lv_goto (tgt := 108) hx hb dX12_spreads_34 (by decide) ?_
  refine lv_iinc (v := nI 5) (lv' := [(4, .int (nI 5)), (5, .int (nI 0)), (3, .int (nI 3)), (0, .ref hm), (1, .int (nI 0)), (2, .int (nI 0))]) hx hb dX12_spreads_108 hl (k := 0) rfl (by decide) (by decide) rfl ?_
  clear hl
  try clear ls
  intro ls hl
  refine lv_goto (tgt := 13) hx hb dX12_spreads_111 (by decide) ?_
  refine lv_iload hx hb dX12_spreads_13 (lv_at hl 0 rfl) ?_
  refine lv_iconst (v := nI 1) hx hb dX12_spreads_15 (by decide) ?_
  refine lv_aload_n hx hb dX12_spreads_16 rfl (lv_at hl 3 rfl) ?_
  refine xget C hP 10 rfl rfl zuX12 4 (by decide) zw5_217 rfl dX12_spreads_17 ?_
  refine lv_ishl hx hb dX12_spreads_20 ?_
  refine lv_topi (nm_r (e' := nI 16) (by decide) ?_)
  refine lv_icmp_ge (tgt := 114) hx hb dX12_spreads_21 (by decide) (fun c => absurd c (by decide)) (fun _ => ?_)
  refine lv_aload_n hx hb dX12_spreads_24 rfl (lv_at hl 3 rfl) ?_
  refine lv_iload_n hx hb dX12_spreads_25 rfl (lv_at hl 2 rfl) ?_
  refine lv_iload hx hb dX12_spreads_26 (lv_at hl 0 rfl) ?_
  refine xi (wr := [(ti0, .inl (cs 1, 2001, .inr (.inl u0))), (st0, .inl (cs 0, 96048, .inl q0)), (ms, .inl (cs 0, 288, .inl freshS)), (msm, .inl (cs 0, 2, .inl (smF2 a0 (nI 1)))), (mst, .inl (cs 5, 2, .inr (.inr (.inr (.inr fst))))), (st1, .inl (cs 0, 96048, .inl (cpF freshS q1 48))), (mtb, .inl (cs 5, 2, .inr (.inr (.inr (.inr ftb))))), (tb1, .inl (cs 0, 8192, .inl (upd (fun _ => nI 0) 965 (nI 1)))), (mti, .inl (cs 6, 2, .inr (.inr (.inr (.inr fti))))), (ti1, .inl (cs 1, 2001, .inr (.inl (vp_updL u1 0 (lN (ww * 10))))))]) (xV (As := [.int (nI 3), .int (nI 5)]) (rest := []) C (c_X12_isSample_x l D cs hm ms mkp mtr mas mso mon mot man mst msm mtb mti mfr mbn mbs mde maa mab mba mbb 3 5 (by decide) (by decide)) kX12_139 hP hD [10] rfl (by decide +kernel) 0 rfl rfl rfl ⟨Nat.le_of_ble_eq_true rfl, Nat.le_of_ble_eq_true rfl⟩ rfl hl.1 rfl (Nat.le_of_ble_eq_true rfl) dX12_spreads_28 ⟨Nat.le_of_ble_eq_true rfl, Nat.le_of_ble_eq_true rfl⟩) hP hD hS hA [10] [0, 1, 2, 3, 4, 5, 6, 7, 8, 9] rfl rfl (by decide +kernel) (by decide +kernel) ?_
  clear hP hD hS
  try clear locs
  try clear H
  intro r_167 u_168 H locs hw_r_167 hP hD hS
  have hw_r_167 : r_167 = smB 3 5 := hw_r_167
  refine W.widen (k := 0) (n := 0) (Nat.le_of_ble_eq_true rfl) (Nat.le_of_ble_eq_true rfl) ?_
  replace hP : va_P D vwCl [(ti0, .inl (cs 1, 2001, .inr (.inl u0))), (st0, .inl (cs 0, 96048, .inl q0)), (ms, .inl (cs 0, 288, .inl freshS)), (msm, .inl (cs 0, 2, .inl (smF2 a0 (nI 1)))), (mst, .inl (cs 5, 2, .inr (.inr (.inr (.inr fst))))), (st1, .inl (cs 0, 96048, .inl (cpF freshS q1 48))), (mtb, .inl (cs 5, 2, .inr (.inr (.inr (.inr ftb))))), (tb1, .inl (cs 0, 8192, .inl (upd (fun _ => nI 0) 965 (nI 1)))), (mti, .inl (cs 6, 2, .inr (.inr (.inr (.inr fti))))), (ti1, .inl (cs 1, 2001, .inr (.inl (vp_updL u1 0 (lN (ww * 10)))))), (hm, .inr (12, [.ref ms, .ref mkp, .int (nI 0), .ref mtr, .int (nI 4), .int (nI 2), .int (nI 2), .int (nI 3), .int (nI 2), .int (nI 1), .ref mas, .int (nI 0), .int (nI 0), .int (nI 0), .ref mso, .ref mon, .ref mot, .ref man, .int (nI 0), .int (nI 0), .ref mst, .ref msm, .ref mtb, .ref mti, .ref mfr, .ref mbn, .ref mbs, .ref mde, .int (nI 0), .int (nI 0), .int (nI 0), .int (nI 0), .long 0, .long 0, .ref maa, .ref mab, .ref mba, .ref mbb]))] H := hP
  replace hD : va_D A [(ti0, .inl (cs 1, 2001, .inr (.inl u0))), (st0, .inl (cs 0, 96048, .inl q0)), (ms, .inl (cs 0, 288, .inl freshS)), (msm, .inl (cs 0, 2, .inl (smF2 a0 (nI 1)))), (mst, .inl (cs 5, 2, .inr (.inr (.inr (.inr fst))))), (st1, .inl (cs 0, 96048, .inl (cpF freshS q1 48))), (mtb, .inl (cs 5, 2, .inr (.inr (.inr (.inr ftb))))), (tb1, .inl (cs 0, 8192, .inl (upd (fun _ => nI 0) 965 (nI 1)))), (mti, .inl (cs 6, 2, .inr (.inr (.inr (.inr fti))))), (ti1, .inl (cs 1, 2001, .inr (.inl (vp_updL u1 0 (lN (ww * 10)))))), (hm, .inr (12, [.ref ms, .ref mkp, .int (nI 0), .ref mtr, .int (nI 4), .int (nI 2), .int (nI 2), .int (nI 3), .int (nI 2), .int (nI 1), .ref mas, .int (nI 0), .int (nI 0), .int (nI 0), .ref mso, .ref mon, .ref mot, .ref man, .int (nI 0), .int (nI 0), .ref mst, .ref msm, .ref mtb, .ref mti, .ref mfr, .ref mbn, .ref mbs, .ref mde, .int (nI 0), .int (nI 0), .int (nI 0), .int (nI 0), .long 0, .long 0, .ref maa, .ref mab, .ref mba, .ref mbb]))] := hD
  obtain rfl : r_167 = nI 1 := by rw [hw_r_167]; decide +kernel
  refine lv_if_ne (tgt := 37) hx hb dX12_spreads_31 (by decide) (fun _ => ?_) (fun c => absurd c (by decide))
  refine lv_aload_n hx hb dX12_spreads_37 rfl (lv_at hl 3 rfl) ?_
  refine lv_iload_n hx hb dX12_spreads_38 rfl (lv_at hl 4 rfl) ?_
  refine lv_iload_n hx hb dX12_spreads_39 rfl (lv_at hl 5 rfl) ?_
  refine xv (wr := [(ti0, .inl (cs 1, 2001, .inr (.inl u0))), (msm, .inl (cs 0, 2, .inl (smF2 a0 (nI 1)))), (st1, .inl (cs 0, 96048, .inl (cpF freshS q1 48))), (mtb, .inl (cs 5, 2, .inr (.inr (.inr (.inr ftb))))), (tb1, .inl (cs 0, 8192, .inl (upd (fun _ => nI 0) 965 (nI 1)))), (mti, .inl (cs 6, 2, .inr (.inr (.inr (.inr fti))))), (ti1, .inl (cs 1, 2001, .inr (.inl (vp_updL u1 0 (lN (ww * 10))))))]) (xV (As := [.int (nI 0), .int (nI 0)]) (rest := []) C (c_X12_brings_0 l D cs hm ms mkp mtr mas mso mon mot man mst msm mtb mti mfr mbn mbs mde maa mab mba mbb st0 fst q0 hf0 hq) kX12_203 hP hD [10, 2, 4, 1] rfl (by decide +kernel) 0 rfl rfl rfl ⟨Nat.le_of_ble_eq_true rfl, Nat.le_of_ble_eq_true rfl⟩ rfl hl.1 rfl (Nat.le_of_ble_eq_true rfl) dX12_spreads_40 ⟨Nat.le_of_ble_eq_true rfl, Nat.le_of_ble_eq_true rfl⟩) hP hD hS hA [10, 2, 4, 1] [0, 3, 5, 6, 7, 8, 9] rfl rfl (by decide +kernel) (by decide +kernel) ?_
  clear hP hD hS
  try clear locs
  try clear H
  intro u_170 H locs hw_r_169 hP hD hS
  refine W.widen (k := 0) (n := 0) (Nat.le_of_ble_eq_true rfl) (Nat.le_of_ble_eq_true rfl) ?_
  replace hP : va_P D vwCl [(ti0, .inl (cs 1, 2001, .inr (.inl u0))), (msm, .inl (cs 0, 2, .inl (smF2 a0 (nI 1)))), (st1, .inl (cs 0, 96048, .inl (cpF freshS q1 48))), (mtb, .inl (cs 5, 2, .inr (.inr (.inr (.inr ftb))))), (tb1, .inl (cs 0, 8192, .inl (upd (fun _ => nI 0) 965 (nI 1)))), (mti, .inl (cs 6, 2, .inr (.inr (.inr (.inr fti))))), (ti1, .inl (cs 1, 2001, .inr (.inl (vp_updL u1 0 (lN (ww * 10)))))), (hm, .inr (12, [.ref ms, .ref mkp, .int (nI 0), .ref mtr, .int (nI 4), .int (nI 2), .int (nI 2), .int (nI 3), .int (nI 2), .int (nI 1), .ref mas, .int (nI 0), .int (nI 0), .int (nI 0), .ref mso, .ref mon, .ref mot, .ref man, .int (nI 0), .int (nI 0), .ref mst, .ref msm, .ref mtb, .ref mti, .ref mfr, .ref mbn, .ref mbs, .ref mde, .int (nI 0), .int (nI 0), .int (nI 0), .int (nI 0), .long 0, .long 0, .ref maa, .ref mab, .ref mba, .ref mbb])), (ms, .inl (cs 0, 288, .inl freshS)), (mst, .inl (cs 5, 2, .inr (.inr (.inr (.inr fst))))), (st0, .inl (cs 0, 96048, .inl q0))] H := hP
  replace hD : va_D A [(ti0, .inl (cs 1, 2001, .inr (.inl u0))), (msm, .inl (cs 0, 2, .inl (smF2 a0 (nI 1)))), (st1, .inl (cs 0, 96048, .inl (cpF freshS q1 48))), (mtb, .inl (cs 5, 2, .inr (.inr (.inr (.inr ftb))))), (tb1, .inl (cs 0, 8192, .inl (upd (fun _ => nI 0) 965 (nI 1)))), (mti, .inl (cs 6, 2, .inr (.inr (.inr (.inr fti))))), (ti1, .inl (cs 1, 2001, .inr (.inl (vp_updL u1 0 (lN (ww * 10)))))), (hm, .inr (12, [.ref ms, .ref mkp, .int (nI 0), .ref mtr, .int (nI 4), .int (nI 2), .int (nI 2), .int (nI 3), .int (nI 2), .int (nI 1), .ref mas, .int (nI 0), .int (nI 0), .int (nI 0), .ref mso, .ref mon, .ref mot, .ref man, .int (nI 0), .int (nI 0), .ref mst, .ref msm, .ref mtb, .ref mti, .ref mfr, .ref mbn, .ref mbs, .ref mde, .int (nI 0), .int (nI 0), .int (nI 0), .int (nI 0), .long 0, .long 0, .ref maa, .ref mab, .ref mba, .ref mbb])), (ms, .inl (cs 0, 288, .inl freshS)), (mst, .inl (cs 5, 2, .inr (.inr (.inr (.inr fst))))), (st0, .inl (cs 0, 96048, .inl q0))] := hD
  refine lv_aload_n hx hb dX12_spreads_43 rfl (lv_at hl 3 rfl) ?_
  refine lv_iload_n hx hb dX12_spreads_44 rfl (lv_at hl 2 rfl) ?_
  refine xi (wr := [(ti0, .inl (cs 1, 2001, .inr (.inl u0))), (msm, .inl (cs 0, 2, .inl (smF2 a0 (nI 1)))), (st1, .inl (cs 0, 96048, .inl (cpF freshS q1 48))), (mtb, .inl (cs 5, 2, .inr (.inr (.inr (.inr ftb))))), (tb1, .inl (cs 0, 8192, .inl (upd (fun _ => nI 0) 965 (nI 1)))), (mti, .inl (cs 6, 2, .inr (.inr (.inr (.inr fti))))), (ti1, .inl (cs 1, 2001, .inr (.inl (vp_updL u1 0 (lN (ww * 10)))))), (mst, .inl (cs 5, 2, .inr (.inr (.inr (.inr fst))))), (st0, .inl (cs 0, 96048, .inl q0))]) (xV (As := [.int (nI 3)]) (rest := []) C (c_X12_canAsk_z l D cs hm ms mkp mtr mas mso mon mot man mst msm mtb mti mfr mbn mbs mde maa mab mba mbb 3 (by decide)) kX12_142 hP hD [7, 8] rfl (by decide +kernel) 0 rfl rfl rfl ⟨Nat.le_of_ble_eq_true rfl, Nat.le_of_ble_eq_true rfl⟩ rfl hl.1 rfl (Nat.le_of_ble_eq_true rfl) dX12_spreads_45 ⟨Nat.le_of_ble_eq_true rfl, Nat.le_of_ble_eq_true rfl⟩) hP hD hS hA [7, 8] [0, 1, 2, 3, 4, 5, 6, 9, 10] rfl rfl (by decide +kernel) (by decide +kernel) ?_
  clear hP hD hS
  try clear locs
  try clear H
  intro r_171 u_172 H locs hw_r_171 hP hD hS
  have hw_r_171 : r_171 = nI 0 := hw_r_171
  refine W.widen (k := 0) (n := 0) (Nat.le_of_ble_eq_true rfl) (Nat.le_of_ble_eq_true rfl) ?_
  replace hP : va_P D vwCl [(ti0, .inl (cs 1, 2001, .inr (.inl u0))), (msm, .inl (cs 0, 2, .inl (smF2 a0 (nI 1)))), (st1, .inl (cs 0, 96048, .inl (cpF freshS q1 48))), (mtb, .inl (cs 5, 2, .inr (.inr (.inr (.inr ftb))))), (tb1, .inl (cs 0, 8192, .inl (upd (fun _ => nI 0) 965 (nI 1)))), (mti, .inl (cs 6, 2, .inr (.inr (.inr (.inr fti))))), (ti1, .inl (cs 1, 2001, .inr (.inl (vp_updL u1 0 (lN (ww * 10)))))), (mst, .inl (cs 5, 2, .inr (.inr (.inr (.inr fst))))), (st0, .inl (cs 0, 96048, .inl q0)), (hm, .inr (12, [.ref ms, .ref mkp, .int (nI 0), .ref mtr, .int (nI 4), .int (nI 2), .int (nI 2), .int (nI 3), .int (nI 2), .int (nI 1), .ref mas, .int (nI 0), .int (nI 0), .int (nI 0), .ref mso, .ref mon, .ref mot, .ref man, .int (nI 0), .int (nI 0), .ref mst, .ref msm, .ref mtb, .ref mti, .ref mfr, .ref mbn, .ref mbs, .ref mde, .int (nI 0), .int (nI 0), .int (nI 0), .int (nI 0), .long 0, .long 0, .ref maa, .ref mab, .ref mba, .ref mbb])), (ms, .inl (cs 0, 288, .inl freshS))] H := hP
  replace hD : va_D A [(ti0, .inl (cs 1, 2001, .inr (.inl u0))), (msm, .inl (cs 0, 2, .inl (smF2 a0 (nI 1)))), (st1, .inl (cs 0, 96048, .inl (cpF freshS q1 48))), (mtb, .inl (cs 5, 2, .inr (.inr (.inr (.inr ftb))))), (tb1, .inl (cs 0, 8192, .inl (upd (fun _ => nI 0) 965 (nI 1)))), (mti, .inl (cs 6, 2, .inr (.inr (.inr (.inr fti))))), (ti1, .inl (cs 1, 2001, .inr (.inl (vp_updL u1 0 (lN (ww * 10)))))), (mst, .inl (cs 5, 2, .inr (.inr (.inr (.inr fst))))), (st0, .inl (cs 0, 96048, .inl q0)), (hm, .inr (12, [.ref ms, .ref mkp, .int (nI 0), .ref mtr, .int (nI 4), .int (nI 2), .int (nI 2), .int (nI 3), .int (nI 2), .int (nI 1), .ref mas, .int (nI 0), .int (nI 0), .int (nI 0), .ref mso, .ref mon, .ref mot, .ref man, .int (nI 0), .int (nI 0), .ref mst, .ref msm, .ref mtb, .ref mti, .ref mfr, .ref mbn, .ref mbs, .ref mde, .int (nI 0), .int (nI 0), .int (nI 0), .int (nI 0), .long 0, .long 0, .ref maa, .ref mab, .ref mba, .ref mbb])), (ms, .inl (cs 0, 288, .inl freshS))] := hD
  subst hw_r_171
  refine lv_if_eq (tgt := 67) hx hb dX12_spreads_48 (by decide) (fun _ => ?_) (fun c => absurd (by decide) c)
  refine lv_aload_n hx hb dX12_spreads_67 rfl (lv_at hl 3 rfl) ?_
  refine lv_iconst (v := nI 1) hx hb dX12_spreads_68 (by decide) ?_
  refine lv_iload_n hx hb dX12_spreads_69 rfl (lv_at hl 4 rfl) ?_
  refine lv_isub hx hb dX12_spreads_70 ?_
  refine lv_topi (nm_r (e' := nI 1) (by decide) ?_)
  refine lv_sipush (v := nI 2000) hx hb dX12_spreads_71 (by decide) ?_
  refine xi (wr := [(ti0, .inl (cs 1, 2001, .inr (.inl u0))), (st0, .inl (cs 0, 96048, .inl q0))]) (xV (As := [.int (nI 1), .int (nI 2000)]) (rest := []) C (c_X12_numberOf_b1 l D cs hm ms mkp mtr mas mso mon mot man mst msm mtb mti mfr mbn mbs mde maa mab mba mbb st1 tb1 ti1 fst ftb fti (smF2 a0 (nI 1)) (cpF freshS q1 48) (upd (fun _ => nI 0) 965 (nI 1)) (vp_updL u1 0 (lN (ww * 10))) hf1 hg ht1 (if_pos rfl) (fun j hj => cpF_lt hj)) kX12_197 hP hD [9, 10, 1, 7, 2, 3, 4, 5, 6] rfl (by decide +kernel) 0 rfl rfl rfl ⟨Nat.le_of_ble_eq_true rfl, Nat.le_of_ble_eq_true rfl⟩ rfl hl.1 rfl (Nat.le_of_ble_eq_true rfl) dX12_spreads_74 ⟨Nat.le_of_ble_eq_true rfl, Nat.le_of_ble_eq_true rfl⟩) hP hD hS hA [9, 10, 1, 7, 2, 3, 4, 5, 6] [0, 8] rfl rfl (by decide +kernel) (by decide +kernel) ?_
  clear hP hD hS
  try clear locs
  try clear H
  intro r_173 u_174 H locs hw_r_173 hP hD hS
  have hw_r_173 : r_173 = nI 0 := hw_r_173
  refine W.widen (k := 0) (n := 0) (Nat.le_of_ble_eq_true rfl) (Nat.le_of_ble_eq_true rfl) ?_
  replace hP : va_P D vwCl [(ti0, .inl (cs 1, 2001, .inr (.inl u0))), (st0, .inl (cs 0, 96048, .inl q0)), (hm, .inr (12, [.ref ms, .ref mkp, .int (nI 0), .ref mtr, .int (nI 4), .int (nI 2), .int (nI 2), .int (nI 3), .int (nI 2), .int (nI 1), .ref mas, .int (nI 0), .int (nI 0), .int (nI 0), .ref mso, .ref mon, .ref mot, .ref man, .int (nI 0), .int (nI 0), .ref mst, .ref msm, .ref mtb, .ref mti, .ref mfr, .ref mbn, .ref mbs, .ref mde, .int (nI 0), .int (nI 0), .int (nI 0), .int (nI 0), .long 0, .long 0, .ref maa, .ref mab, .ref mba, .ref mbb])), (ms, .inl (cs 0, 288, .inl freshS)), (msm, .inl (cs 0, 2, .inl (smF2 a0 (nI 1)))), (mst, .inl (cs 5, 2, .inr (.inr (.inr (.inr fst))))), (st1, .inl (cs 0, 96048, .inl (cpF freshS q1 48))), (mtb, .inl (cs 5, 2, .inr (.inr (.inr (.inr ftb))))), (tb1, .inl (cs 0, 8192, .inl (upd (fun _ => nI 0) 965 (nI 1)))), (mti, .inl (cs 6, 2, .inr (.inr (.inr (.inr fti))))), (ti1, .inl (cs 1, 2001, .inr (.inl (vp_updL u1 0 (lN (ww * 10))))))] H := hP
  replace hD : va_D A [(ti0, .inl (cs 1, 2001, .inr (.inl u0))), (st0, .inl (cs 0, 96048, .inl q0)), (hm, .inr (12, [.ref ms, .ref mkp, .int (nI 0), .ref mtr, .int (nI 4), .int (nI 2), .int (nI 2), .int (nI 3), .int (nI 2), .int (nI 1), .ref mas, .int (nI 0), .int (nI 0), .int (nI 0), .ref mso, .ref mon, .ref mot, .ref man, .int (nI 0), .int (nI 0), .ref mst, .ref msm, .ref mtb, .ref mti, .ref mfr, .ref mbn, .ref mbs, .ref mde, .int (nI 0), .int (nI 0), .int (nI 0), .int (nI 0), .long 0, .long 0, .ref maa, .ref mab, .ref mba, .ref mbb])), (ms, .inl (cs 0, 288, .inl freshS)), (msm, .inl (cs 0, 2, .inl (smF2 a0 (nI 1)))), (mst, .inl (cs 5, 2, .inr (.inr (.inr (.inr fst))))), (st1, .inl (cs 0, 96048, .inl (cpF freshS q1 48))), (mtb, .inl (cs 5, 2, .inr (.inr (.inr (.inr ftb))))), (tb1, .inl (cs 0, 8192, .inl (upd (fun _ => nI 0) 965 (nI 1)))), (mti, .inl (cs 6, 2, .inr (.inr (.inr (.inr fti))))), (ti1, .inl (cs 1, 2001, .inr (.inl (vp_updL u1 0 (lN (ww * 10))))))] := hD
  subst hw_r_173
  refine lv_istore (lv' := [(5, .int (nI 0)), (4, .int (nI 5)), (3, .int (nI 3)), (0, .ref hm), (1, .int (nI 0)), (2, .int (nI 0))]) hx hb dX12_spreads_77 hl (by decide) rfl ?_
  clear hl
  try clear ls
  intro ls hl
  refine lv_iload hx hb dX12_spreads_79 (lv_at hl 0 rfl) ?_
  refine lv_if_ge (tgt := 86) hx hb dX12_spreads_81 (by decide) (fun _ => ?_) (fun c => absurd (by decide) c)
  refine lv_aload_n hx hb dX12_spreads_86 rfl (lv_at hl 3 rfl) ?_
  refine xget C hP 2 rfl rfl zuX12 23 (by decide) zw5_236 rfl dX12_spreads_87 ?_
  refine lv_iconst (v := nI 1) hx hb dX12_spreads_90 (by decide) ?_
  refine lv_iload_n hx hb dX12_spreads_91 rfl (lv_at hl 4 rfl) ?_
  refine lv_isub hx hb dX12_spreads_92 ?_
  refine lv_topi (nm_r (e' := nI 1) (by decide) ?_)
  refine xaald C hP 9 6 rfl rfl rfl 1 rfl (by decide) (by decide) ht1 dX12_spreads_93 ?_
  refine lv_iload hx hb dX12_spreads_94 (lv_at hl 0 rfl) ?_
  refine lv_dup2_11 hx hb dX12_spreads_96 rfl rfl ?_
  refine xlald C hP 10 rfl 0 rfl (by decide) (by decide) dX12_spreads_97 ?_
  refine lv_topl (nm_r (e' := lN (ww * 10)) (upL_0 _ _) ?_)
  refine lv_aload_n hx hb dX12_spreads_98 rfl (lv_at hl 3 rfl) ?_
  refine xget C hP 2 rfl rfl zuX12 23 (by decide) zw5_236 rfl dX12_spreads_99 ?_
  refine lv_iload_n hx hb dX12_spreads_102 rfl (lv_at hl 4 rfl) ?_
  refine xaald C hP 9 6 rfl rfl rfl 0 rfl (by decide) (by decide) ht0 dX12_spreads_103 ?_
  refine lv_iload_n hx hb dX12_spreads_104 rfl (lv_at hl 5 rfl) ?_
  refine xlald C hP 0 rfl 0 rfl (by decide) (by decide) dX12_spreads_105 ?_
  refine lv_topl (nm_r (e' := lN ww) hw ?_)
  refine lv_ladd hx hb dX12_spreads_106 ?_
  refine lv_topl (nm_r (e' := lN (ww * 11)) (lN_a ww 10) ?_)
  refine xlast C hP hD hS 10 rfl 0 rfl (by decide) (by decide) dX12_spreads_107 ?_
  clear hP hD hS
  try clear locs
  try clear H
  intro H locs hP hD hS
  replace hP : va_P D vwCl [(ti0, .inl (cs 1, 2001, .inr (.inl u0))), (st0, .inl (cs 0, 96048, .inl q0)), (hm, .inr (12, [.ref ms, .ref mkp, .int (nI 0), .ref mtr, .int (nI 4), .int (nI 2), .int (nI 2), .int (nI 3), .int (nI 2), .int (nI 1), .ref mas, .int (nI 0), .int (nI 0), .int (nI 0), .ref mso, .ref mon, .ref mot, .ref man, .int (nI 0), .int (nI 0), .ref mst, .ref msm, .ref mtb, .ref mti, .ref mfr, .ref mbn, .ref mbs, .ref mde, .int (nI 0), .int (nI 0), .int (nI 0), .int (nI 0), .long 0, .long 0, .ref maa, .ref mab, .ref mba, .ref mbb])), (ms, .inl (cs 0, 288, .inl freshS)), (msm, .inl (cs 0, 2, .inl (smF2 a0 (nI 1)))), (mst, .inl (cs 5, 2, .inr (.inr (.inr (.inr fst))))), (st1, .inl (cs 0, 96048, .inl (cpF freshS q1 48))), (mtb, .inl (cs 5, 2, .inr (.inr (.inr (.inr ftb))))), (tb1, .inl (cs 0, 8192, .inl (upd (fun _ => nI 0) 965 (nI 1)))), (mti, .inl (cs 6, 2, .inr (.inr (.inr (.inr fti))))), (ti1, .inl (cs 1, 2001, .inr (.inl (vp_updL (vp_updL u1 0 (lN (ww * 10))) 0 (lN (ww * 11))))))] H := hP
  replace hD : va_D A [(ti0, .inl (cs 1, 2001, .inr (.inl u0))), (st0, .inl (cs 0, 96048, .inl q0)), (hm, .inr (12, [.ref ms, .ref mkp, .int (nI 0), .ref mtr, .int (nI 4), .int (nI 2), .int (nI 2), .int (nI 3), .int (nI 2), .int (nI 1), .ref mas, .int (nI 0), .int (nI 0), .int (nI 0), .ref mso, .ref mon, .ref mot, .ref man, .int (nI 0), .int (nI 0), .ref mst, .ref msm, .ref mtb, .ref mti, .ref mfr, .ref mbn, .ref mbs, .ref mde, .int (nI 0), .int (nI 0), .int (nI 0), .int (nI 0), .long 0, .long 0, .ref maa, .ref mab, .ref mba, .ref mbb])), (ms, .inl (cs 0, 288, .inl freshS)), (msm, .inl (cs 0, 2, .inl (smF2 a0 (nI 1)))), (mst, .inl (cs 5, 2, .inr (.inr (.inr (.inr fst))))), (st1, .inl (cs 0, 96048, .inl (cpF freshS q1 48))), (mtb, .inl (cs 5, 2, .inr (.inr (.inr (.inr ftb))))), (tb1, .inl (cs 0, 8192, .inl (upd (fun _ => nI 0) 965 (nI 1)))), (mti, .inl (cs 6, 2, .inr (.inr (.inr (.inr fti))))), (ti1, .inl (cs 1, 2001, .inr (.inl (vp_updL (vp_updL u1 0 (lN (ww * 10))) 0 (lN (ww * 11))))))] := hD
  have hPD := xcongl (q0 := 10) (vp_updL u1 0 (lN (ww * 11))) hP hD rfl (fun j hj => upL_1 u1 _ _ j)
  clear hP hD
  obtain ⟨hP, hD⟩ := hPD
  replace hP : va_P D vwCl [(ti0, .inl (cs 1, 2001, .inr (.inl u0))), (st0, .inl (cs 0, 96048, .inl q0)), (hm, .inr (12, [.ref ms, .ref mkp, .int (nI 0), .ref mtr, .int (nI 4), .int (nI 2), .int (nI 2), .int (nI 3), .int (nI 2), .int (nI 1), .ref mas, .int (nI 0), .int (nI 0), .int (nI 0), .ref mso, .ref mon, .ref mot, .ref man, .int (nI 0), .int (nI 0), .ref mst, .ref msm, .ref mtb, .ref mti, .ref mfr, .ref mbn, .ref mbs, .ref mde, .int (nI 0), .int (nI 0), .int (nI 0), .int (nI 0), .long 0, .long 0, .ref maa, .ref mab, .ref mba, .ref mbb])), (ms, .inl (cs 0, 288, .inl freshS)), (msm, .inl (cs 0, 2, .inl (smF2 a0 (nI 1)))), (mst, .inl (cs 5, 2, .inr (.inr (.inr (.inr fst))))), (st1, .inl (cs 0, 96048, .inl (cpF freshS q1 48))), (mtb, .inl (cs 5, 2, .inr (.inr (.inr (.inr ftb))))), (tb1, .inl (cs 0, 8192, .inl (upd (fun _ => nI 0) 965 (nI 1)))), (mti, .inl (cs 6, 2, .inr (.inr (.inr (.inr fti))))), (ti1, .inl (cs 1, 2001, .inr (.inl (vp_updL u1 0 (lN (ww * 11))))))] H := hP
  replace hD : va_D A [(ti0, .inl (cs 1, 2001, .inr (.inl u0))), (st0, .inl (cs 0, 96048, .inl q0)), (hm, .inr (12, [.ref ms, .ref mkp, .int (nI 0), .ref mtr, .int (nI 4), .int (nI 2), .int (nI 2), .int (nI 3), .int (nI 2), .int (nI 1), .ref mas, .int (nI 0), .int (nI 0), .int (nI 0), .ref mso, .ref mon, .ref mot, .ref man, .int (nI 0), .int (nI 0), .ref mst, .ref msm, .ref mtb, .ref mti, .ref mfr, .ref mbn, .ref mbs, .ref mde, .int (nI 0), .int (nI 0), .int (nI 0), .int (nI 0), .long 0, .long 0, .ref maa, .ref mab, .ref mba, .ref mbb])), (ms, .inl (cs 0, 288, .inl freshS)), (msm, .inl (cs 0, 2, .inl (smF2 a0 (nI 1)))), (mst, .inl (cs 5, 2, .inr (.inr (.inr (.inr fst))))), (st1, .inl (cs 0, 96048, .inl (cpF freshS q1 48))), (mtb, .inl (cs 5, 2, .inr (.inr (.inr (.inr ftb))))), (tb1, .inl (cs 0, 8192, .inl (upd (fun _ => nI 0) 965 (nI 1)))), (mti, .inl (cs 6, 2, .inr (.inr (.inr (.inr fti))))), (ti1, .inl (cs 1, 2001, .inr (.inl (vp_updL u1 0 (lN (ww * 11))))))] := hD
  refine lv_iinc (v := nI 6) (lv' := [(4, .int (nI 6)), (5, .int (nI 0)), (3, .int (nI 3)), (0, .ref hm), (1, .int (nI 0)), (2, .int (nI 0))]) hx hb dX12_spreads_108 hl (k := 1) rfl (by decide) (by decide) rfl ?_
  clear hl
  try clear ls
  intro ls hl
  refine lv_goto (tgt := 13) hx hb dX12_spreads_111 (by decide) ?_
  refine lv_iload hx hb dX12_spreads_13 (lv_at hl 0 rfl) ?_
  refine lv_iconst (v := nI 1) hx hb dX12_spreads_15 (by decide) ?_
  refine lv_aload_n hx hb dX12_spreads_16 rfl (lv_at hl 3 rfl) ?_
  refine xget C hP 2 rfl rfl zuX12 4 (by decide) zw5_217 rfl dX12_spreads_17 ?_
  refine lv_ishl hx hb dX12_spreads_20 ?_
  refine lv_topi (nm_r (e' := nI 16) (by decide) ?_)
  refine lv_icmp_ge (tgt := 114) hx hb dX12_spreads_21 (by decide) (fun c => absurd c (by decide)) (fun _ => ?_)
  refine lv_aload_n hx hb dX12_spreads_24 rfl (lv_at hl 3 rfl) ?_
  refine lv_iload_n hx hb dX12_spreads_25 rfl (lv_at hl 2 rfl) ?_
  refine lv_iload hx hb dX12_spreads_26 (lv_at hl 0 rfl) ?_
  refine xi (wr := [(ti0, .inl (cs 1, 2001, .inr (.inl u0))), (st0, .inl (cs 0, 96048, .inl q0)), (ms, .inl (cs 0, 288, .inl freshS)), (msm, .inl (cs 0, 2, .inl (smF2 a0 (nI 1)))), (mst, .inl (cs 5, 2, .inr (.inr (.inr (.inr fst))))), (st1, .inl (cs 0, 96048, .inl (cpF freshS q1 48))), (mtb, .inl (cs 5, 2, .inr (.inr (.inr (.inr ftb))))), (tb1, .inl (cs 0, 8192, .inl (upd (fun _ => nI 0) 965 (nI 1)))), (mti, .inl (cs 6, 2, .inr (.inr (.inr (.inr fti))))), (ti1, .inl (cs 1, 2001, .inr (.inl (vp_updL u1 0 (lN (ww * 11))))))]) (xV (As := [.int (nI 3), .int (nI 6)]) (rest := []) C (c_X12_isSample_x l D cs hm ms mkp mtr mas mso mon mot man mst msm mtb mti mfr mbn mbs mde maa mab mba mbb 3 6 (by decide) (by decide)) kX12_139 hP hD [2] rfl (by decide +kernel) 0 rfl rfl rfl ⟨Nat.le_of_ble_eq_true rfl, Nat.le_of_ble_eq_true rfl⟩ rfl hl.1 rfl (Nat.le_of_ble_eq_true rfl) dX12_spreads_28 ⟨Nat.le_of_ble_eq_true rfl, Nat.le_of_ble_eq_true rfl⟩) hP hD hS hA [2] [0, 1, 3, 4, 5, 6, 7, 8, 9, 10] rfl rfl (by decide +kernel) (by decide +kernel) ?_
  clear hP hD hS
  try clear locs
  try clear H
  intro r_175 u_176 H locs hw_r_175 hP hD hS
  have hw_r_175 : r_175 = smB 3 6 := hw_r_175
  refine W.widen (k := 0) (n := 0) (Nat.le_of_ble_eq_true rfl) (Nat.le_of_ble_eq_true rfl) ?_
  replace hP : va_P D vwCl [(ti0, .inl (cs 1, 2001, .inr (.inl u0))), (st0, .inl (cs 0, 96048, .inl q0)), (ms, .inl (cs 0, 288, .inl freshS)), (msm, .inl (cs 0, 2, .inl (smF2 a0 (nI 1)))), (mst, .inl (cs 5, 2, .inr (.inr (.inr (.inr fst))))), (st1, .inl (cs 0, 96048, .inl (cpF freshS q1 48))), (mtb, .inl (cs 5, 2, .inr (.inr (.inr (.inr ftb))))), (tb1, .inl (cs 0, 8192, .inl (upd (fun _ => nI 0) 965 (nI 1)))), (mti, .inl (cs 6, 2, .inr (.inr (.inr (.inr fti))))), (ti1, .inl (cs 1, 2001, .inr (.inl (vp_updL u1 0 (lN (ww * 11)))))), (hm, .inr (12, [.ref ms, .ref mkp, .int (nI 0), .ref mtr, .int (nI 4), .int (nI 2), .int (nI 2), .int (nI 3), .int (nI 2), .int (nI 1), .ref mas, .int (nI 0), .int (nI 0), .int (nI 0), .ref mso, .ref mon, .ref mot, .ref man, .int (nI 0), .int (nI 0), .ref mst, .ref msm, .ref mtb, .ref mti, .ref mfr, .ref mbn, .ref mbs, .ref mde, .int (nI 0), .int (nI 0), .int (nI 0), .int (nI 0), .long 0, .long 0, .ref maa, .ref mab, .ref mba, .ref mbb]))] H := hP
  replace hD : va_D A [(ti0, .inl (cs 1, 2001, .inr (.inl u0))), (st0, .inl (cs 0, 96048, .inl q0)), (ms, .inl (cs 0, 288, .inl freshS)), (msm, .inl (cs 0, 2, .inl (smF2 a0 (nI 1)))), (mst, .inl (cs 5, 2, .inr (.inr (.inr (.inr fst))))), (st1, .inl (cs 0, 96048, .inl (cpF freshS q1 48))), (mtb, .inl (cs 5, 2, .inr (.inr (.inr (.inr ftb))))), (tb1, .inl (cs 0, 8192, .inl (upd (fun _ => nI 0) 965 (nI 1)))), (mti, .inl (cs 6, 2, .inr (.inr (.inr (.inr fti))))), (ti1, .inl (cs 1, 2001, .inr (.inl (vp_updL u1 0 (lN (ww * 11)))))), (hm, .inr (12, [.ref ms, .ref mkp, .int (nI 0), .ref mtr, .int (nI 4), .int (nI 2), .int (nI 2), .int (nI 3), .int (nI 2), .int (nI 1), .ref mas, .int (nI 0), .int (nI 0), .int (nI 0), .ref mso, .ref mon, .ref mot, .ref man, .int (nI 0), .int (nI 0), .ref mst, .ref msm, .ref mtb, .ref mti, .ref mfr, .ref mbn, .ref mbs, .ref mde, .int (nI 0), .int (nI 0), .int (nI 0), .int (nI 0), .long 0, .long 0, .ref maa, .ref mab, .ref mba, .ref mbb]))] := hD
  obtain rfl : r_175 = nI 1 := by rw [hw_r_175]; decide +kernel
  refine lv_if_ne (tgt := 37) hx hb dX12_spreads_31 (by decide) (fun _ => ?_) (fun c => absurd c (by decide))
  refine lv_aload_n hx hb dX12_spreads_37 rfl (lv_at hl 3 rfl) ?_
  refine lv_iload_n hx hb dX12_spreads_38 rfl (lv_at hl 4 rfl) ?_
  refine lv_iload_n hx hb dX12_spreads_39 rfl (lv_at hl 5 rfl) ?_
  refine xv (wr := [(ti0, .inl (cs 1, 2001, .inr (.inl u0))), (msm, .inl (cs 0, 2, .inl (smF2 a0 (nI 1)))), (st1, .inl (cs 0, 96048, .inl (cpF freshS q1 48))), (mtb, .inl (cs 5, 2, .inr (.inr (.inr (.inr ftb))))), (tb1, .inl (cs 0, 8192, .inl (upd (fun _ => nI 0) 965 (nI 1)))), (mti, .inl (cs 6, 2, .inr (.inr (.inr (.inr fti))))), (ti1, .inl (cs 1, 2001, .inr (.inl (vp_updL u1 0 (lN (ww * 11))))))]) (xV (As := [.int (nI 0), .int (nI 0)]) (rest := []) C (c_X12_brings_0 l D cs hm ms mkp mtr mas mso mon mot man mst msm mtb mti mfr mbn mbs mde maa mab mba mbb st0 fst q0 hf0 hq) kX12_203 hP hD [10, 2, 4, 1] rfl (by decide +kernel) 0 rfl rfl rfl ⟨Nat.le_of_ble_eq_true rfl, Nat.le_of_ble_eq_true rfl⟩ rfl hl.1 rfl (Nat.le_of_ble_eq_true rfl) dX12_spreads_40 ⟨Nat.le_of_ble_eq_true rfl, Nat.le_of_ble_eq_true rfl⟩) hP hD hS hA [10, 2, 4, 1] [0, 3, 5, 6, 7, 8, 9] rfl rfl (by decide +kernel) (by decide +kernel) ?_
  clear hP hD hS
  try clear locs
  try clear H
  intro u_178 H locs hw_r_177 hP hD hS
  refine W.widen (k := 0) (n := 0) (Nat.le_of_ble_eq_true rfl) (Nat.le_of_ble_eq_true rfl) ?_
  replace hP : va_P D vwCl [(ti0, .inl (cs 1, 2001, .inr (.inl u0))), (msm, .inl (cs 0, 2, .inl (smF2 a0 (nI 1)))), (st1, .inl (cs 0, 96048, .inl (cpF freshS q1 48))), (mtb, .inl (cs 5, 2, .inr (.inr (.inr (.inr ftb))))), (tb1, .inl (cs 0, 8192, .inl (upd (fun _ => nI 0) 965 (nI 1)))), (mti, .inl (cs 6, 2, .inr (.inr (.inr (.inr fti))))), (ti1, .inl (cs 1, 2001, .inr (.inl (vp_updL u1 0 (lN (ww * 11)))))), (hm, .inr (12, [.ref ms, .ref mkp, .int (nI 0), .ref mtr, .int (nI 4), .int (nI 2), .int (nI 2), .int (nI 3), .int (nI 2), .int (nI 1), .ref mas, .int (nI 0), .int (nI 0), .int (nI 0), .ref mso, .ref mon, .ref mot, .ref man, .int (nI 0), .int (nI 0), .ref mst, .ref msm, .ref mtb, .ref mti, .ref mfr, .ref mbn, .ref mbs, .ref mde, .int (nI 0), .int (nI 0), .int (nI 0), .int (nI 0), .long 0, .long 0, .ref maa, .ref mab, .ref mba, .ref mbb])), (ms, .inl (cs 0, 288, .inl freshS)), (mst, .inl (cs 5, 2, .inr (.inr (.inr (.inr fst))))), (st0, .inl (cs 0, 96048, .inl q0))] H := hP
  replace hD : va_D A [(ti0, .inl (cs 1, 2001, .inr (.inl u0))), (msm, .inl (cs 0, 2, .inl (smF2 a0 (nI 1)))), (st1, .inl (cs 0, 96048, .inl (cpF freshS q1 48))), (mtb, .inl (cs 5, 2, .inr (.inr (.inr (.inr ftb))))), (tb1, .inl (cs 0, 8192, .inl (upd (fun _ => nI 0) 965 (nI 1)))), (mti, .inl (cs 6, 2, .inr (.inr (.inr (.inr fti))))), (ti1, .inl (cs 1, 2001, .inr (.inl (vp_updL u1 0 (lN (ww * 11)))))), (hm, .inr (12, [.ref ms, .ref mkp, .int (nI 0), .ref mtr, .int (nI 4), .int (nI 2), .int (nI 2), .int (nI 3), .int (nI 2), .int (nI 1), .ref mas, .int (nI 0), .int (nI 0), .int (nI 0), .ref mso, .ref mon, .ref mot, .ref man, .int (nI 0), .int (nI 0), .ref mst, .ref msm, .ref mtb, .ref mti, .ref mfr, .ref mbn, .ref mbs, .ref mde, .int (nI 0), .int (nI 0), .int (nI 0), .int (nI 0), .long 0, .long 0, .ref maa, .ref mab, .ref mba, .ref mbb])), (ms, .inl (cs 0, 288, .inl freshS)), (mst, .inl (cs 5, 2, .inr (.inr (.inr (.inr fst))))), (st0, .inl (cs 0, 96048, .inl q0))] := hD
  refine lv_aload_n hx hb dX12_spreads_43 rfl (lv_at hl 3 rfl) ?_
  refine lv_iload_n hx hb dX12_spreads_44 rfl (lv_at hl 2 rfl) ?_
  refine xi (wr := [(ti0, .inl (cs 1, 2001, .inr (.inl u0))), (msm, .inl (cs 0, 2, .inl (smF2 a0 (nI 1)))), (st1, .inl (cs 0, 96048, .inl (cpF freshS q1 48))), (mtb, .inl (cs 5, 2, .inr (.inr (.inr (.inr ftb))))), (tb1, .inl (cs 0, 8192, .inl (upd (fun _ => nI 0) 965 (nI 1)))), (mti, .inl (cs 6, 2, .inr (.inr (.inr (.inr fti))))), (ti1, .inl (cs 1, 2001, .inr (.inl (vp_updL u1 0 (lN (ww * 11)))))), (mst, .inl (cs 5, 2, .inr (.inr (.inr (.inr fst))))), (st0, .inl (cs 0, 96048, .inl q0))]) (xV (As := [.int (nI 3)]) (rest := []) C (c_X12_canAsk_z l D cs hm ms mkp mtr mas mso mon mot man mst msm mtb mti mfr mbn mbs mde maa mab mba mbb 3 (by decide)) kX12_142 hP hD [7, 8] rfl (by decide +kernel) 0 rfl rfl rfl ⟨Nat.le_of_ble_eq_true rfl, Nat.le_of_ble_eq_true rfl⟩ rfl hl.1 rfl (Nat.le_of_ble_eq_true rfl) dX12_spreads_45 ⟨Nat.le_of_ble_eq_true rfl, Nat.le_of_ble_eq_true rfl⟩) hP hD hS hA [7, 8] [0, 1, 2, 3, 4, 5, 6, 9, 10] rfl rfl (by decide +kernel) (by decide +kernel) ?_
  clear hP hD hS
  try clear locs
  try clear H
  intro r_179 u_180 H locs hw_r_179 hP hD hS
  have hw_r_179 : r_179 = nI 0 := hw_r_179
  refine W.widen (k := 0) (n := 0) (Nat.le_of_ble_eq_true rfl) (Nat.le_of_ble_eq_true rfl) ?_
  replace hP : va_P D vwCl [(ti0, .inl (cs 1, 2001, .inr (.inl u0))), (msm, .inl (cs 0, 2, .inl (smF2 a0 (nI 1)))), (st1, .inl (cs 0, 96048, .inl (cpF freshS q1 48))), (mtb, .inl (cs 5, 2, .inr (.inr (.inr (.inr ftb))))), (tb1, .inl (cs 0, 8192, .inl (upd (fun _ => nI 0) 965 (nI 1)))), (mti, .inl (cs 6, 2, .inr (.inr (.inr (.inr fti))))), (ti1, .inl (cs 1, 2001, .inr (.inl (vp_updL u1 0 (lN (ww * 11)))))), (mst, .inl (cs 5, 2, .inr (.inr (.inr (.inr fst))))), (st0, .inl (cs 0, 96048, .inl q0)), (hm, .inr (12, [.ref ms, .ref mkp, .int (nI 0), .ref mtr, .int (nI 4), .int (nI 2), .int (nI 2), .int (nI 3), .int (nI 2), .int (nI 1), .ref mas, .int (nI 0), .int (nI 0), .int (nI 0), .ref mso, .ref mon, .ref mot, .ref man, .int (nI 0), .int (nI 0), .ref mst, .ref msm, .ref mtb, .ref mti, .ref mfr, .ref mbn, .ref mbs, .ref mde, .int (nI 0), .int (nI 0), .int (nI 0), .int (nI 0), .long 0, .long 0, .ref maa, .ref mab, .ref mba, .ref mbb])), (ms, .inl (cs 0, 288, .inl freshS))] H := hP
  replace hD : va_D A [(ti0, .inl (cs 1, 2001, .inr (.inl u0))), (msm, .inl (cs 0, 2, .inl (smF2 a0 (nI 1)))), (st1, .inl (cs 0, 96048, .inl (cpF freshS q1 48))), (mtb, .inl (cs 5, 2, .inr (.inr (.inr (.inr ftb))))), (tb1, .inl (cs 0, 8192, .inl (upd (fun _ => nI 0) 965 (nI 1)))), (mti, .inl (cs 6, 2, .inr (.inr (.inr (.inr fti))))), (ti1, .inl (cs 1, 2001, .inr (.inl (vp_updL u1 0 (lN (ww * 11)))))), (mst, .inl (cs 5, 2, .inr (.inr (.inr (.inr fst))))), (st0, .inl (cs 0, 96048, .inl q0)), (hm, .inr (12, [.ref ms, .ref mkp, .int (nI 0), .ref mtr, .int (nI 4), .int (nI 2), .int (nI 2), .int (nI 3), .int (nI 2), .int (nI 1), .ref mas, .int (nI 0), .int (nI 0), .int (nI 0), .ref mso, .ref mon, .ref mot, .ref man, .int (nI 0), .int (nI 0), .ref mst, .ref msm, .ref mtb, .ref mti, .ref mfr, .ref mbn, .ref mbs, .ref mde, .int (nI 0), .int (nI 0), .int (nI 0), .int (nI 0), .long 0, .long 0, .ref maa, .ref mab, .ref mba, .ref mbb])), (ms, .inl (cs 0, 288, .inl freshS))] := hD
  subst hw_r_179
  refine lv_if_eq (tgt := 67) hx hb dX12_spreads_48 (by decide) (fun _ => ?_) (fun c => absurd (by decide) c)
  refine lv_aload_n hx hb dX12_spreads_67 rfl (lv_at hl 3 rfl) ?_
  refine lv_iconst (v := nI 1) hx hb dX12_spreads_68 (by decide) ?_
  refine lv_iload_n hx hb dX12_spreads_69 rfl (lv_at hl 4 rfl) ?_
  refine lv_isub hx hb dX12_spreads_70 ?_
  refine lv_topi (nm_r (e' := nI 1) (by decide) ?_)
  refine lv_sipush (v := nI 2000) hx hb dX12_spreads_71 (by decide) ?_
  refine xi (wr := [(ti0, .inl (cs 1, 2001, .inr (.inl u0))), (st0, .inl (cs 0, 96048, .inl q0))]) (xV (As := [.int (nI 1), .int (nI 2000)]) (rest := []) C (c_X12_numberOf_b1 l D cs hm ms mkp mtr mas mso mon mot man mst msm mtb mti mfr mbn mbs mde maa mab mba mbb st1 tb1 ti1 fst ftb fti (smF2 a0 (nI 1)) (cpF freshS q1 48) (upd (fun _ => nI 0) 965 (nI 1)) (vp_updL u1 0 (lN (ww * 11))) hf1 hg ht1 (if_pos rfl) (fun j hj => cpF_lt hj)) kX12_197 hP hD [9, 10, 1, 7, 2, 3, 4, 5, 6] rfl (by decide +kernel) 0 rfl rfl rfl ⟨Nat.le_of_ble_eq_true rfl, Nat.le_of_ble_eq_true rfl⟩ rfl hl.1 rfl (Nat.le_of_ble_eq_true rfl) dX12_spreads_74 ⟨Nat.le_of_ble_eq_true rfl, Nat.le_of_ble_eq_true rfl⟩) hP hD hS hA [9, 10, 1, 7, 2, 3, 4, 5, 6] [0, 8] rfl rfl (by decide +kernel) (by decide +kernel) ?_
  clear hP hD hS
  try clear locs
  try clear H
  intro r_181 u_182 H locs hw_r_181 hP hD hS
  have hw_r_181 : r_181 = nI 0 := hw_r_181
  refine W.widen (k := 0) (n := 0) (Nat.le_of_ble_eq_true rfl) (Nat.le_of_ble_eq_true rfl) ?_
  replace hP : va_P D vwCl [(ti0, .inl (cs 1, 2001, .inr (.inl u0))), (st0, .inl (cs 0, 96048, .inl q0)), (hm, .inr (12, [.ref ms, .ref mkp, .int (nI 0), .ref mtr, .int (nI 4), .int (nI 2), .int (nI 2), .int (nI 3), .int (nI 2), .int (nI 1), .ref mas, .int (nI 0), .int (nI 0), .int (nI 0), .ref mso, .ref mon, .ref mot, .ref man, .int (nI 0), .int (nI 0), .ref mst, .ref msm, .ref mtb, .ref mti, .ref mfr, .ref mbn, .ref mbs, .ref mde, .int (nI 0), .int (nI 0), .int (nI 0), .int (nI 0), .long 0, .long 0, .ref maa, .ref mab, .ref mba, .ref mbb])), (ms, .inl (cs 0, 288, .inl freshS)), (msm, .inl (cs 0, 2, .inl (smF2 a0 (nI 1)))), (mst, .inl (cs 5, 2, .inr (.inr (.inr (.inr fst))))), (st1, .inl (cs 0, 96048, .inl (cpF freshS q1 48))), (mtb, .inl (cs 5, 2, .inr (.inr (.inr (.inr ftb))))), (tb1, .inl (cs 0, 8192, .inl (upd (fun _ => nI 0) 965 (nI 1)))), (mti, .inl (cs 6, 2, .inr (.inr (.inr (.inr fti))))), (ti1, .inl (cs 1, 2001, .inr (.inl (vp_updL u1 0 (lN (ww * 11))))))] H := hP
  replace hD : va_D A [(ti0, .inl (cs 1, 2001, .inr (.inl u0))), (st0, .inl (cs 0, 96048, .inl q0)), (hm, .inr (12, [.ref ms, .ref mkp, .int (nI 0), .ref mtr, .int (nI 4), .int (nI 2), .int (nI 2), .int (nI 3), .int (nI 2), .int (nI 1), .ref mas, .int (nI 0), .int (nI 0), .int (nI 0), .ref mso, .ref mon, .ref mot, .ref man, .int (nI 0), .int (nI 0), .ref mst, .ref msm, .ref mtb, .ref mti, .ref mfr, .ref mbn, .ref mbs, .ref mde, .int (nI 0), .int (nI 0), .int (nI 0), .int (nI 0), .long 0, .long 0, .ref maa, .ref mab, .ref mba, .ref mbb])), (ms, .inl (cs 0, 288, .inl freshS)), (msm, .inl (cs 0, 2, .inl (smF2 a0 (nI 1)))), (mst, .inl (cs 5, 2, .inr (.inr (.inr (.inr fst))))), (st1, .inl (cs 0, 96048, .inl (cpF freshS q1 48))), (mtb, .inl (cs 5, 2, .inr (.inr (.inr (.inr ftb))))), (tb1, .inl (cs 0, 8192, .inl (upd (fun _ => nI 0) 965 (nI 1)))), (mti, .inl (cs 6, 2, .inr (.inr (.inr (.inr fti))))), (ti1, .inl (cs 1, 2001, .inr (.inl (vp_updL u1 0 (lN (ww * 11))))))] := hD
  subst hw_r_181
  refine lv_istore (lv' := [(5, .int (nI 0)), (4, .int (nI 6)), (3, .int (nI 3)), (0, .ref hm), (1, .int (nI 0)), (2, .int (nI 0))]) hx hb dX12_spreads_77 hl (by decide) rfl ?_
  clear hl
  try clear ls
  intro ls hl
  refine lv_iload hx hb dX12_spreads_79 (lv_at hl 0 rfl) ?_
  refine lv_if_ge (tgt := 86) hx hb dX12_spreads_81 (by decide) (fun _ => ?_) (fun c => absurd (by decide) c)
  refine lv_aload_n hx hb dX12_spreads_86 rfl (lv_at hl 3 rfl) ?_
  refine xget C hP 2 rfl rfl zuX12 23 (by decide) zw5_236 rfl dX12_spreads_87 ?_
  refine lv_iconst (v := nI 1) hx hb dX12_spreads_90 (by decide) ?_
  refine lv_iload_n hx hb dX12_spreads_91 rfl (lv_at hl 4 rfl) ?_
  refine lv_isub hx hb dX12_spreads_92 ?_
  refine lv_topi (nm_r (e' := nI 1) (by decide) ?_)
  refine xaald C hP 9 6 rfl rfl rfl 1 rfl (by decide) (by decide) ht1 dX12_spreads_93 ?_
  refine lv_iload hx hb dX12_spreads_94 (lv_at hl 0 rfl) ?_
  refine lv_dup2_11 hx hb dX12_spreads_96 rfl rfl ?_
  refine xlald C hP 10 rfl 0 rfl (by decide) (by decide) dX12_spreads_97 ?_
  refine lv_topl (nm_r (e' := lN (ww * 11)) (upL_0 _ _) ?_)
  refine lv_aload_n hx hb dX12_spreads_98 rfl (lv_at hl 3 rfl) ?_
  refine xget C hP 2 rfl rfl zuX12 23 (by decide) zw5_236 rfl dX12_spreads_99 ?_
  refine lv_iload_n hx hb dX12_spreads_102 rfl (lv_at hl 4 rfl) ?_
  refine xaald C hP 9 6 rfl rfl rfl 0 rfl (by decide) (by decide) ht0 dX12_spreads_103 ?_
  refine lv_iload_n hx hb dX12_spreads_104 rfl (lv_at hl 5 rfl) ?_
  refine xlald C hP 0 rfl 0 rfl (by decide) (by decide) dX12_spreads_105 ?_
  refine lv_topl (nm_r (e' := lN ww) hw ?_)
  refine lv_ladd hx hb dX12_spreads_106 ?_
  refine lv_topl (nm_r (e' := lN (ww * 12)) (lN_a ww 11) ?_)
  refine xlast C hP hD hS 10 rfl 0 rfl (by decide) (by decide) dX12_spreads_107 ?_
  clear hP hD hS
  try clear locs
  try clear H
  intro H locs hP hD hS
  replace hP : va_P D vwCl [(ti0, .inl (cs 1, 2001, .inr (.inl u0))), (st0, .inl (cs 0, 96048, .inl q0)), (hm, .inr (12, [.ref ms, .ref mkp, .int (nI 0), .ref mtr, .int (nI 4), .int (nI 2), .int (nI 2), .int (nI 3), .int (nI 2), .int (nI 1), .ref mas, .int (nI 0), .int (nI 0), .int (nI 0), .ref mso, .ref mon, .ref mot, .ref man, .int (nI 0), .int (nI 0), .ref mst, .ref msm, .ref mtb, .ref mti, .ref mfr, .ref mbn, .ref mbs, .ref mde, .int (nI 0), .int (nI 0), .int (nI 0), .int (nI 0), .long 0, .long 0, .ref maa, .ref mab, .ref mba, .ref mbb])), (ms, .inl (cs 0, 288, .inl freshS)), (msm, .inl (cs 0, 2, .inl (smF2 a0 (nI 1)))), (mst, .inl (cs 5, 2, .inr (.inr (.inr (.inr fst))))), (st1, .inl (cs 0, 96048, .inl (cpF freshS q1 48))), (mtb, .inl (cs 5, 2, .inr (.inr (.inr (.inr ftb))))), (tb1, .inl (cs 0, 8192, .inl (upd (fun _ => nI 0) 965 (nI 1)))), (mti, .inl (cs 6, 2, .inr (.inr (.inr (.inr fti))))), (ti1, .inl (cs 1, 2001, .inr (.inl (vp_updL (vp_updL u1 0 (lN (ww * 11))) 0 (lN (ww * 12))))))] H := hP
  replace hD : va_D A [(ti0, .inl (cs 1, 2001, .inr (.inl u0))), (st0, .inl (cs 0, 96048, .inl q0)), (hm, .inr (12, [.ref ms, .ref mkp, .int (nI 0), .ref mtr, .int (nI 4), .int (nI 2), .int (nI 2), .int (nI 3), .int (nI 2), .int (nI 1), .ref mas, .int (nI 0), .int (nI 0), .int (nI 0), .ref mso, .ref mon, .ref mot, .ref man, .int (nI 0), .int (nI 0), .ref mst, .ref msm, .ref mtb, .ref mti, .ref mfr, .ref mbn, .ref mbs, .ref mde, .int (nI 0), .int (nI 0), .int (nI 0), .int (nI 0), .long 0, .long 0, .ref maa, .ref mab, .ref mba, .ref mbb])), (ms, .inl (cs 0, 288, .inl freshS)), (msm, .inl (cs 0, 2, .inl (smF2 a0 (nI 1)))), (mst, .inl (cs 5, 2, .inr (.inr (.inr (.inr fst))))), (st1, .inl (cs 0, 96048, .inl (cpF freshS q1 48))), (mtb, .inl (cs 5, 2, .inr (.inr (.inr (.inr ftb))))), (tb1, .inl (cs 0, 8192, .inl (upd (fun _ => nI 0) 965 (nI 1)))), (mti, .inl (cs 6, 2, .inr (.inr (.inr (.inr fti))))), (ti1, .inl (cs 1, 2001, .inr (.inl (vp_updL (vp_updL u1 0 (lN (ww * 11))) 0 (lN (ww * 12))))))] := hD
  have hPD := xcongl (q0 := 10) (vp_updL u1 0 (lN (ww * 12))) hP hD rfl (fun j hj => upL_1 u1 _ _ j)
  clear hP hD
  obtain ⟨hP, hD⟩ := hPD
  replace hP : va_P D vwCl [(ti0, .inl (cs 1, 2001, .inr (.inl u0))), (st0, .inl (cs 0, 96048, .inl q0)), (hm, .inr (12, [.ref ms, .ref mkp, .int (nI 0), .ref mtr, .int (nI 4), .int (nI 2), .int (nI 2), .int (nI 3), .int (nI 2), .int (nI 1), .ref mas, .int (nI 0), .int (nI 0), .int (nI 0), .ref mso, .ref mon, .ref mot, .ref man, .int (nI 0), .int (nI 0), .ref mst, .ref msm, .ref mtb, .ref mti, .ref mfr, .ref mbn, .ref mbs, .ref mde, .int (nI 0), .int (nI 0), .int (nI 0), .int (nI 0), .long 0, .long 0, .ref maa, .ref mab, .ref mba, .ref mbb])), (ms, .inl (cs 0, 288, .inl freshS)), (msm, .inl (cs 0, 2, .inl (smF2 a0 (nI 1)))), (mst, .inl (cs 5, 2, .inr (.inr (.inr (.inr fst))))), (st1, .inl (cs 0, 96048, .inl (cpF freshS q1 48))), (mtb, .inl (cs 5, 2, .inr (.inr (.inr (.inr ftb))))), (tb1, .inl (cs 0, 8192, .inl (upd (fun _ => nI 0) 965 (nI 1)))), (mti, .inl (cs 6, 2, .inr (.inr (.inr (.inr fti))))), (ti1, .inl (cs 1, 2001, .inr (.inl (vp_updL u1 0 (lN (ww * 12))))))] H := hP
  replace hD : va_D A [(ti0, .inl (cs 1, 2001, .inr (.inl u0))), (st0, .inl (cs 0, 96048, .inl q0)), (hm, .inr (12, [.ref ms, .ref mkp, .int (nI 0), .ref mtr, .int (nI 4), .int (nI 2), .int (nI 2), .int (nI 3), .int (nI 2), .int (nI 1), .ref mas, .int (nI 0), .int (nI 0), .int (nI 0), .ref mso, .ref mon, .ref mot, .ref man, .int (nI 0), .int (nI 0), .ref mst, .ref msm, .ref mtb, .ref mti, .ref mfr, .ref mbn, .ref mbs, .ref mde, .int (nI 0), .int (nI 0), .int (nI 0), .int (nI 0), .long 0, .long 0, .ref maa, .ref mab, .ref mba, .ref mbb])), (ms, .inl (cs 0, 288, .inl freshS)), (msm, .inl (cs 0, 2, .inl (smF2 a0 (nI 1)))), (mst, .inl (cs 5, 2, .inr (.inr (.inr (.inr fst))))), (st1, .inl (cs 0, 96048, .inl (cpF freshS q1 48))), (mtb, .inl (cs 5, 2, .inr (.inr (.inr (.inr ftb))))), (tb1, .inl (cs 0, 8192, .inl (upd (fun _ => nI 0) 965 (nI 1)))), (mti, .inl (cs 6, 2, .inr (.inr (.inr (.inr fti))))), (ti1, .inl (cs 1, 2001, .inr (.inl (vp_updL u1 0 (lN (ww * 12))))))] := hD
  refine lv_iinc (v := nI 7) (lv' := [(4, .int (nI 7)), (5, .int (nI 0)), (3, .int (nI 3)), (0, .ref hm), (1, .int (nI 0)), (2, .int (nI 0))]) hx hb dX12_spreads_108 hl (k := 1) rfl (by decide) (by decide) rfl ?_
  clear hl
  try clear ls
  intro ls hl
  refine lv_goto (tgt := 13) hx hb dX12_spreads_111 (by decide) ?_
  refine lv_iload hx hb dX12_spreads_13 (lv_at hl 0 rfl) ?_
  refine lv_iconst (v := nI 1) hx hb dX12_spreads_15 (by decide) ?_
  refine lv_aload_n hx hb dX12_spreads_16 rfl (lv_at hl 3 rfl) ?_
  refine xget C hP 2 rfl rfl zuX12 4 (by decide) zw5_217 rfl dX12_spreads_17 ?_
  refine lv_ishl hx hb dX12_spreads_20 ?_
  refine lv_topi (nm_r (e' := nI 16) (by decide) ?_)
  refine lv_icmp_ge (tgt := 114) hx hb dX12_spreads_21 (by decide) (fun c => absurd c (by decide)) (fun _ => ?_)
  refine lv_aload_n hx hb dX12_spreads_24 rfl (lv_at hl 3 rfl) ?_
  refine lv_iload_n hx hb dX12_spreads_25 rfl (lv_at hl 2 rfl) ?_
  refine lv_iload hx hb dX12_spreads_26 (lv_at hl 0 rfl) ?_
  refine xi (wr := [(ti0, .inl (cs 1, 2001, .inr (.inl u0))), (st0, .inl (cs 0, 96048, .inl q0)), (ms, .inl (cs 0, 288, .inl freshS)), (msm, .inl (cs 0, 2, .inl (smF2 a0 (nI 1)))), (mst, .inl (cs 5, 2, .inr (.inr (.inr (.inr fst))))), (st1, .inl (cs 0, 96048, .inl (cpF freshS q1 48))), (mtb, .inl (cs 5, 2, .inr (.inr (.inr (.inr ftb))))), (tb1, .inl (cs 0, 8192, .inl (upd (fun _ => nI 0) 965 (nI 1)))), (mti, .inl (cs 6, 2, .inr (.inr (.inr (.inr fti))))), (ti1, .inl (cs 1, 2001, .inr (.inl (vp_updL u1 0 (lN (ww * 12))))))]) (xV (As := [.int (nI 3), .int (nI 7)]) (rest := []) C (c_X12_isSample_x l D cs hm ms mkp mtr mas mso mon mot man mst msm mtb mti mfr mbn mbs mde maa mab mba mbb 3 7 (by decide) (by decide)) kX12_139 hP hD [2] rfl (by decide +kernel) 0 rfl rfl rfl ⟨Nat.le_of_ble_eq_true rfl, Nat.le_of_ble_eq_true rfl⟩ rfl hl.1 rfl (Nat.le_of_ble_eq_true rfl) dX12_spreads_28 ⟨Nat.le_of_ble_eq_true rfl, Nat.le_of_ble_eq_true rfl⟩) hP hD hS hA [2] [0, 1, 3, 4, 5, 6, 7, 8, 9, 10] rfl rfl (by decide +kernel) (by decide +kernel) ?_
  clear hP hD hS
  try clear locs
  try clear H
  intro r_183 u_184 H locs hw_r_183 hP hD hS
  have hw_r_183 : r_183 = smB 3 7 := hw_r_183
  refine W.widen (k := 0) (n := 0) (Nat.le_of_ble_eq_true rfl) (Nat.le_of_ble_eq_true rfl) ?_
  replace hP : va_P D vwCl [(ti0, .inl (cs 1, 2001, .inr (.inl u0))), (st0, .inl (cs 0, 96048, .inl q0)), (ms, .inl (cs 0, 288, .inl freshS)), (msm, .inl (cs 0, 2, .inl (smF2 a0 (nI 1)))), (mst, .inl (cs 5, 2, .inr (.inr (.inr (.inr fst))))), (st1, .inl (cs 0, 96048, .inl (cpF freshS q1 48))), (mtb, .inl (cs 5, 2, .inr (.inr (.inr (.inr ftb))))), (tb1, .inl (cs 0, 8192, .inl (upd (fun _ => nI 0) 965 (nI 1)))), (mti, .inl (cs 6, 2, .inr (.inr (.inr (.inr fti))))), (ti1, .inl (cs 1, 2001, .inr (.inl (vp_updL u1 0 (lN (ww * 12)))))), (hm, .inr (12, [.ref ms, .ref mkp, .int (nI 0), .ref mtr, .int (nI 4), .int (nI 2), .int (nI 2), .int (nI 3), .int (nI 2), .int (nI 1), .ref mas, .int (nI 0), .int (nI 0), .int (nI 0), .ref mso, .ref mon, .ref mot, .ref man, .int (nI 0), .int (nI 0), .ref mst, .ref msm, .ref mtb, .ref mti, .ref mfr, .ref mbn, .ref mbs, .ref mde, .int (nI 0), .int (nI 0), .int (nI 0), .int (nI 0), .long 0, .long 0, .ref maa, .ref mab, .ref mba, .ref mbb]))] H := hP
  replace hD : va_D A [(ti0, .inl (cs 1, 2001, .inr (.inl u0))), (st0, .inl (cs 0, 96048, .inl q0)), (ms, .inl (cs 0, 288, .inl freshS)), (msm, .inl (cs 0, 2, .inl (smF2 a0 (nI 1)))), (mst, .inl (cs 5, 2, .inr (.inr (.inr (.inr fst))))), (st1, .inl (cs 0, 96048, .inl (cpF freshS q1 48))), (mtb, .inl (cs 5, 2, .inr (.inr (.inr (.inr ftb))))), (tb1, .inl (cs 0, 8192, .inl (upd (fun _ => nI 0) 965 (nI 1)))), (mti, .inl (cs 6, 2, .inr (.inr (.inr (.inr fti))))), (ti1, .inl (cs 1, 2001, .inr (.inl (vp_updL u1 0 (lN (ww * 12)))))), (hm, .inr (12, [.ref ms, .ref mkp, .int (nI 0), .ref mtr, .int (nI 4), .int (nI 2), .int (nI 2), .int (nI 3), .int (nI 2), .int (nI 1), .ref mas, .int (nI 0), .int (nI 0), .int (nI 0), .ref mso, .ref mon, .ref mot, .ref man, .int (nI 0), .int (nI 0), .ref mst, .ref msm, .ref mtb, .ref mti, .ref mfr, .ref mbn, .ref mbs, .ref mde, .int (nI 0), .int (nI 0), .int (nI 0), .int (nI 0), .long 0, .long 0, .ref maa, .ref mab, .ref mba, .ref mbb]))] := hD
  obtain rfl : r_183 = nI 0 := by rw [hw_r_183]; decide +kernel
  refine lv_if_ne (tgt := 37) hx hb dX12_spreads_31 (by decide) (fun c => absurd (by decide) c) (fun _ => ?_)
  refine lv_goto (tgt := 108) hx hb dX12_spreads_34 (by decide) ?_
  refine lv_iinc (v := nI 8) (lv' := [(4, .int (nI 8)), (5, .int (nI 0)), (3, .int (nI 3)), (0, .ref hm), (1, .int (nI 0)), (2, .int (nI 0))]) hx hb dX12_spreads_108 hl (k := 0) rfl (by decide) (by decide) rfl ?_
  clear hl
  try clear ls
  intro ls hl
  refine lv_goto (tgt := 13) hx hb dX12_spreads_111 (by decide) ?_
  refine lv_iload hx hb dX12_spreads_13 (lv_at hl 0 rfl) ?_
  refine lv_iconst (v := nI 1) hx hb dX12_spreads_15 (by decide) ?_
  refine lv_aload_n hx hb dX12_spreads_16 rfl (lv_at hl 3 rfl) ?_
  refine xget C hP 10 rfl rfl zuX12 4 (by decide) zw5_217 rfl dX12_spreads_17 ?_
  refine lv_ishl hx hb dX12_spreads_20 ?_
  refine lv_topi (nm_r (e' := nI 16) (by decide) ?_)
  refine lv_icmp_ge (tgt := 114) hx hb dX12_spreads_21 (by decide) (fun c => absurd c (by decide)) (fun _ => ?_)
  refine lv_aload_n hx hb dX12_spreads_24 rfl (lv_at hl 3 rfl) ?_
  refine lv_iload_n hx hb dX12_spreads_25 rfl (lv_at hl 2 rfl) ?_
  refine lv_iload hx hb dX12_spreads_26 (lv_at hl 0 rfl) ?_
  refine xi (wr := [(ti0, .inl (cs 1, 2001, .inr (.inl u0))), (st0, .inl (cs 0, 96048, .inl q0)), (ms, .inl (cs 0, 288, .inl freshS)), (msm, .inl (cs 0, 2, .inl (smF2 a0 (nI 1)))), (mst, .inl (cs 5, 2, .inr (.inr (.inr (.inr fst))))), (st1, .inl (cs 0, 96048, .inl (cpF freshS q1 48))), (mtb, .inl (cs 5, 2, .inr (.inr (.inr (.inr ftb))))), (tb1, .inl (cs 0, 8192, .inl (upd (fun _ => nI 0) 965 (nI 1)))), (mti, .inl (cs 6, 2, .inr (.inr (.inr (.inr fti))))), (ti1, .inl (cs 1, 2001, .inr (.inl (vp_updL u1 0 (lN (ww * 12))))))]) (xV (As := [.int (nI 3), .int (nI 8)]) (rest := []) C (c_X12_isSample_x l D cs hm ms mkp mtr mas mso mon mot man mst msm mtb mti mfr mbn mbs mde maa mab mba mbb 3 8 (by decide) (by decide)) kX12_139 hP hD [10] rfl (by decide +kernel) 0 rfl rfl rfl ⟨Nat.le_of_ble_eq_true rfl, Nat.le_of_ble_eq_true rfl⟩ rfl hl.1 rfl (Nat.le_of_ble_eq_true rfl) dX12_spreads_28 ⟨Nat.le_of_ble_eq_true rfl, Nat.le_of_ble_eq_true rfl⟩) hP hD hS hA [10] [0, 1, 2, 3, 4, 5, 6, 7, 8, 9] rfl rfl (by decide +kernel) (by decide +kernel) ?_
  clear hP hD hS
  try clear locs
  try clear H
  intro r_185 u_186 H locs hw_r_185 hP hD hS
  have hw_r_185 : r_185 = smB 3 8 := hw_r_185
  refine W.widen (k := 0) (n := 0) (Nat.le_of_ble_eq_true rfl) (Nat.le_of_ble_eq_true rfl) ?_
  replace hP : va_P D vwCl [(ti0, .inl (cs 1, 2001, .inr (.inl u0))), (st0, .inl (cs 0, 96048, .inl q0)), (ms, .inl (cs 0, 288, .inl freshS)), (msm, .inl (cs 0, 2, .inl (smF2 a0 (nI 1)))), (mst, .inl (cs 5, 2, .inr (.inr (.inr (.inr fst))))), (st1, .inl (cs 0, 96048, .inl (cpF freshS q1 48))), (mtb, .inl (cs 5, 2, .inr (.inr (.inr (.inr ftb))))), (tb1, .inl (cs 0, 8192, .inl (upd (fun _ => nI 0) 965 (nI 1)))), (mti, .inl (cs 6, 2, .inr (.inr (.inr (.inr fti))))), (ti1, .inl (cs 1, 2001, .inr (.inl (vp_updL u1 0 (lN (ww * 12)))))), (hm, .inr (12, [.ref ms, .ref mkp, .int (nI 0), .ref mtr, .int (nI 4), .int (nI 2), .int (nI 2), .int (nI 3), .int (nI 2), .int (nI 1), .ref mas, .int (nI 0), .int (nI 0), .int (nI 0), .ref mso, .ref mon, .ref mot, .ref man, .int (nI 0), .int (nI 0), .ref mst, .ref msm, .ref mtb, .ref mti, .ref mfr, .ref mbn, .ref mbs, .ref mde, .int (nI 0), .int (nI 0), .int (nI 0), .int (nI 0), .long 0, .long 0, .ref maa, .ref mab, .ref mba, .ref mbb]))] H := hP
  replace hD : va_D A [(ti0, .inl (cs 1, 2001, .inr (.inl u0))), (st0, .inl (cs 0, 96048, .inl q0)), (ms, .inl (cs 0, 288, .inl freshS)), (msm, .inl (cs 0, 2, .inl (smF2 a0 (nI 1)))), (mst, .inl (cs 5, 2, .inr (.inr (.inr (.inr fst))))), (st1, .inl (cs 0, 96048, .inl (cpF freshS q1 48))), (mtb, .inl (cs 5, 2, .inr (.inr (.inr (.inr ftb))))), (tb1, .inl (cs 0, 8192, .inl (upd (fun _ => nI 0) 965 (nI 1)))), (mti, .inl (cs 6, 2, .inr (.inr (.inr (.inr fti))))), (ti1, .inl (cs 1, 2001, .inr (.inl (vp_updL u1 0 (lN (ww * 12)))))), (hm, .inr (12, [.ref ms, .ref mkp, .int (nI 0), .ref mtr, .int (nI 4), .int (nI 2), .int (nI 2), .int (nI 3), .int (nI 2), .int (nI 1), .ref mas, .int (nI 0), .int (nI 0), .int (nI 0), .ref mso, .ref mon, .ref mot, .ref man, .int (nI 0), .int (nI 0), .ref mst, .ref msm, .ref mtb, .ref mti, .ref mfr, .ref mbn, .ref mbs, .ref mde, .int (nI 0), .int (nI 0), .int (nI 0), .int (nI 0), .long 0, .long 0, .ref maa, .ref mab, .ref mba, .ref mbb]))] := hD
  obtain rfl : r_185 = nI 0 := by rw [hw_r_185]; decide +kernel
  refine lv_if_ne (tgt := 37) hx hb dX12_spreads_31 (by decide) (fun c => absurd (by decide) c) (fun _ => ?_)
  refine lv_goto (tgt := 108) hx hb dX12_spreads_34 (by decide) ?_
  refine lv_iinc (v := nI 9) (lv' := [(4, .int (nI 9)), (5, .int (nI 0)), (3, .int (nI 3)), (0, .ref hm), (1, .int (nI 0)), (2, .int (nI 0))]) hx hb dX12_spreads_108 hl (k := 0) rfl (by decide) (by decide) rfl ?_
  clear hl
  try clear ls
  intro ls hl
  refine lv_goto (tgt := 13) hx hb dX12_spreads_111 (by decide) ?_
  refine lv_iload hx hb dX12_spreads_13 (lv_at hl 0 rfl) ?_
  refine lv_iconst (v := nI 1) hx hb dX12_spreads_15 (by decide) ?_
  refine lv_aload_n hx hb dX12_spreads_16 rfl (lv_at hl 3 rfl) ?_
  refine xget C hP 10 rfl rfl zuX12 4 (by decide) zw5_217 rfl dX12_spreads_17 ?_
  refine lv_ishl hx hb dX12_spreads_20 ?_
  refine lv_topi (nm_r (e' := nI 16) (by decide) ?_)
  refine lv_icmp_ge (tgt := 114) hx hb dX12_spreads_21 (by decide) (fun c => absurd c (by decide)) (fun _ => ?_)
  refine lv_aload_n hx hb dX12_spreads_24 rfl (lv_at hl 3 rfl) ?_
  refine lv_iload_n hx hb dX12_spreads_25 rfl (lv_at hl 2 rfl) ?_
  refine lv_iload hx hb dX12_spreads_26 (lv_at hl 0 rfl) ?_
  refine xi (wr := [(ti0, .inl (cs 1, 2001, .inr (.inl u0))), (st0, .inl (cs 0, 96048, .inl q0)), (ms, .inl (cs 0, 288, .inl freshS)), (msm, .inl (cs 0, 2, .inl (smF2 a0 (nI 1)))), (mst, .inl (cs 5, 2, .inr (.inr (.inr (.inr fst))))), (st1, .inl (cs 0, 96048, .inl (cpF freshS q1 48))), (mtb, .inl (cs 5, 2, .inr (.inr (.inr (.inr ftb))))), (tb1, .inl (cs 0, 8192, .inl (upd (fun _ => nI 0) 965 (nI 1)))), (mti, .inl (cs 6, 2, .inr (.inr (.inr (.inr fti))))), (ti1, .inl (cs 1, 2001, .inr (.inl (vp_updL u1 0 (lN (ww * 12))))))]) (xV (As := [.int (nI 3), .int (nI 9)]) (rest := []) C (c_X12_isSample_x l D cs hm ms mkp mtr mas mso mon mot man mst msm mtb mti mfr mbn mbs mde maa mab mba mbb 3 9 (by decide) (by decide)) kX12_139 hP hD [10] rfl (by decide +kernel) 0 rfl rfl rfl ⟨Nat.le_of_ble_eq_true rfl, Nat.le_of_ble_eq_true rfl⟩ rfl hl.1 rfl (Nat.le_of_ble_eq_true rfl) dX12_spreads_28 ⟨Nat.le_of_ble_eq_true rfl, Nat.le_of_ble_eq_true rfl⟩) hP hD hS hA [10] [0, 1, 2, 3, 4, 5, 6, 7, 8, 9] rfl rfl (by decide +kernel) (by decide +kernel) ?_
  clear hP hD hS
  try clear locs
  try clear H
  intro r_187 u_188 H locs hw_r_187 hP hD hS
  have hw_r_187 : r_187 = smB 3 9 := hw_r_187
  refine W.widen (k := 0) (n := 0) (Nat.le_of_ble_eq_true rfl) (Nat.le_of_ble_eq_true rfl) ?_
  replace hP : va_P D vwCl [(ti0, .inl (cs 1, 2001, .inr (.inl u0))), (st0, .inl (cs 0, 96048, .inl q0)), (ms, .inl (cs 0, 288, .inl freshS)), (msm, .inl (cs 0, 2, .inl (smF2 a0 (nI 1)))), (mst, .inl (cs 5, 2, .inr (.inr (.inr (.inr fst))))), (st1, .inl (cs 0, 96048, .inl (cpF freshS q1 48))), (mtb, .inl (cs 5, 2, .inr (.inr (.inr (.inr ftb))))), (tb1, .inl (cs 0, 8192, .inl (upd (fun _ => nI 0) 965 (nI 1)))), (mti, .inl (cs 6, 2, .inr (.inr (.inr (.inr fti))))), (ti1, .inl (cs 1, 2001, .inr (.inl (vp_updL u1 0 (lN (ww * 12)))))), (hm, .inr (12, [.ref ms, .ref mkp, .int (nI 0), .ref mtr, .int (nI 4), .int (nI 2), .int (nI 2), .int (nI 3), .int (nI 2), .int (nI 1), .ref mas, .int (nI 0), .int (nI 0), .int (nI 0), .ref mso, .ref mon, .ref mot, .ref man, .int (nI 0), .int (nI 0), .ref mst, .ref msm, .ref mtb, .ref mti, .ref mfr, .ref mbn, .ref mbs, .ref mde, .int (nI 0), .int (nI 0), .int (nI 0), .int (nI 0), .long 0, .long 0, .ref maa, .ref mab, .ref mba, .ref mbb]))] H := hP
  replace hD : va_D A [(ti0, .inl (cs 1, 2001, .inr (.inl u0))), (st0, .inl (cs 0, 96048, .inl q0)), (ms, .inl (cs 0, 288, .inl freshS)), (msm, .inl (cs 0, 2, .inl (smF2 a0 (nI 1)))), (mst, .inl (cs 5, 2, .inr (.inr (.inr (.inr fst))))), (st1, .inl (cs 0, 96048, .inl (cpF freshS q1 48))), (mtb, .inl (cs 5, 2, .inr (.inr (.inr (.inr ftb))))), (tb1, .inl (cs 0, 8192, .inl (upd (fun _ => nI 0) 965 (nI 1)))), (mti, .inl (cs 6, 2, .inr (.inr (.inr (.inr fti))))), (ti1, .inl (cs 1, 2001, .inr (.inl (vp_updL u1 0 (lN (ww * 12)))))), (hm, .inr (12, [.ref ms, .ref mkp, .int (nI 0), .ref mtr, .int (nI 4), .int (nI 2), .int (nI 2), .int (nI 3), .int (nI 2), .int (nI 1), .ref mas, .int (nI 0), .int (nI 0), .int (nI 0), .ref mso, .ref mon, .ref mot, .ref man, .int (nI 0), .int (nI 0), .ref mst, .ref msm, .ref mtb, .ref mti, .ref mfr, .ref mbn, .ref mbs, .ref mde, .int (nI 0), .int (nI 0), .int (nI 0), .int (nI 0), .long 0, .long 0, .ref maa, .ref mab, .ref mba, .ref mbb]))] := hD
  obtain rfl : r_187 = nI 0 := by rw [hw_r_187]; decide +kernel
  refine lv_if_ne (tgt := 37) hx hb dX12_spreads_31 (by decide) (fun c => absurd (by decide) c) (fun _ => ?_)
  refine lv_goto (tgt := 108) hx hb dX12_spreads_34 (by decide) ?_
  refine lv_iinc (v := nI 10) (lv' := [(4, .int (nI 10)), (5, .int (nI 0)), (3, .int (nI 3)), (0, .ref hm), (1, .int (nI 0)), (2, .int (nI 0))]) hx hb dX12_spreads_108 hl (k := 0) rfl (by decide) (by decide) rfl ?_
  clear hl
  try clear ls
  intro ls hl
  refine lv_goto (tgt := 13) hx hb dX12_spreads_111 (by decide) ?_
  refine lv_iload hx hb dX12_spreads_13 (lv_at hl 0 rfl) ?_
  refine lv_iconst (v := nI 1) hx hb dX12_spreads_15 (by decide) ?_
  refine lv_aload_n hx hb dX12_spreads_16 rfl (lv_at hl 3 rfl) ?_
  refine xget C hP 10 rfl rfl zuX12 4 (by decide) zw5_217 rfl dX12_spreads_17 ?_
  refine lv_ishl hx hb dX12_spreads_20 ?_
  refine lv_topi (nm_r (e' := nI 16) (by decide) ?_)
  refine lv_icmp_ge (tgt := 114) hx hb dX12_spreads_21 (by decide) (fun c => absurd c (by decide)) (fun _ => ?_)
  refine lv_aload_n hx hb dX12_spreads_24 rfl (lv_at hl 3 rfl) ?_
  refine lv_iload_n hx hb dX12_spreads_25 rfl (lv_at hl 2 rfl) ?_
  refine lv_iload hx hb dX12_spreads_26 (lv_at hl 0 rfl) ?_
  refine xi (wr := [(ti0, .inl (cs 1, 2001, .inr (.inl u0))), (st0, .inl (cs 0, 96048, .inl q0)), (ms, .inl (cs 0, 288, .inl freshS)), (msm, .inl (cs 0, 2, .inl (smF2 a0 (nI 1)))), (mst, .inl (cs 5, 2, .inr (.inr (.inr (.inr fst))))), (st1, .inl (cs 0, 96048, .inl (cpF freshS q1 48))), (mtb, .inl (cs 5, 2, .inr (.inr (.inr (.inr ftb))))), (tb1, .inl (cs 0, 8192, .inl (upd (fun _ => nI 0) 965 (nI 1)))), (mti, .inl (cs 6, 2, .inr (.inr (.inr (.inr fti))))), (ti1, .inl (cs 1, 2001, .inr (.inl (vp_updL u1 0 (lN (ww * 12))))))]) (xV (As := [.int (nI 3), .int (nI 10)]) (rest := []) C (c_X12_isSample_x l D cs hm ms mkp mtr mas mso mon mot man mst msm mtb mti mfr mbn mbs mde maa mab mba mbb 3 10 (by decide) (by decide)) kX12_139 hP hD [10] rfl (by decide +kernel) 0 rfl rfl rfl ⟨Nat.le_of_ble_eq_true rfl, Nat.le_of_ble_eq_true rfl⟩ rfl hl.1 rfl (Nat.le_of_ble_eq_true rfl) dX12_spreads_28 ⟨Nat.le_of_ble_eq_true rfl, Nat.le_of_ble_eq_true rfl⟩) hP hD hS hA [10] [0, 1, 2, 3, 4, 5, 6, 7, 8, 9] rfl rfl (by decide +kernel) (by decide +kernel) ?_
  clear hP hD hS
  try clear locs
  try clear H
  intro r_189 u_190 H locs hw_r_189 hP hD hS
  have hw_r_189 : r_189 = smB 3 10 := hw_r_189
  refine W.widen (k := 0) (n := 0) (Nat.le_of_ble_eq_true rfl) (Nat.le_of_ble_eq_true rfl) ?_
  replace hP : va_P D vwCl [(ti0, .inl (cs 1, 2001, .inr (.inl u0))), (st0, .inl (cs 0, 96048, .inl q0)), (ms, .inl (cs 0, 288, .inl freshS)), (msm, .inl (cs 0, 2, .inl (smF2 a0 (nI 1)))), (mst, .inl (cs 5, 2, .inr (.inr (.inr (.inr fst))))), (st1, .inl (cs 0, 96048, .inl (cpF freshS q1 48))), (mtb, .inl (cs 5, 2, .inr (.inr (.inr (.inr ftb))))), (tb1, .inl (cs 0, 8192, .inl (upd (fun _ => nI 0) 965 (nI 1)))), (mti, .inl (cs 6, 2, .inr (.inr (.inr (.inr fti))))), (ti1, .inl (cs 1, 2001, .inr (.inl (vp_updL u1 0 (lN (ww * 12)))))), (hm, .inr (12, [.ref ms, .ref mkp, .int (nI 0), .ref mtr, .int (nI 4), .int (nI 2), .int (nI 2), .int (nI 3), .int (nI 2), .int (nI 1), .ref mas, .int (nI 0), .int (nI 0), .int (nI 0), .ref mso, .ref mon, .ref mot, .ref man, .int (nI 0), .int (nI 0), .ref mst, .ref msm, .ref mtb, .ref mti, .ref mfr, .ref mbn, .ref mbs, .ref mde, .int (nI 0), .int (nI 0), .int (nI 0), .int (nI 0), .long 0, .long 0, .ref maa, .ref mab, .ref mba, .ref mbb]))] H := hP
  replace hD : va_D A [(ti0, .inl (cs 1, 2001, .inr (.inl u0))), (st0, .inl (cs 0, 96048, .inl q0)), (ms, .inl (cs 0, 288, .inl freshS)), (msm, .inl (cs 0, 2, .inl (smF2 a0 (nI 1)))), (mst, .inl (cs 5, 2, .inr (.inr (.inr (.inr fst))))), (st1, .inl (cs 0, 96048, .inl (cpF freshS q1 48))), (mtb, .inl (cs 5, 2, .inr (.inr (.inr (.inr ftb))))), (tb1, .inl (cs 0, 8192, .inl (upd (fun _ => nI 0) 965 (nI 1)))), (mti, .inl (cs 6, 2, .inr (.inr (.inr (.inr fti))))), (ti1, .inl (cs 1, 2001, .inr (.inl (vp_updL u1 0 (lN (ww * 12)))))), (hm, .inr (12, [.ref ms, .ref mkp, .int (nI 0), .ref mtr, .int (nI 4), .int (nI 2), .int (nI 2), .int (nI 3), .int (nI 2), .int (nI 1), .ref mas, .int (nI 0), .int (nI 0), .int (nI 0), .ref mso, .ref mon, .ref mot, .ref man, .int (nI 0), .int (nI 0), .ref mst, .ref msm, .ref mtb, .ref mti, .ref mfr, .ref mbn, .ref mbs, .ref mde, .int (nI 0), .int (nI 0), .int (nI 0), .int (nI 0), .long 0, .long 0, .ref maa, .ref mab, .ref mba, .ref mbb]))] := hD
  obtain rfl : r_189 = nI 0 := by rw [hw_r_189]; decide +kernel
  refine lv_if_ne (tgt := 37) hx hb dX12_spreads_31 (by decide) (fun c => absurd (by decide) c) (fun _ => ?_)
  refine lv_goto (tgt := 108) hx hb dX12_spreads_34 (by decide) ?_
  refine lv_iinc (v := nI 11) (lv' := [(4, .int (nI 11)), (5, .int (nI 0)), (3, .int (nI 3)), (0, .ref hm), (1, .int (nI 0)), (2, .int (nI 0))]) hx hb dX12_spreads_108 hl (k := 0) rfl (by decide) (by decide) rfl ?_
  clear hl
  try clear ls
  intro ls hl
  refine lv_goto (tgt := 13) hx hb dX12_spreads_111 (by decide) ?_
  refine lv_iload hx hb dX12_spreads_13 (lv_at hl 0 rfl) ?_
  refine lv_iconst (v := nI 1) hx hb dX12_spreads_15 (by decide) ?_
  refine lv_aload_n hx hb dX12_spreads_16 rfl (lv_at hl 3 rfl) ?_
  refine xget C hP 10 rfl rfl zuX12 4 (by decide) zw5_217 rfl dX12_spreads_17 ?_
  refine lv_ishl hx hb dX12_spreads_20 ?_
  refine lv_topi (nm_r (e' := nI 16) (by decide) ?_)
  refine lv_icmp_ge (tgt := 114) hx hb dX12_spreads_21 (by decide) (fun c => absurd c (by decide)) (fun _ => ?_)
  refine lv_aload_n hx hb dX12_spreads_24 rfl (lv_at hl 3 rfl) ?_
  refine lv_iload_n hx hb dX12_spreads_25 rfl (lv_at hl 2 rfl) ?_
  refine lv_iload hx hb dX12_spreads_26 (lv_at hl 0 rfl) ?_
  refine xi (wr := [(ti0, .inl (cs 1, 2001, .inr (.inl u0))), (st0, .inl (cs 0, 96048, .inl q0)), (ms, .inl (cs 0, 288, .inl freshS)), (msm, .inl (cs 0, 2, .inl (smF2 a0 (nI 1)))), (mst, .inl (cs 5, 2, .inr (.inr (.inr (.inr fst))))), (st1, .inl (cs 0, 96048, .inl (cpF freshS q1 48))), (mtb, .inl (cs 5, 2, .inr (.inr (.inr (.inr ftb))))), (tb1, .inl (cs 0, 8192, .inl (upd (fun _ => nI 0) 965 (nI 1)))), (mti, .inl (cs 6, 2, .inr (.inr (.inr (.inr fti))))), (ti1, .inl (cs 1, 2001, .inr (.inl (vp_updL u1 0 (lN (ww * 12))))))]) (xV (As := [.int (nI 3), .int (nI 11)]) (rest := []) C (c_X12_isSample_x l D cs hm ms mkp mtr mas mso mon mot man mst msm mtb mti mfr mbn mbs mde maa mab mba mbb 3 11 (by decide) (by decide)) kX12_139 hP hD [10] rfl (by decide +kernel) 0 rfl rfl rfl ⟨Nat.le_of_ble_eq_true rfl, Nat.le_of_ble_eq_true rfl⟩ rfl hl.1 rfl (Nat.le_of_ble_eq_true rfl) dX12_spreads_28 ⟨Nat.le_of_ble_eq_true rfl, Nat.le_of_ble_eq_true rfl⟩) hP hD hS hA [10] [0, 1, 2, 3, 4, 5, 6, 7, 8, 9] rfl rfl (by decide +kernel) (by decide +kernel) ?_
  clear hP hD hS
  try clear locs
  try clear H
  intro r_191 u_192 H locs hw_r_191 hP hD hS
  have hw_r_191 : r_191 = smB 3 11 := hw_r_191
  refine W.widen (k := 0) (n := 0) (Nat.le_of_ble_eq_true rfl) (Nat.le_of_ble_eq_true rfl) ?_
  replace hP : va_P D vwCl [(ti0, .inl (cs 1, 2001, .inr (.inl u0))), (st0, .inl (cs 0, 96048, .inl q0)), (ms, .inl (cs 0, 288, .inl freshS)), (msm, .inl (cs 0, 2, .inl (smF2 a0 (nI 1)))), (mst, .inl (cs 5, 2, .inr (.inr (.inr (.inr fst))))), (st1, .inl (cs 0, 96048, .inl (cpF freshS q1 48))), (mtb, .inl (cs 5, 2, .inr (.inr (.inr (.inr ftb))))), (tb1, .inl (cs 0, 8192, .inl (upd (fun _ => nI 0) 965 (nI 1)))), (mti, .inl (cs 6, 2, .inr (.inr (.inr (.inr fti))))), (ti1, .inl (cs 1, 2001, .inr (.inl (vp_updL u1 0 (lN (ww * 12)))))), (hm, .inr (12, [.ref ms, .ref mkp, .int (nI 0), .ref mtr, .int (nI 4), .int (nI 2), .int (nI 2), .int (nI 3), .int (nI 2), .int (nI 1), .ref mas, .int (nI 0), .int (nI 0), .int (nI 0), .ref mso, .ref mon, .ref mot, .ref man, .int (nI 0), .int (nI 0), .ref mst, .ref msm, .ref mtb, .ref mti, .ref mfr, .ref mbn, .ref mbs, .ref mde, .int (nI 0), .int (nI 0), .int (nI 0), .int (nI 0), .long 0, .long 0, .ref maa, .ref mab, .ref mba, .ref mbb]))] H := hP
  replace hD : va_D A [(ti0, .inl (cs 1, 2001, .inr (.inl u0))), (st0, .inl (cs 0, 96048, .inl q0)), (ms, .inl (cs 0, 288, .inl freshS)), (msm, .inl (cs 0, 2, .inl (smF2 a0 (nI 1)))), (mst, .inl (cs 5, 2, .inr (.inr (.inr (.inr fst))))), (st1, .inl (cs 0, 96048, .inl (cpF freshS q1 48))), (mtb, .inl (cs 5, 2, .inr (.inr (.inr (.inr ftb))))), (tb1, .inl (cs 0, 8192, .inl (upd (fun _ => nI 0) 965 (nI 1)))), (mti, .inl (cs 6, 2, .inr (.inr (.inr (.inr fti))))), (ti1, .inl (cs 1, 2001, .inr (.inl (vp_updL u1 0 (lN (ww * 12)))))), (hm, .inr (12, [.ref ms, .ref mkp, .int (nI 0), .ref mtr, .int (nI 4), .int (nI 2), .int (nI 2), .int (nI 3), .int (nI 2), .int (nI 1), .ref mas, .int (nI 0), .int (nI 0), .int (nI 0), .ref mso, .ref mon, .ref mot, .ref man, .int (nI 0), .int (nI 0), .ref mst, .ref msm, .ref mtb, .ref mti, .ref mfr, .ref mbn, .ref mbs, .ref mde, .int (nI 0), .int (nI 0), .int (nI 0), .int (nI 0), .long 0, .long 0, .ref maa, .ref mab, .ref mba, .ref mbb]))] := hD
  obtain rfl : r_191 = nI 0 := by rw [hw_r_191]; decide +kernel
  refine lv_if_ne (tgt := 37) hx hb dX12_spreads_31 (by decide) (fun c => absurd (by decide) c) (fun _ => ?_)
  refine lv_goto (tgt := 108) hx hb dX12_spreads_34 (by decide) ?_
  refine lv_iinc (v := nI 12) (lv' := [(4, .int (nI 12)), (5, .int (nI 0)), (3, .int (nI 3)), (0, .ref hm), (1, .int (nI 0)), (2, .int (nI 0))]) hx hb dX12_spreads_108 hl (k := 0) rfl (by decide) (by decide) rfl ?_
  clear hl
  try clear ls
  intro ls hl
  refine lv_goto (tgt := 13) hx hb dX12_spreads_111 (by decide) ?_
  refine lv_iload hx hb dX12_spreads_13 (lv_at hl 0 rfl) ?_
  refine lv_iconst (v := nI 1) hx hb dX12_spreads_15 (by decide) ?_
  refine lv_aload_n hx hb dX12_spreads_16 rfl (lv_at hl 3 rfl) ?_
  refine xget C hP 10 rfl rfl zuX12 4 (by decide) zw5_217 rfl dX12_spreads_17 ?_
  refine lv_ishl hx hb dX12_spreads_20 ?_
  refine lv_topi (nm_r (e' := nI 16) (by decide) ?_)
  refine lv_icmp_ge (tgt := 114) hx hb dX12_spreads_21 (by decide) (fun c => absurd c (by decide)) (fun _ => ?_)
  refine lv_aload_n hx hb dX12_spreads_24 rfl (lv_at hl 3 rfl) ?_
  refine lv_iload_n hx hb dX12_spreads_25 rfl (lv_at hl 2 rfl) ?_
  refine lv_iload hx hb dX12_spreads_26 (lv_at hl 0 rfl) ?_
  refine xi (wr := [(ti0, .inl (cs 1, 2001, .inr (.inl u0))), (st0, .inl (cs 0, 96048, .inl q0)), (ms, .inl (cs 0, 288, .inl freshS)), (msm, .inl (cs 0, 2, .inl (smF2 a0 (nI 1)))), (mst, .inl (cs 5, 2, .inr (.inr (.inr (.inr fst))))), (st1, .inl (cs 0, 96048, .inl (cpF freshS q1 48))), (mtb, .inl (cs 5, 2, .inr (.inr (.inr (.inr ftb))))), (tb1, .inl (cs 0, 8192, .inl (upd (fun _ => nI 0) 965 (nI 1)))), (mti, .inl (cs 6, 2, .inr (.inr (.inr (.inr fti))))), (ti1, .inl (cs 1, 2001, .inr (.inl (vp_updL u1 0 (lN (ww * 12))))))]) (xV (As := [.int (nI 3), .int (nI 12)]) (rest := []) C (c_X12_isSample_x l D cs hm ms mkp mtr mas mso mon mot man mst msm mtb mti mfr mbn mbs mde maa mab mba mbb 3 12 (by decide) (by decide)) kX12_139 hP hD [10] rfl (by decide +kernel) 0 rfl rfl rfl ⟨Nat.le_of_ble_eq_true rfl, Nat.le_of_ble_eq_true rfl⟩ rfl hl.1 rfl (Nat.le_of_ble_eq_true rfl) dX12_spreads_28 ⟨Nat.le_of_ble_eq_true rfl, Nat.le_of_ble_eq_true rfl⟩) hP hD hS hA [10] [0, 1, 2, 3, 4, 5, 6, 7, 8, 9] rfl rfl (by decide +kernel) (by decide +kernel) ?_
  clear hP hD hS
  try clear locs
  try clear H
  intro r_193 u_194 H locs hw_r_193 hP hD hS
  have hw_r_193 : r_193 = smB 3 12 := hw_r_193
  refine W.widen (k := 0) (n := 0) (Nat.le_of_ble_eq_true rfl) (Nat.le_of_ble_eq_true rfl) ?_
  replace hP : va_P D vwCl [(ti0, .inl (cs 1, 2001, .inr (.inl u0))), (st0, .inl (cs 0, 96048, .inl q0)), (ms, .inl (cs 0, 288, .inl freshS)), (msm, .inl (cs 0, 2, .inl (smF2 a0 (nI 1)))), (mst, .inl (cs 5, 2, .inr (.inr (.inr (.inr fst))))), (st1, .inl (cs 0, 96048, .inl (cpF freshS q1 48))), (mtb, .inl (cs 5, 2, .inr (.inr (.inr (.inr ftb))))), (tb1, .inl (cs 0, 8192, .inl (upd (fun _ => nI 0) 965 (nI 1)))), (mti, .inl (cs 6, 2, .inr (.inr (.inr (.inr fti))))), (ti1, .inl (cs 1, 2001, .inr (.inl (vp_updL u1 0 (lN (ww * 12)))))), (hm, .inr (12, [.ref ms, .ref mkp, .int (nI 0), .ref mtr, .int (nI 4), .int (nI 2), .int (nI 2), .int (nI 3), .int (nI 2), .int (nI 1), .ref mas, .int (nI 0), .int (nI 0), .int (nI 0), .ref mso, .ref mon, .ref mot, .ref man, .int (nI 0), .int (nI 0), .ref mst, .ref msm, .ref mtb, .ref mti, .ref mfr, .ref mbn, .ref mbs, .ref mde, .int (nI 0), .int (nI 0), .int (nI 0), .int (nI 0), .long 0, .long 0, .ref maa, .ref mab, .ref mba, .ref mbb]))] H := hP
  replace hD : va_D A [(ti0, .inl (cs 1, 2001, .inr (.inl u0))), (st0, .inl (cs 0, 96048, .inl q0)), (ms, .inl (cs 0, 288, .inl freshS)), (msm, .inl (cs 0, 2, .inl (smF2 a0 (nI 1)))), (mst, .inl (cs 5, 2, .inr (.inr (.inr (.inr fst))))), (st1, .inl (cs 0, 96048, .inl (cpF freshS q1 48))), (mtb, .inl (cs 5, 2, .inr (.inr (.inr (.inr ftb))))), (tb1, .inl (cs 0, 8192, .inl (upd (fun _ => nI 0) 965 (nI 1)))), (mti, .inl (cs 6, 2, .inr (.inr (.inr (.inr fti))))), (ti1, .inl (cs 1, 2001, .inr (.inl (vp_updL u1 0 (lN (ww * 12)))))), (hm, .inr (12, [.ref ms, .ref mkp, .int (nI 0), .ref mtr, .int (nI 4), .int (nI 2), .int (nI 2), .int (nI 3), .int (nI 2), .int (nI 1), .ref mas, .int (nI 0), .int (nI 0), .int (nI 0), .ref mso, .ref mon, .ref mot, .ref man, .int (nI 0), .int (nI 0), .ref mst, .ref msm, .ref mtb, .ref mti, .ref mfr, .ref mbn, .ref mbs, .ref mde, .int (nI 0), .int (nI 0), .int (nI 0), .int (nI 0), .long 0, .long 0, .ref maa, .ref mab, .ref mba, .ref mbb]))] := hD
  obtain rfl : r_193 = nI 0 := by rw [hw_r_193]; decide +kernel
  refine lv_if_ne (tgt := 37) hx hb dX12_spreads_31 (by decide) (fun c => absurd (by decide) c) (fun _ => ?_)
  refine lv_goto (tgt := 108) hx hb dX12_spreads_34 (by decide) ?_
  refine lv_iinc (v := nI 13) (lv' := [(4, .int (nI 13)), (5, .int (nI 0)), (3, .int (nI 3)), (0, .ref hm), (1, .int (nI 0)), (2, .int (nI 0))]) hx hb dX12_spreads_108 hl (k := 0) rfl (by decide) (by decide) rfl ?_
  clear hl
  try clear ls
  intro ls hl
  refine lv_goto (tgt := 13) hx hb dX12_spreads_111 (by decide) ?_
  refine lv_iload hx hb dX12_spreads_13 (lv_at hl 0 rfl) ?_
  refine lv_iconst (v := nI 1) hx hb dX12_spreads_15 (by decide) ?_
  refine lv_aload_n hx hb dX12_spreads_16 rfl (lv_at hl 3 rfl) ?_
  refine xget C hP 10 rfl rfl zuX12 4 (by decide) zw5_217 rfl dX12_spreads_17 ?_
  refine lv_ishl hx hb dX12_spreads_20 ?_
  refine lv_topi (nm_r (e' := nI 16) (by decide) ?_)
  refine lv_icmp_ge (tgt := 114) hx hb dX12_spreads_21 (by decide) (fun c => absurd c (by decide)) (fun _ => ?_)
  refine lv_aload_n hx hb dX12_spreads_24 rfl (lv_at hl 3 rfl) ?_
  refine lv_iload_n hx hb dX12_spreads_25 rfl (lv_at hl 2 rfl) ?_
  refine lv_iload hx hb dX12_spreads_26 (lv_at hl 0 rfl) ?_
  refine xi (wr := [(ti0, .inl (cs 1, 2001, .inr (.inl u0))), (st0, .inl (cs 0, 96048, .inl q0)), (ms, .inl (cs 0, 288, .inl freshS)), (msm, .inl (cs 0, 2, .inl (smF2 a0 (nI 1)))), (mst, .inl (cs 5, 2, .inr (.inr (.inr (.inr fst))))), (st1, .inl (cs 0, 96048, .inl (cpF freshS q1 48))), (mtb, .inl (cs 5, 2, .inr (.inr (.inr (.inr ftb))))), (tb1, .inl (cs 0, 8192, .inl (upd (fun _ => nI 0) 965 (nI 1)))), (mti, .inl (cs 6, 2, .inr (.inr (.inr (.inr fti))))), (ti1, .inl (cs 1, 2001, .inr (.inl (vp_updL u1 0 (lN (ww * 12))))))]) (xV (As := [.int (nI 3), .int (nI 13)]) (rest := []) C (c_X12_isSample_x l D cs hm ms mkp mtr mas mso mon mot man mst msm mtb mti mfr mbn mbs mde maa mab mba mbb 3 13 (by decide) (by decide)) kX12_139 hP hD [10] rfl (by decide +kernel) 0 rfl rfl rfl ⟨Nat.le_of_ble_eq_true rfl, Nat.le_of_ble_eq_true rfl⟩ rfl hl.1 rfl (Nat.le_of_ble_eq_true rfl) dX12_spreads_28 ⟨Nat.le_of_ble_eq_true rfl, Nat.le_of_ble_eq_true rfl⟩) hP hD hS hA [10] [0, 1, 2, 3, 4, 5, 6, 7, 8, 9] rfl rfl (by decide +kernel) (by decide +kernel) ?_
  clear hP hD hS
  try clear locs
  try clear H
  intro r_195 u_196 H locs hw_r_195 hP hD hS
  have hw_r_195 : r_195 = smB 3 13 := hw_r_195
  refine W.widen (k := 0) (n := 0) (Nat.le_of_ble_eq_true rfl) (Nat.le_of_ble_eq_true rfl) ?_
  replace hP : va_P D vwCl [(ti0, .inl (cs 1, 2001, .inr (.inl u0))), (st0, .inl (cs 0, 96048, .inl q0)), (ms, .inl (cs 0, 288, .inl freshS)), (msm, .inl (cs 0, 2, .inl (smF2 a0 (nI 1)))), (mst, .inl (cs 5, 2, .inr (.inr (.inr (.inr fst))))), (st1, .inl (cs 0, 96048, .inl (cpF freshS q1 48))), (mtb, .inl (cs 5, 2, .inr (.inr (.inr (.inr ftb))))), (tb1, .inl (cs 0, 8192, .inl (upd (fun _ => nI 0) 965 (nI 1)))), (mti, .inl (cs 6, 2, .inr (.inr (.inr (.inr fti))))), (ti1, .inl (cs 1, 2001, .inr (.inl (vp_updL u1 0 (lN (ww * 12)))))), (hm, .inr (12, [.ref ms, .ref mkp, .int (nI 0), .ref mtr, .int (nI 4), .int (nI 2), .int (nI 2), .int (nI 3), .int (nI 2), .int (nI 1), .ref mas, .int (nI 0), .int (nI 0), .int (nI 0), .ref mso, .ref mon, .ref mot, .ref man, .int (nI 0), .int (nI 0), .ref mst, .ref msm, .ref mtb, .ref mti, .ref mfr, .ref mbn, .ref mbs, .ref mde, .int (nI 0), .int (nI 0), .int (nI 0), .int (nI 0), .long 0, .long 0, .ref maa, .ref mab, .ref mba, .ref mbb]))] H := hP
  replace hD : va_D A [(ti0, .inl (cs 1, 2001, .inr (.inl u0))), (st0, .inl (cs 0, 96048, .inl q0)), (ms, .inl (cs 0, 288, .inl freshS)), (msm, .inl (cs 0, 2, .inl (smF2 a0 (nI 1)))), (mst, .inl (cs 5, 2, .inr (.inr (.inr (.inr fst))))), (st1, .inl (cs 0, 96048, .inl (cpF freshS q1 48))), (mtb, .inl (cs 5, 2, .inr (.inr (.inr (.inr ftb))))), (tb1, .inl (cs 0, 8192, .inl (upd (fun _ => nI 0) 965 (nI 1)))), (mti, .inl (cs 6, 2, .inr (.inr (.inr (.inr fti))))), (ti1, .inl (cs 1, 2001, .inr (.inl (vp_updL u1 0 (lN (ww * 12)))))), (hm, .inr (12, [.ref ms, .ref mkp, .int (nI 0), .ref mtr, .int (nI 4), .int (nI 2), .int (nI 2), .int (nI 3), .int (nI 2), .int (nI 1), .ref mas, .int (nI 0), .int (nI 0), .int (nI 0), .ref mso, .ref mon, .ref mot, .ref man, .int (nI 0), .int (nI 0), .ref mst, .ref msm, .ref mtb, .ref mti, .ref mfr, .ref mbn, .ref mbs, .ref mde, .int (nI 0), .int (nI 0), .int (nI 0), .int (nI 0), .long 0, .long 0, .ref maa, .ref mab, .ref mba, .ref mbb]))] := hD
  obtain rfl : r_195 = nI 0 := by rw [hw_r_195]; decide +kernel
  refine lv_if_ne (tgt := 37) hx hb dX12_spreads_31 (by decide) (fun c => absurd (by decide) c) (fun _ => ?_)
  refine lv_goto (tgt := 108) hx hb dX12_spreads_34 (by decide) ?_
  refine lv_iinc (v := nI 14) (lv' := [(4, .int (nI 14)), (5, .int (nI 0)), (3, .int (nI 3)), (0, .ref hm), (1, .int (nI 0)), (2, .int (nI 0))]) hx hb dX12_spreads_108 hl (k := 0) rfl (by decide) (by decide) rfl ?_
  clear hl
  try clear ls
  intro ls hl
  refine lv_goto (tgt := 13) hx hb dX12_spreads_111 (by decide) ?_
  refine lv_iload hx hb dX12_spreads_13 (lv_at hl 0 rfl) ?_
  refine lv_iconst (v := nI 1) hx hb dX12_spreads_15 (by decide) ?_
  refine lv_aload_n hx hb dX12_spreads_16 rfl (lv_at hl 3 rfl) ?_
  refine xget C hP 10 rfl rfl zuX12 4 (by decide) zw5_217 rfl dX12_spreads_17 ?_
  refine lv_ishl hx hb dX12_spreads_20 ?_
  refine lv_topi (nm_r (e' := nI 16) (by decide) ?_)
  refine lv_icmp_ge (tgt := 114) hx hb dX12_spreads_21 (by decide) (fun c => absurd c (by decide)) (fun _ => ?_)
  refine lv_aload_n hx hb dX12_spreads_24 rfl (lv_at hl 3 rfl) ?_
  refine lv_iload_n hx hb dX12_spreads_25 rfl (lv_at hl 2 rfl) ?_
  refine lv_iload hx hb dX12_spreads_26 (lv_at hl 0 rfl) ?_
  refine xi (wr := [(ti0, .inl (cs 1, 2001, .inr (.inl u0))), (st0, .inl (cs 0, 96048, .inl q0)), (ms, .inl (cs 0, 288, .inl freshS)), (msm, .inl (cs 0, 2, .inl (smF2 a0 (nI 1)))), (mst, .inl (cs 5, 2, .inr (.inr (.inr (.inr fst))))), (st1, .inl (cs 0, 96048, .inl (cpF freshS q1 48))), (mtb, .inl (cs 5, 2, .inr (.inr (.inr (.inr ftb))))), (tb1, .inl (cs 0, 8192, .inl (upd (fun _ => nI 0) 965 (nI 1)))), (mti, .inl (cs 6, 2, .inr (.inr (.inr (.inr fti))))), (ti1, .inl (cs 1, 2001, .inr (.inl (vp_updL u1 0 (lN (ww * 12))))))]) (xV (As := [.int (nI 3), .int (nI 14)]) (rest := []) C (c_X12_isSample_x l D cs hm ms mkp mtr mas mso mon mot man mst msm mtb mti mfr mbn mbs mde maa mab mba mbb 3 14 (by decide) (by decide)) kX12_139 hP hD [10] rfl (by decide +kernel) 0 rfl rfl rfl ⟨Nat.le_of_ble_eq_true rfl, Nat.le_of_ble_eq_true rfl⟩ rfl hl.1 rfl (Nat.le_of_ble_eq_true rfl) dX12_spreads_28 ⟨Nat.le_of_ble_eq_true rfl, Nat.le_of_ble_eq_true rfl⟩) hP hD hS hA [10] [0, 1, 2, 3, 4, 5, 6, 7, 8, 9] rfl rfl (by decide +kernel) (by decide +kernel) ?_
  clear hP hD hS
  try clear locs
  try clear H
  intro r_197 u_198 H locs hw_r_197 hP hD hS
  have hw_r_197 : r_197 = smB 3 14 := hw_r_197
  refine W.widen (k := 0) (n := 0) (Nat.le_of_ble_eq_true rfl) (Nat.le_of_ble_eq_true rfl) ?_
  replace hP : va_P D vwCl [(ti0, .inl (cs 1, 2001, .inr (.inl u0))), (st0, .inl (cs 0, 96048, .inl q0)), (ms, .inl (cs 0, 288, .inl freshS)), (msm, .inl (cs 0, 2, .inl (smF2 a0 (nI 1)))), (mst, .inl (cs 5, 2, .inr (.inr (.inr (.inr fst))))), (st1, .inl (cs 0, 96048, .inl (cpF freshS q1 48))), (mtb, .inl (cs 5, 2, .inr (.inr (.inr (.inr ftb))))), (tb1, .inl (cs 0, 8192, .inl (upd (fun _ => nI 0) 965 (nI 1)))), (mti, .inl (cs 6, 2, .inr (.inr (.inr (.inr fti))))), (ti1, .inl (cs 1, 2001, .inr (.inl (vp_updL u1 0 (lN (ww * 12)))))), (hm, .inr (12, [.ref ms, .ref mkp, .int (nI 0), .ref mtr, .int (nI 4), .int (nI 2), .int (nI 2), .int (nI 3), .int (nI 2), .int (nI 1), .ref mas, .int (nI 0), .int (nI 0), .int (nI 0), .ref mso, .ref mon, .ref mot, .ref man, .int (nI 0), .int (nI 0), .ref mst, .ref msm, .ref mtb, .ref mti, .ref mfr, .ref mbn, .ref mbs, .ref mde, .int (nI 0), .int (nI 0), .int (nI 0), .int (nI 0), .long 0, .long 0, .ref maa, .ref mab, .ref mba, .ref mbb]))] H := hP
  replace hD : va_D A [(ti0, .inl (cs 1, 2001, .inr (.inl u0))), (st0, .inl (cs 0, 96048, .inl q0)), (ms, .inl (cs 0, 288, .inl freshS)), (msm, .inl (cs 0, 2, .inl (smF2 a0 (nI 1)))), (mst, .inl (cs 5, 2, .inr (.inr (.inr (.inr fst))))), (st1, .inl (cs 0, 96048, .inl (cpF freshS q1 48))), (mtb, .inl (cs 5, 2, .inr (.inr (.inr (.inr ftb))))), (tb1, .inl (cs 0, 8192, .inl (upd (fun _ => nI 0) 965 (nI 1)))), (mti, .inl (cs 6, 2, .inr (.inr (.inr (.inr fti))))), (ti1, .inl (cs 1, 2001, .inr (.inl (vp_updL u1 0 (lN (ww * 12)))))), (hm, .inr (12, [.ref ms, .ref mkp, .int (nI 0), .ref mtr, .int (nI 4), .int (nI 2), .int (nI 2), .int (nI 3), .int (nI 2), .int (nI 1), .ref mas, .int (nI 0), .int (nI 0), .int (nI 0), .ref mso, .ref mon, .ref mot, .ref man, .int (nI 0), .int (nI 0), .ref mst, .ref msm, .ref mtb, .ref mti, .ref mfr, .ref mbn, .ref mbs, .ref mde, .int (nI 0), .int (nI 0), .int (nI 0), .int (nI 0), .long 0, .long 0, .ref maa, .ref mab, .ref mba, .ref mbb]))] := hD
  obtain rfl : r_197 = nI 0 := by rw [hw_r_197]; decide +kernel
  refine lv_if_ne (tgt := 37) hx hb dX12_spreads_31 (by decide) (fun c => absurd (by decide) c) (fun _ => ?_)
  refine lv_goto (tgt := 108) hx hb dX12_spreads_34 (by decide) ?_
  refine lv_iinc (v := nI 15) (lv' := [(4, .int (nI 15)), (5, .int (nI 0)), (3, .int (nI 3)), (0, .ref hm), (1, .int (nI 0)), (2, .int (nI 0))]) hx hb dX12_spreads_108 hl (k := 0) rfl (by decide) (by decide) rfl ?_
  clear hl
  try clear ls
  intro ls hl
  refine lv_goto (tgt := 13) hx hb dX12_spreads_111 (by decide) ?_
  refine lv_iload hx hb dX12_spreads_13 (lv_at hl 0 rfl) ?_
  refine lv_iconst (v := nI 1) hx hb dX12_spreads_15 (by decide) ?_
  refine lv_aload_n hx hb dX12_spreads_16 rfl (lv_at hl 3 rfl) ?_
  refine xget C hP 10 rfl rfl zuX12 4 (by decide) zw5_217 rfl dX12_spreads_17 ?_
  refine lv_ishl hx hb dX12_spreads_20 ?_
  refine lv_topi (nm_r (e' := nI 16) (by decide) ?_)
  refine lv_icmp_ge (tgt := 114) hx hb dX12_spreads_21 (by decide) (fun c => absurd c (by decide)) (fun _ => ?_)
  refine lv_aload_n hx hb dX12_spreads_24 rfl (lv_at hl 3 rfl) ?_
  refine lv_iload_n hx hb dX12_spreads_25 rfl (lv_at hl 2 rfl) ?_
  refine lv_iload hx hb dX12_spreads_26 (lv_at hl 0 rfl) ?_
  refine xi (wr := [(ti0, .inl (cs 1, 2001, .inr (.inl u0))), (st0, .inl (cs 0, 96048, .inl q0)), (ms, .inl (cs 0, 288, .inl freshS)), (msm, .inl (cs 0, 2, .inl (smF2 a0 (nI 1)))), (mst, .inl (cs 5, 2, .inr (.inr (.inr (.inr fst))))), (st1, .inl (cs 0, 96048, .inl (cpF freshS q1 48))), (mtb, .inl (cs 5, 2, .inr (.inr (.inr (.inr ftb))))), (tb1, .inl (cs 0, 8192, .inl (upd (fun _ => nI 0) 965 (nI 1)))), (mti, .inl (cs 6, 2, .inr (.inr (.inr (.inr fti))))), (ti1, .inl (cs 1, 2001, .inr (.inl (vp_updL u1 0 (lN (ww * 12))))))]) (xV (As := [.int (nI 3), .int (nI 15)]) (rest := []) C (c_X12_isSample_x l D cs hm ms mkp mtr mas mso mon mot man mst msm mtb mti mfr mbn mbs mde maa mab mba mbb 3 15 (by decide) (by decide)) kX12_139 hP hD [10] rfl (by decide +kernel) 0 rfl rfl rfl ⟨Nat.le_of_ble_eq_true rfl, Nat.le_of_ble_eq_true rfl⟩ rfl hl.1 rfl (Nat.le_of_ble_eq_true rfl) dX12_spreads_28 ⟨Nat.le_of_ble_eq_true rfl, Nat.le_of_ble_eq_true rfl⟩) hP hD hS hA [10] [0, 1, 2, 3, 4, 5, 6, 7, 8, 9] rfl rfl (by decide +kernel) (by decide +kernel) ?_
  clear hP hD hS
  try clear locs
  try clear H
  intro r_199 u_200 H locs hw_r_199 hP hD hS
  have hw_r_199 : r_199 = smB 3 15 := hw_r_199
  refine W.widen (k := 0) (n := 0) (Nat.le_of_ble_eq_true rfl) (Nat.le_of_ble_eq_true rfl) ?_
  replace hP : va_P D vwCl [(ti0, .inl (cs 1, 2001, .inr (.inl u0))), (st0, .inl (cs 0, 96048, .inl q0)), (ms, .inl (cs 0, 288, .inl freshS)), (msm, .inl (cs 0, 2, .inl (smF2 a0 (nI 1)))), (mst, .inl (cs 5, 2, .inr (.inr (.inr (.inr fst))))), (st1, .inl (cs 0, 96048, .inl (cpF freshS q1 48))), (mtb, .inl (cs 5, 2, .inr (.inr (.inr (.inr ftb))))), (tb1, .inl (cs 0, 8192, .inl (upd (fun _ => nI 0) 965 (nI 1)))), (mti, .inl (cs 6, 2, .inr (.inr (.inr (.inr fti))))), (ti1, .inl (cs 1, 2001, .inr (.inl (vp_updL u1 0 (lN (ww * 12)))))), (hm, .inr (12, [.ref ms, .ref mkp, .int (nI 0), .ref mtr, .int (nI 4), .int (nI 2), .int (nI 2), .int (nI 3), .int (nI 2), .int (nI 1), .ref mas, .int (nI 0), .int (nI 0), .int (nI 0), .ref mso, .ref mon, .ref mot, .ref man, .int (nI 0), .int (nI 0), .ref mst, .ref msm, .ref mtb, .ref mti, .ref mfr, .ref mbn, .ref mbs, .ref mde, .int (nI 0), .int (nI 0), .int (nI 0), .int (nI 0), .long 0, .long 0, .ref maa, .ref mab, .ref mba, .ref mbb]))] H := hP
  replace hD : va_D A [(ti0, .inl (cs 1, 2001, .inr (.inl u0))), (st0, .inl (cs 0, 96048, .inl q0)), (ms, .inl (cs 0, 288, .inl freshS)), (msm, .inl (cs 0, 2, .inl (smF2 a0 (nI 1)))), (mst, .inl (cs 5, 2, .inr (.inr (.inr (.inr fst))))), (st1, .inl (cs 0, 96048, .inl (cpF freshS q1 48))), (mtb, .inl (cs 5, 2, .inr (.inr (.inr (.inr ftb))))), (tb1, .inl (cs 0, 8192, .inl (upd (fun _ => nI 0) 965 (nI 1)))), (mti, .inl (cs 6, 2, .inr (.inr (.inr (.inr fti))))), (ti1, .inl (cs 1, 2001, .inr (.inl (vp_updL u1 0 (lN (ww * 12)))))), (hm, .inr (12, [.ref ms, .ref mkp, .int (nI 0), .ref mtr, .int (nI 4), .int (nI 2), .int (nI 2), .int (nI 3), .int (nI 2), .int (nI 1), .ref mas, .int (nI 0), .int (nI 0), .int (nI 0), .ref mso, .ref mon, .ref mot, .ref man, .int (nI 0), .int (nI 0), .ref mst, .ref msm, .ref mtb, .ref mti, .ref mfr, .ref mbn, .ref mbs, .ref mde, .int (nI 0), .int (nI 0), .int (nI 0), .int (nI 0), .long 0, .long 0, .ref maa, .ref mab, .ref mba, .ref mbb]))] := hD
  obtain rfl : r_199 = nI 0 := by rw [hw_r_199]; decide +kernel
  refine lv_if_ne (tgt := 37) hx hb dX12_spreads_31 (by decide) (fun c => absurd (by decide) c) (fun _ => ?_)
  refine lv_goto (tgt := 108) hx hb dX12_spreads_34 (by decide) ?_
  refine lv_iinc (v := nI 16) (lv' := [(4, .int (nI 16)), (5, .int (nI 0)), (3, .int (nI 3)), (0, .ref hm), (1, .int (nI 0)), (2, .int (nI 0))]) hx hb dX12_spreads_108 hl (k := 0) rfl (by decide) (by decide) rfl ?_
  clear hl
  try clear ls
  intro ls hl
  refine lv_goto (tgt := 13) hx hb dX12_spreads_111 (by decide) ?_
  refine lv_iload hx hb dX12_spreads_13 (lv_at hl 0 rfl) ?_
  refine lv_iconst (v := nI 1) hx hb dX12_spreads_15 (by decide) ?_
  refine lv_aload_n hx hb dX12_spreads_16 rfl (lv_at hl 3 rfl) ?_
  refine xget C hP 10 rfl rfl zuX12 4 (by decide) zw5_217 rfl dX12_spreads_17 ?_
  refine lv_ishl hx hb dX12_spreads_20 ?_
  refine lv_topi (nm_r (e' := nI 16) (by decide) ?_)
  refine lv_icmp_ge (tgt := 114) hx hb dX12_spreads_21 (by decide) (fun _ => ?_) (fun c => absurd (by decide) c)
  refine lv_iinc (v := nI 4) (lv' := [(3, .int (nI 4)), (4, .int (nI 16)), (5, .int (nI 0)), (0, .ref hm), (1, .int (nI 0)), (2, .int (nI 0))]) hx hb dX12_spreads_114 hl (k := 2) rfl (by decide) (by decide) rfl ?_
  clear hl
  try clear ls
  intro ls hl
  refine lv_goto (tgt := 2) hx hb dX12_spreads_117 (by decide) ?_
  refine lv_iload_n hx hb dX12_spreads_2 rfl (lv_at hl 0 rfl) ?_
  refine lv_aload_n hx hb dX12_spreads_3 rfl (lv_at hl 3 rfl) ?_
  refine xget C hP 10 rfl rfl zuX12 4 (by decide) zw5_217 rfl dX12_spreads_4 ?_
  refine lv_icmp_ge (tgt := 120) hx hb dX12_spreads_7 (by decide) (fun _ => ?_) (fun c => absurd (by decide) c)
  refine lv_iconst (v := nI 1) hx hb dX12_spreads_120 (by decide) ?_
  exact xreti C (⟨(cpF freshS q1 48), (vp_updL u1 0 (lN (ww * 12)))⟩) (⟨rfl, fun j hj => cpF_lt hj, upL_0 _ _⟩) (xP_map hP [10, 2, 3, 4, 1, 5, 6, 7, 8, 0, 9] rfl) (hD.sub [10, 2, 3, 4, 1, 5, 6, 7, 8, 0, 9] (by decide +kernel) rfl) hS (Nat.le_of_ble_eq_true rfl) (Nat.le_of_ble_eq_true rfl) (by decide) dX12_spreads_121

set_option maxHeartbeats 4000000 in
set_option maxRecDepth 100000 in
theorem c_X12_spreads_1 (l : Launch) (D : va_G) (cs : Nat → ClassId) (hm ms mkp mtr mas mso mon mot man mst msm mtb mti mfr mbn mbs mde maa mab mba mbb : Nat) (st0 st1 tb0 ti0 ti1 : Nat) (fst ftb fti : Nat → Option Nat) (a0 b0 : Int32) (q0 q1 : Nat → Int32) (u0 u1 : Nat → Int64) (ww : Nat) (hf0 : fst 0 = some st0) (hf1 : fst 1 = some st1) (hg : ftb 0 = some tb0) (ht0 : fti 0 = some ti0) (ht1 : fti 1 = some ti1) (hq : ∀ j, j < 48 → q1 j = freshS j) (hw : u1 0 = lN ww) : xMet l D cs yX12_spreads cX12_spreads 6 (some .boolean) ({ frames := 3, cells := 0, slots := 0, locals := 65 } : Room) [.ref hm, .int (nI 1), .int (nI 0)] [(hm, .inr (12, [.ref ms, .ref mkp, .int (nI 0), .ref mtr, .int (nI 4), .int (nI 2), .int (nI 2), .int (nI 3), .int (nI 2), .int (nI 1), .ref mas, .int (nI 0), .int (nI 0), .int (nI 0), .ref mso, .ref mon, .ref mot, .ref man, .int (nI 0), .int (nI 0), .ref mst, .ref msm, .ref mtb, .ref mti, .ref mfr, .ref mbn, .ref mbs, .ref mde, .int (nI 0), .int (nI 0), .int (nI 0), .int (nI 0), .long 0, .long 0, .ref maa, .ref mab, .ref mba, .ref mbb])), (ms, .inl (cs 0, 288, .inl freshS)), (msm, .inl (cs 0, 2, .inl (smF2 (nI 0) b0))), (mst, .inl (cs 5, 2, .inr (.inr (.inr (.inr fst))))), (st1, .inl (cs 0, 96048, .inl q1)), (st0, .inl (cs 0, 96048, .inl q0)), (mtb, .inl (cs 5, 2, .inr (.inr (.inr (.inr ftb))))), (tb0, .inl (cs 0, 8192, .inl (fun _ => nI 0))), (mti, .inl (cs 6, 2, .inr (.inr (.inr (.inr fti))))), (ti1, .inl (cs 1, 2001, .inr (.inl u1))), (ti0, .inl (cs 1, 2001, .inr (.inl u0)))] (xQi D (fun (r : Int32) (u : (Nat → Int32) × (Nat → Int64)) => match u with | (qz, uz) => r = nI 1 ∧ (∀ j, j < 48 → qz j = freshS j) ∧ uz 0 = lN (ww * 12)) (fun (u : (Nat → Int32) × (Nat → Int64)) => match u with | (qz, uz) => [(hm, .inr (12, [.ref ms, .ref mkp, .int (nI 0), .ref mtr, .int (nI 4), .int (nI 2), .int (nI 2), .int (nI 3), .int (nI 2), .int (nI 1), .ref mas, .int (nI 0), .int (nI 0), .int (nI 0), .ref mso, .ref mon, .ref mot, .ref man, .int (nI 0), .int (nI 0), .ref mst, .ref msm, .ref mtb, .ref mti, .ref mfr, .ref mbn, .ref mbs, .ref mde, .int (nI 0), .int (nI 0), .int (nI 0), .int (nI 0), .long 0, .long 0, .ref maa, .ref mab, .ref mba, .ref mbb])), (ms, .inl (cs 0, 288, .inl freshS)), (msm, .inl (cs 0, 2, .inl (smF2 (nI 1) b0))), (mst, .inl (cs 5, 2, .inr (.inr (.inr (.inr fst))))), (st1, .inl (cs 0, 96048, .inl q1)), (st0, .inl (cs 0, 96048, .inl qz)), (mtb, .inl (cs 5, 2, .inr (.inr (.inr (.inr ftb))))), (tb0, .inl (cs 0, 8192, .inl (upd (fun _ => nI 0) 965 (nI 1)))), (mti, .inl (cs 6, 2, .inr (.inr (.inr (.inr fti))))), (ti1, .inl (cs 1, 2001, .inr (.inl u1))), (ti0, .inl (cs 1, 2001, .inr (.inl uz)))])) := by
  refine xMet.intro (by decide) (Nat.le_of_ble_eq_true rfl) ?_
  intro p e s m args below meth c A ls C hP hD hS hl
  have hx := C.1
  have hb := C.2.1
  have hz := C.2.2.2.2.1
  have hown := C.2.2.2.1
  have hA := C.2.2.2.2.2.2.2.2.2
  have hAO := C.2.2.2.2.2.2.2.2.1.2.2
  replace hl : lv_has ls 6 [(0, .ref hm), (1, .int (nI 1)), (2, .int (nI 0))] := hl
  obtain ⟨H, hH⟩ : ∃ H, H = s.heap := ⟨_, rfl⟩
  replace hP : va_P D vwCl [(hm, .inr (12, [.ref ms, .ref mkp, .int (nI 0), .ref mtr, .int (nI 4), .int (nI 2), .int (nI 2), .int (nI 3), .int (nI 2), .int (nI 1), .ref mas, .int (nI 0), .int (nI 0), .int (nI 0), .ref mso, .ref mon, .ref mot, .ref man, .int (nI 0), .int (nI 0), .ref mst, .ref msm, .ref mtb, .ref mti, .ref mfr, .ref mbn, .ref mbs, .ref mde, .int (nI 0), .int (nI 0), .int (nI 0), .int (nI 0), .long 0, .long 0, .ref maa, .ref mab, .ref mba, .ref mbb])), (ms, .inl (cs 0, 288, .inl freshS)), (msm, .inl (cs 0, 2, .inl (smF2 (nI 0) b0))), (mst, .inl (cs 5, 2, .inr (.inr (.inr (.inr fst))))), (st1, .inl (cs 0, 96048, .inl q1)), (st0, .inl (cs 0, 96048, .inl q0)), (mtb, .inl (cs 5, 2, .inr (.inr (.inr (.inr ftb))))), (tb0, .inl (cs 0, 8192, .inl (fun _ => nI 0))), (mti, .inl (cs 6, 2, .inr (.inr (.inr (.inr fti))))), (ti1, .inl (cs 1, 2001, .inr (.inl u1))), (ti0, .inl (cs 1, 2001, .inr (.inl u0)))] H := by rw [hH]; exact hP
  replace hS : va_S A s.heap H [] := by rw [hH]; exact hS
  obtain ⟨locs, hlocs⟩ : ∃ z : List Loc, z = [] := ⟨_, rfl⟩
  rw [← hlocs] at hS
  suffices hW : W p l e ({ frames := 3, cells := 0, slots := 0, locals := 65 } : Room) s m args below meth c H locs 0 0 (MQ below ((xQi D (fun (r : Int32) (u : (Nat → Int32) × (Nat → Int64)) => match u with | (qz, uz) => r = nI 1 ∧ (∀ j, j < 48 → qz j = freshS j) ∧ uz 0 = lN (ww * 12)) (fun (u : (Nat → Int32) × (Nat → Int64)) => match u with | (qz, uz) => [(hm, .inr (12, [.ref ms, .ref mkp, .int (nI 0), .ref mtr, .int (nI 4), .int (nI 2), .int (nI 2), .int (nI 3), .int (nI 2), .int (nI 1), .ref mas, .int (nI 0), .int (nI 0), .int (nI 0), .ref mso, .ref mon, .ref mot, .ref man, .int (nI 0), .int (nI 0), .ref mst, .ref msm, .ref mtb, .ref mti, .ref mfr, .ref mbn, .ref mbs, .ref mde, .int (nI 0), .int (nI 0), .int (nI 0), .int (nI 0), .long 0, .long 0, .ref maa, .ref mab, .ref mba, .ref mbb])), (ms, .inl (cs 0, 288, .inl freshS)), (msm, .inl (cs 0, 2, .inl (smF2 (nI 1) b0))), (mst, .inl (cs 5, 2, .inr (.inr (.inr (.inr fst))))), (st1, .inl (cs 0, 96048, .inl q1)), (st0, .inl (cs 0, 96048, .inl qz)), (mtb, .inl (cs 5, 2, .inr (.inr (.inr (.inr ftb))))), (tb0, .inl (cs 0, 8192, .inl (upd (fun _ => nI 0) 965 (nI 1)))), (mti, .inl (cs 6, 2, .inr (.inr (.inr (.inr fti))))), (ti1, .inl (cs 1, 2001, .inr (.inl u1))), (ti0, .inl (cs 1, 2001, .inr (.inl uz)))])) A) args s 0 0 A) (F0 m 0 ls []) by rw [hlocs, hH] at hW; exact hW
  clear hH hlocs
  refine lv_iconst (v := nI 0) hx hb dX12_spreads_0 (by decide) ?_
  refine lv_istore_n (lv' := [(3, .int (nI 0)), (0, .ref hm), (1, .int (nI 1)), (2, .int (nI 0))]) hx hb dX12_spreads_1 rfl hl (by decide) rfl ?_
  clear hl
  try clear ls
  intro ls hl
  refine lv_iload_n hx hb dX12_spreads_2 rfl (lv_at hl 0 rfl) ?_
  refine lv_aload_n hx hb dX12_spreads_3 rfl (lv_at hl 1 rfl) ?_
  refine xget C hP 0 rfl rfl zuX12 4 (by decide) zw5_217 rfl dX12_spreads_4 ?_
  refine lv_icmp_ge (tgt := 120) hx hb dX12_spreads_7 (by decide) (fun c => absurd c (by decide)) (fun _ => ?_)
  refine lv_iconst (v := nI 0) hx hb dX12_spreads_10 (by decide) ?_
  refine lv_istore (lv' := [(4, .int (nI 0)), (3, .int (nI 0)), (0, .ref hm), (1, .int (nI 1)), (2, .int (nI 0))]) hx hb dX12_spreads_11 hl (by decide) rfl ?_
  clear hl
  try clear ls
  intro ls hl
  refine lv_iload hx hb dX12_spreads_13 (lv_at hl 0 rfl) ?_
  refine lv_iconst (v := nI 1) hx hb dX12_spreads_15 (by decide) ?_
  refine lv_aload_n hx hb dX12_spreads_16 rfl (lv_at hl 2 rfl) ?_
  refine xget C hP 0 rfl rfl zuX12 4 (by decide) zw5_217 rfl dX12_spreads_17 ?_
  refine lv_ishl hx hb dX12_spreads_20 ?_
  refine lv_topi (nm_r (e' := nI 16) (by decide) ?_)
  refine lv_icmp_ge (tgt := 114) hx hb dX12_spreads_21 (by decide) (fun c => absurd c (by decide)) (fun _ => ?_)
  refine lv_aload_n hx hb dX12_spreads_24 rfl (lv_at hl 2 rfl) ?_
  refine lv_iload_n hx hb dX12_spreads_25 rfl (lv_at hl 1 rfl) ?_
  refine lv_iload hx hb dX12_spreads_26 (lv_at hl 0 rfl) ?_
  refine xi (wr := [(ms, .inl (cs 0, 288, .inl freshS)), (msm, .inl (cs 0, 2, .inl (smF2 (nI 0) b0))), (mst, .inl (cs 5, 2, .inr (.inr (.inr (.inr fst))))), (st1, .inl (cs 0, 96048, .inl q1)), (st0, .inl (cs 0, 96048, .inl q0)), (mtb, .inl (cs 5, 2, .inr (.inr (.inr (.inr ftb))))), (tb0, .inl (cs 0, 8192, .inl (fun _ => nI 0))), (mti, .inl (cs 6, 2, .inr (.inr (.inr (.inr fti))))), (ti1, .inl (cs 1, 2001, .inr (.inl u1))), (ti0, .inl (cs 1, 2001, .inr (.inl u0)))]) (xV (As := [.int (nI 0), .int (nI 0)]) (rest := []) C (c_X12_isSample_x l D cs hm ms mkp mtr mas mso mon mot man mst msm mtb mti mfr mbn mbs mde maa mab mba mbb 0 0 (by decide) (by decide)) kX12_139 hP hD [0] rfl (by decide +kernel) 0 rfl rfl rfl ⟨Nat.le_of_ble_eq_true rfl, Nat.le_of_ble_eq_true rfl⟩ rfl hl.1 rfl (Nat.le_of_ble_eq_true rfl) dX12_spreads_28 ⟨Nat.le_of_ble_eq_true rfl, Nat.le_of_ble_eq_true rfl⟩) hP hD hS hA [0] [1, 2, 3, 4, 5, 6, 7, 8, 9, 10] rfl rfl (by decide +kernel) (by decide +kernel) ?_
  clear hP hD hS
  try clear locs
  try clear H
  intro r_1 u_2 H locs hw_r_1 hP hD hS
  have hw_r_1 : r_1 = smB 0 0 := hw_r_1
  refine W.widen (k := 0) (n := 0) (Nat.le_of_ble_eq_true rfl) (Nat.le_of_ble_eq_true rfl) ?_
  replace hP : va_P D vwCl [(ms, .inl (cs 0, 288, .inl freshS)), (msm, .inl (cs 0, 2, .inl (smF2 (nI 0) b0))), (mst, .inl (cs 5, 2, .inr (.inr (.inr (.inr fst))))), (st1, .inl (cs 0, 96048, .inl q1)), (st0, .inl (cs 0, 96048, .inl q0)), (mtb, .inl (cs 5, 2, .inr (.inr (.inr (.inr ftb))))), (tb0, .inl (cs 0, 8192, .inl (fun _ => nI 0))), (mti, .inl (cs 6, 2, .inr (.inr (.inr (.inr fti))))), (ti1, .inl (cs 1, 2001, .inr (.inl u1))), (ti0, .inl (cs 1, 2001, .inr (.inl u0))), (hm, .inr (12, [.ref ms, .ref mkp, .int (nI 0), .ref mtr, .int (nI 4), .int (nI 2), .int (nI 2), .int (nI 3), .int (nI 2), .int (nI 1), .ref mas, .int (nI 0), .int (nI 0), .int (nI 0), .ref mso, .ref mon, .ref mot, .ref man, .int (nI 0), .int (nI 0), .ref mst, .ref msm, .ref mtb, .ref mti, .ref mfr, .ref mbn, .ref mbs, .ref mde, .int (nI 0), .int (nI 0), .int (nI 0), .int (nI 0), .long 0, .long 0, .ref maa, .ref mab, .ref mba, .ref mbb]))] H := hP
  replace hD : va_D A [(ms, .inl (cs 0, 288, .inl freshS)), (msm, .inl (cs 0, 2, .inl (smF2 (nI 0) b0))), (mst, .inl (cs 5, 2, .inr (.inr (.inr (.inr fst))))), (st1, .inl (cs 0, 96048, .inl q1)), (st0, .inl (cs 0, 96048, .inl q0)), (mtb, .inl (cs 5, 2, .inr (.inr (.inr (.inr ftb))))), (tb0, .inl (cs 0, 8192, .inl (fun _ => nI 0))), (mti, .inl (cs 6, 2, .inr (.inr (.inr (.inr fti))))), (ti1, .inl (cs 1, 2001, .inr (.inl u1))), (ti0, .inl (cs 1, 2001, .inr (.inl u0))), (hm, .inr (12, [.ref ms, .ref mkp, .int (nI 0), .ref mtr, .int (nI 4), .int (nI 2), .int (nI 2), .int (nI 3), .int (nI 2), .int (nI 1), .ref mas, .int (nI 0), .int (nI 0), .int (nI 0), .ref mso, .ref mon, .ref mot, .ref man, .int (nI 0), .int (nI 0), .ref mst, .ref msm, .ref mtb, .ref mti, .ref mfr, .ref mbn, .ref mbs, .ref mde, .int (nI 0), .int (nI 0), .int (nI 0), .int (nI 0), .long 0, .long 0, .ref maa, .ref mab, .ref mba, .ref mbb]))] := hD
  obtain rfl : r_1 = nI 0 := by rw [hw_r_1]; decide +kernel
  refine lv_if_ne (tgt := 37) hx hb dX12_spreads_31 (by decide) (fun c => absurd (by decide) c) (fun _ => ?_)
  refine lv_goto (tgt := 108) hx hb dX12_spreads_34 (by decide) ?_
  refine lv_iinc (v := nI 1) (lv' := [(4, .int (nI 1)), (3, .int (nI 0)), (0, .ref hm), (1, .int (nI 1)), (2, .int (nI 0))]) hx hb dX12_spreads_108 hl (k := 0) rfl (by decide) (by decide) rfl ?_
  clear hl
  try clear ls
  intro ls hl
  refine lv_goto (tgt := 13) hx hb dX12_spreads_111 (by decide) ?_
  refine lv_iload hx hb dX12_spreads_13 (lv_at hl 0 rfl) ?_
  refine lv_iconst (v := nI 1) hx hb dX12_spreads_15 (by decide) ?_
  refine lv_aload_n hx hb dX12_spreads_16 rfl (lv_at hl 2 rfl) ?_
  refine xget C hP 10 rfl rfl zuX12 4 (by decide) zw5_217 rfl dX12_spreads_17 ?_
  refine lv_ishl hx hb dX12_spreads_20 ?_
  refine lv_topi (nm_r (e' := nI 16) (by decide) ?_)
  refine lv_icmp_ge (tgt := 114) hx hb dX12_spreads_21 (by decide) (fun c => absurd c (by decide)) (fun _ => ?_)
  refine lv_aload_n hx hb dX12_spreads_24 rfl (lv_at hl 2 rfl) ?_
  refine lv_iload_n hx hb dX12_spreads_25 rfl (lv_at hl 1 rfl) ?_
  refine lv_iload hx hb dX12_spreads_26 (lv_at hl 0 rfl) ?_
  refine xi (wr := [(ms, .inl (cs 0, 288, .inl freshS)), (msm, .inl (cs 0, 2, .inl (smF2 (nI 0) b0))), (mst, .inl (cs 5, 2, .inr (.inr (.inr (.inr fst))))), (st1, .inl (cs 0, 96048, .inl q1)), (st0, .inl (cs 0, 96048, .inl q0)), (mtb, .inl (cs 5, 2, .inr (.inr (.inr (.inr ftb))))), (tb0, .inl (cs 0, 8192, .inl (fun _ => nI 0))), (mti, .inl (cs 6, 2, .inr (.inr (.inr (.inr fti))))), (ti1, .inl (cs 1, 2001, .inr (.inl u1))), (ti0, .inl (cs 1, 2001, .inr (.inl u0)))]) (xV (As := [.int (nI 0), .int (nI 1)]) (rest := []) C (c_X12_isSample_x l D cs hm ms mkp mtr mas mso mon mot man mst msm mtb mti mfr mbn mbs mde maa mab mba mbb 0 1 (by decide) (by decide)) kX12_139 hP hD [10] rfl (by decide +kernel) 0 rfl rfl rfl ⟨Nat.le_of_ble_eq_true rfl, Nat.le_of_ble_eq_true rfl⟩ rfl hl.1 rfl (Nat.le_of_ble_eq_true rfl) dX12_spreads_28 ⟨Nat.le_of_ble_eq_true rfl, Nat.le_of_ble_eq_true rfl⟩) hP hD hS hA [10] [0, 1, 2, 3, 4, 5, 6, 7, 8, 9] rfl rfl (by decide +kernel) (by decide +kernel) ?_
  clear hP hD hS
  try clear locs
  try clear H
  intro r_3 u_4 H locs hw_r_3 hP hD hS
  have hw_r_3 : r_3 = smB 0 1 := hw_r_3
  refine W.widen (k := 0) (n := 0) (Nat.le_of_ble_eq_true rfl) (Nat.le_of_ble_eq_true rfl) ?_
  replace hP : va_P D vwCl [(ms, .inl (cs 0, 288, .inl freshS)), (msm, .inl (cs 0, 2, .inl (smF2 (nI 0) b0))), (mst, .inl (cs 5, 2, .inr (.inr (.inr (.inr fst))))), (st1, .inl (cs 0, 96048, .inl q1)), (st0, .inl (cs 0, 96048, .inl q0)), (mtb, .inl (cs 5, 2, .inr (.inr (.inr (.inr ftb))))), (tb0, .inl (cs 0, 8192, .inl (fun _ => nI 0))), (mti, .inl (cs 6, 2, .inr (.inr (.inr (.inr fti))))), (ti1, .inl (cs 1, 2001, .inr (.inl u1))), (ti0, .inl (cs 1, 2001, .inr (.inl u0))), (hm, .inr (12, [.ref ms, .ref mkp, .int (nI 0), .ref mtr, .int (nI 4), .int (nI 2), .int (nI 2), .int (nI 3), .int (nI 2), .int (nI 1), .ref mas, .int (nI 0), .int (nI 0), .int (nI 0), .ref mso, .ref mon, .ref mot, .ref man, .int (nI 0), .int (nI 0), .ref mst, .ref msm, .ref mtb, .ref mti, .ref mfr, .ref mbn, .ref mbs, .ref mde, .int (nI 0), .int (nI 0), .int (nI 0), .int (nI 0), .long 0, .long 0, .ref maa, .ref mab, .ref mba, .ref mbb]))] H := hP
  replace hD : va_D A [(ms, .inl (cs 0, 288, .inl freshS)), (msm, .inl (cs 0, 2, .inl (smF2 (nI 0) b0))), (mst, .inl (cs 5, 2, .inr (.inr (.inr (.inr fst))))), (st1, .inl (cs 0, 96048, .inl q1)), (st0, .inl (cs 0, 96048, .inl q0)), (mtb, .inl (cs 5, 2, .inr (.inr (.inr (.inr ftb))))), (tb0, .inl (cs 0, 8192, .inl (fun _ => nI 0))), (mti, .inl (cs 6, 2, .inr (.inr (.inr (.inr fti))))), (ti1, .inl (cs 1, 2001, .inr (.inl u1))), (ti0, .inl (cs 1, 2001, .inr (.inl u0))), (hm, .inr (12, [.ref ms, .ref mkp, .int (nI 0), .ref mtr, .int (nI 4), .int (nI 2), .int (nI 2), .int (nI 3), .int (nI 2), .int (nI 1), .ref mas, .int (nI 0), .int (nI 0), .int (nI 0), .ref mso, .ref mon, .ref mot, .ref man, .int (nI 0), .int (nI 0), .ref mst, .ref msm, .ref mtb, .ref mti, .ref mfr, .ref mbn, .ref mbs, .ref mde, .int (nI 0), .int (nI 0), .int (nI 0), .int (nI 0), .long 0, .long 0, .ref maa, .ref mab, .ref mba, .ref mbb]))] := hD
  obtain rfl : r_3 = nI 0 := by rw [hw_r_3]; decide +kernel
  refine lv_if_ne (tgt := 37) hx hb dX12_spreads_31 (by decide) (fun c => absurd (by decide) c) (fun _ => ?_)
  refine lv_goto (tgt := 108) hx hb dX12_spreads_34 (by decide) ?_
  refine lv_iinc (v := nI 2) (lv' := [(4, .int (nI 2)), (3, .int (nI 0)), (0, .ref hm), (1, .int (nI 1)), (2, .int (nI 0))]) hx hb dX12_spreads_108 hl (k := 0) rfl (by decide) (by decide) rfl ?_
  clear hl
  try clear ls
  intro ls hl
  refine lv_goto (tgt := 13) hx hb dX12_spreads_111 (by decide) ?_
  refine lv_iload hx hb dX12_spreads_13 (lv_at hl 0 rfl) ?_
  refine lv_iconst (v := nI 1) hx hb dX12_spreads_15 (by decide) ?_
  refine lv_aload_n hx hb dX12_spreads_16 rfl (lv_at hl 2 rfl) ?_
  refine xget C hP 10 rfl rfl zuX12 4 (by decide) zw5_217 rfl dX12_spreads_17 ?_
  refine lv_ishl hx hb dX12_spreads_20 ?_
  refine lv_topi (nm_r (e' := nI 16) (by decide) ?_)
  refine lv_icmp_ge (tgt := 114) hx hb dX12_spreads_21 (by decide) (fun c => absurd c (by decide)) (fun _ => ?_)
  refine lv_aload_n hx hb dX12_spreads_24 rfl (lv_at hl 2 rfl) ?_
  refine lv_iload_n hx hb dX12_spreads_25 rfl (lv_at hl 1 rfl) ?_
  refine lv_iload hx hb dX12_spreads_26 (lv_at hl 0 rfl) ?_
  refine xi (wr := [(ms, .inl (cs 0, 288, .inl freshS)), (msm, .inl (cs 0, 2, .inl (smF2 (nI 0) b0))), (mst, .inl (cs 5, 2, .inr (.inr (.inr (.inr fst))))), (st1, .inl (cs 0, 96048, .inl q1)), (st0, .inl (cs 0, 96048, .inl q0)), (mtb, .inl (cs 5, 2, .inr (.inr (.inr (.inr ftb))))), (tb0, .inl (cs 0, 8192, .inl (fun _ => nI 0))), (mti, .inl (cs 6, 2, .inr (.inr (.inr (.inr fti))))), (ti1, .inl (cs 1, 2001, .inr (.inl u1))), (ti0, .inl (cs 1, 2001, .inr (.inl u0)))]) (xV (As := [.int (nI 0), .int (nI 2)]) (rest := []) C (c_X12_isSample_x l D cs hm ms mkp mtr mas mso mon mot man mst msm mtb mti mfr mbn mbs mde maa mab mba mbb 0 2 (by decide) (by decide)) kX12_139 hP hD [10] rfl (by decide +kernel) 0 rfl rfl rfl ⟨Nat.le_of_ble_eq_true rfl, Nat.le_of_ble_eq_true rfl⟩ rfl hl.1 rfl (Nat.le_of_ble_eq_true rfl) dX12_spreads_28 ⟨Nat.le_of_ble_eq_true rfl, Nat.le_of_ble_eq_true rfl⟩) hP hD hS hA [10] [0, 1, 2, 3, 4, 5, 6, 7, 8, 9] rfl rfl (by decide +kernel) (by decide +kernel) ?_
  clear hP hD hS
  try clear locs
  try clear H
  intro r_5 u_6 H locs hw_r_5 hP hD hS
  have hw_r_5 : r_5 = smB 0 2 := hw_r_5
  refine W.widen (k := 0) (n := 0) (Nat.le_of_ble_eq_true rfl) (Nat.le_of_ble_eq_true rfl) ?_
  replace hP : va_P D vwCl [(ms, .inl (cs 0, 288, .inl freshS)), (msm, .inl (cs 0, 2, .inl (smF2 (nI 0) b0))), (mst, .inl (cs 5, 2, .inr (.inr (.inr (.inr fst))))), (st1, .inl (cs 0, 96048, .inl q1)), (st0, .inl (cs 0, 96048, .inl q0)), (mtb, .inl (cs 5, 2, .inr (.inr (.inr (.inr ftb))))), (tb0, .inl (cs 0, 8192, .inl (fun _ => nI 0))), (mti, .inl (cs 6, 2, .inr (.inr (.inr (.inr fti))))), (ti1, .inl (cs 1, 2001, .inr (.inl u1))), (ti0, .inl (cs 1, 2001, .inr (.inl u0))), (hm, .inr (12, [.ref ms, .ref mkp, .int (nI 0), .ref mtr, .int (nI 4), .int (nI 2), .int (nI 2), .int (nI 3), .int (nI 2), .int (nI 1), .ref mas, .int (nI 0), .int (nI 0), .int (nI 0), .ref mso, .ref mon, .ref mot, .ref man, .int (nI 0), .int (nI 0), .ref mst, .ref msm, .ref mtb, .ref mti, .ref mfr, .ref mbn, .ref mbs, .ref mde, .int (nI 0), .int (nI 0), .int (nI 0), .int (nI 0), .long 0, .long 0, .ref maa, .ref mab, .ref mba, .ref mbb]))] H := hP
  replace hD : va_D A [(ms, .inl (cs 0, 288, .inl freshS)), (msm, .inl (cs 0, 2, .inl (smF2 (nI 0) b0))), (mst, .inl (cs 5, 2, .inr (.inr (.inr (.inr fst))))), (st1, .inl (cs 0, 96048, .inl q1)), (st0, .inl (cs 0, 96048, .inl q0)), (mtb, .inl (cs 5, 2, .inr (.inr (.inr (.inr ftb))))), (tb0, .inl (cs 0, 8192, .inl (fun _ => nI 0))), (mti, .inl (cs 6, 2, .inr (.inr (.inr (.inr fti))))), (ti1, .inl (cs 1, 2001, .inr (.inl u1))), (ti0, .inl (cs 1, 2001, .inr (.inl u0))), (hm, .inr (12, [.ref ms, .ref mkp, .int (nI 0), .ref mtr, .int (nI 4), .int (nI 2), .int (nI 2), .int (nI 3), .int (nI 2), .int (nI 1), .ref mas, .int (nI 0), .int (nI 0), .int (nI 0), .ref mso, .ref mon, .ref mot, .ref man, .int (nI 0), .int (nI 0), .ref mst, .ref msm, .ref mtb, .ref mti, .ref mfr, .ref mbn, .ref mbs, .ref mde, .int (nI 0), .int (nI 0), .int (nI 0), .int (nI 0), .long 0, .long 0, .ref maa, .ref mab, .ref mba, .ref mbb]))] := hD
  obtain rfl : r_5 = nI 0 := by rw [hw_r_5]; decide +kernel
  refine lv_if_ne (tgt := 37) hx hb dX12_spreads_31 (by decide) (fun c => absurd (by decide) c) (fun _ => ?_)
  refine lv_goto (tgt := 108) hx hb dX12_spreads_34 (by decide) ?_
  refine lv_iinc (v := nI 3) (lv' := [(4, .int (nI 3)), (3, .int (nI 0)), (0, .ref hm), (1, .int (nI 1)), (2, .int (nI 0))]) hx hb dX12_spreads_108 hl (k := 0) rfl (by decide) (by decide) rfl ?_
  clear hl
  try clear ls
  intro ls hl
  refine lv_goto (tgt := 13) hx hb dX12_spreads_111 (by decide) ?_
  refine lv_iload hx hb dX12_spreads_13 (lv_at hl 0 rfl) ?_
  refine lv_iconst (v := nI 1) hx hb dX12_spreads_15 (by decide) ?_
  refine lv_aload_n hx hb dX12_spreads_16 rfl (lv_at hl 2 rfl) ?_
  refine xget C hP 10 rfl rfl zuX12 4 (by decide) zw5_217 rfl dX12_spreads_17 ?_
  refine lv_ishl hx hb dX12_spreads_20 ?_
  refine lv_topi (nm_r (e' := nI 16) (by decide) ?_)
  refine lv_icmp_ge (tgt := 114) hx hb dX12_spreads_21 (by decide) (fun c => absurd c (by decide)) (fun _ => ?_)
  refine lv_aload_n hx hb dX12_spreads_24 rfl (lv_at hl 2 rfl) ?_
  refine lv_iload_n hx hb dX12_spreads_25 rfl (lv_at hl 1 rfl) ?_
  refine lv_iload hx hb dX12_spreads_26 (lv_at hl 0 rfl) ?_
  refine xi (wr := [(ms, .inl (cs 0, 288, .inl freshS)), (msm, .inl (cs 0, 2, .inl (smF2 (nI 0) b0))), (mst, .inl (cs 5, 2, .inr (.inr (.inr (.inr fst))))), (st1, .inl (cs 0, 96048, .inl q1)), (st0, .inl (cs 0, 96048, .inl q0)), (mtb, .inl (cs 5, 2, .inr (.inr (.inr (.inr ftb))))), (tb0, .inl (cs 0, 8192, .inl (fun _ => nI 0))), (mti, .inl (cs 6, 2, .inr (.inr (.inr (.inr fti))))), (ti1, .inl (cs 1, 2001, .inr (.inl u1))), (ti0, .inl (cs 1, 2001, .inr (.inl u0)))]) (xV (As := [.int (nI 0), .int (nI 3)]) (rest := []) C (c_X12_isSample_x l D cs hm ms mkp mtr mas mso mon mot man mst msm mtb mti mfr mbn mbs mde maa mab mba mbb 0 3 (by decide) (by decide)) kX12_139 hP hD [10] rfl (by decide +kernel) 0 rfl rfl rfl ⟨Nat.le_of_ble_eq_true rfl, Nat.le_of_ble_eq_true rfl⟩ rfl hl.1 rfl (Nat.le_of_ble_eq_true rfl) dX12_spreads_28 ⟨Nat.le_of_ble_eq_true rfl, Nat.le_of_ble_eq_true rfl⟩) hP hD hS hA [10] [0, 1, 2, 3, 4, 5, 6, 7, 8, 9] rfl rfl (by decide +kernel) (by decide +kernel) ?_
  clear hP hD hS
  try clear locs
  try clear H
  intro r_7 u_8 H locs hw_r_7 hP hD hS
  have hw_r_7 : r_7 = smB 0 3 := hw_r_7
  refine W.widen (k := 0) (n := 0) (Nat.le_of_ble_eq_true rfl) (Nat.le_of_ble_eq_true rfl) ?_
  replace hP : va_P D vwCl [(ms, .inl (cs 0, 288, .inl freshS)), (msm, .inl (cs 0, 2, .inl (smF2 (nI 0) b0))), (mst, .inl (cs 5, 2, .inr (.inr (.inr (.inr fst))))), (st1, .inl (cs 0, 96048, .inl q1)), (st0, .inl (cs 0, 96048, .inl q0)), (mtb, .inl (cs 5, 2, .inr (.inr (.inr (.inr ftb))))), (tb0, .inl (cs 0, 8192, .inl (fun _ => nI 0))), (mti, .inl (cs 6, 2, .inr (.inr (.inr (.inr fti))))), (ti1, .inl (cs 1, 2001, .inr (.inl u1))), (ti0, .inl (cs 1, 2001, .inr (.inl u0))), (hm, .inr (12, [.ref ms, .ref mkp, .int (nI 0), .ref mtr, .int (nI 4), .int (nI 2), .int (nI 2), .int (nI 3), .int (nI 2), .int (nI 1), .ref mas, .int (nI 0), .int (nI 0), .int (nI 0), .ref mso, .ref mon, .ref mot, .ref man, .int (nI 0), .int (nI 0), .ref mst, .ref msm, .ref mtb, .ref mti, .ref mfr, .ref mbn, .ref mbs, .ref mde, .int (nI 0), .int (nI 0), .int (nI 0), .int (nI 0), .long 0, .long 0, .ref maa, .ref mab, .ref mba, .ref mbb]))] H := hP
  replace hD : va_D A [(ms, .inl (cs 0, 288, .inl freshS)), (msm, .inl (cs 0, 2, .inl (smF2 (nI 0) b0))), (mst, .inl (cs 5, 2, .inr (.inr (.inr (.inr fst))))), (st1, .inl (cs 0, 96048, .inl q1)), (st0, .inl (cs 0, 96048, .inl q0)), (mtb, .inl (cs 5, 2, .inr (.inr (.inr (.inr ftb))))), (tb0, .inl (cs 0, 8192, .inl (fun _ => nI 0))), (mti, .inl (cs 6, 2, .inr (.inr (.inr (.inr fti))))), (ti1, .inl (cs 1, 2001, .inr (.inl u1))), (ti0, .inl (cs 1, 2001, .inr (.inl u0))), (hm, .inr (12, [.ref ms, .ref mkp, .int (nI 0), .ref mtr, .int (nI 4), .int (nI 2), .int (nI 2), .int (nI 3), .int (nI 2), .int (nI 1), .ref mas, .int (nI 0), .int (nI 0), .int (nI 0), .ref mso, .ref mon, .ref mot, .ref man, .int (nI 0), .int (nI 0), .ref mst, .ref msm, .ref mtb, .ref mti, .ref mfr, .ref mbn, .ref mbs, .ref mde, .int (nI 0), .int (nI 0), .int (nI 0), .int (nI 0), .long 0, .long 0, .ref maa, .ref mab, .ref mba, .ref mbb]))] := hD
  obtain rfl : r_7 = nI 0 := by rw [hw_r_7]; decide +kernel
  refine lv_if_ne (tgt := 37) hx hb dX12_spreads_31 (by decide) (fun c => absurd (by decide) c) (fun _ => ?_)
  refine lv_goto (tgt := 108) hx hb dX12_spreads_34 (by decide) ?_
  refine lv_iinc (v := nI 4) (lv' := [(4, .int (nI 4)), (3, .int (nI 0)), (0, .ref hm), (1, .int (nI 1)), (2, .int (nI 0))]) hx hb dX12_spreads_108 hl (k := 0) rfl (by decide) (by decide) rfl ?_
  clear hl
  try clear ls
  intro ls hl
  refine lv_goto (tgt := 13) hx hb dX12_spreads_111 (by decide) ?_
  refine lv_iload hx hb dX12_spreads_13 (lv_at hl 0 rfl) ?_
  refine lv_iconst (v := nI 1) hx hb dX12_spreads_15 (by decide) ?_
  refine lv_aload_n hx hb dX12_spreads_16 rfl (lv_at hl 2 rfl) ?_
  refine xget C hP 10 rfl rfl zuX12 4 (by decide) zw5_217 rfl dX12_spreads_17 ?_
  refine lv_ishl hx hb dX12_spreads_20 ?_
  refine lv_topi (nm_r (e' := nI 16) (by decide) ?_)
  refine lv_icmp_ge (tgt := 114) hx hb dX12_spreads_21 (by decide) (fun c => absurd c (by decide)) (fun _ => ?_)
  refine lv_aload_n hx hb dX12_spreads_24 rfl (lv_at hl 2 rfl) ?_
  refine lv_iload_n hx hb dX12_spreads_25 rfl (lv_at hl 1 rfl) ?_
  refine lv_iload hx hb dX12_spreads_26 (lv_at hl 0 rfl) ?_
  refine xi (wr := [(ms, .inl (cs 0, 288, .inl freshS)), (msm, .inl (cs 0, 2, .inl (smF2 (nI 0) b0))), (mst, .inl (cs 5, 2, .inr (.inr (.inr (.inr fst))))), (st1, .inl (cs 0, 96048, .inl q1)), (st0, .inl (cs 0, 96048, .inl q0)), (mtb, .inl (cs 5, 2, .inr (.inr (.inr (.inr ftb))))), (tb0, .inl (cs 0, 8192, .inl (fun _ => nI 0))), (mti, .inl (cs 6, 2, .inr (.inr (.inr (.inr fti))))), (ti1, .inl (cs 1, 2001, .inr (.inl u1))), (ti0, .inl (cs 1, 2001, .inr (.inl u0)))]) (xV (As := [.int (nI 0), .int (nI 4)]) (rest := []) C (c_X12_isSample_x l D cs hm ms mkp mtr mas mso mon mot man mst msm mtb mti mfr mbn mbs mde maa mab mba mbb 0 4 (by decide) (by decide)) kX12_139 hP hD [10] rfl (by decide +kernel) 0 rfl rfl rfl ⟨Nat.le_of_ble_eq_true rfl, Nat.le_of_ble_eq_true rfl⟩ rfl hl.1 rfl (Nat.le_of_ble_eq_true rfl) dX12_spreads_28 ⟨Nat.le_of_ble_eq_true rfl, Nat.le_of_ble_eq_true rfl⟩) hP hD hS hA [10] [0, 1, 2, 3, 4, 5, 6, 7, 8, 9] rfl rfl (by decide +kernel) (by decide +kernel) ?_
  clear hP hD hS
  try clear locs
  try clear H
  intro r_9 u_10 H locs hw_r_9 hP hD hS
  have hw_r_9 : r_9 = smB 0 4 := hw_r_9
  refine W.widen (k := 0) (n := 0) (Nat.le_of_ble_eq_true rfl) (Nat.le_of_ble_eq_true rfl) ?_
  replace hP : va_P D vwCl [(ms, .inl (cs 0, 288, .inl freshS)), (msm, .inl (cs 0, 2, .inl (smF2 (nI 0) b0))), (mst, .inl (cs 5, 2, .inr (.inr (.inr (.inr fst))))), (st1, .inl (cs 0, 96048, .inl q1)), (st0, .inl (cs 0, 96048, .inl q0)), (mtb, .inl (cs 5, 2, .inr (.inr (.inr (.inr ftb))))), (tb0, .inl (cs 0, 8192, .inl (fun _ => nI 0))), (mti, .inl (cs 6, 2, .inr (.inr (.inr (.inr fti))))), (ti1, .inl (cs 1, 2001, .inr (.inl u1))), (ti0, .inl (cs 1, 2001, .inr (.inl u0))), (hm, .inr (12, [.ref ms, .ref mkp, .int (nI 0), .ref mtr, .int (nI 4), .int (nI 2), .int (nI 2), .int (nI 3), .int (nI 2), .int (nI 1), .ref mas, .int (nI 0), .int (nI 0), .int (nI 0), .ref mso, .ref mon, .ref mot, .ref man, .int (nI 0), .int (nI 0), .ref mst, .ref msm, .ref mtb, .ref mti, .ref mfr, .ref mbn, .ref mbs, .ref mde, .int (nI 0), .int (nI 0), .int (nI 0), .int (nI 0), .long 0, .long 0, .ref maa, .ref mab, .ref mba, .ref mbb]))] H := hP
  replace hD : va_D A [(ms, .inl (cs 0, 288, .inl freshS)), (msm, .inl (cs 0, 2, .inl (smF2 (nI 0) b0))), (mst, .inl (cs 5, 2, .inr (.inr (.inr (.inr fst))))), (st1, .inl (cs 0, 96048, .inl q1)), (st0, .inl (cs 0, 96048, .inl q0)), (mtb, .inl (cs 5, 2, .inr (.inr (.inr (.inr ftb))))), (tb0, .inl (cs 0, 8192, .inl (fun _ => nI 0))), (mti, .inl (cs 6, 2, .inr (.inr (.inr (.inr fti))))), (ti1, .inl (cs 1, 2001, .inr (.inl u1))), (ti0, .inl (cs 1, 2001, .inr (.inl u0))), (hm, .inr (12, [.ref ms, .ref mkp, .int (nI 0), .ref mtr, .int (nI 4), .int (nI 2), .int (nI 2), .int (nI 3), .int (nI 2), .int (nI 1), .ref mas, .int (nI 0), .int (nI 0), .int (nI 0), .ref mso, .ref mon, .ref mot, .ref man, .int (nI 0), .int (nI 0), .ref mst, .ref msm, .ref mtb, .ref mti, .ref mfr, .ref mbn, .ref mbs, .ref mde, .int (nI 0), .int (nI 0), .int (nI 0), .int (nI 0), .long 0, .long 0, .ref maa, .ref mab, .ref mba, .ref mbb]))] := hD
  obtain rfl : r_9 = nI 0 := by rw [hw_r_9]; decide +kernel
  refine lv_if_ne (tgt := 37) hx hb dX12_spreads_31 (by decide) (fun c => absurd (by decide) c) (fun _ => ?_)
  refine lv_goto (tgt := 108) hx hb dX12_spreads_34 (by decide) ?_
  refine lv_iinc (v := nI 5) (lv' := [(4, .int (nI 5)), (3, .int (nI 0)), (0, .ref hm), (1, .int (nI 1)), (2, .int (nI 0))]) hx hb dX12_spreads_108 hl (k := 0) rfl (by decide) (by decide) rfl ?_
  clear hl
  try clear ls
  intro ls hl
  refine lv_goto (tgt := 13) hx hb dX12_spreads_111 (by decide) ?_
  refine lv_iload hx hb dX12_spreads_13 (lv_at hl 0 rfl) ?_
  refine lv_iconst (v := nI 1) hx hb dX12_spreads_15 (by decide) ?_
  refine lv_aload_n hx hb dX12_spreads_16 rfl (lv_at hl 2 rfl) ?_
  refine xget C hP 10 rfl rfl zuX12 4 (by decide) zw5_217 rfl dX12_spreads_17 ?_
  refine lv_ishl hx hb dX12_spreads_20 ?_
  refine lv_topi (nm_r (e' := nI 16) (by decide) ?_)
  refine lv_icmp_ge (tgt := 114) hx hb dX12_spreads_21 (by decide) (fun c => absurd c (by decide)) (fun _ => ?_)
  refine lv_aload_n hx hb dX12_spreads_24 rfl (lv_at hl 2 rfl) ?_
  refine lv_iload_n hx hb dX12_spreads_25 rfl (lv_at hl 1 rfl) ?_
  refine lv_iload hx hb dX12_spreads_26 (lv_at hl 0 rfl) ?_
  refine xi (wr := [(ms, .inl (cs 0, 288, .inl freshS)), (msm, .inl (cs 0, 2, .inl (smF2 (nI 0) b0))), (mst, .inl (cs 5, 2, .inr (.inr (.inr (.inr fst))))), (st1, .inl (cs 0, 96048, .inl q1)), (st0, .inl (cs 0, 96048, .inl q0)), (mtb, .inl (cs 5, 2, .inr (.inr (.inr (.inr ftb))))), (tb0, .inl (cs 0, 8192, .inl (fun _ => nI 0))), (mti, .inl (cs 6, 2, .inr (.inr (.inr (.inr fti))))), (ti1, .inl (cs 1, 2001, .inr (.inl u1))), (ti0, .inl (cs 1, 2001, .inr (.inl u0)))]) (xV (As := [.int (nI 0), .int (nI 5)]) (rest := []) C (c_X12_isSample_x l D cs hm ms mkp mtr mas mso mon mot man mst msm mtb mti mfr mbn mbs mde maa mab mba mbb 0 5 (by decide) (by decide)) kX12_139 hP hD [10] rfl (by decide +kernel) 0 rfl rfl rfl ⟨Nat.le_of_ble_eq_true rfl, Nat.le_of_ble_eq_true rfl⟩ rfl hl.1 rfl (Nat.le_of_ble_eq_true rfl) dX12_spreads_28 ⟨Nat.le_of_ble_eq_true rfl, Nat.le_of_ble_eq_true rfl⟩) hP hD hS hA [10] [0, 1, 2, 3, 4, 5, 6, 7, 8, 9] rfl rfl (by decide +kernel) (by decide +kernel) ?_
  clear hP hD hS
  try clear locs
  try clear H
  intro r_11 u_12 H locs hw_r_11 hP hD hS
  have hw_r_11 : r_11 = smB 0 5 := hw_r_11
  refine W.widen (k := 0) (n := 0) (Nat.le_of_ble_eq_true rfl) (Nat.le_of_ble_eq_true rfl) ?_
  replace hP : va_P D vwCl [(ms, .inl (cs 0, 288, .inl freshS)), (msm, .inl (cs 0, 2, .inl (smF2 (nI 0) b0))), (mst, .inl (cs 5, 2, .inr (.inr (.inr (.inr fst))))), (st1, .inl (cs 0, 96048, .inl q1)), (st0, .inl (cs 0, 96048, .inl q0)), (mtb, .inl (cs 5, 2, .inr (.inr (.inr (.inr ftb))))), (tb0, .inl (cs 0, 8192, .inl (fun _ => nI 0))), (mti, .inl (cs 6, 2, .inr (.inr (.inr (.inr fti))))), (ti1, .inl (cs 1, 2001, .inr (.inl u1))), (ti0, .inl (cs 1, 2001, .inr (.inl u0))), (hm, .inr (12, [.ref ms, .ref mkp, .int (nI 0), .ref mtr, .int (nI 4), .int (nI 2), .int (nI 2), .int (nI 3), .int (nI 2), .int (nI 1), .ref mas, .int (nI 0), .int (nI 0), .int (nI 0), .ref mso, .ref mon, .ref mot, .ref man, .int (nI 0), .int (nI 0), .ref mst, .ref msm, .ref mtb, .ref mti, .ref mfr, .ref mbn, .ref mbs, .ref mde, .int (nI 0), .int (nI 0), .int (nI 0), .int (nI 0), .long 0, .long 0, .ref maa, .ref mab, .ref mba, .ref mbb]))] H := hP
  replace hD : va_D A [(ms, .inl (cs 0, 288, .inl freshS)), (msm, .inl (cs 0, 2, .inl (smF2 (nI 0) b0))), (mst, .inl (cs 5, 2, .inr (.inr (.inr (.inr fst))))), (st1, .inl (cs 0, 96048, .inl q1)), (st0, .inl (cs 0, 96048, .inl q0)), (mtb, .inl (cs 5, 2, .inr (.inr (.inr (.inr ftb))))), (tb0, .inl (cs 0, 8192, .inl (fun _ => nI 0))), (mti, .inl (cs 6, 2, .inr (.inr (.inr (.inr fti))))), (ti1, .inl (cs 1, 2001, .inr (.inl u1))), (ti0, .inl (cs 1, 2001, .inr (.inl u0))), (hm, .inr (12, [.ref ms, .ref mkp, .int (nI 0), .ref mtr, .int (nI 4), .int (nI 2), .int (nI 2), .int (nI 3), .int (nI 2), .int (nI 1), .ref mas, .int (nI 0), .int (nI 0), .int (nI 0), .ref mso, .ref mon, .ref mot, .ref man, .int (nI 0), .int (nI 0), .ref mst, .ref msm, .ref mtb, .ref mti, .ref mfr, .ref mbn, .ref mbs, .ref mde, .int (nI 0), .int (nI 0), .int (nI 0), .int (nI 0), .long 0, .long 0, .ref maa, .ref mab, .ref mba, .ref mbb]))] := hD
  obtain rfl : r_11 = nI 0 := by rw [hw_r_11]; decide +kernel
  refine lv_if_ne (tgt := 37) hx hb dX12_spreads_31 (by decide) (fun c => absurd (by decide) c) (fun _ => ?_)
  refine lv_goto (tgt := 108) hx hb dX12_spreads_34 (by decide) ?_
  refine lv_iinc (v := nI 6) (lv' := [(4, .int (nI 6)), (3, .int (nI 0)), (0, .ref hm), (1, .int (nI 1)), (2, .int (nI 0))]) hx hb dX12_spreads_108 hl (k := 0) rfl (by decide) (by decide) rfl ?_
  clear hl
  try clear ls
  intro ls hl
  refine lv_goto (tgt := 13) hx hb dX12_spreads_111 (by decide) ?_
  refine lv_iload hx hb dX12_spreads_13 (lv_at hl 0 rfl) ?_
  refine lv_iconst (v := nI 1) hx hb dX12_spreads_15 (by decide) ?_
  refine lv_aload_n hx hb dX12_spreads_16 rfl (lv_at hl 2 rfl) ?_
  refine xget C hP 10 rfl rfl zuX12 4 (by decide) zw5_217 rfl dX12_spreads_17 ?_
  refine lv_ishl hx hb dX12_spreads_20 ?_
  refine lv_topi (nm_r (e' := nI 16) (by decide) ?_)
  refine lv_icmp_ge (tgt := 114) hx hb dX12_spreads_21 (by decide) (fun c => absurd c (by decide)) (fun _ => ?_)
  refine lv_aload_n hx hb dX12_spreads_24 rfl (lv_at hl 2 rfl) ?_
  refine lv_iload_n hx hb dX12_spreads_25 rfl (lv_at hl 1 rfl) ?_
  refine lv_iload hx hb dX12_spreads_26 (lv_at hl 0 rfl) ?_
  refine xi (wr := [(ms, .inl (cs 0, 288, .inl freshS)), (msm, .inl (cs 0, 2, .inl (smF2 (nI 0) b0))), (mst, .inl (cs 5, 2, .inr (.inr (.inr (.inr fst))))), (st1, .inl (cs 0, 96048, .inl q1)), (st0, .inl (cs 0, 96048, .inl q0)), (mtb, .inl (cs 5, 2, .inr (.inr (.inr (.inr ftb))))), (tb0, .inl (cs 0, 8192, .inl (fun _ => nI 0))), (mti, .inl (cs 6, 2, .inr (.inr (.inr (.inr fti))))), (ti1, .inl (cs 1, 2001, .inr (.inl u1))), (ti0, .inl (cs 1, 2001, .inr (.inl u0)))]) (xV (As := [.int (nI 0), .int (nI 6)]) (rest := []) C (c_X12_isSample_x l D cs hm ms mkp mtr mas mso mon mot man mst msm mtb mti mfr mbn mbs mde maa mab mba mbb 0 6 (by decide) (by decide)) kX12_139 hP hD [10] rfl (by decide +kernel) 0 rfl rfl rfl ⟨Nat.le_of_ble_eq_true rfl, Nat.le_of_ble_eq_true rfl⟩ rfl hl.1 rfl (Nat.le_of_ble_eq_true rfl) dX12_spreads_28 ⟨Nat.le_of_ble_eq_true rfl, Nat.le_of_ble_eq_true rfl⟩) hP hD hS hA [10] [0, 1, 2, 3, 4, 5, 6, 7, 8, 9] rfl rfl (by decide +kernel) (by decide +kernel) ?_
  clear hP hD hS
  try clear locs
  try clear H
  intro r_13 u_14 H locs hw_r_13 hP hD hS
  have hw_r_13 : r_13 = smB 0 6 := hw_r_13
  refine W.widen (k := 0) (n := 0) (Nat.le_of_ble_eq_true rfl) (Nat.le_of_ble_eq_true rfl) ?_
  replace hP : va_P D vwCl [(ms, .inl (cs 0, 288, .inl freshS)), (msm, .inl (cs 0, 2, .inl (smF2 (nI 0) b0))), (mst, .inl (cs 5, 2, .inr (.inr (.inr (.inr fst))))), (st1, .inl (cs 0, 96048, .inl q1)), (st0, .inl (cs 0, 96048, .inl q0)), (mtb, .inl (cs 5, 2, .inr (.inr (.inr (.inr ftb))))), (tb0, .inl (cs 0, 8192, .inl (fun _ => nI 0))), (mti, .inl (cs 6, 2, .inr (.inr (.inr (.inr fti))))), (ti1, .inl (cs 1, 2001, .inr (.inl u1))), (ti0, .inl (cs 1, 2001, .inr (.inl u0))), (hm, .inr (12, [.ref ms, .ref mkp, .int (nI 0), .ref mtr, .int (nI 4), .int (nI 2), .int (nI 2), .int (nI 3), .int (nI 2), .int (nI 1), .ref mas, .int (nI 0), .int (nI 0), .int (nI 0), .ref mso, .ref mon, .ref mot, .ref man, .int (nI 0), .int (nI 0), .ref mst, .ref msm, .ref mtb, .ref mti, .ref mfr, .ref mbn, .ref mbs, .ref mde, .int (nI 0), .int (nI 0), .int (nI 0), .int (nI 0), .long 0, .long 0, .ref maa, .ref mab, .ref mba, .ref mbb]))] H := hP
  replace hD : va_D A [(ms, .inl (cs 0, 288, .inl freshS)), (msm, .inl (cs 0, 2, .inl (smF2 (nI 0) b0))), (mst, .inl (cs 5, 2, .inr (.inr (.inr (.inr fst))))), (st1, .inl (cs 0, 96048, .inl q1)), (st0, .inl (cs 0, 96048, .inl q0)), (mtb, .inl (cs 5, 2, .inr (.inr (.inr (.inr ftb))))), (tb0, .inl (cs 0, 8192, .inl (fun _ => nI 0))), (mti, .inl (cs 6, 2, .inr (.inr (.inr (.inr fti))))), (ti1, .inl (cs 1, 2001, .inr (.inl u1))), (ti0, .inl (cs 1, 2001, .inr (.inl u0))), (hm, .inr (12, [.ref ms, .ref mkp, .int (nI 0), .ref mtr, .int (nI 4), .int (nI 2), .int (nI 2), .int (nI 3), .int (nI 2), .int (nI 1), .ref mas, .int (nI 0), .int (nI 0), .int (nI 0), .ref mso, .ref mon, .ref mot, .ref man, .int (nI 0), .int (nI 0), .ref mst, .ref msm, .ref mtb, .ref mti, .ref mfr, .ref mbn, .ref mbs, .ref mde, .int (nI 0), .int (nI 0), .int (nI 0), .int (nI 0), .long 0, .long 0, .ref maa, .ref mab, .ref mba, .ref mbb]))] := hD
  obtain rfl : r_13 = nI 1 := by rw [hw_r_13]; decide +kernel
  refine lv_if_ne (tgt := 37) hx hb dX12_spreads_31 (by decide) (fun _ => ?_) (fun c => absurd c (by decide))
  refine lv_aload_n hx hb dX12_spreads_37 rfl (lv_at hl 2 rfl) ?_
  refine lv_iload_n hx hb dX12_spreads_38 rfl (lv_at hl 3 rfl) ?_
  refine lv_iload_n hx hb dX12_spreads_39 rfl (lv_at hl 4 rfl) ?_
  refine xv (wr := [(msm, .inl (cs 0, 2, .inl (smF2 (nI 0) b0))), (st0, .inl (cs 0, 96048, .inl q0)), (mtb, .inl (cs 5, 2, .inr (.inr (.inr (.inr ftb))))), (tb0, .inl (cs 0, 8192, .inl (fun _ => nI 0))), (mti, .inl (cs 6, 2, .inr (.inr (.inr (.inr fti))))), (ti1, .inl (cs 1, 2001, .inr (.inl u1))), (ti0, .inl (cs 1, 2001, .inr (.inl u0)))]) (xV (As := [.int (nI 1), .int (nI 0)]) (rest := []) C (c_X12_brings_1 l D cs hm ms mkp mtr mas mso mon mot man mst msm mtb mti mfr mbn mbs mde maa mab mba mbb st1 fst q1 hf1 hq) kX12_203 hP hD [10, 0, 2, 3] rfl (by decide +kernel) 0 rfl rfl rfl ⟨Nat.le_of_ble_eq_true rfl, Nat.le_of_ble_eq_true rfl⟩ rfl hl.1 rfl (Nat.le_of_ble_eq_true rfl) dX12_spreads_40 ⟨Nat.le_of_ble_eq_true rfl, Nat.le_of_ble_eq_true rfl⟩) hP hD hS hA [10, 0, 2, 3] [1, 4, 5, 6, 7, 8, 9] rfl rfl (by decide +kernel) (by decide +kernel) ?_
  clear hP hD hS
  try clear locs
  try clear H
  intro u_16 H locs hw_r_15 hP hD hS
  refine W.widen (k := 0) (n := 0) (Nat.le_of_ble_eq_true rfl) (Nat.le_of_ble_eq_true rfl) ?_
  replace hP : va_P D vwCl [(msm, .inl (cs 0, 2, .inl (smF2 (nI 0) b0))), (st0, .inl (cs 0, 96048, .inl q0)), (mtb, .inl (cs 5, 2, .inr (.inr (.inr (.inr ftb))))), (tb0, .inl (cs 0, 8192, .inl (fun _ => nI 0))), (mti, .inl (cs 6, 2, .inr (.inr (.inr (.inr fti))))), (ti1, .inl (cs 1, 2001, .inr (.inl u1))), (ti0, .inl (cs 1, 2001, .inr (.inl u0))), (hm, .inr (12, [.ref ms, .ref mkp, .int (nI 0), .ref mtr, .int (nI 4), .int (nI 2), .int (nI 2), .int (nI 3), .int (nI 2), .int (nI 1), .ref mas, .int (nI 0), .int (nI 0), .int (nI 0), .ref mso, .ref mon, .ref mot, .ref man, .int (nI 0), .int (nI 0), .ref mst, .ref msm, .ref mtb, .ref mti, .ref mfr, .ref mbn, .ref mbs, .ref mde, .int (nI 0), .int (nI 0), .int (nI 0), .int (nI 0), .long 0, .long 0, .ref maa, .ref mab, .ref mba, .ref mbb])), (ms, .inl (cs 0, 288, .inl freshS)), (mst, .inl (cs 5, 2, .inr (.inr (.inr (.inr fst))))), (st1, .inl (cs 0, 96048, .inl q1))] H := hP
  replace hD : va_D A [(msm, .inl (cs 0, 2, .inl (smF2 (nI 0) b0))), (st0, .inl (cs 0, 96048, .inl q0)), (mtb, .inl (cs 5, 2, .inr (.inr (.inr (.inr ftb))))), (tb0, .inl (cs 0, 8192, .inl (fun _ => nI 0))), (mti, .inl (cs 6, 2, .inr (.inr (.inr (.inr fti))))), (ti1, .inl (cs 1, 2001, .inr (.inl u1))), (ti0, .inl (cs 1, 2001, .inr (.inl u0))), (hm, .inr (12, [.ref ms, .ref mkp, .int (nI 0), .ref mtr, .int (nI 4), .int (nI 2), .int (nI 2), .int (nI 3), .int (nI 2), .int (nI 1), .ref mas, .int (nI 0), .int (nI 0), .int (nI 0), .ref mso, .ref mon, .ref mot, .ref man, .int (nI 0), .int (nI 0), .ref mst, .ref msm, .ref mtb, .ref mti, .ref mfr, .ref mbn, .ref mbs, .ref mde, .int (nI 0), .int (nI 0), .int (nI 0), .int (nI 0), .long 0, .long 0, .ref maa, .ref mab, .ref mba, .ref mbb])), (ms, .inl (cs 0, 288, .inl freshS)), (mst, .inl (cs 5, 2, .inr (.inr (.inr (.inr fst))))), (st1, .inl (cs 0, 96048, .inl q1))] := hD
  refine lv_aload_n hx hb dX12_spreads_43 rfl (lv_at hl 2 rfl) ?_
  refine lv_iload_n hx hb dX12_spreads_44 rfl (lv_at hl 1 rfl) ?_
  refine xi (wr := [(msm, .inl (cs 0, 2, .inl (smF2 (nI 0) b0))), (st0, .inl (cs 0, 96048, .inl q0)), (mtb, .inl (cs 5, 2, .inr (.inr (.inr (.inr ftb))))), (tb0, .inl (cs 0, 8192, .inl (fun _ => nI 0))), (mti, .inl (cs 6, 2, .inr (.inr (.inr (.inr fti))))), (ti1, .inl (cs 1, 2001, .inr (.inl u1))), (ti0, .inl (cs 1, 2001, .inr (.inl u0))), (mst, .inl (cs 5, 2, .inr (.inr (.inr (.inr fst))))), (st1, .inl (cs 0, 96048, .inl q1))]) (xV (As := [.int (nI 0)]) (rest := []) C (c_X12_canAsk_z l D cs hm ms mkp mtr mas mso mon mot man mst msm mtb mti mfr mbn mbs mde maa mab mba mbb 0 (by decide)) kX12_142 hP hD [7, 8] rfl (by decide +kernel) 0 rfl rfl rfl ⟨Nat.le_of_ble_eq_true rfl, Nat.le_of_ble_eq_true rfl⟩ rfl hl.1 rfl (Nat.le_of_ble_eq_true rfl) dX12_spreads_45 ⟨Nat.le_of_ble_eq_true rfl, Nat.le_of_ble_eq_true rfl⟩) hP hD hS hA [7, 8] [0, 1, 2, 3, 4, 5, 6, 9, 10] rfl rfl (by decide +kernel) (by decide +kernel) ?_
  clear hP hD hS
  try clear locs
  try clear H
  intro r_17 u_18 H locs hw_r_17 hP hD hS
  have hw_r_17 : r_17 = nI 0 := hw_r_17
  refine W.widen (k := 0) (n := 0) (Nat.le_of_ble_eq_true rfl) (Nat.le_of_ble_eq_true rfl) ?_
  replace hP : va_P D vwCl [(msm, .inl (cs 0, 2, .inl (smF2 (nI 0) b0))), (st0, .inl (cs 0, 96048, .inl q0)), (mtb, .inl (cs 5, 2, .inr (.inr (.inr (.inr ftb))))), (tb0, .inl (cs 0, 8192, .inl (fun _ => nI 0))), (mti, .inl (cs 6, 2, .inr (.inr (.inr (.inr fti))))), (ti1, .inl (cs 1, 2001, .inr (.inl u1))), (ti0, .inl (cs 1, 2001, .inr (.inl u0))), (mst, .inl (cs 5, 2, .inr (.inr (.inr (.inr fst))))), (st1, .inl (cs 0, 96048, .inl q1)), (hm, .inr (12, [.ref ms, .ref mkp, .int (nI 0), .ref mtr, .int (nI 4), .int (nI 2), .int (nI 2), .int (nI 3), .int (nI 2), .int (nI 1), .ref mas, .int (nI 0), .int (nI 0), .int (nI 0), .ref mso, .ref mon, .ref mot, .ref man, .int (nI 0), .int (nI 0), .ref mst, .ref msm, .ref mtb, .ref mti, .ref mfr, .ref mbn, .ref mbs, .ref mde, .int (nI 0), .int (nI 0), .int (nI 0), .int (nI 0), .long 0, .long 0, .ref maa, .ref mab, .ref mba, .ref mbb])), (ms, .inl (cs 0, 288, .inl freshS))] H := hP
  replace hD : va_D A [(msm, .inl (cs 0, 2, .inl (smF2 (nI 0) b0))), (st0, .inl (cs 0, 96048, .inl q0)), (mtb, .inl (cs 5, 2, .inr (.inr (.inr (.inr ftb))))), (tb0, .inl (cs 0, 8192, .inl (fun _ => nI 0))), (mti, .inl (cs 6, 2, .inr (.inr (.inr (.inr fti))))), (ti1, .inl (cs 1, 2001, .inr (.inl u1))), (ti0, .inl (cs 1, 2001, .inr (.inl u0))), (mst, .inl (cs 5, 2, .inr (.inr (.inr (.inr fst))))), (st1, .inl (cs 0, 96048, .inl q1)), (hm, .inr (12, [.ref ms, .ref mkp, .int (nI 0), .ref mtr, .int (nI 4), .int (nI 2), .int (nI 2), .int (nI 3), .int (nI 2), .int (nI 1), .ref mas, .int (nI 0), .int (nI 0), .int (nI 0), .ref mso, .ref mon, .ref mot, .ref man, .int (nI 0), .int (nI 0), .ref mst, .ref msm, .ref mtb, .ref mti, .ref mfr, .ref mbn, .ref mbs, .ref mde, .int (nI 0), .int (nI 0), .int (nI 0), .int (nI 0), .long 0, .long 0, .ref maa, .ref mab, .ref mba, .ref mbb])), (ms, .inl (cs 0, 288, .inl freshS))] := hD
  subst hw_r_17
  refine lv_if_eq (tgt := 67) hx hb dX12_spreads_48 (by decide) (fun _ => ?_) (fun c => absurd (by decide) c)
  refine lv_aload_n hx hb dX12_spreads_67 rfl (lv_at hl 2 rfl) ?_
  refine lv_iconst (v := nI 1) hx hb dX12_spreads_68 (by decide) ?_
  refine lv_iload_n hx hb dX12_spreads_69 rfl (lv_at hl 3 rfl) ?_
  refine lv_isub hx hb dX12_spreads_70 ?_
  refine lv_topi (nm_r (e' := nI 0) (by decide) ?_)
  refine lv_sipush (v := nI 2000) hx hb dX12_spreads_71 (by decide) ?_
  refine xi (wr := [(ti1, .inl (cs 1, 2001, .inr (.inl u1))), (st1, .inl (cs 0, 96048, .inl q1))]) (xV (As := [.int (nI 0), .int (nI 2000)]) (rest := []) C (c_X12_numberOf_a0 l D cs hm ms mkp mtr mas mso mon mot man mst msm mtb mti mfr mbn mbs mde maa mab mba mbb st0 tb0 ti0 fst ftb fti (smF2 (nI 0) b0) q0 u0 hf0 hg ht0 rfl) kX12_197 hP hD [9, 10, 0, 7, 1, 2, 3, 4, 6] rfl (by decide +kernel) 0 rfl rfl rfl ⟨Nat.le_of_ble_eq_true rfl, Nat.le_of_ble_eq_true rfl⟩ rfl hl.1 rfl (Nat.le_of_ble_eq_true rfl) dX12_spreads_74 ⟨Nat.le_of_ble_eq_true rfl, Nat.le_of_ble_eq_true rfl⟩) hP hD hS hA [9, 10, 0, 7, 1, 2, 3, 4, 6] [5, 8] rfl rfl (by decide +kernel) (by decide +kernel) ?_
  clear hP hD hS
  try clear locs
  try clear H
  intro r_19 u_20 H locs hw_r_19 hP hD hS
  have hw_r_19 : r_19 = nI 0 := hw_r_19
  refine W.widen (k := 0) (n := 0) (Nat.le_of_ble_eq_true rfl) (Nat.le_of_ble_eq_true rfl) ?_
  replace hP : va_P D vwCl [(ti1, .inl (cs 1, 2001, .inr (.inl u1))), (st1, .inl (cs 0, 96048, .inl q1)), (hm, .inr (12, [.ref ms, .ref mkp, .int (nI 0), .ref mtr, .int (nI 4), .int (nI 2), .int (nI 2), .int (nI 3), .int (nI 2), .int (nI 1), .ref mas, .int (nI 0), .int (nI 0), .int (nI 0), .ref mso, .ref mon, .ref mot, .ref man, .int (nI 0), .int (nI 0), .ref mst, .ref msm, .ref mtb, .ref mti, .ref mfr, .ref mbn, .ref mbs, .ref mde, .int (nI 0), .int (nI 0), .int (nI 0), .int (nI 0), .long 0, .long 0, .ref maa, .ref mab, .ref mba, .ref mbb])), (ms, .inl (cs 0, 288, .inl freshS)), (msm, .inl (cs 0, 2, .inl (upd (smF2 (nI 0) b0) 0 (nI 1)))), (mst, .inl (cs 5, 2, .inr (.inr (.inr (.inr fst))))), (st0, .inl (cs 0, 96048, .inl (cpF freshS q0 48))), (mtb, .inl (cs 5, 2, .inr (.inr (.inr (.inr ftb))))), (tb0, .inl (cs 0, 8192, .inl (upd (fun _ => nI 0) 965 (nI 1)))), (mti, .inl (cs 6, 2, .inr (.inr (.inr (.inr fti))))), (ti0, .inl (cs 1, 2001, .inr (.inl (vp_updL u0 0 0))))] H := hP
  replace hD : va_D A [(ti1, .inl (cs 1, 2001, .inr (.inl u1))), (st1, .inl (cs 0, 96048, .inl q1)), (hm, .inr (12, [.ref ms, .ref mkp, .int (nI 0), .ref mtr, .int (nI 4), .int (nI 2), .int (nI 2), .int (nI 3), .int (nI 2), .int (nI 1), .ref mas, .int (nI 0), .int (nI 0), .int (nI 0), .ref mso, .ref mon, .ref mot, .ref man, .int (nI 0), .int (nI 0), .ref mst, .ref msm, .ref mtb, .ref mti, .ref mfr, .ref mbn, .ref mbs, .ref mde, .int (nI 0), .int (nI 0), .int (nI 0), .int (nI 0), .long 0, .long 0, .ref maa, .ref mab, .ref mba, .ref mbb])), (ms, .inl (cs 0, 288, .inl freshS)), (msm, .inl (cs 0, 2, .inl (upd (smF2 (nI 0) b0) 0 (nI 1)))), (mst, .inl (cs 5, 2, .inr (.inr (.inr (.inr fst))))), (st0, .inl (cs 0, 96048, .inl (cpF freshS q0 48))), (mtb, .inl (cs 5, 2, .inr (.inr (.inr (.inr ftb))))), (tb0, .inl (cs 0, 8192, .inl (upd (fun _ => nI 0) 965 (nI 1)))), (mti, .inl (cs 6, 2, .inr (.inr (.inr (.inr fti))))), (ti0, .inl (cs 1, 2001, .inr (.inl (vp_updL u0 0 0))))] := hD
  subst hw_r_19
  have hPD := xcongi (q0 := 4) (smF2 (nI 1) b0) hP hD rfl (fun j hj => smF2_0 (nI 0) b0 (nI 1) j)
  clear hP hD
  obtain ⟨hP, hD⟩ := hPD
  replace hP : va_P D vwCl [(ti1, .inl (cs 1, 2001, .inr (.inl u1))), (st1, .inl (cs 0, 96048, .inl q1)), (hm, .inr (12, [.ref ms, .ref mkp, .int (nI 0), .ref mtr, .int (nI 4), .int (nI 2), .int (nI 2), .int (nI 3), .int (nI 2), .int (nI 1), .ref mas, .int (nI 0), .int (nI 0), .int (nI 0), .ref mso, .ref mon, .ref mot, .ref man, .int (nI 0), .int (nI 0), .ref mst, .ref msm, .ref mtb, .ref mti, .ref mfr, .ref mbn, .ref mbs, .ref mde, .int (nI 0), .int (nI 0), .int (nI 0), .int (nI 0), .long 0, .long 0, .ref maa, .ref mab, .ref mba, .ref mbb])), (ms, .inl (cs 0, 288, .inl freshS)), (msm, .inl (cs 0, 2, .inl (smF2 (nI 1) b0))), (mst, .inl (cs 5, 2, .inr (.inr (.inr (.inr fst))))), (st0, .inl (cs 0, 96048, .inl (cpF freshS q0 48))), (mtb, .inl (cs 5, 2, .inr (.inr (.inr (.inr ftb))))), (tb0, .inl (cs 0, 8192, .inl (upd (fun _ => nI 0) 965 (nI 1)))), (mti, .inl (cs 6, 2, .inr (.inr (.inr (.inr fti))))), (ti0, .inl (cs 1, 2001, .inr (.inl (vp_updL u0 0 0))))] H := hP
  replace hD : va_D A [(ti1, .inl (cs 1, 2001, .inr (.inl u1))), (st1, .inl (cs 0, 96048, .inl q1)), (hm, .inr (12, [.ref ms, .ref mkp, .int (nI 0), .ref mtr, .int (nI 4), .int (nI 2), .int (nI 2), .int (nI 3), .int (nI 2), .int (nI 1), .ref mas, .int (nI 0), .int (nI 0), .int (nI 0), .ref mso, .ref mon, .ref mot, .ref man, .int (nI 0), .int (nI 0), .ref mst, .ref msm, .ref mtb, .ref mti, .ref mfr, .ref mbn, .ref mbs, .ref mde, .int (nI 0), .int (nI 0), .int (nI 0), .int (nI 0), .long 0, .long 0, .ref maa, .ref mab, .ref mba, .ref mbb])), (ms, .inl (cs 0, 288, .inl freshS)), (msm, .inl (cs 0, 2, .inl (smF2 (nI 1) b0))), (mst, .inl (cs 5, 2, .inr (.inr (.inr (.inr fst))))), (st0, .inl (cs 0, 96048, .inl (cpF freshS q0 48))), (mtb, .inl (cs 5, 2, .inr (.inr (.inr (.inr ftb))))), (tb0, .inl (cs 0, 8192, .inl (upd (fun _ => nI 0) 965 (nI 1)))), (mti, .inl (cs 6, 2, .inr (.inr (.inr (.inr fti))))), (ti0, .inl (cs 1, 2001, .inr (.inl (vp_updL u0 0 0))))] := hD
  refine lv_istore (lv' := [(5, .int (nI 0)), (4, .int (nI 6)), (3, .int (nI 0)), (0, .ref hm), (1, .int (nI 1)), (2, .int (nI 0))]) hx hb dX12_spreads_77 hl (by decide) rfl ?_
  clear hl
  try clear ls
  intro ls hl
  refine lv_iload hx hb dX12_spreads_79 (lv_at hl 0 rfl) ?_
  refine lv_if_ge (tgt := 86) hx hb dX12_spreads_81 (by decide) (fun _ => ?_) (fun c => absurd (by decide) c)
  refine lv_aload_n hx hb dX12_spreads_86 rfl (lv_at hl 3 rfl) ?_
  refine xget C hP 2 rfl rfl zuX12 23 (by decide) zw5_236 rfl dX12_spreads_87 ?_
  refine lv_iconst (v := nI 1) hx hb dX12_spreads_90 (by decide) ?_
  refine lv_iload_n hx hb dX12_spreads_91 rfl (lv_at hl 4 rfl) ?_
  refine lv_isub hx hb dX12_spreads_92 ?_
  refine lv_topi (nm_r (e' := nI 0) (by decide) ?_)
  refine xaald C hP 9 6 rfl rfl rfl 0 rfl (by decide) (by decide) ht0 dX12_spreads_93 ?_
  refine lv_iload hx hb dX12_spreads_94 (lv_at hl 0 rfl) ?_
  refine lv_dup2_11 hx hb dX12_spreads_96 rfl rfl ?_
  refine xlald C hP 10 rfl 0 rfl (by decide) (by decide) dX12_spreads_97 ?_
  refine lv_topl (nm_r (e' := (0 : Int64)) (upL_0 _ _) ?_)
  refine lv_aload_n hx hb dX12_spreads_98 rfl (lv_at hl 3 rfl) ?_
  refine xget C hP 2 rfl rfl zuX12 23 (by decide) zw5_236 rfl dX12_spreads_99 ?_
  refine lv_iload_n hx hb dX12_spreads_102 rfl (lv_at hl 4 rfl) ?_
  refine xaald C hP 9 6 rfl rfl rfl 1 rfl (by decide) (by decide) ht1 dX12_spreads_103 ?_
  refine lv_iload_n hx hb dX12_spreads_104 rfl (lv_at hl 5 rfl) ?_
  refine xlald C hP 0 rfl 0 rfl (by decide) (by decide) dX12_spreads_105 ?_
  refine lv_topl (nm_r (e' := lN ww) hw ?_)
  refine lv_ladd hx hb dX12_spreads_106 ?_
  refine lv_topl (nm_r (e' := lN (ww * 1)) (lN_a0 ww) ?_)
  refine xlast C hP hD hS 10 rfl 0 rfl (by decide) (by decide) dX12_spreads_107 ?_
  clear hP hD hS
  try clear locs
  try clear H
  intro H locs hP hD hS
  replace hP : va_P D vwCl [(ti1, .inl (cs 1, 2001, .inr (.inl u1))), (st1, .inl (cs 0, 96048, .inl q1)), (hm, .inr (12, [.ref ms, .ref mkp, .int (nI 0), .ref mtr, .int (nI 4), .int (nI 2), .int (nI 2), .int (nI 3), .int (nI 2), .int (nI 1), .ref mas, .int (nI 0), .int (nI 0), .int (nI 0), .ref mso, .ref mon, .ref mot, .ref man, .int (nI 0), .int (nI 0), .ref mst, .ref msm, .ref mtb, .ref mti, .ref mfr, .ref mbn, .ref mbs, .ref mde, .int (nI 0), .int (nI 0), .int (nI 0), .int (nI 0), .long 0, .long 0, .ref maa, .ref mab, .ref mba, .ref mbb])), (ms, .inl (cs 0, 288, .inl freshS)), (msm, .inl (cs 0, 2, .inl (smF2 (nI 1) b0))), (mst, .inl (cs 5, 2, .inr (.inr (.inr (.inr fst))))), (st0, .inl (cs 0, 96048, .inl (cpF freshS q0 48))), (mtb, .inl (cs 5, 2, .inr (.inr (.inr (.inr ftb))))), (tb0, .inl (cs 0, 8192, .inl (upd (fun _ => nI 0) 965 (nI 1)))), (mti, .inl (cs 6, 2, .inr (.inr (.inr (.inr fti))))), (ti0, .inl (cs 1, 2001, .inr (.inl (vp_updL (vp_updL u0 0 0) 0 (lN (ww * 1))))))] H := hP
  replace hD : va_D A [(ti1, .inl (cs 1, 2001, .inr (.inl u1))), (st1, .inl (cs 0, 96048, .inl q1)), (hm, .inr (12, [.ref ms, .ref mkp, .int (nI 0), .ref mtr, .int (nI 4), .int (nI 2), .int (nI 2), .int (nI 3), .int (nI 2), .int (nI 1), .ref mas, .int (nI 0), .int (nI 0), .int (nI 0), .ref mso, .ref mon, .ref mot, .ref man, .int (nI 0), .int (nI 0), .ref mst, .ref msm, .ref mtb, .ref mti, .ref mfr, .ref mbn, .ref mbs, .ref mde, .int (nI 0), .int (nI 0), .int (nI 0), .int (nI 0), .long 0, .long 0, .ref maa, .ref mab, .ref mba, .ref mbb])), (ms, .inl (cs 0, 288, .inl freshS)), (msm, .inl (cs 0, 2, .inl (smF2 (nI 1) b0))), (mst, .inl (cs 5, 2, .inr (.inr (.inr (.inr fst))))), (st0, .inl (cs 0, 96048, .inl (cpF freshS q0 48))), (mtb, .inl (cs 5, 2, .inr (.inr (.inr (.inr ftb))))), (tb0, .inl (cs 0, 8192, .inl (upd (fun _ => nI 0) 965 (nI 1)))), (mti, .inl (cs 6, 2, .inr (.inr (.inr (.inr fti))))), (ti0, .inl (cs 1, 2001, .inr (.inl (vp_updL (vp_updL u0 0 0) 0 (lN (ww * 1))))))] := hD
  have hPD := xcongl (q0 := 10) (vp_updL u0 0 (lN (ww * 1))) hP hD rfl (fun j hj => upL_1 u0 _ _ j)
  clear hP hD
  obtain ⟨hP, hD⟩ := hPD
  replace hP : va_P D vwCl [(ti1, .inl (cs 1, 2001, .inr (.inl u1))), (st1, .inl (cs 0, 96048, .inl q1)), (hm, .inr (12, [.ref ms, .ref mkp, .int (nI 0), .ref mtr, .int (nI 4), .int (nI 2), .int (nI 2), .int (nI 3), .int (nI 2), .int (nI 1), .ref mas, .int (nI 0), .int (nI 0), .int (nI 0), .ref mso, .ref mon, .ref mot, .ref man, .int (nI 0), .int (nI 0), .ref mst, .ref msm, .ref mtb, .ref mti, .ref mfr, .ref mbn, .ref mbs, .ref mde, .int (nI 0), .int (nI 0), .int (nI 0), .int (nI 0), .long 0, .long 0, .ref maa, .ref mab, .ref mba, .ref mbb])), (ms, .inl (cs 0, 288, .inl freshS)), (msm, .inl (cs 0, 2, .inl (smF2 (nI 1) b0))), (mst, .inl (cs 5, 2, .inr (.inr (.inr (.inr fst))))), (st0, .inl (cs 0, 96048, .inl (cpF freshS q0 48))), (mtb, .inl (cs 5, 2, .inr (.inr (.inr (.inr ftb))))), (tb0, .inl (cs 0, 8192, .inl (upd (fun _ => nI 0) 965 (nI 1)))), (mti, .inl (cs 6, 2, .inr (.inr (.inr (.inr fti))))), (ti0, .inl (cs 1, 2001, .inr (.inl (vp_updL u0 0 (lN (ww * 1))))))] H := hP
  replace hD : va_D A [(ti1, .inl (cs 1, 2001, .inr (.inl u1))), (st1, .inl (cs 0, 96048, .inl q1)), (hm, .inr (12, [.ref ms, .ref mkp, .int (nI 0), .ref mtr, .int (nI 4), .int (nI 2), .int (nI 2), .int (nI 3), .int (nI 2), .int (nI 1), .ref mas, .int (nI 0), .int (nI 0), .int (nI 0), .ref mso, .ref mon, .ref mot, .ref man, .int (nI 0), .int (nI 0), .ref mst, .ref msm, .ref mtb, .ref mti, .ref mfr, .ref mbn, .ref mbs, .ref mde, .int (nI 0), .int (nI 0), .int (nI 0), .int (nI 0), .long 0, .long 0, .ref maa, .ref mab, .ref mba, .ref mbb])), (ms, .inl (cs 0, 288, .inl freshS)), (msm, .inl (cs 0, 2, .inl (smF2 (nI 1) b0))), (mst, .inl (cs 5, 2, .inr (.inr (.inr (.inr fst))))), (st0, .inl (cs 0, 96048, .inl (cpF freshS q0 48))), (mtb, .inl (cs 5, 2, .inr (.inr (.inr (.inr ftb))))), (tb0, .inl (cs 0, 8192, .inl (upd (fun _ => nI 0) 965 (nI 1)))), (mti, .inl (cs 6, 2, .inr (.inr (.inr (.inr fti))))), (ti0, .inl (cs 1, 2001, .inr (.inl (vp_updL u0 0 (lN (ww * 1))))))] := hD
  refine lv_iinc (v := nI 7) (lv' := [(4, .int (nI 7)), (5, .int (nI 0)), (3, .int (nI 0)), (0, .ref hm), (1, .int (nI 1)), (2, .int (nI 0))]) hx hb dX12_spreads_108 hl (k := 1) rfl (by decide) (by decide) rfl ?_
  clear hl
  try clear ls
  intro ls hl
  refine lv_goto (tgt := 13) hx hb dX12_spreads_111 (by decide) ?_
  refine lv_iload hx hb dX12_spreads_13 (lv_at hl 0 rfl) ?_
  refine lv_iconst (v := nI 1) hx hb dX12_spreads_15 (by decide) ?_
  refine lv_aload_n hx hb dX12_spreads_16 rfl (lv_at hl 3 rfl) ?_
  refine xget C hP 2 rfl rfl zuX12 4 (by decide) zw5_217 rfl dX12_spreads_17 ?_
  refine lv_ishl hx hb dX12_spreads_20 ?_
  refine lv_topi (nm_r (e' := nI 16) (by decide) ?_)
  refine lv_icmp_ge (tgt := 114) hx hb dX12_spreads_21 (by decide) (fun c => absurd c (by decide)) (fun _ => ?_)
  refine lv_aload_n hx hb dX12_spreads_24 rfl (lv_at hl 3 rfl) ?_
  refine lv_iload_n hx hb dX12_spreads_25 rfl (lv_at hl 2 rfl) ?_
  refine lv_iload hx hb dX12_spreads_26 (lv_at hl 0 rfl) ?_
  refine xi (wr := [(ti1, .inl (cs 1, 2001, .inr (.inl u1))), (st1, .inl (cs 0, 96048, .inl q1)), (ms, .inl (cs 0, 288, .inl freshS)), (msm, .inl (cs 0, 2, .inl (smF2 (nI 1) b0))), (mst, .inl (cs 5, 2, .inr (.inr (.inr (.inr fst))))), (st0, .inl (cs 0, 96048, .inl (cpF freshS q0 48))), (mtb, .inl (cs 5, 2, .inr (.inr (.inr (.inr ftb))))), (tb0, .inl (cs 0, 8192, .inl (upd (fun _ => nI 0) 965 (nI 1)))), (mti, .inl (cs 6, 2, .inr (.inr (.inr (.inr fti))))), (ti0, .inl (cs 1, 2001, .inr (.inl (vp_updL u0 0 (lN (ww * 1))))))]) (xV (As := [.int (nI 0), .int (nI 7)]) (rest := []) C (c_X12_isSample_x l D cs hm ms mkp mtr mas mso mon mot man mst msm mtb mti mfr mbn mbs mde maa mab mba mbb 0 7 (by decide) (by decide)) kX12_139 hP hD [2] rfl (by decide +kernel) 0 rfl rfl rfl ⟨Nat.le_of_ble_eq_true rfl, Nat.le_of_ble_eq_true rfl⟩ rfl hl.1 rfl (Nat.le_of_ble_eq_true rfl) dX12_spreads_28 ⟨Nat.le_of_ble_eq_true rfl, Nat.le_of_ble_eq_true rfl⟩) hP hD hS hA [2] [0, 1, 3, 4, 5, 6, 7, 8, 9, 10] rfl rfl (by decide +kernel) (by decide +kernel) ?_
  clear hP hD hS
  try clear locs
  try clear H
  intro r_21 u_22 H locs hw_r_21 hP hD hS
  have hw_r_21 : r_21 = smB 0 7 := hw_r_21
  refine W.widen (k := 0) (n := 0) (Nat.le_of_ble_eq_true rfl) (Nat.le_of_ble_eq_true rfl) ?_
  replace hP : va_P D vwCl [(ti1, .inl (cs 1, 2001, .inr (.inl u1))), (st1, .inl (cs 0, 96048, .inl q1)), (ms, .inl (cs 0, 288, .inl freshS)), (msm, .inl (cs 0, 2, .inl (smF2 (nI 1) b0))), (mst, .inl (cs 5, 2, .inr (.inr (.inr (.inr fst))))), (st0, .inl (cs 0, 96048, .inl (cpF freshS q0 48))), (mtb, .inl (cs 5, 2, .inr (.inr (.inr (.inr ftb))))), (tb0, .inl (cs 0, 8192, .inl (upd (fun _ => nI 0) 965 (nI 1)))), (mti, .inl (cs 6, 2, .inr (.inr (.inr (.inr fti))))), (ti0, .inl (cs 1, 2001, .inr (.inl (vp_updL u0 0 (lN (ww * 1)))))), (hm, .inr (12, [.ref ms, .ref mkp, .int (nI 0), .ref mtr, .int (nI 4), .int (nI 2), .int (nI 2), .int (nI 3), .int (nI 2), .int (nI 1), .ref mas, .int (nI 0), .int (nI 0), .int (nI 0), .ref mso, .ref mon, .ref mot, .ref man, .int (nI 0), .int (nI 0), .ref mst, .ref msm, .ref mtb, .ref mti, .ref mfr, .ref mbn, .ref mbs, .ref mde, .int (nI 0), .int (nI 0), .int (nI 0), .int (nI 0), .long 0, .long 0, .ref maa, .ref mab, .ref mba, .ref mbb]))] H := hP
  replace hD : va_D A [(ti1, .inl (cs 1, 2001, .inr (.inl u1))), (st1, .inl (cs 0, 96048, .inl q1)), (ms, .inl (cs 0, 288, .inl freshS)), (msm, .inl (cs 0, 2, .inl (smF2 (nI 1) b0))), (mst, .inl (cs 5, 2, .inr (.inr (.inr (.inr fst))))), (st0, .inl (cs 0, 96048, .inl (cpF freshS q0 48))), (mtb, .inl (cs 5, 2, .inr (.inr (.inr (.inr ftb))))), (tb0, .inl (cs 0, 8192, .inl (upd (fun _ => nI 0) 965 (nI 1)))), (mti, .inl (cs 6, 2, .inr (.inr (.inr (.inr fti))))), (ti0, .inl (cs 1, 2001, .inr (.inl (vp_updL u0 0 (lN (ww * 1)))))), (hm, .inr (12, [.ref ms, .ref mkp, .int (nI 0), .ref mtr, .int (nI 4), .int (nI 2), .int (nI 2), .int (nI 3), .int (nI 2), .int (nI 1), .ref mas, .int (nI 0), .int (nI 0), .int (nI 0), .ref mso, .ref mon, .ref mot, .ref man, .int (nI 0), .int (nI 0), .ref mst, .ref msm, .ref mtb, .ref mti, .ref mfr, .ref mbn, .ref mbs, .ref mde, .int (nI 0), .int (nI 0), .int (nI 0), .int (nI 0), .long 0, .long 0, .ref maa, .ref mab, .ref mba, .ref mbb]))] := hD
  obtain rfl : r_21 = nI 0 := by rw [hw_r_21]; decide +kernel
  refine lv_if_ne (tgt := 37) hx hb dX12_spreads_31 (by decide) (fun c => absurd (by decide) c) (fun _ => ?_)
  refine lv_goto (tgt := 108) hx hb dX12_spreads_34 (by decide) ?_
  refine lv_iinc (v := nI 8) (lv' := [(4, .int (nI 8)), (5, .int (nI 0)), (3, .int (nI 0)), (0, .ref hm), (1, .int (nI 1)), (2, .int (nI 0))]) hx hb dX12_spreads_108 hl (k := 0) rfl (by decide) (by decide) rfl ?_
  clear hl
  try clear ls
  intro ls hl
  refine lv_goto (tgt := 13) hx hb dX12_spreads_111 (by decide) ?_
  refine lv_iload hx hb dX12_spreads_13 (lv_at hl 0 rfl) ?_
  refine lv_iconst (v := nI 1) hx hb dX12_spreads_15 (by decide) ?_
  refine lv_aload_n hx hb dX12_spreads_16 rfl (lv_at hl 3 rfl) ?_
  refine xget C hP 10 rfl rfl zuX12 4 (by decide) zw5_217 rfl dX12_spreads_17 ?_
  refine lv_ishl hx hb dX12_spreads_20 ?_
  refine lv_topi (nm_r (e' := nI 16) (by decide) ?_)
  refine lv_icmp_ge (tgt := 114) hx hb dX12_spreads_21 (by decide) (fun c => absurd c (by decide)) (fun _ => ?_)
  refine lv_aload_n hx hb dX12_spreads_24 rfl (lv_at hl 3 rfl) ?_
  refine lv_iload_n hx hb dX12_spreads_25 rfl (lv_at hl 2 rfl) ?_
  refine lv_iload hx hb dX12_spreads_26 (lv_at hl 0 rfl) ?_
  refine xi (wr := [(ti1, .inl (cs 1, 2001, .inr (.inl u1))), (st1, .inl (cs 0, 96048, .inl q1)), (ms, .inl (cs 0, 288, .inl freshS)), (msm, .inl (cs 0, 2, .inl (smF2 (nI 1) b0))), (mst, .inl (cs 5, 2, .inr (.inr (.inr (.inr fst))))), (st0, .inl (cs 0, 96048, .inl (cpF freshS q0 48))), (mtb, .inl (cs 5, 2, .inr (.inr (.inr (.inr ftb))))), (tb0, .inl (cs 0, 8192, .inl (upd (fun _ => nI 0) 965 (nI 1)))), (mti, .inl (cs 6, 2, .inr (.inr (.inr (.inr fti))))), (ti0, .inl (cs 1, 2001, .inr (.inl (vp_updL u0 0 (lN (ww * 1))))))]) (xV (As := [.int (nI 0), .int (nI 8)]) (rest := []) C (c_X12_isSample_x l D cs hm ms mkp mtr mas mso mon mot man mst msm mtb mti mfr mbn mbs mde maa mab mba mbb 0 8 (by decide) (by decide)) kX12_139 hP hD [10] rfl (by decide +kernel) 0 rfl rfl rfl ⟨Nat.le_of_ble_eq_true rfl, Nat.le_of_ble_eq_true rfl⟩ rfl hl.1 rfl (Nat.le_of_ble_eq_true rfl) dX12_spreads_28 ⟨Nat.le_of_ble_eq_true rfl, Nat.le_of_ble_eq_true rfl⟩) hP hD hS hA [10] [0, 1, 2, 3, 4, 5, 6, 7, 8, 9] rfl rfl (by decide +kernel) (by decide +kernel) ?_
  clear hP hD hS
  try clear locs
  try clear H
  intro r_23 u_24 H locs hw_r_23 hP hD hS
  have hw_r_23 : r_23 = smB 0 8 := hw_r_23
  refine W.widen (k := 0) (n := 0) (Nat.le_of_ble_eq_true rfl) (Nat.le_of_ble_eq_true rfl) ?_
  replace hP : va_P D vwCl [(ti1, .inl (cs 1, 2001, .inr (.inl u1))), (st1, .inl (cs 0, 96048, .inl q1)), (ms, .inl (cs 0, 288, .inl freshS)), (msm, .inl (cs 0, 2, .inl (smF2 (nI 1) b0))), (mst, .inl (cs 5, 2, .inr (.inr (.inr (.inr fst))))), (st0, .inl (cs 0, 96048, .inl (cpF freshS q0 48))), (mtb, .inl (cs 5, 2, .inr (.inr (.inr (.inr ftb))))), (tb0, .inl (cs 0, 8192, .inl (upd (fun _ => nI 0) 965 (nI 1)))), (mti, .inl (cs 6, 2, .inr (.inr (.inr (.inr fti))))), (ti0, .inl (cs 1, 2001, .inr (.inl (vp_updL u0 0 (lN (ww * 1)))))), (hm, .inr (12, [.ref ms, .ref mkp, .int (nI 0), .ref mtr, .int (nI 4), .int (nI 2), .int (nI 2), .int (nI 3), .int (nI 2), .int (nI 1), .ref mas, .int (nI 0), .int (nI 0), .int (nI 0), .ref mso, .ref mon, .ref mot, .ref man, .int (nI 0), .int (nI 0), .ref mst, .ref msm, .ref mtb, .ref mti, .ref mfr, .ref mbn, .ref mbs, .ref mde, .int (nI 0), .int (nI 0), .int (nI 0), .int (nI 0), .long 0, .long 0, .ref maa, .ref mab, .ref mba, .ref mbb]))] H := hP
  replace hD : va_D A [(ti1, .inl (cs 1, 2001, .inr (.inl u1))), (st1, .inl (cs 0, 96048, .inl q1)), (ms, .inl (cs 0, 288, .inl freshS)), (msm, .inl (cs 0, 2, .inl (smF2 (nI 1) b0))), (mst, .inl (cs 5, 2, .inr (.inr (.inr (.inr fst))))), (st0, .inl (cs 0, 96048, .inl (cpF freshS q0 48))), (mtb, .inl (cs 5, 2, .inr (.inr (.inr (.inr ftb))))), (tb0, .inl (cs 0, 8192, .inl (upd (fun _ => nI 0) 965 (nI 1)))), (mti, .inl (cs 6, 2, .inr (.inr (.inr (.inr fti))))), (ti0, .inl (cs 1, 2001, .inr (.inl (vp_updL u0 0 (lN (ww * 1)))))), (hm, .inr (12, [.ref ms, .ref mkp, .int (nI 0), .ref mtr, .int (nI 4), .int (nI 2), .int (nI 2), .int (nI 3), .int (nI 2), .int (nI 1), .ref mas, .int (nI 0), .int (nI 0), .int (nI 0), .ref mso, .ref mon, .ref mot, .ref man, .int (nI 0), .int (nI 0), .ref mst, .ref msm, .ref mtb, .ref mti, .ref mfr, .ref mbn, .ref mbs, .ref mde, .int (nI 0), .int (nI 0), .int (nI 0), .int (nI 0), .long 0, .long 0, .ref maa, .ref mab, .ref mba, .ref mbb]))] := hD
  obtain rfl : r_23 = nI 0 := by rw [hw_r_23]; decide +kernel
  refine lv_if_ne (tgt := 37) hx hb dX12_spreads_31 (by decide) (fun c => absurd (by decide) c) (fun _ => ?_)
  refine lv_goto (tgt := 108) hx hb dX12_spreads_34 (by decide) ?_
  refine lv_iinc (v := nI 9) (lv' := [(4, .int (nI 9)), (5, .int (nI 0)), (3, .int (nI 0)), (0, .ref hm), (1, .int (nI 1)), (2, .int (nI 0))]) hx hb dX12_spreads_108 hl (k := 0) rfl (by decide) (by decide) rfl ?_
  clear hl
  try clear ls
  intro ls hl
  refine lv_goto (tgt := 13) hx hb dX12_spreads_111 (by decide) ?_
  refine lv_iload hx hb dX12_spreads_13 (lv_at hl 0 rfl) ?_
  refine lv_iconst (v := nI 1) hx hb dX12_spreads_15 (by decide) ?_
  refine lv_aload_n hx hb dX12_spreads_16 rfl (lv_at hl 3 rfl) ?_
  refine xget C hP 10 rfl rfl zuX12 4 (by decide) zw5_217 rfl dX12_spreads_17 ?_
  refine lv_ishl hx hb dX12_spreads_20 ?_
  refine lv_topi (nm_r (e' := nI 16) (by decide) ?_)
  refine lv_icmp_ge (tgt := 114) hx hb dX12_spreads_21 (by decide) (fun c => absurd c (by decide)) (fun _ => ?_)
  refine lv_aload_n hx hb dX12_spreads_24 rfl (lv_at hl 3 rfl) ?_
  refine lv_iload_n hx hb dX12_spreads_25 rfl (lv_at hl 2 rfl) ?_
  refine lv_iload hx hb dX12_spreads_26 (lv_at hl 0 rfl) ?_
  refine xi (wr := [(ti1, .inl (cs 1, 2001, .inr (.inl u1))), (st1, .inl (cs 0, 96048, .inl q1)), (ms, .inl (cs 0, 288, .inl freshS)), (msm, .inl (cs 0, 2, .inl (smF2 (nI 1) b0))), (mst, .inl (cs 5, 2, .inr (.inr (.inr (.inr fst))))), (st0, .inl (cs 0, 96048, .inl (cpF freshS q0 48))), (mtb, .inl (cs 5, 2, .inr (.inr (.inr (.inr ftb))))), (tb0, .inl (cs 0, 8192, .inl (upd (fun _ => nI 0) 965 (nI 1)))), (mti, .inl (cs 6, 2, .inr (.inr (.inr (.inr fti))))), (ti0, .inl (cs 1, 2001, .inr (.inl (vp_updL u0 0 (lN (ww * 1))))))]) (xV (As := [.int (nI 0), .int (nI 9)]) (rest := []) C (c_X12_isSample_x l D cs hm ms mkp mtr mas mso mon mot man mst msm mtb mti mfr mbn mbs mde maa mab mba mbb 0 9 (by decide) (by decide)) kX12_139 hP hD [10] rfl (by decide +kernel) 0 rfl rfl rfl ⟨Nat.le_of_ble_eq_true rfl, Nat.le_of_ble_eq_true rfl⟩ rfl hl.1 rfl (Nat.le_of_ble_eq_true rfl) dX12_spreads_28 ⟨Nat.le_of_ble_eq_true rfl, Nat.le_of_ble_eq_true rfl⟩) hP hD hS hA [10] [0, 1, 2, 3, 4, 5, 6, 7, 8, 9] rfl rfl (by decide +kernel) (by decide +kernel) ?_
  clear hP hD hS
  try clear locs
  try clear H
  intro r_25 u_26 H locs hw_r_25 hP hD hS
  have hw_r_25 : r_25 = smB 0 9 := hw_r_25
  refine W.widen (k := 0) (n := 0) (Nat.le_of_ble_eq_true rfl) (Nat.le_of_ble_eq_true rfl) ?_
  replace hP : va_P D vwCl [(ti1, .inl (cs 1, 2001, .inr (.inl u1))), (st1, .inl (cs 0, 96048, .inl q1)), (ms, .inl (cs 0, 288, .inl freshS)), (msm, .inl (cs 0, 2, .inl (smF2 (nI 1) b0))), (mst, .inl (cs 5, 2, .inr (.inr (.inr (.inr fst))))), (st0, .inl (cs 0, 96048, .inl (cpF freshS q0 48))), (mtb, .inl (cs 5, 2, .inr (.inr (.inr (.inr ftb))))), (tb0, .inl (cs 0, 8192, .inl (upd (fun _ => nI 0) 965 (nI 1)))), (mti, .inl (cs 6, 2, .inr (.inr (.inr (.inr fti))))), (ti0, .inl (cs 1, 2001, .inr (.inl (vp_updL u0 0 (lN (ww * 1)))))), (hm, .inr (12, [.ref ms, .ref mkp, .int (nI 0), .ref mtr, .int (nI 4), .int (nI 2), .int (nI 2), .int (nI 3), .int (nI 2), .int (nI 1), .ref mas, .int (nI 0), .int (nI 0), .int (nI 0), .ref mso, .ref mon, .ref mot, .ref man, .int (nI 0), .int (nI 0), .ref mst, .ref msm, .ref mtb, .ref mti, .ref mfr, .ref mbn, .ref mbs, .ref mde, .int (nI 0), .int (nI 0), .int (nI 0), .int (nI 0), .long 0, .long 0, .ref maa, .ref mab, .ref mba, .ref mbb]))] H := hP
  replace hD : va_D A [(ti1, .inl (cs 1, 2001, .inr (.inl u1))), (st1, .inl (cs 0, 96048, .inl q1)), (ms, .inl (cs 0, 288, .inl freshS)), (msm, .inl (cs 0, 2, .inl (smF2 (nI 1) b0))), (mst, .inl (cs 5, 2, .inr (.inr (.inr (.inr fst))))), (st0, .inl (cs 0, 96048, .inl (cpF freshS q0 48))), (mtb, .inl (cs 5, 2, .inr (.inr (.inr (.inr ftb))))), (tb0, .inl (cs 0, 8192, .inl (upd (fun _ => nI 0) 965 (nI 1)))), (mti, .inl (cs 6, 2, .inr (.inr (.inr (.inr fti))))), (ti0, .inl (cs 1, 2001, .inr (.inl (vp_updL u0 0 (lN (ww * 1)))))), (hm, .inr (12, [.ref ms, .ref mkp, .int (nI 0), .ref mtr, .int (nI 4), .int (nI 2), .int (nI 2), .int (nI 3), .int (nI 2), .int (nI 1), .ref mas, .int (nI 0), .int (nI 0), .int (nI 0), .ref mso, .ref mon, .ref mot, .ref man, .int (nI 0), .int (nI 0), .ref mst, .ref msm, .ref mtb, .ref mti, .ref mfr, .ref mbn, .ref mbs, .ref mde, .int (nI 0), .int (nI 0), .int (nI 0), .int (nI 0), .long 0, .long 0, .ref maa, .ref mab, .ref mba, .ref mbb]))] := hD
  obtain rfl : r_25 = nI 0 := by rw [hw_r_25]; decide +kernel
  refine lv_if_ne (tgt := 37) hx hb dX12_spreads_31 (by decide) (fun c => absurd (by decide) c) (fun _ => ?_)
  refine lv_goto (tgt := 108) hx hb dX12_spreads_34 (by decide) ?_
  refine lv_iinc (v := nI 10) (lv' := [(4, .int (nI 10)), (5, .int (nI 0)), (3, .int (nI 0)), (0, .ref hm), (1, .int (nI 1)), (2, .int (nI 0))]) hx hb dX12_spreads_108 hl (k := 0) rfl (by decide) (by decide) rfl ?_
  clear hl
  try clear ls
  intro ls hl
  refine lv_goto (tgt := 13) hx hb dX12_spreads_111 (by decide) ?_
  refine lv_iload hx hb dX12_spreads_13 (lv_at hl 0 rfl) ?_
  refine lv_iconst (v := nI 1) hx hb dX12_spreads_15 (by decide) ?_
  refine lv_aload_n hx hb dX12_spreads_16 rfl (lv_at hl 3 rfl) ?_
  refine xget C hP 10 rfl rfl zuX12 4 (by decide) zw5_217 rfl dX12_spreads_17 ?_
  refine lv_ishl hx hb dX12_spreads_20 ?_
  refine lv_topi (nm_r (e' := nI 16) (by decide) ?_)
  refine lv_icmp_ge (tgt := 114) hx hb dX12_spreads_21 (by decide) (fun c => absurd c (by decide)) (fun _ => ?_)
  refine lv_aload_n hx hb dX12_spreads_24 rfl (lv_at hl 3 rfl) ?_
  refine lv_iload_n hx hb dX12_spreads_25 rfl (lv_at hl 2 rfl) ?_
  refine lv_iload hx hb dX12_spreads_26 (lv_at hl 0 rfl) ?_
  refine xi (wr := [(ti1, .inl (cs 1, 2001, .inr (.inl u1))), (st1, .inl (cs 0, 96048, .inl q1)), (ms, .inl (cs 0, 288, .inl freshS)), (msm, .inl (cs 0, 2, .inl (smF2 (nI 1) b0))), (mst, .inl (cs 5, 2, .inr (.inr (.inr (.inr fst))))), (st0, .inl (cs 0, 96048, .inl (cpF freshS q0 48))), (mtb, .inl (cs 5, 2, .inr (.inr (.inr (.inr ftb))))), (tb0, .inl (cs 0, 8192, .inl (upd (fun _ => nI 0) 965 (nI 1)))), (mti, .inl (cs 6, 2, .inr (.inr (.inr (.inr fti))))), (ti0, .inl (cs 1, 2001, .inr (.inl (vp_updL u0 0 (lN (ww * 1))))))]) (xV (As := [.int (nI 0), .int (nI 10)]) (rest := []) C (c_X12_isSample_x l D cs hm ms mkp mtr mas mso mon mot man mst msm mtb mti mfr mbn mbs mde maa mab mba mbb 0 10 (by decide) (by decide)) kX12_139 hP hD [10] rfl (by decide +kernel) 0 rfl rfl rfl ⟨Nat.le_of_ble_eq_true rfl, Nat.le_of_ble_eq_true rfl⟩ rfl hl.1 rfl (Nat.le_of_ble_eq_true rfl) dX12_spreads_28 ⟨Nat.le_of_ble_eq_true rfl, Nat.le_of_ble_eq_true rfl⟩) hP hD hS hA [10] [0, 1, 2, 3, 4, 5, 6, 7, 8, 9] rfl rfl (by decide +kernel) (by decide +kernel) ?_
  clear hP hD hS
  try clear locs
  try clear H
  intro r_27 u_28 H locs hw_r_27 hP hD hS
  have hw_r_27 : r_27 = smB 0 10 := hw_r_27
  refine W.widen (k := 0) (n := 0) (Nat.le_of_ble_eq_true rfl) (Nat.le_of_ble_eq_true rfl) ?_
  replace hP : va_P D vwCl [(ti1, .inl (cs 1, 2001, .inr (.inl u1))), (st1, .inl (cs 0, 96048, .inl q1)), (ms, .inl (cs 0, 288, .inl freshS)), (msm, .inl (cs 0, 2, .inl (smF2 (nI 1) b0))), (mst, .inl (cs 5, 2, .inr (.inr (.inr (.inr fst))))), (st0, .inl (cs 0, 96048, .inl (cpF freshS q0 48))), (mtb, .inl (cs 5, 2, .inr (.inr (.inr (.inr ftb))))), (tb0, .inl (cs 0, 8192, .inl (upd (fun _ => nI 0) 965 (nI 1)))), (mti, .inl (cs 6, 2, .inr (.inr (.inr (.inr fti))))), (ti0, .inl (cs 1, 2001, .inr (.inl (vp_updL u0 0 (lN (ww * 1)))))), (hm, .inr (12, [.ref ms, .ref mkp, .int (nI 0), .ref mtr, .int (nI 4), .int (nI 2), .int (nI 2), .int (nI 3), .int (nI 2), .int (nI 1), .ref mas, .int (nI 0), .int (nI 0), .int (nI 0), .ref mso, .ref mon, .ref mot, .ref man, .int (nI 0), .int (nI 0), .ref mst, .ref msm, .ref mtb, .ref mti, .ref mfr, .ref mbn, .ref mbs, .ref mde, .int (nI 0), .int (nI 0), .int (nI 0), .int (nI 0), .long 0, .long 0, .ref maa, .ref mab, .ref mba, .ref mbb]))] H := hP
  replace hD : va_D A [(ti1, .inl (cs 1, 2001, .inr (.inl u1))), (st1, .inl (cs 0, 96048, .inl q1)), (ms, .inl (cs 0, 288, .inl freshS)), (msm, .inl (cs 0, 2, .inl (smF2 (nI 1) b0))), (mst, .inl (cs 5, 2, .inr (.inr (.inr (.inr fst))))), (st0, .inl (cs 0, 96048, .inl (cpF freshS q0 48))), (mtb, .inl (cs 5, 2, .inr (.inr (.inr (.inr ftb))))), (tb0, .inl (cs 0, 8192, .inl (upd (fun _ => nI 0) 965 (nI 1)))), (mti, .inl (cs 6, 2, .inr (.inr (.inr (.inr fti))))), (ti0, .inl (cs 1, 2001, .inr (.inl (vp_updL u0 0 (lN (ww * 1)))))), (hm, .inr (12, [.ref ms, .ref mkp, .int (nI 0), .ref mtr, .int (nI 4), .int (nI 2), .int (nI 2), .int (nI 3), .int (nI 2), .int (nI 1), .ref mas, .int (nI 0), .int (nI 0), .int (nI 0), .ref mso, .ref mon, .ref mot, .ref man, .int (nI 0), .int (nI 0), .ref mst, .ref msm, .ref mtb, .ref mti, .ref mfr, .ref mbn, .ref mbs, .ref mde, .int (nI 0), .int (nI 0), .int (nI 0), .int (nI 0), .long 0, .long 0, .ref maa, .ref mab, .ref mba, .ref mbb]))] := hD
  obtain rfl : r_27 = nI 1 := by rw [hw_r_27]; decide +kernel
  refine lv_if_ne (tgt := 37) hx hb dX12_spreads_31 (by decide) (fun _ => ?_) (fun c => absurd c (by decide))
  refine lv_aload_n hx hb dX12_spreads_37 rfl (lv_at hl 3 rfl) ?_
  refine lv_iload_n hx hb dX12_spreads_38 rfl (lv_at hl 4 rfl) ?_
  refine lv_iload_n hx hb dX12_spreads_39 rfl (lv_at hl 5 rfl) ?_
  refine xv (wr := [(ti1, .inl (cs 1, 2001, .inr (.inl u1))), (msm, .inl (cs 0, 2, .inl (smF2 (nI 1) b0))), (st0, .inl (cs 0, 96048, .inl (cpF freshS q0 48))), (mtb, .inl (cs 5, 2, .inr (.inr (.inr (.inr ftb))))), (tb0, .inl (cs 0, 8192, .inl (upd (fun _ => nI 0) 965 (nI 1)))), (mti, .inl (cs 6, 2, .inr (.inr (.inr (.inr fti))))), (ti0, .inl (cs 1, 2001, .inr (.inl (vp_updL u0 0 (lN (ww * 1))))))]) (xV (As := [.int (nI 1), .int (nI 0)]) (rest := []) C (c_X12_brings_1 l D cs hm ms mkp mtr mas mso mon mot man mst msm mtb mti mfr mbn mbs mde maa mab mba mbb st1 fst q1 hf1 hq) kX12_203 hP hD [10, 2, 4, 1] rfl (by decide +kernel) 0 rfl rfl rfl ⟨Nat.le_of_ble_eq_true rfl, Nat.le_of_ble_eq_true rfl⟩ rfl hl.1 rfl (Nat.le_of_ble_eq_true rfl) dX12_spreads_40 ⟨Nat.le_of_ble_eq_true rfl, Nat.le_of_ble_eq_true rfl⟩) hP hD hS hA [10, 2, 4, 1] [0, 3, 5, 6, 7, 8, 9] rfl rfl (by decide +kernel) (by decide +kernel) ?_
  clear hP hD hS
  try clear locs
  try clear H
  intro u_30 H locs hw_r_29 hP hD hS
  refine W.widen (k := 0) (n := 0) (Nat.le_of_ble_eq_true rfl) (Nat.le_of_ble_eq_true rfl) ?_
  replace hP : va_P D vwCl [(ti1, .inl (cs 1, 2001, .inr (.inl u1))), (msm, .inl (cs 0, 2, .inl (smF2 (nI 1) b0))), (st0, .inl (cs 0, 96048, .inl (cpF freshS q0 48))), (mtb, .inl (cs 5, 2, .inr (.inr (.inr (.inr ftb))))), (tb0, .inl (cs 0, 8192, .inl (upd (fun _ => nI 0) 965 (nI 1)))), (mti, .inl (cs 6, 2, .inr (.inr (.inr (.inr fti))))), (ti0, .inl (cs 1, 2001, .inr (.inl (vp_updL u0 0 (lN (ww * 1)))))), (hm, .inr (12, [.ref ms, .ref mkp, .int (nI 0), .ref mtr, .int (nI 4), .int (nI 2), .int (nI 2), .int (nI 3), .int (nI 2), .int (nI 1), .ref mas, .int (nI 0), .int (nI 0), .int (nI 0), .ref mso, .ref mon, .ref mot, .ref man, .int (nI 0), .int (nI 0), .ref mst, .ref msm, .ref mtb, .ref mti, .ref mfr, .ref mbn, .ref mbs, .ref mde, .int (nI 0), .int (nI 0), .int (nI 0), .int (nI 0), .long 0, .long 0, .ref maa, .ref mab, .ref mba, .ref mbb])), (ms, .inl (cs 0, 288, .inl freshS)), (mst, .inl (cs 5, 2, .inr (.inr (.inr (.inr fst))))), (st1, .inl (cs 0, 96048, .inl q1))] H := hP
  replace hD : va_D A [(ti1, .inl (cs 1, 2001, .inr (.inl u1))), (msm, .inl (cs 0, 2, .inl (smF2 (nI 1) b0))), (st0, .inl (cs 0, 96048, .inl (cpF freshS q0 48))), (mtb, .inl (cs 5, 2, .inr (.inr (.inr (.inr ftb))))), (tb0, .inl (cs 0, 8192, .inl (upd (fun _ => nI 0) 965 (nI 1)))), (mti, .inl (cs 6, 2, .inr (.inr (.inr (.inr fti))))), (ti0, .inl (cs 1, 2001, .inr (.inl (vp_updL u0 0 (lN (ww * 1)))))), (hm, .inr (12, [.ref ms, .ref mkp, .int (nI 0), .ref mtr, .int (nI 4), .int (nI 2), .int (nI 2), .int (nI 3), .int (nI 2), .int (nI 1), .ref mas, .int (nI 0), .int (nI 0), .int (nI 0), .ref mso, .ref mon, .ref mot, .ref man, .int (nI 0), .int (nI 0), .ref mst, .ref msm, .ref mtb, .ref mti, .ref mfr, .ref mbn, .ref mbs, .ref mde, .int (nI 0), .int (nI 0), .int (nI 0), .int (nI 0), .long 0, .long 0, .ref maa, .ref mab, .ref mba, .ref mbb])), (ms, .inl (cs 0, 288, .inl freshS)), (mst, .inl (cs 5, 2, .inr (.inr (.inr (.inr fst))))), (st1, .inl (cs 0, 96048, .inl q1))] := hD
  refine lv_aload_n hx hb dX12_spreads_43 rfl (lv_at hl 3 rfl) ?_
  refine lv_iload_n hx hb dX12_spreads_44 rfl (lv_at hl 2 rfl) ?_
  refine xi (wr := [(ti1, .inl (cs 1, 2001, .inr (.inl u1))), (msm, .inl (cs 0, 2, .inl (smF2 (nI 1) b0))), (st0, .inl (cs 0, 96048, .inl (cpF freshS q0 48))), (mtb, .inl (cs 5, 2, .inr (.inr (.inr (.inr ftb))))), (tb0, .inl (cs 0, 8192, .inl (upd (fun _ => nI 0) 965 (nI 1)))), (mti, .inl (cs 6, 2, .inr (.inr (.inr (.inr fti))))), (ti0, .inl (cs 1, 2001, .inr (.inl (vp_updL u0 0 (lN (ww * 1)))))), (mst, .inl (cs 5, 2, .inr (.inr (.inr (.inr fst))))), (st1, .inl (cs 0, 96048, .inl q1))]) (xV (As := [.int (nI 0)]) (rest := []) C (c_X12_canAsk_z l D cs hm ms mkp mtr mas mso mon mot man mst msm mtb mti mfr mbn mbs mde maa mab mba mbb 0 (by decide)) kX12_142 hP hD [7, 8] rfl (by decide +kernel) 0 rfl rfl rfl ⟨Nat.le_of_ble_eq_true rfl, Nat.le_of_ble_eq_true rfl⟩ rfl hl.1 rfl (Nat.le_of_ble_eq_true rfl) dX12_spreads_45 ⟨Nat.le_of_ble_eq_true rfl, Nat.le_of_ble_eq_true rfl⟩) hP hD hS hA [7, 8] [0, 1, 2, 3, 4, 5, 6, 9, 10] rfl rfl (by decide +kernel) (by decide +kernel) ?_
  clear hP hD hS
  try clear locs
  try clear H
  intro r_31 u_32 H locs hw_r_31 hP hD hS
  have hw_r_31 : r_31 = nI 0 := hw_r_31
  refine W.widen (k := 0) (n := 0) (Nat.le_of_ble_eq_true rfl) (Nat.le_of_ble_eq_true rfl) ?_
  replace hP : va_P D vwCl [(ti1, .inl (cs 1, 2001, .inr (.inl u1))), (msm, .inl (cs 0, 2, .inl (smF2 (nI 1) b0))), (st0, .inl (cs 0, 96048, .inl (cpF freshS q0 48))), (mtb, .inl (cs 5, 2, .inr (.inr (.inr (.inr ftb))))), (tb0, .inl (cs 0, 8192, .inl (upd (fun _ => nI 0) 965 (nI 1)))), (mti, .inl (cs 6, 2, .inr (.inr (.inr (.inr fti))))), (ti0, .inl (cs 1, 2001, .inr (.inl (vp_updL u0 0 (lN (ww * 1)))))), (mst, .inl (cs 5, 2, .inr (.inr (.inr (.inr fst))))), (st1, .inl (cs 0, 96048, .inl q1)), (hm, .inr (12, [.ref ms, .ref mkp, .int (nI 0), .ref mtr, .int (nI 4), .int (nI 2), .int (nI 2), .int (nI 3), .int (nI 2), .int (nI 1), .ref mas, .int (nI 0), .int (nI 0), .int (nI 0), .ref mso, .ref mon, .ref mot, .ref man, .int (nI 0), .int (nI 0), .ref mst, .ref msm, .ref mtb, .ref mti, .ref mfr, .ref mbn, .ref mbs, .ref mde, .int (nI 0), .int (nI 0), .int (nI 0), .int (nI 0), .long 0, .long 0, .ref maa, .ref mab, .ref mba, .ref mbb])), (ms, .inl (cs 0, 288, .inl freshS))] H := hP
  replace hD : va_D A [(ti1, .inl (cs 1, 2001, .inr (.inl u1))), (msm, .inl (cs 0, 2, .inl (smF2 (nI 1) b0))), (st0, .inl (cs 0, 96048, .inl (cpF freshS q0 48))), (mtb, .inl (cs 5, 2, .inr (.inr (.inr (.inr ftb))))), (tb0, .inl (cs 0, 8192, .inl (upd (fun _ => nI 0) 965 (nI 1)))), (mti, .inl (cs 6, 2, .inr (.inr (.inr (.inr fti))))), (ti0, .inl (cs 1, 2001, .inr (.inl (vp_updL u0 0 (lN (ww * 1)))))), (mst, .inl (cs 5, 2, .inr (.inr (.inr (.inr fst))))), (st1, .inl (cs 0, 96048, .inl q1)), (hm, .inr (12, [.ref ms, .ref mkp, .int (nI 0), .ref mtr, .int (nI 4), .int (nI 2), .int (nI 2), .int (nI 3), .int (nI 2), .int (nI 1), .ref mas, .int (nI 0), .int (nI 0), .int (nI 0), .ref mso, .ref mon, .ref mot, .ref man, .int (nI 0), .int (nI 0), .ref mst, .ref msm, .ref mtb, .ref mti, .ref mfr, .ref mbn, .ref mbs, .ref mde, .int (nI 0), .int (nI 0), .int (nI 0), .int (nI 0), .long 0, .long 0, .ref maa, .ref mab, .ref mba, .ref mbb])), (ms, .inl (cs 0, 288, .inl freshS))] := hD
  subst hw_r_31
  refine lv_if_eq (tgt := 67) hx hb dX12_spreads_48 (by decide) (fun _ => ?_) (fun c => absurd (by decide) c)
  refine lv_aload_n hx hb dX12_spreads_67 rfl (lv_at hl 3 rfl) ?_
  refine lv_iconst (v := nI 1) hx hb dX12_spreads_68 (by decide) ?_
  refine lv_iload_n hx hb dX12_spreads_69 rfl (lv_at hl 4 rfl) ?_
  refine lv_isub hx hb dX12_spreads_70 ?_
  refine lv_topi (nm_r (e' := nI 0) (by decide) ?_)
  refine lv_sipush (v := nI 2000) hx hb dX12_spreads_71 (by decide) ?_
  refine xi (wr := [(ti1, .inl (cs 1, 2001, .inr (.inl u1))), (st1, .inl (cs 0, 96048, .inl q1))]) (xV (As := [.int (nI 0), .int (nI 2000)]) (rest := []) C (c_X12_numberOf_b0 l D cs hm ms mkp mtr mas mso mon mot man mst msm mtb mti mfr mbn mbs mde maa mab mba mbb st0 tb0 ti0 fst ftb fti (smF2 (nI 1) b0) (cpF freshS q0 48) (upd (fun _ => nI 0) 965 (nI 1)) (vp_updL u0 0 (lN (ww * 1))) hf0 hg ht0 (if_pos rfl) (fun j hj => cpF_lt hj)) kX12_197 hP hD [9, 10, 1, 7, 2, 3, 4, 5, 6] rfl (by decide +kernel) 0 rfl rfl rfl ⟨Nat.le_of_ble_eq_true rfl, Nat.le_of_ble_eq_true rfl⟩ rfl hl.1 rfl (Nat.le_of_ble_eq_true rfl) dX12_spreads_74 ⟨Nat.le_of_ble_eq_true rfl, Nat.le_of_ble_eq_true rfl⟩) hP hD hS hA [9, 10, 1, 7, 2, 3, 4, 5, 6] [0, 8] rfl rfl (by decide +kernel) (by decide +kernel) ?_
  clear hP hD hS
  try clear locs
  try clear H
  intro r_33 u_34 H locs hw_r_33 hP hD hS
  have hw_r_33 : r_33 = nI 0 := hw_r_33
  refine W.widen (k := 0) (n := 0) (Nat.le_of_ble_eq_true rfl) (Nat.le_of_ble_eq_true rfl) ?_
  replace hP : va_P D vwCl [(ti1, .inl (cs 1, 2001, .inr (.inl u1))), (st1, .inl (cs 0, 96048, .inl q1)), (hm, .inr (12, [.ref ms, .ref mkp, .int (nI 0), .ref mtr, .int (nI 4), .int (nI 2), .int (nI 2), .int (nI 3), .int (nI 2), .int (nI 1), .ref mas, .int (nI 0), .int (nI 0), .int (nI 0), .ref mso, .ref mon, .ref mot, .ref man, .int (nI 0), .int (nI 0), .ref mst, .ref msm, .ref mtb, .ref mti, .ref mfr, .ref mbn, .ref mbs, .ref mde, .int (nI 0), .int (nI 0), .int (nI 0), .int (nI 0), .long 0, .long 0, .ref maa, .ref mab, .ref mba, .ref mbb])), (ms, .inl (cs 0, 288, .inl freshS)), (msm, .inl (cs 0, 2, .inl (smF2 (nI 1) b0))), (mst, .inl (cs 5, 2, .inr (.inr (.inr (.inr fst))))), (st0, .inl (cs 0, 96048, .inl (cpF freshS q0 48))), (mtb, .inl (cs 5, 2, .inr (.inr (.inr (.inr ftb))))), (tb0, .inl (cs 0, 8192, .inl (upd (fun _ => nI 0) 965 (nI 1)))), (mti, .inl (cs 6, 2, .inr (.inr (.inr (.inr fti))))), (ti0, .inl (cs 1, 2001, .inr (.inl (vp_updL u0 0 (lN (ww * 1))))))] H := hP
  replace hD : va_D A [(ti1, .inl (cs 1, 2001, .inr (.inl u1))), (st1, .inl (cs 0, 96048, .inl q1)), (hm, .inr (12, [.ref ms, .ref mkp, .int (nI 0), .ref mtr, .int (nI 4), .int (nI 2), .int (nI 2), .int (nI 3), .int (nI 2), .int (nI 1), .ref mas, .int (nI 0), .int (nI 0), .int (nI 0), .ref mso, .ref mon, .ref mot, .ref man, .int (nI 0), .int (nI 0), .ref mst, .ref msm, .ref mtb, .ref mti, .ref mfr, .ref mbn, .ref mbs, .ref mde, .int (nI 0), .int (nI 0), .int (nI 0), .int (nI 0), .long 0, .long 0, .ref maa, .ref mab, .ref mba, .ref mbb])), (ms, .inl (cs 0, 288, .inl freshS)), (msm, .inl (cs 0, 2, .inl (smF2 (nI 1) b0))), (mst, .inl (cs 5, 2, .inr (.inr (.inr (.inr fst))))), (st0, .inl (cs 0, 96048, .inl (cpF freshS q0 48))), (mtb, .inl (cs 5, 2, .inr (.inr (.inr (.inr ftb))))), (tb0, .inl (cs 0, 8192, .inl (upd (fun _ => nI 0) 965 (nI 1)))), (mti, .inl (cs 6, 2, .inr (.inr (.inr (.inr fti))))), (ti0, .inl (cs 1, 2001, .inr (.inl (vp_updL u0 0 (lN (ww * 1))))))] := hD
  subst hw_r_33
  refine lv_istore (lv' := [(5, .int (nI 0)), (4, .int (nI 10)), (3, .int (nI 0)), (0, .ref hm), (1, .int (nI 1)), (2, .int (nI 0))]) hx hb dX12_spreads_77 hl (by decide) rfl ?_
  clear hl
  try clear ls
  intro ls hl
  refine lv_iload hx hb dX12_spreads_79 (lv_at hl 0 rfl) ?_
  refine lv_if_ge (tgt := 86) hx hb dX12_spreads_81 (by decide) (fun _ => ?_) (fun c => absurd (by decide) c)
  refine lv_aload_n hx hb dX12_spreads_86 rfl (lv_at hl 3 rfl) ?_
  refine xget C hP 2 rfl rfl zuX12 23 (by decide) zw5_236 rfl dX12_spreads_87 ?_
  refine lv_iconst (v := nI 1) hx hb dX12_spreads_90 (by decide) ?_
  refine lv_iload_n hx hb dX12_spreads_91 rfl (lv_at hl 4 rfl) ?_
  refine lv_isub hx hb dX12_spreads_92 ?_
  refine lv_topi (nm_r (e' := nI 0) (by decide) ?_)
  refine xaald C hP 9 6 rfl rfl rfl 0 rfl (by decide) (by decide) ht0 dX12_spreads_93 ?_
  refine lv_iload hx hb dX12_spreads_94 (lv_at hl 0 rfl) ?_
  refine lv_dup2_11 hx hb dX12_spreads_96 rfl rfl ?_
  refine xlald C hP 10 rfl 0 rfl (by decide) (by decide) dX12_spreads_97 ?_
  refine lv_topl (nm_r (e' := lN (ww * 1)) (upL_0 _ _) ?_)
  refine lv_aload_n hx hb dX12_spreads_98 rfl (lv_at hl 3 rfl) ?_
  refine xget C hP 2 rfl rfl zuX12 23 (by decide) zw5_236 rfl dX12_spreads_99 ?_
  refine lv_iload_n hx hb dX12_spreads_102 rfl (lv_at hl 4 rfl) ?_
  refine xaald C hP 9 6 rfl rfl rfl 1 rfl (by decide) (by decide) ht1 dX12_spreads_103 ?_
  refine lv_iload_n hx hb dX12_spreads_104 rfl (lv_at hl 5 rfl) ?_
  refine xlald C hP 0 rfl 0 rfl (by decide) (by decide) dX12_spreads_105 ?_
  refine lv_topl (nm_r (e' := lN ww) hw ?_)
  refine lv_ladd hx hb dX12_spreads_106 ?_
  refine lv_topl (nm_r (e' := lN (ww * 2)) (lN_a ww 1) ?_)
  refine xlast C hP hD hS 10 rfl 0 rfl (by decide) (by decide) dX12_spreads_107 ?_
  clear hP hD hS
  try clear locs
  try clear H
  intro H locs hP hD hS
  replace hP : va_P D vwCl [(ti1, .inl (cs 1, 2001, .inr (.inl u1))), (st1, .inl (cs 0, 96048, .inl q1)), (hm, .inr (12, [.ref ms, .ref mkp, .int (nI 0), .ref mtr, .int (nI 4), .int (nI 2), .int (nI 2), .int (nI 3), .int (nI 2), .int (nI 1), .ref mas, .int (nI 0), .int (nI 0), .int (nI 0), .ref mso, .ref mon, .ref mot, .ref man, .int (nI 0), .int (nI 0), .ref mst, .ref msm, .ref mtb, .ref mti, .ref mfr, .ref mbn, .ref mbs, .ref mde, .int (nI 0), .int (nI 0), .int (nI 0), .int (nI 0), .long 0, .long 0, .ref maa, .ref mab, .ref mba, .ref mbb])), (ms, .inl (cs 0, 288, .inl freshS)), (msm, .inl (cs 0, 2, .inl (smF2 (nI 1) b0))), (mst, .inl (cs 5, 2, .inr (.inr (.inr (.inr fst))))), (st0, .inl (cs 0, 96048, .inl (cpF freshS q0 48))), (mtb, .inl (cs 5, 2, .inr (.inr (.inr (.inr ftb))))), (tb0, .inl (cs 0, 8192, .inl (upd (fun _ => nI 0) 965 (nI 1)))), (mti, .inl (cs 6, 2, .inr (.inr (.inr (.inr fti))))), (ti0, .inl (cs 1, 2001, .inr (.inl (vp_updL (vp_updL u0 0 (lN (ww * 1))) 0 (lN (ww * 2))))))] H := hP
  replace hD : va_D A [(ti1, .inl (cs 1, 2001, .inr (.inl u1))), (st1, .inl (cs 0, 96048, .inl q1)), (hm, .inr (12, [.ref ms, .ref mkp, .int (nI 0), .ref mtr, .int (nI 4), .int (nI 2), .int (nI 2), .int (nI 3), .int (nI 2), .int (nI 1), .ref mas, .int (nI 0), .int (nI 0), .int (nI 0), .ref mso, .ref mon, .ref mot, .ref man, .int (nI 0), .int (nI 0), .ref mst, .ref msm, .ref mtb, .ref mti, .ref mfr, .ref mbn, .ref mbs, .ref mde, .int (nI 0), .int (nI 0), .int (nI 0), .int (nI 0), .long 0, .long 0, .ref maa, .ref mab, .ref mba, .ref mbb])), (ms, .inl (cs 0, 288, .inl freshS)), (msm, .inl (cs 0, 2, .inl (smF2 (nI 1) b0))), (mst, .inl (cs 5, 2, .inr (.inr (.inr (.inr fst))))), (st0, .inl (cs 0, 96048, .inl (cpF freshS q0 48))), (mtb, .inl (cs 5, 2, .inr (.inr (.inr (.inr ftb))))), (tb0, .inl (cs 0, 8192, .inl (upd (fun _ => nI 0) 965 (nI 1)))), (mti, .inl (cs 6, 2, .inr (.inr (.inr (.inr fti))))), (ti0, .inl (cs 1, 2001, .inr (.inl (vp_updL (vp_updL u0 0 (lN (ww * 1))) 0 (lN (ww * 2))))))] := hD
  have hPD := xcongl (q0 := 10) (vp_updL u0 0 (lN (ww * 2))) hP hD rfl (fun j hj => upL_1 u0 _ _ j)
  clear hP hD
  obtain ⟨hP, hD⟩ := hPD
  replace hP : va_P D vwCl [(ti1, .inl (cs 1, 2001, .inr (.inl u1))), (st1, .inl (cs 0, 96048, .inl q1)), (hm, .inr (12, [.ref ms, .ref mkp, .int (nI 0), .ref mtr, .int (nI 4), .int (nI 2), .int (nI 2), .int (nI 3), .int (nI 2), .int (nI 1), .ref mas, .int (nI 0), .int (nI 0), .int (nI 0), .ref mso, .ref mon, .ref mot, .ref man, .int (nI 0), .int (nI 0), .ref mst, .ref msm, .ref mtb, .ref mti, .ref mfr, .ref mbn, .ref mbs, .ref mde, .int (nI 0), .int (nI 0), .int (nI 0), .int (nI 0), .long 0, .long 0, .ref maa, .ref mab, .ref mba, .ref mbb])), (ms, .inl (cs 0, 288, .inl freshS)), (msm, .inl (cs 0, 2, .inl (smF2 (nI 1) b0))), (mst, .inl (cs 5, 2, .inr (.inr (.inr (.inr fst))))), (st0, .inl (cs 0, 96048, .inl (cpF freshS q0 48))), (mtb, .inl (cs 5, 2, .inr (.inr (.inr (.inr ftb))))), (tb0, .inl (cs 0, 8192, .inl (upd (fun _ => nI 0) 965 (nI 1)))), (mti, .inl (cs 6, 2, .inr (.inr (.inr (.inr fti))))), (ti0, .inl (cs 1, 2001, .inr (.inl (vp_updL u0 0 (lN (ww * 2))))))] H := hP
  replace hD : va_D A [(ti1, .inl (cs 1, 2001, .inr (.inl u1))), (st1, .inl (cs 0, 96048, .inl q1)), (hm, .inr (12, [.ref ms, .ref mkp, .int (nI 0), .ref mtr, .int (nI 4), .int (nI 2), .int (nI 2), .int (nI 3), .int (nI 2), .int (nI 1), .ref mas, .int (nI 0), .int (nI 0), .int (nI 0), .ref mso, .ref mon, .ref mot, .ref man, .int (nI 0), .int (nI 0), .ref mst, .ref msm, .ref mtb, .ref mti, .ref mfr, .ref mbn, .ref mbs, .ref mde, .int (nI 0), .int (nI 0), .int (nI 0), .int (nI 0), .long 0, .long 0, .ref maa, .ref mab, .ref mba, .ref mbb])), (ms, .inl (cs 0, 288, .inl freshS)), (msm, .inl (cs 0, 2, .inl (smF2 (nI 1) b0))), (mst, .inl (cs 5, 2, .inr (.inr (.inr (.inr fst))))), (st0, .inl (cs 0, 96048, .inl (cpF freshS q0 48))), (mtb, .inl (cs 5, 2, .inr (.inr (.inr (.inr ftb))))), (tb0, .inl (cs 0, 8192, .inl (upd (fun _ => nI 0) 965 (nI 1)))), (mti, .inl (cs 6, 2, .inr (.inr (.inr (.inr fti))))), (ti0, .inl (cs 1, 2001, .inr (.inl (vp_updL u0 0 (lN (ww * 2))))))] := hD
  refine lv_iinc (v := nI 11) (lv' := [(4, .int (nI 11)), (5, .int (nI 0)), (3, .int (nI 0)), (0, .ref hm), (1, .int (nI 1)), (2, .int (nI 0))]) hx hb dX12_spreads_108 hl (k := 1) rfl (by decide) (by decide) rfl ?_
  clear hl
  try clear ls
  intro ls hl
  refine lv_goto (tgt := 13) hx hb dX12_spreads_111 (by decide) ?_
  refine lv_iload hx hb dX12_spreads_13 (lv_at hl 0 rfl) ?_
  refine lv_iconst (v := nI 1) hx hb dX12_spreads_15 (by decide) ?_
  refine lv_aload_n hx hb dX12_spreads_16 rfl (lv_at hl 3 rfl) ?_
  refine xget C hP 2 rfl rfl zuX12 4 (by decide) zw5_217 rfl dX12_spreads_17 ?_
  refine lv_ishl hx hb dX12_spreads_20 ?_
  refine lv_topi (nm_r (e' := nI 16) (by decide) ?_)
  refine lv_icmp_ge (tgt := 114) hx hb dX12_spreads_21 (by decide) (fun c => absurd c (by decide)) (fun _ => ?_)
  refine lv_aload_n hx hb dX12_spreads_24 rfl (lv_at hl 3 rfl) ?_
  refine lv_iload_n hx hb dX12_spreads_25 rfl (lv_at hl 2 rfl) ?_
  refine lv_iload hx hb dX12_spreads_26 (lv_at hl 0 rfl) ?_
  refine xi (wr := [(ti1, .inl (cs 1, 2001, .inr (.inl u1))), (st1, .inl (cs 0, 96048, .inl q1)), (ms, .inl (cs 0, 288, .inl freshS)), (msm, .inl (cs 0, 2, .inl (smF2 (nI 1) b0))), (mst, .inl (cs 5, 2, .inr (.inr (.inr (.inr fst))))), (st0, .inl (cs 0, 96048, .inl (cpF freshS q0 48))), (mtb, .inl (cs 5, 2, .inr (.inr (.inr (.inr ftb))))), (tb0, .inl (cs 0, 8192, .inl (upd (fun _ => nI 0) 965 (nI 1)))), (mti, .inl (cs 6, 2, .inr (.inr (.inr (.inr fti))))), (ti0, .inl (cs 1, 2001, .inr (.inl (vp_updL u0 0 (lN (ww * 2))))))]) (xV (As := [.int (nI 0), .int (nI 11)]) (rest := []) C (c_X12_isSample_x l D cs hm ms mkp mtr mas mso mon mot man mst msm mtb mti mfr mbn mbs mde maa mab mba mbb 0 11 (by decide) (by decide)) kX12_139 hP hD [2] rfl (by decide +kernel) 0 rfl rfl rfl ⟨Nat.le_of_ble_eq_true rfl, Nat.le_of_ble_eq_true rfl⟩ rfl hl.1 rfl (Nat.le_of_ble_eq_true rfl) dX12_spreads_28 ⟨Nat.le_of_ble_eq_true rfl, Nat.le_of_ble_eq_true rfl⟩) hP hD hS hA [2] [0, 1, 3, 4, 5, 6, 7, 8, 9, 10] rfl rfl (by decide +kernel) (by decide +kernel) ?_
  clear hP hD hS
  try clear locs
  try clear H
  intro r_35 u_36 H locs hw_r_35 hP hD hS
  have hw_r_35 : r_35 = smB 0 11 := hw_r_35
  refine W.widen (k := 0) (n := 0) (Nat.le_of_ble_eq_true rfl) (Nat.le_of_ble_eq_true rfl) ?_
  replace hP : va_P D vwCl [(ti1, .inl (cs 1, 2001, .inr (.inl u1))), (st1, .inl (cs 0, 96048, .inl q1)), (ms, .inl (cs 0, 288, .inl freshS)), (msm, .inl (cs 0, 2, .inl (smF2 (nI 1) b0))), (mst, .inl (cs 5, 2, .inr (.inr (.inr (.inr fst))))), (st0, .inl (cs 0, 96048, .inl (cpF freshS q0 48))), (mtb, .inl (cs 5, 2, .inr (.inr (.inr (.inr ftb))))), (tb0, .inl (cs 0, 8192, .inl (upd (fun _ => nI 0) 965 (nI 1)))), (mti, .inl (cs 6, 2, .inr (.inr (.inr (.inr fti))))), (ti0, .inl (cs 1, 2001, .inr (.inl (vp_updL u0 0 (lN (ww * 2)))))), (hm, .inr (12, [.ref ms, .ref mkp, .int (nI 0), .ref mtr, .int (nI 4), .int (nI 2), .int (nI 2), .int (nI 3), .int (nI 2), .int (nI 1), .ref mas, .int (nI 0), .int (nI 0), .int (nI 0), .ref mso, .ref mon, .ref mot, .ref man, .int (nI 0), .int (nI 0), .ref mst, .ref msm, .ref mtb, .ref mti, .ref mfr, .ref mbn, .ref mbs, .ref mde, .int (nI 0), .int (nI 0), .int (nI 0), .int (nI 0), .long 0, .long 0, .ref maa, .ref mab, .ref mba, .ref mbb]))] H := hP
  replace hD : va_D A [(ti1, .inl (cs 1, 2001, .inr (.inl u1))), (st1, .inl (cs 0, 96048, .inl q1)), (ms, .inl (cs 0, 288, .inl freshS)), (msm, .inl (cs 0, 2, .inl (smF2 (nI 1) b0))), (mst, .inl (cs 5, 2, .inr (.inr (.inr (.inr fst))))), (st0, .inl (cs 0, 96048, .inl (cpF freshS q0 48))), (mtb, .inl (cs 5, 2, .inr (.inr (.inr (.inr ftb))))), (tb0, .inl (cs 0, 8192, .inl (upd (fun _ => nI 0) 965 (nI 1)))), (mti, .inl (cs 6, 2, .inr (.inr (.inr (.inr fti))))), (ti0, .inl (cs 1, 2001, .inr (.inl (vp_updL u0 0 (lN (ww * 2)))))), (hm, .inr (12, [.ref ms, .ref mkp, .int (nI 0), .ref mtr, .int (nI 4), .int (nI 2), .int (nI 2), .int (nI 3), .int (nI 2), .int (nI 1), .ref mas, .int (nI 0), .int (nI 0), .int (nI 0), .ref mso, .ref mon, .ref mot, .ref man, .int (nI 0), .int (nI 0), .ref mst, .ref msm, .ref mtb, .ref mti, .ref mfr, .ref mbn, .ref mbs, .ref mde, .int (nI 0), .int (nI 0), .int (nI 0), .int (nI 0), .long 0, .long 0, .ref maa, .ref mab, .ref mba, .ref mbb]))] := hD
  obtain rfl : r_35 = nI 0 := by rw [hw_r_35]; decide +kernel
  refine lv_if_ne (tgt := 37) hx hb dX12_spreads_31 (by decide) (fun c => absurd (by decide) c) (fun _ => ?_)
  refine lv_goto (tgt := 108) hx hb dX12_spreads_34 (by decide) ?_
  refine lv_iinc (v := nI 12) (lv' := [(4, .int (nI 12)), (5, .int (nI 0)), (3, .int (nI 0)), (0, .ref hm), (1, .int (nI 1)), (2, .int (nI 0))]) hx hb dX12_spreads_108 hl (k := 0) rfl (by decide) (by decide) rfl ?_
  clear hl
  try clear ls
  intro ls hl
  refine lv_goto (tgt := 13) hx hb dX12_spreads_111 (by decide) ?_
  refine lv_iload hx hb dX12_spreads_13 (lv_at hl 0 rfl) ?_
  refine lv_iconst (v := nI 1) hx hb dX12_spreads_15 (by decide) ?_
  refine lv_aload_n hx hb dX12_spreads_16 rfl (lv_at hl 3 rfl) ?_
  refine xget C hP 10 rfl rfl zuX12 4 (by decide) zw5_217 rfl dX12_spreads_17 ?_
  refine lv_ishl hx hb dX12_spreads_20 ?_
  refine lv_topi (nm_r (e' := nI 16) (by decide) ?_)
  refine lv_icmp_ge (tgt := 114) hx hb dX12_spreads_21 (by decide) (fun c => absurd c (by decide)) (fun _ => ?_)
  refine lv_aload_n hx hb dX12_spreads_24 rfl (lv_at hl 3 rfl) ?_
  refine lv_iload_n hx hb dX12_spreads_25 rfl (lv_at hl 2 rfl) ?_
  refine lv_iload hx hb dX12_spreads_26 (lv_at hl 0 rfl) ?_
  refine xi (wr := [(ti1, .inl (cs 1, 2001, .inr (.inl u1))), (st1, .inl (cs 0, 96048, .inl q1)), (ms, .inl (cs 0, 288, .inl freshS)), (msm, .inl (cs 0, 2, .inl (smF2 (nI 1) b0))), (mst, .inl (cs 5, 2, .inr (.inr (.inr (.inr fst))))), (st0, .inl (cs 0, 96048, .inl (cpF freshS q0 48))), (mtb, .inl (cs 5, 2, .inr (.inr (.inr (.inr ftb))))), (tb0, .inl (cs 0, 8192, .inl (upd (fun _ => nI 0) 965 (nI 1)))), (mti, .inl (cs 6, 2, .inr (.inr (.inr (.inr fti))))), (ti0, .inl (cs 1, 2001, .inr (.inl (vp_updL u0 0 (lN (ww * 2))))))]) (xV (As := [.int (nI 0), .int (nI 12)]) (rest := []) C (c_X12_isSample_x l D cs hm ms mkp mtr mas mso mon mot man mst msm mtb mti mfr mbn mbs mde maa mab mba mbb 0 12 (by decide) (by decide)) kX12_139 hP hD [10] rfl (by decide +kernel) 0 rfl rfl rfl ⟨Nat.le_of_ble_eq_true rfl, Nat.le_of_ble_eq_true rfl⟩ rfl hl.1 rfl (Nat.le_of_ble_eq_true rfl) dX12_spreads_28 ⟨Nat.le_of_ble_eq_true rfl, Nat.le_of_ble_eq_true rfl⟩) hP hD hS hA [10] [0, 1, 2, 3, 4, 5, 6, 7, 8, 9] rfl rfl (by decide +kernel) (by decide +kernel) ?_
  clear hP hD hS
  try clear locs
  try clear H
  intro r_37 u_38 H locs hw_r_37 hP hD hS
  have hw_r_37 : r_37 = smB 0 12 := hw_r_37
  refine W.widen (k := 0) (n := 0) (Nat.le_of_ble_eq_true rfl) (Nat.le_of_ble_eq_true rfl) ?_
  replace hP : va_P D vwCl [(ti1, .inl (cs 1, 2001, .inr (.inl u1))), (st1, .inl (cs 0, 96048, .inl q1)), (ms, .inl (cs 0, 288, .inl freshS)), (msm, .inl (cs 0, 2, .inl (smF2 (nI 1) b0))), (mst, .inl (cs 5, 2, .inr (.inr (.inr (.inr fst))))), (st0, .inl (cs 0, 96048, .inl (cpF freshS q0 48))), (mtb, .inl (cs 5, 2, .inr (.inr (.inr (.inr ftb))))), (tb0, .inl (cs 0, 8192, .inl (upd (fun _ => nI 0) 965 (nI 1)))), (mti, .inl (cs 6, 2, .inr (.inr (.inr (.inr fti))))), (ti0, .inl (cs 1, 2001, .inr (.inl (vp_updL u0 0 (lN (ww * 2)))))), (hm, .inr (12, [.ref ms, .ref mkp, .int (nI 0), .ref mtr, .int (nI 4), .int (nI 2), .int (nI 2), .int (nI 3), .int (nI 2), .int (nI 1), .ref mas, .int (nI 0), .int (nI 0), .int (nI 0), .ref mso, .ref mon, .ref mot, .ref man, .int (nI 0), .int (nI 0), .ref mst, .ref msm, .ref mtb, .ref mti, .ref mfr, .ref mbn, .ref mbs, .ref mde, .int (nI 0), .int (nI 0), .int (nI 0), .int (nI 0), .long 0, .long 0, .ref maa, .ref mab, .ref mba, .ref mbb]))] H := hP
  replace hD : va_D A [(ti1, .inl (cs 1, 2001, .inr (.inl u1))), (st1, .inl (cs 0, 96048, .inl q1)), (ms, .inl (cs 0, 288, .inl freshS)), (msm, .inl (cs 0, 2, .inl (smF2 (nI 1) b0))), (mst, .inl (cs 5, 2, .inr (.inr (.inr (.inr fst))))), (st0, .inl (cs 0, 96048, .inl (cpF freshS q0 48))), (mtb, .inl (cs 5, 2, .inr (.inr (.inr (.inr ftb))))), (tb0, .inl (cs 0, 8192, .inl (upd (fun _ => nI 0) 965 (nI 1)))), (mti, .inl (cs 6, 2, .inr (.inr (.inr (.inr fti))))), (ti0, .inl (cs 1, 2001, .inr (.inl (vp_updL u0 0 (lN (ww * 2)))))), (hm, .inr (12, [.ref ms, .ref mkp, .int (nI 0), .ref mtr, .int (nI 4), .int (nI 2), .int (nI 2), .int (nI 3), .int (nI 2), .int (nI 1), .ref mas, .int (nI 0), .int (nI 0), .int (nI 0), .ref mso, .ref mon, .ref mot, .ref man, .int (nI 0), .int (nI 0), .ref mst, .ref msm, .ref mtb, .ref mti, .ref mfr, .ref mbn, .ref mbs, .ref mde, .int (nI 0), .int (nI 0), .int (nI 0), .int (nI 0), .long 0, .long 0, .ref maa, .ref mab, .ref mba, .ref mbb]))] := hD
  obtain rfl : r_37 = nI 1 := by rw [hw_r_37]; decide +kernel
  refine lv_if_ne (tgt := 37) hx hb dX12_spreads_31 (by decide) (fun _ => ?_) (fun c => absurd c (by decide))
  refine lv_aload_n hx hb dX12_spreads_37 rfl (lv_at hl 3 rfl) ?_
  refine lv_iload_n hx hb dX12_spreads_38 rfl (lv_at hl 4 rfl) ?_
  refine lv_iload_n hx hb dX12_spreads_39 rfl (lv_at hl 5 rfl) ?_
  refine xv (wr := [(ti1, .inl (cs 1, 2001, .inr (.inl u1))), (msm, .inl (cs 0, 2, .inl (smF2 (nI 1) b0))), (st0, .inl (cs 0, 96048, .inl (cpF freshS q0 48))), (mtb, .inl (cs 5, 2, .inr (.inr (.inr (.inr ftb))))), (tb0, .inl (cs 0, 8192, .inl (upd (fun _ => nI 0) 965 (nI 1)))), (mti, .inl (cs 6, 2, .inr (.inr (.inr (.inr fti))))), (ti0, .inl (cs 1, 2001, .inr (.inl (vp_updL u0 0 (lN (ww * 2))))))]) (xV (As := [.int (nI 1), .int (nI 0)]) (rest := []) C (c_X12_brings_1 l D cs hm ms mkp mtr mas mso mon mot man mst msm mtb mti mfr mbn mbs mde maa mab mba mbb st1 fst q1 hf1 hq) kX12_203 hP hD [10, 2, 4, 1] rfl (by decide +kernel) 0 rfl rfl rfl ⟨Nat.le_of_ble_eq_true rfl, Nat.le_of_ble_eq_true rfl⟩ rfl hl.1 rfl (Nat.le_of_ble_eq_true rfl) dX12_spreads_40 ⟨Nat.le_of_ble_eq_true rfl, Nat.le_of_ble_eq_true rfl⟩) hP hD hS hA [10, 2, 4, 1] [0, 3, 5, 6, 7, 8, 9] rfl rfl (by decide +kernel) (by decide +kernel) ?_
  clear hP hD hS
  try clear locs
  try clear H
  intro u_40 H locs hw_r_39 hP hD hS
  refine W.widen (k := 0) (n := 0) (Nat.le_of_ble_eq_true rfl) (Nat.le_of_ble_eq_true rfl) ?_
  replace hP : va_P D vwCl [(ti1, .inl (cs 1, 2001, .inr (.inl u1))), (msm, .inl (cs 0, 2, .inl (smF2 (nI 1) b0))), (st0, .inl (cs 0, 96048, .inl (cpF freshS q0 48))), (mtb, .inl (cs 5, 2, .inr (.inr (.inr (.inr ftb))))), (tb0, .inl (cs 0, 8192, .inl (upd (fun _ => nI 0) 965 (nI 1)))), (mti, .inl (cs 6, 2, .inr (.inr (.inr (.inr fti))))), (ti0, .inl (cs 1, 2001, .inr (.inl (vp_updL u0 0 (lN (ww * 2)))))), (hm, .inr (12, [.ref ms, .ref mkp, .int (nI 0), .ref mtr, .int (nI 4), .int (nI 2), .int (nI 2), .int (nI 3), .int (nI 2), .int (nI 1), .ref mas, .int (nI 0), .int (nI 0), .int (nI 0), .ref mso, .ref mon, .ref mot, .ref man, .int (nI 0), .int (nI 0), .ref mst, .ref msm, .ref mtb, .ref mti, .ref mfr, .ref mbn, .ref mbs, .ref mde, .int (nI 0), .int (nI 0), .int (nI 0), .int (nI 0), .long 0, .long 0, .ref maa, .ref mab, .ref mba, .ref mbb])), (ms, .inl (cs 0, 288, .inl freshS)), (mst, .inl (cs 5, 2, .inr (.inr (.inr (.inr fst))))), (st1, .inl (cs 0, 96048, .inl q1))] H := hP
  replace hD : va_D A [(ti1, .inl (cs 1, 2001, .inr (.inl u1))), (msm, .inl (cs 0, 2, .inl (smF2 (nI 1) b0))), (st0, .inl (cs 0, 96048, .inl (cpF freshS q0 48))), (mtb, .inl (cs 5, 2, .inr (.inr (.inr (.inr ftb))))), (tb0, .inl (cs 0, 8192, .inl (upd (fun _ => nI 0) 965 (nI 1)))), (mti, .inl (cs 6, 2, .inr (.inr (.inr (.inr fti))))), (ti0, .inl (cs 1, 2001, .inr (.inl (vp_updL u0 0 (lN (ww * 2)))))), (hm, .inr (12, [.ref ms, .ref mkp, .int (nI 0), .ref mtr, .int (nI 4), .int (nI 2), .int (nI 2), .int (nI 3), .int (nI 2), .int (nI 1), .ref mas, .int (nI 0), .int (nI 0), .int (nI 0), .ref mso, .ref mon, .ref mot, .ref man, .int (nI 0), .int (nI 0), .ref mst, .ref msm, .ref mtb, .ref mti, .ref mfr, .ref mbn, .ref mbs, .ref mde, .int (nI 0), .int (nI 0), .int (nI 0), .int (nI 0), .long 0, .long 0, .ref maa, .ref mab, .ref mba, .ref mbb])), (ms, .inl (cs 0, 288, .inl freshS)), (mst, .inl (cs 5, 2, .inr (.inr (.inr (.inr fst))))), (st1, .inl (cs 0, 96048, .inl q1))] := hD
  refine lv_aload_n hx hb dX12_spreads_43 rfl (lv_at hl 3 rfl) ?_
  refine lv_iload_n hx hb dX12_spreads_44 rfl (lv_at hl 2 rfl) ?_
  refine xi (wr := [(ti1, .inl (cs 1, 2001, .inr (.inl u1))), (msm, .inl (cs 0, 2, .inl (smF2 (nI 1) b0))), (st0, .inl (cs 0, 96048, .inl (cpF freshS q0 48))), (mtb, .inl (cs 5, 2, .inr (.inr (.inr (.inr ftb))))), (tb0, .inl (cs 0, 8192, .inl (upd (fun _ => nI 0) 965 (nI 1)))), (mti, .inl (cs 6, 2, .inr (.inr (.inr (.inr fti))))), (ti0, .inl (cs 1, 2001, .inr (.inl (vp_updL u0 0 (lN (ww * 2)))))), (mst, .inl (cs 5, 2, .inr (.inr (.inr (.inr fst))))), (st1, .inl (cs 0, 96048, .inl q1))]) (xV (As := [.int (nI 0)]) (rest := []) C (c_X12_canAsk_z l D cs hm ms mkp mtr mas mso mon mot man mst msm mtb mti mfr mbn mbs mde maa mab mba mbb 0 (by decide)) kX12_142 hP hD [7, 8] rfl (by decide +kernel) 0 rfl rfl rfl ⟨Nat.le_of_ble_eq_true rfl, Nat.le_of_ble_eq_true rfl⟩ rfl hl.1 rfl (Nat.le_of_ble_eq_true rfl) dX12_spreads_45 ⟨Nat.le_of_ble_eq_true rfl, Nat.le_of_ble_eq_true rfl⟩) hP hD hS hA [7, 8] [0, 1, 2, 3, 4, 5, 6, 9, 10] rfl rfl (by decide +kernel) (by decide +kernel) ?_
  clear hP hD hS
  try clear locs
  try clear H
  intro r_41 u_42 H locs hw_r_41 hP hD hS
  have hw_r_41 : r_41 = nI 0 := hw_r_41
  refine W.widen (k := 0) (n := 0) (Nat.le_of_ble_eq_true rfl) (Nat.le_of_ble_eq_true rfl) ?_
  replace hP : va_P D vwCl [(ti1, .inl (cs 1, 2001, .inr (.inl u1))), (msm, .inl (cs 0, 2, .inl (smF2 (nI 1) b0))), (st0, .inl (cs 0, 96048, .inl (cpF freshS q0 48))), (mtb, .inl (cs 5, 2, .inr (.inr (.inr (.inr ftb))))), (tb0, .inl (cs 0, 8192, .inl (upd (fun _ => nI 0) 965 (nI 1)))), (mti, .inl (cs 6, 2, .inr (.inr (.inr (.inr fti))))), (ti0, .inl (cs 1, 2001, .inr (.inl (vp_updL u0 0 (lN (ww * 2)))))), (mst, .inl (cs 5, 2, .inr (.inr (.inr (.inr fst))))), (st1, .inl (cs 0, 96048, .inl q1)), (hm, .inr (12, [.ref ms, .ref mkp, .int (nI 0), .ref mtr, .int (nI 4), .int (nI 2), .int (nI 2), .int (nI 3), .int (nI 2), .int (nI 1), .ref mas, .int (nI 0), .int (nI 0), .int (nI 0), .ref mso, .ref mon, .ref mot, .ref man, .int (nI 0), .int (nI 0), .ref mst, .ref msm, .ref mtb, .ref mti, .ref mfr, .ref mbn, .ref mbs, .ref mde, .int (nI 0), .int (nI 0), .int (nI 0), .int (nI 0), .long 0, .long 0, .ref maa, .ref mab, .ref mba, .ref mbb])), (ms, .inl (cs 0, 288, .inl freshS))] H := hP
  replace hD : va_D A [(ti1, .inl (cs 1, 2001, .inr (.inl u1))), (msm, .inl (cs 0, 2, .inl (smF2 (nI 1) b0))), (st0, .inl (cs 0, 96048, .inl (cpF freshS q0 48))), (mtb, .inl (cs 5, 2, .inr (.inr (.inr (.inr ftb))))), (tb0, .inl (cs 0, 8192, .inl (upd (fun _ => nI 0) 965 (nI 1)))), (mti, .inl (cs 6, 2, .inr (.inr (.inr (.inr fti))))), (ti0, .inl (cs 1, 2001, .inr (.inl (vp_updL u0 0 (lN (ww * 2)))))), (mst, .inl (cs 5, 2, .inr (.inr (.inr (.inr fst))))), (st1, .inl (cs 0, 96048, .inl q1)), (hm, .inr (12, [.ref ms, .ref mkp, .int (nI 0), .ref mtr, .int (nI 4), .int (nI 2), .int (nI 2), .int (nI 3), .int (nI 2), .int (nI 1), .ref mas, .int (nI 0), .int (nI 0), .int (nI 0), .ref mso, .ref mon, .ref mot, .ref man, .int (nI 0), .int (nI 0), .ref mst, .ref msm, .ref mtb, .ref mti, .ref mfr, .ref mbn, .ref mbs, .ref mde, .int (nI 0), .int (nI 0), .int (nI 0), .int (nI 0), .long 0, .long 0, .ref maa, .ref mab, .ref mba, .ref mbb])), (ms, .inl (cs 0, 288, .inl freshS))] := hD
  subst hw_r_41
  refine lv_if_eq (tgt := 67) hx hb dX12_spreads_48 (by decide) (fun _ => ?_) (fun c => absurd (by decide) c)
  refine lv_aload_n hx hb dX12_spreads_67 rfl (lv_at hl 3 rfl) ?_
  refine lv_iconst (v := nI 1) hx hb dX12_spreads_68 (by decide) ?_
  refine lv_iload_n hx hb dX12_spreads_69 rfl (lv_at hl 4 rfl) ?_
  refine lv_isub hx hb dX12_spreads_70 ?_
  refine lv_topi (nm_r (e' := nI 0) (by decide) ?_)
  refine lv_sipush (v := nI 2000) hx hb dX12_spreads_71 (by decide) ?_
  refine xi (wr := [(ti1, .inl (cs 1, 2001, .inr (.inl u1))), (st1, .inl (cs 0, 96048, .inl q1))]) (xV (As := [.int (nI 0), .int (nI 2000)]) (rest := []) C (c_X12_numberOf_b0 l D cs hm ms mkp mtr mas mso mon mot man mst msm mtb mti mfr mbn mbs mde maa mab mba mbb st0 tb0 ti0 fst ftb fti (smF2 (nI 1) b0) (cpF freshS q0 48) (upd (fun _ => nI 0) 965 (nI 1)) (vp_updL u0 0 (lN (ww * 2))) hf0 hg ht0 (if_pos rfl) (fun j hj => cpF_lt hj)) kX12_197 hP hD [9, 10, 1, 7, 2, 3, 4, 5, 6] rfl (by decide +kernel) 0 rfl rfl rfl ⟨Nat.le_of_ble_eq_true rfl, Nat.le_of_ble_eq_true rfl⟩ rfl hl.1 rfl (Nat.le_of_ble_eq_true rfl) dX12_spreads_74 ⟨Nat.le_of_ble_eq_true rfl, Nat.le_of_ble_eq_true rfl⟩) hP hD hS hA [9, 10, 1, 7, 2, 3, 4, 5, 6] [0, 8] rfl rfl (by decide +kernel) (by decide +kernel) ?_
  clear hP hD hS
  try clear locs
  try clear H
  intro r_43 u_44 H locs hw_r_43 hP hD hS
  have hw_r_43 : r_43 = nI 0 := hw_r_43
  refine W.widen (k := 0) (n := 0) (Nat.le_of_ble_eq_true rfl) (Nat.le_of_ble_eq_true rfl) ?_
  replace hP : va_P D vwCl [(ti1, .inl (cs 1, 2001, .inr (.inl u1))), (st1, .inl (cs 0, 96048, .inl q1)), (hm, .inr (12, [.ref ms, .ref mkp, .int (nI 0), .ref mtr, .int (nI 4), .int (nI 2), .int (nI 2), .int (nI 3), .int (nI 2), .int (nI 1), .ref mas, .int (nI 0), .int (nI 0), .int (nI 0), .ref mso, .ref mon, .ref mot, .ref man, .int (nI 0), .int (nI 0), .ref mst, .ref msm, .ref mtb, .ref mti, .ref mfr, .ref mbn, .ref mbs, .ref mde, .int (nI 0), .int (nI 0), .int (nI 0), .int (nI 0), .long 0, .long 0, .ref maa, .ref mab, .ref mba, .ref mbb])), (ms, .inl (cs 0, 288, .inl freshS)), (msm, .inl (cs 0, 2, .inl (smF2 (nI 1) b0))), (mst, .inl (cs 5, 2, .inr (.inr (.inr (.inr fst))))), (st0, .inl (cs 0, 96048, .inl (cpF freshS q0 48))), (mtb, .inl (cs 5, 2, .inr (.inr (.inr (.inr ftb))))), (tb0, .inl (cs 0, 8192, .inl (upd (fun _ => nI 0) 965 (nI 1)))), (mti, .inl (cs 6, 2, .inr (.inr (.inr (.inr fti))))), (ti0, .inl (cs 1, 2001, .inr (.inl (vp_updL u0 0 (lN (ww * 2))))))] H := hP
  replace hD : va_D A [(ti1, .inl (cs 1, 2001, .inr (.inl u1))), (st1, .inl (cs 0, 96048, .inl q1)), (hm, .inr (12, [.ref ms, .ref mkp, .int (nI 0), .ref mtr, .int (nI 4), .int (nI 2), .int (nI 2), .int (nI 3), .int (nI 2), .int (nI 1), .ref mas, .int (nI 0), .int (nI 0), .int (nI 0), .ref mso, .ref mon, .ref mot, .ref man, .int (nI 0), .int (nI 0), .ref mst, .ref msm, .ref mtb, .ref mti, .ref mfr, .ref mbn, .ref mbs, .ref mde, .int (nI 0), .int (nI 0), .int (nI 0), .int (nI 0), .long 0, .long 0, .ref maa, .ref mab, .ref mba, .ref mbb])), (ms, .inl (cs 0, 288, .inl freshS)), (msm, .inl (cs 0, 2, .inl (smF2 (nI 1) b0))), (mst, .inl (cs 5, 2, .inr (.inr (.inr (.inr fst))))), (st0, .inl (cs 0, 96048, .inl (cpF freshS q0 48))), (mtb, .inl (cs 5, 2, .inr (.inr (.inr (.inr ftb))))), (tb0, .inl (cs 0, 8192, .inl (upd (fun _ => nI 0) 965 (nI 1)))), (mti, .inl (cs 6, 2, .inr (.inr (.inr (.inr fti))))), (ti0, .inl (cs 1, 2001, .inr (.inl (vp_updL u0 0 (lN (ww * 2))))))] := hD
  subst hw_r_43
  refine lv_istore (lv' := [(5, .int (nI 0)), (4, .int (nI 12)), (3, .int (nI 0)), (0, .ref hm), (1, .int (nI 1)), (2, .int (nI 0))]) hx hb dX12_spreads_77 hl (by decide) rfl ?_
  clear hl
  try clear ls
  intro ls hl
  refine lv_iload hx hb dX12_spreads_79 (lv_at hl 0 rfl) ?_
  refine lv_if_ge (tgt := 86) hx hb dX12_spreads_81 (by decide) (fun _ => ?_) (fun c => absurd (by decide) c)
  refine lv_aload_n hx hb dX12_spreads_86 rfl (lv_at hl 3 rfl) ?_
  refine xget C hP 2 rfl rfl zuX12 23 (by decide) zw5_236 rfl dX12_spreads_87 ?_
  refine lv_iconst (v := nI 1) hx hb dX12_spreads_90 (by decide) ?_
  refine lv_iload_n hx hb dX12_spreads_91 rfl (lv_at hl 4 rfl) ?_
  refine lv_isub hx hb dX12_spreads_92 ?_
  refine lv_topi (nm_r (e' := nI 0) (by decide) ?_)
  refine xaald C hP 9 6 rfl rfl rfl 0 rfl (by decide) (by decide) ht0 dX12_spreads_93 ?_
  refine lv_iload hx hb dX12_spreads_94 (lv_at hl 0 rfl) ?_
  refine lv_dup2_11 hx hb dX12_spreads_96 rfl rfl ?_
  refine xlald C hP 10 rfl 0 rfl (by decide) (by decide) dX12_spreads_97 ?_
  refine lv_topl (nm_r (e' := lN (ww * 2)) (upL_0 _ _) ?_)
  refine lv_aload_n hx hb dX12_spreads_98 rfl (lv_at hl 3 rfl) ?_
  refine xget C hP 2 rfl rfl zuX12 23 (by decide) zw5_236 rfl dX12_spreads_99 ?_
  refine lv_iload_n hx hb dX12_spreads_102 rfl (lv_at hl 4 rfl) ?_
  refine xaald C hP 9 6 rfl rfl rfl 1 rfl (by decide) (by decide) ht1 dX12_spreads_103 ?_
  refine lv_iload_n hx hb dX12_spreads_104 rfl (lv_at hl 5 rfl) ?_
  refine xlald C hP 0 rfl 0 rfl (by decide) (by decide) dX12_spreads_105 ?_
  refine lv_topl (nm_r (e' := lN ww) hw ?_)
  refine lv_ladd hx hb dX12_spreads_106 ?_
  refine lv_topl (nm_r (e' := lN (ww * 3)) (lN_a ww 2) ?_)
  refine xlast C hP hD hS 10 rfl 0 rfl (by decide) (by decide) dX12_spreads_107 ?_
  clear hP hD hS
  try clear locs
  try clear H
  intro H locs hP hD hS
  replace hP : va_P D vwCl [(ti1, .inl (cs 1, 2001, .inr (.inl u1))), (st1, .inl (cs 0, 96048, .inl q1)), (hm, .inr (12, [.ref ms, .ref mkp, .int (nI 0), .ref mtr, .int (nI 4), .int (nI 2), .int (nI 2), .int (nI 3), .int (nI 2), .int (nI 1), .ref mas, .int (nI 0), .int (nI 0), .int (nI 0), .ref mso, .ref mon, .ref mot, .ref man, .int (nI 0), .int (nI 0), .ref mst, .ref msm, .ref mtb, .ref mti, .ref mfr, .ref mbn, .ref mbs, .ref mde, .int (nI 0), .int (nI 0), .int (nI 0), .int (nI 0), .long 0, .long 0, .ref maa, .ref mab, .ref mba, .ref mbb])), (ms, .inl (cs 0, 288, .inl freshS)), (msm, .inl (cs 0, 2, .inl (smF2 (nI 1) b0))), (mst, .inl (cs 5, 2, .inr (.inr (.inr (.inr fst))))), (st0, .inl (cs 0, 96048, .inl (cpF freshS q0 48))), (mtb, .inl (cs 5, 2, .inr (.inr (.inr (.inr ftb))))), (tb0, .inl (cs 0, 8192, .inl (upd (fun _ => nI 0) 965 (nI 1)))), (mti, .inl (cs 6, 2, .inr (.inr (.inr (.inr fti))))), (ti0, .inl (cs 1, 2001, .inr (.inl (vp_updL (vp_updL u0 0 (lN (ww * 2))) 0 (lN (ww * 3))))))] H := hP
  replace hD : va_D A [(ti1, .inl (cs 1, 2001, .inr (.inl u1))), (st1, .inl (cs 0, 96048, .inl q1)), (hm, .inr (12, [.ref ms, .ref mkp, .int (nI 0), .ref mtr, .int (nI 4), .int (nI 2), .int (nI 2), .int (nI 3), .int (nI 2), .int (nI 1), .ref mas, .int (nI 0), .int (nI 0), .int (nI 0), .ref mso, .ref mon, .ref mot, .ref man, .int (nI 0), .int (nI 0), .ref mst, .ref msm, .ref mtb, .ref mti, .ref mfr, .ref mbn, .ref mbs, .ref mde, .int (nI 0), .int (nI 0), .int (nI 0), .int (nI 0), .long 0, .long 0, .ref maa, .ref mab, .ref mba, .ref mbb])), (ms, .inl (cs 0, 288, .inl freshS)), (msm, .inl (cs 0, 2, .inl (smF2 (nI 1) b0))), (mst, .inl (cs 5, 2, .inr (.inr (.inr (.inr fst))))), (st0, .inl (cs 0, 96048, .inl (cpF freshS q0 48))), (mtb, .inl (cs 5, 2, .inr (.inr (.inr (.inr ftb))))), (tb0, .inl (cs 0, 8192, .inl (upd (fun _ => nI 0) 965 (nI 1)))), (mti, .inl (cs 6, 2, .inr (.inr (.inr (.inr fti))))), (ti0, .inl (cs 1, 2001, .inr (.inl (vp_updL (vp_updL u0 0 (lN (ww * 2))) 0 (lN (ww * 3))))))] := hD
  have hPD := xcongl (q0 := 10) (vp_updL u0 0 (lN (ww * 3))) hP hD rfl (fun j hj => upL_1 u0 _ _ j)
  clear hP hD
  obtain ⟨hP, hD⟩ := hPD
  replace hP : va_P D vwCl [(ti1, .inl (cs 1, 2001, .inr (.inl u1))), (st1, .inl (cs 0, 96048, .inl q1)), (hm, .inr (12, [.ref ms, .ref mkp, .int (nI 0), .ref mtr, .int (nI 4), .int (nI 2), .int (nI 2), .int (nI 3), .int (nI 2), .int (nI 1), .ref mas, .int (nI 0), .int (nI 0), .int (nI 0), .ref mso, .ref mon, .ref mot, .ref man, .int (nI 0), .int (nI 0), .ref mst, .ref msm, .ref mtb, .ref mti, .ref mfr, .ref mbn, .ref mbs, .ref mde, .int (nI 0), .int (nI 0), .int (nI 0), .int (nI 0), .long 0, .long 0, .ref maa, .ref mab, .ref mba, .ref mbb])), (ms, .inl (cs 0, 288, .inl freshS)), (msm, .inl (cs 0, 2, .inl (smF2 (nI 1) b0))), (mst, .inl (cs 5, 2, .inr (.inr (.inr (.inr fst))))), (st0, .inl (cs 0, 96048, .inl (cpF freshS q0 48))), (mtb, .inl (cs 5, 2, .inr (.inr (.inr (.inr ftb))))), (tb0, .inl (cs 0, 8192, .inl (upd (fun _ => nI 0) 965 (nI 1)))), (mti, .inl (cs 6, 2, .inr (.inr (.inr (.inr fti))))), (ti0, .inl (cs 1, 2001, .inr (.inl (vp_updL u0 0 (lN (ww * 3))))))] H := hP
  replace hD : va_D A [(ti1, .inl (cs 1, 2001, .inr (.inl u1))), (st1, .inl (cs 0, 96048, .inl q1)), (hm, .inr (12, [.ref ms, .ref mkp, .int (nI 0), .ref mtr, .int (nI 4), .int (nI 2), .int (nI 2), .int (nI 3), .int (nI 2), .int (nI 1), .ref mas, .int (nI 0), .int (nI 0), .int (nI 0), .ref mso, .ref mon, .ref mot, .ref man, .int (nI 0), .int (nI 0), .ref mst, .ref msm, .ref mtb, .ref mti, .ref mfr, .ref mbn, .ref mbs, .ref mde, .int (nI 0), .int (nI 0), .int (nI 0), .int (nI 0), .long 0, .long 0, .ref maa, .ref mab, .ref mba, .ref mbb])), (ms, .inl (cs 0, 288, .inl freshS)), (msm, .inl (cs 0, 2, .inl (smF2 (nI 1) b0))), (mst, .inl (cs 5, 2, .inr (.inr (.inr (.inr fst))))), (st0, .inl (cs 0, 96048, .inl (cpF freshS q0 48))), (mtb, .inl (cs 5, 2, .inr (.inr (.inr (.inr ftb))))), (tb0, .inl (cs 0, 8192, .inl (upd (fun _ => nI 0) 965 (nI 1)))), (mti, .inl (cs 6, 2, .inr (.inr (.inr (.inr fti))))), (ti0, .inl (cs 1, 2001, .inr (.inl (vp_updL u0 0 (lN (ww * 3))))))] := hD
  refine lv_iinc (v := nI 13) (lv' := [(4, .int (nI 13)), (5, .int (nI 0)), (3, .int (nI 0)), (0, .ref hm), (1, .int (nI 1)), (2, .int (nI 0))]) hx hb dX12_spreads_108 hl (k := 1) rfl (by decide) (by decide) rfl ?_
  clear hl
  try clear ls
  intro ls hl
  refine lv_goto (tgt := 13) hx hb dX12_spreads_111 (by decide) ?_
  refine lv_iload hx hb dX12_spreads_13 (lv_at hl 0 rfl) ?_
  refine lv_iconst (v := nI 1) hx hb dX12_spreads_15 (by decide) ?_
  refine lv_aload_n hx hb dX12_spreads_16 rfl (lv_at hl 3 rfl) ?_
  refine xget C hP 2 rfl rfl zuX12 4 (by decide) zw5_217 rfl dX12_spreads_17 ?_
  refine lv_ishl hx hb dX12_spreads_20 ?_
  refine lv_topi (nm_r (e' := nI 16) (by decide) ?_)
  refine lv_icmp_ge (tgt := 114) hx hb dX12_spreads_21 (by decide) (fun c => absurd c (by decide)) (fun _ => ?_)
  refine lv_aload_n hx hb dX12_spreads_24 rfl (lv_at hl 3 rfl) ?_
  refine lv_iload_n hx hb dX12_spreads_25 rfl (lv_at hl 2 rfl) ?_
  refine lv_iload hx hb dX12_spreads_26 (lv_at hl 0 rfl) ?_
  refine xi (wr := [(ti1, .inl (cs 1, 2001, .inr (.inl u1))), (st1, .inl (cs 0, 96048, .inl q1)), (ms, .inl (cs 0, 288, .inl freshS)), (msm, .inl (cs 0, 2, .inl (smF2 (nI 1) b0))), (mst, .inl (cs 5, 2, .inr (.inr (.inr (.inr fst))))), (st0, .inl (cs 0, 96048, .inl (cpF freshS q0 48))), (mtb, .inl (cs 5, 2, .inr (.inr (.inr (.inr ftb))))), (tb0, .inl (cs 0, 8192, .inl (upd (fun _ => nI 0) 965 (nI 1)))), (mti, .inl (cs 6, 2, .inr (.inr (.inr (.inr fti))))), (ti0, .inl (cs 1, 2001, .inr (.inl (vp_updL u0 0 (lN (ww * 3))))))]) (xV (As := [.int (nI 0), .int (nI 13)]) (rest := []) C (c_X12_isSample_x l D cs hm ms mkp mtr mas mso mon mot man mst msm mtb mti mfr mbn mbs mde maa mab mba mbb 0 13 (by decide) (by decide)) kX12_139 hP hD [2] rfl (by decide +kernel) 0 rfl rfl rfl ⟨Nat.le_of_ble_eq_true rfl, Nat.le_of_ble_eq_true rfl⟩ rfl hl.1 rfl (Nat.le_of_ble_eq_true rfl) dX12_spreads_28 ⟨Nat.le_of_ble_eq_true rfl, Nat.le_of_ble_eq_true rfl⟩) hP hD hS hA [2] [0, 1, 3, 4, 5, 6, 7, 8, 9, 10] rfl rfl (by decide +kernel) (by decide +kernel) ?_
  clear hP hD hS
  try clear locs
  try clear H
  intro r_45 u_46 H locs hw_r_45 hP hD hS
  have hw_r_45 : r_45 = smB 0 13 := hw_r_45
  refine W.widen (k := 0) (n := 0) (Nat.le_of_ble_eq_true rfl) (Nat.le_of_ble_eq_true rfl) ?_
  replace hP : va_P D vwCl [(ti1, .inl (cs 1, 2001, .inr (.inl u1))), (st1, .inl (cs 0, 96048, .inl q1)), (ms, .inl (cs 0, 288, .inl freshS)), (msm, .inl (cs 0, 2, .inl (smF2 (nI 1) b0))), (mst, .inl (cs 5, 2, .inr (.inr (.inr (.inr fst))))), (st0, .inl (cs 0, 96048, .inl (cpF freshS q0 48))), (mtb, .inl (cs 5, 2, .inr (.inr (.inr (.inr ftb))))), (tb0, .inl (cs 0, 8192, .inl (upd (fun _ => nI 0) 965 (nI 1)))), (mti, .inl (cs 6, 2, .inr (.inr (.inr (.inr fti))))), (ti0, .inl (cs 1, 2001, .inr (.inl (vp_updL u0 0 (lN (ww * 3)))))), (hm, .inr (12, [.ref ms, .ref mkp, .int (nI 0), .ref mtr, .int (nI 4), .int (nI 2), .int (nI 2), .int (nI 3), .int (nI 2), .int (nI 1), .ref mas, .int (nI 0), .int (nI 0), .int (nI 0), .ref mso, .ref mon, .ref mot, .ref man, .int (nI 0), .int (nI 0), .ref mst, .ref msm, .ref mtb, .ref mti, .ref mfr, .ref mbn, .ref mbs, .ref mde, .int (nI 0), .int (nI 0), .int (nI 0), .int (nI 0), .long 0, .long 0, .ref maa, .ref mab, .ref mba, .ref mbb]))] H := hP
  replace hD : va_D A [(ti1, .inl (cs 1, 2001, .inr (.inl u1))), (st1, .inl (cs 0, 96048, .inl q1)), (ms, .inl (cs 0, 288, .inl freshS)), (msm, .inl (cs 0, 2, .inl (smF2 (nI 1) b0))), (mst, .inl (cs 5, 2, .inr (.inr (.inr (.inr fst))))), (st0, .inl (cs 0, 96048, .inl (cpF freshS q0 48))), (mtb, .inl (cs 5, 2, .inr (.inr (.inr (.inr ftb))))), (tb0, .inl (cs 0, 8192, .inl (upd (fun _ => nI 0) 965 (nI 1)))), (mti, .inl (cs 6, 2, .inr (.inr (.inr (.inr fti))))), (ti0, .inl (cs 1, 2001, .inr (.inl (vp_updL u0 0 (lN (ww * 3)))))), (hm, .inr (12, [.ref ms, .ref mkp, .int (nI 0), .ref mtr, .int (nI 4), .int (nI 2), .int (nI 2), .int (nI 3), .int (nI 2), .int (nI 1), .ref mas, .int (nI 0), .int (nI 0), .int (nI 0), .ref mso, .ref mon, .ref mot, .ref man, .int (nI 0), .int (nI 0), .ref mst, .ref msm, .ref mtb, .ref mti, .ref mfr, .ref mbn, .ref mbs, .ref mde, .int (nI 0), .int (nI 0), .int (nI 0), .int (nI 0), .long 0, .long 0, .ref maa, .ref mab, .ref mba, .ref mbb]))] := hD
  obtain rfl : r_45 = nI 0 := by rw [hw_r_45]; decide +kernel
  refine lv_if_ne (tgt := 37) hx hb dX12_spreads_31 (by decide) (fun c => absurd (by decide) c) (fun _ => ?_)
  refine lv_goto (tgt := 108) hx hb dX12_spreads_34 (by decide) ?_
  refine lv_iinc (v := nI 14) (lv' := [(4, .int (nI 14)), (5, .int (nI 0)), (3, .int (nI 0)), (0, .ref hm), (1, .int (nI 1)), (2, .int (nI 0))]) hx hb dX12_spreads_108 hl (k := 0) rfl (by decide) (by decide) rfl ?_
  clear hl
  try clear ls
  intro ls hl
  refine lv_goto (tgt := 13) hx hb dX12_spreads_111 (by decide) ?_
  refine lv_iload hx hb dX12_spreads_13 (lv_at hl 0 rfl) ?_
  refine lv_iconst (v := nI 1) hx hb dX12_spreads_15 (by decide) ?_
  refine lv_aload_n hx hb dX12_spreads_16 rfl (lv_at hl 3 rfl) ?_
  refine xget C hP 10 rfl rfl zuX12 4 (by decide) zw5_217 rfl dX12_spreads_17 ?_
  refine lv_ishl hx hb dX12_spreads_20 ?_
  refine lv_topi (nm_r (e' := nI 16) (by decide) ?_)
  refine lv_icmp_ge (tgt := 114) hx hb dX12_spreads_21 (by decide) (fun c => absurd c (by decide)) (fun _ => ?_)
  refine lv_aload_n hx hb dX12_spreads_24 rfl (lv_at hl 3 rfl) ?_
  refine lv_iload_n hx hb dX12_spreads_25 rfl (lv_at hl 2 rfl) ?_
  refine lv_iload hx hb dX12_spreads_26 (lv_at hl 0 rfl) ?_
  refine xi (wr := [(ti1, .inl (cs 1, 2001, .inr (.inl u1))), (st1, .inl (cs 0, 96048, .inl q1)), (ms, .inl (cs 0, 288, .inl freshS)), (msm, .inl (cs 0, 2, .inl (smF2 (nI 1) b0))), (mst, .inl (cs 5, 2, .inr (.inr (.inr (.inr fst))))), (st0, .inl (cs 0, 96048, .inl (cpF freshS q0 48))), (mtb, .inl (cs 5, 2, .inr (.inr (.inr (.inr ftb))))), (tb0, .inl (cs 0, 8192, .inl (upd (fun _ => nI 0) 965 (nI 1)))), (mti, .inl (cs 6, 2, .inr (.inr (.inr (.inr fti))))), (ti0, .inl (cs 1, 2001, .inr (.inl (vp_updL u0 0 (lN (ww * 3))))))]) (xV (As := [.int (nI 0), .int (nI 14)]) (rest := []) C (c_X12_isSample_x l D cs hm ms mkp mtr mas mso mon mot man mst msm mtb mti mfr mbn mbs mde maa mab mba mbb 0 14 (by decide) (by decide)) kX12_139 hP hD [10] rfl (by decide +kernel) 0 rfl rfl rfl ⟨Nat.le_of_ble_eq_true rfl, Nat.le_of_ble_eq_true rfl⟩ rfl hl.1 rfl (Nat.le_of_ble_eq_true rfl) dX12_spreads_28 ⟨Nat.le_of_ble_eq_true rfl, Nat.le_of_ble_eq_true rfl⟩) hP hD hS hA [10] [0, 1, 2, 3, 4, 5, 6, 7, 8, 9] rfl rfl (by decide +kernel) (by decide +kernel) ?_
  clear hP hD hS
  try clear locs
  try clear H
  intro r_47 u_48 H locs hw_r_47 hP hD hS
  have hw_r_47 : r_47 = smB 0 14 := hw_r_47
  refine W.widen (k := 0) (n := 0) (Nat.le_of_ble_eq_true rfl) (Nat.le_of_ble_eq_true rfl) ?_
  replace hP : va_P D vwCl [(ti1, .inl (cs 1, 2001, .inr (.inl u1))), (st1, .inl (cs 0, 96048, .inl q1)), (ms, .inl (cs 0, 288, .inl freshS)), (msm, .inl (cs 0, 2, .inl (smF2 (nI 1) b0))), (mst, .inl (cs 5, 2, .inr (.inr (.inr (.inr fst))))), (st0, .inl (cs 0, 96048, .inl (cpF freshS q0 48))), (mtb, .inl (cs 5, 2, .inr (.inr (.inr (.inr ftb))))), (tb0, .inl (cs 0, 8192, .inl (upd (fun _ => nI 0) 965 (nI 1)))), (mti, .inl (cs 6, 2, .inr (.inr (.inr (.inr fti))))), (ti0, .inl (cs 1, 2001, .inr (.inl (vp_updL u0 0 (lN (ww * 3)))))), (hm, .inr (12, [.ref ms, .ref mkp, .int (nI 0), .ref mtr, .int (nI 4), .int (nI 2), .int (nI 2), .int (nI 3), .int (nI 2), .int (nI 1), .ref mas, .int (nI 0), .int (nI 0), .int (nI 0), .ref mso, .ref mon, .ref mot, .ref man, .int (nI 0), .int (nI 0), .ref mst, .ref msm, .ref mtb, .ref mti, .ref mfr, .ref mbn, .ref mbs, .ref mde, .int (nI 0), .int (nI 0), .int (nI 0), .int (nI 0), .long 0, .long 0, .ref maa, .ref mab, .ref mba, .ref mbb]))] H := hP
  replace hD : va_D A [(ti1, .inl (cs 1, 2001, .inr (.inl u1))), (st1, .inl (cs 0, 96048, .inl q1)), (ms, .inl (cs 0, 288, .inl freshS)), (msm, .inl (cs 0, 2, .inl (smF2 (nI 1) b0))), (mst, .inl (cs 5, 2, .inr (.inr (.inr (.inr fst))))), (st0, .inl (cs 0, 96048, .inl (cpF freshS q0 48))), (mtb, .inl (cs 5, 2, .inr (.inr (.inr (.inr ftb))))), (tb0, .inl (cs 0, 8192, .inl (upd (fun _ => nI 0) 965 (nI 1)))), (mti, .inl (cs 6, 2, .inr (.inr (.inr (.inr fti))))), (ti0, .inl (cs 1, 2001, .inr (.inl (vp_updL u0 0 (lN (ww * 3)))))), (hm, .inr (12, [.ref ms, .ref mkp, .int (nI 0), .ref mtr, .int (nI 4), .int (nI 2), .int (nI 2), .int (nI 3), .int (nI 2), .int (nI 1), .ref mas, .int (nI 0), .int (nI 0), .int (nI 0), .ref mso, .ref mon, .ref mot, .ref man, .int (nI 0), .int (nI 0), .ref mst, .ref msm, .ref mtb, .ref mti, .ref mfr, .ref mbn, .ref mbs, .ref mde, .int (nI 0), .int (nI 0), .int (nI 0), .int (nI 0), .long 0, .long 0, .ref maa, .ref mab, .ref mba, .ref mbb]))] := hD
  obtain rfl : r_47 = nI 0 := by rw [hw_r_47]; decide +kernel
  refine lv_if_ne (tgt := 37) hx hb dX12_spreads_31 (by decide) (fun c => absurd (by decide) c) (fun _ => ?_)
  refine lv_goto (tgt := 108) hx hb dX12_spreads_34 (by decide) ?_
  refine lv_iinc (v := nI 15) (lv' := [(4, .int (nI 15)), (5, .int (nI 0)), (3, .int (nI 0)), (0, .ref hm), (1, .int (nI 1)), (2, .int (nI 0))]) hx hb dX12_spreads_108 hl (k := 0) rfl (by decide) (by decide) rfl ?_
  clear hl
  try clear ls
  intro ls hl
  refine lv_goto (tgt := 13) hx hb dX12_spreads_111 (by decide) ?_
  refine lv_iload hx hb dX12_spreads_13 (lv_at hl 0 rfl) ?_
  refine lv_iconst (v := nI 1) hx hb dX12_spreads_15 (by decide) ?_
  refine lv_aload_n hx hb dX12_spreads_16 rfl (lv_at hl 3 rfl) ?_
  refine xget C hP 10 rfl rfl zuX12 4 (by decide) zw5_217 rfl dX12_spreads_17 ?_
  refine lv_ishl hx hb dX12_spreads_20 ?_
  refine lv_topi (nm_r (e' := nI 16) (by decide) ?_)
  refine lv_icmp_ge (tgt := 114) hx hb dX12_spreads_21 (by decide) (fun c => absurd c (by decide)) (fun _ => ?_)
  refine lv_aload_n hx hb dX12_spreads_24 rfl (lv_at hl 3 rfl) ?_
  refine lv_iload_n hx hb dX12_spreads_25 rfl (lv_at hl 2 rfl) ?_
  refine lv_iload hx hb dX12_spreads_26 (lv_at hl 0 rfl) ?_
  refine xi (wr := [(ti1, .inl (cs 1, 2001, .inr (.inl u1))), (st1, .inl (cs 0, 96048, .inl q1)), (ms, .inl (cs 0, 288, .inl freshS)), (msm, .inl (cs 0, 2, .inl (smF2 (nI 1) b0))), (mst, .inl (cs 5, 2, .inr (.inr (.inr (.inr fst))))), (st0, .inl (cs 0, 96048, .inl (cpF freshS q0 48))), (mtb, .inl (cs 5, 2, .inr (.inr (.inr (.inr ftb))))), (tb0, .inl (cs 0, 8192, .inl (upd (fun _ => nI 0) 965 (nI 1)))), (mti, .inl (cs 6, 2, .inr (.inr (.inr (.inr fti))))), (ti0, .inl (cs 1, 2001, .inr (.inl (vp_updL u0 0 (lN (ww * 3))))))]) (xV (As := [.int (nI 0), .int (nI 15)]) (rest := []) C (c_X12_isSample_x l D cs hm ms mkp mtr mas mso mon mot man mst msm mtb mti mfr mbn mbs mde maa mab mba mbb 0 15 (by decide) (by decide)) kX12_139 hP hD [10] rfl (by decide +kernel) 0 rfl rfl rfl ⟨Nat.le_of_ble_eq_true rfl, Nat.le_of_ble_eq_true rfl⟩ rfl hl.1 rfl (Nat.le_of_ble_eq_true rfl) dX12_spreads_28 ⟨Nat.le_of_ble_eq_true rfl, Nat.le_of_ble_eq_true rfl⟩) hP hD hS hA [10] [0, 1, 2, 3, 4, 5, 6, 7, 8, 9] rfl rfl (by decide +kernel) (by decide +kernel) ?_
  clear hP hD hS
  try clear locs
  try clear H
  intro r_49 u_50 H locs hw_r_49 hP hD hS
  have hw_r_49 : r_49 = smB 0 15 := hw_r_49
  refine W.widen (k := 0) (n := 0) (Nat.le_of_ble_eq_true rfl) (Nat.le_of_ble_eq_true rfl) ?_
  replace hP : va_P D vwCl [(ti1, .inl (cs 1, 2001, .inr (.inl u1))), (st1, .inl (cs 0, 96048, .inl q1)), (ms, .inl (cs 0, 288, .inl freshS)), (msm, .inl (cs 0, 2, .inl (smF2 (nI 1) b0))), (mst, .inl (cs 5, 2, .inr (.inr (.inr (.inr fst))))), (st0, .inl (cs 0, 96048, .inl (cpF freshS q0 48))), (mtb, .inl (cs 5, 2, .inr (.inr (.inr (.inr ftb))))), (tb0, .inl (cs 0, 8192, .inl (upd (fun _ => nI 0) 965 (nI 1)))), (mti, .inl (cs 6, 2, .inr (.inr (.inr (.inr fti))))), (ti0, .inl (cs 1, 2001, .inr (.inl (vp_updL u0 0 (lN (ww * 3)))))), (hm, .inr (12, [.ref ms, .ref mkp, .int (nI 0), .ref mtr, .int (nI 4), .int (nI 2), .int (nI 2), .int (nI 3), .int (nI 2), .int (nI 1), .ref mas, .int (nI 0), .int (nI 0), .int (nI 0), .ref mso, .ref mon, .ref mot, .ref man, .int (nI 0), .int (nI 0), .ref mst, .ref msm, .ref mtb, .ref mti, .ref mfr, .ref mbn, .ref mbs, .ref mde, .int (nI 0), .int (nI 0), .int (nI 0), .int (nI 0), .long 0, .long 0, .ref maa, .ref mab, .ref mba, .ref mbb]))] H := hP
  replace hD : va_D A [(ti1, .inl (cs 1, 2001, .inr (.inl u1))), (st1, .inl (cs 0, 96048, .inl q1)), (ms, .inl (cs 0, 288, .inl freshS)), (msm, .inl (cs 0, 2, .inl (smF2 (nI 1) b0))), (mst, .inl (cs 5, 2, .inr (.inr (.inr (.inr fst))))), (st0, .inl (cs 0, 96048, .inl (cpF freshS q0 48))), (mtb, .inl (cs 5, 2, .inr (.inr (.inr (.inr ftb))))), (tb0, .inl (cs 0, 8192, .inl (upd (fun _ => nI 0) 965 (nI 1)))), (mti, .inl (cs 6, 2, .inr (.inr (.inr (.inr fti))))), (ti0, .inl (cs 1, 2001, .inr (.inl (vp_updL u0 0 (lN (ww * 3)))))), (hm, .inr (12, [.ref ms, .ref mkp, .int (nI 0), .ref mtr, .int (nI 4), .int (nI 2), .int (nI 2), .int (nI 3), .int (nI 2), .int (nI 1), .ref mas, .int (nI 0), .int (nI 0), .int (nI 0), .ref mso, .ref mon, .ref mot, .ref man, .int (nI 0), .int (nI 0), .ref mst, .ref msm, .ref mtb, .ref mti, .ref mfr, .ref mbn, .ref mbs, .ref mde, .int (nI 0), .int (nI 0), .int (nI 0), .int (nI 0), .long 0, .long 0, .ref maa, .ref mab, .ref mba, .ref mbb]))] := hD
  obtain rfl : r_49 = nI 0 := by rw [hw_r_49]; decide +kernel
  refine lv_if_ne (tgt := 37) hx hb dX12_spreads_31 (by decide) (fun c => absurd (by decide) c) (fun _ => ?_)
  refine lv_goto (tgt := 108) hx hb dX12_spreads_34 (by decide) ?_
  refine lv_iinc (v := nI 16) (lv' := [(4, .int (nI 16)), (5, .int (nI 0)), (3, .int (nI 0)), (0, .ref hm), (1, .int (nI 1)), (2, .int (nI 0))]) hx hb dX12_spreads_108 hl (k := 0) rfl (by decide) (by decide) rfl ?_
  clear hl
  try clear ls
  intro ls hl
  refine lv_goto (tgt := 13) hx hb dX12_spreads_111 (by decide) ?_
  refine lv_iload hx hb dX12_spreads_13 (lv_at hl 0 rfl) ?_
  refine lv_iconst (v := nI 1) hx hb dX12_spreads_15 (by decide) ?_
  refine lv_aload_n hx hb dX12_spreads_16 rfl (lv_at hl 3 rfl) ?_
  refine xget C hP 10 rfl rfl zuX12 4 (by decide) zw5_217 rfl dX12_spreads_17 ?_
  refine lv_ishl hx hb dX12_spreads_20 ?_
  refine lv_topi (nm_r (e' := nI 16) (by decide) ?_)
  refine lv_icmp_ge (tgt := 114) hx hb dX12_spreads_21 (by decide) (fun _ => ?_) (fun c => absurd (by decide) c)
  refine lv_iinc (v := nI 1) (lv' := [(3, .int (nI 1)), (4, .int (nI 16)), (5, .int (nI 0)), (0, .ref hm), (1, .int (nI 1)), (2, .int (nI 0))]) hx hb dX12_spreads_114 hl (k := 2) rfl (by decide) (by decide) rfl ?_
  clear hl
  try clear ls
  intro ls hl
  refine lv_goto (tgt := 2) hx hb dX12_spreads_117 (by decide) ?_
  refine lv_iload_n hx hb dX12_spreads_2 rfl (lv_at hl 0 rfl) ?_
  refine lv_aload_n hx hb dX12_spreads_3 rfl (lv_at hl 3 rfl) ?_
  refine xget C hP 10 rfl rfl zuX12 4 (by decide) zw5_217 rfl dX12_spreads_4 ?_
  refine lv_icmp_ge (tgt := 120) hx hb dX12_spreads_7 (by decide) (fun c => absurd c (by decide)) (fun _ => ?_)
  refine lv_iconst (v := nI 0) hx hb dX12_spreads_10 (by decide) ?_
  refine lv_istore (lv' := [(4, .int (nI 0)), (3, .int (nI 1)), (5, .int (nI 0)), (0, .ref hm), (1, .int (nI 1)), (2, .int (nI 0))]) hx hb dX12_spreads_11 hl (by decide) rfl ?_
  clear hl
  try clear ls
  intro ls hl
  refine lv_iload hx hb dX12_spreads_13 (lv_at hl 0 rfl) ?_
  refine lv_iconst (v := nI 1) hx hb dX12_spreads_15 (by decide) ?_
  refine lv_aload_n hx hb dX12_spreads_16 rfl (lv_at hl 3 rfl) ?_
  refine xget C hP 10 rfl rfl zuX12 4 (by decide) zw5_217 rfl dX12_spreads_17 ?_
  refine lv_ishl hx hb dX12_spreads_20 ?_
  refine lv_topi (nm_r (e' := nI 16) (by decide) ?_)
  refine lv_icmp_ge (tgt := 114) hx hb dX12_spreads_21 (by decide) (fun c => absurd c (by decide)) (fun _ => ?_)
  refine lv_aload_n hx hb dX12_spreads_24 rfl (lv_at hl 3 rfl) ?_
  refine lv_iload_n hx hb dX12_spreads_25 rfl (lv_at hl 1 rfl) ?_
  refine lv_iload hx hb dX12_spreads_26 (lv_at hl 0 rfl) ?_
  refine xi (wr := [(ti1, .inl (cs 1, 2001, .inr (.inl u1))), (st1, .inl (cs 0, 96048, .inl q1)), (ms, .inl (cs 0, 288, .inl freshS)), (msm, .inl (cs 0, 2, .inl (smF2 (nI 1) b0))), (mst, .inl (cs 5, 2, .inr (.inr (.inr (.inr fst))))), (st0, .inl (cs 0, 96048, .inl (cpF freshS q0 48))), (mtb, .inl (cs 5, 2, .inr (.inr (.inr (.inr ftb))))), (tb0, .inl (cs 0, 8192, .inl (upd (fun _ => nI 0) 965 (nI 1)))), (mti, .inl (cs 6, 2, .inr (.inr (.inr (.inr fti))))), (ti0, .inl (cs 1, 2001, .inr (.inl (vp_updL u0 0 (lN (ww * 3))))))]) (xV (As := [.int (nI 1), .int (nI 0)]) (rest := []) C (c_X12_isSample_x l D cs hm ms mkp mtr mas mso mon mot man mst msm mtb mti mfr mbn mbs mde maa mab mba mbb 1 0 (by decide) (by decide)) kX12_139 hP hD [10] rfl (by decide +kernel) 0 rfl rfl rfl ⟨Nat.le_of_ble_eq_true rfl, Nat.le_of_ble_eq_true rfl⟩ rfl hl.1 rfl (Nat.le_of_ble_eq_true rfl) dX12_spreads_28 ⟨Nat.le_of_ble_eq_true rfl, Nat.le_of_ble_eq_true rfl⟩) hP hD hS hA [10] [0, 1, 2, 3, 4, 5, 6, 7, 8, 9] rfl rfl (by decide +kernel) (by decide +kernel) ?_
  clear hP hD hS
  try clear locs
  try clear H
  intro r_51 u_52 H locs hw_r_51 hP hD hS
  have hw_r_51 : r_51 = smB 1 0 := hw_r_51
  refine W.widen (k := 0) (n := 0) (Nat.le_of_ble_eq_true rfl) (Nat.le_of_ble_eq_true rfl) ?_
  replace hP : va_P D vwCl [(ti1, .inl (cs 1, 2001, .inr (.inl u1))), (st1, .inl (cs 0, 96048, .inl q1)), (ms, .inl (cs 0, 288, .inl freshS)), (msm, .inl (cs 0, 2, .inl (smF2 (nI 1) b0))), (mst, .inl (cs 5, 2, .inr (.inr (.inr (.inr fst))))), (st0, .inl (cs 0, 96048, .inl (cpF freshS q0 48))), (mtb, .inl (cs 5, 2, .inr (.inr (.inr (.inr ftb))))), (tb0, .inl (cs 0, 8192, .inl (upd (fun _ => nI 0) 965 (nI 1)))), (mti, .inl (cs 6, 2, .inr (.inr (.inr (.inr fti))))), (ti0, .inl (cs 1, 2001, .inr (.inl (vp_updL u0 0 (lN (ww * 3)))))), (hm, .inr (12, [.ref ms, .ref mkp, .int (nI 0), .ref mtr, .int (nI 4), .int (nI 2), .int (nI 2), .int (nI 3), .int (nI 2), .int (nI 1), .ref mas, .int (nI 0), .int (nI 0), .int (nI 0), .ref mso, .ref mon, .ref mot, .ref man, .int (nI 0), .int (nI 0), .ref mst, .ref msm, .ref mtb, .ref mti, .ref mfr, .ref mbn, .ref mbs, .ref mde, .int (nI 0), .int (nI 0), .int (nI 0), .int (nI 0), .long 0, .long 0, .ref maa, .ref mab, .ref mba, .ref mbb]))] H := hP
  replace hD : va_D A [(ti1, .inl (cs 1, 2001, .inr (.inl u1))), (st1, .inl (cs 0, 96048, .inl q1)), (ms, .inl (cs 0, 288, .inl freshS)), (msm, .inl (cs 0, 2, .inl (smF2 (nI 1) b0))), (mst, .inl (cs 5, 2, .inr (.inr (.inr (.inr fst))))), (st0, .inl (cs 0, 96048, .inl (cpF freshS q0 48))), (mtb, .inl (cs 5, 2, .inr (.inr (.inr (.inr ftb))))), (tb0, .inl (cs 0, 8192, .inl (upd (fun _ => nI 0) 965 (nI 1)))), (mti, .inl (cs 6, 2, .inr (.inr (.inr (.inr fti))))), (ti0, .inl (cs 1, 2001, .inr (.inl (vp_updL u0 0 (lN (ww * 3)))))), (hm, .inr (12, [.ref ms, .ref mkp, .int (nI 0), .ref mtr, .int (nI 4), .int (nI 2), .int (nI 2), .int (nI 3), .int (nI 2), .int (nI 1), .ref mas, .int (nI 0), .int (nI 0), .int (nI 0), .ref mso, .ref mon, .ref mot, .ref man, .int (nI 0), .int (nI 0), .ref mst, .ref msm, .ref mtb, .ref mti, .ref mfr, .ref mbn, .ref mbs, .ref mde, .int (nI 0), .int (nI 0), .int (nI 0), .int (nI 0), .long 0, .long 0, .ref maa, .ref mab, .ref mba, .ref mbb]))] := hD
  obtain rfl : r_51 = nI 0 := by rw [hw_r_51]; decide +kernel
  refine lv_if_ne (tgt := 37) hx hb dX12_spreads_31 (by decide) (fun c => absurd (by decide) c) (fun _ => ?_)
  refine lv_goto (tgt := 108) hx hb dX12_spreads_34 (by decide) ?_
  refine lv_iinc (v := nI 1) (lv' := [(4, .int (nI 1)), (3, .int (nI 1)), (5, .int (nI 0)), (0, .ref hm), (1, .int (nI 1)), (2, .int (nI 0))]) hx hb dX12_spreads_108 hl (k := 0) rfl (by decide) (by decide) rfl ?_
  clear hl
  try clear ls
  intro ls hl
  refine lv_goto (tgt := 13) hx hb dX12_spreads_111 (by decide) ?_
  refine lv_iload hx hb dX12_spreads_13 (lv_at hl 0 rfl) ?_
  refine lv_iconst (v := nI 1) hx hb dX12_spreads_15 (by decide) ?_
  refine lv_aload_n hx hb dX12_spreads_16 rfl (lv_at hl 3 rfl) ?_
  refine xget C hP 10 rfl rfl zuX12 4 (by decide) zw5_217 rfl dX12_spreads_17 ?_
  refine lv_ishl hx hb dX12_spreads_20 ?_
  refine lv_topi (nm_r (e' := nI 16) (by decide) ?_)
  refine lv_icmp_ge (tgt := 114) hx hb dX12_spreads_21 (by decide) (fun c => absurd c (by decide)) (fun _ => ?_)
  refine lv_aload_n hx hb dX12_spreads_24 rfl (lv_at hl 3 rfl) ?_
  refine lv_iload_n hx hb dX12_spreads_25 rfl (lv_at hl 1 rfl) ?_
  refine lv_iload hx hb dX12_spreads_26 (lv_at hl 0 rfl) ?_
  refine xi (wr := [(ti1, .inl (cs 1, 2001, .inr (.inl u1))), (st1, .inl (cs 0, 96048, .inl q1)), (ms, .inl (cs 0, 288, .inl freshS)), (msm, .inl (cs 0, 2, .inl (smF2 (nI 1) b0))), (mst, .inl (cs 5, 2, .inr (.inr (.inr (.inr fst))))), (st0, .inl (cs 0, 96048, .inl (cpF freshS q0 48))), (mtb, .inl (cs 5, 2, .inr (.inr (.inr (.inr ftb))))), (tb0, .inl (cs 0, 8192, .inl (upd (fun _ => nI 0) 965 (nI 1)))), (mti, .inl (cs 6, 2, .inr (.inr (.inr (.inr fti))))), (ti0, .inl (cs 1, 2001, .inr (.inl (vp_updL u0 0 (lN (ww * 3))))))]) (xV (As := [.int (nI 1), .int (nI 1)]) (rest := []) C (c_X12_isSample_x l D cs hm ms mkp mtr mas mso mon mot man mst msm mtb mti mfr mbn mbs mde maa mab mba mbb 1 1 (by decide) (by decide)) kX12_139 hP hD [10] rfl (by decide +kernel) 0 rfl rfl rfl ⟨Nat.le_of_ble_eq_true rfl, Nat.le_of_ble_eq_true rfl⟩ rfl hl.1 rfl (Nat.le_of_ble_eq_true rfl) dX12_spreads_28 ⟨Nat.le_of_ble_eq_true rfl, Nat.le_of_ble_eq_true rfl⟩) hP hD hS hA [10] [0, 1, 2, 3, 4, 5, 6, 7, 8, 9] rfl rfl (by decide +kernel) (by decide +kernel) ?_
  clear hP hD hS
  try clear locs
  try clear H
  intro r_53 u_54 H locs hw_r_53 hP hD hS
  have hw_r_53 : r_53 = smB 1 1 := hw_r_53
  refine W.widen (k := 0) (n := 0) (Nat.le_of_ble_eq_true rfl) (Nat.le_of_ble_eq_true rfl) ?_
  replace hP : va_P D vwCl [(ti1, .inl (cs 1, 2001, .inr (.inl u1))), (st1, .inl (cs 0, 96048, .inl q1)), (ms, .inl (cs 0, 288, .inl freshS)), (msm, .inl (cs 0, 2, .inl (smF2 (nI 1) b0))), (mst, .inl (cs 5, 2, .inr (.inr (.inr (.inr fst))))), (st0, .inl (cs 0, 96048, .inl (cpF freshS q0 48))), (mtb, .inl (cs 5, 2, .inr (.inr (.inr (.inr ftb))))), (tb0, .inl (cs 0, 8192, .inl (upd (fun _ => nI 0) 965 (nI 1)))), (mti, .inl (cs 6, 2, .inr (.inr (.inr (.inr fti))))), (ti0, .inl (cs 1, 2001, .inr (.inl (vp_updL u0 0 (lN (ww * 3)))))), (hm, .inr (12, [.ref ms, .ref mkp, .int (nI 0), .ref mtr, .int (nI 4), .int (nI 2), .int (nI 2), .int (nI 3), .int (nI 2), .int (nI 1), .ref mas, .int (nI 0), .int (nI 0), .int (nI 0), .ref mso, .ref mon, .ref mot, .ref man, .int (nI 0), .int (nI 0), .ref mst, .ref msm, .ref mtb, .ref mti, .ref mfr, .ref mbn, .ref mbs, .ref mde, .int (nI 0), .int (nI 0), .int (nI 0), .int (nI 0), .long 0, .long 0, .ref maa, .ref mab, .ref mba, .ref mbb]))] H := hP
  replace hD : va_D A [(ti1, .inl (cs 1, 2001, .inr (.inl u1))), (st1, .inl (cs 0, 96048, .inl q1)), (ms, .inl (cs 0, 288, .inl freshS)), (msm, .inl (cs 0, 2, .inl (smF2 (nI 1) b0))), (mst, .inl (cs 5, 2, .inr (.inr (.inr (.inr fst))))), (st0, .inl (cs 0, 96048, .inl (cpF freshS q0 48))), (mtb, .inl (cs 5, 2, .inr (.inr (.inr (.inr ftb))))), (tb0, .inl (cs 0, 8192, .inl (upd (fun _ => nI 0) 965 (nI 1)))), (mti, .inl (cs 6, 2, .inr (.inr (.inr (.inr fti))))), (ti0, .inl (cs 1, 2001, .inr (.inl (vp_updL u0 0 (lN (ww * 3)))))), (hm, .inr (12, [.ref ms, .ref mkp, .int (nI 0), .ref mtr, .int (nI 4), .int (nI 2), .int (nI 2), .int (nI 3), .int (nI 2), .int (nI 1), .ref mas, .int (nI 0), .int (nI 0), .int (nI 0), .ref mso, .ref mon, .ref mot, .ref man, .int (nI 0), .int (nI 0), .ref mst, .ref msm, .ref mtb, .ref mti, .ref mfr, .ref mbn, .ref mbs, .ref mde, .int (nI 0), .int (nI 0), .int (nI 0), .int (nI 0), .long 0, .long 0, .ref maa, .ref mab, .ref mba, .ref mbb]))] := hD
  obtain rfl : r_53 = nI 0 := by rw [hw_r_53]; decide +kernel
  refine lv_if_ne (tgt := 37) hx hb dX12_spreads_31 (by decide) (fun c => absurd (by decide) c) (fun _ => ?_)
  refine lv_goto (tgt := 108) hx hb dX12_spreads_34 (by decide) ?_
  refine lv_iinc (v := nI 2) (lv' := [(4, .int (nI 2)), (3, .int (nI 1)), (5, .int (nI 0)), (0, .ref hm), (1, .int (nI 1)), (2, .int (nI 0))]) hx hb dX12_spreads_108 hl (k := 0) rfl (by decide) (by decide) rfl ?_
  clear hl
  try clear ls
  intro ls hl
  refine lv_goto (tgt := 13) hx hb dX12_spreads_111 (by decide) ?_
  refine lv_iload hx hb dX12_spreads_13 (lv_at hl 0 rfl) ?_
  refine lv_iconst (v := nI 1) hx hb dX12_spreads_15 (by decide) ?_
  refine lv_aload_n hx hb dX12_spreads_16 rfl (lv_at hl 3 rfl) ?_
  refine xget C hP 10 rfl rfl zuX12 4 (by decide) zw5_217 rfl dX12_spreads_17 ?_
  refine lv_ishl hx hb dX12_spreads_20 ?_
  refine lv_topi (nm_r (e' := nI 16) (by decide) ?_)
  refine lv_icmp_ge (tgt := 114) hx hb dX12_spreads_21 (by decide) (fun c => absurd c (by decide)) (fun _ => ?_)
  refine lv_aload_n hx hb dX12_spreads_24 rfl (lv_at hl 3 rfl) ?_
  refine lv_iload_n hx hb dX12_spreads_25 rfl (lv_at hl 1 rfl) ?_
  refine lv_iload hx hb dX12_spreads_26 (lv_at hl 0 rfl) ?_
  refine xi (wr := [(ti1, .inl (cs 1, 2001, .inr (.inl u1))), (st1, .inl (cs 0, 96048, .inl q1)), (ms, .inl (cs 0, 288, .inl freshS)), (msm, .inl (cs 0, 2, .inl (smF2 (nI 1) b0))), (mst, .inl (cs 5, 2, .inr (.inr (.inr (.inr fst))))), (st0, .inl (cs 0, 96048, .inl (cpF freshS q0 48))), (mtb, .inl (cs 5, 2, .inr (.inr (.inr (.inr ftb))))), (tb0, .inl (cs 0, 8192, .inl (upd (fun _ => nI 0) 965 (nI 1)))), (mti, .inl (cs 6, 2, .inr (.inr (.inr (.inr fti))))), (ti0, .inl (cs 1, 2001, .inr (.inl (vp_updL u0 0 (lN (ww * 3))))))]) (xV (As := [.int (nI 1), .int (nI 2)]) (rest := []) C (c_X12_isSample_x l D cs hm ms mkp mtr mas mso mon mot man mst msm mtb mti mfr mbn mbs mde maa mab mba mbb 1 2 (by decide) (by decide)) kX12_139 hP hD [10] rfl (by decide +kernel) 0 rfl rfl rfl ⟨Nat.le_of_ble_eq_true rfl, Nat.le_of_ble_eq_true rfl⟩ rfl hl.1 rfl (Nat.le_of_ble_eq_true rfl) dX12_spreads_28 ⟨Nat.le_of_ble_eq_true rfl, Nat.le_of_ble_eq_true rfl⟩) hP hD hS hA [10] [0, 1, 2, 3, 4, 5, 6, 7, 8, 9] rfl rfl (by decide +kernel) (by decide +kernel) ?_
  clear hP hD hS
  try clear locs
  try clear H
  intro r_55 u_56 H locs hw_r_55 hP hD hS
  have hw_r_55 : r_55 = smB 1 2 := hw_r_55
  refine W.widen (k := 0) (n := 0) (Nat.le_of_ble_eq_true rfl) (Nat.le_of_ble_eq_true rfl) ?_
  replace hP : va_P D vwCl [(ti1, .inl (cs 1, 2001, .inr (.inl u1))), (st1, .inl (cs 0, 96048, .inl q1)), (ms, .inl (cs 0, 288, .inl freshS)), (msm, .inl (cs 0, 2, .inl (smF2 (nI 1) b0))), (mst, .inl (cs 5, 2, .inr (.inr (.inr (.inr fst))))), (st0, .inl (cs 0, 96048, .inl (cpF freshS q0 48))), (mtb, .inl (cs 5, 2, .inr (.inr (.inr (.inr ftb))))), (tb0, .inl (cs 0, 8192, .inl (upd (fun _ => nI 0) 965 (nI 1)))), (mti, .inl (cs 6, 2, .inr (.inr (.inr (.inr fti))))), (ti0, .inl (cs 1, 2001, .inr (.inl (vp_updL u0 0 (lN (ww * 3)))))), (hm, .inr (12, [.ref ms, .ref mkp, .int (nI 0), .ref mtr, .int (nI 4), .int (nI 2), .int (nI 2), .int (nI 3), .int (nI 2), .int (nI 1), .ref mas, .int (nI 0), .int (nI 0), .int (nI 0), .ref mso, .ref mon, .ref mot, .ref man, .int (nI 0), .int (nI 0), .ref mst, .ref msm, .ref mtb, .ref mti, .ref mfr, .ref mbn, .ref mbs, .ref mde, .int (nI 0), .int (nI 0), .int (nI 0), .int (nI 0), .long 0, .long 0, .ref maa, .ref mab, .ref mba, .ref mbb]))] H := hP
  replace hD : va_D A [(ti1, .inl (cs 1, 2001, .inr (.inl u1))), (st1, .inl (cs 0, 96048, .inl q1)), (ms, .inl (cs 0, 288, .inl freshS)), (msm, .inl (cs 0, 2, .inl (smF2 (nI 1) b0))), (mst, .inl (cs 5, 2, .inr (.inr (.inr (.inr fst))))), (st0, .inl (cs 0, 96048, .inl (cpF freshS q0 48))), (mtb, .inl (cs 5, 2, .inr (.inr (.inr (.inr ftb))))), (tb0, .inl (cs 0, 8192, .inl (upd (fun _ => nI 0) 965 (nI 1)))), (mti, .inl (cs 6, 2, .inr (.inr (.inr (.inr fti))))), (ti0, .inl (cs 1, 2001, .inr (.inl (vp_updL u0 0 (lN (ww * 3)))))), (hm, .inr (12, [.ref ms, .ref mkp, .int (nI 0), .ref mtr, .int (nI 4), .int (nI 2), .int (nI 2), .int (nI 3), .int (nI 2), .int (nI 1), .ref mas, .int (nI 0), .int (nI 0), .int (nI 0), .ref mso, .ref mon, .ref mot, .ref man, .int (nI 0), .int (nI 0), .ref mst, .ref msm, .ref mtb, .ref mti, .ref mfr, .ref mbn, .ref mbs, .ref mde, .int (nI 0), .int (nI 0), .int (nI 0), .int (nI 0), .long 0, .long 0, .ref maa, .ref mab, .ref mba, .ref mbb]))] := hD
  obtain rfl : r_55 = nI 0 := by rw [hw_r_55]; decide +kernel
  refine lv_if_ne (tgt := 37) hx hb dX12_spreads_31 (by decide) (fun c => absurd (by decide) c) (fun _ => ?_)
  refine lv_goto (tgt := 108) hx hb dX12_spreads_34 (by decide) ?_
  refine lv_iinc (v := nI 3) (lv' := [(4, .int (nI 3)), (3, .int (nI 1)), (5, .int (nI 0)), (0, .ref hm), (1, .int (nI 1)), (2, .int (nI 0))]) hx hb dX12_spreads_108 hl (k := 0) rfl (by decide) (by decide) rfl ?_
  clear hl
  try clear ls
  intro ls hl
  refine lv_goto (tgt := 13) hx hb dX12_spreads_111 (by decide) ?_
  refine lv_iload hx hb dX12_spreads_13 (lv_at hl 0 rfl) ?_
  refine lv_iconst (v := nI 1) hx hb dX12_spreads_15 (by decide) ?_
  refine lv_aload_n hx hb dX12_spreads_16 rfl (lv_at hl 3 rfl) ?_
  refine xget C hP 10 rfl rfl zuX12 4 (by decide) zw5_217 rfl dX12_spreads_17 ?_
  refine lv_ishl hx hb dX12_spreads_20 ?_
  refine lv_topi (nm_r (e' := nI 16) (by decide) ?_)
  refine lv_icmp_ge (tgt := 114) hx hb dX12_spreads_21 (by decide) (fun c => absurd c (by decide)) (fun _ => ?_)
  refine lv_aload_n hx hb dX12_spreads_24 rfl (lv_at hl 3 rfl) ?_
  refine lv_iload_n hx hb dX12_spreads_25 rfl (lv_at hl 1 rfl) ?_
  refine lv_iload hx hb dX12_spreads_26 (lv_at hl 0 rfl) ?_
  refine xi (wr := [(ti1, .inl (cs 1, 2001, .inr (.inl u1))), (st1, .inl (cs 0, 96048, .inl q1)), (ms, .inl (cs 0, 288, .inl freshS)), (msm, .inl (cs 0, 2, .inl (smF2 (nI 1) b0))), (mst, .inl (cs 5, 2, .inr (.inr (.inr (.inr fst))))), (st0, .inl (cs 0, 96048, .inl (cpF freshS q0 48))), (mtb, .inl (cs 5, 2, .inr (.inr (.inr (.inr ftb))))), (tb0, .inl (cs 0, 8192, .inl (upd (fun _ => nI 0) 965 (nI 1)))), (mti, .inl (cs 6, 2, .inr (.inr (.inr (.inr fti))))), (ti0, .inl (cs 1, 2001, .inr (.inl (vp_updL u0 0 (lN (ww * 3))))))]) (xV (As := [.int (nI 1), .int (nI 3)]) (rest := []) C (c_X12_isSample_x l D cs hm ms mkp mtr mas mso mon mot man mst msm mtb mti mfr mbn mbs mde maa mab mba mbb 1 3 (by decide) (by decide)) kX12_139 hP hD [10] rfl (by decide +kernel) 0 rfl rfl rfl ⟨Nat.le_of_ble_eq_true rfl, Nat.le_of_ble_eq_true rfl⟩ rfl hl.1 rfl (Nat.le_of_ble_eq_true rfl) dX12_spreads_28 ⟨Nat.le_of_ble_eq_true rfl, Nat.le_of_ble_eq_true rfl⟩) hP hD hS hA [10] [0, 1, 2, 3, 4, 5, 6, 7, 8, 9] rfl rfl (by decide +kernel) (by decide +kernel) ?_
  clear hP hD hS
  try clear locs
  try clear H
  intro r_57 u_58 H locs hw_r_57 hP hD hS
  have hw_r_57 : r_57 = smB 1 3 := hw_r_57
  refine W.widen (k := 0) (n := 0) (Nat.le_of_ble_eq_true rfl) (Nat.le_of_ble_eq_true rfl) ?_
  replace hP : va_P D vwCl [(ti1, .inl (cs 1, 2001, .inr (.inl u1))), (st1, .inl (cs 0, 96048, .inl q1)), (ms, .inl (cs 0, 288, .inl freshS)), (msm, .inl (cs 0, 2, .inl (smF2 (nI 1) b0))), (mst, .inl (cs 5, 2, .inr (.inr (.inr (.inr fst))))), (st0, .inl (cs 0, 96048, .inl (cpF freshS q0 48))), (mtb, .inl (cs 5, 2, .inr (.inr (.inr (.inr ftb))))), (tb0, .inl (cs 0, 8192, .inl (upd (fun _ => nI 0) 965 (nI 1)))), (mti, .inl (cs 6, 2, .inr (.inr (.inr (.inr fti))))), (ti0, .inl (cs 1, 2001, .inr (.inl (vp_updL u0 0 (lN (ww * 3)))))), (hm, .inr (12, [.ref ms, .ref mkp, .int (nI 0), .ref mtr, .int (nI 4), .int (nI 2), .int (nI 2), .int (nI 3), .int (nI 2), .int (nI 1), .ref mas, .int (nI 0), .int (nI 0), .int (nI 0), .ref mso, .ref mon, .ref mot, .ref man, .int (nI 0), .int (nI 0), .ref mst, .ref msm, .ref mtb, .ref mti, .ref mfr, .ref mbn, .ref mbs, .ref mde, .int (nI 0), .int (nI 0), .int (nI 0), .int (nI 0), .long 0, .long 0, .ref maa, .ref mab, .ref mba, .ref mbb]))] H := hP
  replace hD : va_D A [(ti1, .inl (cs 1, 2001, .inr (.inl u1))), (st1, .inl (cs 0, 96048, .inl q1)), (ms, .inl (cs 0, 288, .inl freshS)), (msm, .inl (cs 0, 2, .inl (smF2 (nI 1) b0))), (mst, .inl (cs 5, 2, .inr (.inr (.inr (.inr fst))))), (st0, .inl (cs 0, 96048, .inl (cpF freshS q0 48))), (mtb, .inl (cs 5, 2, .inr (.inr (.inr (.inr ftb))))), (tb0, .inl (cs 0, 8192, .inl (upd (fun _ => nI 0) 965 (nI 1)))), (mti, .inl (cs 6, 2, .inr (.inr (.inr (.inr fti))))), (ti0, .inl (cs 1, 2001, .inr (.inl (vp_updL u0 0 (lN (ww * 3)))))), (hm, .inr (12, [.ref ms, .ref mkp, .int (nI 0), .ref mtr, .int (nI 4), .int (nI 2), .int (nI 2), .int (nI 3), .int (nI 2), .int (nI 1), .ref mas, .int (nI 0), .int (nI 0), .int (nI 0), .ref mso, .ref mon, .ref mot, .ref man, .int (nI 0), .int (nI 0), .ref mst, .ref msm, .ref mtb, .ref mti, .ref mfr, .ref mbn, .ref mbs, .ref mde, .int (nI 0), .int (nI 0), .int (nI 0), .int (nI 0), .long 0, .long 0, .ref maa, .ref mab, .ref mba, .ref mbb]))] := hD
  obtain rfl : r_57 = nI 0 := by rw [hw_r_57]; decide +kernel
  refine lv_if_ne (tgt := 37) hx hb dX12_spreads_31 (by decide) (fun c => absurd (by decide) c) (fun _ => ?_)
  refine lv_goto (tgt := 108) hx hb dX12_spreads_34 (by decide) ?_
  refine lv_iinc (v := nI 4) (lv' := [(4, .int (nI 4)), (3, .int (nI 1)), (5, .int (nI 0)), (0, .ref hm), (1, .int (nI 1)), (2, .int (nI 0))]) hx hb dX12_spreads_108 hl (k := 0) rfl (by decide) (by decide) rfl ?_
  clear hl
  try clear ls
  intro ls hl
  refine lv_goto (tgt := 13) hx hb dX12_spreads_111 (by decide) ?_
  refine lv_iload hx hb dX12_spreads_13 (lv_at hl 0 rfl) ?_
  refine lv_iconst (v := nI 1) hx hb dX12_spreads_15 (by decide) ?_
  refine lv_aload_n hx hb dX12_spreads_16 rfl (lv_at hl 3 rfl) ?_
  refine xget C hP 10 rfl rfl zuX12 4 (by decide) zw5_217 rfl dX12_spreads_17 ?_
  refine lv_ishl hx hb dX12_spreads_20 ?_
  refine lv_topi (nm_r (e' := nI 16) (by decide) ?_)
  refine lv_icmp_ge (tgt := 114) hx hb dX12_spreads_21 (by decide) (fun c => absurd c (by decide)) (fun _ => ?_)
  refine lv_aload_n hx hb dX12_spreads_24 rfl (lv_at hl 3 rfl) ?_
  refine lv_iload_n hx hb dX12_spreads_25 rfl (lv_at hl 1 rfl) ?_
  refine lv_iload hx hb dX12_spreads_26 (lv_at hl 0 rfl) ?_
  refine xi (wr := [(ti1, .inl (cs 1, 2001, .inr (.inl u1))), (st1, .inl (cs 0, 96048, .inl q1)), (ms, .inl (cs 0, 288, .inl freshS)), (msm, .inl (cs 0, 2, .inl (smF2 (nI 1) b0))), (mst, .inl (cs 5, 2, .inr (.inr (.inr (.inr fst))))), (st0, .inl (cs 0, 96048, .inl (cpF freshS q0 48))), (mtb, .inl (cs 5, 2, .inr (.inr (.inr (.inr ftb))))), (tb0, .inl (cs 0, 8192, .inl (upd (fun _ => nI 0) 965 (nI 1)))), (mti, .inl (cs 6, 2, .inr (.inr (.inr (.inr fti))))), (ti0, .inl (cs 1, 2001, .inr (.inl (vp_updL u0 0 (lN (ww * 3))))))]) (xV (As := [.int (nI 1), .int (nI 4)]) (rest := []) C (c_X12_isSample_x l D cs hm ms mkp mtr mas mso mon mot man mst msm mtb mti mfr mbn mbs mde maa mab mba mbb 1 4 (by decide) (by decide)) kX12_139 hP hD [10] rfl (by decide +kernel) 0 rfl rfl rfl ⟨Nat.le_of_ble_eq_true rfl, Nat.le_of_ble_eq_true rfl⟩ rfl hl.1 rfl (Nat.le_of_ble_eq_true rfl) dX12_spreads_28 ⟨Nat.le_of_ble_eq_true rfl, Nat.le_of_ble_eq_true rfl⟩) hP hD hS hA [10] [0, 1, 2, 3, 4, 5, 6, 7, 8, 9] rfl rfl (by decide +kernel) (by decide +kernel) ?_
  clear hP hD hS
  try clear locs
  try clear H
  intro r_59 u_60 H locs hw_r_59 hP hD hS
  have hw_r_59 : r_59 = smB 1 4 := hw_r_59
  refine W.widen (k := 0) (n := 0) (Nat.le_of_ble_eq_true rfl) (Nat.le_of_ble_eq_true rfl) ?_
  replace hP : va_P D vwCl [(ti1, .inl (cs 1, 2001, .inr (.inl u1))), (st1, .inl (cs 0, 96048, .inl q1)), (ms, .inl (cs 0, 288, .inl freshS)), (msm, .inl (cs 0, 2, .inl (smF2 (nI 1) b0))), (mst, .inl (cs 5, 2, .inr (.inr (.inr (.inr fst))))), (st0, .inl (cs 0, 96048, .inl (cpF freshS q0 48))), (mtb, .inl (cs 5, 2, .inr (.inr (.inr (.inr ftb))))), (tb0, .inl (cs 0, 8192, .inl (upd (fun _ => nI 0) 965 (nI 1)))), (mti, .inl (cs 6, 2, .inr (.inr (.inr (.inr fti))))), (ti0, .inl (cs 1, 2001, .inr (.inl (vp_updL u0 0 (lN (ww * 3)))))), (hm, .inr (12, [.ref ms, .ref mkp, .int (nI 0), .ref mtr, .int (nI 4), .int (nI 2), .int (nI 2), .int (nI 3), .int (nI 2), .int (nI 1), .ref mas, .int (nI 0), .int (nI 0), .int (nI 0), .ref mso, .ref mon, .ref mot, .ref man, .int (nI 0), .int (nI 0), .ref mst, .ref msm, .ref mtb, .ref mti, .ref mfr, .ref mbn, .ref mbs, .ref mde, .int (nI 0), .int (nI 0), .int (nI 0), .int (nI 0), .long 0, .long 0, .ref maa, .ref mab, .ref mba, .ref mbb]))] H := hP
  replace hD : va_D A [(ti1, .inl (cs 1, 2001, .inr (.inl u1))), (st1, .inl (cs 0, 96048, .inl q1)), (ms, .inl (cs 0, 288, .inl freshS)), (msm, .inl (cs 0, 2, .inl (smF2 (nI 1) b0))), (mst, .inl (cs 5, 2, .inr (.inr (.inr (.inr fst))))), (st0, .inl (cs 0, 96048, .inl (cpF freshS q0 48))), (mtb, .inl (cs 5, 2, .inr (.inr (.inr (.inr ftb))))), (tb0, .inl (cs 0, 8192, .inl (upd (fun _ => nI 0) 965 (nI 1)))), (mti, .inl (cs 6, 2, .inr (.inr (.inr (.inr fti))))), (ti0, .inl (cs 1, 2001, .inr (.inl (vp_updL u0 0 (lN (ww * 3)))))), (hm, .inr (12, [.ref ms, .ref mkp, .int (nI 0), .ref mtr, .int (nI 4), .int (nI 2), .int (nI 2), .int (nI 3), .int (nI 2), .int (nI 1), .ref mas, .int (nI 0), .int (nI 0), .int (nI 0), .ref mso, .ref mon, .ref mot, .ref man, .int (nI 0), .int (nI 0), .ref mst, .ref msm, .ref mtb, .ref mti, .ref mfr, .ref mbn, .ref mbs, .ref mde, .int (nI 0), .int (nI 0), .int (nI 0), .int (nI 0), .long 0, .long 0, .ref maa, .ref mab, .ref mba, .ref mbb]))] := hD
  obtain rfl : r_59 = nI 0 := by rw [hw_r_59]; decide +kernel
  refine lv_if_ne (tgt := 37) hx hb dX12_spreads_31 (by decide) (fun c => absurd (by decide) c) (fun _ => ?_)
  refine lv_goto (tgt := 108) hx hb dX12_spreads_34 (by decide) ?_
  refine lv_iinc (v := nI 5) (lv' := [(4, .int (nI 5)), (3, .int (nI 1)), (5, .int (nI 0)), (0, .ref hm), (1, .int (nI 1)), (2, .int (nI 0))]) hx hb dX12_spreads_108 hl (k := 0) rfl (by decide) (by decide) rfl ?_
  clear hl
  try clear ls
  intro ls hl
  refine lv_goto (tgt := 13) hx hb dX12_spreads_111 (by decide) ?_
  refine lv_iload hx hb dX12_spreads_13 (lv_at hl 0 rfl) ?_
  refine lv_iconst (v := nI 1) hx hb dX12_spreads_15 (by decide) ?_
  refine lv_aload_n hx hb dX12_spreads_16 rfl (lv_at hl 3 rfl) ?_
  refine xget C hP 10 rfl rfl zuX12 4 (by decide) zw5_217 rfl dX12_spreads_17 ?_
  refine lv_ishl hx hb dX12_spreads_20 ?_
  refine lv_topi (nm_r (e' := nI 16) (by decide) ?_)
  refine lv_icmp_ge (tgt := 114) hx hb dX12_spreads_21 (by decide) (fun c => absurd c (by decide)) (fun _ => ?_)
  refine lv_aload_n hx hb dX12_spreads_24 rfl (lv_at hl 3 rfl) ?_
  refine lv_iload_n hx hb dX12_spreads_25 rfl (lv_at hl 1 rfl) ?_
  refine lv_iload hx hb dX12_spreads_26 (lv_at hl 0 rfl) ?_
  refine xi (wr := [(ti1, .inl (cs 1, 2001, .inr (.inl u1))), (st1, .inl (cs 0, 96048, .inl q1)), (ms, .inl (cs 0, 288, .inl freshS)), (msm, .inl (cs 0, 2, .inl (smF2 (nI 1) b0))), (mst, .inl (cs 5, 2, .inr (.inr (.inr (.inr fst))))), (st0, .inl (cs 0, 96048, .inl (cpF freshS q0 48))), (mtb, .inl (cs 5, 2, .inr (.inr (.inr (.inr ftb))))), (tb0, .inl (cs 0, 8192, .inl (upd (fun _ => nI 0) 965 (nI 1)))), (mti, .inl (cs 6, 2, .inr (.inr (.inr (.inr fti))))), (ti0, .inl (cs 1, 2001, .inr (.inl (vp_updL u0 0 (lN (ww * 3))))))]) (xV (As := [.int (nI 1), .int (nI 5)]) (rest := []) C (c_X12_isSample_x l D cs hm ms mkp mtr mas mso mon mot man mst msm mtb mti mfr mbn mbs mde maa mab mba mbb 1 5 (by decide) (by decide)) kX12_139 hP hD [10] rfl (by decide +kernel) 0 rfl rfl rfl ⟨Nat.le_of_ble_eq_true rfl, Nat.le_of_ble_eq_true rfl⟩ rfl hl.1 rfl (Nat.le_of_ble_eq_true rfl) dX12_spreads_28 ⟨Nat.le_of_ble_eq_true rfl, Nat.le_of_ble_eq_true rfl⟩) hP hD hS hA [10] [0, 1, 2, 3, 4, 5, 6, 7, 8, 9] rfl rfl (by decide +kernel) (by decide +kernel) ?_
  clear hP hD hS
  try clear locs
  try clear H
  intro r_61 u_62 H locs hw_r_61 hP hD hS
  have hw_r_61 : r_61 = smB 1 5 := hw_r_61
  refine W.widen (k := 0) (n := 0) (Nat.le_of_ble_eq_true rfl) (Nat.le_of_ble_eq_true rfl) ?_
  replace hP : va_P D vwCl [(ti1, .inl (cs 1, 2001, .inr (.inl u1))), (st1, .inl (cs 0, 96048, .inl q1)), (ms, .inl (cs 0, 288, .inl freshS)), (msm, .inl (cs 0, 2, .inl (smF2 (nI 1) b0))), (mst, .inl (cs 5, 2, .inr (.inr (.inr (.inr fst))))), (st0, .inl (cs 0, 96048, .inl (cpF freshS q0 48))), (mtb, .inl (cs 5, 2, .inr (.inr (.inr (.inr ftb))))), (tb0, .inl (cs 0, 8192, .inl (upd (fun _ => nI 0) 965 (nI 1)))), (mti, .inl (cs 6, 2, .inr (.inr (.inr (.inr fti))))), (ti0, .inl (cs 1, 2001, .inr (.inl (vp_updL u0 0 (lN (ww * 3)))))), (hm, .inr (12, [.ref ms, .ref mkp, .int (nI 0), .ref mtr, .int (nI 4), .int (nI 2), .int (nI 2), .int (nI 3), .int (nI 2), .int (nI 1), .ref mas, .int (nI 0), .int (nI 0), .int (nI 0), .ref mso, .ref mon, .ref mot, .ref man, .int (nI 0), .int (nI 0), .ref mst, .ref msm, .ref mtb, .ref mti, .ref mfr, .ref mbn, .ref mbs, .ref mde, .int (nI 0), .int (nI 0), .int (nI 0), .int (nI 0), .long 0, .long 0, .ref maa, .ref mab, .ref mba, .ref mbb]))] H := hP
  replace hD : va_D A [(ti1, .inl (cs 1, 2001, .inr (.inl u1))), (st1, .inl (cs 0, 96048, .inl q1)), (ms, .inl (cs 0, 288, .inl freshS)), (msm, .inl (cs 0, 2, .inl (smF2 (nI 1) b0))), (mst, .inl (cs 5, 2, .inr (.inr (.inr (.inr fst))))), (st0, .inl (cs 0, 96048, .inl (cpF freshS q0 48))), (mtb, .inl (cs 5, 2, .inr (.inr (.inr (.inr ftb))))), (tb0, .inl (cs 0, 8192, .inl (upd (fun _ => nI 0) 965 (nI 1)))), (mti, .inl (cs 6, 2, .inr (.inr (.inr (.inr fti))))), (ti0, .inl (cs 1, 2001, .inr (.inl (vp_updL u0 0 (lN (ww * 3)))))), (hm, .inr (12, [.ref ms, .ref mkp, .int (nI 0), .ref mtr, .int (nI 4), .int (nI 2), .int (nI 2), .int (nI 3), .int (nI 2), .int (nI 1), .ref mas, .int (nI 0), .int (nI 0), .int (nI 0), .ref mso, .ref mon, .ref mot, .ref man, .int (nI 0), .int (nI 0), .ref mst, .ref msm, .ref mtb, .ref mti, .ref mfr, .ref mbn, .ref mbs, .ref mde, .int (nI 0), .int (nI 0), .int (nI 0), .int (nI 0), .long 0, .long 0, .ref maa, .ref mab, .ref mba, .ref mbb]))] := hD
  obtain rfl : r_61 = nI 1 := by rw [hw_r_61]; decide +kernel
  refine lv_if_ne (tgt := 37) hx hb dX12_spreads_31 (by decide) (fun _ => ?_) (fun c => absurd c (by decide))
  refine lv_aload_n hx hb dX12_spreads_37 rfl (lv_at hl 3 rfl) ?_
  refine lv_iload_n hx hb dX12_spreads_38 rfl (lv_at hl 4 rfl) ?_
  refine lv_iload_n hx hb dX12_spreads_39 rfl (lv_at hl 5 rfl) ?_
  refine xv (wr := [(ti1, .inl (cs 1, 2001, .inr (.inl u1))), (msm, .inl (cs 0, 2, .inl (smF2 (nI 1) b0))), (st0, .inl (cs 0, 96048, .inl (cpF freshS q0 48))), (mtb, .inl (cs 5, 2, .inr (.inr (.inr (.inr ftb))))), (tb0, .inl (cs 0, 8192, .inl (upd (fun _ => nI 0) 965 (nI 1)))), (mti, .inl (cs 6, 2, .inr (.inr (.inr (.inr fti))))), (ti0, .inl (cs 1, 2001, .inr (.inl (vp_updL u0 0 (lN (ww * 3))))))]) (xV (As := [.int (nI 1), .int (nI 0)]) (rest := []) C (c_X12_brings_1 l D cs hm ms mkp mtr mas mso mon mot man mst msm mtb mti mfr mbn mbs mde maa mab mba mbb st1 fst q1 hf1 hq) kX12_203 hP hD [10, 2, 4, 1] rfl (by decide +kernel) 0 rfl rfl rfl ⟨Nat.le_of_ble_eq_true rfl, Nat.le_of_ble_eq_true rfl⟩ rfl hl.1 rfl (Nat.le_of_ble_eq_true rfl) dX12_spreads_40 ⟨Nat.le_of_ble_eq_true rfl, Nat.le_of_ble_eq_true rfl⟩) hP hD hS hA [10, 2, 4, 1] [0, 3, 5, 6, 7, 8, 9] rfl rfl (by decide +kernel) (by decide +kernel) ?_
  clear hP hD hS
  try clear locs
  try clear H
  intro u_64 H locs hw_r_63 hP hD hS
  refine W.widen (k := 0) (n := 0) (Nat.le_of_ble_eq_true rfl) (Nat.le_of_ble_eq_true rfl) ?_
  replace hP : va_P D vwCl [(ti1, .inl (cs 1, 2001, .inr (.inl u1))), (msm, .inl (cs 0, 2, .inl (smF2 (nI 1) b0))), (st0, .inl (cs 0, 96048, .inl (cpF freshS q0 48))), (mtb, .inl (cs 5, 2, .inr (.inr (.inr (.inr ftb))))), (tb0, .inl (cs 0, 8192, .inl (upd (fun _ => nI 0) 965 (nI 1)))), (mti, .inl (cs 6, 2, .inr (.inr (.inr (.inr fti))))), (ti0, .inl (cs 1, 2001, .inr (.inl (vp_updL u0 0 (lN (ww * 3)))))), (hm, .inr (12, [.ref ms, .ref mkp, .int (nI 0), .ref mtr, .int (nI 4), .int (nI 2), .int (nI 2), .int (nI 3), .int (nI 2), .int (nI 1), .ref mas, .int (nI 0), .int (nI 0), .int (nI 0), .ref mso, .ref mon, .ref mot, .ref man, .int (nI 0), .int (nI 0), .ref mst, .ref msm, .ref mtb, .ref mti, .ref mfr, .ref mbn, .ref mbs, .ref mde, .int (nI 0), .int (nI 0), .int (nI 0), .int (nI 0), .long 0, .long 0, .ref maa, .ref mab, .ref mba, .ref mbb])), (ms, .inl (cs 0, 288, .inl freshS)), (mst, .inl (cs 5, 2, .inr (.inr (.inr (.inr fst))))), (st1, .inl (cs 0, 96048, .inl q1))] H := hP
  replace hD : va_D A [(ti1, .inl (cs 1, 2001, .inr (.inl u1))), (msm, .inl (cs 0, 2, .inl (smF2 (nI 1) b0))), (st0, .inl (cs 0, 96048, .inl (cpF freshS q0 48))), (mtb, .inl (cs 5, 2, .inr (.inr (.inr (.inr ftb))))), (tb0, .inl (cs 0, 8192, .inl (upd (fun _ => nI 0) 965 (nI 1)))), (mti, .inl (cs 6, 2, .inr (.inr (.inr (.inr fti))))), (ti0, .inl (cs 1, 2001, .inr (.inl (vp_updL u0 0 (lN (ww * 3)))))), (hm, .inr (12, [.ref ms, .ref mkp, .int (nI 0), .ref mtr, .int (nI 4), .int (nI 2), .int (nI 2), .int (nI 3), .int (nI 2), .int (nI 1), .ref mas, .int (nI 0), .int (nI 0), .int (nI 0), .ref mso, .ref mon, .ref mot, .ref man, .int (nI 0), .int (nI 0), .ref mst, .ref msm, .ref mtb, .ref mti, .ref mfr, .ref mbn, .ref mbs, .ref mde, .int (nI 0), .int (nI 0), .int (nI 0), .int (nI 0), .long 0, .long 0, .ref maa, .ref mab, .ref mba, .ref mbb])), (ms, .inl (cs 0, 288, .inl freshS)), (mst, .inl (cs 5, 2, .inr (.inr (.inr (.inr fst))))), (st1, .inl (cs 0, 96048, .inl q1))] := hD
  refine lv_aload_n hx hb dX12_spreads_43 rfl (lv_at hl 3 rfl) ?_
  refine lv_iload_n hx hb dX12_spreads_44 rfl (lv_at hl 1 rfl) ?_
  refine xi (wr := [(ti1, .inl (cs 1, 2001, .inr (.inl u1))), (msm, .inl (cs 0, 2, .inl (smF2 (nI 1) b0))), (st0, .inl (cs 0, 96048, .inl (cpF freshS q0 48))), (mtb, .inl (cs 5, 2, .inr (.inr (.inr (.inr ftb))))), (tb0, .inl (cs 0, 8192, .inl (upd (fun _ => nI 0) 965 (nI 1)))), (mti, .inl (cs 6, 2, .inr (.inr (.inr (.inr fti))))), (ti0, .inl (cs 1, 2001, .inr (.inl (vp_updL u0 0 (lN (ww * 3)))))), (mst, .inl (cs 5, 2, .inr (.inr (.inr (.inr fst))))), (st1, .inl (cs 0, 96048, .inl q1))]) (xV (As := [.int (nI 1)]) (rest := []) C (c_X12_canAsk_z l D cs hm ms mkp mtr mas mso mon mot man mst msm mtb mti mfr mbn mbs mde maa mab mba mbb 1 (by decide)) kX12_142 hP hD [7, 8] rfl (by decide +kernel) 0 rfl rfl rfl ⟨Nat.le_of_ble_eq_true rfl, Nat.le_of_ble_eq_true rfl⟩ rfl hl.1 rfl (Nat.le_of_ble_eq_true rfl) dX12_spreads_45 ⟨Nat.le_of_ble_eq_true rfl, Nat.le_of_ble_eq_true rfl⟩) hP hD hS hA [7, 8] [0, 1, 2, 3, 4, 5, 6, 9, 10] rfl rfl (by decide +kernel) (by decide +kernel) ?_
  clear hP hD hS
  try clear locs
  try clear H
  intro r_65 u_66 H locs hw_r_65 hP hD hS
  have hw_r_65 : r_65 = nI 0 := hw_r_65
  refine W.widen (k := 0) (n := 0) (Nat.le_of_ble_eq_true rfl) (Nat.le_of_ble_eq_true rfl) ?_
  replace hP : va_P D vwCl [(ti1, .inl (cs 1, 2001, .inr (.inl u1))), (msm, .inl (cs 0, 2, .inl (smF2 (nI 1) b0))), (st0, .inl (cs 0, 96048, .inl (cpF freshS q0 48))), (mtb, .inl (cs 5, 2, .inr (.inr (.inr (.inr ftb))))), (tb0, .inl (cs 0, 8192, .inl (upd (fun _ => nI 0) 965 (nI 1)))), (mti, .inl (cs 6, 2, .inr (.inr (.inr (.inr fti))))), (ti0, .inl (cs 1, 2001, .inr (.inl (vp_updL u0 0 (lN (ww * 3)))))), (mst, .inl (cs 5, 2, .inr (.inr (.inr (.inr fst))))), (st1, .inl (cs 0, 96048, .inl q1)), (hm, .inr (12, [.ref ms, .ref mkp, .int (nI 0), .ref mtr, .int (nI 4), .int (nI 2), .int (nI 2), .int (nI 3), .int (nI 2), .int (nI 1), .ref mas, .int (nI 0), .int (nI 0), .int (nI 0), .ref mso, .ref mon, .ref mot, .ref man, .int (nI 0), .int (nI 0), .ref mst, .ref msm, .ref mtb, .ref mti, .ref mfr, .ref mbn, .ref mbs, .ref mde, .int (nI 0), .int (nI 0), .int (nI 0), .int (nI 0), .long 0, .long 0, .ref maa, .ref mab, .ref mba, .ref mbb])), (ms, .inl (cs 0, 288, .inl freshS))] H := hP
  replace hD : va_D A [(ti1, .inl (cs 1, 2001, .inr (.inl u1))), (msm, .inl (cs 0, 2, .inl (smF2 (nI 1) b0))), (st0, .inl (cs 0, 96048, .inl (cpF freshS q0 48))), (mtb, .inl (cs 5, 2, .inr (.inr (.inr (.inr ftb))))), (tb0, .inl (cs 0, 8192, .inl (upd (fun _ => nI 0) 965 (nI 1)))), (mti, .inl (cs 6, 2, .inr (.inr (.inr (.inr fti))))), (ti0, .inl (cs 1, 2001, .inr (.inl (vp_updL u0 0 (lN (ww * 3)))))), (mst, .inl (cs 5, 2, .inr (.inr (.inr (.inr fst))))), (st1, .inl (cs 0, 96048, .inl q1)), (hm, .inr (12, [.ref ms, .ref mkp, .int (nI 0), .ref mtr, .int (nI 4), .int (nI 2), .int (nI 2), .int (nI 3), .int (nI 2), .int (nI 1), .ref mas, .int (nI 0), .int (nI 0), .int (nI 0), .ref mso, .ref mon, .ref mot, .ref man, .int (nI 0), .int (nI 0), .ref mst, .ref msm, .ref mtb, .ref mti, .ref mfr, .ref mbn, .ref mbs, .ref mde, .int (nI 0), .int (nI 0), .int (nI 0), .int (nI 0), .long 0, .long 0, .ref maa, .ref mab, .ref mba, .ref mbb])), (ms, .inl (cs 0, 288, .inl freshS))] := hD
  subst hw_r_65
  refine lv_if_eq (tgt := 67) hx hb dX12_spreads_48 (by decide) (fun _ => ?_) (fun c => absurd (by decide) c)
  refine lv_aload_n hx hb dX12_spreads_67 rfl (lv_at hl 3 rfl) ?_
  refine lv_iconst (v := nI 1) hx hb dX12_spreads_68 (by decide) ?_
  refine lv_iload_n hx hb dX12_spreads_69 rfl (lv_at hl 4 rfl) ?_
  refine lv_isub hx hb dX12_spreads_70 ?_
  refine lv_topi (nm_r (e' := nI 0) (by decide) ?_)
  refine lv_sipush (v := nI 2000) hx hb dX12_spreads_71 (by decide) ?_
  refine xi (wr := [(ti1, .inl (cs 1, 2001, .inr (.inl u1))), (st1, .inl (cs 0, 96048, .inl q1))]) (xV (As := [.int (nI 0), .int (nI 2000)]) (rest := []) C (c_X12_numberOf_b0 l D cs hm ms mkp mtr mas mso mon mot man mst msm mtb mti mfr mbn mbs mde maa mab mba mbb st0 tb0 ti0 fst ftb fti (smF2 (nI 1) b0) (cpF freshS q0 48) (upd (fun _ => nI 0) 965 (nI 1)) (vp_updL u0 0 (lN (ww * 3))) hf0 hg ht0 (if_pos rfl) (fun j hj => cpF_lt hj)) kX12_197 hP hD [9, 10, 1, 7, 2, 3, 4, 5, 6] rfl (by decide +kernel) 0 rfl rfl rfl ⟨Nat.le_of_ble_eq_true rfl, Nat.le_of_ble_eq_true rfl⟩ rfl hl.1 rfl (Nat.le_of_ble_eq_true rfl) dX12_spreads_74 ⟨Nat.le_of_ble_eq_true rfl, Nat.le_of_ble_eq_true rfl⟩) hP hD hS hA [9, 10, 1, 7, 2, 3, 4, 5, 6] [0, 8] rfl rfl (by decide +kernel) (by decide +kernel) ?_
  clear hP hD hS
  try clear locs
  try clear H
  intro r_67 u_68 H locs hw_r_67 hP hD hS
  have hw_r_67 : r_67 = nI 0 := hw_r_67
  refine W.widen (k := 0) (n := 0) (Nat.le_of_ble_eq_true rfl) (Nat.le_of_ble_eq_true rfl) ?_
  replace hP : va_P D vwCl [(ti1, .inl (cs 1, 2001, .inr (.inl u1))), (st1, .inl (cs 0, 96048, .inl q1)), (hm, .inr (12, [.ref ms, .ref mkp, .int (nI 0), .ref mtr, .int (nI 4), .int (nI 2), .int (nI 2), .int (nI 3), .int (nI 2), .int (nI 1), .ref mas, .int (nI 0), .int (nI 0), .int (nI 0), .ref mso, .ref mon, .ref mot, .ref man, .int (nI 0), .int (nI 0), .ref mst, .ref msm, .ref mtb, .ref mti, .ref mfr, .ref mbn, .ref mbs, .ref mde, .int (nI 0), .int (nI 0), .int (nI 0), .int (nI 0), .long 0, .long 0, .ref maa, .ref mab, .ref mba, .ref mbb])), (ms, .inl (cs 0, 288, .inl freshS)), (msm, .inl (cs 0, 2, .inl (smF2 (nI 1) b0))), (mst, .inl (cs 5, 2, .inr (.inr (.inr (.inr fst))))), (st0, .inl (cs 0, 96048, .inl (cpF freshS q0 48))), (mtb, .inl (cs 5, 2, .inr (.inr (.inr (.inr ftb))))), (tb0, .inl (cs 0, 8192, .inl (upd (fun _ => nI 0) 965 (nI 1)))), (mti, .inl (cs 6, 2, .inr (.inr (.inr (.inr fti))))), (ti0, .inl (cs 1, 2001, .inr (.inl (vp_updL u0 0 (lN (ww * 3))))))] H := hP
  replace hD : va_D A [(ti1, .inl (cs 1, 2001, .inr (.inl u1))), (st1, .inl (cs 0, 96048, .inl q1)), (hm, .inr (12, [.ref ms, .ref mkp, .int (nI 0), .ref mtr, .int (nI 4), .int (nI 2), .int (nI 2), .int (nI 3), .int (nI 2), .int (nI 1), .ref mas, .int (nI 0), .int (nI 0), .int (nI 0), .ref mso, .ref mon, .ref mot, .ref man, .int (nI 0), .int (nI 0), .ref mst, .ref msm, .ref mtb, .ref mti, .ref mfr, .ref mbn, .ref mbs, .ref mde, .int (nI 0), .int (nI 0), .int (nI 0), .int (nI 0), .long 0, .long 0, .ref maa, .ref mab, .ref mba, .ref mbb])), (ms, .inl (cs 0, 288, .inl freshS)), (msm, .inl (cs 0, 2, .inl (smF2 (nI 1) b0))), (mst, .inl (cs 5, 2, .inr (.inr (.inr (.inr fst))))), (st0, .inl (cs 0, 96048, .inl (cpF freshS q0 48))), (mtb, .inl (cs 5, 2, .inr (.inr (.inr (.inr ftb))))), (tb0, .inl (cs 0, 8192, .inl (upd (fun _ => nI 0) 965 (nI 1)))), (mti, .inl (cs 6, 2, .inr (.inr (.inr (.inr fti))))), (ti0, .inl (cs 1, 2001, .inr (.inl (vp_updL u0 0 (lN (ww * 3))))))] := hD
  subst hw_r_67
  refine lv_istore (lv' := [(5, .int (nI 0)), (4, .int (nI 5)), (3, .int (nI 1)), (0, .ref hm), (1, .int (nI 1)), (2, .int (nI 0))]) hx hb dX12_spreads_77 hl (by decide) rfl ?_
  clear hl
  try clear ls
  intro ls hl
  refine lv_iload hx hb dX12_spreads_79 (lv_at hl 0 rfl) ?_
  refine lv_if_ge (tgt := 86) hx hb dX12_spreads_81 (by decide) (fun _ => ?_) (fun c => absurd (by decide) c)
  refine lv_aload_n hx hb dX12_spreads_86 rfl (lv_at hl 3 rfl) ?_
  refine xget C hP 2 rfl rfl zuX12 23 (by decide) zw5_236 rfl dX12_spreads_87 ?_
  refine lv_iconst (v := nI 1) hx hb dX12_spreads_90 (by decide) ?_
  refine lv_iload_n hx hb dX12_spreads_91 rfl (lv_at hl 4 rfl) ?_
  refine lv_isub hx hb dX12_spreads_92 ?_
  refine lv_topi (nm_r (e' := nI 0) (by decide) ?_)
  refine xaald C hP 9 6 rfl rfl rfl 0 rfl (by decide) (by decide) ht0 dX12_spreads_93 ?_
  refine lv_iload hx hb dX12_spreads_94 (lv_at hl 0 rfl) ?_
  refine lv_dup2_11 hx hb dX12_spreads_96 rfl rfl ?_
  refine xlald C hP 10 rfl 0 rfl (by decide) (by decide) dX12_spreads_97 ?_
  refine lv_topl (nm_r (e' := lN (ww * 3)) (upL_0 _ _) ?_)
  refine lv_aload_n hx hb dX12_spreads_98 rfl (lv_at hl 3 rfl) ?_
  refine xget C hP 2 rfl rfl zuX12 23 (by decide) zw5_236 rfl dX12_spreads_99 ?_
  refine lv_iload_n hx hb dX12_spreads_102 rfl (lv_at hl 4 rfl) ?_
  refine xaald C hP 9 6 rfl rfl rfl 1 rfl (by decide) (by decide) ht1 dX12_spreads_103 ?_
  refine lv_iload_n hx hb dX12_spreads_104 rfl (lv_at hl 5 rfl) ?_
  refine xlald C hP 0 rfl 0 rfl (by decide) (by decide) dX12_spreads_105 ?_
  refine lv_topl (nm_r (e' := lN ww) hw ?_)
  refine lv_ladd hx hb dX12_spreads_106 ?_
  refine lv_topl (nm_r (e' := lN (ww * 4)) (lN_a ww 3) ?_)
  refine xlast C hP hD hS 10 rfl 0 rfl (by decide) (by decide) dX12_spreads_107 ?_
  clear hP hD hS
  try clear locs
  try clear H
  intro H locs hP hD hS
  replace hP : va_P D vwCl [(ti1, .inl (cs 1, 2001, .inr (.inl u1))), (st1, .inl (cs 0, 96048, .inl q1)), (hm, .inr (12, [.ref ms, .ref mkp, .int (nI 0), .ref mtr, .int (nI 4), .int (nI 2), .int (nI 2), .int (nI 3), .int (nI 2), .int (nI 1), .ref mas, .int (nI 0), .int (nI 0), .int (nI 0), .ref mso, .ref mon, .ref mot, .ref man, .int (nI 0), .int (nI 0), .ref mst, .ref msm, .ref mtb, .ref mti, .ref mfr, .ref mbn, .ref mbs, .ref mde, .int (nI 0), .int (nI 0), .int (nI 0), .int (nI 0), .long 0, .long 0, .ref maa, .ref mab, .ref mba, .ref mbb])), (ms, .inl (cs 0, 288, .inl freshS)), (msm, .inl (cs 0, 2, .inl (smF2 (nI 1) b0))), (mst, .inl (cs 5, 2, .inr (.inr (.inr (.inr fst))))), (st0, .inl (cs 0, 96048, .inl (cpF freshS q0 48))), (mtb, .inl (cs 5, 2, .inr (.inr (.inr (.inr ftb))))), (tb0, .inl (cs 0, 8192, .inl (upd (fun _ => nI 0) 965 (nI 1)))), (mti, .inl (cs 6, 2, .inr (.inr (.inr (.inr fti))))), (ti0, .inl (cs 1, 2001, .inr (.inl (vp_updL (vp_updL u0 0 (lN (ww * 3))) 0 (lN (ww * 4))))))] H := hP
  replace hD : va_D A [(ti1, .inl (cs 1, 2001, .inr (.inl u1))), (st1, .inl (cs 0, 96048, .inl q1)), (hm, .inr (12, [.ref ms, .ref mkp, .int (nI 0), .ref mtr, .int (nI 4), .int (nI 2), .int (nI 2), .int (nI 3), .int (nI 2), .int (nI 1), .ref mas, .int (nI 0), .int (nI 0), .int (nI 0), .ref mso, .ref mon, .ref mot, .ref man, .int (nI 0), .int (nI 0), .ref mst, .ref msm, .ref mtb, .ref mti, .ref mfr, .ref mbn, .ref mbs, .ref mde, .int (nI 0), .int (nI 0), .int (nI 0), .int (nI 0), .long 0, .long 0, .ref maa, .ref mab, .ref mba, .ref mbb])), (ms, .inl (cs 0, 288, .inl freshS)), (msm, .inl (cs 0, 2, .inl (smF2 (nI 1) b0))), (mst, .inl (cs 5, 2, .inr (.inr (.inr (.inr fst))))), (st0, .inl (cs 0, 96048, .inl (cpF freshS q0 48))), (mtb, .inl (cs 5, 2, .inr (.inr (.inr (.inr ftb))))), (tb0, .inl (cs 0, 8192, .inl (upd (fun _ => nI 0) 965 (nI 1)))), (mti, .inl (cs 6, 2, .inr (.inr (.inr (.inr fti))))), (ti0, .inl (cs 1, 2001, .inr (.inl (vp_updL (vp_updL u0 0 (lN (ww * 3))) 0 (lN (ww * 4))))))] := hD
  have hPD := xcongl (q0 := 10) (vp_updL u0 0 (lN (ww * 4))) hP hD rfl (fun j hj => upL_1 u0 _ _ j)
  clear hP hD
  obtain ⟨hP, hD⟩ := hPD
  replace hP : va_P D vwCl [(ti1, .inl (cs 1, 2001, .inr (.inl u1))), (st1, .inl (cs 0, 96048, .inl q1)), (hm, .inr (12, [.ref ms, .ref mkp, .int (nI 0), .ref mtr, .int (nI 4), .int (nI 2), .int (nI 2), .int (nI 3), .int (nI 2), .int (nI 1), .ref mas, .int (nI 0), .int (nI 0), .int (nI 0), .ref mso, .ref mon, .ref mot, .ref man, .int (nI 0), .int (nI 0), .ref mst, .ref msm, .ref mtb, .ref mti, .ref mfr, .ref mbn, .ref mbs, .ref mde, .int (nI 0), .int (nI 0), .int (nI 0), .int (nI 0), .long 0, .long 0, .ref maa, .ref mab, .ref mba, .ref mbb])), (ms, .inl (cs 0, 288, .inl freshS)), (msm, .inl (cs 0, 2, .inl (smF2 (nI 1) b0))), (mst, .inl (cs 5, 2, .inr (.inr (.inr (.inr fst))))), (st0, .inl (cs 0, 96048, .inl (cpF freshS q0 48))), (mtb, .inl (cs 5, 2, .inr (.inr (.inr (.inr ftb))))), (tb0, .inl (cs 0, 8192, .inl (upd (fun _ => nI 0) 965 (nI 1)))), (mti, .inl (cs 6, 2, .inr (.inr (.inr (.inr fti))))), (ti0, .inl (cs 1, 2001, .inr (.inl (vp_updL u0 0 (lN (ww * 4))))))] H := hP
  replace hD : va_D A [(ti1, .inl (cs 1, 2001, .inr (.inl u1))), (st1, .inl (cs 0, 96048, .inl q1)), (hm, .inr (12, [.ref ms, .ref mkp, .int (nI 0), .ref mtr, .int (nI 4), .int (nI 2), .int (nI 2), .int (nI 3), .int (nI 2), .int (nI 1), .ref mas, .int (nI 0), .int (nI 0), .int (nI 0), .ref mso, .ref mon, .ref mot, .ref man, .int (nI 0), .int (nI 0), .ref mst, .ref msm, .ref mtb, .ref mti, .ref mfr, .ref mbn, .ref mbs, .ref mde, .int (nI 0), .int (nI 0), .int (nI 0), .int (nI 0), .long 0, .long 0, .ref maa, .ref mab, .ref mba, .ref mbb])), (ms, .inl (cs 0, 288, .inl freshS)), (msm, .inl (cs 0, 2, .inl (smF2 (nI 1) b0))), (mst, .inl (cs 5, 2, .inr (.inr (.inr (.inr fst))))), (st0, .inl (cs 0, 96048, .inl (cpF freshS q0 48))), (mtb, .inl (cs 5, 2, .inr (.inr (.inr (.inr ftb))))), (tb0, .inl (cs 0, 8192, .inl (upd (fun _ => nI 0) 965 (nI 1)))), (mti, .inl (cs 6, 2, .inr (.inr (.inr (.inr fti))))), (ti0, .inl (cs 1, 2001, .inr (.inl (vp_updL u0 0 (lN (ww * 4))))))] := hD
  refine lv_iinc (v := nI 6) (lv' := [(4, .int (nI 6)), (5, .int (nI 0)), (3, .int (nI 1)), (0, .ref hm), (1, .int (nI 1)), (2, .int (nI 0))]) hx hb dX12_spreads_108 hl (k := 1) rfl (by decide) (by decide) rfl ?_
  clear hl
  try clear ls
  intro ls hl
  refine lv_goto (tgt := 13) hx hb dX12_spreads_111 (by decide) ?_
  refine lv_iload hx hb dX12_spreads_13 (lv_at hl 0 rfl) ?_
  refine lv_iconst (v := nI 1) hx hb dX12_spreads_15 (by decide) ?_
  refine lv_aload_n hx hb dX12_spreads_16 rfl (lv_at hl 3 rfl) ?_
  refine xget C hP 2 rfl rfl zuX12 4 (by decide) zw5_217 rfl dX12_spreads_17 ?_
  refine lv_ishl hx hb dX12_spreads_20 ?_
  refine lv_topi (nm_r (e' := nI 16) (by decide) ?_)
  refine lv_icmp_ge (tgt := 114) hx hb dX12_spreads_21 (by decide) (fun c => absurd c (by decide)) (fun _ => ?_)
  refine lv_aload_n hx hb dX12_spreads_24 rfl (lv_at hl 3 rfl) ?_
  refine lv_iload_n hx hb dX12_spreads_25 rfl (lv_at hl 2 rfl) ?_
  refine lv_iload hx hb dX12_spreads_26 (lv_at hl 0 rfl) ?_
  refine xi (wr := [(ti1, .inl (cs 1, 2001, .inr (.inl u1))), (st1, .inl (cs 0, 96048, .inl q1)), (ms, .inl (cs 0, 288, .inl freshS)), (msm, .inl (cs 0, 2, .inl (smF2 (nI 1) b0))), (mst, .inl (cs 5, 2, .inr (.inr (.inr (.inr fst))))), (st0, .inl (cs 0, 96048, .inl (cpF freshS q0 48))), (mtb, .inl (cs 5, 2, .inr (.inr (.inr (.inr ftb))))), (tb0, .inl (cs 0, 8192, .inl (upd (fun _ => nI 0) 965 (nI 1)))), (mti, .inl (cs 6, 2, .inr (.inr (.inr (.inr fti))))), (ti0, .inl (cs 1, 2001, .inr (.inl (vp_updL u0 0 (lN (ww * 4))))))]) (xV (As := [.int (nI 1), .int (nI 6)]) (rest := []) C (c_X12_isSample_x l D cs hm ms mkp mtr mas mso mon mot man mst msm mtb mti mfr mbn mbs mde maa mab mba mbb 1 6 (by decide) (by decide)) kX12_139 hP hD [2] rfl (by decide +kernel) 0 rfl rfl rfl ⟨Nat.le_of_ble_eq_true rfl, Nat.le_of_ble_eq_true rfl⟩ rfl hl.1 rfl (Nat.le_of_ble_eq_true rfl) dX12_spreads_28 ⟨Nat.le_of_ble_eq_true rfl, Nat.le_of_ble_eq_true rfl⟩) hP hD hS hA [2] [0, 1, 3, 4, 5, 6, 7, 8, 9, 10] rfl rfl (by decide +kernel) (by decide +kernel) ?_
  clear hP hD hS
  try clear locs
  try clear H
  intro r_69 u_70 H locs hw_r_69 hP hD hS
  have hw_r_69 : r_69 = smB 1 6 := hw_r_69
  refine W.widen (k := 0) (n := 0) (Nat.le_of_ble_eq_true rfl) (Nat.le_of_ble_eq_true rfl) ?_
  replace hP : va_P D vwCl [(ti1, .inl (cs 1, 2001, .inr (.inl u1))), (st1, .inl (cs 0, 96048, .inl q1)), (ms, .inl (cs 0, 288, .inl freshS)), (msm, .inl (cs 0, 2, .inl (smF2 (nI 1) b0))), (mst, .inl (cs 5, 2, .inr (.inr (.inr (.inr fst))))), (st0, .inl (cs 0, 96048, .inl (cpF freshS q0 48))), (mtb, .inl (cs 5, 2, .inr (.inr (.inr (.inr ftb))))), (tb0, .inl (cs 0, 8192, .inl (upd (fun _ => nI 0) 965 (nI 1)))), (mti, .inl (cs 6, 2, .inr (.inr (.inr (.inr fti))))), (ti0, .inl (cs 1, 2001, .inr (.inl (vp_updL u0 0 (lN (ww * 4)))))), (hm, .inr (12, [.ref ms, .ref mkp, .int (nI 0), .ref mtr, .int (nI 4), .int (nI 2), .int (nI 2), .int (nI 3), .int (nI 2), .int (nI 1), .ref mas, .int (nI 0), .int (nI 0), .int (nI 0), .ref mso, .ref mon, .ref mot, .ref man, .int (nI 0), .int (nI 0), .ref mst, .ref msm, .ref mtb, .ref mti, .ref mfr, .ref mbn, .ref mbs, .ref mde, .int (nI 0), .int (nI 0), .int (nI 0), .int (nI 0), .long 0, .long 0, .ref maa, .ref mab, .ref mba, .ref mbb]))] H := hP
  replace hD : va_D A [(ti1, .inl (cs 1, 2001, .inr (.inl u1))), (st1, .inl (cs 0, 96048, .inl q1)), (ms, .inl (cs 0, 288, .inl freshS)), (msm, .inl (cs 0, 2, .inl (smF2 (nI 1) b0))), (mst, .inl (cs 5, 2, .inr (.inr (.inr (.inr fst))))), (st0, .inl (cs 0, 96048, .inl (cpF freshS q0 48))), (mtb, .inl (cs 5, 2, .inr (.inr (.inr (.inr ftb))))), (tb0, .inl (cs 0, 8192, .inl (upd (fun _ => nI 0) 965 (nI 1)))), (mti, .inl (cs 6, 2, .inr (.inr (.inr (.inr fti))))), (ti0, .inl (cs 1, 2001, .inr (.inl (vp_updL u0 0 (lN (ww * 4)))))), (hm, .inr (12, [.ref ms, .ref mkp, .int (nI 0), .ref mtr, .int (nI 4), .int (nI 2), .int (nI 2), .int (nI 3), .int (nI 2), .int (nI 1), .ref mas, .int (nI 0), .int (nI 0), .int (nI 0), .ref mso, .ref mon, .ref mot, .ref man, .int (nI 0), .int (nI 0), .ref mst, .ref msm, .ref mtb, .ref mti, .ref mfr, .ref mbn, .ref mbs, .ref mde, .int (nI 0), .int (nI 0), .int (nI 0), .int (nI 0), .long 0, .long 0, .ref maa, .ref mab, .ref mba, .ref mbb]))] := hD
  obtain rfl : r_69 = nI 0 := by rw [hw_r_69]; decide +kernel
  refine lv_if_ne (tgt := 37) hx hb dX12_spreads_31 (by decide) (fun c => absurd (by decide) c) (fun _ => ?_)
  refine lv_goto (tgt := 108) hx hb dX12_spreads_34 (by decide) ?_
  refine lv_iinc (v := nI 7) (lv' := [(4, .int (nI 7)), (5, .int (nI 0)), (3, .int (nI 1)), (0, .ref hm), (1, .int (nI 1)), (2, .int (nI 0))]) hx hb dX12_spreads_108 hl (k := 0) rfl (by decide) (by decide) rfl ?_
  clear hl
  try clear ls
  intro ls hl
  refine lv_goto (tgt := 13) hx hb dX12_spreads_111 (by decide) ?_
  refine lv_iload hx hb dX12_spreads_13 (lv_at hl 0 rfl) ?_
  refine lv_iconst (v := nI 1) hx hb dX12_spreads_15 (by decide) ?_
  refine lv_aload_n hx hb dX12_spreads_16 rfl (lv_at hl 3 rfl) ?_
  refine xget C hP 10 rfl rfl zuX12 4 (by decide) zw5_217 rfl dX12_spreads_17 ?_
  refine lv_ishl hx hb dX12_spreads_20 ?_
  refine lv_topi (nm_r (e' := nI 16) (by decide) ?_)
  refine lv_icmp_ge (tgt := 114) hx hb dX12_spreads_21 (by decide) (fun c => absurd c (by decide)) (fun _ => ?_)
  refine lv_aload_n hx hb dX12_spreads_24 rfl (lv_at hl 3 rfl) ?_
  refine lv_iload_n hx hb dX12_spreads_25 rfl (lv_at hl 2 rfl) ?_
  refine lv_iload hx hb dX12_spreads_26 (lv_at hl 0 rfl) ?_
  refine xi (wr := [(ti1, .inl (cs 1, 2001, .inr (.inl u1))), (st1, .inl (cs 0, 96048, .inl q1)), (ms, .inl (cs 0, 288, .inl freshS)), (msm, .inl (cs 0, 2, .inl (smF2 (nI 1) b0))), (mst, .inl (cs 5, 2, .inr (.inr (.inr (.inr fst))))), (st0, .inl (cs 0, 96048, .inl (cpF freshS q0 48))), (mtb, .inl (cs 5, 2, .inr (.inr (.inr (.inr ftb))))), (tb0, .inl (cs 0, 8192, .inl (upd (fun _ => nI 0) 965 (nI 1)))), (mti, .inl (cs 6, 2, .inr (.inr (.inr (.inr fti))))), (ti0, .inl (cs 1, 2001, .inr (.inl (vp_updL u0 0 (lN (ww * 4))))))]) (xV (As := [.int (nI 1), .int (nI 7)]) (rest := []) C (c_X12_isSample_x l D cs hm ms mkp mtr mas mso mon mot man mst msm mtb mti mfr mbn mbs mde maa mab mba mbb 1 7 (by decide) (by decide)) kX12_139 hP hD [10] rfl (by decide +kernel) 0 rfl rfl rfl ⟨Nat.le_of_ble_eq_true rfl, Nat.le_of_ble_eq_true rfl⟩ rfl hl.1 rfl (Nat.le_of_ble_eq_true rfl) dX12_spreads_28 ⟨Nat.le_of_ble_eq_true rfl, Nat.le_of_ble_eq_true rfl⟩) hP hD hS hA [10] [0, 1, 2, 3, 4, 5, 6, 7, 8, 9] rfl rfl (by decide +kernel) (by decide +kernel) ?_
  clear hP hD hS
  try clear locs
  try clear H
  intro r_71 u_72 H locs hw_r_71 hP hD hS
  have hw_r_71 : r_71 = smB 1 7 := hw_r_71
  refine W.widen (k := 0) (n := 0) (Nat.le_of_ble_eq_true rfl) (Nat.le_of_ble_eq_true rfl) ?_
  replace hP : va_P D vwCl [(ti1, .inl (cs 1, 2001, .inr (.inl u1))), (st1, .inl (cs 0, 96048, .inl q1)), (ms, .inl (cs 0, 288, .inl freshS)), (msm, .inl (cs 0, 2, .inl (smF2 (nI 1) b0))), (mst, .inl (cs 5, 2, .inr (.inr (.inr (.inr fst))))), (st0, .inl (cs 0, 96048, .inl (cpF freshS q0 48))), (mtb, .inl (cs 5, 2, .inr (.inr (.inr (.inr ftb))))), (tb0, .inl (cs 0, 8192, .inl (upd (fun _ => nI 0) 965 (nI 1)))), (mti, .inl (cs 6, 2, .inr (.inr (.inr (.inr fti))))), (ti0, .inl (cs 1, 2001, .inr (.inl (vp_updL u0 0 (lN (ww * 4)))))), (hm, .inr (12, [.ref ms, .ref mkp, .int (nI 0), .ref mtr, .int (nI 4), .int (nI 2), .int (nI 2), .int (nI 3), .int (nI 2), .int (nI 1), .ref mas, .int (nI 0), .int (nI 0), .int (nI 0), .ref mso, .ref mon, .ref mot, .ref man, .int (nI 0), .int (nI 0), .ref mst, .ref msm, .ref mtb, .ref mti, .ref mfr, .ref mbn, .ref mbs, .ref mde, .int (nI 0), .int (nI 0), .int (nI 0), .int (nI 0), .long 0, .long 0, .ref maa, .ref mab, .ref mba, .ref mbb]))] H := hP
  replace hD : va_D A [(ti1, .inl (cs 1, 2001, .inr (.inl u1))), (st1, .inl (cs 0, 96048, .inl q1)), (ms, .inl (cs 0, 288, .inl freshS)), (msm, .inl (cs 0, 2, .inl (smF2 (nI 1) b0))), (mst, .inl (cs 5, 2, .inr (.inr (.inr (.inr fst))))), (st0, .inl (cs 0, 96048, .inl (cpF freshS q0 48))), (mtb, .inl (cs 5, 2, .inr (.inr (.inr (.inr ftb))))), (tb0, .inl (cs 0, 8192, .inl (upd (fun _ => nI 0) 965 (nI 1)))), (mti, .inl (cs 6, 2, .inr (.inr (.inr (.inr fti))))), (ti0, .inl (cs 1, 2001, .inr (.inl (vp_updL u0 0 (lN (ww * 4)))))), (hm, .inr (12, [.ref ms, .ref mkp, .int (nI 0), .ref mtr, .int (nI 4), .int (nI 2), .int (nI 2), .int (nI 3), .int (nI 2), .int (nI 1), .ref mas, .int (nI 0), .int (nI 0), .int (nI 0), .ref mso, .ref mon, .ref mot, .ref man, .int (nI 0), .int (nI 0), .ref mst, .ref msm, .ref mtb, .ref mti, .ref mfr, .ref mbn, .ref mbs, .ref mde, .int (nI 0), .int (nI 0), .int (nI 0), .int (nI 0), .long 0, .long 0, .ref maa, .ref mab, .ref mba, .ref mbb]))] := hD
  obtain rfl : r_71 = nI 0 := by rw [hw_r_71]; decide +kernel
  refine lv_if_ne (tgt := 37) hx hb dX12_spreads_31 (by decide) (fun c => absurd (by decide) c) (fun _ => ?_)
  refine lv_goto (tgt := 108) hx hb dX12_spreads_34 (by decide) ?_
  refine lv_iinc (v := nI 8) (lv' := [(4, .int (nI 8)), (5, .int (nI 0)), (3, .int (nI 1)), (0, .ref hm), (1, .int (nI 1)), (2, .int (nI 0))]) hx hb dX12_spreads_108 hl (k := 0) rfl (by decide) (by decide) rfl ?_
  clear hl
  try clear ls
  intro ls hl
  refine lv_goto (tgt := 13) hx hb dX12_spreads_111 (by decide) ?_
  refine lv_iload hx hb dX12_spreads_13 (lv_at hl 0 rfl) ?_
  refine lv_iconst (v := nI 1) hx hb dX12_spreads_15 (by decide) ?_
  refine lv_aload_n hx hb dX12_spreads_16 rfl (lv_at hl 3 rfl) ?_
  refine xget C hP 10 rfl rfl zuX12 4 (by decide) zw5_217 rfl dX12_spreads_17 ?_
  refine lv_ishl hx hb dX12_spreads_20 ?_
  refine lv_topi (nm_r (e' := nI 16) (by decide) ?_)
  refine lv_icmp_ge (tgt := 114) hx hb dX12_spreads_21 (by decide) (fun c => absurd c (by decide)) (fun _ => ?_)
  refine lv_aload_n hx hb dX12_spreads_24 rfl (lv_at hl 3 rfl) ?_
  refine lv_iload_n hx hb dX12_spreads_25 rfl (lv_at hl 2 rfl) ?_
  refine lv_iload hx hb dX12_spreads_26 (lv_at hl 0 rfl) ?_
  refine xi (wr := [(ti1, .inl (cs 1, 2001, .inr (.inl u1))), (st1, .inl (cs 0, 96048, .inl q1)), (ms, .inl (cs 0, 288, .inl freshS)), (msm, .inl (cs 0, 2, .inl (smF2 (nI 1) b0))), (mst, .inl (cs 5, 2, .inr (.inr (.inr (.inr fst))))), (st0, .inl (cs 0, 96048, .inl (cpF freshS q0 48))), (mtb, .inl (cs 5, 2, .inr (.inr (.inr (.inr ftb))))), (tb0, .inl (cs 0, 8192, .inl (upd (fun _ => nI 0) 965 (nI 1)))), (mti, .inl (cs 6, 2, .inr (.inr (.inr (.inr fti))))), (ti0, .inl (cs 1, 2001, .inr (.inl (vp_updL u0 0 (lN (ww * 4))))))]) (xV (As := [.int (nI 1), .int (nI 8)]) (rest := []) C (c_X12_isSample_x l D cs hm ms mkp mtr mas mso mon mot man mst msm mtb mti mfr mbn mbs mde maa mab mba mbb 1 8 (by decide) (by decide)) kX12_139 hP hD [10] rfl (by decide +kernel) 0 rfl rfl rfl ⟨Nat.le_of_ble_eq_true rfl, Nat.le_of_ble_eq_true rfl⟩ rfl hl.1 rfl (Nat.le_of_ble_eq_true rfl) dX12_spreads_28 ⟨Nat.le_of_ble_eq_true rfl, Nat.le_of_ble_eq_true rfl⟩) hP hD hS hA [10] [0, 1, 2, 3, 4, 5, 6, 7, 8, 9] rfl rfl (by decide +kernel) (by decide +kernel) ?_
  clear hP hD hS
  try clear locs
  try clear H
  intro r_73 u_74 H locs hw_r_73 hP hD hS
  have hw_r_73 : r_73 = smB 1 8 := hw_r_73
  refine W.widen (k := 0) (n := 0) (Nat.le_of_ble_eq_true rfl) (Nat.le_of_ble_eq_true rfl) ?_
  replace hP : va_P D vwCl [(ti1, .inl (cs 1, 2001, .inr (.inl u1))), (st1, .inl (cs 0, 96048, .inl q1)), (ms, .inl (cs 0, 288, .inl freshS)), (msm, .inl (cs 0, 2, .inl (smF2 (nI 1) b0))), (mst, .inl (cs 5, 2, .inr (.inr (.inr (.inr fst))))), (st0, .inl (cs 0, 96048, .inl (cpF freshS q0 48))), (mtb, .inl (cs 5, 2, .inr (.inr (.inr (.inr ftb))))), (tb0, .inl (cs 0, 8192, .inl (upd (fun _ => nI 0) 965 (nI 1)))), (mti, .inl (cs 6, 2, .inr (.inr (.inr (.inr fti))))), (ti0, .inl (cs 1, 2001, .inr (.inl (vp_updL u0 0 (lN (ww * 4)))))), (hm, .inr (12, [.ref ms, .ref mkp, .int (nI 0), .ref mtr, .int (nI 4), .int (nI 2), .int (nI 2), .int (nI 3), .int (nI 2), .int (nI 1), .ref mas, .int (nI 0), .int (nI 0), .int (nI 0), .ref mso, .ref mon, .ref mot, .ref man, .int (nI 0), .int (nI 0), .ref mst, .ref msm, .ref mtb, .ref mti, .ref mfr, .ref mbn, .ref mbs, .ref mde, .int (nI 0), .int (nI 0), .int (nI 0), .int (nI 0), .long 0, .long 0, .ref maa, .ref mab, .ref mba, .ref mbb]))] H := hP
  replace hD : va_D A [(ti1, .inl (cs 1, 2001, .inr (.inl u1))), (st1, .inl (cs 0, 96048, .inl q1)), (ms, .inl (cs 0, 288, .inl freshS)), (msm, .inl (cs 0, 2, .inl (smF2 (nI 1) b0))), (mst, .inl (cs 5, 2, .inr (.inr (.inr (.inr fst))))), (st0, .inl (cs 0, 96048, .inl (cpF freshS q0 48))), (mtb, .inl (cs 5, 2, .inr (.inr (.inr (.inr ftb))))), (tb0, .inl (cs 0, 8192, .inl (upd (fun _ => nI 0) 965 (nI 1)))), (mti, .inl (cs 6, 2, .inr (.inr (.inr (.inr fti))))), (ti0, .inl (cs 1, 2001, .inr (.inl (vp_updL u0 0 (lN (ww * 4)))))), (hm, .inr (12, [.ref ms, .ref mkp, .int (nI 0), .ref mtr, .int (nI 4), .int (nI 2), .int (nI 2), .int (nI 3), .int (nI 2), .int (nI 1), .ref mas, .int (nI 0), .int (nI 0), .int (nI 0), .ref mso, .ref mon, .ref mot, .ref man, .int (nI 0), .int (nI 0), .ref mst, .ref msm, .ref mtb, .ref mti, .ref mfr, .ref mbn, .ref mbs, .ref mde, .int (nI 0), .int (nI 0), .int (nI 0), .int (nI 0), .long 0, .long 0, .ref maa, .ref mab, .ref mba, .ref mbb]))] := hD
  obtain rfl : r_73 = nI 0 := by rw [hw_r_73]; decide +kernel
  refine lv_if_ne (tgt := 37) hx hb dX12_spreads_31 (by decide) (fun c => absurd (by decide) c) (fun _ => ?_)
  refine lv_goto (tgt := 108) hx hb dX12_spreads_34 (by decide) ?_
  refine lv_iinc (v := nI 9) (lv' := [(4, .int (nI 9)), (5, .int (nI 0)), (3, .int (nI 1)), (0, .ref hm), (1, .int (nI 1)), (2, .int (nI 0))]) hx hb dX12_spreads_108 hl (k := 0) rfl (by decide) (by decide) rfl ?_
  clear hl
  try clear ls
  intro ls hl
  refine lv_goto (tgt := 13) hx hb dX12_spreads_111 (by decide) ?_
  refine lv_iload hx hb dX12_spreads_13 (lv_at hl 0 rfl) ?_
  refine lv_iconst (v := nI 1) hx hb dX12_spreads_15 (by decide) ?_
  refine lv_aload_n hx hb dX12_spreads_16 rfl (lv_at hl 3 rfl) ?_
  refine xget C hP 10 rfl rfl zuX12 4 (by decide) zw5_217 rfl dX12_spreads_17 ?_
  refine lv_ishl hx hb dX12_spreads_20 ?_
  refine lv_topi (nm_r (e' := nI 16) (by decide) ?_)
  refine lv_icmp_ge (tgt := 114) hx hb dX12_spreads_21 (by decide) (fun c => absurd c (by decide)) (fun _ => ?_)
  refine lv_aload_n hx hb dX12_spreads_24 rfl (lv_at hl 3 rfl) ?_
  refine lv_iload_n hx hb dX12_spreads_25 rfl (lv_at hl 2 rfl) ?_
  refine lv_iload hx hb dX12_spreads_26 (lv_at hl 0 rfl) ?_
  refine xi (wr := [(ti1, .inl (cs 1, 2001, .inr (.inl u1))), (st1, .inl (cs 0, 96048, .inl q1)), (ms, .inl (cs 0, 288, .inl freshS)), (msm, .inl (cs 0, 2, .inl (smF2 (nI 1) b0))), (mst, .inl (cs 5, 2, .inr (.inr (.inr (.inr fst))))), (st0, .inl (cs 0, 96048, .inl (cpF freshS q0 48))), (mtb, .inl (cs 5, 2, .inr (.inr (.inr (.inr ftb))))), (tb0, .inl (cs 0, 8192, .inl (upd (fun _ => nI 0) 965 (nI 1)))), (mti, .inl (cs 6, 2, .inr (.inr (.inr (.inr fti))))), (ti0, .inl (cs 1, 2001, .inr (.inl (vp_updL u0 0 (lN (ww * 4))))))]) (xV (As := [.int (nI 1), .int (nI 9)]) (rest := []) C (c_X12_isSample_x l D cs hm ms mkp mtr mas mso mon mot man mst msm mtb mti mfr mbn mbs mde maa mab mba mbb 1 9 (by decide) (by decide)) kX12_139 hP hD [10] rfl (by decide +kernel) 0 rfl rfl rfl ⟨Nat.le_of_ble_eq_true rfl, Nat.le_of_ble_eq_true rfl⟩ rfl hl.1 rfl (Nat.le_of_ble_eq_true rfl) dX12_spreads_28 ⟨Nat.le_of_ble_eq_true rfl, Nat.le_of_ble_eq_true rfl⟩) hP hD hS hA [10] [0, 1, 2, 3, 4, 5, 6, 7, 8, 9] rfl rfl (by decide +kernel) (by decide +kernel) ?_
  clear hP hD hS
  try clear locs
  try clear H
  intro r_75 u_76 H locs hw_r_75 hP hD hS
  have hw_r_75 : r_75 = smB 1 9 := hw_r_75
  refine W.widen (k := 0) (n := 0) (Nat.le_of_ble_eq_true rfl) (Nat.le_of_ble_eq_true rfl) ?_
  replace hP : va_P D vwCl [(ti1, .inl (cs 1, 2001, .inr (.inl u1))), (st1, .inl (cs 0, 96048, .inl q1)), (ms, .inl (cs 0, 288, .inl freshS)), (msm, .inl (cs 0, 2, .inl (smF2 (nI 1) b0))), (mst, .inl (cs 5, 2, .inr (.inr (.inr (.inr fst))))), (st0, .inl (cs 0, 96048, .inl (cpF freshS q0 48))), (mtb, .inl (cs 5, 2, .inr (.inr (.inr (.inr ftb))))), (tb0, .inl (cs 0, 8192, .inl (upd (fun _ => nI 0) 965 (nI 1)))), (mti, .inl (cs 6, 2, .inr (.inr (.inr (.inr fti))))), (ti0, .inl (cs 1, 2001, .inr (.inl (vp_updL u0 0 (lN (ww * 4)))))), (hm, .inr (12, [.ref ms, .ref mkp, .int (nI 0), .ref mtr, .int (nI 4), .int (nI 2), .int (nI 2), .int (nI 3), .int (nI 2), .int (nI 1), .ref mas, .int (nI 0), .int (nI 0), .int (nI 0), .ref mso, .ref mon, .ref mot, .ref man, .int (nI 0), .int (nI 0), .ref mst, .ref msm, .ref mtb, .ref mti, .ref mfr, .ref mbn, .ref mbs, .ref mde, .int (nI 0), .int (nI 0), .int (nI 0), .int (nI 0), .long 0, .long 0, .ref maa, .ref mab, .ref mba, .ref mbb]))] H := hP
  replace hD : va_D A [(ti1, .inl (cs 1, 2001, .inr (.inl u1))), (st1, .inl (cs 0, 96048, .inl q1)), (ms, .inl (cs 0, 288, .inl freshS)), (msm, .inl (cs 0, 2, .inl (smF2 (nI 1) b0))), (mst, .inl (cs 5, 2, .inr (.inr (.inr (.inr fst))))), (st0, .inl (cs 0, 96048, .inl (cpF freshS q0 48))), (mtb, .inl (cs 5, 2, .inr (.inr (.inr (.inr ftb))))), (tb0, .inl (cs 0, 8192, .inl (upd (fun _ => nI 0) 965 (nI 1)))), (mti, .inl (cs 6, 2, .inr (.inr (.inr (.inr fti))))), (ti0, .inl (cs 1, 2001, .inr (.inl (vp_updL u0 0 (lN (ww * 4)))))), (hm, .inr (12, [.ref ms, .ref mkp, .int (nI 0), .ref mtr, .int (nI 4), .int (nI 2), .int (nI 2), .int (nI 3), .int (nI 2), .int (nI 1), .ref mas, .int (nI 0), .int (nI 0), .int (nI 0), .ref mso, .ref mon, .ref mot, .ref man, .int (nI 0), .int (nI 0), .ref mst, .ref msm, .ref mtb, .ref mti, .ref mfr, .ref mbn, .ref mbs, .ref mde, .int (nI 0), .int (nI 0), .int (nI 0), .int (nI 0), .long 0, .long 0, .ref maa, .ref mab, .ref mba, .ref mbb]))] := hD
  obtain rfl : r_75 = nI 1 := by rw [hw_r_75]; decide +kernel
  refine lv_if_ne (tgt := 37) hx hb dX12_spreads_31 (by decide) (fun _ => ?_) (fun c => absurd c (by decide))
  refine lv_aload_n hx hb dX12_spreads_37 rfl (lv_at hl 3 rfl) ?_
  refine lv_iload_n hx hb dX12_spreads_38 rfl (lv_at hl 4 rfl) ?_
  refine lv_iload_n hx hb dX12_spreads_39 rfl (lv_at hl 5 rfl) ?_
  refine xv (wr := [(ti1, .inl (cs 1, 2001, .inr (.inl u1))), (msm, .inl (cs 0, 2, .inl (smF2 (nI 1) b0))), (st0, .inl (cs 0, 96048, .inl (cpF freshS q0 48))), (mtb, .inl (cs 5, 2, .inr (.inr (.inr (.inr ftb))))), (tb0, .inl (cs 0, 8192, .inl (upd (fun _ => nI 0) 965 (nI 1)))), (mti, .inl (cs 6, 2, .inr (.inr (.inr (.inr fti))))), (ti0, .inl (cs 1, 2001, .inr (.inl (vp_updL u0 0 (lN (ww * 4))))))]) (xV (As := [.int (nI 1), .int (nI 0)]) (rest := []) C (c_X12_brings_1 l D cs hm ms mkp mtr mas mso mon mot man mst msm mtb mti mfr mbn mbs mde maa mab mba mbb st1 fst q1 hf1 hq) kX12_203 hP hD [10, 2, 4, 1] rfl (by decide +kernel) 0 rfl rfl rfl ⟨Nat.le_of_ble_eq_true rfl, Nat.le_of_ble_eq_true rfl⟩ rfl hl.1 rfl (Nat.le_of_ble_eq_true rfl) dX12_spreads_40 ⟨Nat.le_of_ble_eq_true rfl, Nat.le_of_ble_eq_true rfl⟩) hP hD hS hA [10, 2, 4, 1] [0, 3, 5, 6, 7, 8, 9] rfl rfl (by decide +kernel) (by decide +kernel) ?_
  clear hP hD hS
  try clear locs
  try clear H
  intro u_78 H locs hw_r_77 hP hD hS
  refine W.widen (k := 0) (n := 0) (Nat.le_of_ble_eq_true rfl) (Nat.le_of_ble_eq_true rfl) ?_
  replace hP : va_P D vwCl [(ti1, .inl (cs 1, 2001, .inr (.inl u1))), (msm, .inl (cs 0, 2, .inl (smF2 (nI 1) b0))), (st0, .inl (cs 0, 96048, .inl (cpF freshS q0 48))), (mtb, .inl (cs 5, 2, .inr (.inr (.inr (.inr ftb))))), (tb0, .inl (cs 0, 8192, .inl (upd (fun _ => nI 0) 965 (nI 1)))), (mti, .inl (cs 6, 2, .inr (.inr (.inr (.inr fti))))), (ti0, .inl (cs 1, 2001, .inr (.inl (vp_updL u0 0 (lN (ww * 4)))))), (hm, .inr (12, [.ref ms, .ref mkp, .int (nI 0), .ref mtr, .int (nI 4), .int (nI 2), .int (nI 2), .int (nI 3), .int (nI 2), .int (nI 1), .ref mas, .int (nI 0), .int (nI 0), .int (nI 0), .ref mso, .ref mon, .ref mot, .ref man, .int (nI 0), .int (nI 0), .ref mst, .ref msm, .ref mtb, .ref mti, .ref mfr, .ref mbn, .ref mbs, .ref mde, .int (nI 0), .int (nI 0), .int (nI 0), .int (nI 0), .long 0, .long 0, .ref maa, .ref mab, .ref mba, .ref mbb])), (ms, .inl (cs 0, 288, .inl freshS)), (mst, .inl (cs 5, 2, .inr (.inr (.inr (.inr fst))))), (st1, .inl (cs 0, 96048, .inl q1))] H := hP
  replace hD : va_D A [(ti1, .inl (cs 1, 2001, .inr (.inl u1))), (msm, .inl (cs 0, 2, .inl (smF2 (nI 1) b0))), (st0, .inl (cs 0, 96048, .inl (cpF freshS q0 48))), (mtb, .inl (cs 5, 2, .inr (.inr (.inr (.inr ftb))))), (tb0, .inl (cs 0, 8192, .inl (upd (fun _ => nI 0) 965 (nI 1)))), (mti, .inl (cs 6, 2, .inr (.inr (.inr (.inr fti))))), (ti0, .inl (cs 1, 2001, .inr (.inl (vp_updL u0 0 (lN (ww * 4)))))), (hm, .inr (12, [.ref ms, .ref mkp, .int (nI 0), .ref mtr, .int (nI 4), .int (nI 2), .int (nI 2), .int (nI 3), .int (nI 2), .int (nI 1), .ref mas, .int (nI 0), .int (nI 0), .int (nI 0), .ref mso, .ref mon, .ref mot, .ref man, .int (nI 0), .int (nI 0), .ref mst, .ref msm, .ref mtb, .ref mti, .ref mfr, .ref mbn, .ref mbs, .ref mde, .int (nI 0), .int (nI 0), .int (nI 0), .int (nI 0), .long 0, .long 0, .ref maa, .ref mab, .ref mba, .ref mbb])), (ms, .inl (cs 0, 288, .inl freshS)), (mst, .inl (cs 5, 2, .inr (.inr (.inr (.inr fst))))), (st1, .inl (cs 0, 96048, .inl q1))] := hD
  refine lv_aload_n hx hb dX12_spreads_43 rfl (lv_at hl 3 rfl) ?_
  refine lv_iload_n hx hb dX12_spreads_44 rfl (lv_at hl 2 rfl) ?_
  refine xi (wr := [(ti1, .inl (cs 1, 2001, .inr (.inl u1))), (msm, .inl (cs 0, 2, .inl (smF2 (nI 1) b0))), (st0, .inl (cs 0, 96048, .inl (cpF freshS q0 48))), (mtb, .inl (cs 5, 2, .inr (.inr (.inr (.inr ftb))))), (tb0, .inl (cs 0, 8192, .inl (upd (fun _ => nI 0) 965 (nI 1)))), (mti, .inl (cs 6, 2, .inr (.inr (.inr (.inr fti))))), (ti0, .inl (cs 1, 2001, .inr (.inl (vp_updL u0 0 (lN (ww * 4)))))), (mst, .inl (cs 5, 2, .inr (.inr (.inr (.inr fst))))), (st1, .inl (cs 0, 96048, .inl q1))]) (xV (As := [.int (nI 1)]) (rest := []) C (c_X12_canAsk_z l D cs hm ms mkp mtr mas mso mon mot man mst msm mtb mti mfr mbn mbs mde maa mab mba mbb 1 (by decide)) kX12_142 hP hD [7, 8] rfl (by decide +kernel) 0 rfl rfl rfl ⟨Nat.le_of_ble_eq_true rfl, Nat.le_of_ble_eq_true rfl⟩ rfl hl.1 rfl (Nat.le_of_ble_eq_true rfl) dX12_spreads_45 ⟨Nat.le_of_ble_eq_true rfl, Nat.le_of_ble_eq_true rfl⟩) hP hD hS hA [7, 8] [0, 1, 2, 3, 4, 5, 6, 9, 10] rfl rfl (by decide +kernel) (by decide +kernel) ?_
  clear hP hD hS
  try clear locs
  try clear H
  intro r_79 u_80 H locs hw_r_79 hP hD hS
  have hw_r_79 : r_79 = nI 0 := hw_r_79
  refine W.widen (k := 0) (n := 0) (Nat.le_of_ble_eq_true rfl) (Nat.le_of_ble_eq_true rfl) ?_
  replace hP : va_P D vwCl [(ti1, .inl (cs 1, 2001, .inr (.inl u1))), (msm, .inl (cs 0, 2, .inl (smF2 (nI 1) b0))), (st0, .inl (cs 0, 96048, .inl (cpF freshS q0 48))), (mtb, .inl (cs 5, 2, .inr (.inr (.inr (.inr ftb))))), (tb0, .inl (cs 0, 8192, .inl (upd (fun _ => nI 0) 965 (nI 1)))), (mti, .inl (cs 6, 2, .inr (.inr (.inr (.inr fti))))), (ti0, .inl (cs 1, 2001, .inr (.inl (vp_updL u0 0 (lN (ww * 4)))))), (mst, .inl (cs 5, 2, .inr (.inr (.inr (.inr fst))))), (st1, .inl (cs 0, 96048, .inl q1)), (hm, .inr (12, [.ref ms, .ref mkp, .int (nI 0), .ref mtr, .int (nI 4), .int (nI 2), .int (nI 2), .int (nI 3), .int (nI 2), .int (nI 1), .ref mas, .int (nI 0), .int (nI 0), .int (nI 0), .ref mso, .ref mon, .ref mot, .ref man, .int (nI 0), .int (nI 0), .ref mst, .ref msm, .ref mtb, .ref mti, .ref mfr, .ref mbn, .ref mbs, .ref mde, .int (nI 0), .int (nI 0), .int (nI 0), .int (nI 0), .long 0, .long 0, .ref maa, .ref mab, .ref mba, .ref mbb])), (ms, .inl (cs 0, 288, .inl freshS))] H := hP
  replace hD : va_D A [(ti1, .inl (cs 1, 2001, .inr (.inl u1))), (msm, .inl (cs 0, 2, .inl (smF2 (nI 1) b0))), (st0, .inl (cs 0, 96048, .inl (cpF freshS q0 48))), (mtb, .inl (cs 5, 2, .inr (.inr (.inr (.inr ftb))))), (tb0, .inl (cs 0, 8192, .inl (upd (fun _ => nI 0) 965 (nI 1)))), (mti, .inl (cs 6, 2, .inr (.inr (.inr (.inr fti))))), (ti0, .inl (cs 1, 2001, .inr (.inl (vp_updL u0 0 (lN (ww * 4)))))), (mst, .inl (cs 5, 2, .inr (.inr (.inr (.inr fst))))), (st1, .inl (cs 0, 96048, .inl q1)), (hm, .inr (12, [.ref ms, .ref mkp, .int (nI 0), .ref mtr, .int (nI 4), .int (nI 2), .int (nI 2), .int (nI 3), .int (nI 2), .int (nI 1), .ref mas, .int (nI 0), .int (nI 0), .int (nI 0), .ref mso, .ref mon, .ref mot, .ref man, .int (nI 0), .int (nI 0), .ref mst, .ref msm, .ref mtb, .ref mti, .ref mfr, .ref mbn, .ref mbs, .ref mde, .int (nI 0), .int (nI 0), .int (nI 0), .int (nI 0), .long 0, .long 0, .ref maa, .ref mab, .ref mba, .ref mbb])), (ms, .inl (cs 0, 288, .inl freshS))] := hD
  subst hw_r_79
  refine lv_if_eq (tgt := 67) hx hb dX12_spreads_48 (by decide) (fun _ => ?_) (fun c => absurd (by decide) c)
  refine lv_aload_n hx hb dX12_spreads_67 rfl (lv_at hl 3 rfl) ?_
  refine lv_iconst (v := nI 1) hx hb dX12_spreads_68 (by decide) ?_
  refine lv_iload_n hx hb dX12_spreads_69 rfl (lv_at hl 4 rfl) ?_
  refine lv_isub hx hb dX12_spreads_70 ?_
  refine lv_topi (nm_r (e' := nI 0) (by decide) ?_)
  refine lv_sipush (v := nI 2000) hx hb dX12_spreads_71 (by decide) ?_
  refine xi (wr := [(ti1, .inl (cs 1, 2001, .inr (.inl u1))), (st1, .inl (cs 0, 96048, .inl q1))]) (xV (As := [.int (nI 0), .int (nI 2000)]) (rest := []) C (c_X12_numberOf_b0 l D cs hm ms mkp mtr mas mso mon mot man mst msm mtb mti mfr mbn mbs mde maa mab mba mbb st0 tb0 ti0 fst ftb fti (smF2 (nI 1) b0) (cpF freshS q0 48) (upd (fun _ => nI 0) 965 (nI 1)) (vp_updL u0 0 (lN (ww * 4))) hf0 hg ht0 (if_pos rfl) (fun j hj => cpF_lt hj)) kX12_197 hP hD [9, 10, 1, 7, 2, 3, 4, 5, 6] rfl (by decide +kernel) 0 rfl rfl rfl ⟨Nat.le_of_ble_eq_true rfl, Nat.le_of_ble_eq_true rfl⟩ rfl hl.1 rfl (Nat.le_of_ble_eq_true rfl) dX12_spreads_74 ⟨Nat.le_of_ble_eq_true rfl, Nat.le_of_ble_eq_true rfl⟩) hP hD hS hA [9, 10, 1, 7, 2, 3, 4, 5, 6] [0, 8] rfl rfl (by decide +kernel) (by decide +kernel) ?_
  clear hP hD hS
  try clear locs
  try clear H
  intro r_81 u_82 H locs hw_r_81 hP hD hS
  have hw_r_81 : r_81 = nI 0 := hw_r_81
  refine W.widen (k := 0) (n := 0) (Nat.le_of_ble_eq_true rfl) (Nat.le_of_ble_eq_true rfl) ?_
  replace hP : va_P D vwCl [(ti1, .inl (cs 1, 2001, .inr (.inl u1))), (st1, .inl (cs 0, 96048, .inl q1)), (hm, .inr (12, [.ref ms, .ref mkp, .int (nI 0), .ref mtr, .int (nI 4), .int (nI 2), .int (nI 2), .int (nI 3), .int (nI 2), .int (nI 1), .ref mas, .int (nI 0), .int (nI 0), .int (nI 0), .ref mso, .ref mon, .ref mot, .ref man, .int (nI 0), .int (nI 0), .ref mst, .ref msm, .ref mtb, .ref mti, .ref mfr, .ref mbn, .ref mbs, .ref mde, .int (nI 0), .int (nI 0), .int (nI 0), .int (nI 0), .long 0, .long 0, .ref maa, .ref mab, .ref mba, .ref mbb])), (ms, .inl (cs 0, 288, .inl freshS)), (msm, .inl (cs 0, 2, .inl (smF2 (nI 1) b0))), (mst, .inl (cs 5, 2, .inr (.inr (.inr (.inr fst))))), (st0, .inl (cs 0, 96048, .inl (cpF freshS q0 48))), (mtb, .inl (cs 5, 2, .inr (.inr (.inr (.inr ftb))))), (tb0, .inl (cs 0, 8192, .inl (upd (fun _ => nI 0) 965 (nI 1)))), (mti, .inl (cs 6, 2, .inr (.inr (.inr (.inr fti))))), (ti0, .inl (cs 1, 2001, .inr (.inl (vp_updL u0 0 (lN (ww * 4))))))] H := hP
  replace hD : va_D A [(ti1, .inl (cs 1, 2001, .inr (.inl u1))), (st1, .inl (cs 0, 96048, .inl q1)), (hm, .inr (12, [.ref ms, .ref mkp, .int (nI 0), .ref mtr, .int (nI 4), .int (nI 2), .int (nI 2), .int (nI 3), .int (nI 2), .int (nI 1), .ref mas, .int (nI 0), .int (nI 0), .int (nI 0), .ref mso, .ref mon, .ref mot, .ref man, .int (nI 0), .int (nI 0), .ref mst, .ref msm, .ref mtb, .ref mti, .ref mfr, .ref mbn, .ref mbs, .ref mde, .int (nI 0), .int (nI 0), .int (nI 0), .int (nI 0), .long 0, .long 0, .ref maa, .ref mab, .ref mba, .ref mbb])), (ms, .inl (cs 0, 288, .inl freshS)), (msm, .inl (cs 0, 2, .inl (smF2 (nI 1) b0))), (mst, .inl (cs 5, 2, .inr (.inr (.inr (.inr fst))))), (st0, .inl (cs 0, 96048, .inl (cpF freshS q0 48))), (mtb, .inl (cs 5, 2, .inr (.inr (.inr (.inr ftb))))), (tb0, .inl (cs 0, 8192, .inl (upd (fun _ => nI 0) 965 (nI 1)))), (mti, .inl (cs 6, 2, .inr (.inr (.inr (.inr fti))))), (ti0, .inl (cs 1, 2001, .inr (.inl (vp_updL u0 0 (lN (ww * 4))))))] := hD
  subst hw_r_81
  refine lv_istore (lv' := [(5, .int (nI 0)), (4, .int (nI 9)), (3, .int (nI 1)), (0, .ref hm), (1, .int (nI 1)), (2, .int (nI 0))]) hx hb dX12_spreads_77 hl (by decide) rfl ?_
  clear hl
  try clear ls
  intro ls hl
  refine lv_iload hx hb dX12_spreads_79 (lv_at hl 0 rfl) ?_
  refine lv_if_ge (tgt := 86) hx hb dX12_spreads_81 (by decide) (fun _ => ?_) (fun c => absurd (by decide) c)
  refine lv_aload_n hx hb dX12_spreads_86 rfl (lv_at hl 3 rfl) ?_
  refine xget C hP 2 rfl rfl zuX12 23 (by decide) zw5_236 rfl dX12_spreads_87 ?_
  refine lv_iconst (v := nI 1) hx hb dX12_spreads_90 (by decide) ?_
  refine lv_iload_n hx hb dX12_spreads_91 rfl (lv_at hl 4 rfl) ?_
  refine lv_isub hx hb dX12_spreads_92 ?_
  refine lv_topi (nm_r (e' := nI 0) (by decide) ?_)
  refine xaald C hP 9 6 rfl rfl rfl 0 rfl (by decide) (by decide) ht0 dX12_spreads_93 ?_
  refine lv_iload hx hb dX12_spreads_94 (lv_at hl 0 rfl) ?_
  refine lv_dup2_11 hx hb dX12_spreads_96 rfl rfl ?_
  refine xlald C hP 10 rfl 0 rfl (by decide) (by decide) dX12_spreads_97 ?_
  refine lv_topl (nm_r (e' := lN (ww * 4)) (upL_0 _ _) ?_)
  refine lv_aload_n hx hb dX12_spreads_98 rfl (lv_at hl 3 rfl) ?_
  refine xget C hP 2 rfl rfl zuX12 23 (by decide) zw5_236 rfl dX12_spreads_99 ?_
  refine lv_iload_n hx hb dX12_spreads_102 rfl (lv_at hl 4 rfl) ?_
  refine xaald C hP 9 6 rfl rfl rfl 1 rfl (by decide) (by decide) ht1 dX12_spreads_103 ?_
  refine lv_iload_n hx hb dX12_spreads_104 rfl (lv_at hl 5 rfl) ?_
  refine xlald C hP 0 rfl 0 rfl (by decide) (by decide) dX12_spreads_105 ?_
  refine lv_topl (nm_r (e' := lN ww) hw ?_)
  refine lv_ladd hx hb dX12_spreads_106 ?_
  refine lv_topl (nm_r (e' := lN (ww * 5)) (lN_a ww 4) ?_)
  refine xlast C hP hD hS 10 rfl 0 rfl (by decide) (by decide) dX12_spreads_107 ?_
  clear hP hD hS
  try clear locs
  try clear H
  intro H locs hP hD hS
  replace hP : va_P D vwCl [(ti1, .inl (cs 1, 2001, .inr (.inl u1))), (st1, .inl (cs 0, 96048, .inl q1)), (hm, .inr (12, [.ref ms, .ref mkp, .int (nI 0), .ref mtr, .int (nI 4), .int (nI 2), .int (nI 2), .int (nI 3), .int (nI 2), .int (nI 1), .ref mas, .int (nI 0), .int (nI 0), .int (nI 0), .ref mso, .ref mon, .ref mot, .ref man, .int (nI 0), .int (nI 0), .ref mst, .ref msm, .ref mtb, .ref mti, .ref mfr, .ref mbn, .ref mbs, .ref mde, .int (nI 0), .int (nI 0), .int (nI 0), .int (nI 0), .long 0, .long 0, .ref maa, .ref mab, .ref mba, .ref mbb])), (ms, .inl (cs 0, 288, .inl freshS)), (msm, .inl (cs 0, 2, .inl (smF2 (nI 1) b0))), (mst, .inl (cs 5, 2, .inr (.inr (.inr (.inr fst))))), (st0, .inl (cs 0, 96048, .inl (cpF freshS q0 48))), (mtb, .inl (cs 5, 2, .inr (.inr (.inr (.inr ftb))))), (tb0, .inl (cs 0, 8192, .inl (upd (fun _ => nI 0) 965 (nI 1)))), (mti, .inl (cs 6, 2, .inr (.inr (.inr (.inr fti))))), (ti0, .inl (cs 1, 2001, .inr (.inl (vp_updL (vp_updL u0 0 (lN (ww * 4))) 0 (lN (ww * 5))))))] H := hP
  replace hD : va_D A [(ti1, .inl (cs 1, 2001, .inr (.inl u1))), (st1, .inl (cs 0, 96048, .inl q1)), (hm, .inr (12, [.ref ms, .ref mkp, .int (nI 0), .ref mtr, .int (nI 4), .int (nI 2), .int (nI 2), .int (nI 3), .int (nI 2), .int (nI 1), .ref mas, .int (nI 0), .int (nI 0), .int (nI 0), .ref mso, .ref mon, .ref mot, .ref man, .int (nI 0), .int (nI 0), .ref mst, .ref msm, .ref mtb, .ref mti, .ref mfr, .ref mbn, .ref mbs, .ref mde, .int (nI 0), .int (nI 0), .int (nI 0), .int (nI 0), .long 0, .long 0, .ref maa, .ref mab, .ref mba, .ref mbb])), (ms, .inl (cs 0, 288, .inl freshS)), (msm, .inl (cs 0, 2, .inl (smF2 (nI 1) b0))), (mst, .inl (cs 5, 2, .inr (.inr (.inr (.inr fst))))), (st0, .inl (cs 0, 96048, .inl (cpF freshS q0 48))), (mtb, .inl (cs 5, 2, .inr (.inr (.inr (.inr ftb))))), (tb0, .inl (cs 0, 8192, .inl (upd (fun _ => nI 0) 965 (nI 1)))), (mti, .inl (cs 6, 2, .inr (.inr (.inr (.inr fti))))), (ti0, .inl (cs 1, 2001, .inr (.inl (vp_updL (vp_updL u0 0 (lN (ww * 4))) 0 (lN (ww * 5))))))] := hD
  have hPD := xcongl (q0 := 10) (vp_updL u0 0 (lN (ww * 5))) hP hD rfl (fun j hj => upL_1 u0 _ _ j)
  clear hP hD
  obtain ⟨hP, hD⟩ := hPD
  replace hP : va_P D vwCl [(ti1, .inl (cs 1, 2001, .inr (.inl u1))), (st1, .inl (cs 0, 96048, .inl q1)), (hm, .inr (12, [.ref ms, .ref mkp, .int (nI 0), .ref mtr, .int (nI 4), .int (nI 2), .int (nI 2), .int (nI 3), .int (nI 2), .int (nI 1), .ref mas, .int (nI 0), .int (nI 0), .int (nI 0), .ref mso, .ref mon, .ref mot, .ref man, .int (nI 0), .int (nI 0), .ref mst, .ref msm, .ref mtb, .ref mti, .ref mfr, .ref mbn, .ref mbs, .ref mde, .int (nI 0), .int (nI 0), .int (nI 0), .int (nI 0), .long 0, .long 0, .ref maa, .ref mab, .ref mba, .ref mbb])), (ms, .inl (cs 0, 288, .inl freshS)), (msm, .inl (cs 0, 2, .inl (smF2 (nI 1) b0))), (mst, .inl (cs 5, 2, .inr (.inr (.inr (.inr fst))))), (st0, .inl (cs 0, 96048, .inl (cpF freshS q0 48))), (mtb, .inl (cs 5, 2, .inr (.inr (.inr (.inr ftb))))), (tb0, .inl (cs 0, 8192, .inl (upd (fun _ => nI 0) 965 (nI 1)))), (mti, .inl (cs 6, 2, .inr (.inr (.inr (.inr fti))))), (ti0, .inl (cs 1, 2001, .inr (.inl (vp_updL u0 0 (lN (ww * 5))))))] H := hP
  replace hD : va_D A [(ti1, .inl (cs 1, 2001, .inr (.inl u1))), (st1, .inl (cs 0, 96048, .inl q1)), (hm, .inr (12, [.ref ms, .ref mkp, .int (nI 0), .ref mtr, .int (nI 4), .int (nI 2), .int (nI 2), .int (nI 3), .int (nI 2), .int (nI 1), .ref mas, .int (nI 0), .int (nI 0), .int (nI 0), .ref mso, .ref mon, .ref mot, .ref man, .int (nI 0), .int (nI 0), .ref mst, .ref msm, .ref mtb, .ref mti, .ref mfr, .ref mbn, .ref mbs, .ref mde, .int (nI 0), .int (nI 0), .int (nI 0), .int (nI 0), .long 0, .long 0, .ref maa, .ref mab, .ref mba, .ref mbb])), (ms, .inl (cs 0, 288, .inl freshS)), (msm, .inl (cs 0, 2, .inl (smF2 (nI 1) b0))), (mst, .inl (cs 5, 2, .inr (.inr (.inr (.inr fst))))), (st0, .inl (cs 0, 96048, .inl (cpF freshS q0 48))), (mtb, .inl (cs 5, 2, .inr (.inr (.inr (.inr ftb))))), (tb0, .inl (cs 0, 8192, .inl (upd (fun _ => nI 0) 965 (nI 1)))), (mti, .inl (cs 6, 2, .inr (.inr (.inr (.inr fti))))), (ti0, .inl (cs 1, 2001, .inr (.inl (vp_updL u0 0 (lN (ww * 5))))))] := hD
  refine lv_iinc (v := nI 10) (lv' := [(4, .int (nI 10)), (5, .int (nI 0)), (3, .int (nI 1)), (0, .ref hm), (1, .int (nI 1)), (2, .int (nI 0))]) hx hb dX12_spreads_108 hl (k := 1) rfl (by decide) (by decide) rfl ?_
  clear hl
  try clear ls
  intro ls hl
  refine lv_goto (tgt := 13) hx hb dX12_spreads_111 (by decide) ?_
  refine lv_iload hx hb dX12_spreads_13 (lv_at hl 0 rfl) ?_
  refine lv_iconst (v := nI 1) hx hb dX12_spreads_15 (by decide) ?_
  refine lv_aload_n hx hb dX12_spreads_16 rfl (lv_at hl 3 rfl) ?_
  refine xget C hP 2 rfl rfl zuX12 4 (by decide) zw5_217 rfl dX12_spreads_17 ?_
  refine lv_ishl hx hb dX12_spreads_20 ?_
  refine lv_topi (nm_r (e' := nI 16) (by decide) ?_)
  refine lv_icmp_ge (tgt := 114) hx hb dX12_spreads_21 (by decide) (fun c => absurd c (by decide)) (fun _ => ?_)
  refine lv_aload_n hx hb dX12_spreads_24 rfl (lv_at hl 3 rfl) ?_
  refine lv_iload_n hx hb dX12_spreads_25 rfl (lv_at hl 2 rfl) ?_
  refine lv_iload hx hb dX12_spreads_26 (lv_at hl 0 rfl) ?_
  refine xi (wr := [(ti1, .inl (cs 1, 2001, .inr (.inl u1))), (st1, .inl (cs 0, 96048, .inl q1)), (ms, .inl (cs 0, 288, .inl freshS)), (msm, .inl (cs 0, 2, .inl (smF2 (nI 1) b0))), (mst, .inl (cs 5, 2, .inr (.inr (.inr (.inr fst))))), (st0, .inl (cs 0, 96048, .inl (cpF freshS q0 48))), (mtb, .inl (cs 5, 2, .inr (.inr (.inr (.inr ftb))))), (tb0, .inl (cs 0, 8192, .inl (upd (fun _ => nI 0) 965 (nI 1)))), (mti, .inl (cs 6, 2, .inr (.inr (.inr (.inr fti))))), (ti0, .inl (cs 1, 2001, .inr (.inl (vp_updL u0 0 (lN (ww * 5))))))]) (xV (As := [.int (nI 1), .int (nI 10)]) (rest := []) C (c_X12_isSample_x l D cs hm ms mkp mtr mas mso mon mot man mst msm mtb mti mfr mbn mbs mde maa mab mba mbb 1 10 (by decide) (by decide)) kX12_139 hP hD [2] rfl (by decide +kernel) 0 rfl rfl rfl ⟨Nat.le_of_ble_eq_true rfl, Nat.le_of_ble_eq_true rfl⟩ rfl hl.1 rfl (Nat.le_of_ble_eq_true rfl) dX12_spreads_28 ⟨Nat.le_of_ble_eq_true rfl, Nat.le_of_ble_eq_true rfl⟩) hP hD hS hA [2] [0, 1, 3, 4, 5, 6, 7, 8, 9, 10] rfl rfl (by decide +kernel) (by decide +kernel) ?_
  clear hP hD hS
  try clear locs
  try clear H
  intro r_83 u_84 H locs hw_r_83 hP hD hS
  have hw_r_83 : r_83 = smB 1 10 := hw_r_83
  refine W.widen (k := 0) (n := 0) (Nat.le_of_ble_eq_true rfl) (Nat.le_of_ble_eq_true rfl) ?_
  replace hP : va_P D vwCl [(ti1, .inl (cs 1, 2001, .inr (.inl u1))), (st1, .inl (cs 0, 96048, .inl q1)), (ms, .inl (cs 0, 288, .inl freshS)), (msm, .inl (cs 0, 2, .inl (smF2 (nI 1) b0))), (mst, .inl (cs 5, 2, .inr (.inr (.inr (.inr fst))))), (st0, .inl (cs 0, 96048, .inl (cpF freshS q0 48))), (mtb, .inl (cs 5, 2, .inr (.inr (.inr (.inr ftb))))), (tb0, .inl (cs 0, 8192, .inl (upd (fun _ => nI 0) 965 (nI 1)))), (mti, .inl (cs 6, 2, .inr (.inr (.inr (.inr fti))))), (ti0, .inl (cs 1, 2001, .inr (.inl (vp_updL u0 0 (lN (ww * 5)))))), (hm, .inr (12, [.ref ms, .ref mkp, .int (nI 0), .ref mtr, .int (nI 4), .int (nI 2), .int (nI 2), .int (nI 3), .int (nI 2), .int (nI 1), .ref mas, .int (nI 0), .int (nI 0), .int (nI 0), .ref mso, .ref mon, .ref mot, .ref man, .int (nI 0), .int (nI 0), .ref mst, .ref msm, .ref mtb, .ref mti, .ref mfr, .ref mbn, .ref mbs, .ref mde, .int (nI 0), .int (nI 0), .int (nI 0), .int (nI 0), .long 0, .long 0, .ref maa, .ref mab, .ref mba, .ref mbb]))] H := hP
  replace hD : va_D A [(ti1, .inl (cs 1, 2001, .inr (.inl u1))), (st1, .inl (cs 0, 96048, .inl q1)), (ms, .inl (cs 0, 288, .inl freshS)), (msm, .inl (cs 0, 2, .inl (smF2 (nI 1) b0))), (mst, .inl (cs 5, 2, .inr (.inr (.inr (.inr fst))))), (st0, .inl (cs 0, 96048, .inl (cpF freshS q0 48))), (mtb, .inl (cs 5, 2, .inr (.inr (.inr (.inr ftb))))), (tb0, .inl (cs 0, 8192, .inl (upd (fun _ => nI 0) 965 (nI 1)))), (mti, .inl (cs 6, 2, .inr (.inr (.inr (.inr fti))))), (ti0, .inl (cs 1, 2001, .inr (.inl (vp_updL u0 0 (lN (ww * 5)))))), (hm, .inr (12, [.ref ms, .ref mkp, .int (nI 0), .ref mtr, .int (nI 4), .int (nI 2), .int (nI 2), .int (nI 3), .int (nI 2), .int (nI 1), .ref mas, .int (nI 0), .int (nI 0), .int (nI 0), .ref mso, .ref mon, .ref mot, .ref man, .int (nI 0), .int (nI 0), .ref mst, .ref msm, .ref mtb, .ref mti, .ref mfr, .ref mbn, .ref mbs, .ref mde, .int (nI 0), .int (nI 0), .int (nI 0), .int (nI 0), .long 0, .long 0, .ref maa, .ref mab, .ref mba, .ref mbb]))] := hD
  obtain rfl : r_83 = nI 0 := by rw [hw_r_83]; decide +kernel
  refine lv_if_ne (tgt := 37) hx hb dX12_spreads_31 (by decide) (fun c => absurd (by decide) c) (fun _ => ?_)
  refine lv_goto (tgt := 108) hx hb dX12_spreads_34 (by decide) ?_
  refine lv_iinc (v := nI 11) (lv' := [(4, .int (nI 11)), (5, .int (nI 0)), (3, .int (nI 1)), (0, .ref hm), (1, .int (nI 1)), (2, .int (nI 0))]) hx hb dX12_spreads_108 hl (k := 0) rfl (by decide) (by decide) rfl ?_
  clear hl
  try clear ls
  intro ls hl
  refine lv_goto (tgt := 13) hx hb dX12_spreads_111 (by decide) ?_
  refine lv_iload hx hb dX12_spreads_13 (lv_at hl 0 rfl) ?_
  refine lv_iconst (v := nI 1) hx hb dX12_spreads_15 (by decide) ?_
  refine lv_aload_n hx hb dX12_spreads_16 rfl (lv_at hl 3 rfl) ?_
  refine xget C hP 10 rfl rfl zuX12 4 (by decide) zw5_217 rfl dX12_spreads_17 ?_
  refine lv_ishl hx hb dX12_spreads_20 ?_
  refine lv_topi (nm_r (e' := nI 16) (by decide) ?_)
  refine lv_icmp_ge (tgt := 114) hx hb dX12_spreads_21 (by decide) (fun c => absurd c (by decide)) (fun _ => ?_)
  refine lv_aload_n hx hb dX12_spreads_24 rfl (lv_at hl 3 rfl) ?_
  refine lv_iload_n hx hb dX12_spreads_25 rfl (lv_at hl 2 rfl) ?_
  refine lv_iload hx hb dX12_spreads_26 (lv_at hl 0 rfl) ?_
  refine xi (wr := [(ti1, .inl (cs 1, 2001, .inr (.inl u1))), (st1, .inl (cs 0, 96048, .inl q1)), (ms, .inl (cs 0, 288, .inl freshS)), (msm, .inl (cs 0, 2, .inl (smF2 (nI 1) b0))), (mst, .inl (cs 5, 2, .inr (.inr (.inr (.inr fst))))), (st0, .inl (cs 0, 96048, .inl (cpF freshS q0 48))), (mtb, .inl (cs 5, 2, .inr (.inr (.inr (.inr ftb))))), (tb0, .inl (cs 0, 8192, .inl (upd (fun _ => nI 0) 965 (nI 1)))), (mti, .inl (cs 6, 2, .inr (.inr (.inr (.inr fti))))), (ti0, .inl (cs 1, 2001, .inr (.inl (vp_updL u0 0 (lN (ww * 5))))))]) (xV (As := [.int (nI 1), .int (nI 11)]) (rest := []) C (c_X12_isSample_x l D cs hm ms mkp mtr mas mso mon mot man mst msm mtb mti mfr mbn mbs mde maa mab mba mbb 1 11 (by decide) (by decide)) kX12_139 hP hD [10] rfl (by decide +kernel) 0 rfl rfl rfl ⟨Nat.le_of_ble_eq_true rfl, Nat.le_of_ble_eq_true rfl⟩ rfl hl.1 rfl (Nat.le_of_ble_eq_true rfl) dX12_spreads_28 ⟨Nat.le_of_ble_eq_true rfl, Nat.le_of_ble_eq_true rfl⟩) hP hD hS hA [10] [0, 1, 2, 3, 4, 5, 6, 7, 8, 9] rfl rfl (by decide +kernel) (by decide +kernel) ?_
  clear hP hD hS
  try clear locs
  try clear H
  intro r_85 u_86 H locs hw_r_85 hP hD hS
  have hw_r_85 : r_85 = smB 1 11 := hw_r_85
  refine W.widen (k := 0) (n := 0) (Nat.le_of_ble_eq_true rfl) (Nat.le_of_ble_eq_true rfl) ?_
  replace hP : va_P D vwCl [(ti1, .inl (cs 1, 2001, .inr (.inl u1))), (st1, .inl (cs 0, 96048, .inl q1)), (ms, .inl (cs 0, 288, .inl freshS)), (msm, .inl (cs 0, 2, .inl (smF2 (nI 1) b0))), (mst, .inl (cs 5, 2, .inr (.inr (.inr (.inr fst))))), (st0, .inl (cs 0, 96048, .inl (cpF freshS q0 48))), (mtb, .inl (cs 5, 2, .inr (.inr (.inr (.inr ftb))))), (tb0, .inl (cs 0, 8192, .inl (upd (fun _ => nI 0) 965 (nI 1)))), (mti, .inl (cs 6, 2, .inr (.inr (.inr (.inr fti))))), (ti0, .inl (cs 1, 2001, .inr (.inl (vp_updL u0 0 (lN (ww * 5)))))), (hm, .inr (12, [.ref ms, .ref mkp, .int (nI 0), .ref mtr, .int (nI 4), .int (nI 2), .int (nI 2), .int (nI 3), .int (nI 2), .int (nI 1), .ref mas, .int (nI 0), .int (nI 0), .int (nI 0), .ref mso, .ref mon, .ref mot, .ref man, .int (nI 0), .int (nI 0), .ref mst, .ref msm, .ref mtb, .ref mti, .ref mfr, .ref mbn, .ref mbs, .ref mde, .int (nI 0), .int (nI 0), .int (nI 0), .int (nI 0), .long 0, .long 0, .ref maa, .ref mab, .ref mba, .ref mbb]))] H := hP
  replace hD : va_D A [(ti1, .inl (cs 1, 2001, .inr (.inl u1))), (st1, .inl (cs 0, 96048, .inl q1)), (ms, .inl (cs 0, 288, .inl freshS)), (msm, .inl (cs 0, 2, .inl (smF2 (nI 1) b0))), (mst, .inl (cs 5, 2, .inr (.inr (.inr (.inr fst))))), (st0, .inl (cs 0, 96048, .inl (cpF freshS q0 48))), (mtb, .inl (cs 5, 2, .inr (.inr (.inr (.inr ftb))))), (tb0, .inl (cs 0, 8192, .inl (upd (fun _ => nI 0) 965 (nI 1)))), (mti, .inl (cs 6, 2, .inr (.inr (.inr (.inr fti))))), (ti0, .inl (cs 1, 2001, .inr (.inl (vp_updL u0 0 (lN (ww * 5)))))), (hm, .inr (12, [.ref ms, .ref mkp, .int (nI 0), .ref mtr, .int (nI 4), .int (nI 2), .int (nI 2), .int (nI 3), .int (nI 2), .int (nI 1), .ref mas, .int (nI 0), .int (nI 0), .int (nI 0), .ref mso, .ref mon, .ref mot, .ref man, .int (nI 0), .int (nI 0), .ref mst, .ref msm, .ref mtb, .ref mti, .ref mfr, .ref mbn, .ref mbs, .ref mde, .int (nI 0), .int (nI 0), .int (nI 0), .int (nI 0), .long 0, .long 0, .ref maa, .ref mab, .ref mba, .ref mbb]))] := hD
  obtain rfl : r_85 = nI 0 := by rw [hw_r_85]; decide +kernel
  refine lv_if_ne (tgt := 37) hx hb dX12_spreads_31 (by decide) (fun c => absurd (by decide) c) (fun _ => ?_)
  refine lv_goto (tgt := 108) hx hb dX12_spreads_34 (by decide) ?_
  refine lv_iinc (v := nI 12) (lv' := [(4, .int (nI 12)), (5, .int (nI 0)), (3, .int (nI 1)), (0, .ref hm), (1, .int (nI 1)), (2, .int (nI 0))]) hx hb dX12_spreads_108 hl (k := 0) rfl (by decide) (by decide) rfl ?_
  clear hl
  try clear ls
  intro ls hl
  refine lv_goto (tgt := 13) hx hb dX12_spreads_111 (by decide) ?_
  refine lv_iload hx hb dX12_spreads_13 (lv_at hl 0 rfl) ?_
  refine lv_iconst (v := nI 1) hx hb dX12_spreads_15 (by decide) ?_
  refine lv_aload_n hx hb dX12_spreads_16 rfl (lv_at hl 3 rfl) ?_
  refine xget C hP 10 rfl rfl zuX12 4 (by decide) zw5_217 rfl dX12_spreads_17 ?_
  refine lv_ishl hx hb dX12_spreads_20 ?_
  refine lv_topi (nm_r (e' := nI 16) (by decide) ?_)
  refine lv_icmp_ge (tgt := 114) hx hb dX12_spreads_21 (by decide) (fun c => absurd c (by decide)) (fun _ => ?_)
  refine lv_aload_n hx hb dX12_spreads_24 rfl (lv_at hl 3 rfl) ?_
  refine lv_iload_n hx hb dX12_spreads_25 rfl (lv_at hl 2 rfl) ?_
  refine lv_iload hx hb dX12_spreads_26 (lv_at hl 0 rfl) ?_
  refine xi (wr := [(ti1, .inl (cs 1, 2001, .inr (.inl u1))), (st1, .inl (cs 0, 96048, .inl q1)), (ms, .inl (cs 0, 288, .inl freshS)), (msm, .inl (cs 0, 2, .inl (smF2 (nI 1) b0))), (mst, .inl (cs 5, 2, .inr (.inr (.inr (.inr fst))))), (st0, .inl (cs 0, 96048, .inl (cpF freshS q0 48))), (mtb, .inl (cs 5, 2, .inr (.inr (.inr (.inr ftb))))), (tb0, .inl (cs 0, 8192, .inl (upd (fun _ => nI 0) 965 (nI 1)))), (mti, .inl (cs 6, 2, .inr (.inr (.inr (.inr fti))))), (ti0, .inl (cs 1, 2001, .inr (.inl (vp_updL u0 0 (lN (ww * 5))))))]) (xV (As := [.int (nI 1), .int (nI 12)]) (rest := []) C (c_X12_isSample_x l D cs hm ms mkp mtr mas mso mon mot man mst msm mtb mti mfr mbn mbs mde maa mab mba mbb 1 12 (by decide) (by decide)) kX12_139 hP hD [10] rfl (by decide +kernel) 0 rfl rfl rfl ⟨Nat.le_of_ble_eq_true rfl, Nat.le_of_ble_eq_true rfl⟩ rfl hl.1 rfl (Nat.le_of_ble_eq_true rfl) dX12_spreads_28 ⟨Nat.le_of_ble_eq_true rfl, Nat.le_of_ble_eq_true rfl⟩) hP hD hS hA [10] [0, 1, 2, 3, 4, 5, 6, 7, 8, 9] rfl rfl (by decide +kernel) (by decide +kernel) ?_
  clear hP hD hS
  try clear locs
  try clear H
  intro r_87 u_88 H locs hw_r_87 hP hD hS
  have hw_r_87 : r_87 = smB 1 12 := hw_r_87
  refine W.widen (k := 0) (n := 0) (Nat.le_of_ble_eq_true rfl) (Nat.le_of_ble_eq_true rfl) ?_
  replace hP : va_P D vwCl [(ti1, .inl (cs 1, 2001, .inr (.inl u1))), (st1, .inl (cs 0, 96048, .inl q1)), (ms, .inl (cs 0, 288, .inl freshS)), (msm, .inl (cs 0, 2, .inl (smF2 (nI 1) b0))), (mst, .inl (cs 5, 2, .inr (.inr (.inr (.inr fst))))), (st0, .inl (cs 0, 96048, .inl (cpF freshS q0 48))), (mtb, .inl (cs 5, 2, .inr (.inr (.inr (.inr ftb))))), (tb0, .inl (cs 0, 8192, .inl (upd (fun _ => nI 0) 965 (nI 1)))), (mti, .inl (cs 6, 2, .inr (.inr (.inr (.inr fti))))), (ti0, .inl (cs 1, 2001, .inr (.inl (vp_updL u0 0 (lN (ww * 5)))))), (hm, .inr (12, [.ref ms, .ref mkp, .int (nI 0), .ref mtr, .int (nI 4), .int (nI 2), .int (nI 2), .int (nI 3), .int (nI 2), .int (nI 1), .ref mas, .int (nI 0), .int (nI 0), .int (nI 0), .ref mso, .ref mon, .ref mot, .ref man, .int (nI 0), .int (nI 0), .ref mst, .ref msm, .ref mtb, .ref mti, .ref mfr, .ref mbn, .ref mbs, .ref mde, .int (nI 0), .int (nI 0), .int (nI 0), .int (nI 0), .long 0, .long 0, .ref maa, .ref mab, .ref mba, .ref mbb]))] H := hP
  replace hD : va_D A [(ti1, .inl (cs 1, 2001, .inr (.inl u1))), (st1, .inl (cs 0, 96048, .inl q1)), (ms, .inl (cs 0, 288, .inl freshS)), (msm, .inl (cs 0, 2, .inl (smF2 (nI 1) b0))), (mst, .inl (cs 5, 2, .inr (.inr (.inr (.inr fst))))), (st0, .inl (cs 0, 96048, .inl (cpF freshS q0 48))), (mtb, .inl (cs 5, 2, .inr (.inr (.inr (.inr ftb))))), (tb0, .inl (cs 0, 8192, .inl (upd (fun _ => nI 0) 965 (nI 1)))), (mti, .inl (cs 6, 2, .inr (.inr (.inr (.inr fti))))), (ti0, .inl (cs 1, 2001, .inr (.inl (vp_updL u0 0 (lN (ww * 5)))))), (hm, .inr (12, [.ref ms, .ref mkp, .int (nI 0), .ref mtr, .int (nI 4), .int (nI 2), .int (nI 2), .int (nI 3), .int (nI 2), .int (nI 1), .ref mas, .int (nI 0), .int (nI 0), .int (nI 0), .ref mso, .ref mon, .ref mot, .ref man, .int (nI 0), .int (nI 0), .ref mst, .ref msm, .ref mtb, .ref mti, .ref mfr, .ref mbn, .ref mbs, .ref mde, .int (nI 0), .int (nI 0), .int (nI 0), .int (nI 0), .long 0, .long 0, .ref maa, .ref mab, .ref mba, .ref mbb]))] := hD
  obtain rfl : r_87 = nI 1 := by rw [hw_r_87]; decide +kernel
  refine lv_if_ne (tgt := 37) hx hb dX12_spreads_31 (by decide) (fun _ => ?_) (fun c => absurd c (by decide))
  refine lv_aload_n hx hb dX12_spreads_37 rfl (lv_at hl 3 rfl) ?_
  refine lv_iload_n hx hb dX12_spreads_38 rfl (lv_at hl 4 rfl) ?_
  refine lv_iload_n hx hb dX12_spreads_39 rfl (lv_at hl 5 rfl) ?_
  refine xv (wr := [(ti1, .inl (cs 1, 2001, .inr (.inl u1))), (msm, .inl (cs 0, 2, .inl (smF2 (nI 1) b0))), (st0, .inl (cs 0, 96048, .inl (cpF freshS q0 48))), (mtb, .inl (cs 5, 2, .inr (.inr (.inr (.inr ftb))))), (tb0, .inl (cs 0, 8192, .inl (upd (fun _ => nI 0) 965 (nI 1)))), (mti, .inl (cs 6, 2, .inr (.inr (.inr (.inr fti))))), (ti0, .inl (cs 1, 2001, .inr (.inl (vp_updL u0 0 (lN (ww * 5))))))]) (xV (As := [.int (nI 1), .int (nI 0)]) (rest := []) C (c_X12_brings_1 l D cs hm ms mkp mtr mas mso mon mot man mst msm mtb mti mfr mbn mbs mde maa mab mba mbb st1 fst q1 hf1 hq) kX12_203 hP hD [10, 2, 4, 1] rfl (by decide +kernel) 0 rfl rfl rfl ⟨Nat.le_of_ble_eq_true rfl, Nat.le_of_ble_eq_true rfl⟩ rfl hl.1 rfl (Nat.le_of_ble_eq_true rfl) dX12_spreads_40 ⟨Nat.le_of_ble_eq_true rfl, Nat.le_of_ble_eq_true rfl⟩) hP hD hS hA [10, 2, 4, 1] [0, 3, 5, 6, 7, 8, 9] rfl rfl (by decide +kernel) (by decide +kernel) ?_
  clear hP hD hS
  try clear locs
  try clear H
  intro u_90 H locs hw_r_89 hP hD hS
  refine W.widen (k := 0) (n := 0) (Nat.le_of_ble_eq_true rfl) (Nat.le_of_ble_eq_true rfl) ?_
  replace hP : va_P D vwCl [(ti1, .inl (cs 1, 2001, .inr (.inl u1))), (msm, .inl (cs 0, 2, .inl (smF2 (nI 1) b0))), (st0, .inl (cs 0, 96048, .inl (cpF freshS q0 48))), (mtb, .inl (cs 5, 2, .inr (.inr (.inr (.inr ftb))))), (tb0, .inl (cs 0, 8192, .inl (upd (fun _ => nI 0) 965 (nI 1)))), (mti, .inl (cs 6, 2, .inr (.inr (.inr (.inr fti))))), (ti0, .inl (cs 1, 2001, .inr (.inl (vp_updL u0 0 (lN (ww * 5)))))), (hm, .inr (12, [.ref ms, .ref mkp, .int (nI 0), .ref mtr, .int (nI 4), .int (nI 2), .int (nI 2), .int (nI 3), .int (nI 2), .int (nI 1), .ref mas, .int (nI 0), .int (nI 0), .int (nI 0), .ref mso, .ref mon, .ref mot, .ref man, .int (nI 0), .int (nI 0), .ref mst, .ref msm, .ref mtb, .ref mti, .ref mfr, .ref mbn, .ref mbs, .ref mde, .int (nI 0), .int (nI 0), .int (nI 0), .int (nI 0), .long 0, .long 0, .ref maa, .ref mab, .ref mba, .ref mbb])), (ms, .inl (cs 0, 288, .inl freshS)), (mst, .inl (cs 5, 2, .inr (.inr (.inr (.inr fst))))), (st1, .inl (cs 0, 96048, .inl q1))] H := hP
  replace hD : va_D A [(ti1, .inl (cs 1, 2001, .inr (.inl u1))), (msm, .inl (cs 0, 2, .inl (smF2 (nI 1) b0))), (st0, .inl (cs 0, 96048, .inl (cpF freshS q0 48))), (mtb, .inl (cs 5, 2, .inr (.inr (.inr (.inr ftb))))), (tb0, .inl (cs 0, 8192, .inl (upd (fun _ => nI 0) 965 (nI 1)))), (mti, .inl (cs 6, 2, .inr (.inr (.inr (.inr fti))))), (ti0, .inl (cs 1, 2001, .inr (.inl (vp_updL u0 0 (lN (ww * 5)))))), (hm, .inr (12, [.ref ms, .ref mkp, .int (nI 0), .ref mtr, .int (nI 4), .int (nI 2), .int (nI 2), .int (nI 3), .int (nI 2), .int (nI 1), .ref mas, .int (nI 0), .int (nI 0), .int (nI 0), .ref mso, .ref mon, .ref mot, .ref man, .int (nI 0), .int (nI 0), .ref mst, .ref msm, .ref mtb, .ref mti, .ref mfr, .ref mbn, .ref mbs, .ref mde, .int (nI 0), .int (nI 0), .int (nI 0), .int (nI 0), .long 0, .long 0, .ref maa, .ref mab, .ref mba, .ref mbb])), (ms, .inl (cs 0, 288, .inl freshS)), (mst, .inl (cs 5, 2, .inr (.inr (.inr (.inr fst))))), (st1, .inl (cs 0, 96048, .inl q1))] := hD
  refine lv_aload_n hx hb dX12_spreads_43 rfl (lv_at hl 3 rfl) ?_
  refine lv_iload_n hx hb dX12_spreads_44 rfl (lv_at hl 2 rfl) ?_
  refine xi (wr := [(ti1, .inl (cs 1, 2001, .inr (.inl u1))), (msm, .inl (cs 0, 2, .inl (smF2 (nI 1) b0))), (st0, .inl (cs 0, 96048, .inl (cpF freshS q0 48))), (mtb, .inl (cs 5, 2, .inr (.inr (.inr (.inr ftb))))), (tb0, .inl (cs 0, 8192, .inl (upd (fun _ => nI 0) 965 (nI 1)))), (mti, .inl (cs 6, 2, .inr (.inr (.inr (.inr fti))))), (ti0, .inl (cs 1, 2001, .inr (.inl (vp_updL u0 0 (lN (ww * 5)))))), (mst, .inl (cs 5, 2, .inr (.inr (.inr (.inr fst))))), (st1, .inl (cs 0, 96048, .inl q1))]) (xV (As := [.int (nI 1)]) (rest := []) C (c_X12_canAsk_z l D cs hm ms mkp mtr mas mso mon mot man mst msm mtb mti mfr mbn mbs mde maa mab mba mbb 1 (by decide)) kX12_142 hP hD [7, 8] rfl (by decide +kernel) 0 rfl rfl rfl ⟨Nat.le_of_ble_eq_true rfl, Nat.le_of_ble_eq_true rfl⟩ rfl hl.1 rfl (Nat.le_of_ble_eq_true rfl) dX12_spreads_45 ⟨Nat.le_of_ble_eq_true rfl, Nat.le_of_ble_eq_true rfl⟩) hP hD hS hA [7, 8] [0, 1, 2, 3, 4, 5, 6, 9, 10] rfl rfl (by decide +kernel) (by decide +kernel) ?_
  clear hP hD hS
  try clear locs
  try clear H
  intro r_91 u_92 H locs hw_r_91 hP hD hS
  have hw_r_91 : r_91 = nI 0 := hw_r_91
  refine W.widen (k := 0) (n := 0) (Nat.le_of_ble_eq_true rfl) (Nat.le_of_ble_eq_true rfl) ?_
  replace hP : va_P D vwCl [(ti1, .inl (cs 1, 2001, .inr (.inl u1))), (msm, .inl (cs 0, 2, .inl (smF2 (nI 1) b0))), (st0, .inl (cs 0, 96048, .inl (cpF freshS q0 48))), (mtb, .inl (cs 5, 2, .inr (.inr (.inr (.inr ftb))))), (tb0, .inl (cs 0, 8192, .inl (upd (fun _ => nI 0) 965 (nI 1)))), (mti, .inl (cs 6, 2, .inr (.inr (.inr (.inr fti))))), (ti0, .inl (cs 1, 2001, .inr (.inl (vp_updL u0 0 (lN (ww * 5)))))), (mst, .inl (cs 5, 2, .inr (.inr (.inr (.inr fst))))), (st1, .inl (cs 0, 96048, .inl q1)), (hm, .inr (12, [.ref ms, .ref mkp, .int (nI 0), .ref mtr, .int (nI 4), .int (nI 2), .int (nI 2), .int (nI 3), .int (nI 2), .int (nI 1), .ref mas, .int (nI 0), .int (nI 0), .int (nI 0), .ref mso, .ref mon, .ref mot, .ref man, .int (nI 0), .int (nI 0), .ref mst, .ref msm, .ref mtb, .ref mti, .ref mfr, .ref mbn, .ref mbs, .ref mde, .int (nI 0), .int (nI 0), .int (nI 0), .int (nI 0), .long 0, .long 0, .ref maa, .ref mab, .ref mba, .ref mbb])), (ms, .inl (cs 0, 288, .inl freshS))] H := hP
  replace hD : va_D A [(ti1, .inl (cs 1, 2001, .inr (.inl u1))), (msm, .inl (cs 0, 2, .inl (smF2 (nI 1) b0))), (st0, .inl (cs 0, 96048, .inl (cpF freshS q0 48))), (mtb, .inl (cs 5, 2, .inr (.inr (.inr (.inr ftb))))), (tb0, .inl (cs 0, 8192, .inl (upd (fun _ => nI 0) 965 (nI 1)))), (mti, .inl (cs 6, 2, .inr (.inr (.inr (.inr fti))))), (ti0, .inl (cs 1, 2001, .inr (.inl (vp_updL u0 0 (lN (ww * 5)))))), (mst, .inl (cs 5, 2, .inr (.inr (.inr (.inr fst))))), (st1, .inl (cs 0, 96048, .inl q1)), (hm, .inr (12, [.ref ms, .ref mkp, .int (nI 0), .ref mtr, .int (nI 4), .int (nI 2), .int (nI 2), .int (nI 3), .int (nI 2), .int (nI 1), .ref mas, .int (nI 0), .int (nI 0), .int (nI 0), .ref mso, .ref mon, .ref mot, .ref man, .int (nI 0), .int (nI 0), .ref mst, .ref msm, .ref mtb, .ref mti, .ref mfr, .ref mbn, .ref mbs, .ref mde, .int (nI 0), .int (nI 0), .int (nI 0), .int (nI 0), .long 0, .long 0, .ref maa, .ref mab, .ref mba, .ref mbb])), (ms, .inl (cs 0, 288, .inl freshS))] := hD
  subst hw_r_91
  refine lv_if_eq (tgt := 67) hx hb dX12_spreads_48 (by decide) (fun _ => ?_) (fun c => absurd (by decide) c)
  refine lv_aload_n hx hb dX12_spreads_67 rfl (lv_at hl 3 rfl) ?_
  refine lv_iconst (v := nI 1) hx hb dX12_spreads_68 (by decide) ?_
  refine lv_iload_n hx hb dX12_spreads_69 rfl (lv_at hl 4 rfl) ?_
  refine lv_isub hx hb dX12_spreads_70 ?_
  refine lv_topi (nm_r (e' := nI 0) (by decide) ?_)
  refine lv_sipush (v := nI 2000) hx hb dX12_spreads_71 (by decide) ?_
  refine xi (wr := [(ti1, .inl (cs 1, 2001, .inr (.inl u1))), (st1, .inl (cs 0, 96048, .inl q1))]) (xV (As := [.int (nI 0), .int (nI 2000)]) (rest := []) C (c_X12_numberOf_b0 l D cs hm ms mkp mtr mas mso mon mot man mst msm mtb mti mfr mbn mbs mde maa mab mba mbb st0 tb0 ti0 fst ftb fti (smF2 (nI 1) b0) (cpF freshS q0 48) (upd (fun _ => nI 0) 965 (nI 1)) (vp_updL u0 0 (lN (ww * 5))) hf0 hg ht0 (if_pos rfl) (fun j hj => cpF_lt hj)) kX12_197 hP hD [9, 10, 1, 7, 2, 3, 4, 5, 6] rfl (by decide +kernel) 0 rfl rfl rfl ⟨Nat.le_of_ble_eq_true rfl, Nat.le_of_ble_eq_true rfl⟩ rfl hl.1 rfl (Nat.le_of_ble_eq_true rfl) dX12_spreads_74 ⟨Nat.le_of_ble_eq_true rfl, Nat.le_of_ble_eq_true rfl⟩) hP hD hS hA [9, 10, 1, 7, 2, 3, 4, 5, 6] [0, 8] rfl rfl (by decide +kernel) (by decide +kernel) ?_
  clear hP hD hS
  try clear locs
  try clear H
  intro r_93 u_94 H locs hw_r_93 hP hD hS
  have hw_r_93 : r_93 = nI 0 := hw_r_93
  refine W.widen (k := 0) (n := 0) (Nat.le_of_ble_eq_true rfl) (Nat.le_of_ble_eq_true rfl) ?_
  replace hP : va_P D vwCl [(ti1, .inl (cs 1, 2001, .inr (.inl u1))), (st1, .inl (cs 0, 96048, .inl q1)), (hm, .inr (12, [.ref ms, .ref mkp, .int (nI 0), .ref mtr, .int (nI 4), .int (nI 2), .int (nI 2), .int (nI 3), .int (nI 2), .int (nI 1), .ref mas, .int (nI 0), .int (nI 0), .int (nI 0), .ref mso, .ref mon, .ref mot, .ref man, .int (nI 0), .int (nI 0), .ref mst, .ref msm, .ref mtb, .ref mti, .ref mfr, .ref mbn, .ref mbs, .ref mde, .int (nI 0), .int (nI 0), .int (nI 0), .int (nI 0), .long 0, .long 0, .ref maa, .ref mab, .ref mba, .ref mbb])), (ms, .inl (cs 0, 288, .inl freshS)), (msm, .inl (cs 0, 2, .inl (smF2 (nI 1) b0))), (mst, .inl (cs 5, 2, .inr (.inr (.inr (.inr fst))))), (st0, .inl (cs 0, 96048, .inl (cpF freshS q0 48))), (mtb, .inl (cs 5, 2, .inr (.inr (.inr (.inr ftb))))), (tb0, .inl (cs 0, 8192, .inl (upd (fun _ => nI 0) 965 (nI 1)))), (mti, .inl (cs 6, 2, .inr (.inr (.inr (.inr fti))))), (ti0, .inl (cs 1, 2001, .inr (.inl (vp_updL u0 0 (lN (ww * 5))))))] H := hP
  replace hD : va_D A [(ti1, .inl (cs 1, 2001, .inr (.inl u1))), (st1, .inl (cs 0, 96048, .inl q1)), (hm, .inr (12, [.ref ms, .ref mkp, .int (nI 0), .ref mtr, .int (nI 4), .int (nI 2), .int (nI 2), .int (nI 3), .int (nI 2), .int (nI 1), .ref mas, .int (nI 0), .int (nI 0), .int (nI 0), .ref mso, .ref mon, .ref mot, .ref man, .int (nI 0), .int (nI 0), .ref mst, .ref msm, .ref mtb, .ref mti, .ref mfr, .ref mbn, .ref mbs, .ref mde, .int (nI 0), .int (nI 0), .int (nI 0), .int (nI 0), .long 0, .long 0, .ref maa, .ref mab, .ref mba, .ref mbb])), (ms, .inl (cs 0, 288, .inl freshS)), (msm, .inl (cs 0, 2, .inl (smF2 (nI 1) b0))), (mst, .inl (cs 5, 2, .inr (.inr (.inr (.inr fst))))), (st0, .inl (cs 0, 96048, .inl (cpF freshS q0 48))), (mtb, .inl (cs 5, 2, .inr (.inr (.inr (.inr ftb))))), (tb0, .inl (cs 0, 8192, .inl (upd (fun _ => nI 0) 965 (nI 1)))), (mti, .inl (cs 6, 2, .inr (.inr (.inr (.inr fti))))), (ti0, .inl (cs 1, 2001, .inr (.inl (vp_updL u0 0 (lN (ww * 5))))))] := hD
  subst hw_r_93
  refine lv_istore (lv' := [(5, .int (nI 0)), (4, .int (nI 12)), (3, .int (nI 1)), (0, .ref hm), (1, .int (nI 1)), (2, .int (nI 0))]) hx hb dX12_spreads_77 hl (by decide) rfl ?_
  clear hl
  try clear ls
  intro ls hl
  refine lv_iload hx hb dX12_spreads_79 (lv_at hl 0 rfl) ?_
  refine lv_if_ge (tgt := 86) hx hb dX12_spreads_81 (by decide) (fun _ => ?_) (fun c => absurd (by decide) c)
  refine lv_aload_n hx hb dX12_spreads_86 rfl (lv_at hl 3 rfl) ?_
  refine xget C hP 2 rfl rfl zuX12 23 (by decide) zw5_236 rfl dX12_spreads_87 ?_
  refine lv_iconst (v := nI 1) hx hb dX12_spreads_90 (by decide) ?_
  refine lv_iload_n hx hb dX12_spreads_91 rfl (lv_at hl 4 rfl) ?_
  refine lv_isub hx hb dX12_spreads_92 ?_
  refine lv_topi (nm_r (e' := nI 0) (by decide) ?_)
  refine xaald C hP 9 6 rfl rfl rfl 0 rfl (by decide) (by decide) ht0 dX12_spreads_93 ?_
  refine lv_iload hx hb dX12_spreads_94 (lv_at hl 0 rfl) ?_
  refine lv_dup2_11 hx hb dX12_spreads_96 rfl rfl ?_
  refine xlald C hP 10 rfl 0 rfl (by decide) (by decide) dX12_spreads_97 ?_
  refine lv_topl (nm_r (e' := lN (ww * 5)) (upL_0 _ _) ?_)
  refine lv_aload_n hx hb dX12_spreads_98 rfl (lv_at hl 3 rfl) ?_
  refine xget C hP 2 rfl rfl zuX12 23 (by decide) zw5_236 rfl dX12_spreads_99 ?_
  refine lv_iload_n hx hb dX12_spreads_102 rfl (lv_at hl 4 rfl) ?_
  refine xaald C hP 9 6 rfl rfl rfl 1 rfl (by decide) (by decide) ht1 dX12_spreads_103 ?_
  refine lv_iload_n hx hb dX12_spreads_104 rfl (lv_at hl 5 rfl) ?_
  refine xlald C hP 0 rfl 0 rfl (by decide) (by decide) dX12_spreads_105 ?_
  refine lv_topl (nm_r (e' := lN ww) hw ?_)
  refine lv_ladd hx hb dX12_spreads_106 ?_
  refine lv_topl (nm_r (e' := lN (ww * 6)) (lN_a ww 5) ?_)
  refine xlast C hP hD hS 10 rfl 0 rfl (by decide) (by decide) dX12_spreads_107 ?_
  clear hP hD hS
  try clear locs
  try clear H
  intro H locs hP hD hS
  replace hP : va_P D vwCl [(ti1, .inl (cs 1, 2001, .inr (.inl u1))), (st1, .inl (cs 0, 96048, .inl q1)), (hm, .inr (12, [.ref ms, .ref mkp, .int (nI 0), .ref mtr, .int (nI 4), .int (nI 2), .int (nI 2), .int (nI 3), .int (nI 2), .int (nI 1), .ref mas, .int (nI 0), .int (nI 0), .int (nI 0), .ref mso, .ref mon, .ref mot, .ref man, .int (nI 0), .int (nI 0), .ref mst, .ref msm, .ref mtb, .ref mti, .ref mfr, .ref mbn, .ref mbs, .ref mde, .int (nI 0), .int (nI 0), .int (nI 0), .int (nI 0), .long 0, .long 0, .ref maa, .ref mab, .ref mba, .ref mbb])), (ms, .inl (cs 0, 288, .inl freshS)), (msm, .inl (cs 0, 2, .inl (smF2 (nI 1) b0))), (mst, .inl (cs 5, 2, .inr (.inr (.inr (.inr fst))))), (st0, .inl (cs 0, 96048, .inl (cpF freshS q0 48))), (mtb, .inl (cs 5, 2, .inr (.inr (.inr (.inr ftb))))), (tb0, .inl (cs 0, 8192, .inl (upd (fun _ => nI 0) 965 (nI 1)))), (mti, .inl (cs 6, 2, .inr (.inr (.inr (.inr fti))))), (ti0, .inl (cs 1, 2001, .inr (.inl (vp_updL (vp_updL u0 0 (lN (ww * 5))) 0 (lN (ww * 6))))))] H := hP
  replace hD : va_D A [(ti1, .inl (cs 1, 2001, .inr (.inl u1))), (st1, .inl (cs 0, 96048, .inl q1)), (hm, .inr (12, [.ref ms, .ref mkp, .int (nI 0), .ref mtr, .int (nI 4), .int (nI 2), .int (nI 2), .int (nI 3), .int (nI 2), .int (nI 1), .ref mas, .int (nI 0), .int (nI 0), .int (nI 0), .ref mso, .ref mon, .ref mot, .ref man, .int (nI 0), .int (nI 0), .ref mst, .ref msm, .ref mtb, .ref mti, .ref mfr, .ref mbn, .ref mbs, .ref mde, .int (nI 0), .int (nI 0), .int (nI 0), .int (nI 0), .long 0, .long 0, .ref maa, .ref mab, .ref mba, .ref mbb])), (ms, .inl (cs 0, 288, .inl freshS)), (msm, .inl (cs 0, 2, .inl (smF2 (nI 1) b0))), (mst, .inl (cs 5, 2, .inr (.inr (.inr (.inr fst))))), (st0, .inl (cs 0, 96048, .inl (cpF freshS q0 48))), (mtb, .inl (cs 5, 2, .inr (.inr (.inr (.inr ftb))))), (tb0, .inl (cs 0, 8192, .inl (upd (fun _ => nI 0) 965 (nI 1)))), (mti, .inl (cs 6, 2, .inr (.inr (.inr (.inr fti))))), (ti0, .inl (cs 1, 2001, .inr (.inl (vp_updL (vp_updL u0 0 (lN (ww * 5))) 0 (lN (ww * 6))))))] := hD
  have hPD := xcongl (q0 := 10) (vp_updL u0 0 (lN (ww * 6))) hP hD rfl (fun j hj => upL_1 u0 _ _ j)
  clear hP hD
  obtain ⟨hP, hD⟩ := hPD
  replace hP : va_P D vwCl [(ti1, .inl (cs 1, 2001, .inr (.inl u1))), (st1, .inl (cs 0, 96048, .inl q1)), (hm, .inr (12, [.ref ms, .ref mkp, .int (nI 0), .ref mtr, .int (nI 4), .int (nI 2), .int (nI 2), .int (nI 3), .int (nI 2), .int (nI 1), .ref mas, .int (nI 0), .int (nI 0), .int (nI 0), .ref mso, .ref mon, .ref mot, .ref man, .int (nI 0), .int (nI 0), .ref mst, .ref msm, .ref mtb, .ref mti, .ref mfr, .ref mbn, .ref mbs, .ref mde, .int (nI 0), .int (nI 0), .int (nI 0), .int (nI 0), .long 0, .long 0, .ref maa, .ref mab, .ref mba, .ref mbb])), (ms, .inl (cs 0, 288, .inl freshS)), (msm, .inl (cs 0, 2, .inl (smF2 (nI 1) b0))), (mst, .inl (cs 5, 2, .inr (.inr (.inr (.inr fst))))), (st0, .inl (cs 0, 96048, .inl (cpF freshS q0 48))), (mtb, .inl (cs 5, 2, .inr (.inr (.inr (.inr ftb))))), (tb0, .inl (cs 0, 8192, .inl (upd (fun _ => nI 0) 965 (nI 1)))), (mti, .inl (cs 6, 2, .inr (.inr (.inr (.inr fti))))), (ti0, .inl (cs 1, 2001, .inr (.inl (vp_updL u0 0 (lN (ww * 6))))))] H := hP
  replace hD : va_D A [(ti1, .inl (cs 1, 2001, .inr (.inl u1))), (st1, .inl (cs 0, 96048, .inl q1)), (hm, .inr (12, [.ref ms, .ref mkp, .int (nI 0), .ref mtr, .int (nI 4), .int (nI 2), .int (nI 2), .int (nI 3), .int (nI 2), .int (nI 1), .ref mas, .int (nI 0), .int (nI 0), .int (nI 0), .ref mso, .ref mon, .ref mot, .ref man, .int (nI 0), .int (nI 0), .ref mst, .ref msm, .ref mtb, .ref mti, .ref mfr, .ref mbn, .ref mbs, .ref mde, .int (nI 0), .int (nI 0), .int (nI 0), .int (nI 0), .long 0, .long 0, .ref maa, .ref mab, .ref mba, .ref mbb])), (ms, .inl (cs 0, 288, .inl freshS)), (msm, .inl (cs 0, 2, .inl (smF2 (nI 1) b0))), (mst, .inl (cs 5, 2, .inr (.inr (.inr (.inr fst))))), (st0, .inl (cs 0, 96048, .inl (cpF freshS q0 48))), (mtb, .inl (cs 5, 2, .inr (.inr (.inr (.inr ftb))))), (tb0, .inl (cs 0, 8192, .inl (upd (fun _ => nI 0) 965 (nI 1)))), (mti, .inl (cs 6, 2, .inr (.inr (.inr (.inr fti))))), (ti0, .inl (cs 1, 2001, .inr (.inl (vp_updL u0 0 (lN (ww * 6))))))] := hD
  refine lv_iinc (v := nI 13) (lv' := [(4, .int (nI 13)), (5, .int (nI 0)), (3, .int (nI 1)), (0, .ref hm), (1, .int (nI 1)), (2, .int (nI 0))]) hx hb dX12_spreads_108 hl (k := 1) rfl (by decide) (by decide) rfl ?_
  clear hl
  try clear ls
  intro ls hl
  refine lv_goto (tgt := 13) hx hb dX12_spreads_111 (by decide) ?_
  refine lv_iload hx hb dX12_spreads_13 (lv_at hl 0 rfl) ?_
  refine lv_iconst (v := nI 1) hx hb dX12_spreads_15 (by decide) ?_
  refine lv_aload_n hx hb dX12_spreads_16 rfl (lv_at hl 3 rfl) ?_
  refine xget C hP 2 rfl rfl zuX12 4 (by decide) zw5_217 rfl dX12_spreads_17 ?_
  refine lv_ishl hx hb dX12_spreads_20 ?_
  refine lv_topi (nm_r (e' := nI 16) (by decide) ?_)
  refine lv_icmp_ge (tgt := 114) hx hb dX12_spreads_21 (by decide) (fun c => absurd c (by decide)) (fun _ => ?_)
  refine lv_aload_n hx hb dX12_spreads_24 rfl (lv_at hl 3 rfl) ?_
  refine lv_iload_n hx hb dX12_spreads_25 rfl (lv_at hl 2 rfl) ?_
  refine lv_iload hx hb dX12_spreads_26 (lv_at hl 0 rfl) ?_
  refine xi (wr := [(ti1, .inl (cs 1, 2001, .inr (.inl u1))), (st1, .inl (cs 0, 96048, .inl q1)), (ms, .inl (cs 0, 288, .inl freshS)), (msm, .inl (cs 0, 2, .inl (smF2 (nI 1) b0))), (mst, .inl (cs 5, 2, .inr (.inr (.inr (.inr fst))))), (st0, .inl (cs 0, 96048, .inl (cpF freshS q0 48))), (mtb, .inl (cs 5, 2, .inr (.inr (.inr (.inr ftb))))), (tb0, .inl (cs 0, 8192, .inl (upd (fun _ => nI 0) 965 (nI 1)))), (mti, .inl (cs 6, 2, .inr (.inr (.inr (.inr fti))))), (ti0, .inl (cs 1, 2001, .inr (.inl (vp_updL u0 0 (lN (ww * 6))))))]) (xV (As := [.int (nI 1), .int (nI 13)]) (rest := []) C (c_X12_isSample_x l D cs hm ms mkp mtr mas mso mon mot man mst msm mtb mti mfr mbn mbs mde maa mab mba mbb 1 13 (by decide) (by decide)) kX12_139 hP hD [2] rfl (by decide +kernel) 0 rfl rfl rfl ⟨Nat.le_of_ble_eq_true rfl, Nat.le_of_ble_eq_true rfl⟩ rfl hl.1 rfl (Nat.le_of_ble_eq_true rfl) dX12_spreads_28 ⟨Nat.le_of_ble_eq_true rfl, Nat.le_of_ble_eq_true rfl⟩) hP hD hS hA [2] [0, 1, 3, 4, 5, 6, 7, 8, 9, 10] rfl rfl (by decide +kernel) (by decide +kernel) ?_
  clear hP hD hS
  try clear locs
  try clear H
  intro r_95 u_96 H locs hw_r_95 hP hD hS
  have hw_r_95 : r_95 = smB 1 13 := hw_r_95
  refine W.widen (k := 0) (n := 0) (Nat.le_of_ble_eq_true rfl) (Nat.le_of_ble_eq_true rfl) ?_
  replace hP : va_P D vwCl [(ti1, .inl (cs 1, 2001, .inr (.inl u1))), (st1, .inl (cs 0, 96048, .inl q1)), (ms, .inl (cs 0, 288, .inl freshS)), (msm, .inl (cs 0, 2, .inl (smF2 (nI 1) b0))), (mst, .inl (cs 5, 2, .inr (.inr (.inr (.inr fst))))), (st0, .inl (cs 0, 96048, .inl (cpF freshS q0 48))), (mtb, .inl (cs 5, 2, .inr (.inr (.inr (.inr ftb))))), (tb0, .inl (cs 0, 8192, .inl (upd (fun _ => nI 0) 965 (nI 1)))), (mti, .inl (cs 6, 2, .inr (.inr (.inr (.inr fti))))), (ti0, .inl (cs 1, 2001, .inr (.inl (vp_updL u0 0 (lN (ww * 6)))))), (hm, .inr (12, [.ref ms, .ref mkp, .int (nI 0), .ref mtr, .int (nI 4), .int (nI 2), .int (nI 2), .int (nI 3), .int (nI 2), .int (nI 1), .ref mas, .int (nI 0), .int (nI 0), .int (nI 0), .ref mso, .ref mon, .ref mot, .ref man, .int (nI 0), .int (nI 0), .ref mst, .ref msm, .ref mtb, .ref mti, .ref mfr, .ref mbn, .ref mbs, .ref mde, .int (nI 0), .int (nI 0), .int (nI 0), .int (nI 0), .long 0, .long 0, .ref maa, .ref mab, .ref mba, .ref mbb]))] H := hP
  replace hD : va_D A [(ti1, .inl (cs 1, 2001, .inr (.inl u1))), (st1, .inl (cs 0, 96048, .inl q1)), (ms, .inl (cs 0, 288, .inl freshS)), (msm, .inl (cs 0, 2, .inl (smF2 (nI 1) b0))), (mst, .inl (cs 5, 2, .inr (.inr (.inr (.inr fst))))), (st0, .inl (cs 0, 96048, .inl (cpF freshS q0 48))), (mtb, .inl (cs 5, 2, .inr (.inr (.inr (.inr ftb))))), (tb0, .inl (cs 0, 8192, .inl (upd (fun _ => nI 0) 965 (nI 1)))), (mti, .inl (cs 6, 2, .inr (.inr (.inr (.inr fti))))), (ti0, .inl (cs 1, 2001, .inr (.inl (vp_updL u0 0 (lN (ww * 6)))))), (hm, .inr (12, [.ref ms, .ref mkp, .int (nI 0), .ref mtr, .int (nI 4), .int (nI 2), .int (nI 2), .int (nI 3), .int (nI 2), .int (nI 1), .ref mas, .int (nI 0), .int (nI 0), .int (nI 0), .ref mso, .ref mon, .ref mot, .ref man, .int (nI 0), .int (nI 0), .ref mst, .ref msm, .ref mtb, .ref mti, .ref mfr, .ref mbn, .ref mbs, .ref mde, .int (nI 0), .int (nI 0), .int (nI 0), .int (nI 0), .long 0, .long 0, .ref maa, .ref mab, .ref mba, .ref mbb]))] := hD
  obtain rfl : r_95 = nI 0 := by rw [hw_r_95]; decide +kernel
  refine lv_if_ne (tgt := 37) hx hb dX12_spreads_31 (by decide) (fun c => absurd (by decide) c) (fun _ => ?_)
  refine lv_goto (tgt := 108) hx hb dX12_spreads_34 (by decide) ?_
  refine lv_iinc (v := nI 14) (lv' := [(4, .int (nI 14)), (5, .int (nI 0)), (3, .int (nI 1)), (0, .ref hm), (1, .int (nI 1)), (2, .int (nI 0))]) hx hb dX12_spreads_108 hl (k := 0) rfl (by decide) (by decide) rfl ?_
  clear hl
  try clear ls
  intro ls hl
  refine lv_goto (tgt := 13) hx hb dX12_spreads_111 (by decide) ?_
  refine lv_iload hx hb dX12_spreads_13 (lv_at hl 0 rfl) ?_
  refine lv_iconst (v := nI 1) hx hb dX12_spreads_15 (by decide) ?_
  refine lv_aload_n hx hb dX12_spreads_16 rfl (lv_at hl 3 rfl) ?_
  refine xget C hP 10 rfl rfl zuX12 4 (by decide) zw5_217 rfl dX12_spreads_17 ?_
  refine lv_ishl hx hb dX12_spreads_20 ?_
  refine lv_topi (nm_r (e' := nI 16) (by decide) ?_)
  refine lv_icmp_ge (tgt := 114) hx hb dX12_spreads_21 (by decide) (fun c => absurd c (by decide)) (fun _ => ?_)
  refine lv_aload_n hx hb dX12_spreads_24 rfl (lv_at hl 3 rfl) ?_
  refine lv_iload_n hx hb dX12_spreads_25 rfl (lv_at hl 2 rfl) ?_
  refine lv_iload hx hb dX12_spreads_26 (lv_at hl 0 rfl) ?_
  refine xi (wr := [(ti1, .inl (cs 1, 2001, .inr (.inl u1))), (st1, .inl (cs 0, 96048, .inl q1)), (ms, .inl (cs 0, 288, .inl freshS)), (msm, .inl (cs 0, 2, .inl (smF2 (nI 1) b0))), (mst, .inl (cs 5, 2, .inr (.inr (.inr (.inr fst))))), (st0, .inl (cs 0, 96048, .inl (cpF freshS q0 48))), (mtb, .inl (cs 5, 2, .inr (.inr (.inr (.inr ftb))))), (tb0, .inl (cs 0, 8192, .inl (upd (fun _ => nI 0) 965 (nI 1)))), (mti, .inl (cs 6, 2, .inr (.inr (.inr (.inr fti))))), (ti0, .inl (cs 1, 2001, .inr (.inl (vp_updL u0 0 (lN (ww * 6))))))]) (xV (As := [.int (nI 1), .int (nI 14)]) (rest := []) C (c_X12_isSample_x l D cs hm ms mkp mtr mas mso mon mot man mst msm mtb mti mfr mbn mbs mde maa mab mba mbb 1 14 (by decide) (by decide)) kX12_139 hP hD [10] rfl (by decide +kernel) 0 rfl rfl rfl ⟨Nat.le_of_ble_eq_true rfl, Nat.le_of_ble_eq_true rfl⟩ rfl hl.1 rfl (Nat.le_of_ble_eq_true rfl) dX12_spreads_28 ⟨Nat.le_of_ble_eq_true rfl, Nat.le_of_ble_eq_true rfl⟩) hP hD hS hA [10] [0, 1, 2, 3, 4, 5, 6, 7, 8, 9] rfl rfl (by decide +kernel) (by decide +kernel) ?_
  clear hP hD hS
  try clear locs
  try clear H
  intro r_97 u_98 H locs hw_r_97 hP hD hS
  have hw_r_97 : r_97 = smB 1 14 := hw_r_97
  refine W.widen (k := 0) (n := 0) (Nat.le_of_ble_eq_true rfl) (Nat.le_of_ble_eq_true rfl) ?_
  replace hP : va_P D vwCl [(ti1, .inl (cs 1, 2001, .inr (.inl u1))), (st1, .inl (cs 0, 96048, .inl q1)), (ms, .inl (cs 0, 288, .inl freshS)), (msm, .inl (cs 0, 2, .inl (smF2 (nI 1) b0))), (mst, .inl (cs 5, 2, .inr (.inr (.inr (.inr fst))))), (st0, .inl (cs 0, 96048, .inl (cpF freshS q0 48))), (mtb, .inl (cs 5, 2, .inr (.inr (.inr (.inr ftb))))), (tb0, .inl (cs 0, 8192, .inl (upd (fun _ => nI 0) 965 (nI 1)))), (mti, .inl (cs 6, 2, .inr (.inr (.inr (.inr fti))))), (ti0, .inl (cs 1, 2001, .inr (.inl (vp_updL u0 0 (lN (ww * 6)))))), (hm, .inr (12, [.ref ms, .ref mkp, .int (nI 0), .ref mtr, .int (nI 4), .int (nI 2), .int (nI 2), .int (nI 3), .int (nI 2), .int (nI 1), .ref mas, .int (nI 0), .int (nI 0), .int (nI 0), .ref mso, .ref mon, .ref mot, .ref man, .int (nI 0), .int (nI 0), .ref mst, .ref msm, .ref mtb, .ref mti, .ref mfr, .ref mbn, .ref mbs, .ref mde, .int (nI 0), .int (nI 0), .int (nI 0), .int (nI 0), .long 0, .long 0, .ref maa, .ref mab, .ref mba, .ref mbb]))] H := hP
  replace hD : va_D A [(ti1, .inl (cs 1, 2001, .inr (.inl u1))), (st1, .inl (cs 0, 96048, .inl q1)), (ms, .inl (cs 0, 288, .inl freshS)), (msm, .inl (cs 0, 2, .inl (smF2 (nI 1) b0))), (mst, .inl (cs 5, 2, .inr (.inr (.inr (.inr fst))))), (st0, .inl (cs 0, 96048, .inl (cpF freshS q0 48))), (mtb, .inl (cs 5, 2, .inr (.inr (.inr (.inr ftb))))), (tb0, .inl (cs 0, 8192, .inl (upd (fun _ => nI 0) 965 (nI 1)))), (mti, .inl (cs 6, 2, .inr (.inr (.inr (.inr fti))))), (ti0, .inl (cs 1, 2001, .inr (.inl (vp_updL u0 0 (lN (ww * 6)))))), (hm, .inr (12, [.ref ms, .ref mkp, .int (nI 0), .ref mtr, .int (nI 4), .int (nI 2), .int (nI 2), .int (nI 3), .int (nI 2), .int (nI 1), .ref mas, .int (nI 0), .int (nI 0), .int (nI 0), .ref mso, .ref mon, .ref mot, .ref man, .int (nI 0), .int (nI 0), .ref mst, .ref msm, .ref mtb, .ref mti, .ref mfr, .ref mbn, .ref mbs, .ref mde, .int (nI 0), .int (nI 0), .int (nI 0), .int (nI 0), .long 0, .long 0, .ref maa, .ref mab, .ref mba, .ref mbb]))] := hD
  obtain rfl : r_97 = nI 0 := by rw [hw_r_97]; decide +kernel
  refine lv_if_ne (tgt := 37) hx hb dX12_spreads_31 (by decide) (fun c => absurd (by decide) c) (fun _ => ?_)
  refine lv_goto (tgt := 108) hx hb dX12_spreads_34 (by decide) ?_
  refine lv_iinc (v := nI 15) (lv' := [(4, .int (nI 15)), (5, .int (nI 0)), (3, .int (nI 1)), (0, .ref hm), (1, .int (nI 1)), (2, .int (nI 0))]) hx hb dX12_spreads_108 hl (k := 0) rfl (by decide) (by decide) rfl ?_
  clear hl
  try clear ls
  intro ls hl
  refine lv_goto (tgt := 13) hx hb dX12_spreads_111 (by decide) ?_
  refine lv_iload hx hb dX12_spreads_13 (lv_at hl 0 rfl) ?_
  refine lv_iconst (v := nI 1) hx hb dX12_spreads_15 (by decide) ?_
  refine lv_aload_n hx hb dX12_spreads_16 rfl (lv_at hl 3 rfl) ?_
  refine xget C hP 10 rfl rfl zuX12 4 (by decide) zw5_217 rfl dX12_spreads_17 ?_
  refine lv_ishl hx hb dX12_spreads_20 ?_
  refine lv_topi (nm_r (e' := nI 16) (by decide) ?_)
  refine lv_icmp_ge (tgt := 114) hx hb dX12_spreads_21 (by decide) (fun c => absurd c (by decide)) (fun _ => ?_)
  refine lv_aload_n hx hb dX12_spreads_24 rfl (lv_at hl 3 rfl) ?_
  refine lv_iload_n hx hb dX12_spreads_25 rfl (lv_at hl 2 rfl) ?_
  refine lv_iload hx hb dX12_spreads_26 (lv_at hl 0 rfl) ?_
  refine xi (wr := [(ti1, .inl (cs 1, 2001, .inr (.inl u1))), (st1, .inl (cs 0, 96048, .inl q1)), (ms, .inl (cs 0, 288, .inl freshS)), (msm, .inl (cs 0, 2, .inl (smF2 (nI 1) b0))), (mst, .inl (cs 5, 2, .inr (.inr (.inr (.inr fst))))), (st0, .inl (cs 0, 96048, .inl (cpF freshS q0 48))), (mtb, .inl (cs 5, 2, .inr (.inr (.inr (.inr ftb))))), (tb0, .inl (cs 0, 8192, .inl (upd (fun _ => nI 0) 965 (nI 1)))), (mti, .inl (cs 6, 2, .inr (.inr (.inr (.inr fti))))), (ti0, .inl (cs 1, 2001, .inr (.inl (vp_updL u0 0 (lN (ww * 6))))))]) (xV (As := [.int (nI 1), .int (nI 15)]) (rest := []) C (c_X12_isSample_x l D cs hm ms mkp mtr mas mso mon mot man mst msm mtb mti mfr mbn mbs mde maa mab mba mbb 1 15 (by decide) (by decide)) kX12_139 hP hD [10] rfl (by decide +kernel) 0 rfl rfl rfl ⟨Nat.le_of_ble_eq_true rfl, Nat.le_of_ble_eq_true rfl⟩ rfl hl.1 rfl (Nat.le_of_ble_eq_true rfl) dX12_spreads_28 ⟨Nat.le_of_ble_eq_true rfl, Nat.le_of_ble_eq_true rfl⟩) hP hD hS hA [10] [0, 1, 2, 3, 4, 5, 6, 7, 8, 9] rfl rfl (by decide +kernel) (by decide +kernel) ?_
  clear hP hD hS
  try clear locs
  try clear H
  intro r_99 u_100 H locs hw_r_99 hP hD hS
  have hw_r_99 : r_99 = smB 1 15 := hw_r_99
  refine W.widen (k := 0) (n := 0) (Nat.le_of_ble_eq_true rfl) (Nat.le_of_ble_eq_true rfl) ?_
  replace hP : va_P D vwCl [(ti1, .inl (cs 1, 2001, .inr (.inl u1))), (st1, .inl (cs 0, 96048, .inl q1)), (ms, .inl (cs 0, 288, .inl freshS)), (msm, .inl (cs 0, 2, .inl (smF2 (nI 1) b0))), (mst, .inl (cs 5, 2, .inr (.inr (.inr (.inr fst))))), (st0, .inl (cs 0, 96048, .inl (cpF freshS q0 48))), (mtb, .inl (cs 5, 2, .inr (.inr (.inr (.inr ftb))))), (tb0, .inl (cs 0, 8192, .inl (upd (fun _ => nI 0) 965 (nI 1)))), (mti, .inl (cs 6, 2, .inr (.inr (.inr (.inr fti))))), (ti0, .inl (cs 1, 2001, .inr (.inl (vp_updL u0 0 (lN (ww * 6)))))), (hm, .inr (12, [.ref ms, .ref mkp, .int (nI 0), .ref mtr, .int (nI 4), .int (nI 2), .int (nI 2), .int (nI 3), .int (nI 2), .int (nI 1), .ref mas, .int (nI 0), .int (nI 0), .int (nI 0), .ref mso, .ref mon, .ref mot, .ref man, .int (nI 0), .int (nI 0), .ref mst, .ref msm, .ref mtb, .ref mti, .ref mfr, .ref mbn, .ref mbs, .ref mde, .int (nI 0), .int (nI 0), .int (nI 0), .int (nI 0), .long 0, .long 0, .ref maa, .ref mab, .ref mba, .ref mbb]))] H := hP
  replace hD : va_D A [(ti1, .inl (cs 1, 2001, .inr (.inl u1))), (st1, .inl (cs 0, 96048, .inl q1)), (ms, .inl (cs 0, 288, .inl freshS)), (msm, .inl (cs 0, 2, .inl (smF2 (nI 1) b0))), (mst, .inl (cs 5, 2, .inr (.inr (.inr (.inr fst))))), (st0, .inl (cs 0, 96048, .inl (cpF freshS q0 48))), (mtb, .inl (cs 5, 2, .inr (.inr (.inr (.inr ftb))))), (tb0, .inl (cs 0, 8192, .inl (upd (fun _ => nI 0) 965 (nI 1)))), (mti, .inl (cs 6, 2, .inr (.inr (.inr (.inr fti))))), (ti0, .inl (cs 1, 2001, .inr (.inl (vp_updL u0 0 (lN (ww * 6)))))), (hm, .inr (12, [.ref ms, .ref mkp, .int (nI 0), .ref mtr, .int (nI 4), .int (nI 2), .int (nI 2), .int (nI 3), .int (nI 2), .int (nI 1), .ref mas, .int (nI 0), .int (nI 0), .int (nI 0), .ref mso, .ref mon, .ref mot, .ref man, .int (nI 0), .int (nI 0), .ref mst, .ref msm, .ref mtb, .ref mti, .ref mfr, .ref mbn, .ref mbs, .ref mde, .int (nI 0), .int (nI 0), .int (nI 0), .int (nI 0), .long 0, .long 0, .ref maa, .ref mab, .ref mba, .ref mbb]))] := hD
  obtain rfl : r_99 = nI 0 := by rw [hw_r_99]; decide +kernel
  refine lv_if_ne (tgt := 37) hx hb dX12_spreads_31 (by decide) (fun c => absurd (by decide) c) (fun _ => ?_)
  refine lv_goto (tgt := 108) hx hb dX12_spreads_34 (by decide) ?_
  refine lv_iinc (v := nI 16) (lv' := [(4, .int (nI 16)), (5, .int (nI 0)), (3, .int (nI 1)), (0, .ref hm), (1, .int (nI 1)), (2, .int (nI 0))]) hx hb dX12_spreads_108 hl (k := 0) rfl (by decide) (by decide) rfl ?_
  clear hl
  try clear ls
  intro ls hl
  refine lv_goto (tgt := 13) hx hb dX12_spreads_111 (by decide) ?_
  refine lv_iload hx hb dX12_spreads_13 (lv_at hl 0 rfl) ?_
  refine lv_iconst (v := nI 1) hx hb dX12_spreads_15 (by decide) ?_
  refine lv_aload_n hx hb dX12_spreads_16 rfl (lv_at hl 3 rfl) ?_
  refine xget C hP 10 rfl rfl zuX12 4 (by decide) zw5_217 rfl dX12_spreads_17 ?_
  refine lv_ishl hx hb dX12_spreads_20 ?_
  refine lv_topi (nm_r (e' := nI 16) (by decide) ?_)
  refine lv_icmp_ge (tgt := 114) hx hb dX12_spreads_21 (by decide) (fun _ => ?_) (fun c => absurd (by decide) c)
  refine lv_iinc (v := nI 2) (lv' := [(3, .int (nI 2)), (4, .int (nI 16)), (5, .int (nI 0)), (0, .ref hm), (1, .int (nI 1)), (2, .int (nI 0))]) hx hb dX12_spreads_114 hl (k := 2) rfl (by decide) (by decide) rfl ?_
  clear hl
  try clear ls
  intro ls hl
  refine lv_goto (tgt := 2) hx hb dX12_spreads_117 (by decide) ?_
  refine lv_iload_n hx hb dX12_spreads_2 rfl (lv_at hl 0 rfl) ?_
  refine lv_aload_n hx hb dX12_spreads_3 rfl (lv_at hl 3 rfl) ?_
  refine xget C hP 10 rfl rfl zuX12 4 (by decide) zw5_217 rfl dX12_spreads_4 ?_
  refine lv_icmp_ge (tgt := 120) hx hb dX12_spreads_7 (by decide) (fun c => absurd c (by decide)) (fun _ => ?_)
  refine lv_iconst (v := nI 0) hx hb dX12_spreads_10 (by decide) ?_
  refine lv_istore (lv' := [(4, .int (nI 0)), (3, .int (nI 2)), (5, .int (nI 0)), (0, .ref hm), (1, .int (nI 1)), (2, .int (nI 0))]) hx hb dX12_spreads_11 hl (by decide) rfl ?_
  clear hl
  try clear ls
  intro ls hl
  refine lv_iload hx hb dX12_spreads_13 (lv_at hl 0 rfl) ?_
  refine lv_iconst (v := nI 1) hx hb dX12_spreads_15 (by decide) ?_
  refine lv_aload_n hx hb dX12_spreads_16 rfl (lv_at hl 3 rfl) ?_
  refine xget C hP 10 rfl rfl zuX12 4 (by decide) zw5_217 rfl dX12_spreads_17 ?_
  refine lv_ishl hx hb dX12_spreads_20 ?_
  refine lv_topi (nm_r (e' := nI 16) (by decide) ?_)
  refine lv_icmp_ge (tgt := 114) hx hb dX12_spreads_21 (by decide) (fun c => absurd c (by decide)) (fun _ => ?_)
  refine lv_aload_n hx hb dX12_spreads_24 rfl (lv_at hl 3 rfl) ?_
  refine lv_iload_n hx hb dX12_spreads_25 rfl (lv_at hl 1 rfl) ?_
  refine lv_iload hx hb dX12_spreads_26 (lv_at hl 0 rfl) ?_
  refine xi (wr := [(ti1, .inl (cs 1, 2001, .inr (.inl u1))), (st1, .inl (cs 0, 96048, .inl q1)), (ms, .inl (cs 0, 288, .inl freshS)), (msm, .inl (cs 0, 2, .inl (smF2 (nI 1) b0))), (mst, .inl (cs 5, 2, .inr (.inr (.inr (.inr fst))))), (st0, .inl (cs 0, 96048, .inl (cpF freshS q0 48))), (mtb, .inl (cs 5, 2, .inr (.inr (.inr (.inr ftb))))), (tb0, .inl (cs 0, 8192, .inl (upd (fun _ => nI 0) 965 (nI 1)))), (mti, .inl (cs 6, 2, .inr (.inr (.inr (.inr fti))))), (ti0, .inl (cs 1, 2001, .inr (.inl (vp_updL u0 0 (lN (ww * 6))))))]) (xV (As := [.int (nI 2), .int (nI 0)]) (rest := []) C (c_X12_isSample_x l D cs hm ms mkp mtr mas mso mon mot man mst msm mtb mti mfr mbn mbs mde maa mab mba mbb 2 0 (by decide) (by decide)) kX12_139 hP hD [10] rfl (by decide +kernel) 0 rfl rfl rfl ⟨Nat.le_of_ble_eq_true rfl, Nat.le_of_ble_eq_true rfl⟩ rfl hl.1 rfl (Nat.le_of_ble_eq_true rfl) dX12_spreads_28 ⟨Nat.le_of_ble_eq_true rfl, Nat.le_of_ble_eq_true rfl⟩) hP hD hS hA [10] [0, 1, 2, 3, 4, 5, 6, 7, 8, 9] rfl rfl (by decide +kernel) (by decide +kernel) ?_
  clear hP hD hS
  try clear locs
  try clear H
  intro r_101 u_102 H locs hw_r_101 hP hD hS
  have hw_r_101 : r_101 = smB 2 0 := hw_r_101
  refine W.widen (k := 0) (n := 0) (Nat.le_of_ble_eq_true rfl) (Nat.le_of_ble_eq_true rfl) ?_
  replace hP : va_P D vwCl [(ti1, .inl (cs 1, 2001, .inr (.inl u1))), (st1, .inl (cs 0, 96048, .inl q1)), (ms, .inl (cs 0, 288, .inl freshS)), (msm, .inl (cs 0, 2, .inl (smF2 (nI 1) b0))), (mst, .inl (cs 5, 2, .inr (.inr (.inr (.inr fst))))), (st0, .inl (cs 0, 96048, .inl (cpF freshS q0 48))), (mtb, .inl (cs 5, 2, .inr (.inr (.inr (.inr ftb))))), (tb0, .inl (cs 0, 8192, .inl (upd (fun _ => nI 0) 965 (nI 1)))), (mti, .inl (cs 6, 2, .inr (.inr (.inr (.inr fti))))), (ti0, .inl (cs 1, 2001, .inr (.inl (vp_updL u0 0 (lN (ww * 6)))))), (hm, .inr (12, [.ref ms, .ref mkp, .int (nI 0), .ref mtr, .int (nI 4), .int (nI 2), .int (nI 2), .int (nI 3), .int (nI 2), .int (nI 1), .ref mas, .int (nI 0), .int (nI 0), .int (nI 0), .ref mso, .ref mon, .ref mot, .ref man, .int (nI 0), .int (nI 0), .ref mst, .ref msm, .ref mtb, .ref mti, .ref mfr, .ref mbn, .ref mbs, .ref mde, .int (nI 0), .int (nI 0), .int (nI 0), .int (nI 0), .long 0, .long 0, .ref maa, .ref mab, .ref mba, .ref mbb]))] H := hP
  replace hD : va_D A [(ti1, .inl (cs 1, 2001, .inr (.inl u1))), (st1, .inl (cs 0, 96048, .inl q1)), (ms, .inl (cs 0, 288, .inl freshS)), (msm, .inl (cs 0, 2, .inl (smF2 (nI 1) b0))), (mst, .inl (cs 5, 2, .inr (.inr (.inr (.inr fst))))), (st0, .inl (cs 0, 96048, .inl (cpF freshS q0 48))), (mtb, .inl (cs 5, 2, .inr (.inr (.inr (.inr ftb))))), (tb0, .inl (cs 0, 8192, .inl (upd (fun _ => nI 0) 965 (nI 1)))), (mti, .inl (cs 6, 2, .inr (.inr (.inr (.inr fti))))), (ti0, .inl (cs 1, 2001, .inr (.inl (vp_updL u0 0 (lN (ww * 6)))))), (hm, .inr (12, [.ref ms, .ref mkp, .int (nI 0), .ref mtr, .int (nI 4), .int (nI 2), .int (nI 2), .int (nI 3), .int (nI 2), .int (nI 1), .ref mas, .int (nI 0), .int (nI 0), .int (nI 0), .ref mso, .ref mon, .ref mot, .ref man, .int (nI 0), .int (nI 0), .ref mst, .ref msm, .ref mtb, .ref mti, .ref mfr, .ref mbn, .ref mbs, .ref mde, .int (nI 0), .int (nI 0), .int (nI 0), .int (nI 0), .long 0, .long 0, .ref maa, .ref mab, .ref mba, .ref mbb]))] := hD
  obtain rfl : r_101 = nI 0 := by rw [hw_r_101]; decide +kernel
  refine lv_if_ne (tgt := 37) hx hb dX12_spreads_31 (by decide) (fun c => absurd (by decide) c) (fun _ => ?_)
  refine lv_goto (tgt := 108) hx hb dX12_spreads_34 (by decide) ?_
  refine lv_iinc (v := nI 1) (lv' := [(4, .int (nI 1)), (3, .int (nI 2)), (5, .int (nI 0)), (0, .ref hm), (1, .int (nI 1)), (2, .int (nI 0))]) hx hb dX12_spreads_108 hl (k := 0) rfl (by decide) (by decide) rfl ?_
  clear hl
  try clear ls
  intro ls hl
  refine lv_goto (tgt := 13) hx hb dX12_spreads_111 (by decide) ?_
  refine lv_iload hx hb dX12_spreads_13 (lv_at hl 0 rfl) ?_
  refine lv_iconst (v := nI 1) hx hb dX12_spreads_15 (by decide) ?_
  refine lv_aload_n hx hb dX12_spreads_16 rfl (lv_at hl 3 rfl) ?_
  refine xget C hP 10 rfl rfl zuX12 4 (by decide) zw5_217 rfl dX12_spreads_17 ?_
  refine lv_ishl hx hb dX12_spreads_20 ?_
  refine lv_topi (nm_r (e' := nI 16) (by decide) ?_)
  refine lv_icmp_ge (tgt := 114) hx hb dX12_spreads_21 (by decide) (fun c => absurd c (by decide)) (fun _ => ?_)
  refine lv_aload_n hx hb dX12_spreads_24 rfl (lv_at hl 3 rfl) ?_
  refine lv_iload_n hx hb dX12_spreads_25 rfl (lv_at hl 1 rfl) ?_
  refine lv_iload hx hb dX12_spreads_26 (lv_at hl 0 rfl) ?_
  refine xi (wr := [(ti1, .inl (cs 1, 2001, .inr (.inl u1))), (st1, .inl (cs 0, 96048, .inl q1)), (ms, .inl (cs 0, 288, .inl freshS)), (msm, .inl (cs 0, 2, .inl (smF2 (nI 1) b0))), (mst, .inl (cs 5, 2, .inr (.inr (.inr (.inr fst))))), (st0, .inl (cs 0, 96048, .inl (cpF freshS q0 48))), (mtb, .inl (cs 5, 2, .inr (.inr (.inr (.inr ftb))))), (tb0, .inl (cs 0, 8192, .inl (upd (fun _ => nI 0) 965 (nI 1)))), (mti, .inl (cs 6, 2, .inr (.inr (.inr (.inr fti))))), (ti0, .inl (cs 1, 2001, .inr (.inl (vp_updL u0 0 (lN (ww * 6))))))]) (xV (As := [.int (nI 2), .int (nI 1)]) (rest := []) C (c_X12_isSample_x l D cs hm ms mkp mtr mas mso mon mot man mst msm mtb mti mfr mbn mbs mde maa mab mba mbb 2 1 (by decide) (by decide)) kX12_139 hP hD [10] rfl (by decide +kernel) 0 rfl rfl rfl ⟨Nat.le_of_ble_eq_true rfl, Nat.le_of_ble_eq_true rfl⟩ rfl hl.1 rfl (Nat.le_of_ble_eq_true rfl) dX12_spreads_28 ⟨Nat.le_of_ble_eq_true rfl, Nat.le_of_ble_eq_true rfl⟩) hP hD hS hA [10] [0, 1, 2, 3, 4, 5, 6, 7, 8, 9] rfl rfl (by decide +kernel) (by decide +kernel) ?_
  clear hP hD hS
  try clear locs
  try clear H
  intro r_103 u_104 H locs hw_r_103 hP hD hS
  have hw_r_103 : r_103 = smB 2 1 := hw_r_103
  refine W.widen (k := 0) (n := 0) (Nat.le_of_ble_eq_true rfl) (Nat.le_of_ble_eq_true rfl) ?_
  replace hP : va_P D vwCl [(ti1, .inl (cs 1, 2001, .inr (.inl u1))), (st1, .inl (cs 0, 96048, .inl q1)), (ms, .inl (cs 0, 288, .inl freshS)), (msm, .inl (cs 0, 2, .inl (smF2 (nI 1) b0))), (mst, .inl (cs 5, 2, .inr (.inr (.inr (.inr fst))))), (st0, .inl (cs 0, 96048, .inl (cpF freshS q0 48))), (mtb, .inl (cs 5, 2, .inr (.inr (.inr (.inr ftb))))), (tb0, .inl (cs 0, 8192, .inl (upd (fun _ => nI 0) 965 (nI 1)))), (mti, .inl (cs 6, 2, .inr (.inr (.inr (.inr fti))))), (ti0, .inl (cs 1, 2001, .inr (.inl (vp_updL u0 0 (lN (ww * 6)))))), (hm, .inr (12, [.ref ms, .ref mkp, .int (nI 0), .ref mtr, .int (nI 4), .int (nI 2), .int (nI 2), .int (nI 3), .int (nI 2), .int (nI 1), .ref mas, .int (nI 0), .int (nI 0), .int (nI 0), .ref mso, .ref mon, .ref mot, .ref man, .int (nI 0), .int (nI 0), .ref mst, .ref msm, .ref mtb, .ref mti, .ref mfr, .ref mbn, .ref mbs, .ref mde, .int (nI 0), .int (nI 0), .int (nI 0), .int (nI 0), .long 0, .long 0, .ref maa, .ref mab, .ref mba, .ref mbb]))] H := hP
  replace hD : va_D A [(ti1, .inl (cs 1, 2001, .inr (.inl u1))), (st1, .inl (cs 0, 96048, .inl q1)), (ms, .inl (cs 0, 288, .inl freshS)), (msm, .inl (cs 0, 2, .inl (smF2 (nI 1) b0))), (mst, .inl (cs 5, 2, .inr (.inr (.inr (.inr fst))))), (st0, .inl (cs 0, 96048, .inl (cpF freshS q0 48))), (mtb, .inl (cs 5, 2, .inr (.inr (.inr (.inr ftb))))), (tb0, .inl (cs 0, 8192, .inl (upd (fun _ => nI 0) 965 (nI 1)))), (mti, .inl (cs 6, 2, .inr (.inr (.inr (.inr fti))))), (ti0, .inl (cs 1, 2001, .inr (.inl (vp_updL u0 0 (lN (ww * 6)))))), (hm, .inr (12, [.ref ms, .ref mkp, .int (nI 0), .ref mtr, .int (nI 4), .int (nI 2), .int (nI 2), .int (nI 3), .int (nI 2), .int (nI 1), .ref mas, .int (nI 0), .int (nI 0), .int (nI 0), .ref mso, .ref mon, .ref mot, .ref man, .int (nI 0), .int (nI 0), .ref mst, .ref msm, .ref mtb, .ref mti, .ref mfr, .ref mbn, .ref mbs, .ref mde, .int (nI 0), .int (nI 0), .int (nI 0), .int (nI 0), .long 0, .long 0, .ref maa, .ref mab, .ref mba, .ref mbb]))] := hD
  obtain rfl : r_103 = nI 0 := by rw [hw_r_103]; decide +kernel
  refine lv_if_ne (tgt := 37) hx hb dX12_spreads_31 (by decide) (fun c => absurd (by decide) c) (fun _ => ?_)
  refine lv_goto (tgt := 108) hx hb dX12_spreads_34 (by decide) ?_
  refine lv_iinc (v := nI 2) (lv' := [(4, .int (nI 2)), (3, .int (nI 2)), (5, .int (nI 0)), (0, .ref hm), (1, .int (nI 1)), (2, .int (nI 0))]) hx hb dX12_spreads_108 hl (k := 0) rfl (by decide) (by decide) rfl ?_
  clear hl
  try clear ls
  intro ls hl
  refine lv_goto (tgt := 13) hx hb dX12_spreads_111 (by decide) ?_
  refine lv_iload hx hb dX12_spreads_13 (lv_at hl 0 rfl) ?_
  refine lv_iconst (v := nI 1) hx hb dX12_spreads_15 (by decide) ?_
  refine lv_aload_n hx hb dX12_spreads_16 rfl (lv_at hl 3 rfl) ?_
  refine xget C hP 10 rfl rfl zuX12 4 (by decide) zw5_217 rfl dX12_spreads_17 ?_
  refine lv_ishl hx hb dX12_spreads_20 ?_
  refine lv_topi (nm_r (e' := nI 16) (by decide) ?_)
  refine lv_icmp_ge (tgt := 114) hx hb dX12_spreads_21 (by decide) (fun c => absurd c (by decide)) (fun _ => ?_)
  refine lv_aload_n hx hb dX12_spreads_24 rfl (lv_at hl 3 rfl) ?_
  refine lv_iload_n hx hb dX12_spreads_25 rfl (lv_at hl 1 rfl) ?_
  refine lv_iload hx hb dX12_spreads_26 (lv_at hl 0 rfl) ?_
  refine xi (wr := [(ti1, .inl (cs 1, 2001, .inr (.inl u1))), (st1, .inl (cs 0, 96048, .inl q1)), (ms, .inl (cs 0, 288, .inl freshS)), (msm, .inl (cs 0, 2, .inl (smF2 (nI 1) b0))), (mst, .inl (cs 5, 2, .inr (.inr (.inr (.inr fst))))), (st0, .inl (cs 0, 96048, .inl (cpF freshS q0 48))), (mtb, .inl (cs 5, 2, .inr (.inr (.inr (.inr ftb))))), (tb0, .inl (cs 0, 8192, .inl (upd (fun _ => nI 0) 965 (nI 1)))), (mti, .inl (cs 6, 2, .inr (.inr (.inr (.inr fti))))), (ti0, .inl (cs 1, 2001, .inr (.inl (vp_updL u0 0 (lN (ww * 6))))))]) (xV (As := [.int (nI 2), .int (nI 2)]) (rest := []) C (c_X12_isSample_x l D cs hm ms mkp mtr mas mso mon mot man mst msm mtb mti mfr mbn mbs mde maa mab mba mbb 2 2 (by decide) (by decide)) kX12_139 hP hD [10] rfl (by decide +kernel) 0 rfl rfl rfl ⟨Nat.le_of_ble_eq_true rfl, Nat.le_of_ble_eq_true rfl⟩ rfl hl.1 rfl (Nat.le_of_ble_eq_true rfl) dX12_spreads_28 ⟨Nat.le_of_ble_eq_true rfl, Nat.le_of_ble_eq_true rfl⟩) hP hD hS hA [10] [0, 1, 2, 3, 4, 5, 6, 7, 8, 9] rfl rfl (by decide +kernel) (by decide +kernel) ?_
  clear hP hD hS
  try clear locs
  try clear H
  intro r_105 u_106 H locs hw_r_105 hP hD hS
  have hw_r_105 : r_105 = smB 2 2 := hw_r_105
  refine W.widen (k := 0) (n := 0) (Nat.le_of_ble_eq_true rfl) (Nat.le_of_ble_eq_true rfl) ?_
  replace hP : va_P D vwCl [(ti1, .inl (cs 1, 2001, .inr (.inl u1))), (st1, .inl (cs 0, 96048, .inl q1)), (ms, .inl (cs 0, 288, .inl freshS)), (msm, .inl (cs 0, 2, .inl (smF2 (nI 1) b0))), (mst, .inl (cs 5, 2, .inr (.inr (.inr (.inr fst))))), (st0, .inl (cs 0, 96048, .inl (cpF freshS q0 48))), (mtb, .inl (cs 5, 2, .inr (.inr (.inr (.inr ftb))))), (tb0, .inl (cs 0, 8192, .inl (upd (fun _ => nI 0) 965 (nI 1)))), (mti, .inl (cs 6, 2, .inr (.inr (.inr (.inr fti))))), (ti0, .inl (cs 1, 2001, .inr (.inl (vp_updL u0 0 (lN (ww * 6)))))), (hm, .inr (12, [.ref ms, .ref mkp, .int (nI 0), .ref mtr, .int (nI 4), .int (nI 2), .int (nI 2), .int (nI 3), .int (nI 2), .int (nI 1), .ref mas, .int (nI 0), .int (nI 0), .int (nI 0), .ref mso, .ref mon, .ref mot, .ref man, .int (nI 0), .int (nI 0), .ref mst, .ref msm, .ref mtb, .ref mti, .ref mfr, .ref mbn, .ref mbs, .ref mde, .int (nI 0), .int (nI 0), .int (nI 0), .int (nI 0), .long 0, .long 0, .ref maa, .ref mab, .ref mba, .ref mbb]))] H := hP
  replace hD : va_D A [(ti1, .inl (cs 1, 2001, .inr (.inl u1))), (st1, .inl (cs 0, 96048, .inl q1)), (ms, .inl (cs 0, 288, .inl freshS)), (msm, .inl (cs 0, 2, .inl (smF2 (nI 1) b0))), (mst, .inl (cs 5, 2, .inr (.inr (.inr (.inr fst))))), (st0, .inl (cs 0, 96048, .inl (cpF freshS q0 48))), (mtb, .inl (cs 5, 2, .inr (.inr (.inr (.inr ftb))))), (tb0, .inl (cs 0, 8192, .inl (upd (fun _ => nI 0) 965 (nI 1)))), (mti, .inl (cs 6, 2, .inr (.inr (.inr (.inr fti))))), (ti0, .inl (cs 1, 2001, .inr (.inl (vp_updL u0 0 (lN (ww * 6)))))), (hm, .inr (12, [.ref ms, .ref mkp, .int (nI 0), .ref mtr, .int (nI 4), .int (nI 2), .int (nI 2), .int (nI 3), .int (nI 2), .int (nI 1), .ref mas, .int (nI 0), .int (nI 0), .int (nI 0), .ref mso, .ref mon, .ref mot, .ref man, .int (nI 0), .int (nI 0), .ref mst, .ref msm, .ref mtb, .ref mti, .ref mfr, .ref mbn, .ref mbs, .ref mde, .int (nI 0), .int (nI 0), .int (nI 0), .int (nI 0), .long 0, .long 0, .ref maa, .ref mab, .ref mba, .ref mbb]))] := hD
  obtain rfl : r_105 = nI 0 := by rw [hw_r_105]; decide +kernel
  refine lv_if_ne (tgt := 37) hx hb dX12_spreads_31 (by decide) (fun c => absurd (by decide) c) (fun _ => ?_)
  refine lv_goto (tgt := 108) hx hb dX12_spreads_34 (by decide) ?_
  refine lv_iinc (v := nI 3) (lv' := [(4, .int (nI 3)), (3, .int (nI 2)), (5, .int (nI 0)), (0, .ref hm), (1, .int (nI 1)), (2, .int (nI 0))]) hx hb dX12_spreads_108 hl (k := 0) rfl (by decide) (by decide) rfl ?_
  clear hl
  try clear ls
  intro ls hl
  refine lv_goto (tgt := 13) hx hb dX12_spreads_111 (by decide) ?_
  refine lv_iload hx hb dX12_spreads_13 (lv_at hl 0 rfl) ?_
  refine lv_iconst (v := nI 1) hx hb dX12_spreads_15 (by decide) ?_
  refine lv_aload_n hx hb dX12_spreads_16 rfl (lv_at hl 3 rfl) ?_
  refine xget C hP 10 rfl rfl zuX12 4 (by decide) zw5_217 rfl dX12_spreads_17 ?_
  refine lv_ishl hx hb dX12_spreads_20 ?_
  refine lv_topi (nm_r (e' := nI 16) (by decide) ?_)
  refine lv_icmp_ge (tgt := 114) hx hb dX12_spreads_21 (by decide) (fun c => absurd c (by decide)) (fun _ => ?_)
  refine lv_aload_n hx hb dX12_spreads_24 rfl (lv_at hl 3 rfl) ?_
  refine lv_iload_n hx hb dX12_spreads_25 rfl (lv_at hl 1 rfl) ?_
  refine lv_iload hx hb dX12_spreads_26 (lv_at hl 0 rfl) ?_
  refine xi (wr := [(ti1, .inl (cs 1, 2001, .inr (.inl u1))), (st1, .inl (cs 0, 96048, .inl q1)), (ms, .inl (cs 0, 288, .inl freshS)), (msm, .inl (cs 0, 2, .inl (smF2 (nI 1) b0))), (mst, .inl (cs 5, 2, .inr (.inr (.inr (.inr fst))))), (st0, .inl (cs 0, 96048, .inl (cpF freshS q0 48))), (mtb, .inl (cs 5, 2, .inr (.inr (.inr (.inr ftb))))), (tb0, .inl (cs 0, 8192, .inl (upd (fun _ => nI 0) 965 (nI 1)))), (mti, .inl (cs 6, 2, .inr (.inr (.inr (.inr fti))))), (ti0, .inl (cs 1, 2001, .inr (.inl (vp_updL u0 0 (lN (ww * 6))))))]) (xV (As := [.int (nI 2), .int (nI 3)]) (rest := []) C (c_X12_isSample_x l D cs hm ms mkp mtr mas mso mon mot man mst msm mtb mti mfr mbn mbs mde maa mab mba mbb 2 3 (by decide) (by decide)) kX12_139 hP hD [10] rfl (by decide +kernel) 0 rfl rfl rfl ⟨Nat.le_of_ble_eq_true rfl, Nat.le_of_ble_eq_true rfl⟩ rfl hl.1 rfl (Nat.le_of_ble_eq_true rfl) dX12_spreads_28 ⟨Nat.le_of_ble_eq_true rfl, Nat.le_of_ble_eq_true rfl⟩) hP hD hS hA [10] [0, 1, 2, 3, 4, 5, 6, 7, 8, 9] rfl rfl (by decide +kernel) (by decide +kernel) ?_
  clear hP hD hS
  try clear locs
  try clear H
  intro r_107 u_108 H locs hw_r_107 hP hD hS
  have hw_r_107 : r_107 = smB 2 3 := hw_r_107
  refine W.widen (k := 0) (n := 0) (Nat.le_of_ble_eq_true rfl) (Nat.le_of_ble_eq_true rfl) ?_
  replace hP : va_P D vwCl [(ti1, .inl (cs 1, 2001, .inr (.inl u1))), (st1, .inl (cs 0, 96048, .inl q1)), (ms, .inl (cs 0, 288, .inl freshS)), (msm, .inl (cs 0, 2, .inl (smF2 (nI 1) b0))), (mst, .inl (cs 5, 2, .inr (.inr (.inr (.inr fst))))), (st0, .inl (cs 0, 96048, .inl (cpF freshS q0 48))), (mtb, .inl (cs 5, 2, .inr (.inr (.inr (.inr ftb))))), (tb0, .inl (cs 0, 8192, .inl (upd (fun _ => nI 0) 965 (nI 1)))), (mti, .inl (cs 6, 2, .inr (.inr (.inr (.inr fti))))), (ti0, .inl (cs 1, 2001, .inr (.inl (vp_updL u0 0 (lN (ww * 6)))))), (hm, .inr (12, [.ref ms, .ref mkp, .int (nI 0), .ref mtr, .int (nI 4), .int (nI 2), .int (nI 2), .int (nI 3), .int (nI 2), .int (nI 1), .ref mas, .int (nI 0), .int (nI 0), .int (nI 0), .ref mso, .ref mon, .ref mot, .ref man, .int (nI 0), .int (nI 0), .ref mst, .ref msm, .ref mtb, .ref mti, .ref mfr, .ref mbn, .ref mbs, .ref mde, .int (nI 0), .int (nI 0), .int (nI 0), .int (nI 0), .long 0, .long 0, .ref maa, .ref mab, .ref mba, .ref mbb]))] H := hP
  replace hD : va_D A [(ti1, .inl (cs 1, 2001, .inr (.inl u1))), (st1, .inl (cs 0, 96048, .inl q1)), (ms, .inl (cs 0, 288, .inl freshS)), (msm, .inl (cs 0, 2, .inl (smF2 (nI 1) b0))), (mst, .inl (cs 5, 2, .inr (.inr (.inr (.inr fst))))), (st0, .inl (cs 0, 96048, .inl (cpF freshS q0 48))), (mtb, .inl (cs 5, 2, .inr (.inr (.inr (.inr ftb))))), (tb0, .inl (cs 0, 8192, .inl (upd (fun _ => nI 0) 965 (nI 1)))), (mti, .inl (cs 6, 2, .inr (.inr (.inr (.inr fti))))), (ti0, .inl (cs 1, 2001, .inr (.inl (vp_updL u0 0 (lN (ww * 6)))))), (hm, .inr (12, [.ref ms, .ref mkp, .int (nI 0), .ref mtr, .int (nI 4), .int (nI 2), .int (nI 2), .int (nI 3), .int (nI 2), .int (nI 1), .ref mas, .int (nI 0), .int (nI 0), .int (nI 0), .ref mso, .ref mon, .ref mot, .ref man, .int (nI 0), .int (nI 0), .ref mst, .ref msm, .ref mtb, .ref mti, .ref mfr, .ref mbn, .ref mbs, .ref mde, .int (nI 0), .int (nI 0), .int (nI 0), .int (nI 0), .long 0, .long 0, .ref maa, .ref mab, .ref mba, .ref mbb]))] := hD
  obtain rfl : r_107 = nI 1 := by rw [hw_r_107]; decide +kernel
  refine lv_if_ne (tgt := 37) hx hb dX12_spreads_31 (by decide) (fun _ => ?_) (fun c => absurd c (by decide))
  refine lv_aload_n hx hb dX12_spreads_37 rfl (lv_at hl 3 rfl) ?_
  refine lv_iload_n hx hb dX12_spreads_38 rfl (lv_at hl 4 rfl) ?_
  refine lv_iload_n hx hb dX12_spreads_39 rfl (lv_at hl 5 rfl) ?_
  refine xv (wr := [(ti1, .inl (cs 1, 2001, .inr (.inl u1))), (msm, .inl (cs 0, 2, .inl (smF2 (nI 1) b0))), (st0, .inl (cs 0, 96048, .inl (cpF freshS q0 48))), (mtb, .inl (cs 5, 2, .inr (.inr (.inr (.inr ftb))))), (tb0, .inl (cs 0, 8192, .inl (upd (fun _ => nI 0) 965 (nI 1)))), (mti, .inl (cs 6, 2, .inr (.inr (.inr (.inr fti))))), (ti0, .inl (cs 1, 2001, .inr (.inl (vp_updL u0 0 (lN (ww * 6))))))]) (xV (As := [.int (nI 1), .int (nI 0)]) (rest := []) C (c_X12_brings_1 l D cs hm ms mkp mtr mas mso mon mot man mst msm mtb mti mfr mbn mbs mde maa mab mba mbb st1 fst q1 hf1 hq) kX12_203 hP hD [10, 2, 4, 1] rfl (by decide +kernel) 0 rfl rfl rfl ⟨Nat.le_of_ble_eq_true rfl, Nat.le_of_ble_eq_true rfl⟩ rfl hl.1 rfl (Nat.le_of_ble_eq_true rfl) dX12_spreads_40 ⟨Nat.le_of_ble_eq_true rfl, Nat.le_of_ble_eq_true rfl⟩) hP hD hS hA [10, 2, 4, 1] [0, 3, 5, 6, 7, 8, 9] rfl rfl (by decide +kernel) (by decide +kernel) ?_
  clear hP hD hS
  try clear locs
  try clear H
  intro u_110 H locs hw_r_109 hP hD hS
  refine W.widen (k := 0) (n := 0) (Nat.le_of_ble_eq_true rfl) (Nat.le_of_ble_eq_true rfl) ?_
  replace hP : va_P D vwCl [(ti1, .inl (cs 1, 2001, .inr (.inl u1))), (msm, .inl (cs 0, 2, .inl (smF2 (nI 1) b0))), (st0, .inl (cs 0, 96048, .inl (cpF freshS q0 48))), (mtb, .inl (cs 5, 2, .inr (.inr (.inr (.inr ftb))))), (tb0, .inl (cs 0, 8192, .inl (upd (fun _ => nI 0) 965 (nI 1)))), (mti, .inl (cs 6, 2, .inr (.inr (.inr (.inr fti))))), (ti0, .inl (cs 1, 2001, .inr (.inl (vp_updL u0 0 (lN (ww * 6)))))), (hm, .inr (12, [.ref ms, .ref mkp, .int (nI 0), .ref mtr, .int (nI 4), .int (nI 2), .int (nI 2), .int (nI 3), .int (nI 2), .int (nI 1), .ref mas, .int (nI 0), .int (nI 0), .int (nI 0), .ref mso, .ref mon, .ref mot, .ref man, .int (nI 0), .int (nI 0), .ref mst, .ref msm, .ref mtb, .ref mti, .ref mfr, .ref mbn, .ref mbs, .ref mde, .int (nI 0), .int (nI 0), .int (nI 0), .int (nI 0), .long 0, .long 0, .ref maa, .ref mab, .ref mba, .ref mbb])), (ms, .inl (cs 0, 288, .inl freshS)), (mst, .inl (cs 5, 2, .inr (.inr (.inr (.inr fst))))), (st1, .inl (cs 0, 96048, .inl q1))] H := hP
  replace hD : va_D A [(ti1, .inl (cs 1, 2001, .inr (.inl u1))), (msm, .inl (cs 0, 2, .inl (smF2 (nI 1) b0))), (st0, .inl (cs 0, 96048, .inl (cpF freshS q0 48))), (mtb, .inl (cs 5, 2, .inr (.inr (.inr (.inr ftb))))), (tb0, .inl (cs 0, 8192, .inl (upd (fun _ => nI 0) 965 (nI 1)))), (mti, .inl (cs 6, 2, .inr (.inr (.inr (.inr fti))))), (ti0, .inl (cs 1, 2001, .inr (.inl (vp_updL u0 0 (lN (ww * 6)))))), (hm, .inr (12, [.ref ms, .ref mkp, .int (nI 0), .ref mtr, .int (nI 4), .int (nI 2), .int (nI 2), .int (nI 3), .int (nI 2), .int (nI 1), .ref mas, .int (nI 0), .int (nI 0), .int (nI 0), .ref mso, .ref mon, .ref mot, .ref man, .int (nI 0), .int (nI 0), .ref mst, .ref msm, .ref mtb, .ref mti, .ref mfr, .ref mbn, .ref mbs, .ref mde, .int (nI 0), .int (nI 0), .int (nI 0), .int (nI 0), .long 0, .long 0, .ref maa, .ref mab, .ref mba, .ref mbb])), (ms, .inl (cs 0, 288, .inl freshS)), (mst, .inl (cs 5, 2, .inr (.inr (.inr (.inr fst))))), (st1, .inl (cs 0, 96048, .inl q1))] := hD
  refine lv_aload_n hx hb dX12_spreads_43 rfl (lv_at hl 3 rfl) ?_
  refine lv_iload_n hx hb dX12_spreads_44 rfl (lv_at hl 1 rfl) ?_
  refine xi (wr := [(ti1, .inl (cs 1, 2001, .inr (.inl u1))), (msm, .inl (cs 0, 2, .inl (smF2 (nI 1) b0))), (st0, .inl (cs 0, 96048, .inl (cpF freshS q0 48))), (mtb, .inl (cs 5, 2, .inr (.inr (.inr (.inr ftb))))), (tb0, .inl (cs 0, 8192, .inl (upd (fun _ => nI 0) 965 (nI 1)))), (mti, .inl (cs 6, 2, .inr (.inr (.inr (.inr fti))))), (ti0, .inl (cs 1, 2001, .inr (.inl (vp_updL u0 0 (lN (ww * 6)))))), (mst, .inl (cs 5, 2, .inr (.inr (.inr (.inr fst))))), (st1, .inl (cs 0, 96048, .inl q1))]) (xV (As := [.int (nI 2)]) (rest := []) C (c_X12_canAsk_z l D cs hm ms mkp mtr mas mso mon mot man mst msm mtb mti mfr mbn mbs mde maa mab mba mbb 2 (by decide)) kX12_142 hP hD [7, 8] rfl (by decide +kernel) 0 rfl rfl rfl ⟨Nat.le_of_ble_eq_true rfl, Nat.le_of_ble_eq_true rfl⟩ rfl hl.1 rfl (Nat.le_of_ble_eq_true rfl) dX12_spreads_45 ⟨Nat.le_of_ble_eq_true rfl, Nat.le_of_ble_eq_true rfl⟩) hP hD hS hA [7, 8] [0, 1, 2, 3, 4, 5, 6, 9, 10] rfl rfl (by decide +kernel) (by decide +kernel) ?_
  clear hP hD hS
  try clear locs
  try clear H
  intro r_111 u_112 H locs hw_r_111 hP hD hS
  have hw_r_111 : r_111 = nI 0 := hw_r_111
  refine W.widen (k := 0) (n := 0) (Nat.le_of_ble_eq_true rfl) (Nat.le_of_ble_eq_true rfl) ?_
  replace hP : va_P D vwCl [(ti1, .inl (cs 1, 2001, .inr (.inl u1))), (msm, .inl (cs 0, 2, .inl (smF2 (nI 1) b0))), (st0, .inl (cs 0, 96048, .inl (cpF freshS q0 48))), (mtb, .inl (cs 5, 2, .inr (.inr (.inr (.inr ftb))))), (tb0, .inl (cs 0, 8192, .inl (upd (fun _ => nI 0) 965 (nI 1)))), (mti, .inl (cs 6, 2, .inr (.inr (.inr (.inr fti))))), (ti0, .inl (cs 1, 2001, .inr (.inl (vp_updL u0 0 (lN (ww * 6)))))), (mst, .inl (cs 5, 2, .inr (.inr (.inr (.inr fst))))), (st1, .inl (cs 0, 96048, .inl q1)), (hm, .inr (12, [.ref ms, .ref mkp, .int (nI 0), .ref mtr, .int (nI 4), .int (nI 2), .int (nI 2), .int (nI 3), .int (nI 2), .int (nI 1), .ref mas, .int (nI 0), .int (nI 0), .int (nI 0), .ref mso, .ref mon, .ref mot, .ref man, .int (nI 0), .int (nI 0), .ref mst, .ref msm, .ref mtb, .ref mti, .ref mfr, .ref mbn, .ref mbs, .ref mde, .int (nI 0), .int (nI 0), .int (nI 0), .int (nI 0), .long 0, .long 0, .ref maa, .ref mab, .ref mba, .ref mbb])), (ms, .inl (cs 0, 288, .inl freshS))] H := hP
  replace hD : va_D A [(ti1, .inl (cs 1, 2001, .inr (.inl u1))), (msm, .inl (cs 0, 2, .inl (smF2 (nI 1) b0))), (st0, .inl (cs 0, 96048, .inl (cpF freshS q0 48))), (mtb, .inl (cs 5, 2, .inr (.inr (.inr (.inr ftb))))), (tb0, .inl (cs 0, 8192, .inl (upd (fun _ => nI 0) 965 (nI 1)))), (mti, .inl (cs 6, 2, .inr (.inr (.inr (.inr fti))))), (ti0, .inl (cs 1, 2001, .inr (.inl (vp_updL u0 0 (lN (ww * 6)))))), (mst, .inl (cs 5, 2, .inr (.inr (.inr (.inr fst))))), (st1, .inl (cs 0, 96048, .inl q1)), (hm, .inr (12, [.ref ms, .ref mkp, .int (nI 0), .ref mtr, .int (nI 4), .int (nI 2), .int (nI 2), .int (nI 3), .int (nI 2), .int (nI 1), .ref mas, .int (nI 0), .int (nI 0), .int (nI 0), .ref mso, .ref mon, .ref mot, .ref man, .int (nI 0), .int (nI 0), .ref mst, .ref msm, .ref mtb, .ref mti, .ref mfr, .ref mbn, .ref mbs, .ref mde, .int (nI 0), .int (nI 0), .int (nI 0), .int (nI 0), .long 0, .long 0, .ref maa, .ref mab, .ref mba, .ref mbb])), (ms, .inl (cs 0, 288, .inl freshS))] := hD
  subst hw_r_111
  refine lv_if_eq (tgt := 67) hx hb dX12_spreads_48 (by decide) (fun _ => ?_) (fun c => absurd (by decide) c)
  refine lv_aload_n hx hb dX12_spreads_67 rfl (lv_at hl 3 rfl) ?_
  refine lv_iconst (v := nI 1) hx hb dX12_spreads_68 (by decide) ?_
  refine lv_iload_n hx hb dX12_spreads_69 rfl (lv_at hl 4 rfl) ?_
  refine lv_isub hx hb dX12_spreads_70 ?_
  refine lv_topi (nm_r (e' := nI 0) (by decide) ?_)
  refine lv_sipush (v := nI 2000) hx hb dX12_spreads_71 (by decide) ?_
  refine xi (wr := [(ti1, .inl (cs 1, 2001, .inr (.inl u1))), (st1, .inl (cs 0, 96048, .inl q1))]) (xV (As := [.int (nI 0), .int (nI 2000)]) (rest := []) C (c_X12_numberOf_b0 l D cs hm ms mkp mtr mas mso mon mot man mst msm mtb mti mfr mbn mbs mde maa mab mba mbb st0 tb0 ti0 fst ftb fti (smF2 (nI 1) b0) (cpF freshS q0 48) (upd (fun _ => nI 0) 965 (nI 1)) (vp_updL u0 0 (lN (ww * 6))) hf0 hg ht0 (if_pos rfl) (fun j hj => cpF_lt hj)) kX12_197 hP hD [9, 10, 1, 7, 2, 3, 4, 5, 6] rfl (by decide +kernel) 0 rfl rfl rfl ⟨Nat.le_of_ble_eq_true rfl, Nat.le_of_ble_eq_true rfl⟩ rfl hl.1 rfl (Nat.le_of_ble_eq_true rfl) dX12_spreads_74 ⟨Nat.le_of_ble_eq_true rfl, Nat.le_of_ble_eq_true rfl⟩) hP hD hS hA [9, 10, 1, 7, 2, 3, 4, 5, 6] [0, 8] rfl rfl (by decide +kernel) (by decide +kernel) ?_
  clear hP hD hS
  try clear locs
  try clear H
  intro r_113 u_114 H locs hw_r_113 hP hD hS
  have hw_r_113 : r_113 = nI 0 := hw_r_113
  refine W.widen (k := 0) (n := 0) (Nat.le_of_ble_eq_true rfl) (Nat.le_of_ble_eq_true rfl) ?_
  replace hP : va_P D vwCl [(ti1, .inl (cs 1, 2001, .inr (.inl u1))), (st1, .inl (cs 0, 96048, .inl q1)), (hm, .inr (12, [.ref ms, .ref mkp, .int (nI 0), .ref mtr, .int (nI 4), .int (nI 2), .int (nI 2), .int (nI 3), .int (nI 2), .int (nI 1), .ref mas, .int (nI 0), .int (nI 0), .int (nI 0), .ref mso, .ref mon, .ref mot, .ref man, .int (nI 0), .int (nI 0), .ref mst, .ref msm, .ref mtb, .ref mti, .ref mfr, .ref mbn, .ref mbs, .ref mde, .int (nI 0), .int (nI 0), .int (nI 0), .int (nI 0), .long 0, .long 0, .ref maa, .ref mab, .ref mba, .ref mbb])), (ms, .inl (cs 0, 288, .inl freshS)), (msm, .inl (cs 0, 2, .inl (smF2 (nI 1) b0))), (mst, .inl (cs 5, 2, .inr (.inr (.inr (.inr fst))))), (st0, .inl (cs 0, 96048, .inl (cpF freshS q0 48))), (mtb, .inl (cs 5, 2, .inr (.inr (.inr (.inr ftb))))), (tb0, .inl (cs 0, 8192, .inl (upd (fun _ => nI 0) 965 (nI 1)))), (mti, .inl (cs 6, 2, .inr (.inr (.inr (.inr fti))))), (ti0, .inl (cs 1, 2001, .inr (.inl (vp_updL u0 0 (lN (ww * 6))))))] H := hP
  replace hD : va_D A [(ti1, .inl (cs 1, 2001, .inr (.inl u1))), (st1, .inl (cs 0, 96048, .inl q1)), (hm, .inr (12, [.ref ms, .ref mkp, .int (nI 0), .ref mtr, .int (nI 4), .int (nI 2), .int (nI 2), .int (nI 3), .int (nI 2), .int (nI 1), .ref mas, .int (nI 0), .int (nI 0), .int (nI 0), .ref mso, .ref mon, .ref mot, .ref man, .int (nI 0), .int (nI 0), .ref mst, .ref msm, .ref mtb, .ref mti, .ref mfr, .ref mbn, .ref mbs, .ref mde, .int (nI 0), .int (nI 0), .int (nI 0), .int (nI 0), .long 0, .long 0, .ref maa, .ref mab, .ref mba, .ref mbb])), (ms, .inl (cs 0, 288, .inl freshS)), (msm, .inl (cs 0, 2, .inl (smF2 (nI 1) b0))), (mst, .inl (cs 5, 2, .inr (.inr (.inr (.inr fst))))), (st0, .inl (cs 0, 96048, .inl (cpF freshS q0 48))), (mtb, .inl (cs 5, 2, .inr (.inr (.inr (.inr ftb))))), (tb0, .inl (cs 0, 8192, .inl (upd (fun _ => nI 0) 965 (nI 1)))), (mti, .inl (cs 6, 2, .inr (.inr (.inr (.inr fti))))), (ti0, .inl (cs 1, 2001, .inr (.inl (vp_updL u0 0 (lN (ww * 6))))))] := hD
  subst hw_r_113
  refine lv_istore (lv' := [(5, .int (nI 0)), (4, .int (nI 3)), (3, .int (nI 2)), (0, .ref hm), (1, .int (nI 1)), (2, .int (nI 0))]) hx hb dX12_spreads_77 hl (by decide) rfl ?_
  clear hl
  try clear ls
  intro ls hl
  refine lv_iload hx hb dX12_spreads_79 (lv_at hl 0 rfl) ?_
  refine lv_if_ge (tgt := 86) hx hb dX12_spreads_81 (by decide) (fun _ => ?_) (fun c => absurd (by decide) c)
  refine lv_aload_n hx hb dX12_spreads_86 rfl (lv_at hl 3 rfl) ?_
  refine xget C hP 2 rfl rfl zuX12 23 (by decide) zw5_236 rfl dX12_spreads_87 ?_
  refine lv_iconst (v := nI 1) hx hb dX12_spreads_90 (by decide) ?_
  refine lv_iload_n hx hb dX12_spreads_91 rfl (lv_at hl 4 rfl) ?_
  refine lv_isub hx hb dX12_spreads_92 ?_
  refine lv_topi (nm_r (e' := nI 0) (by decide) ?_)
  refine xaald C hP 9 6 rfl rfl rfl 0 rfl (by decide) (by decide) ht0 dX12_spreads_93 ?_
  refine lv_iload hx hb dX12_spreads_94 (lv_at hl 0 rfl) ?_
  refine lv_dup2_11 hx hb dX12_spreads_96 rfl rfl ?_
  refine xlald C hP 10 rfl 0 rfl (by decide) (by decide) dX12_spreads_97 ?_
  refine lv_topl (nm_r (e' := lN (ww * 6)) (upL_0 _ _) ?_)
  refine lv_aload_n hx hb dX12_spreads_98 rfl (lv_at hl 3 rfl) ?_
  refine xget C hP 2 rfl rfl zuX12 23 (by decide) zw5_236 rfl dX12_spreads_99 ?_
  refine lv_iload_n hx hb dX12_spreads_102 rfl (lv_at hl 4 rfl) ?_
  refine xaald C hP 9 6 rfl rfl rfl 1 rfl (by decide) (by decide) ht1 dX12_spreads_103 ?_
  refine lv_iload_n hx hb dX12_spreads_104 rfl (lv_at hl 5 rfl) ?_
  refine xlald C hP 0 rfl 0 rfl (by decide) (by decide) dX12_spreads_105 ?_
  refine lv_topl (nm_r (e' := lN ww) hw ?_)
  refine lv_ladd hx hb dX12_spreads_106 ?_
  refine lv_topl (nm_r (e' := lN (ww * 7)) (lN_a ww 6) ?_)
  refine xlast C hP hD hS 10 rfl 0 rfl (by decide) (by decide) dX12_spreads_107 ?_
  clear hP hD hS
  try clear locs
  try clear H
  intro H locs hP hD hS
  replace hP : va_P D vwCl [(ti1, .inl (cs 1, 2001, .inr (.inl u1))), (st1, .inl (cs 0, 96048, .inl q1)), (hm, .inr (12, [.ref ms, .ref mkp, .int (nI 0), .ref mtr, .int (nI 4), .int (nI 2), .int (nI 2), .int (nI 3), .int (nI 2), .int (nI 1), .ref mas, .int (nI 0), .int (nI 0), .int (nI 0), .ref mso, .ref mon, .ref mot, .ref man, .int (nI 0), .int (nI 0), .ref mst, .ref msm, .ref mtb, .ref mti, .ref mfr, .ref mbn, .ref mbs, .ref mde, .int (nI 0), .int (nI 0), .int (nI 0), .int (nI 0), .long 0, .long 0, .ref maa, .ref mab, .ref mba, .ref mbb])), (ms, .inl (cs 0, 288, .inl freshS)), (msm, .inl (cs 0, 2, .inl (smF2 (nI 1) b0))), (mst, .inl (cs 5, 2, .inr (.inr (.inr (.inr fst))))), (st0, .inl (cs 0, 96048, .inl (cpF freshS q0 48))), (mtb, .inl (cs 5, 2, .inr (.inr (.inr (.inr ftb))))), (tb0, .inl (cs 0, 8192, .inl (upd (fun _ => nI 0) 965 (nI 1)))), (mti, .inl (cs 6, 2, .inr (.inr (.inr (.inr fti))))), (ti0, .inl (cs 1, 2001, .inr (.inl (vp_updL (vp_updL u0 0 (lN (ww * 6))) 0 (lN (ww * 7))))))] H := hP
  replace hD : va_D A [(ti1, .inl (cs 1, 2001, .inr (.inl u1))), (st1, .inl (cs 0, 96048, .inl q1)), (hm, .inr (12, [.ref ms, .ref mkp, .int (nI 0), .ref mtr, .int (nI 4), .int (nI 2), .int (nI 2), .int (nI 3), .int (nI 2), .int (nI 1), .ref mas, .int (nI 0), .int (nI 0), .int (nI 0), .ref mso, .ref mon, .ref mot, .ref man, .int (nI 0), .int (nI 0), .ref mst, .ref msm, .ref mtb, .ref mti, .ref mfr, .ref mbn, .ref mbs, .ref mde, .int (nI 0), .int (nI 0), .int (nI 0), .int (nI 0), .long 0, .long 0, .ref maa, .ref mab, .ref mba, .ref mbb])), (ms, .inl (cs 0, 288, .inl freshS)), (msm, .inl (cs 0, 2, .inl (smF2 (nI 1) b0))), (mst, .inl (cs 5, 2, .inr (.inr (.inr (.inr fst))))), (st0, .inl (cs 0, 96048, .inl (cpF freshS q0 48))), (mtb, .inl (cs 5, 2, .inr (.inr (.inr (.inr ftb))))), (tb0, .inl (cs 0, 8192, .inl (upd (fun _ => nI 0) 965 (nI 1)))), (mti, .inl (cs 6, 2, .inr (.inr (.inr (.inr fti))))), (ti0, .inl (cs 1, 2001, .inr (.inl (vp_updL (vp_updL u0 0 (lN (ww * 6))) 0 (lN (ww * 7))))))] := hD
  have hPD := xcongl (q0 := 10) (vp_updL u0 0 (lN (ww * 7))) hP hD rfl (fun j hj => upL_1 u0 _ _ j)
  clear hP hD
  obtain ⟨hP, hD⟩ := hPD
  replace hP : va_P D vwCl [(ti1, .inl (cs 1, 2001, .inr (.inl u1))), (st1, .inl (cs 0, 96048, .inl q1)), (hm, .inr (12, [.ref ms, .ref mkp, .int (nI 0), .ref mtr, .int (nI 4), .int (nI 2), .int (nI 2), .int (nI 3), .int (nI 2), .int (nI 1), .ref mas, .int (nI 0), .int (nI 0), .int (nI 0), .ref mso, .ref mon, .ref mot, .ref man, .int (nI 0), .int (nI 0), .ref mst, .ref msm, .ref mtb, .ref mti, .ref mfr, .ref mbn, .ref mbs, .ref mde, .int (nI 0), .int (nI 0), .int (nI 0), .int (nI 0), .long 0, .long 0, .ref maa, .ref mab, .ref mba, .ref mbb])), (ms, .inl (cs 0, 288, .inl freshS)), (msm, .inl (cs 0, 2, .inl (smF2 (nI 1) b0))), (mst, .inl (cs 5, 2, .inr (.inr (.inr (.inr fst))))), (st0, .inl (cs 0, 96048, .inl (cpF freshS q0 48))), (mtb, .inl (cs 5, 2, .inr (.inr (.inr (.inr ftb))))), (tb0, .inl (cs 0, 8192, .inl (upd (fun _ => nI 0) 965 (nI 1)))), (mti, .inl (cs 6, 2, .inr (.inr (.inr (.inr fti))))), (ti0, .inl (cs 1, 2001, .inr (.inl (vp_updL u0 0 (lN (ww * 7))))))] H := hP
  replace hD : va_D A [(ti1, .inl (cs 1, 2001, .inr (.inl u1))), (st1, .inl (cs 0, 96048, .inl q1)), (hm, .inr (12, [.ref ms, .ref mkp, .int (nI 0), .ref mtr, .int (nI 4), .int (nI 2), .int (nI 2), .int (nI 3), .int (nI 2), .int (nI 1), .ref mas, .int (nI 0), .int (nI 0), .int (nI 0), .ref mso, .ref mon, .ref mot, .ref man, .int (nI 0), .int (nI 0), .ref mst, .ref msm, .ref mtb, .ref mti, .ref mfr, .ref mbn, .ref mbs, .ref mde, .int (nI 0), .int (nI 0), .int (nI 0), .int (nI 0), .long 0, .long 0, .ref maa, .ref mab, .ref mba, .ref mbb])), (ms, .inl (cs 0, 288, .inl freshS)), (msm, .inl (cs 0, 2, .inl (smF2 (nI 1) b0))), (mst, .inl (cs 5, 2, .inr (.inr (.inr (.inr fst))))), (st0, .inl (cs 0, 96048, .inl (cpF freshS q0 48))), (mtb, .inl (cs 5, 2, .inr (.inr (.inr (.inr ftb))))), (tb0, .inl (cs 0, 8192, .inl (upd (fun _ => nI 0) 965 (nI 1)))), (mti, .inl (cs 6, 2, .inr (.inr (.inr (.inr fti))))), (ti0, .inl (cs 1, 2001, .inr (.inl (vp_updL u0 0 (lN (ww * 7))))))] := hD
  refine lv_iinc (v := nI 4) (lv' := [(4, .int (nI 4)), (5, .int (nI 0)), (3, .int (nI 2)), (0, .ref hm), (1, .int (nI 1)), (2, .int (nI 0))]) hx hb dX12_spreads_108 hl (k := 1) rfl (by decide) (by decide) rfl ?_
  clear hl
  try clear ls
  intro ls hl
  refine lv_goto (tgt := 13) hx hb dX12_spreads_111 (by decide) ?_
  refine lv_iload hx hb dX12_spreads_13 (lv_at hl 0 rfl) ?_
  refine lv_iconst (v := nI 1) hx hb dX12_spreads_15 (by decide) ?_
  refine lv_aload_n hx hb dX12_spreads_16 rfl (lv_at hl 3 rfl) ?_
  refine xget C hP 2 rfl rfl zuX12 4 (by decide) zw5_217 rfl dX12_spreads_17 ?_
  refine lv_ishl hx hb dX12_spreads_20 ?_
  refine lv_topi (nm_r (e' := nI 16) (by decide) ?_)
  refine lv_icmp_ge (tgt := 114) hx hb dX12_spreads_21 (by decide) (fun c => absurd c (by decide)) (fun _ => ?_)
  refine lv_aload_n hx hb dX12_spreads_24 rfl (lv_at hl 3 rfl) ?_
  refine lv_iload_n hx hb dX12_spreads_25 rfl (lv_at hl 2 rfl) ?_
  refine lv_iload hx hb dX12_spreads_26 (lv_at hl 0 rfl) ?_
  refine xi (wr := [(ti1, .inl (cs 1, 2001, .inr (.inl u1))), (st1, .inl (cs 0, 96048, .inl q1)), (ms, .inl (cs 0, 288, .inl freshS)), (msm, .inl (cs 0, 2, .inl (smF2 (nI 1) b0))), (mst, .inl (cs 5, 2, .inr (.inr (.inr (.inr fst))))), (st0, .inl (cs 0, 96048, .inl (cpF freshS q0 48))), (mtb, .inl (cs 5, 2, .inr (.inr (.inr (.inr ftb))))), (tb0, .inl (cs 0, 8192, .inl (upd (fun _ => nI 0) 965 (nI 1)))), (mti, .inl (cs 6, 2, .inr (.inr (.inr (.inr fti))))), (ti0, .inl (cs 1, 2001, .inr (.inl (vp_updL u0 0 (lN (ww * 7))))))]) (xV (As := [.int (nI 2), .int (nI 4)]) (rest := []) C (c_X12_isSample_x l D cs hm ms mkp mtr mas mso mon mot man mst msm mtb mti mfr mbn mbs mde maa mab mba mbb 2 4 (by decide) (by decide)) kX12_139 hP hD [2] rfl (by decide +kernel) 0 rfl rfl rfl ⟨Nat.le_of_ble_eq_true rfl, Nat.le_of_ble_eq_true rfl⟩ rfl hl.1 rfl (Nat.le_of_ble_eq_true rfl) dX12_spreads_28 ⟨Nat.le_of_ble_eq_true rfl, Nat.le_of_ble_eq_true rfl⟩) hP hD hS hA [2] [0, 1, 3, 4, 5, 6, 7, 8, 9, 10] rfl rfl (by decide +kernel) (by decide +kernel) ?_
  clear hP hD hS
  try clear locs
  try clear H
  intro r_115 u_116 H locs hw_r_115 hP hD hS
  have hw_r_115 : r_115 = smB 2 4 := hw_r_115
  refine W.widen (k := 0) (n := 0) (Nat.le_of_ble_eq_true rfl) (Nat.le_of_ble_eq_true rfl) ?_
  replace hP : va_P D vwCl [(ti1, .inl (cs 1, 2001, .inr (.inl u1))), (st1, .inl (cs 0, 96048, .inl q1)), (ms, .inl (cs 0, 288, .inl freshS)), (msm, .inl (cs 0, 2, .inl (smF2 (nI 1) b0))), (mst, .inl (cs 5, 2, .inr (.inr (.inr (.inr fst))))), (st0, .inl (cs 0, 96048, .inl (cpF freshS q0 48))), (mtb, .inl (cs 5, 2, .inr (.inr (.inr (.inr ftb))))), (tb0, .inl (cs 0, 8192, .inl (upd (fun _ => nI 0) 965 (nI 1)))), (mti, .inl (cs 6, 2, .inr (.inr (.inr (.inr fti))))), (ti0, .inl (cs 1, 2001, .inr (.inl (vp_updL u0 0 (lN (ww * 7)))))), (hm, .inr (12, [.ref ms, .ref mkp, .int (nI 0), .ref mtr, .int (nI 4), .int (nI 2), .int (nI 2), .int (nI 3), .int (nI 2), .int (nI 1), .ref mas, .int (nI 0), .int (nI 0), .int (nI 0), .ref mso, .ref mon, .ref mot, .ref man, .int (nI 0), .int (nI 0), .ref mst, .ref msm, .ref mtb, .ref mti, .ref mfr, .ref mbn, .ref mbs, .ref mde, .int (nI 0), .int (nI 0), .int (nI 0), .int (nI 0), .long 0, .long 0, .ref maa, .ref mab, .ref mba, .ref mbb]))] H := hP
  replace hD : va_D A [(ti1, .inl (cs 1, 2001, .inr (.inl u1))), (st1, .inl (cs 0, 96048, .inl q1)), (ms, .inl (cs 0, 288, .inl freshS)), (msm, .inl (cs 0, 2, .inl (smF2 (nI 1) b0))), (mst, .inl (cs 5, 2, .inr (.inr (.inr (.inr fst))))), (st0, .inl (cs 0, 96048, .inl (cpF freshS q0 48))), (mtb, .inl (cs 5, 2, .inr (.inr (.inr (.inr ftb))))), (tb0, .inl (cs 0, 8192, .inl (upd (fun _ => nI 0) 965 (nI 1)))), (mti, .inl (cs 6, 2, .inr (.inr (.inr (.inr fti))))), (ti0, .inl (cs 1, 2001, .inr (.inl (vp_updL u0 0 (lN (ww * 7)))))), (hm, .inr (12, [.ref ms, .ref mkp, .int (nI 0), .ref mtr, .int (nI 4), .int (nI 2), .int (nI 2), .int (nI 3), .int (nI 2), .int (nI 1), .ref mas, .int (nI 0), .int (nI 0), .int (nI 0), .ref mso, .ref mon, .ref mot, .ref man, .int (nI 0), .int (nI 0), .ref mst, .ref msm, .ref mtb, .ref mti, .ref mfr, .ref mbn, .ref mbs, .ref mde, .int (nI 0), .int (nI 0), .int (nI 0), .int (nI 0), .long 0, .long 0, .ref maa, .ref mab, .ref mba, .ref mbb]))] := hD
  obtain rfl : r_115 = nI 0 := by rw [hw_r_115]; decide +kernel
  refine lv_if_ne (tgt := 37) hx hb dX12_spreads_31 (by decide) (fun c => absurd (by decide) c) (fun _ => ?_)
  refine lv_goto (tgt := 108) hx hb dX12_spreads_34 (by decide) ?_
  refine lv_iinc (v := nI 5) (lv' := [(4, .int (nI 5)), (5, .int (nI 0)), (3, .int (nI 2)), (0, .ref hm), (1, .int (nI 1)), (2, .int (nI 0))]) hx hb dX12_spreads_108 hl (k := 0) rfl (by decide) (by decide) rfl ?_
  clear hl
  try clear ls
  intro ls hl
  refine lv_goto (tgt := 13) hx hb dX12_spreads_111 (by decide) ?_
  refine lv_iload hx hb dX12_spreads_13 (lv_at hl 0 rfl) ?_
  refine lv_iconst (v := nI 1) hx hb dX12_spreads_15 (by decide) ?_
  refine lv_aload_n hx hb dX12_spreads_16 rfl (lv_at hl 3 rfl) ?_
  refine xget C hP 10 rfl rfl zuX12 4 (by decide) zw5_217 rfl dX12_spreads_17 ?_
  refine lv_ishl hx hb dX12_spreads_20 ?_
  refine lv_topi (nm_r (e' := nI 16) (by decide) ?_)
  refine lv_icmp_ge (tgt := 114) hx hb dX12_spreads_21 (by decide) (fun c => absurd c (by decide)) (fun _ => ?_)
  refine lv_aload_n hx hb dX12_spreads_24 rfl (lv_at hl 3 rfl) ?_
  refine lv_iload_n hx hb dX12_spreads_25 rfl (lv_at hl 2 rfl) ?_
  refine lv_iload hx hb dX12_spreads_26 (lv_at hl 0 rfl) ?_
  refine xi (wr := [(ti1, .inl (cs 1, 2001, .inr (.inl u1))), (st1, .inl (cs 0, 96048, .inl q1)), (ms, .inl (cs 0, 288, .inl freshS)), (msm, .inl (cs 0, 2, .inl (smF2 (nI 1) b0))), (mst, .inl (cs 5, 2, .inr (.inr (.inr (.inr fst))))), (st0, .inl (cs 0, 96048, .inl (cpF freshS q0 48))), (mtb, .inl (cs 5, 2, .inr (.inr (.inr (.inr ftb))))), (tb0, .inl (cs 0, 8192, .inl (upd (fun _ => nI 0) 965 (nI 1)))), (mti, .inl (cs 6, 2, .inr (.inr (.inr (.inr fti))))), (ti0, .inl (cs 1, 2001, .inr (.inl (vp_updL u0 0 (lN (ww * 7))))))]) (xV (As := [.int (nI 2), .int (nI 5)]) (rest := []) C (c_X12_isSample_x l D cs hm ms mkp mtr mas mso mon mot man mst msm mtb mti mfr mbn mbs mde maa mab mba mbb 2 5 (by decide) (by decide)) kX12_139 hP hD [10] rfl (by decide +kernel) 0 rfl rfl rfl ⟨Nat.le_of_ble_eq_true rfl, Nat.le_of_ble_eq_true rfl⟩ rfl hl.1 rfl (Nat.le_of_ble_eq_true rfl) dX12_spreads_28 ⟨Nat.le_of_ble_eq_true rfl, Nat.le_of_ble_eq_true rfl⟩) hP hD hS hA [10] [0, 1, 2, 3, 4, 5, 6, 7, 8, 9] rfl rfl (by decide +kernel) (by decide +kernel) ?_
  clear hP hD hS
  try clear locs
  try clear H
  intro r_117 u_118 H locs hw_r_117 hP hD hS
  have hw_r_117 : r_117 = smB 2 5 := hw_r_117
  refine W.widen (k := 0) (n := 0) (Nat.le_of_ble_eq_true rfl) (Nat.le_of_ble_eq_true rfl) ?_
  replace hP : va_P D vwCl [(ti1, .inl (cs 1, 2001, .inr (.inl u1))), (st1, .inl (cs 0, 96048, .inl q1)), (ms, .inl (cs 0, 288, .inl freshS)), (msm, .inl (cs 0, 2, .inl (smF2 (nI 1) b0))), (mst, .inl (cs 5, 2, .inr (.inr (.inr (.inr fst))))), (st0, .inl (cs 0, 96048, .inl (cpF freshS q0 48))), (mtb, .inl (cs 5, 2, .inr (.inr (.inr (.inr ftb))))), (tb0, .inl (cs 0, 8192, .inl (upd (fun _ => nI 0) 965 (nI 1)))), (mti, .inl (cs 6, 2, .inr (.inr (.inr (.inr fti))))), (ti0, .inl (cs 1, 2001, .inr (.inl (vp_updL u0 0 (lN (ww * 7)))))), (hm, .inr (12, [.ref ms, .ref mkp, .int (nI 0), .ref mtr, .int (nI 4), .int (nI 2), .int (nI 2), .int (nI 3), .int (nI 2), .int (nI 1), .ref mas, .int (nI 0), .int (nI 0), .int (nI 0), .ref mso, .ref mon, .ref mot, .ref man, .int (nI 0), .int (nI 0), .ref mst, .ref msm, .ref mtb, .ref mti, .ref mfr, .ref mbn, .ref mbs, .ref mde, .int (nI 0), .int (nI 0), .int (nI 0), .int (nI 0), .long 0, .long 0, .ref maa, .ref mab, .ref mba, .ref mbb]))] H := hP
  replace hD : va_D A [(ti1, .inl (cs 1, 2001, .inr (.inl u1))), (st1, .inl (cs 0, 96048, .inl q1)), (ms, .inl (cs 0, 288, .inl freshS)), (msm, .inl (cs 0, 2, .inl (smF2 (nI 1) b0))), (mst, .inl (cs 5, 2, .inr (.inr (.inr (.inr fst))))), (st0, .inl (cs 0, 96048, .inl (cpF freshS q0 48))), (mtb, .inl (cs 5, 2, .inr (.inr (.inr (.inr ftb))))), (tb0, .inl (cs 0, 8192, .inl (upd (fun _ => nI 0) 965 (nI 1)))), (mti, .inl (cs 6, 2, .inr (.inr (.inr (.inr fti))))), (ti0, .inl (cs 1, 2001, .inr (.inl (vp_updL u0 0 (lN (ww * 7)))))), (hm, .inr (12, [.ref ms, .ref mkp, .int (nI 0), .ref mtr, .int (nI 4), .int (nI 2), .int (nI 2), .int (nI 3), .int (nI 2), .int (nI 1), .ref mas, .int (nI 0), .int (nI 0), .int (nI 0), .ref mso, .ref mon, .ref mot, .ref man, .int (nI 0), .int (nI 0), .ref mst, .ref msm, .ref mtb, .ref mti, .ref mfr, .ref mbn, .ref mbs, .ref mde, .int (nI 0), .int (nI 0), .int (nI 0), .int (nI 0), .long 0, .long 0, .ref maa, .ref mab, .ref mba, .ref mbb]))] := hD
  obtain rfl : r_117 = nI 0 := by rw [hw_r_117]; decide +kernel
  refine lv_if_ne (tgt := 37) hx hb dX12_spreads_31 (by decide) (fun c => absurd (by decide) c) (fun _ => ?_)
  refine lv_goto (tgt := 108) hx hb dX12_spreads_34 (by decide) ?_
  refine lv_iinc (v := nI 6) (lv' := [(4, .int (nI 6)), (5, .int (nI 0)), (3, .int (nI 2)), (0, .ref hm), (1, .int (nI 1)), (2, .int (nI 0))]) hx hb dX12_spreads_108 hl (k := 0) rfl (by decide) (by decide) rfl ?_
  clear hl
  try clear ls
  intro ls hl
  refine lv_goto (tgt := 13) hx hb dX12_spreads_111 (by decide) ?_
  refine lv_iload hx hb dX12_spreads_13 (lv_at hl 0 rfl) ?_
  refine lv_iconst (v := nI 1) hx hb dX12_spreads_15 (by decide) ?_
  refine lv_aload_n hx hb dX12_spreads_16 rfl (lv_at hl 3 rfl) ?_
  refine xget C hP 10 rfl rfl zuX12 4 (by decide) zw5_217 rfl dX12_spreads_17 ?_
  refine lv_ishl hx hb dX12_spreads_20 ?_
  refine lv_topi (nm_r (e' := nI 16) (by decide) ?_)
  refine lv_icmp_ge (tgt := 114) hx hb dX12_spreads_21 (by decide) (fun c => absurd c (by decide)) (fun _ => ?_)
  refine lv_aload_n hx hb dX12_spreads_24 rfl (lv_at hl 3 rfl) ?_
  refine lv_iload_n hx hb dX12_spreads_25 rfl (lv_at hl 2 rfl) ?_
  refine lv_iload hx hb dX12_spreads_26 (lv_at hl 0 rfl) ?_
  refine xi (wr := [(ti1, .inl (cs 1, 2001, .inr (.inl u1))), (st1, .inl (cs 0, 96048, .inl q1)), (ms, .inl (cs 0, 288, .inl freshS)), (msm, .inl (cs 0, 2, .inl (smF2 (nI 1) b0))), (mst, .inl (cs 5, 2, .inr (.inr (.inr (.inr fst))))), (st0, .inl (cs 0, 96048, .inl (cpF freshS q0 48))), (mtb, .inl (cs 5, 2, .inr (.inr (.inr (.inr ftb))))), (tb0, .inl (cs 0, 8192, .inl (upd (fun _ => nI 0) 965 (nI 1)))), (mti, .inl (cs 6, 2, .inr (.inr (.inr (.inr fti))))), (ti0, .inl (cs 1, 2001, .inr (.inl (vp_updL u0 0 (lN (ww * 7))))))]) (xV (As := [.int (nI 2), .int (nI 6)]) (rest := []) C (c_X12_isSample_x l D cs hm ms mkp mtr mas mso mon mot man mst msm mtb mti mfr mbn mbs mde maa mab mba mbb 2 6 (by decide) (by decide)) kX12_139 hP hD [10] rfl (by decide +kernel) 0 rfl rfl rfl ⟨Nat.le_of_ble_eq_true rfl, Nat.le_of_ble_eq_true rfl⟩ rfl hl.1 rfl (Nat.le_of_ble_eq_true rfl) dX12_spreads_28 ⟨Nat.le_of_ble_eq_true rfl, Nat.le_of_ble_eq_true rfl⟩) hP hD hS hA [10] [0, 1, 2, 3, 4, 5, 6, 7, 8, 9] rfl rfl (by decide +kernel) (by decide +kernel) ?_
  clear hP hD hS
  try clear locs
  try clear H
  intro r_119 u_120 H locs hw_r_119 hP hD hS
  have hw_r_119 : r_119 = smB 2 6 := hw_r_119
  refine W.widen (k := 0) (n := 0) (Nat.le_of_ble_eq_true rfl) (Nat.le_of_ble_eq_true rfl) ?_
  replace hP : va_P D vwCl [(ti1, .inl (cs 1, 2001, .inr (.inl u1))), (st1, .inl (cs 0, 96048, .inl q1)), (ms, .inl (cs 0, 288, .inl freshS)), (msm, .inl (cs 0, 2, .inl (smF2 (nI 1) b0))), (mst, .inl (cs 5, 2, .inr (.inr (.inr (.inr fst))))), (st0, .inl (cs 0, 96048, .inl (cpF freshS q0 48))), (mtb, .inl (cs 5, 2, .inr (.inr (.inr (.inr ftb))))), (tb0, .inl (cs 0, 8192, .inl (upd (fun _ => nI 0) 965 (nI 1)))), (mti, .inl (cs 6, 2, .inr (.inr (.inr (.inr fti))))), (ti0, .inl (cs 1, 2001, .inr (.inl (vp_updL u0 0 (lN (ww * 7)))))), (hm, .inr (12, [.ref ms, .ref mkp, .int (nI 0), .ref mtr, .int (nI 4), .int (nI 2), .int (nI 2), .int (nI 3), .int (nI 2), .int (nI 1), .ref mas, .int (nI 0), .int (nI 0), .int (nI 0), .ref mso, .ref mon, .ref mot, .ref man, .int (nI 0), .int (nI 0), .ref mst, .ref msm, .ref mtb, .ref mti, .ref mfr, .ref mbn, .ref mbs, .ref mde, .int (nI 0), .int (nI 0), .int (nI 0), .int (nI 0), .long 0, .long 0, .ref maa, .ref mab, .ref mba, .ref mbb]))] H := hP
  replace hD : va_D A [(ti1, .inl (cs 1, 2001, .inr (.inl u1))), (st1, .inl (cs 0, 96048, .inl q1)), (ms, .inl (cs 0, 288, .inl freshS)), (msm, .inl (cs 0, 2, .inl (smF2 (nI 1) b0))), (mst, .inl (cs 5, 2, .inr (.inr (.inr (.inr fst))))), (st0, .inl (cs 0, 96048, .inl (cpF freshS q0 48))), (mtb, .inl (cs 5, 2, .inr (.inr (.inr (.inr ftb))))), (tb0, .inl (cs 0, 8192, .inl (upd (fun _ => nI 0) 965 (nI 1)))), (mti, .inl (cs 6, 2, .inr (.inr (.inr (.inr fti))))), (ti0, .inl (cs 1, 2001, .inr (.inl (vp_updL u0 0 (lN (ww * 7)))))), (hm, .inr (12, [.ref ms, .ref mkp, .int (nI 0), .ref mtr, .int (nI 4), .int (nI 2), .int (nI 2), .int (nI 3), .int (nI 2), .int (nI 1), .ref mas, .int (nI 0), .int (nI 0), .int (nI 0), .ref mso, .ref mon, .ref mot, .ref man, .int (nI 0), .int (nI 0), .ref mst, .ref msm, .ref mtb, .ref mti, .ref mfr, .ref mbn, .ref mbs, .ref mde, .int (nI 0), .int (nI 0), .int (nI 0), .int (nI 0), .long 0, .long 0, .ref maa, .ref mab, .ref mba, .ref mbb]))] := hD
  obtain rfl : r_119 = nI 0 := by rw [hw_r_119]; decide +kernel
  refine lv_if_ne (tgt := 37) hx hb dX12_spreads_31 (by decide) (fun c => absurd (by decide) c) (fun _ => ?_)
  refine lv_goto (tgt := 108) hx hb dX12_spreads_34 (by decide) ?_
  refine lv_iinc (v := nI 7) (lv' := [(4, .int (nI 7)), (5, .int (nI 0)), (3, .int (nI 2)), (0, .ref hm), (1, .int (nI 1)), (2, .int (nI 0))]) hx hb dX12_spreads_108 hl (k := 0) rfl (by decide) (by decide) rfl ?_
  clear hl
  try clear ls
  intro ls hl
  refine lv_goto (tgt := 13) hx hb dX12_spreads_111 (by decide) ?_
  refine lv_iload hx hb dX12_spreads_13 (lv_at hl 0 rfl) ?_
  refine lv_iconst (v := nI 1) hx hb dX12_spreads_15 (by decide) ?_
  refine lv_aload_n hx hb dX12_spreads_16 rfl (lv_at hl 3 rfl) ?_
  refine xget C hP 10 rfl rfl zuX12 4 (by decide) zw5_217 rfl dX12_spreads_17 ?_
  refine lv_ishl hx hb dX12_spreads_20 ?_
  refine lv_topi (nm_r (e' := nI 16) (by decide) ?_)
  refine lv_icmp_ge (tgt := 114) hx hb dX12_spreads_21 (by decide) (fun c => absurd c (by decide)) (fun _ => ?_)
  refine lv_aload_n hx hb dX12_spreads_24 rfl (lv_at hl 3 rfl) ?_
  refine lv_iload_n hx hb dX12_spreads_25 rfl (lv_at hl 2 rfl) ?_
  refine lv_iload hx hb dX12_spreads_26 (lv_at hl 0 rfl) ?_
  refine xi (wr := [(ti1, .inl (cs 1, 2001, .inr (.inl u1))), (st1, .inl (cs 0, 96048, .inl q1)), (ms, .inl (cs 0, 288, .inl freshS)), (msm, .inl (cs 0, 2, .inl (smF2 (nI 1) b0))), (mst, .inl (cs 5, 2, .inr (.inr (.inr (.inr fst))))), (st0, .inl (cs 0, 96048, .inl (cpF freshS q0 48))), (mtb, .inl (cs 5, 2, .inr (.inr (.inr (.inr ftb))))), (tb0, .inl (cs 0, 8192, .inl (upd (fun _ => nI 0) 965 (nI 1)))), (mti, .inl (cs 6, 2, .inr (.inr (.inr (.inr fti))))), (ti0, .inl (cs 1, 2001, .inr (.inl (vp_updL u0 0 (lN (ww * 7))))))]) (xV (As := [.int (nI 2), .int (nI 7)]) (rest := []) C (c_X12_isSample_x l D cs hm ms mkp mtr mas mso mon mot man mst msm mtb mti mfr mbn mbs mde maa mab mba mbb 2 7 (by decide) (by decide)) kX12_139 hP hD [10] rfl (by decide +kernel) 0 rfl rfl rfl ⟨Nat.le_of_ble_eq_true rfl, Nat.le_of_ble_eq_true rfl⟩ rfl hl.1 rfl (Nat.le_of_ble_eq_true rfl) dX12_spreads_28 ⟨Nat.le_of_ble_eq_true rfl, Nat.le_of_ble_eq_true rfl⟩) hP hD hS hA [10] [0, 1, 2, 3, 4, 5, 6, 7, 8, 9] rfl rfl (by decide +kernel) (by decide +kernel) ?_
  clear hP hD hS
  try clear locs
  try clear H
  intro r_121 u_122 H locs hw_r_121 hP hD hS
  have hw_r_121 : r_121 = smB 2 7 := hw_r_121
  refine W.widen (k := 0) (n := 0) (Nat.le_of_ble_eq_true rfl) (Nat.le_of_ble_eq_true rfl) ?_
  replace hP : va_P D vwCl [(ti1, .inl (cs 1, 2001, .inr (.inl u1))), (st1, .inl (cs 0, 96048, .inl q1)), (ms, .inl (cs 0, 288, .inl freshS)), (msm, .inl (cs 0, 2, .inl (smF2 (nI 1) b0))), (mst, .inl (cs 5, 2, .inr (.inr (.inr (.inr fst))))), (st0, .inl (cs 0, 96048, .inl (cpF freshS q0 48))), (mtb, .inl (cs 5, 2, .inr (.inr (.inr (.inr ftb))))), (tb0, .inl (cs 0, 8192, .inl (upd (fun _ => nI 0) 965 (nI 1)))), (mti, .inl (cs 6, 2, .inr (.inr (.inr (.inr fti))))), (ti0, .inl (cs 1, 2001, .inr (.inl (vp_updL u0 0 (lN (ww * 7)))))), (hm, .inr (12, [.ref ms, .ref mkp, .int (nI 0), .ref mtr, .int (nI 4), .int (nI 2), .int (nI 2), .int (nI 3), .int (nI 2), .int (nI 1), .ref mas, .int (nI 0), .int (nI 0), .int (nI 0), .ref mso, .ref mon, .ref mot, .ref man, .int (nI 0), .int (nI 0), .ref mst, .ref msm, .ref mtb, .ref mti, .ref mfr, .ref mbn, .ref mbs, .ref mde, .int (nI 0), .int (nI 0), .int (nI 0), .int (nI 0), .long 0, .long 0, .ref maa, .ref mab, .ref mba, .ref mbb]))] H := hP
  replace hD : va_D A [(ti1, .inl (cs 1, 2001, .inr (.inl u1))), (st1, .inl (cs 0, 96048, .inl q1)), (ms, .inl (cs 0, 288, .inl freshS)), (msm, .inl (cs 0, 2, .inl (smF2 (nI 1) b0))), (mst, .inl (cs 5, 2, .inr (.inr (.inr (.inr fst))))), (st0, .inl (cs 0, 96048, .inl (cpF freshS q0 48))), (mtb, .inl (cs 5, 2, .inr (.inr (.inr (.inr ftb))))), (tb0, .inl (cs 0, 8192, .inl (upd (fun _ => nI 0) 965 (nI 1)))), (mti, .inl (cs 6, 2, .inr (.inr (.inr (.inr fti))))), (ti0, .inl (cs 1, 2001, .inr (.inl (vp_updL u0 0 (lN (ww * 7)))))), (hm, .inr (12, [.ref ms, .ref mkp, .int (nI 0), .ref mtr, .int (nI 4), .int (nI 2), .int (nI 2), .int (nI 3), .int (nI 2), .int (nI 1), .ref mas, .int (nI 0), .int (nI 0), .int (nI 0), .ref mso, .ref mon, .ref mot, .ref man, .int (nI 0), .int (nI 0), .ref mst, .ref msm, .ref mtb, .ref mti, .ref mfr, .ref mbn, .ref mbs, .ref mde, .int (nI 0), .int (nI 0), .int (nI 0), .int (nI 0), .long 0, .long 0, .ref maa, .ref mab, .ref mba, .ref mbb]))] := hD
  obtain rfl : r_121 = nI 0 := by rw [hw_r_121]; decide +kernel
  refine lv_if_ne (tgt := 37) hx hb dX12_spreads_31 (by decide) (fun c => absurd (by decide) c) (fun _ => ?_)
  refine lv_goto (tgt := 108) hx hb dX12_spreads_34 (by decide) ?_
  refine lv_iinc (v := nI 8) (lv' := [(4, .int (nI 8)), (5, .int (nI 0)), (3, .int (nI 2)), (0, .ref hm), (1, .int (nI 1)), (2, .int (nI 0))]) hx hb dX12_spreads_108 hl (k := 0) rfl (by decide) (by decide) rfl ?_
  clear hl
  try clear ls
  intro ls hl
  refine lv_goto (tgt := 13) hx hb dX12_spreads_111 (by decide) ?_
  refine lv_iload hx hb dX12_spreads_13 (lv_at hl 0 rfl) ?_
  refine lv_iconst (v := nI 1) hx hb dX12_spreads_15 (by decide) ?_
  refine lv_aload_n hx hb dX12_spreads_16 rfl (lv_at hl 3 rfl) ?_
  refine xget C hP 10 rfl rfl zuX12 4 (by decide) zw5_217 rfl dX12_spreads_17 ?_
  refine lv_ishl hx hb dX12_spreads_20 ?_
  refine lv_topi (nm_r (e' := nI 16) (by decide) ?_)
  refine lv_icmp_ge (tgt := 114) hx hb dX12_spreads_21 (by decide) (fun c => absurd c (by decide)) (fun _ => ?_)
  refine lv_aload_n hx hb dX12_spreads_24 rfl (lv_at hl 3 rfl) ?_
  refine lv_iload_n hx hb dX12_spreads_25 rfl (lv_at hl 2 rfl) ?_
  refine lv_iload hx hb dX12_spreads_26 (lv_at hl 0 rfl) ?_
  refine xi (wr := [(ti1, .inl (cs 1, 2001, .inr (.inl u1))), (st1, .inl (cs 0, 96048, .inl q1)), (ms, .inl (cs 0, 288, .inl freshS)), (msm, .inl (cs 0, 2, .inl (smF2 (nI 1) b0))), (mst, .inl (cs 5, 2, .inr (.inr (.inr (.inr fst))))), (st0, .inl (cs 0, 96048, .inl (cpF freshS q0 48))), (mtb, .inl (cs 5, 2, .inr (.inr (.inr (.inr ftb))))), (tb0, .inl (cs 0, 8192, .inl (upd (fun _ => nI 0) 965 (nI 1)))), (mti, .inl (cs 6, 2, .inr (.inr (.inr (.inr fti))))), (ti0, .inl (cs 1, 2001, .inr (.inl (vp_updL u0 0 (lN (ww * 7))))))]) (xV (As := [.int (nI 2), .int (nI 8)]) (rest := []) C (c_X12_isSample_x l D cs hm ms mkp mtr mas mso mon mot man mst msm mtb mti mfr mbn mbs mde maa mab mba mbb 2 8 (by decide) (by decide)) kX12_139 hP hD [10] rfl (by decide +kernel) 0 rfl rfl rfl ⟨Nat.le_of_ble_eq_true rfl, Nat.le_of_ble_eq_true rfl⟩ rfl hl.1 rfl (Nat.le_of_ble_eq_true rfl) dX12_spreads_28 ⟨Nat.le_of_ble_eq_true rfl, Nat.le_of_ble_eq_true rfl⟩) hP hD hS hA [10] [0, 1, 2, 3, 4, 5, 6, 7, 8, 9] rfl rfl (by decide +kernel) (by decide +kernel) ?_
  clear hP hD hS
  try clear locs
  try clear H
  intro r_123 u_124 H locs hw_r_123 hP hD hS
  have hw_r_123 : r_123 = smB 2 8 := hw_r_123
  refine W.widen (k := 0) (n := 0) (Nat.le_of_ble_eq_true rfl) (Nat.le_of_ble_eq_true rfl) ?_
  replace hP : va_P D vwCl [(ti1, .inl (cs 1, 2001, .inr (.inl u1))), (st1, .inl (cs 0, 96048, .inl q1)), (ms, .inl (cs 0, 288, .inl freshS)), (msm, .inl (cs 0, 2, .inl (smF2 (nI 1) b0))), (mst, .inl (cs 5, 2, .inr (.inr (.inr (.inr fst))))), (st0, .inl (cs 0, 96048, .inl (cpF freshS q0 48))), (mtb, .inl (cs 5, 2, .inr (.inr (.inr (.inr ftb))))), (tb0, .inl (cs 0, 8192, .inl (upd (fun _ => nI 0) 965 (nI 1)))), (mti, .inl (cs 6, 2, .inr (.inr (.inr (.inr fti))))), (ti0, .inl (cs 1, 2001, .inr (.inl (vp_updL u0 0 (lN (ww * 7)))))), (hm, .inr (12, [.ref ms, .ref mkp, .int (nI 0), .ref mtr, .int (nI 4), .int (nI 2), .int (nI 2), .int (nI 3), .int (nI 2), .int (nI 1), .ref mas, .int (nI 0), .int (nI 0), .int (nI 0), .ref mso, .ref mon, .ref mot, .ref man, .int (nI 0), .int (nI 0), .ref mst, .ref msm, .ref mtb, .ref mti, .ref mfr, .ref mbn, .ref mbs, .ref mde, .int (nI 0), .int (nI 0), .int (nI 0), .int (nI 0), .long 0, .long 0, .ref maa, .ref mab, .ref mba, .ref mbb]))] H := hP
  replace hD : va_D A [(ti1, .inl (cs 1, 2001, .inr (.inl u1))), (st1, .inl (cs 0, 96048, .inl q1)), (ms, .inl (cs 0, 288, .inl freshS)), (msm, .inl (cs 0, 2, .inl (smF2 (nI 1) b0))), (mst, .inl (cs 5, 2, .inr (.inr (.inr (.inr fst))))), (st0, .inl (cs 0, 96048, .inl (cpF freshS q0 48))), (mtb, .inl (cs 5, 2, .inr (.inr (.inr (.inr ftb))))), (tb0, .inl (cs 0, 8192, .inl (upd (fun _ => nI 0) 965 (nI 1)))), (mti, .inl (cs 6, 2, .inr (.inr (.inr (.inr fti))))), (ti0, .inl (cs 1, 2001, .inr (.inl (vp_updL u0 0 (lN (ww * 7)))))), (hm, .inr (12, [.ref ms, .ref mkp, .int (nI 0), .ref mtr, .int (nI 4), .int (nI 2), .int (nI 2), .int (nI 3), .int (nI 2), .int (nI 1), .ref mas, .int (nI 0), .int (nI 0), .int (nI 0), .ref mso, .ref mon, .ref mot, .ref man, .int (nI 0), .int (nI 0), .ref mst, .ref msm, .ref mtb, .ref mti, .ref mfr, .ref mbn, .ref mbs, .ref mde, .int (nI 0), .int (nI 0), .int (nI 0), .int (nI 0), .long 0, .long 0, .ref maa, .ref mab, .ref mba, .ref mbb]))] := hD
  obtain rfl : r_123 = nI 0 := by rw [hw_r_123]; decide +kernel
  refine lv_if_ne (tgt := 37) hx hb dX12_spreads_31 (by decide) (fun c => absurd (by decide) c) (fun _ => ?_)
  refine lv_goto (tgt := 108) hx hb dX12_spreads_34 (by decide) ?_
  refine lv_iinc (v := nI 9) (lv' := [(4, .int (nI 9)), (5, .int (nI 0)), (3, .int (nI 2)), (0, .ref hm), (1, .int (nI 1)), (2, .int (nI 0))]) hx hb dX12_spreads_108 hl (k := 0) rfl (by decide) (by decide) rfl ?_
  clear hl
  try clear ls
  intro ls hl
  refine lv_goto (tgt := 13) hx hb dX12_spreads_111 (by decide) ?_
  refine lv_iload hx hb dX12_spreads_13 (lv_at hl 0 rfl) ?_
  refine lv_iconst (v := nI 1) hx hb dX12_spreads_15 (by decide) ?_
  refine lv_aload_n hx hb dX12_spreads_16 rfl (lv_at hl 3 rfl) ?_
  refine xget C hP 10 rfl rfl zuX12 4 (by decide) zw5_217 rfl dX12_spreads_17 ?_
  refine lv_ishl hx hb dX12_spreads_20 ?_
  refine lv_topi (nm_r (e' := nI 16) (by decide) ?_)
  refine lv_icmp_ge (tgt := 114) hx hb dX12_spreads_21 (by decide) (fun c => absurd c (by decide)) (fun _ => ?_)
  refine lv_aload_n hx hb dX12_spreads_24 rfl (lv_at hl 3 rfl) ?_
  refine lv_iload_n hx hb dX12_spreads_25 rfl (lv_at hl 2 rfl) ?_
  refine lv_iload hx hb dX12_spreads_26 (lv_at hl 0 rfl) ?_
  refine xi (wr := [(ti1, .inl (cs 1, 2001, .inr (.inl u1))), (st1, .inl (cs 0, 96048, .inl q1)), (ms, .inl (cs 0, 288, .inl freshS)), (msm, .inl (cs 0, 2, .inl (smF2 (nI 1) b0))), (mst, .inl (cs 5, 2, .inr (.inr (.inr (.inr fst))))), (st0, .inl (cs 0, 96048, .inl (cpF freshS q0 48))), (mtb, .inl (cs 5, 2, .inr (.inr (.inr (.inr ftb))))), (tb0, .inl (cs 0, 8192, .inl (upd (fun _ => nI 0) 965 (nI 1)))), (mti, .inl (cs 6, 2, .inr (.inr (.inr (.inr fti))))), (ti0, .inl (cs 1, 2001, .inr (.inl (vp_updL u0 0 (lN (ww * 7))))))]) (xV (As := [.int (nI 2), .int (nI 9)]) (rest := []) C (c_X12_isSample_x l D cs hm ms mkp mtr mas mso mon mot man mst msm mtb mti mfr mbn mbs mde maa mab mba mbb 2 9 (by decide) (by decide)) kX12_139 hP hD [10] rfl (by decide +kernel) 0 rfl rfl rfl ⟨Nat.le_of_ble_eq_true rfl, Nat.le_of_ble_eq_true rfl⟩ rfl hl.1 rfl (Nat.le_of_ble_eq_true rfl) dX12_spreads_28 ⟨Nat.le_of_ble_eq_true rfl, Nat.le_of_ble_eq_true rfl⟩) hP hD hS hA [10] [0, 1, 2, 3, 4, 5, 6, 7, 8, 9] rfl rfl (by decide +kernel) (by decide +kernel) ?_
  clear hP hD hS
  try clear locs
  try clear H
  intro r_125 u_126 H locs hw_r_125 hP hD hS
  have hw_r_125 : r_125 = smB 2 9 := hw_r_125
  refine W.widen (k := 0) (n := 0) (Nat.le_of_ble_eq_true rfl) (Nat.le_of_ble_eq_true rfl) ?_
  replace hP : va_P D vwCl [(ti1, .inl (cs 1, 2001, .inr (.inl u1))), (st1, .inl (cs 0, 96048, .inl q1)), (ms, .inl (cs 0, 288, .inl freshS)), (msm, .inl (cs 0, 2, .inl (smF2 (nI 1) b0))), (mst, .inl (cs 5, 2, .inr (.inr (.inr (.inr fst))))), (st0, .inl (cs 0, 96048, .inl (cpF freshS q0 48))), (mtb, .inl (cs 5, 2, .inr (.inr (.inr (.inr ftb))))), (tb0, .inl (cs 0, 8192, .inl (upd (fun _ => nI 0) 965 (nI 1)))), (mti, .inl (cs 6, 2, .inr (.inr (.inr (.inr fti))))), (ti0, .inl (cs 1, 2001, .inr (.inl (vp_updL u0 0 (lN (ww * 7)))))), (hm, .inr (12, [.ref ms, .ref mkp, .int (nI 0), .ref mtr, .int (nI 4), .int (nI 2), .int (nI 2), .int (nI 3), .int (nI 2), .int (nI 1), .ref mas, .int (nI 0), .int (nI 0), .int (nI 0), .ref mso, .ref mon, .ref mot, .ref man, .int (nI 0), .int (nI 0), .ref mst, .ref msm, .ref mtb, .ref mti, .ref mfr, .ref mbn, .ref mbs, .ref mde, .int (nI 0), .int (nI 0), .int (nI 0), .int (nI 0), .long 0, .long 0, .ref maa, .ref mab, .ref mba, .ref mbb]))] H := hP
  replace hD : va_D A [(ti1, .inl (cs 1, 2001, .inr (.inl u1))), (st1, .inl (cs 0, 96048, .inl q1)), (ms, .inl (cs 0, 288, .inl freshS)), (msm, .inl (cs 0, 2, .inl (smF2 (nI 1) b0))), (mst, .inl (cs 5, 2, .inr (.inr (.inr (.inr fst))))), (st0, .inl (cs 0, 96048, .inl (cpF freshS q0 48))), (mtb, .inl (cs 5, 2, .inr (.inr (.inr (.inr ftb))))), (tb0, .inl (cs 0, 8192, .inl (upd (fun _ => nI 0) 965 (nI 1)))), (mti, .inl (cs 6, 2, .inr (.inr (.inr (.inr fti))))), (ti0, .inl (cs 1, 2001, .inr (.inl (vp_updL u0 0 (lN (ww * 7)))))), (hm, .inr (12, [.ref ms, .ref mkp, .int (nI 0), .ref mtr, .int (nI 4), .int (nI 2), .int (nI 2), .int (nI 3), .int (nI 2), .int (nI 1), .ref mas, .int (nI 0), .int (nI 0), .int (nI 0), .ref mso, .ref mon, .ref mot, .ref man, .int (nI 0), .int (nI 0), .ref mst, .ref msm, .ref mtb, .ref mti, .ref mfr, .ref mbn, .ref mbs, .ref mde, .int (nI 0), .int (nI 0), .int (nI 0), .int (nI 0), .long 0, .long 0, .ref maa, .ref mab, .ref mba, .ref mbb]))] := hD
  obtain rfl : r_125 = nI 1 := by rw [hw_r_125]; decide +kernel
  refine lv_if_ne (tgt := 37) hx hb dX12_spreads_31 (by decide) (fun _ => ?_) (fun c => absurd c (by decide))
  refine lv_aload_n hx hb dX12_spreads_37 rfl (lv_at hl 3 rfl) ?_
  refine lv_iload_n hx hb dX12_spreads_38 rfl (lv_at hl 4 rfl) ?_
  refine lv_iload_n hx hb dX12_spreads_39 rfl (lv_at hl 5 rfl) ?_
  refine xv (wr := [(ti1, .inl (cs 1, 2001, .inr (.inl u1))), (msm, .inl (cs 0, 2, .inl (smF2 (nI 1) b0))), (st0, .inl (cs 0, 96048, .inl (cpF freshS q0 48))), (mtb, .inl (cs 5, 2, .inr (.inr (.inr (.inr ftb))))), (tb0, .inl (cs 0, 8192, .inl (upd (fun _ => nI 0) 965 (nI 1)))), (mti, .inl (cs 6, 2, .inr (.inr (.inr (.inr fti))))), (ti0, .inl (cs 1, 2001, .inr (.inl (vp_updL u0 0 (lN (ww * 7))))))]) (xV (As := [.int (nI 1), .int (nI 0)]) (rest := []) C (c_X12_brings_1 l D cs hm ms mkp mtr mas mso mon mot man mst msm mtb mti mfr mbn mbs mde maa mab mba mbb st1 fst q1 hf1 hq) kX12_203 hP hD [10, 2, 4, 1] rfl (by decide +kernel) 0 rfl rfl rfl ⟨Nat.le_of_ble_eq_true rfl, Nat.le_of_ble_eq_true rfl⟩ rfl hl.1 rfl (Nat.le_of_ble_eq_true rfl) dX12_spreads_40 ⟨Nat.le_of_ble_eq_true rfl, Nat.le_of_ble_eq_true rfl⟩) hP hD hS hA [10, 2, 4, 1] [0, 3, 5, 6, 7, 8, 9] rfl rfl (by decide +kernel) (by decide +kernel) ?_
  clear hP hD hS
  try clear locs
  try clear H
  intro u_128 H locs hw_r_127 hP hD hS
  refine W.widen (k := 0) (n := 0) (Nat.le_of_ble_eq_true rfl) (Nat.le_of_ble_eq_true rfl) ?_
  replace hP : va_P D vwCl [(ti1, .inl (cs 1, 2001, .inr (.inl u1))), (msm, .inl (cs 0, 2, .inl (smF2 (nI 1) b0))), (st0, .inl (cs 0, 96048, .inl (cpF freshS q0 48))), (mtb, .inl (cs 5, 2, .inr (.inr (.inr (.inr ftb))))), (tb0, .inl (cs 0, 8192, .inl (upd (fun _ => nI 0) 965 (nI 1)))), (mti, .inl (cs 6, 2, .inr (.inr (.inr (.inr fti))))), (ti0, .inl (cs 1, 2001, .inr (.inl (vp_updL u0 0 (lN (ww * 7)))))), (hm, .inr (12, [.ref ms, .ref mkp, .int (nI 0), .ref mtr, .int (nI 4), .int (nI 2), .int (nI 2), .int (nI 3), .int (nI 2), .int (nI 1), .ref mas, .int (nI 0), .int (nI 0), .int (nI 0), .ref mso, .ref mon, .ref mot, .ref man, .int (nI 0), .int (nI 0), .ref mst, .ref msm, .ref mtb, .ref mti, .ref mfr, .ref mbn, .ref mbs, .ref mde, .int (nI 0), .int (nI 0), .int (nI 0), .int (nI 0), .long 0, .long 0, .ref maa, .ref mab, .ref mba, .ref mbb])), (ms, .inl (cs 0, 288, .inl freshS)), (mst, .inl (cs 5, 2, .inr (.inr (.inr (.inr fst))))), (st1, .inl (cs 0, 96048, .inl q1))] H := hP
  replace hD : va_D A [(ti1, .inl (cs 1, 2001, .inr (.inl u1))), (msm, .inl (cs 0, 2, .inl (smF2 (nI 1) b0))), (st0, .inl (cs 0, 96048, .inl (cpF freshS q0 48))), (mtb, .inl (cs 5, 2, .inr (.inr (.inr (.inr ftb))))), (tb0, .inl (cs 0, 8192, .inl (upd (fun _ => nI 0) 965 (nI 1)))), (mti, .inl (cs 6, 2, .inr (.inr (.inr (.inr fti))))), (ti0, .inl (cs 1, 2001, .inr (.inl (vp_updL u0 0 (lN (ww * 7)))))), (hm, .inr (12, [.ref ms, .ref mkp, .int (nI 0), .ref mtr, .int (nI 4), .int (nI 2), .int (nI 2), .int (nI 3), .int (nI 2), .int (nI 1), .ref mas, .int (nI 0), .int (nI 0), .int (nI 0), .ref mso, .ref mon, .ref mot, .ref man, .int (nI 0), .int (nI 0), .ref mst, .ref msm, .ref mtb, .ref mti, .ref mfr, .ref mbn, .ref mbs, .ref mde, .int (nI 0), .int (nI 0), .int (nI 0), .int (nI 0), .long 0, .long 0, .ref maa, .ref mab, .ref mba, .ref mbb])), (ms, .inl (cs 0, 288, .inl freshS)), (mst, .inl (cs 5, 2, .inr (.inr (.inr (.inr fst))))), (st1, .inl (cs 0, 96048, .inl q1))] := hD
  refine lv_aload_n hx hb dX12_spreads_43 rfl (lv_at hl 3 rfl) ?_
  refine lv_iload_n hx hb dX12_spreads_44 rfl (lv_at hl 2 rfl) ?_
  refine xi (wr := [(ti1, .inl (cs 1, 2001, .inr (.inl u1))), (msm, .inl (cs 0, 2, .inl (smF2 (nI 1) b0))), (st0, .inl (cs 0, 96048, .inl (cpF freshS q0 48))), (mtb, .inl (cs 5, 2, .inr (.inr (.inr (.inr ftb))))), (tb0, .inl (cs 0, 8192, .inl (upd (fun _ => nI 0) 965 (nI 1)))), (mti, .inl (cs 6, 2, .inr (.inr (.inr (.inr fti))))), (ti0, .inl (cs 1, 2001, .inr (.inl (vp_updL u0 0 (lN (ww * 7)))))), (mst, .inl (cs 5, 2, .inr (.inr (.inr (.inr fst))))), (st1, .inl (cs 0, 96048, .inl q1))]) (xV (As := [.int (nI 2)]) (rest := []) C (c_X12_canAsk_z l D cs hm ms mkp mtr mas mso mon mot man mst msm mtb mti mfr mbn mbs mde maa mab mba mbb 2 (by decide)) kX12_142 hP hD [7, 8] rfl (by decide +kernel) 0 rfl rfl rfl ⟨Nat.le_of_ble_eq_true rfl, Nat.le_of_ble_eq_true rfl⟩ rfl hl.1 rfl (Nat.le_of_ble_eq_true rfl) dX12_spreads_45 ⟨Nat.le_of_ble_eq_true rfl, Nat.le_of_ble_eq_true rfl⟩) hP hD hS hA [7, 8] [0, 1, 2, 3, 4, 5, 6, 9, 10] rfl rfl (by decide +kernel) (by decide +kernel) ?_
  clear hP hD hS
  try clear locs
  try clear H
  intro r_129 u_130 H locs hw_r_129 hP hD hS
  have hw_r_129 : r_129 = nI 0 := hw_r_129
  refine W.widen (k := 0) (n := 0) (Nat.le_of_ble_eq_true rfl) (Nat.le_of_ble_eq_true rfl) ?_
  replace hP : va_P D vwCl [(ti1, .inl (cs 1, 2001, .inr (.inl u1))), (msm, .inl (cs 0, 2, .inl (smF2 (nI 1) b0))), (st0, .inl (cs 0, 96048, .inl (cpF freshS q0 48))), (mtb, .inl (cs 5, 2, .inr (.inr (.inr (.inr ftb))))), (tb0, .inl (cs 0, 8192, .inl (upd (fun _ => nI 0) 965 (nI 1)))), (mti, .inl (cs 6, 2, .inr (.inr (.inr (.inr fti))))), (ti0, .inl (cs 1, 2001, .inr (.inl (vp_updL u0 0 (lN (ww * 7)))))), (mst, .inl (cs 5, 2, .inr (.inr (.inr (.inr fst))))), (st1, .inl (cs 0, 96048, .inl q1)), (hm, .inr (12, [.ref ms, .ref mkp, .int (nI 0), .ref mtr, .int (nI 4), .int (nI 2), .int (nI 2), .int (nI 3), .int (nI 2), .int (nI 1), .ref mas, .int (nI 0), .int (nI 0), .int (nI 0), .ref mso, .ref mon, .ref mot, .ref man, .int (nI 0), .int (nI 0), .ref mst, .ref msm, .ref mtb, .ref mti, .ref mfr, .ref mbn, .ref mbs, .ref mde, .int (nI 0), .int (nI 0), .int (nI 0), .int (nI 0), .long 0, .long 0, .ref maa, .ref mab, .ref mba, .ref mbb])), (ms, .inl (cs 0, 288, .inl freshS))] H := hP
  replace hD : va_D A [(ti1, .inl (cs 1, 2001, .inr (.inl u1))), (msm, .inl (cs 0, 2, .inl (smF2 (nI 1) b0))), (st0, .inl (cs 0, 96048, .inl (cpF freshS q0 48))), (mtb, .inl (cs 5, 2, .inr (.inr (.inr (.inr ftb))))), (tb0, .inl (cs 0, 8192, .inl (upd (fun _ => nI 0) 965 (nI 1)))), (mti, .inl (cs 6, 2, .inr (.inr (.inr (.inr fti))))), (ti0, .inl (cs 1, 2001, .inr (.inl (vp_updL u0 0 (lN (ww * 7)))))), (mst, .inl (cs 5, 2, .inr (.inr (.inr (.inr fst))))), (st1, .inl (cs 0, 96048, .inl q1)), (hm, .inr (12, [.ref ms, .ref mkp, .int (nI 0), .ref mtr, .int (nI 4), .int (nI 2), .int (nI 2), .int (nI 3), .int (nI 2), .int (nI 1), .ref mas, .int (nI 0), .int (nI 0), .int (nI 0), .ref mso, .ref mon, .ref mot, .ref man, .int (nI 0), .int (nI 0), .ref mst, .ref msm, .ref mtb, .ref mti, .ref mfr, .ref mbn, .ref mbs, .ref mde, .int (nI 0), .int (nI 0), .int (nI 0), .int (nI 0), .long 0, .long 0, .ref maa, .ref mab, .ref mba, .ref mbb])), (ms, .inl (cs 0, 288, .inl freshS))] := hD
  subst hw_r_129
  refine lv_if_eq (tgt := 67) hx hb dX12_spreads_48 (by decide) (fun _ => ?_) (fun c => absurd (by decide) c)
  refine lv_aload_n hx hb dX12_spreads_67 rfl (lv_at hl 3 rfl) ?_
  refine lv_iconst (v := nI 1) hx hb dX12_spreads_68 (by decide) ?_
  refine lv_iload_n hx hb dX12_spreads_69 rfl (lv_at hl 4 rfl) ?_
  refine lv_isub hx hb dX12_spreads_70 ?_
  refine lv_topi (nm_r (e' := nI 0) (by decide) ?_)
  refine lv_sipush (v := nI 2000) hx hb dX12_spreads_71 (by decide) ?_
  refine xi (wr := [(ti1, .inl (cs 1, 2001, .inr (.inl u1))), (st1, .inl (cs 0, 96048, .inl q1))]) (xV (As := [.int (nI 0), .int (nI 2000)]) (rest := []) C (c_X12_numberOf_b0 l D cs hm ms mkp mtr mas mso mon mot man mst msm mtb mti mfr mbn mbs mde maa mab mba mbb st0 tb0 ti0 fst ftb fti (smF2 (nI 1) b0) (cpF freshS q0 48) (upd (fun _ => nI 0) 965 (nI 1)) (vp_updL u0 0 (lN (ww * 7))) hf0 hg ht0 (if_pos rfl) (fun j hj => cpF_lt hj)) kX12_197 hP hD [9, 10, 1, 7, 2, 3, 4, 5, 6] rfl (by decide +kernel) 0 rfl rfl rfl ⟨Nat.le_of_ble_eq_true rfl, Nat.le_of_ble_eq_true rfl⟩ rfl hl.1 rfl (Nat.le_of_ble_eq_true rfl) dX12_spreads_74 ⟨Nat.le_of_ble_eq_true rfl, Nat.le_of_ble_eq_true rfl⟩) hP hD hS hA [9, 10, 1, 7, 2, 3, 4, 5, 6] [0, 8] rfl rfl (by decide +kernel) (by decide +kernel) ?_
  clear hP hD hS
  try clear locs
  try clear H
  intro r_131 u_132 H locs hw_r_131 hP hD hS
  have hw_r_131 : r_131 = nI 0 := hw_r_131
  refine W.widen (k := 0) (n := 0) (Nat.le_of_ble_eq_true rfl) (Nat.le_of_ble_eq_true rfl) ?_
  replace hP : va_P D vwCl [(ti1, .inl (cs 1, 2001, .inr (.inl u1))), (st1, .inl (cs 0, 96048, .inl q1)), (hm, .inr (12, [.ref ms, .ref mkp, .int (nI 0), .ref mtr, .int (nI 4), .int (nI 2), .int (nI 2), .int (nI 3), .int (nI 2), .int (nI 1), .ref mas, .int (nI 0), .int (nI 0), .int (nI 0), .ref mso, .ref mon, .ref mot, .ref man, .int (nI 0), .int (nI 0), .ref mst, .ref msm, .ref mtb, .ref mti, .ref mfr, .ref mbn, .ref mbs, .ref mde, .int (nI 0), .int (nI 0), .int (nI 0), .int (nI 0), .long 0, .long 0, .ref maa, .ref mab, .ref mba, .ref mbb])), (ms, .inl (cs 0, 288, .inl freshS)), (msm, .inl (cs 0, 2, .inl (smF2 (nI 1) b0))), (mst, .inl (cs 5, 2, .inr (.inr (.inr (.inr fst))))), (st0, .inl (cs 0, 96048, .inl (cpF freshS q0 48))), (mtb, .inl (cs 5, 2, .inr (.inr (.inr (.inr ftb))))), (tb0, .inl (cs 0, 8192, .inl (upd (fun _ => nI 0) 965 (nI 1)))), (mti, .inl (cs 6, 2, .inr (.inr (.inr (.inr fti))))), (ti0, .inl (cs 1, 2001, .inr (.inl (vp_updL u0 0 (lN (ww * 7))))))] H := hP
  replace hD : va_D A [(ti1, .inl (cs 1, 2001, .inr (.inl u1))), (st1, .inl (cs 0, 96048, .inl q1)), (hm, .inr (12, [.ref ms, .ref mkp, .int (nI 0), .ref mtr, .int (nI 4), .int (nI 2), .int (nI 2), .int (nI 3), .int (nI 2), .int (nI 1), .ref mas, .int (nI 0), .int (nI 0), .int (nI 0), .ref mso, .ref mon, .ref mot, .ref man, .int (nI 0), .int (nI 0), .ref mst, .ref msm, .ref mtb, .ref mti, .ref mfr, .ref mbn, .ref mbs, .ref mde, .int (nI 0), .int (nI 0), .int (nI 0), .int (nI 0), .long 0, .long 0, .ref maa, .ref mab, .ref mba, .ref mbb])), (ms, .inl (cs 0, 288, .inl freshS)), (msm, .inl (cs 0, 2, .inl (smF2 (nI 1) b0))), (mst, .inl (cs 5, 2, .inr (.inr (.inr (.inr fst))))), (st0, .inl (cs 0, 96048, .inl (cpF freshS q0 48))), (mtb, .inl (cs 5, 2, .inr (.inr (.inr (.inr ftb))))), (tb0, .inl (cs 0, 8192, .inl (upd (fun _ => nI 0) 965 (nI 1)))), (mti, .inl (cs 6, 2, .inr (.inr (.inr (.inr fti))))), (ti0, .inl (cs 1, 2001, .inr (.inl (vp_updL u0 0 (lN (ww * 7))))))] := hD
  subst hw_r_131
  refine lv_istore (lv' := [(5, .int (nI 0)), (4, .int (nI 9)), (3, .int (nI 2)), (0, .ref hm), (1, .int (nI 1)), (2, .int (nI 0))]) hx hb dX12_spreads_77 hl (by decide) rfl ?_
  clear hl
  try clear ls
  intro ls hl
  refine lv_iload hx hb dX12_spreads_79 (lv_at hl 0 rfl) ?_
  refine lv_if_ge (tgt := 86) hx hb dX12_spreads_81 (by decide) (fun _ => ?_) (fun c => absurd (by decide) c)
  refine lv_aload_n hx hb dX12_spreads_86 rfl (lv_at hl 3 rfl) ?_
  refine xget C hP 2 rfl rfl zuX12 23 (by decide) zw5_236 rfl dX12_spreads_87 ?_
  refine lv_iconst (v := nI 1) hx hb dX12_spreads_90 (by decide) ?_
  refine lv_iload_n hx hb dX12_spreads_91 rfl (lv_at hl 4 rfl) ?_
  refine lv_isub hx hb dX12_spreads_92 ?_
  refine lv_topi (nm_r (e' := nI 0) (by decide) ?_)
  refine xaald C hP 9 6 rfl rfl rfl 0 rfl (by decide) (by decide) ht0 dX12_spreads_93 ?_
  refine lv_iload hx hb dX12_spreads_94 (lv_at hl 0 rfl) ?_
  refine lv_dup2_11 hx hb dX12_spreads_96 rfl rfl ?_
  refine xlald C hP 10 rfl 0 rfl (by decide) (by decide) dX12_spreads_97 ?_
  refine lv_topl (nm_r (e' := lN (ww * 7)) (upL_0 _ _) ?_)
  refine lv_aload_n hx hb dX12_spreads_98 rfl (lv_at hl 3 rfl) ?_
  refine xget C hP 2 rfl rfl zuX12 23 (by decide) zw5_236 rfl dX12_spreads_99 ?_
  refine lv_iload_n hx hb dX12_spreads_102 rfl (lv_at hl 4 rfl) ?_
  refine xaald C hP 9 6 rfl rfl rfl 1 rfl (by decide) (by decide) ht1 dX12_spreads_103 ?_
  refine lv_iload_n hx hb dX12_spreads_104 rfl (lv_at hl 5 rfl) ?_
  refine xlald C hP 0 rfl 0 rfl (by decide) (by decide) dX12_spreads_105 ?_
  refine lv_topl (nm_r (e' := lN ww) hw ?_)
  refine lv_ladd hx hb dX12_spreads_106 ?_
  refine lv_topl (nm_r (e' := lN (ww * 8)) (lN_a ww 7) ?_)
  refine xlast C hP hD hS 10 rfl 0 rfl (by decide) (by decide) dX12_spreads_107 ?_
  clear hP hD hS
  try clear locs
  try clear H
  intro H locs hP hD hS
  replace hP : va_P D vwCl [(ti1, .inl (cs 1, 2001, .inr (.inl u1))), (st1, .inl (cs 0, 96048, .inl q1)), (hm, .inr (12, [.ref ms, .ref mkp, .int (nI 0), .ref mtr, .int (nI 4), .int (nI 2), .int (nI 2), .int (nI 3), .int (nI 2), .int (nI 1), .ref mas, .int (nI 0), .int (nI 0), .int (nI 0), .ref mso, .ref mon, .ref mot, .ref man, .int (nI 0), .int (nI 0), .ref mst, .ref msm, .ref mtb, .ref mti, .ref mfr, .ref mbn, .ref mbs, .ref mde, .int (nI 0), .int (nI 0), .int (nI 0), .int (nI 0), .long 0, .long 0, .ref maa, .ref mab, .ref mba, .ref mbb])), (ms, .inl (cs 0, 288, .inl freshS)), (msm, .inl (cs 0, 2, .inl (smF2 (nI 1) b0))), (mst, .inl (cs 5, 2, .inr (.inr (.inr (.inr fst))))), (st0, .inl (cs 0, 96048, .inl (cpF freshS q0 48))), (mtb, .inl (cs 5, 2, .inr (.inr (.inr (.inr ftb))))), (tb0, .inl (cs 0, 8192, .inl (upd (fun _ => nI 0) 965 (nI 1)))), (mti, .inl (cs 6, 2, .inr (.inr (.inr (.inr fti))))), (ti0, .inl (cs 1, 2001, .inr (.inl (vp_updL (vp_updL u0 0 (lN (ww * 7))) 0 (lN (ww * 8))))))] H := hP
  replace hD : va_D A [(ti1, .inl (cs 1, 2001, .inr (.inl u1))), (st1, .inl (cs 0, 96048, .inl q1)), (hm, .inr (12, [.ref ms, .ref mkp, .int (nI 0), .ref mtr, .int (nI 4), .int (nI 2), .int (nI 2), .int (nI 3), .int (nI 2), .int (nI 1), .ref mas, .int (nI 0), .int (nI 0), .int (nI 0), .ref mso, .ref mon, .ref mot, .ref man, .int (nI 0), .int (nI 0), .ref mst, .ref msm, .ref mtb, .ref mti, .ref mfr, .ref mbn, .ref mbs, .ref mde, .int (nI 0), .int (nI 0), .int (nI 0), .int (nI 0), .long 0, .long 0, .ref maa, .ref mab, .ref mba, .ref mbb])), (ms, .inl (cs 0, 288, .inl freshS)), (msm, .inl (cs 0, 2, .inl (smF2 (nI 1) b0))), (mst, .inl (cs 5, 2, .inr (.inr (.inr (.inr fst))))), (st0, .inl (cs 0, 96048, .inl (cpF freshS q0 48))), (mtb, .inl (cs 5, 2, .inr (.inr (.inr (.inr ftb))))), (tb0, .inl (cs 0, 8192, .inl (upd (fun _ => nI 0) 965 (nI 1)))), (mti, .inl (cs 6, 2, .inr (.inr (.inr (.inr fti))))), (ti0, .inl (cs 1, 2001, .inr (.inl (vp_updL (vp_updL u0 0 (lN (ww * 7))) 0 (lN (ww * 8))))))] := hD
  have hPD := xcongl (q0 := 10) (vp_updL u0 0 (lN (ww * 8))) hP hD rfl (fun j hj => upL_1 u0 _ _ j)
  clear hP hD
  obtain ⟨hP, hD⟩ := hPD
  replace hP : va_P D vwCl [(ti1, .inl (cs 1, 2001, .inr (.inl u1))), (st1, .inl (cs 0, 96048, .inl q1)), (hm, .inr (12, [.ref ms, .ref mkp, .int (nI 0), .ref mtr, .int (nI 4), .int (nI 2), .int (nI 2), .int (nI 3), .int (nI 2), .int (nI 1), .ref mas, .int (nI 0), .int (nI 0), .int (nI 0), .ref mso, .ref mon, .ref mot, .ref man, .int (nI 0), .int (nI 0), .ref mst, .ref msm, .ref mtb, .ref mti, .ref mfr, .ref mbn, .ref mbs, .ref mde, .int (nI 0), .int (nI 0), .int (nI 0), .int (nI 0), .long 0, .long 0, .ref maa, .ref mab, .ref mba, .ref mbb])), (ms, .inl (cs 0, 288, .inl freshS)), (msm, .inl (cs 0, 2, .inl (smF2 (nI 1) b0))), (mst, .inl (cs 5, 2, .inr (.inr (.inr (.inr fst))))), (st0, .inl (cs 0, 96048, .inl (cpF freshS q0 48))), (mtb, .inl (cs 5, 2, .inr (.inr (.inr (.inr ftb))))), (tb0, .inl (cs 0, 8192, .inl (upd (fun _ => nI 0) 965 (nI 1)))), (mti, .inl (cs 6, 2, .inr (.inr (.inr (.inr fti))))), (ti0, .inl (cs 1, 2001, .inr (.inl (vp_updL u0 0 (lN (ww * 8))))))] H := hP
  replace hD : va_D A [(ti1, .inl (cs 1, 2001, .inr (.inl u1))), (st1, .inl (cs 0, 96048, .inl q1)), (hm, .inr (12, [.ref ms, .ref mkp, .int (nI 0), .ref mtr, .int (nI 4), .int (nI 2), .int (nI 2), .int (nI 3), .int (nI 2), .int (nI 1), .ref mas, .int (nI 0), .int (nI 0), .int (nI 0), .ref mso, .ref mon, .ref mot, .ref man, .int (nI 0), .int (nI 0), .ref mst, .ref msm, .ref mtb, .ref mti, .ref mfr, .ref mbn, .ref mbs, .ref mde, .int (nI 0), .int (nI 0), .int (nI 0), .int (nI 0), .long 0, .long 0, .ref maa, .ref mab, .ref mba, .ref mbb])), (ms, .inl (cs 0, 288, .inl freshS)), (msm, .inl (cs 0, 2, .inl (smF2 (nI 1) b0))), (mst, .inl (cs 5, 2, .inr (.inr (.inr (.inr fst))))), (st0, .inl (cs 0, 96048, .inl (cpF freshS q0 48))), (mtb, .inl (cs 5, 2, .inr (.inr (.inr (.inr ftb))))), (tb0, .inl (cs 0, 8192, .inl (upd (fun _ => nI 0) 965 (nI 1)))), (mti, .inl (cs 6, 2, .inr (.inr (.inr (.inr fti))))), (ti0, .inl (cs 1, 2001, .inr (.inl (vp_updL u0 0 (lN (ww * 8))))))] := hD
  refine lv_iinc (v := nI 10) (lv' := [(4, .int (nI 10)), (5, .int (nI 0)), (3, .int (nI 2)), (0, .ref hm), (1, .int (nI 1)), (2, .int (nI 0))]) hx hb dX12_spreads_108 hl (k := 1) rfl (by decide) (by decide) rfl ?_
  clear hl
  try clear ls
  intro ls hl
  refine lv_goto (tgt := 13) hx hb dX12_spreads_111 (by decide) ?_
  refine lv_iload hx hb dX12_spreads_13 (lv_at hl 0 rfl) ?_
  refine lv_iconst (v := nI 1) hx hb dX12_spreads_15 (by decide) ?_
  refine lv_aload_n hx hb dX12_spreads_16 rfl (lv_at hl 3 rfl) ?_
  refine xget C hP 2 rfl rfl zuX12 4 (by decide) zw5_217 rfl dX12_spreads_17 ?_
  refine lv_ishl hx hb dX12_spreads_20 ?_
  refine lv_topi (nm_r (e' := nI 16) (by decide) ?_)
  refine lv_icmp_ge (tgt := 114) hx hb dX12_spreads_21 (by decide) (fun c => absurd c (by decide)) (fun _ => ?_)
  refine lv_aload_n hx hb dX12_spreads_24 rfl (lv_at hl 3 rfl) ?_
  refine lv_iload_n hx hb dX12_spreads_25 rfl (lv_at hl 2 rfl) ?_
  refine lv_iload hx hb dX12_spreads_26 (lv_at hl 0 rfl) ?_
  refine xi (wr := [(ti1, .inl (cs 1, 2001, .inr (.inl u1))), (st1, .inl (cs 0, 96048, .inl q1)), (ms, .inl (cs 0, 288, .inl freshS)), (msm, .inl (cs 0, 2, .inl (smF2 (nI 1) b0))), (mst, .inl (cs 5, 2, .inr (.inr (.inr (.inr fst))))), (st0, .inl (cs 0, 96048, .inl (cpF freshS q0 48))), (mtb, .inl (cs 5, 2, .inr (.inr (.inr (.inr ftb))))), (tb0, .inl (cs 0, 8192, .inl (upd (fun _ => nI 0) 965 (nI 1)))), (mti, .inl (cs 6, 2, .inr (.inr (.inr (.inr fti))))), (ti0, .inl (cs 1, 2001, .inr (.inl (vp_updL u0 0 (lN (ww * 8))))))]) (xV (As := [.int (nI 2), .int (nI 10)]) (rest := []) C (c_X12_isSample_x l D cs hm ms mkp mtr mas mso mon mot man mst msm mtb mti mfr mbn mbs mde maa mab mba mbb 2 10 (by decide) (by decide)) kX12_139 hP hD [2] rfl (by decide +kernel) 0 rfl rfl rfl ⟨Nat.le_of_ble_eq_true rfl, Nat.le_of_ble_eq_true rfl⟩ rfl hl.1 rfl (Nat.le_of_ble_eq_true rfl) dX12_spreads_28 ⟨Nat.le_of_ble_eq_true rfl, Nat.le_of_ble_eq_true rfl⟩) hP hD hS hA [2] [0, 1, 3, 4, 5, 6, 7, 8, 9, 10] rfl rfl (by decide +kernel) (by decide +kernel) ?_
  clear hP hD hS
  try clear locs
  try clear H
  intro r_133 u_134 H locs hw_r_133 hP hD hS
  have hw_r_133 : r_133 = smB 2 10 := hw_r_133
  refine W.widen (k := 0) (n := 0) (Nat.le_of_ble_eq_true rfl) (Nat.le_of_ble_eq_true rfl) ?_
  replace hP : va_P D vwCl [(ti1, .inl (cs 1, 2001, .inr (.inl u1))), (st1, .inl (cs 0, 96048, .inl q1)), (ms, .inl (cs 0, 288, .inl freshS)), (msm, .inl (cs 0, 2, .inl (smF2 (nI 1) b0))), (mst, .inl (cs 5, 2, .inr (.inr (.inr (.inr fst))))), (st0, .inl (cs 0, 96048, .inl (cpF freshS q0 48))), (mtb, .inl (cs 5, 2, .inr (.inr (.inr (.inr ftb))))), (tb0, .inl (cs 0, 8192, .inl (upd (fun _ => nI 0) 965 (nI 1)))), (mti, .inl (cs 6, 2, .inr (.inr (.inr (.inr fti))))), (ti0, .inl (cs 1, 2001, .inr (.inl (vp_updL u0 0 (lN (ww * 8)))))), (hm, .inr (12, [.ref ms, .ref mkp, .int (nI 0), .ref mtr, .int (nI 4), .int (nI 2), .int (nI 2), .int (nI 3), .int (nI 2), .int (nI 1), .ref mas, .int (nI 0), .int (nI 0), .int (nI 0), .ref mso, .ref mon, .ref mot, .ref man, .int (nI 0), .int (nI 0), .ref mst, .ref msm, .ref mtb, .ref mti, .ref mfr, .ref mbn, .ref mbs, .ref mde, .int (nI 0), .int (nI 0), .int (nI 0), .int (nI 0), .long 0, .long 0, .ref maa, .ref mab, .ref mba, .ref mbb]))] H := hP
  replace hD : va_D A [(ti1, .inl (cs 1, 2001, .inr (.inl u1))), (st1, .inl (cs 0, 96048, .inl q1)), (ms, .inl (cs 0, 288, .inl freshS)), (msm, .inl (cs 0, 2, .inl (smF2 (nI 1) b0))), (mst, .inl (cs 5, 2, .inr (.inr (.inr (.inr fst))))), (st0, .inl (cs 0, 96048, .inl (cpF freshS q0 48))), (mtb, .inl (cs 5, 2, .inr (.inr (.inr (.inr ftb))))), (tb0, .inl (cs 0, 8192, .inl (upd (fun _ => nI 0) 965 (nI 1)))), (mti, .inl (cs 6, 2, .inr (.inr (.inr (.inr fti))))), (ti0, .inl (cs 1, 2001, .inr (.inl (vp_updL u0 0 (lN (ww * 8)))))), (hm, .inr (12, [.ref ms, .ref mkp, .int (nI 0), .ref mtr, .int (nI 4), .int (nI 2), .int (nI 2), .int (nI 3), .int (nI 2), .int (nI 1), .ref mas, .int (nI 0), .int (nI 0), .int (nI 0), .ref mso, .ref mon, .ref mot, .ref man, .int (nI 0), .int (nI 0), .ref mst, .ref msm, .ref mtb, .ref mti, .ref mfr, .ref mbn, .ref mbs, .ref mde, .int (nI 0), .int (nI 0), .int (nI 0), .int (nI 0), .long 0, .long 0, .ref maa, .ref mab, .ref mba, .ref mbb]))] := hD
  obtain rfl : r_133 = nI 1 := by rw [hw_r_133]; decide +kernel
  refine lv_if_ne (tgt := 37) hx hb dX12_spreads_31 (by decide) (fun _ => ?_) (fun c => absurd c (by decide))
  refine lv_aload_n hx hb dX12_spreads_37 rfl (lv_at hl 3 rfl) ?_
  refine lv_iload_n hx hb dX12_spreads_38 rfl (lv_at hl 4 rfl) ?_
  refine lv_iload_n hx hb dX12_spreads_39 rfl (lv_at hl 5 rfl) ?_
  refine xv (wr := [(ti1, .inl (cs 1, 2001, .inr (.inl u1))), (msm, .inl (cs 0, 2, .inl (smF2 (nI 1) b0))), (st0, .inl (cs 0, 96048, .inl (cpF freshS q0 48))), (mtb, .inl (cs 5, 2, .inr (.inr (.inr (.inr ftb))))), (tb0, .inl (cs 0, 8192, .inl (upd (fun _ => nI 0) 965 (nI 1)))), (mti, .inl (cs 6, 2, .inr (.inr (.inr (.inr fti))))), (ti0, .inl (cs 1, 2001, .inr (.inl (vp_updL u0 0 (lN (ww * 8))))))]) (xV (As := [.int (nI 1), .int (nI 0)]) (rest := []) C (c_X12_brings_1 l D cs hm ms mkp mtr mas mso mon mot man mst msm mtb mti mfr mbn mbs mde maa mab mba mbb st1 fst q1 hf1 hq) kX12_203 hP hD [10, 2, 4, 1] rfl (by decide +kernel) 0 rfl rfl rfl ⟨Nat.le_of_ble_eq_true rfl, Nat.le_of_ble_eq_true rfl⟩ rfl hl.1 rfl (Nat.le_of_ble_eq_true rfl) dX12_spreads_40 ⟨Nat.le_of_ble_eq_true rfl, Nat.le_of_ble_eq_true rfl⟩) hP hD hS hA [10, 2, 4, 1] [0, 3, 5, 6, 7, 8, 9] rfl rfl (by decide +kernel) (by decide +kernel) ?_
  clear hP hD hS
  try clear locs
  try clear H
  intro u_136 H locs hw_r_135 hP hD hS
  refine W.widen (k := 0) (n := 0) (Nat.le_of_ble_eq_true rfl) (Nat.le_of_ble_eq_true rfl) ?_
  replace hP : va_P D vwCl [(ti1, .inl (cs 1, 2001, .inr (.inl u1))), (msm, .inl (cs 0, 2, .inl (smF2 (nI 1) b0))), (st0, .inl (cs 0, 96048, .inl (cpF freshS q0 48))), (mtb, .inl (cs 5, 2, .inr (.inr (.inr (.inr ftb))))), (tb0, .inl (cs 0, 8192, .inl (upd (fun _ => nI 0) 965 (nI 1)))), (mti, .inl (cs 6, 2, .inr (.inr (.inr (.inr fti))))), (ti0, .inl (cs 1, 2001, .inr (.inl (vp_updL u0 0 (lN (ww * 8)))))), (hm, .inr (12, [.ref ms, .ref mkp, .int (nI 0), .ref mtr, .int (nI 4), .int (nI 2), .int (nI 2), .int (nI 3), .int (nI 2), .int (nI 1), .ref mas, .int (nI 0), .int (nI 0), .int (nI 0), .ref mso, .ref mon, .ref mot, .ref man, .int (nI 0), .int (nI 0), .ref mst, .ref msm, .ref mtb, .ref mti, .ref mfr, .ref mbn, .ref mbs, .ref mde, .int (nI 0), .int (nI 0), .int (nI 0), .int (nI 0), .long 0, .long 0, .ref maa, .ref mab, .ref mba, .ref mbb])), (ms, .inl (cs 0, 288, .inl freshS)), (mst, .inl (cs 5, 2, .inr (.inr (.inr (.inr fst))))), (st1, .inl (cs 0, 96048, .inl q1))] H := hP
  replace hD : va_D A [(ti1, .inl (cs 1, 2001, .inr (.inl u1))), (msm, .inl (cs 0, 2, .inl (smF2 (nI 1) b0))), (st0, .inl (cs 0, 96048, .inl (cpF freshS q0 48))), (mtb, .inl (cs 5, 2, .inr (.inr (.inr (.inr ftb))))), (tb0, .inl (cs 0, 8192, .inl (upd (fun _ => nI 0) 965 (nI 1)))), (mti, .inl (cs 6, 2, .inr (.inr (.inr (.inr fti))))), (ti0, .inl (cs 1, 2001, .inr (.inl (vp_updL u0 0 (lN (ww * 8)))))), (hm, .inr (12, [.ref ms, .ref mkp, .int (nI 0), .ref mtr, .int (nI 4), .int (nI 2), .int (nI 2), .int (nI 3), .int (nI 2), .int (nI 1), .ref mas, .int (nI 0), .int (nI 0), .int (nI 0), .ref mso, .ref mon, .ref mot, .ref man, .int (nI 0), .int (nI 0), .ref mst, .ref msm, .ref mtb, .ref mti, .ref mfr, .ref mbn, .ref mbs, .ref mde, .int (nI 0), .int (nI 0), .int (nI 0), .int (nI 0), .long 0, .long 0, .ref maa, .ref mab, .ref mba, .ref mbb])), (ms, .inl (cs 0, 288, .inl freshS)), (mst, .inl (cs 5, 2, .inr (.inr (.inr (.inr fst))))), (st1, .inl (cs 0, 96048, .inl q1))] := hD
  refine lv_aload_n hx hb dX12_spreads_43 rfl (lv_at hl 3 rfl) ?_
  refine lv_iload_n hx hb dX12_spreads_44 rfl (lv_at hl 2 rfl) ?_
  refine xi (wr := [(ti1, .inl (cs 1, 2001, .inr (.inl u1))), (msm, .inl (cs 0, 2, .inl (smF2 (nI 1) b0))), (st0, .inl (cs 0, 96048, .inl (cpF freshS q0 48))), (mtb, .inl (cs 5, 2, .inr (.inr (.inr (.inr ftb))))), (tb0, .inl (cs 0, 8192, .inl (upd (fun _ => nI 0) 965 (nI 1)))), (mti, .inl (cs 6, 2, .inr (.inr (.inr (.inr fti))))), (ti0, .inl (cs 1, 2001, .inr (.inl (vp_updL u0 0 (lN (ww * 8)))))), (mst, .inl (cs 5, 2, .inr (.inr (.inr (.inr fst))))), (st1, .inl (cs 0, 96048, .inl q1))]) (xV (As := [.int (nI 2)]) (rest := []) C (c_X12_canAsk_z l D cs hm ms mkp mtr mas mso mon mot man mst msm mtb mti mfr mbn mbs mde maa mab mba mbb 2 (by decide)) kX12_142 hP hD [7, 8] rfl (by decide +kernel) 0 rfl rfl rfl ⟨Nat.le_of_ble_eq_true rfl, Nat.le_of_ble_eq_true rfl⟩ rfl hl.1 rfl (Nat.le_of_ble_eq_true rfl) dX12_spreads_45 ⟨Nat.le_of_ble_eq_true rfl, Nat.le_of_ble_eq_true rfl⟩) hP hD hS hA [7, 8] [0, 1, 2, 3, 4, 5, 6, 9, 10] rfl rfl (by decide +kernel) (by decide +kernel) ?_
  clear hP hD hS
  try clear locs
  try clear H
  intro r_137 u_138 H locs hw_r_137 hP hD hS
  have hw_r_137 : r_137 = nI 0 := hw_r_137
  refine W.widen (k := 0) (n := 0) (Nat.le_of_ble_eq_true rfl) (Nat.le_of_ble_eq_true rfl) ?_
  replace hP : va_P D vwCl [(ti1, .inl (cs 1, 2001, .inr (.inl u1))), (msm, .inl (cs 0, 2, .inl (smF2 (nI 1) b0))), (st0, .inl (cs 0, 96048, .inl (cpF freshS q0 48))), (mtb, .inl (cs 5, 2, .inr (.inr (.inr (.inr ftb))))), (tb0, .inl (cs 0, 8192, .inl (upd (fun _ => nI 0) 965 (nI 1)))), (mti, .inl (cs 6, 2, .inr (.inr (.inr (.inr fti))))), (ti0, .inl (cs 1, 2001, .inr (.inl (vp_updL u0 0 (lN (ww * 8)))))), (mst, .inl (cs 5, 2, .inr (.inr (.inr (.inr fst))))), (st1, .inl (cs 0, 96048, .inl q1)), (hm, .inr (12, [.ref ms, .ref mkp, .int (nI 0), .ref mtr, .int (nI 4), .int (nI 2), .int (nI 2), .int (nI 3), .int (nI 2), .int (nI 1), .ref mas, .int (nI 0), .int (nI 0), .int (nI 0), .ref mso, .ref mon, .ref mot, .ref man, .int (nI 0), .int (nI 0), .ref mst, .ref msm, .ref mtb, .ref mti, .ref mfr, .ref mbn, .ref mbs, .ref mde, .int (nI 0), .int (nI 0), .int (nI 0), .int (nI 0), .long 0, .long 0, .ref maa, .ref mab, .ref mba, .ref mbb])), (ms, .inl (cs 0, 288, .inl freshS))] H := hP
  replace hD : va_D A [(ti1, .inl (cs 1, 2001, .inr (.inl u1))), (msm, .inl (cs 0, 2, .inl (smF2 (nI 1) b0))), (st0, .inl (cs 0, 96048, .inl (cpF freshS q0 48))), (mtb, .inl (cs 5, 2, .inr (.inr (.inr (.inr ftb))))), (tb0, .inl (cs 0, 8192, .inl (upd (fun _ => nI 0) 965 (nI 1)))), (mti, .inl (cs 6, 2, .inr (.inr (.inr (.inr fti))))), (ti0, .inl (cs 1, 2001, .inr (.inl (vp_updL u0 0 (lN (ww * 8)))))), (mst, .inl (cs 5, 2, .inr (.inr (.inr (.inr fst))))), (st1, .inl (cs 0, 96048, .inl q1)), (hm, .inr (12, [.ref ms, .ref mkp, .int (nI 0), .ref mtr, .int (nI 4), .int (nI 2), .int (nI 2), .int (nI 3), .int (nI 2), .int (nI 1), .ref mas, .int (nI 0), .int (nI 0), .int (nI 0), .ref mso, .ref mon, .ref mot, .ref man, .int (nI 0), .int (nI 0), .ref mst, .ref msm, .ref mtb, .ref mti, .ref mfr, .ref mbn, .ref mbs, .ref mde, .int (nI 0), .int (nI 0), .int (nI 0), .int (nI 0), .long 0, .long 0, .ref maa, .ref mab, .ref mba, .ref mbb])), (ms, .inl (cs 0, 288, .inl freshS))] := hD
  subst hw_r_137
  refine lv_if_eq (tgt := 67) hx hb dX12_spreads_48 (by decide) (fun _ => ?_) (fun c => absurd (by decide) c)
  refine lv_aload_n hx hb dX12_spreads_67 rfl (lv_at hl 3 rfl) ?_
  refine lv_iconst (v := nI 1) hx hb dX12_spreads_68 (by decide) ?_
  refine lv_iload_n hx hb dX12_spreads_69 rfl (lv_at hl 4 rfl) ?_
  refine lv_isub hx hb dX12_spreads_70 ?_
  refine lv_topi (nm_r (e' := nI 0) (by decide) ?_)
  refine lv_sipush (v := nI 2000) hx hb dX12_spreads_71 (by decide) ?_
  refine xi (wr := [(ti1, .inl (cs 1, 2001, .inr (.inl u1))), (st1, .inl (cs 0, 96048, .inl q1))]) (xV (As := [.int (nI 0), .int (nI 2000)]) (rest := []) C (c_X12_numberOf_b0 l D cs hm ms mkp mtr mas mso mon mot man mst msm mtb mti mfr mbn mbs mde maa mab mba mbb st0 tb0 ti0 fst ftb fti (smF2 (nI 1) b0) (cpF freshS q0 48) (upd (fun _ => nI 0) 965 (nI 1)) (vp_updL u0 0 (lN (ww * 8))) hf0 hg ht0 (if_pos rfl) (fun j hj => cpF_lt hj)) kX12_197 hP hD [9, 10, 1, 7, 2, 3, 4, 5, 6] rfl (by decide +kernel) 0 rfl rfl rfl ⟨Nat.le_of_ble_eq_true rfl, Nat.le_of_ble_eq_true rfl⟩ rfl hl.1 rfl (Nat.le_of_ble_eq_true rfl) dX12_spreads_74 ⟨Nat.le_of_ble_eq_true rfl, Nat.le_of_ble_eq_true rfl⟩) hP hD hS hA [9, 10, 1, 7, 2, 3, 4, 5, 6] [0, 8] rfl rfl (by decide +kernel) (by decide +kernel) ?_
  clear hP hD hS
  try clear locs
  try clear H
  intro r_139 u_140 H locs hw_r_139 hP hD hS
  have hw_r_139 : r_139 = nI 0 := hw_r_139
  refine W.widen (k := 0) (n := 0) (Nat.le_of_ble_eq_true rfl) (Nat.le_of_ble_eq_true rfl) ?_
  replace hP : va_P D vwCl [(ti1, .inl (cs 1, 2001, .inr (.inl u1))), (st1, .inl (cs 0, 96048, .inl q1)), (hm, .inr (12, [.ref ms, .ref mkp, .int (nI 0), .ref mtr, .int (nI 4), .int (nI 2), .int (nI 2), .int (nI 3), .int (nI 2), .int (nI 1), .ref mas, .int (nI 0), .int (nI 0), .int (nI 0), .ref mso, .ref mon, .ref mot, .ref man, .int (nI 0), .int (nI 0), .ref mst, .ref msm, .ref mtb, .ref mti, .ref mfr, .ref mbn, .ref mbs, .ref mde, .int (nI 0), .int (nI 0), .int (nI 0), .int (nI 0), .long 0, .long 0, .ref maa, .ref mab, .ref mba, .ref mbb])), (ms, .inl (cs 0, 288, .inl freshS)), (msm, .inl (cs 0, 2, .inl (smF2 (nI 1) b0))), (mst, .inl (cs 5, 2, .inr (.inr (.inr (.inr fst))))), (st0, .inl (cs 0, 96048, .inl (cpF freshS q0 48))), (mtb, .inl (cs 5, 2, .inr (.inr (.inr (.inr ftb))))), (tb0, .inl (cs 0, 8192, .inl (upd (fun _ => nI 0) 965 (nI 1)))), (mti, .inl (cs 6, 2, .inr (.inr (.inr (.inr fti))))), (ti0, .inl (cs 1, 2001, .inr (.inl (vp_updL u0 0 (lN (ww * 8))))))] H := hP
  replace hD : va_D A [(ti1, .inl (cs 1, 2001, .inr (.inl u1))), (st1, .inl (cs 0, 96048, .inl q1)), (hm, .inr (12, [.ref ms, .ref mkp, .int (nI 0), .ref mtr, .int (nI 4), .int (nI 2), .int (nI 2), .int (nI 3), .int (nI 2), .int (nI 1), .ref mas, .int (nI 0), .int (nI 0), .int (nI 0), .ref mso, .ref mon, .ref mot, .ref man, .int (nI 0), .int (nI 0), .ref mst, .ref msm, .ref mtb, .ref mti, .ref mfr, .ref mbn, .ref mbs, .ref mde, .int (nI 0), .int (nI 0), .int (nI 0), .int (nI 0), .long 0, .long 0, .ref maa, .ref mab, .ref mba, .ref mbb])), (ms, .inl (cs 0, 288, .inl freshS)), (msm, .inl (cs 0, 2, .inl (smF2 (nI 1) b0))), (mst, .inl (cs 5, 2, .inr (.inr (.inr (.inr fst))))), (st0, .inl (cs 0, 96048, .inl (cpF freshS q0 48))), (mtb, .inl (cs 5, 2, .inr (.inr (.inr (.inr ftb))))), (tb0, .inl (cs 0, 8192, .inl (upd (fun _ => nI 0) 965 (nI 1)))), (mti, .inl (cs 6, 2, .inr (.inr (.inr (.inr fti))))), (ti0, .inl (cs 1, 2001, .inr (.inl (vp_updL u0 0 (lN (ww * 8))))))] := hD
  subst hw_r_139
  refine lv_istore (lv' := [(5, .int (nI 0)), (4, .int (nI 10)), (3, .int (nI 2)), (0, .ref hm), (1, .int (nI 1)), (2, .int (nI 0))]) hx hb dX12_spreads_77 hl (by decide) rfl ?_
  clear hl
  try clear ls
  intro ls hl
  refine lv_iload hx hb dX12_spreads_79 (lv_at hl 0 rfl) ?_
  refine lv_if_ge (tgt := 86) hx hb dX12_spreads_81 (by decide) (fun _ => ?_) (fun c => absurd (by decide) c)
  refine lv_aload_n hx hb dX12_spreads_86 rfl (lv_at hl 3 rfl) ?_
  refine xget C hP 2 rfl rfl zuX12 23 (by decide) zw5_236 rfl dX12_spreads_87 ?_
  refine lv_iconst (v := nI 1) hx hb dX12_spreads_90 (by decide) ?_
  refine lv_iload_n hx hb dX12_spreads_91 rfl (lv_at hl 4 rfl) ?_
  refine lv_isub hx hb dX12_spreads_92 ?_
  refine lv_topi (nm_r (e' := nI 0) (by decide) ?_)
  refine xaald C hP 9 6 rfl rfl rfl 0 rfl (by decide) (by decide) ht0 dX12_spreads_93 ?_
  refine lv_iload hx hb dX12_spreads_94 (lv_at hl 0 rfl) ?_
  refine lv_dup2_11 hx hb dX12_spreads_96 rfl rfl ?_
  refine xlald C hP 10 rfl 0 rfl (by decide) (by decide) dX12_spreads_97 ?_
  refine lv_topl (nm_r (e' := lN (ww * 8)) (upL_0 _ _) ?_)
  refine lv_aload_n hx hb dX12_spreads_98 rfl (lv_at hl 3 rfl) ?_
  refine xget C hP 2 rfl rfl zuX12 23 (by decide) zw5_236 rfl dX12_spreads_99 ?_
  refine lv_iload_n hx hb dX12_spreads_102 rfl (lv_at hl 4 rfl) ?_
  refine xaald C hP 9 6 rfl rfl rfl 1 rfl (by decide) (by decide) ht1 dX12_spreads_103 ?_
  refine lv_iload_n hx hb dX12_spreads_104 rfl (lv_at hl 5 rfl) ?_
  refine xlald C hP 0 rfl 0 rfl (by decide) (by decide) dX12_spreads_105 ?_
  refine lv_topl (nm_r (e' := lN ww) hw ?_)
  refine lv_ladd hx hb dX12_spreads_106 ?_
  refine lv_topl (nm_r (e' := lN (ww * 9)) (lN_a ww 8) ?_)
  refine xlast C hP hD hS 10 rfl 0 rfl (by decide) (by decide) dX12_spreads_107 ?_
  clear hP hD hS
  try clear locs
  try clear H
  intro H locs hP hD hS
  replace hP : va_P D vwCl [(ti1, .inl (cs 1, 2001, .inr (.inl u1))), (st1, .inl (cs 0, 96048, .inl q1)), (hm, .inr (12, [.ref ms, .ref mkp, .int (nI 0), .ref mtr, .int (nI 4), .int (nI 2), .int (nI 2), .int (nI 3), .int (nI 2), .int (nI 1), .ref mas, .int (nI 0), .int (nI 0), .int (nI 0), .ref mso, .ref mon, .ref mot, .ref man, .int (nI 0), .int (nI 0), .ref mst, .ref msm, .ref mtb, .ref mti, .ref mfr, .ref mbn, .ref mbs, .ref mde, .int (nI 0), .int (nI 0), .int (nI 0), .int (nI 0), .long 0, .long 0, .ref maa, .ref mab, .ref mba, .ref mbb])), (ms, .inl (cs 0, 288, .inl freshS)), (msm, .inl (cs 0, 2, .inl (smF2 (nI 1) b0))), (mst, .inl (cs 5, 2, .inr (.inr (.inr (.inr fst))))), (st0, .inl (cs 0, 96048, .inl (cpF freshS q0 48))), (mtb, .inl (cs 5, 2, .inr (.inr (.inr (.inr ftb))))), (tb0, .inl (cs 0, 8192, .inl (upd (fun _ => nI 0) 965 (nI 1)))), (mti, .inl (cs 6, 2, .inr (.inr (.inr (.inr fti))))), (ti0, .inl (cs 1, 2001, .inr (.inl (vp_updL (vp_updL u0 0 (lN (ww * 8))) 0 (lN (ww * 9))))))] H := hP
  replace hD : va_D A [(ti1, .inl (cs 1, 2001, .inr (.inl u1))), (st1, .inl (cs 0, 96048, .inl q1)), (hm, .inr (12, [.ref ms, .ref mkp, .int (nI 0), .ref mtr, .int (nI 4), .int (nI 2), .int (nI 2), .int (nI 3), .int (nI 2), .int (nI 1), .ref mas, .int (nI 0), .int (nI 0), .int (nI 0), .ref mso, .ref mon, .ref mot, .ref man, .int (nI 0), .int (nI 0), .ref mst, .ref msm, .ref mtb, .ref mti, .ref mfr, .ref mbn, .ref mbs, .ref mde, .int (nI 0), .int (nI 0), .int (nI 0), .int (nI 0), .long 0, .long 0, .ref maa, .ref mab, .ref mba, .ref mbb])), (ms, .inl (cs 0, 288, .inl freshS)), (msm, .inl (cs 0, 2, .inl (smF2 (nI 1) b0))), (mst, .inl (cs 5, 2, .inr (.inr (.inr (.inr fst))))), (st0, .inl (cs 0, 96048, .inl (cpF freshS q0 48))), (mtb, .inl (cs 5, 2, .inr (.inr (.inr (.inr ftb))))), (tb0, .inl (cs 0, 8192, .inl (upd (fun _ => nI 0) 965 (nI 1)))), (mti, .inl (cs 6, 2, .inr (.inr (.inr (.inr fti))))), (ti0, .inl (cs 1, 2001, .inr (.inl (vp_updL (vp_updL u0 0 (lN (ww * 8))) 0 (lN (ww * 9))))))] := hD
  have hPD := xcongl (q0 := 10) (vp_updL u0 0 (lN (ww * 9))) hP hD rfl (fun j hj => upL_1 u0 _ _ j)
  clear hP hD
  obtain ⟨hP, hD⟩ := hPD
  replace hP : va_P D vwCl [(ti1, .inl (cs 1, 2001, .inr (.inl u1))), (st1, .inl (cs 0, 96048, .inl q1)), (hm, .inr (12, [.ref ms, .ref mkp, .int (nI 0), .ref mtr, .int (nI 4), .int (nI 2), .int (nI 2), .int (nI 3), .int (nI 2), .int (nI 1), .ref mas, .int (nI 0), .int (nI 0), .int (nI 0), .ref mso, .ref mon, .ref mot, .ref man, .int (nI 0), .int (nI 0), .ref mst, .ref msm, .ref mtb, .ref mti, .ref mfr, .ref mbn, .ref mbs, .ref mde, .int (nI 0), .int (nI 0), .int (nI 0), .int (nI 0), .long 0, .long 0, .ref maa, .ref mab, .ref mba, .ref mbb])), (ms, .inl (cs 0, 288, .inl freshS)), (msm, .inl (cs 0, 2, .inl (smF2 (nI 1) b0))), (mst, .inl (cs 5, 2, .inr (.inr (.inr (.inr fst))))), (st0, .inl (cs 0, 96048, .inl (cpF freshS q0 48))), (mtb, .inl (cs 5, 2, .inr (.inr (.inr (.inr ftb))))), (tb0, .inl (cs 0, 8192, .inl (upd (fun _ => nI 0) 965 (nI 1)))), (mti, .inl (cs 6, 2, .inr (.inr (.inr (.inr fti))))), (ti0, .inl (cs 1, 2001, .inr (.inl (vp_updL u0 0 (lN (ww * 9))))))] H := hP
  replace hD : va_D A [(ti1, .inl (cs 1, 2001, .inr (.inl u1))), (st1, .inl (cs 0, 96048, .inl q1)), (hm, .inr (12, [.ref ms, .ref mkp, .int (nI 0), .ref mtr, .int (nI 4), .int (nI 2), .int (nI 2), .int (nI 3), .int (nI 2), .int (nI 1), .ref mas, .int (nI 0), .int (nI 0), .int (nI 0), .ref mso, .ref mon, .ref mot, .ref man, .int (nI 0), .int (nI 0), .ref mst, .ref msm, .ref mtb, .ref mti, .ref mfr, .ref mbn, .ref mbs, .ref mde, .int (nI 0), .int (nI 0), .int (nI 0), .int (nI 0), .long 0, .long 0, .ref maa, .ref mab, .ref mba, .ref mbb])), (ms, .inl (cs 0, 288, .inl freshS)), (msm, .inl (cs 0, 2, .inl (smF2 (nI 1) b0))), (mst, .inl (cs 5, 2, .inr (.inr (.inr (.inr fst))))), (st0, .inl (cs 0, 96048, .inl (cpF freshS q0 48))), (mtb, .inl (cs 5, 2, .inr (.inr (.inr (.inr ftb))))), (tb0, .inl (cs 0, 8192, .inl (upd (fun _ => nI 0) 965 (nI 1)))), (mti, .inl (cs 6, 2, .inr (.inr (.inr (.inr fti))))), (ti0, .inl (cs 1, 2001, .inr (.inl (vp_updL u0 0 (lN (ww * 9))))))] := hD
  refine lv_iinc (v := nI 11) (lv' := [(4, .int (nI 11)), (5, .int (nI 0)), (3, .int (nI 2)), (0, .ref hm), (1, .int (nI 1)), (2, .int (nI 0))]) hx hb dX12_spreads_108 hl (k := 1) rfl (by decide) (by decide) rfl ?_
  clear hl
  try clear ls
  intro ls hl
  refine lv_goto (tgt := 13) hx hb dX12_spreads_111 (by decide) ?_
  refine lv_iload hx hb dX12_spreads_13 (lv_at hl 0 rfl) ?_
  refine lv_iconst (v := nI 1) hx hb dX12_spreads_15 (by decide) ?_
  refine lv_aload_n hx hb dX12_spreads_16 rfl (lv_at hl 3 rfl) ?_
  refine xget C hP 2 rfl rfl zuX12 4 (by decide) zw5_217 rfl dX12_spreads_17 ?_
  refine lv_ishl hx hb dX12_spreads_20 ?_
  refine lv_topi (nm_r (e' := nI 16) (by decide) ?_)
  refine lv_icmp_ge (tgt := 114) hx hb dX12_spreads_21 (by decide) (fun c => absurd c (by decide)) (fun _ => ?_)
  refine lv_aload_n hx hb dX12_spreads_24 rfl (lv_at hl 3 rfl) ?_
  refine lv_iload_n hx hb dX12_spreads_25 rfl (lv_at hl 2 rfl) ?_
  refine lv_iload hx hb dX12_spreads_26 (lv_at hl 0 rfl) ?_
  refine xi (wr := [(ti1, .inl (cs 1, 2001, .inr (.inl u1))), (st1, .inl (cs 0, 96048, .inl q1)), (ms, .inl (cs 0, 288, .inl freshS)), (msm, .inl (cs 0, 2, .inl (smF2 (nI 1) b0))), (mst, .inl (cs 5, 2, .inr (.inr (.inr (.inr fst))))), (st0, .inl (cs 0, 96048, .inl (cpF freshS q0 48))), (mtb, .inl (cs 5, 2, .inr (.inr (.inr (.inr ftb))))), (tb0, .inl (cs 0, 8192, .inl (upd (fun _ => nI 0) 965 (nI 1)))), (mti, .inl (cs 6, 2, .inr (.inr (.inr (.inr fti))))), (ti0, .inl (cs 1, 2001, .inr (.inl (vp_updL u0 0 (lN (ww * 9))))))]) (xV (As := [.int (nI 2), .int (nI 11)]) (rest := []) C (c_X12_isSample_x l D cs hm ms mkp mtr mas mso mon mot man mst msm mtb mti mfr mbn mbs mde maa mab mba mbb 2 11 (by decide) (by decide)) kX12_139 hP hD [2] rfl (by decide +kernel) 0 rfl rfl rfl ⟨Nat.le_of_ble_eq_true rfl, Nat.le_of_ble_eq_true rfl⟩ rfl hl.1 rfl (Nat.le_of_ble_eq_true rfl) dX12_spreads_28 ⟨Nat.le_of_ble_eq_true rfl, Nat.le_of_ble_eq_true rfl⟩) hP hD hS hA [2] [0, 1, 3, 4, 5, 6, 7, 8, 9, 10] rfl rfl (by decide +kernel) (by decide +kernel) ?_
  clear hP hD hS
  try clear locs
  try clear H
  intro r_141 u_142 H locs hw_r_141 hP hD hS
  have hw_r_141 : r_141 = smB 2 11 := hw_r_141
  refine W.widen (k := 0) (n := 0) (Nat.le_of_ble_eq_true rfl) (Nat.le_of_ble_eq_true rfl) ?_
  replace hP : va_P D vwCl [(ti1, .inl (cs 1, 2001, .inr (.inl u1))), (st1, .inl (cs 0, 96048, .inl q1)), (ms, .inl (cs 0, 288, .inl freshS)), (msm, .inl (cs 0, 2, .inl (smF2 (nI 1) b0))), (mst, .inl (cs 5, 2, .inr (.inr (.inr (.inr fst))))), (st0, .inl (cs 0, 96048, .inl (cpF freshS q0 48))), (mtb, .inl (cs 5, 2, .inr (.inr (.inr (.inr ftb))))), (tb0, .inl (cs 0, 8192, .inl (upd (fun _ => nI 0) 965 (nI 1)))), (mti, .inl (cs 6, 2, .inr (.inr (.inr (.inr fti))))), (ti0, .inl (cs 1, 2001, .inr (.inl (vp_updL u0 0 (lN (ww * 9)))))), (hm, .inr (12, [.ref ms, .ref mkp, .int (nI 0), .ref mtr, .int (nI 4), .int (nI 2), .int (nI 2), .int (nI 3), .int (nI 2), .int (nI 1), .ref mas, .int (nI 0), .int (nI 0), .int (nI 0), .ref mso, .ref mon, .ref mot, .ref man, .int (nI 0), .int (nI 0), .ref mst, .ref msm, .ref mtb, .ref mti, .ref mfr, .ref mbn, .ref mbs, .ref mde, .int (nI 0), .int (nI 0), .int (nI 0), .int (nI 0), .long 0, .long 0, .ref maa, .ref mab, .ref mba, .ref mbb]))] H := hP
  replace hD : va_D A [(ti1, .inl (cs 1, 2001, .inr (.inl u1))), (st1, .inl (cs 0, 96048, .inl q1)), (ms, .inl (cs 0, 288, .inl freshS)), (msm, .inl (cs 0, 2, .inl (smF2 (nI 1) b0))), (mst, .inl (cs 5, 2, .inr (.inr (.inr (.inr fst))))), (st0, .inl (cs 0, 96048, .inl (cpF freshS q0 48))), (mtb, .inl (cs 5, 2, .inr (.inr (.inr (.inr ftb))))), (tb0, .inl (cs 0, 8192, .inl (upd (fun _ => nI 0) 965 (nI 1)))), (mti, .inl (cs 6, 2, .inr (.inr (.inr (.inr fti))))), (ti0, .inl (cs 1, 2001, .inr (.inl (vp_updL u0 0 (lN (ww * 9)))))), (hm, .inr (12, [.ref ms, .ref mkp, .int (nI 0), .ref mtr, .int (nI 4), .int (nI 2), .int (nI 2), .int (nI 3), .int (nI 2), .int (nI 1), .ref mas, .int (nI 0), .int (nI 0), .int (nI 0), .ref mso, .ref mon, .ref mot, .ref man, .int (nI 0), .int (nI 0), .ref mst, .ref msm, .ref mtb, .ref mti, .ref mfr, .ref mbn, .ref mbs, .ref mde, .int (nI 0), .int (nI 0), .int (nI 0), .int (nI 0), .long 0, .long 0, .ref maa, .ref mab, .ref mba, .ref mbb]))] := hD
  obtain rfl : r_141 = nI 0 := by rw [hw_r_141]; decide +kernel
  refine lv_if_ne (tgt := 37) hx hb dX12_spreads_31 (by decide) (fun c => absurd (by decide) c) (fun _ => ?_)
  refine lv_goto (tgt := 108) hx hb dX12_spreads_34 (by decide) ?_
  refine lv_iinc (v := nI 12) (lv' := [(4, .int (nI 12)), (5, .int (nI 0)), (3, .int (nI 2)), (0, .ref hm), (1, .int (nI 1)), (2, .int (nI 0))]) hx hb dX12_spreads_108 hl (k := 0) rfl (by decide) (by decide) rfl ?_
  clear hl
  try clear ls
  intro ls hl
  refine lv_goto (tgt := 13) hx hb dX12_spreads_111 (by decide) ?_
  refine lv_iload hx hb dX12_spreads_13 (lv_at hl 0 rfl) ?_
  refine lv_iconst (v := nI 1) hx hb dX12_spreads_15 (by decide) ?_
  refine lv_aload_n hx hb dX12_spreads_16 rfl (lv_at hl 3 rfl) ?_
  refine xget C hP 10 rfl rfl zuX12 4 (by decide) zw5_217 rfl dX12_spreads_17 ?_
  refine lv_ishl hx hb dX12_spreads_20 ?_
  refine lv_topi (nm_r (e' := nI 16) (by decide) ?_)
  refine lv_icmp_ge (tgt := 114) hx hb dX12_spreads_21 (by decide) (fun c => absurd c (by decide)) (fun _ => ?_)
  refine lv_aload_n hx hb dX12_spreads_24 rfl (lv_at hl 3 rfl) ?_
  refine lv_iload_n hx hb dX12_spreads_25 rfl (lv_at hl 2 rfl) ?_
  refine lv_iload hx hb dX12_spreads_26 (lv_at hl 0 rfl) ?_
  refine xi (wr := [(ti1, .inl (cs 1, 2001, .inr (.inl u1))), (st1, .inl (cs 0, 96048, .inl q1)), (ms, .inl (cs 0, 288, .inl freshS)), (msm, .inl (cs 0, 2, .inl (smF2 (nI 1) b0))), (mst, .inl (cs 5, 2, .inr (.inr (.inr (.inr fst))))), (st0, .inl (cs 0, 96048, .inl (cpF freshS q0 48))), (mtb, .inl (cs 5, 2, .inr (.inr (.inr (.inr ftb))))), (tb0, .inl (cs 0, 8192, .inl (upd (fun _ => nI 0) 965 (nI 1)))), (mti, .inl (cs 6, 2, .inr (.inr (.inr (.inr fti))))), (ti0, .inl (cs 1, 2001, .inr (.inl (vp_updL u0 0 (lN (ww * 9))))))]) (xV (As := [.int (nI 2), .int (nI 12)]) (rest := []) C (c_X12_isSample_x l D cs hm ms mkp mtr mas mso mon mot man mst msm mtb mti mfr mbn mbs mde maa mab mba mbb 2 12 (by decide) (by decide)) kX12_139 hP hD [10] rfl (by decide +kernel) 0 rfl rfl rfl ⟨Nat.le_of_ble_eq_true rfl, Nat.le_of_ble_eq_true rfl⟩ rfl hl.1 rfl (Nat.le_of_ble_eq_true rfl) dX12_spreads_28 ⟨Nat.le_of_ble_eq_true rfl, Nat.le_of_ble_eq_true rfl⟩) hP hD hS hA [10] [0, 1, 2, 3, 4, 5, 6, 7, 8, 9] rfl rfl (by decide +kernel) (by decide +kernel) ?_
  clear hP hD hS
  try clear locs
  try clear H
  intro r_143 u_144 H locs hw_r_143 hP hD hS
  have hw_r_143 : r_143 = smB 2 12 := hw_r_143
  refine W.widen (k := 0) (n := 0) (Nat.le_of_ble_eq_true rfl) (Nat.le_of_ble_eq_true rfl) ?_
  replace hP : va_P D vwCl [(ti1, .inl (cs 1, 2001, .inr (.inl u1))), (st1, .inl (cs 0, 96048, .inl q1)), (ms, .inl (cs 0, 288, .inl freshS)), (msm, .inl (cs 0, 2, .inl (smF2 (nI 1) b0))), (mst, .inl (cs 5, 2, .inr (.inr (.inr (.inr fst))))), (st0, .inl (cs 0, 96048, .inl (cpF freshS q0 48))), (mtb, .inl (cs 5, 2, .inr (.inr (.inr (.inr ftb))))), (tb0, .inl (cs 0, 8192, .inl (upd (fun _ => nI 0) 965 (nI 1)))), (mti, .inl (cs 6, 2, .inr (.inr (.inr (.inr fti))))), (ti0, .inl (cs 1, 2001, .inr (.inl (vp_updL u0 0 (lN (ww * 9)))))), (hm, .inr (12, [.ref ms, .ref mkp, .int (nI 0), .ref mtr, .int (nI 4), .int (nI 2), .int (nI 2), .int (nI 3), .int (nI 2), .int (nI 1), .ref mas, .int (nI 0), .int (nI 0), .int (nI 0), .ref mso, .ref mon, .ref mot, .ref man, .int (nI 0), .int (nI 0), .ref mst, .ref msm, .ref mtb, .ref mti, .ref mfr, .ref mbn, .ref mbs, .ref mde, .int (nI 0), .int (nI 0), .int (nI 0), .int (nI 0), .long 0, .long 0, .ref maa, .ref mab, .ref mba, .ref mbb]))] H := hP
  replace hD : va_D A [(ti1, .inl (cs 1, 2001, .inr (.inl u1))), (st1, .inl (cs 0, 96048, .inl q1)), (ms, .inl (cs 0, 288, .inl freshS)), (msm, .inl (cs 0, 2, .inl (smF2 (nI 1) b0))), (mst, .inl (cs 5, 2, .inr (.inr (.inr (.inr fst))))), (st0, .inl (cs 0, 96048, .inl (cpF freshS q0 48))), (mtb, .inl (cs 5, 2, .inr (.inr (.inr (.inr ftb))))), (tb0, .inl (cs 0, 8192, .inl (upd (fun _ => nI 0) 965 (nI 1)))), (mti, .inl (cs 6, 2, .inr (.inr (.inr (.inr fti))))), (ti0, .inl (cs 1, 2001, .inr (.inl (vp_updL u0 0 (lN (ww * 9)))))), (hm, .inr (12, [.ref ms, .ref mkp, .int (nI 0), .ref mtr, .int (nI 4), .int (nI 2), .int (nI 2), .int (nI 3), .int (nI 2), .int (nI 1), .ref mas, .int (nI 0), .int (nI 0), .int (nI 0), .ref mso, .ref mon, .ref mot, .ref man, .int (nI 0), .int (nI 0), .ref mst, .ref msm, .ref mtb, .ref mti, .ref mfr, .ref mbn, .ref mbs, .ref mde, .int (nI 0), .int (nI 0), .int (nI 0), .int (nI 0), .long 0, .long 0, .ref maa, .ref mab, .ref mba, .ref mbb]))] := hD
  obtain rfl : r_143 = nI 0 := by rw [hw_r_143]; decide +kernel
  refine lv_if_ne (tgt := 37) hx hb dX12_spreads_31 (by decide) (fun c => absurd (by decide) c) (fun _ => ?_)
  refine lv_goto (tgt := 108) hx hb dX12_spreads_34 (by decide) ?_
  refine lv_iinc (v := nI 13) (lv' := [(4, .int (nI 13)), (5, .int (nI 0)), (3, .int (nI 2)), (0, .ref hm), (1, .int (nI 1)), (2, .int (nI 0))]) hx hb dX12_spreads_108 hl (k := 0) rfl (by decide) (by decide) rfl ?_
  clear hl
  try clear ls
  intro ls hl
  refine lv_goto (tgt := 13) hx hb dX12_spreads_111 (by decide) ?_
  refine lv_iload hx hb dX12_spreads_13 (lv_at hl 0 rfl) ?_
  refine lv_iconst (v := nI 1) hx hb dX12_spreads_15 (by decide) ?_
  refine lv_aload_n hx hb dX12_spreads_16 rfl (lv_at hl 3 rfl) ?_
  refine xget C hP 10 rfl rfl zuX12 4 (by decide) zw5_217 rfl dX12_spreads_17 ?_
  refine lv_ishl hx hb dX12_spreads_20 ?_
  refine lv_topi (nm_r (e' := nI 16) (by decide) ?_)
  refine lv_icmp_ge (tgt := 114) hx hb dX12_spreads_21 (by decide) (fun c => absurd c (by decide)) (fun _ => ?_)
  refine lv_aload_n hx hb dX12_spreads_24 rfl (lv_at hl 3 rfl) ?_
  refine lv_iload_n hx hb dX12_spreads_25 rfl (lv_at hl 2 rfl) ?_
  refine lv_iload hx hb dX12_spreads_26 (lv_at hl 0 rfl) ?_
  refine xi (wr := [(ti1, .inl (cs 1, 2001, .inr (.inl u1))), (st1, .inl (cs 0, 96048, .inl q1)), (ms, .inl (cs 0, 288, .inl freshS)), (msm, .inl (cs 0, 2, .inl (smF2 (nI 1) b0))), (mst, .inl (cs 5, 2, .inr (.inr (.inr (.inr fst))))), (st0, .inl (cs 0, 96048, .inl (cpF freshS q0 48))), (mtb, .inl (cs 5, 2, .inr (.inr (.inr (.inr ftb))))), (tb0, .inl (cs 0, 8192, .inl (upd (fun _ => nI 0) 965 (nI 1)))), (mti, .inl (cs 6, 2, .inr (.inr (.inr (.inr fti))))), (ti0, .inl (cs 1, 2001, .inr (.inl (vp_updL u0 0 (lN (ww * 9))))))]) (xV (As := [.int (nI 2), .int (nI 13)]) (rest := []) C (c_X12_isSample_x l D cs hm ms mkp mtr mas mso mon mot man mst msm mtb mti mfr mbn mbs mde maa mab mba mbb 2 13 (by decide) (by decide)) kX12_139 hP hD [10] rfl (by decide +kernel) 0 rfl rfl rfl ⟨Nat.le_of_ble_eq_true rfl, Nat.le_of_ble_eq_true rfl⟩ rfl hl.1 rfl (Nat.le_of_ble_eq_true rfl) dX12_spreads_28 ⟨Nat.le_of_ble_eq_true rfl, Nat.le_of_ble_eq_true rfl⟩) hP hD hS hA [10] [0, 1, 2, 3, 4, 5, 6, 7, 8, 9] rfl rfl (by decide +kernel) (by decide +kernel) ?_
  clear hP hD hS
  try clear locs
  try clear H
  intro r_145 u_146 H locs hw_r_145 hP hD hS
  have hw_r_145 : r_145 = smB 2 13 := hw_r_145
  refine W.widen (k := 0) (n := 0) (Nat.le_of_ble_eq_true rfl) (Nat.le_of_ble_eq_true rfl) ?_
  replace hP : va_P D vwCl [(ti1, .inl (cs 1, 2001, .inr (.inl u1))), (st1, .inl (cs 0, 96048, .inl q1)), (ms, .inl (cs 0, 288, .inl freshS)), (msm, .inl (cs 0, 2, .inl (smF2 (nI 1) b0))), (mst, .inl (cs 5, 2, .inr (.inr (.inr (.inr fst))))), (st0, .inl (cs 0, 96048, .inl (cpF freshS q0 48))), (mtb, .inl (cs 5, 2, .inr (.inr (.inr (.inr ftb))))), (tb0, .inl (cs 0, 8192, .inl (upd (fun _ => nI 0) 965 (nI 1)))), (mti, .inl (cs 6, 2, .inr (.inr (.inr (.inr fti))))), (ti0, .inl (cs 1, 2001, .inr (.inl (vp_updL u0 0 (lN (ww * 9)))))), (hm, .inr (12, [.ref ms, .ref mkp, .int (nI 0), .ref mtr, .int (nI 4), .int (nI 2), .int (nI 2), .int (nI 3), .int (nI 2), .int (nI 1), .ref mas, .int (nI 0), .int (nI 0), .int (nI 0), .ref mso, .ref mon, .ref mot, .ref man, .int (nI 0), .int (nI 0), .ref mst, .ref msm, .ref mtb, .ref mti, .ref mfr, .ref mbn, .ref mbs, .ref mde, .int (nI 0), .int (nI 0), .int (nI 0), .int (nI 0), .long 0, .long 0, .ref maa, .ref mab, .ref mba, .ref mbb]))] H := hP
  replace hD : va_D A [(ti1, .inl (cs 1, 2001, .inr (.inl u1))), (st1, .inl (cs 0, 96048, .inl q1)), (ms, .inl (cs 0, 288, .inl freshS)), (msm, .inl (cs 0, 2, .inl (smF2 (nI 1) b0))), (mst, .inl (cs 5, 2, .inr (.inr (.inr (.inr fst))))), (st0, .inl (cs 0, 96048, .inl (cpF freshS q0 48))), (mtb, .inl (cs 5, 2, .inr (.inr (.inr (.inr ftb))))), (tb0, .inl (cs 0, 8192, .inl (upd (fun _ => nI 0) 965 (nI 1)))), (mti, .inl (cs 6, 2, .inr (.inr (.inr (.inr fti))))), (ti0, .inl (cs 1, 2001, .inr (.inl (vp_updL u0 0 (lN (ww * 9)))))), (hm, .inr (12, [.ref ms, .ref mkp, .int (nI 0), .ref mtr, .int (nI 4), .int (nI 2), .int (nI 2), .int (nI 3), .int (nI 2), .int (nI 1), .ref mas, .int (nI 0), .int (nI 0), .int (nI 0), .ref mso, .ref mon, .ref mot, .ref man, .int (nI 0), .int (nI 0), .ref mst, .ref msm, .ref mtb, .ref mti, .ref mfr, .ref mbn, .ref mbs, .ref mde, .int (nI 0), .int (nI 0), .int (nI 0), .int (nI 0), .long 0, .long 0, .ref maa, .ref mab, .ref mba, .ref mbb]))] := hD
  obtain rfl : r_145 = nI 0 := by rw [hw_r_145]; decide +kernel
  refine lv_if_ne (tgt := 37) hx hb dX12_spreads_31 (by decide) (fun c => absurd (by decide) c) (fun _ => ?_)
  refine lv_goto (tgt := 108) hx hb dX12_spreads_34 (by decide) ?_
  refine lv_iinc (v := nI 14) (lv' := [(4, .int (nI 14)), (5, .int (nI 0)), (3, .int (nI 2)), (0, .ref hm), (1, .int (nI 1)), (2, .int (nI 0))]) hx hb dX12_spreads_108 hl (k := 0) rfl (by decide) (by decide) rfl ?_
  clear hl
  try clear ls
  intro ls hl
  refine lv_goto (tgt := 13) hx hb dX12_spreads_111 (by decide) ?_
  refine lv_iload hx hb dX12_spreads_13 (lv_at hl 0 rfl) ?_
  refine lv_iconst (v := nI 1) hx hb dX12_spreads_15 (by decide) ?_
  refine lv_aload_n hx hb dX12_spreads_16 rfl (lv_at hl 3 rfl) ?_
  refine xget C hP 10 rfl rfl zuX12 4 (by decide) zw5_217 rfl dX12_spreads_17 ?_
  refine lv_ishl hx hb dX12_spreads_20 ?_
  refine lv_topi (nm_r (e' := nI 16) (by decide) ?_)
  refine lv_icmp_ge (tgt := 114) hx hb dX12_spreads_21 (by decide) (fun c => absurd c (by decide)) (fun _ => ?_)
  refine lv_aload_n hx hb dX12_spreads_24 rfl (lv_at hl 3 rfl) ?_
  refine lv_iload_n hx hb dX12_spreads_25 rfl (lv_at hl 2 rfl) ?_
  refine lv_iload hx hb dX12_spreads_26 (lv_at hl 0 rfl) ?_
  refine xi (wr := [(ti1, .inl (cs 1, 2001, .inr (.inl u1))), (st1, .inl (cs 0, 96048, .inl q1)), (ms, .inl (cs 0, 288, .inl freshS)), (msm, .inl (cs 0, 2, .inl (smF2 (nI 1) b0))), (mst, .inl (cs 5, 2, .inr (.inr (.inr (.inr fst))))), (st0, .inl (cs 0, 96048, .inl (cpF freshS q0 48))), (mtb, .inl (cs 5, 2, .inr (.inr (.inr (.inr ftb))))), (tb0, .inl (cs 0, 8192, .inl (upd (fun _ => nI 0) 965 (nI 1)))), (mti, .inl (cs 6, 2, .inr (.inr (.inr (.inr fti))))), (ti0, .inl (cs 1, 2001, .inr (.inl (vp_updL u0 0 (lN (ww * 9))))))]) (xV (As := [.int (nI 2), .int (nI 14)]) (rest := []) C (c_X12_isSample_x l D cs hm ms mkp mtr mas mso mon mot man mst msm mtb mti mfr mbn mbs mde maa mab mba mbb 2 14 (by decide) (by decide)) kX12_139 hP hD [10] rfl (by decide +kernel) 0 rfl rfl rfl ⟨Nat.le_of_ble_eq_true rfl, Nat.le_of_ble_eq_true rfl⟩ rfl hl.1 rfl (Nat.le_of_ble_eq_true rfl) dX12_spreads_28 ⟨Nat.le_of_ble_eq_true rfl, Nat.le_of_ble_eq_true rfl⟩) hP hD hS hA [10] [0, 1, 2, 3, 4, 5, 6, 7, 8, 9] rfl rfl (by decide +kernel) (by decide +kernel) ?_
  clear hP hD hS
  try clear locs
  try clear H
  intro r_147 u_148 H locs hw_r_147 hP hD hS
  have hw_r_147 : r_147 = smB 2 14 := hw_r_147
  refine W.widen (k := 0) (n := 0) (Nat.le_of_ble_eq_true rfl) (Nat.le_of_ble_eq_true rfl) ?_
  replace hP : va_P D vwCl [(ti1, .inl (cs 1, 2001, .inr (.inl u1))), (st1, .inl (cs 0, 96048, .inl q1)), (ms, .inl (cs 0, 288, .inl freshS)), (msm, .inl (cs 0, 2, .inl (smF2 (nI 1) b0))), (mst, .inl (cs 5, 2, .inr (.inr (.inr (.inr fst))))), (st0, .inl (cs 0, 96048, .inl (cpF freshS q0 48))), (mtb, .inl (cs 5, 2, .inr (.inr (.inr (.inr ftb))))), (tb0, .inl (cs 0, 8192, .inl (upd (fun _ => nI 0) 965 (nI 1)))), (mti, .inl (cs 6, 2, .inr (.inr (.inr (.inr fti))))), (ti0, .inl (cs 1, 2001, .inr (.inl (vp_updL u0 0 (lN (ww * 9)))))), (hm, .inr (12, [.ref ms, .ref mkp, .int (nI 0), .ref mtr, .int (nI 4), .int (nI 2), .int (nI 2), .int (nI 3), .int (nI 2), .int (nI 1), .ref mas, .int (nI 0), .int (nI 0), .int (nI 0), .ref mso, .ref mon, .ref mot, .ref man, .int (nI 0), .int (nI 0), .ref mst, .ref msm, .ref mtb, .ref mti, .ref mfr, .ref mbn, .ref mbs, .ref mde, .int (nI 0), .int (nI 0), .int (nI 0), .int (nI 0), .long 0, .long 0, .ref maa, .ref mab, .ref mba, .ref mbb]))] H := hP
  replace hD : va_D A [(ti1, .inl (cs 1, 2001, .inr (.inl u1))), (st1, .inl (cs 0, 96048, .inl q1)), (ms, .inl (cs 0, 288, .inl freshS)), (msm, .inl (cs 0, 2, .inl (smF2 (nI 1) b0))), (mst, .inl (cs 5, 2, .inr (.inr (.inr (.inr fst))))), (st0, .inl (cs 0, 96048, .inl (cpF freshS q0 48))), (mtb, .inl (cs 5, 2, .inr (.inr (.inr (.inr ftb))))), (tb0, .inl (cs 0, 8192, .inl (upd (fun _ => nI 0) 965 (nI 1)))), (mti, .inl (cs 6, 2, .inr (.inr (.inr (.inr fti))))), (ti0, .inl (cs 1, 2001, .inr (.inl (vp_updL u0 0 (lN (ww * 9)))))), (hm, .inr (12, [.ref ms, .ref mkp, .int (nI 0), .ref mtr, .int (nI 4), .int (nI 2), .int (nI 2), .int (nI 3), .int (nI 2), .int (nI 1), .ref mas, .int (nI 0), .int (nI 0), .int (nI 0), .ref mso, .ref mon, .ref mot, .ref man, .int (nI 0), .int (nI 0), .ref mst, .ref msm, .ref mtb, .ref mti, .ref mfr, .ref mbn, .ref mbs, .ref mde, .int (nI 0), .int (nI 0), .int (nI 0), .int (nI 0), .long 0, .long 0, .ref maa, .ref mab, .ref mba, .ref mbb]))] := hD
  obtain rfl : r_147 = nI 0 := by rw [hw_r_147]; decide +kernel
  refine lv_if_ne (tgt := 37) hx hb dX12_spreads_31 (by decide) (fun c => absurd (by decide) c) (fun _ => ?_)
  refine lv_goto (tgt := 108) hx hb dX12_spreads_34 (by decide) ?_
  refine lv_iinc (v := nI 15) (lv' := [(4, .int (nI 15)), (5, .int (nI 0)), (3, .int (nI 2)), (0, .ref hm), (1, .int (nI 1)), (2, .int (nI 0))]) hx hb dX12_spreads_108 hl (k := 0) rfl (by decide) (by decide) rfl ?_
  clear hl
  try clear ls
  intro ls hl
  refine lv_goto (tgt := 13) hx hb dX12_spreads_111 (by decide) ?_
  refine lv_iload hx hb dX12_spreads_13 (lv_at hl 0 rfl) ?_
  refine lv_iconst (v := nI 1) hx hb dX12_spreads_15 (by decide) ?_
  refine lv_aload_n hx hb dX12_spreads_16 rfl (lv_at hl 3 rfl) ?_
  refine xget C hP 10 rfl rfl zuX12 4 (by decide) zw5_217 rfl dX12_spreads_17 ?_
  refine lv_ishl hx hb dX12_spreads_20 ?_
  refine lv_topi (nm_r (e' := nI 16) (by decide) ?_)
  refine lv_icmp_ge (tgt := 114) hx hb dX12_spreads_21 (by decide) (fun c => absurd c (by decide)) (fun _ => ?_)
  refine lv_aload_n hx hb dX12_spreads_24 rfl (lv_at hl 3 rfl) ?_
  refine lv_iload_n hx hb dX12_spreads_25 rfl (lv_at hl 2 rfl) ?_
  refine lv_iload hx hb dX12_spreads_26 (lv_at hl 0 rfl) ?_
  refine xi (wr := [(ti1, .inl (cs 1, 2001, .inr (.inl u1))), (st1, .inl (cs 0, 96048, .inl q1)), (ms, .inl (cs 0, 288, .inl freshS)), (msm, .inl (cs 0, 2, .inl (smF2 (nI 1) b0))), (mst, .inl (cs 5, 2, .inr (.inr (.inr (.inr fst))))), (st0, .inl (cs 0, 96048, .inl (cpF freshS q0 48))), (mtb, .inl (cs 5, 2, .inr (.inr (.inr (.inr ftb))))), (tb0, .inl (cs 0, 8192, .inl (upd (fun _ => nI 0) 965 (nI 1)))), (mti, .inl (cs 6, 2, .inr (.inr (.inr (.inr fti))))), (ti0, .inl (cs 1, 2001, .inr (.inl (vp_updL u0 0 (lN (ww * 9))))))]) (xV (As := [.int (nI 2), .int (nI 15)]) (rest := []) C (c_X12_isSample_x l D cs hm ms mkp mtr mas mso mon mot man mst msm mtb mti mfr mbn mbs mde maa mab mba mbb 2 15 (by decide) (by decide)) kX12_139 hP hD [10] rfl (by decide +kernel) 0 rfl rfl rfl ⟨Nat.le_of_ble_eq_true rfl, Nat.le_of_ble_eq_true rfl⟩ rfl hl.1 rfl (Nat.le_of_ble_eq_true rfl) dX12_spreads_28 ⟨Nat.le_of_ble_eq_true rfl, Nat.le_of_ble_eq_true rfl⟩) hP hD hS hA [10] [0, 1, 2, 3, 4, 5, 6, 7, 8, 9] rfl rfl (by decide +kernel) (by decide +kernel) ?_
  clear hP hD hS
  try clear locs
  try clear H
  intro r_149 u_150 H locs hw_r_149 hP hD hS
  have hw_r_149 : r_149 = smB 2 15 := hw_r_149
  refine W.widen (k := 0) (n := 0) (Nat.le_of_ble_eq_true rfl) (Nat.le_of_ble_eq_true rfl) ?_
  replace hP : va_P D vwCl [(ti1, .inl (cs 1, 2001, .inr (.inl u1))), (st1, .inl (cs 0, 96048, .inl q1)), (ms, .inl (cs 0, 288, .inl freshS)), (msm, .inl (cs 0, 2, .inl (smF2 (nI 1) b0))), (mst, .inl (cs 5, 2, .inr (.inr (.inr (.inr fst))))), (st0, .inl (cs 0, 96048, .inl (cpF freshS q0 48))), (mtb, .inl (cs 5, 2, .inr (.inr (.inr (.inr ftb))))), (tb0, .inl (cs 0, 8192, .inl (upd (fun _ => nI 0) 965 (nI 1)))), (mti, .inl (cs 6, 2, .inr (.inr (.inr (.inr fti))))), (ti0, .inl (cs 1, 2001, .inr (.inl (vp_updL u0 0 (lN (ww * 9)))))), (hm, .inr (12, [.ref ms, .ref mkp, .int (nI 0), .ref mtr, .int (nI 4), .int (nI 2), .int (nI 2), .int (nI 3), .int (nI 2), .int (nI 1), .ref mas, .int (nI 0), .int (nI 0), .int (nI 0), .ref mso, .ref mon, .ref mot, .ref man, .int (nI 0), .int (nI 0), .ref mst, .ref msm, .ref mtb, .ref mti, .ref mfr, .ref mbn, .ref mbs, .ref mde, .int (nI 0), .int (nI 0), .int (nI 0), .int (nI 0), .long 0, .long 0, .ref maa, .ref mab, .ref mba, .ref mbb]))] H := hP
  replace hD : va_D A [(ti1, .inl (cs 1, 2001, .inr (.inl u1))), (st1, .inl (cs 0, 96048, .inl q1)), (ms, .inl (cs 0, 288, .inl freshS)), (msm, .inl (cs 0, 2, .inl (smF2 (nI 1) b0))), (mst, .inl (cs 5, 2, .inr (.inr (.inr (.inr fst))))), (st0, .inl (cs 0, 96048, .inl (cpF freshS q0 48))), (mtb, .inl (cs 5, 2, .inr (.inr (.inr (.inr ftb))))), (tb0, .inl (cs 0, 8192, .inl (upd (fun _ => nI 0) 965 (nI 1)))), (mti, .inl (cs 6, 2, .inr (.inr (.inr (.inr fti))))), (ti0, .inl (cs 1, 2001, .inr (.inl (vp_updL u0 0 (lN (ww * 9)))))), (hm, .inr (12, [.ref ms, .ref mkp, .int (nI 0), .ref mtr, .int (nI 4), .int (nI 2), .int (nI 2), .int (nI 3), .int (nI 2), .int (nI 1), .ref mas, .int (nI 0), .int (nI 0), .int (nI 0), .ref mso, .ref mon, .ref mot, .ref man, .int (nI 0), .int (nI 0), .ref mst, .ref msm, .ref mtb, .ref mti, .ref mfr, .ref mbn, .ref mbs, .ref mde, .int (nI 0), .int (nI 0), .int (nI 0), .int (nI 0), .long 0, .long 0, .ref maa, .ref mab, .ref mba, .ref mbb]))] := hD
  obtain rfl : r_149 = nI 0 := by rw [hw_r_149]; decide +kernel
  refine lv_if_ne (tgt := 37) hx hb dX12_spreads_31 (by decide) (fun c => absurd (by decide) c) (fun _ => ?_)
  refine lv_goto (tgt := 108) hx hb dX12_spreads_34 (by decide) ?_
  refine lv_iinc (v := nI 16) (lv' := [(4, .int (nI 16)), (5, .int (nI 0)), (3, .int (nI 2)), (0, .ref hm), (1, .int (nI 1)), (2, .int (nI 0))]) hx hb dX12_spreads_108 hl (k := 0) rfl (by decide) (by decide) rfl ?_
  clear hl
  try clear ls
  intro ls hl
  refine lv_goto (tgt := 13) hx hb dX12_spreads_111 (by decide) ?_
  refine lv_iload hx hb dX12_spreads_13 (lv_at hl 0 rfl) ?_
  refine lv_iconst (v := nI 1) hx hb dX12_spreads_15 (by decide) ?_
  refine lv_aload_n hx hb dX12_spreads_16 rfl (lv_at hl 3 rfl) ?_
  refine xget C hP 10 rfl rfl zuX12 4 (by decide) zw5_217 rfl dX12_spreads_17 ?_
  refine lv_ishl hx hb dX12_spreads_20 ?_
  refine lv_topi (nm_r (e' := nI 16) (by decide) ?_)
  refine lv_icmp_ge (tgt := 114) hx hb dX12_spreads_21 (by decide) (fun _ => ?_) (fun c => absurd (by decide) c)
  refine lv_iinc (v := nI 3) (lv' := [(3, .int (nI 3)), (4, .int (nI 16)), (5, .int (nI 0)), (0, .ref hm), (1, .int (nI 1)), (2, .int (nI 0))]) hx hb dX12_spreads_114 hl (k := 2) rfl (by decide) (by decide) rfl ?_
  clear hl
  try clear ls
  intro ls hl
  refine lv_goto (tgt := 2) hx hb dX12_spreads_117 (by decide) ?_
  refine lv_iload_n hx hb dX12_spreads_2 rfl (lv_at hl 0 rfl) ?_
  refine lv_aload_n hx hb dX12_spreads_3 rfl (lv_at hl 3 rfl) ?_
  refine xget C hP 10 rfl rfl zuX12 4 (by decide) zw5_217 rfl dX12_spreads_4 ?_
  refine lv_icmp_ge (tgt := 120) hx hb dX12_spreads_7 (by decide) (fun c => absurd c (by decide)) (fun _ => ?_)
  refine lv_iconst (v := nI 0) hx hb dX12_spreads_10 (by decide) ?_
  refine lv_istore (lv' := [(4, .int (nI 0)), (3, .int (nI 3)), (5, .int (nI 0)), (0, .ref hm), (1, .int (nI 1)), (2, .int (nI 0))]) hx hb dX12_spreads_11 hl (by decide) rfl ?_
  clear hl
  try clear ls
  intro ls hl
  refine lv_iload hx hb dX12_spreads_13 (lv_at hl 0 rfl) ?_
  refine lv_iconst (v := nI 1) hx hb dX12_spreads_15 (by decide) ?_
  refine lv_aload_n hx hb dX12_spreads_16 rfl (lv_at hl 3 rfl) ?_
  refine xget C hP 10 rfl rfl zuX12 4 (by decide) zw5_217 rfl dX12_spreads_17 ?_
  refine lv_ishl hx hb dX12_spreads_20 ?_
  refine lv_topi (nm_r (e' := nI 16) (by decide) ?_)
  refine lv_icmp_ge (tgt := 114) hx hb dX12_spreads_21 (by decide) (fun c => absurd c (by decide)) (fun _ => ?_)
  refine lv_aload_n hx hb dX12_spreads_24 rfl (lv_at hl 3 rfl) ?_
  refine lv_iload_n hx hb dX12_spreads_25 rfl (lv_at hl 1 rfl) ?_
  refine lv_iload hx hb dX12_spreads_26 (lv_at hl 0 rfl) ?_
  refine xi (wr := [(ti1, .inl (cs 1, 2001, .inr (.inl u1))), (st1, .inl (cs 0, 96048, .inl q1)), (ms, .inl (cs 0, 288, .inl freshS)), (msm, .inl (cs 0, 2, .inl (smF2 (nI 1) b0))), (mst, .inl (cs 5, 2, .inr (.inr (.inr (.inr fst))))), (st0, .inl (cs 0, 96048, .inl (cpF freshS q0 48))), (mtb, .inl (cs 5, 2, .inr (.inr (.inr (.inr ftb))))), (tb0, .inl (cs 0, 8192, .inl (upd (fun _ => nI 0) 965 (nI 1)))), (mti, .inl (cs 6, 2, .inr (.inr (.inr (.inr fti))))), (ti0, .inl (cs 1, 2001, .inr (.inl (vp_updL u0 0 (lN (ww * 9))))))]) (xV (As := [.int (nI 3), .int (nI 0)]) (rest := []) C (c_X12_isSample_x l D cs hm ms mkp mtr mas mso mon mot man mst msm mtb mti mfr mbn mbs mde maa mab mba mbb 3 0 (by decide) (by decide)) kX12_139 hP hD [10] rfl (by decide +kernel) 0 rfl rfl rfl ⟨Nat.le_of_ble_eq_true rfl, Nat.le_of_ble_eq_true rfl⟩ rfl hl.1 rfl (Nat.le_of_ble_eq_true rfl) dX12_spreads_28 ⟨Nat.le_of_ble_eq_true rfl, Nat.le_of_ble_eq_true rfl⟩) hP hD hS hA [10] [0, 1, 2, 3, 4, 5, 6, 7, 8, 9] rfl rfl (by decide +kernel) (by decide +kernel) ?_
  clear hP hD hS
  try clear locs
  try clear H
  intro r_151 u_152 H locs hw_r_151 hP hD hS
  have hw_r_151 : r_151 = smB 3 0 := hw_r_151
  refine W.widen (k := 0) (n := 0) (Nat.le_of_ble_eq_true rfl) (Nat.le_of_ble_eq_true rfl) ?_
  replace hP : va_P D vwCl [(ti1, .inl (cs 1, 2001, .inr (.inl u1))), (st1, .inl (cs 0, 96048, .inl q1)), (ms, .inl (cs 0, 288, .inl freshS)), (msm, .inl (cs 0, 2, .inl (smF2 (nI 1) b0))), (mst, .inl (cs 5, 2, .inr (.inr (.inr (.inr fst))))), (st0, .inl (cs 0, 96048, .inl (cpF freshS q0 48))), (mtb, .inl (cs 5, 2, .inr (.inr (.inr (.inr ftb))))), (tb0, .inl (cs 0, 8192, .inl (upd (fun _ => nI 0) 965 (nI 1)))), (mti, .inl (cs 6, 2, .inr (.inr (.inr (.inr fti))))), (ti0, .inl (cs 1, 2001, .inr (.inl (vp_updL u0 0 (lN (ww * 9)))))), (hm, .inr (12, [.ref ms, .ref mkp, .int (nI 0), .ref mtr, .int (nI 4), .int (nI 2), .int (nI 2), .int (nI 3), .int (nI 2), .int (nI 1), .ref mas, .int (nI 0), .int (nI 0), .int (nI 0), .ref mso, .ref mon, .ref mot, .ref man, .int (nI 0), .int (nI 0), .ref mst, .ref msm, .ref mtb, .ref mti, .ref mfr, .ref mbn, .ref mbs, .ref mde, .int (nI 0), .int (nI 0), .int (nI 0), .int (nI 0), .long 0, .long 0, .ref maa, .ref mab, .ref mba, .ref mbb]))] H := hP
  replace hD : va_D A [(ti1, .inl (cs 1, 2001, .inr (.inl u1))), (st1, .inl (cs 0, 96048, .inl q1)), (ms, .inl (cs 0, 288, .inl freshS)), (msm, .inl (cs 0, 2, .inl (smF2 (nI 1) b0))), (mst, .inl (cs 5, 2, .inr (.inr (.inr (.inr fst))))), (st0, .inl (cs 0, 96048, .inl (cpF freshS q0 48))), (mtb, .inl (cs 5, 2, .inr (.inr (.inr (.inr ftb))))), (tb0, .inl (cs 0, 8192, .inl (upd (fun _ => nI 0) 965 (nI 1)))), (mti, .inl (cs 6, 2, .inr (.inr (.inr (.inr fti))))), (ti0, .inl (cs 1, 2001, .inr (.inl (vp_updL u0 0 (lN (ww * 9)))))), (hm, .inr (12, [.ref ms, .ref mkp, .int (nI 0), .ref mtr, .int (nI 4), .int (nI 2), .int (nI 2), .int (nI 3), .int (nI 2), .int (nI 1), .ref mas, .int (nI 0), .int (nI 0), .int (nI 0), .ref mso, .ref mon, .ref mot, .ref man, .int (nI 0), .int (nI 0), .ref mst, .ref msm, .ref mtb, .ref mti, .ref mfr, .ref mbn, .ref mbs, .ref mde, .int (nI 0), .int (nI 0), .int (nI 0), .int (nI 0), .long 0, .long 0, .ref maa, .ref mab, .ref mba, .ref mbb]))] := hD
  obtain rfl : r_151 = nI 0 := by rw [hw_r_151]; decide +kernel
  refine lv_if_ne (tgt := 37) hx hb dX12_spreads_31 (by decide) (fun c => absurd (by decide) c) (fun _ => ?_)
  refine lv_goto (tgt := 108) hx hb dX12_spreads_34 (by decide) ?_
  refine lv_iinc (v := nI 1) (lv' := [(4, .int (nI 1)), (3, .int (nI 3)), (5, .int (nI 0)), (0, .ref hm), (1, .int (nI 1)), (2, .int (nI 0))]) hx hb dX12_spreads_108 hl (k := 0) rfl (by decide) (by decide) rfl ?_
  clear hl
  try clear ls
  intro ls hl
  refine lv_goto (tgt := 13) hx hb dX12_spreads_111 (by decide) ?_
  refine lv_iload hx hb dX12_spreads_13 (lv_at hl 0 rfl) ?_
  refine lv_iconst (v := nI 1) hx hb dX12_spreads_15 (by decide) ?_
  refine lv_aload_n hx hb dX12_spreads_16 rfl (lv_at hl 3 rfl) ?_
  refine xget C hP 10 rfl rfl zuX12 4 (by decide) zw5_217 rfl dX12_spreads_17 ?_
  refine lv_ishl hx hb dX12_spreads_20 ?_
  refine lv_topi (nm_r (e' := nI 16) (by decide) ?_)
  refine lv_icmp_ge (tgt := 114) hx hb dX12_spreads_21 (by decide) (fun c => absurd c (by decide)) (fun _ => ?_)
  refine lv_aload_n hx hb dX12_spreads_24 rfl (lv_at hl 3 rfl) ?_
  refine lv_iload_n hx hb dX12_spreads_25 rfl (lv_at hl 1 rfl) ?_
  refine lv_iload hx hb dX12_spreads_26 (lv_at hl 0 rfl) ?_
  refine xi (wr := [(ti1, .inl (cs 1, 2001, .inr (.inl u1))), (st1, .inl (cs 0, 96048, .inl q1)), (ms, .inl (cs 0, 288, .inl freshS)), (msm, .inl (cs 0, 2, .inl (smF2 (nI 1) b0))), (mst, .inl (cs 5, 2, .inr (.inr (.inr (.inr fst))))), (st0, .inl (cs 0, 96048, .inl (cpF freshS q0 48))), (mtb, .inl (cs 5, 2, .inr (.inr (.inr (.inr ftb))))), (tb0, .inl (cs 0, 8192, .inl (upd (fun _ => nI 0) 965 (nI 1)))), (mti, .inl (cs 6, 2, .inr (.inr (.inr (.inr fti))))), (ti0, .inl (cs 1, 2001, .inr (.inl (vp_updL u0 0 (lN (ww * 9))))))]) (xV (As := [.int (nI 3), .int (nI 1)]) (rest := []) C (c_X12_isSample_x l D cs hm ms mkp mtr mas mso mon mot man mst msm mtb mti mfr mbn mbs mde maa mab mba mbb 3 1 (by decide) (by decide)) kX12_139 hP hD [10] rfl (by decide +kernel) 0 rfl rfl rfl ⟨Nat.le_of_ble_eq_true rfl, Nat.le_of_ble_eq_true rfl⟩ rfl hl.1 rfl (Nat.le_of_ble_eq_true rfl) dX12_spreads_28 ⟨Nat.le_of_ble_eq_true rfl, Nat.le_of_ble_eq_true rfl⟩) hP hD hS hA [10] [0, 1, 2, 3, 4, 5, 6, 7, 8, 9] rfl rfl (by decide +kernel) (by decide +kernel) ?_
  clear hP hD hS
  try clear locs
  try clear H
  intro r_153 u_154 H locs hw_r_153 hP hD hS
  have hw_r_153 : r_153 = smB 3 1 := hw_r_153
  refine W.widen (k := 0) (n := 0) (Nat.le_of_ble_eq_true rfl) (Nat.le_of_ble_eq_true rfl) ?_
  replace hP : va_P D vwCl [(ti1, .inl (cs 1, 2001, .inr (.inl u1))), (st1, .inl (cs 0, 96048, .inl q1)), (ms, .inl (cs 0, 288, .inl freshS)), (msm, .inl (cs 0, 2, .inl (smF2 (nI 1) b0))), (mst, .inl (cs 5, 2, .inr (.inr (.inr (.inr fst))))), (st0, .inl (cs 0, 96048, .inl (cpF freshS q0 48))), (mtb, .inl (cs 5, 2, .inr (.inr (.inr (.inr ftb))))), (tb0, .inl (cs 0, 8192, .inl (upd (fun _ => nI 0) 965 (nI 1)))), (mti, .inl (cs 6, 2, .inr (.inr (.inr (.inr fti))))), (ti0, .inl (cs 1, 2001, .inr (.inl (vp_updL u0 0 (lN (ww * 9)))))), (hm, .inr (12, [.ref ms, .ref mkp, .int (nI 0), .ref mtr, .int (nI 4), .int (nI 2), .int (nI 2), .int (nI 3), .int (nI 2), .int (nI 1), .ref mas, .int (nI 0), .int (nI 0), .int (nI 0), .ref mso, .ref mon, .ref mot, .ref man, .int (nI 0), .int (nI 0), .ref mst, .ref msm, .ref mtb, .ref mti, .ref mfr, .ref mbn, .ref mbs, .ref mde, .int (nI 0), .int (nI 0), .int (nI 0), .int (nI 0), .long 0, .long 0, .ref maa, .ref mab, .ref mba, .ref mbb]))] H := hP
  replace hD : va_D A [(ti1, .inl (cs 1, 2001, .inr (.inl u1))), (st1, .inl (cs 0, 96048, .inl q1)), (ms, .inl (cs 0, 288, .inl freshS)), (msm, .inl (cs 0, 2, .inl (smF2 (nI 1) b0))), (mst, .inl (cs 5, 2, .inr (.inr (.inr (.inr fst))))), (st0, .inl (cs 0, 96048, .inl (cpF freshS q0 48))), (mtb, .inl (cs 5, 2, .inr (.inr (.inr (.inr ftb))))), (tb0, .inl (cs 0, 8192, .inl (upd (fun _ => nI 0) 965 (nI 1)))), (mti, .inl (cs 6, 2, .inr (.inr (.inr (.inr fti))))), (ti0, .inl (cs 1, 2001, .inr (.inl (vp_updL u0 0 (lN (ww * 9)))))), (hm, .inr (12, [.ref ms, .ref mkp, .int (nI 0), .ref mtr, .int (nI 4), .int (nI 2), .int (nI 2), .int (nI 3), .int (nI 2), .int (nI 1), .ref mas, .int (nI 0), .int (nI 0), .int (nI 0), .ref mso, .ref mon, .ref mot, .ref man, .int (nI 0), .int (nI 0), .ref mst, .ref msm, .ref mtb, .ref mti, .ref mfr, .ref mbn, .ref mbs, .ref mde, .int (nI 0), .int (nI 0), .int (nI 0), .int (nI 0), .long 0, .long 0, .ref maa, .ref mab, .ref mba, .ref mbb]))] := hD
  obtain rfl : r_153 = nI 0 := by rw [hw_r_153]; decide +kernel
  refine lv_if_ne (tgt := 37) hx hb dX12_spreads_31 (by decide) (fun c => absurd (by decide) c) (fun _ => ?_)
  refine lv_goto (tgt := 108) hx hb dX12_spreads_34 (by decide) ?_
  refine lv_iinc (v := nI 2) (lv' := [(4, .int (nI 2)), (3, .int (nI 3)), (5, .int (nI 0)), (0, .ref hm), (1, .int (nI 1)), (2, .int (nI 0))]) hx hb dX12_spreads_108 hl (k := 0) rfl (by decide) (by decide) rfl ?_
  clear hl
  try clear ls
  intro ls hl
  refine lv_goto (tgt := 13) hx hb dX12_spreads_111 (by decide) ?_
  refine lv_iload hx hb dX12_spreads_13 (lv_at hl 0 rfl) ?_
  refine lv_iconst (v := nI 1) hx hb dX12_spreads_15 (by decide) ?_
  refine lv_aload_n hx hb dX12_spreads_16 rfl (lv_at hl 3 rfl) ?_
  refine xget C hP 10 rfl rfl zuX12 4 (by decide) zw5_217 rfl dX12_spreads_17 ?_
  refine lv_ishl hx hb dX12_spreads_20 ?_
  refine lv_topi (nm_r (e' := nI 16) (by decide) ?_)
  refine lv_icmp_ge (tgt := 114) hx hb dX12_spreads_21 (by decide) (fun c => absurd c (by decide)) (fun _ => ?_)
  refine lv_aload_n hx hb dX12_spreads_24 rfl (lv_at hl 3 rfl) ?_
  refine lv_iload_n hx hb dX12_spreads_25 rfl (lv_at hl 1 rfl) ?_
  refine lv_iload hx hb dX12_spreads_26 (lv_at hl 0 rfl) ?_
  refine xi (wr := [(ti1, .inl (cs 1, 2001, .inr (.inl u1))), (st1, .inl (cs 0, 96048, .inl q1)), (ms, .inl (cs 0, 288, .inl freshS)), (msm, .inl (cs 0, 2, .inl (smF2 (nI 1) b0))), (mst, .inl (cs 5, 2, .inr (.inr (.inr (.inr fst))))), (st0, .inl (cs 0, 96048, .inl (cpF freshS q0 48))), (mtb, .inl (cs 5, 2, .inr (.inr (.inr (.inr ftb))))), (tb0, .inl (cs 0, 8192, .inl (upd (fun _ => nI 0) 965 (nI 1)))), (mti, .inl (cs 6, 2, .inr (.inr (.inr (.inr fti))))), (ti0, .inl (cs 1, 2001, .inr (.inl (vp_updL u0 0 (lN (ww * 9))))))]) (xV (As := [.int (nI 3), .int (nI 2)]) (rest := []) C (c_X12_isSample_x l D cs hm ms mkp mtr mas mso mon mot man mst msm mtb mti mfr mbn mbs mde maa mab mba mbb 3 2 (by decide) (by decide)) kX12_139 hP hD [10] rfl (by decide +kernel) 0 rfl rfl rfl ⟨Nat.le_of_ble_eq_true rfl, Nat.le_of_ble_eq_true rfl⟩ rfl hl.1 rfl (Nat.le_of_ble_eq_true rfl) dX12_spreads_28 ⟨Nat.le_of_ble_eq_true rfl, Nat.le_of_ble_eq_true rfl⟩) hP hD hS hA [10] [0, 1, 2, 3, 4, 5, 6, 7, 8, 9] rfl rfl (by decide +kernel) (by decide +kernel) ?_
  clear hP hD hS
  try clear locs
  try clear H
  intro r_155 u_156 H locs hw_r_155 hP hD hS
  have hw_r_155 : r_155 = smB 3 2 := hw_r_155
  refine W.widen (k := 0) (n := 0) (Nat.le_of_ble_eq_true rfl) (Nat.le_of_ble_eq_true rfl) ?_
  replace hP : va_P D vwCl [(ti1, .inl (cs 1, 2001, .inr (.inl u1))), (st1, .inl (cs 0, 96048, .inl q1)), (ms, .inl (cs 0, 288, .inl freshS)), (msm, .inl (cs 0, 2, .inl (smF2 (nI 1) b0))), (mst, .inl (cs 5, 2, .inr (.inr (.inr (.inr fst))))), (st0, .inl (cs 0, 96048, .inl (cpF freshS q0 48))), (mtb, .inl (cs 5, 2, .inr (.inr (.inr (.inr ftb))))), (tb0, .inl (cs 0, 8192, .inl (upd (fun _ => nI 0) 965 (nI 1)))), (mti, .inl (cs 6, 2, .inr (.inr (.inr (.inr fti))))), (ti0, .inl (cs 1, 2001, .inr (.inl (vp_updL u0 0 (lN (ww * 9)))))), (hm, .inr (12, [.ref ms, .ref mkp, .int (nI 0), .ref mtr, .int (nI 4), .int (nI 2), .int (nI 2), .int (nI 3), .int (nI 2), .int (nI 1), .ref mas, .int (nI 0), .int (nI 0), .int (nI 0), .ref mso, .ref mon, .ref mot, .ref man, .int (nI 0), .int (nI 0), .ref mst, .ref msm, .ref mtb, .ref mti, .ref mfr, .ref mbn, .ref mbs, .ref mde, .int (nI 0), .int (nI 0), .int (nI 0), .int (nI 0), .long 0, .long 0, .ref maa, .ref mab, .ref mba, .ref mbb]))] H := hP
  replace hD : va_D A [(ti1, .inl (cs 1, 2001, .inr (.inl u1))), (st1, .inl (cs 0, 96048, .inl q1)), (ms, .inl (cs 0, 288, .inl freshS)), (msm, .inl (cs 0, 2, .inl (smF2 (nI 1) b0))), (mst, .inl (cs 5, 2, .inr (.inr (.inr (.inr fst))))), (st0, .inl (cs 0, 96048, .inl (cpF freshS q0 48))), (mtb, .inl (cs 5, 2, .inr (.inr (.inr (.inr ftb))))), (tb0, .inl (cs 0, 8192, .inl (upd (fun _ => nI 0) 965 (nI 1)))), (mti, .inl (cs 6, 2, .inr (.inr (.inr (.inr fti))))), (ti0, .inl (cs 1, 2001, .inr (.inl (vp_updL u0 0 (lN (ww * 9)))))), (hm, .inr (12, [.ref ms, .ref mkp, .int (nI 0), .ref mtr, .int (nI 4), .int (nI 2), .int (nI 2), .int (nI 3), .int (nI 2), .int (nI 1), .ref mas, .int (nI 0), .int (nI 0), .int (nI 0), .ref mso, .ref mon, .ref mot, .ref man, .int (nI 0), .int (nI 0), .ref mst, .ref msm, .ref mtb, .ref mti, .ref mfr, .ref mbn, .ref mbs, .ref mde, .int (nI 0), .int (nI 0), .int (nI 0), .int (nI 0), .long 0, .long 0, .ref maa, .ref mab, .ref mba, .ref mbb]))] := hD
  obtain rfl : r_155 = nI 0 := by rw [hw_r_155]; decide +kernel
  refine lv_if_ne (tgt := 37) hx hb dX12_spreads_31 (by decide) (fun c => absurd (by decide) c) (fun _ => ?_)
  refine lv_goto (tgt := 108) hx hb dX12_spreads_34 (by decide) ?_
  refine lv_iinc (v := nI 3) (lv' := [(4, .int (nI 3)), (3, .int (nI 3)), (5, .int (nI 0)), (0, .ref hm), (1, .int (nI 1)), (2, .int (nI 0))]) hx hb dX12_spreads_108 hl (k := 0) rfl (by decide) (by decide) rfl ?_
  clear hl
  try clear ls
  intro ls hl
  refine lv_goto (tgt := 13) hx hb dX12_spreads_111 (by decide) ?_
  refine lv_iload hx hb dX12_spreads_13 (lv_at hl 0 rfl) ?_
  refine lv_iconst (v := nI 1) hx hb dX12_spreads_15 (by decide) ?_
  refine lv_aload_n hx hb dX12_spreads_16 rfl (lv_at hl 3 rfl) ?_
  refine xget C hP 10 rfl rfl zuX12 4 (by decide) zw5_217 rfl dX12_spreads_17 ?_
  refine lv_ishl hx hb dX12_spreads_20 ?_
  refine lv_topi (nm_r (e' := nI 16) (by decide) ?_)
  refine lv_icmp_ge (tgt := 114) hx hb dX12_spreads_21 (by decide) (fun c => absurd c (by decide)) (fun _ => ?_)
  refine lv_aload_n hx hb dX12_spreads_24 rfl (lv_at hl 3 rfl) ?_
  refine lv_iload_n hx hb dX12_spreads_25 rfl (lv_at hl 1 rfl) ?_
  refine lv_iload hx hb dX12_spreads_26 (lv_at hl 0 rfl) ?_
  refine xi (wr := [(ti1, .inl (cs 1, 2001, .inr (.inl u1))), (st1, .inl (cs 0, 96048, .inl q1)), (ms, .inl (cs 0, 288, .inl freshS)), (msm, .inl (cs 0, 2, .inl (smF2 (nI 1) b0))), (mst, .inl (cs 5, 2, .inr (.inr (.inr (.inr fst))))), (st0, .inl (cs 0, 96048, .inl (cpF freshS q0 48))), (mtb, .inl (cs 5, 2, .inr (.inr (.inr (.inr ftb))))), (tb0, .inl (cs 0, 8192, .inl (upd (fun _ => nI 0) 965 (nI 1)))), (mti, .inl (cs 6, 2, .inr (.inr (.inr (.inr fti))))), (ti0, .inl (cs 1, 2001, .inr (.inl (vp_updL u0 0 (lN (ww * 9))))))]) (xV (As := [.int (nI 3), .int (nI 3)]) (rest := []) C (c_X12_isSample_x l D cs hm ms mkp mtr mas mso mon mot man mst msm mtb mti mfr mbn mbs mde maa mab mba mbb 3 3 (by decide) (by decide)) kX12_139 hP hD [10] rfl (by decide +kernel) 0 rfl rfl rfl ⟨Nat.le_of_ble_eq_true rfl, Nat.le_of_ble_eq_true rfl⟩ rfl hl.1 rfl (Nat.le_of_ble_eq_true rfl) dX12_spreads_28 ⟨Nat.le_of_ble_eq_true rfl, Nat.le_of_ble_eq_true rfl⟩) hP hD hS hA [10] [0, 1, 2, 3, 4, 5, 6, 7, 8, 9] rfl rfl (by decide +kernel) (by decide +kernel) ?_
  clear hP hD hS
  try clear locs
  try clear H
  intro r_157 u_158 H locs hw_r_157 hP hD hS
  have hw_r_157 : r_157 = smB 3 3 := hw_r_157
  refine W.widen (k := 0) (n := 0) (Nat.le_of_ble_eq_true rfl) (Nat.le_of_ble_eq_true rfl) ?_
  replace hP : va_P D vwCl [(ti1, .inl (cs 1, 2001, .inr (.inl u1))), (st1, .inl (cs 0, 96048, .inl q1)), (ms, .inl (cs 0, 288, .inl freshS)), (msm, .inl (cs 0, 2, .inl (smF2 (nI 1) b0))), (mst, .inl (cs 5, 2, .inr (.inr (.inr (.inr fst))))), (st0, .inl (cs 0, 96048, .inl (cpF freshS q0 48))), (mtb, .inl (cs 5, 2, .inr (.inr (.inr (.inr ftb))))), (tb0, .inl (cs 0, 8192, .inl (upd (fun _ => nI 0) 965 (nI 1)))), (mti, .inl (cs 6, 2, .inr (.inr (.inr (.inr fti))))), (ti0, .inl (cs 1, 2001, .inr (.inl (vp_updL u0 0 (lN (ww * 9)))))), (hm, .inr (12, [.ref ms, .ref mkp, .int (nI 0), .ref mtr, .int (nI 4), .int (nI 2), .int (nI 2), .int (nI 3), .int (nI 2), .int (nI 1), .ref mas, .int (nI 0), .int (nI 0), .int (nI 0), .ref mso, .ref mon, .ref mot, .ref man, .int (nI 0), .int (nI 0), .ref mst, .ref msm, .ref mtb, .ref mti, .ref mfr, .ref mbn, .ref mbs, .ref mde, .int (nI 0), .int (nI 0), .int (nI 0), .int (nI 0), .long 0, .long 0, .ref maa, .ref mab, .ref mba, .ref mbb]))] H := hP
  replace hD : va_D A [(ti1, .inl (cs 1, 2001, .inr (.inl u1))), (st1, .inl (cs 0, 96048, .inl q1)), (ms, .inl (cs 0, 288, .inl freshS)), (msm, .inl (cs 0, 2, .inl (smF2 (nI 1) b0))), (mst, .inl (cs 5, 2, .inr (.inr (.inr (.inr fst))))), (st0, .inl (cs 0, 96048, .inl (cpF freshS q0 48))), (mtb, .inl (cs 5, 2, .inr (.inr (.inr (.inr ftb))))), (tb0, .inl (cs 0, 8192, .inl (upd (fun _ => nI 0) 965 (nI 1)))), (mti, .inl (cs 6, 2, .inr (.inr (.inr (.inr fti))))), (ti0, .inl (cs 1, 2001, .inr (.inl (vp_updL u0 0 (lN (ww * 9)))))), (hm, .inr (12, [.ref ms, .ref mkp, .int (nI 0), .ref mtr, .int (nI 4), .int (nI 2), .int (nI 2), .int (nI 3), .int (nI 2), .int (nI 1), .ref mas, .int (nI 0), .int (nI 0), .int (nI 0), .ref mso, .ref mon, .ref mot, .ref man, .int (nI 0), .int (nI 0), .ref mst, .ref msm, .ref mtb, .ref mti, .ref mfr, .ref mbn, .ref mbs, .ref mde, .int (nI 0), .int (nI 0), .int (nI 0), .int (nI 0), .long 0, .long 0, .ref maa, .ref mab, .ref mba, .ref mbb]))] := hD
  obtain rfl : r_157 = nI 1 := by rw [hw_r_157]; decide +kernel
  refine lv_if_ne (tgt := 37) hx hb dX12_spreads_31 (by decide) (fun _ => ?_) (fun c => absurd c (by decide))
  refine lv_aload_n hx hb dX12_spreads_37 rfl (lv_at hl 3 rfl) ?_
  refine lv_iload_n hx hb dX12_spreads_38 rfl (lv_at hl 4 rfl) ?_
  refine lv_iload_n hx hb dX12_spreads_39 rfl (lv_at hl 5 rfl) ?_
  refine xv (wr := [(ti1, .inl (cs 1, 2001, .inr (.inl u1))), (msm, .inl (cs 0, 2, .inl (smF2 (nI 1) b0))), (st0, .inl (cs 0, 96048, .inl (cpF freshS q0 48))), (mtb, .inl (cs 5, 2, .inr (.inr (.inr (.inr ftb))))), (tb0, .inl (cs 0, 8192, .inl (upd (fun _ => nI 0) 965 (nI 1)))), (mti, .inl (cs 6, 2, .inr (.inr (.inr (.inr fti))))), (ti0, .inl (cs 1, 2001, .inr (.inl (vp_updL u0 0 (lN (ww * 9))))))]) (xV (As := [.int (nI 1), .int (nI 0)]) (rest := []) C (c_X12_brings_1 l D cs hm ms mkp mtr mas mso mon mot man mst msm mtb mti mfr mbn mbs mde maa mab mba mbb st1 fst q1 hf1 hq) kX12_203 hP hD [10, 2, 4, 1] rfl (by decide +kernel) 0 rfl rfl rfl ⟨Nat.le_of_ble_eq_true rfl, Nat.le_of_ble_eq_true rfl⟩ rfl hl.1 rfl (Nat.le_of_ble_eq_true rfl) dX12_spreads_40 ⟨Nat.le_of_ble_eq_true rfl, Nat.le_of_ble_eq_true rfl⟩) hP hD hS hA [10, 2, 4, 1] [0, 3, 5, 6, 7, 8, 9] rfl rfl (by decide +kernel) (by decide +kernel) ?_
  clear hP hD hS
  try clear locs
  try clear H
  intro u_160 H locs hw_r_159 hP hD hS
  refine W.widen (k := 0) (n := 0) (Nat.le_of_ble_eq_true rfl) (Nat.le_of_ble_eq_true rfl) ?_
  replace hP : va_P D vwCl [(ti1, .inl (cs 1, 2001, .inr (.inl u1))), (msm, .inl (cs 0, 2, .inl (smF2 (nI 1) b0))), (st0, .inl (cs 0, 96048, .inl (cpF freshS q0 48))), (mtb, .inl (cs 5, 2, .inr (.inr (.inr (.inr ftb))))), (tb0, .inl (cs 0, 8192, .inl (upd (fun _ => nI 0) 965 (nI 1)))), (mti, .inl (cs 6, 2, .inr (.inr (.inr (.inr fti))))), (ti0, .inl (cs 1, 2001, .inr (.inl (vp_updL u0 0 (lN (ww * 9)))))), (hm, .inr (12, [.ref ms, .ref mkp, .int (nI 0), .ref mtr, .int (nI 4), .int (nI 2), .int (nI 2), .int (nI 3), .int (nI 2), .int (nI 1), .ref mas, .int (nI 0), .int (nI 0), .int (nI 0), .ref mso, .ref mon, .ref mot, .ref man, .int (nI 0), .int (nI 0), .ref mst, .ref msm, .ref mtb, .ref mti, .ref mfr, .ref mbn, .ref mbs, .ref mde, .int (nI 0), .int (nI 0), .int (nI 0), .int (nI 0), .long 0, .long 0, .ref maa, .ref mab, .ref mba, .ref mbb])), (ms, .inl (cs 0, 288, .inl freshS)), (mst, .inl (cs 5, 2, .inr (.inr (.inr (.inr fst))))), (st1, .inl (cs 0, 96048, .inl q1))] H := hP
  replace hD : va_D A [(ti1, .inl (cs 1, 2001, .inr (.inl u1))), (msm, .inl (cs 0, 2, .inl (smF2 (nI 1) b0))), (st0, .inl (cs 0, 96048, .inl (cpF freshS q0 48))), (mtb, .inl (cs 5, 2, .inr (.inr (.inr (.inr ftb))))), (tb0, .inl (cs 0, 8192, .inl (upd (fun _ => nI 0) 965 (nI 1)))), (mti, .inl (cs 6, 2, .inr (.inr (.inr (.inr fti))))), (ti0, .inl (cs 1, 2001, .inr (.inl (vp_updL u0 0 (lN (ww * 9)))))), (hm, .inr (12, [.ref ms, .ref mkp, .int (nI 0), .ref mtr, .int (nI 4), .int (nI 2), .int (nI 2), .int (nI 3), .int (nI 2), .int (nI 1), .ref mas, .int (nI 0), .int (nI 0), .int (nI 0), .ref mso, .ref mon, .ref mot, .ref man, .int (nI 0), .int (nI 0), .ref mst, .ref msm, .ref mtb, .ref mti, .ref mfr, .ref mbn, .ref mbs, .ref mde, .int (nI 0), .int (nI 0), .int (nI 0), .int (nI 0), .long 0, .long 0, .ref maa, .ref mab, .ref mba, .ref mbb])), (ms, .inl (cs 0, 288, .inl freshS)), (mst, .inl (cs 5, 2, .inr (.inr (.inr (.inr fst))))), (st1, .inl (cs 0, 96048, .inl q1))] := hD
  refine lv_aload_n hx hb dX12_spreads_43 rfl (lv_at hl 3 rfl) ?_
  refine lv_iload_n hx hb dX12_spreads_44 rfl (lv_at hl 1 rfl) ?_
  refine xi (wr := [(ti1, .inl (cs 1, 2001, .inr (.inl u1))), (msm, .inl (cs 0, 2, .inl (smF2 (nI 1) b0))), (st0, .inl (cs 0, 96048, .inl (cpF freshS q0 48))), (mtb, .inl (cs 5, 2, .inr (.inr (.inr (.inr ftb))))), (tb0, .inl (cs 0, 8192, .inl (upd (fun _ => nI 0) 965 (nI 1)))), (mti, .inl (cs 6, 2, .inr (.inr (.inr (.inr fti))))), (ti0, .inl (cs 1, 2001, .inr (.inl (vp_updL u0 0 (lN (ww * 9)))))), (mst, .inl (cs 5, 2, .inr (.inr (.inr (.inr fst))))), (st1, .inl (cs 0, 96048, .inl q1))]) (xV (As := [.int (nI 3)]) (rest := []) C (c_X12_canAsk_z l D cs hm ms mkp mtr mas mso mon mot man mst msm mtb mti mfr mbn mbs mde maa mab mba mbb 3 (by decide)) kX12_142 hP hD [7, 8] rfl (by decide +kernel) 0 rfl rfl rfl ⟨Nat.le_of_ble_eq_true rfl, Nat.le_of_ble_eq_true rfl⟩ rfl hl.1 rfl (Nat.le_of_ble_eq_true rfl) dX12_spreads_45 ⟨Nat.le_of_ble_eq_true rfl, Nat.le_of_ble_eq_true rfl⟩) hP hD hS hA [7, 8] [0, 1, 2, 3, 4, 5, 6, 9, 10] rfl rfl (by decide +kernel) (by decide +kernel) ?_
  clear hP hD hS
  try clear locs
  try clear H
  intro r_161 u_162 H locs hw_r_161 hP hD hS
  have hw_r_161 : r_161 = nI 0 := hw_r_161
  refine W.widen (k := 0) (n := 0) (Nat.le_of_ble_eq_true rfl) (Nat.le_of_ble_eq_true rfl) ?_
  replace hP : va_P D vwCl [(ti1, .inl (cs 1, 2001, .inr (.inl u1))), (msm, .inl (cs 0, 2, .inl (smF2 (nI 1) b0))), (st0, .inl (cs 0, 96048, .inl (cpF freshS q0 48))), (mtb, .inl (cs 5, 2, .inr (.inr (.inr (.inr ftb))))), (tb0, .inl (cs 0, 8192, .inl (upd (fun _ => nI 0) 965 (nI 1)))), (mti, .inl (cs 6, 2, .inr (.inr (.inr (.inr fti))))), (ti0, .inl (cs 1, 2001, .inr (.inl (vp_updL u0 0 (lN (ww * 9)))))), (mst, .inl (cs 5, 2, .inr (.inr (.inr (.inr fst))))), (st1, .inl (cs 0, 96048, .inl q1)), (hm, .inr (12, [.ref ms, .ref mkp, .int (nI 0), .ref mtr, .int (nI 4), .int (nI 2), .int (nI 2), .int (nI 3), .int (nI 2), .int (nI 1), .ref mas, .int (nI 0), .int (nI 0), .int (nI 0), .ref mso, .ref mon, .ref mot, .ref man, .int (nI 0), .int (nI 0), .ref mst, .ref msm, .ref mtb, .ref mti, .ref mfr, .ref mbn, .ref mbs, .ref mde, .int (nI 0), .int (nI 0), .int (nI 0), .int (nI 0), .long 0, .long 0, .ref maa, .ref mab, .ref mba, .ref mbb])), (ms, .inl (cs 0, 288, .inl freshS))] H := hP
  replace hD : va_D A [(ti1, .inl (cs 1, 2001, .inr (.inl u1))), (msm, .inl (cs 0, 2, .inl (smF2 (nI 1) b0))), (st0, .inl (cs 0, 96048, .inl (cpF freshS q0 48))), (mtb, .inl (cs 5, 2, .inr (.inr (.inr (.inr ftb))))), (tb0, .inl (cs 0, 8192, .inl (upd (fun _ => nI 0) 965 (nI 1)))), (mti, .inl (cs 6, 2, .inr (.inr (.inr (.inr fti))))), (ti0, .inl (cs 1, 2001, .inr (.inl (vp_updL u0 0 (lN (ww * 9)))))), (mst, .inl (cs 5, 2, .inr (.inr (.inr (.inr fst))))), (st1, .inl (cs 0, 96048, .inl q1)), (hm, .inr (12, [.ref ms, .ref mkp, .int (nI 0), .ref mtr, .int (nI 4), .int (nI 2), .int (nI 2), .int (nI 3), .int (nI 2), .int (nI 1), .ref mas, .int (nI 0), .int (nI 0), .int (nI 0), .ref mso, .ref mon, .ref mot, .ref man, .int (nI 0), .int (nI 0), .ref mst, .ref msm, .ref mtb, .ref mti, .ref mfr, .ref mbn, .ref mbs, .ref mde, .int (nI 0), .int (nI 0), .int (nI 0), .int (nI 0), .long 0, .long 0, .ref maa, .ref mab, .ref mba, .ref mbb])), (ms, .inl (cs 0, 288, .inl freshS))] := hD
  subst hw_r_161
  refine lv_if_eq (tgt := 67) hx hb dX12_spreads_48 (by decide) (fun _ => ?_) (fun c => absurd (by decide) c)
  refine lv_aload_n hx hb dX12_spreads_67 rfl (lv_at hl 3 rfl) ?_
  refine lv_iconst (v := nI 1) hx hb dX12_spreads_68 (by decide) ?_
  refine lv_iload_n hx hb dX12_spreads_69 rfl (lv_at hl 4 rfl) ?_
  refine lv_isub hx hb dX12_spreads_70 ?_
  refine lv_topi (nm_r (e' := nI 0) (by decide) ?_)
  refine lv_sipush (v := nI 2000) hx hb dX12_spreads_71 (by decide) ?_
  refine xi (wr := [(ti1, .inl (cs 1, 2001, .inr (.inl u1))), (st1, .inl (cs 0, 96048, .inl q1))]) (xV (As := [.int (nI 0), .int (nI 2000)]) (rest := []) C (c_X12_numberOf_b0 l D cs hm ms mkp mtr mas mso mon mot man mst msm mtb mti mfr mbn mbs mde maa mab mba mbb st0 tb0 ti0 fst ftb fti (smF2 (nI 1) b0) (cpF freshS q0 48) (upd (fun _ => nI 0) 965 (nI 1)) (vp_updL u0 0 (lN (ww * 9))) hf0 hg ht0 (if_pos rfl) (fun j hj => cpF_lt hj)) kX12_197 hP hD [9, 10, 1, 7, 2, 3, 4, 5, 6] rfl (by decide +kernel) 0 rfl rfl rfl ⟨Nat.le_of_ble_eq_true rfl, Nat.le_of_ble_eq_true rfl⟩ rfl hl.1 rfl (Nat.le_of_ble_eq_true rfl) dX12_spreads_74 ⟨Nat.le_of_ble_eq_true rfl, Nat.le_of_ble_eq_true rfl⟩) hP hD hS hA [9, 10, 1, 7, 2, 3, 4, 5, 6] [0, 8] rfl rfl (by decide +kernel) (by decide +kernel) ?_
  clear hP hD hS
  try clear locs
  try clear H
  intro r_163 u_164 H locs hw_r_163 hP hD hS
  have hw_r_163 : r_163 = nI 0 := hw_r_163
  refine W.widen (k := 0) (n := 0) (Nat.le_of_ble_eq_true rfl) (Nat.le_of_ble_eq_true rfl) ?_
  replace hP : va_P D vwCl [(ti1, .inl (cs 1, 2001, .inr (.inl u1))), (st1, .inl (cs 0, 96048, .inl q1)), (hm, .inr (12, [.ref ms, .ref mkp, .int (nI 0), .ref mtr, .int (nI 4), .int (nI 2), .int (nI 2), .int (nI 3), .int (nI 2), .int (nI 1), .ref mas, .int (nI 0), .int (nI 0), .int (nI 0), .ref mso, .ref mon, .ref mot, .ref man, .int (nI 0), .int (nI 0), .ref mst, .ref msm, .ref mtb, .ref mti, .ref mfr, .ref mbn, .ref mbs, .ref mde, .int (nI 0), .int (nI 0), .int (nI 0), .int (nI 0), .long 0, .long 0, .ref maa, .ref mab, .ref mba, .ref mbb])), (ms, .inl (cs 0, 288, .inl freshS)), (msm, .inl (cs 0, 2, .inl (smF2 (nI 1) b0))), (mst, .inl (cs 5, 2, .inr (.inr (.inr (.inr fst))))), (st0, .inl (cs 0, 96048, .inl (cpF freshS q0 48))), (mtb, .inl (cs 5, 2, .inr (.inr (.inr (.inr ftb))))), (tb0, .inl (cs 0, 8192, .inl (upd (fun _ => nI 0) 965 (nI 1)))), (mti, .inl (cs 6, 2, .inr (.inr (.inr (.inr fti))))), (ti0, .inl (cs 1, 2001, .inr (.inl (vp_updL u0 0 (lN (ww * 9))))))] H := hP
  replace hD : va_D A [(ti1, .inl (cs 1, 2001, .inr (.inl u1))), (st1, .inl (cs 0, 96048, .inl q1)), (hm, .inr (12, [.ref ms, .ref mkp, .int (nI 0), .ref mtr, .int (nI 4), .int (nI 2), .int (nI 2), .int (nI 3), .int (nI 2), .int (nI 1), .ref mas, .int (nI 0), .int (nI 0), .int (nI 0), .ref mso, .ref mon, .ref mot, .ref man, .int (nI 0), .int (nI 0), .ref mst, .ref msm, .ref mtb, .ref mti, .ref mfr, .ref mbn, .ref mbs, .ref mde, .int (nI 0), .int (nI 0), .int (nI 0), .int (nI 0), .long 0, .long 0, .ref maa, .ref mab, .ref mba, .ref mbb])), (ms, .inl (cs 0, 288, .inl freshS)), (msm, .inl (cs 0, 2, .inl (smF2 (nI 1) b0))), (mst, .inl (cs 5, 2, .inr (.inr (.inr (.inr fst))))), (st0, .inl (cs 0, 96048, .inl (cpF freshS q0 48))), (mtb, .inl (cs 5, 2, .inr (.inr (.inr (.inr ftb))))), (tb0, .inl (cs 0, 8192, .inl (upd (fun _ => nI 0) 965 (nI 1)))), (mti, .inl (cs 6, 2, .inr (.inr (.inr (.inr fti))))), (ti0, .inl (cs 1, 2001, .inr (.inl (vp_updL u0 0 (lN (ww * 9))))))] := hD
  subst hw_r_163
  refine lv_istore (lv' := [(5, .int (nI 0)), (4, .int (nI 3)), (3, .int (nI 3)), (0, .ref hm), (1, .int (nI 1)), (2, .int (nI 0))]) hx hb dX12_spreads_77 hl (by decide) rfl ?_
  clear hl
  try clear ls
  intro ls hl
  refine lv_iload hx hb dX12_spreads_79 (lv_at hl 0 rfl) ?_
  refine lv_if_ge (tgt := 86) hx hb dX12_spreads_81 (by decide) (fun _ => ?_) (fun c => absurd (by decide) c)
  refine lv_aload_n hx hb dX12_spreads_86 rfl (lv_at hl 3 rfl) ?_
  refine xget C hP 2 rfl rfl zuX12 23 (by decide) zw5_236 rfl dX12_spreads_87 ?_
  refine lv_iconst (v := nI 1) hx hb dX12_spreads_90 (by decide) ?_
  refine lv_iload_n hx hb dX12_spreads_91 rfl (lv_at hl 4 rfl) ?_
  refine lv_isub hx hb dX12_spreads_92 ?_
  refine lv_topi (nm_r (e' := nI 0) (by decide) ?_)
  refine xaald C hP 9 6 rfl rfl rfl 0 rfl (by decide) (by decide) ht0 dX12_spreads_93 ?_
  refine lv_iload hx hb dX12_spreads_94 (lv_at hl 0 rfl) ?_
  refine lv_dup2_11 hx hb dX12_spreads_96 rfl rfl ?_
  refine xlald C hP 10 rfl 0 rfl (by decide) (by decide) dX12_spreads_97 ?_
  refine lv_topl (nm_r (e' := lN (ww * 9)) (upL_0 _ _) ?_)
  refine lv_aload_n hx hb dX12_spreads_98 rfl (lv_at hl 3 rfl) ?_
  refine xget C hP 2 rfl rfl zuX12 23 (by decide) zw5_236 rfl dX12_spreads_99 ?_
  refine lv_iload_n hx hb dX12_spreads_102 rfl (lv_at hl 4 rfl) ?_
  refine xaald C hP 9 6 rfl rfl rfl 1 rfl (by decide) (by decide) ht1 dX12_spreads_103 ?_
  refine lv_iload_n hx hb dX12_spreads_104 rfl (lv_at hl 5 rfl) ?_
  refine xlald C hP 0 rfl 0 rfl (by decide) (by decide) dX12_spreads_105 ?_
  refine lv_topl (nm_r (e' := lN ww) hw ?_)
  refine lv_ladd hx hb dX12_spreads_106 ?_
  refine lv_topl (nm_r (e' := lN (ww * 10)) (lN_a ww 9) ?_)
  refine xlast C hP hD hS 10 rfl 0 rfl (by decide) (by decide) dX12_spreads_107 ?_
  clear hP hD hS
  try clear locs
  try clear H
  intro H locs hP hD hS
  replace hP : va_P D vwCl [(ti1, .inl (cs 1, 2001, .inr (.inl u1))), (st1, .inl (cs 0, 96048, .inl q1)), (hm, .inr (12, [.ref ms, .ref mkp, .int (nI 0), .ref mtr, .int (nI 4), .int (nI 2), .int (nI 2), .int (nI 3), .int (nI 2), .int (nI 1), .ref mas, .int (nI 0), .int (nI 0), .int (nI 0), .ref mso, .ref mon, .ref mot, .ref man, .int (nI 0), .int (nI 0), .ref mst, .ref msm, .ref mtb, .ref mti, .ref mfr, .ref mbn, .ref mbs, .ref mde, .int (nI 0), .int (nI 0), .int (nI 0), .int (nI 0), .long 0, .long 0, .ref maa, .ref mab, .ref mba, .ref mbb])), (ms, .inl (cs 0, 288, .inl freshS)), (msm, .inl (cs 0, 2, .inl (smF2 (nI 1) b0))), (mst, .inl (cs 5, 2, .inr (.inr (.inr (.inr fst))))), (st0, .inl (cs 0, 96048, .inl (cpF freshS q0 48))), (mtb, .inl (cs 5, 2, .inr (.inr (.inr (.inr ftb))))), (tb0, .inl (cs 0, 8192, .inl (upd (fun _ => nI 0) 965 (nI 1)))), (mti, .inl (cs 6, 2, .inr (.inr (.inr (.inr fti))))), (ti0, .inl (cs 1, 2001, .inr (.inl (vp_updL (vp_updL u0 0 (lN (ww * 9))) 0 (lN (ww * 10))))))] H := hP
  replace hD : va_D A [(ti1, .inl (cs 1, 2001, .inr (.inl u1))), (st1, .inl (cs 0, 96048, .inl q1)), (hm, .inr (12, [.ref ms, .ref mkp, .int (nI 0), .ref mtr, .int (nI 4), .int (nI 2), .int (nI 2), .int (nI 3), .int (nI 2), .int (nI 1), .ref mas, .int (nI 0), .int (nI 0), .int (nI 0), .ref mso, .ref mon, .ref mot, .ref man, .int (nI 0), .int (nI 0), .ref mst, .ref msm, .ref mtb, .ref mti, .ref mfr, .ref mbn, .ref mbs, .ref mde, .int (nI 0), .int (nI 0), .int (nI 0), .int (nI 0), .long 0, .long 0, .ref maa, .ref mab, .ref mba, .ref mbb])), (ms, .inl (cs 0, 288, .inl freshS)), (msm, .inl (cs 0, 2, .inl (smF2 (nI 1) b0))), (mst, .inl (cs 5, 2, .inr (.inr (.inr (.inr fst))))), (st0, .inl (cs 0, 96048, .inl (cpF freshS q0 48))), (mtb, .inl (cs 5, 2, .inr (.inr (.inr (.inr ftb))))), (tb0, .inl (cs 0, 8192, .inl (upd (fun _ => nI 0) 965 (nI 1)))), (mti, .inl (cs 6, 2, .inr (.inr (.inr (.inr fti))))), (ti0, .inl (cs 1, 2001, .inr (.inl (vp_updL (vp_updL u0 0 (lN (ww * 9))) 0 (lN (ww * 10))))))] := hD
  have hPD := xcongl (q0 := 10) (vp_updL u0 0 (lN (ww * 10))) hP hD rfl (fun j hj => upL_1 u0 _ _ j)
  clear hP hD
  obtain ⟨hP, hD⟩ := hPD
  replace hP : va_P D vwCl [(ti1, .inl (cs 1, 2001, .inr (.inl u1))), (st1, .inl (cs 0, 96048, .inl q1)), (hm, .inr (12, [.ref ms, .ref mkp, .int (nI 0), .ref mtr, .int (nI 4), .int (nI 2), .int (nI 2), .int (nI 3), .int (nI 2), .int (nI 1), .ref mas, .int (nI 0), .int (nI 0), .int (nI 0), .ref mso, .ref mon, .ref mot, .ref man, .int (nI 0), .int (nI 0), .ref mst, .ref msm, .ref mtb, .ref mti, .ref mfr, .ref mbn, .ref mbs, .ref mde, .int (nI 0), .int (nI 0), .int (nI 0), .int (nI 0), .long 0, .long 0, .ref maa, .ref mab, .ref mba, .ref mbb])), (ms, .inl (cs 0, 288, .inl freshS)), (msm, .inl (cs 0, 2, .inl (smF2 (nI 1) b0))), (mst, .inl (cs 5, 2, .inr (.inr (.inr (.inr fst))))), (st0, .inl (cs 0, 96048, .inl (cpF freshS q0 48))), (mtb, .inl (cs 5, 2, .inr (.inr (.inr (.inr ftb))))), (tb0, .inl (cs 0, 8192, .inl (upd (fun _ => nI 0) 965 (nI 1)))), (mti, .inl (cs 6, 2, .inr (.inr (.inr (.inr fti))))), (ti0, .inl (cs 1, 2001, .inr (.inl (vp_updL u0 0 (lN (ww * 10))))))] H := hP
  replace hD : va_D A [(ti1, .inl (cs 1, 2001, .inr (.inl u1))), (st1, .inl (cs 0, 96048, .inl q1)), (hm, .inr (12, [.ref ms, .ref mkp, .int (nI 0), .ref mtr, .int (nI 4), .int (nI 2), .int (nI 2), .int (nI 3), .int (nI 2), .int (nI 1), .ref mas, .int (nI 0), .int (nI 0), .int (nI 0), .ref mso, .ref mon, .ref mot, .ref man, .int (nI 0), .int (nI 0), .ref mst, .ref msm, .ref mtb, .ref mti, .ref mfr, .ref mbn, .ref mbs, .ref mde, .int (nI 0), .int (nI 0), .int (nI 0), .int (nI 0), .long 0, .long 0, .ref maa, .ref mab, .ref mba, .ref mbb])), (ms, .inl (cs 0, 288, .inl freshS)), (msm, .inl (cs 0, 2, .inl (smF2 (nI 1) b0))), (mst, .inl (cs 5, 2, .inr (.inr (.inr (.inr fst))))), (st0, .inl (cs 0, 96048, .inl (cpF freshS q0 48))), (mtb, .inl (cs 5, 2, .inr (.inr (.inr (.inr ftb))))), (tb0, .inl (cs 0, 8192, .inl (upd (fun _ => nI 0) 965 (nI 1)))), (mti, .inl (cs 6, 2, .inr (.inr (.inr (.inr fti))))), (ti0, .inl (cs 1, 2001, .inr (.inl (vp_updL u0 0 (lN (ww * 10))))))] := hD
  refine lv_iinc (v := nI 4) (lv' := [(4, .int (nI 4)), (5, .int (nI 0)), (3, .int (nI 3)), (0, .ref hm), (1, .int (nI 1)), (2, .int (nI 0))]) hx hb dX12_spreads_108 hl (k := 1) rfl (by decide) (by decide) rfl ?_
  clear hl
  try clear ls
  intro ls hl
  refine lv_goto (tgt := 13) hx hb dX12_spreads_111 (by decide) ?_
  refine lv_iload hx hb dX12_spreads_13 (lv_at hl 0 rfl) ?_
  refine lv_iconst (v := nI 1) hx hb dX12_spreads_15 (by decide) ?_
  refine lv_aload_n hx hb dX12_spreads_16 rfl (lv_at hl 3 rfl) ?_
  refine xget C hP 2 rfl rfl zuX12 4 (by decide) zw5_217 rfl dX12_spreads_17 ?_
  refine lv_ishl hx hb dX12_spreads_20 ?_
  refine lv_topi (nm_r (e' := nI 16) (by decide) ?_)
  refine lv_icmp_ge (tgt := 114) hx hb dX12_spreads_21 (by decide) (fun c => absurd c (by decide)) (fun _ => ?_)
  refine lv_aload_n hx hb dX12_spreads_24 rfl (lv_at hl 3 rfl) ?_
  refine lv_iload_n hx hb dX12_spreads_25 rfl (lv_at hl 2 rfl) ?_
  refine lv_iload hx hb dX12_spreads_26 (lv_at hl 0 rfl) ?_
  refine xi (wr := [(ti1, .inl (cs 1, 2001, .inr (.inl u1))), (st1, .inl (cs 0, 96048, .inl q1)), (ms, .inl (cs 0, 288, .inl freshS)), (msm, .inl (cs 0, 2, .inl (smF2 (nI 1) b0))), (mst, .inl (cs 5, 2, .inr (.inr (.inr (.inr fst))))), (st0, .inl (cs 0, 96048, .inl (cpF freshS q0 48))), (mtb, .inl (cs 5, 2, .inr (.inr (.inr (.inr ftb))))), (tb0, .inl (cs 0, 8192, .inl (upd (fun _ => nI 0) 965 (nI 1)))), (mti, .inl (cs 6, 2, .inr (.inr (.inr (.inr fti))))), (ti0, .inl (cs 1, 2001, .inr (.inl (vp_updL u0 0 (lN (ww * 10))))))]) (xV (As := [.int (nI 3), .int (nI 4)]) (rest := []) C (c_X12_isSample_x l D cs hm ms mkp mtr mas mso mon mot man mst msm mtb mti mfr mbn mbs mde maa mab mba mbb 3 4 (by decide) (by decide)) kX12_139 hP hD [2] rfl (by decide +kernel) 0 rfl rfl rfl ⟨Nat.le_of_ble_eq_true rfl, Nat.le_of_ble_eq_true rfl⟩ rfl hl.1 rfl (Nat.le_of_ble_eq_true rfl) dX12_spreads_28 ⟨Nat.le_of_ble_eq_true rfl, Nat.le_of_ble_eq_true rfl⟩) hP hD hS hA [2] [0, 1, 3, 4, 5, 6, 7, 8, 9, 10] rfl rfl (by decide +kernel) (by decide +kernel) ?_
  clear hP hD hS
  try clear locs
  try clear H
  intro r_165 u_166 H locs hw_r_165 hP hD hS
  have hw_r_165 : r_165 = smB 3 4 := hw_r_165
  refine W.widen (k := 0) (n := 0) (Nat.le_of_ble_eq_true rfl) (Nat.le_of_ble_eq_true rfl) ?_
  replace hP : va_P D vwCl [(ti1, .inl (cs 1, 2001, .inr (.inl u1))), (st1, .inl (cs 0, 96048, .inl q1)), (ms, .inl (cs 0, 288, .inl freshS)), (msm, .inl (cs 0, 2, .inl (smF2 (nI 1) b0))), (mst, .inl (cs 5, 2, .inr (.inr (.inr (.inr fst))))), (st0, .inl (cs 0, 96048, .inl (cpF freshS q0 48))), (mtb, .inl (cs 5, 2, .inr (.inr (.inr (.inr ftb))))), (tb0, .inl (cs 0, 8192, .inl (upd (fun _ => nI 0) 965 (nI 1)))), (mti, .inl (cs 6, 2, .inr (.inr (.inr (.inr fti))))), (ti0, .inl (cs 1, 2001, .inr (.inl (vp_updL u0 0 (lN (ww * 10)))))), (hm, .inr (12, [.ref ms, .ref mkp, .int (nI 0), .ref mtr, .int (nI 4), .int (nI 2), .int (nI 2), .int (nI 3), .int (nI 2), .int (nI 1), .ref mas, .int (nI 0), .int (nI 0), .int (nI 0), .ref mso, .ref mon, .ref mot, .ref man, .int (nI 0), .int (nI 0), .ref mst, .ref msm, .ref mtb, .ref mti, .ref mfr, .ref mbn, .ref mbs, .ref mde, .int (nI 0), .int (nI 0), .int (nI 0), .int (nI 0), .long 0, .long 0, .ref maa, .ref mab, .ref mba, .ref mbb]))] H := hP
  replace hD : va_D A [(ti1, .inl (cs 1, 2001, .inr (.inl u1))), (st1, .inl (cs 0, 96048, .inl q1)), (ms, .inl (cs 0, 288, .inl freshS)), (msm, .inl (cs 0, 2, .inl (smF2 (nI 1) b0))), (mst, .inl (cs 5, 2, .inr (.inr (.inr (.inr fst))))), (st0, .inl (cs 0, 96048, .inl (cpF freshS q0 48))), (mtb, .inl (cs 5, 2, .inr (.inr (.inr (.inr ftb))))), (tb0, .inl (cs 0, 8192, .inl (upd (fun _ => nI 0) 965 (nI 1)))), (mti, .inl (cs 6, 2, .inr (.inr (.inr (.inr fti))))), (ti0, .inl (cs 1, 2001, .inr (.inl (vp_updL u0 0 (lN (ww * 10)))))), (hm, .inr (12, [.ref ms, .ref mkp, .int (nI 0), .ref mtr, .int (nI 4), .int (nI 2), .int (nI 2), .int (nI 3), .int (nI 2), .int (nI 1), .ref mas, .int (nI 0), .int (nI 0), .int (nI 0), .ref mso, .ref mon, .ref mot, .ref man, .int (nI 0), .int (nI 0), .ref mst, .ref msm, .ref mtb, .ref mti, .ref mfr, .ref mbn, .ref mbs, .ref mde, .int (nI 0), .int (nI 0), .int (nI 0), .int (nI 0), .long 0, .long 0, .ref maa, .ref mab, .ref mba, .ref mbb]))] := hD
  obtain rfl : r_165 = nI 0 := by rw [hw_r_165]; decide +kernel
  refine lv_if_ne (tgt := 37) hx hb dX12_spreads_31 (by decide) (fun c => absurd (by decide) c) (fun _ => ?_)
  refine lv_goto (tgt := 108) hx hb dX12_spreads_34 (by decide) ?_
  refine lv_iinc (v := nI 5) (lv' := [(4, .int (nI 5)), (5, .int (nI 0)), (3, .int (nI 3)), (0, .ref hm), (1, .int (nI 1)), (2, .int (nI 0))]) hx hb dX12_spreads_108 hl (k := 0) rfl (by decide) (by decide) rfl ?_
  clear hl
  try clear ls
  intro ls hl
  refine lv_goto (tgt := 13) hx hb dX12_spreads_111 (by decide) ?_
  refine lv_iload hx hb dX12_spreads_13 (lv_at hl 0 rfl) ?_
  refine lv_iconst (v := nI 1) hx hb dX12_spreads_15 (by decide) ?_
  refine lv_aload_n hx hb dX12_spreads_16 rfl (lv_at hl 3 rfl) ?_
  refine xget C hP 10 rfl rfl zuX12 4 (by decide) zw5_217 rfl dX12_spreads_17 ?_
  refine lv_ishl hx hb dX12_spreads_20 ?_
  refine lv_topi (nm_r (e' := nI 16) (by decide) ?_)
  refine lv_icmp_ge (tgt := 114) hx hb dX12_spreads_21 (by decide) (fun c => absurd c (by decide)) (fun _ => ?_)
  refine lv_aload_n hx hb dX12_spreads_24 rfl (lv_at hl 3 rfl) ?_
  refine lv_iload_n hx hb dX12_spreads_25 rfl (lv_at hl 2 rfl) ?_
  refine lv_iload hx hb dX12_spreads_26 (lv_at hl 0 rfl) ?_
  refine xi (wr := [(ti1, .inl (cs 1, 2001, .inr (.inl u1))), (st1, .inl (cs 0, 96048, .inl q1)), (ms, .inl (cs 0, 288, .inl freshS)), (msm, .inl (cs 0, 2, .inl (smF2 (nI 1) b0))), (mst, .inl (cs 5, 2, .inr (.inr (.inr (.inr fst))))), (st0, .inl (cs 0, 96048, .inl (cpF freshS q0 48))), (mtb, .inl (cs 5, 2, .inr (.inr (.inr (.inr ftb))))), (tb0, .inl (cs 0, 8192, .inl (upd (fun _ => nI 0) 965 (nI 1)))), (mti, .inl (cs 6, 2, .inr (.inr (.inr (.inr fti))))), (ti0, .inl (cs 1, 2001, .inr (.inl (vp_updL u0 0 (lN (ww * 10))))))]) (xV (As := [.int (nI 3), .int (nI 5)]) (rest := []) C (c_X12_isSample_x l D cs hm ms mkp mtr mas mso mon mot man mst msm mtb mti mfr mbn mbs mde maa mab mba mbb 3 5 (by decide) (by decide)) kX12_139 hP hD [10] rfl (by decide +kernel) 0 rfl rfl rfl ⟨Nat.le_of_ble_eq_true rfl, Nat.le_of_ble_eq_true rfl⟩ rfl hl.1 rfl (Nat.le_of_ble_eq_true rfl) dX12_spreads_28 ⟨Nat.le_of_ble_eq_true rfl, Nat.le_of_ble_eq_true rfl⟩) hP hD hS hA [10] [0, 1, 2, 3, 4, 5, 6, 7, 8, 9] rfl rfl (by decide +kernel) (by decide +kernel) ?_
  clear hP hD hS
  try clear locs
  try clear H
  intro r_167 u_168 H locs hw_r_167 hP hD hS
  have hw_r_167 : r_167 = smB 3 5 := hw_r_167
  refine W.widen (k := 0) (n := 0) (Nat.le_of_ble_eq_true rfl) (Nat.le_of_ble_eq_true rfl) ?_
  replace hP : va_P D vwCl [(ti1, .inl (cs 1, 2001, .inr (.inl u1))), (st1, .inl (cs 0, 96048, .inl q1)), (ms, .inl (cs 0, 288, .inl freshS)), (msm, .inl (cs 0, 2, .inl (smF2 (nI 1) b0))), (mst, .inl (cs 5, 2, .inr (.inr (.inr (.inr fst))))), (st0, .inl (cs 0, 96048, .inl (cpF freshS q0 48))), (mtb, .inl (cs 5, 2, .inr (.inr (.inr (.inr ftb))))), (tb0, .inl (cs 0, 8192, .inl (upd (fun _ => nI 0) 965 (nI 1)))), (mti, .inl (cs 6, 2, .inr (.inr (.inr (.inr fti))))), (ti0, .inl (cs 1, 2001, .inr (.inl (vp_updL u0 0 (lN (ww * 10)))))), (hm, .inr (12, [.ref ms, .ref mkp, .int (nI 0), .ref mtr, .int (nI 4), .int (nI 2), .int (nI 2), .int (nI 3), .int (nI 2), .int (nI 1), .ref mas, .int (nI 0), .int (nI 0), .int (nI 0), .ref mso, .ref mon, .ref mot, .ref man, .int (nI 0), .int (nI 0), .ref mst, .ref msm, .ref mtb, .ref mti, .ref mfr, .ref mbn, .ref mbs, .ref mde, .int (nI 0), .int (nI 0), .int (nI 0), .int (nI 0), .long 0, .long 0, .ref maa, .ref mab, .ref mba, .ref mbb]))] H := hP
  replace hD : va_D A [(ti1, .inl (cs 1, 2001, .inr (.inl u1))), (st1, .inl (cs 0, 96048, .inl q1)), (ms, .inl (cs 0, 288, .inl freshS)), (msm, .inl (cs 0, 2, .inl (smF2 (nI 1) b0))), (mst, .inl (cs 5, 2, .inr (.inr (.inr (.inr fst))))), (st0, .inl (cs 0, 96048, .inl (cpF freshS q0 48))), (mtb, .inl (cs 5, 2, .inr (.inr (.inr (.inr ftb))))), (tb0, .inl (cs 0, 8192, .inl (upd (fun _ => nI 0) 965 (nI 1)))), (mti, .inl (cs 6, 2, .inr (.inr (.inr (.inr fti))))), (ti0, .inl (cs 1, 2001, .inr (.inl (vp_updL u0 0 (lN (ww * 10)))))), (hm, .inr (12, [.ref ms, .ref mkp, .int (nI 0), .ref mtr, .int (nI 4), .int (nI 2), .int (nI 2), .int (nI 3), .int (nI 2), .int (nI 1), .ref mas, .int (nI 0), .int (nI 0), .int (nI 0), .ref mso, .ref mon, .ref mot, .ref man, .int (nI 0), .int (nI 0), .ref mst, .ref msm, .ref mtb, .ref mti, .ref mfr, .ref mbn, .ref mbs, .ref mde, .int (nI 0), .int (nI 0), .int (nI 0), .int (nI 0), .long 0, .long 0, .ref maa, .ref mab, .ref mba, .ref mbb]))] := hD
  obtain rfl : r_167 = nI 1 := by rw [hw_r_167]; decide +kernel
  refine lv_if_ne (tgt := 37) hx hb dX12_spreads_31 (by decide) (fun _ => ?_) (fun c => absurd c (by decide))
  refine lv_aload_n hx hb dX12_spreads_37 rfl (lv_at hl 3 rfl) ?_
  refine lv_iload_n hx hb dX12_spreads_38 rfl (lv_at hl 4 rfl) ?_
  refine lv_iload_n hx hb dX12_spreads_39 rfl (lv_at hl 5 rfl) ?_
  refine xv (wr := [(ti1, .inl (cs 1, 2001, .inr (.inl u1))), (msm, .inl (cs 0, 2, .inl (smF2 (nI 1) b0))), (st0, .inl (cs 0, 96048, .inl (cpF freshS q0 48))), (mtb, .inl (cs 5, 2, .inr (.inr (.inr (.inr ftb))))), (tb0, .inl (cs 0, 8192, .inl (upd (fun _ => nI 0) 965 (nI 1)))), (mti, .inl (cs 6, 2, .inr (.inr (.inr (.inr fti))))), (ti0, .inl (cs 1, 2001, .inr (.inl (vp_updL u0 0 (lN (ww * 10))))))]) (xV (As := [.int (nI 1), .int (nI 0)]) (rest := []) C (c_X12_brings_1 l D cs hm ms mkp mtr mas mso mon mot man mst msm mtb mti mfr mbn mbs mde maa mab mba mbb st1 fst q1 hf1 hq) kX12_203 hP hD [10, 2, 4, 1] rfl (by decide +kernel) 0 rfl rfl rfl ⟨Nat.le_of_ble_eq_true rfl, Nat.le_of_ble_eq_true rfl⟩ rfl hl.1 rfl (Nat.le_of_ble_eq_true rfl) dX12_spreads_40 ⟨Nat.le_of_ble_eq_true rfl, Nat.le_of_ble_eq_true rfl⟩) hP hD hS hA [10, 2, 4, 1] [0, 3, 5, 6, 7, 8, 9] rfl rfl (by decide +kernel) (by decide +kernel) ?_
  clear hP hD hS
  try clear locs
  try clear H
  intro u_170 H locs hw_r_169 hP hD hS
  refine W.widen (k := 0) (n := 0) (Nat.le_of_ble_eq_true rfl) (Nat.le_of_ble_eq_true rfl) ?_
  replace hP : va_P D vwCl [(ti1, .inl (cs 1, 2001, .inr (.inl u1))), (msm, .inl (cs 0, 2, .inl (smF2 (nI 1) b0))), (st0, .inl (cs 0, 96048, .inl (cpF freshS q0 48))), (mtb, .inl (cs 5, 2, .inr (.inr (.inr (.inr ftb))))), (tb0, .inl (cs 0, 8192, .inl (upd (fun _ => nI 0) 965 (nI 1)))), (mti, .inl (cs 6, 2, .inr (.inr (.inr (.inr fti))))), (ti0, .inl (cs 1, 2001, .inr (.inl (vp_updL u0 0 (lN (ww * 10)))))), (hm, .inr (12, [.ref ms, .ref mkp, .int (nI 0), .ref mtr, .int (nI 4), .int (nI 2), .int (nI 2), .int (nI 3), .int (nI 2), .int (nI 1), .ref mas, .int (nI 0), .int (nI 0), .int (nI 0), .ref mso, .ref mon, .ref mot, .ref man, .int (nI 0), .int (nI 0), .ref mst, .ref msm, .ref mtb, .ref mti, .ref mfr, .ref mbn, .ref mbs, .ref mde, .int (nI 0), .int (nI 0), .int (nI 0), .int (nI 0), .long 0, .long 0, .ref maa, .ref mab, .ref mba, .ref mbb])), (ms, .inl (cs 0, 288, .inl freshS)), (mst, .inl (cs 5, 2, .inr (.inr (.inr (.inr fst))))), (st1, .inl (cs 0, 96048, .inl q1))] H := hP
  replace hD : va_D A [(ti1, .inl (cs 1, 2001, .inr (.inl u1))), (msm, .inl (cs 0, 2, .inl (smF2 (nI 1) b0))), (st0, .inl (cs 0, 96048, .inl (cpF freshS q0 48))), (mtb, .inl (cs 5, 2, .inr (.inr (.inr (.inr ftb))))), (tb0, .inl (cs 0, 8192, .inl (upd (fun _ => nI 0) 965 (nI 1)))), (mti, .inl (cs 6, 2, .inr (.inr (.inr (.inr fti))))), (ti0, .inl (cs 1, 2001, .inr (.inl (vp_updL u0 0 (lN (ww * 10)))))), (hm, .inr (12, [.ref ms, .ref mkp, .int (nI 0), .ref mtr, .int (nI 4), .int (nI 2), .int (nI 2), .int (nI 3), .int (nI 2), .int (nI 1), .ref mas, .int (nI 0), .int (nI 0), .int (nI 0), .ref mso, .ref mon, .ref mot, .ref man, .int (nI 0), .int (nI 0), .ref mst, .ref msm, .ref mtb, .ref mti, .ref mfr, .ref mbn, .ref mbs, .ref mde, .int (nI 0), .int (nI 0), .int (nI 0), .int (nI 0), .long 0, .long 0, .ref maa, .ref mab, .ref mba, .ref mbb])), (ms, .inl (cs 0, 288, .inl freshS)), (mst, .inl (cs 5, 2, .inr (.inr (.inr (.inr fst))))), (st1, .inl (cs 0, 96048, .inl q1))] := hD
  refine lv_aload_n hx hb dX12_spreads_43 rfl (lv_at hl 3 rfl) ?_
  refine lv_iload_n hx hb dX12_spreads_44 rfl (lv_at hl 2 rfl) ?_
  refine xi (wr := [(ti1, .inl (cs 1, 2001, .inr (.inl u1))), (msm, .inl (cs 0, 2, .inl (smF2 (nI 1) b0))), (st0, .inl (cs 0, 96048, .inl (cpF freshS q0 48))), (mtb, .inl (cs 5, 2, .inr (.inr (.inr (.inr ftb))))), (tb0, .inl (cs 0, 8192, .inl (upd (fun _ => nI 0) 965 (nI 1)))), (mti, .inl (cs 6, 2, .inr (.inr (.inr (.inr fti))))), (ti0, .inl (cs 1, 2001, .inr (.inl (vp_updL u0 0 (lN (ww * 10)))))), (mst, .inl (cs 5, 2, .inr (.inr (.inr (.inr fst))))), (st1, .inl (cs 0, 96048, .inl q1))]) (xV (As := [.int (nI 3)]) (rest := []) C (c_X12_canAsk_z l D cs hm ms mkp mtr mas mso mon mot man mst msm mtb mti mfr mbn mbs mde maa mab mba mbb 3 (by decide)) kX12_142 hP hD [7, 8] rfl (by decide +kernel) 0 rfl rfl rfl ⟨Nat.le_of_ble_eq_true rfl, Nat.le_of_ble_eq_true rfl⟩ rfl hl.1 rfl (Nat.le_of_ble_eq_true rfl) dX12_spreads_45 ⟨Nat.le_of_ble_eq_true rfl, Nat.le_of_ble_eq_true rfl⟩) hP hD hS hA [7, 8] [0, 1, 2, 3, 4, 5, 6, 9, 10] rfl rfl (by decide +kernel) (by decide +kernel) ?_
  clear hP hD hS
  try clear locs
  try clear H
  intro r_171 u_172 H locs hw_r_171 hP hD hS
  have hw_r_171 : r_171 = nI 0 := hw_r_171
  refine W.widen (k := 0) (n := 0) (Nat.le_of_ble_eq_true rfl) (Nat.le_of_ble_eq_true rfl) ?_
  replace hP : va_P D vwCl [(ti1, .inl (cs 1, 2001, .inr (.inl u1))), (msm, .inl (cs 0, 2, .inl (smF2 (nI 1) b0))), (st0, .inl (cs 0, 96048, .inl (cpF freshS q0 48))), (mtb, .inl (cs 5, 2, .inr (.inr (.inr (.inr ftb))))), (tb0, .inl (cs 0, 8192, .inl (upd (fun _ => nI 0) 965 (nI 1)))), (mti, .inl (cs 6, 2, .inr (.inr (.inr (.inr fti))))), (ti0, .inl (cs 1, 2001, .inr (.inl (vp_updL u0 0 (lN (ww * 10)))))), (mst, .inl (cs 5, 2, .inr (.inr (.inr (.inr fst))))), (st1, .inl (cs 0, 96048, .inl q1)), (hm, .inr (12, [.ref ms, .ref mkp, .int (nI 0), .ref mtr, .int (nI 4), .int (nI 2), .int (nI 2), .int (nI 3), .int (nI 2), .int (nI 1), .ref mas, .int (nI 0), .int (nI 0), .int (nI 0), .ref mso, .ref mon, .ref mot, .ref man, .int (nI 0), .int (nI 0), .ref mst, .ref msm, .ref mtb, .ref mti, .ref mfr, .ref mbn, .ref mbs, .ref mde, .int (nI 0), .int (nI 0), .int (nI 0), .int (nI 0), .long 0, .long 0, .ref maa, .ref mab, .ref mba, .ref mbb])), (ms, .inl (cs 0, 288, .inl freshS))] H := hP
  replace hD : va_D A [(ti1, .inl (cs 1, 2001, .inr (.inl u1))), (msm, .inl (cs 0, 2, .inl (smF2 (nI 1) b0))), (st0, .inl (cs 0, 96048, .inl (cpF freshS q0 48))), (mtb, .inl (cs 5, 2, .inr (.inr (.inr (.inr ftb))))), (tb0, .inl (cs 0, 8192, .inl (upd (fun _ => nI 0) 965 (nI 1)))), (mti, .inl (cs 6, 2, .inr (.inr (.inr (.inr fti))))), (ti0, .inl (cs 1, 2001, .inr (.inl (vp_updL u0 0 (lN (ww * 10)))))), (mst, .inl (cs 5, 2, .inr (.inr (.inr (.inr fst))))), (st1, .inl (cs 0, 96048, .inl q1)), (hm, .inr (12, [.ref ms, .ref mkp, .int (nI 0), .ref mtr, .int (nI 4), .int (nI 2), .int (nI 2), .int (nI 3), .int (nI 2), .int (nI 1), .ref mas, .int (nI 0), .int (nI 0), .int (nI 0), .ref mso, .ref mon, .ref mot, .ref man, .int (nI 0), .int (nI 0), .ref mst, .ref msm, .ref mtb, .ref mti, .ref mfr, .ref mbn, .ref mbs, .ref mde, .int (nI 0), .int (nI 0), .int (nI 0), .int (nI 0), .long 0, .long 0, .ref maa, .ref mab, .ref mba, .ref mbb])), (ms, .inl (cs 0, 288, .inl freshS))] := hD
  subst hw_r_171
  refine lv_if_eq (tgt := 67) hx hb dX12_spreads_48 (by decide) (fun _ => ?_) (fun c => absurd (by decide) c)
  refine lv_aload_n hx hb dX12_spreads_67 rfl (lv_at hl 3 rfl) ?_
  refine lv_iconst (v := nI 1) hx hb dX12_spreads_68 (by decide) ?_
  refine lv_iload_n hx hb dX12_spreads_69 rfl (lv_at hl 4 rfl) ?_
  refine lv_isub hx hb dX12_spreads_70 ?_
  refine lv_topi (nm_r (e' := nI 0) (by decide) ?_)
  refine lv_sipush (v := nI 2000) hx hb dX12_spreads_71 (by decide) ?_
  refine xi (wr := [(ti1, .inl (cs 1, 2001, .inr (.inl u1))), (st1, .inl (cs 0, 96048, .inl q1))]) (xV (As := [.int (nI 0), .int (nI 2000)]) (rest := []) C (c_X12_numberOf_b0 l D cs hm ms mkp mtr mas mso mon mot man mst msm mtb mti mfr mbn mbs mde maa mab mba mbb st0 tb0 ti0 fst ftb fti (smF2 (nI 1) b0) (cpF freshS q0 48) (upd (fun _ => nI 0) 965 (nI 1)) (vp_updL u0 0 (lN (ww * 10))) hf0 hg ht0 (if_pos rfl) (fun j hj => cpF_lt hj)) kX12_197 hP hD [9, 10, 1, 7, 2, 3, 4, 5, 6] rfl (by decide +kernel) 0 rfl rfl rfl ⟨Nat.le_of_ble_eq_true rfl, Nat.le_of_ble_eq_true rfl⟩ rfl hl.1 rfl (Nat.le_of_ble_eq_true rfl) dX12_spreads_74 ⟨Nat.le_of_ble_eq_true rfl, Nat.le_of_ble_eq_true rfl⟩) hP hD hS hA [9, 10, 1, 7, 2, 3, 4, 5, 6] [0, 8] rfl rfl (by decide +kernel) (by decide +kernel) ?_
  clear hP hD hS
  try clear locs
  try clear H
  intro r_173 u_174 H locs hw_r_173 hP hD hS
  have hw_r_173 : r_173 = nI 0 := hw_r_173
  refine W.widen (k := 0) (n := 0) (Nat.le_of_ble_eq_true rfl) (Nat.le_of_ble_eq_true rfl) ?_
  replace hP : va_P D vwCl [(ti1, .inl (cs 1, 2001, .inr (.inl u1))), (st1, .inl (cs 0, 96048, .inl q1)), (hm, .inr (12, [.ref ms, .ref mkp, .int (nI 0), .ref mtr, .int (nI 4), .int (nI 2), .int (nI 2), .int (nI 3), .int (nI 2), .int (nI 1), .ref mas, .int (nI 0), .int (nI 0), .int (nI 0), .ref mso, .ref mon, .ref mot, .ref man, .int (nI 0), .int (nI 0), .ref mst, .ref msm, .ref mtb, .ref mti, .ref mfr, .ref mbn, .ref mbs, .ref mde, .int (nI 0), .int (nI 0), .int (nI 0), .int (nI 0), .long 0, .long 0, .ref maa, .ref mab, .ref mba, .ref mbb])), (ms, .inl (cs 0, 288, .inl freshS)), (msm, .inl (cs 0, 2, .inl (smF2 (nI 1) b0))), (mst, .inl (cs 5, 2, .inr (.inr (.inr (.inr fst))))), (st0, .inl (cs 0, 96048, .inl (cpF freshS q0 48))), (mtb, .inl (cs 5, 2, .inr (.inr (.inr (.inr ftb))))), (tb0, .inl (cs 0, 8192, .inl (upd (fun _ => nI 0) 965 (nI 1)))), (mti, .inl (cs 6, 2, .inr (.inr (.inr (.inr fti))))), (ti0, .inl (cs 1, 2001, .inr (.inl (vp_updL u0 0 (lN (ww * 10))))))] H := hP
  replace hD : va_D A [(ti1, .inl (cs 1, 2001, .inr (.inl u1))), (st1, .inl (cs 0, 96048, .inl q1)), (hm, .inr (12, [.ref ms, .ref mkp, .int (nI 0), .ref mtr, .int (nI 4), .int (nI 2), .int (nI 2), .int (nI 3), .int (nI 2), .int (nI 1), .ref mas, .int (nI 0), .int (nI 0), .int (nI 0), .ref mso, .ref mon, .ref mot, .ref man, .int (nI 0), .int (nI 0), .ref mst, .ref msm, .ref mtb, .ref mti, .ref mfr, .ref mbn, .ref mbs, .ref mde, .int (nI 0), .int (nI 0), .int (nI 0), .int (nI 0), .long 0, .long 0, .ref maa, .ref mab, .ref mba, .ref mbb])), (ms, .inl (cs 0, 288, .inl freshS)), (msm, .inl (cs 0, 2, .inl (smF2 (nI 1) b0))), (mst, .inl (cs 5, 2, .inr (.inr (.inr (.inr fst))))), (st0, .inl (cs 0, 96048, .inl (cpF freshS q0 48))), (mtb, .inl (cs 5, 2, .inr (.inr (.inr (.inr ftb))))), (tb0, .inl (cs 0, 8192, .inl (upd (fun _ => nI 0) 965 (nI 1)))), (mti, .inl (cs 6, 2, .inr (.inr (.inr (.inr fti))))), (ti0, .inl (cs 1, 2001, .inr (.inl (vp_updL u0 0 (lN (ww * 10))))))] := hD
  subst hw_r_173
  refine lv_istore (lv' := [(5, .int (nI 0)), (4, .int (nI 5)), (3, .int (nI 3)), (0, .ref hm), (1, .int (nI 1)), (2, .int (nI 0))]) hx hb dX12_spreads_77 hl (by decide) rfl ?_
  clear hl
  try clear ls
  intro ls hl
  refine lv_iload hx hb dX12_spreads_79 (lv_at hl 0 rfl) ?_
  refine lv_if_ge (tgt := 86) hx hb dX12_spreads_81 (by decide) (fun _ => ?_) (fun c => absurd (by decide) c)
  refine lv_aload_n hx hb dX12_spreads_86 rfl (lv_at hl 3 rfl) ?_
  refine xget C hP 2 rfl rfl zuX12 23 (by decide) zw5_236 rfl dX12_spreads_87 ?_
  refine lv_iconst (v := nI 1) hx hb dX12_spreads_90 (by decide) ?_
  refine lv_iload_n hx hb dX12_spreads_91 rfl (lv_at hl 4 rfl) ?_
  refine lv_isub hx hb dX12_spreads_92 ?_
  refine lv_topi (nm_r (e' := nI 0) (by decide) ?_)
  refine xaald C hP 9 6 rfl rfl rfl 0 rfl (by decide) (by decide) ht0 dX12_spreads_93 ?_
  refine lv_iload hx hb dX12_spreads_94 (lv_at hl 0 rfl) ?_
  refine lv_dup2_11 hx hb dX12_spreads_96 rfl rfl ?_
  refine xlald C hP 10 rfl 0 rfl (by decide) (by decide) dX12_spreads_97 ?_
  refine lv_topl (nm_r (e' := lN (ww * 10)) (upL_0 _ _) ?_)
  refine lv_aload_n hx hb dX12_spreads_98 rfl (lv_at hl 3 rfl) ?_
  refine xget C hP 2 rfl rfl zuX12 23 (by decide) zw5_236 rfl dX12_spreads_99 ?_
  refine lv_iload_n hx hb dX12_spreads_102 rfl (lv_at hl 4 rfl) ?_
  refine xaald C hP 9 6 rfl rfl rfl 1 rfl (by decide) (by decide) ht1 dX12_spreads_103 ?_
  refine lv_iload_n hx hb dX12_spreads_104 rfl (lv_at hl 5 rfl) ?_
  refine xlald C hP 0 rfl 0 rfl (by decide) (by decide) dX12_spreads_105 ?_
  refine lv_topl (nm_r (e' := lN ww) hw ?_)
  refine lv_ladd hx hb dX12_spreads_106 ?_
  refine lv_topl (nm_r (e' := lN (ww * 11)) (lN_a ww 10) ?_)
  refine xlast C hP hD hS 10 rfl 0 rfl (by decide) (by decide) dX12_spreads_107 ?_
  clear hP hD hS
  try clear locs
  try clear H
  intro H locs hP hD hS
  replace hP : va_P D vwCl [(ti1, .inl (cs 1, 2001, .inr (.inl u1))), (st1, .inl (cs 0, 96048, .inl q1)), (hm, .inr (12, [.ref ms, .ref mkp, .int (nI 0), .ref mtr, .int (nI 4), .int (nI 2), .int (nI 2), .int (nI 3), .int (nI 2), .int (nI 1), .ref mas, .int (nI 0), .int (nI 0), .int (nI 0), .ref mso, .ref mon, .ref mot, .ref man, .int (nI 0), .int (nI 0), .ref mst, .ref msm, .ref mtb, .ref mti, .ref mfr, .ref mbn, .ref mbs, .ref mde, .int (nI 0), .int (nI 0), .int (nI 0), .int (nI 0), .long 0, .long 0, .ref maa, .ref mab, .ref mba, .ref mbb])), (ms, .inl (cs 0, 288, .inl freshS)), (msm, .inl (cs 0, 2, .inl (smF2 (nI 1) b0))), (mst, .inl (cs 5, 2, .inr (.inr (.inr (.inr fst))))), (st0, .inl (cs 0, 96048, .inl (cpF freshS q0 48))), (mtb, .inl (cs 5, 2, .inr (.inr (.inr (.inr ftb))))), (tb0, .inl (cs 0, 8192, .inl (upd (fun _ => nI 0) 965 (nI 1)))), (mti, .inl (cs 6, 2, .inr (.inr (.inr (.inr fti))))), (ti0, .inl (cs 1, 2001, .inr (.inl (vp_updL (vp_updL u0 0 (lN (ww * 10))) 0 (lN (ww * 11))))))] H := hP
  replace hD : va_D A [(ti1, .inl (cs 1, 2001, .inr (.inl u1))), (st1, .inl (cs 0, 96048, .inl q1)), (hm, .inr (12, [.ref ms, .ref mkp, .int (nI 0), .ref mtr, .int (nI 4), .int (nI 2), .int (nI 2), .int (nI 3), .int (nI 2), .int (nI 1), .ref mas, .int (nI 0), .int (nI 0), .int (nI 0), .ref mso, .ref mon, .ref mot, .ref man, .int (nI 0), .int (nI 0), .ref mst, .ref msm, .ref mtb, .ref mti, .ref mfr, .ref mbn, .ref mbs, .ref mde, .int (nI 0), .int (nI 0), .int (nI 0), .int (nI 0), .long 0, .long 0, .ref maa, .ref mab, .ref mba, .ref mbb])), (ms, .inl (cs 0, 288, .inl freshS)), (msm, .inl (cs 0, 2, .inl (smF2 (nI 1) b0))), (mst, .inl (cs 5, 2, .inr (.inr (.inr (.inr fst))))), (st0, .inl (cs 0, 96048, .inl (cpF freshS q0 48))), (mtb, .inl (cs 5, 2, .inr (.inr (.inr (.inr ftb))))), (tb0, .inl (cs 0, 8192, .inl (upd (fun _ => nI 0) 965 (nI 1)))), (mti, .inl (cs 6, 2, .inr (.inr (.inr (.inr fti))))), (ti0, .inl (cs 1, 2001, .inr (.inl (vp_updL (vp_updL u0 0 (lN (ww * 10))) 0 (lN (ww * 11))))))] := hD
  have hPD := xcongl (q0 := 10) (vp_updL u0 0 (lN (ww * 11))) hP hD rfl (fun j hj => upL_1 u0 _ _ j)
  clear hP hD
  obtain ⟨hP, hD⟩ := hPD
  replace hP : va_P D vwCl [(ti1, .inl (cs 1, 2001, .inr (.inl u1))), (st1, .inl (cs 0, 96048, .inl q1)), (hm, .inr (12, [.ref ms, .ref mkp, .int (nI 0), .ref mtr, .int (nI 4), .int (nI 2), .int (nI 2), .int (nI 3), .int (nI 2), .int (nI 1), .ref mas, .int (nI 0), .int (nI 0), .int (nI 0), .ref mso, .ref mon, .ref mot, .ref man, .int (nI 0), .int (nI 0), .ref mst, .ref msm, .ref mtb, .ref mti, .ref mfr, .ref mbn, .ref mbs, .ref mde, .int (nI 0), .int (nI 0), .int (nI 0), .int (nI 0), .long 0, .long 0, .ref maa, .ref mab, .ref mba, .ref mbb])), (ms, .inl (cs 0, 288, .inl freshS)), (msm, .inl (cs 0, 2, .inl (smF2 (nI 1) b0))), (mst, .inl (cs 5, 2, .inr (.inr (.inr (.inr fst))))), (st0, .inl (cs 0, 96048, .inl (cpF freshS q0 48))), (mtb, .inl (cs 5, 2, .inr (.inr (.inr (.inr ftb))))), (tb0, .inl (cs 0, 8192, .inl (upd (fun _ => nI 0) 965 (nI 1)))), (mti, .inl (cs 6, 2, .inr (.inr (.inr (.inr fti))))), (ti0, .inl (cs 1, 2001, .inr (.inl (vp_updL u0 0 (lN (ww * 11))))))] H := hP
  replace hD : va_D A [(ti1, .inl (cs 1, 2001, .inr (.inl u1))), (st1, .inl (cs 0, 96048, .inl q1)), (hm, .inr (12, [.ref ms, .ref mkp, .int (nI 0), .ref mtr, .int (nI 4), .int (nI 2), .int (nI 2), .int (nI 3), .int (nI 2), .int (nI 1), .ref mas, .int (nI 0), .int (nI 0), .int (nI 0), .ref mso, .ref mon, .ref mot, .ref man, .int (nI 0), .int (nI 0), .ref mst, .ref msm, .ref mtb, .ref mti, .ref mfr, .ref mbn, .ref mbs, .ref mde, .int (nI 0), .int (nI 0), .int (nI 0), .int (nI 0), .long 0, .long 0, .ref maa, .ref mab, .ref mba, .ref mbb])), (ms, .inl (cs 0, 288, .inl freshS)), (msm, .inl (cs 0, 2, .inl (smF2 (nI 1) b0))), (mst, .inl (cs 5, 2, .inr (.inr (.inr (.inr fst))))), (st0, .inl (cs 0, 96048, .inl (cpF freshS q0 48))), (mtb, .inl (cs 5, 2, .inr (.inr (.inr (.inr ftb))))), (tb0, .inl (cs 0, 8192, .inl (upd (fun _ => nI 0) 965 (nI 1)))), (mti, .inl (cs 6, 2, .inr (.inr (.inr (.inr fti))))), (ti0, .inl (cs 1, 2001, .inr (.inl (vp_updL u0 0 (lN (ww * 11))))))] := hD
  refine lv_iinc (v := nI 6) (lv' := [(4, .int (nI 6)), (5, .int (nI 0)), (3, .int (nI 3)), (0, .ref hm), (1, .int (nI 1)), (2, .int (nI 0))]) hx hb dX12_spreads_108 hl (k := 1) rfl (by decide) (by decide) rfl ?_
  clear hl
  try clear ls
  intro ls hl
  refine lv_goto (tgt := 13) hx hb dX12_spreads_111 (by decide) ?_
  refine lv_iload hx hb dX12_spreads_13 (lv_at hl 0 rfl) ?_
  refine lv_iconst (v := nI 1) hx hb dX12_spreads_15 (by decide) ?_
  refine lv_aload_n hx hb dX12_spreads_16 rfl (lv_at hl 3 rfl) ?_
  refine xget C hP 2 rfl rfl zuX12 4 (by decide) zw5_217 rfl dX12_spreads_17 ?_
  refine lv_ishl hx hb dX12_spreads_20 ?_
  refine lv_topi (nm_r (e' := nI 16) (by decide) ?_)
  refine lv_icmp_ge (tgt := 114) hx hb dX12_spreads_21 (by decide) (fun c => absurd c (by decide)) (fun _ => ?_)
  refine lv_aload_n hx hb dX12_spreads_24 rfl (lv_at hl 3 rfl) ?_
  refine lv_iload_n hx hb dX12_spreads_25 rfl (lv_at hl 2 rfl) ?_
  refine lv_iload hx hb dX12_spreads_26 (lv_at hl 0 rfl) ?_
  refine xi (wr := [(ti1, .inl (cs 1, 2001, .inr (.inl u1))), (st1, .inl (cs 0, 96048, .inl q1)), (ms, .inl (cs 0, 288, .inl freshS)), (msm, .inl (cs 0, 2, .inl (smF2 (nI 1) b0))), (mst, .inl (cs 5, 2, .inr (.inr (.inr (.inr fst))))), (st0, .inl (cs 0, 96048, .inl (cpF freshS q0 48))), (mtb, .inl (cs 5, 2, .inr (.inr (.inr (.inr ftb))))), (tb0, .inl (cs 0, 8192, .inl (upd (fun _ => nI 0) 965 (nI 1)))), (mti, .inl (cs 6, 2, .inr (.inr (.inr (.inr fti))))), (ti0, .inl (cs 1, 2001, .inr (.inl (vp_updL u0 0 (lN (ww * 11))))))]) (xV (As := [.int (nI 3), .int (nI 6)]) (rest := []) C (c_X12_isSample_x l D cs hm ms mkp mtr mas mso mon mot man mst msm mtb mti mfr mbn mbs mde maa mab mba mbb 3 6 (by decide) (by decide)) kX12_139 hP hD [2] rfl (by decide +kernel) 0 rfl rfl rfl ⟨Nat.le_of_ble_eq_true rfl, Nat.le_of_ble_eq_true rfl⟩ rfl hl.1 rfl (Nat.le_of_ble_eq_true rfl) dX12_spreads_28 ⟨Nat.le_of_ble_eq_true rfl, Nat.le_of_ble_eq_true rfl⟩) hP hD hS hA [2] [0, 1, 3, 4, 5, 6, 7, 8, 9, 10] rfl rfl (by decide +kernel) (by decide +kernel) ?_
  clear hP hD hS
  try clear locs
  try clear H
  intro r_175 u_176 H locs hw_r_175 hP hD hS
  have hw_r_175 : r_175 = smB 3 6 := hw_r_175
  refine W.widen (k := 0) (n := 0) (Nat.le_of_ble_eq_true rfl) (Nat.le_of_ble_eq_true rfl) ?_
  replace hP : va_P D vwCl [(ti1, .inl (cs 1, 2001, .inr (.inl u1))), (st1, .inl (cs 0, 96048, .inl q1)), (ms, .inl (cs 0, 288, .inl freshS)), (msm, .inl (cs 0, 2, .inl (smF2 (nI 1) b0))), (mst, .inl (cs 5, 2, .inr (.inr (.inr (.inr fst))))), (st0, .inl (cs 0, 96048, .inl (cpF freshS q0 48))), (mtb, .inl (cs 5, 2, .inr (.inr (.inr (.inr ftb))))), (tb0, .inl (cs 0, 8192, .inl (upd (fun _ => nI 0) 965 (nI 1)))), (mti, .inl (cs 6, 2, .inr (.inr (.inr (.inr fti))))), (ti0, .inl (cs 1, 2001, .inr (.inl (vp_updL u0 0 (lN (ww * 11)))))), (hm, .inr (12, [.ref ms, .ref mkp, .int (nI 0), .ref mtr, .int (nI 4), .int (nI 2), .int (nI 2), .int (nI 3), .int (nI 2), .int (nI 1), .ref mas, .int (nI 0), .int (nI 0), .int (nI 0), .ref mso, .ref mon, .ref mot, .ref man, .int (nI 0), .int (nI 0), .ref mst, .ref msm, .ref mtb, .ref mti, .ref mfr, .ref mbn, .ref mbs, .ref mde, .int (nI 0), .int (nI 0), .int (nI 0), .int (nI 0), .long 0, .long 0, .ref maa, .ref mab, .ref mba, .ref mbb]))] H := hP
  replace hD : va_D A [(ti1, .inl (cs 1, 2001, .inr (.inl u1))), (st1, .inl (cs 0, 96048, .inl q1)), (ms, .inl (cs 0, 288, .inl freshS)), (msm, .inl (cs 0, 2, .inl (smF2 (nI 1) b0))), (mst, .inl (cs 5, 2, .inr (.inr (.inr (.inr fst))))), (st0, .inl (cs 0, 96048, .inl (cpF freshS q0 48))), (mtb, .inl (cs 5, 2, .inr (.inr (.inr (.inr ftb))))), (tb0, .inl (cs 0, 8192, .inl (upd (fun _ => nI 0) 965 (nI 1)))), (mti, .inl (cs 6, 2, .inr (.inr (.inr (.inr fti))))), (ti0, .inl (cs 1, 2001, .inr (.inl (vp_updL u0 0 (lN (ww * 11)))))), (hm, .inr (12, [.ref ms, .ref mkp, .int (nI 0), .ref mtr, .int (nI 4), .int (nI 2), .int (nI 2), .int (nI 3), .int (nI 2), .int (nI 1), .ref mas, .int (nI 0), .int (nI 0), .int (nI 0), .ref mso, .ref mon, .ref mot, .ref man, .int (nI 0), .int (nI 0), .ref mst, .ref msm, .ref mtb, .ref mti, .ref mfr, .ref mbn, .ref mbs, .ref mde, .int (nI 0), .int (nI 0), .int (nI 0), .int (nI 0), .long 0, .long 0, .ref maa, .ref mab, .ref mba, .ref mbb]))] := hD
  obtain rfl : r_175 = nI 1 := by rw [hw_r_175]; decide +kernel
  refine lv_if_ne (tgt := 37) hx hb dX12_spreads_31 (by decide) (fun _ => ?_) (fun c => absurd c (by decide))
  refine lv_aload_n hx hb dX12_spreads_37 rfl (lv_at hl 3 rfl) ?_
  refine lv_iload_n hx hb dX12_spreads_38 rfl (lv_at hl 4 rfl) ?_
  refine lv_iload_n hx hb dX12_spreads_39 rfl (lv_at hl 5 rfl) ?_
  refine xv (wr := [(ti1, .inl (cs 1, 2001, .inr (.inl u1))), (msm, .inl (cs 0, 2, .inl (smF2 (nI 1) b0))), (st0, .inl (cs 0, 96048, .inl (cpF freshS q0 48))), (mtb, .inl (cs 5, 2, .inr (.inr (.inr (.inr ftb))))), (tb0, .inl (cs 0, 8192, .inl (upd (fun _ => nI 0) 965 (nI 1)))), (mti, .inl (cs 6, 2, .inr (.inr (.inr (.inr fti))))), (ti0, .inl (cs 1, 2001, .inr (.inl (vp_updL u0 0 (lN (ww * 11))))))]) (xV (As := [.int (nI 1), .int (nI 0)]) (rest := []) C (c_X12_brings_1 l D cs hm ms mkp mtr mas mso mon mot man mst msm mtb mti mfr mbn mbs mde maa mab mba mbb st1 fst q1 hf1 hq) kX12_203 hP hD [10, 2, 4, 1] rfl (by decide +kernel) 0 rfl rfl rfl ⟨Nat.le_of_ble_eq_true rfl, Nat.le_of_ble_eq_true rfl⟩ rfl hl.1 rfl (Nat.le_of_ble_eq_true rfl) dX12_spreads_40 ⟨Nat.le_of_ble_eq_true rfl, Nat.le_of_ble_eq_true rfl⟩) hP hD hS hA [10, 2, 4, 1] [0, 3, 5, 6, 7, 8, 9] rfl rfl (by decide +kernel) (by decide +kernel) ?_
  clear hP hD hS
  try clear locs
  try clear H
  intro u_178 H locs hw_r_177 hP hD hS
  refine W.widen (k := 0) (n := 0) (Nat.le_of_ble_eq_true rfl) (Nat.le_of_ble_eq_true rfl) ?_
  replace hP : va_P D vwCl [(ti1, .inl (cs 1, 2001, .inr (.inl u1))), (msm, .inl (cs 0, 2, .inl (smF2 (nI 1) b0))), (st0, .inl (cs 0, 96048, .inl (cpF freshS q0 48))), (mtb, .inl (cs 5, 2, .inr (.inr (.inr (.inr ftb))))), (tb0, .inl (cs 0, 8192, .inl (upd (fun _ => nI 0) 965 (nI 1)))), (mti, .inl (cs 6, 2, .inr (.inr (.inr (.inr fti))))), (ti0, .inl (cs 1, 2001, .inr (.inl (vp_updL u0 0 (lN (ww * 11)))))), (hm, .inr (12, [.ref ms, .ref mkp, .int (nI 0), .ref mtr, .int (nI 4), .int (nI 2), .int (nI 2), .int (nI 3), .int (nI 2), .int (nI 1), .ref mas, .int (nI 0), .int (nI 0), .int (nI 0), .ref mso, .ref mon, .ref mot, .ref man, .int (nI 0), .int (nI 0), .ref mst, .ref msm, .ref mtb, .ref mti, .ref mfr, .ref mbn, .ref mbs, .ref mde, .int (nI 0), .int (nI 0), .int (nI 0), .int (nI 0), .long 0, .long 0, .ref maa, .ref mab, .ref mba, .ref mbb])), (ms, .inl (cs 0, 288, .inl freshS)), (mst, .inl (cs 5, 2, .inr (.inr (.inr (.inr fst))))), (st1, .inl (cs 0, 96048, .inl q1))] H := hP
  replace hD : va_D A [(ti1, .inl (cs 1, 2001, .inr (.inl u1))), (msm, .inl (cs 0, 2, .inl (smF2 (nI 1) b0))), (st0, .inl (cs 0, 96048, .inl (cpF freshS q0 48))), (mtb, .inl (cs 5, 2, .inr (.inr (.inr (.inr ftb))))), (tb0, .inl (cs 0, 8192, .inl (upd (fun _ => nI 0) 965 (nI 1)))), (mti, .inl (cs 6, 2, .inr (.inr (.inr (.inr fti))))), (ti0, .inl (cs 1, 2001, .inr (.inl (vp_updL u0 0 (lN (ww * 11)))))), (hm, .inr (12, [.ref ms, .ref mkp, .int (nI 0), .ref mtr, .int (nI 4), .int (nI 2), .int (nI 2), .int (nI 3), .int (nI 2), .int (nI 1), .ref mas, .int (nI 0), .int (nI 0), .int (nI 0), .ref mso, .ref mon, .ref mot, .ref man, .int (nI 0), .int (nI 0), .ref mst, .ref msm, .ref mtb, .ref mti, .ref mfr, .ref mbn, .ref mbs, .ref mde, .int (nI 0), .int (nI 0), .int (nI 0), .int (nI 0), .long 0, .long 0, .ref maa, .ref mab, .ref mba, .ref mbb])), (ms, .inl (cs 0, 288, .inl freshS)), (mst, .inl (cs 5, 2, .inr (.inr (.inr (.inr fst))))), (st1, .inl (cs 0, 96048, .inl q1))] := hD
  refine lv_aload_n hx hb dX12_spreads_43 rfl (lv_at hl 3 rfl) ?_
  refine lv_iload_n hx hb dX12_spreads_44 rfl (lv_at hl 2 rfl) ?_
  refine xi (wr := [(ti1, .inl (cs 1, 2001, .inr (.inl u1))), (msm, .inl (cs 0, 2, .inl (smF2 (nI 1) b0))), (st0, .inl (cs 0, 96048, .inl (cpF freshS q0 48))), (mtb, .inl (cs 5, 2, .inr (.inr (.inr (.inr ftb))))), (tb0, .inl (cs 0, 8192, .inl (upd (fun _ => nI 0) 965 (nI 1)))), (mti, .inl (cs 6, 2, .inr (.inr (.inr (.inr fti))))), (ti0, .inl (cs 1, 2001, .inr (.inl (vp_updL u0 0 (lN (ww * 11)))))), (mst, .inl (cs 5, 2, .inr (.inr (.inr (.inr fst))))), (st1, .inl (cs 0, 96048, .inl q1))]) (xV (As := [.int (nI 3)]) (rest := []) C (c_X12_canAsk_z l D cs hm ms mkp mtr mas mso mon mot man mst msm mtb mti mfr mbn mbs mde maa mab mba mbb 3 (by decide)) kX12_142 hP hD [7, 8] rfl (by decide +kernel) 0 rfl rfl rfl ⟨Nat.le_of_ble_eq_true rfl, Nat.le_of_ble_eq_true rfl⟩ rfl hl.1 rfl (Nat.le_of_ble_eq_true rfl) dX12_spreads_45 ⟨Nat.le_of_ble_eq_true rfl, Nat.le_of_ble_eq_true rfl⟩) hP hD hS hA [7, 8] [0, 1, 2, 3, 4, 5, 6, 9, 10] rfl rfl (by decide +kernel) (by decide +kernel) ?_
  clear hP hD hS
  try clear locs
  try clear H
  intro r_179 u_180 H locs hw_r_179 hP hD hS
  have hw_r_179 : r_179 = nI 0 := hw_r_179
  refine W.widen (k := 0) (n := 0) (Nat.le_of_ble_eq_true rfl) (Nat.le_of_ble_eq_true rfl) ?_
  replace hP : va_P D vwCl [(ti1, .inl (cs 1, 2001, .inr (.inl u1))), (msm, .inl (cs 0, 2, .inl (smF2 (nI 1) b0))), (st0, .inl (cs 0, 96048, .inl (cpF freshS q0 48))), (mtb, .inl (cs 5, 2, .inr (.inr (.inr (.inr ftb))))), (tb0, .inl (cs 0, 8192, .inl (upd (fun _ => nI 0) 965 (nI 1)))), (mti, .inl (cs 6, 2, .inr (.inr (.inr (.inr fti))))), (ti0, .inl (cs 1, 2001, .inr (.inl (vp_updL u0 0 (lN (ww * 11)))))), (mst, .inl (cs 5, 2, .inr (.inr (.inr (.inr fst))))), (st1, .inl (cs 0, 96048, .inl q1)), (hm, .inr (12, [.ref ms, .ref mkp, .int (nI 0), .ref mtr, .int (nI 4), .int (nI 2), .int (nI 2), .int (nI 3), .int (nI 2), .int (nI 1), .ref mas, .int (nI 0), .int (nI 0), .int (nI 0), .ref mso, .ref mon, .ref mot, .ref man, .int (nI 0), .int (nI 0), .ref mst, .ref msm, .ref mtb, .ref mti, .ref mfr, .ref mbn, .ref mbs, .ref mde, .int (nI 0), .int (nI 0), .int (nI 0), .int (nI 0), .long 0, .long 0, .ref maa, .ref mab, .ref mba, .ref mbb])), (ms, .inl (cs 0, 288, .inl freshS))] H := hP
  replace hD : va_D A [(ti1, .inl (cs 1, 2001, .inr (.inl u1))), (msm, .inl (cs 0, 2, .inl (smF2 (nI 1) b0))), (st0, .inl (cs 0, 96048, .inl (cpF freshS q0 48))), (mtb, .inl (cs 5, 2, .inr (.inr (.inr (.inr ftb))))), (tb0, .inl (cs 0, 8192, .inl (upd (fun _ => nI 0) 965 (nI 1)))), (mti, .inl (cs 6, 2, .inr (.inr (.inr (.inr fti))))), (ti0, .inl (cs 1, 2001, .inr (.inl (vp_updL u0 0 (lN (ww * 11)))))), (mst, .inl (cs 5, 2, .inr (.inr (.inr (.inr fst))))), (st1, .inl (cs 0, 96048, .inl q1)), (hm, .inr (12, [.ref ms, .ref mkp, .int (nI 0), .ref mtr, .int (nI 4), .int (nI 2), .int (nI 2), .int (nI 3), .int (nI 2), .int (nI 1), .ref mas, .int (nI 0), .int (nI 0), .int (nI 0), .ref mso, .ref mon, .ref mot, .ref man, .int (nI 0), .int (nI 0), .ref mst, .ref msm, .ref mtb, .ref mti, .ref mfr, .ref mbn, .ref mbs, .ref mde, .int (nI 0), .int (nI 0), .int (nI 0), .int (nI 0), .long 0, .long 0, .ref maa, .ref mab, .ref mba, .ref mbb])), (ms, .inl (cs 0, 288, .inl freshS))] := hD
  subst hw_r_179
  refine lv_if_eq (tgt := 67) hx hb dX12_spreads_48 (by decide) (fun _ => ?_) (fun c => absurd (by decide) c)
  refine lv_aload_n hx hb dX12_spreads_67 rfl (lv_at hl 3 rfl) ?_
  refine lv_iconst (v := nI 1) hx hb dX12_spreads_68 (by decide) ?_
  refine lv_iload_n hx hb dX12_spreads_69 rfl (lv_at hl 4 rfl) ?_
  refine lv_isub hx hb dX12_spreads_70 ?_
  refine lv_topi (nm_r (e' := nI 0) (by decide) ?_)
  refine lv_sipush (v := nI 2000) hx hb dX12_spreads_71 (by decide) ?_
  refine xi (wr := [(ti1, .inl (cs 1, 2001, .inr (.inl u1))), (st1, .inl (cs 0, 96048, .inl q1))]) (xV (As := [.int (nI 0), .int (nI 2000)]) (rest := []) C (c_X12_numberOf_b0 l D cs hm ms mkp mtr mas mso mon mot man mst msm mtb mti mfr mbn mbs mde maa mab mba mbb st0 tb0 ti0 fst ftb fti (smF2 (nI 1) b0) (cpF freshS q0 48) (upd (fun _ => nI 0) 965 (nI 1)) (vp_updL u0 0 (lN (ww * 11))) hf0 hg ht0 (if_pos rfl) (fun j hj => cpF_lt hj)) kX12_197 hP hD [9, 10, 1, 7, 2, 3, 4, 5, 6] rfl (by decide +kernel) 0 rfl rfl rfl ⟨Nat.le_of_ble_eq_true rfl, Nat.le_of_ble_eq_true rfl⟩ rfl hl.1 rfl (Nat.le_of_ble_eq_true rfl) dX12_spreads_74 ⟨Nat.le_of_ble_eq_true rfl, Nat.le_of_ble_eq_true rfl⟩) hP hD hS hA [9, 10, 1, 7, 2, 3, 4, 5, 6] [0, 8] rfl rfl (by decide +kernel) (by decide +kernel) ?_
  clear hP hD hS
  try clear locs
  try clear H
  intro r_181 u_182 H locs hw_r_181 hP hD hS
  have hw_r_181 : r_181 = nI 0 := hw_r_181
  refine W.widen (k := 0) (n := 0) (Nat.le_of_ble_eq_true rfl) (Nat.le_of_ble_eq_true rfl) ?_
  replace hP : va_P D vwCl [(ti1, .inl (cs 1, 2001, .inr (.inl u1))), (st1, .inl (cs 0, 96048, .inl q1)), (hm, .inr (12, [.ref ms, .ref mkp, .int (nI 0), .ref mtr, .int (nI 4), .int (nI 2), .int (nI 2), .int (nI 3), .int (nI 2), .int (nI 1), .ref mas, .int (nI 0), .int (nI 0), .int (nI 0), .ref mso, .ref mon, .ref mot, .ref man, .int (nI 0), .int (nI 0), .ref mst, .ref msm, .ref mtb, .ref mti, .ref mfr, .ref mbn, .ref mbs, .ref mde, .int (nI 0), .int (nI 0), .int (nI 0), .int (nI 0), .long 0, .long 0, .ref maa, .ref mab, .ref mba, .ref mbb])), (ms, .inl (cs 0, 288, .inl freshS)), (msm, .inl (cs 0, 2, .inl (smF2 (nI 1) b0))), (mst, .inl (cs 5, 2, .inr (.inr (.inr (.inr fst))))), (st0, .inl (cs 0, 96048, .inl (cpF freshS q0 48))), (mtb, .inl (cs 5, 2, .inr (.inr (.inr (.inr ftb))))), (tb0, .inl (cs 0, 8192, .inl (upd (fun _ => nI 0) 965 (nI 1)))), (mti, .inl (cs 6, 2, .inr (.inr (.inr (.inr fti))))), (ti0, .inl (cs 1, 2001, .inr (.inl (vp_updL u0 0 (lN (ww * 11))))))] H := hP
  replace hD : va_D A [(ti1, .inl (cs 1, 2001, .inr (.inl u1))), (st1, .inl (cs 0, 96048, .inl q1)), (hm, .inr (12, [.ref ms, .ref mkp, .int (nI 0), .ref mtr, .int (nI 4), .int (nI 2), .int (nI 2), .int (nI 3), .int (nI 2), .int (nI 1), .ref mas, .int (nI 0), .int (nI 0), .int (nI 0), .ref mso, .ref mon, .ref mot, .ref man, .int (nI 0), .int (nI 0), .ref mst, .ref msm, .ref mtb, .ref mti, .ref mfr, .ref mbn, .ref mbs, .ref mde, .int (nI 0), .int (nI 0), .int (nI 0), .int (nI 0), .long 0, .long 0, .ref maa, .ref mab, .ref mba, .ref mbb])), (ms, .inl (cs 0, 288, .inl freshS)), (msm, .inl (cs 0, 2, .inl (smF2 (nI 1) b0))), (mst, .inl (cs 5, 2, .inr (.inr (.inr (.inr fst))))), (st0, .inl (cs 0, 96048, .inl (cpF freshS q0 48))), (mtb, .inl (cs 5, 2, .inr (.inr (.inr (.inr ftb))))), (tb0, .inl (cs 0, 8192, .inl (upd (fun _ => nI 0) 965 (nI 1)))), (mti, .inl (cs 6, 2, .inr (.inr (.inr (.inr fti))))), (ti0, .inl (cs 1, 2001, .inr (.inl (vp_updL u0 0 (lN (ww * 11))))))] := hD
  subst hw_r_181
  refine lv_istore (lv' := [(5, .int (nI 0)), (4, .int (nI 6)), (3, .int (nI 3)), (0, .ref hm), (1, .int (nI 1)), (2, .int (nI 0))]) hx hb dX12_spreads_77 hl (by decide) rfl ?_
  clear hl
  try clear ls
  intro ls hl
  refine lv_iload hx hb dX12_spreads_79 (lv_at hl 0 rfl) ?_
  refine lv_if_ge (tgt := 86) hx hb dX12_spreads_81 (by decide) (fun _ => ?_) (fun c => absurd (by decide) c)
  refine lv_aload_n hx hb dX12_spreads_86 rfl (lv_at hl 3 rfl) ?_
  refine xget C hP 2 rfl rfl zuX12 23 (by decide) zw5_236 rfl dX12_spreads_87 ?_
  refine lv_iconst (v := nI 1) hx hb dX12_spreads_90 (by decide) ?_
  refine lv_iload_n hx hb dX12_spreads_91 rfl (lv_at hl 4 rfl) ?_
  refine lv_isub hx hb dX12_spreads_92 ?_
  refine lv_topi (nm_r (e' := nI 0) (by decide) ?_)
  refine xaald C hP 9 6 rfl rfl rfl 0 rfl (by decide) (by decide) ht0 dX12_spreads_93 ?_
  refine lv_iload hx hb dX12_spreads_94 (lv_at hl 0 rfl) ?_
  refine lv_dup2_11 hx hb dX12_spreads_96 rfl rfl ?_
  refine xlald C hP 10 rfl 0 rfl (by decide) (by decide) dX12_spreads_97 ?_
  refine lv_topl (nm_r (e' := lN (ww * 11)) (upL_0 _ _) ?_)
  refine lv_aload_n hx hb dX12_spreads_98 rfl (lv_at hl 3 rfl) ?_
  refine xget C hP 2 rfl rfl zuX12 23 (by decide) zw5_236 rfl dX12_spreads_99 ?_
  refine lv_iload_n hx hb dX12_spreads_102 rfl (lv_at hl 4 rfl) ?_
  refine xaald C hP 9 6 rfl rfl rfl 1 rfl (by decide) (by decide) ht1 dX12_spreads_103 ?_
  refine lv_iload_n hx hb dX12_spreads_104 rfl (lv_at hl 5 rfl) ?_
  refine xlald C hP 0 rfl 0 rfl (by decide) (by decide) dX12_spreads_105 ?_
  refine lv_topl (nm_r (e' := lN ww) hw ?_)
  refine lv_ladd hx hb dX12_spreads_106 ?_
  refine lv_topl (nm_r (e' := lN (ww * 12)) (lN_a ww 11) ?_)
  refine xlast C hP hD hS 10 rfl 0 rfl (by decide) (by decide) dX12_spreads_107 ?_
  clear hP hD hS
  try clear locs
  try clear H
  intro H locs hP hD hS
  replace hP : va_P D vwCl [(ti1, .inl (cs 1, 2001, .inr (.inl u1))), (st1, .inl (cs 0, 96048, .inl q1)), (hm, .inr (12, [.ref ms, .ref mkp, .int (nI 0), .ref mtr, .int (nI 4), .int (nI 2), .int (nI 2), .int (nI 3), .int (nI 2), .int (nI 1), .ref mas, .int (nI 0), .int (nI 0), .int (nI 0), .ref mso, .ref mon, .ref mot, .ref man, .int (nI 0), .int (nI 0), .ref mst, .ref msm, .ref mtb, .ref mti, .ref mfr, .ref mbn, .ref mbs, .ref mde, .int (nI 0), .int (nI 0), .int (nI 0), .int (nI 0), .long 0, .long 0, .ref maa, .ref mab, .ref mba, .ref mbb])), (ms, .inl (cs 0, 288, .inl freshS)), (msm, .inl (cs 0, 2, .inl (smF2 (nI 1) b0))), (mst, .inl (cs 5, 2, .inr (.inr (.inr (.inr fst))))), (st0, .inl (cs 0, 96048, .inl (cpF freshS q0 48))), (mtb, .inl (cs 5, 2, .inr (.inr (.inr (.inr ftb))))), (tb0, .inl (cs 0, 8192, .inl (upd (fun _ => nI 0) 965 (nI 1)))), (mti, .inl (cs 6, 2, .inr (.inr (.inr (.inr fti))))), (ti0, .inl (cs 1, 2001, .inr (.inl (vp_updL (vp_updL u0 0 (lN (ww * 11))) 0 (lN (ww * 12))))))] H := hP
  replace hD : va_D A [(ti1, .inl (cs 1, 2001, .inr (.inl u1))), (st1, .inl (cs 0, 96048, .inl q1)), (hm, .inr (12, [.ref ms, .ref mkp, .int (nI 0), .ref mtr, .int (nI 4), .int (nI 2), .int (nI 2), .int (nI 3), .int (nI 2), .int (nI 1), .ref mas, .int (nI 0), .int (nI 0), .int (nI 0), .ref mso, .ref mon, .ref mot, .ref man, .int (nI 0), .int (nI 0), .ref mst, .ref msm, .ref mtb, .ref mti, .ref mfr, .ref mbn, .ref mbs, .ref mde, .int (nI 0), .int (nI 0), .int (nI 0), .int (nI 0), .long 0, .long 0, .ref maa, .ref mab, .ref mba, .ref mbb])), (ms, .inl (cs 0, 288, .inl freshS)), (msm, .inl (cs 0, 2, .inl (smF2 (nI 1) b0))), (mst, .inl (cs 5, 2, .inr (.inr (.inr (.inr fst))))), (st0, .inl (cs 0, 96048, .inl (cpF freshS q0 48))), (mtb, .inl (cs 5, 2, .inr (.inr (.inr (.inr ftb))))), (tb0, .inl (cs 0, 8192, .inl (upd (fun _ => nI 0) 965 (nI 1)))), (mti, .inl (cs 6, 2, .inr (.inr (.inr (.inr fti))))), (ti0, .inl (cs 1, 2001, .inr (.inl (vp_updL (vp_updL u0 0 (lN (ww * 11))) 0 (lN (ww * 12))))))] := hD
  have hPD := xcongl (q0 := 10) (vp_updL u0 0 (lN (ww * 12))) hP hD rfl (fun j hj => upL_1 u0 _ _ j)
  clear hP hD
  obtain ⟨hP, hD⟩ := hPD
  replace hP : va_P D vwCl [(ti1, .inl (cs 1, 2001, .inr (.inl u1))), (st1, .inl (cs 0, 96048, .inl q1)), (hm, .inr (12, [.ref ms, .ref mkp, .int (nI 0), .ref mtr, .int (nI 4), .int (nI 2), .int (nI 2), .int (nI 3), .int (nI 2), .int (nI 1), .ref mas, .int (nI 0), .int (nI 0), .int (nI 0), .ref mso, .ref mon, .ref mot, .ref man, .int (nI 0), .int (nI 0), .ref mst, .ref msm, .ref mtb, .ref mti, .ref mfr, .ref mbn, .ref mbs, .ref mde, .int (nI 0), .int (nI 0), .int (nI 0), .int (nI 0), .long 0, .long 0, .ref maa, .ref mab, .ref mba, .ref mbb])), (ms, .inl (cs 0, 288, .inl freshS)), (msm, .inl (cs 0, 2, .inl (smF2 (nI 1) b0))), (mst, .inl (cs 5, 2, .inr (.inr (.inr (.inr fst))))), (st0, .inl (cs 0, 96048, .inl (cpF freshS q0 48))), (mtb, .inl (cs 5, 2, .inr (.inr (.inr (.inr ftb))))), (tb0, .inl (cs 0, 8192, .inl (upd (fun _ => nI 0) 965 (nI 1)))), (mti, .inl (cs 6, 2, .inr (.inr (.inr (.inr fti))))), (ti0, .inl (cs 1, 2001, .inr (.inl (vp_updL u0 0 (lN (ww * 12))))))] H := hP
  replace hD : va_D A [(ti1, .inl (cs 1, 2001, .inr (.inl u1))), (st1, .inl (cs 0, 96048, .inl q1)), (hm, .inr (12, [.ref ms, .ref mkp, .int (nI 0), .ref mtr, .int (nI 4), .int (nI 2), .int (nI 2), .int (nI 3), .int (nI 2), .int (nI 1), .ref mas, .int (nI 0), .int (nI 0), .int (nI 0), .ref mso, .ref mon, .ref mot, .ref man, .int (nI 0), .int (nI 0), .ref mst, .ref msm, .ref mtb, .ref mti, .ref mfr, .ref mbn, .ref mbs, .ref mde, .int (nI 0), .int (nI 0), .int (nI 0), .int (nI 0), .long 0, .long 0, .ref maa, .ref mab, .ref mba, .ref mbb])), (ms, .inl (cs 0, 288, .inl freshS)), (msm, .inl (cs 0, 2, .inl (smF2 (nI 1) b0))), (mst, .inl (cs 5, 2, .inr (.inr (.inr (.inr fst))))), (st0, .inl (cs 0, 96048, .inl (cpF freshS q0 48))), (mtb, .inl (cs 5, 2, .inr (.inr (.inr (.inr ftb))))), (tb0, .inl (cs 0, 8192, .inl (upd (fun _ => nI 0) 965 (nI 1)))), (mti, .inl (cs 6, 2, .inr (.inr (.inr (.inr fti))))), (ti0, .inl (cs 1, 2001, .inr (.inl (vp_updL u0 0 (lN (ww * 12))))))] := hD
  refine lv_iinc (v := nI 7) (lv' := [(4, .int (nI 7)), (5, .int (nI 0)), (3, .int (nI 3)), (0, .ref hm), (1, .int (nI 1)), (2, .int (nI 0))]) hx hb dX12_spreads_108 hl (k := 1) rfl (by decide) (by decide) rfl ?_
  clear hl
  try clear ls
  intro ls hl
  refine lv_goto (tgt := 13) hx hb dX12_spreads_111 (by decide) ?_
  refine lv_iload hx hb dX12_spreads_13 (lv_at hl 0 rfl) ?_
  refine lv_iconst (v := nI 1) hx hb dX12_spreads_15 (by decide) ?_
  refine lv_aload_n hx hb dX12_spreads_16 rfl (lv_at hl 3 rfl) ?_
  refine xget C hP 2 rfl rfl zuX12 4 (by decide) zw5_217 rfl dX12_spreads_17 ?_
  refine lv_ishl hx hb dX12_spreads_20 ?_
  refine lv_topi (nm_r (e' := nI 16) (by decide) ?_)
  refine lv_icmp_ge (tgt := 114) hx hb dX12_spreads_21 (by decide) (fun c => absurd c (by decide)) (fun _ => ?_)
  refine lv_aload_n hx hb dX12_spreads_24 rfl (lv_at hl 3 rfl) ?_
  refine lv_iload_n hx hb dX12_spreads_25 rfl (lv_at hl 2 rfl) ?_
  refine lv_iload hx hb dX12_spreads_26 (lv_at hl 0 rfl) ?_
  refine xi (wr := [(ti1, .inl (cs 1, 2001, .inr (.inl u1))), (st1, .inl (cs 0, 96048, .inl q1)), (ms, .inl (cs 0, 288, .inl freshS)), (msm, .inl (cs 0, 2, .inl (smF2 (nI 1) b0))), (mst, .inl (cs 5, 2, .inr (.inr (.inr (.inr fst))))), (st0, .inl (cs 0, 96048, .inl (cpF freshS q0 48))), (mtb, .inl (cs 5, 2, .inr (.inr (.inr (.inr ftb))))), (tb0, .inl (cs 0, 8192, .inl (upd (fun _ => nI 0) 965 (nI 1)))), (mti, .inl (cs 6, 2, .inr (.inr (.inr (.inr fti))))), (ti0, .inl (cs 1, 2001, .inr (.inl (vp_updL u0 0 (lN (ww * 12))))))]) (xV (As := [.int (nI 3), .int (nI 7)]) (rest := []) C (c_X12_isSample_x l D cs hm ms mkp mtr mas mso mon mot man mst msm mtb mti mfr mbn mbs mde maa mab mba mbb 3 7 (by decide) (by decide)) kX12_139 hP hD [2] rfl (by decide +kernel) 0 rfl rfl rfl ⟨Nat.le_of_ble_eq_true rfl, Nat.le_of_ble_eq_true rfl⟩ rfl hl.1 rfl (Nat.le_of_ble_eq_true rfl) dX12_spreads_28 ⟨Nat.le_of_ble_eq_true rfl, Nat.le_of_ble_eq_true rfl⟩) hP hD hS hA [2] [0, 1, 3, 4, 5, 6, 7, 8, 9, 10] rfl rfl (by decide +kernel) (by decide +kernel) ?_
  clear hP hD hS
  try clear locs
  try clear H
  intro r_183 u_184 H locs hw_r_183 hP hD hS
  have hw_r_183 : r_183 = smB 3 7 := hw_r_183
  refine W.widen (k := 0) (n := 0) (Nat.le_of_ble_eq_true rfl) (Nat.le_of_ble_eq_true rfl) ?_
  replace hP : va_P D vwCl [(ti1, .inl (cs 1, 2001, .inr (.inl u1))), (st1, .inl (cs 0, 96048, .inl q1)), (ms, .inl (cs 0, 288, .inl freshS)), (msm, .inl (cs 0, 2, .inl (smF2 (nI 1) b0))), (mst, .inl (cs 5, 2, .inr (.inr (.inr (.inr fst))))), (st0, .inl (cs 0, 96048, .inl (cpF freshS q0 48))), (mtb, .inl (cs 5, 2, .inr (.inr (.inr (.inr ftb))))), (tb0, .inl (cs 0, 8192, .inl (upd (fun _ => nI 0) 965 (nI 1)))), (mti, .inl (cs 6, 2, .inr (.inr (.inr (.inr fti))))), (ti0, .inl (cs 1, 2001, .inr (.inl (vp_updL u0 0 (lN (ww * 12)))))), (hm, .inr (12, [.ref ms, .ref mkp, .int (nI 0), .ref mtr, .int (nI 4), .int (nI 2), .int (nI 2), .int (nI 3), .int (nI 2), .int (nI 1), .ref mas, .int (nI 0), .int (nI 0), .int (nI 0), .ref mso, .ref mon, .ref mot, .ref man, .int (nI 0), .int (nI 0), .ref mst, .ref msm, .ref mtb, .ref mti, .ref mfr, .ref mbn, .ref mbs, .ref mde, .int (nI 0), .int (nI 0), .int (nI 0), .int (nI 0), .long 0, .long 0, .ref maa, .ref mab, .ref mba, .ref mbb]))] H := hP
  replace hD : va_D A [(ti1, .inl (cs 1, 2001, .inr (.inl u1))), (st1, .inl (cs 0, 96048, .inl q1)), (ms, .inl (cs 0, 288, .inl freshS)), (msm, .inl (cs 0, 2, .inl (smF2 (nI 1) b0))), (mst, .inl (cs 5, 2, .inr (.inr (.inr (.inr fst))))), (st0, .inl (cs 0, 96048, .inl (cpF freshS q0 48))), (mtb, .inl (cs 5, 2, .inr (.inr (.inr (.inr ftb))))), (tb0, .inl (cs 0, 8192, .inl (upd (fun _ => nI 0) 965 (nI 1)))), (mti, .inl (cs 6, 2, .inr (.inr (.inr (.inr fti))))), (ti0, .inl (cs 1, 2001, .inr (.inl (vp_updL u0 0 (lN (ww * 12)))))), (hm, .inr (12, [.ref ms, .ref mkp, .int (nI 0), .ref mtr, .int (nI 4), .int (nI 2), .int (nI 2), .int (nI 3), .int (nI 2), .int (nI 1), .ref mas, .int (nI 0), .int (nI 0), .int (nI 0), .ref mso, .ref mon, .ref mot, .ref man, .int (nI 0), .int (nI 0), .ref mst, .ref msm, .ref mtb, .ref mti, .ref mfr, .ref mbn, .ref mbs, .ref mde, .int (nI 0), .int (nI 0), .int (nI 0), .int (nI 0), .long 0, .long 0, .ref maa, .ref mab, .ref mba, .ref mbb]))] := hD
  obtain rfl : r_183 = nI 0 := by rw [hw_r_183]; decide +kernel
  refine lv_if_ne (tgt := 37) hx hb dX12_spreads_31 (by decide) (fun c => absurd (by decide) c) (fun _ => ?_)
  refine lv_goto (tgt := 108) hx hb dX12_spreads_34 (by decide) ?_
  refine lv_iinc (v := nI 8) (lv' := [(4, .int (nI 8)), (5, .int (nI 0)), (3, .int (nI 3)), (0, .ref hm), (1, .int (nI 1)), (2, .int (nI 0))]) hx hb dX12_spreads_108 hl (k := 0) rfl (by decide) (by decide) rfl ?_
  clear hl
  try clear ls
  intro ls hl
  refine lv_goto (tgt := 13) hx hb dX12_spreads_111 (by decide) ?_
  refine lv_iload hx hb dX12_spreads_13 (lv_at hl 0 rfl) ?_
  refine lv_iconst (v := nI 1) hx hb dX12_spreads_15 (by decide) ?_
  refine lv_aload_n hx hb dX12_spreads_16 rfl (lv_at hl 3 rfl) ?_
  refine xget C hP 10 rfl rfl zuX12 4 (by decide) zw5_217 rfl dX12_spreads_17 ?_
  refine lv_ishl hx hb dX12_spreads_20 ?_
  refine lv_topi (nm_r (e' := nI 16) (by decide) ?_)
  refine lv_icmp_ge (tgt := 114) hx hb dX12_spreads_21 (by decide) (fun c => absurd c (by decide)) (fun _ => ?_)
  refine lv_aload_n hx hb dX12_spreads_24 rfl (lv_at hl 3 rfl) ?_
  refine lv_iload_n hx hb dX12_spreads_25 rfl (lv_at hl 2 rfl) ?_
  refine lv_iload hx hb dX12_spreads_26 (lv_at hl 0 rfl) ?_
  refine xi (wr := [(ti1, .inl (cs 1, 2001, .inr (.inl u1))), (st1, .inl (cs 0, 96048, .inl q1)), (ms, .inl (cs 0, 288, .inl freshS)), (msm, .inl (cs 0, 2, .inl (smF2 (nI 1) b0))), (mst, .inl (cs 5, 2, .inr (.inr (.inr (.inr fst))))), (st0, .inl (cs 0, 96048, .inl (cpF freshS q0 48))), (mtb, .inl (cs 5, 2, .inr (.inr (.inr (.inr ftb))))), (tb0, .inl (cs 0, 8192, .inl (upd (fun _ => nI 0) 965 (nI 1)))), (mti, .inl (cs 6, 2, .inr (.inr (.inr (.inr fti))))), (ti0, .inl (cs 1, 2001, .inr (.inl (vp_updL u0 0 (lN (ww * 12))))))]) (xV (As := [.int (nI 3), .int (nI 8)]) (rest := []) C (c_X12_isSample_x l D cs hm ms mkp mtr mas mso mon mot man mst msm mtb mti mfr mbn mbs mde maa mab mba mbb 3 8 (by decide) (by decide)) kX12_139 hP hD [10] rfl (by decide +kernel) 0 rfl rfl rfl ⟨Nat.le_of_ble_eq_true rfl, Nat.le_of_ble_eq_true rfl⟩ rfl hl.1 rfl (Nat.le_of_ble_eq_true rfl) dX12_spreads_28 ⟨Nat.le_of_ble_eq_true rfl, Nat.le_of_ble_eq_true rfl⟩) hP hD hS hA [10] [0, 1, 2, 3, 4, 5, 6, 7, 8, 9] rfl rfl (by decide +kernel) (by decide +kernel) ?_
  clear hP hD hS
  try clear locs
  try clear H
  intro r_185 u_186 H locs hw_r_185 hP hD hS
  have hw_r_185 : r_185 = smB 3 8 := hw_r_185
  refine W.widen (k := 0) (n := 0) (Nat.le_of_ble_eq_true rfl) (Nat.le_of_ble_eq_true rfl) ?_
  replace hP : va_P D vwCl [(ti1, .inl (cs 1, 2001, .inr (.inl u1))), (st1, .inl (cs 0, 96048, .inl q1)), (ms, .inl (cs 0, 288, .inl freshS)), (msm, .inl (cs 0, 2, .inl (smF2 (nI 1) b0))), (mst, .inl (cs 5, 2, .inr (.inr (.inr (.inr fst))))), (st0, .inl (cs 0, 96048, .inl (cpF freshS q0 48))), (mtb, .inl (cs 5, 2, .inr (.inr (.inr (.inr ftb))))), (tb0, .inl (cs 0, 8192, .inl (upd (fun _ => nI 0) 965 (nI 1)))), (mti, .inl (cs 6, 2, .inr (.inr (.inr (.inr fti))))), (ti0, .inl (cs 1, 2001, .inr (.inl (vp_updL u0 0 (lN (ww * 12)))))), (hm, .inr (12, [.ref ms, .ref mkp, .int (nI 0), .ref mtr, .int (nI 4), .int (nI 2), .int (nI 2), .int (nI 3), .int (nI 2), .int (nI 1), .ref mas, .int (nI 0), .int (nI 0), .int (nI 0), .ref mso, .ref mon, .ref mot, .ref man, .int (nI 0), .int (nI 0), .ref mst, .ref msm, .ref mtb, .ref mti, .ref mfr, .ref mbn, .ref mbs, .ref mde, .int (nI 0), .int (nI 0), .int (nI 0), .int (nI 0), .long 0, .long 0, .ref maa, .ref mab, .ref mba, .ref mbb]))] H := hP
  replace hD : va_D A [(ti1, .inl (cs 1, 2001, .inr (.inl u1))), (st1, .inl (cs 0, 96048, .inl q1)), (ms, .inl (cs 0, 288, .inl freshS)), (msm, .inl (cs 0, 2, .inl (smF2 (nI 1) b0))), (mst, .inl (cs 5, 2, .inr (.inr (.inr (.inr fst))))), (st0, .inl (cs 0, 96048, .inl (cpF freshS q0 48))), (mtb, .inl (cs 5, 2, .inr (.inr (.inr (.inr ftb))))), (tb0, .inl (cs 0, 8192, .inl (upd (fun _ => nI 0) 965 (nI 1)))), (mti, .inl (cs 6, 2, .inr (.inr (.inr (.inr fti))))), (ti0, .inl (cs 1, 2001, .inr (.inl (vp_updL u0 0 (lN (ww * 12)))))), (hm, .inr (12, [.ref ms, .ref mkp, .int (nI 0), .ref mtr, .int (nI 4), .int (nI 2), .int (nI 2), .int (nI 3), .int (nI 2), .int (nI 1), .ref mas, .int (nI 0), .int (nI 0), .int (nI 0), .ref mso, .ref mon, .ref mot, .ref man, .int (nI 0), .int (nI 0), .ref mst, .ref msm, .ref mtb, .ref mti, .ref mfr, .ref mbn, .ref mbs, .ref mde, .int (nI 0), .int (nI 0), .int (nI 0), .int (nI 0), .long 0, .long 0, .ref maa, .ref mab, .ref mba, .ref mbb]))] := hD
  obtain rfl : r_185 = nI 0 := by rw [hw_r_185]; decide +kernel
  refine lv_if_ne (tgt := 37) hx hb dX12_spreads_31 (by decide) (fun c => absurd (by decide) c) (fun _ => ?_)
  refine lv_goto (tgt := 108) hx hb dX12_spreads_34 (by decide) ?_
  refine lv_iinc (v := nI 9) (lv' := [(4, .int (nI 9)), (5, .int (nI 0)), (3, .int (nI 3)), (0, .ref hm), (1, .int (nI 1)), (2, .int (nI 0))]) hx hb dX12_spreads_108 hl (k := 0) rfl (by decide) (by decide) rfl ?_
  clear hl
  try clear ls
  intro ls hl
  refine lv_goto (tgt := 13) hx hb dX12_spreads_111 (by decide) ?_
  refine lv_iload hx hb dX12_spreads_13 (lv_at hl 0 rfl) ?_
  refine lv_iconst (v := nI 1) hx hb dX12_spreads_15 (by decide) ?_
  refine lv_aload_n hx hb dX12_spreads_16 rfl (lv_at hl 3 rfl) ?_
  refine xget C hP 10 rfl rfl zuX12 4 (by decide) zw5_217 rfl dX12_spreads_17 ?_
  refine lv_ishl hx hb dX12_spreads_20 ?_
  refine lv_topi (nm_r (e' := nI 16) (by decide) ?_)
  refine lv_icmp_ge (tgt := 114) hx hb dX12_spreads_21 (by decide) (fun c => absurd c (by decide)) (fun _ => ?_)
  refine lv_aload_n hx hb dX12_spreads_24 rfl (lv_at hl 3 rfl) ?_
  refine lv_iload_n hx hb dX12_spreads_25 rfl (lv_at hl 2 rfl) ?_
  refine lv_iload hx hb dX12_spreads_26 (lv_at hl 0 rfl) ?_
  refine xi (wr := [(ti1, .inl (cs 1, 2001, .inr (.inl u1))), (st1, .inl (cs 0, 96048, .inl q1)), (ms, .inl (cs 0, 288, .inl freshS)), (msm, .inl (cs 0, 2, .inl (smF2 (nI 1) b0))), (mst, .inl (cs 5, 2, .inr (.inr (.inr (.inr fst))))), (st0, .inl (cs 0, 96048, .inl (cpF freshS q0 48))), (mtb, .inl (cs 5, 2, .inr (.inr (.inr (.inr ftb))))), (tb0, .inl (cs 0, 8192, .inl (upd (fun _ => nI 0) 965 (nI 1)))), (mti, .inl (cs 6, 2, .inr (.inr (.inr (.inr fti))))), (ti0, .inl (cs 1, 2001, .inr (.inl (vp_updL u0 0 (lN (ww * 12))))))]) (xV (As := [.int (nI 3), .int (nI 9)]) (rest := []) C (c_X12_isSample_x l D cs hm ms mkp mtr mas mso mon mot man mst msm mtb mti mfr mbn mbs mde maa mab mba mbb 3 9 (by decide) (by decide)) kX12_139 hP hD [10] rfl (by decide +kernel) 0 rfl rfl rfl ⟨Nat.le_of_ble_eq_true rfl, Nat.le_of_ble_eq_true rfl⟩ rfl hl.1 rfl (Nat.le_of_ble_eq_true rfl) dX12_spreads_28 ⟨Nat.le_of_ble_eq_true rfl, Nat.le_of_ble_eq_true rfl⟩) hP hD hS hA [10] [0, 1, 2, 3, 4, 5, 6, 7, 8, 9] rfl rfl (by decide +kernel) (by decide +kernel) ?_
  clear hP hD hS
  try clear locs
  try clear H
  intro r_187 u_188 H locs hw_r_187 hP hD hS
  have hw_r_187 : r_187 = smB 3 9 := hw_r_187
  refine W.widen (k := 0) (n := 0) (Nat.le_of_ble_eq_true rfl) (Nat.le_of_ble_eq_true rfl) ?_
  replace hP : va_P D vwCl [(ti1, .inl (cs 1, 2001, .inr (.inl u1))), (st1, .inl (cs 0, 96048, .inl q1)), (ms, .inl (cs 0, 288, .inl freshS)), (msm, .inl (cs 0, 2, .inl (smF2 (nI 1) b0))), (mst, .inl (cs 5, 2, .inr (.inr (.inr (.inr fst))))), (st0, .inl (cs 0, 96048, .inl (cpF freshS q0 48))), (mtb, .inl (cs 5, 2, .inr (.inr (.inr (.inr ftb))))), (tb0, .inl (cs 0, 8192, .inl (upd (fun _ => nI 0) 965 (nI 1)))), (mti, .inl (cs 6, 2, .inr (.inr (.inr (.inr fti))))), (ti0, .inl (cs 1, 2001, .inr (.inl (vp_updL u0 0 (lN (ww * 12)))))), (hm, .inr (12, [.ref ms, .ref mkp, .int (nI 0), .ref mtr, .int (nI 4), .int (nI 2), .int (nI 2), .int (nI 3), .int (nI 2), .int (nI 1), .ref mas, .int (nI 0), .int (nI 0), .int (nI 0), .ref mso, .ref mon, .ref mot, .ref man, .int (nI 0), .int (nI 0), .ref mst, .ref msm, .ref mtb, .ref mti, .ref mfr, .ref mbn, .ref mbs, .ref mde, .int (nI 0), .int (nI 0), .int (nI 0), .int (nI 0), .long 0, .long 0, .ref maa, .ref mab, .ref mba, .ref mbb]))] H := hP
  replace hD : va_D A [(ti1, .inl (cs 1, 2001, .inr (.inl u1))), (st1, .inl (cs 0, 96048, .inl q1)), (ms, .inl (cs 0, 288, .inl freshS)), (msm, .inl (cs 0, 2, .inl (smF2 (nI 1) b0))), (mst, .inl (cs 5, 2, .inr (.inr (.inr (.inr fst))))), (st0, .inl (cs 0, 96048, .inl (cpF freshS q0 48))), (mtb, .inl (cs 5, 2, .inr (.inr (.inr (.inr ftb))))), (tb0, .inl (cs 0, 8192, .inl (upd (fun _ => nI 0) 965 (nI 1)))), (mti, .inl (cs 6, 2, .inr (.inr (.inr (.inr fti))))), (ti0, .inl (cs 1, 2001, .inr (.inl (vp_updL u0 0 (lN (ww * 12)))))), (hm, .inr (12, [.ref ms, .ref mkp, .int (nI 0), .ref mtr, .int (nI 4), .int (nI 2), .int (nI 2), .int (nI 3), .int (nI 2), .int (nI 1), .ref mas, .int (nI 0), .int (nI 0), .int (nI 0), .ref mso, .ref mon, .ref mot, .ref man, .int (nI 0), .int (nI 0), .ref mst, .ref msm, .ref mtb, .ref mti, .ref mfr, .ref mbn, .ref mbs, .ref mde, .int (nI 0), .int (nI 0), .int (nI 0), .int (nI 0), .long 0, .long 0, .ref maa, .ref mab, .ref mba, .ref mbb]))] := hD
  obtain rfl : r_187 = nI 0 := by rw [hw_r_187]; decide +kernel
  refine lv_if_ne (tgt := 37) hx hb dX12_spreads_31 (by decide) (fun c => absurd (by decide) c) (fun _ => ?_)
  refine lv_goto (tgt := 108) hx hb dX12_spreads_34 (by decide) ?_
  refine lv_iinc (v := nI 10) (lv' := [(4, .int (nI 10)), (5, .int (nI 0)), (3, .int (nI 3)), (0, .ref hm), (1, .int (nI 1)), (2, .int (nI 0))]) hx hb dX12_spreads_108 hl (k := 0) rfl (by decide) (by decide) rfl ?_
  clear hl
  try clear ls
  intro ls hl
  refine lv_goto (tgt := 13) hx hb dX12_spreads_111 (by decide) ?_
  refine lv_iload hx hb dX12_spreads_13 (lv_at hl 0 rfl) ?_
  refine lv_iconst (v := nI 1) hx hb dX12_spreads_15 (by decide) ?_
  refine lv_aload_n hx hb dX12_spreads_16 rfl (lv_at hl 3 rfl) ?_
  refine xget C hP 10 rfl rfl zuX12 4 (by decide) zw5_217 rfl dX12_spreads_17 ?_
  refine lv_ishl hx hb dX12_spreads_20 ?_
  refine lv_topi (nm_r (e' := nI 16) (by decide) ?_)
  refine lv_icmp_ge (tgt := 114) hx hb dX12_spreads_21 (by decide) (fun c => absurd c (by decide)) (fun _ => ?_)
  refine lv_aload_n hx hb dX12_spreads_24 rfl (lv_at hl 3 rfl) ?_
  refine lv_iload_n hx hb dX12_spreads_25 rfl (lv_at hl 2 rfl) ?_
  refine lv_iload hx hb dX12_spreads_26 (lv_at hl 0 rfl) ?_
  refine xi (wr := [(ti1, .inl (cs 1, 2001, .inr (.inl u1))), (st1, .inl (cs 0, 96048, .inl q1)), (ms, .inl (cs 0, 288, .inl freshS)), (msm, .inl (cs 0, 2, .inl (smF2 (nI 1) b0))), (mst, .inl (cs 5, 2, .inr (.inr (.inr (.inr fst))))), (st0, .inl (cs 0, 96048, .inl (cpF freshS q0 48))), (mtb, .inl (cs 5, 2, .inr (.inr (.inr (.inr ftb))))), (tb0, .inl (cs 0, 8192, .inl (upd (fun _ => nI 0) 965 (nI 1)))), (mti, .inl (cs 6, 2, .inr (.inr (.inr (.inr fti))))), (ti0, .inl (cs 1, 2001, .inr (.inl (vp_updL u0 0 (lN (ww * 12))))))]) (xV (As := [.int (nI 3), .int (nI 10)]) (rest := []) C (c_X12_isSample_x l D cs hm ms mkp mtr mas mso mon mot man mst msm mtb mti mfr mbn mbs mde maa mab mba mbb 3 10 (by decide) (by decide)) kX12_139 hP hD [10] rfl (by decide +kernel) 0 rfl rfl rfl ⟨Nat.le_of_ble_eq_true rfl, Nat.le_of_ble_eq_true rfl⟩ rfl hl.1 rfl (Nat.le_of_ble_eq_true rfl) dX12_spreads_28 ⟨Nat.le_of_ble_eq_true rfl, Nat.le_of_ble_eq_true rfl⟩) hP hD hS hA [10] [0, 1, 2, 3, 4, 5, 6, 7, 8, 9] rfl rfl (by decide +kernel) (by decide +kernel) ?_
  clear hP hD hS
  try clear locs
  try clear H
  intro r_189 u_190 H locs hw_r_189 hP hD hS
  have hw_r_189 : r_189 = smB 3 10 := hw_r_189
  refine W.widen (k := 0) (n := 0) (Nat.le_of_ble_eq_true rfl) (Nat.le_of_ble_eq_true rfl) ?_
  replace hP : va_P D vwCl [(ti1, .inl (cs 1, 2001, .inr (.inl u1))), (st1, .inl (cs 0, 96048, .inl q1)), (ms, .inl (cs 0, 288, .inl freshS)), (msm, .inl (cs 0, 2, .inl (smF2 (nI 1) b0))), (mst, .inl (cs 5, 2, .inr (.inr (.inr (.inr fst))))), (st0, .inl (cs 0, 96048, .inl (cpF freshS q0 48))), (mtb, .inl (cs 5, 2, .inr (.inr (.inr (.inr ftb))))), (tb0, .inl (cs 0, 8192, .inl (upd (fun _ => nI 0) 965 (nI 1)))), (mti, .inl (cs 6, 2, .inr (.inr (.inr (.inr fti))))), (ti0, .inl (cs 1, 2001, .inr (.inl (vp_updL u0 0 (lN (ww * 12)))))), (hm, .inr (12, [.ref ms, .ref mkp, .int (nI 0), .ref mtr, .int (nI 4), .int (nI 2), .int (nI 2), .int (nI 3), .int (nI 2), .int (nI 1), .ref mas, .int (nI 0), .int (nI 0), .int (nI 0), .ref mso, .ref mon, .ref mot, .ref man, .int (nI 0), .int (nI 0), .ref mst, .ref msm, .ref mtb, .ref mti, .ref mfr, .ref mbn, .ref mbs, .ref mde, .int (nI 0), .int (nI 0), .int (nI 0), .int (nI 0), .long 0, .long 0, .ref maa, .ref mab, .ref mba, .ref mbb]))] H := hP
  replace hD : va_D A [(ti1, .inl (cs 1, 2001, .inr (.inl u1))), (st1, .inl (cs 0, 96048, .inl q1)), (ms, .inl (cs 0, 288, .inl freshS)), (msm, .inl (cs 0, 2, .inl (smF2 (nI 1) b0))), (mst, .inl (cs 5, 2, .inr (.inr (.inr (.inr fst))))), (st0, .inl (cs 0, 96048, .inl (cpF freshS q0 48))), (mtb, .inl (cs 5, 2, .inr (.inr (.inr (.inr ftb))))), (tb0, .inl (cs 0, 8192, .inl (upd (fun _ => nI 0) 965 (nI 1)))), (mti, .inl (cs 6, 2, .inr (.inr (.inr (.inr fti))))), (ti0, .inl (cs 1, 2001, .inr (.inl (vp_updL u0 0 (lN (ww * 12)))))), (hm, .inr (12, [.ref ms, .ref mkp, .int (nI 0), .ref mtr, .int (nI 4), .int (nI 2), .int (nI 2), .int (nI 3), .int (nI 2), .int (nI 1), .ref mas, .int (nI 0), .int (nI 0), .int (nI 0), .ref mso, .ref mon, .ref mot, .ref man, .int (nI 0), .int (nI 0), .ref mst, .ref msm, .ref mtb, .ref mti, .ref mfr, .ref mbn, .ref mbs, .ref mde, .int (nI 0), .int (nI 0), .int (nI 0), .int (nI 0), .long 0, .long 0, .ref maa, .ref mab, .ref mba, .ref mbb]))] := hD
  obtain rfl : r_189 = nI 0 := by rw [hw_r_189]; decide +kernel
  refine lv_if_ne (tgt := 37) hx hb dX12_spreads_31 (by decide) (fun c => absurd (by decide) c) (fun _ => ?_)
  refine lv_goto (tgt := 108) hx hb dX12_spreads_34 (by decide) ?_
  refine lv_iinc (v := nI 11) (lv' := [(4, .int (nI 11)), (5, .int (nI 0)), (3, .int (nI 3)), (0, .ref hm), (1, .int (nI 1)), (2, .int (nI 0))]) hx hb dX12_spreads_108 hl (k := 0) rfl (by decide) (by decide) rfl ?_
  clear hl
  try clear ls
  intro ls hl
  refine lv_goto (tgt := 13) hx hb dX12_spreads_111 (by decide) ?_
  refine lv_iload hx hb dX12_spreads_13 (lv_at hl 0 rfl) ?_
  refine lv_iconst (v := nI 1) hx hb dX12_spreads_15 (by decide) ?_
  refine lv_aload_n hx hb dX12_spreads_16 rfl (lv_at hl 3 rfl) ?_
  refine xget C hP 10 rfl rfl zuX12 4 (by decide) zw5_217 rfl dX12_spreads_17 ?_
  refine lv_ishl hx hb dX12_spreads_20 ?_
  refine lv_topi (nm_r (e' := nI 16) (by decide) ?_)
  refine lv_icmp_ge (tgt := 114) hx hb dX12_spreads_21 (by decide) (fun c => absurd c (by decide)) (fun _ => ?_)
  refine lv_aload_n hx hb dX12_spreads_24 rfl (lv_at hl 3 rfl) ?_
  refine lv_iload_n hx hb dX12_spreads_25 rfl (lv_at hl 2 rfl) ?_
  refine lv_iload hx hb dX12_spreads_26 (lv_at hl 0 rfl) ?_
  refine xi (wr := [(ti1, .inl (cs 1, 2001, .inr (.inl u1))), (st1, .inl (cs 0, 96048, .inl q1)), (ms, .inl (cs 0, 288, .inl freshS)), (msm, .inl (cs 0, 2, .inl (smF2 (nI 1) b0))), (mst, .inl (cs 5, 2, .inr (.inr (.inr (.inr fst))))), (st0, .inl (cs 0, 96048, .inl (cpF freshS q0 48))), (mtb, .inl (cs 5, 2, .inr (.inr (.inr (.inr ftb))))), (tb0, .inl (cs 0, 8192, .inl (upd (fun _ => nI 0) 965 (nI 1)))), (mti, .inl (cs 6, 2, .inr (.inr (.inr (.inr fti))))), (ti0, .inl (cs 1, 2001, .inr (.inl (vp_updL u0 0 (lN (ww * 12))))))]) (xV (As := [.int (nI 3), .int (nI 11)]) (rest := []) C (c_X12_isSample_x l D cs hm ms mkp mtr mas mso mon mot man mst msm mtb mti mfr mbn mbs mde maa mab mba mbb 3 11 (by decide) (by decide)) kX12_139 hP hD [10] rfl (by decide +kernel) 0 rfl rfl rfl ⟨Nat.le_of_ble_eq_true rfl, Nat.le_of_ble_eq_true rfl⟩ rfl hl.1 rfl (Nat.le_of_ble_eq_true rfl) dX12_spreads_28 ⟨Nat.le_of_ble_eq_true rfl, Nat.le_of_ble_eq_true rfl⟩) hP hD hS hA [10] [0, 1, 2, 3, 4, 5, 6, 7, 8, 9] rfl rfl (by decide +kernel) (by decide +kernel) ?_
  clear hP hD hS
  try clear locs
  try clear H
  intro r_191 u_192 H locs hw_r_191 hP hD hS
  have hw_r_191 : r_191 = smB 3 11 := hw_r_191
  refine W.widen (k := 0) (n := 0) (Nat.le_of_ble_eq_true rfl) (Nat.le_of_ble_eq_true rfl) ?_
  replace hP : va_P D vwCl [(ti1, .inl (cs 1, 2001, .inr (.inl u1))), (st1, .inl (cs 0, 96048, .inl q1)), (ms, .inl (cs 0, 288, .inl freshS)), (msm, .inl (cs 0, 2, .inl (smF2 (nI 1) b0))), (mst, .inl (cs 5, 2, .inr (.inr (.inr (.inr fst))))), (st0, .inl (cs 0, 96048, .inl (cpF freshS q0 48))), (mtb, .inl (cs 5, 2, .inr (.inr (.inr (.inr ftb))))), (tb0, .inl (cs 0, 8192, .inl (upd (fun _ => nI 0) 965 (nI 1)))), (mti, .inl (cs 6, 2, .inr (.inr (.inr (.inr fti))))), (ti0, .inl (cs 1, 2001, .inr (.inl (vp_updL u0 0 (lN (ww * 12)))))), (hm, .inr (12, [.ref ms, .ref mkp, .int (nI 0), .ref mtr, .int (nI 4), .int (nI 2), .int (nI 2), .int (nI 3), .int (nI 2), .int (nI 1), .ref mas, .int (nI 0), .int (nI 0), .int (nI 0), .ref mso, .ref mon, .ref mot, .ref man, .int (nI 0), .int (nI 0), .ref mst, .ref msm, .ref mtb, .ref mti, .ref mfr, .ref mbn, .ref mbs, .ref mde, .int (nI 0), .int (nI 0), .int (nI 0), .int (nI 0), .long 0, .long 0, .ref maa, .ref mab, .ref mba, .ref mbb]))] H := hP
  replace hD : va_D A [(ti1, .inl (cs 1, 2001, .inr (.inl u1))), (st1, .inl (cs 0, 96048, .inl q1)), (ms, .inl (cs 0, 288, .inl freshS)), (msm, .inl (cs 0, 2, .inl (smF2 (nI 1) b0))), (mst, .inl (cs 5, 2, .inr (.inr (.inr (.inr fst))))), (st0, .inl (cs 0, 96048, .inl (cpF freshS q0 48))), (mtb, .inl (cs 5, 2, .inr (.inr (.inr (.inr ftb))))), (tb0, .inl (cs 0, 8192, .inl (upd (fun _ => nI 0) 965 (nI 1)))), (mti, .inl (cs 6, 2, .inr (.inr (.inr (.inr fti))))), (ti0, .inl (cs 1, 2001, .inr (.inl (vp_updL u0 0 (lN (ww * 12)))))), (hm, .inr (12, [.ref ms, .ref mkp, .int (nI 0), .ref mtr, .int (nI 4), .int (nI 2), .int (nI 2), .int (nI 3), .int (nI 2), .int (nI 1), .ref mas, .int (nI 0), .int (nI 0), .int (nI 0), .ref mso, .ref mon, .ref mot, .ref man, .int (nI 0), .int (nI 0), .ref mst, .ref msm, .ref mtb, .ref mti, .ref mfr, .ref mbn, .ref mbs, .ref mde, .int (nI 0), .int (nI 0), .int (nI 0), .int (nI 0), .long 0, .long 0, .ref maa, .ref mab, .ref mba, .ref mbb]))] := hD
  obtain rfl : r_191 = nI 0 := by rw [hw_r_191]; decide +kernel
  refine lv_if_ne (tgt := 37) hx hb dX12_spreads_31 (by decide) (fun c => absurd (by decide) c) (fun _ => ?_)
  refine lv_goto (tgt := 108) hx hb dX12_spreads_34 (by decide) ?_
  refine lv_iinc (v := nI 12) (lv' := [(4, .int (nI 12)), (5, .int (nI 0)), (3, .int (nI 3)), (0, .ref hm), (1, .int (nI 1)), (2, .int (nI 0))]) hx hb dX12_spreads_108 hl (k := 0) rfl (by decide) (by decide) rfl ?_
  clear hl
  try clear ls
  intro ls hl
  refine lv_goto (tgt := 13) hx hb dX12_spreads_111 (by decide) ?_
  refine lv_iload hx hb dX12_spreads_13 (lv_at hl 0 rfl) ?_
  refine lv_iconst (v := nI 1) hx hb dX12_spreads_15 (by decide) ?_
  refine lv_aload_n hx hb dX12_spreads_16 rfl (lv_at hl 3 rfl) ?_
  refine xget C hP 10 rfl rfl zuX12 4 (by decide) zw5_217 rfl dX12_spreads_17 ?_
  refine lv_ishl hx hb dX12_spreads_20 ?_
  refine lv_topi (nm_r (e' := nI 16) (by decide) ?_)
  refine lv_icmp_ge (tgt := 114) hx hb dX12_spreads_21 (by decide) (fun c => absurd c (by decide)) (fun _ => ?_)
  refine lv_aload_n hx hb dX12_spreads_24 rfl (lv_at hl 3 rfl) ?_
  refine lv_iload_n hx hb dX12_spreads_25 rfl (lv_at hl 2 rfl) ?_
  refine lv_iload hx hb dX12_spreads_26 (lv_at hl 0 rfl) ?_
  refine xi (wr := [(ti1, .inl (cs 1, 2001, .inr (.inl u1))), (st1, .inl (cs 0, 96048, .inl q1)), (ms, .inl (cs 0, 288, .inl freshS)), (msm, .inl (cs 0, 2, .inl (smF2 (nI 1) b0))), (mst, .inl (cs 5, 2, .inr (.inr (.inr (.inr fst))))), (st0, .inl (cs 0, 96048, .inl (cpF freshS q0 48))), (mtb, .inl (cs 5, 2, .inr (.inr (.inr (.inr ftb))))), (tb0, .inl (cs 0, 8192, .inl (upd (fun _ => nI 0) 965 (nI 1)))), (mti, .inl (cs 6, 2, .inr (.inr (.inr (.inr fti))))), (ti0, .inl (cs 1, 2001, .inr (.inl (vp_updL u0 0 (lN (ww * 12))))))]) (xV (As := [.int (nI 3), .int (nI 12)]) (rest := []) C (c_X12_isSample_x l D cs hm ms mkp mtr mas mso mon mot man mst msm mtb mti mfr mbn mbs mde maa mab mba mbb 3 12 (by decide) (by decide)) kX12_139 hP hD [10] rfl (by decide +kernel) 0 rfl rfl rfl ⟨Nat.le_of_ble_eq_true rfl, Nat.le_of_ble_eq_true rfl⟩ rfl hl.1 rfl (Nat.le_of_ble_eq_true rfl) dX12_spreads_28 ⟨Nat.le_of_ble_eq_true rfl, Nat.le_of_ble_eq_true rfl⟩) hP hD hS hA [10] [0, 1, 2, 3, 4, 5, 6, 7, 8, 9] rfl rfl (by decide +kernel) (by decide +kernel) ?_
  clear hP hD hS
  try clear locs
  try clear H
  intro r_193 u_194 H locs hw_r_193 hP hD hS
  have hw_r_193 : r_193 = smB 3 12 := hw_r_193
  refine W.widen (k := 0) (n := 0) (Nat.le_of_ble_eq_true rfl) (Nat.le_of_ble_eq_true rfl) ?_
  replace hP : va_P D vwCl [(ti1, .inl (cs 1, 2001, .inr (.inl u1))), (st1, .inl (cs 0, 96048, .inl q1)), (ms, .inl (cs 0, 288, .inl freshS)), (msm, .inl (cs 0, 2, .inl (smF2 (nI 1) b0))), (mst, .inl (cs 5, 2, .inr (.inr (.inr (.inr fst))))), (st0, .inl (cs 0, 96048, .inl (cpF freshS q0 48))), (mtb, .inl (cs 5, 2, .inr (.inr (.inr (.inr ftb))))), (tb0, .inl (cs 0, 8192, .inl (upd (fun _ => nI 0) 965 (nI 1)))), (mti, .inl (cs 6, 2, .inr (.inr (.inr (.inr fti))))), (ti0, .inl (cs 1, 2001, .inr (.inl (vp_updL u0 0 (lN (ww * 12)))))), (hm, .inr (12, [.ref ms, .ref mkp, .int (nI 0), .ref mtr, .int (nI 4), .int (nI 2), .int (nI 2), .int (nI 3), .int (nI 2), .int (nI 1), .ref mas, .int (nI 0), .int (nI 0), .int (nI 0), .ref mso, .ref mon, .ref mot, .ref man, .int (nI 0), .int (nI 0), .ref mst, .ref msm, .ref mtb, .ref mti, .ref mfr, .ref mbn, .ref mbs, .ref mde, .int (nI 0), .int (nI 0), .int (nI 0), .int (nI 0), .long 0, .long 0, .ref maa, .ref mab, .ref mba, .ref mbb]))] H := hP
  replace hD : va_D A [(ti1, .inl (cs 1, 2001, .inr (.inl u1))), (st1, .inl (cs 0, 96048, .inl q1)), (ms, .inl (cs 0, 288, .inl freshS)), (msm, .inl (cs 0, 2, .inl (smF2 (nI 1) b0))), (mst, .inl (cs 5, 2, .inr (.inr (.inr (.inr fst))))), (st0, .inl (cs 0, 96048, .inl (cpF freshS q0 48))), (mtb, .inl (cs 5, 2, .inr (.inr (.inr (.inr ftb))))), (tb0, .inl (cs 0, 8192, .inl (upd (fun _ => nI 0) 965 (nI 1)))), (mti, .inl (cs 6, 2, .inr (.inr (.inr (.inr fti))))), (ti0, .inl (cs 1, 2001, .inr (.inl (vp_updL u0 0 (lN (ww * 12)))))), (hm, .inr (12, [.ref ms, .ref mkp, .int (nI 0), .ref mtr, .int (nI 4), .int (nI 2), .int (nI 2), .int (nI 3), .int (nI 2), .int (nI 1), .ref mas, .int (nI 0), .int (nI 0), .int (nI 0), .ref mso, .ref mon, .ref mot, .ref man, .int (nI 0), .int (nI 0), .ref mst, .ref msm, .ref mtb, .ref mti, .ref mfr, .ref mbn, .ref mbs, .ref mde, .int (nI 0), .int (nI 0), .int (nI 0), .int (nI 0), .long 0, .long 0, .ref maa, .ref mab, .ref mba, .ref mbb]))] := hD
  obtain rfl : r_193 = nI 0 := by rw [hw_r_193]; decide +kernel
  refine lv_if_ne (tgt := 37) hx hb dX12_spreads_31 (by decide) (fun c => absurd (by decide) c) (fun _ => ?_)
  refine lv_goto (tgt := 108) hx hb dX12_spreads_34 (by decide) ?_
  refine lv_iinc (v := nI 13) (lv' := [(4, .int (nI 13)), (5, .int (nI 0)), (3, .int (nI 3)), (0, .ref hm), (1, .int (nI 1)), (2, .int (nI 0))]) hx hb dX12_spreads_108 hl (k := 0) rfl (by decide) (by decide) rfl ?_
  clear hl
  try clear ls
  intro ls hl
  refine lv_goto (tgt := 13) hx hb dX12_spreads_111 (by decide) ?_
  refine lv_iload hx hb dX12_spreads_13 (lv_at hl 0 rfl) ?_
  refine lv_iconst (v := nI 1) hx hb dX12_spreads_15 (by decide) ?_
  refine lv_aload_n hx hb dX12_spreads_16 rfl (lv_at hl 3 rfl) ?_
  refine xget C hP 10 rfl rfl zuX12 4 (by decide) zw5_217 rfl dX12_spreads_17 ?_
  refine lv_ishl hx hb dX12_spreads_20 ?_
  refine lv_topi (nm_r (e' := nI 16) (by decide) ?_)
  refine lv_icmp_ge (tgt := 114) hx hb dX12_spreads_21 (by decide) (fun c => absurd c (by decide)) (fun _ => ?_)
  refine lv_aload_n hx hb dX12_spreads_24 rfl (lv_at hl 3 rfl) ?_
  refine lv_iload_n hx hb dX12_spreads_25 rfl (lv_at hl 2 rfl) ?_
  refine lv_iload hx hb dX12_spreads_26 (lv_at hl 0 rfl) ?_
  refine xi (wr := [(ti1, .inl (cs 1, 2001, .inr (.inl u1))), (st1, .inl (cs 0, 96048, .inl q1)), (ms, .inl (cs 0, 288, .inl freshS)), (msm, .inl (cs 0, 2, .inl (smF2 (nI 1) b0))), (mst, .inl (cs 5, 2, .inr (.inr (.inr (.inr fst))))), (st0, .inl (cs 0, 96048, .inl (cpF freshS q0 48))), (mtb, .inl (cs 5, 2, .inr (.inr (.inr (.inr ftb))))), (tb0, .inl (cs 0, 8192, .inl (upd (fun _ => nI 0) 965 (nI 1)))), (mti, .inl (cs 6, 2, .inr (.inr (.inr (.inr fti))))), (ti0, .inl (cs 1, 2001, .inr (.inl (vp_updL u0 0 (lN (ww * 12))))))]) (xV (As := [.int (nI 3), .int (nI 13)]) (rest := []) C (c_X12_isSample_x l D cs hm ms mkp mtr mas mso mon mot man mst msm mtb mti mfr mbn mbs mde maa mab mba mbb 3 13 (by decide) (by decide)) kX12_139 hP hD [10] rfl (by decide +kernel) 0 rfl rfl rfl ⟨Nat.le_of_ble_eq_true rfl, Nat.le_of_ble_eq_true rfl⟩ rfl hl.1 rfl (Nat.le_of_ble_eq_true rfl) dX12_spreads_28 ⟨Nat.le_of_ble_eq_true rfl, Nat.le_of_ble_eq_true rfl⟩) hP hD hS hA [10] [0, 1, 2, 3, 4, 5, 6, 7, 8, 9] rfl rfl (by decide +kernel) (by decide +kernel) ?_
  clear hP hD hS
  try clear locs
  try clear H
  intro r_195 u_196 H locs hw_r_195 hP hD hS
  have hw_r_195 : r_195 = smB 3 13 := hw_r_195
  refine W.widen (k := 0) (n := 0) (Nat.le_of_ble_eq_true rfl) (Nat.le_of_ble_eq_true rfl) ?_
  replace hP : va_P D vwCl [(ti1, .inl (cs 1, 2001, .inr (.inl u1))), (st1, .inl (cs 0, 96048, .inl q1)), (ms, .inl (cs 0, 288, .inl freshS)), (msm, .inl (cs 0, 2, .inl (smF2 (nI 1) b0))), (mst, .inl (cs 5, 2, .inr (.inr (.inr (.inr fst))))), (st0, .inl (cs 0, 96048, .inl (cpF freshS q0 48))), (mtb, .inl (cs 5, 2, .inr (.inr (.inr (.inr ftb))))), (tb0, .inl (cs 0, 8192, .inl (upd (fun _ => nI 0) 965 (nI 1)))), (mti, .inl (cs 6, 2, .inr (.inr (.inr (.inr fti))))), (ti0, .inl (cs 1, 2001, .inr (.inl (vp_updL u0 0 (lN (ww * 12)))))), (hm, .inr (12, [.ref ms, .ref mkp, .int (nI 0), .ref mtr, .int (nI 4), .int (nI 2), .int (nI 2), .int (nI 3), .int (nI 2), .int (nI 1), .ref mas, .int (nI 0), .int (nI 0), .int (nI 0), .ref mso, .ref mon, .ref mot, .ref man, .int (nI 0), .int (nI 0), .ref mst, .ref msm, .ref mtb, .ref mti, .ref mfr, .ref mbn, .ref mbs, .ref mde, .int (nI 0), .int (nI 0), .int (nI 0), .int (nI 0), .long 0, .long 0, .ref maa, .ref mab, .ref mba, .ref mbb]))] H := hP
  replace hD : va_D A [(ti1, .inl (cs 1, 2001, .inr (.inl u1))), (st1, .inl (cs 0, 96048, .inl q1)), (ms, .inl (cs 0, 288, .inl freshS)), (msm, .inl (cs 0, 2, .inl (smF2 (nI 1) b0))), (mst, .inl (cs 5, 2, .inr (.inr (.inr (.inr fst))))), (st0, .inl (cs 0, 96048, .inl (cpF freshS q0 48))), (mtb, .inl (cs 5, 2, .inr (.inr (.inr (.inr ftb))))), (tb0, .inl (cs 0, 8192, .inl (upd (fun _ => nI 0) 965 (nI 1)))), (mti, .inl (cs 6, 2, .inr (.inr (.inr (.inr fti))))), (ti0, .inl (cs 1, 2001, .inr (.inl (vp_updL u0 0 (lN (ww * 12)))))), (hm, .inr (12, [.ref ms, .ref mkp, .int (nI 0), .ref mtr, .int (nI 4), .int (nI 2), .int (nI 2), .int (nI 3), .int (nI 2), .int (nI 1), .ref mas, .int (nI 0), .int (nI 0), .int (nI 0), .ref mso, .ref mon, .ref mot, .ref man, .int (nI 0), .int (nI 0), .ref mst, .ref msm, .ref mtb, .ref mti, .ref mfr, .ref mbn, .ref mbs, .ref mde, .int (nI 0), .int (nI 0), .int (nI 0), .int (nI 0), .long 0, .long 0, .ref maa, .ref mab, .ref mba, .ref mbb]))] := hD
  obtain rfl : r_195 = nI 0 := by rw [hw_r_195]; decide +kernel
  refine lv_if_ne (tgt := 37) hx hb dX12_spreads_31 (by decide) (fun c => absurd (by decide) c) (fun _ => ?_)
  refine lv_goto (tgt := 108) hx hb dX12_spreads_34 (by decide) ?_
  refine lv_iinc (v := nI 14) (lv' := [(4, .int (nI 14)), (5, .int (nI 0)), (3, .int (nI 3)), (0, .ref hm), (1, .int (nI 1)), (2, .int (nI 0))]) hx hb dX12_spreads_108 hl (k := 0) rfl (by decide) (by decide) rfl ?_
  clear hl
  try clear ls
  intro ls hl
  refine lv_goto (tgt := 13) hx hb dX12_spreads_111 (by decide) ?_
  refine lv_iload hx hb dX12_spreads_13 (lv_at hl 0 rfl) ?_
  refine lv_iconst (v := nI 1) hx hb dX12_spreads_15 (by decide) ?_
  refine lv_aload_n hx hb dX12_spreads_16 rfl (lv_at hl 3 rfl) ?_
  refine xget C hP 10 rfl rfl zuX12 4 (by decide) zw5_217 rfl dX12_spreads_17 ?_
  refine lv_ishl hx hb dX12_spreads_20 ?_
  refine lv_topi (nm_r (e' := nI 16) (by decide) ?_)
  refine lv_icmp_ge (tgt := 114) hx hb dX12_spreads_21 (by decide) (fun c => absurd c (by decide)) (fun _ => ?_)
  refine lv_aload_n hx hb dX12_spreads_24 rfl (lv_at hl 3 rfl) ?_
  refine lv_iload_n hx hb dX12_spreads_25 rfl (lv_at hl 2 rfl) ?_
  refine lv_iload hx hb dX12_spreads_26 (lv_at hl 0 rfl) ?_
  refine xi (wr := [(ti1, .inl (cs 1, 2001, .inr (.inl u1))), (st1, .inl (cs 0, 96048, .inl q1)), (ms, .inl (cs 0, 288, .inl freshS)), (msm, .inl (cs 0, 2, .inl (smF2 (nI 1) b0))), (mst, .inl (cs 5, 2, .inr (.inr (.inr (.inr fst))))), (st0, .inl (cs 0, 96048, .inl (cpF freshS q0 48))), (mtb, .inl (cs 5, 2, .inr (.inr (.inr (.inr ftb))))), (tb0, .inl (cs 0, 8192, .inl (upd (fun _ => nI 0) 965 (nI 1)))), (mti, .inl (cs 6, 2, .inr (.inr (.inr (.inr fti))))), (ti0, .inl (cs 1, 2001, .inr (.inl (vp_updL u0 0 (lN (ww * 12))))))]) (xV (As := [.int (nI 3), .int (nI 14)]) (rest := []) C (c_X12_isSample_x l D cs hm ms mkp mtr mas mso mon mot man mst msm mtb mti mfr mbn mbs mde maa mab mba mbb 3 14 (by decide) (by decide)) kX12_139 hP hD [10] rfl (by decide +kernel) 0 rfl rfl rfl ⟨Nat.le_of_ble_eq_true rfl, Nat.le_of_ble_eq_true rfl⟩ rfl hl.1 rfl (Nat.le_of_ble_eq_true rfl) dX12_spreads_28 ⟨Nat.le_of_ble_eq_true rfl, Nat.le_of_ble_eq_true rfl⟩) hP hD hS hA [10] [0, 1, 2, 3, 4, 5, 6, 7, 8, 9] rfl rfl (by decide +kernel) (by decide +kernel) ?_
  clear hP hD hS
  try clear locs
  try clear H
  intro r_197 u_198 H locs hw_r_197 hP hD hS
  have hw_r_197 : r_197 = smB 3 14 := hw_r_197
  refine W.widen (k := 0) (n := 0) (Nat.le_of_ble_eq_true rfl) (Nat.le_of_ble_eq_true rfl) ?_
  replace hP : va_P D vwCl [(ti1, .inl (cs 1, 2001, .inr (.inl u1))), (st1, .inl (cs 0, 96048, .inl q1)), (ms, .inl (cs 0, 288, .inl freshS)), (msm, .inl (cs 0, 2, .inl (smF2 (nI 1) b0))), (mst, .inl (cs 5, 2, .inr (.inr (.inr (.inr fst))))), (st0, .inl (cs 0, 96048, .inl (cpF freshS q0 48))), (mtb, .inl (cs 5, 2, .inr (.inr (.inr (.inr ftb))))), (tb0, .inl (cs 0, 8192, .inl (upd (fun _ => nI 0) 965 (nI 1)))), (mti, .inl (cs 6, 2, .inr (.inr (.inr (.inr fti))))), (ti0, .inl (cs 1, 2001, .inr (.inl (vp_updL u0 0 (lN (ww * 12)))))), (hm, .inr (12, [.ref ms, .ref mkp, .int (nI 0), .ref mtr, .int (nI 4), .int (nI 2), .int (nI 2), .int (nI 3), .int (nI 2), .int (nI 1), .ref mas, .int (nI 0), .int (nI 0), .int (nI 0), .ref mso, .ref mon, .ref mot, .ref man, .int (nI 0), .int (nI 0), .ref mst, .ref msm, .ref mtb, .ref mti, .ref mfr, .ref mbn, .ref mbs, .ref mde, .int (nI 0), .int (nI 0), .int (nI 0), .int (nI 0), .long 0, .long 0, .ref maa, .ref mab, .ref mba, .ref mbb]))] H := hP
  replace hD : va_D A [(ti1, .inl (cs 1, 2001, .inr (.inl u1))), (st1, .inl (cs 0, 96048, .inl q1)), (ms, .inl (cs 0, 288, .inl freshS)), (msm, .inl (cs 0, 2, .inl (smF2 (nI 1) b0))), (mst, .inl (cs 5, 2, .inr (.inr (.inr (.inr fst))))), (st0, .inl (cs 0, 96048, .inl (cpF freshS q0 48))), (mtb, .inl (cs 5, 2, .inr (.inr (.inr (.inr ftb))))), (tb0, .inl (cs 0, 8192, .inl (upd (fun _ => nI 0) 965 (nI 1)))), (mti, .inl (cs 6, 2, .inr (.inr (.inr (.inr fti))))), (ti0, .inl (cs 1, 2001, .inr (.inl (vp_updL u0 0 (lN (ww * 12)))))), (hm, .inr (12, [.ref ms, .ref mkp, .int (nI 0), .ref mtr, .int (nI 4), .int (nI 2), .int (nI 2), .int (nI 3), .int (nI 2), .int (nI 1), .ref mas, .int (nI 0), .int (nI 0), .int (nI 0), .ref mso, .ref mon, .ref mot, .ref man, .int (nI 0), .int (nI 0), .ref mst, .ref msm, .ref mtb, .ref mti, .ref mfr, .ref mbn, .ref mbs, .ref mde, .int (nI 0), .int (nI 0), .int (nI 0), .int (nI 0), .long 0, .long 0, .ref maa, .ref mab, .ref mba, .ref mbb]))] := hD
  obtain rfl : r_197 = nI 0 := by rw [hw_r_197]; decide +kernel
  refine lv_if_ne (tgt := 37) hx hb dX12_spreads_31 (by decide) (fun c => absurd (by decide) c) (fun _ => ?_)
  refine lv_goto (tgt := 108) hx hb dX12_spreads_34 (by decide) ?_
  refine lv_iinc (v := nI 15) (lv' := [(4, .int (nI 15)), (5, .int (nI 0)), (3, .int (nI 3)), (0, .ref hm), (1, .int (nI 1)), (2, .int (nI 0))]) hx hb dX12_spreads_108 hl (k := 0) rfl (by decide) (by decide) rfl ?_
  clear hl
  try clear ls
  intro ls hl
  refine lv_goto (tgt := 13) hx hb dX12_spreads_111 (by decide) ?_
  refine lv_iload hx hb dX12_spreads_13 (lv_at hl 0 rfl) ?_
  refine lv_iconst (v := nI 1) hx hb dX12_spreads_15 (by decide) ?_
  refine lv_aload_n hx hb dX12_spreads_16 rfl (lv_at hl 3 rfl) ?_
  refine xget C hP 10 rfl rfl zuX12 4 (by decide) zw5_217 rfl dX12_spreads_17 ?_
  refine lv_ishl hx hb dX12_spreads_20 ?_
  refine lv_topi (nm_r (e' := nI 16) (by decide) ?_)
  refine lv_icmp_ge (tgt := 114) hx hb dX12_spreads_21 (by decide) (fun c => absurd c (by decide)) (fun _ => ?_)
  refine lv_aload_n hx hb dX12_spreads_24 rfl (lv_at hl 3 rfl) ?_
  refine lv_iload_n hx hb dX12_spreads_25 rfl (lv_at hl 2 rfl) ?_
  refine lv_iload hx hb dX12_spreads_26 (lv_at hl 0 rfl) ?_
  refine xi (wr := [(ti1, .inl (cs 1, 2001, .inr (.inl u1))), (st1, .inl (cs 0, 96048, .inl q1)), (ms, .inl (cs 0, 288, .inl freshS)), (msm, .inl (cs 0, 2, .inl (smF2 (nI 1) b0))), (mst, .inl (cs 5, 2, .inr (.inr (.inr (.inr fst))))), (st0, .inl (cs 0, 96048, .inl (cpF freshS q0 48))), (mtb, .inl (cs 5, 2, .inr (.inr (.inr (.inr ftb))))), (tb0, .inl (cs 0, 8192, .inl (upd (fun _ => nI 0) 965 (nI 1)))), (mti, .inl (cs 6, 2, .inr (.inr (.inr (.inr fti))))), (ti0, .inl (cs 1, 2001, .inr (.inl (vp_updL u0 0 (lN (ww * 12))))))]) (xV (As := [.int (nI 3), .int (nI 15)]) (rest := []) C (c_X12_isSample_x l D cs hm ms mkp mtr mas mso mon mot man mst msm mtb mti mfr mbn mbs mde maa mab mba mbb 3 15 (by decide) (by decide)) kX12_139 hP hD [10] rfl (by decide +kernel) 0 rfl rfl rfl ⟨Nat.le_of_ble_eq_true rfl, Nat.le_of_ble_eq_true rfl⟩ rfl hl.1 rfl (Nat.le_of_ble_eq_true rfl) dX12_spreads_28 ⟨Nat.le_of_ble_eq_true rfl, Nat.le_of_ble_eq_true rfl⟩) hP hD hS hA [10] [0, 1, 2, 3, 4, 5, 6, 7, 8, 9] rfl rfl (by decide +kernel) (by decide +kernel) ?_
  clear hP hD hS
  try clear locs
  try clear H
  intro r_199 u_200 H locs hw_r_199 hP hD hS
  have hw_r_199 : r_199 = smB 3 15 := hw_r_199
  refine W.widen (k := 0) (n := 0) (Nat.le_of_ble_eq_true rfl) (Nat.le_of_ble_eq_true rfl) ?_
  replace hP : va_P D vwCl [(ti1, .inl (cs 1, 2001, .inr (.inl u1))), (st1, .inl (cs 0, 96048, .inl q1)), (ms, .inl (cs 0, 288, .inl freshS)), (msm, .inl (cs 0, 2, .inl (smF2 (nI 1) b0))), (mst, .inl (cs 5, 2, .inr (.inr (.inr (.inr fst))))), (st0, .inl (cs 0, 96048, .inl (cpF freshS q0 48))), (mtb, .inl (cs 5, 2, .inr (.inr (.inr (.inr ftb))))), (tb0, .inl (cs 0, 8192, .inl (upd (fun _ => nI 0) 965 (nI 1)))), (mti, .inl (cs 6, 2, .inr (.inr (.inr (.inr fti))))), (ti0, .inl (cs 1, 2001, .inr (.inl (vp_updL u0 0 (lN (ww * 12)))))), (hm, .inr (12, [.ref ms, .ref mkp, .int (nI 0), .ref mtr, .int (nI 4), .int (nI 2), .int (nI 2), .int (nI 3), .int (nI 2), .int (nI 1), .ref mas, .int (nI 0), .int (nI 0), .int (nI 0), .ref mso, .ref mon, .ref mot, .ref man, .int (nI 0), .int (nI 0), .ref mst, .ref msm, .ref mtb, .ref mti, .ref mfr, .ref mbn, .ref mbs, .ref mde, .int (nI 0), .int (nI 0), .int (nI 0), .int (nI 0), .long 0, .long 0, .ref maa, .ref mab, .ref mba, .ref mbb]))] H := hP
  replace hD : va_D A [(ti1, .inl (cs 1, 2001, .inr (.inl u1))), (st1, .inl (cs 0, 96048, .inl q1)), (ms, .inl (cs 0, 288, .inl freshS)), (msm, .inl (cs 0, 2, .inl (smF2 (nI 1) b0))), (mst, .inl (cs 5, 2, .inr (.inr (.inr (.inr fst))))), (st0, .inl (cs 0, 96048, .inl (cpF freshS q0 48))), (mtb, .inl (cs 5, 2, .inr (.inr (.inr (.inr ftb))))), (tb0, .inl (cs 0, 8192, .inl (upd (fun _ => nI 0) 965 (nI 1)))), (mti, .inl (cs 6, 2, .inr (.inr (.inr (.inr fti))))), (ti0, .inl (cs 1, 2001, .inr (.inl (vp_updL u0 0 (lN (ww * 12)))))), (hm, .inr (12, [.ref ms, .ref mkp, .int (nI 0), .ref mtr, .int (nI 4), .int (nI 2), .int (nI 2), .int (nI 3), .int (nI 2), .int (nI 1), .ref mas, .int (nI 0), .int (nI 0), .int (nI 0), .ref mso, .ref mon, .ref mot, .ref man, .int (nI 0), .int (nI 0), .ref mst, .ref msm, .ref mtb, .ref mti, .ref mfr, .ref mbn, .ref mbs, .ref mde, .int (nI 0), .int (nI 0), .int (nI 0), .int (nI 0), .long 0, .long 0, .ref maa, .ref mab, .ref mba, .ref mbb]))] := hD
  obtain rfl : r_199 = nI 0 := by rw [hw_r_199]; decide +kernel
  refine lv_if_ne (tgt := 37) hx hb dX12_spreads_31 (by decide) (fun c => absurd (by decide) c) (fun _ => ?_)
  refine lv_goto (tgt := 108) hx hb dX12_spreads_34 (by decide) ?_
  refine lv_iinc (v := nI 16) (lv' := [(4, .int (nI 16)), (5, .int (nI 0)), (3, .int (nI 3)), (0, .ref hm), (1, .int (nI 1)), (2, .int (nI 0))]) hx hb dX12_spreads_108 hl (k := 0) rfl (by decide) (by decide) rfl ?_
  clear hl
  try clear ls
  intro ls hl
  refine lv_goto (tgt := 13) hx hb dX12_spreads_111 (by decide) ?_
  refine lv_iload hx hb dX12_spreads_13 (lv_at hl 0 rfl) ?_
  refine lv_iconst (v := nI 1) hx hb dX12_spreads_15 (by decide) ?_
  refine lv_aload_n hx hb dX12_spreads_16 rfl (lv_at hl 3 rfl) ?_
  refine xget C hP 10 rfl rfl zuX12 4 (by decide) zw5_217 rfl dX12_spreads_17 ?_
  refine lv_ishl hx hb dX12_spreads_20 ?_
  refine lv_topi (nm_r (e' := nI 16) (by decide) ?_)
  refine lv_icmp_ge (tgt := 114) hx hb dX12_spreads_21 (by decide) (fun _ => ?_) (fun c => absurd (by decide) c)
  refine lv_iinc (v := nI 4) (lv' := [(3, .int (nI 4)), (4, .int (nI 16)), (5, .int (nI 0)), (0, .ref hm), (1, .int (nI 1)), (2, .int (nI 0))]) hx hb dX12_spreads_114 hl (k := 2) rfl (by decide) (by decide) rfl ?_
  clear hl
  try clear ls
  intro ls hl
  refine lv_goto (tgt := 2) hx hb dX12_spreads_117 (by decide) ?_
  refine lv_iload_n hx hb dX12_spreads_2 rfl (lv_at hl 0 rfl) ?_
  refine lv_aload_n hx hb dX12_spreads_3 rfl (lv_at hl 3 rfl) ?_
  refine xget C hP 10 rfl rfl zuX12 4 (by decide) zw5_217 rfl dX12_spreads_4 ?_
  refine lv_icmp_ge (tgt := 120) hx hb dX12_spreads_7 (by decide) (fun _ => ?_) (fun c => absurd (by decide) c)
  refine lv_iconst (v := nI 1) hx hb dX12_spreads_120 (by decide) ?_
  exact xreti C (⟨(cpF freshS q0 48), (vp_updL u0 0 (lN (ww * 12)))⟩) (⟨rfl, fun j hj => cpF_lt hj, upL_0 _ _⟩) (xP_map hP [10, 2, 3, 4, 1, 5, 6, 7, 8, 0, 9] rfl) (hD.sub [10, 2, 3, 4, 1, 5, 6, 7, 8, 0, 9] (by decide +kernel) rfl) hS (Nat.le_of_ble_eq_true rfl) (Nat.le_of_ble_eq_true rfl) (by decide) dX12_spreads_121
