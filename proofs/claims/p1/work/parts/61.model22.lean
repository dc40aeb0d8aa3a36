set_option maxHeartbeats 4000000 in
set_option maxRecDepth 100000 in
theorem c_X12_laysStep_1_0 (l : Launch) (D : va_G) (cs : Nat → ClassId) (hm ms mkp mtr mas mso mon mot man mst msm mtb mti mfr mbn mbs mde maa mab mba mbb : Nat) (ab be : Int64) : xMet l D cs yX12_laysStep cX12_laysStep 11 none ({ frames := 3, cells := 0, slots := 0, locals := 69 } : Room) [.ref hm, .int (nI 1), .int (nI 0)] [(hm, .inr (12, [.ref ms, .ref mkp, .int (nI 0), .ref mtr, .int (nI 4), .int (nI 2), .int (nI 2), .int (nI 3), .int (nI 2), .int (nI 1), .ref mas, .int (nI 0), .int (nI 0), .int (nI 0), .ref mso, .ref mon, .ref mot, .ref man, .int (nI 0), .int (nI 0), .ref mst, .ref msm, .ref mtb, .ref mti, .ref mfr, .ref mbn, .ref mbs, .ref mde, .int (nI 0), .int (nI 0), .int (nI 0), .int (nI 0), .long ab, .long be, .ref maa, .ref mab, .ref mba, .ref mbb])), (maa, .inl (cs 1, 9, .inr (.inl (lt4 0 0 0 0)))), (mab, .inl (cs 1, 9, .inr (.inl (lt4 1 0 0 0)))), (mba, .inl (cs 1, 9, .inr (.inl (lt4 0 0 0 0)))), (mbb, .inl (cs 1, 9, .inr (.inl (lt4 1 0 0 0))))] (xQv D (fun (_u : Unit) => True) (fun (_u : Unit) => [(hm, .inr (12, [.ref ms, .ref mkp, .int (nI 0), .ref mtr, .int (nI 4), .int (nI 2), .int (nI 2), .int (nI 3), .int (nI 2), .int (nI 1), .ref mas, .int (nI 0), .int (nI 0), .int (nI 0), .ref mso, .ref mon, .ref mot, .ref man, .int (nI 0), .int (nI 0), .ref mst, .ref msm, .ref mtb, .ref mti, .ref mfr, .ref mbn, .ref mbs, .ref mde, .int (nI 0), .int (nI 0), .int (nI 0), .int (nI 0), .long 0, .long 1, .ref maa, .ref mab, .ref mba, .ref mbb])), (maa, .inl (cs 1, 9, .inr (.inl (lt4 0 0 0 0)))), (mab, .inl (cs 1, 9, .inr (.inl (lt4 1 1 0 0)))), (mba, .inl (cs 1, 9, .inr (.inl (lt4 0 0 0 0)))), (mbb, .inl (cs 1, 9, .inr (.inl (lt4 1 1 0 0))))])) := by
  refine xMet.intro (by decide) (Nat.le_of_ble_eq_true rfl) ?_
  intro p e s m args below meth c A ls C hP hD hS hl
  have hx := C.1
  have hb := C.2.1
  have hz := C.2.2.2.2.1
  have hown := C.2.2.2.1
  have hA := C.2.2.2.2.2.2.2.2.2
  have hAO := C.2.2.2.2.2.2.2.2.1.2.2
  replace hl : lv_has ls 11 [(0, .ref hm), (1, .int (nI 1)), (2, .int (nI 0))] := hl
  obtain ⟨H, hH⟩ : ∃ H, H = s.heap := ⟨_, rfl⟩
  replace hP : va_P D vwCl [(hm, .inr (12, [.ref ms, .ref mkp, .int (nI 0), .ref mtr, .int (nI 4), .int (nI 2), .int (nI 2), .int (nI 3), .int (nI 2), .int (nI 1), .ref mas, .int (nI 0), .int (nI 0), .int (nI 0), .ref mso, .ref mon, .ref mot, .ref man, .int (nI 0), .int (nI 0), .ref mst, .ref msm, .ref mtb, .ref mti, .ref mfr, .ref mbn, .ref mbs, .ref mde, .int (nI 0), .int (nI 0), .int (nI 0), .int (nI 0), .long ab, .long be, .ref maa, .ref mab, .ref mba, .ref mbb])), (maa, .inl (cs 1, 9, .inr (.inl (lt4 0 0 0 0)))), (mab, .inl (cs 1, 9, .inr (.inl (lt4 1 0 0 0)))), (mba, .inl (cs 1, 9, .inr (.inl (lt4 0 0 0 0)))), (mbb, .inl (cs 1, 9, .inr (.inl (lt4 1 0 0 0))))] H := by rw [hH]; exact hP
  replace hS : va_S A s.heap H [] := by rw [hH]; exact hS
  obtain ⟨locs, hlocs⟩ : ∃ z : List Loc, z = [] := ⟨_, rfl⟩
  rw [← hlocs] at hS
  suffices hW : W p l e ({ frames := 3, cells := 0, slots := 0, locals := 69 } : Room) s m args below meth c H locs 0 0 (MQ below ((xQv D (fun (_u : Unit) => True) (fun (_u : Unit) => [(hm, .inr (12, [.ref ms, .ref mkp, .int (nI 0), .ref mtr, .int (nI 4), .int (nI 2), .int (nI 2), .int (nI 3), .int (nI 2), .int (nI 1), .ref mas, .int (nI 0), .int (nI 0), .int (nI 0), .ref mso, .ref mon, .ref mot, .ref man, .int (nI 0), .int (nI 0), .ref mst, .ref msm, .ref mtb, .ref mti, .ref mfr, .ref mbn, .ref mbs, .ref mde, .int (nI 0), .int (nI 0), .int (nI 0), .int (nI 0), .long 0, .long 1, .ref maa, .ref mab, .ref mba, .ref mbb])), (maa, .inl (cs 1, 9, .inr (.inl (lt4 0 0 0 0)))), (mab, .inl (cs 1, 9, .inr (.inl (lt4 1 1 0 0)))), (mba, .inl (cs 1, 9, .inr (.inl (lt4 0 0 0 0)))), (mbb, .inl (cs 1, 9, .inr (.inl (lt4 1 1 0 0))))])) A) args s 0 0 A) (F0 m 0 ls []) by rw [hlocs, hH] at hW; exact hW
  clear hH hlocs
  refine lv_aload_n hx hb dX12_laysStep_0 rfl (lv_at hl 0 rfl) ?_
  refine lv_iload_n hx hb dX12_laysStep_1 rfl (lv_at hl 1 rfl) ?_
  refine xl (wr := [(maa, .inl (cs 1, 9, .inr (.inl (lt4 0 0 0 0)))), (mab, .inl (cs 1, 9, .inr (.inl (lt4 1 0 0 0)))), (mba, .inl (cs 1, 9, .inr (.inl (lt4 0 0 0 0)))), (mbb, .inl (cs 1, 9, .inr (.inl (lt4 1 0 0 0))))]) (xV (As := [.int (nI 1)]) (rest := []) C (c_X12_up_1 l D cs hm ms mkp mtr mas mso mon mot man mst msm mtb mti mfr mbn mbs mde maa mab mba mbb ab be) kX12_280 hP hD [0] rfl (by decide +kernel) 0 rfl rfl rfl ⟨Nat.le_of_ble_eq_true rfl, Nat.le_of_ble_eq_true rfl⟩ rfl hl.1 rfl (Nat.le_of_ble_eq_true rfl) dX12_laysStep_2 ⟨Nat.le_of_ble_eq_true rfl, Nat.le_of_ble_eq_true rfl⟩) hP hD hS hA [0] [1, 2, 3, 4] rfl rfl (by decide +kernel) (by decide +kernel) ?_
  clear hP hD hS
  try clear locs
  try clear H
  intro r_1 u_2 H locs hw_r_1 hP hD hS
  have hw_r_1 : r_1 = 0 := hw_r_1
  refine W.widen (k := 0) (n := 0) (Nat.le_of_ble_eq_true rfl) (Nat.le_of_ble_eq_true rfl) ?_
  replace hP : va_P D vwCl [(maa, .inl (cs 1, 9, .inr (.inl (lt4 0 0 0 0)))), (mab, .inl (cs 1, 9, .inr (.inl (lt4 1 0 0 0)))), (mba, .inl (cs 1, 9, .inr (.inl (lt4 0 0 0 0)))), (mbb, .inl (cs 1, 9, .inr (.inl (lt4 1 0 0 0)))), (hm, .inr (12, [.ref ms, .ref mkp, .int (nI 0), .ref mtr, .int (nI 4), .int (nI 2), .int (nI 2), .int (nI 3), .int (nI 2), .int (nI 1), .ref mas, .int (nI 0), .int (nI 0), .int (nI 0), .ref mso, .ref mon, .ref mot, .ref man, .int (nI 0), .int (nI 0), .ref mst, .ref msm, .ref mtb, .ref mti, .ref mfr, .ref mbn, .ref mbs, .ref mde, .int (nI 0), .int (nI 0), .int (nI 0), .int (nI 0), .long ab, .long be, .ref maa, .ref mab, .ref mba, .ref mbb]))] H := hP
  replace hD : va_D A [(maa, .inl (cs 1, 9, .inr (.inl (lt4 0 0 0 0)))), (mab, .inl (cs 1, 9, .inr (.inl (lt4 1 0 0 0)))), (mba, .inl (cs 1, 9, .inr (.inl (lt4 0 0 0 0)))), (mbb, .inl (cs 1, 9, .inr (.inl (lt4 1 0 0 0)))), (hm, .inr (12, [.ref ms, .ref mkp, .int (nI 0), .ref mtr, .int (nI 4), .int (nI 2), .int (nI 2), .int (nI 3), .int (nI 2), .int (nI 1), .ref mas, .int (nI 0), .int (nI 0), .int (nI 0), .ref mso, .ref mon, .ref mot, .ref man, .int (nI 0), .int (nI 0), .ref mst, .ref msm, .ref mtb, .ref mti, .ref mfr, .ref mbn, .ref mbs, .ref mde, .int (nI 0), .int (nI 0), .int (nI 0), .int (nI 0), .long ab, .long be, .ref maa, .ref mab, .ref mba, .ref mbb]))] := hD
  subst hw_r_1
  refine lv_lstore_n (lv' := [(3, .long 0), (0, .ref hm), (1, .int (nI 1)), (2, .int (nI 0))]) hx hb dX12_laysStep_5 rfl hl (by decide) rfl ?_
  clear hl
  try clear ls
  intro ls hl
  refine lv_aload_n hx hb dX12_laysStep_6 rfl (lv_at hl 1 rfl) ?_
  refine lv_iload_n hx hb dX12_laysStep_7 rfl (lv_at hl 2 rfl) ?_
  refine xl (wr := [(maa, .inl (cs 1, 9, .inr (.inl (lt4 0 0 0 0)))), (mab, .inl (cs 1, 9, .inr (.inl (lt4 1 0 0 0)))), (mba, .inl (cs 1, 9, .inr (.inl (lt4 0 0 0 0)))), (mbb, .inl (cs 1, 9, .inr (.inl (lt4 1 0 0 0))))]) (xV (As := [.int (nI 1)]) (rest := []) C (c_X12_down_1 l D cs hm ms mkp mtr mas mso mon mot man mst msm mtb mti mfr mbn mbs mde maa mab mba mbb ab be) kX12_283 hP hD [4] rfl (by decide +kernel) 0 rfl rfl rfl ⟨Nat.le_of_ble_eq_true rfl, Nat.le_of_ble_eq_true rfl⟩ rfl hl.1 rfl (Nat.le_of_ble_eq_true rfl) dX12_laysStep_8 ⟨Nat.le_of_ble_eq_true rfl, Nat.le_of_ble_eq_true rfl⟩) hP hD hS hA [4] [0, 1, 2, 3] rfl rfl (by decide +kernel) (by decide +kernel) ?_
  clear hP hD hS
  try clear locs
  try clear H
  intro r_3 u_4 H locs hw_r_3 hP hD hS
  have hw_r_3 : r_3 = 3 := hw_r_3
  refine W.widen (k := 0) (n := 0) (Nat.le_of_ble_eq_true rfl) (Nat.le_of_ble_eq_true rfl) ?_
  replace hP : va_P D vwCl [(maa, .inl (cs 1, 9, .inr (.inl (lt4 0 0 0 0)))), (mab, .inl (cs 1, 9, .inr (.inl (lt4 1 0 0 0)))), (mba, .inl (cs 1, 9, .inr (.inl (lt4 0 0 0 0)))), (mbb, .inl (cs 1, 9, .inr (.inl (lt4 1 0 0 0)))), (hm, .inr (12, [.ref ms, .ref mkp, .int (nI 0), .ref mtr, .int (nI 4), .int (nI 2), .int (nI 2), .int (nI 3), .int (nI 2), .int (nI 1), .ref mas, .int (nI 0), .int (nI 0), .int (nI 0), .ref mso, .ref mon, .ref mot, .ref man, .int (nI 0), .int (nI 0), .ref mst, .ref msm, .ref mtb, .ref mti, .ref mfr, .ref mbn, .ref mbs, .ref mde, .int (nI 0), .int (nI 0), .int (nI 0), .int (nI 0), .long ab, .long be, .ref maa, .ref mab, .ref mba, .ref mbb]))] H := hP
  replace hD : va_D A [(maa, .inl (cs 1, 9, .inr (.inl (lt4 0 0 0 0)))), (mab, .inl (cs 1, 9, .inr (.inl (lt4 1 0 0 0)))), (mba, .inl (cs 1, 9, .inr (.inl (lt4 0 0 0 0)))), (mbb, .inl (cs 1, 9, .inr (.inl (lt4 1 0 0 0)))), (hm, .inr (12, [.ref ms, .ref mkp, .int (nI 0), .ref mtr, .int (nI 4), .int (nI 2), .int (nI 2), .int (nI 3), .int (nI 2), .int (nI 1), .ref mas, .int (nI 0), .int (nI 0), .int (nI 0), .ref mso, .ref mon, .ref mot, .ref man, .int (nI 0), .int (nI 0), .ref mst, .ref msm, .ref mtb, .ref mti, .ref mfr, .ref mbn, .ref mbs, .ref mde, .int (nI 0), .int (nI 0), .int (nI 0), .int (nI 0), .long ab, .long be, .ref maa, .ref mab, .ref mba, .ref mbb]))] := hD
  subst hw_r_3
  refine lv_lstore (lv' := [(5, .long 3), (3, .long 0), (0, .ref hm), (1, .int (nI 1)), (2, .int (nI 0))]) hx hb dX12_laysStep_11 hl (by decide) rfl ?_
  clear hl
  try clear ls
  intro ls hl
  refine lv_aload_n hx hb dX12_laysStep_13 rfl (lv_at hl 2 rfl) ?_
  refine xget C hP 4 rfl rfl zuX12 34 (by decide) zw6_7 rfl dX12_laysStep_14 ?_
  refine lv_iload_n hx hb dX12_laysStep_17 rfl (lv_at hl 3 rfl) ?_
  refine lv_lconst (v := 0) hx hb dX12_laysStep_18 (by decide) ?_
  refine xlast C hP hD hS 0 rfl 1 rfl (by decide) (by decide) dX12_laysStep_19 ?_
  clear hP hD hS
  try clear locs
  try clear H
  intro H locs hP hD hS
  replace hP : va_P D vwCl [(maa, .inl (cs 1, 9, .inr (.inl (vp_updL (lt4 0 0 0 0) 1 0)))), (mab, .inl (cs 1, 9, .inr (.inl (lt4 1 0 0 0)))), (mba, .inl (cs 1, 9, .inr (.inl (lt4 0 0 0 0)))), (mbb, .inl (cs 1, 9, .inr (.inl (lt4 1 0 0 0)))), (hm, .inr (12, [.ref ms, .ref mkp, .int (nI 0), .ref mtr, .int (nI 4), .int (nI 2), .int (nI 2), .int (nI 3), .int (nI 2), .int (nI 1), .ref mas, .int (nI 0), .int (nI 0), .int (nI 0), .ref mso, .ref mon, .ref mot, .ref man, .int (nI 0), .int (nI 0), .ref mst, .ref msm, .ref mtb, .ref mti, .ref mfr, .ref mbn, .ref mbs, .ref mde, .int (nI 0), .int (nI 0), .int (nI 0), .int (nI 0), .long ab, .long be, .ref maa, .ref mab, .ref mba, .ref mbb]))] H := hP
  replace hD : va_D A [(maa, .inl (cs 1, 9, .inr (.inl (vp_updL (lt4 0 0 0 0) 1 0)))), (mab, .inl (cs 1, 9, .inr (.inl (lt4 1 0 0 0)))), (mba, .inl (cs 1, 9, .inr (.inl (lt4 0 0 0 0)))), (mbb, .inl (cs 1, 9, .inr (.inl (lt4 1 0 0 0)))), (hm, .inr (12, [.ref ms, .ref mkp, .int (nI 0), .ref mtr, .int (nI 4), .int (nI 2), .int (nI 2), .int (nI 3), .int (nI 2), .int (nI 1), .ref mas, .int (nI 0), .int (nI 0), .int (nI 0), .ref mso, .ref mon, .ref mot, .ref man, .int (nI 0), .int (nI 0), .ref mst, .ref msm, .ref mtb, .ref mti, .ref mfr, .ref mbn, .ref mbs, .ref mde, .int (nI 0), .int (nI 0), .int (nI 0), .int (nI 0), .long ab, .long be, .ref maa, .ref mab, .ref mba, .ref mbb]))] := hD
  refine lv_aload_n hx hb dX12_laysStep_20 rfl (lv_at hl 2 rfl) ?_
  refine xget C hP 4 rfl rfl zuX12 35 (by decide) zw6_8 rfl dX12_laysStep_21 ?_
  refine lv_iload_n hx hb dX12_laysStep_24 rfl (lv_at hl 3 rfl) ?_
  refine lv_lconst (v := 1) hx hb dX12_laysStep_25 (by decide) ?_
  refine xlast C hP hD hS 1 rfl 1 rfl (by decide) (by decide) dX12_laysStep_26 ?_
  clear hP hD hS
  try clear locs
  try clear H
  intro H locs hP hD hS
  replace hP : va_P D vwCl [(maa, .inl (cs 1, 9, .inr (.inl (vp_updL (lt4 0 0 0 0) 1 0)))), (mab, .inl (cs 1, 9, .inr (.inl (vp_updL (lt4 1 0 0 0) 1 1)))), (mba, .inl (cs 1, 9, .inr (.inl (lt4 0 0 0 0)))), (mbb, .inl (cs 1, 9, .inr (.inl (lt4 1 0 0 0)))), (hm, .inr (12, [.ref ms, .ref mkp, .int (nI 0), .ref mtr, .int (nI 4), .int (nI 2), .int (nI 2), .int (nI 3), .int (nI 2), .int (nI 1), .ref mas, .int (nI 0), .int (nI 0), .int (nI 0), .ref mso, .ref mon, .ref mot, .ref man, .int (nI 0), .int (nI 0), .ref mst, .ref msm, .ref mtb, .ref mti, .ref mfr, .ref mbn, .ref mbs, .ref mde, .int (nI 0), .int (nI 0), .int (nI 0), .int (nI 0), .long ab, .long be, .ref maa, .ref mab, .ref mba, .ref mbb]))] H := hP
  replace hD : va_D A [(maa, .inl (cs 1, 9, .inr (.inl (vp_updL (lt4 0 0 0 0) 1 0)))), (mab, .inl (cs 1, 9, .inr (.inl (vp_updL (lt4 1 0 0 0) 1 1)))), (mba, .inl (cs 1, 9, .inr (.inl (lt4 0 0 0 0)))), (mbb, .inl (cs 1, 9, .inr (.inl (lt4 1 0 0 0)))), (hm, .inr (12, [.ref ms, .ref mkp, .int (nI 0), .ref mtr, .int (nI 4), .int (nI 2), .int (nI 2), .int (nI 3), .int (nI 2), .int (nI 1), .ref mas, .int (nI 0), .int (nI 0), .int (nI 0), .ref mso, .ref mon, .ref mot, .ref man, .int (nI 0), .int (nI 0), .ref mst, .ref msm, .ref mtb, .ref mti, .ref mfr, .ref mbn, .ref mbs, .ref mde, .int (nI 0), .int (nI 0), .int (nI 0), .int (nI 0), .long ab, .long be, .ref maa, .ref mab, .ref mba, .ref mbb]))] := hD
  refine lv_aload_n hx hb dX12_laysStep_27 rfl (lv_at hl 2 rfl) ?_
  refine xget C hP 4 rfl rfl zuX12 36 (by decide) zw6_9 rfl dX12_laysStep_28 ?_
  refine lv_iload_n hx hb dX12_laysStep_31 rfl (lv_at hl 3 rfl) ?_
  refine lv_lconst (v := 0) hx hb dX12_laysStep_32 (by decide) ?_
  refine xlast C hP hD hS 2 rfl 1 rfl (by decide) (by decide) dX12_laysStep_33 ?_
  clear hP hD hS
  try clear locs
  try clear H
  intro H locs hP hD hS
  replace hP : va_P D vwCl [(maa, .inl (cs 1, 9, .inr (.inl (vp_updL (lt4 0 0 0 0) 1 0)))), (mab, .inl (cs 1, 9, .inr (.inl (vp_updL (lt4 1 0 0 0) 1 1)))), (mba, .inl (cs 1, 9, .inr (.inl (vp_updL (lt4 0 0 0 0) 1 0)))), (mbb, .inl (cs 1, 9, .inr (.inl (lt4 1 0 0 0)))), (hm, .inr (12, [.ref ms, .ref mkp, .int (nI 0), .ref mtr, .int (nI 4), .int (nI 2), .int (nI 2), .int (nI 3), .int (nI 2), .int (nI 1), .ref mas, .int (nI 0), .int (nI 0), .int (nI 0), .ref mso, .ref mon, .ref mot, .ref man, .int (nI 0), .int (nI 0), .ref mst, .ref msm, .ref mtb, .ref mti, .ref mfr, .ref mbn, .ref mbs, .ref mde, .int (nI 0), .int (nI 0), .int (nI 0), .int (nI 0), .long ab, .long be, .ref maa, .ref mab, .ref mba, .ref mbb]))] H := hP
  replace hD : va_D A [(maa, .inl (cs 1, 9, .inr (.inl (vp_updL (lt4 0 0 0 0) 1 0)))), (mab, .inl (cs 1, 9, .inr (.inl (vp_updL (lt4 1 0 0 0) 1 1)))), (mba, .inl (cs 1, 9, .inr (.inl (vp_updL (lt4 0 0 0 0) 1 0)))), (mbb, .inl (cs 1, 9, .inr (.inl (lt4 1 0 0 0)))), (hm, .inr (12, [.ref ms, .ref mkp, .int (nI 0), .ref mtr, .int (nI 4), .int (nI 2), .int (nI 2), .int (nI 3), .int (nI 2), .int (nI 1), .ref mas, .int (nI 0), .int (nI 0), .int (nI 0), .ref mso, .ref mon, .ref mot, .ref man, .int (nI 0), .int (nI 0), .ref mst, .ref msm, .ref mtb, .ref mti, .ref mfr, .ref mbn, .ref mbs, .ref mde, .int (nI 0), .int (nI 0), .int (nI 0), .int (nI 0), .long ab, .long be, .ref maa, .ref mab, .ref mba, .ref mbb]))] := hD
  refine lv_aload_n hx hb dX12_laysStep_34 rfl (lv_at hl 2 rfl) ?_
  refine xget C hP 4 rfl rfl zuX12 37 (by decide) zw6_10 rfl dX12_laysStep_35 ?_
  refine lv_iload_n hx hb dX12_laysStep_38 rfl (lv_at hl 3 rfl) ?_
  refine lv_lconst (v := 1) hx hb dX12_laysStep_39 (by decide) ?_
  refine xlast C hP hD hS 3 rfl 1 rfl (by decide) (by decide) dX12_laysStep_40 ?_
  clear hP hD hS
  try clear locs
  try clear H
  intro H locs hP hD hS
  replace hP : va_P D vwCl [(maa, .inl (cs 1, 9, .inr (.inl (vp_updL (lt4 0 0 0 0) 1 0)))), (mab, .inl (cs 1, 9, .inr (.inl (vp_updL (lt4 1 0 0 0) 1 1)))), (mba, .inl (cs 1, 9, .inr (.inl (vp_updL (lt4 0 0 0 0) 1 0)))), (mbb, .inl (cs 1, 9, .inr (.inl (vp_updL (lt4 1 0 0 0) 1 1)))), (hm, .inr (12, [.ref ms, .ref mkp, .int (nI 0), .ref mtr, .int (nI 4), .int (nI 2), .int (nI 2), .int (nI 3), .int (nI 2), .int (nI 1), .ref mas, .int (nI 0), .int (nI 0), .int (nI 0), .ref mso, .ref mon, .ref mot, .ref man, .int (nI 0), .int (nI 0), .ref mst, .ref msm, .ref mtb, .ref mti, .ref mfr, .ref mbn, .ref mbs, .ref mde, .int (nI 0), .int (nI 0), .int (nI 0), .int (nI 0), .long ab, .long be, .ref maa, .ref mab, .ref mba, .ref mbb]))] H := hP
  replace hD : va_D A [(maa, .inl (cs 1, 9, .inr (.inl (vp_updL (lt4 0 0 0 0) 1 0)))), (mab, .inl (cs 1, 9, .inr (.inl (vp_updL (lt4 1 0 0 0) 1 1)))), (mba, .inl (cs 1, 9, .inr (.inl (vp_updL (lt4 0 0 0 0) 1 0)))), (mbb, .inl (cs 1, 9, .inr (.inl (vp_updL (lt4 1 0 0 0) 1 1)))), (hm, .inr (12, [.ref ms, .ref mkp, .int (nI 0), .ref mtr, .int (nI 4), .int (nI 2), .int (nI 2), .int (nI 3), .int (nI 2), .int (nI 1), .ref mas, .int (nI 0), .int (nI 0), .int (nI 0), .ref mso, .ref mon, .ref mot, .ref man, .int (nI 0), .int (nI 0), .ref mst, .ref msm, .ref mtb, .ref mti, .ref mfr, .ref mbn, .ref mbs, .ref mde, .int (nI 0), .int (nI 0), .int (nI 0), .int (nI 0), .long ab, .long be, .ref maa, .ref mab, .ref mba, .ref mbb]))] := hD
  have hPD := xcongl (q0 := 0) (lt4 0 0 0 0) hP hD rfl (fun j hj => (show ∀ j, j < 9 → lt4 0 0 0 0 j = (vp_updL (lt4 0 0 0 0) 1 0) j from by decide) j hj)
  clear hP hD
  obtain ⟨hP, hD⟩ := hPD
  replace hP : va_P D vwCl [(maa, .inl (cs 1, 9, .inr (.inl (lt4 0 0 0 0)))), (mab, .inl (cs 1, 9, .inr (.inl (vp_updL (lt4 1 0 0 0) 1 1)))), (mba, .inl (cs 1, 9, .inr (.inl (vp_updL (lt4 0 0 0 0) 1 0)))), (mbb, .inl (cs 1, 9, .inr (.inl (vp_updL (lt4 1 0 0 0) 1 1)))), (hm, .inr (12, [.ref ms, .ref mkp, .int (nI 0), .ref mtr, .int (nI 4), .int (nI 2), .int (nI 2), .int (nI 3), .int (nI 2), .int (nI 1), .ref mas, .int (nI 0), .int (nI 0), .int (nI 0), .ref mso, .ref mon, .ref mot, .ref man, .int (nI 0), .int (nI 0), .ref mst, .ref msm, .ref mtb, .ref mti, .ref mfr, .ref mbn, .ref mbs, .ref mde, .int (nI 0), .int (nI 0), .int (nI 0), .int (nI 0), .long ab, .long be, .ref maa, .ref mab, .ref mba, .ref mbb]))] H := hP
  replace hD : va_D A [(maa, .inl (cs 1, 9, .inr (.inl (lt4 0 0 0 0)))), (mab, .inl (cs 1, 9, .inr (.inl (vp_updL (lt4 1 0 0 0) 1 1)))), (mba, .inl (cs 1, 9, .inr (.inl (vp_updL (lt4 0 0 0 0) 1 0)))), (mbb, .inl (cs 1, 9, .inr (.inl (vp_updL (lt4 1 0 0 0) 1 1)))), (hm, .inr (12, [.ref ms, .ref mkp, .int (nI 0), .ref mtr, .int (nI 4), .int (nI 2), .int (nI 2), .int (nI 3), .int (nI 2), .int (nI 1), .ref mas, .int (nI 0), .int (nI 0), .int (nI 0), .ref mso, .ref mon, .ref mot, .ref man, .int (nI 0), .int (nI 0), .ref mst, .ref msm, .ref mtb, .ref mti, .ref mfr, .ref mbn, .ref mbs, .ref mde, .int (nI 0), .int (nI 0), .int (nI 0), .int (nI 0), .long ab, .long be, .ref maa, .ref mab, .ref mba, .ref mbb]))] := hD
  have hPD := xcongl (q0 := 1) (lt4 1 1 0 0) hP hD rfl (fun j hj => (show ∀ j, j < 9 → lt4 1 1 0 0 j = (vp_updL (lt4 1 0 0 0) 1 1) j from by decide) j hj)
  clear hP hD
  obtain ⟨hP, hD⟩ := hPD
  replace hP : va_P D vwCl [(maa, .inl (cs 1, 9, .inr (.inl (lt4 0 0 0 0)))), (mab, .inl (cs 1, 9, .inr (.inl (lt4 1 1 0 0)))), (mba, .inl (cs 1, 9, .inr (.inl (vp_updL (lt4 0 0 0 0) 1 0)))), (mbb, .inl (cs 1, 9, .inr (.inl (vp_updL (lt4 1 0 0 0) 1 1)))), (hm, .inr (12, [.ref ms, .ref mkp, .int (nI 0), .ref mtr, .int (nI 4), .int (nI 2), .int (nI 2), .int (nI 3), .int (nI 2), .int (nI 1), .ref mas, .int (nI 0), .int (nI 0), .int (nI 0), .ref mso, .ref mon, .ref mot, .ref man, .int (nI 0), .int (nI 0), .ref mst, .ref msm, .ref mtb, .ref mti, .ref mfr, .ref mbn, .ref mbs, .ref mde, .int (nI 0), .int (nI 0), .int (nI 0), .int (nI 0), .long ab, .long be, .ref maa, .ref mab, .ref mba, .ref mbb]))] H := hP
  replace hD : va_D A [(maa, .inl (cs 1, 9, .inr (.inl (lt4 0 0 0 0)))), (mab, .inl (cs 1, 9, .inr (.inl (lt4 1 1 0 0)))), (mba, .inl (cs 1, 9, .inr (.inl (vp_updL (lt4 0 0 0 0) 1 0)))), (mbb, .inl (cs 1, 9, .inr (.inl (vp_updL (lt4 1 0 0 0) 1 1)))), (hm, .inr (12, [.ref ms, .ref mkp, .int (nI 0), .ref mtr, .int (nI 4), .int (nI 2), .int (nI 2), .int (nI 3), .int (nI 2), .int (nI 1), .ref mas, .int (nI 0), .int (nI 0), .int (nI 0), .ref mso, .ref mon, .ref mot, .ref man, .int (nI 0), .int (nI 0), .ref mst, .ref msm, .ref mtb, .ref mti, .ref mfr, .ref mbn, .ref mbs, .ref mde, .int (nI 0), .int (nI 0), .int (nI 0), .int (nI 0), .long ab, .long be, .ref maa, .ref mab, .ref mba, .ref mbb]))] := hD
  have hPD := xcongl (q0 := 2) (lt4 0 0 0 0) hP hD rfl (fun j hj => (show ∀ j, j < 9 → lt4 0 0 0 0 j = (vp_updL (lt4 0 0 0 0) 1 0) j from by decide) j hj)
  clear hP hD
  obtain ⟨hP, hD⟩ := hPD
  replace hP : va_P D vwCl [(maa, .inl (cs 1, 9, .inr (.inl (lt4 0 0 0 0)))), (mab, .inl (cs 1, 9, .inr (.inl (lt4 1 1 0 0)))), (mba, .inl (cs 1, 9, .inr (.inl (lt4 0 0 0 0)))), (mbb, .inl (cs 1, 9, .inr (.inl (vp_updL (lt4 1 0 0 0) 1 1)))), (hm, .inr (12, [.ref ms, .ref mkp, .int (nI 0), .ref mtr, .int (nI 4), .int (nI 2), .int (nI 2), .int (nI 3), .int (nI 2), .int (nI 1), .ref mas, .int (nI 0), .int (nI 0), .int (nI 0), .ref mso, .ref mon, .ref mot, .ref man, .int (nI 0), .int (nI 0), .ref mst, .ref msm, .ref mtb, .ref mti, .ref mfr, .ref mbn, .ref mbs, .ref mde, .int (nI 0), .int (nI 0), .int (nI 0), .int (nI 0), .long ab, .long be, .ref maa, .ref mab, .ref mba, .ref mbb]))] H := hP
  replace hD : va_D A [(maa, .inl (cs 1, 9, .inr (.inl (lt4 0 0 0 0)))), (mab, .inl (cs 1, 9, .inr (.inl (lt4 1 1 0 0)))), (mba, .inl (cs 1, 9, .inr (.inl (lt4 0 0 0 0)))), (mbb, .inl (cs 1, 9, .inr (.inl (vp_updL (lt4 1 0 0 0) 1 1)))), (hm, .inr (12, [.ref ms, .ref mkp, .int (nI 0), .ref mtr, .int (nI 4), .int (nI 2), .int (nI 2), .int (nI 3), .int (nI 2), .int (nI 1), .ref mas, .int (nI 0), .int (nI 0), .int (nI 0), .ref mso, .ref mon, .ref mot, .ref man, .int (nI 0), .int (nI 0), .ref mst, .ref msm, .ref mtb, .ref mti, .ref mfr, .ref mbn, .ref mbs, .ref mde, .int (nI 0), .int (nI 0), .int (nI 0), .int (nI 0), .long ab, .long be, .ref maa, .ref mab, .ref mba, .ref mbb]))] := hD
  have hPD := xcongl (q0 := 3) (lt4 1 1 0 0) hP hD rfl (fun j hj => (show ∀ j, j < 9 → lt4 1 1 0 0 j = (vp_updL (lt4 1 0 0 0) 1 1) j from by decide) j hj)
  clear hP hD
  obtain ⟨hP, hD⟩ := hPD
  replace hP : va_P D vwCl [(maa, .inl (cs 1, 9, .inr (.inl (lt4 0 0 0 0)))), (mab, .inl (cs 1, 9, .inr (.inl (lt4 1 1 0 0)))), (mba, .inl (cs 1, 9, .inr (.inl (lt4 0 0 0 0)))), (mbb, .inl (cs 1, 9, .inr (.inl (lt4 1 1 0 0)))), (hm, .inr (12, [.ref ms, .ref mkp, .int (nI 0), .ref mtr, .int (nI 4), .int (nI 2), .int (nI 2), .int (nI 3), .int (nI 2), .int (nI 1), .ref mas, .int (nI 0), .int (nI 0), .int (nI 0), .ref mso, .ref mon, .ref mot, .ref man, .int (nI 0), .int (nI 0), .ref mst, .ref msm, .ref mtb, .ref mti, .ref mfr, .ref mbn, .ref mbs, .ref mde, .int (nI 0), .int (nI 0), .int (nI 0), .int (nI 0), .long ab, .long be, .ref maa, .ref mab, .ref mba, .ref mbb]))] H := hP
  replace hD : va_D A [(maa, .inl (cs 1, 9, .inr (.inl (lt4 0 0 0 0)))), (mab, .inl (cs 1, 9, .inr (.inl (lt4 1 1 0 0)))), (mba, .inl (cs 1, 9, .inr (.inl (lt4 0 0 0 0)))), (mbb, .inl (cs 1, 9, .inr (.inl (lt4 1 1 0 0)))), (hm, .inr (12, [.ref ms, .ref mkp, .int (nI 0), .ref mtr, .int (nI 4), .int (nI 2), .int (nI 2), .int (nI 3), .int (nI 2), .int (nI 1), .ref mas, .int (nI 0), .int (nI 0), .int (nI 0), .ref mso, .ref mon, .ref mot, .ref man, .int (nI 0), .int (nI 0), .ref mst, .ref msm, .ref mtb, .ref mti, .ref mfr, .ref mbn, .ref mbs, .ref mde, .int (nI 0), .int (nI 0), .int (nI 0), .int (nI 0), .long ab, .long be, .ref maa, .ref mab, .ref mba, .ref mbb]))] := hD
  refine lv_lload_n hx hb dX12_laysStep_41 rfl (lv_at hl 1 rfl) ?_
  refine lv_lconst (v := 0) hx hb dX12_laysStep_42 (by decide) ?_
  refine W.lcmp hx hb dX12_laysStep_43 ?_
  refine lv_if_ne (tgt := 55) hx hb dX12_laysStep_44 (by decide) (fun c => absurd (by decide) c) (fun _ => ?_)
  refine lv_lload hx hb dX12_laysStep_47 (lv_at hl 0 rfl) ?_
  refine lv_lconst (v := 0) hx hb dX12_laysStep_49 (by decide) ?_
  refine W.lcmp hx hb dX12_laysStep_50 ?_
  refine lv_if_ne (tgt := 55) hx hb dX12_laysStep_51 (by decide) (fun _ => ?_) (fun c => absurd c (by decide))
  refine lv_aload_n hx hb dX12_laysStep_55 rfl (lv_at hl 2 rfl) ?_
  refine lv_lload hx hb dX12_laysStep_56 (lv_at hl 0 rfl) ?_
  refine lv_lconst (v := 1) hx hb dX12_laysStep_58 (by decide) ?_
  refine lv_aload_n hx hb dX12_laysStep_59 rfl (lv_at hl 2 rfl) ?_
  refine xget C hP 4 rfl rfl zuX12 34 (by decide) zw6_7 rfl dX12_laysStep_60 ?_
  refine lv_iload_n hx hb dX12_laysStep_63 rfl (lv_at hl 3 rfl) ?_
  refine lv_iconst (v := nI 1) hx hb dX12_laysStep_64 (by decide) ?_
  refine lv_isub hx hb dX12_laysStep_65 ?_
  refine lv_topi (nm_r (e' := nI 0) (by decide) ?_)
  refine xlald C hP 0 rfl 0 rfl (by decide) (by decide) dX12_laysStep_66 ?_
  refine lv_topl (nm_r (e' := 0) (by decide) ?_)
  refine lv_aload_n hx hb dX12_laysStep_67 rfl (lv_at hl 2 rfl) ?_
  refine xget C hP 4 rfl rfl zuX12 35 (by decide) zw6_8 rfl dX12_laysStep_68 ?_
  refine lv_iload_n hx hb dX12_laysStep_71 rfl (lv_at hl 3 rfl) ?_
  refine lv_iconst (v := nI 1) hx hb dX12_laysStep_72 (by decide) ?_
  refine lv_isub hx hb dX12_laysStep_73 ?_
  refine lv_topi (nm_r (e' := nI 0) (by decide) ?_)
  refine xlald C hP 1 rfl 0 rfl (by decide) (by decide) dX12_laysStep_74 ?_
  refine lv_topl (nm_r (e' := 1) (by decide) ?_)
  refine xv (wr := [(maa, .inl (cs 1, 9, .inr (.inl (lt4 0 0 0 0)))), (mab, .inl (cs 1, 9, .inr (.inl (lt4 1 1 0 0)))), (mba, .inl (cs 1, 9, .inr (.inl (lt4 0 0 0 0)))), (mbb, .inl (cs 1, 9, .inr (.inl (lt4 1 1 0 0))))]) (xV (As := [.long 3, .long 1, .long 0, .long 1]) (rest := []) C (c_X12_multiplies l D cs hm ms mkp mtr mas mso mon mot man mst msm mtb mti mfr mbn mbs mde maa mab mba mbb ab be 3 1 0 1 0 1 0 1 (by decide +kernel) (by decide +kernel) (by decide +kernel)) kX12_286 hP hD [4] rfl (by decide +kernel) 0 rfl rfl rfl ⟨Nat.le_of_ble_eq_true rfl, Nat.le_of_ble_eq_true rfl⟩ rfl hl.1 rfl (Nat.le_of_ble_eq_true rfl) dX12_laysStep_75 ⟨Nat.le_of_ble_eq_true rfl, Nat.le_of_ble_eq_true rfl⟩) hP hD hS hA [4] [0, 1, 2, 3] rfl rfl (by decide +kernel) (by decide +kernel) ?_
  clear hP hD hS
  try clear locs
  try clear H
  intro u_6 H locs hw_r_5 hP hD hS
  refine W.widen (k := 0) (n := 0) (Nat.le_of_ble_eq_true rfl) (Nat.le_of_ble_eq_true rfl) ?_
  replace hP : va_P D vwCl [(maa, .inl (cs 1, 9, .inr (.inl (lt4 0 0 0 0)))), (mab, .inl (cs 1, 9, .inr (.inl (lt4 1 1 0 0)))), (mba, .inl (cs 1, 9, .inr (.inl (lt4 0 0 0 0)))), (mbb, .inl (cs 1, 9, .inr (.inl (lt4 1 1 0 0)))), (hm, .inr (12, [.ref ms, .ref mkp, .int (nI 0), .ref mtr, .int (nI 4), .int (nI 2), .int (nI 2), .int (nI 3), .int (nI 2), .int (nI 1), .ref mas, .int (nI 0), .int (nI 0), .int (nI 0), .ref mso, .ref mon, .ref mot, .ref man, .int (nI 0), .int (nI 0), .ref mst, .ref msm, .ref mtb, .ref mti, .ref mfr, .ref mbn, .ref mbs, .ref mde, .int (nI 0), .int (nI 0), .int (nI 0), .int (nI 0), .long 0, .long 1, .ref maa, .ref mab, .ref mba, .ref mbb]))] H := hP
  replace hD : va_D A [(maa, .inl (cs 1, 9, .inr (.inl (lt4 0 0 0 0)))), (mab, .inl (cs 1, 9, .inr (.inl (lt4 1 1 0 0)))), (mba, .inl (cs 1, 9, .inr (.inl (lt4 0 0 0 0)))), (mbb, .inl (cs 1, 9, .inr (.inl (lt4 1 1 0 0)))), (hm, .inr (12, [.ref ms, .ref mkp, .int (nI 0), .ref mtr, .int (nI 4), .int (nI 2), .int (nI 2), .int (nI 3), .int (nI 2), .int (nI 1), .ref mas, .int (nI 0), .int (nI 0), .int (nI 0), .ref mso, .ref mon, .ref mot, .ref man, .int (nI 0), .int (nI 0), .ref mst, .ref msm, .ref mtb, .ref mti, .ref mfr, .ref mbn, .ref mbs, .ref mde, .int (nI 0), .int (nI 0), .int (nI 0), .int (nI 0), .long 0, .long 1, .ref maa, .ref mab, .ref mba, .ref mbb]))] := hD
  refine lv_aload_n hx hb dX12_laysStep_78 rfl (lv_at hl 2 rfl) ?_
  refine lv_lload_n hx hb dX12_laysStep_79 rfl (lv_at hl 1 rfl) ?_
  refine lv_lload hx hb dX12_laysStep_80 (lv_at hl 0 rfl) ?_
  refine lv_ladd hx hb dX12_laysStep_82 ?_
  refine lv_topl (nm_r (e' := 3) (by decide) ?_)
  refine lv_lconst (v := 1) hx hb dX12_laysStep_83 (by decide) ?_
  refine lv_aload_n hx hb dX12_laysStep_84 rfl (lv_at hl 2 rfl) ?_
  refine xget C hP 4 rfl rfl zuX12 32 (by decide) zw6_5 rfl dX12_laysStep_85 ?_
  refine lv_aload_n hx hb dX12_laysStep_88 rfl (lv_at hl 2 rfl) ?_
  refine xget C hP 4 rfl rfl zuX12 33 (by decide) zw6_6 rfl dX12_laysStep_89 ?_
  refine xv (wr := [(maa, .inl (cs 1, 9, .inr (.inl (lt4 0 0 0 0)))), (mab, .inl (cs 1, 9, .inr (.inl (lt4 1 1 0 0)))), (mba, .inl (cs 1, 9, .inr (.inl (lt4 0 0 0 0)))), (mbb, .inl (cs 1, 9, .inr (.inl (lt4 1 1 0 0))))]) (xV (As := [.long 3, .long 1, .long 0, .long 1]) (rest := []) C (c_X12_lessens l D cs hm ms mkp mtr mas mso mon mot man mst msm mtb mti mfr mbn mbs mde maa mab mba mbb 0 1 3 1 0 1 3 0 3 1 3 1 (by decide +kernel) (by decide +kernel) (by decide +kernel) (by decide +kernel) (by decide +kernel) (by decide +kernel)) kX12_290 hP hD [4] rfl (by decide +kernel) 0 rfl rfl rfl ⟨Nat.le_of_ble_eq_true rfl, Nat.le_of_ble_eq_true rfl⟩ rfl hl.1 rfl (Nat.le_of_ble_eq_true rfl) dX12_laysStep_92 ⟨Nat.le_of_ble_eq_true rfl, Nat.le_of_ble_eq_true rfl⟩) hP hD hS hA [4] [0, 1, 2, 3] rfl rfl (by decide +kernel) (by decide +kernel) ?_
  clear hP hD hS
  try clear locs
  try clear H
  intro u_8 H locs hw_r_7 hP hD hS
  refine W.widen (k := 0) (n := 0) (Nat.le_of_ble_eq_true rfl) (Nat.le_of_ble_eq_true rfl) ?_
  replace hP : va_P D vwCl [(maa, .inl (cs 1, 9, .inr (.inl (lt4 0 0 0 0)))), (mab, .inl (cs 1, 9, .inr (.inl (lt4 1 1 0 0)))), (mba, .inl (cs 1, 9, .inr (.inl (lt4 0 0 0 0)))), (mbb, .inl (cs 1, 9, .inr (.inl (lt4 1 1 0 0)))), (hm, .inr (12, [.ref ms, .ref mkp, .int (nI 0), .ref mtr, .int (nI 4), .int (nI 2), .int (nI 2), .int (nI 3), .int (nI 2), .int (nI 1), .ref mas, .int (nI 0), .int (nI 0), .int (nI 0), .ref mso, .ref mon, .ref mot, .ref man, .int (nI 0), .int (nI 0), .ref mst, .ref msm, .ref mtb, .ref mti, .ref mfr, .ref mbn, .ref mbs, .ref mde, .int (nI 0), .int (nI 0), .int (nI 0), .int (nI 0), .long 3, .long 1, .ref maa, .ref mab, .ref mba, .ref mbb]))] H := hP
  replace hD : va_D A [(maa, .inl (cs 1, 9, .inr (.inl (lt4 0 0 0 0)))), (mab, .inl (cs 1, 9, .inr (.inl (lt4 1 1 0 0)))), (mba, .inl (cs 1, 9, .inr (.inl (lt4 0 0 0 0)))), (mbb, .inl (cs 1, 9, .inr (.inl (lt4 1 1 0 0)))), (hm, .inr (12, [.ref ms, .ref mkp, .int (nI 0), .ref mtr, .int (nI 4), .int (nI 2), .int (nI 2), .int (nI 3), .int (nI 2), .int (nI 1), .ref mas, .int (nI 0), .int (nI 0), .int (nI 0), .ref mso, .ref mon, .ref mot, .ref man, .int (nI 0), .int (nI 0), .ref mst, .ref msm, .ref mtb, .ref mti, .ref mfr, .ref mbn, .ref mbs, .ref mde, .int (nI 0), .int (nI 0), .int (nI 0), .int (nI 0), .long 3, .long 1, .ref maa, .ref mab, .ref mba, .ref mbb]))] := hD
  refine lv_aload_n hx hb dX12_laysStep_95 rfl (lv_at hl 2 rfl) ?_
  refine xget C hP 4 rfl rfl zuX12 32 (by decide) zw6_5 rfl dX12_laysStep_96 ?_
  refine lv_lstore (lv' := [(7, .long 3), (5, .long 3), (3, .long 0), (0, .ref hm), (1, .int (nI 1)), (2, .int (nI 0))]) hx hb dX12_laysStep_99 hl (by decide) rfl ?_
  clear hl
  try clear ls
  intro ls hl
  refine lv_aload_n hx hb dX12_laysStep_101 rfl (lv_at hl 3 rfl) ?_
  refine xget C hP 4 rfl rfl zuX12 33 (by decide) zw6_6 rfl dX12_laysStep_102 ?_
  refine lv_lstore (lv' := [(9, .long 1), (7, .long 3), (5, .long 3), (3, .long 0), (0, .ref hm), (1, .int (nI 1)), (2, .int (nI 0))]) hx hb dX12_laysStep_105 hl (by decide) rfl ?_
  clear hl
  try clear ls
  intro ls hl
  refine lv_lload hx hb dX12_laysStep_107 (lv_at hl 1 rfl) ?_
  refine lv_lconst (v := 0) hx hb dX12_laysStep_109 (by decide) ?_
  refine W.lcmp hx hb dX12_laysStep_110 ?_
  refine lv_if_eq (tgt := 121) hx hb dX12_laysStep_111 (by decide) (fun c => absurd c (by decide)) (fun _ => ?_)
  refine lv_aload_n hx hb dX12_laysStep_114 rfl (lv_at hl 4 rfl) ?_
  refine xget C hP 4 rfl rfl zuX12 31 (by decide) zw6_4 rfl dX12_laysStep_115 ?_
  refine lv_if_eq (tgt := 122) hx hb dX12_laysStep_118 (by decide) (fun _ => ?_) (fun c => absurd (by decide) c)
  refine lv_aload_n hx hb dX12_laysStep_122 rfl (lv_at hl 4 rfl) ?_
  refine lv_lload_n hx hb dX12_laysStep_123 rfl (lv_at hl 3 rfl) ?_
  refine lv_lconst (v := 1) hx hb dX12_laysStep_124 (by decide) ?_
  refine lv_lload hx hb dX12_laysStep_125 (lv_at hl 1 rfl) ?_
  refine lv_lload hx hb dX12_laysStep_127 (lv_at hl 0 rfl) ?_
  refine xv (wr := [(maa, .inl (cs 1, 9, .inr (.inl (lt4 0 0 0 0)))), (mab, .inl (cs 1, 9, .inr (.inl (lt4 1 1 0 0)))), (mba, .inl (cs 1, 9, .inr (.inl (lt4 0 0 0 0)))), (mbb, .inl (cs 1, 9, .inr (.inl (lt4 1 1 0 0))))]) (xV (As := [.long 0, .long 1, .long 3, .long 1]) (rest := []) C (c_X12_divides l D cs hm ms mkp mtr mas mso mon mot man mst msm mtb mti mfr mbn mbs mde maa mab mba mbb 3 1 0 1 3 1 0 3 0 1 (by decide +kernel) (by decide +kernel) (by decide +kernel)) kX12_293 hP hD [4] rfl (by decide +kernel) 0 rfl rfl rfl ⟨Nat.le_of_ble_eq_true rfl, Nat.le_of_ble_eq_true rfl⟩ rfl hl.1 rfl (Nat.le_of_ble_eq_true rfl) dX12_laysStep_129 ⟨Nat.le_of_ble_eq_true rfl, Nat.le_of_ble_eq_true rfl⟩) hP hD hS hA [4] [0, 1, 2, 3] rfl rfl (by decide +kernel) (by decide +kernel) ?_
  clear hP hD hS
  try clear locs
  try clear H
  intro u_10 H locs hw_r_9 hP hD hS
  refine W.widen (k := 0) (n := 0) (Nat.le_of_ble_eq_true rfl) (Nat.le_of_ble_eq_true rfl) ?_
  replace hP : va_P D vwCl [(maa, .inl (cs 1, 9, .inr (.inl (lt4 0 0 0 0)))), (mab, .inl (cs 1, 9, .inr (.inl (lt4 1 1 0 0)))), (mba, .inl (cs 1, 9, .inr (.inl (lt4 0 0 0 0)))), (mbb, .inl (cs 1, 9, .inr (.inl (lt4 1 1 0 0)))), (hm, .inr (12, [.ref ms, .ref mkp, .int (nI 0), .ref mtr, .int (nI 4), .int (nI 2), .int (nI 2), .int (nI 3), .int (nI 2), .int (nI 1), .ref mas, .int (nI 0), .int (nI 0), .int (nI 0), .ref mso, .ref mon, .ref mot, .ref man, .int (nI 0), .int (nI 0), .ref mst, .ref msm, .ref mtb, .ref mti, .ref mfr, .ref mbn, .ref mbs, .ref mde, .int (nI 0), .int (nI 0), .int (nI 0), .int (nI 0), .long 0, .long 1, .ref maa, .ref mab, .ref mba, .ref mbb]))] H := hP
  replace hD : va_D A [(maa, .inl (cs 1, 9, .inr (.inl (lt4 0 0 0 0)))), (mab, .inl (cs 1, 9, .inr (.inl (lt4 1 1 0 0)))), (mba, .inl (cs 1, 9, .inr (.inl (lt4 0 0 0 0)))), (mbb, .inl (cs 1, 9, .inr (.inl (lt4 1 1 0 0)))), (hm, .inr (12, [.ref ms, .ref mkp, .int (nI 0), .ref mtr, .int (nI 4), .int (nI 2), .int (nI 2), .int (nI 3), .int (nI 2), .int (nI 1), .ref mas, .int (nI 0), .int (nI 0), .int (nI 0), .ref mso, .ref mon, .ref mot, .ref man, .int (nI 0), .int (nI 0), .ref mst, .ref msm, .ref mtb, .ref mti, .ref mfr, .ref mbn, .ref mbs, .ref mde, .int (nI 0), .int (nI 0), .int (nI 0), .int (nI 0), .long 0, .long 1, .ref maa, .ref mab, .ref mba, .ref mbb]))] := hD
  refine lv_aload_n hx hb dX12_laysStep_132 rfl (lv_at hl 4 rfl) ?_
  refine xget C hP 4 rfl rfl zuX12 34 (by decide) zw6_7 rfl dX12_laysStep_133 ?_
  refine lv_iload_n hx hb dX12_laysStep_136 rfl (lv_at hl 5 rfl) ?_
  refine lv_aload_n hx hb dX12_laysStep_137 rfl (lv_at hl 4 rfl) ?_
  refine xget C hP 4 rfl rfl zuX12 32 (by decide) zw6_5 rfl dX12_laysStep_138 ?_
  refine xlast C hP hD hS 0 rfl 1 rfl (by decide) (by decide) dX12_laysStep_141 ?_
  clear hP hD hS
  try clear locs
  try clear H
  intro H locs hP hD hS
  replace hP : va_P D vwCl [(maa, .inl (cs 1, 9, .inr (.inl (vp_updL (lt4 0 0 0 0) 1 0)))), (mab, .inl (cs 1, 9, .inr (.inl (lt4 1 1 0 0)))), (mba, .inl (cs 1, 9, .inr (.inl (lt4 0 0 0 0)))), (mbb, .inl (cs 1, 9, .inr (.inl (lt4 1 1 0 0)))), (hm, .inr (12, [.ref ms, .ref mkp, .int (nI 0), .ref mtr, .int (nI 4), .int (nI 2), .int (nI 2), .int (nI 3), .int (nI 2), .int (nI 1), .ref mas, .int (nI 0), .int (nI 0), .int (nI 0), .ref mso, .ref mon, .ref mot, .ref man, .int (nI 0), .int (nI 0), .ref mst, .ref msm, .ref mtb, .ref mti, .ref mfr, .ref mbn, .ref mbs, .ref mde, .int (nI 0), .int (nI 0), .int (nI 0), .int (nI 0), .long 0, .long 1, .ref maa, .ref mab, .ref mba, .ref mbb]))] H := hP
  replace hD : va_D A [(maa, .inl (cs 1, 9, .inr (.inl (vp_updL (lt4 0 0 0 0) 1 0)))), (mab, .inl (cs 1, 9, .inr (.inl (lt4 1 1 0 0)))), (mba, .inl (cs 1, 9, .inr (.inl (lt4 0 0 0 0)))), (mbb, .inl (cs 1, 9, .inr (.inl (lt4 1 1 0 0)))), (hm, .inr (12, [.ref ms, .ref mkp, .int (nI 0), .ref mtr, .int (nI 4), .int (nI 2), .int (nI 2), .int (nI 3), .int (nI 2), .int (nI 1), .ref mas, .int (nI 0), .int (nI 0), .int (nI 0), .ref mso, .ref mon, .ref mot, .ref man, .int (nI 0), .int (nI 0), .ref mst, .ref msm, .ref mtb, .ref mti, .ref mfr, .ref mbn, .ref mbs, .ref mde, .int (nI 0), .int (nI 0), .int (nI 0), .int (nI 0), .long 0, .long 1, .ref maa, .ref mab, .ref mba, .ref mbb]))] := hD
  refine lv_aload_n hx hb dX12_laysStep_142 rfl (lv_at hl 4 rfl) ?_
  refine xget C hP 4 rfl rfl zuX12 35 (by decide) zw6_8 rfl dX12_laysStep_143 ?_
  refine lv_iload_n hx hb dX12_laysStep_146 rfl (lv_at hl 5 rfl) ?_
  refine lv_aload_n hx hb dX12_laysStep_147 rfl (lv_at hl 4 rfl) ?_
  refine xget C hP 4 rfl rfl zuX12 33 (by decide) zw6_6 rfl dX12_laysStep_148 ?_
  refine xlast C hP hD hS 1 rfl 1 rfl (by decide) (by decide) dX12_laysStep_151 ?_
  clear hP hD hS
  try clear locs
  try clear H
  intro H locs hP hD hS
  replace hP : va_P D vwCl [(maa, .inl (cs 1, 9, .inr (.inl (vp_updL (lt4 0 0 0 0) 1 0)))), (mab, .inl (cs 1, 9, .inr (.inl (vp_updL (lt4 1 1 0 0) 1 1)))), (mba, .inl (cs 1, 9, .inr (.inl (lt4 0 0 0 0)))), (mbb, .inl (cs 1, 9, .inr (.inl (lt4 1 1 0 0)))), (hm, .inr (12, [.ref ms, .ref mkp, .int (nI 0), .ref mtr, .int (nI 4), .int (nI 2), .int (nI 2), .int (nI 3), .int (nI 2), .int (nI 1), .ref mas, .int (nI 0), .int (nI 0), .int (nI 0), .ref mso, .ref mon, .ref mot, .ref man, .int (nI 0), .int (nI 0), .ref mst, .ref msm, .ref mtb, .ref mti, .ref mfr, .ref mbn, .ref mbs, .ref mde, .int (nI 0), .int (nI 0), .int (nI 0), .int (nI 0), .long 0, .long 1, .ref maa, .ref mab, .ref mba, .ref mbb]))] H := hP
  replace hD : va_D A [(maa, .inl (cs 1, 9, .inr (.inl (vp_updL (lt4 0 0 0 0) 1 0)))), (mab, .inl (cs 1, 9, .inr (.inl (vp_updL (lt4 1 1 0 0) 1 1)))), (mba, .inl (cs 1, 9, .inr (.inl (lt4 0 0 0 0)))), (mbb, .inl (cs 1, 9, .inr (.inl (lt4 1 1 0 0)))), (hm, .inr (12, [.ref ms, .ref mkp, .int (nI 0), .ref mtr, .int (nI 4), .int (nI 2), .int (nI 2), .int (nI 3), .int (nI 2), .int (nI 1), .ref mas, .int (nI 0), .int (nI 0), .int (nI 0), .ref mso, .ref mon, .ref mot, .ref man, .int (nI 0), .int (nI 0), .ref mst, .ref msm, .ref mtb, .ref mti, .ref mfr, .ref mbn, .ref mbs, .ref mde, .int (nI 0), .int (nI 0), .int (nI 0), .int (nI 0), .long 0, .long 1, .ref maa, .ref mab, .ref mba, .ref mbb]))] := hD
  have hPD := xcongl (q0 := 0) (lt4 0 0 0 0) hP hD rfl (fun j hj => (show ∀ j, j < 9 → lt4 0 0 0 0 j = (vp_updL (lt4 0 0 0 0) 1 0) j from by decide) j hj)
  clear hP hD
  obtain ⟨hP, hD⟩ := hPD
  replace hP : va_P D vwCl [(maa, .inl (cs 1, 9, .inr (.inl (lt4 0 0 0 0)))), (mab, .inl (cs 1, 9, .inr (.inl (vp_updL (lt4 1 1 0 0) 1 1)))), (mba, .inl (cs 1, 9, .inr (.inl (lt4 0 0 0 0)))), (mbb, .inl (cs 1, 9, .inr (.inl (lt4 1 1 0 0)))), (hm, .inr (12, [.ref ms, .ref mkp, .int (nI 0), .ref mtr, .int (nI 4), .int (nI 2), .int (nI 2), .int (nI 3), .int (nI 2), .int (nI 1), .ref mas, .int (nI 0), .int (nI 0), .int (nI 0), .ref mso, .ref mon, .ref mot, .ref man, .int (nI 0), .int (nI 0), .ref mst, .ref msm, .ref mtb, .ref mti, .ref mfr, .ref mbn, .ref mbs, .ref mde, .int (nI 0), .int (nI 0), .int (nI 0), .int (nI 0), .long 0, .long 1, .ref maa, .ref mab, .ref mba, .ref mbb]))] H := hP
  replace hD : va_D A [(maa, .inl (cs 1, 9, .inr (.inl (lt4 0 0 0 0)))), (mab, .inl (cs 1, 9, .inr (.inl (vp_updL (lt4 1 1 0 0) 1 1)))), (mba, .inl (cs 1, 9, .inr (.inl (lt4 0 0 0 0)))), (mbb, .inl (cs 1, 9, .inr (.inl (lt4 1 1 0 0)))), (hm, .inr (12, [.ref ms, .ref mkp, .int (nI 0), .ref mtr, .int (nI 4), .int (nI 2), .int (nI 2), .int (nI 3), .int (nI 2), .int (nI 1), .ref mas, .int (nI 0), .int (nI 0), .int (nI 0), .ref mso, .ref mon, .ref mot, .ref man, .int (nI 0), .int (nI 0), .ref mst, .ref msm, .ref mtb, .ref mti, .ref mfr, .ref mbn, .ref mbs, .ref mde, .int (nI 0), .int (nI 0), .int (nI 0), .int (nI 0), .long 0, .long 1, .ref maa, .ref mab, .ref mba, .ref mbb]))] := hD
  have hPD := xcongl (q0 := 1) (lt4 1 1 0 0) hP hD rfl (fun j hj => (show ∀ j, j < 9 → lt4 1 1 0 0 j = (vp_updL (lt4 1 1 0 0) 1 1) j from by decide) j hj)
  clear hP hD
  obtain ⟨hP, hD⟩ := hPD
  replace hP : va_P D vwCl [(maa, .inl (cs 1, 9, .inr (.inl (lt4 0 0 0 0)))), (mab, .inl (cs 1, 9, .inr (.inl (lt4 1 1 0 0)))), (mba, .inl (cs 1, 9, .inr (.inl (lt4 0 0 0 0)))), (mbb, .inl (cs 1, 9, .inr (.inl (lt4 1 1 0 0)))), (hm, .inr (12, [.ref ms, .ref mkp, .int (nI 0), .ref mtr, .int (nI 4), .int (nI 2), .int (nI 2), .int (nI 3), .int (nI 2), .int (nI 1), .ref mas, .int (nI 0), .int (nI 0), .int (nI 0), .ref mso, .ref mon, .ref mot, .ref man, .int (nI 0), .int (nI 0), .ref mst, .ref msm, .ref mtb, .ref mti, .ref mfr, .ref mbn, .ref mbs, .ref mde, .int (nI 0), .int (nI 0), .int (nI 0), .int (nI 0), .long 0, .long 1, .ref maa, .ref mab, .ref mba, .ref mbb]))] H := hP
  replace hD : va_D A [(maa, .inl (cs 1, 9, .inr (.inl (lt4 0 0 0 0)))), (mab, .inl (cs 1, 9, .inr (.inl (lt4 1 1 0 0)))), (mba, .inl (cs 1, 9, .inr (.inl (lt4 0 0 0 0)))), (mbb, .inl (cs 1, 9, .inr (.inl (lt4 1 1 0 0)))), (hm, .inr (12, [.ref ms, .ref mkp, .int (nI 0), .ref mtr, .int (nI 4), .int (nI 2), .int (nI 2), .int (nI 3), .int (nI 2), .int (nI 1), .ref mas, .int (nI 0), .int (nI 0), .int (nI 0), .ref mso, .ref mon, .ref mot, .ref man, .int (nI 0), .int (nI 0), .ref mst, .ref msm, .ref mtb, .ref mti, .ref mfr, .ref mbn, .ref mbs, .ref mde, .int (nI 0), .int (nI 0), .int (nI 0), .int (nI 0), .long 0, .long 1, .ref maa, .ref mab, .ref mba, .ref mbb]))] := hD
  refine lv_aload_n hx hb dX12_laysStep_152 rfl (lv_at hl 4 rfl) ?_
  refine lv_lload hx hb dX12_laysStep_153 (lv_at hl 2 rfl) ?_
  refine lv_lconst (v := 1) hx hb dX12_laysStep_155 (by decide) ?_
  refine lv_aload_n hx hb dX12_laysStep_156 rfl (lv_at hl 4 rfl) ?_
  refine xget C hP 4 rfl rfl zuX12 36 (by decide) zw6_9 rfl dX12_laysStep_157 ?_
  refine lv_iload_n hx hb dX12_laysStep_160 rfl (lv_at hl 5 rfl) ?_
  refine lv_iconst (v := nI 1) hx hb dX12_laysStep_161 (by decide) ?_
  refine lv_isub hx hb dX12_laysStep_162 ?_
  refine lv_topi (nm_r (e' := nI 0) (by decide) ?_)
  refine xlald C hP 2 rfl 0 rfl (by decide) (by decide) dX12_laysStep_163 ?_
  refine lv_topl (nm_r (e' := 0) (by decide) ?_)
  refine lv_aload_n hx hb dX12_laysStep_164 rfl (lv_at hl 4 rfl) ?_
  refine xget C hP 4 rfl rfl zuX12 37 (by decide) zw6_10 rfl dX12_laysStep_165 ?_
  refine lv_iload_n hx hb dX12_laysStep_168 rfl (lv_at hl 5 rfl) ?_
  refine lv_iconst (v := nI 1) hx hb dX12_laysStep_169 (by decide) ?_
  refine lv_isub hx hb dX12_laysStep_170 ?_
  refine lv_topi (nm_r (e' := nI 0) (by decide) ?_)
  refine xlald C hP 3 rfl 0 rfl (by decide) (by decide) dX12_laysStep_171 ?_
  refine lv_topl (nm_r (e' := 1) (by decide) ?_)
  refine xv (wr := [(maa, .inl (cs 1, 9, .inr (.inl (lt4 0 0 0 0)))), (mab, .inl (cs 1, 9, .inr (.inl (lt4 1 1 0 0)))), (mba, .inl (cs 1, 9, .inr (.inl (lt4 0 0 0 0)))), (mbb, .inl (cs 1, 9, .inr (.inl (lt4 1 1 0 0))))]) (xV (As := [.long 3, .long 1, .long 0, .long 1]) (rest := []) C (c_X12_multiplies l D cs hm ms mkp mtr mas mso mon mot man mst msm mtb mti mfr mbn mbs mde maa mab mba mbb 0 1 3 1 0 1 0 1 0 1 (by decide +kernel) (by decide +kernel) (by decide +kernel)) kX12_286 hP hD [4] rfl (by decide +kernel) 0 rfl rfl rfl ⟨Nat.le_of_ble_eq_true rfl, Nat.le_of_ble_eq_true rfl⟩ rfl hl.1 rfl (Nat.le_of_ble_eq_true rfl) dX12_laysStep_172 ⟨Nat.le_of_ble_eq_true rfl, Nat.le_of_ble_eq_true rfl⟩) hP hD hS hA [4] [0, 1, 2, 3] rfl rfl (by decide +kernel) (by decide +kernel) ?_
  clear hP hD hS
  try clear locs
  try clear H
  intro u_12 H locs hw_r_11 hP hD hS
  refine W.widen (k := 0) (n := 0) (Nat.le_of_ble_eq_true rfl) (Nat.le_of_ble_eq_true rfl) ?_
  replace hP : va_P D vwCl [(maa, .inl (cs 1, 9, .inr (.inl (lt4 0 0 0 0)))), (mab, .inl (cs 1, 9, .inr (.inl (lt4 1 1 0 0)))), (mba, .inl (cs 1, 9, .inr (.inl (lt4 0 0 0 0)))), (mbb, .inl (cs 1, 9, .inr (.inl (lt4 1 1 0 0)))), (hm, .inr (12, [.ref ms, .ref mkp, .int (nI 0), .ref mtr, .int (nI 4), .int (nI 2), .int (nI 2), .int (nI 3), .int (nI 2), .int (nI 1), .ref mas, .int (nI 0), .int (nI 0), .int (nI 0), .ref mso, .ref mon, .ref mot, .ref man, .int (nI 0), .int (nI 0), .ref mst, .ref msm, .ref mtb, .ref mti, .ref mfr, .ref mbn, .ref mbs, .ref mde, .int (nI 0), .int (nI 0), .int (nI 0), .int (nI 0), .long 0, .long 1, .ref maa, .ref mab, .ref mba, .ref mbb]))] H := hP
  replace hD : va_D A [(maa, .inl (cs 1, 9, .inr (.inl (lt4 0 0 0 0)))), (mab, .inl (cs 1, 9, .inr (.inl (lt4 1 1 0 0)))), (mba, .inl (cs 1, 9, .inr (.inl (lt4 0 0 0 0)))), (mbb, .inl (cs 1, 9, .inr (.inl (lt4 1 1 0 0)))), (hm, .inr (12, [.ref ms, .ref mkp, .int (nI 0), .ref mtr, .int (nI 4), .int (nI 2), .int (nI 2), .int (nI 3), .int (nI 2), .int (nI 1), .ref mas, .int (nI 0), .int (nI 0), .int (nI 0), .ref mso, .ref mon, .ref mot, .ref man, .int (nI 0), .int (nI 0), .ref mst, .ref msm, .ref mtb, .ref mti, .ref mfr, .ref mbn, .ref mbs, .ref mde, .int (nI 0), .int (nI 0), .int (nI 0), .int (nI 0), .long 0, .long 1, .ref maa, .ref mab, .ref mba, .ref mbb]))] := hD
  refine lv_iload_n hx hb dX12_laysStep_175 rfl (lv_at hl 6 rfl) ?_
  refine lv_if_eq (tgt := 202) hx hb dX12_laysStep_176 (by decide) (fun _ => ?_) (fun c => absurd (by decide) c)
  refine lv_aload_n hx hb dX12_laysStep_202 rfl (lv_at hl 4 rfl) ?_
  refine lv_aload_n hx hb dX12_laysStep_203 rfl (lv_at hl 4 rfl) ?_
  refine xget C hP 4 rfl rfl zuX12 32 (by decide) zw6_5 rfl dX12_laysStep_204 ?_
  refine lv_aload_n hx hb dX12_laysStep_207 rfl (lv_at hl 4 rfl) ?_
  refine xget C hP 4 rfl rfl zuX12 33 (by decide) zw6_6 rfl dX12_laysStep_208 ?_
  refine lv_lload hx hb dX12_laysStep_211 (lv_at hl 1 rfl) ?_
  refine lv_lload hx hb dX12_laysStep_213 (lv_at hl 0 rfl) ?_
  refine xv (wr := [(maa, .inl (cs 1, 9, .inr (.inl (lt4 0 0 0 0)))), (mab, .inl (cs 1, 9, .inr (.inl (lt4 1 1 0 0)))), (mba, .inl (cs 1, 9, .inr (.inl (lt4 0 0 0 0)))), (mbb, .inl (cs 1, 9, .inr (.inl (lt4 1 1 0 0))))]) (xV (As := [.long 0, .long 1, .long 3, .long 1]) (rest := []) C (c_X12_divides l D cs hm ms mkp mtr mas mso mon mot man mst msm mtb mti mfr mbn mbs mde maa mab mba mbb 0 1 0 1 3 1 0 3 0 1 (by decide +kernel) (by decide +kernel) (by decide +kernel)) kX12_293 hP hD [4] rfl (by decide +kernel) 0 rfl rfl rfl ⟨Nat.le_of_ble_eq_true rfl, Nat.le_of_ble_eq_true rfl⟩ rfl hl.1 rfl (Nat.le_of_ble_eq_true rfl) dX12_laysStep_215 ⟨Nat.le_of_ble_eq_true rfl, Nat.le_of_ble_eq_true rfl⟩) hP hD hS hA [4] [0, 1, 2, 3] rfl rfl (by decide +kernel) (by decide +kernel) ?_
  clear hP hD hS
  try clear locs
  try clear H
  intro u_14 H locs hw_r_13 hP hD hS
  refine W.widen (k := 0) (n := 0) (Nat.le_of_ble_eq_true rfl) (Nat.le_of_ble_eq_true rfl) ?_
  replace hP : va_P D vwCl [(maa, .inl (cs 1, 9, .inr (.inl (lt4 0 0 0 0)))), (mab, .inl (cs 1, 9, .inr (.inl (lt4 1 1 0 0)))), (mba, .inl (cs 1, 9, .inr (.inl (lt4 0 0 0 0)))), (mbb, .inl (cs 1, 9, .inr (.inl (lt4 1 1 0 0)))), (hm, .inr (12, [.ref ms, .ref mkp, .int (nI 0), .ref mtr, .int (nI 4), .int (nI 2), .int (nI 2), .int (nI 3), .int (nI 2), .int (nI 1), .ref mas, .int (nI 0), .int (nI 0), .int (nI 0), .ref mso, .ref mon, .ref mot, .ref man, .int (nI 0), .int (nI 0), .ref mst, .ref msm, .ref mtb, .ref mti, .ref mfr, .ref mbn, .ref mbs, .ref mde, .int (nI 0), .int (nI 0), .int (nI 0), .int (nI 0), .long 0, .long 1, .ref maa, .ref mab, .ref mba, .ref mbb]))] H := hP
  replace hD : va_D A [(maa, .inl (cs 1, 9, .inr (.inl (lt4 0 0 0 0)))), (mab, .inl (cs 1, 9, .inr (.inl (lt4 1 1 0 0)))), (mba, .inl (cs 1, 9, .inr (.inl (lt4 0 0 0 0)))), (mbb, .inl (cs 1, 9, .inr (.inl (lt4 1 1 0 0)))), (hm, .inr (12, [.ref ms, .ref mkp, .int (nI 0), .ref mtr, .int (nI 4), .int (nI 2), .int (nI 2), .int (nI 3), .int (nI 2), .int (nI 1), .ref mas, .int (nI 0), .int (nI 0), .int (nI 0), .ref mso, .ref mon, .ref mot, .ref man, .int (nI 0), .int (nI 0), .ref mst, .ref msm, .ref mtb, .ref mti, .ref mfr, .ref mbn, .ref mbs, .ref mde, .int (nI 0), .int (nI 0), .int (nI 0), .int (nI 0), .long 0, .long 1, .ref maa, .ref mab, .ref mba, .ref mbb]))] := hD
  refine lv_aload_n hx hb dX12_laysStep_218 rfl (lv_at hl 4 rfl) ?_
  refine xget C hP 4 rfl rfl zuX12 36 (by decide) zw6_9 rfl dX12_laysStep_219 ?_
  refine lv_iload_n hx hb dX12_laysStep_222 rfl (lv_at hl 5 rfl) ?_
  refine lv_aload_n hx hb dX12_laysStep_223 rfl (lv_at hl 4 rfl) ?_
  refine xget C hP 4 rfl rfl zuX12 32 (by decide) zw6_5 rfl dX12_laysStep_224 ?_
  refine xlast C hP hD hS 2 rfl 1 rfl (by decide) (by decide) dX12_laysStep_227 ?_
  clear hP hD hS
  try clear locs
  try clear H
  intro H locs hP hD hS
  replace hP : va_P D vwCl [(maa, .inl (cs 1, 9, .inr (.inl (lt4 0 0 0 0)))), (mab, .inl (cs 1, 9, .inr (.inl (lt4 1 1 0 0)))), (mba, .inl (cs 1, 9, .inr (.inl (vp_updL (lt4 0 0 0 0) 1 0)))), (mbb, .inl (cs 1, 9, .inr (.inl (lt4 1 1 0 0)))), (hm, .inr (12, [.ref ms, .ref mkp, .int (nI 0), .ref mtr, .int (nI 4), .int (nI 2), .int (nI 2), .int (nI 3), .int (nI 2), .int (nI 1), .ref mas, .int (nI 0), .int (nI 0), .int (nI 0), .ref mso, .ref mon, .ref mot, .ref man, .int (nI 0), .int (nI 0), .ref mst, .ref msm, .ref mtb, .ref mti, .ref mfr, .ref mbn, .ref mbs, .ref mde, .int (nI 0), .int (nI 0), .int (nI 0), .int (nI 0), .long 0, .long 1, .ref maa, .ref mab, .ref mba, .ref mbb]))] H := hP
  replace hD : va_D A [(maa, .inl (cs 1, 9, .inr (.inl (lt4 0 0 0 0)))), (mab, .inl (cs 1, 9, .inr (.inl (lt4 1 1 0 0)))), (mba, .inl (cs 1, 9, .inr (.inl (vp_updL (lt4 0 0 0 0) 1 0)))), (mbb, .inl (cs 1, 9, .inr (.inl (lt4 1 1 0 0)))), (hm, .inr (12, [.ref ms, .ref mkp, .int (nI 0), .ref mtr, .int (nI 4), .int (nI 2), .int (nI 2), .int (nI 3), .int (nI 2), .int (nI 1), .ref mas, .int (nI 0), .int (nI 0), .int (nI 0), .ref mso, .ref mon, .ref mot, .ref man, .int (nI 0), .int (nI 0), .ref mst, .ref msm, .ref mtb, .ref mti, .ref mfr, .ref mbn, .ref mbs, .ref mde, .int (nI 0), .int (nI 0), .int (nI 0), .int (nI 0), .long 0, .long 1, .ref maa, .ref mab, .ref mba, .ref mbb]))] := hD
  refine lv_aload_n hx hb dX12_laysStep_228 rfl (lv_at hl 4 rfl) ?_
  refine xget C hP 4 rfl rfl zuX12 37 (by decide) zw6_10 rfl dX12_laysStep_229 ?_
  refine lv_iload_n hx hb dX12_laysStep_232 rfl (lv_at hl 5 rfl) ?_
  refine lv_aload_n hx hb dX12_laysStep_233 rfl (lv_at hl 4 rfl) ?_
  refine xget C hP 4 rfl rfl zuX12 33 (by decide) zw6_6 rfl dX12_laysStep_234 ?_
  refine xlast C hP hD hS 3 rfl 1 rfl (by decide) (by decide) dX12_laysStep_237 ?_
  clear hP hD hS
  try clear locs
  try clear H
  intro H locs hP hD hS
  replace hP : va_P D vwCl [(maa, .inl (cs 1, 9, .inr (.inl (lt4 0 0 0 0)))), (mab, .inl (cs 1, 9, .inr (.inl (lt4 1 1 0 0)))), (mba, .inl (cs 1, 9, .inr (.inl (vp_updL (lt4 0 0 0 0) 1 0)))), (mbb, .inl (cs 1, 9, .inr (.inl (vp_updL (lt4 1 1 0 0) 1 1)))), (hm, .inr (12, [.ref ms, .ref mkp, .int (nI 0), .ref mtr, .int (nI 4), .int (nI 2), .int (nI 2), .int (nI 3), .int (nI 2), .int (nI 1), .ref mas, .int (nI 0), .int (nI 0), .int (nI 0), .ref mso, .ref mon, .ref mot, .ref man, .int (nI 0), .int (nI 0), .ref mst, .ref msm, .ref mtb, .ref mti, .ref mfr, .ref mbn, .ref mbs, .ref mde, .int (nI 0), .int (nI 0), .int (nI 0), .int (nI 0), .long 0, .long 1, .ref maa, .ref mab, .ref mba, .ref mbb]))] H := hP
  replace hD : va_D A [(maa, .inl (cs 1, 9, .inr (.inl (lt4 0 0 0 0)))), (mab, .inl (cs 1, 9, .inr (.inl (lt4 1 1 0 0)))), (mba, .inl (cs 1, 9, .inr (.inl (vp_updL (lt4 0 0 0 0) 1 0)))), (mbb, .inl (cs 1, 9, .inr (.inl (vp_updL (lt4 1 1 0 0) 1 1)))), (hm, .inr (12, [.ref ms, .ref mkp, .int (nI 0), .ref mtr, .int (nI 4), .int (nI 2), .int (nI 2), .int (nI 3), .int (nI 2), .int (nI 1), .ref mas, .int (nI 0), .int (nI 0), .int (nI 0), .ref mso, .ref mon, .ref mot, .ref man, .int (nI 0), .int (nI 0), .ref mst, .ref msm, .ref mtb, .ref mti, .ref mfr, .ref mbn, .ref mbs, .ref mde, .int (nI 0), .int (nI 0), .int (nI 0), .int (nI 0), .long 0, .long 1, .ref maa, .ref mab, .ref mba, .ref mbb]))] := hD
  have hPD := xcongl (q0 := 2) (lt4 0 0 0 0) hP hD rfl (fun j hj => (show ∀ j, j < 9 → lt4 0 0 0 0 j = (vp_updL (lt4 0 0 0 0) 1 0) j from by decide) j hj)
  clear hP hD
  obtain ⟨hP, hD⟩ := hPD
  replace hP : va_P D vwCl [(maa, .inl (cs 1, 9, .inr (.inl (lt4 0 0 0 0)))), (mab, .inl (cs 1, 9, .inr (.inl (lt4 1 1 0 0)))), (mba, .inl (cs 1, 9, .inr (.inl (lt4 0 0 0 0)))), (mbb, .inl (cs 1, 9, .inr (.inl (vp_updL (lt4 1 1 0 0) 1 1)))), (hm, .inr (12, [.ref ms, .ref mkp, .int (nI 0), .ref mtr, .int (nI 4), .int (nI 2), .int (nI 2), .int (nI 3), .int (nI 2), .int (nI 1), .ref mas, .int (nI 0), .int (nI 0), .int (nI 0), .ref mso, .ref mon, .ref mot, .ref man, .int (nI 0), .int (nI 0), .ref mst, .ref msm, .ref mtb, .ref mti, .ref mfr, .ref mbn, .ref mbs, .ref mde, .int (nI 0), .int (nI 0), .int (nI 0), .int (nI 0), .long 0, .long 1, .ref maa, .ref mab, .ref mba, .ref mbb]))] H := hP
  replace hD : va_D A [(maa, .inl (cs 1, 9, .inr (.inl (lt4 0 0 0 0)))), (mab, .inl (cs 1, 9, .inr (.inl (lt4 1 1 0 0)))), (mba, .inl (cs 1, 9, .inr (.inl (lt4 0 0 0 0)))), (mbb, .inl (cs 1, 9, .inr (.inl (vp_updL (lt4 1 1 0 0) 1 1)))), (hm, .inr (12, [.ref ms, .ref mkp, .int (nI 0), .ref mtr, .int (nI 4), .int (nI 2), .int (nI 2), .int (nI 3), .int (nI 2), .int (nI 1), .ref mas, .int (nI 0), .int (nI 0), .int (nI 0), .ref mso, .ref mon, .ref mot, .ref man, .int (nI 0), .int (nI 0), .ref mst, .ref msm, .ref mtb, .ref mti, .ref mfr, .ref mbn, .ref mbs, .ref mde, .int (nI 0), .int (nI 0), .int (nI 0), .int (nI 0), .long 0, .long 1, .ref maa, .ref mab, .ref mba, .ref mbb]))] := hD
  have hPD := xcongl (q0 := 3) (lt4 1 1 0 0) hP hD rfl (fun j hj => (show ∀ j, j < 9 → lt4 1 1 0 0 j = (vp_updL (lt4 1 1 0 0) 1 1) j from by decide) j hj)
  clear hP hD
  obtain ⟨hP, hD⟩ := hPD
  replace hP : va_P D vwCl [(maa, .inl (cs 1, 9, .inr (.inl (lt4 0 0 0 0)))), (mab, .inl (cs 1, 9, .inr (.inl (lt4 1 1 0 0)))), (mba, .inl (cs 1, 9, .inr (.inl (lt4 0 0 0 0)))), (mbb, .inl (cs 1, 9, .inr (.inl (lt4 1 1 0 0)))), (hm, .inr (12, [.ref ms, .ref mkp, .int (nI 0), .ref mtr, .int (nI 4), .int (nI 2), .int (nI 2), .int (nI 3), .int (nI 2), .int (nI 1), .ref mas, .int (nI 0), .int (nI 0), .int (nI 0), .ref mso, .ref mon, .ref mot, .ref man, .int (nI 0), .int (nI 0), .ref mst, .ref msm, .ref mtb, .ref mti, .ref mfr, .ref mbn, .ref mbs, .ref mde, .int (nI 0), .int (nI 0), .int (nI 0), .int (nI 0), .long 0, .long 1, .ref maa, .ref mab, .ref mba, .ref mbb]))] H := hP
  replace hD : va_D A [(maa, .inl (cs 1, 9, .inr (.inl (lt4 0 0 0 0)))), (mab, .inl (cs 1, 9, .inr (.inl (lt4 1 1 0 0)))), (mba, .inl (cs 1, 9, .inr (.inl (lt4 0 0 0 0)))), (mbb, .inl (cs 1, 9, .inr (.inl (lt4 1 1 0 0)))), (hm, .inr (12, [.ref ms, .ref mkp, .int (nI 0), .ref mtr, .int (nI 4), .int (nI 2), .int (nI 2), .int (nI 3), .int (nI 2), .int (nI 1), .ref mas, .int (nI 0), .int (nI 0), .int (nI 0), .ref mso, .ref mon, .ref mot, .ref man, .int (nI 0), .int (nI 0), .ref mst, .ref msm, .ref mtb, .ref mti, .ref mfr, .ref mbn, .ref mbs, .ref mde, .int (nI 0), .int (nI 0), .int (nI 0), .int (nI 0), .long 0, .long 1, .ref maa, .ref mab, .ref mba, .ref mbb]))] := hD
  exact xretv C () trivial (xP_map hP [4, 0, 1, 2, 3] rfl) (hD.sub [4, 0, 1, 2, 3] (by decide +kernel) rfl) hS (Nat.le_of_ble_eq_true rfl) (Nat.le_of_ble_eq_true rfl) dX12_laysStep_238

set_option maxHeartbeats 4000000 in
set_option maxRecDepth 100000 in
theorem c_X12_laysStep_2_0 (l : Launch) (D : va_G) (cs : Nat → ClassId) (hm ms mkp mtr mas mso mon mot man mst msm mtb mti mfr mbn mbs mde maa mab mba mbb : Nat) (ab be : Int64) : xMet l D cs yX12_laysStep cX12_laysStep 11 none ({ frames := 3, cells := 0, slots := 0, locals := 69 } : Room) [.ref hm, .int (nI 2), .int (nI 0)] [(hm, .inr (12, [.ref ms, .ref mkp, .int (nI 0), .ref mtr, .int (nI 4), .int (nI 2), .int (nI 2), .int (nI 3), .int (nI 2), .int (nI 1), .ref mas, .int (nI 0), .int (nI 0), .int (nI 0), .ref mso, .ref mon, .ref mot, .ref man, .int (nI 0), .int (nI 0), .ref mst, .ref msm, .ref mtb, .ref mti, .ref mfr, .ref mbn, .ref mbs, .ref mde, .int (nI 0), .int (nI 0), .int (nI 0), .int (nI 0), .long ab, .long be, .ref maa, .ref mab, .ref mba, .ref mbb])), (maa, .inl (cs 1, 9, .inr (.inl (lt4 0 0 0 0)))), (mab, .inl (cs 1, 9, .inr (.inl (lt4 1 1 0 0)))), (mba, .inl (cs 1, 9, .inr (.inl (lt4 0 0 0 0)))), (mbb, .inl (cs 1, 9, .inr (.inl (lt4 1 1 0 0))))] (xQv D (fun (_u : Unit) => True) (fun (_u : Unit) => [(hm, .inr (12, [.ref ms, .ref mkp, .int (nI 0), .ref mtr, .int (nI 4), .int (nI 2), .int (nI 2), .int (nI 3), .int (nI 2), .int (nI 1), .ref mas, .int (nI 0), .int (nI 0), .int (nI 0), .ref mso, .ref mon, .ref mot, .ref man, .int (nI 0), .int (nI 0), .ref mst, .ref msm, .ref mtb, .ref mti, .ref mfr, .ref mbn, .ref mbs, .ref mde, .int (nI 0), .int (nI 0), .int (nI 0), .int (nI 0), .long 0, .long 1, .ref maa, .ref mab, .ref mba, .ref mbb])), (maa, .inl (cs 1, 9, .inr (.inl (lt4 0 0 1 0)))), (mab, .inl (cs 1, 9, .inr (.inl (lt4 1 1 2 0)))), (mba, .inl (cs 1, 9, .inr (.inl (lt4 0 0 0 0)))), (mbb, .inl (cs 1, 9, .inr (.inl (lt4 1 1 1 0))))])) := by
  refine xMet.intro (by decide) (Nat.le_of_ble_eq_true rfl) ?_
  intro p e s m args below meth c A ls C hP hD hS hl
  have hx := C.1
  have hb := C.2.1
  have hz := C.2.2.2.2.1
  have hown := C.2.2.2.1
  have hA := C.2.2.2.2.2.2.2.2.2
  have hAO := C.2.2.2.2.2.2.2.2.1.2.2
  replace hl : lv_has ls 11 [(0, .ref hm), (1, .int (nI 2)), (2, .int (nI 0))] := hl
  obtain ⟨H, hH⟩ : ∃ H, H = s.heap := ⟨_, rfl⟩
  replace hP : va_P D vwCl [(hm, .inr (12, [.ref ms, .ref mkp, .int (nI 0), .ref mtr, .int (nI 4), .int (nI 2), .int (nI 2), .int (nI 3), .int (nI 2), .int (nI 1), .ref mas, .int (nI 0), .int (nI 0), .int (nI 0), .ref mso, .ref mon, .ref mot, .ref man, .int (nI 0), .int (nI 0), .ref mst, .ref msm, .ref mtb, .ref mti, .ref mfr, .ref mbn, .ref mbs, .ref mde, .int (nI 0), .int (nI 0), .int (nI 0), .int (nI 0), .long ab, .long be, .ref maa, .ref mab, .ref mba, .ref mbb])), (maa, .inl (cs 1, 9, .inr (.inl (lt4 0 0 0 0)))), (mab, .inl (cs 1, 9, .inr (.inl (lt4 1 1 0 0)))), (mba, .inl (cs 1, 9, .inr (.inl (lt4 0 0 0 0)))), (mbb, .inl (cs 1, 9, .inr (.inl (lt4 1 1 0 0))))] H := by rw [hH]; exact hP
  replace hS : va_S A s.heap H [] := by rw [hH]; exact hS
  obtain ⟨locs, hlocs⟩ : ∃ z : List Loc, z = [] := ⟨_, rfl⟩
  rw [← hlocs] at hS
  suffices hW : W p l e ({ frames := 3, cells := 0, slots := 0, locals := 69 } : Room) s m args below meth c H locs 0 0 (MQ below ((xQv D (fun (_u : Unit) => True) (fun (_u : Unit) => [(hm, .inr (12, [.ref ms, .ref mkp, .int (nI 0), .ref mtr, .int (nI 4), .int (nI 2), .int (nI 2), .int (nI 3), .int (nI 2), .int (nI 1), .ref mas, .int (nI 0), .int (nI 0), .int (nI 0), .ref mso, .ref mon, .ref mot, .ref man, .int (nI 0), .int (nI 0), .ref mst, .ref msm, .ref mtb, .ref mti, .ref mfr, .ref mbn, .ref mbs, .ref mde, .int (nI 0), .int (nI 0), .int (nI 0), .int (nI 0), .long 0, .long 1, .ref maa, .ref mab, .ref mba, .ref mbb])), (maa, .inl (cs 1, 9, .inr (.inl (lt4 0 0 1 0)))), (mab, .inl (cs 1, 9, .inr (.inl (lt4 1 1 2 0)))), (mba, .inl (cs 1, 9, .inr (.inl (lt4 0 0 0 0)))), (mbb, .inl (cs 1, 9, .inr (.inl (lt4 1 1 1 0))))])) A) args s 0 0 A) (F0 m 0 ls []) by rw [hlocs, hH] at hW; exact hW
  clear hH hlocs
  refine lv_aload_n hx hb dX12_laysStep_0 rfl (lv_at hl 0 rfl) ?_
  refine lv_iload_n hx hb dX12_laysStep_1 rfl (lv_at hl 1 rfl) ?_
  refine xl (wr := [(maa, .inl (cs 1, 9, .inr (.inl (lt4 0 0 0 0)))), (mab, .inl (cs 1, 9, .inr (.inl (lt4 1 1 0 0)))), (mba, .inl (cs 1, 9, .inr (.inl (lt4 0 0 0 0)))), (mbb, .inl (cs 1, 9, .inr (.inl (lt4 1 1 0 0))))]) (xV (As := [.int (nI 2)]) (rest := []) C (c_X12_up_2 l D cs hm ms mkp mtr mas mso mon mot man mst msm mtb mti mfr mbn mbs mde maa mab mba mbb ab be) kX12_280 hP hD [0] rfl (by decide +kernel) 0 rfl rfl rfl ⟨Nat.le_of_ble_eq_true rfl, Nat.le_of_ble_eq_true rfl⟩ rfl hl.1 rfl (Nat.le_of_ble_eq_true rfl) dX12_laysStep_2 ⟨Nat.le_of_ble_eq_true rfl, Nat.le_of_ble_eq_true rfl⟩) hP hD hS hA [0] [1, 2, 3, 4] rfl rfl (by decide +kernel) (by decide +kernel) ?_
  clear hP hD hS
  try clear locs
  try clear H
  intro r_1 u_2 H locs hw_r_1 hP hD hS
  have hw_r_1 : r_1 = 2 := hw_r_1
  refine W.widen (k := 0) (n := 0) (Nat.le_of_ble_eq_true rfl) (Nat.le_of_ble_eq_true rfl) ?_
  replace hP : va_P D vwCl [(maa, .inl (cs 1, 9, .inr (.inl (lt4 0 0 0 0)))), (mab, .inl (cs 1, 9, .inr (.inl (lt4 1 1 0 0)))), (mba, .inl (cs 1, 9, .inr (.inl (lt4 0 0 0 0)))), (mbb, .inl (cs 1, 9, .inr (.inl (lt4 1 1 0 0)))), (hm, .inr (12, [.ref ms, .ref mkp, .int (nI 0), .ref mtr, .int (nI 4), .int (nI 2), .int (nI 2), .int (nI 3), .int (nI 2), .int (nI 1), .ref mas, .int (nI 0), .int (nI 0), .int (nI 0), .ref mso, .ref mon, .ref mot, .ref man, .int (nI 0), .int (nI 0), .ref mst, .ref msm, .ref mtb, .ref mti, .ref mfr, .ref mbn, .ref mbs, .ref mde, .int (nI 0), .int (nI 0), .int (nI 0), .int (nI 0), .long ab, .long be, .ref maa, .ref mab, .ref mba, .ref mbb]))] H := hP
  replace hD : va_D A [(maa, .inl (cs 1, 9, .inr (.inl (lt4 0 0 0 0)))), (mab, .inl (cs 1, 9, .inr (.inl (lt4 1 1 0 0)))), (mba, .inl (cs 1, 9, .inr (.inl (lt4 0 0 0 0)))), (mbb, .inl (cs 1, 9, .inr (.inl (lt4 1 1 0 0)))), (hm, .inr (12, [.ref ms, .ref mkp, .int (nI 0), .ref mtr, .int (nI 4), .int (nI 2), .int (nI 2), .int (nI 3), .int (nI 2), .int (nI 1), .ref mas, .int (nI 0), .int (nI 0), .int (nI 0), .ref mso, .ref mon, .ref mot, .ref man, .int (nI 0), .int (nI 0), .ref mst, .ref msm, .ref mtb, .ref mti, .ref mfr, .ref mbn, .ref mbs, .ref mde, .int (nI 0), .int (nI 0), .int (nI 0), .int (nI 0), .long ab, .long be, .ref maa, .ref mab, .ref mba, .ref mbb]))] := hD
  subst hw_r_1
  refine lv_lstore_n (lv' := [(3, .long 2), (0, .ref hm), (1, .int (nI 2)), (2, .int (nI 0))]) hx hb dX12_laysStep_5 rfl hl (by decide) rfl ?_
  clear hl
  try clear ls
  intro ls hl
  refine lv_aload_n hx hb dX12_laysStep_6 rfl (lv_at hl 1 rfl) ?_
  refine lv_iload_n hx hb dX12_laysStep_7 rfl (lv_at hl 2 rfl) ?_
  refine xl (wr := [(maa, .inl (cs 1, 9, .inr (.inl (lt4 0 0 0 0)))), (mab, .inl (cs 1, 9, .inr (.inl (lt4 1 1 0 0)))), (mba, .inl (cs 1, 9, .inr (.inl (lt4 0 0 0 0)))), (mbb, .inl (cs 1, 9, .inr (.inl (lt4 1 1 0 0))))]) (xV (As := [.int (nI 2)]) (rest := []) C (c_X12_down_2 l D cs hm ms mkp mtr mas mso mon mot man mst msm mtb mti mfr mbn mbs mde maa mab mba mbb ab be) kX12_283 hP hD [4] rfl (by decide +kernel) 0 rfl rfl rfl ⟨Nat.le_of_ble_eq_true rfl, Nat.le_of_ble_eq_true rfl⟩ rfl hl.1 rfl (Nat.le_of_ble_eq_true rfl) dX12_laysStep_8 ⟨Nat.le_of_ble_eq_true rfl, Nat.le_of_ble_eq_true rfl⟩) hP hD hS hA [4] [0, 1, 2, 3] rfl rfl (by decide +kernel) (by decide +kernel) ?_
  clear hP hD hS
  try clear locs
  try clear H
  intro r_3 u_4 H locs hw_r_3 hP hD hS
  have hw_r_3 : r_3 = 2 := hw_r_3
  refine W.widen (k := 0) (n := 0) (Nat.le_of_ble_eq_true rfl) (Nat.le_of_ble_eq_true rfl) ?_
  replace hP : va_P D vwCl [(maa, .inl (cs 1, 9, .inr (.inl (lt4 0 0 0 0)))), (mab, .inl (cs 1, 9, .inr (.inl (lt4 1 1 0 0)))), (mba, .inl (cs 1, 9, .inr (.inl (lt4 0 0 0 0)))), (mbb, .inl (cs 1, 9, .inr (.inl (lt4 1 1 0 0)))), (hm, .inr (12, [.ref ms, .ref mkp, .int (nI 0), .ref mtr, .int (nI 4), .int (nI 2), .int (nI 2), .int (nI 3), .int (nI 2), .int (nI 1), .ref mas, .int (nI 0), .int (nI 0), .int (nI 0), .ref mso, .ref mon, .ref mot, .ref man, .int (nI 0), .int (nI 0), .ref mst, .ref msm, .ref mtb, .ref mti, .ref mfr, .ref mbn, .ref mbs, .ref mde, .int (nI 0), .int (nI 0), .int (nI 0), .int (nI 0), .long ab, .long be, .ref maa, .ref mab, .ref mba, .ref mbb]))] H := hP
  replace hD : va_D A [(maa, .inl (cs 1, 9, .inr (.inl (lt4 0 0 0 0)))), (mab, .inl (cs 1, 9, .inr (.inl (lt4 1 1 0 0)))), (mba, .inl (cs 1, 9, .inr (.inl (lt4 0 0 0 0)))), (mbb, .inl (cs 1, 9, .inr (.inl (lt4 1 1 0 0)))), (hm, .inr (12, [.ref ms, .ref mkp, .int (nI 0), .ref mtr, .int (nI 4), .int (nI 2), .int (nI 2), .int (nI 3), .int (nI 2), .int (nI 1), .ref mas, .int (nI 0), .int (nI 0), .int (nI 0), .ref mso, .ref mon, .ref mot, .ref man, .int (nI 0), .int (nI 0), .ref mst, .ref msm, .ref mtb, .ref mti, .ref mfr, .ref mbn, .ref mbs, .ref mde, .int (nI 0), .int (nI 0), .int (nI 0), .int (nI 0), .long ab, .long be, .ref maa, .ref mab, .ref mba, .ref mbb]))] := hD
  subst hw_r_3
  refine lv_lstore (lv' := [(5, .long 2), (3, .long 2), (0, .ref hm), (1, .int (nI 2)), (2, .int (nI 0))]) hx hb dX12_laysStep_11 hl (by decide) rfl ?_
  clear hl
  try clear ls
  intro ls hl
  refine lv_aload_n hx hb dX12_laysStep_13 rfl (lv_at hl 2 rfl) ?_
  refine xget C hP 4 rfl rfl zuX12 34 (by decide) zw6_7 rfl dX12_laysStep_14 ?_
  refine lv_iload_n hx hb dX12_laysStep_17 rfl (lv_at hl 3 rfl) ?_
  refine lv_lconst (v := 0) hx hb dX12_laysStep_18 (by decide) ?_
  refine xlast C hP hD hS 0 rfl 2 rfl (by decide) (by decide) dX12_laysStep_19 ?_
  clear hP hD hS
  try clear locs
  try clear H
  intro H locs hP hD hS
  replace hP : va_P D vwCl [(maa, .inl (cs 1, 9, .inr (.inl (vp_updL (lt4 0 0 0 0) 2 0)))), (mab, .inl (cs 1, 9, .inr (.inl (lt4 1 1 0 0)))), (mba, .inl (cs 1, 9, .inr (.inl (lt4 0 0 0 0)))), (mbb, .inl (cs 1, 9, .inr (.inl (lt4 1 1 0 0)))), (hm, .inr (12, [.ref ms, .ref mkp, .int (nI 0), .ref mtr, .int (nI 4), .int (nI 2), .int (nI 2), .int (nI 3), .int (nI 2), .int (nI 1), .ref mas, .int (nI 0), .int (nI 0), .int (nI 0), .ref mso, .ref mon, .ref mot, .ref man, .int (nI 0), .int (nI 0), .ref mst, .ref msm, .ref mtb, .ref mti, .ref mfr, .ref mbn, .ref mbs, .ref mde, .int (nI 0), .int (nI 0), .int (nI 0), .int (nI 0), .long ab, .long be, .ref maa, .ref mab, .ref mba, .ref mbb]))] H := hP
  replace hD : va_D A [(maa, .inl (cs 1, 9, .inr (.inl (vp_updL (lt4 0 0 0 0) 2 0)))), (mab, .inl (cs 1, 9, .inr (.inl (lt4 1 1 0 0)))), (mba, .inl (cs 1, 9, .inr (.inl (lt4 0 0 0 0)))), (mbb, .inl (cs 1, 9, .inr (.inl (lt4 1 1 0 0)))), (hm, .inr (12, [.ref ms, .ref mkp, .int (nI 0), .ref mtr, .int (nI 4), .int (nI 2), .int (nI 2), .int (nI 3), .int (nI 2), .int (nI 1), .ref mas, .int (nI 0), .int (nI 0), .int (nI 0), .ref mso, .ref mon, .ref mot, .ref man, .int (nI 0), .int (nI 0), .ref mst, .ref msm, .ref mtb, .ref mti, .ref mfr, .ref mbn, .ref mbs, .ref mde, .int (nI 0), .int (nI 0), .int (nI 0), .int (nI 0), .long ab, .long be, .ref maa, .ref mab, .ref mba, .ref mbb]))] := hD
  refine lv_aload_n hx hb dX12_laysStep_20 rfl (lv_at hl 2 rfl) ?_
  refine xget C hP 4 rfl rfl zuX12 35 (by decide) zw6_8 rfl dX12_laysStep_21 ?_
  refine lv_iload_n hx hb dX12_laysStep_24 rfl (lv_at hl 3 rfl) ?_
  refine lv_lconst (v := 1) hx hb dX12_laysStep_25 (by decide) ?_
  refine xlast C hP hD hS 1 rfl 2 rfl (by decide) (by decide) dX12_laysStep_26 ?_
  clear hP hD hS
  try clear locs
  try clear H
  intro H locs hP hD hS
  replace hP : va_P D vwCl [(maa, .inl (cs 1, 9, .inr (.inl (vp_updL (lt4 0 0 0 0) 2 0)))), (mab, .inl (cs 1, 9, .inr (.inl (vp_updL (lt4 1 1 0 0) 2 1)))), (mba, .inl (cs 1, 9, .inr (.inl (lt4 0 0 0 0)))), (mbb, .inl (cs 1, 9, .inr (.inl (lt4 1 1 0 0)))), (hm, .inr (12, [.ref ms, .ref mkp, .int (nI 0), .ref mtr, .int (nI 4), .int (nI 2), .int (nI 2), .int (nI 3), .int (nI 2), .int (nI 1), .ref mas, .int (nI 0), .int (nI 0), .int (nI 0), .ref mso, .ref mon, .ref mot, .ref man, .int (nI 0), .int (nI 0), .ref mst, .ref msm, .ref mtb, .ref mti, .ref mfr, .ref mbn, .ref mbs, .ref mde, .int (nI 0), .int (nI 0), .int (nI 0), .int (nI 0), .long ab, .long be, .ref maa, .ref mab, .ref mba, .ref mbb]))] H := hP
  replace hD : va_D A [(maa, .inl (cs 1, 9, .inr (.inl (vp_updL (lt4 0 0 0 0) 2 0)))), (mab, .inl (cs 1, 9, .inr (.inl (vp_updL (lt4 1 1 0 0) 2 1)))), (mba, .inl (cs 1, 9, .inr (.inl (lt4 0 0 0 0)))), (mbb, .inl (cs 1, 9, .inr (.inl (lt4 1 1 0 0)))), (hm, .inr (12, [.ref ms, .ref mkp, .int (nI 0), .ref mtr, .int (nI 4), .int (nI 2), .int (nI 2), .int (nI 3), .int (nI 2), .int (nI 1), .ref mas, .int (nI 0), .int (nI 0), .int (nI 0), .ref mso, .ref mon, .ref mot, .ref man, .int (nI 0), .int (nI 0), .ref mst, .ref msm, .ref mtb, .ref mti, .ref mfr, .ref mbn, .ref mbs, .ref mde, .int (nI 0), .int (nI 0), .int (nI 0), .int (nI 0), .long ab, .long be, .ref maa, .ref mab, .ref mba, .ref mbb]))] := hD
  refine lv_aload_n hx hb dX12_laysStep_27 rfl (lv_at hl 2 rfl) ?_
  refine xget C hP 4 rfl rfl zuX12 36 (by decide) zw6_9 rfl dX12_laysStep_28 ?_
  refine lv_iload_n hx hb dX12_laysStep_31 rfl (lv_at hl 3 rfl) ?_
  refine lv_lconst (v := 0) hx hb dX12_laysStep_32 (by decide) ?_
  refine xlast C hP hD hS 2 rfl 2 rfl (by decide) (by decide) dX12_laysStep_33 ?_
  clear hP hD hS
  try clear locs
  try clear H
  intro H locs hP hD hS
  replace hP : va_P D vwCl [(maa, .inl (cs 1, 9, .inr (.inl (vp_updL (lt4 0 0 0 0) 2 0)))), (mab, .inl (cs 1, 9, .inr (.inl (vp_updL (lt4 1 1 0 0) 2 1)))), (mba, .inl (cs 1, 9, .inr (.inl (vp_updL (lt4 0 0 0 0) 2 0)))), (mbb, .inl (cs 1, 9, .inr (.inl (lt4 1 1 0 0)))), (hm, .inr (12, [.ref ms, .ref mkp, .int (nI 0), .ref mtr, .int (nI 4), .int (nI 2), .int (nI 2), .int (nI 3), .int (nI 2), .int (nI 1), .ref mas, .int (nI 0), .int (nI 0), .int (nI 0), .ref mso, .ref mon, .ref mot, .ref man, .int (nI 0), .int (nI 0), .ref mst, .ref msm, .ref mtb, .ref mti, .ref mfr, .ref mbn, .ref mbs, .ref mde, .int (nI 0), .int (nI 0), .int (nI 0), .int (nI 0), .long ab, .long be, .ref maa, .ref mab, .ref mba, .ref mbb]))] H := hP
  replace hD : va_D A [(maa, .inl (cs 1, 9, .inr (.inl (vp_updL (lt4 0 0 0 0) 2 0)))), (mab, .inl (cs 1, 9, .inr (.inl (vp_updL (lt4 1 1 0 0) 2 1)))), (mba, .inl (cs 1, 9, .inr (.inl (vp_updL (lt4 0 0 0 0) 2 0)))), (mbb, .inl (cs 1, 9, .inr (.inl (lt4 1 1 0 0)))), (hm, .inr (12, [.ref ms, .ref mkp, .int (nI 0), .ref mtr, .int (nI 4), .int (nI 2), .int (nI 2), .int (nI 3), .int (nI 2), .int (nI 1), .ref mas, .int (nI 0), .int (nI 0), .int (nI 0), .ref mso, .ref mon, .ref mot, .ref man, .int (nI 0), .int (nI 0), .ref mst, .ref msm, .ref mtb, .ref mti, .ref mfr, .ref mbn, .ref mbs, .ref mde, .int (nI 0), .int (nI 0), .int (nI 0), .int (nI 0), .long ab, .long be, .ref maa, .ref mab, .ref mba, .ref mbb]))] := hD
  refine lv_aload_n hx hb dX12_laysStep_34 rfl (lv_at hl 2 rfl) ?_
  refine xget C hP 4 rfl rfl zuX12 37 (by decide) zw6_10 rfl dX12_laysStep_35 ?_
  refine lv_iload_n hx hb dX12_laysStep_38 rfl (lv_at hl 3 rfl) ?_
  refine lv_lconst (v := 1) hx hb dX12_laysStep_39 (by decide) ?_
  refine xlast C hP hD hS 3 rfl 2 rfl (by decide) (by decide) dX12_laysStep_40 ?_
  clear hP hD hS
  try clear locs
  try clear H
  intro H locs hP hD hS
  replace hP : va_P D vwCl [(maa, .inl (cs 1, 9, .inr (.inl (vp_updL (lt4 0 0 0 0) 2 0)))), (mab, .inl (cs 1, 9, .inr (.inl (vp_updL (lt4 1 1 0 0) 2 1)))), (mba, .inl (cs 1, 9, .inr (.inl (vp_updL (lt4 0 0 0 0) 2 0)))), (mbb, .inl (cs 1, 9, .inr (.inl (vp_updL (lt4 1 1 0 0) 2 1)))), (hm, .inr (12, [.ref ms, .ref mkp, .int (nI 0), .ref mtr, .int (nI 4), .int (nI 2), .int (nI 2), .int (nI 3), .int (nI 2), .int (nI 1), .ref mas, .int (nI 0), .int (nI 0), .int (nI 0), .ref mso, .ref mon, .ref mot, .ref man, .int (nI 0), .int (nI 0), .ref mst, .ref msm, .ref mtb, .ref mti, .ref mfr, .ref mbn, .ref mbs, .ref mde, .int (nI 0), .int (nI 0), .int (nI 0), .int (nI 0), .long ab, .long be, .ref maa, .ref mab, .ref mba, .ref mbb]))] H := hP
  replace hD : va_D A [(maa, .inl (cs 1, 9, .inr (.inl (vp_updL (lt4 0 0 0 0) 2 0)))), (mab, .inl (cs 1, 9, .inr (.inl (vp_updL (lt4 1 1 0 0) 2 1)))), (mba, .inl (cs 1, 9, .inr (.inl (vp_updL (lt4 0 0 0 0) 2 0)))), (mbb, .inl (cs 1, 9, .inr (.inl (vp_updL (lt4 1 1 0 0) 2 1)))), (hm, .inr (12, [.ref ms, .ref mkp, .int (nI 0), .ref mtr, .int (nI 4), .int (nI 2), .int (nI 2), .int (nI 3), .int (nI 2), .int (nI 1), .ref mas, .int (nI 0), .int (nI 0), .int (nI 0), .ref mso, .ref mon, .ref mot, .ref man, .int (nI 0), .int (nI 0), .ref mst, .ref msm, .ref mtb, .ref mti, .ref mfr, .ref mbn, .ref mbs, .ref mde, .int (nI 0), .int (nI 0), .int (nI 0), .int (nI 0), .long ab, .long be, .ref maa, .ref mab, .ref mba, .ref mbb]))] := hD
  have hPD := xcongl (q0 := 0) (lt4 0 0 0 0) hP hD rfl (fun j hj => (show ∀ j, j < 9 → lt4 0 0 0 0 j = (vp_updL (lt4 0 0 0 0) 2 0) j from by decide) j hj)
  clear hP hD
  obtain ⟨hP, hD⟩ := hPD
  replace hP : va_P D vwCl [(maa, .inl (cs 1, 9, .inr (.inl (lt4 0 0 0 0)))), (mab, .inl (cs 1, 9, .inr (.inl (vp_updL (lt4 1 1 0 0) 2 1)))), (mba, .inl (cs 1, 9, .inr (.inl (vp_updL (lt4 0 0 0 0) 2 0)))), (mbb, .inl (cs 1, 9, .inr (.inl (vp_updL (lt4 1 1 0 0) 2 1)))), (hm, .inr (12, [.ref ms, .ref mkp, .int (nI 0), .ref mtr, .int (nI 4), .int (nI 2), .int (nI 2), .int (nI 3), .int (nI 2), .int (nI 1), .ref mas, .int (nI 0), .int (nI 0), .int (nI 0), .ref mso, .ref mon, .ref mot, .ref man, .int (nI 0), .int (nI 0), .ref mst, .ref msm, .ref mtb, .ref mti, .ref mfr, .ref mbn, .ref mbs, .ref mde, .int (nI 0), .int (nI 0), .int (nI 0), .int (nI 0), .long ab, .long be, .ref maa, .ref mab, .ref mba, .ref mbb]))] H := hP
  replace hD : va_D A [(maa, .inl (cs 1, 9, .inr (.inl (lt4 0 0 0 0)))), (mab, .inl (cs 1, 9, .inr (.inl (vp_updL (lt4 1 1 0 0) 2 1)))), (mba, .inl (cs 1, 9, .inr (.inl (vp_updL (lt4 0 0 0 0) 2 0)))), (mbb, .inl (cs 1, 9, .inr (.inl (vp_updL (lt4 1 1 0 0) 2 1)))), (hm, .inr (12, [.ref ms, .ref mkp, .int (nI 0), .ref mtr, .int (nI 4), .int (nI 2), .int (nI 2), .int (nI 3), .int (nI 2), .int (nI 1), .ref mas, .int (nI 0), .int (nI 0), .int (nI 0), .ref mso, .ref mon, .ref mot, .ref man, .int (nI 0), .int (nI 0), .ref mst, .ref msm, .ref mtb, .ref mti, .ref mfr, .ref mbn, .ref mbs, .ref mde, .int (nI 0), .int (nI 0), .int (nI 0), .int (nI 0), .long ab, .long be, .ref maa, .ref mab, .ref mba, .ref mbb]))] := hD
  have hPD := xcongl (q0 := 1) (lt4 1 1 1 0) hP hD rfl (fun j hj => (show ∀ j, j < 9 → lt4 1 1 1 0 j = (vp_updL (lt4 1 1 0 0) 2 1) j from by decide) j hj)
  clear hP hD
  obtain ⟨hP, hD⟩ := hPD
  replace hP : va_P D vwCl [(maa, .inl (cs 1, 9, .inr (.inl (lt4 0 0 0 0)))), (mab, .inl (cs 1, 9, .inr (.inl (lt4 1 1 1 0)))), (mba, .inl (cs 1, 9, .inr (.inl (vp_updL (lt4 0 0 0 0) 2 0)))), (mbb, .inl (cs 1, 9, .inr (.inl (vp_updL (lt4 1 1 0 0) 2 1)))), (hm, .inr (12, [.ref ms, .ref mkp, .int (nI 0), .ref mtr, .int (nI 4), .int (nI 2), .int (nI 2), .int (nI 3), .int (nI 2), .int (nI 1), .ref mas, .int (nI 0), .int (nI 0), .int (nI 0), .ref mso, .ref mon, .ref mot, .ref man, .int (nI 0), .int (nI 0), .ref mst, .ref msm, .ref mtb, .ref mti, .ref mfr, .ref mbn, .ref mbs, .ref mde, .int (nI 0), .int (nI 0), .int (nI 0), .int (nI 0), .long ab, .long be, .ref maa, .ref mab, .ref mba, .ref mbb]))] H := hP
  replace hD : va_D A [(maa, .inl (cs 1, 9, .inr (.inl (lt4 0 0 0 0)))), (mab, .inl (cs 1, 9, .inr (.inl (lt4 1 1 1 0)))), (mba, .inl (cs 1, 9, .inr (.inl (vp_updL (lt4 0 0 0 0) 2 0)))), (mbb, .inl (cs 1, 9, .inr (.inl (vp_updL (lt4 1 1 0 0) 2 1)))), (hm, .inr (12, [.ref ms, .ref mkp, .int (nI 0), .ref mtr, .int (nI 4), .int (nI 2), .int (nI 2), .int (nI 3), .int (nI 2), .int (nI 1), .ref mas, .int (nI 0), .int (nI 0), .int (nI 0), .ref mso, .ref mon, .ref mot, .ref man, .int (nI 0), .int (nI 0), .ref mst, .ref msm, .ref mtb, .ref mti, .ref mfr, .ref mbn, .ref mbs, .ref mde, .int (nI 0), .int (nI 0), .int (nI 0), .int (nI 0), .long ab, .long be, .ref maa, .ref mab, .ref mba, .ref mbb]))] := hD
  have hPD := xcongl (q0 := 2) (lt4 0 0 0 0) hP hD rfl (fun j hj => (show ∀ j, j < 9 → lt4 0 0 0 0 j = (vp_updL (lt4 0 0 0 0) 2 0) j from by decide) j hj)
  clear hP hD
  obtain ⟨hP, hD⟩ := hPD
  replace hP : va_P D vwCl [(maa, .inl (cs 1, 9, .inr (.inl (lt4 0 0 0 0)))), (mab, .inl (cs 1, 9, .inr (.inl (lt4 1 1 1 0)))), (mba, .inl (cs 1, 9, .inr (.inl (lt4 0 0 0 0)))), (mbb, .inl (cs 1, 9, .inr (.inl (vp_updL (lt4 1 1 0 0) 2 1)))), (hm, .inr (12, [.ref ms, .ref mkp, .int (nI 0), .ref mtr, .int (nI 4), .int (nI 2), .int (nI 2), .int (nI 3), .int (nI 2), .int (nI 1), .ref mas, .int (nI 0), .int (nI 0), .int (nI 0), .ref mso, .ref mon, .ref mot, .ref man, .int (nI 0), .int (nI 0), .ref mst, .ref msm, .ref mtb, .ref mti, .ref mfr, .ref mbn, .ref mbs, .ref mde, .int (nI 0), .int (nI 0), .int (nI 0), .int (nI 0), .long ab, .long be, .ref maa, .ref mab, .ref mba, .ref mbb]))] H := hP
  replace hD : va_D A [(maa, .inl (cs 1, 9, .inr (.inl (lt4 0 0 0 0)))), (mab, .inl (cs 1, 9, .inr (.inl (lt4 1 1 1 0)))), (mba, .inl (cs 1, 9, .inr (.inl (lt4 0 0 0 0)))), (mbb, .inl (cs 1, 9, .inr (.inl (vp_updL (lt4 1 1 0 0) 2 1)))), (hm, .inr (12, [.ref ms, .ref mkp, .int (nI 0), .ref mtr, .int (nI 4), .int (nI 2), .int (nI 2), .int (nI 3), .int (nI 2), .int (nI 1), .ref mas, .int (nI 0), .int (nI 0), .int (nI 0), .ref mso, .ref mon, .ref mot, .ref man, .int (nI 0), .int (nI 0), .ref mst, .ref msm, .ref mtb, .ref mti, .ref mfr, .ref mbn, .ref mbs, .ref mde, .int (nI 0), .int (nI 0), .int (nI 0), .int (nI 0), .long ab, .long be, .ref maa, .ref mab, .ref mba, .ref mbb]))] := hD
  have hPD := xcongl (q0 := 3) (lt4 1 1 1 0) hP hD rfl (fun j hj => (show ∀ j, j < 9 → lt4 1 1 1 0 j = (vp_updL (lt4 1 1 0 0) 2 1) j from by decide) j hj)
  clear hP hD
  obtain ⟨hP, hD⟩ := hPD
  replace hP : va_P D vwCl [(maa, .inl (cs 1, 9, .inr (.inl (lt4 0 0 0 0)))), (mab, .inl (cs 1, 9, .inr (.inl (lt4 1 1 1 0)))), (mba, .inl (cs 1, 9, .inr (.inl (lt4 0 0 0 0)))), (mbb, .inl (cs 1, 9, .inr (.inl (lt4 1 1 1 0)))), (hm, .inr (12, [.ref ms, .ref mkp, .int (nI 0), .ref mtr, .int (nI 4), .int (nI 2), .int (nI 2), .int (nI 3), .int (nI 2), .int (nI 1), .ref mas, .int (nI 0), .int (nI 0), .int (nI 0), .ref mso, .ref mon, .ref mot, .ref man, .int (nI 0), .int (nI 0), .ref mst, .ref msm, .ref mtb, .ref mti, .ref mfr, .ref mbn, .ref mbs, .ref mde, .int (nI 0), .int (nI 0), .int (nI 0), .int (nI 0), .long ab, .long be, .ref maa, .ref mab, .ref mba, .ref mbb]))] H := hP
  replace hD : va_D A [(maa, .inl (cs 1, 9, .inr (.inl (lt4 0 0 0 0)))), (mab, .inl (cs 1, 9, .inr (.inl (lt4 1 1 1 0)))), (mba, .inl (cs 1, 9, .inr (.inl (lt4 0 0 0 0)))), (mbb, .inl (cs 1, 9, .inr (.inl (lt4 1 1 1 0)))), (hm, .inr (12, [.ref ms, .ref mkp, .int (nI 0), .ref mtr, .int (nI 4), .int (nI 2), .int (nI 2), .int (nI 3), .int (nI 2), .int (nI 1), .ref mas, .int (nI 0), .int (nI 0), .int (nI 0), .ref mso, .ref mon, .ref mot, .ref man, .int (nI 0), .int (nI 0), .ref mst, .ref msm, .ref mtb, .ref mti, .ref mfr, .ref mbn, .ref mbs, .ref mde, .int (nI 0), .int (nI 0), .int (nI 0), .int (nI 0), .long ab, .long be, .ref maa, .ref mab, .ref mba, .ref mbb]))] := hD
  refine lv_lload_n hx hb dX12_laysStep_41 rfl (lv_at hl 1 rfl) ?_
  refine lv_lconst (v := 0) hx hb dX12_laysStep_42 (by decide) ?_
  refine W.lcmp hx hb dX12_laysStep_43 ?_
  refine lv_if_ne (tgt := 55) hx hb dX12_laysStep_44 (by decide) (fun _ => ?_) (fun c => absurd c (by decide))
  refine lv_aload_n hx hb dX12_laysStep_55 rfl (lv_at hl 2 rfl) ?_
  refine lv_lload hx hb dX12_laysStep_56 (lv_at hl 0 rfl) ?_
  refine lv_lconst (v := 1) hx hb dX12_laysStep_58 (by decide) ?_
  refine lv_aload_n hx hb dX12_laysStep_59 rfl (lv_at hl 2 rfl) ?_
  refine xget C hP 4 rfl rfl zuX12 34 (by decide) zw6_7 rfl dX12_laysStep_60 ?_
  refine lv_iload_n hx hb dX12_laysStep_63 rfl (lv_at hl 3 rfl) ?_
  refine lv_iconst (v := nI 1) hx hb dX12_laysStep_64 (by decide) ?_
  refine lv_isub hx hb dX12_laysStep_65 ?_
  refine lv_topi (nm_r (e' := nI 1) (by decide) ?_)
  refine xlald C hP 0 rfl 1 rfl (by decide) (by decide) dX12_laysStep_66 ?_
  refine lv_topl (nm_r (e' := 0) (by decide) ?_)
  refine lv_aload_n hx hb dX12_laysStep_67 rfl (lv_at hl 2 rfl) ?_
  refine xget C hP 4 rfl rfl zuX12 35 (by decide) zw6_8 rfl dX12_laysStep_68 ?_
  refine lv_iload_n hx hb dX12_laysStep_71 rfl (lv_at hl 3 rfl) ?_
  refine lv_iconst (v := nI 1) hx hb dX12_laysStep_72 (by decide) ?_
  refine lv_isub hx hb dX12_laysStep_73 ?_
  refine lv_topi (nm_r (e' := nI 1) (by decide) ?_)
  refine xlald C hP 1 rfl 1 rfl (by decide) (by decide) dX12_laysStep_74 ?_
  refine lv_topl (nm_r (e' := 1) (by decide) ?_)
  refine xv (wr := [(maa, .inl (cs 1, 9, .inr (.inl (lt4 0 0 0 0)))), (mab, .inl (cs 1, 9, .inr (.inl (lt4 1 1 1 0)))), (mba, .inl (cs 1, 9, .inr (.inl (lt4 0 0 0 0)))), (mbb, .inl (cs 1, 9, .inr (.inl (lt4 1 1 1 0))))]) (xV (As := [.long 2, .long 1, .long 0, .long 1]) (rest := []) C (c_X12_multiplies l D cs hm ms mkp mtr mas mso mon mot man mst msm mtb mti mfr mbn mbs mde maa mab mba mbb ab be 2 1 0 1 0 1 0 1 (by decide +kernel) (by decide +kernel) (by decide +kernel)) kX12_286 hP hD [4] rfl (by decide +kernel) 0 rfl rfl rfl ⟨Nat.le_of_ble_eq_true rfl, Nat.le_of_ble_eq_true rfl⟩ rfl hl.1 rfl (Nat.le_of_ble_eq_true rfl) dX12_laysStep_75 ⟨Nat.le_of_ble_eq_true rfl, Nat.le_of_ble_eq_true rfl⟩) hP hD hS hA [4] [0, 1, 2, 3] rfl rfl (by decide +kernel) (by decide +kernel) ?_
  clear hP hD hS
  try clear locs
  try clear H
  intro u_6 H locs hw_r_5 hP hD hS
  refine W.widen (k := 0) (n := 0) (Nat.le_of_ble_eq_true rfl) (Nat.le_of_ble_eq_true rfl) ?_
  replace hP : va_P D vwCl [(maa, .inl (cs 1, 9, .inr (.inl (lt4 0 0 0 0)))), (mab, .inl (cs 1, 9, .inr (.inl (lt4 1 1 1 0)))), (mba, .inl (cs 1, 9, .inr (.inl (lt4 0 0 0 0)))), (mbb, .inl (cs 1, 9, .inr (.inl (lt4 1 1 1 0)))), (hm, .inr (12, [.ref ms, .ref mkp, .int (nI 0), .ref mtr, .int (nI 4), .int (nI 2), .int (nI 2), .int (nI 3), .int (nI 2), .int (nI 1), .ref mas, .int (nI 0), .int (nI 0), .int (nI 0), .ref mso, .ref mon, .ref mot, .ref man, .int (nI 0), .int (nI 0), .ref mst, .ref msm, .ref mtb, .ref mti, .ref mfr, .ref mbn, .ref mbs, .ref mde, .int (nI 0), .int (nI 0), .int (nI 0), .int (nI 0), .long 0, .long 1, .ref maa, .ref mab, .ref mba, .ref mbb]))] H := hP
  replace hD : va_D A [(maa, .inl (cs 1, 9, .inr (.inl (lt4 0 0 0 0)))), (mab, .inl (cs 1, 9, .inr (.inl (lt4 1 1 1 0)))), (mba, .inl (cs 1, 9, .inr (.inl (lt4 0 0 0 0)))), (mbb, .inl (cs 1, 9, .inr (.inl (lt4 1 1 1 0)))), (hm, .inr (12, [.ref ms, .ref mkp, .int (nI 0), .ref mtr, .int (nI 4), .int (nI 2), .int (nI 2), .int (nI 3), .int (nI 2), .int (nI 1), .ref mas, .int (nI 0), .int (nI 0), .int (nI 0), .ref mso, .ref mon, .ref mot, .ref man, .int (nI 0), .int (nI 0), .ref mst, .ref msm, .ref mtb, .ref mti, .ref mfr, .ref mbn, .ref mbs, .ref mde, .int (nI 0), .int (nI 0), .int (nI 0), .int (nI 0), .long 0, .long 1, .ref maa, .ref mab, .ref mba, .ref mbb]))] := hD
  refine lv_aload_n hx hb dX12_laysStep_78 rfl (lv_at hl 2 rfl) ?_
  refine lv_lload_n hx hb dX12_laysStep_79 rfl (lv_at hl 1 rfl) ?_
  refine lv_lload hx hb dX12_laysStep_80 (lv_at hl 0 rfl) ?_
  refine lv_ladd hx hb dX12_laysStep_82 ?_
  refine lv_topl (nm_r (e' := 4) (by decide) ?_)
  refine lv_lconst (v := 1) hx hb dX12_laysStep_83 (by decide) ?_
  refine lv_aload_n hx hb dX12_laysStep_84 rfl (lv_at hl 2 rfl) ?_
  refine xget C hP 4 rfl rfl zuX12 32 (by decide) zw6_5 rfl dX12_laysStep_85 ?_
  refine lv_aload_n hx hb dX12_laysStep_88 rfl (lv_at hl 2 rfl) ?_
  refine xget C hP 4 rfl rfl zuX12 33 (by decide) zw6_6 rfl dX12_laysStep_89 ?_
  refine xv (wr := [(maa, .inl (cs 1, 9, .inr (.inl (lt4 0 0 0 0)))), (mab, .inl (cs 1, 9, .inr (.inl (lt4 1 1 1 0)))), (mba, .inl (cs 1, 9, .inr (.inl (lt4 0 0 0 0)))), (mbb, .inl (cs 1, 9, .inr (.inl (lt4 1 1 1 0))))]) (xV (As := [.long 4, .long 1, .long 0, .long 1]) (rest := []) C (c_X12_lessens l D cs hm ms mkp mtr mas mso mon mot man mst msm mtb mti mfr mbn mbs mde maa mab mba mbb 0 1 4 1 0 1 4 0 4 1 4 1 (by decide +kernel) (by decide +kernel) (by decide +kernel) (by decide +kernel) (by decide +kernel) (by decide +kernel)) kX12_290 hP hD [4] rfl (by decide +kernel) 0 rfl rfl rfl ⟨Nat.le_of_ble_eq_true rfl, Nat.le_of_ble_eq_true rfl⟩ rfl hl.1 rfl (Nat.le_of_ble_eq_true rfl) dX12_laysStep_92 ⟨Nat.le_of_ble_eq_true rfl, Nat.le_of_ble_eq_true rfl⟩) hP hD hS hA [4] [0, 1, 2, 3] rfl rfl (by decide +kernel) (by decide +kernel) ?_
  clear hP hD hS
  try clear locs
  try clear H
  intro u_8 H locs hw_r_7 hP hD hS
  refine W.widen (k := 0) (n := 0) (Nat.le_of_ble_eq_true rfl) (Nat.le_of_ble_eq_true rfl) ?_
  replace hP : va_P D vwCl [(maa, .inl (cs 1, 9, .inr (.inl (lt4 0 0 0 0)))), (mab, .inl (cs 1, 9, .inr (.inl (lt4 1 1 1 0)))), (mba, .inl (cs 1, 9, .inr (.inl (lt4 0 0 0 0)))), (mbb, .inl (cs 1, 9, .inr (.inl (lt4 1 1 1 0)))), (hm, .inr (12, [.ref ms, .ref mkp, .int (nI 0), .ref mtr, .int (nI 4), .int (nI 2), .int (nI 2), .int (nI 3), .int (nI 2), .int (nI 1), .ref mas, .int (nI 0), .int (nI 0), .int (nI 0), .ref mso, .ref mon, .ref mot, .ref man, .int (nI 0), .int (nI 0), .ref mst, .ref msm, .ref mtb, .ref mti, .ref mfr, .ref mbn, .ref mbs, .ref mde, .int (nI 0), .int (nI 0), .int (nI 0), .int (nI 0), .long 4, .long 1, .ref maa, .ref mab, .ref mba, .ref mbb]))] H := hP
  replace hD : va_D A [(maa, .inl (cs 1, 9, .inr (.inl (lt4 0 0 0 0)))), (mab, .inl (cs 1, 9, .inr (.inl (lt4 1 1 1 0)))), (mba, .inl (cs 1, 9, .inr (.inl (lt4 0 0 0 0)))), (mbb, .inl (cs 1, 9, .inr (.inl (lt4 1 1 1 0)))), (hm, .inr (12, [.ref ms, .ref mkp, .int (nI 0), .ref mtr, .int (nI 4), .int (nI 2), .int (nI 2), .int (nI 3), .int (nI 2), .int (nI 1), .ref mas, .int (nI 0), .int (nI 0), .int (nI 0), .ref mso, .ref mon, .ref mot, .ref man, .int (nI 0), .int (nI 0), .ref mst, .ref msm, .ref mtb, .ref mti, .ref mfr, .ref mbn, .ref mbs, .ref mde, .int (nI 0), .int (nI 0), .int (nI 0), .int (nI 0), .long 4, .long 1, .ref maa, .ref mab, .ref mba, .ref mbb]))] := hD
  refine lv_aload_n hx hb dX12_laysStep_95 rfl (lv_at hl 2 rfl) ?_
  refine xget C hP 4 rfl rfl zuX12 32 (by decide) zw6_5 rfl dX12_laysStep_96 ?_
  refine lv_lstore (lv' := [(7, .long 4), (5, .long 2), (3, .long 2), (0, .ref hm), (1, .int (nI 2)), (2, .int (nI 0))]) hx hb dX12_laysStep_99 hl (by decide) rfl ?_
  clear hl
  try clear ls
  intro ls hl
  refine lv_aload_n hx hb dX12_laysStep_101 rfl (lv_at hl 3 rfl) ?_
  refine xget C hP 4 rfl rfl zuX12 33 (by decide) zw6_6 rfl dX12_laysStep_102 ?_
  refine lv_lstore (lv' := [(9, .long 1), (7, .long 4), (5, .long 2), (3, .long 2), (0, .ref hm), (1, .int (nI 2)), (2, .int (nI 0))]) hx hb dX12_laysStep_105 hl (by decide) rfl ?_
  clear hl
  try clear ls
  intro ls hl
  refine lv_lload hx hb dX12_laysStep_107 (lv_at hl 1 rfl) ?_
  refine lv_lconst (v := 0) hx hb dX12_laysStep_109 (by decide) ?_
  refine W.lcmp hx hb dX12_laysStep_110 ?_
  refine lv_if_eq (tgt := 121) hx hb dX12_laysStep_111 (by decide) (fun c => absurd c (by decide)) (fun _ => ?_)
  refine lv_aload_n hx hb dX12_laysStep_114 rfl (lv_at hl 4 rfl) ?_
  refine xget C hP 4 rfl rfl zuX12 31 (by decide) zw6_4 rfl dX12_laysStep_115 ?_
  refine lv_if_eq (tgt := 122) hx hb dX12_laysStep_118 (by decide) (fun _ => ?_) (fun c => absurd (by decide) c)
  refine lv_aload_n hx hb dX12_laysStep_122 rfl (lv_at hl 4 rfl) ?_
  refine lv_lload_n hx hb dX12_laysStep_123 rfl (lv_at hl 3 rfl) ?_
  refine lv_lconst (v := 1) hx hb dX12_laysStep_124 (by decide) ?_
  refine lv_lload hx hb dX12_laysStep_125 (lv_at hl 1 rfl) ?_
  refine lv_lload hx hb dX12_laysStep_127 (lv_at hl 0 rfl) ?_
  refine xv (wr := [(maa, .inl (cs 1, 9, .inr (.inl (lt4 0 0 0 0)))), (mab, .inl (cs 1, 9, .inr (.inl (lt4 1 1 1 0)))), (mba, .inl (cs 1, 9, .inr (.inl (lt4 0 0 0 0)))), (mbb, .inl (cs 1, 9, .inr (.inl (lt4 1 1 1 0))))]) (xV (As := [.long 2, .long 1, .long 4, .long 1]) (rest := []) C (c_X12_divides l D cs hm ms mkp mtr mas mso mon mot man mst msm mtb mti mfr mbn mbs mde maa mab mba mbb 4 1 2 1 4 1 2 4 1 2 (by decide +kernel) (by decide +kernel) (by decide +kernel)) kX12_293 hP hD [4] rfl (by decide +kernel) 0 rfl rfl rfl ⟨Nat.le_of_ble_eq_true rfl, Nat.le_of_ble_eq_true rfl⟩ rfl hl.1 rfl (Nat.le_of_ble_eq_true rfl) dX12_laysStep_129 ⟨Nat.le_of_ble_eq_true rfl, Nat.le_of_ble_eq_true rfl⟩) hP hD hS hA [4] [0, 1, 2, 3] rfl rfl (by decide +kernel) (by decide +kernel) ?_
  clear hP hD hS
  try clear locs
  try clear H
  intro u_10 H locs hw_r_9 hP hD hS
  refine W.widen (k := 0) (n := 0) (Nat.le_of_ble_eq_true rfl) (Nat.le_of_ble_eq_true rfl) ?_
  replace hP : va_P D vwCl [(maa, .inl (cs 1, 9, .inr (.inl (lt4 0 0 0 0)))), (mab, .inl (cs 1, 9, .inr (.inl (lt4 1 1 1 0)))), (mba, .inl (cs 1, 9, .inr (.inl (lt4 0 0 0 0)))), (mbb, .inl (cs 1, 9, .inr (.inl (lt4 1 1 1 0)))), (hm, .inr (12, [.ref ms, .ref mkp, .int (nI 0), .ref mtr, .int (nI 4), .int (nI 2), .int (nI 2), .int (nI 3), .int (nI 2), .int (nI 1), .ref mas, .int (nI 0), .int (nI 0), .int (nI 0), .ref mso, .ref mon, .ref mot, .ref man, .int (nI 0), .int (nI 0), .ref mst, .ref msm, .ref mtb, .ref mti, .ref mfr, .ref mbn, .ref mbs, .ref mde, .int (nI 0), .int (nI 0), .int (nI 0), .int (nI 0), .long 1, .long 2, .ref maa, .ref mab, .ref mba, .ref mbb]))] H := hP
  replace hD : va_D A [(maa, .inl (cs 1, 9, .inr (.inl (lt4 0 0 0 0)))), (mab, .inl (cs 1, 9, .inr (.inl (lt4 1 1 1 0)))), (mba, .inl (cs 1, 9, .inr (.inl (lt4 0 0 0 0)))), (mbb, .inl (cs 1, 9, .inr (.inl (lt4 1 1 1 0)))), (hm, .inr (12, [.ref ms, .ref mkp, .int (nI 0), .ref mtr, .int (nI 4), .int (nI 2), .int (nI 2), .int (nI 3), .int (nI 2), .int (nI 1), .ref mas, .int (nI 0), .int (nI 0), .int (nI 0), .ref mso, .ref mon, .ref mot, .ref man, .int (nI 0), .int (nI 0), .ref mst, .ref msm, .ref mtb, .ref mti, .ref mfr, .ref mbn, .ref mbs, .ref mde, .int (nI 0), .int (nI 0), .int (nI 0), .int (nI 0), .long 1, .long 2, .ref maa, .ref mab, .ref mba, .ref mbb]))] := hD
  refine lv_aload_n hx hb dX12_laysStep_132 rfl (lv_at hl 4 rfl) ?_
  refine xget C hP 4 rfl rfl zuX12 34 (by decide) zw6_7 rfl dX12_laysStep_133 ?_
  refine lv_iload_n hx hb dX12_laysStep_136 rfl (lv_at hl 5 rfl) ?_
  refine lv_aload_n hx hb dX12_laysStep_137 rfl (lv_at hl 4 rfl) ?_
  refine xget C hP 4 rfl rfl zuX12 32 (by decide) zw6_5 rfl dX12_laysStep_138 ?_
  refine xlast C hP hD hS 0 rfl 2 rfl (by decide) (by decide) dX12_laysStep_141 ?_
  clear hP hD hS
  try clear locs
  try clear H
  intro H locs hP hD hS
  replace hP : va_P D vwCl [(maa, .inl (cs 1, 9, .inr (.inl (vp_updL (lt4 0 0 0 0) 2 1)))), (mab, .inl (cs 1, 9, .inr (.inl (lt4 1 1 1 0)))), (mba, .inl (cs 1, 9, .inr (.inl (lt4 0 0 0 0)))), (mbb, .inl (cs 1, 9, .inr (.inl (lt4 1 1 1 0)))), (hm, .inr (12, [.ref ms, .ref mkp, .int (nI 0), .ref mtr, .int (nI 4), .int (nI 2), .int (nI 2), .int (nI 3), .int (nI 2), .int (nI 1), .ref mas, .int (nI 0), .int (nI 0), .int (nI 0), .ref mso, .ref mon, .ref mot, .ref man, .int (nI 0), .int (nI 0), .ref mst, .ref msm, .ref mtb, .ref mti, .ref mfr, .ref mbn, .ref mbs, .ref mde, .int (nI 0), .int (nI 0), .int (nI 0), .int (nI 0), .long 1, .long 2, .ref maa, .ref mab, .ref mba, .ref mbb]))] H := hP
  replace hD : va_D A [(maa, .inl (cs 1, 9, .inr (.inl (vp_updL (lt4 0 0 0 0) 2 1)))), (mab, .inl (cs 1, 9, .inr (.inl (lt4 1 1 1 0)))), (mba, .inl (cs 1, 9, .inr (.inl (lt4 0 0 0 0)))), (mbb, .inl (cs 1, 9, .inr (.inl (lt4 1 1 1 0)))), (hm, .inr (12, [.ref ms, .ref mkp, .int (nI 0), .ref mtr, .int (nI 4), .int (nI 2), .int (nI 2), .int (nI 3), .int (nI 2), .int (nI 1), .ref mas, .int (nI 0), .int (nI 0), .int (nI 0), .ref mso, .ref mon, .ref mot, .ref man, .int (nI 0), .int (nI 0), .ref mst, .ref msm, .ref mtb, .ref mti, .ref mfr, .ref mbn, .ref mbs, .ref mde, .int (nI 0), .int (nI 0), .int (nI 0), .int (nI 0), .long 1, .long 2, .ref maa, .ref mab, .ref mba, .ref mbb]))] := hD
  refine lv_aload_n hx hb dX12_laysStep_142 rfl (lv_at hl 4 rfl) ?_
  refine xget C hP 4 rfl rfl zuX12 35 (by decide) zw6_8 rfl dX12_laysStep_143 ?_
  refine lv_iload_n hx hb dX12_laysStep_146 rfl (lv_at hl 5 rfl) ?_
  refine lv_aload_n hx hb dX12_laysStep_147 rfl (lv_at hl 4 rfl) ?_
  refine xget C hP 4 rfl rfl zuX12 33 (by decide) zw6_6 rfl dX12_laysStep_148 ?_
  refine xlast C hP hD hS 1 rfl 2 rfl (by decide) (by decide) dX12_laysStep_151 ?_
  clear hP hD hS
  try clear locs
  try clear H
  intro H locs hP hD hS
  replace hP : va_P D vwCl [(maa, .inl (cs 1, 9, .inr (.inl (vp_updL (lt4 0 0 0 0) 2 1)))), (mab, .inl (cs 1, 9, .inr (.inl (vp_updL (lt4 1 1 1 0) 2 2)))), (mba, .inl (cs 1, 9, .inr (.inl (lt4 0 0 0 0)))), (mbb, .inl (cs 1, 9, .inr (.inl (lt4 1 1 1 0)))), (hm, .inr (12, [.ref ms, .ref mkp, .int (nI 0), .ref mtr, .int (nI 4), .int (nI 2), .int (nI 2), .int (nI 3), .int (nI 2), .int (nI 1), .ref mas, .int (nI 0), .int (nI 0), .int (nI 0), .ref mso, .ref mon, .ref mot, .ref man, .int (nI 0), .int (nI 0), .ref mst, .ref msm, .ref mtb, .ref mti, .ref mfr, .ref mbn, .ref mbs, .ref mde, .int (nI 0), .int (nI 0), .int (nI 0), .int (nI 0), .long 1, .long 2, .ref maa, .ref mab, .ref mba, .ref mbb]))] H := hP
  replace hD : va_D A [(maa, .inl (cs 1, 9, .inr (.inl (vp_updL (lt4 0 0 0 0) 2 1)))), (mab, .inl (cs 1, 9, .inr (.inl (vp_updL (lt4 1 1 1 0) 2 2)))), (mba, .inl (cs 1, 9, .inr (.inl (lt4 0 0 0 0)))), (mbb, .inl (cs 1, 9, .inr (.inl (lt4 1 1 1 0)))), (hm, .inr (12, [.ref ms, .ref mkp, .int (nI 0), .ref mtr, .int (nI 4), .int (nI 2), .int (nI 2), .int (nI 3), .int (nI 2), .int (nI 1), .ref mas, .int (nI 0), .int (nI 0), .int (nI 0), .ref mso, .ref mon, .ref mot, .ref man, .int (nI 0), .int (nI 0), .ref mst, .ref msm, .ref mtb, .ref mti, .ref mfr, .ref mbn, .ref mbs, .ref mde, .int (nI 0), .int (nI 0), .int (nI 0), .int (nI 0), .long 1, .long 2, .ref maa, .ref mab, .ref mba, .ref mbb]))] := hD
  have hPD := xcongl (q0 := 0) (lt4 0 0 1 0) hP hD rfl (fun j hj => (show ∀ j, j < 9 → lt4 0 0 1 0 j = (vp_updL (lt4 0 0 0 0) 2 1) j from by decide) j hj)
  clear hP hD
  obtain ⟨hP, hD⟩ := hPD
  replace hP : va_P D vwCl [(maa, .inl (cs 1, 9, .inr (.inl (lt4 0 0 1 0)))), (mab, .inl (cs 1, 9, .inr (.inl (vp_updL (lt4 1 1 1 0) 2 2)))), (mba, .inl (cs 1, 9, .inr (.inl (lt4 0 0 0 0)))), (mbb, .inl (cs 1, 9, .inr (.inl (lt4 1 1 1 0)))), (hm, .inr (12, [.ref ms, .ref mkp, .int (nI 0), .ref mtr, .int (nI 4), .int (nI 2), .int (nI 2), .int (nI 3), .int (nI 2), .int (nI 1), .ref mas, .int (nI 0), .int (nI 0), .int (nI 0), .ref mso, .ref mon, .ref mot, .ref man, .int (nI 0), .int (nI 0), .ref mst, .ref msm, .ref mtb, .ref mti, .ref mfr, .ref mbn, .ref mbs, .ref mde, .int (nI 0), .int (nI 0), .int (nI 0), .int (nI 0), .long 1, .long 2, .ref maa, .ref mab, .ref mba, .ref mbb]))] H := hP
  replace hD : va_D A [(maa, .inl (cs 1, 9, .inr (.inl (lt4 0 0 1 0)))), (mab, .inl (cs 1, 9, .inr (.inl (vp_updL (lt4 1 1 1 0) 2 2)))), (mba, .inl (cs 1, 9, .inr (.inl (lt4 0 0 0 0)))), (mbb, .inl (cs 1, 9, .inr (.inl (lt4 1 1 1 0)))), (hm, .inr (12, [.ref ms, .ref mkp, .int (nI 0), .ref mtr, .int (nI 4), .int (nI 2), .int (nI 2), .int (nI 3), .int (nI 2), .int (nI 1), .ref mas, .int (nI 0), .int (nI 0), .int (nI 0), .ref mso, .ref mon, .ref mot, .ref man, .int (nI 0), .int (nI 0), .ref mst, .ref msm, .ref mtb, .ref mti, .ref mfr, .ref mbn, .ref mbs, .ref mde, .int (nI 0), .int (nI 0), .int (nI 0), .int (nI 0), .long 1, .long 2, .ref maa, .ref mab, .ref mba, .ref mbb]))] := hD
  have hPD := xcongl (q0 := 1) (lt4 1 1 2 0) hP hD rfl (fun j hj => (show ∀ j, j < 9 → lt4 1 1 2 0 j = (vp_updL (lt4 1 1 1 0) 2 2) j from by decide) j hj)
  clear hP hD
  obtain ⟨hP, hD⟩ := hPD
  replace hP : va_P D vwCl [(maa, .inl (cs 1, 9, .inr (.inl (lt4 0 0 1 0)))), (mab, .inl (cs 1, 9, .inr (.inl (lt4 1 1 2 0)))), (mba, .inl (cs 1, 9, .inr (.inl (lt4 0 0 0 0)))), (mbb, .inl (cs 1, 9, .inr (.inl (lt4 1 1 1 0)))), (hm, .inr (12, [.ref ms, .ref mkp, .int (nI 0), .ref mtr, .int (nI 4), .int (nI 2), .int (nI 2), .int (nI 3), .int (nI 2), .int (nI 1), .ref mas, .int (nI 0), .int (nI 0), .int (nI 0), .ref mso, .ref mon, .ref mot, .ref man, .int (nI 0), .int (nI 0), .ref mst, .ref msm, .ref mtb, .ref mti, .ref mfr, .ref mbn, .ref mbs, .ref mde, .int (nI 0), .int (nI 0), .int (nI 0), .int (nI 0), .long 1, .long 2, .ref maa, .ref mab, .ref mba, .ref mbb]))] H := hP
  replace hD : va_D A [(maa, .inl (cs 1, 9, .inr (.inl (lt4 0 0 1 0)))), (mab, .inl (cs 1, 9, .inr (.inl (lt4 1 1 2 0)))), (mba, .inl (cs 1, 9, .inr (.inl (lt4 0 0 0 0)))), (mbb, .inl (cs 1, 9, .inr (.inl (lt4 1 1 1 0)))), (hm, .inr (12, [.ref ms, .ref mkp, .int (nI 0), .ref mtr, .int (nI 4), .int (nI 2), .int (nI 2), .int (nI 3), .int (nI 2), .int (nI 1), .ref mas, .int (nI 0), .int (nI 0), .int (nI 0), .ref mso, .ref mon, .ref mot, .ref man, .int (nI 0), .int (nI 0), .ref mst, .ref msm, .ref mtb, .ref mti, .ref mfr, .ref mbn, .ref mbs, .ref mde, .int (nI 0), .int (nI 0), .int (nI 0), .int (nI 0), .long 1, .long 2, .ref maa, .ref mab, .ref mba, .ref mbb]))] := hD
  refine lv_aload_n hx hb dX12_laysStep_152 rfl (lv_at hl 4 rfl) ?_
  refine lv_lload hx hb dX12_laysStep_153 (lv_at hl 2 rfl) ?_
  refine lv_lconst (v := 1) hx hb dX12_laysStep_155 (by decide) ?_
  refine lv_aload_n hx hb dX12_laysStep_156 rfl (lv_at hl 4 rfl) ?_
  refine xget C hP 4 rfl rfl zuX12 36 (by decide) zw6_9 rfl dX12_laysStep_157 ?_
  refine lv_iload_n hx hb dX12_laysStep_160 rfl (lv_at hl 5 rfl) ?_
  refine lv_iconst (v := nI 1) hx hb dX12_laysStep_161 (by decide) ?_
  refine lv_isub hx hb dX12_laysStep_162 ?_
  refine lv_topi (nm_r (e' := nI 1) (by decide) ?_)
  refine xlald C hP 2 rfl 1 rfl (by decide) (by decide) dX12_laysStep_163 ?_
  refine lv_topl (nm_r (e' := 0) (by decide) ?_)
  refine lv_aload_n hx hb dX12_laysStep_164 rfl (lv_at hl 4 rfl) ?_
  refine xget C hP 4 rfl rfl zuX12 37 (by decide) zw6_10 rfl dX12_laysStep_165 ?_
  refine lv_iload_n hx hb dX12_laysStep_168 rfl (lv_at hl 5 rfl) ?_
  refine lv_iconst (v := nI 1) hx hb dX12_laysStep_169 (by decide) ?_
  refine lv_isub hx hb dX12_laysStep_170 ?_
  refine lv_topi (nm_r (e' := nI 1) (by decide) ?_)
  refine xlald C hP 3 rfl 1 rfl (by decide) (by decide) dX12_laysStep_171 ?_
  refine lv_topl (nm_r (e' := 1) (by decide) ?_)
  refine xv (wr := [(maa, .inl (cs 1, 9, .inr (.inl (lt4 0 0 1 0)))), (mab, .inl (cs 1, 9, .inr (.inl (lt4 1 1 2 0)))), (mba, .inl (cs 1, 9, .inr (.inl (lt4 0 0 0 0)))), (mbb, .inl (cs 1, 9, .inr (.inl (lt4 1 1 1 0))))]) (xV (As := [.long 2, .long 1, .long 0, .long 1]) (rest := []) C (c_X12_multiplies l D cs hm ms mkp mtr mas mso mon mot man mst msm mtb mti mfr mbn mbs mde maa mab mba mbb 1 2 2 1 0 1 0 1 0 1 (by decide +kernel) (by decide +kernel) (by decide +kernel)) kX12_286 hP hD [4] rfl (by decide +kernel) 0 rfl rfl rfl ⟨Nat.le_of_ble_eq_true rfl, Nat.le_of_ble_eq_true rfl⟩ rfl hl.1 rfl (Nat.le_of_ble_eq_true rfl) dX12_laysStep_172 ⟨Nat.le_of_ble_eq_true rfl, Nat.le_of_ble_eq_true rfl⟩) hP hD hS hA [4] [0, 1, 2, 3] rfl rfl (by decide +kernel) (by decide +kernel) ?_
  clear hP hD hS
  try clear locs
  try clear H
  intro u_12 H locs hw_r_11 hP hD hS
  refine W.widen (k := 0) (n := 0) (Nat.le_of_ble_eq_true rfl) (Nat.le_of_ble_eq_true rfl) ?_
  replace hP : va_P D vwCl [(maa, .inl (cs 1, 9, .inr (.inl (lt4 0 0 1 0)))), (mab, .inl (cs 1, 9, .inr (.inl (lt4 1 1 2 0)))), (mba, .inl (cs 1, 9, .inr (.inl (lt4 0 0 0 0)))), (mbb, .inl (cs 1, 9, .inr (.inl (lt4 1 1 1 0)))), (hm, .inr (12, [.ref ms, .ref mkp, .int (nI 0), .ref mtr, .int (nI 4), .int (nI 2), .int (nI 2), .int (nI 3), .int (nI 2), .int (nI 1), .ref mas, .int (nI 0), .int (nI 0), .int (nI 0), .ref mso, .ref mon, .ref mot, .ref man, .int (nI 0), .int (nI 0), .ref mst, .ref msm, .ref mtb, .ref mti, .ref mfr, .ref mbn, .ref mbs, .ref mde, .int (nI 0), .int (nI 0), .int (nI 0), .int (nI 0), .long 0, .long 1, .ref maa, .ref mab, .ref mba, .ref mbb]))] H := hP
  replace hD : va_D A [(maa, .inl (cs 1, 9, .inr (.inl (lt4 0 0 1 0)))), (mab, .inl (cs 1, 9, .inr (.inl (lt4 1 1 2 0)))), (mba, .inl (cs 1, 9, .inr (.inl (lt4 0 0 0 0)))), (mbb, .inl (cs 1, 9, .inr (.inl (lt4 1 1 1 0)))), (hm, .inr (12, [.ref ms, .ref mkp, .int (nI 0), .ref mtr, .int (nI 4), .int (nI 2), .int (nI 2), .int (nI 3), .int (nI 2), .int (nI 1), .ref mas, .int (nI 0), .int (nI 0), .int (nI 0), .ref mso, .ref mon, .ref mot, .ref man, .int (nI 0), .int (nI 0), .ref mst, .ref msm, .ref mtb, .ref mti, .ref mfr, .ref mbn, .ref mbs, .ref mde, .int (nI 0), .int (nI 0), .int (nI 0), .int (nI 0), .long 0, .long 1, .ref maa, .ref mab, .ref mba, .ref mbb]))] := hD
  refine lv_iload_n hx hb dX12_laysStep_175 rfl (lv_at hl 6 rfl) ?_
  refine lv_if_eq (tgt := 202) hx hb dX12_laysStep_176 (by decide) (fun _ => ?_) (fun c => absurd (by decide) c)
  refine lv_aload_n hx hb dX12_laysStep_202 rfl (lv_at hl 4 rfl) ?_
  refine lv_aload_n hx hb dX12_laysStep_203 rfl (lv_at hl 4 rfl) ?_
  refine xget C hP 4 rfl rfl zuX12 32 (by decide) zw6_5 rfl dX12_laysStep_204 ?_
  refine lv_aload_n hx hb dX12_laysStep_207 rfl (lv_at hl 4 rfl) ?_
  refine xget C hP 4 rfl rfl zuX12 33 (by decide) zw6_6 rfl dX12_laysStep_208 ?_
  refine lv_lload hx hb dX12_laysStep_211 (lv_at hl 1 rfl) ?_
  refine lv_lload hx hb dX12_laysStep_213 (lv_at hl 0 rfl) ?_
  refine xv (wr := [(maa, .inl (cs 1, 9, .inr (.inl (lt4 0 0 1 0)))), (mab, .inl (cs 1, 9, .inr (.inl (lt4 1 1 2 0)))), (mba, .inl (cs 1, 9, .inr (.inl (lt4 0 0 0 0)))), (mbb, .inl (cs 1, 9, .inr (.inl (lt4 1 1 1 0))))]) (xV (As := [.long 0, .long 1, .long 4, .long 1]) (rest := []) C (c_X12_divides l D cs hm ms mkp mtr mas mso mon mot man mst msm mtb mti mfr mbn mbs mde maa mab mba mbb 0 1 0 1 4 1 0 4 0 1 (by decide +kernel) (by decide +kernel) (by decide +kernel)) kX12_293 hP hD [4] rfl (by decide +kernel) 0 rfl rfl rfl ⟨Nat.le_of_ble_eq_true rfl, Nat.le_of_ble_eq_true rfl⟩ rfl hl.1 rfl (Nat.le_of_ble_eq_true rfl) dX12_laysStep_215 ⟨Nat.le_of_ble_eq_true rfl, Nat.le_of_ble_eq_true rfl⟩) hP hD hS hA [4] [0, 1, 2, 3] rfl rfl (by decide +kernel) (by decide +kernel) ?_
  clear hP hD hS
  try clear locs
  try clear H
  intro u_14 H locs hw_r_13 hP hD hS
  refine W.widen (k := 0) (n := 0) (Nat.le_of_ble_eq_true rfl) (Nat.le_of_ble_eq_true rfl) ?_
  replace hP : va_P D vwCl [(maa, .inl (cs 1, 9, .inr (.inl (lt4 0 0 1 0)))), (mab, .inl (cs 1, 9, .inr (.inl (lt4 1 1 2 0)))), (mba, .inl (cs 1, 9, .inr (.inl (lt4 0 0 0 0)))), (mbb, .inl (cs 1, 9, .inr (.inl (lt4 1 1 1 0)))), (hm, .inr (12, [.ref ms, .ref mkp, .int (nI 0), .ref mtr, .int (nI 4), .int (nI 2), .int (nI 2), .int (nI 3), .int (nI 2), .int (nI 1), .ref mas, .int (nI 0), .int (nI 0), .int (nI 0), .ref mso, .ref mon, .ref mot, .ref man, .int (nI 0), .int (nI 0), .ref mst, .ref msm, .ref mtb, .ref mti, .ref mfr, .ref mbn, .ref mbs, .ref mde, .int (nI 0), .int (nI 0), .int (nI 0), .int (nI 0), .long 0, .long 1, .ref maa, .ref mab, .ref mba, .ref mbb]))] H := hP
  replace hD : va_D A [(maa, .inl (cs 1, 9, .inr (.inl (lt4 0 0 1 0)))), (mab, .inl (cs 1, 9, .inr (.inl (lt4 1 1 2 0)))), (mba, .inl (cs 1, 9, .inr (.inl (lt4 0 0 0 0)))), (mbb, .inl (cs 1, 9, .inr (.inl (lt4 1 1 1 0)))), (hm, .inr (12, [.ref ms, .ref mkp, .int (nI 0), .ref mtr, .int (nI 4), .int (nI 2), .int (nI 2), .int (nI 3), .int (nI 2), .int (nI 1), .ref mas, .int (nI 0), .int (nI 0), .int (nI 0), .ref mso, .ref mon, .ref mot, .ref man, .int (nI 0), .int (nI 0), .ref mst, .ref msm, .ref mtb, .ref mti, .ref mfr, .ref mbn, .ref mbs, .ref mde, .int (nI 0), .int (nI 0), .int (nI 0), .int (nI 0), .long 0, .long 1, .ref maa, .ref mab, .ref mba, .ref mbb]))] := hD
  refine lv_aload_n hx hb dX12_laysStep_218 rfl (lv_at hl 4 rfl) ?_
  refine xget C hP 4 rfl rfl zuX12 36 (by decide) zw6_9 rfl dX12_laysStep_219 ?_
  refine lv_iload_n hx hb dX12_laysStep_222 rfl (lv_at hl 5 rfl) ?_
  refine lv_aload_n hx hb dX12_laysStep_223 rfl (lv_at hl 4 rfl) ?_
  refine xget C hP 4 rfl rfl zuX12 32 (by decide) zw6_5 rfl dX12_laysStep_224 ?_
  refine xlast C hP hD hS 2 rfl 2 rfl (by decide) (by decide) dX12_laysStep_227 ?_
  clear hP hD hS
  try clear locs
  try clear H
  intro H locs hP hD hS
  replace hP : va_P D vwCl [(maa, .inl (cs 1, 9, .inr (.inl (lt4 0 0 1 0)))), (mab, .inl (cs 1, 9, .inr (.inl (lt4 1 1 2 0)))), (mba, .inl (cs 1, 9, .inr (.inl (vp_updL (lt4 0 0 0 0) 2 0)))), (mbb, .inl (cs 1, 9, .inr (.inl (lt4 1 1 1 0)))), (hm, .inr (12, [.ref ms, .ref mkp, .int (nI 0), .ref mtr, .int (nI 4), .int (nI 2), .int (nI 2), .int (nI 3), .int (nI 2), .int (nI 1), .ref mas, .int (nI 0), .int (nI 0), .int (nI 0), .ref mso, .ref mon, .ref mot, .ref man, .int (nI 0), .int (nI 0), .ref mst, .ref msm, .ref mtb, .ref mti, .ref mfr, .ref mbn, .ref mbs, .ref mde, .int (nI 0), .int (nI 0), .int (nI 0), .int (nI 0), .long 0, .long 1, .ref maa, .ref mab, .ref mba, .ref mbb]))] H := hP
  replace hD : va_D A [(maa, .inl (cs 1, 9, .inr (.inl (lt4 0 0 1 0)))), (mab, .inl (cs 1, 9, .inr (.inl (lt4 1 1 2 0)))), (mba, .inl (cs 1, 9, .inr (.inl (vp_updL (lt4 0 0 0 0) 2 0)))), (mbb, .inl (cs 1, 9, .inr (.inl (lt4 1 1 1 0)))), (hm, .inr (12, [.ref ms, .ref mkp, .int (nI 0), .ref mtr, .int (nI 4), .int (nI 2), .int (nI 2), .int (nI 3), .int (nI 2), .int (nI 1), .ref mas, .int (nI 0), .int (nI 0), .int (nI 0), .ref mso, .ref mon, .ref mot, .ref man, .int (nI 0), .int (nI 0), .ref mst, .ref msm, .ref mtb, .ref mti, .ref mfr, .ref mbn, .ref mbs, .ref mde, .int (nI 0), .int (nI 0), .int (nI 0), .int (nI 0), .long 0, .long 1, .ref maa, .ref mab, .ref mba, .ref mbb]))] := hD
  refine lv_aload_n hx hb dX12_laysStep_228 rfl (lv_at hl 4 rfl) ?_
  refine xget C hP 4 rfl rfl zuX12 37 (by decide) zw6_10 rfl dX12_laysStep_229 ?_
  refine lv_iload_n hx hb dX12_laysStep_232 rfl (lv_at hl 5 rfl) ?_
  refine lv_aload_n hx hb dX12_laysStep_233 rfl (lv_at hl 4 rfl) ?_
  refine xget C hP 4 rfl rfl zuX12 33 (by decide) zw6_6 rfl dX12_laysStep_234 ?_
  refine xlast C hP hD hS 3 rfl 2 rfl (by decide) (by decide) dX12_laysStep_237 ?_
  clear hP hD hS
  try clear locs
  try clear H
  intro H locs hP hD hS
  replace hP : va_P D vwCl [(maa, .inl (cs 1, 9, .inr (.inl (lt4 0 0 1 0)))), (mab, .inl (cs 1, 9, .inr (.inl (lt4 1 1 2 0)))), (mba, .inl (cs 1, 9, .inr (.inl (vp_updL (lt4 0 0 0 0) 2 0)))), (mbb, .inl (cs 1, 9, .inr (.inl (vp_updL (lt4 1 1 1 0) 2 1)))), (hm, .inr (12, [.ref ms, .ref mkp, .int (nI 0), .ref mtr, .int (nI 4), .int (nI 2), .int (nI 2), .int (nI 3), .int (nI 2), .int (nI 1), .ref mas, .int (nI 0), .int (nI 0), .int (nI 0), .ref mso, .ref mon, .ref mot, .ref man, .int (nI 0), .int (nI 0), .ref mst, .ref msm, .ref mtb, .ref mti, .ref mfr, .ref mbn, .ref mbs, .ref mde, .int (nI 0), .int (nI 0), .int (nI 0), .int (nI 0), .long 0, .long 1, .ref maa, .ref mab, .ref mba, .ref mbb]))] H := hP
  replace hD : va_D A [(maa, .inl (cs 1, 9, .inr (.inl (lt4 0 0 1 0)))), (mab, .inl (cs 1, 9, .inr (.inl (lt4 1 1 2 0)))), (mba, .inl (cs 1, 9, .inr (.inl (vp_updL (lt4 0 0 0 0) 2 0)))), (mbb, .inl (cs 1, 9, .inr (.inl (vp_updL (lt4 1 1 1 0) 2 1)))), (hm, .inr (12, [.ref ms, .ref mkp, .int (nI 0), .ref mtr, .int (nI 4), .int (nI 2), .int (nI 2), .int (nI 3), .int (nI 2), .int (nI 1), .ref mas, .int (nI 0), .int (nI 0), .int (nI 0), .ref mso, .ref mon, .ref mot, .ref man, .int (nI 0), .int (nI 0), .ref mst, .ref msm, .ref mtb, .ref mti, .ref mfr, .ref mbn, .ref mbs, .ref mde, .int (nI 0), .int (nI 0), .int (nI 0), .int (nI 0), .long 0, .long 1, .ref maa, .ref mab, .ref mba, .ref mbb]))] := hD
  have hPD := xcongl (q0 := 2) (lt4 0 0 0 0) hP hD rfl (fun j hj => (show ∀ j, j < 9 → lt4 0 0 0 0 j = (vp_updL (lt4 0 0 0 0) 2 0) j from by decide) j hj)
  clear hP hD
  obtain ⟨hP, hD⟩ := hPD
  replace hP : va_P D vwCl [(maa, .inl (cs 1, 9, .inr (.inl (lt4 0 0 1 0)))), (mab, .inl (cs 1, 9, .inr (.inl (lt4 1 1 2 0)))), (mba, .inl (cs 1, 9, .inr (.inl (lt4 0 0 0 0)))), (mbb, .inl (cs 1, 9, .inr (.inl (vp_updL (lt4 1 1 1 0) 2 1)))), (hm, .inr (12, [.ref ms, .ref mkp, .int (nI 0), .ref mtr, .int (nI 4), .int (nI 2), .int (nI 2), .int (nI 3), .int (nI 2), .int (nI 1), .ref mas, .int (nI 0), .int (nI 0), .int (nI 0), .ref mso, .ref mon, .ref mot, .ref man, .int (nI 0), .int (nI 0), .ref mst, .ref msm, .ref mtb, .ref mti, .ref mfr, .ref mbn, .ref mbs, .ref mde, .int (nI 0), .int (nI 0), .int (nI 0), .int (nI 0), .long 0, .long 1, .ref maa, .ref mab, .ref mba, .ref mbb]))] H := hP
  replace hD : va_D A [(maa, .inl (cs 1, 9, .inr (.inl (lt4 0 0 1 0)))), (mab, .inl (cs 1, 9, .inr (.inl (lt4 1 1 2 0)))), (mba, .inl (cs 1, 9, .inr (.inl (lt4 0 0 0 0)))), (mbb, .inl (cs 1, 9, .inr (.inl (vp_updL (lt4 1 1 1 0) 2 1)))), (hm, .inr (12, [.ref ms, .ref mkp, .int (nI 0), .ref mtr, .int (nI 4), .int (nI 2), .int (nI 2), .int (nI 3), .int (nI 2), .int (nI 1), .ref mas, .int (nI 0), .int (nI 0), .int (nI 0), .ref mso, .ref mon, .ref mot, .ref man, .int (nI 0), .int (nI 0), .ref mst, .ref msm, .ref mtb, .ref mti, .ref mfr, .ref mbn, .ref mbs, .ref mde, .int (nI 0), .int (nI 0), .int (nI 0), .int (nI 0), .long 0, .long 1, .ref maa, .ref mab, .ref mba, .ref mbb]))] := hD
  have hPD := xcongl (q0 := 3) (lt4 1 1 1 0) hP hD rfl (fun j hj => (show ∀ j, j < 9 → lt4 1 1 1 0 j = (vp_updL (lt4 1 1 1 0) 2 1) j from by decide) j hj)
  clear hP hD
  obtain ⟨hP, hD⟩ := hPD
  replace hP : va_P D vwCl [(maa, .inl (cs 1, 9, .inr (.inl (lt4 0 0 1 0)))), (mab, .inl (cs 1, 9, .inr (.inl (lt4 1 1 2 0)))), (mba, .inl (cs 1, 9, .inr (.inl (lt4 0 0 0 0)))), (mbb, .inl (cs 1, 9, .inr (.inl (lt4 1 1 1 0)))), (hm, .inr (12, [.ref ms, .ref mkp, .int (nI 0), .ref mtr, .int (nI 4), .int (nI 2), .int (nI 2), .int (nI 3), .int (nI 2), .int (nI 1), .ref mas, .int (nI 0), .int (nI 0), .int (nI 0), .ref mso, .ref mon, .ref mot, .ref man, .int (nI 0), .int (nI 0), .ref mst, .ref msm, .ref mtb, .ref mti, .ref mfr, .ref mbn, .ref mbs, .ref mde, .int (nI 0), .int (nI 0), .int (nI 0), .int (nI 0), .long 0, .long 1, .ref maa, .ref mab, .ref mba, .ref mbb]))] H := hP
  replace hD : va_D A [(maa, .inl (cs 1, 9, .inr (.inl (lt4 0 0 1 0)))), (mab, .inl (cs 1, 9, .inr (.inl (lt4 1 1 2 0)))), (mba, .inl (cs 1, 9, .inr (.inl (lt4 0 0 0 0)))), (mbb, .inl (cs 1, 9, .inr (.inl (lt4 1 1 1 0)))), (hm, .inr (12, [.ref ms, .ref mkp, .int (nI 0), .ref mtr, .int (nI 4), .int (nI 2), .int (nI 2), .int (nI 3), .int (nI 2), .int (nI 1), .ref mas, .int (nI 0), .int (nI 0), .int (nI 0), .ref mso, .ref mon, .ref mot, .ref man, .int (nI 0), .int (nI 0), .ref mst, .ref msm, .ref mtb, .ref mti, .ref mfr, .ref mbn, .ref mbs, .ref mde, .int (nI 0), .int (nI 0), .int (nI 0), .int (nI 0), .long 0, .long 1, .ref maa, .ref mab, .ref mba, .ref mbb]))] := hD
  exact xretv C () trivial (xP_map hP [4, 0, 1, 2, 3] rfl) (hD.sub [4, 0, 1, 2, 3] (by decide +kernel) rfl) hS (Nat.le_of_ble_eq_true rfl) (Nat.le_of_ble_eq_true rfl) dX12_laysStep_238

set_option maxHeartbeats 4000000 in
set_option maxRecDepth 100000 in
theorem c_X12_laysStep_3_0 (l : Launch) (D : va_G) (cs : Nat → ClassId) (hm ms mkp mtr mas mso mon mot man mst msm mtb mti mfr mbn mbs mde maa mab mba mbb : Nat) (ab be : Int64) : xMet l D cs yX12_laysStep cX12_laysStep 11 none ({ frames := 3, cells := 0, slots := 0, locals := 69 } : Room) [.ref hm, .int (nI 3), .int (nI 0)] [(hm, .inr (12, [.ref ms, .ref mkp, .int (nI 0), .ref mtr, .int (nI 4), .int (nI 2), .int (nI 2), .int (nI 3), .int (nI 2), .int (nI 1), .ref mas, .int (nI 0), .int (nI 0), .int (nI 0), .ref mso, .ref mon, .ref mot, .ref man, .int (nI 0), .int (nI 0), .ref mst, .ref msm, .ref mtb, .ref mti, .ref mfr, .ref mbn, .ref mbs, .ref mde, .int (nI 0), .int (nI 0), .int (nI 0), .int (nI 0), .long ab, .long be, .ref maa, .ref mab, .ref mba, .ref mbb])), (maa, .inl (cs 1, 9, .inr (.inl (lt4 0 0 1 0)))), (mab, .inl (cs 1, 9, .inr (.inl (lt4 1 1 2 0)))), (mba, .inl (cs 1, 9, .inr (.inl (lt4 0 0 0 0)))), (mbb, .inl (cs 1, 9, .inr (.inl (lt4 1 1 1 0))))] (xQv D (fun (_u : Unit) => True) (fun (_u : Unit) => [(hm, .inr (12, [.ref ms, .ref mkp, .int (nI 0), .ref mtr, .int (nI 4), .int (nI 2), .int (nI 2), .int (nI 3), .int (nI 2), .int (nI 1), .ref mas, .int (nI 0), .int (nI 0), .int (nI 0), .ref mso, .ref mon, .ref mot, .ref man, .int (nI 0), .int (nI 0), .ref mst, .ref msm, .ref mtb, .ref mti, .ref mfr, .ref mbn, .ref mbs, .ref mde, .int (nI 0), .int (nI 0), .int (nI 0), .int (nI 0), .long 0, .long 1, .ref maa, .ref mab, .ref mba, .ref mbb])), (maa, .inl (cs 1, 9, .inr (.inl (lt4 0 0 1 1)))), (mab, .inl (cs 1, 9, .inr (.inl (lt4 1 1 2 1)))), (mba, .inl (cs 1, 9, .inr (.inl (lt4 0 0 0 0)))), (mbb, .inl (cs 1, 9, .inr (.inl (lt4 1 1 1 1))))])) := by
  refine xMet.intro (by decide) (Nat.le_of_ble_eq_true rfl) ?_
  intro p e s m args below meth c A ls C hP hD hS hl
  have hx := C.1
  have hb := C.2.1
  have hz := C.2.2.2.2.1
  have hown := C.2.2.2.1
  have hA := C.2.2.2.2.2.2.2.2.2
  have hAO := C.2.2.2.2.2.2.2.2.1.2.2
  replace hl : lv_has ls 11 [(0, .ref hm), (1, .int (nI 3)), (2, .int (nI 0))] := hl
  obtain ⟨H, hH⟩ : ∃ H, H = s.heap := ⟨_, rfl⟩
  replace hP : va_P D vwCl [(hm, .inr (12, [.ref ms, .ref mkp, .int (nI 0), .ref mtr, .int (nI 4), .int (nI 2), .int (nI 2), .int (nI 3), .int (nI 2), .int (nI 1), .ref mas, .int (nI 0), .int (nI 0), .int (nI 0), .ref mso, .ref mon, .ref mot, .ref man, .int (nI 0), .int (nI 0), .ref mst, .ref msm, .ref mtb, .ref mti, .ref mfr, .ref mbn, .ref mbs, .ref mde, .int (nI 0), .int (nI 0), .int (nI 0), .int (nI 0), .long ab, .long be, .ref maa, .ref mab, .ref mba, .ref mbb])), (maa, .inl (cs 1, 9, .inr (.inl (lt4 0 0 1 0)))), (mab, .inl (cs 1, 9, .inr (.inl (lt4 1 1 2 0)))), (mba, .inl (cs 1, 9, .inr (.inl (lt4 0 0 0 0)))), (mbb, .inl (cs 1, 9, .inr (.inl (lt4 1 1 1 0))))] H := by rw [hH]; exact hP
  replace hS : va_S A s.heap H [] := by rw [hH]; exact hS
  obtain ⟨locs, hlocs⟩ : ∃ z : List Loc, z = [] := ⟨_, rfl⟩
  rw [← hlocs] at hS
  suffices hW : W p l e ({ frames := 3, cells := 0, slots := 0, locals := 69 } : Room) s m args below meth c H locs 0 0 (MQ below ((xQv D (fun (_u : Unit) => True) (fun (_u : Unit) => [(hm, .inr (12, [.ref ms, .ref mkp, .int (nI 0), .ref mtr, .int (nI 4), .int (nI 2), .int (nI 2), .int (nI 3), .int (nI 2), .int (nI 1), .ref mas, .int (nI 0), .int (nI 0), .int (nI 0), .ref mso, .ref mon, .ref mot, .ref man, .int (nI 0), .int (nI 0), .ref mst, .ref msm, .ref mtb, .ref mti, .ref mfr, .ref mbn, .ref mbs, .ref mde, .int (nI 0), .int (nI 0), .int (nI 0), .int (nI 0), .long 0, .long 1, .ref maa, .ref mab, .ref mba, .ref mbb])), (maa, .inl (cs 1, 9, .inr (.inl (lt4 0 0 1 1)))), (mab, .inl (cs 1, 9, .inr (.inl (lt4 1 1 2 1)))), (mba, .inl (cs 1, 9, .inr (.inl (lt4 0 0 0 0)))), (mbb, .inl (cs 1, 9, .inr (.inl (lt4 1 1 1 1))))])) A) args s 0 0 A) (F0 m 0 ls []) by rw [hlocs, hH] at hW; exact hW
  clear hH hlocs
  refine lv_aload_n hx hb dX12_laysStep_0 rfl (lv_at hl 0 rfl) ?_
  refine lv_iload_n hx hb dX12_laysStep_1 rfl (lv_at hl 1 rfl) ?_
  refine xl (wr := [(maa, .inl (cs 1, 9, .inr (.inl (lt4 0 0 1 0)))), (mab, .inl (cs 1, 9, .inr (.inl (lt4 1 1 2 0)))), (mba, .inl (cs 1, 9, .inr (.inl (lt4 0 0 0 0)))), (mbb, .inl (cs 1, 9, .inr (.inl (lt4 1 1 1 0))))]) (xV (As := [.int (nI 3)]) (rest := []) C (c_X12_up_3 l D cs hm ms mkp mtr mas mso mon mot man mst msm mtb mti mfr mbn mbs mde maa mab mba mbb ab be) kX12_280 hP hD [0] rfl (by decide +kernel) 0 rfl rfl rfl ⟨Nat.le_of_ble_eq_true rfl, Nat.le_of_ble_eq_true rfl⟩ rfl hl.1 rfl (Nat.le_of_ble_eq_true rfl) dX12_laysStep_2 ⟨Nat.le_of_ble_eq_true rfl, Nat.le_of_ble_eq_true rfl⟩) hP hD hS hA [0] [1, 2, 3, 4] rfl rfl (by decide +kernel) (by decide +kernel) ?_
  clear hP hD hS
  try clear locs
  try clear H
  intro r_1 u_2 H locs hw_r_1 hP hD hS
  have hw_r_1 : r_1 = 3 := hw_r_1
  refine W.widen (k := 0) (n := 0) (Nat.le_of_ble_eq_true rfl) (Nat.le_of_ble_eq_true rfl) ?_
  replace hP : va_P D vwCl [(maa, .inl (cs 1, 9, .inr (.inl (lt4 0 0 1 0)))), (mab, .inl (cs 1, 9, .inr (.inl (lt4 1 1 2 0)))), (mba, .inl (cs 1, 9, .inr (.inl (lt4 0 0 0 0)))), (mbb, .inl (cs 1, 9, .inr (.inl (lt4 1 1 1 0)))), (hm, .inr (12, [.ref ms, .ref mkp, .int (nI 0), .ref mtr, .int (nI 4), .int (nI 2), .int (nI 2), .int (nI 3), .int (nI 2), .int (nI 1), .ref mas, .int (nI 0), .int (nI 0), .int (nI 0), .ref mso, .ref mon, .ref mot, .ref man, .int (nI 0), .int (nI 0), .ref mst, .ref msm, .ref mtb, .ref mti, .ref mfr, .ref mbn, .ref mbs, .ref mde, .int (nI 0), .int (nI 0), .int (nI 0), .int (nI 0), .long ab, .long be, .ref maa, .ref mab, .ref mba, .ref mbb]))] H := hP
  replace hD : va_D A [(maa, .inl (cs 1, 9, .inr (.inl (lt4 0 0 1 0)))), (mab, .inl (cs 1, 9, .inr (.inl (lt4 1 1 2 0)))), (mba, .inl (cs 1, 9, .inr (.inl (lt4 0 0 0 0)))), (mbb, .inl (cs 1, 9, .inr (.inl (lt4 1 1 1 0)))), (hm, .inr (12, [.ref ms, .ref mkp, .int (nI 0), .ref mtr, .int (nI 4), .int (nI 2), .int (nI 2), .int (nI 3), .int (nI 2), .int (nI 1), .ref mas, .int (nI 0), .int (nI 0), .int (nI 0), .ref mso, .ref mon, .ref mot, .ref man, .int (nI 0), .int (nI 0), .ref mst, .ref msm, .ref mtb, .ref mti, .ref mfr, .ref mbn, .ref mbs, .ref mde, .int (nI 0), .int (nI 0), .int (nI 0), .int (nI 0), .long ab, .long be, .ref maa, .ref mab, .ref mba, .ref mbb]))] := hD
  subst hw_r_1
  refine lv_lstore_n (lv' := [(3, .long 3), (0, .ref hm), (1, .int (nI 3)), (2, .int (nI 0))]) hx hb dX12_laysStep_5 rfl hl (by decide) rfl ?_
  clear hl
  try clear ls
  intro ls hl
  refine lv_aload_n hx hb dX12_laysStep_6 rfl (lv_at hl 1 rfl) ?_
  refine lv_iload_n hx hb dX12_laysStep_7 rfl (lv_at hl 2 rfl) ?_
  refine xl (wr := [(maa, .inl (cs 1, 9, .inr (.inl (lt4 0 0 1 0)))), (mab, .inl (cs 1, 9, .inr (.inl (lt4 1 1 2 0)))), (mba, .inl (cs 1, 9, .inr (.inl (lt4 0 0 0 0)))), (mbb, .inl (cs 1, 9, .inr (.inl (lt4 1 1 1 0))))]) (xV (As := [.int (nI 3)]) (rest := []) C (c_X12_down_3 l D cs hm ms mkp mtr mas mso mon mot man mst msm mtb mti mfr mbn mbs mde maa mab mba mbb ab be) kX12_283 hP hD [4] rfl (by decide +kernel) 0 rfl rfl rfl ⟨Nat.le_of_ble_eq_true rfl, Nat.le_of_ble_eq_true rfl⟩ rfl hl.1 rfl (Nat.le_of_ble_eq_true rfl) dX12_laysStep_8 ⟨Nat.le_of_ble_eq_true rfl, Nat.le_of_ble_eq_true rfl⟩) hP hD hS hA [4] [0, 1, 2, 3] rfl rfl (by decide +kernel) (by decide +kernel) ?_
  clear hP hD hS
  try clear locs
  try clear H
  intro r_3 u_4 H locs hw_r_3 hP hD hS
  have hw_r_3 : r_3 = 0 := hw_r_3
  refine W.widen (k := 0) (n := 0) (Nat.le_of_ble_eq_true rfl) (Nat.le_of_ble_eq_true rfl) ?_
  replace hP : va_P D vwCl [(maa, .inl (cs 1, 9, .inr (.inl (lt4 0 0 1 0)))), (mab, .inl (cs 1, 9, .inr (.inl (lt4 1 1 2 0)))), (mba, .inl (cs 1, 9, .inr (.inl (lt4 0 0 0 0)))), (mbb, .inl (cs 1, 9, .inr (.inl (lt4 1 1 1 0)))), (hm, .inr (12, [.ref ms, .ref mkp, .int (nI 0), .ref mtr, .int (nI 4), .int (nI 2), .int (nI 2), .int (nI 3), .int (nI 2), .int (nI 1), .ref mas, .int (nI 0), .int (nI 0), .int (nI 0), .ref mso, .ref mon, .ref mot, .ref man, .int (nI 0), .int (nI 0), .ref mst, .ref msm, .ref mtb, .ref mti, .ref mfr, .ref mbn, .ref mbs, .ref mde, .int (nI 0), .int (nI 0), .int (nI 0), .int (nI 0), .long ab, .long be, .ref maa, .ref mab, .ref mba, .ref mbb]))] H := hP
  replace hD : va_D A [(maa, .inl (cs 1, 9, .inr (.inl (lt4 0 0 1 0)))), (mab, .inl (cs 1, 9, .inr (.inl (lt4 1 1 2 0)))), (mba, .inl (cs 1, 9, .inr (.inl (lt4 0 0 0 0)))), (mbb, .inl (cs 1, 9, .inr (.inl (lt4 1 1 1 0)))), (hm, .inr (12, [.ref ms, .ref mkp, .int (nI 0), .ref mtr, .int (nI 4), .int (nI 2), .int (nI 2), .int (nI 3), .int (nI 2), .int (nI 1), .ref mas, .int (nI 0), .int (nI 0), .int (nI 0), .ref mso, .ref mon, .ref mot, .ref man, .int (nI 0), .int (nI 0), .ref mst, .ref msm, .ref mtb, .ref mti, .ref mfr, .ref mbn, .ref mbs, .ref mde, .int (nI 0), .int (nI 0), .int (nI 0), .int (nI 0), .long ab, .long be, .ref maa, .ref mab, .ref mba, .ref mbb]))] := hD
  subst hw_r_3
  refine lv_lstore (lv' := [(5, .long 0), (3, .long 3), (0, .ref hm), (1, .int (nI 3)), (2, .int (nI 0))]) hx hb dX12_laysStep_11 hl (by decide) rfl ?_
  clear hl
  try clear ls
  intro ls hl
  refine lv_aload_n hx hb dX12_laysStep_13 rfl (lv_at hl 2 rfl) ?_
  refine xget C hP 4 rfl rfl zuX12 34 (by decide) zw6_7 rfl dX12_laysStep_14 ?_
  refine lv_iload_n hx hb dX12_laysStep_17 rfl (lv_at hl 3 rfl) ?_
  refine lv_lconst (v := 0) hx hb dX12_laysStep_18 (by decide) ?_
  refine xlast C hP hD hS 0 rfl 3 rfl (by decide) (by decide) dX12_laysStep_19 ?_
  clear hP hD hS
  try clear locs
  try clear H
  intro H locs hP hD hS
  replace hP : va_P D vwCl [(maa, .inl (cs 1, 9, .inr (.inl (vp_updL (lt4 0 0 1 0) 3 0)))), (mab, .inl (cs 1, 9, .inr (.inl (lt4 1 1 2 0)))), (mba, .inl (cs 1, 9, .inr (.inl (lt4 0 0 0 0)))), (mbb, .inl (cs 1, 9, .inr (.inl (lt4 1 1 1 0)))), (hm, .inr (12, [.ref ms, .ref mkp, .int (nI 0), .ref mtr, .int (nI 4), .int (nI 2), .int (nI 2), .int (nI 3), .int (nI 2), .int (nI 1), .ref mas, .int (nI 0), .int (nI 0), .int (nI 0), .ref mso, .ref mon, .ref mot, .ref man, .int (nI 0), .int (nI 0), .ref mst, .ref msm, .ref mtb, .ref mti, .ref mfr, .ref mbn, .ref mbs, .ref mde, .int (nI 0), .int (nI 0), .int (nI 0), .int (nI 0), .long ab, .long be, .ref maa, .ref mab, .ref mba, .ref mbb]))] H := hP
  replace hD : va_D A [(maa, .inl (cs 1, 9, .inr (.inl (vp_updL (lt4 0 0 1 0) 3 0)))), (mab, .inl (cs 1, 9, .inr (.inl (lt4 1 1 2 0)))), (mba, .inl (cs 1, 9, .inr (.inl (lt4 0 0 0 0)))), (mbb, .inl (cs 1, 9, .inr (.inl (lt4 1 1 1 0)))), (hm, .inr (12, [.ref ms, .ref mkp, .int (nI 0), .ref mtr, .int (nI 4), .int (nI 2), .int (nI 2), .int (nI 3), .int (nI 2), .int (nI 1), .ref mas, .int (nI 0), .int (nI 0), .int (nI 0), .ref mso, .ref mon, .ref mot, .ref man, .int (nI 0), .int (nI 0), .ref mst, .ref msm, .ref mtb, .ref mti, .ref mfr, .ref mbn, .ref mbs, .ref mde, .int (nI 0), .int (nI 0), .int (nI 0), .int (nI 0), .long ab, .long be, .ref maa, .ref mab, .ref mba, .ref mbb]))] := hD
  refine lv_aload_n hx hb dX12_laysStep_20 rfl (lv_at hl 2 rfl) ?_
  refine xget C hP 4 rfl rfl zuX12 35 (by decide) zw6_8 rfl dX12_laysStep_21 ?_
  refine lv_iload_n hx hb dX12_laysStep_24 rfl (lv_at hl 3 rfl) ?_
  refine lv_lconst (v := 1) hx hb dX12_laysStep_25 (by decide) ?_
  refine xlast C hP hD hS 1 rfl 3 rfl (by decide) (by decide) dX12_laysStep_26 ?_
  clear hP hD hS
  try clear locs
  try clear H
  intro H locs hP hD hS
  replace hP : va_P D vwCl [(maa, .inl (cs 1, 9, .inr (.inl (vp_updL (lt4 0 0 1 0) 3 0)))), (mab, .inl (cs 1, 9, .inr (.inl (vp_updL (lt4 1 1 2 0) 3 1)))), (mba, .inl (cs 1, 9, .inr (.inl (lt4 0 0 0 0)))), (mbb, .inl (cs 1, 9, .inr (.inl (lt4 1 1 1 0)))), (hm, .inr (12, [.ref ms, .ref mkp, .int (nI 0), .ref mtr, .int (nI 4), .int (nI 2), .int (nI 2), .int (nI 3), .int (nI 2), .int (nI 1), .ref mas, .int (nI 0), .int (nI 0), .int (nI 0), .ref mso, .ref mon, .ref mot, .ref man, .int (nI 0), .int (nI 0), .ref mst, .ref msm, .ref mtb, .ref mti, .ref mfr, .ref mbn, .ref mbs, .ref mde, .int (nI 0), .int (nI 0), .int (nI 0), .int (nI 0), .long ab, .long be, .ref maa, .ref mab, .ref mba, .ref mbb]))] H := hP
  replace hD : va_D A [(maa, .inl (cs 1, 9, .inr (.inl (vp_updL (lt4 0 0 1 0) 3 0)))), (mab, .inl (cs 1, 9, .inr (.inl (vp_updL (lt4 1 1 2 0) 3 1)))), (mba, .inl (cs 1, 9, .inr (.inl (lt4 0 0 0 0)))), (mbb, .inl (cs 1, 9, .inr (.inl (lt4 1 1 1 0)))), (hm, .inr (12, [.ref ms, .ref mkp, .int (nI 0), .ref mtr, .int (nI 4), .int (nI 2), .int (nI 2), .int (nI 3), .int (nI 2), .int (nI 1), .ref mas, .int (nI 0), .int (nI 0), .int (nI 0), .ref mso, .ref mon, .ref mot, .ref man, .int (nI 0), .int (nI 0), .ref mst, .ref msm, .ref mtb, .ref mti, .ref mfr, .ref mbn, .ref mbs, .ref mde, .int (nI 0), .int (nI 0), .int (nI 0), .int (nI 0), .long ab, .long be, .ref maa, .ref mab, .ref mba, .ref mbb]))] := hD
  refine lv_aload_n hx hb dX12_laysStep_27 rfl (lv_at hl 2 rfl) ?_
  refine xget C hP 4 rfl rfl zuX12 36 (by decide) zw6_9 rfl dX12_laysStep_28 ?_
  refine lv_iload_n hx hb dX12_laysStep_31 rfl (lv_at hl 3 rfl) ?_
  refine lv_lconst (v := 0) hx hb dX12_laysStep_32 (by decide) ?_
  refine xlast C hP hD hS 2 rfl 3 rfl (by decide) (by decide) dX12_laysStep_33 ?_
  clear hP hD hS
  try clear locs
  try clear H
  intro H locs hP hD hS
  replace hP : va_P D vwCl [(maa, .inl (cs 1, 9, .inr (.inl (vp_updL (lt4 0 0 1 0) 3 0)))), (mab, .inl (cs 1, 9, .inr (.inl (vp_updL (lt4 1 1 2 0) 3 1)))), (mba, .inl (cs 1, 9, .inr (.inl (vp_updL (lt4 0 0 0 0) 3 0)))), (mbb, .inl (cs 1, 9, .inr (.inl (lt4 1 1 1 0)))), (hm, .inr (12, [.ref ms, .ref mkp, .int (nI 0), .ref mtr, .int (nI 4), .int (nI 2), .int (nI 2), .int (nI 3), .int (nI 2), .int (nI 1), .ref mas, .int (nI 0), .int (nI 0), .int (nI 0), .ref mso, .ref mon, .ref mot, .ref man, .int (nI 0), .int (nI 0), .ref mst, .ref msm, .ref mtb, .ref mti, .ref mfr, .ref mbn, .ref mbs, .ref mde, .int (nI 0), .int (nI 0), .int (nI 0), .int (nI 0), .long ab, .long be, .ref maa, .ref mab, .ref mba, .ref mbb]))] H := hP
  replace hD : va_D A [(maa, .inl (cs 1, 9, .inr (.inl (vp_updL (lt4 0 0 1 0) 3 0)))), (mab, .inl (cs 1, 9, .inr (.inl (vp_updL (lt4 1 1 2 0) 3 1)))), (mba, .inl (cs 1, 9, .inr (.inl (vp_updL (lt4 0 0 0 0) 3 0)))), (mbb, .inl (cs 1, 9, .inr (.inl (lt4 1 1 1 0)))), (hm, .inr (12, [.ref ms, .ref mkp, .int (nI 0), .ref mtr, .int (nI 4), .int (nI 2), .int (nI 2), .int (nI 3), .int (nI 2), .int (nI 1), .ref mas, .int (nI 0), .int (nI 0), .int (nI 0), .ref mso, .ref mon, .ref mot, .ref man, .int (nI 0), .int (nI 0), .ref mst, .ref msm, .ref mtb, .ref mti, .ref mfr, .ref mbn, .ref mbs, .ref mde, .int (nI 0), .int (nI 0), .int (nI 0), .int (nI 0), .long ab, .long be, .ref maa, .ref mab, .ref mba, .ref mbb]))] := hD
  refine lv_aload_n hx hb dX12_laysStep_34 rfl (lv_at hl 2 rfl) ?_
  refine xget C hP 4 rfl rfl zuX12 37 (by decide) zw6_10 rfl dX12_laysStep_35 ?_
  refine lv_iload_n hx hb dX12_laysStep_38 rfl (lv_at hl 3 rfl) ?_
  refine lv_lconst (v := 1) hx hb dX12_laysStep_39 (by decide) ?_
  refine xlast C hP hD hS 3 rfl 3 rfl (by decide) (by decide) dX12_laysStep_40 ?_
  clear hP hD hS
  try clear locs
  try clear H
  intro H locs hP hD hS
  replace hP : va_P D vwCl [(maa, .inl (cs 1, 9, .inr (.inl (vp_updL (lt4 0 0 1 0) 3 0)))), (mab, .inl (cs 1, 9, .inr (.inl (vp_updL (lt4 1 1 2 0) 3 1)))), (mba, .inl (cs 1, 9, .inr (.inl (vp_updL (lt4 0 0 0 0) 3 0)))), (mbb, .inl (cs 1, 9, .inr (.inl (vp_updL (lt4 1 1 1 0) 3 1)))), (hm, .inr (12, [.ref ms, .ref mkp, .int (nI 0), .ref mtr, .int (nI 4), .int (nI 2), .int (nI 2), .int (nI 3), .int (nI 2), .int (nI 1), .ref mas, .int (nI 0), .int (nI 0), .int (nI 0), .ref mso, .ref mon, .ref mot, .ref man, .int (nI 0), .int (nI 0), .ref mst, .ref msm, .ref mtb, .ref mti, .ref mfr, .ref mbn, .ref mbs, .ref mde, .int (nI 0), .int (nI 0), .int (nI 0), .int (nI 0), .long ab, .long be, .ref maa, .ref mab, .ref mba, .ref mbb]))] H := hP
  replace hD : va_D A [(maa, .inl (cs 1, 9, .inr (.inl (vp_updL (lt4 0 0 1 0) 3 0)))), (mab, .inl (cs 1, 9, .inr (.inl (vp_updL (lt4 1 1 2 0) 3 1)))), (mba, .inl (cs 1, 9, .inr (.inl (vp_updL (lt4 0 0 0 0) 3 0)))), (mbb, .inl (cs 1, 9, .inr (.inl (vp_updL (lt4 1 1 1 0) 3 1)))), (hm, .inr (12, [.ref ms, .ref mkp, .int (nI 0), .ref mtr, .int (nI 4), .int (nI 2), .int (nI 2), .int (nI 3), .int (nI 2), .int (nI 1), .ref mas, .int (nI 0), .int (nI 0), .int (nI 0), .ref mso, .ref mon, .ref mot, .ref man, .int (nI 0), .int (nI 0), .ref mst, .ref msm, .ref mtb, .ref mti, .ref mfr, .ref mbn, .ref mbs, .ref mde, .int (nI 0), .int (nI 0), .int (nI 0), .int (nI 0), .long ab, .long be, .ref maa, .ref mab, .ref mba, .ref mbb]))] := hD
  have hPD := xcongl (q0 := 0) (lt4 0 0 1 0) hP hD rfl (fun j hj => (show ∀ j, j < 9 → lt4 0 0 1 0 j = (vp_updL (lt4 0 0 1 0) 3 0) j from by decide) j hj)
  clear hP hD
  obtain ⟨hP, hD⟩ := hPD
  replace hP : va_P D vwCl [(maa, .inl (cs 1, 9, .inr (.inl (lt4 0 0 1 0)))), (mab, .inl (cs 1, 9, .inr (.inl (vp_updL (lt4 1 1 2 0) 3 1)))), (mba, .inl (cs 1, 9, .inr (.inl (vp_updL (lt4 0 0 0 0) 3 0)))), (mbb, .inl (cs 1, 9, .inr (.inl (vp_updL (lt4 1 1 1 0) 3 1)))), (hm, .inr (12, [.ref ms, .ref mkp, .int (nI 0), .ref mtr, .int (nI 4), .int (nI 2), .int (nI 2), .int (nI 3), .int (nI 2), .int (nI 1), .ref mas, .int (nI 0), .int (nI 0), .int (nI 0), .ref mso, .ref mon, .ref mot, .ref man, .int (nI 0), .int (nI 0), .ref mst, .ref msm, .ref mtb, .ref mti, .ref mfr, .ref mbn, .ref mbs, .ref mde, .int (nI 0), .int (nI 0), .int (nI 0), .int (nI 0), .long ab, .long be, .ref maa, .ref mab, .ref mba, .ref mbb]))] H := hP
  replace hD : va_D A [(maa, .inl (cs 1, 9, .inr (.inl (lt4 0 0 1 0)))), (mab, .inl (cs 1, 9, .inr (.inl (vp_updL (lt4 1 1 2 0) 3 1)))), (mba, .inl (cs 1, 9, .inr (.inl (vp_updL (lt4 0 0 0 0) 3 0)))), (mbb, .inl (cs 1, 9, .inr (.inl (vp_updL (lt4 1 1 1 0) 3 1)))), (hm, .inr (12, [.ref ms, .ref mkp, .int (nI 0), .ref mtr, .int (nI 4), .int (nI 2), .int (nI 2), .int (nI 3), .int (nI 2), .int (nI 1), .ref mas, .int (nI 0), .int (nI 0), .int (nI 0), .ref mso, .ref mon, .ref mot, .ref man, .int (nI 0), .int (nI 0), .ref mst, .ref msm, .ref mtb, .ref mti, .ref mfr, .ref mbn, .ref mbs, .ref mde, .int (nI 0), .int (nI 0), .int (nI 0), .int (nI 0), .long ab, .long be, .ref maa, .ref mab, .ref mba, .ref mbb]))] := hD
  have hPD := xcongl (q0 := 1) (lt4 1 1 2 1) hP hD rfl (fun j hj => (show ∀ j, j < 9 → lt4 1 1 2 1 j = (vp_updL (lt4 1 1 2 0) 3 1) j from by decide) j hj)
  clear hP hD
  obtain ⟨hP, hD⟩ := hPD
  replace hP : va_P D vwCl [(maa, .inl (cs 1, 9, .inr (.inl (lt4 0 0 1 0)))), (mab, .inl (cs 1, 9, .inr (.inl (lt4 1 1 2 1)))), (mba, .inl (cs 1, 9, .inr (.inl (vp_updL (lt4 0 0 0 0) 3 0)))), (mbb, .inl (cs 1, 9, .inr (.inl (vp_updL (lt4 1 1 1 0) 3 1)))), (hm, .inr (12, [.ref ms, .ref mkp, .int (nI 0), .ref mtr, .int (nI 4), .int (nI 2), .int (nI 2), .int (nI 3), .int (nI 2), .int (nI 1), .ref mas, .int (nI 0), .int (nI 0), .int (nI 0), .ref mso, .ref mon, .ref mot, .ref man, .int (nI 0), .int (nI 0), .ref mst, .ref msm, .ref mtb, .ref mti, .ref mfr, .ref mbn, .ref mbs, .ref mde, .int (nI 0), .int (nI 0), .int (nI 0), .int (nI 0), .long ab, .long be, .ref maa, .ref mab, .ref mba, .ref mbb]))] H := hP
  replace hD : va_D A [(maa, .inl (cs 1, 9, .inr (.inl (lt4 0 0 1 0)))), (mab, .inl (cs 1, 9, .inr (.inl (lt4 1 1 2 1)))), (mba, .inl (cs 1, 9, .inr (.inl (vp_updL (lt4 0 0 0 0) 3 0)))), (mbb, .inl (cs 1, 9, .inr (.inl (vp_updL (lt4 1 1 1 0) 3 1)))), (hm, .inr (12, [.ref ms, .ref mkp, .int (nI 0), .ref mtr, .int (nI 4), .int (nI 2), .int (nI 2), .int (nI 3), .int (nI 2), .int (nI 1), .ref mas, .int (nI 0), .int (nI 0), .int (nI 0), .ref mso, .ref mon, .ref mot, .ref man, .int (nI 0), .int (nI 0), .ref mst, .ref msm, .ref mtb, .ref mti, .ref mfr, .ref mbn, .ref mbs, .ref mde, .int (nI 0), .int (nI 0), .int (nI 0), .int (nI 0), .long ab, .long be, .ref maa, .ref mab, .ref mba, .ref mbb]))] := hD
  have hPD := xcongl (q0 := 2) (lt4 0 0 0 0) hP hD rfl (fun j hj => (show ∀ j, j < 9 → lt4 0 0 0 0 j = (vp_updL (lt4 0 0 0 0) 3 0) j from by decide) j hj)
  clear hP hD
  obtain ⟨hP, hD⟩ := hPD
  replace hP : va_P D vwCl [(maa, .inl (cs 1, 9, .inr (.inl (lt4 0 0 1 0)))), (mab, .inl (cs 1, 9, .inr (.inl (lt4 1 1 2 1)))), (mba, .inl (cs 1, 9, .inr (.inl (lt4 0 0 0 0)))), (mbb, .inl (cs 1, 9, .inr (.inl (vp_updL (lt4 1 1 1 0) 3 1)))), (hm, .inr (12, [.ref ms, .ref mkp, .int (nI 0), .ref mtr, .int (nI 4), .int (nI 2), .int (nI 2), .int (nI 3), .int (nI 2), .int (nI 1), .ref mas, .int (nI 0), .int (nI 0), .int (nI 0), .ref mso, .ref mon, .ref mot, .ref man, .int (nI 0), .int (nI 0), .ref mst, .ref msm, .ref mtb, .ref mti, .ref mfr, .ref mbn, .ref mbs, .ref mde, .int (nI 0), .int (nI 0), .int (nI 0), .int (nI 0), .long ab, .long be, .ref maa, .ref mab, .ref mba, .ref mbb]))] H := hP
  replace hD : va_D A [(maa, .inl (cs 1, 9, .inr (.inl (lt4 0 0 1 0)))), (mab, .inl (cs 1, 9, .inr (.inl (lt4 1 1 2 1)))), (mba, .inl (cs 1, 9, .inr (.inl (lt4 0 0 0 0)))), (mbb, .inl (cs 1, 9, .inr (.inl (vp_updL (lt4 1 1 1 0) 3 1)))), (hm, .inr (12, [.ref ms, .ref mkp, .int (nI 0), .ref mtr, .int (nI 4), .int (nI 2), .int (nI 2), .int (nI 3), .int (nI 2), .int (nI 1), .ref mas, .int (nI 0), .int (nI 0), .int (nI 0), .ref mso, .ref mon, .ref mot, .ref man, .int (nI 0), .int (nI 0), .ref mst, .ref msm, .ref mtb, .ref mti, .ref mfr, .ref mbn, .ref mbs, .ref mde, .int (nI 0), .int (nI 0), .int (nI 0), .int (nI 0), .long ab, .long be, .ref maa, .ref mab, .ref mba, .ref mbb]))] := hD
  have hPD := xcongl (q0 := 3) (lt4 1 1 1 1) hP hD rfl (fun j hj => (show ∀ j, j < 9 → lt4 1 1 1 1 j = (vp_updL (lt4 1 1 1 0) 3 1) j from by decide) j hj)
  clear hP hD
  obtain ⟨hP, hD⟩ := hPD
  replace hP : va_P D vwCl [(maa, .inl (cs 1, 9, .inr (.inl (lt4 0 0 1 0)))), (mab, .inl (cs 1, 9, .inr (.inl (lt4 1 1 2 1)))), (mba, .inl (cs 1, 9, .inr (.inl (lt4 0 0 0 0)))), (mbb, .inl (cs 1, 9, .inr (.inl (lt4 1 1 1 1)))), (hm, .inr (12, [.ref ms, .ref mkp, .int (nI 0), .ref mtr, .int (nI 4), .int (nI 2), .int (nI 2), .int (nI 3), .int (nI 2), .int (nI 1), .ref mas, .int (nI 0), .int (nI 0), .int (nI 0), .ref mso, .ref mon, .ref mot, .ref man, .int (nI 0), .int (nI 0), .ref mst, .ref msm, .ref mtb, .ref mti, .ref mfr, .ref mbn, .ref mbs, .ref mde, .int (nI 0), .int (nI 0), .int (nI 0), .int (nI 0), .long ab, .long be, .ref maa, .ref mab, .ref mba, .ref mbb]))] H := hP
  replace hD : va_D A [(maa, .inl (cs 1, 9, .inr (.inl (lt4 0 0 1 0)))), (mab, .inl (cs 1, 9, .inr (.inl (lt4 1 1 2 1)))), (mba, .inl (cs 1, 9, .inr (.inl (lt4 0 0 0 0)))), (mbb, .inl (cs 1, 9, .inr (.inl (lt4 1 1 1 1)))), (hm, .inr (12, [.ref ms, .ref mkp, .int (nI 0), .ref mtr, .int (nI 4), .int (nI 2), .int (nI 2), .int (nI 3), .int (nI 2), .int (nI 1), .ref mas, .int (nI 0), .int (nI 0), .int (nI 0), .ref mso, .ref mon, .ref mot, .ref man, .int (nI 0), .int (nI 0), .ref mst, .ref msm, .ref mtb, .ref mti, .ref mfr, .ref mbn, .ref mbs, .ref mde, .int (nI 0), .int (nI 0), .int (nI 0), .int (nI 0), .long ab, .long be, .ref maa, .ref mab, .ref mba, .ref mbb]))] := hD
  refine lv_lload_n hx hb dX12_laysStep_41 rfl (lv_at hl 1 rfl) ?_
  refine lv_lconst (v := 0) hx hb dX12_laysStep_42 (by decide) ?_
  refine W.lcmp hx hb dX12_laysStep_43 ?_
  refine lv_if_ne (tgt := 55) hx hb dX12_laysStep_44 (by decide) (fun _ => ?_) (fun c => absurd c (by decide))
  refine lv_aload_n hx hb dX12_laysStep_55 rfl (lv_at hl 2 rfl) ?_
  refine lv_lload hx hb dX12_laysStep_56 (lv_at hl 0 rfl) ?_
  refine lv_lconst (v := 1) hx hb dX12_laysStep_58 (by decide) ?_
  refine lv_aload_n hx hb dX12_laysStep_59 rfl (lv_at hl 2 rfl) ?_
  refine xget C hP 4 rfl rfl zuX12 34 (by decide) zw6_7 rfl dX12_laysStep_60 ?_
  refine lv_iload_n hx hb dX12_laysStep_63 rfl (lv_at hl 3 rfl) ?_
  refine lv_iconst (v := nI 1) hx hb dX12_laysStep_64 (by decide) ?_
  refine lv_isub hx hb dX12_laysStep_65 ?_
  refine lv_topi (nm_r (e' := nI 2) (by decide) ?_)
  refine xlald C hP 0 rfl 2 rfl (by decide) (by decide) dX12_laysStep_66 ?_
  refine lv_topl (nm_r (e' := 1) (by decide) ?_)
  refine lv_aload_n hx hb dX12_laysStep_67 rfl (lv_at hl 2 rfl) ?_
  refine xget C hP 4 rfl rfl zuX12 35 (by decide) zw6_8 rfl dX12_laysStep_68 ?_
  refine lv_iload_n hx hb dX12_laysStep_71 rfl (lv_at hl 3 rfl) ?_
  refine lv_iconst (v := nI 1) hx hb dX12_laysStep_72 (by decide) ?_
  refine lv_isub hx hb dX12_laysStep_73 ?_
  refine lv_topi (nm_r (e' := nI 2) (by decide) ?_)
  refine xlald C hP 1 rfl 2 rfl (by decide) (by decide) dX12_laysStep_74 ?_
  refine lv_topl (nm_r (e' := 2) (by decide) ?_)
  refine xv (wr := [(maa, .inl (cs 1, 9, .inr (.inl (lt4 0 0 1 0)))), (mab, .inl (cs 1, 9, .inr (.inl (lt4 1 1 2 1)))), (mba, .inl (cs 1, 9, .inr (.inl (lt4 0 0 0 0)))), (mbb, .inl (cs 1, 9, .inr (.inl (lt4 1 1 1 1))))]) (xV (As := [.long 0, .long 1, .long 1, .long 2]) (rest := []) C (c_X12_multiplies l D cs hm ms mkp mtr mas mso mon mot man mst msm mtb mti mfr mbn mbs mde maa mab mba mbb ab be 0 1 1 2 0 2 0 1 (by decide +kernel) (by decide +kernel) (by decide +kernel)) kX12_286 hP hD [4] rfl (by decide +kernel) 0 rfl rfl rfl ⟨Nat.le_of_ble_eq_true rfl, Nat.le_of_ble_eq_true rfl⟩ rfl hl.1 rfl (Nat.le_of_ble_eq_true rfl) dX12_laysStep_75 ⟨Nat.le_of_ble_eq_true rfl, Nat.le_of_ble_eq_true rfl⟩) hP hD hS hA [4] [0, 1, 2, 3] rfl rfl (by decide +kernel) (by decide +kernel) ?_
  clear hP hD hS
  try clear locs
  try clear H
  intro u_6 H locs hw_r_5 hP hD hS
  refine W.widen (k := 0) (n := 0) (Nat.le_of_ble_eq_true rfl) (Nat.le_of_ble_eq_true rfl) ?_
  replace hP : va_P D vwCl [(maa, .inl (cs 1, 9, .inr (.inl (lt4 0 0 1 0)))), (mab, .inl (cs 1, 9, .inr (.inl (lt4 1 1 2 1)))), (mba, .inl (cs 1, 9, .inr (.inl (lt4 0 0 0 0)))), (mbb, .inl (cs 1, 9, .inr (.inl (lt4 1 1 1 1)))), (hm, .inr (12, [.ref ms, .ref mkp, .int (nI 0), .ref mtr, .int (nI 4), .int (nI 2), .int (nI 2), .int (nI 3), .int (nI 2), .int (nI 1), .ref mas, .int (nI 0), .int (nI 0), .int (nI 0), .ref mso, .ref mon, .ref mot, .ref man, .int (nI 0), .int (nI 0), .ref mst, .ref msm, .ref mtb, .ref mti, .ref mfr, .ref mbn, .ref mbs, .ref mde, .int (nI 0), .int (nI 0), .int (nI 0), .int (nI 0), .long 0, .long 1, .ref maa, .ref mab, .ref mba, .ref mbb]))] H := hP
  replace hD : va_D A [(maa, .inl (cs 1, 9, .inr (.inl (lt4 0 0 1 0)))), (mab, .inl (cs 1, 9, .inr (.inl (lt4 1 1 2 1)))), (mba, .inl (cs 1, 9, .inr (.inl (lt4 0 0 0 0)))), (mbb, .inl (cs 1, 9, .inr (.inl (lt4 1 1 1 1)))), (hm, .inr (12, [.ref ms, .ref mkp, .int (nI 0), .ref mtr, .int (nI 4), .int (nI 2), .int (nI 2), .int (nI 3), .int (nI 2), .int (nI 1), .ref mas, .int (nI 0), .int (nI 0), .int (nI 0), .ref mso, .ref mon, .ref mot, .ref man, .int (nI 0), .int (nI 0), .ref mst, .ref msm, .ref mtb, .ref mti, .ref mfr, .ref mbn, .ref mbs, .ref mde, .int (nI 0), .int (nI 0), .int (nI 0), .int (nI 0), .long 0, .long 1, .ref maa, .ref mab, .ref mba, .ref mbb]))] := hD
  refine lv_aload_n hx hb dX12_laysStep_78 rfl (lv_at hl 2 rfl) ?_
  refine lv_lload_n hx hb dX12_laysStep_79 rfl (lv_at hl 1 rfl) ?_
  refine lv_lload hx hb dX12_laysStep_80 (lv_at hl 0 rfl) ?_
  refine lv_ladd hx hb dX12_laysStep_82 ?_
  refine lv_topl (nm_r (e' := 3) (by decide) ?_)
  refine lv_lconst (v := 1) hx hb dX12_laysStep_83 (by decide) ?_
  refine lv_aload_n hx hb dX12_laysStep_84 rfl (lv_at hl 2 rfl) ?_
  refine xget C hP 4 rfl rfl zuX12 32 (by decide) zw6_5 rfl dX12_laysStep_85 ?_
  refine lv_aload_n hx hb dX12_laysStep_88 rfl (lv_at hl 2 rfl) ?_
  refine xget C hP 4 rfl rfl zuX12 33 (by decide) zw6_6 rfl dX12_laysStep_89 ?_
  refine xv (wr := [(maa, .inl (cs 1, 9, .inr (.inl (lt4 0 0 1 0)))), (mab, .inl (cs 1, 9, .inr (.inl (lt4 1 1 2 1)))), (mba, .inl (cs 1, 9, .inr (.inl (lt4 0 0 0 0)))), (mbb, .inl (cs 1, 9, .inr (.inl (lt4 1 1 1 1))))]) (xV (As := [.long 3, .long 1, .long 0, .long 1]) (rest := []) C (c_X12_lessens l D cs hm ms mkp mtr mas mso mon mot man mst msm mtb mti mfr mbn mbs mde maa mab mba mbb 0 1 3 1 0 1 3 0 3 1 3 1 (by decide +kernel) (by decide +kernel) (by decide +kernel) (by decide +kernel) (by decide +kernel) (by decide +kernel)) kX12_290 hP hD [4] rfl (by decide +kernel) 0 rfl rfl rfl ⟨Nat.le_of_ble_eq_true rfl, Nat.le_of_ble_eq_true rfl⟩ rfl hl.1 rfl (Nat.le_of_ble_eq_true rfl) dX12_laysStep_92 ⟨Nat.le_of_ble_eq_true rfl, Nat.le_of_ble_eq_true rfl⟩) hP hD hS hA [4] [0, 1, 2, 3] rfl rfl (by decide +kernel) (by decide +kernel) ?_
  clear hP hD hS
  try clear locs
  try clear H
  intro u_8 H locs hw_r_7 hP hD hS
  refine W.widen (k := 0) (n := 0) (Nat.le_of_ble_eq_true rfl) (Nat.le_of_ble_eq_true rfl) ?_
  replace hP : va_P D vwCl [(maa, .inl (cs 1, 9, .inr (.inl (lt4 0 0 1 0)))), (mab, .inl (cs 1, 9, .inr (.inl (lt4 1 1 2 1)))), (mba, .inl (cs 1, 9, .inr (.inl (lt4 0 0 0 0)))), (mbb, .inl (cs 1, 9, .inr (.inl (lt4 1 1 1 1)))), (hm, .inr (12, [.ref ms, .ref mkp, .int (nI 0), .ref mtr, .int (nI 4), .int (nI 2), .int (nI 2), .int (nI 3), .int (nI 2), .int (nI 1), .ref mas, .int (nI 0), .int (nI 0), .int (nI 0), .ref mso, .ref mon, .ref mot, .ref man, .int (nI 0), .int (nI 0), .ref mst, .ref msm, .ref mtb, .ref mti, .ref mfr, .ref mbn, .ref mbs, .ref mde, .int (nI 0), .int (nI 0), .int (nI 0), .int (nI 0), .long 3, .long 1, .ref maa, .ref mab, .ref mba, .ref mbb]))] H := hP
  replace hD : va_D A [(maa, .inl (cs 1, 9, .inr (.inl (lt4 0 0 1 0)))), (mab, .inl (cs 1, 9, .inr (.inl (lt4 1 1 2 1)))), (mba, .inl (cs 1, 9, .inr (.inl (lt4 0 0 0 0)))), (mbb, .inl (cs 1, 9, .inr (.inl (lt4 1 1 1 1)))), (hm, .inr (12, [.ref ms, .ref mkp, .int (nI 0), .ref mtr, .int (nI 4), .int (nI 2), .int (nI 2), .int (nI 3), .int (nI 2), .int (nI 1), .ref mas, .int (nI 0), .int (nI 0), .int (nI 0), .ref mso, .ref mon, .ref mot, .ref man, .int (nI 0), .int (nI 0), .ref mst, .ref msm, .ref mtb, .ref mti, .ref mfr, .ref mbn, .ref mbs, .ref mde, .int (nI 0), .int (nI 0), .int (nI 0), .int (nI 0), .long 3, .long 1, .ref maa, .ref mab, .ref mba, .ref mbb]))] := hD
  refine lv_aload_n hx hb dX12_laysStep_95 rfl (lv_at hl 2 rfl) ?_
  refine xget C hP 4 rfl rfl zuX12 32 (by decide) zw6_5 rfl dX12_laysStep_96 ?_
  refine lv_lstore (lv' := [(7, .long 3), (5, .long 0), (3, .long 3), (0, .ref hm), (1, .int (nI 3)), (2, .int (nI 0))]) hx hb dX12_laysStep_99 hl (by decide) rfl ?_
  clear hl
  try clear ls
  intro ls hl
  refine lv_aload_n hx hb dX12_laysStep_101 rfl (lv_at hl 3 rfl) ?_
  refine xget C hP 4 rfl rfl zuX12 33 (by decide) zw6_6 rfl dX12_laysStep_102 ?_
  refine lv_lstore (lv' := [(9, .long 1), (7, .long 3), (5, .long 0), (3, .long 3), (0, .ref hm), (1, .int (nI 3)), (2, .int (nI 0))]) hx hb dX12_laysStep_105 hl (by decide) rfl ?_
  clear hl
  try clear ls
  intro ls hl
  refine lv_lload hx hb dX12_laysStep_107 (lv_at hl 1 rfl) ?_
  refine lv_lconst (v := 0) hx hb dX12_laysStep_109 (by decide) ?_
  refine W.lcmp hx hb dX12_laysStep_110 ?_
  refine lv_if_eq (tgt := 121) hx hb dX12_laysStep_111 (by decide) (fun c => absurd c (by decide)) (fun _ => ?_)
  refine lv_aload_n hx hb dX12_laysStep_114 rfl (lv_at hl 4 rfl) ?_
  refine xget C hP 4 rfl rfl zuX12 31 (by decide) zw6_4 rfl dX12_laysStep_115 ?_
  refine lv_if_eq (tgt := 122) hx hb dX12_laysStep_118 (by decide) (fun _ => ?_) (fun c => absurd (by decide) c)
  refine lv_aload_n hx hb dX12_laysStep_122 rfl (lv_at hl 4 rfl) ?_
  refine lv_lload_n hx hb dX12_laysStep_123 rfl (lv_at hl 3 rfl) ?_
  refine lv_lconst (v := 1) hx hb dX12_laysStep_124 (by decide) ?_
  refine lv_lload hx hb dX12_laysStep_125 (lv_at hl 1 rfl) ?_
  refine lv_lload hx hb dX12_laysStep_127 (lv_at hl 0 rfl) ?_
  refine xv (wr := [(maa, .inl (cs 1, 9, .inr (.inl (lt4 0 0 1 0)))), (mab, .inl (cs 1, 9, .inr (.inl (lt4 1 1 2 1)))), (mba, .inl (cs 1, 9, .inr (.inl (lt4 0 0 0 0)))), (mbb, .inl (cs 1, 9, .inr (.inl (lt4 1 1 1 1))))]) (xV (As := [.long 3, .long 1, .long 3, .long 1]) (rest := []) C (c_X12_divides l D cs hm ms mkp mtr mas mso mon mot man mst msm mtb mti mfr mbn mbs mde maa mab mba mbb 3 1 3 1 3 1 3 3 1 1 (by decide +kernel) (by decide +kernel) (by decide +kernel)) kX12_293 hP hD [4] rfl (by decide +kernel) 0 rfl rfl rfl ⟨Nat.le_of_ble_eq_true rfl, Nat.le_of_ble_eq_true rfl⟩ rfl hl.1 rfl (Nat.le_of_ble_eq_true rfl) dX12_laysStep_129 ⟨Nat.le_of_ble_eq_true rfl, Nat.le_of_ble_eq_true rfl⟩) hP hD hS hA [4] [0, 1, 2, 3] rfl rfl (by decide +kernel) (by decide +kernel) ?_
  clear hP hD hS
  try clear locs
  try clear H
  intro u_10 H locs hw_r_9 hP hD hS
  refine W.widen (k := 0) (n := 0) (Nat.le_of_ble_eq_true rfl) (Nat.le_of_ble_eq_true rfl) ?_
  replace hP : va_P D vwCl [(maa, .inl (cs 1, 9, .inr (.inl (lt4 0 0 1 0)))), (mab, .inl (cs 1, 9, .inr (.inl (lt4 1 1 2 1)))), (mba, .inl (cs 1, 9, .inr (.inl (lt4 0 0 0 0)))), (mbb, .inl (cs 1, 9, .inr (.inl (lt4 1 1 1 1)))), (hm, .inr (12, [.ref ms, .ref mkp, .int (nI 0), .ref mtr, .int (nI 4), .int (nI 2), .int (nI 2), .int (nI 3), .int (nI 2), .int (nI 1), .ref mas, .int (nI 0), .int (nI 0), .int (nI 0), .ref mso, .ref mon, .ref mot, .ref man, .int (nI 0), .int (nI 0), .ref mst, .ref msm, .ref mtb, .ref mti, .ref mfr, .ref mbn, .ref mbs, .ref mde, .int (nI 0), .int (nI 0), .int (nI 0), .int (nI 0), .long 1, .long 1, .ref maa, .ref mab, .ref mba, .ref mbb]))] H := hP
  replace hD : va_D A [(maa, .inl (cs 1, 9, .inr (.inl (lt4 0 0 1 0)))), (mab, .inl (cs 1, 9, .inr (.inl (lt4 1 1 2 1)))), (mba, .inl (cs 1, 9, .inr (.inl (lt4 0 0 0 0)))), (mbb, .inl (cs 1, 9, .inr (.inl (lt4 1 1 1 1)))), (hm, .inr (12, [.ref ms, .ref mkp, .int (nI 0), .ref mtr, .int (nI 4), .int (nI 2), .int (nI 2), .int (nI 3), .int (nI 2), .int (nI 1), .ref mas, .int (nI 0), .int (nI 0), .int (nI 0), .ref mso, .ref mon, .ref mot, .ref man, .int (nI 0), .int (nI 0), .ref mst, .ref msm, .ref mtb, .ref mti, .ref mfr, .ref mbn, .ref mbs, .ref mde, .int (nI 0), .int (nI 0), .int (nI 0), .int (nI 0), .long 1, .long 1, .ref maa, .ref mab, .ref mba, .ref mbb]))] := hD
  refine lv_aload_n hx hb dX12_laysStep_132 rfl (lv_at hl 4 rfl) ?_
  refine xget C hP 4 rfl rfl zuX12 34 (by decide) zw6_7 rfl dX12_laysStep_133 ?_
  refine lv_iload_n hx hb dX12_laysStep_136 rfl (lv_at hl 5 rfl) ?_
  refine lv_aload_n hx hb dX12_laysStep_137 rfl (lv_at hl 4 rfl) ?_
  refine xget C hP 4 rfl rfl zuX12 32 (by decide) zw6_5 rfl dX12_laysStep_138 ?_
  refine xlast C hP hD hS 0 rfl 3 rfl (by decide) (by decide) dX12_laysStep_141 ?_
  clear hP hD hS
  try clear locs
  try clear H
  intro H locs hP hD hS
  replace hP : va_P D vwCl [(maa, .inl (cs 1, 9, .inr (.inl (vp_updL (lt4 0 0 1 0) 3 1)))), (mab, .inl (cs 1, 9, .inr (.inl (lt4 1 1 2 1)))), (mba, .inl (cs 1, 9, .inr (.inl (lt4 0 0 0 0)))), (mbb, .inl (cs 1, 9, .inr (.inl (lt4 1 1 1 1)))), (hm, .inr (12, [.ref ms, .ref mkp, .int (nI 0), .ref mtr, .int (nI 4), .int (nI 2), .int (nI 2), .int (nI 3), .int (nI 2), .int (nI 1), .ref mas, .int (nI 0), .int (nI 0), .int (nI 0), .ref mso, .ref mon, .ref mot, .ref man, .int (nI 0), .int (nI 0), .ref mst, .ref msm, .ref mtb, .ref mti, .ref mfr, .ref mbn, .ref mbs, .ref mde, .int (nI 0), .int (nI 0), .int (nI 0), .int (nI 0), .long 1, .long 1, .ref maa, .ref mab, .ref mba, .ref mbb]))] H := hP
  replace hD : va_D A [(maa, .inl (cs 1, 9, .inr (.inl (vp_updL (lt4 0 0 1 0) 3 1)))), (mab, .inl (cs 1, 9, .inr (.inl (lt4 1 1 2 1)))), (mba, .inl (cs 1, 9, .inr (.inl (lt4 0 0 0 0)))), (mbb, .inl (cs 1, 9, .inr (.inl (lt4 1 1 1 1)))), (hm, .inr (12, [.ref ms, .ref mkp, .int (nI 0), .ref mtr, .int (nI 4), .int (nI 2), .int (nI 2), .int (nI 3), .int (nI 2), .int (nI 1), .ref mas, .int (nI 0), .int (nI 0), .int (nI 0), .ref mso, .ref mon, .ref mot, .ref man, .int (nI 0), .int (nI 0), .ref mst, .ref msm, .ref mtb, .ref mti, .ref mfr, .ref mbn, .ref mbs, .ref mde, .int (nI 0), .int (nI 0), .int (nI 0), .int (nI 0), .long 1, .long 1, .ref maa, .ref mab, .ref mba, .ref mbb]))] := hD
  refine lv_aload_n hx hb dX12_laysStep_142 rfl (lv_at hl 4 rfl) ?_
  refine xget C hP 4 rfl rfl zuX12 35 (by decide) zw6_8 rfl dX12_laysStep_143 ?_
  refine lv_iload_n hx hb dX12_laysStep_146 rfl (lv_at hl 5 rfl) ?_
  refine lv_aload_n hx hb dX12_laysStep_147 rfl (lv_at hl 4 rfl) ?_
  refine xget C hP 4 rfl rfl zuX12 33 (by decide) zw6_6 rfl dX12_laysStep_148 ?_
  refine xlast C hP hD hS 1 rfl 3 rfl (by decide) (by decide) dX12_laysStep_151 ?_
  clear hP hD hS
  try clear locs
  try clear H
  intro H locs hP hD hS
  replace hP : va_P D vwCl [(maa, .inl (cs 1, 9, .inr (.inl (vp_updL (lt4 0 0 1 0) 3 1)))), (mab, .inl (cs 1, 9, .inr (.inl (vp_updL (lt4 1 1 2 1) 3 1)))), (mba, .inl (cs 1, 9, .inr (.inl (lt4 0 0 0 0)))), (mbb, .inl (cs 1, 9, .inr (.inl (lt4 1 1 1 1)))), (hm, .inr (12, [.ref ms, .ref mkp, .int (nI 0), .ref mtr, .int (nI 4), .int (nI 2), .int (nI 2), .int (nI 3), .int (nI 2), .int (nI 1), .ref mas, .int (nI 0), .int (nI 0), .int (nI 0), .ref mso, .ref mon, .ref mot, .ref man, .int (nI 0), .int (nI 0), .ref mst, .ref msm, .ref mtb, .ref mti, .ref mfr, .ref mbn, .ref mbs, .ref mde, .int (nI 0), .int (nI 0), .int (nI 0), .int (nI 0), .long 1, .long 1, .ref maa, .ref mab, .ref mba, .ref mbb]))] H := hP
  replace hD : va_D A [(maa, .inl (cs 1, 9, .inr (.inl (vp_updL (lt4 0 0 1 0) 3 1)))), (mab, .inl (cs 1, 9, .inr (.inl (vp_updL (lt4 1 1 2 1) 3 1)))), (mba, .inl (cs 1, 9, .inr (.inl (lt4 0 0 0 0)))), (mbb, .inl (cs 1, 9, .inr (.inl (lt4 1 1 1 1)))), (hm, .inr (12, [.ref ms, .ref mkp, .int (nI 0), .ref mtr, .int (nI 4), .int (nI 2), .int (nI 2), .int (nI 3), .int (nI 2), .int (nI 1), .ref mas, .int (nI 0), .int (nI 0), .int (nI 0), .ref mso, .ref mon, .ref mot, .ref man, .int (nI 0), .int (nI 0), .ref mst, .ref msm, .ref mtb, .ref mti, .ref mfr, .ref mbn, .ref mbs, .ref mde, .int (nI 0), .int (nI 0), .int (nI 0), .int (nI 0), .long 1, .long 1, .ref maa, .ref mab, .ref mba, .ref mbb]))] := hD
  have hPD := xcongl (q0 := 0) (lt4 0 0 1 1) hP hD rfl (fun j hj => (show ∀ j, j < 9 → lt4 0 0 1 1 j = (vp_updL (lt4 0 0 1 0) 3 1) j from by decide) j hj)
  clear hP hD
  obtain ⟨hP, hD⟩ := hPD
  replace hP : va_P D vwCl [(maa, .inl (cs 1, 9, .inr (.inl (lt4 0 0 1 1)))), (mab, .inl (cs 1, 9, .inr (.inl (vp_updL (lt4 1 1 2 1) 3 1)))), (mba, .inl (cs 1, 9, .inr (.inl (lt4 0 0 0 0)))), (mbb, .inl (cs 1, 9, .inr (.inl (lt4 1 1 1 1)))), (hm, .inr (12, [.ref ms, .ref mkp, .int (nI 0), .ref mtr, .int (nI 4), .int (nI 2), .int (nI 2), .int (nI 3), .int (nI 2), .int (nI 1), .ref mas, .int (nI 0), .int (nI 0), .int (nI 0), .ref mso, .ref mon, .ref mot, .ref man, .int (nI 0), .int (nI 0), .ref mst, .ref msm, .ref mtb, .ref mti, .ref mfr, .ref mbn, .ref mbs, .ref mde, .int (nI 0), .int (nI 0), .int (nI 0), .int (nI 0), .long 1, .long 1, .ref maa, .ref mab, .ref mba, .ref mbb]))] H := hP
  replace hD : va_D A [(maa, .inl (cs 1, 9, .inr (.inl (lt4 0 0 1 1)))), (mab, .inl (cs 1, 9, .inr (.inl (vp_updL (lt4 1 1 2 1) 3 1)))), (mba, .inl (cs 1, 9, .inr (.inl (lt4 0 0 0 0)))), (mbb, .inl (cs 1, 9, .inr (.inl (lt4 1 1 1 1)))), (hm, .inr (12, [.ref ms, .ref mkp, .int (nI 0), .ref mtr, .int (nI 4), .int (nI 2), .int (nI 2), .int (nI 3), .int (nI 2), .int (nI 1), .ref mas, .int (nI 0), .int (nI 0), .int (nI 0), .ref mso, .ref mon, .ref mot, .ref man, .int (nI 0), .int (nI 0), .ref mst, .ref msm, .ref mtb, .ref mti, .ref mfr, .ref mbn, .ref mbs, .ref mde, .int (nI 0), .int (nI 0), .int (nI 0), .int (nI 0), .long 1, .long 1, .ref maa, .ref mab, .ref mba, .ref mbb]))] := hD
  have hPD := xcongl (q0 := 1) (lt4 1 1 2 1) hP hD rfl (fun j hj => (show ∀ j, j < 9 → lt4 1 1 2 1 j = (vp_updL (lt4 1 1 2 1) 3 1) j from by decide) j hj)
  clear hP hD
  obtain ⟨hP, hD⟩ := hPD
  replace hP : va_P D vwCl [(maa, .inl (cs 1, 9, .inr (.inl (lt4 0 0 1 1)))), (mab, .inl (cs 1, 9, .inr (.inl (lt4 1 1 2 1)))), (mba, .inl (cs 1, 9, .inr (.inl (lt4 0 0 0 0)))), (mbb, .inl (cs 1, 9, .inr (.inl (lt4 1 1 1 1)))), (hm, .inr (12, [.ref ms, .ref mkp, .int (nI 0), .ref mtr, .int (nI 4), .int (nI 2), .int (nI 2), .int (nI 3), .int (nI 2), .int (nI 1), .ref mas, .int (nI 0), .int (nI 0), .int (nI 0), .ref mso, .ref mon, .ref mot, .ref man, .int (nI 0), .int (nI 0), .ref mst, .ref msm, .ref mtb, .ref mti, .ref mfr, .ref mbn, .ref mbs, .ref mde, .int (nI 0), .int (nI 0), .int (nI 0), .int (nI 0), .long 1, .long 1, .ref maa, .ref mab, .ref mba, .ref mbb]))] H := hP
  replace hD : va_D A [(maa, .inl (cs 1, 9, .inr (.inl (lt4 0 0 1 1)))), (mab, .inl (cs 1, 9, .inr (.inl (lt4 1 1 2 1)))), (mba, .inl (cs 1, 9, .inr (.inl (lt4 0 0 0 0)))), (mbb, .inl (cs 1, 9, .inr (.inl (lt4 1 1 1 1)))), (hm, .inr (12, [.ref ms, .ref mkp, .int (nI 0), .ref mtr, .int (nI 4), .int (nI 2), .int (nI 2), .int (nI 3), .int (nI 2), .int (nI 1), .ref mas, .int (nI 0), .int (nI 0), .int (nI 0), .ref mso, .ref mon, .ref mot, .ref man, .int (nI 0), .int (nI 0), .ref mst, .ref msm, .ref mtb, .ref mti, .ref mfr, .ref mbn, .ref mbs, .ref mde, .int (nI 0), .int (nI 0), .int (nI 0), .int (nI 0), .long 1, .long 1, .ref maa, .ref mab, .ref mba, .ref mbb]))] := hD
  refine lv_aload_n hx hb dX12_laysStep_152 rfl (lv_at hl 4 rfl) ?_
  refine lv_lload hx hb dX12_laysStep_153 (lv_at hl 2 rfl) ?_
  refine lv_lconst (v := 1) hx hb dX12_laysStep_155 (by decide) ?_
  refine lv_aload_n hx hb dX12_laysStep_156 rfl (lv_at hl 4 rfl) ?_
  refine xget C hP 4 rfl rfl zuX12 36 (by decide) zw6_9 rfl dX12_laysStep_157 ?_
  refine lv_iload_n hx hb dX12_laysStep_160 rfl (lv_at hl 5 rfl) ?_
  refine lv_iconst (v := nI 1) hx hb dX12_laysStep_161 (by decide) ?_
  refine lv_isub hx hb dX12_laysStep_162 ?_
  refine lv_topi (nm_r (e' := nI 2) (by decide) ?_)
  refine xlald C hP 2 rfl 2 rfl (by decide) (by decide) dX12_laysStep_163 ?_
  refine lv_topl (nm_r (e' := 0) (by decide) ?_)
  refine lv_aload_n hx hb dX12_laysStep_164 rfl (lv_at hl 4 rfl) ?_
  refine xget C hP 4 rfl rfl zuX12 37 (by decide) zw6_10 rfl dX12_laysStep_165 ?_
  refine lv_iload_n hx hb dX12_laysStep_168 rfl (lv_at hl 5 rfl) ?_
  refine lv_iconst (v := nI 1) hx hb dX12_laysStep_169 (by decide) ?_
  refine lv_isub hx hb dX12_laysStep_170 ?_
  refine lv_topi (nm_r (e' := nI 2) (by decide) ?_)
  refine xlald C hP 3 rfl 2 rfl (by decide) (by decide) dX12_laysStep_171 ?_
  refine lv_topl (nm_r (e' := 1) (by decide) ?_)
  refine xv (wr := [(maa, .inl (cs 1, 9, .inr (.inl (lt4 0 0 1 1)))), (mab, .inl (cs 1, 9, .inr (.inl (lt4 1 1 2 1)))), (mba, .inl (cs 1, 9, .inr (.inl (lt4 0 0 0 0)))), (mbb, .inl (cs 1, 9, .inr (.inl (lt4 1 1 1 1))))]) (xV (As := [.long 0, .long 1, .long 0, .long 1]) (rest := []) C (c_X12_multiplies l D cs hm ms mkp mtr mas mso mon mot man mst msm mtb mti mfr mbn mbs mde maa mab mba mbb 1 1 0 1 0 1 0 1 0 1 (by decide +kernel) (by decide +kernel) (by decide +kernel)) kX12_286 hP hD [4] rfl (by decide +kernel) 0 rfl rfl rfl ⟨Nat.le_of_ble_eq_true rfl, Nat.le_of_ble_eq_true rfl⟩ rfl hl.1 rfl (Nat.le_of_ble_eq_true rfl) dX12_laysStep_172 ⟨Nat.le_of_ble_eq_true rfl, Nat.le_of_ble_eq_true rfl⟩) hP hD hS hA [4] [0, 1, 2, 3] rfl rfl (by decide +kernel) (by decide +kernel) ?_
  clear hP hD hS
  try clear locs
  try clear H
  intro u_12 H locs hw_r_11 hP hD hS
  refine W.widen (k := 0) (n := 0) (Nat.le_of_ble_eq_true rfl) (Nat.le_of_ble_eq_true rfl) ?_
  replace hP : va_P D vwCl [(maa, .inl (cs 1, 9, .inr (.inl (lt4 0 0 1 1)))), (mab, .inl (cs 1, 9, .inr (.inl (lt4 1 1 2 1)))), (mba, .inl (cs 1, 9, .inr (.inl (lt4 0 0 0 0)))), (mbb, .inl (cs 1, 9, .inr (.inl (lt4 1 1 1 1)))), (hm, .inr (12, [.ref ms, .ref mkp, .int (nI 0), .ref mtr, .int (nI 4), .int (nI 2), .int (nI 2), .int (nI 3), .int (nI 2), .int (nI 1), .ref mas, .int (nI 0), .int (nI 0), .int (nI 0), .ref mso, .ref mon, .ref mot, .ref man, .int (nI 0), .int (nI 0), .ref mst, .ref msm, .ref mtb, .ref mti, .ref mfr, .ref mbn, .ref mbs, .ref mde, .int (nI 0), .int (nI 0), .int (nI 0), .int (nI 0), .long 0, .long 1, .ref maa, .ref mab, .ref mba, .ref mbb]))] H := hP
  replace hD : va_D A [(maa, .inl (cs 1, 9, .inr (.inl (lt4 0 0 1 1)))), (mab, .inl (cs 1, 9, .inr (.inl (lt4 1 1 2 1)))), (mba, .inl (cs 1, 9, .inr (.inl (lt4 0 0 0 0)))), (mbb, .inl (cs 1, 9, .inr (.inl (lt4 1 1 1 1)))), (hm, .inr (12, [.ref ms, .ref mkp, .int (nI 0), .ref mtr, .int (nI 4), .int (nI 2), .int (nI 2), .int (nI 3), .int (nI 2), .int (nI 1), .ref mas, .int (nI 0), .int (nI 0), .int (nI 0), .ref mso, .ref mon, .ref mot, .ref man, .int (nI 0), .int (nI 0), .ref mst, .ref msm, .ref mtb, .ref mti, .ref mfr, .ref mbn, .ref mbs, .ref mde, .int (nI 0), .int (nI 0), .int (nI 0), .int (nI 0), .long 0, .long 1, .ref maa, .ref mab, .ref mba, .ref mbb]))] := hD
  refine lv_iload_n hx hb dX12_laysStep_175 rfl (lv_at hl 6 rfl) ?_
  refine lv_if_eq (tgt := 202) hx hb dX12_laysStep_176 (by decide) (fun _ => ?_) (fun c => absurd (by decide) c)
  refine lv_aload_n hx hb dX12_laysStep_202 rfl (lv_at hl 4 rfl) ?_
  refine lv_aload_n hx hb dX12_laysStep_203 rfl (lv_at hl 4 rfl) ?_
  refine xget C hP 4 rfl rfl zuX12 32 (by decide) zw6_5 rfl dX12_laysStep_204 ?_
  refine lv_aload_n hx hb dX12_laysStep_207 rfl (lv_at hl 4 rfl) ?_
  refine xget C hP 4 rfl rfl zuX12 33 (by decide) zw6_6 rfl dX12_laysStep_208 ?_
  refine lv_lload hx hb dX12_laysStep_211 (lv_at hl 1 rfl) ?_
  refine lv_lload hx hb dX12_laysStep_213 (lv_at hl 0 rfl) ?_
  refine xv (wr := [(maa, .inl (cs 1, 9, .inr (.inl (lt4 0 0 1 1)))), (mab, .inl (cs 1, 9, .inr (.inl (lt4 1 1 2 1)))), (mba, .inl (cs 1, 9, .inr (.inl (lt4 0 0 0 0)))), (mbb, .inl (cs 1, 9, .inr (.inl (lt4 1 1 1 1))))]) (xV (As := [.long 0, .long 1, .long 3, .long 1]) (rest := []) C (c_X12_divides l D cs hm ms mkp mtr mas mso mon mot man mst msm mtb mti mfr mbn mbs mde maa mab mba mbb 0 1 0 1 3 1 0 3 0 1 (by decide +kernel) (by decide +kernel) (by decide +kernel)) kX12_293 hP hD [4] rfl (by decide +kernel) 0 rfl rfl rfl ⟨Nat.le_of_ble_eq_true rfl, Nat.le_of_ble_eq_true rfl⟩ rfl hl.1 rfl (Nat.le_of_ble_eq_true rfl) dX12_laysStep_215 ⟨Nat.le_of_ble_eq_true rfl, Nat.le_of_ble_eq_true rfl⟩) hP hD hS hA [4] [0, 1, 2, 3] rfl rfl (by decide +kernel) (by decide +kernel) ?_
  clear hP hD hS
  try clear locs
  try clear H
  intro u_14 H locs hw_r_13 hP hD hS
  refine W.widen (k := 0) (n := 0) (Nat.le_of_ble_eq_true rfl) (Nat.le_of_ble_eq_true rfl) ?_
  replace hP : va_P D vwCl [(maa, .inl (cs 1, 9, .inr (.inl (lt4 0 0 1 1)))), (mab, .inl (cs 1, 9, .inr (.inl (lt4 1 1 2 1)))), (mba, .inl (cs 1, 9, .inr (.inl (lt4 0 0 0 0)))), (mbb, .inl (cs 1, 9, .inr (.inl (lt4 1 1 1 1)))), (hm, .inr (12, [.ref ms, .ref mkp, .int (nI 0), .ref mtr, .int (nI 4), .int (nI 2), .int (nI 2), .int (nI 3), .int (nI 2), .int (nI 1), .ref mas, .int (nI 0), .int (nI 0), .int (nI 0), .ref mso, .ref mon, .ref mot, .ref man, .int (nI 0), .int (nI 0), .ref mst, .ref msm, .ref mtb, .ref mti, .ref mfr, .ref mbn, .ref mbs, .ref mde, .int (nI 0), .int (nI 0), .int (nI 0), .int (nI 0), .long 0, .long 1, .ref maa, .ref mab, .ref mba, .ref mbb]))] H := hP
  replace hD : va_D A [(maa, .inl (cs 1, 9, .inr (.inl (lt4 0 0 1 1)))), (mab, .inl (cs 1, 9, .inr (.inl (lt4 1 1 2 1)))), (mba, .inl (cs 1, 9, .inr (.inl (lt4 0 0 0 0)))), (mbb, .inl (cs 1, 9, .inr (.inl (lt4 1 1 1 1)))), (hm, .inr (12, [.ref ms, .ref mkp, .int (nI 0), .ref mtr, .int (nI 4), .int (nI 2), .int (nI 2), .int (nI 3), .int (nI 2), .int (nI 1), .ref mas, .int (nI 0), .int (nI 0), .int (nI 0), .ref mso, .ref mon, .ref mot, .ref man, .int (nI 0), .int (nI 0), .ref mst, .ref msm, .ref mtb, .ref mti, .ref mfr, .ref mbn, .ref mbs, .ref mde, .int (nI 0), .int (nI 0), .int (nI 0), .int (nI 0), .long 0, .long 1, .ref maa, .ref mab, .ref mba, .ref mbb]))] := hD
  refine lv_aload_n hx hb dX12_laysStep_218 rfl (lv_at hl 4 rfl) ?_
  refine xget C hP 4 rfl rfl zuX12 36 (by decide) zw6_9 rfl dX12_laysStep_219 ?_
  refine lv_iload_n hx hb dX12_laysStep_222 rfl (lv_at hl 5 rfl) ?_
  refine lv_aload_n hx hb dX12_laysStep_223 rfl (lv_at hl 4 rfl) ?_
  refine xget C hP 4 rfl rfl zuX12 32 (by decide) zw6_5 rfl dX12_laysStep_224 ?_
  refine xlast C hP hD hS 2 rfl 3 rfl (by decide) (by decide) dX12_laysStep_227 ?_
  clear hP hD hS
  try clear locs
  try clear H
  intro H locs hP hD hS
  replace hP : va_P D vwCl [(maa, .inl (cs 1, 9, .inr (.inl (lt4 0 0 1 1)))), (mab, .inl (cs 1, 9, .inr (.inl (lt4 1 1 2 1)))), (mba, .inl (cs 1, 9, .inr (.inl (vp_updL (lt4 0 0 0 0) 3 0)))), (mbb, .inl (cs 1, 9, .inr (.inl (lt4 1 1 1 1)))), (hm, .inr (12, [.ref ms, .ref mkp, .int (nI 0), .ref mtr, .int (nI 4), .int (nI 2), .int (nI 2), .int (nI 3), .int (nI 2), .int (nI 1), .ref mas, .int (nI 0), .int (nI 0), .int (nI 0), .ref mso, .ref mon, .ref mot, .ref man, .int (nI 0), .int (nI 0), .ref mst, .ref msm, .ref mtb, .ref mti, .ref mfr, .ref mbn, .ref mbs, .ref mde, .int (nI 0), .int (nI 0), .int (nI 0), .int (nI 0), .long 0, .long 1, .ref maa, .ref mab, .ref mba, .ref mbb]))] H := hP
  replace hD : va_D A [(maa, .inl (cs 1, 9, .inr (.inl (lt4 0 0 1 1)))), (mab, .inl (cs 1, 9, .inr (.inl (lt4 1 1 2 1)))), (mba, .inl (cs 1, 9, .inr (.inl (vp_updL (lt4 0 0 0 0) 3 0)))), (mbb, .inl (cs 1, 9, .inr (.inl (lt4 1 1 1 1)))), (hm, .inr (12, [.ref ms, .ref mkp, .int (nI 0), .ref mtr, .int (nI 4), .int (nI 2), .int (nI 2), .int (nI 3), .int (nI 2), .int (nI 1), .ref mas, .int (nI 0), .int (nI 0), .int (nI 0), .ref mso, .ref mon, .ref mot, .ref man, .int (nI 0), .int (nI 0), .ref mst, .ref msm, .ref mtb, .ref mti, .ref mfr, .ref mbn, .ref mbs, .ref mde, .int (nI 0), .int (nI 0), .int (nI 0), .int (nI 0), .long 0, .long 1, .ref maa, .ref mab, .ref mba, .ref mbb]))] := hD
  refine lv_aload_n hx hb dX12_laysStep_228 rfl (lv_at hl 4 rfl) ?_
  refine xget C hP 4 rfl rfl zuX12 37 (by decide) zw6_10 rfl dX12_laysStep_229 ?_
  refine lv_iload_n hx hb dX12_laysStep_232 rfl (lv_at hl 5 rfl) ?_
  refine lv_aload_n hx hb dX12_laysStep_233 rfl (lv_at hl 4 rfl) ?_
  refine xget C hP 4 rfl rfl zuX12 33 (by decide) zw6_6 rfl dX12_laysStep_234 ?_
  refine xlast C hP hD hS 3 rfl 3 rfl (by decide) (by decide) dX12_laysStep_237 ?_
  clear hP hD hS
  try clear locs
  try clear H
  intro H locs hP hD hS
  replace hP : va_P D vwCl [(maa, .inl (cs 1, 9, .inr (.inl (lt4 0 0 1 1)))), (mab, .inl (cs 1, 9, .inr (.inl (lt4 1 1 2 1)))), (mba, .inl (cs 1, 9, .inr (.inl (vp_updL (lt4 0 0 0 0) 3 0)))), (mbb, .inl (cs 1, 9, .inr (.inl (vp_updL (lt4 1 1 1 1) 3 1)))), (hm, .inr (12, [.ref ms, .ref mkp, .int (nI 0), .ref mtr, .int (nI 4), .int (nI 2), .int (nI 2), .int (nI 3), .int (nI 2), .int (nI 1), .ref mas, .int (nI 0), .int (nI 0), .int (nI 0), .ref mso, .ref mon, .ref mot, .ref man, .int (nI 0), .int (nI 0), .ref mst, .ref msm, .ref mtb, .ref mti, .ref mfr, .ref mbn, .ref mbs, .ref mde, .int (nI 0), .int (nI 0), .int (nI 0), .int (nI 0), .long 0, .long 1, .ref maa, .ref mab, .ref mba, .ref mbb]))] H := hP
  replace hD : va_D A [(maa, .inl (cs 1, 9, .inr (.inl (lt4 0 0 1 1)))), (mab, .inl (cs 1, 9, .inr (.inl (lt4 1 1 2 1)))), (mba, .inl (cs 1, 9, .inr (.inl (vp_updL (lt4 0 0 0 0) 3 0)))), (mbb, .inl (cs 1, 9, .inr (.inl (vp_updL (lt4 1 1 1 1) 3 1)))), (hm, .inr (12, [.ref ms, .ref mkp, .int (nI 0), .ref mtr, .int (nI 4), .int (nI 2), .int (nI 2), .int (nI 3), .int (nI 2), .int (nI 1), .ref mas, .int (nI 0), .int (nI 0), .int (nI 0), .ref mso, .ref mon, .ref mot, .ref man, .int (nI 0), .int (nI 0), .ref mst, .ref msm, .ref mtb, .ref mti, .ref mfr, .ref mbn, .ref mbs, .ref mde, .int (nI 0), .int (nI 0), .int (nI 0), .int (nI 0), .long 0, .long 1, .ref maa, .ref mab, .ref mba, .ref mbb]))] := hD
  have hPD := xcongl (q0 := 2) (lt4 0 0 0 0) hP hD rfl (fun j hj => (show ∀ j, j < 9 → lt4 0 0 0 0 j = (vp_updL (lt4 0 0 0 0) 3 0) j from by decide) j hj)
  clear hP hD
  obtain ⟨hP, hD⟩ := hPD
  replace hP : va_P D vwCl [(maa, .inl (cs 1, 9, .inr (.inl (lt4 0 0 1 1)))), (mab, .inl (cs 1, 9, .inr (.inl (lt4 1 1 2 1)))), (mba, .inl (cs 1, 9, .inr (.inl (lt4 0 0 0 0)))), (mbb, .inl (cs 1, 9, .inr (.inl (vp_updL (lt4 1 1 1 1) 3 1)))), (hm, .inr (12, [.ref ms, .ref mkp, .int (nI 0), .ref mtr, .int (nI 4), .int (nI 2), .int (nI 2), .int (nI 3), .int (nI 2), .int (nI 1), .ref mas, .int (nI 0), .int (nI 0), .int (nI 0), .ref mso, .ref mon, .ref mot, .ref man, .int (nI 0), .int (nI 0), .ref mst, .ref msm, .ref mtb, .ref mti, .ref mfr, .ref mbn, .ref mbs, .ref mde, .int (nI 0), .int (nI 0), .int (nI 0), .int (nI 0), .long 0, .long 1, .ref maa, .ref mab, .ref mba, .ref mbb]))] H := hP
  replace hD : va_D A [(maa, .inl (cs 1, 9, .inr (.inl (lt4 0 0 1 1)))), (mab, .inl (cs 1, 9, .inr (.inl (lt4 1 1 2 1)))), (mba, .inl (cs 1, 9, .inr (.inl (lt4 0 0 0 0)))), (mbb, .inl (cs 1, 9, .inr (.inl (vp_updL (lt4 1 1 1 1) 3 1)))), (hm, .inr (12, [.ref ms, .ref mkp, .int (nI 0), .ref mtr, .int (nI 4), .int (nI 2), .int (nI 2), .int (nI 3), .int (nI 2), .int (nI 1), .ref mas, .int (nI 0), .int (nI 0), .int (nI 0), .ref mso, .ref mon, .ref mot, .ref man, .int (nI 0), .int (nI 0), .ref mst, .ref msm, .ref mtb, .ref mti, .ref mfr, .ref mbn, .ref mbs, .ref mde, .int (nI 0), .int (nI 0), .int (nI 0), .int (nI 0), .long 0, .long 1, .ref maa, .ref mab, .ref mba, .ref mbb]))] := hD
  have hPD := xcongl (q0 := 3) (lt4 1 1 1 1) hP hD rfl (fun j hj => (show ∀ j, j < 9 → lt4 1 1 1 1 j = (vp_updL (lt4 1 1 1 1) 3 1) j from by decide) j hj)
  clear hP hD
  obtain ⟨hP, hD⟩ := hPD
  replace hP : va_P D vwCl [(maa, .inl (cs 1, 9, .inr (.inl (lt4 0 0 1 1)))), (mab, .inl (cs 1, 9, .inr (.inl (lt4 1 1 2 1)))), (mba, .inl (cs 1, 9, .inr (.inl (lt4 0 0 0 0)))), (mbb, .inl (cs 1, 9, .inr (.inl (lt4 1 1 1 1)))), (hm, .inr (12, [.ref ms, .ref mkp, .int (nI 0), .ref mtr, .int (nI 4), .int (nI 2), .int (nI 2), .int (nI 3), .int (nI 2), .int (nI 1), .ref mas, .int (nI 0), .int (nI 0), .int (nI 0), .ref mso, .ref mon, .ref mot, .ref man, .int (nI 0), .int (nI 0), .ref mst, .ref msm, .ref mtb, .ref mti, .ref mfr, .ref mbn, .ref mbs, .ref mde, .int (nI 0), .int (nI 0), .int (nI 0), .int (nI 0), .long 0, .long 1, .ref maa, .ref mab, .ref mba, .ref mbb]))] H := hP
  replace hD : va_D A [(maa, .inl (cs 1, 9, .inr (.inl (lt4 0 0 1 1)))), (mab, .inl (cs 1, 9, .inr (.inl (lt4 1 1 2 1)))), (mba, .inl (cs 1, 9, .inr (.inl (lt4 0 0 0 0)))), (mbb, .inl (cs 1, 9, .inr (.inl (lt4 1 1 1 1)))), (hm, .inr (12, [.ref ms, .ref mkp, .int (nI 0), .ref mtr, .int (nI 4), .int (nI 2), .int (nI 2), .int (nI 3), .int (nI 2), .int (nI 1), .ref mas, .int (nI 0), .int (nI 0), .int (nI 0), .ref mso, .ref mon, .ref mot, .ref man, .int (nI 0), .int (nI 0), .ref mst, .ref msm, .ref mtb, .ref mti, .ref mfr, .ref mbn, .ref mbs, .ref mde, .int (nI 0), .int (nI 0), .int (nI 0), .int (nI 0), .long 0, .long 1, .ref maa, .ref mab, .ref mba, .ref mbb]))] := hD
  exact xretv C () trivial (xP_map hP [4, 0, 1, 2, 3] rfl) (hD.sub [4, 0, 1, 2, 3] (by decide +kernel) rfl) hS (Nat.le_of_ble_eq_true rfl) (Nat.le_of_ble_eq_true rfl) dX12_laysStep_238

set_option maxHeartbeats 4000000 in
set_option maxRecDepth 100000 in
theorem c_X12_laysStep_1_1 (l : Launch) (D : va_G) (cs : Nat → ClassId) (hm ms mkp mtr mas mso mon mot man mst msm mtb mti mfr mbn mbs mde maa mab mba mbb : Nat) (ab be : Int64) : xMet l D cs yX12_laysStep cX12_laysStep 11 none ({ frames := 3, cells := 0, slots := 0, locals := 69 } : Room) [.ref hm, .int (nI 1), .int (nI 1)] [(hm, .inr (12, [.ref ms, .ref mkp, .int (nI 0), .ref mtr, .int (nI 4), .int (nI 2), .int (nI 2), .int (nI 3), .int (nI 2), .int (nI 1), .ref mas, .int (nI 0), .int (nI 0), .int (nI 0), .ref mso, .ref mon, .ref mot, .ref man, .int (nI 0), .int (nI 0), .ref mst, .ref msm, .ref mtb, .ref mti, .ref mfr, .ref mbn, .ref mbs, .ref mde, .int (nI 0), .int (nI 0), .int (nI 0), .int (nI 0), .long ab, .long be, .ref maa, .ref mab, .ref mba, .ref mbb])), (maa, .inl (cs 1, 9, .inr (.inl (lt4 0 0 0 0)))), (mab, .inl (cs 1, 9, .inr (.inl (lt4 1 0 0 0)))), (mba, .inl (cs 1, 9, .inr (.inl (lt4 0 0 0 0)))), (mbb, .inl (cs 1, 9, .inr (.inl (lt4 1 0 0 0))))] (xQv D (fun (_u : Unit) => True) (fun (_u : Unit) => [(hm, .inr (12, [.ref ms, .ref mkp, .int (nI 0), .ref mtr, .int (nI 4), .int (nI 2), .int (nI 2), .int (nI 3), .int (nI 2), .int (nI 1), .ref mas, .int (nI 0), .int (nI 0), .int (nI 0), .ref mso, .ref mon, .ref mot, .ref man, .int (nI 0), .int (nI 0), .ref mst, .ref msm, .ref mtb, .ref mti, .ref mfr, .ref mbn, .ref mbs, .ref mde, .int (nI 0), .int (nI 0), .int (nI 0), .int (nI 0), .long 4, .long 1, .ref maa, .ref mab, .ref mba, .ref mbb])), (maa, .inl (cs 1, 9, .inr (.inl (lt4 0 0 0 0)))), (mab, .inl (cs 1, 9, .inr (.inl (lt4 1 1 0 0)))), (mba, .inl (cs 1, 9, .inr (.inl (lt4 0 4 0 0)))), (mbb, .inl (cs 1, 9, .inr (.inl (lt4 1 1 0 0))))])) := by
  refine xMet.intro (by decide) (Nat.le_of_ble_eq_true rfl) ?_
  intro p e s m args below meth c A ls C hP hD hS hl
  have hx := C.1
  have hb := C.2.1
  have hz := C.2.2.2.2.1
  have hown := C.2.2.2.1
  have hA := C.2.2.2.2.2.2.2.2.2
  have hAO := C.2.2.2.2.2.2.2.2.1.2.2
  replace hl : lv_has ls 11 [(0, .ref hm), (1, .int (nI 1)), (2, .int (nI 1))] := hl
  obtain ⟨H, hH⟩ : ∃ H, H = s.heap := ⟨_, rfl⟩
  replace hP : va_P D vwCl [(hm, .inr (12, [.ref ms, .ref mkp, .int (nI 0), .ref mtr, .int (nI 4), .int (nI 2), .int (nI 2), .int (nI 3), .int (nI 2), .int (nI 1), .ref mas, .int (nI 0), .int (nI 0), .int (nI 0), .ref mso, .ref mon, .ref mot, .ref man, .int (nI 0), .int (nI 0), .ref mst, .ref msm, .ref mtb, .ref mti, .ref mfr, .ref mbn, .ref mbs, .ref mde, .int (nI 0), .int (nI 0), .int (nI 0), .int (nI 0), .long ab, .long be, .ref maa, .ref mab, .ref mba, .ref mbb])), (maa, .inl (cs 1, 9, .inr (.inl (lt4 0 0 0 0)))), (mab, .inl (cs 1, 9, .inr (.inl (lt4 1 0 0 0)))), (mba, .inl (cs 1, 9, .inr (.inl (lt4 0 0 0 0)))), (mbb, .inl (cs 1, 9, .inr (.inl (lt4 1 0 0 0))))] H := by rw [hH]; exact hP
  replace hS : va_S A s.heap H [] := by rw [hH]; exact hS
  obtain ⟨locs, hlocs⟩ : ∃ z : List Loc, z = [] := ⟨_, rfl⟩
  rw [← hlocs] at hS
  suffices hW : W p l e ({ frames := 3, cells := 0, slots := 0, locals := 69 } : Room) s m args below meth c H locs 0 0 (MQ below ((xQv D (fun (_u : Unit) => True) (fun (_u : Unit) => [(hm, .inr (12, [.ref ms, .ref mkp, .int (nI 0), .ref mtr, .int (nI 4), .int (nI 2), .int (nI 2), .int (nI 3), .int (nI 2), .int (nI 1), .ref mas, .int (nI 0), .int (nI 0), .int (nI 0), .ref mso, .ref mon, .ref mot, .ref man, .int (nI 0), .int (nI 0), .ref mst, .ref msm, .ref mtb, .ref mti, .ref mfr, .ref mbn, .ref mbs, .ref mde, .int (nI 0), .int (nI 0), .int (nI 0), .int (nI 0), .long 4, .long 1, .ref maa, .ref mab, .ref mba, .ref mbb])), (maa, .inl (cs 1, 9, .inr (.inl (lt4 0 0 0 0)))), (mab, .inl (cs 1, 9, .inr (.inl (lt4 1 1 0 0)))), (mba, .inl (cs 1, 9, .inr (.inl (lt4 0 4 0 0)))), (mbb, .inl (cs 1, 9, .inr (.inl (lt4 1 1 0 0))))])) A) args s 0 0 A) (F0 m 0 ls []) by rw [hlocs, hH] at hW; exact hW
  clear hH hlocs
  refine lv_aload_n hx hb dX12_laysStep_0 rfl (lv_at hl 0 rfl) ?_
  refine lv_iload_n hx hb dX12_laysStep_1 rfl (lv_at hl 1 rfl) ?_
  refine xl (wr := [(maa, .inl (cs 1, 9, .inr (.inl (lt4 0 0 0 0)))), (mab, .inl (cs 1, 9, .inr (.inl (lt4 1 0 0 0)))), (mba, .inl (cs 1, 9, .inr (.inl (lt4 0 0 0 0)))), (mbb, .inl (cs 1, 9, .inr (.inl (lt4 1 0 0 0))))]) (xV (As := [.int (nI 1)]) (rest := []) C (c_X12_up_1 l D cs hm ms mkp mtr mas mso mon mot man mst msm mtb mti mfr mbn mbs mde maa mab mba mbb ab be) kX12_280 hP hD [0] rfl (by decide +kernel) 0 rfl rfl rfl ⟨Nat.le_of_ble_eq_true rfl, Nat.le_of_ble_eq_true rfl⟩ rfl hl.1 rfl (Nat.le_of_ble_eq_true rfl) dX12_laysStep_2 ⟨Nat.le_of_ble_eq_true rfl, Nat.le_of_ble_eq_true rfl⟩) hP hD hS hA [0] [1, 2, 3, 4] rfl rfl (by decide +kernel) (by decide +kernel) ?_
  clear hP hD hS
  try clear locs
  try clear H
  intro r_1 u_2 H locs hw_r_1 hP hD hS
  have hw_r_1 : r_1 = 0 := hw_r_1
  refine W.widen (k := 0) (n := 0) (Nat.le_of_ble_eq_true rfl) (Nat.le_of_ble_eq_true rfl) ?_
  replace hP : va_P D vwCl [(maa, .inl (cs 1, 9, .inr (.inl (lt4 0 0 0 0)))), (mab, .inl (cs 1, 9, .inr (.inl (lt4 1 0 0 0)))), (mba, .inl (cs 1, 9, .inr (.inl (lt4 0 0 0 0)))), (mbb, .inl (cs 1, 9, .inr (.inl (lt4 1 0 0 0)))), (hm, .inr (12, [.ref ms, .ref mkp, .int (nI 0), .ref mtr, .int (nI 4), .int (nI 2), .int (nI 2), .int (nI 3), .int (nI 2), .int (nI 1), .ref mas, .int (nI 0), .int (nI 0), .int (nI 0), .ref mso, .ref mon, .ref mot, .ref man, .int (nI 0), .int (nI 0), .ref mst, .ref msm, .ref mtb, .ref mti, .ref mfr, .ref mbn, .ref mbs, .ref mde, .int (nI 0), .int (nI 0), .int (nI 0), .int (nI 0), .long ab, .long be, .ref maa, .ref mab, .ref mba, .ref mbb]))] H := hP
  replace hD : va_D A [(maa, .inl (cs 1, 9, .inr (.inl (lt4 0 0 0 0)))), (mab, .inl (cs 1, 9, .inr (.inl (lt4 1 0 0 0)))), (mba, .inl (cs 1, 9, .inr (.inl (lt4 0 0 0 0)))), (mbb, .inl (cs 1, 9, .inr (.inl (lt4 1 0 0 0)))), (hm, .inr (12, [.ref ms, .ref mkp, .int (nI 0), .ref mtr, .int (nI 4), .int (nI 2), .int (nI 2), .int (nI 3), .int (nI 2), .int (nI 1), .ref mas, .int (nI 0), .int (nI 0), .int (nI 0), .ref mso, .ref mon, .ref mot, .ref man, .int (nI 0), .int (nI 0), .ref mst, .ref msm, .ref mtb, .ref mti, .ref mfr, .ref mbn, .ref mbs, .ref mde, .int (nI 0), .int (nI 0), .int (nI 0), .int (nI 0), .long ab, .long be, .ref maa, .ref mab, .ref mba, .ref mbb]))] := hD
  subst hw_r_1
  refine lv_lstore_n (lv' := [(3, .long 0), (0, .ref hm), (1, .int (nI 1)), (2, .int (nI 1))]) hx hb dX12_laysStep_5 rfl hl (by decide) rfl ?_
  clear hl
  try clear ls
  intro ls hl
  refine lv_aload_n hx hb dX12_laysStep_6 rfl (lv_at hl 1 rfl) ?_
  refine lv_iload_n hx hb dX12_laysStep_7 rfl (lv_at hl 2 rfl) ?_
  refine xl (wr := [(maa, .inl (cs 1, 9, .inr (.inl (lt4 0 0 0 0)))), (mab, .inl (cs 1, 9, .inr (.inl (lt4 1 0 0 0)))), (mba, .inl (cs 1, 9, .inr (.inl (lt4 0 0 0 0)))), (mbb, .inl (cs 1, 9, .inr (.inl (lt4 1 0 0 0))))]) (xV (As := [.int (nI 1)]) (rest := []) C (c_X12_down_1 l D cs hm ms mkp mtr mas mso mon mot man mst msm mtb mti mfr mbn mbs mde maa mab mba mbb ab be) kX12_283 hP hD [4] rfl (by decide +kernel) 0 rfl rfl rfl ⟨Nat.le_of_ble_eq_true rfl, Nat.le_of_ble_eq_true rfl⟩ rfl hl.1 rfl (Nat.le_of_ble_eq_true rfl) dX12_laysStep_8 ⟨Nat.le_of_ble_eq_true rfl, Nat.le_of_ble_eq_true rfl⟩) hP hD hS hA [4] [0, 1, 2, 3] rfl rfl (by decide +kernel) (by decide +kernel) ?_
  clear hP hD hS
  try clear locs
  try clear H
  intro r_3 u_4 H locs hw_r_3 hP hD hS
  have hw_r_3 : r_3 = 3 := hw_r_3
  refine W.widen (k := 0) (n := 0) (Nat.le_of_ble_eq_true rfl) (Nat.le_of_ble_eq_true rfl) ?_
  replace hP : va_P D vwCl [(maa, .inl (cs 1, 9, .inr (.inl (lt4 0 0 0 0)))), (mab, .inl (cs 1, 9, .inr (.inl (lt4 1 0 0 0)))), (mba, .inl (cs 1, 9, .inr (.inl (lt4 0 0 0 0)))), (mbb, .inl (cs 1, 9, .inr (.inl (lt4 1 0 0 0)))), (hm, .inr (12, [.ref ms, .ref mkp, .int (nI 0), .ref mtr, .int (nI 4), .int (nI 2), .int (nI 2), .int (nI 3), .int (nI 2), .int (nI 1), .ref mas, .int (nI 0), .int (nI 0), .int (nI 0), .ref mso, .ref mon, .ref mot, .ref man, .int (nI 0), .int (nI 0), .ref mst, .ref msm, .ref mtb, .ref mti, .ref mfr, .ref mbn, .ref mbs, .ref mde, .int (nI 0), .int (nI 0), .int (nI 0), .int (nI 0), .long ab, .long be, .ref maa, .ref mab, .ref mba, .ref mbb]))] H := hP
  replace hD : va_D A [(maa, .inl (cs 1, 9, .inr (.inl (lt4 0 0 0 0)))), (mab, .inl (cs 1, 9, .inr (.inl (lt4 1 0 0 0)))), (mba, .inl (cs 1, 9, .inr (.inl (lt4 0 0 0 0)))), (mbb, .inl (cs 1, 9, .inr (.inl (lt4 1 0 0 0)))), (hm, .inr (12, [.ref ms, .ref mkp, .int (nI 0), .ref mtr, .int (nI 4), .int (nI 2), .int (nI 2), .int (nI 3), .int (nI 2), .int (nI 1), .ref mas, .int (nI 0), .int (nI 0), .int (nI 0), .ref mso, .ref mon, .ref mot, .ref man, .int (nI 0), .int (nI 0), .ref mst, .ref msm, .ref mtb, .ref mti, .ref mfr, .ref mbn, .ref mbs, .ref mde, .int (nI 0), .int (nI 0), .int (nI 0), .int (nI 0), .long ab, .long be, .ref maa, .ref mab, .ref mba, .ref mbb]))] := hD
  subst hw_r_3
  refine lv_lstore (lv' := [(5, .long 3), (3, .long 0), (0, .ref hm), (1, .int (nI 1)), (2, .int (nI 1))]) hx hb dX12_laysStep_11 hl (by decide) rfl ?_
  clear hl
  try clear ls
  intro ls hl
  refine lv_aload_n hx hb dX12_laysStep_13 rfl (lv_at hl 2 rfl) ?_
  refine xget C hP 4 rfl rfl zuX12 34 (by decide) zw6_7 rfl dX12_laysStep_14 ?_
  refine lv_iload_n hx hb dX12_laysStep_17 rfl (lv_at hl 3 rfl) ?_
  refine lv_lconst (v := 0) hx hb dX12_laysStep_18 (by decide) ?_
  refine xlast C hP hD hS 0 rfl 1 rfl (by decide) (by decide) dX12_laysStep_19 ?_
  clear hP hD hS
  try clear locs
  try clear H
  intro H locs hP hD hS
  replace hP : va_P D vwCl [(maa, .inl (cs 1, 9, .inr (.inl (vp_updL (lt4 0 0 0 0) 1 0)))), (mab, .inl (cs 1, 9, .inr (.inl (lt4 1 0 0 0)))), (mba, .inl (cs 1, 9, .inr (.inl (lt4 0 0 0 0)))), (mbb, .inl (cs 1, 9, .inr (.inl (lt4 1 0 0 0)))), (hm, .inr (12, [.ref ms, .ref mkp, .int (nI 0), .ref mtr, .int (nI 4), .int (nI 2), .int (nI 2), .int (nI 3), .int (nI 2), .int (nI 1), .ref mas, .int (nI 0), .int (nI 0), .int (nI 0), .ref mso, .ref mon, .ref mot, .ref man, .int (nI 0), .int (nI 0), .ref mst, .ref msm, .ref mtb, .ref mti, .ref mfr, .ref mbn, .ref mbs, .ref mde, .int (nI 0), .int (nI 0), .int (nI 0), .int (nI 0), .long ab, .long be, .ref maa, .ref mab, .ref mba, .ref mbb]))] H := hP
  replace hD : va_D A [(maa, .inl (cs 1, 9, .inr (.inl (vp_updL (lt4 0 0 0 0) 1 0)))), (mab, .inl (cs 1, 9, .inr (.inl (lt4 1 0 0 0)))), (mba, .inl (cs 1, 9, .inr (.inl (lt4 0 0 0 0)))), (mbb, .inl (cs 1, 9, .inr (.inl (lt4 1 0 0 0)))), (hm, .inr (12, [.ref ms, .ref mkp, .int (nI 0), .ref mtr, .int (nI 4), .int (nI 2), .int (nI 2), .int (nI 3), .int (nI 2), .int (nI 1), .ref mas, .int (nI 0), .int (nI 0), .int (nI 0), .ref mso, .ref mon, .ref mot, .ref man, .int (nI 0), .int (nI 0), .ref mst, .ref msm, .ref mtb, .ref mti, .ref mfr, .ref mbn, .ref mbs, .ref mde, .int (nI 0), .int (nI 0), .int (nI 0), .int (nI 0), .long ab, .long be, .ref maa, .ref mab, .ref mba, .ref mbb]))] := hD
  refine lv_aload_n hx hb dX12_laysStep_20 rfl (lv_at hl 2 rfl) ?_
  refine xget C hP 4 rfl rfl zuX12 35 (by decide) zw6_8 rfl dX12_laysStep_21 ?_
  refine lv_iload_n hx hb dX12_laysStep_24 rfl (lv_at hl 3 rfl) ?_
  refine lv_lconst (v := 1) hx hb dX12_laysStep_25 (by decide) ?_
  refine xlast C hP hD hS 1 rfl 1 rfl (by decide) (by decide) dX12_laysStep_26 ?_
  clear hP hD hS
  try clear locs
  try clear H
  intro H locs hP hD hS
  replace hP : va_P D vwCl [(maa, .inl (cs 1, 9, .inr (.inl (vp_updL (lt4 0 0 0 0) 1 0)))), (mab, .inl (cs 1, 9, .inr (.inl (vp_updL (lt4 1 0 0 0) 1 1)))), (mba, .inl (cs 1, 9, .inr (.inl (lt4 0 0 0 0)))), (mbb, .inl (cs 1, 9, .inr (.inl (lt4 1 0 0 0)))), (hm, .inr (12, [.ref ms, .ref mkp, .int (nI 0), .ref mtr, .int (nI 4), .int (nI 2), .int (nI 2), .int (nI 3), .int (nI 2), .int (nI 1), .ref mas, .int (nI 0), .int (nI 0), .int (nI 0), .ref mso, .ref mon, .ref mot, .ref man, .int (nI 0), .int (nI 0), .ref mst, .ref msm, .ref mtb, .ref mti, .ref mfr, .ref mbn, .ref mbs, .ref mde, .int (nI 0), .int (nI 0), .int (nI 0), .int (nI 0), .long ab, .long be, .ref maa, .ref mab, .ref mba, .ref mbb]))] H := hP
  replace hD : va_D A [(maa, .inl (cs 1, 9, .inr (.inl (vp_updL (lt4 0 0 0 0) 1 0)))), (mab, .inl (cs 1, 9, .inr (.inl (vp_updL (lt4 1 0 0 0) 1 1)))), (mba, .inl (cs 1, 9, .inr (.inl (lt4 0 0 0 0)))), (mbb, .inl (cs 1, 9, .inr (.inl (lt4 1 0 0 0)))), (hm, .inr (12, [.ref ms, .ref mkp, .int (nI 0), .ref mtr, .int (nI 4), .int (nI 2), .int (nI 2), .int (nI 3), .int (nI 2), .int (nI 1), .ref mas, .int (nI 0), .int (nI 0), .int (nI 0), .ref mso, .ref mon, .ref mot, .ref man, .int (nI 0), .int (nI 0), .ref mst, .ref msm, .ref mtb, .ref mti, .ref mfr, .ref mbn, .ref mbs, .ref mde, .int (nI 0), .int (nI 0), .int (nI 0), .int (nI 0), .long ab, .long be, .ref maa, .ref mab, .ref mba, .ref mbb]))] := hD
  refine lv_aload_n hx hb dX12_laysStep_27 rfl (lv_at hl 2 rfl) ?_
  refine xget C hP 4 rfl rfl zuX12 36 (by decide) zw6_9 rfl dX12_laysStep_28 ?_
  refine lv_iload_n hx hb dX12_laysStep_31 rfl (lv_at hl 3 rfl) ?_
  refine lv_lconst (v := 0) hx hb dX12_laysStep_32 (by decide) ?_
  refine xlast C hP hD hS 2 rfl 1 rfl (by decide) (by decide) dX12_laysStep_33 ?_
  clear hP hD hS
  try clear locs
  try clear H
  intro H locs hP hD hS
  replace hP : va_P D vwCl [(maa, .inl (cs 1, 9, .inr (.inl (vp_updL (lt4 0 0 0 0) 1 0)))), (mab, .inl (cs 1, 9, .inr (.inl (vp_updL (lt4 1 0 0 0) 1 1)))), (mba, .inl (cs 1, 9, .inr (.inl (vp_updL (lt4 0 0 0 0) 1 0)))), (mbb, .inl (cs 1, 9, .inr (.inl (lt4 1 0 0 0)))), (hm, .inr (12, [.ref ms, .ref mkp, .int (nI 0), .ref mtr, .int (nI 4), .int (nI 2), .int (nI 2), .int (nI 3), .int (nI 2), .int (nI 1), .ref mas, .int (nI 0), .int (nI 0), .int (nI 0), .ref mso, .ref mon, .ref mot, .ref man, .int (nI 0), .int (nI 0), .ref mst, .ref msm, .ref mtb, .ref mti, .ref mfr, .ref mbn, .ref mbs, .ref mde, .int (nI 0), .int (nI 0), .int (nI 0), .int (nI 0), .long ab, .long be, .ref maa, .ref mab, .ref mba, .ref mbb]))] H := hP
  replace hD : va_D A [(maa, .inl (cs 1, 9, .inr (.inl (vp_updL (lt4 0 0 0 0) 1 0)))), (mab, .inl (cs 1, 9, .inr (.inl (vp_updL (lt4 1 0 0 0) 1 1)))), (mba, .inl (cs 1, 9, .inr (.inl (vp_updL (lt4 0 0 0 0) 1 0)))), (mbb, .inl (cs 1, 9, .inr (.inl (lt4 1 0 0 0)))), (hm, .inr (12, [.ref ms, .ref mkp, .int (nI 0), .ref mtr, .int (nI 4), .int (nI 2), .int (nI 2), .int (nI 3), .int (nI 2), .int (nI 1), .ref mas, .int (nI 0), .int (nI 0), .int (nI 0), .ref mso, .ref mon, .ref mot, .ref man, .int (nI 0), .int (nI 0), .ref mst, .ref msm, .ref mtb, .ref mti, .ref mfr, .ref mbn, .ref mbs, .ref mde, .int (nI 0), .int (nI 0), .int (nI 0), .int (nI 0), .long ab, .long be, .ref maa, .ref mab, .ref mba, .ref mbb]))] := hD
  refine lv_aload_n hx hb dX12_laysStep_34 rfl (lv_at hl 2 rfl) ?_
  refine xget C hP 4 rfl rfl zuX12 37 (by decide) zw6_10 rfl dX12_laysStep_35 ?_
  refine lv_iload_n hx hb dX12_laysStep_38 rfl (lv_at hl 3 rfl) ?_
  refine lv_lconst (v := 1) hx hb dX12_laysStep_39 (by decide) ?_
  refine xlast C hP hD hS 3 rfl 1 rfl (by decide) (by decide) dX12_laysStep_40 ?_
  clear hP hD hS
  try clear locs
  try clear H
  intro H locs hP hD hS
  replace hP : va_P D vwCl [(maa, .inl (cs 1, 9, .inr (.inl (vp_updL (lt4 0 0 0 0) 1 0)))), (mab, .inl (cs 1, 9, .inr (.inl (vp_updL (lt4 1 0 0 0) 1 1)))), (mba, .inl (cs 1, 9, .inr (.inl (vp_updL (lt4 0 0 0 0) 1 0)))), (mbb, .inl (cs 1, 9, .inr (.inl (vp_updL (lt4 1 0 0 0) 1 1)))), (hm, .inr (12, [.ref ms, .ref mkp, .int (nI 0), .ref mtr, .int (nI 4), .int (nI 2), .int (nI 2), .int (nI 3), .int (nI 2), .int (nI 1), .ref mas, .int (nI 0), .int (nI 0), .int (nI 0), .ref mso, .ref mon, .ref mot, .ref man, .int (nI 0), .int (nI 0), .ref mst, .ref msm, .ref mtb, .ref mti, .ref mfr, .ref mbn, .ref mbs, .ref mde, .int (nI 0), .int (nI 0), .int (nI 0), .int (nI 0), .long ab, .long be, .ref maa, .ref mab, .ref mba, .ref mbb]))] H := hP
  replace hD : va_D A [(maa, .inl (cs 1, 9, .inr (.inl (vp_updL (lt4 0 0 0 0) 1 0)))), (mab, .inl (cs 1, 9, .inr (.inl (vp_updL (lt4 1 0 0 0) 1 1)))), (mba, .inl (cs 1, 9, .inr (.inl (vp_updL (lt4 0 0 0 0) 1 0)))), (mbb, .inl (cs 1, 9, .inr (.inl (vp_updL (lt4 1 0 0 0) 1 1)))), (hm, .inr (12, [.ref ms, .ref mkp, .int (nI 0), .ref mtr, .int (nI 4), .int (nI 2), .int (nI 2), .int (nI 3), .int (nI 2), .int (nI 1), .ref mas, .int (nI 0), .int (nI 0), .int (nI 0), .ref mso, .ref mon, .ref mot, .ref man, .int (nI 0), .int (nI 0), .ref mst, .ref msm, .ref mtb, .ref mti, .ref mfr, .ref mbn, .ref mbs, .ref mde, .int (nI 0), .int (nI 0), .int (nI 0), .int (nI 0), .long ab, .long be, .ref maa, .ref mab, .ref mba, .ref mbb]))] := hD
  have hPD := xcongl (q0 := 0) (lt4 0 0 0 0) hP hD rfl (fun j hj => (show ∀ j, j < 9 → lt4 0 0 0 0 j = (vp_updL (lt4 0 0 0 0) 1 0) j from by decide) j hj)
  clear hP hD
  obtain ⟨hP, hD⟩ := hPD
  replace hP : va_P D vwCl [(maa, .inl (cs 1, 9, .inr (.inl (lt4 0 0 0 0)))), (mab, .inl (cs 1, 9, .inr (.inl (vp_updL (lt4 1 0 0 0) 1 1)))), (mba, .inl (cs 1, 9, .inr (.inl (vp_updL (lt4 0 0 0 0) 1 0)))), (mbb, .inl (cs 1, 9, .inr (.inl (vp_updL (lt4 1 0 0 0) 1 1)))), (hm, .inr (12, [.ref ms, .ref mkp, .int (nI 0), .ref mtr, .int (nI 4), .int (nI 2), .int (nI 2), .int (nI 3), .int (nI 2), .int (nI 1), .ref mas, .int (nI 0), .int (nI 0), .int (nI 0), .ref mso, .ref mon, .ref mot, .ref man, .int (nI 0), .int (nI 0), .ref mst, .ref msm, .ref mtb, .ref mti, .ref mfr, .ref mbn, .ref mbs, .ref mde, .int (nI 0), .int (nI 0), .int (nI 0), .int (nI 0), .long ab, .long be, .ref maa, .ref mab, .ref mba, .ref mbb]))] H := hP
  replace hD : va_D A [(maa, .inl (cs 1, 9, .inr (.inl (lt4 0 0 0 0)))), (mab, .inl (cs 1, 9, .inr (.inl (vp_updL (lt4 1 0 0 0) 1 1)))), (mba, .inl (cs 1, 9, .inr (.inl (vp_updL (lt4 0 0 0 0) 1 0)))), (mbb, .inl (cs 1, 9, .inr (.inl (vp_updL (lt4 1 0 0 0) 1 1)))), (hm, .inr (12, [.ref ms, .ref mkp, .int (nI 0), .ref mtr, .int (nI 4), .int (nI 2), .int (nI 2), .int (nI 3), .int (nI 2), .int (nI 1), .ref mas, .int (nI 0), .int (nI 0), .int (nI 0), .ref mso, .ref mon, .ref mot, .ref man, .int (nI 0), .int (nI 0), .ref mst, .ref msm, .ref mtb, .ref mti, .ref mfr, .ref mbn, .ref mbs, .ref mde, .int (nI 0), .int (nI 0), .int (nI 0), .int (nI 0), .long ab, .long be, .ref maa, .ref mab, .ref mba, .ref mbb]))] := hD
  have hPD := xcongl (q0 := 1) (lt4 1 1 0 0) hP hD rfl (fun j hj => (show ∀ j, j < 9 → lt4 1 1 0 0 j = (vp_updL (lt4 1 0 0 0) 1 1) j from by decide) j hj)
  clear hP hD
  obtain ⟨hP, hD⟩ := hPD
  replace hP : va_P D vwCl [(maa, .inl (cs 1, 9, .inr (.inl (lt4 0 0 0 0)))), (mab, .inl (cs 1, 9, .inr (.inl (lt4 1 1 0 0)))), (mba, .inl (cs 1, 9, .inr (.inl (vp_updL (lt4 0 0 0 0) 1 0)))), (mbb, .inl (cs 1, 9, .inr (.inl (vp_updL (lt4 1 0 0 0) 1 1)))), (hm, .inr (12, [.ref ms, .ref mkp, .int (nI 0), .ref mtr, .int (nI 4), .int (nI 2), .int (nI 2), .int (nI 3), .int (nI 2), .int (nI 1), .ref mas, .int (nI 0), .int (nI 0), .int (nI 0), .ref mso, .ref mon, .ref mot, .ref man, .int (nI 0), .int (nI 0), .ref mst, .ref msm, .ref mtb, .ref mti, .ref mfr, .ref mbn, .ref mbs, .ref mde, .int (nI 0), .int (nI 0), .int (nI 0), .int (nI 0), .long ab, .long be, .ref maa, .ref mab, .ref mba, .ref mbb]))] H := hP
  replace hD : va_D A [(maa, .inl (cs 1, 9, .inr (.inl (lt4 0 0 0 0)))), (mab, .inl (cs 1, 9, .inr (.inl (lt4 1 1 0 0)))), (mba, .inl (cs 1, 9, .inr (.inl (vp_updL (lt4 0 0 0 0) 1 0)))), (mbb, .inl (cs 1, 9, .inr (.inl (vp_updL (lt4 1 0 0 0) 1 1)))), (hm, .inr (12, [.ref ms, .ref mkp, .int (nI 0), .ref mtr, .int (nI 4), .int (nI 2), .int (nI 2), .int (nI 3), .int (nI 2), .int (nI 1), .ref mas, .int (nI 0), .int (nI 0), .int (nI 0), .ref mso, .ref mon, .ref mot, .ref man, .int (nI 0), .int (nI 0), .ref mst, .ref msm, .ref mtb, .ref mti, .ref mfr, .ref mbn, .ref mbs, .ref mde, .int (nI 0), .int (nI 0), .int (nI 0), .int (nI 0), .long ab, .long be, .ref maa, .ref mab, .ref mba, .ref mbb]))] := hD
  have hPD := xcongl (q0 := 2) (lt4 0 0 0 0) hP hD rfl (fun j hj => (show ∀ j, j < 9 → lt4 0 0 0 0 j = (vp_updL (lt4 0 0 0 0) 1 0) j from by decide) j hj)
  clear hP hD
  obtain ⟨hP, hD⟩ := hPD
  replace hP : va_P D vwCl [(maa, .inl (cs 1, 9, .inr (.inl (lt4 0 0 0 0)))), (mab, .inl (cs 1, 9, .inr (.inl (lt4 1 1 0 0)))), (mba, .inl (cs 1, 9, .inr (.inl (lt4 0 0 0 0)))), (mbb, .inl (cs 1, 9, .inr (.inl (vp_updL (lt4 1 0 0 0) 1 1)))), (hm, .inr (12, [.ref ms, .ref mkp, .int (nI 0), .ref mtr, .int (nI 4), .int (nI 2), .int (nI 2), .int (nI 3), .int (nI 2), .int (nI 1), .ref mas, .int (nI 0), .int (nI 0), .int (nI 0), .ref mso, .ref mon, .ref mot, .ref man, .int (nI 0), .int (nI 0), .ref mst, .ref msm, .ref mtb, .ref mti, .ref mfr, .ref mbn, .ref mbs, .ref mde, .int (nI 0), .int (nI 0), .int (nI 0), .int (nI 0), .long ab, .long be, .ref maa, .ref mab, .ref mba, .ref mbb]))] H := hP
  replace hD : va_D A [(maa, .inl (cs 1, 9, .inr (.inl (lt4 0 0 0 0)))), (mab, .inl (cs 1, 9, .inr (.inl (lt4 1 1 0 0)))), (mba, .inl (cs 1, 9, .inr (.inl (lt4 0 0 0 0)))), (mbb, .inl (cs 1, 9, .inr (.inl (vp_updL (lt4 1 0 0 0) 1 1)))), (hm, .inr (12, [.ref ms, .ref mkp, .int (nI 0), .ref mtr, .int (nI 4), .int (nI 2), .int (nI 2), .int (nI 3), .int (nI 2), .int (nI 1), .ref mas, .int (nI 0), .int (nI 0), .int (nI 0), .ref mso, .ref mon, .ref mot, .ref man, .int (nI 0), .int (nI 0), .ref mst, .ref msm, .ref mtb, .ref mti, .ref mfr, .ref mbn, .ref mbs, .ref mde, .int (nI 0), .int (nI 0), .int (nI 0), .int (nI 0), .long ab, .long be, .ref maa, .ref mab, .ref mba, .ref mbb]))] := hD
  have hPD := xcongl (q0 := 3) (lt4 1 1 0 0) hP hD rfl (fun j hj => (show ∀ j, j < 9 → lt4 1 1 0 0 j = (vp_updL (lt4 1 0 0 0) 1 1) j from by decide) j hj)
  clear hP hD
  obtain ⟨hP, hD⟩ := hPD
  replace hP : va_P D vwCl [(maa, .inl (cs 1, 9, .inr (.inl (lt4 0 0 0 0)))), (mab, .inl (cs 1, 9, .inr (.inl (lt4 1 1 0 0)))), (mba, .inl (cs 1, 9, .inr (.inl (lt4 0 0 0 0)))), (mbb, .inl (cs 1, 9, .inr (.inl (lt4 1 1 0 0)))), (hm, .inr (12, [.ref ms, .ref mkp, .int (nI 0), .ref mtr, .int (nI 4), .int (nI 2), .int (nI 2), .int (nI 3), .int (nI 2), .int (nI 1), .ref mas, .int (nI 0), .int (nI 0), .int (nI 0), .ref mso, .ref mon, .ref mot, .ref man, .int (nI 0), .int (nI 0), .ref mst, .ref msm, .ref mtb, .ref mti, .ref mfr, .ref mbn, .ref mbs, .ref mde, .int (nI 0), .int (nI 0), .int (nI 0), .int (nI 0), .long ab, .long be, .ref maa, .ref mab, .ref mba, .ref mbb]))] H := hP
  replace hD : va_D A [(maa, .inl (cs 1, 9, .inr (.inl (lt4 0 0 0 0)))), (mab, .inl (cs 1, 9, .inr (.inl (lt4 1 1 0 0)))), (mba, .inl (cs 1, 9, .inr (.inl (lt4 0 0 0 0)))), (mbb, .inl (cs 1, 9, .inr (.inl (lt4 1 1 0 0)))), (hm, .inr (12, [.ref ms, .ref mkp, .int (nI 0), .ref mtr, .int (nI 4), .int (nI 2), .int (nI 2), .int (nI 3), .int (nI 2), .int (nI 1), .ref mas, .int (nI 0), .int (nI 0), .int (nI 0), .ref mso, .ref mon, .ref mot, .ref man, .int (nI 0), .int (nI 0), .ref mst, .ref msm, .ref mtb, .ref mti, .ref mfr, .ref mbn, .ref mbs, .ref mde, .int (nI 0), .int (nI 0), .int (nI 0), .int (nI 0), .long ab, .long be, .ref maa, .ref mab, .ref mba, .ref mbb]))] := hD
  refine lv_lload_n hx hb dX12_laysStep_41 rfl (lv_at hl 1 rfl) ?_
  refine lv_lconst (v := 0) hx hb dX12_laysStep_42 (by decide) ?_
  refine W.lcmp hx hb dX12_laysStep_43 ?_
  refine lv_if_ne (tgt := 55) hx hb dX12_laysStep_44 (by decide) (fun c => absurd (by decide) c) (fun _ => ?_)
  refine lv_lload hx hb dX12_laysStep_47 (lv_at hl 0 rfl) ?_
  refine lv_lconst (v := 0) hx hb dX12_laysStep_49 (by decide) ?_
  refine W.lcmp hx hb dX12_laysStep_50 ?_
  refine lv_if_ne (tgt := 55) hx hb dX12_laysStep_51 (by decide) (fun _ => ?_) (fun c => absurd c (by decide))
  refine lv_aload_n hx hb dX12_laysStep_55 rfl (lv_at hl 2 rfl) ?_
  refine lv_lload hx hb dX12_laysStep_56 (lv_at hl 0 rfl) ?_
  refine lv_lconst (v := 1) hx hb dX12_laysStep_58 (by decide) ?_
  refine lv_aload_n hx hb dX12_laysStep_59 rfl (lv_at hl 2 rfl) ?_
  refine xget C hP 4 rfl rfl zuX12 34 (by decide) zw6_7 rfl dX12_laysStep_60 ?_
  refine lv_iload_n hx hb dX12_laysStep_63 rfl (lv_at hl 3 rfl) ?_
  refine lv_iconst (v := nI 1) hx hb dX12_laysStep_64 (by decide) ?_
  refine lv_isub hx hb dX12_laysStep_65 ?_
  refine lv_topi (nm_r (e' := nI 0) (by decide) ?_)
  refine xlald C hP 0 rfl 0 rfl (by decide) (by decide) dX12_laysStep_66 ?_
  refine lv_topl (nm_r (e' := 0) (by decide) ?_)
  refine lv_aload_n hx hb dX12_laysStep_67 rfl (lv_at hl 2 rfl) ?_
  refine xget C hP 4 rfl rfl zuX12 35 (by decide) zw6_8 rfl dX12_laysStep_68 ?_
  refine lv_iload_n hx hb dX12_laysStep_71 rfl (lv_at hl 3 rfl) ?_
  refine lv_iconst (v := nI 1) hx hb dX12_laysStep_72 (by decide) ?_
  refine lv_isub hx hb dX12_laysStep_73 ?_
  refine lv_topi (nm_r (e' := nI 0) (by decide) ?_)
  refine xlald C hP 1 rfl 0 rfl (by decide) (by decide) dX12_laysStep_74 ?_
  refine lv_topl (nm_r (e' := 1) (by decide) ?_)
  refine xv (wr := [(maa, .inl (cs 1, 9, .inr (.inl (lt4 0 0 0 0)))), (mab, .inl (cs 1, 9, .inr (.inl (lt4 1 1 0 0)))), (mba, .inl (cs 1, 9, .inr (.inl (lt4 0 0 0 0)))), (mbb, .inl (cs 1, 9, .inr (.inl (lt4 1 1 0 0))))]) (xV (As := [.long 3, .long 1, .long 0, .long 1]) (rest := []) C (c_X12_multiplies l D cs hm ms mkp mtr mas mso mon mot man mst msm mtb mti mfr mbn mbs mde maa mab mba mbb ab be 3 1 0 1 0 1 0 1 (by decide +kernel) (by decide +kernel) (by decide +kernel)) kX12_286 hP hD [4] rfl (by decide +kernel) 0 rfl rfl rfl ⟨Nat.le_of_ble_eq_true rfl, Nat.le_of_ble_eq_true rfl⟩ rfl hl.1 rfl (Nat.le_of_ble_eq_true rfl) dX12_laysStep_75 ⟨Nat.le_of_ble_eq_true rfl, Nat.le_of_ble_eq_true rfl⟩) hP hD hS hA [4] [0, 1, 2, 3] rfl rfl (by decide +kernel) (by decide +kernel) ?_
  clear hP hD hS
  try clear locs
  try clear H
  intro u_6 H locs hw_r_5 hP hD hS
  refine W.widen (k := 0) (n := 0) (Nat.le_of_ble_eq_true rfl) (Nat.le_of_ble_eq_true rfl) ?_
  replace hP : va_P D vwCl [(maa, .inl (cs 1, 9, .inr (.inl (lt4 0 0 0 0)))), (mab, .inl (cs 1, 9, .inr (.inl (lt4 1 1 0 0)))), (mba, .inl (cs 1, 9, .inr (.inl (lt4 0 0 0 0)))), (mbb, .inl (cs 1, 9, .inr (.inl (lt4 1 1 0 0)))), (hm, .inr (12, [.ref ms, .ref mkp, .int (nI 0), .ref mtr, .int (nI 4), .int (nI 2), .int (nI 2), .int (nI 3), .int (nI 2), .int (nI 1), .ref mas, .int (nI 0), .int (nI 0), .int (nI 0), .ref mso, .ref mon, .ref mot, .ref man, .int (nI 0), .int (nI 0), .ref mst, .ref msm, .ref mtb, .ref mti, .ref mfr, .ref mbn, .ref mbs, .ref mde, .int (nI 0), .int (nI 0), .int (nI 0), .int (nI 0), .long 0, .long 1, .ref maa, .ref mab, .ref mba, .ref mbb]))] H := hP
  replace hD : va_D A [(maa, .inl (cs 1, 9, .inr (.inl (lt4 0 0 0 0)))), (mab, .inl (cs 1, 9, .inr (.inl (lt4 1 1 0 0)))), (mba, .inl (cs 1, 9, .inr (.inl (lt4 0 0 0 0)))), (mbb, .inl (cs 1, 9, .inr (.inl (lt4 1 1 0 0)))), (hm, .inr (12, [.ref ms, .ref mkp, .int (nI 0), .ref mtr, .int (nI 4), .int (nI 2), .int (nI 2), .int (nI 3), .int (nI 2), .int (nI 1), .ref mas, .int (nI 0), .int (nI 0), .int (nI 0), .ref mso, .ref mon, .ref mot, .ref man, .int (nI 0), .int (nI 0), .ref mst, .ref msm, .ref mtb, .ref mti, .ref mfr, .ref mbn, .ref mbs, .ref mde, .int (nI 0), .int (nI 0), .int (nI 0), .int (nI 0), .long 0, .long 1, .ref maa, .ref mab, .ref mba, .ref mbb]))] := hD
  refine lv_aload_n hx hb dX12_laysStep_78 rfl (lv_at hl 2 rfl) ?_
  refine lv_lload_n hx hb dX12_laysStep_79 rfl (lv_at hl 1 rfl) ?_
  refine lv_lload hx hb dX12_laysStep_80 (lv_at hl 0 rfl) ?_
  refine lv_ladd hx hb dX12_laysStep_82 ?_
  refine lv_topl (nm_r (e' := 3) (by decide) ?_)
  refine lv_lconst (v := 1) hx hb dX12_laysStep_83 (by decide) ?_
  refine lv_aload_n hx hb dX12_laysStep_84 rfl (lv_at hl 2 rfl) ?_
  refine xget C hP 4 rfl rfl zuX12 32 (by decide) zw6_5 rfl dX12_laysStep_85 ?_
  refine lv_aload_n hx hb dX12_laysStep_88 rfl (lv_at hl 2 rfl) ?_
  refine xget C hP 4 rfl rfl zuX12 33 (by decide) zw6_6 rfl dX12_laysStep_89 ?_
  refine xv (wr := [(maa, .inl (cs 1, 9, .inr (.inl (lt4 0 0 0 0)))), (mab, .inl (cs 1, 9, .inr (.inl (lt4 1 1 0 0)))), (mba, .inl (cs 1, 9, .inr (.inl (lt4 0 0 0 0)))), (mbb, .inl (cs 1, 9, .inr (.inl (lt4 1 1 0 0))))]) (xV (As := [.long 3, .long 1, .long 0, .long 1]) (rest := []) C (c_X12_lessens l D cs hm ms mkp mtr mas mso mon mot man mst msm mtb mti mfr mbn mbs mde maa mab mba mbb 0 1 3 1 0 1 3 0 3 1 3 1 (by decide +kernel) (by decide +kernel) (by decide +kernel) (by decide +kernel) (by decide +kernel) (by decide +kernel)) kX12_290 hP hD [4] rfl (by decide +kernel) 0 rfl rfl rfl ⟨Nat.le_of_ble_eq_true rfl, Nat.le_of_ble_eq_true rfl⟩ rfl hl.1 rfl (Nat.le_of_ble_eq_true rfl) dX12_laysStep_92 ⟨Nat.le_of_ble_eq_true rfl, Nat.le_of_ble_eq_true rfl⟩) hP hD hS hA [4] [0, 1, 2, 3] rfl rfl (by decide +kernel) (by decide +kernel) ?_
  clear hP hD hS
  try clear locs
  try clear H
  intro u_8 H locs hw_r_7 hP hD hS
  refine W.widen (k := 0) (n := 0) (Nat.le_of_ble_eq_true rfl) (Nat.le_of_ble_eq_true rfl) ?_
  replace hP : va_P D vwCl [(maa, .inl (cs 1, 9, .inr (.inl (lt4 0 0 0 0)))), (mab, .inl (cs 1, 9, .inr (.inl (lt4 1 1 0 0)))), (mba, .inl (cs 1, 9, .inr (.inl (lt4 0 0 0 0)))), (mbb, .inl (cs 1, 9, .inr (.inl (lt4 1 1 0 0)))), (hm, .inr (12, [.ref ms, .ref mkp, .int (nI 0), .ref mtr, .int (nI 4), .int (nI 2), .int (nI 2), .int (nI 3), .int (nI 2), .int (nI 1), .ref mas, .int (nI 0), .int (nI 0), .int (nI 0), .ref mso, .ref mon, .ref mot, .ref man, .int (nI 0), .int (nI 0), .ref mst, .ref msm, .ref mtb, .ref mti, .ref mfr, .ref mbn, .ref mbs, .ref mde, .int (nI 0), .int (nI 0), .int (nI 0), .int (nI 0), .long 3, .long 1, .ref maa, .ref mab, .ref mba, .ref mbb]))] H := hP
  replace hD : va_D A [(maa, .inl (cs 1, 9, .inr (.inl (lt4 0 0 0 0)))), (mab, .inl (cs 1, 9, .inr (.inl (lt4 1 1 0 0)))), (mba, .inl (cs 1, 9, .inr (.inl (lt4 0 0 0 0)))), (mbb, .inl (cs 1, 9, .inr (.inl (lt4 1 1 0 0)))), (hm, .inr (12, [.ref ms, .ref mkp, .int (nI 0), .ref mtr, .int (nI 4), .int (nI 2), .int (nI 2), .int (nI 3), .int (nI 2), .int (nI 1), .ref mas, .int (nI 0), .int (nI 0), .int (nI 0), .ref mso, .ref mon, .ref mot, .ref man, .int (nI 0), .int (nI 0), .ref mst, .ref msm, .ref mtb, .ref mti, .ref mfr, .ref mbn, .ref mbs, .ref mde, .int (nI 0), .int (nI 0), .int (nI 0), .int (nI 0), .long 3, .long 1, .ref maa, .ref mab, .ref mba, .ref mbb]))] := hD
  refine lv_aload_n hx hb dX12_laysStep_95 rfl (lv_at hl 2 rfl) ?_
  refine xget C hP 4 rfl rfl zuX12 32 (by decide) zw6_5 rfl dX12_laysStep_96 ?_
  refine lv_lstore (lv' := [(7, .long 3), (5, .long 3), (3, .long 0), (0, .ref hm), (1, .int (nI 1)), (2, .int (nI 1))]) hx hb dX12_laysStep_99 hl (by decide) rfl ?_
  clear hl
  try clear ls
  intro ls hl
  refine lv_aload_n hx hb dX12_laysStep_101 rfl (lv_at hl 3 rfl) ?_
  refine xget C hP 4 rfl rfl zuX12 33 (by decide) zw6_6 rfl dX12_laysStep_102 ?_
  refine lv_lstore (lv' := [(9, .long 1), (7, .long 3), (5, .long 3), (3, .long 0), (0, .ref hm), (1, .int (nI 1)), (2, .int (nI 1))]) hx hb dX12_laysStep_105 hl (by decide) rfl ?_
  clear hl
  try clear ls
  intro ls hl
  refine lv_lload hx hb dX12_laysStep_107 (lv_at hl 1 rfl) ?_
  refine lv_lconst (v := 0) hx hb dX12_laysStep_109 (by decide) ?_
  refine W.lcmp hx hb dX12_laysStep_110 ?_
  refine lv_if_eq (tgt := 121) hx hb dX12_laysStep_111 (by decide) (fun c => absurd c (by decide)) (fun _ => ?_)
  refine lv_aload_n hx hb dX12_laysStep_114 rfl (lv_at hl 4 rfl) ?_
  refine xget C hP 4 rfl rfl zuX12 31 (by decide) zw6_4 rfl dX12_laysStep_115 ?_
  refine lv_if_eq (tgt := 122) hx hb dX12_laysStep_118 (by decide) (fun _ => ?_) (fun c => absurd (by decide) c)
  refine lv_aload_n hx hb dX12_laysStep_122 rfl (lv_at hl 4 rfl) ?_
  refine lv_lload_n hx hb dX12_laysStep_123 rfl (lv_at hl 3 rfl) ?_
  refine lv_lconst (v := 1) hx hb dX12_laysStep_124 (by decide) ?_
  refine lv_lload hx hb dX12_laysStep_125 (lv_at hl 1 rfl) ?_
  refine lv_lload hx hb dX12_laysStep_127 (lv_at hl 0 rfl) ?_
  refine xv (wr := [(maa, .inl (cs 1, 9, .inr (.inl (lt4 0 0 0 0)))), (mab, .inl (cs 1, 9, .inr (.inl (lt4 1 1 0 0)))), (mba, .inl (cs 1, 9, .inr (.inl (lt4 0 0 0 0)))), (mbb, .inl (cs 1, 9, .inr (.inl (lt4 1 1 0 0))))]) (xV (As := [.long 0, .long 1, .long 3, .long 1]) (rest := []) C (c_X12_divides l D cs hm ms mkp mtr mas mso mon mot man mst msm mtb mti mfr mbn mbs mde maa mab mba mbb 3 1 0 1 3 1 0 3 0 1 (by decide +kernel) (by decide +kernel) (by decide +kernel)) kX12_293 hP hD [4] rfl (by decide +kernel) 0 rfl rfl rfl ⟨Nat.le_of_ble_eq_true rfl, Nat.le_of_ble_eq_true rfl⟩ rfl hl.1 rfl (Nat.le_of_ble_eq_true rfl) dX12_laysStep_129 ⟨Nat.le_of_ble_eq_true rfl, Nat.le_of_ble_eq_true rfl⟩) hP hD hS hA [4] [0, 1, 2, 3] rfl rfl (by decide +kernel) (by decide +kernel) ?_
  clear hP hD hS
  try clear locs
  try clear H
  intro u_10 H locs hw_r_9 hP hD hS
  refine W.widen (k := 0) (n := 0) (Nat.le_of_ble_eq_true rfl) (Nat.le_of_ble_eq_true rfl) ?_
  replace hP : va_P D vwCl [(maa, .inl (cs 1, 9, .inr (.inl (lt4 0 0 0 0)))), (mab, .inl (cs 1, 9, .inr (.inl (lt4 1 1 0 0)))), (mba, .inl (cs 1, 9, .inr (.inl (lt4 0 0 0 0)))), (mbb, .inl (cs 1, 9, .inr (.inl (lt4 1 1 0 0)))), (hm, .inr (12, [.ref ms, .ref mkp, .int (nI 0), .ref mtr, .int (nI 4), .int (nI 2), .int (nI 2), .int (nI 3), .int (nI 2), .int (nI 1), .ref mas, .int (nI 0), .int (nI 0), .int (nI 0), .ref mso, .ref mon, .ref mot, .ref man, .int (nI 0), .int (nI 0), .ref mst, .ref msm, .ref mtb, .ref mti, .ref mfr, .ref mbn, .ref mbs, .ref mde, .int (nI 0), .int (nI 0), .int (nI 0), .int (nI 0), .long 0, .long 1, .ref maa, .ref mab, .ref mba, .ref mbb]))] H := hP
  replace hD : va_D A [(maa, .inl (cs 1, 9, .inr (.inl (lt4 0 0 0 0)))), (mab, .inl (cs 1, 9, .inr (.inl (lt4 1 1 0 0)))), (mba, .inl (cs 1, 9, .inr (.inl (lt4 0 0 0 0)))), (mbb, .inl (cs 1, 9, .inr (.inl (lt4 1 1 0 0)))), (hm, .inr (12, [.ref ms, .ref mkp, .int (nI 0), .ref mtr, .int (nI 4), .int (nI 2), .int (nI 2), .int (nI 3), .int (nI 2), .int (nI 1), .ref mas, .int (nI 0), .int (nI 0), .int (nI 0), .ref mso, .ref mon, .ref mot, .ref man, .int (nI 0), .int (nI 0), .ref mst, .ref msm, .ref mtb, .ref mti, .ref mfr, .ref mbn, .ref mbs, .ref mde, .int (nI 0), .int (nI 0), .int (nI 0), .int (nI 0), .long 0, .long 1, .ref maa, .ref mab, .ref mba, .ref mbb]))] := hD
  refine lv_aload_n hx hb dX12_laysStep_132 rfl (lv_at hl 4 rfl) ?_
  refine xget C hP 4 rfl rfl zuX12 34 (by decide) zw6_7 rfl dX12_laysStep_133 ?_
  refine lv_iload_n hx hb dX12_laysStep_136 rfl (lv_at hl 5 rfl) ?_
  refine lv_aload_n hx hb dX12_laysStep_137 rfl (lv_at hl 4 rfl) ?_
  refine xget C hP 4 rfl rfl zuX12 32 (by decide) zw6_5 rfl dX12_laysStep_138 ?_
  refine xlast C hP hD hS 0 rfl 1 rfl (by decide) (by decide) dX12_laysStep_141 ?_
  clear hP hD hS
  try clear locs
  try clear H
  intro H locs hP hD hS
  replace hP : va_P D vwCl [(maa, .inl (cs 1, 9, .inr (.inl (vp_updL (lt4 0 0 0 0) 1 0)))), (mab, .inl (cs 1, 9, .inr (.inl (lt4 1 1 0 0)))), (mba, .inl (cs 1, 9, .inr (.inl (lt4 0 0 0 0)))), (mbb, .inl (cs 1, 9, .inr (.inl (lt4 1 1 0 0)))), (hm, .inr (12, [.ref ms, .ref mkp, .int (nI 0), .ref mtr, .int (nI 4), .int (nI 2), .int (nI 2), .int (nI 3), .int (nI 2), .int (nI 1), .ref mas, .int (nI 0), .int (nI 0), .int (nI 0), .ref mso, .ref mon, .ref mot, .ref man, .int (nI 0), .int (nI 0), .ref mst, .ref msm, .ref mtb, .ref mti, .ref mfr, .ref mbn, .ref mbs, .ref mde, .int (nI 0), .int (nI 0), .int (nI 0), .int (nI 0), .long 0, .long 1, .ref maa, .ref mab, .ref mba, .ref mbb]))] H := hP
  replace hD : va_D A [(maa, .inl (cs 1, 9, .inr (.inl (vp_updL (lt4 0 0 0 0) 1 0)))), (mab, .inl (cs 1, 9, .inr (.inl (lt4 1 1 0 0)))), (mba, .inl (cs 1, 9, .inr (.inl (lt4 0 0 0 0)))), (mbb, .inl (cs 1, 9, .inr (.inl (lt4 1 1 0 0)))), (hm, .inr (12, [.ref ms, .ref mkp, .int (nI 0), .ref mtr, .int (nI 4), .int (nI 2), .int (nI 2), .int (nI 3), .int (nI 2), .int (nI 1), .ref mas, .int (nI 0), .int (nI 0), .int (nI 0), .ref mso, .ref mon, .ref mot, .ref man, .int (nI 0), .int (nI 0), .ref mst, .ref msm, .ref mtb, .ref mti, .ref mfr, .ref mbn, .ref mbs, .ref mde, .int (nI 0), .int (nI 0), .int (nI 0), .int (nI 0), .long 0, .long 1, .ref maa, .ref mab, .ref mba, .ref mbb]))] := hD
  refine lv_aload_n hx hb dX12_laysStep_142 rfl (lv_at hl 4 rfl) ?_
  refine xget C hP 4 rfl rfl zuX12 35 (by decide) zw6_8 rfl dX12_laysStep_143 ?_
  refine lv_iload_n hx hb dX12_laysStep_146 rfl (lv_at hl 5 rfl) ?_
  refine lv_aload_n hx hb dX12_laysStep_147 rfl (lv_at hl 4 rfl) ?_
  refine xget C hP 4 rfl rfl zuX12 33 (by decide) zw6_6 rfl dX12_laysStep_148 ?_
  refine xlast C hP hD hS 1 rfl 1 rfl (by decide) (by decide) dX12_laysStep_151 ?_
  clear hP hD hS
  try clear locs
  try clear H
  intro H locs hP hD hS
  replace hP : va_P D vwCl [(maa, .inl (cs 1, 9, .inr (.inl (vp_updL (lt4 0 0 0 0) 1 0)))), (mab, .inl (cs 1, 9, .inr (.inl (vp_updL (lt4 1 1 0 0) 1 1)))), (mba, .inl (cs 1, 9, .inr (.inl (lt4 0 0 0 0)))), (mbb, .inl (cs 1, 9, .inr (.inl (lt4 1 1 0 0)))), (hm, .inr (12, [.ref ms, .ref mkp, .int (nI 0), .ref mtr, .int (nI 4), .int (nI 2), .int (nI 2), .int (nI 3), .int (nI 2), .int (nI 1), .ref mas, .int (nI 0), .int (nI 0), .int (nI 0), .ref mso, .ref mon, .ref mot, .ref man, .int (nI 0), .int (nI 0), .ref mst, .ref msm, .ref mtb, .ref mti, .ref mfr, .ref mbn, .ref mbs, .ref mde, .int (nI 0), .int (nI 0), .int (nI 0), .int (nI 0), .long 0, .long 1, .ref maa, .ref mab, .ref mba, .ref mbb]))] H := hP
  replace hD : va_D A [(maa, .inl (cs 1, 9, .inr (.inl (vp_updL (lt4 0 0 0 0) 1 0)))), (mab, .inl (cs 1, 9, .inr (.inl (vp_updL (lt4 1 1 0 0) 1 1)))), (mba, .inl (cs 1, 9, .inr (.inl (lt4 0 0 0 0)))), (mbb, .inl (cs 1, 9, .inr (.inl (lt4 1 1 0 0)))), (hm, .inr (12, [.ref ms, .ref mkp, .int (nI 0), .ref mtr, .int (nI 4), .int (nI 2), .int (nI 2), .int (nI 3), .int (nI 2), .int (nI 1), .ref mas, .int (nI 0), .int (nI 0), .int (nI 0), .ref mso, .ref mon, .ref mot, .ref man, .int (nI 0), .int (nI 0), .ref mst, .ref msm, .ref mtb, .ref mti, .ref mfr, .ref mbn, .ref mbs, .ref mde, .int (nI 0), .int (nI 0), .int (nI 0), .int (nI 0), .long 0, .long 1, .ref maa, .ref mab, .ref mba, .ref mbb]))] := hD
  have hPD := xcongl (q0 := 0) (lt4 0 0 0 0) hP hD rfl (fun j hj => (show ∀ j, j < 9 → lt4 0 0 0 0 j = (vp_updL (lt4 0 0 0 0) 1 0) j from by decide) j hj)
  clear hP hD
  obtain ⟨hP, hD⟩ := hPD
  replace hP : va_P D vwCl [(maa, .inl (cs 1, 9, .inr (.inl (lt4 0 0 0 0)))), (mab, .inl (cs 1, 9, .inr (.inl (vp_updL (lt4 1 1 0 0) 1 1)))), (mba, .inl (cs 1, 9, .inr (.inl (lt4 0 0 0 0)))), (mbb, .inl (cs 1, 9, .inr (.inl (lt4 1 1 0 0)))), (hm, .inr (12, [.ref ms, .ref mkp, .int (nI 0), .ref mtr, .int (nI 4), .int (nI 2), .int (nI 2), .int (nI 3), .int (nI 2), .int (nI 1), .ref mas, .int (nI 0), .int (nI 0), .int (nI 0), .ref mso, .ref mon, .ref mot, .ref man, .int (nI 0), .int (nI 0), .ref mst, .ref msm, .ref mtb, .ref mti, .ref mfr, .ref mbn, .ref mbs, .ref mde, .int (nI 0), .int (nI 0), .int (nI 0), .int (nI 0), .long 0, .long 1, .ref maa, .ref mab, .ref mba, .ref mbb]))] H := hP
  replace hD : va_D A [(maa, .inl (cs 1, 9, .inr (.inl (lt4 0 0 0 0)))), (mab, .inl (cs 1, 9, .inr (.inl (vp_updL (lt4 1 1 0 0) 1 1)))), (mba, .inl (cs 1, 9, .inr (.inl (lt4 0 0 0 0)))), (mbb, .inl (cs 1, 9, .inr (.inl (lt4 1 1 0 0)))), (hm, .inr (12, [.ref ms, .ref mkp, .int (nI 0), .ref mtr, .int (nI 4), .int (nI 2), .int (nI 2), .int (nI 3), .int (nI 2), .int (nI 1), .ref mas, .int (nI 0), .int (nI 0), .int (nI 0), .ref mso, .ref mon, .ref mot, .ref man, .int (nI 0), .int (nI 0), .ref mst, .ref msm, .ref mtb, .ref mti, .ref mfr, .ref mbn, .ref mbs, .ref mde, .int (nI 0), .int (nI 0), .int (nI 0), .int (nI 0), .long 0, .long 1, .ref maa, .ref mab, .ref mba, .ref mbb]))] := hD
  have hPD := xcongl (q0 := 1) (lt4 1 1 0 0) hP hD rfl (fun j hj => (show ∀ j, j < 9 → lt4 1 1 0 0 j = (vp_updL (lt4 1 1 0 0) 1 1) j from by decide) j hj)
  clear hP hD
  obtain ⟨hP, hD⟩ := hPD
  replace hP : va_P D vwCl [(maa, .inl (cs 1, 9, .inr (.inl (lt4 0 0 0 0)))), (mab, .inl (cs 1, 9, .inr (.inl (lt4 1 1 0 0)))), (mba, .inl (cs 1, 9, .inr (.inl (lt4 0 0 0 0)))), (mbb, .inl (cs 1, 9, .inr (.inl (lt4 1 1 0 0)))), (hm, .inr (12, [.ref ms, .ref mkp, .int (nI 0), .ref mtr, .int (nI 4), .int (nI 2), .int (nI 2), .int (nI 3), .int (nI 2), .int (nI 1), .ref mas, .int (nI 0), .int (nI 0), .int (nI 0), .ref mso, .ref mon, .ref mot, .ref man, .int (nI 0), .int (nI 0), .ref mst, .ref msm, .ref mtb, .ref mti, .ref mfr, .ref mbn, .ref mbs, .ref mde, .int (nI 0), .int (nI 0), .int (nI 0), .int (nI 0), .long 0, .long 1, .ref maa, .ref mab, .ref mba, .ref mbb]))] H := hP
  replace hD : va_D A [(maa, .inl (cs 1, 9, .inr (.inl (lt4 0 0 0 0)))), (mab, .inl (cs 1, 9, .inr (.inl (lt4 1 1 0 0)))), (mba, .inl (cs 1, 9, .inr (.inl (lt4 0 0 0 0)))), (mbb, .inl (cs 1, 9, .inr (.inl (lt4 1 1 0 0)))), (hm, .inr (12, [.ref ms, .ref mkp, .int (nI 0), .ref mtr, .int (nI 4), .int (nI 2), .int (nI 2), .int (nI 3), .int (nI 2), .int (nI 1), .ref mas, .int (nI 0), .int (nI 0), .int (nI 0), .ref mso, .ref mon, .ref mot, .ref man, .int (nI 0), .int (nI 0), .ref mst, .ref msm, .ref mtb, .ref mti, .ref mfr, .ref mbn, .ref mbs, .ref mde, .int (nI 0), .int (nI 0), .int (nI 0), .int (nI 0), .long 0, .long 1, .ref maa, .ref mab, .ref mba, .ref mbb]))] := hD
  refine lv_aload_n hx hb dX12_laysStep_152 rfl (lv_at hl 4 rfl) ?_
  refine lv_lload hx hb dX12_laysStep_153 (lv_at hl 2 rfl) ?_
  refine lv_lconst (v := 1) hx hb dX12_laysStep_155 (by decide) ?_
  refine lv_aload_n hx hb dX12_laysStep_156 rfl (lv_at hl 4 rfl) ?_
  refine xget C hP 4 rfl rfl zuX12 36 (by decide) zw6_9 rfl dX12_laysStep_157 ?_
  refine lv_iload_n hx hb dX12_laysStep_160 rfl (lv_at hl 5 rfl) ?_
  refine lv_iconst (v := nI 1) hx hb dX12_laysStep_161 (by decide) ?_
  refine lv_isub hx hb dX12_laysStep_162 ?_
  refine lv_topi (nm_r (e' := nI 0) (by decide) ?_)
  refine xlald C hP 2 rfl 0 rfl (by decide) (by decide) dX12_laysStep_163 ?_
  refine lv_topl (nm_r (e' := 0) (by decide) ?_)
  refine lv_aload_n hx hb dX12_laysStep_164 rfl (lv_at hl 4 rfl) ?_
  refine xget C hP 4 rfl rfl zuX12 37 (by decide) zw6_10 rfl dX12_laysStep_165 ?_
  refine lv_iload_n hx hb dX12_laysStep_168 rfl (lv_at hl 5 rfl) ?_
  refine lv_iconst (v := nI 1) hx hb dX12_laysStep_169 (by decide) ?_
  refine lv_isub hx hb dX12_laysStep_170 ?_
  refine lv_topi (nm_r (e' := nI 0) (by decide) ?_)
  refine xlald C hP 3 rfl 0 rfl (by decide) (by decide) dX12_laysStep_171 ?_
  refine lv_topl (nm_r (e' := 1) (by decide) ?_)
  refine xv (wr := [(maa, .inl (cs 1, 9, .inr (.inl (lt4 0 0 0 0)))), (mab, .inl (cs 1, 9, .inr (.inl (lt4 1 1 0 0)))), (mba, .inl (cs 1, 9, .inr (.inl (lt4 0 0 0 0)))), (mbb, .inl (cs 1, 9, .inr (.inl (lt4 1 1 0 0))))]) (xV (As := [.long 3, .long 1, .long 0, .long 1]) (rest := []) C (c_X12_multiplies l D cs hm ms mkp mtr mas mso mon mot man mst msm mtb mti mfr mbn mbs mde maa mab mba mbb 0 1 3 1 0 1 0 1 0 1 (by decide +kernel) (by decide +kernel) (by decide +kernel)) kX12_286 hP hD [4] rfl (by decide +kernel) 0 rfl rfl rfl ⟨Nat.le_of_ble_eq_true rfl, Nat.le_of_ble_eq_true rfl⟩ rfl hl.1 rfl (Nat.le_of_ble_eq_true rfl) dX12_laysStep_172 ⟨Nat.le_of_ble_eq_true rfl, Nat.le_of_ble_eq_true rfl⟩) hP hD hS hA [4] [0, 1, 2, 3] rfl rfl (by decide +kernel) (by decide +kernel) ?_
  clear hP hD hS
  try clear locs
  try clear H
  intro u_12 H locs hw_r_11 hP hD hS
  refine W.widen (k := 0) (n := 0) (Nat.le_of_ble_eq_true rfl) (Nat.le_of_ble_eq_true rfl) ?_
  replace hP : va_P D vwCl [(maa, .inl (cs 1, 9, .inr (.inl (lt4 0 0 0 0)))), (mab, .inl (cs 1, 9, .inr (.inl (lt4 1 1 0 0)))), (mba, .inl (cs 1, 9, .inr (.inl (lt4 0 0 0 0)))), (mbb, .inl (cs 1, 9, .inr (.inl (lt4 1 1 0 0)))), (hm, .inr (12, [.ref ms, .ref mkp, .int (nI 0), .ref mtr, .int (nI 4), .int (nI 2), .int (nI 2), .int (nI 3), .int (nI 2), .int (nI 1), .ref mas, .int (nI 0), .int (nI 0), .int (nI 0), .ref mso, .ref mon, .ref mot, .ref man, .int (nI 0), .int (nI 0), .ref mst, .ref msm, .ref mtb, .ref mti, .ref mfr, .ref mbn, .ref mbs, .ref mde, .int (nI 0), .int (nI 0), .int (nI 0), .int (nI 0), .long 0, .long 1, .ref maa, .ref mab, .ref mba, .ref mbb]))] H := hP
  replace hD : va_D A [(maa, .inl (cs 1, 9, .inr (.inl (lt4 0 0 0 0)))), (mab, .inl (cs 1, 9, .inr (.inl (lt4 1 1 0 0)))), (mba, .inl (cs 1, 9, .inr (.inl (lt4 0 0 0 0)))), (mbb, .inl (cs 1, 9, .inr (.inl (lt4 1 1 0 0)))), (hm, .inr (12, [.ref ms, .ref mkp, .int (nI 0), .ref mtr, .int (nI 4), .int (nI 2), .int (nI 2), .int (nI 3), .int (nI 2), .int (nI 1), .ref mas, .int (nI 0), .int (nI 0), .int (nI 0), .ref mso, .ref mon, .ref mot, .ref man, .int (nI 0), .int (nI 0), .ref mst, .ref msm, .ref mtb, .ref mti, .ref mfr, .ref mbn, .ref mbs, .ref mde, .int (nI 0), .int (nI 0), .int (nI 0), .int (nI 0), .long 0, .long 1, .ref maa, .ref mab, .ref mba, .ref mbb]))] := hD
  refine lv_iload_n hx hb dX12_laysStep_175 rfl (lv_at hl 6 rfl) ?_
  refine lv_if_eq (tgt := 202) hx hb dX12_laysStep_176 (by decide) (fun c => absurd c (by decide)) (fun _ => ?_)
  refine lv_aload_n hx hb dX12_laysStep_179 rfl (lv_at hl 4 rfl) ?_
  refine lv_aload_n hx hb dX12_laysStep_180 rfl (lv_at hl 4 rfl) ?_
  refine xget C hP 4 rfl rfl zuX12 4 (by decide) zw5_217 rfl dX12_laysStep_181 ?_
  refine lv_i2l hx hb dX12_laysStep_184 rfl ?_
  refine lv_aload_n hx hb dX12_laysStep_185 rfl (lv_at hl 4 rfl) ?_
  refine xl (wr := [(maa, .inl (cs 1, 9, .inr (.inl (lt4 0 0 0 0)))), (mab, .inl (cs 1, 9, .inr (.inl (lt4 1 1 0 0)))), (mba, .inl (cs 1, 9, .inr (.inl (lt4 0 0 0 0)))), (mbb, .inl (cs 1, 9, .inr (.inl (lt4 1 1 0 0))))]) (xV (As := []) (rest := [.long ((nI 4).toInt64), .ref hm]) C (c_X12_samples_c l D cs hm ms mkp mtr mas mso mon mot man mst msm mtb mti mfr mbn mbs mde maa mab mba mbb 0 1) kX12_180 hP hD [4] rfl (by decide +kernel) 0 rfl rfl rfl ⟨Nat.le_of_ble_eq_true rfl, Nat.le_of_ble_eq_true rfl⟩ rfl hl.1 rfl (Nat.le_of_ble_eq_true rfl) dX12_laysStep_186 ⟨Nat.le_of_ble_eq_true rfl, Nat.le_of_ble_eq_true rfl⟩) hP hD hS hA [4] [0, 1, 2, 3] rfl rfl (by decide +kernel) (by decide +kernel) ?_
  clear hP hD hS
  try clear locs
  try clear H
  intro r_13 u_14 H locs hw_r_13 hP hD hS
  have hw_r_13 : r_13 = 3 := hw_r_13
  refine W.widen (k := 0) (n := 0) (Nat.le_of_ble_eq_true rfl) (Nat.le_of_ble_eq_true rfl) ?_
  replace hP : va_P D vwCl [(maa, .inl (cs 1, 9, .inr (.inl (lt4 0 0 0 0)))), (mab, .inl (cs 1, 9, .inr (.inl (lt4 1 1 0 0)))), (mba, .inl (cs 1, 9, .inr (.inl (lt4 0 0 0 0)))), (mbb, .inl (cs 1, 9, .inr (.inl (lt4 1 1 0 0)))), (hm, .inr (12, [.ref ms, .ref mkp, .int (nI 0), .ref mtr, .int (nI 4), .int (nI 2), .int (nI 2), .int (nI 3), .int (nI 2), .int (nI 1), .ref mas, .int (nI 0), .int (nI 0), .int (nI 0), .ref mso, .ref mon, .ref mot, .ref man, .int (nI 0), .int (nI 0), .ref mst, .ref msm, .ref mtb, .ref mti, .ref mfr, .ref mbn, .ref mbs, .ref mde, .int (nI 0), .int (nI 0), .int (nI 0), .int (nI 0), .long 0, .long 1, .ref maa, .ref mab, .ref mba, .ref mbb]))] H := hP
  replace hD : va_D A [(maa, .inl (cs 1, 9, .inr (.inl (lt4 0 0 0 0)))), (mab, .inl (cs 1, 9, .inr (.inl (lt4 1 1 0 0)))), (mba, .inl (cs 1, 9, .inr (.inl (lt4 0 0 0 0)))), (mbb, .inl (cs 1, 9, .inr (.inl (lt4 1 1 0 0)))), (hm, .inr (12, [.ref ms, .ref mkp, .int (nI 0), .ref mtr, .int (nI 4), .int (nI 2), .int (nI 2), .int (nI 3), .int (nI 2), .int (nI 1), .ref mas, .int (nI 0), .int (nI 0), .int (nI 0), .ref mso, .ref mon, .ref mot, .ref man, .int (nI 0), .int (nI 0), .ref mst, .ref msm, .ref mtb, .ref mti, .ref mfr, .ref mbn, .ref mbs, .ref mde, .int (nI 0), .int (nI 0), .int (nI 0), .int (nI 0), .long 0, .long 1, .ref maa, .ref mab, .ref mba, .ref mbb]))] := hD
  subst hw_r_13
  refine lv_lmul hx hb dX12_laysStep_189 ?_
  refine lv_topl (nm_r (e' := 12) (by decide) ?_)
  refine lv_lconst (v := 1) hx hb dX12_laysStep_190 (by decide) ?_
  refine lv_aload_n hx hb dX12_laysStep_191 rfl (lv_at hl 4 rfl) ?_
  refine xget C hP 4 rfl rfl zuX12 32 (by decide) zw6_5 rfl dX12_laysStep_192 ?_
  refine lv_aload_n hx hb dX12_laysStep_195 rfl (lv_at hl 4 rfl) ?_
  refine xget C hP 4 rfl rfl zuX12 33 (by decide) zw6_6 rfl dX12_laysStep_196 ?_
  refine xv (wr := [(maa, .inl (cs 1, 9, .inr (.inl (lt4 0 0 0 0)))), (mab, .inl (cs 1, 9, .inr (.inl (lt4 1 1 0 0)))), (mba, .inl (cs 1, 9, .inr (.inl (lt4 0 0 0 0)))), (mbb, .inl (cs 1, 9, .inr (.inl (lt4 1 1 0 0))))]) (xV (As := [.long 12, .long 1, .long 0, .long 1]) (rest := []) C (c_X12_adds l D cs hm ms mkp mtr mas mso mon mot man mst msm mtb mti mfr mbn mbs mde maa mab mba mbb 0 1 12 1 0 1 12 0 12 1 12 1 (by decide +kernel) (by decide +kernel) (by decide +kernel) (by decide +kernel) (by decide +kernel) (by decide +kernel)) kX12_296 hP hD [4] rfl (by decide +kernel) 0 rfl rfl rfl ⟨Nat.le_of_ble_eq_true rfl, Nat.le_of_ble_eq_true rfl⟩ rfl hl.1 rfl (Nat.le_of_ble_eq_true rfl) dX12_laysStep_199 ⟨Nat.le_of_ble_eq_true rfl, Nat.le_of_ble_eq_true rfl⟩) hP hD hS hA [4] [0, 1, 2, 3] rfl rfl (by decide +kernel) (by decide +kernel) ?_
  clear hP hD hS
  try clear locs
  try clear H
  intro u_16 H locs hw_r_15 hP hD hS
  refine W.widen (k := 0) (n := 0) (Nat.le_of_ble_eq_true rfl) (Nat.le_of_ble_eq_true rfl) ?_
  replace hP : va_P D vwCl [(maa, .inl (cs 1, 9, .inr (.inl (lt4 0 0 0 0)))), (mab, .inl (cs 1, 9, .inr (.inl (lt4 1 1 0 0)))), (mba, .inl (cs 1, 9, .inr (.inl (lt4 0 0 0 0)))), (mbb, .inl (cs 1, 9, .inr (.inl (lt4 1 1 0 0)))), (hm, .inr (12, [.ref ms, .ref mkp, .int (nI 0), .ref mtr, .int (nI 4), .int (nI 2), .int (nI 2), .int (nI 3), .int (nI 2), .int (nI 1), .ref mas, .int (nI 0), .int (nI 0), .int (nI 0), .ref mso, .ref mon, .ref mot, .ref man, .int (nI 0), .int (nI 0), .ref mst, .ref msm, .ref mtb, .ref mti, .ref mfr, .ref mbn, .ref mbs, .ref mde, .int (nI 0), .int (nI 0), .int (nI 0), .int (nI 0), .long 12, .long 1, .ref maa, .ref mab, .ref mba, .ref mbb]))] H := hP
  replace hD : va_D A [(maa, .inl (cs 1, 9, .inr (.inl (lt4 0 0 0 0)))), (mab, .inl (cs 1, 9, .inr (.inl (lt4 1 1 0 0)))), (mba, .inl (cs 1, 9, .inr (.inl (lt4 0 0 0 0)))), (mbb, .inl (cs 1, 9, .inr (.inl (lt4 1 1 0 0)))), (hm, .inr (12, [.ref ms, .ref mkp, .int (nI 0), .ref mtr, .int (nI 4), .int (nI 2), .int (nI 2), .int (nI 3), .int (nI 2), .int (nI 1), .ref mas, .int (nI 0), .int (nI 0), .int (nI 0), .ref mso, .ref mon, .ref mot, .ref man, .int (nI 0), .int (nI 0), .ref mst, .ref msm, .ref mtb, .ref mti, .ref mfr, .ref mbn, .ref mbs, .ref mde, .int (nI 0), .int (nI 0), .int (nI 0), .int (nI 0), .long 12, .long 1, .ref maa, .ref mab, .ref mba, .ref mbb]))] := hD
  refine lv_aload_n hx hb dX12_laysStep_202 rfl (lv_at hl 4 rfl) ?_
  refine lv_aload_n hx hb dX12_laysStep_203 rfl (lv_at hl 4 rfl) ?_
  refine xget C hP 4 rfl rfl zuX12 32 (by decide) zw6_5 rfl dX12_laysStep_204 ?_
  refine lv_aload_n hx hb dX12_laysStep_207 rfl (lv_at hl 4 rfl) ?_
  refine xget C hP 4 rfl rfl zuX12 33 (by decide) zw6_6 rfl dX12_laysStep_208 ?_
  refine lv_lload hx hb dX12_laysStep_211 (lv_at hl 1 rfl) ?_
  refine lv_lload hx hb dX12_laysStep_213 (lv_at hl 0 rfl) ?_
  refine xv (wr := [(maa, .inl (cs 1, 9, .inr (.inl (lt4 0 0 0 0)))), (mab, .inl (cs 1, 9, .inr (.inl (lt4 1 1 0 0)))), (mba, .inl (cs 1, 9, .inr (.inl (lt4 0 0 0 0)))), (mbb, .inl (cs 1, 9, .inr (.inl (lt4 1 1 0 0))))]) (xV (As := [.long 12, .long 1, .long 3, .long 1]) (rest := []) C (c_X12_divides l D cs hm ms mkp mtr mas mso mon mot man mst msm mtb mti mfr mbn mbs mde maa mab mba mbb 12 1 12 1 3 1 12 3 4 1 (by decide +kernel) (by decide +kernel) (by decide +kernel)) kX12_293 hP hD [4] rfl (by decide +kernel) 0 rfl rfl rfl ⟨Nat.le_of_ble_eq_true rfl, Nat.le_of_ble_eq_true rfl⟩ rfl hl.1 rfl (Nat.le_of_ble_eq_true rfl) dX12_laysStep_215 ⟨Nat.le_of_ble_eq_true rfl, Nat.le_of_ble_eq_true rfl⟩) hP hD hS hA [4] [0, 1, 2, 3] rfl rfl (by decide +kernel) (by decide +kernel) ?_
  clear hP hD hS
  try clear locs
  try clear H
  intro u_18 H locs hw_r_17 hP hD hS
  refine W.widen (k := 0) (n := 0) (Nat.le_of_ble_eq_true rfl) (Nat.le_of_ble_eq_true rfl) ?_
  replace hP : va_P D vwCl [(maa, .inl (cs 1, 9, .inr (.inl (lt4 0 0 0 0)))), (mab, .inl (cs 1, 9, .inr (.inl (lt4 1 1 0 0)))), (mba, .inl (cs 1, 9, .inr (.inl (lt4 0 0 0 0)))), (mbb, .inl (cs 1, 9, .inr (.inl (lt4 1 1 0 0)))), (hm, .inr (12, [.ref ms, .ref mkp, .int (nI 0), .ref mtr, .int (nI 4), .int (nI 2), .int (nI 2), .int (nI 3), .int (nI 2), .int (nI 1), .ref mas, .int (nI 0), .int (nI 0), .int (nI 0), .ref mso, .ref mon, .ref mot, .ref man, .int (nI 0), .int (nI 0), .ref mst, .ref msm, .ref mtb, .ref mti, .ref mfr, .ref mbn, .ref mbs, .ref mde, .int (nI 0), .int (nI 0), .int (nI 0), .int (nI 0), .long 4, .long 1, .ref maa, .ref mab, .ref mba, .ref mbb]))] H := hP
  replace hD : va_D A [(maa, .inl (cs 1, 9, .inr (.inl (lt4 0 0 0 0)))), (mab, .inl (cs 1, 9, .inr (.inl (lt4 1 1 0 0)))), (mba, .inl (cs 1, 9, .inr (.inl (lt4 0 0 0 0)))), (mbb, .inl (cs 1, 9, .inr (.inl (lt4 1 1 0 0)))), (hm, .inr (12, [.ref ms, .ref mkp, .int (nI 0), .ref mtr, .int (nI 4), .int (nI 2), .int (nI 2), .int (nI 3), .int (nI 2), .int (nI 1), .ref mas, .int (nI 0), .int (nI 0), .int (nI 0), .ref mso, .ref mon, .ref mot, .ref man, .int (nI 0), .int (nI 0), .ref mst, .ref msm, .ref mtb, .ref mti, .ref mfr, .ref mbn, .ref mbs, .ref mde, .int (nI 0), .int (nI 0), .int (nI 0), .int (nI 0), .long 4, .long 1, .ref maa, .ref mab, .ref mba, .ref mbb]))] := hD
  refine lv_aload_n hx hb dX12_laysStep_218 rfl (lv_at hl 4 rfl) ?_
  refine xget C hP 4 rfl rfl zuX12 36 (by decide) zw6_9 rfl dX12_laysStep_219 ?_
  refine lv_iload_n hx hb dX12_laysStep_222 rfl (lv_at hl 5 rfl) ?_
  refine lv_aload_n hx hb dX12_laysStep_223 rfl (lv_at hl 4 rfl) ?_
  refine xget C hP 4 rfl rfl zuX12 32 (by decide) zw6_5 rfl dX12_laysStep_224 ?_
  refine xlast C hP hD hS 2 rfl 1 rfl (by decide) (by decide) dX12_laysStep_227 ?_
  clear hP hD hS
  try clear locs
  try clear H
  intro H locs hP hD hS
  replace hP : va_P D vwCl [(maa, .inl (cs 1, 9, .inr (.inl (lt4 0 0 0 0)))), (mab, .inl (cs 1, 9, .inr (.inl (lt4 1 1 0 0)))), (mba, .inl (cs 1, 9, .inr (.inl (vp_updL (lt4 0 0 0 0) 1 4)))), (mbb, .inl (cs 1, 9, .inr (.inl (lt4 1 1 0 0)))), (hm, .inr (12, [.ref ms, .ref mkp, .int (nI 0), .ref mtr, .int (nI 4), .int (nI 2), .int (nI 2), .int (nI 3), .int (nI 2), .int (nI 1), .ref mas, .int (nI 0), .int (nI 0), .int (nI 0), .ref mso, .ref mon, .ref mot, .ref man, .int (nI 0), .int (nI 0), .ref mst, .ref msm, .ref mtb, .ref mti, .ref mfr, .ref mbn, .ref mbs, .ref mde, .int (nI 0), .int (nI 0), .int (nI 0), .int (nI 0), .long 4, .long 1, .ref maa, .ref mab, .ref mba, .ref mbb]))] H := hP
  replace hD : va_D A [(maa, .inl (cs 1, 9, .inr (.inl (lt4 0 0 0 0)))), (mab, .inl (cs 1, 9, .inr (.inl (lt4 1 1 0 0)))), (mba, .inl (cs 1, 9, .inr (.inl (vp_updL (lt4 0 0 0 0) 1 4)))), (mbb, .inl (cs 1, 9, .inr (.inl (lt4 1 1 0 0)))), (hm, .inr (12, [.ref ms, .ref mkp, .int (nI 0), .ref mtr, .int (nI 4), .int (nI 2), .int (nI 2), .int (nI 3), .int (nI 2), .int (nI 1), .ref mas, .int (nI 0), .int (nI 0), .int (nI 0), .ref mso, .ref mon, .ref mot, .ref man, .int (nI 0), .int (nI 0), .ref mst, .ref msm, .ref mtb, .ref mti, .ref mfr, .ref mbn, .ref mbs, .ref mde, .int (nI 0), .int (nI 0), .int (nI 0), .int (nI 0), .long 4, .long 1, .ref maa, .ref mab, .ref mba, .ref mbb]))] := hD
  refine lv_aload_n hx hb dX12_laysStep_228 rfl (lv_at hl 4 rfl) ?_
  refine xget C hP 4 rfl rfl zuX12 37 (by decide) zw6_10 rfl dX12_laysStep_229 ?_
  refine lv_iload_n hx hb dX12_laysStep_232 rfl (lv_at hl 5 rfl) ?_
  refine lv_aload_n hx hb dX12_laysStep_233 rfl (lv_at hl 4 rfl) ?_
  refine xget C hP 4 rfl rfl zuX12 33 (by decide) zw6_6 rfl dX12_laysStep_234 ?_
  refine xlast C hP hD hS 3 rfl 1 rfl (by decide) (by decide) dX12_laysStep_237 ?_
  clear hP hD hS
  try clear locs
  try clear H
  intro H locs hP hD hS
  replace hP : va_P D vwCl [(maa, .inl (cs 1, 9, .inr (.inl (lt4 0 0 0 0)))), (mab, .inl (cs 1, 9, .inr (.inl (lt4 1 1 0 0)))), (mba, .inl (cs 1, 9, .inr (.inl (vp_updL (lt4 0 0 0 0) 1 4)))), (mbb, .inl (cs 1, 9, .inr (.inl (vp_updL (lt4 1 1 0 0) 1 1)))), (hm, .inr (12, [.ref ms, .ref mkp, .int (nI 0), .ref mtr, .int (nI 4), .int (nI 2), .int (nI 2), .int (nI 3), .int (nI 2), .int (nI 1), .ref mas, .int (nI 0), .int (nI 0), .int (nI 0), .ref mso, .ref mon, .ref mot, .ref man, .int (nI 0), .int (nI 0), .ref mst, .ref msm, .ref mtb, .ref mti, .ref mfr, .ref mbn, .ref mbs, .ref mde, .int (nI 0), .int (nI 0), .int (nI 0), .int (nI 0), .long 4, .long 1, .ref maa, .ref mab, .ref mba, .ref mbb]))] H := hP
  replace hD : va_D A [(maa, .inl (cs 1, 9, .inr (.inl (lt4 0 0 0 0)))), (mab, .inl (cs 1, 9, .inr (.inl (lt4 1 1 0 0)))), (mba, .inl (cs 1, 9, .inr (.inl (vp_updL (lt4 0 0 0 0) 1 4)))), (mbb, .inl (cs 1, 9, .inr (.inl (vp_updL (lt4 1 1 0 0) 1 1)))), (hm, .inr (12, [.ref ms, .ref mkp, .int (nI 0), .ref mtr, .int (nI 4), .int (nI 2), .int (nI 2), .int (nI 3), .int (nI 2), .int (nI 1), .ref mas, .int (nI 0), .int (nI 0), .int (nI 0), .ref mso, .ref mon, .ref mot, .ref man, .int (nI 0), .int (nI 0), .ref mst, .ref msm, .ref mtb, .ref mti, .ref mfr, .ref mbn, .ref mbs, .ref mde, .int (nI 0), .int (nI 0), .int (nI 0), .int (nI 0), .long 4, .long 1, .ref maa, .ref mab, .ref mba, .ref mbb]))] := hD
  have hPD := xcongl (q0 := 2) (lt4 0 4 0 0) hP hD rfl (fun j hj => (show ∀ j, j < 9 → lt4 0 4 0 0 j = (vp_updL (lt4 0 0 0 0) 1 4) j from by decide) j hj)
  clear hP hD
  obtain ⟨hP, hD⟩ := hPD
  replace hP : va_P D vwCl [(maa, .inl (cs 1, 9, .inr (.inl (lt4 0 0 0 0)))), (mab, .inl (cs 1, 9, .inr (.inl (lt4 1 1 0 0)))), (mba, .inl (cs 1, 9, .inr (.inl (lt4 0 4 0 0)))), (mbb, .inl (cs 1, 9, .inr (.inl (vp_updL (lt4 1 1 0 0) 1 1)))), (hm, .inr (12, [.ref ms, .ref mkp, .int (nI 0), .ref mtr, .int (nI 4), .int (nI 2), .int (nI 2), .int (nI 3), .int (nI 2), .int (nI 1), .ref mas, .int (nI 0), .int (nI 0), .int (nI 0), .ref mso, .ref mon, .ref mot, .ref man, .int (nI 0), .int (nI 0), .ref mst, .ref msm, .ref mtb, .ref mti, .ref mfr, .ref mbn, .ref mbs, .ref mde, .int (nI 0), .int (nI 0), .int (nI 0), .int (nI 0), .long 4, .long 1, .ref maa, .ref mab, .ref mba, .ref mbb]))] H := hP
  replace hD : va_D A [(maa, .inl (cs 1, 9, .inr (.inl (lt4 0 0 0 0)))), (mab, .inl (cs 1, 9, .inr (.inl (lt4 1 1 0 0)))), (mba, .inl (cs 1, 9, .inr (.inl (lt4 0 4 0 0)))), (mbb, .inl (cs 1, 9, .inr (.inl (vp_updL (lt4 1 1 0 0) 1 1)))), (hm, .inr (12, [.ref ms, .ref mkp, .int (nI 0), .ref mtr, .int (nI 4), .int (nI 2), .int (nI 2), .int (nI 3), .int (nI 2), .int (nI 1), .ref mas, .int (nI 0), .int (nI 0), .int (nI 0), .ref mso, .ref mon, .ref mot, .ref man, .int (nI 0), .int (nI 0), .ref mst, .ref msm, .ref mtb, .ref mti, .ref mfr, .ref mbn, .ref mbs, .ref mde, .int (nI 0), .int (nI 0), .int (nI 0), .int (nI 0), .long 4, .long 1, .ref maa, .ref mab, .ref mba, .ref mbb]))] := hD
  have hPD := xcongl (q0 := 3) (lt4 1 1 0 0) hP hD rfl (fun j hj => (show ∀ j, j < 9 → lt4 1 1 0 0 j = (vp_updL (lt4 1 1 0 0) 1 1) j from by decide) j hj)
  clear hP hD
  obtain ⟨hP, hD⟩ := hPD
  replace hP : va_P D vwCl [(maa, .inl (cs 1, 9, .inr (.inl (lt4 0 0 0 0)))), (mab, .inl (cs 1, 9, .inr (.inl (lt4 1 1 0 0)))), (mba, .inl (cs 1, 9, .inr (.inl (lt4 0 4 0 0)))), (mbb, .inl (cs 1, 9, .inr (.inl (lt4 1 1 0 0)))), (hm, .inr (12, [.ref ms, .ref mkp, .int (nI 0), .ref mtr, .int (nI 4), .int (nI 2), .int (nI 2), .int (nI 3), .int (nI 2), .int (nI 1), .ref mas, .int (nI 0), .int (nI 0), .int (nI 0), .ref mso, .ref mon, .ref mot, .ref man, .int (nI 0), .int (nI 0), .ref mst, .ref msm, .ref mtb, .ref mti, .ref mfr, .ref mbn, .ref mbs, .ref mde, .int (nI 0), .int (nI 0), .int (nI 0), .int (nI 0), .long 4, .long 1, .ref maa, .ref mab, .ref mba, .ref mbb]))] H := hP
  replace hD : va_D A [(maa, .inl (cs 1, 9, .inr (.inl (lt4 0 0 0 0)))), (mab, .inl (cs 1, 9, .inr (.inl (lt4 1 1 0 0)))), (mba, .inl (cs 1, 9, .inr (.inl (lt4 0 4 0 0)))), (mbb, .inl (cs 1, 9, .inr (.inl (lt4 1 1 0 0)))), (hm, .inr (12, [.ref ms, .ref mkp, .int (nI 0), .ref mtr, .int (nI 4), .int (nI 2), .int (nI 2), .int (nI 3), .int (nI 2), .int (nI 1), .ref mas, .int (nI 0), .int (nI 0), .int (nI 0), .ref mso, .ref mon, .ref mot, .ref man, .int (nI 0), .int (nI 0), .ref mst, .ref msm, .ref mtb, .ref mti, .ref mfr, .ref mbn, .ref mbs, .ref mde, .int (nI 0), .int (nI 0), .int (nI 0), .int (nI 0), .long 4, .long 1, .ref maa, .ref mab, .ref mba, .ref mbb]))] := hD
  exact xretv C () trivial (xP_map hP [4, 0, 1, 2, 3] rfl) (hD.sub [4, 0, 1, 2, 3] (by decide +kernel) rfl) hS (Nat.le_of_ble_eq_true rfl) (Nat.le_of_ble_eq_true rfl) dX12_laysStep_238

set_option maxHeartbeats 4000000 in
set_option maxRecDepth 100000 in
theorem c_X12_laysStep_2_1 (l : Launch) (D : va_G) (cs : Nat → ClassId) (hm ms mkp mtr mas mso mon mot man mst msm mtb mti mfr mbn mbs mde maa mab mba mbb : Nat) (ab be : Int64) : xMet l D cs yX12_laysStep cX12_laysStep 11 none ({ frames := 3, cells := 0, slots := 0, locals := 69 } : Room) [.ref hm, .int (nI 2), .int (nI 1)] [(hm, .inr (12, [.ref ms, .ref mkp, .int (nI 0), .ref mtr, .int (nI 4), .int (nI 2), .int (nI 2), .int (nI 3), .int (nI 2), .int (nI 1), .ref mas, .int (nI 0), .int (nI 0), .int (nI 0), .ref mso, .ref mon, .ref mot, .ref man, .int (nI 0), .int (nI 0), .ref mst, .ref msm, .ref mtb, .ref mti, .ref mfr, .ref mbn, .ref mbs, .ref mde, .int (nI 0), .int (nI 0), .int (nI 0), .int (nI 0), .long ab, .long be, .ref maa, .ref mab, .ref mba, .ref mbb])), (maa, .inl (cs 1, 9, .inr (.inl (lt4 0 0 0 0)))), (mab, .inl (cs 1, 9, .inr (.inl (lt4 1 1 0 0)))), (mba, .inl (cs 1, 9, .inr (.inl (lt4 0 4 0 0)))), (mbb, .inl (cs 1, 9, .inr (.inl (lt4 1 1 0 0))))] (xQv D (fun (_u : Unit) => True) (fun (_u : Unit) => [(hm, .inr (12, [.ref ms, .ref mkp, .int (nI 0), .ref mtr, .int (nI 4), .int (nI 2), .int (nI 2), .int (nI 3), .int (nI 2), .int (nI 1), .ref mas, .int (nI 0), .int (nI 0), .int (nI 0), .ref mso, .ref mon, .ref mot, .ref man, .int (nI 0), .int (nI 0), .ref mst, .ref msm, .ref mtb, .ref mti, .ref mfr, .ref mbn, .ref mbs, .ref mde, .int (nI 0), .int (nI 0), .int (nI 0), .int (nI 0), .long 5, .long 1, .ref maa, .ref mab, .ref mba, .ref mbb])), (maa, .inl (cs 1, 9, .inr (.inl (lt4 0 0 1 0)))), (mab, .inl (cs 1, 9, .inr (.inl (lt4 1 1 2 0)))), (mba, .inl (cs 1, 9, .inr (.inl (lt4 0 4 5 0)))), (mbb, .inl (cs 1, 9, .inr (.inl (lt4 1 1 1 0))))])) := by
  refine xMet.intro (by decide) (Nat.le_of_ble_eq_true rfl) ?_
  intro p e s m args below meth c A ls C hP hD hS hl
  have hx := C.1
  have hb := C.2.1
  have hz := C.2.2.2.2.1
  have hown := C.2.2.2.1
  have hA := C.2.2.2.2.2.2.2.2.2
  have hAO := C.2.2.2.2.2.2.2.2.1.2.2
  replace hl : lv_has ls 11 [(0, .ref hm), (1, .int (nI 2)), (2, .int (nI 1))] := hl
  obtain ⟨H, hH⟩ : ∃ H, H = s.heap := ⟨_, rfl⟩
  replace hP : va_P D vwCl [(hm, .inr (12, [.ref ms, .ref mkp, .int (nI 0), .ref mtr, .int (nI 4), .int (nI 2), .int (nI 2), .int (nI 3), .int (nI 2), .int (nI 1), .ref mas, .int (nI 0), .int (nI 0), .int (nI 0), .ref mso, .ref mon, .ref mot, .ref man, .int (nI 0), .int (nI 0), .ref mst, .ref msm, .ref mtb, .ref mti, .ref mfr, .ref mbn, .ref mbs, .ref mde, .int (nI 0), .int (nI 0), .int (nI 0), .int (nI 0), .long ab, .long be, .ref maa, .ref mab, .ref mba, .ref mbb])), (maa, .inl (cs 1, 9, .inr (.inl (lt4 0 0 0 0)))), (mab, .inl (cs 1, 9, .inr (.inl (lt4 1 1 0 0)))), (mba, .inl (cs 1, 9, .inr (.inl (lt4 0 4 0 0)))), (mbb, .inl (cs 1, 9, .inr (.inl (lt4 1 1 0 0))))] H := by rw [hH]; exact hP
  replace hS : va_S A s.heap H [] := by rw [hH]; exact hS
  obtain ⟨locs, hlocs⟩ : ∃ z : List Loc, z = [] := ⟨_, rfl⟩
  rw [← hlocs] at hS
  suffices hW : W p l e ({ frames := 3, cells := 0, slots := 0, locals := 69 } : Room) s m args below meth c H locs 0 0 (MQ below ((xQv D (fun (_u : Unit) => True) (fun (_u : Unit) => [(hm, .inr (12, [.ref ms, .ref mkp, .int (nI 0), .ref mtr, .int (nI 4), .int (nI 2), .int (nI 2), .int (nI 3), .int (nI 2), .int (nI 1), .ref mas, .int (nI 0), .int (nI 0), .int (nI 0), .ref mso, .ref mon, .ref mot, .ref man, .int (nI 0), .int (nI 0), .ref mst, .ref msm, .ref mtb, .ref mti, .ref mfr, .ref mbn, .ref mbs, .ref mde, .int (nI 0), .int (nI 0), .int (nI 0), .int (nI 0), .long 5, .long 1, .ref maa, .ref mab, .ref mba, .ref mbb])), (maa, .inl (cs 1, 9, .inr (.inl (lt4 0 0 1 0)))), (mab, .inl (cs 1, 9, .inr (.inl (lt4 1 1 2 0)))), (mba, .inl (cs 1, 9, .inr (.inl (lt4 0 4 5 0)))), (mbb, .inl (cs 1, 9, .inr (.inl (lt4 1 1 1 0))))])) A) args s 0 0 A) (F0 m 0 ls []) by rw [hlocs, hH] at hW; exact hW
  clear hH hlocs
  refine lv_aload_n hx hb dX12_laysStep_0 rfl (lv_at hl 0 rfl) ?_
  refine lv_iload_n hx hb dX12_laysStep_1 rfl (lv_at hl 1 rfl) ?_
  refine xl (wr := [(maa, .inl (cs 1, 9, .inr (.inl (lt4 0 0 0 0)))), (mab, .inl (cs 1, 9, .inr (.inl (lt4 1 1 0 0)))), (mba, .inl (cs 1, 9, .inr (.inl (lt4 0 4 0 0)))), (mbb, .inl (cs 1, 9, .inr (.inl (lt4 1 1 0 0))))]) (xV (As := [.int (nI 2)]) (rest := []) C (c_X12_up_2 l D cs hm ms mkp mtr mas mso mon mot man mst msm mtb mti mfr mbn mbs mde maa mab mba mbb ab be) kX12_280 hP hD [0] rfl (by decide +kernel) 0 rfl rfl rfl ⟨Nat.le_of_ble_eq_true rfl, Nat.le_of_ble_eq_true rfl⟩ rfl hl.1 rfl (Nat.le_of_ble_eq_true rfl) dX12_laysStep_2 ⟨Nat.le_of_ble_eq_true rfl, Nat.le_of_ble_eq_true rfl⟩) hP hD hS hA [0] [1, 2, 3, 4] rfl rfl (by decide +kernel) (by decide +kernel) ?_
  clear hP hD hS
  try clear locs
  try clear H
  intro r_1 u_2 H locs hw_r_1 hP hD hS
  have hw_r_1 : r_1 = 2 := hw_r_1
  refine W.widen (k := 0) (n := 0) (Nat.le_of_ble_eq_true rfl) (Nat.le_of_ble_eq_true rfl) ?_
  replace hP : va_P D vwCl [(maa, .inl (cs 1, 9, .inr (.inl (lt4 0 0 0 0)))), (mab, .inl (cs 1, 9, .inr (.inl (lt4 1 1 0 0)))), (mba, .inl (cs 1, 9, .inr (.inl (lt4 0 4 0 0)))), (mbb, .inl (cs 1, 9, .inr (.inl (lt4 1 1 0 0)))), (hm, .inr (12, [.ref ms, .ref mkp, .int (nI 0), .ref mtr, .int (nI 4), .int (nI 2), .int (nI 2), .int (nI 3), .int (nI 2), .int (nI 1), .ref mas, .int (nI 0), .int (nI 0), .int (nI 0), .ref mso, .ref mon, .ref mot, .ref man, .int (nI 0), .int (nI 0), .ref mst, .ref msm, .ref mtb, .ref mti, .ref mfr, .ref mbn, .ref mbs, .ref mde, .int (nI 0), .int (nI 0), .int (nI 0), .int (nI 0), .long ab, .long be, .ref maa, .ref mab, .ref mba, .ref mbb]))] H := hP
  replace hD : va_D A [(maa, .inl (cs 1, 9, .inr (.inl (lt4 0 0 0 0)))), (mab, .inl (cs 1, 9, .inr (.inl (lt4 1 1 0 0)))), (mba, .inl (cs 1, 9, .inr (.inl (lt4 0 4 0 0)))), (mbb, .inl (cs 1, 9, .inr (.inl (lt4 1 1 0 0)))), (hm, .inr (12, [.ref ms, .ref mkp, .int (nI 0), .ref mtr, .int (nI 4), .int (nI 2), .int (nI 2), .int (nI 3), .int (nI 2), .int (nI 1), .ref mas, .int (nI 0), .int (nI 0), .int (nI 0), .ref mso, .ref mon, .ref mot, .ref man, .int (nI 0), .int (nI 0), .ref mst, .ref msm, .ref mtb, .ref mti, .ref mfr, .ref mbn, .ref mbs, .ref mde, .int (nI 0), .int (nI 0), .int (nI 0), .int (nI 0), .long ab, .long be, .ref maa, .ref mab, .ref mba, .ref mbb]))] := hD
  subst hw_r_1
  refine lv_lstore_n (lv' := [(3, .long 2), (0, .ref hm), (1, .int (nI 2)), (2, .int (nI 1))]) hx hb dX12_laysStep_5 rfl hl (by decide) rfl ?_
  clear hl
  try clear ls
  intro ls hl
  refine lv_aload_n hx hb dX12_laysStep_6 rfl (lv_at hl 1 rfl) ?_
  refine lv_iload_n hx hb dX12_laysStep_7 rfl (lv_at hl 2 rfl) ?_
  refine xl (wr := [(maa, .inl (cs 1, 9, .inr (.inl (lt4 0 0 0 0)))), (mab, .inl (cs 1, 9, .inr (.inl (lt4 1 1 0 0)))), (mba, .inl (cs 1, 9, .inr (.inl (lt4 0 4 0 0)))), (mbb, .inl (cs 1, 9, .inr (.inl (lt4 1 1 0 0))))]) (xV (As := [.int (nI 2)]) (rest := []) C (c_X12_down_2 l D cs hm ms mkp mtr mas mso mon mot man mst msm mtb mti mfr mbn mbs mde maa mab mba mbb ab be) kX12_283 hP hD [4] rfl (by decide +kernel) 0 rfl rfl rfl ⟨Nat.le_of_ble_eq_true rfl, Nat.le_of_ble_eq_true rfl⟩ rfl hl.1 rfl (Nat.le_of_ble_eq_true rfl) dX12_laysStep_8 ⟨Nat.le_of_ble_eq_true rfl, Nat.le_of_ble_eq_true rfl⟩) hP hD hS hA [4] [0, 1, 2, 3] rfl rfl (by decide +kernel) (by decide +kernel) ?_
  clear hP hD hS
  try clear locs
  try clear H
  intro r_3 u_4 H locs hw_r_3 hP hD hS
  have hw_r_3 : r_3 = 2 := hw_r_3
  refine W.widen (k := 0) (n := 0) (Nat.le_of_ble_eq_true rfl) (Nat.le_of_ble_eq_true rfl) ?_
  replace hP : va_P D vwCl [(maa, .inl (cs 1, 9, .inr (.inl (lt4 0 0 0 0)))), (mab, .inl (cs 1, 9, .inr (.inl (lt4 1 1 0 0)))), (mba, .inl (cs 1, 9, .inr (.inl (lt4 0 4 0 0)))), (mbb, .inl (cs 1, 9, .inr (.inl (lt4 1 1 0 0)))), (hm, .inr (12, [.ref ms, .ref mkp, .int (nI 0), .ref mtr, .int (nI 4), .int (nI 2), .int (nI 2), .int (nI 3), .int (nI 2), .int (nI 1), .ref mas, .int (nI 0), .int (nI 0), .int (nI 0), .ref mso, .ref mon, .ref mot, .ref man, .int (nI 0), .int (nI 0), .ref mst, .ref msm, .ref mtb, .ref mti, .ref mfr, .ref mbn, .ref mbs, .ref mde, .int (nI 0), .int (nI 0), .int (nI 0), .int (nI 0), .long ab, .long be, .ref maa, .ref mab, .ref mba, .ref mbb]))] H := hP
  replace hD : va_D A [(maa, .inl (cs 1, 9, .inr (.inl (lt4 0 0 0 0)))), (mab, .inl (cs 1, 9, .inr (.inl (lt4 1 1 0 0)))), (mba, .inl (cs 1, 9, .inr (.inl (lt4 0 4 0 0)))), (mbb, .inl (cs 1, 9, .inr (.inl (lt4 1 1 0 0)))), (hm, .inr (12, [.ref ms, .ref mkp, .int (nI 0), .ref mtr, .int (nI 4), .int (nI 2), .int (nI 2), .int (nI 3), .int (nI 2), .int (nI 1), .ref mas, .int (nI 0), .int (nI 0), .int (nI 0), .ref mso, .ref mon, .ref mot, .ref man, .int (nI 0), .int (nI 0), .ref mst, .ref msm, .ref mtb, .ref mti, .ref mfr, .ref mbn, .ref mbs, .ref mde, .int (nI 0), .int (nI 0), .int (nI 0), .int (nI 0), .long ab, .long be, .ref maa, .ref mab, .ref mba, .ref mbb]))] := hD
  subst hw_r_3
  refine lv_lstore (lv' := [(5, .long 2), (3, .long 2), (0, .ref hm), (1, .int (nI 2)), (2, .int (nI 1))]) hx hb dX12_laysStep_11 hl (by decide) rfl ?_
  clear hl
  try clear ls
  intro ls hl
  refine lv_aload_n hx hb dX12_laysStep_13 rfl (lv_at hl 2 rfl) ?_
  refine xget C hP 4 rfl rfl zuX12 34 (by decide) zw6_7 rfl dX12_laysStep_14 ?_
  refine lv_iload_n hx hb dX12_laysStep_17 rfl (lv_at hl 3 rfl) ?_
  refine lv_lconst (v := 0) hx hb dX12_laysStep_18 (by decide) ?_
  refine xlast C hP hD hS 0 rfl 2 rfl (by decide) (by decide) dX12_laysStep_19 ?_
  clear hP hD hS
  try clear locs
  try clear H
  intro H locs hP hD hS
  replace hP : va_P D vwCl [(maa, .inl (cs 1, 9, .inr (.inl (vp_updL (lt4 0 0 0 0) 2 0)))), (mab, .inl (cs 1, 9, .inr (.inl (lt4 1 1 0 0)))), (mba, .inl (cs 1, 9, .inr (.inl (lt4 0 4 0 0)))), (mbb, .inl (cs 1, 9, .inr (.inl (lt4 1 1 0 0)))), (hm, .inr (12, [.ref ms, .ref mkp, .int (nI 0), .ref mtr, .int (nI 4), .int (nI 2), .int (nI 2), .int (nI 3), .int (nI 2), .int (nI 1), .ref mas, .int (nI 0), .int (nI 0), .int (nI 0), .ref mso, .ref mon, .ref mot, .ref man, .int (nI 0), .int (nI 0), .ref mst, .ref msm, .ref mtb, .ref mti, .ref mfr, .ref mbn, .ref mbs, .ref mde, .int (nI 0), .int (nI 0), .int (nI 0), .int (nI 0), .long ab, .long be, .ref maa, .ref mab, .ref mba, .ref mbb]))] H := hP
  replace hD : va_D A [(maa, .inl (cs 1, 9, .inr (.inl (vp_updL (lt4 0 0 0 0) 2 0)))), (mab, .inl (cs 1, 9, .inr (.inl (lt4 1 1 0 0)))), (mba, .inl (cs 1, 9, .inr (.inl (lt4 0 4 0 0)))), (mbb, .inl (cs 1, 9, .inr (.inl (lt4 1 1 0 0)))), (hm, .inr (12, [.ref ms, .ref mkp, .int (nI 0), .ref mtr, .int (nI 4), .int (nI 2), .int (nI 2), .int (nI 3), .int (nI 2), .int (nI 1), .ref mas, .int (nI 0), .int (nI 0), .int (nI 0), .ref mso, .ref mon, .ref mot, .ref man, .int (nI 0), .int (nI 0), .ref mst, .ref msm, .ref mtb, .ref mti, .ref mfr, .ref mbn, .ref mbs, .ref mde, .int (nI 0), .int (nI 0), .int (nI 0), .int (nI 0), .long ab, .long be, .ref maa, .ref mab, .ref mba, .ref mbb]))] := hD
  refine lv_aload_n hx hb dX12_laysStep_20 rfl (lv_at hl 2 rfl) ?_
  refine xget C hP 4 rfl rfl zuX12 35 (by decide) zw6_8 rfl dX12_laysStep_21 ?_
  refine lv_iload_n hx hb dX12_laysStep_24 rfl (lv_at hl 3 rfl) ?_
  refine lv_lconst (v := 1) hx hb dX12_laysStep_25 (by decide) ?_
  refine xlast C hP hD hS 1 rfl 2 rfl (by decide) (by decide) dX12_laysStep_26 ?_
  clear hP hD hS
  try clear locs
  try clear H
  intro H locs hP hD hS
  replace hP : va_P D vwCl [(maa, .inl (cs 1, 9, .inr (.inl (vp_updL (lt4 0 0 0 0) 2 0)))), (mab, .inl (cs 1, 9, .inr (.inl (vp_updL (lt4 1 1 0 0) 2 1)))), (mba, .inl (cs 1, 9, .inr (.inl (lt4 0 4 0 0)))), (mbb, .inl (cs 1, 9, .inr (.inl (lt4 1 1 0 0)))), (hm, .inr (12, [.ref ms, .ref mkp, .int (nI 0), .ref mtr, .int (nI 4), .int (nI 2), .int (nI 2), .int (nI 3), .int (nI 2), .int (nI 1), .ref mas, .int (nI 0), .int (nI 0), .int (nI 0), .ref mso, .ref mon, .ref mot, .ref man, .int (nI 0), .int (nI 0), .ref mst, .ref msm, .ref mtb, .ref mti, .ref mfr, .ref mbn, .ref mbs, .ref mde, .int (nI 0), .int (nI 0), .int (nI 0), .int (nI 0), .long ab, .long be, .ref maa, .ref mab, .ref mba, .ref mbb]))] H := hP
  replace hD : va_D A [(maa, .inl (cs 1, 9, .inr (.inl (vp_updL (lt4 0 0 0 0) 2 0)))), (mab, .inl (cs 1, 9, .inr (.inl (vp_updL (lt4 1 1 0 0) 2 1)))), (mba, .inl (cs 1, 9, .inr (.inl (lt4 0 4 0 0)))), (mbb, .inl (cs 1, 9, .inr (.inl (lt4 1 1 0 0)))), (hm, .inr (12, [.ref ms, .ref mkp, .int (nI 0), .ref mtr, .int (nI 4), .int (nI 2), .int (nI 2), .int (nI 3), .int (nI 2), .int (nI 1), .ref mas, .int (nI 0), .int (nI 0), .int (nI 0), .ref mso, .ref mon, .ref mot, .ref man, .int (nI 0), .int (nI 0), .ref mst, .ref msm, .ref mtb, .ref mti, .ref mfr, .ref mbn, .ref mbs, .ref mde, .int (nI 0), .int (nI 0), .int (nI 0), .int (nI 0), .long ab, .long be, .ref maa, .ref mab, .ref mba, .ref mbb]))] := hD
  refine lv_aload_n hx hb dX12_laysStep_27 rfl (lv_at hl 2 rfl) ?_
  refine xget C hP 4 rfl rfl zuX12 36 (by decide) zw6_9 rfl dX12_laysStep_28 ?_
  refine lv_iload_n hx hb dX12_laysStep_31 rfl (lv_at hl 3 rfl) ?_
  refine lv_lconst (v := 0) hx hb dX12_laysStep_32 (by decide) ?_
  refine xlast C hP hD hS 2 rfl 2 rfl (by decide) (by decide) dX12_laysStep_33 ?_
  clear hP hD hS
  try clear locs
  try clear H
  intro H locs hP hD hS
  replace hP : va_P D vwCl [(maa, .inl (cs 1, 9, .inr (.inl (vp_updL (lt4 0 0 0 0) 2 0)))), (mab, .inl (cs 1, 9, .inr (.inl (vp_updL (lt4 1 1 0 0) 2 1)))), (mba, .inl (cs 1, 9, .inr (.inl (vp_updL (lt4 0 4 0 0) 2 0)))), (mbb, .inl (cs 1, 9, .inr (.inl (lt4 1 1 0 0)))), (hm, .inr (12, [.ref ms, .ref mkp, .int (nI 0), .ref mtr, .int (nI 4), .int (nI 2), .int (nI 2), .int (nI 3), .int (nI 2), .int (nI 1), .ref mas, .int (nI 0), .int (nI 0), .int (nI 0), .ref mso, .ref mon, .ref mot, .ref man, .int (nI 0), .int (nI 0), .ref mst, .ref msm, .ref mtb, .ref mti, .ref mfr, .ref mbn, .ref mbs, .ref mde, .int (nI 0), .int (nI 0), .int (nI 0), .int (nI 0), .long ab, .long be, .ref maa, .ref mab, .ref mba, .ref mbb]))] H := hP
  replace hD : va_D A [(maa, .inl (cs 1, 9, .inr (.inl (vp_updL (lt4 0 0 0 0) 2 0)))), (mab, .inl (cs 1, 9, .inr (.inl (vp_updL (lt4 1 1 0 0) 2 1)))), (mba, .inl (cs 1, 9, .inr (.inl (vp_updL (lt4 0 4 0 0) 2 0)))), (mbb, .inl (cs 1, 9, .inr (.inl (lt4 1 1 0 0)))), (hm, .inr (12, [.ref ms, .ref mkp, .int (nI 0), .ref mtr, .int (nI 4), .int (nI 2), .int (nI 2), .int (nI 3), .int (nI 2), .int (nI 1), .ref mas, .int (nI 0), .int (nI 0), .int (nI 0), .ref mso, .ref mon, .ref mot, .ref man, .int (nI 0), .int (nI 0), .ref mst, .ref msm, .ref mtb, .ref mti, .ref mfr, .ref mbn, .ref mbs, .ref mde, .int (nI 0), .int (nI 0), .int (nI 0), .int (nI 0), .long ab, .long be, .ref maa, .ref mab, .ref mba, .ref mbb]))] := hD
  refine lv_aload_n hx hb dX12_laysStep_34 rfl (lv_at hl 2 rfl) ?_
  refine xget C hP 4 rfl rfl zuX12 37 (by decide) zw6_10 rfl dX12_laysStep_35 ?_
  refine lv_iload_n hx hb dX12_laysStep_38 rfl (lv_at hl 3 rfl) ?_
  refine lv_lconst (v := 1) hx hb dX12_laysStep_39 (by decide) ?_
  refine xlast C hP hD hS 3 rfl 2 rfl (by decide) (by decide) dX12_laysStep_40 ?_
  clear hP hD hS
  try clear locs
  try clear H
  intro H locs hP hD hS
  replace hP : va_P D vwCl [(maa, .inl (cs 1, 9, .inr (.inl (vp_updL (lt4 0 0 0 0) 2 0)))), (mab, .inl (cs 1, 9, .inr (.inl (vp_updL (lt4 1 1 0 0) 2 1)))), (mba, .inl (cs 1, 9, .inr (.inl (vp_updL (lt4 0 4 0 0) 2 0)))), (mbb, .inl (cs 1, 9, .inr (.inl (vp_updL (lt4 1 1 0 0) 2 1)))), (hm, .inr (12, [.ref ms, .ref mkp, .int (nI 0), .ref mtr, .int (nI 4), .int (nI 2), .int (nI 2), .int (nI 3), .int (nI 2), .int (nI 1), .ref mas, .int (nI 0), .int (nI 0), .int (nI 0), .ref mso, .ref mon, .ref mot, .ref man, .int (nI 0), .int (nI 0), .ref mst, .ref msm, .ref mtb, .ref mti, .ref mfr, .ref mbn, .ref mbs, .ref mde, .int (nI 0), .int (nI 0), .int (nI 0), .int (nI 0), .long ab, .long be, .ref maa, .ref mab, .ref mba, .ref mbb]))] H := hP
  replace hD : va_D A [(maa, .inl (cs 1, 9, .inr (.inl (vp_updL (lt4 0 0 0 0) 2 0)))), (mab, .inl (cs 1, 9, .inr (.inl (vp_updL (lt4 1 1 0 0) 2 1)))), (mba, .inl (cs 1, 9, .inr (.inl (vp_updL (lt4 0 4 0 0) 2 0)))), (mbb, .inl (cs 1, 9, .inr (.inl (vp_updL (lt4 1 1 0 0) 2 1)))), (hm, .inr (12, [.ref ms, .ref mkp, .int (nI 0), .ref mtr, .int (nI 4), .int (nI 2), .int (nI 2), .int (nI 3), .int (nI 2), .int (nI 1), .ref mas, .int (nI 0), .int (nI 0), .int (nI 0), .ref mso, .ref mon, .ref mot, .ref man, .int (nI 0), .int (nI 0), .ref mst, .ref msm, .ref mtb, .ref mti, .ref mfr, .ref mbn, .ref mbs, .ref mde, .int (nI 0), .int (nI 0), .int (nI 0), .int (nI 0), .long ab, .long be, .ref maa, .ref mab, .ref mba, .ref mbb]))] := hD
  have hPD := xcongl (q0 := 0) (lt4 0 0 0 0) hP hD rfl (fun j hj => (show ∀ j, j < 9 → lt4 0 0 0 0 j = (vp_updL (lt4 0 0 0 0) 2 0) j from by decide) j hj)
  clear hP hD
  obtain ⟨hP, hD⟩ := hPD
  replace hP : va_P D vwCl [(maa, .inl (cs 1, 9, .inr (.inl (lt4 0 0 0 0)))), (mab, .inl (cs 1, 9, .inr (.inl (vp_updL (lt4 1 1 0 0) 2 1)))), (mba, .inl (cs 1, 9, .inr (.inl (vp_updL (lt4 0 4 0 0) 2 0)))), (mbb, .inl (cs 1, 9, .inr (.inl (vp_updL (lt4 1 1 0 0) 2 1)))), (hm, .inr (12, [.ref ms, .ref mkp, .int (nI 0), .ref mtr, .int (nI 4), .int (nI 2), .int (nI 2), .int (nI 3), .int (nI 2), .int (nI 1), .ref mas, .int (nI 0), .int (nI 0), .int (nI 0), .ref mso, .ref mon, .ref mot, .ref man, .int (nI 0), .int (nI 0), .ref mst, .ref msm, .ref mtb, .ref mti, .ref mfr, .ref mbn, .ref mbs, .ref mde, .int (nI 0), .int (nI 0), .int (nI 0), .int (nI 0), .long ab, .long be, .ref maa, .ref mab, .ref mba, .ref mbb]))] H := hP
  replace hD : va_D A [(maa, .inl (cs 1, 9, .inr (.inl (lt4 0 0 0 0)))), (mab, .inl (cs 1, 9, .inr (.inl (vp_updL (lt4 1 1 0 0) 2 1)))), (mba, .inl (cs 1, 9, .inr (.inl (vp_updL (lt4 0 4 0 0) 2 0)))), (mbb, .inl (cs 1, 9, .inr (.inl (vp_updL (lt4 1 1 0 0) 2 1)))), (hm, .inr (12, [.ref ms, .ref mkp, .int (nI 0), .ref mtr, .int (nI 4), .int (nI 2), .int (nI 2), .int (nI 3), .int (nI 2), .int (nI 1), .ref mas, .int (nI 0), .int (nI 0), .int (nI 0), .ref mso, .ref mon, .ref mot, .ref man, .int (nI 0), .int (nI 0), .ref mst, .ref msm, .ref mtb, .ref mti, .ref mfr, .ref mbn, .ref mbs, .ref mde, .int (nI 0), .int (nI 0), .int (nI 0), .int (nI 0), .long ab, .long be, .ref maa, .ref mab, .ref mba, .ref mbb]))] := hD
  have hPD := xcongl (q0 := 1) (lt4 1 1 1 0) hP hD rfl (fun j hj => (show ∀ j, j < 9 → lt4 1 1 1 0 j = (vp_updL (lt4 1 1 0 0) 2 1) j from by decide) j hj)
  clear hP hD
  obtain ⟨hP, hD⟩ := hPD
  replace hP : va_P D vwCl [(maa, .inl (cs 1, 9, .inr (.inl (lt4 0 0 0 0)))), (mab, .inl (cs 1, 9, .inr (.inl (lt4 1 1 1 0)))), (mba, .inl (cs 1, 9, .inr (.inl (vp_updL (lt4 0 4 0 0) 2 0)))), (mbb, .inl (cs 1, 9, .inr (.inl (vp_updL (lt4 1 1 0 0) 2 1)))), (hm, .inr (12, [.ref ms, .ref mkp, .int (nI 0), .ref mtr, .int (nI 4), .int (nI 2), .int (nI 2), .int (nI 3), .int (nI 2), .int (nI 1), .ref mas, .int (nI 0), .int (nI 0), .int (nI 0), .ref mso, .ref mon, .ref mot, .ref man, .int (nI 0), .int (nI 0), .ref mst, .ref msm, .ref mtb, .ref mti, .ref mfr, .ref mbn, .ref mbs, .ref mde, .int (nI 0), .int (nI 0), .int (nI 0), .int (nI 0), .long ab, .long be, .ref maa, .ref mab, .ref mba, .ref mbb]))] H := hP
  replace hD : va_D A [(maa, .inl (cs 1, 9, .inr (.inl (lt4 0 0 0 0)))), (mab, .inl (cs 1, 9, .inr (.inl (lt4 1 1 1 0)))), (mba, .inl (cs 1, 9, .inr (.inl (vp_updL (lt4 0 4 0 0) 2 0)))), (mbb, .inl (cs 1, 9, .inr (.inl (vp_updL (lt4 1 1 0 0) 2 1)))), (hm, .inr (12, [.ref ms, .ref mkp, .int (nI 0), .ref mtr, .int (nI 4), .int (nI 2), .int (nI 2), .int (nI 3), .int (nI 2), .int (nI 1), .ref mas, .int (nI 0), .int (nI 0), .int (nI 0), .ref mso, .ref mon, .ref mot, .ref man, .int (nI 0), .int (nI 0), .ref mst, .ref msm, .ref mtb, .ref mti, .ref mfr, .ref mbn, .ref mbs, .ref mde, .int (nI 0), .int (nI 0), .int (nI 0), .int (nI 0), .long ab, .long be, .ref maa, .ref mab, .ref mba, .ref mbb]))] := hD
  have hPD := xcongl (q0 := 2) (lt4 0 4 0 0) hP hD rfl (fun j hj => (show ∀ j, j < 9 → lt4 0 4 0 0 j = (vp_updL (lt4 0 4 0 0) 2 0) j from by decide) j hj)
  clear hP hD
  obtain ⟨hP, hD⟩ := hPD
  replace hP : va_P D vwCl [(maa, .inl (cs 1, 9, .inr (.inl (lt4 0 0 0 0)))), (mab, .inl (cs 1, 9, .inr (.inl (lt4 1 1 1 0)))), (mba, .inl (cs 1, 9, .inr (.inl (lt4 0 4 0 0)))), (mbb, .inl (cs 1, 9, .inr (.inl (vp_updL (lt4 1 1 0 0) 2 1)))), (hm, .inr (12, [.ref ms, .ref mkp, .int (nI 0), .ref mtr, .int (nI 4), .int (nI 2), .int (nI 2), .int (nI 3), .int (nI 2), .int (nI 1), .ref mas, .int (nI 0), .int (nI 0), .int (nI 0), .ref mso, .ref mon, .ref mot, .ref man, .int (nI 0), .int (nI 0), .ref mst, .ref msm, .ref mtb, .ref mti, .ref mfr, .ref mbn, .ref mbs, .ref mde, .int (nI 0), .int (nI 0), .int (nI 0), .int (nI 0), .long ab, .long be, .ref maa, .ref mab, .ref mba, .ref mbb]))] H := hP
  replace hD : va_D A [(maa, .inl (cs 1, 9, .inr (.inl (lt4 0 0 0 0)))), (mab, .inl (cs 1, 9, .inr (.inl (lt4 1 1 1 0)))), (mba, .inl (cs 1, 9, .inr (.inl (lt4 0 4 0 0)))), (mbb, .inl (cs 1, 9, .inr (.inl (vp_updL (lt4 1 1 0 0) 2 1)))), (hm, .inr (12, [.ref ms, .ref mkp, .int (nI 0), .ref mtr, .int (nI 4), .int (nI 2), .int (nI 2), .int (nI 3), .int (nI 2), .int (nI 1), .ref mas, .int (nI 0), .int (nI 0), .int (nI 0), .ref mso, .ref mon, .ref mot, .ref man, .int (nI 0), .int (nI 0), .ref mst, .ref msm, .ref mtb, .ref mti, .ref mfr, .ref mbn, .ref mbs, .ref mde, .int (nI 0), .int (nI 0), .int (nI 0), .int (nI 0), .long ab, .long be, .ref maa, .ref mab, .ref mba, .ref mbb]))] := hD
  have hPD := xcongl (q0 := 3) (lt4 1 1 1 0) hP hD rfl (fun j hj => (show ∀ j, j < 9 → lt4 1 1 1 0 j = (vp_updL (lt4 1 1 0 0) 2 1) j from by decide) j hj)
  clear hP hD
  obtain ⟨hP, hD⟩ := hPD
  replace hP : va_P D vwCl [(maa, .inl (cs 1, 9, .inr (.inl (lt4 0 0 0 0)))), (mab, .inl (cs 1, 9, .inr (.inl (lt4 1 1 1 0)))), (mba, .inl (cs 1, 9, .inr (.inl (lt4 0 4 0 0)))), (mbb, .inl (cs 1, 9, .inr (.inl (lt4 1 1 1 0)))), (hm, .inr (12, [.ref ms, .ref mkp, .int (nI 0), .ref mtr, .int (nI 4), .int (nI 2), .int (nI 2), .int (nI 3), .int (nI 2), .int (nI 1), .ref mas, .int (nI 0), .int (nI 0), .int (nI 0), .ref mso, .ref mon, .ref mot, .ref man, .int (nI 0), .int (nI 0), .ref mst, .ref msm, .ref mtb, .ref mti, .ref mfr, .ref mbn, .ref mbs, .ref mde, .int (nI 0), .int (nI 0), .int (nI 0), .int (nI 0), .long ab, .long be, .ref maa, .ref mab, .ref mba, .ref mbb]))] H := hP
  replace hD : va_D A [(maa, .inl (cs 1, 9, .inr (.inl (lt4 0 0 0 0)))), (mab, .inl (cs 1, 9, .inr (.inl (lt4 1 1 1 0)))), (mba, .inl (cs 1, 9, .inr (.inl (lt4 0 4 0 0)))), (mbb, .inl (cs 1, 9, .inr (.inl (lt4 1 1 1 0)))), (hm, .inr (12, [.ref ms, .ref mkp, .int (nI 0), .ref mtr, .int (nI 4), .int (nI 2), .int (nI 2), .int (nI 3), .int (nI 2), .int (nI 1), .ref mas, .int (nI 0), .int (nI 0), .int (nI 0), .ref mso, .ref mon, .ref mot, .ref man, .int (nI 0), .int (nI 0), .ref mst, .ref msm, .ref mtb, .ref mti, .ref mfr, .ref mbn, .ref mbs, .ref mde, .int (nI 0), .int (nI 0), .int (nI 0), .int (nI 0), .long ab, .long be, .ref maa, .ref mab, .ref mba, .ref mbb]))] := hD
  refine lv_lload_n hx hb dX12_laysStep_41 rfl (lv_at hl 1 rfl) ?_
  refine lv_lconst (v := 0) hx hb dX12_laysStep_42 (by decide) ?_
  refine W.lcmp hx hb dX12_laysStep_43 ?_
  refine lv_if_ne (tgt := 55) hx hb dX12_laysStep_44 (by decide) (fun _ => ?_) (fun c => absurd c (by decide))
  refine lv_aload_n hx hb dX12_laysStep_55 rfl (lv_at hl 2 rfl) ?_
  refine lv_lload hx hb dX12_laysStep_56 (lv_at hl 0 rfl) ?_
  refine lv_lconst (v := 1) hx hb dX12_laysStep_58 (by decide) ?_
  refine lv_aload_n hx hb dX12_laysStep_59 rfl (lv_at hl 2 rfl) ?_
  refine xget C hP 4 rfl rfl zuX12 34 (by decide) zw6_7 rfl dX12_laysStep_60 ?_
  refine lv_iload_n hx hb dX12_laysStep_63 rfl (lv_at hl 3 rfl) ?_
  refine lv_iconst (v := nI 1) hx hb dX12_laysStep_64 (by decide) ?_
  refine lv_isub hx hb dX12_laysStep_65 ?_
  refine lv_topi (nm_r (e' := nI 1) (by decide) ?_)
  refine xlald C hP 0 rfl 1 rfl (by decide) (by decide) dX12_laysStep_66 ?_
  refine lv_topl (nm_r (e' := 0) (by decide) ?_)
  refine lv_aload_n hx hb dX12_laysStep_67 rfl (lv_at hl 2 rfl) ?_
  refine xget C hP 4 rfl rfl zuX12 35 (by decide) zw6_8 rfl dX12_laysStep_68 ?_
  refine lv_iload_n hx hb dX12_laysStep_71 rfl (lv_at hl 3 rfl) ?_
  refine lv_iconst (v := nI 1) hx hb dX12_laysStep_72 (by decide) ?_
  refine lv_isub hx hb dX12_laysStep_73 ?_
  refine lv_topi (nm_r (e' := nI 1) (by decide) ?_)
  refine xlald C hP 1 rfl 1 rfl (by decide) (by decide) dX12_laysStep_74 ?_
  refine lv_topl (nm_r (e' := 1) (by decide) ?_)
  refine xv (wr := [(maa, .inl (cs 1, 9, .inr (.inl (lt4 0 0 0 0)))), (mab, .inl (cs 1, 9, .inr (.inl (lt4 1 1 1 0)))), (mba, .inl (cs 1, 9, .inr (.inl (lt4 0 4 0 0)))), (mbb, .inl (cs 1, 9, .inr (.inl (lt4 1 1 1 0))))]) (xV (As := [.long 2, .long 1, .long 0, .long 1]) (rest := []) C (c_X12_multiplies l D cs hm ms mkp mtr mas mso mon mot man mst msm mtb mti mfr mbn mbs mde maa mab mba mbb ab be 2 1 0 1 0 1 0 1 (by decide +kernel) (by decide +kernel) (by decide +kernel)) kX12_286 hP hD [4] rfl (by decide +kernel) 0 rfl rfl rfl ⟨Nat.le_of_ble_eq_true rfl, Nat.le_of_ble_eq_true rfl⟩ rfl hl.1 rfl (Nat.le_of_ble_eq_true rfl) dX12_laysStep_75 ⟨Nat.le_of_ble_eq_true rfl, Nat.le_of_ble_eq_true rfl⟩) hP hD hS hA [4] [0, 1, 2, 3] rfl rfl (by decide +kernel) (by decide +kernel) ?_
  clear hP hD hS
  try clear locs
  try clear H
  intro u_6 H locs hw_r_5 hP hD hS
  refine W.widen (k := 0) (n := 0) (Nat.le_of_ble_eq_true rfl) (Nat.le_of_ble_eq_true rfl) ?_
  replace hP : va_P D vwCl [(maa, .inl (cs 1, 9, .inr (.inl (lt4 0 0 0 0)))), (mab, .inl (cs 1, 9, .inr (.inl (lt4 1 1 1 0)))), (mba, .inl (cs 1, 9, .inr (.inl (lt4 0 4 0 0)))), (mbb, .inl (cs 1, 9, .inr (.inl (lt4 1 1 1 0)))), (hm, .inr (12, [.ref ms, .ref mkp, .int (nI 0), .ref mtr, .int (nI 4), .int (nI 2), .int (nI 2), .int (nI 3), .int (nI 2), .int (nI 1), .ref mas, .int (nI 0), .int (nI 0), .int (nI 0), .ref mso, .ref mon, .ref mot, .ref man, .int (nI 0), .int (nI 0), .ref mst, .ref msm, .ref mtb, .ref mti, .ref mfr, .ref mbn, .ref mbs, .ref mde, .int (nI 0), .int (nI 0), .int (nI 0), .int (nI 0), .long 0, .long 1, .ref maa, .ref mab, .ref mba, .ref mbb]))] H := hP
  replace hD : va_D A [(maa, .inl (cs 1, 9, .inr (.inl (lt4 0 0 0 0)))), (mab, .inl (cs 1, 9, .inr (.inl (lt4 1 1 1 0)))), (mba, .inl (cs 1, 9, .inr (.inl (lt4 0 4 0 0)))), (mbb, .inl (cs 1, 9, .inr (.inl (lt4 1 1 1 0)))), (hm, .inr (12, [.ref ms, .ref mkp, .int (nI 0), .ref mtr, .int (nI 4), .int (nI 2), .int (nI 2), .int (nI 3), .int (nI 2), .int (nI 1), .ref mas, .int (nI 0), .int (nI 0), .int (nI 0), .ref mso, .ref mon, .ref mot, .ref man, .int (nI 0), .int (nI 0), .ref mst, .ref msm, .ref mtb, .ref mti, .ref mfr, .ref mbn, .ref mbs, .ref mde, .int (nI 0), .int (nI 0), .int (nI 0), .int (nI 0), .long 0, .long 1, .ref maa, .ref mab, .ref mba, .ref mbb]))] := hD
  refine lv_aload_n hx hb dX12_laysStep_78 rfl (lv_at hl 2 rfl) ?_
  refine lv_lload_n hx hb dX12_laysStep_79 rfl (lv_at hl 1 rfl) ?_
  refine lv_lload hx hb dX12_laysStep_80 (lv_at hl 0 rfl) ?_
  refine lv_ladd hx hb dX12_laysStep_82 ?_
  refine lv_topl (nm_r (e' := 4) (by decide) ?_)
  refine lv_lconst (v := 1) hx hb dX12_laysStep_83 (by decide) ?_
  refine lv_aload_n hx hb dX12_laysStep_84 rfl (lv_at hl 2 rfl) ?_
  refine xget C hP 4 rfl rfl zuX12 32 (by decide) zw6_5 rfl dX12_laysStep_85 ?_
  refine lv_aload_n hx hb dX12_laysStep_88 rfl (lv_at hl 2 rfl) ?_
  refine xget C hP 4 rfl rfl zuX12 33 (by decide) zw6_6 rfl dX12_laysStep_89 ?_
  refine xv (wr := [(maa, .inl (cs 1, 9, .inr (.inl (lt4 0 0 0 0)))), (mab, .inl (cs 1, 9, .inr (.inl (lt4 1 1 1 0)))), (mba, .inl (cs 1, 9, .inr (.inl (lt4 0 4 0 0)))), (mbb, .inl (cs 1, 9, .inr (.inl (lt4 1 1 1 0))))]) (xV (As := [.long 4, .long 1, .long 0, .long 1]) (rest := []) C (c_X12_lessens l D cs hm ms mkp mtr mas mso mon mot man mst msm mtb mti mfr mbn mbs mde maa mab mba mbb 0 1 4 1 0 1 4 0 4 1 4 1 (by decide +kernel) (by decide +kernel) (by decide +kernel) (by decide +kernel) (by decide +kernel) (by decide +kernel)) kX12_290 hP hD [4] rfl (by decide +kernel) 0 rfl rfl rfl ⟨Nat.le_of_ble_eq_true rfl, Nat.le_of_ble_eq_true rfl⟩ rfl hl.1 rfl (Nat.le_of_ble_eq_true rfl) dX12_laysStep_92 ⟨Nat.le_of_ble_eq_true rfl, Nat.le_of_ble_eq_true rfl⟩) hP hD hS hA [4] [0, 1, 2, 3] rfl rfl (by decide +kernel) (by decide +kernel) ?_
  clear hP hD hS
  try clear locs
  try clear H
  intro u_8 H locs hw_r_7 hP hD hS
  refine W.widen (k := 0) (n := 0) (Nat.le_of_ble_eq_true rfl) (Nat.le_of_ble_eq_true rfl) ?_
  replace hP : va_P D vwCl [(maa, .inl (cs 1, 9, .inr (.inl (lt4 0 0 0 0)))), (mab, .inl (cs 1, 9, .inr (.inl (lt4 1 1 1 0)))), (mba, .inl (cs 1, 9, .inr (.inl (lt4 0 4 0 0)))), (mbb, .inl (cs 1, 9, .inr (.inl (lt4 1 1 1 0)))), (hm, .inr (12, [.ref ms, .ref mkp, .int (nI 0), .ref mtr, .int (nI 4), .int (nI 2), .int (nI 2), .int (nI 3), .int (nI 2), .int (nI 1), .ref mas, .int (nI 0), .int (nI 0), .int (nI 0), .ref mso, .ref mon, .ref mot, .ref man, .int (nI 0), .int (nI 0), .ref mst, .ref msm, .ref mtb, .ref mti, .ref mfr, .ref mbn, .ref mbs, .ref mde, .int (nI 0), .int (nI 0), .int (nI 0), .int (nI 0), .long 4, .long 1, .ref maa, .ref mab, .ref mba, .ref mbb]))] H := hP
  replace hD : va_D A [(maa, .inl (cs 1, 9, .inr (.inl (lt4 0 0 0 0)))), (mab, .inl (cs 1, 9, .inr (.inl (lt4 1 1 1 0)))), (mba, .inl (cs 1, 9, .inr (.inl (lt4 0 4 0 0)))), (mbb, .inl (cs 1, 9, .inr (.inl (lt4 1 1 1 0)))), (hm, .inr (12, [.ref ms, .ref mkp, .int (nI 0), .ref mtr, .int (nI 4), .int (nI 2), .int (nI 2), .int (nI 3), .int (nI 2), .int (nI 1), .ref mas, .int (nI 0), .int (nI 0), .int (nI 0), .ref mso, .ref mon, .ref mot, .ref man, .int (nI 0), .int (nI 0), .ref mst, .ref msm, .ref mtb, .ref mti, .ref mfr, .ref mbn, .ref mbs, .ref mde, .int (nI 0), .int (nI 0), .int (nI 0), .int (nI 0), .long 4, .long 1, .ref maa, .ref mab, .ref mba, .ref mbb]))] := hD
  refine lv_aload_n hx hb dX12_laysStep_95 rfl (lv_at hl 2 rfl) ?_
  refine xget C hP 4 rfl rfl zuX12 32 (by decide) zw6_5 rfl dX12_laysStep_96 ?_
  refine lv_lstore (lv' := [(7, .long 4), (5, .long 2), (3, .long 2), (0, .ref hm), (1, .int (nI 2)), (2, .int (nI 1))]) hx hb dX12_laysStep_99 hl (by decide) rfl ?_
  clear hl
  try clear ls
  intro ls hl
  refine lv_aload_n hx hb dX12_laysStep_101 rfl (lv_at hl 3 rfl) ?_
  refine xget C hP 4 rfl rfl zuX12 33 (by decide) zw6_6 rfl dX12_laysStep_102 ?_
  refine lv_lstore (lv' := [(9, .long 1), (7, .long 4), (5, .long 2), (3, .long 2), (0, .ref hm), (1, .int (nI 2)), (2, .int (nI 1))]) hx hb dX12_laysStep_105 hl (by decide) rfl ?_
  clear hl
  try clear ls
  intro ls hl
  refine lv_lload hx hb dX12_laysStep_107 (lv_at hl 1 rfl) ?_
  refine lv_lconst (v := 0) hx hb dX12_laysStep_109 (by decide) ?_
  refine W.lcmp hx hb dX12_laysStep_110 ?_
  refine lv_if_eq (tgt := 121) hx hb dX12_laysStep_111 (by decide) (fun c => absurd c (by decide)) (fun _ => ?_)
  refine lv_aload_n hx hb dX12_laysStep_114 rfl (lv_at hl 4 rfl) ?_
  refine xget C hP 4 rfl rfl zuX12 31 (by decide) zw6_4 rfl dX12_laysStep_115 ?_
  refine lv_if_eq (tgt := 122) hx hb dX12_laysStep_118 (by decide) (fun _ => ?_) (fun c => absurd (by decide) c)
  refine lv_aload_n hx hb dX12_laysStep_122 rfl (lv_at hl 4 rfl) ?_
  refine lv_lload_n hx hb dX12_laysStep_123 rfl (lv_at hl 3 rfl) ?_
  refine lv_lconst (v := 1) hx hb dX12_laysStep_124 (by decide) ?_
  refine lv_lload hx hb dX12_laysStep_125 (lv_at hl 1 rfl) ?_
  refine lv_lload hx hb dX12_laysStep_127 (lv_at hl 0 rfl) ?_
  refine xv (wr := [(maa, .inl (cs 1, 9, .inr (.inl (lt4 0 0 0 0)))), (mab, .inl (cs 1, 9, .inr (.inl (lt4 1 1 1 0)))), (mba, .inl (cs 1, 9, .inr (.inl (lt4 0 4 0 0)))), (mbb, .inl (cs 1, 9, .inr (.inl (lt4 1 1 1 0))))]) (xV (As := [.long 2, .long 1, .long 4, .long 1]) (rest := []) C (c_X12_divides l D cs hm ms mkp mtr mas mso mon mot man mst msm mtb mti mfr mbn mbs mde maa mab mba mbb 4 1 2 1 4 1 2 4 1 2 (by decide +kernel) (by decide +kernel) (by decide +kernel)) kX12_293 hP hD [4] rfl (by decide +kernel) 0 rfl rfl rfl ⟨Nat.le_of_ble_eq_true rfl, Nat.le_of_ble_eq_true rfl⟩ rfl hl.1 rfl (Nat.le_of_ble_eq_true rfl) dX12_laysStep_129 ⟨Nat.le_of_ble_eq_true rfl, Nat.le_of_ble_eq_true rfl⟩) hP hD hS hA [4] [0, 1, 2, 3] rfl rfl (by decide +kernel) (by decide +kernel) ?_
  clear hP hD hS
  try clear locs
  try clear H
  intro u_10 H locs hw_r_9 hP hD hS
  refine W.widen (k := 0) (n := 0) (Nat.le_of_ble_eq_true rfl) (Nat.le_of_ble_eq_true rfl) ?_
  replace hP : va_P D vwCl [(maa, .inl (cs 1, 9, .inr (.inl (lt4 0 0 0 0)))), (mab, .inl (cs 1, 9, .inr (.inl (lt4 1 1 1 0)))), (mba, .inl (cs 1, 9, .inr (.inl (lt4 0 4 0 0)))), (mbb, .inl (cs 1, 9, .inr (.inl (lt4 1 1 1 0)))), (hm, .inr (12, [.ref ms, .ref mkp, .int (nI 0), .ref mtr, .int (nI 4), .int (nI 2), .int (nI 2), .int (nI 3), .int (nI 2), .int (nI 1), .ref mas, .int (nI 0), .int (nI 0), .int (nI 0), .ref mso, .ref mon, .ref mot, .ref man, .int (nI 0), .int (nI 0), .ref mst, .ref msm, .ref mtb, .ref mti, .ref mfr, .ref mbn, .ref mbs, .ref mde, .int (nI 0), .int (nI 0), .int (nI 0), .int (nI 0), .long 1, .long 2, .ref maa, .ref mab, .ref mba, .ref mbb]))] H := hP
  replace hD : va_D A [(maa, .inl (cs 1, 9, .inr (.inl (lt4 0 0 0 0)))), (mab, .inl (cs 1, 9, .inr (.inl (lt4 1 1 1 0)))), (mba, .inl (cs 1, 9, .inr (.inl (lt4 0 4 0 0)))), (mbb, .inl (cs 1, 9, .inr (.inl (lt4 1 1 1 0)))), (hm, .inr (12, [.ref ms, .ref mkp, .int (nI 0), .ref mtr, .int (nI 4), .int (nI 2), .int (nI 2), .int (nI 3), .int (nI 2), .int (nI 1), .ref mas, .int (nI 0), .int (nI 0), .int (nI 0), .ref mso, .ref mon, .ref mot, .ref man, .int (nI 0), .int (nI 0), .ref mst, .ref msm, .ref mtb, .ref mti, .ref mfr, .ref mbn, .ref mbs, .ref mde, .int (nI 0), .int (nI 0), .int (nI 0), .int (nI 0), .long 1, .long 2, .ref maa, .ref mab, .ref mba, .ref mbb]))] := hD
  refine lv_aload_n hx hb dX12_laysStep_132 rfl (lv_at hl 4 rfl) ?_
  refine xget C hP 4 rfl rfl zuX12 34 (by decide) zw6_7 rfl dX12_laysStep_133 ?_
  refine lv_iload_n hx hb dX12_laysStep_136 rfl (lv_at hl 5 rfl) ?_
  refine lv_aload_n hx hb dX12_laysStep_137 rfl (lv_at hl 4 rfl) ?_
  refine xget C hP 4 rfl rfl zuX12 32 (by decide) zw6_5 rfl dX12_laysStep_138 ?_
  refine xlast C hP hD hS 0 rfl 2 rfl (by decide) (by decide) dX12_laysStep_141 ?_
  clear hP hD hS
  try clear locs
  try clear H
  intro H locs hP hD hS
  replace hP : va_P D vwCl [(maa, .inl (cs 1, 9, .inr (.inl (vp_updL (lt4 0 0 0 0) 2 1)))), (mab, .inl (cs 1, 9, .inr (.inl (lt4 1 1 1 0)))), (mba, .inl (cs 1, 9, .inr (.inl (lt4 0 4 0 0)))), (mbb, .inl (cs 1, 9, .inr (.inl (lt4 1 1 1 0)))), (hm, .inr (12, [.ref ms, .ref mkp, .int (nI 0), .ref mtr, .int (nI 4), .int (nI 2), .int (nI 2), .int (nI 3), .int (nI 2), .int (nI 1), .ref mas, .int (nI 0), .int (nI 0), .int (nI 0), .ref mso, .ref mon, .ref mot, .ref man, .int (nI 0), .int (nI 0), .ref mst, .ref msm, .ref mtb, .ref mti, .ref mfr, .ref mbn, .ref mbs, .ref mde, .int (nI 0), .int (nI 0), .int (nI 0), .int (nI 0), .long 1, .long 2, .ref maa, .ref mab, .ref mba, .ref mbb]))] H := hP
  replace hD : va_D A [(maa, .inl (cs 1, 9, .inr (.inl (vp_updL (lt4 0 0 0 0) 2 1)))), (mab, .inl (cs 1, 9, .inr (.inl (lt4 1 1 1 0)))), (mba, .inl (cs 1, 9, .inr (.inl (lt4 0 4 0 0)))), (mbb, .inl (cs 1, 9, .inr (.inl (lt4 1 1 1 0)))), (hm, .inr (12, [.ref ms, .ref mkp, .int (nI 0), .ref mtr, .int (nI 4), .int (nI 2), .int (nI 2), .int (nI 3), .int (nI 2), .int (nI 1), .ref mas, .int (nI 0), .int (nI 0), .int (nI 0), .ref mso, .ref mon, .ref mot, .ref man, .int (nI 0), .int (nI 0), .ref mst, .ref msm, .ref mtb, .ref mti, .ref mfr, .ref mbn, .ref mbs, .ref mde, .int (nI 0), .int (nI 0), .int (nI 0), .int (nI 0), .long 1, .long 2, .ref maa, .ref mab, .ref mba, .ref mbb]))] := hD
  refine lv_aload_n hx hb dX12_laysStep_142 rfl (lv_at hl 4 rfl) ?_
  refine xget C hP 4 rfl rfl zuX12 35 (by decide) zw6_8 rfl dX12_laysStep_143 ?_
  refine lv_iload_n hx hb dX12_laysStep_146 rfl (lv_at hl 5 rfl) ?_
  refine lv_aload_n hx hb dX12_laysStep_147 rfl (lv_at hl 4 rfl) ?_
  refine xget C hP 4 rfl rfl zuX12 33 (by decide) zw6_6 rfl dX12_laysStep_148 ?_
  refine xlast C hP hD hS 1 rfl 2 rfl (by decide) (by decide) dX12_laysStep_151 ?_
  clear hP hD hS
  try clear locs
  try clear H
  intro H locs hP hD hS
  replace hP : va_P D vwCl [(maa, .inl (cs 1, 9, .inr (.inl (vp_updL (lt4 0 0 0 0) 2 1)))), (mab, .inl (cs 1, 9, .inr (.inl (vp_updL (lt4 1 1 1 0) 2 2)))), (mba, .inl (cs 1, 9, .inr (.inl (lt4 0 4 0 0)))), (mbb, .inl (cs 1, 9, .inr (.inl (lt4 1 1 1 0)))), (hm, .inr (12, [.ref ms, .ref mkp, .int (nI 0), .ref mtr, .int (nI 4), .int (nI 2), .int (nI 2), .int (nI 3), .int (nI 2), .int (nI 1), .ref mas, .int (nI 0), .int (nI 0), .int (nI 0), .ref mso, .ref mon, .ref mot, .ref man, .int (nI 0), .int (nI 0), .ref mst, .ref msm, .ref mtb, .ref mti, .ref mfr, .ref mbn, .ref mbs, .ref mde, .int (nI 0), .int (nI 0), .int (nI 0), .int (nI 0), .long 1, .long 2, .ref maa, .ref mab, .ref mba, .ref mbb]))] H := hP
  replace hD : va_D A [(maa, .inl (cs 1, 9, .inr (.inl (vp_updL (lt4 0 0 0 0) 2 1)))), (mab, .inl (cs 1, 9, .inr (.inl (vp_updL (lt4 1 1 1 0) 2 2)))), (mba, .inl (cs 1, 9, .inr (.inl (lt4 0 4 0 0)))), (mbb, .inl (cs 1, 9, .inr (.inl (lt4 1 1 1 0)))), (hm, .inr (12, [.ref ms, .ref mkp, .int (nI 0), .ref mtr, .int (nI 4), .int (nI 2), .int (nI 2), .int (nI 3), .int (nI 2), .int (nI 1), .ref mas, .int (nI 0), .int (nI 0), .int (nI 0), .ref mso, .ref mon, .ref mot, .ref man, .int (nI 0), .int (nI 0), .ref mst, .ref msm, .ref mtb, .ref mti, .ref mfr, .ref mbn, .ref mbs, .ref mde, .int (nI 0), .int (nI 0), .int (nI 0), .int (nI 0), .long 1, .long 2, .ref maa, .ref mab, .ref mba, .ref mbb]))] := hD
  have hPD := xcongl (q0 := 0) (lt4 0 0 1 0) hP hD rfl (fun j hj => (show ∀ j, j < 9 → lt4 0 0 1 0 j = (vp_updL (lt4 0 0 0 0) 2 1) j from by decide) j hj)
  clear hP hD
  obtain ⟨hP, hD⟩ := hPD
  replace hP : va_P D vwCl [(maa, .inl (cs 1, 9, .inr (.inl (lt4 0 0 1 0)))), (mab, .inl (cs 1, 9, .inr (.inl (vp_updL (lt4 1 1 1 0) 2 2)))), (mba, .inl (cs 1, 9, .inr (.inl (lt4 0 4 0 0)))), (mbb, .inl (cs 1, 9, .inr (.inl (lt4 1 1 1 0)))), (hm, .inr (12, [.ref ms, .ref mkp, .int (nI 0), .ref mtr, .int (nI 4), .int (nI 2), .int (nI 2), .int (nI 3), .int (nI 2), .int (nI 1), .ref mas, .int (nI 0), .int (nI 0), .int (nI 0), .ref mso, .ref mon, .ref mot, .ref man, .int (nI 0), .int (nI 0), .ref mst, .ref msm, .ref mtb, .ref mti, .ref mfr, .ref mbn, .ref mbs, .ref mde, .int (nI 0), .int (nI 0), .int (nI 0), .int (nI 0), .long 1, .long 2, .ref maa, .ref mab, .ref mba, .ref mbb]))] H := hP
  replace hD : va_D A [(maa, .inl (cs 1, 9, .inr (.inl (lt4 0 0 1 0)))), (mab, .inl (cs 1, 9, .inr (.inl (vp_updL (lt4 1 1 1 0) 2 2)))), (mba, .inl (cs 1, 9, .inr (.inl (lt4 0 4 0 0)))), (mbb, .inl (cs 1, 9, .inr (.inl (lt4 1 1 1 0)))), (hm, .inr (12, [.ref ms, .ref mkp, .int (nI 0), .ref mtr, .int (nI 4), .int (nI 2), .int (nI 2), .int (nI 3), .int (nI 2), .int (nI 1), .ref mas, .int (nI 0), .int (nI 0), .int (nI 0), .ref mso, .ref mon, .ref mot, .ref man, .int (nI 0), .int (nI 0), .ref mst, .ref msm, .ref mtb, .ref mti, .ref mfr, .ref mbn, .ref mbs, .ref mde, .int (nI 0), .int (nI 0), .int (nI 0), .int (nI 0), .long 1, .long 2, .ref maa, .ref mab, .ref mba, .ref mbb]))] := hD
  have hPD := xcongl (q0 := 1) (lt4 1 1 2 0) hP hD rfl (fun j hj => (show ∀ j, j < 9 → lt4 1 1 2 0 j = (vp_updL (lt4 1 1 1 0) 2 2) j from by decide) j hj)
  clear hP hD
  obtain ⟨hP, hD⟩ := hPD
  replace hP : va_P D vwCl [(maa, .inl (cs 1, 9, .inr (.inl (lt4 0 0 1 0)))), (mab, .inl (cs 1, 9, .inr (.inl (lt4 1 1 2 0)))), (mba, .inl (cs 1, 9, .inr (.inl (lt4 0 4 0 0)))), (mbb, .inl (cs 1, 9, .inr (.inl (lt4 1 1 1 0)))), (hm, .inr (12, [.ref ms, .ref mkp, .int (nI 0), .ref mtr, .int (nI 4), .int (nI 2), .int (nI 2), .int (nI 3), .int (nI 2), .int (nI 1), .ref mas, .int (nI 0), .int (nI 0), .int (nI 0), .ref mso, .ref mon, .ref mot, .ref man, .int (nI 0), .int (nI 0), .ref mst, .ref msm, .ref mtb, .ref mti, .ref mfr, .ref mbn, .ref mbs, .ref mde, .int (nI 0), .int (nI 0), .int (nI 0), .int (nI 0), .long 1, .long 2, .ref maa, .ref mab, .ref mba, .ref mbb]))] H := hP
  replace hD : va_D A [(maa, .inl (cs 1, 9, .inr (.inl (lt4 0 0 1 0)))), (mab, .inl (cs 1, 9, .inr (.inl (lt4 1 1 2 0)))), (mba, .inl (cs 1, 9, .inr (.inl (lt4 0 4 0 0)))), (mbb, .inl (cs 1, 9, .inr (.inl (lt4 1 1 1 0)))), (hm, .inr (12, [.ref ms, .ref mkp, .int (nI 0), .ref mtr, .int (nI 4), .int (nI 2), .int (nI 2), .int (nI 3), .int (nI 2), .int (nI 1), .ref mas, .int (nI 0), .int (nI 0), .int (nI 0), .ref mso, .ref mon, .ref mot, .ref man, .int (nI 0), .int (nI 0), .ref mst, .ref msm, .ref mtb, .ref mti, .ref mfr, .ref mbn, .ref mbs, .ref mde, .int (nI 0), .int (nI 0), .int (nI 0), .int (nI 0), .long 1, .long 2, .ref maa, .ref mab, .ref mba, .ref mbb]))] := hD
  refine lv_aload_n hx hb dX12_laysStep_152 rfl (lv_at hl 4 rfl) ?_
  refine lv_lload hx hb dX12_laysStep_153 (lv_at hl 2 rfl) ?_
  refine lv_lconst (v := 1) hx hb dX12_laysStep_155 (by decide) ?_
  refine lv_aload_n hx hb dX12_laysStep_156 rfl (lv_at hl 4 rfl) ?_
  refine xget C hP 4 rfl rfl zuX12 36 (by decide) zw6_9 rfl dX12_laysStep_157 ?_
  refine lv_iload_n hx hb dX12_laysStep_160 rfl (lv_at hl 5 rfl) ?_
  refine lv_iconst (v := nI 1) hx hb dX12_laysStep_161 (by decide) ?_
  refine lv_isub hx hb dX12_laysStep_162 ?_
  refine lv_topi (nm_r (e' := nI 1) (by decide) ?_)
  refine xlald C hP 2 rfl 1 rfl (by decide) (by decide) dX12_laysStep_163 ?_
  refine lv_topl (nm_r (e' := 4) (by decide) ?_)
  refine lv_aload_n hx hb dX12_laysStep_164 rfl (lv_at hl 4 rfl) ?_
  refine xget C hP 4 rfl rfl zuX12 37 (by decide) zw6_10 rfl dX12_laysStep_165 ?_
  refine lv_iload_n hx hb dX12_laysStep_168 rfl (lv_at hl 5 rfl) ?_
  refine lv_iconst (v := nI 1) hx hb dX12_laysStep_169 (by decide) ?_
  refine lv_isub hx hb dX12_laysStep_170 ?_
  refine lv_topi (nm_r (e' := nI 1) (by decide) ?_)
  refine xlald C hP 3 rfl 1 rfl (by decide) (by decide) dX12_laysStep_171 ?_
  refine lv_topl (nm_r (e' := 1) (by decide) ?_)
  refine xv (wr := [(maa, .inl (cs 1, 9, .inr (.inl (lt4 0 0 1 0)))), (mab, .inl (cs 1, 9, .inr (.inl (lt4 1 1 2 0)))), (mba, .inl (cs 1, 9, .inr (.inl (lt4 0 4 0 0)))), (mbb, .inl (cs 1, 9, .inr (.inl (lt4 1 1 1 0))))]) (xV (As := [.long 2, .long 1, .long 4, .long 1]) (rest := []) C (c_X12_multiplies l D cs hm ms mkp mtr mas mso mon mot man mst msm mtb mti mfr mbn mbs mde maa mab mba mbb 1 2 2 1 4 1 8 1 8 1 (by decide +kernel) (by decide +kernel) (by decide +kernel)) kX12_286 hP hD [4] rfl (by decide +kernel) 0 rfl rfl rfl ⟨Nat.le_of_ble_eq_true rfl, Nat.le_of_ble_eq_true rfl⟩ rfl hl.1 rfl (Nat.le_of_ble_eq_true rfl) dX12_laysStep_172 ⟨Nat.le_of_ble_eq_true rfl, Nat.le_of_ble_eq_true rfl⟩) hP hD hS hA [4] [0, 1, 2, 3] rfl rfl (by decide +kernel) (by decide +kernel) ?_
  clear hP hD hS
  try clear locs
  try clear H
  intro u_12 H locs hw_r_11 hP hD hS
  refine W.widen (k := 0) (n := 0) (Nat.le_of_ble_eq_true rfl) (Nat.le_of_ble_eq_true rfl) ?_
  replace hP : va_P D vwCl [(maa, .inl (cs 1, 9, .inr (.inl (lt4 0 0 1 0)))), (mab, .inl (cs 1, 9, .inr (.inl (lt4 1 1 2 0)))), (mba, .inl (cs 1, 9, .inr (.inl (lt4 0 4 0 0)))), (mbb, .inl (cs 1, 9, .inr (.inl (lt4 1 1 1 0)))), (hm, .inr (12, [.ref ms, .ref mkp, .int (nI 0), .ref mtr, .int (nI 4), .int (nI 2), .int (nI 2), .int (nI 3), .int (nI 2), .int (nI 1), .ref mas, .int (nI 0), .int (nI 0), .int (nI 0), .ref mso, .ref mon, .ref mot, .ref man, .int (nI 0), .int (nI 0), .ref mst, .ref msm, .ref mtb, .ref mti, .ref mfr, .ref mbn, .ref mbs, .ref mde, .int (nI 0), .int (nI 0), .int (nI 0), .int (nI 0), .long 8, .long 1, .ref maa, .ref mab, .ref mba, .ref mbb]))] H := hP
  replace hD : va_D A [(maa, .inl (cs 1, 9, .inr (.inl (lt4 0 0 1 0)))), (mab, .inl (cs 1, 9, .inr (.inl (lt4 1 1 2 0)))), (mba, .inl (cs 1, 9, .inr (.inl (lt4 0 4 0 0)))), (mbb, .inl (cs 1, 9, .inr (.inl (lt4 1 1 1 0)))), (hm, .inr (12, [.ref ms, .ref mkp, .int (nI 0), .ref mtr, .int (nI 4), .int (nI 2), .int (nI 2), .int (nI 3), .int (nI 2), .int (nI 1), .ref mas, .int (nI 0), .int (nI 0), .int (nI 0), .ref mso, .ref mon, .ref mot, .ref man, .int (nI 0), .int (nI 0), .ref mst, .ref msm, .ref mtb, .ref mti, .ref mfr, .ref mbn, .ref mbs, .ref mde, .int (nI 0), .int (nI 0), .int (nI 0), .int (nI 0), .long 8, .long 1, .ref maa, .ref mab, .ref mba, .ref mbb]))] := hD
  refine lv_iload_n hx hb dX12_laysStep_175 rfl (lv_at hl 6 rfl) ?_
  refine lv_if_eq (tgt := 202) hx hb dX12_laysStep_176 (by decide) (fun c => absurd c (by decide)) (fun _ => ?_)
  refine lv_aload_n hx hb dX12_laysStep_179 rfl (lv_at hl 4 rfl) ?_
  refine lv_aload_n hx hb dX12_laysStep_180 rfl (lv_at hl 4 rfl) ?_
  refine xget C hP 4 rfl rfl zuX12 4 (by decide) zw5_217 rfl dX12_laysStep_181 ?_
  refine lv_i2l hx hb dX12_laysStep_184 rfl ?_
  refine lv_aload_n hx hb dX12_laysStep_185 rfl (lv_at hl 4 rfl) ?_
  refine xl (wr := [(maa, .inl (cs 1, 9, .inr (.inl (lt4 0 0 1 0)))), (mab, .inl (cs 1, 9, .inr (.inl (lt4 1 1 2 0)))), (mba, .inl (cs 1, 9, .inr (.inl (lt4 0 4 0 0)))), (mbb, .inl (cs 1, 9, .inr (.inl (lt4 1 1 1 0))))]) (xV (As := []) (rest := [.long ((nI 4).toInt64), .ref hm]) C (c_X12_samples_c l D cs hm ms mkp mtr mas mso mon mot man mst msm mtb mti mfr mbn mbs mde maa mab mba mbb 8 1) kX12_180 hP hD [4] rfl (by decide +kernel) 0 rfl rfl rfl ⟨Nat.le_of_ble_eq_true rfl, Nat.le_of_ble_eq_true rfl⟩ rfl hl.1 rfl (Nat.le_of_ble_eq_true rfl) dX12_laysStep_186 ⟨Nat.le_of_ble_eq_true rfl, Nat.le_of_ble_eq_true rfl⟩) hP hD hS hA [4] [0, 1, 2, 3] rfl rfl (by decide +kernel) (by decide +kernel) ?_
  clear hP hD hS
  try clear locs
  try clear H
  intro r_13 u_14 H locs hw_r_13 hP hD hS
  have hw_r_13 : r_13 = 3 := hw_r_13
  refine W.widen (k := 0) (n := 0) (Nat.le_of_ble_eq_true rfl) (Nat.le_of_ble_eq_true rfl) ?_
  replace hP : va_P D vwCl [(maa, .inl (cs 1, 9, .inr (.inl (lt4 0 0 1 0)))), (mab, .inl (cs 1, 9, .inr (.inl (lt4 1 1 2 0)))), (mba, .inl (cs 1, 9, .inr (.inl (lt4 0 4 0 0)))), (mbb, .inl (cs 1, 9, .inr (.inl (lt4 1 1 1 0)))), (hm, .inr (12, [.ref ms, .ref mkp, .int (nI 0), .ref mtr, .int (nI 4), .int (nI 2), .int (nI 2), .int (nI 3), .int (nI 2), .int (nI 1), .ref mas, .int (nI 0), .int (nI 0), .int (nI 0), .ref mso, .ref mon, .ref mot, .ref man, .int (nI 0), .int (nI 0), .ref mst, .ref msm, .ref mtb, .ref mti, .ref mfr, .ref mbn, .ref mbs, .ref mde, .int (nI 0), .int (nI 0), .int (nI 0), .int (nI 0), .long 8, .long 1, .ref maa, .ref mab, .ref mba, .ref mbb]))] H := hP
  replace hD : va_D A [(maa, .inl (cs 1, 9, .inr (.inl (lt4 0 0 1 0)))), (mab, .inl (cs 1, 9, .inr (.inl (lt4 1 1 2 0)))), (mba, .inl (cs 1, 9, .inr (.inl (lt4 0 4 0 0)))), (mbb, .inl (cs 1, 9, .inr (.inl (lt4 1 1 1 0)))), (hm, .inr (12, [.ref ms, .ref mkp, .int (nI 0), .ref mtr, .int (nI 4), .int (nI 2), .int (nI 2), .int (nI 3), .int (nI 2), .int (nI 1), .ref mas, .int (nI 0), .int (nI 0), .int (nI 0), .ref mso, .ref mon, .ref mot, .ref man, .int (nI 0), .int (nI 0), .ref mst, .ref msm, .ref mtb, .ref mti, .ref mfr, .ref mbn, .ref mbs, .ref mde, .int (nI 0), .int (nI 0), .int (nI 0), .int (nI 0), .long 8, .long 1, .ref maa, .ref mab, .ref mba, .ref mbb]))] := hD
  subst hw_r_13
  refine lv_lmul hx hb dX12_laysStep_189 ?_
  refine lv_topl (nm_r (e' := 12) (by decide) ?_)
  refine lv_lconst (v := 1) hx hb dX12_laysStep_190 (by decide) ?_
  refine lv_aload_n hx hb dX12_laysStep_191 rfl (lv_at hl 4 rfl) ?_
  refine xget C hP 4 rfl rfl zuX12 32 (by decide) zw6_5 rfl dX12_laysStep_192 ?_
  refine lv_aload_n hx hb dX12_laysStep_195 rfl (lv_at hl 4 rfl) ?_
  refine xget C hP 4 rfl rfl zuX12 33 (by decide) zw6_6 rfl dX12_laysStep_196 ?_
  refine xv (wr := [(maa, .inl (cs 1, 9, .inr (.inl (lt4 0 0 1 0)))), (mab, .inl (cs 1, 9, .inr (.inl (lt4 1 1 2 0)))), (mba, .inl (cs 1, 9, .inr (.inl (lt4 0 4 0 0)))), (mbb, .inl (cs 1, 9, .inr (.inl (lt4 1 1 1 0))))]) (xV (As := [.long 12, .long 1, .long 8, .long 1]) (rest := []) C (c_X12_adds l D cs hm ms mkp mtr mas mso mon mot man mst msm mtb mti mfr mbn mbs mde maa mab mba mbb 8 1 12 1 8 1 12 8 20 1 20 1 (by decide +kernel) (by decide +kernel) (by decide +kernel) (by decide +kernel) (by decide +kernel) (by decide +kernel)) kX12_296 hP hD [4] rfl (by decide +kernel) 0 rfl rfl rfl ⟨Nat.le_of_ble_eq_true rfl, Nat.le_of_ble_eq_true rfl⟩ rfl hl.1 rfl (Nat.le_of_ble_eq_true rfl) dX12_laysStep_199 ⟨Nat.le_of_ble_eq_true rfl, Nat.le_of_ble_eq_true rfl⟩) hP hD hS hA [4] [0, 1, 2, 3] rfl rfl (by decide +kernel) (by decide +kernel) ?_
  clear hP hD hS
  try clear locs
  try clear H
  intro u_16 H locs hw_r_15 hP hD hS
  refine W.widen (k := 0) (n := 0) (Nat.le_of_ble_eq_true rfl) (Nat.le_of_ble_eq_true rfl) ?_
  replace hP : va_P D vwCl [(maa, .inl (cs 1, 9, .inr (.inl (lt4 0 0 1 0)))), (mab, .inl (cs 1, 9, .inr (.inl (lt4 1 1 2 0)))), (mba, .inl (cs 1, 9, .inr (.inl (lt4 0 4 0 0)))), (mbb, .inl (cs 1, 9, .inr (.inl (lt4 1 1 1 0)))), (hm, .inr (12, [.ref ms, .ref mkp, .int (nI 0), .ref mtr, .int (nI 4), .int (nI 2), .int (nI 2), .int (nI 3), .int (nI 2), .int (nI 1), .ref mas, .int (nI 0), .int (nI 0), .int (nI 0), .ref mso, .ref mon, .ref mot, .ref man, .int (nI 0), .int (nI 0), .ref mst, .ref msm, .ref mtb, .ref mti, .ref mfr, .ref mbn, .ref mbs, .ref mde, .int (nI 0), .int (nI 0), .int (nI 0), .int (nI 0), .long 20, .long 1, .ref maa, .ref mab, .ref mba, .ref mbb]))] H := hP
  replace hD : va_D A [(maa, .inl (cs 1, 9, .inr (.inl (lt4 0 0 1 0)))), (mab, .inl (cs 1, 9, .inr (.inl (lt4 1 1 2 0)))), (mba, .inl (cs 1, 9, .inr (.inl (lt4 0 4 0 0)))), (mbb, .inl (cs 1, 9, .inr (.inl (lt4 1 1 1 0)))), (hm, .inr (12, [.ref ms, .ref mkp, .int (nI 0), .ref mtr, .int (nI 4), .int (nI 2), .int (nI 2), .int (nI 3), .int (nI 2), .int (nI 1), .ref mas, .int (nI 0), .int (nI 0), .int (nI 0), .ref mso, .ref mon, .ref mot, .ref man, .int (nI 0), .int (nI 0), .ref mst, .ref msm, .ref mtb, .ref mti, .ref mfr, .ref mbn, .ref mbs, .ref mde, .int (nI 0), .int (nI 0), .int (nI 0), .int (nI 0), .long 20, .long 1, .ref maa, .ref mab, .ref mba, .ref mbb]))] := hD
  refine lv_aload_n hx hb dX12_laysStep_202 rfl (lv_at hl 4 rfl) ?_
  refine lv_aload_n hx hb dX12_laysStep_203 rfl (lv_at hl 4 rfl) ?_
  refine xget C hP 4 rfl rfl zuX12 32 (by decide) zw6_5 rfl dX12_laysStep_204 ?_
  refine lv_aload_n hx hb dX12_laysStep_207 rfl (lv_at hl 4 rfl) ?_
  refine xget C hP 4 rfl rfl zuX12 33 (by decide) zw6_6 rfl dX12_laysStep_208 ?_
  refine lv_lload hx hb dX12_laysStep_211 (lv_at hl 1 rfl) ?_
  refine lv_lload hx hb dX12_laysStep_213 (lv_at hl 0 rfl) ?_
  refine xv (wr := [(maa, .inl (cs 1, 9, .inr (.inl (lt4 0 0 1 0)))), (mab, .inl (cs 1, 9, .inr (.inl (lt4 1 1 2 0)))), (mba, .inl (cs 1, 9, .inr (.inl (lt4 0 4 0 0)))), (mbb, .inl (cs 1, 9, .inr (.inl (lt4 1 1 1 0))))]) (xV (As := [.long 20, .long 1, .long 4, .long 1]) (rest := []) C (c_X12_divides l D cs hm ms mkp mtr mas mso mon mot man mst msm mtb mti mfr mbn mbs mde maa mab mba mbb 20 1 20 1 4 1 20 4 5 1 (by decide +kernel) (by decide +kernel) (by decide +kernel)) kX12_293 hP hD [4] rfl (by decide +kernel) 0 rfl rfl rfl ⟨Nat.le_of_ble_eq_true rfl, Nat.le_of_ble_eq_true rfl⟩ rfl hl.1 rfl (Nat.le_of_ble_eq_true rfl) dX12_laysStep_215 ⟨Nat.le_of_ble_eq_true rfl, Nat.le_of_ble_eq_true rfl⟩) hP hD hS hA [4] [0, 1, 2, 3] rfl rfl (by decide +kernel) (by decide +kernel) ?_
  clear hP hD hS
  try clear locs
  try clear H
  intro u_18 H locs hw_r_17 hP hD hS
  refine W.widen (k := 0) (n := 0) (Nat.le_of_ble_eq_true rfl) (Nat.le_of_ble_eq_true rfl) ?_
  replace hP : va_P D vwCl [(maa, .inl (cs 1, 9, .inr (.inl (lt4 0 0 1 0)))), (mab, .inl (cs 1, 9, .inr (.inl (lt4 1 1 2 0)))), (mba, .inl (cs 1, 9, .inr (.inl (lt4 0 4 0 0)))), (mbb, .inl (cs 1, 9, .inr (.inl (lt4 1 1 1 0)))), (hm, .inr (12, [.ref ms, .ref mkp, .int (nI 0), .ref mtr, .int (nI 4), .int (nI 2), .int (nI 2), .int (nI 3), .int (nI 2), .int (nI 1), .ref mas, .int (nI 0), .int (nI 0), .int (nI 0), .ref mso, .ref mon, .ref mot, .ref man, .int (nI 0), .int (nI 0), .ref mst, .ref msm, .ref mtb, .ref mti, .ref mfr, .ref mbn, .ref mbs, .ref mde, .int (nI 0), .int (nI 0), .int (nI 0), .int (nI 0), .long 5, .long 1, .ref maa, .ref mab, .ref mba, .ref mbb]))] H := hP
  replace hD : va_D A [(maa, .inl (cs 1, 9, .inr (.inl (lt4 0 0 1 0)))), (mab, .inl (cs 1, 9, .inr (.inl (lt4 1 1 2 0)))), (mba, .inl (cs 1, 9, .inr (.inl (lt4 0 4 0 0)))), (mbb, .inl (cs 1, 9, .inr (.inl (lt4 1 1 1 0)))), (hm, .inr (12, [.ref ms, .ref mkp, .int (nI 0), .ref mtr, .int (nI 4), .int (nI 2), .int (nI 2), .int (nI 3), .int (nI 2), .int (nI 1), .ref mas, .int (nI 0), .int (nI 0), .int (nI 0), .ref mso, .ref mon, .ref mot, .ref man, .int (nI 0), .int (nI 0), .ref mst, .ref msm, .ref mtb, .ref mti, .ref mfr, .ref mbn, .ref mbs, .ref mde, .int (nI 0), .int (nI 0), .int (nI 0), .int (nI 0), .long 5, .long 1, .ref maa, .ref mab, .ref mba, .ref mbb]))] := hD
  refine lv_aload_n hx hb dX12_laysStep_218 rfl (lv_at hl 4 rfl) ?_
  refine xget C hP 4 rfl rfl zuX12 36 (by decide) zw6_9 rfl dX12_laysStep_219 ?_
  refine lv_iload_n hx hb dX12_laysStep_222 rfl (lv_at hl 5 rfl) ?_
  refine lv_aload_n hx hb dX12_laysStep_223 rfl (lv_at hl 4 rfl) ?_
  refine xget C hP 4 rfl rfl zuX12 32 (by decide) zw6_5 rfl dX12_laysStep_224 ?_
  refine xlast C hP hD hS 2 rfl 2 rfl (by decide) (by decide) dX12_laysStep_227 ?_
  clear hP hD hS
  try clear locs
  try clear H
  intro H locs hP hD hS
  replace hP : va_P D vwCl [(maa, .inl (cs 1, 9, .inr (.inl (lt4 0 0 1 0)))), (mab, .inl (cs 1, 9, .inr (.inl (lt4 1 1 2 0)))), (mba, .inl (cs 1, 9, .inr (.inl (vp_updL (lt4 0 4 0 0) 2 5)))), (mbb, .inl (cs 1, 9, .inr (.inl (lt4 1 1 1 0)))), (hm, .inr (12, [.ref ms, .ref mkp, .int (nI 0), .ref mtr, .int (nI 4), .int (nI 2), .int (nI 2), .int (nI 3), .int (nI 2), .int (nI 1), .ref mas, .int (nI 0), .int (nI 0), .int (nI 0), .ref mso, .ref mon, .ref mot, .ref man, .int (nI 0), .int (nI 0), .ref mst, .ref msm, .ref mtb, .ref mti, .ref mfr, .ref mbn, .ref mbs, .ref mde, .int (nI 0), .int (nI 0), .int (nI 0), .int (nI 0), .long 5, .long 1, .ref maa, .ref mab, .ref mba, .ref mbb]))] H := hP
  replace hD : va_D A [(maa, .inl (cs 1, 9, .inr (.inl (lt4 0 0 1 0)))), (mab, .inl (cs 1, 9, .inr (.inl (lt4 1 1 2 0)))), (mba, .inl (cs 1, 9, .inr (.inl (vp_updL (lt4 0 4 0 0) 2 5)))), (mbb, .inl (cs 1, 9, .inr (.inl (lt4 1 1 1 0)))), (hm, .inr (12, [.ref ms, .ref mkp, .int (nI 0), .ref mtr, .int (nI 4), .int (nI 2), .int (nI 2), .int (nI 3), .int (nI 2), .int (nI 1), .ref mas, .int (nI 0), .int (nI 0), .int (nI 0), .ref mso, .ref mon, .ref mot, .ref man, .int (nI 0), .int (nI 0), .ref mst, .ref msm, .ref mtb, .ref mti, .ref mfr, .ref mbn, .ref mbs, .ref mde, .int (nI 0), .int (nI 0), .int (nI 0), .int (nI 0), .long 5, .long 1, .ref maa, .ref mab, .ref mba, .ref mbb]))] := hD
  refine lv_aload_n hx hb dX12_laysStep_228 rfl (lv_at hl 4 rfl) ?_
  refine xget C hP 4 rfl rfl zuX12 37 (by decide) zw6_10 rfl dX12_laysStep_229 ?_
  refine lv_iload_n hx hb dX12_laysStep_232 rfl (lv_at hl 5 rfl) ?_
  refine lv_aload_n hx hb dX12_laysStep_233 rfl (lv_at hl 4 rfl) ?_
  refine xget C hP 4 rfl rfl zuX12 33 (by decide) zw6_6 rfl dX12_laysStep_234 ?_
  refine xlast C hP hD hS 3 rfl 2 rfl (by decide) (by decide) dX12_laysStep_237 ?_
  clear hP hD hS
  try clear locs
  try clear H
  intro H locs hP hD hS
  replace hP : va_P D vwCl [(maa, .inl (cs 1, 9, .inr (.inl (lt4 0 0 1 0)))), (mab, .inl (cs 1, 9, .inr (.inl (lt4 1 1 2 0)))), (mba, .inl (cs 1, 9, .inr (.inl (vp_updL (lt4 0 4 0 0) 2 5)))), (mbb, .inl (cs 1, 9, .inr (.inl (vp_updL (lt4 1 1 1 0) 2 1)))), (hm, .inr (12, [.ref ms, .ref mkp, .int (nI 0), .ref mtr, .int (nI 4), .int (nI 2), .int (nI 2), .int (nI 3), .int (nI 2), .int (nI 1), .ref mas, .int (nI 0), .int (nI 0), .int (nI 0), .ref mso, .ref mon, .ref mot, .ref man, .int (nI 0), .int (nI 0), .ref mst, .ref msm, .ref mtb, .ref mti, .ref mfr, .ref mbn, .ref mbs, .ref mde, .int (nI 0), .int (nI 0), .int (nI 0), .int (nI 0), .long 5, .long 1, .ref maa, .ref mab, .ref mba, .ref mbb]))] H := hP
  replace hD : va_D A [(maa, .inl (cs 1, 9, .inr (.inl (lt4 0 0 1 0)))), (mab, .inl (cs 1, 9, .inr (.inl (lt4 1 1 2 0)))), (mba, .inl (cs 1, 9, .inr (.inl (vp_updL (lt4 0 4 0 0) 2 5)))), (mbb, .inl (cs 1, 9, .inr (.inl (vp_updL (lt4 1 1 1 0) 2 1)))), (hm, .inr (12, [.ref ms, .ref mkp, .int (nI 0), .ref mtr, .int (nI 4), .int (nI 2), .int (nI 2), .int (nI 3), .int (nI 2), .int (nI 1), .ref mas, .int (nI 0), .int (nI 0), .int (nI 0), .ref mso, .ref mon, .ref mot, .ref man, .int (nI 0), .int (nI 0), .ref mst, .ref msm, .ref mtb, .ref mti, .ref mfr, .ref mbn, .ref mbs, .ref mde, .int (nI 0), .int (nI 0), .int (nI 0), .int (nI 0), .long 5, .long 1, .ref maa, .ref mab, .ref mba, .ref mbb]))] := hD
  have hPD := xcongl (q0 := 2) (lt4 0 4 5 0) hP hD rfl (fun j hj => (show ∀ j, j < 9 → lt4 0 4 5 0 j = (vp_updL (lt4 0 4 0 0) 2 5) j from by decide) j hj)
  clear hP hD
  obtain ⟨hP, hD⟩ := hPD
  replace hP : va_P D vwCl [(maa, .inl (cs 1, 9, .inr (.inl (lt4 0 0 1 0)))), (mab, .inl (cs 1, 9, .inr (.inl (lt4 1 1 2 0)))), (mba, .inl (cs 1, 9, .inr (.inl (lt4 0 4 5 0)))), (mbb, .inl (cs 1, 9, .inr (.inl (vp_updL (lt4 1 1 1 0) 2 1)))), (hm, .inr (12, [.ref ms, .ref mkp, .int (nI 0), .ref mtr, .int (nI 4), .int (nI 2), .int (nI 2), .int (nI 3), .int (nI 2), .int (nI 1), .ref mas, .int (nI 0), .int (nI 0), .int (nI 0), .ref mso, .ref mon, .ref mot, .ref man, .int (nI 0), .int (nI 0), .ref mst, .ref msm, .ref mtb, .ref mti, .ref mfr, .ref mbn, .ref mbs, .ref mde, .int (nI 0), .int (nI 0), .int (nI 0), .int (nI 0), .long 5, .long 1, .ref maa, .ref mab, .ref mba, .ref mbb]))] H := hP
  replace hD : va_D A [(maa, .inl (cs 1, 9, .inr (.inl (lt4 0 0 1 0)))), (mab, .inl (cs 1, 9, .inr (.inl (lt4 1 1 2 0)))), (mba, .inl (cs 1, 9, .inr (.inl (lt4 0 4 5 0)))), (mbb, .inl (cs 1, 9, .inr (.inl (vp_updL (lt4 1 1 1 0) 2 1)))), (hm, .inr (12, [.ref ms, .ref mkp, .int (nI 0), .ref mtr, .int (nI 4), .int (nI 2), .int (nI 2), .int (nI 3), .int (nI 2), .int (nI 1), .ref mas, .int (nI 0), .int (nI 0), .int (nI 0), .ref mso, .ref mon, .ref mot, .ref man, .int (nI 0), .int (nI 0), .ref mst, .ref msm, .ref mtb, .ref mti, .ref mfr, .ref mbn, .ref mbs, .ref mde, .int (nI 0), .int (nI 0), .int (nI 0), .int (nI 0), .long 5, .long 1, .ref maa, .ref mab, .ref mba, .ref mbb]))] := hD
  have hPD := xcongl (q0 := 3) (lt4 1 1 1 0) hP hD rfl (fun j hj => (show ∀ j, j < 9 → lt4 1 1 1 0 j = (vp_updL (lt4 1 1 1 0) 2 1) j from by decide) j hj)
  clear hP hD
  obtain ⟨hP, hD⟩ := hPD
  replace hP : va_P D vwCl [(maa, .inl (cs 1, 9, .inr (.inl (lt4 0 0 1 0)))), (mab, .inl (cs 1, 9, .inr (.inl (lt4 1 1 2 0)))), (mba, .inl (cs 1, 9, .inr (.inl (lt4 0 4 5 0)))), (mbb, .inl (cs 1, 9, .inr (.inl (lt4 1 1 1 0)))), (hm, .inr (12, [.ref ms, .ref mkp, .int (nI 0), .ref mtr, .int (nI 4), .int (nI 2), .int (nI 2), .int (nI 3), .int (nI 2), .int (nI 1), .ref mas, .int (nI 0), .int (nI 0), .int (nI 0), .ref mso, .ref mon, .ref mot, .ref man, .int (nI 0), .int (nI 0), .ref mst, .ref msm, .ref mtb, .ref mti, .ref mfr, .ref mbn, .ref mbs, .ref mde, .int (nI 0), .int (nI 0), .int (nI 0), .int (nI 0), .long 5, .long 1, .ref maa, .ref mab, .ref mba, .ref mbb]))] H := hP
  replace hD : va_D A [(maa, .inl (cs 1, 9, .inr (.inl (lt4 0 0 1 0)))), (mab, .inl (cs 1, 9, .inr (.inl (lt4 1 1 2 0)))), (mba, .inl (cs 1, 9, .inr (.inl (lt4 0 4 5 0)))), (mbb, .inl (cs 1, 9, .inr (.inl (lt4 1 1 1 0)))), (hm, .inr (12, [.ref ms, .ref mkp, .int (nI 0), .ref mtr, .int (nI 4), .int (nI 2), .int (nI 2), .int (nI 3), .int (nI 2), .int (nI 1), .ref mas, .int (nI 0), .int (nI 0), .int (nI 0), .ref mso, .ref mon, .ref mot, .ref man, .int (nI 0), .int (nI 0), .ref mst, .ref msm, .ref mtb, .ref mti, .ref mfr, .ref mbn, .ref mbs, .ref mde, .int (nI 0), .int (nI 0), .int (nI 0), .int (nI 0), .long 5, .long 1, .ref maa, .ref mab, .ref mba, .ref mbb]))] := hD
  exact xretv C () trivial (xP_map hP [4, 0, 1, 2, 3] rfl) (hD.sub [4, 0, 1, 2, 3] (by decide +kernel) rfl) hS (Nat.le_of_ble_eq_true rfl) (Nat.le_of_ble_eq_true rfl) dX12_laysStep_238

set_option maxHeartbeats 4000000 in
set_option maxRecDepth 100000 in
theorem c_X12_laysStep_3_1 (l : Launch) (D : va_G) (cs : Nat → ClassId) (hm ms mkp mtr mas mso mon mot man mst msm mtb mti mfr mbn mbs mde maa mab mba mbb : Nat) (ab be : Int64) : xMet l D cs yX12_laysStep cX12_laysStep 11 none ({ frames := 3, cells := 0, slots := 0, locals := 69 } : Room) [.ref hm, .int (nI 3), .int (nI 1)] [(hm, .inr (12, [.ref ms, .ref mkp, .int (nI 0), .ref mtr, .int (nI 4), .int (nI 2), .int (nI 2), .int (nI 3), .int (nI 2), .int (nI 1), .ref mas, .int (nI 0), .int (nI 0), .int (nI 0), .ref mso, .ref mon, .ref mot, .ref man, .int (nI 0), .int (nI 0), .ref mst, .ref msm, .ref mtb, .ref mti, .ref mfr, .ref mbn, .ref mbs, .ref mde, .int (nI 0), .int (nI 0), .int (nI 0), .int (nI 0), .long ab, .long be, .ref maa, .ref mab, .ref mba, .ref mbb])), (maa, .inl (cs 1, 9, .inr (.inl (lt4 0 0 1 0)))), (mab, .inl (cs 1, 9, .inr (.inl (lt4 1 1 2 0)))), (mba, .inl (cs 1, 9, .inr (.inl (lt4 0 4 5 0)))), (mbb, .inl (cs 1, 9, .inr (.inl (lt4 1 1 1 0))))] (xQv D (fun (_u : Unit) => True) (fun (_u : Unit) => [(hm, .inr (12, [.ref ms, .ref mkp, .int (nI 0), .ref mtr, .int (nI 4), .int (nI 2), .int (nI 2), .int (nI 3), .int (nI 2), .int (nI 1), .ref mas, .int (nI 0), .int (nI 0), .int (nI 0), .ref mso, .ref mon, .ref mot, .ref man, .int (nI 0), .int (nI 0), .ref mst, .ref msm, .ref mtb, .ref mti, .ref mfr, .ref mbn, .ref mbs, .ref mde, .int (nI 0), .int (nI 0), .int (nI 0), .int (nI 0), .long 4, .long 1, .ref maa, .ref mab, .ref mba, .ref mbb])), (maa, .inl (cs 1, 9, .inr (.inl (lt4 0 0 1 1)))), (mab, .inl (cs 1, 9, .inr (.inl (lt4 1 1 2 1)))), (mba, .inl (cs 1, 9, .inr (.inl (lt4 0 4 5 4)))), (mbb, .inl (cs 1, 9, .inr (.inl (lt4 1 1 1 1))))])) := by
  refine xMet.intro (by decide) (Nat.le_of_ble_eq_true rfl) ?_
  intro p e s m args below meth c A ls C hP hD hS hl
  have hx := C.1
  have hb := C.2.1
  have hz := C.2.2.2.2.1
  have hown := C.2.2.2.1
  have hA := C.2.2.2.2.2.2.2.2.2
  have hAO := C.2.2.2.2.2.2.2.2.1.2.2
  replace hl : lv_has ls 11 [(0, .ref hm), (1, .int (nI 3)), (2, .int (nI 1))] := hl
  obtain ⟨H, hH⟩ : ∃ H, H = s.heap := ⟨_, rfl⟩
  replace hP : va_P D vwCl [(hm, .inr (12, [.ref ms, .ref mkp, .int (nI 0), .ref mtr, .int (nI 4), .int (nI 2), .int (nI 2), .int (nI 3), .int (nI 2), .int (nI 1), .ref mas, .int (nI 0), .int (nI 0), .int (nI 0), .ref mso, .ref mon, .ref mot, .ref man, .int (nI 0), .int (nI 0), .ref mst, .ref msm, .ref mtb, .ref mti, .ref mfr, .ref mbn, .ref mbs, .ref mde, .int (nI 0), .int (nI 0), .int (nI 0), .int (nI 0), .long ab, .long be, .ref maa, .ref mab, .ref mba, .ref mbb])), (maa, .inl (cs 1, 9, .inr (.inl (lt4 0 0 1 0)))), (mab, .inl (cs 1, 9, .inr (.inl (lt4 1 1 2 0)))), (mba, .inl (cs 1, 9, .inr (.inl (lt4 0 4 5 0)))), (mbb, .inl (cs 1, 9, .inr (.inl (lt4 1 1 1 0))))] H := by rw [hH]; exact hP
  replace hS : va_S A s.heap H [] := by rw [hH]; exact hS
  obtain ⟨locs, hlocs⟩ : ∃ z : List Loc, z = [] := ⟨_, rfl⟩
  rw [← hlocs] at hS
  suffices hW : W p l e ({ frames := 3, cells := 0, slots := 0, locals := 69 } : Room) s m args below meth c H locs 0 0 (MQ below ((xQv D (fun (_u : Unit) => True) (fun (_u : Unit) => [(hm, .inr (12, [.ref ms, .ref mkp, .int (nI 0), .ref mtr, .int (nI 4), .int (nI 2), .int (nI 2), .int (nI 3), .int (nI 2), .int (nI 1), .ref mas, .int (nI 0), .int (nI 0), .int (nI 0), .ref mso, .ref mon, .ref mot, .ref man, .int (nI 0), .int (nI 0), .ref mst, .ref msm, .ref mtb, .ref mti, .ref mfr, .ref mbn, .ref mbs, .ref mde, .int (nI 0), .int (nI 0), .int (nI 0), .int (nI 0), .long 4, .long 1, .ref maa, .ref mab, .ref mba, .ref mbb])), (maa, .inl (cs 1, 9, .inr (.inl (lt4 0 0 1 1)))), (mab, .inl (cs 1, 9, .inr (.inl (lt4 1 1 2 1)))), (mba, .inl (cs 1, 9, .inr (.inl (lt4 0 4 5 4)))), (mbb, .inl (cs 1, 9, .inr (.inl (lt4 1 1 1 1))))])) A) args s 0 0 A) (F0 m 0 ls []) by rw [hlocs, hH] at hW; exact hW
  clear hH hlocs
  refine lv_aload_n hx hb dX12_laysStep_0 rfl (lv_at hl 0 rfl) ?_
  refine lv_iload_n hx hb dX12_laysStep_1 rfl (lv_at hl 1 rfl) ?_
  refine xl (wr := [(maa, .inl (cs 1, 9, .inr (.inl (lt4 0 0 1 0)))), (mab, .inl (cs 1, 9, .inr (.inl (lt4 1 1 2 0)))), (mba, .inl (cs 1, 9, .inr (.inl (lt4 0 4 5 0)))), (mbb, .inl (cs 1, 9, .inr (.inl (lt4 1 1 1 0))))]) (xV (As := [.int (nI 3)]) (rest := []) C (c_X12_up_3 l D cs hm ms mkp mtr mas mso mon mot man mst msm mtb mti mfr mbn mbs mde maa mab mba mbb ab be) kX12_280 hP hD [0] rfl (by decide +kernel) 0 rfl rfl rfl ⟨Nat.le_of_ble_eq_true rfl, Nat.le_of_ble_eq_true rfl⟩ rfl hl.1 rfl (Nat.le_of_ble_eq_true rfl) dX12_laysStep_2 ⟨Nat.le_of_ble_eq_true rfl, Nat.le_of_ble_eq_true rfl⟩) hP hD hS hA [0] [1, 2, 3, 4] rfl rfl (by decide +kernel) (by decide +kernel) ?_
  clear hP hD hS
  try clear locs
  try clear H
  intro r_1 u_2 H locs hw_r_1 hP hD hS
  have hw_r_1 : r_1 = 3 := hw_r_1
  refine W.widen (k := 0) (n := 0) (Nat.le_of_ble_eq_true rfl) (Nat.le_of_ble_eq_true rfl) ?_
  replace hP : va_P D vwCl [(maa, .inl (cs 1, 9, .inr (.inl (lt4 0 0 1 0)))), (mab, .inl (cs 1, 9, .inr (.inl (lt4 1 1 2 0)))), (mba, .inl (cs 1, 9, .inr (.inl (lt4 0 4 5 0)))), (mbb, .inl (cs 1, 9, .inr (.inl (lt4 1 1 1 0)))), (hm, .inr (12, [.ref ms, .ref mkp, .int (nI 0), .ref mtr, .int (nI 4), .int (nI 2), .int (nI 2), .int (nI 3), .int (nI 2), .int (nI 1), .ref mas, .int (nI 0), .int (nI 0), .int (nI 0), .ref mso, .ref mon, .ref mot, .ref man, .int (nI 0), .int (nI 0), .ref mst, .ref msm, .ref mtb, .ref mti, .ref mfr, .ref mbn, .ref mbs, .ref mde, .int (nI 0), .int (nI 0), .int (nI 0), .int (nI 0), .long ab, .long be, .ref maa, .ref mab, .ref mba, .ref mbb]))] H := hP
  replace hD : va_D A [(maa, .inl (cs 1, 9, .inr (.inl (lt4 0 0 1 0)))), (mab, .inl (cs 1, 9, .inr (.inl (lt4 1 1 2 0)))), (mba, .inl (cs 1, 9, .inr (.inl (lt4 0 4 5 0)))), (mbb, .inl (cs 1, 9, .inr (.inl (lt4 1 1 1 0)))), (hm, .inr (12, [.ref ms, .ref mkp, .int (nI 0), .ref mtr, .int (nI 4), .int (nI 2), .int (nI 2), .int (nI 3), .int (nI 2), .int (nI 1), .ref mas, .int (nI 0), .int (nI 0), .int (nI 0), .ref mso, .ref mon, .ref mot, .ref man, .int (nI 0), .int (nI 0), .ref mst, .ref msm, .ref mtb, .ref mti, .ref mfr, .ref mbn, .ref mbs, .ref mde, .int (nI 0), .int (nI 0), .int (nI 0), .int (nI 0), .long ab, .long be, .ref maa, .ref mab, .ref mba, .ref mbb]))] := hD
  subst hw_r_1
  refine lv_lstore_n (lv' := [(3, .long 3), (0, .ref hm), (1, .int (nI 3)), (2, .int (nI 1))]) hx hb dX12_laysStep_5 rfl hl (by decide) rfl ?_
  clear hl
  try clear ls
  intro ls hl
  refine lv_aload_n hx hb dX12_laysStep_6 rfl (lv_at hl 1 rfl) ?_
  refine lv_iload_n hx hb dX12_laysStep_7 rfl (lv_at hl 2 rfl) ?_
  refine xl (wr := [(maa, .inl (cs 1, 9, .inr (.inl (lt4 0 0 1 0)))), (mab, .inl (cs 1, 9, .inr (.inl (lt4 1 1 2 0)))), (mba, .inl (cs 1, 9, .inr (.inl (lt4 0 4 5 0)))), (mbb, .inl (cs 1, 9, .inr (.inl (lt4 1 1 1 0))))]) (xV (As := [.int (nI 3)]) (rest := []) C (c_X12_down_3 l D cs hm ms mkp mtr mas mso mon mot man mst msm mtb mti mfr mbn mbs mde maa mab mba mbb ab be) kX12_283 hP hD [4] rfl (by decide +kernel) 0 rfl rfl rfl ⟨Nat.le_of_ble_eq_true rfl, Nat.le_of_ble_eq_true rfl⟩ rfl hl.1 rfl (Nat.le_of_ble_eq_true rfl) dX12_laysStep_8 ⟨Nat.le_of_ble_eq_true rfl, Nat.le_of_ble_eq_true rfl⟩) hP hD hS hA [4] [0, 1, 2, 3] rfl rfl (by decide +kernel) (by decide +kernel) ?_
  clear hP hD hS
  try clear locs
  try clear H
  intro r_3 u_4 H locs hw_r_3 hP hD hS
  have hw_r_3 : r_3 = 0 := hw_r_3
  refine W.widen (k := 0) (n := 0) (Nat.le_of_ble_eq_true rfl) (Nat.le_of_ble_eq_true rfl) ?_
  replace hP : va_P D vwCl [(maa, .inl (cs 1, 9, .inr (.inl (lt4 0 0 1 0)))), (mab, .inl (cs 1, 9, .inr (.inl (lt4 1 1 2 0)))), (mba, .inl (cs 1, 9, .inr (.inl (lt4 0 4 5 0)))), (mbb, .inl (cs 1, 9, .inr (.inl (lt4 1 1 1 0)))), (hm, .inr (12, [.ref ms, .ref mkp, .int (nI 0), .ref mtr, .int (nI 4), .int (nI 2), .int (nI 2), .int (nI 3), .int (nI 2), .int (nI 1), .ref mas, .int (nI 0), .int (nI 0), .int (nI 0), .ref mso, .ref mon, .ref mot, .ref man, .int (nI 0), .int (nI 0), .ref mst, .ref msm, .ref mtb, .ref mti, .ref mfr, .ref mbn, .ref mbs, .ref mde, .int (nI 0), .int (nI 0), .int (nI 0), .int (nI 0), .long ab, .long be, .ref maa, .ref mab, .ref mba, .ref mbb]))] H := hP
  replace hD : va_D A [(maa, .inl (cs 1, 9, .inr (.inl (lt4 0 0 1 0)))), (mab, .inl (cs 1, 9, .inr (.inl (lt4 1 1 2 0)))), (mba, .inl (cs 1, 9, .inr (.inl (lt4 0 4 5 0)))), (mbb, .inl (cs 1, 9, .inr (.inl (lt4 1 1 1 0)))), (hm, .inr (12, [.ref ms, .ref mkp, .int (nI 0), .ref mtr, .int (nI 4), .int (nI 2), .int (nI 2), .int (nI 3), .int (nI 2), .int (nI 1), .ref mas, .int (nI 0), .int (nI 0), .int (nI 0), .ref mso, .ref mon, .ref mot, .ref man, .int (nI 0), .int (nI 0), .ref mst, .ref msm, .ref mtb, .ref mti, .ref mfr, .ref mbn, .ref mbs, .ref mde, .int (nI 0), .int (nI 0), .int (nI 0), .int (nI 0), .long ab, .long be, .ref maa, .ref mab, .ref mba, .ref mbb]))] := hD
  subst hw_r_3
  refine lv_lstore (lv' := [(5, .long 0), (3, .long 3), (0, .ref hm), (1, .int (nI 3)), (2, .int (nI 1))]) hx hb dX12_laysStep_11 hl (by decide) rfl ?_
  clear hl
  try clear ls
  intro ls hl
  refine lv_aload_n hx hb dX12_laysStep_13 rfl (lv_at hl 2 rfl) ?_
  refine xget C hP 4 rfl rfl zuX12 34 (by decide) zw6_7 rfl dX12_laysStep_14 ?_
  refine lv_iload_n hx hb dX12_laysStep_17 rfl (lv_at hl 3 rfl) ?_
  refine lv_lconst (v := 0) hx hb dX12_laysStep_18 (by decide) ?_
  refine xlast C hP hD hS 0 rfl 3 rfl (by decide) (by decide) dX12_laysStep_19 ?_
  clear hP hD hS
  try clear locs
  try clear H
  intro H locs hP hD hS
  replace hP : va_P D vwCl [(maa, .inl (cs 1, 9, .inr (.inl (vp_updL (lt4 0 0 1 0) 3 0)))), (mab, .inl (cs 1, 9, .inr (.inl (lt4 1 1 2 0)))), (mba, .inl (cs 1, 9, .inr (.inl (lt4 0 4 5 0)))), (mbb, .inl (cs 1, 9, .inr (.inl (lt4 1 1 1 0)))), (hm, .inr (12, [.ref ms, .ref mkp, .int (nI 0), .ref mtr, .int (nI 4), .int (nI 2), .int (nI 2), .int (nI 3), .int (nI 2), .int (nI 1), .ref mas, .int (nI 0), .int (nI 0), .int (nI 0), .ref mso, .ref mon, .ref mot, .ref man, .int (nI 0), .int (nI 0), .ref mst, .ref msm, .ref mtb, .ref mti, .ref mfr, .ref mbn, .ref mbs, .ref mde, .int (nI 0), .int (nI 0), .int (nI 0), .int (nI 0), .long ab, .long be, .ref maa, .ref mab, .ref mba, .ref mbb]))] H := hP
  replace hD : va_D A [(maa, .inl (cs 1, 9, .inr (.inl (vp_updL (lt4 0 0 1 0) 3 0)))), (mab, .inl (cs 1, 9, .inr (.inl (lt4 1 1 2 0)))), (mba, .inl (cs 1, 9, .inr (.inl (lt4 0 4 5 0)))), (mbb, .inl (cs 1, 9, .inr (.inl (lt4 1 1 1 0)))), (hm, .inr (12, [.ref ms, .ref mkp, .int (nI 0), .ref mtr, .int (nI 4), .int (nI 2), .int (nI 2), .int (nI 3), .int (nI 2), .int (nI 1), .ref mas, .int (nI 0), .int (nI 0), .int (nI 0), .ref mso, .ref mon, .ref mot, .ref man, .int (nI 0), .int (nI 0), .ref mst, .ref msm, .ref mtb, .ref mti, .ref mfr, .ref mbn, .ref mbs, .ref mde, .int (nI 0), .int (nI 0), .int (nI 0), .int (nI 0), .long ab, .long be, .ref maa, .ref mab, .ref mba, .ref mbb]))] := hD
  refine lv_aload_n hx hb dX12_laysStep_20 rfl (lv_at hl 2 rfl) ?_
  refine xget C hP 4 rfl rfl zuX12 35 (by decide) zw6_8 rfl dX12_laysStep_21 ?_
  refine lv_iload_n hx hb dX12_laysStep_24 rfl (lv_at hl 3 rfl) ?_
  refine lv_lconst (v := 1) hx hb dX12_laysStep_25 (by decide) ?_
  refine xlast C hP hD hS 1 rfl 3 rfl (by decide) (by decide) dX12_laysStep_26 ?_
  clear hP hD hS
  try clear locs
  try clear H
  intro H locs hP hD hS
  replace hP : va_P D vwCl [(maa, .inl (cs 1, 9, .inr (.inl (vp_updL (lt4 0 0 1 0) 3 0)))), (mab, .inl (cs 1, 9, .inr (.inl (vp_updL (lt4 1 1 2 0) 3 1)))), (mba, .inl (cs 1, 9, .inr (.inl (lt4 0 4 5 0)))), (mbb, .inl (cs 1, 9, .inr (.inl (lt4 1 1 1 0)))), (hm, .inr (12, [.ref ms, .ref mkp, .int (nI 0), .ref mtr, .int (nI 4), .int (nI 2), .int (nI 2), .int (nI 3), .int (nI 2), .int (nI 1), .ref mas, .int (nI 0), .int (nI 0), .int (nI 0), .ref mso, .ref mon, .ref mot, .ref man, .int (nI 0), .int (nI 0), .ref mst, .ref msm, .ref mtb, .ref mti, .ref mfr, .ref mbn, .ref mbs, .ref mde, .int (nI 0), .int (nI 0), .int (nI 0), .int (nI 0), .long ab, .long be, .ref maa, .ref mab, .ref mba, .ref mbb]))] H := hP
  replace hD : va_D A [(maa, .inl (cs 1, 9, .inr (.inl (vp_updL (lt4 0 0 1 0) 3 0)))), (mab, .inl (cs 1, 9, .inr (.inl (vp_updL (lt4 1 1 2 0) 3 1)))), (mba, .inl (cs 1, 9, .inr (.inl (lt4 0 4 5 0)))), (mbb, .inl (cs 1, 9, .inr (.inl (lt4 1 1 1 0)))), (hm, .inr (12, [.ref ms, .ref mkp, .int (nI 0), .ref mtr, .int (nI 4), .int (nI 2), .int (nI 2), .int (nI 3), .int (nI 2), .int (nI 1), .ref mas, .int (nI 0), .int (nI 0), .int (nI 0), .ref mso, .ref mon, .ref mot, .ref man, .int (nI 0), .int (nI 0), .ref mst, .ref msm, .ref mtb, .ref mti, .ref mfr, .ref mbn, .ref mbs, .ref mde, .int (nI 0), .int (nI 0), .int (nI 0), .int (nI 0), .long ab, .long be, .ref maa, .ref mab, .ref mba, .ref mbb]))] := hD
  refine lv_aload_n hx hb dX12_laysStep_27 rfl (lv_at hl 2 rfl) ?_
  refine xget C hP 4 rfl rfl zuX12 36 (by decide) zw6_9 rfl dX12_laysStep_28 ?_
  refine lv_iload_n hx hb dX12_laysStep_31 rfl (lv_at hl 3 rfl) ?_
  refine lv_lconst (v := 0) hx hb dX12_laysStep_32 (by decide) ?_
  refine xlast C hP hD hS 2 rfl 3 rfl (by decide) (by decide) dX12_laysStep_33 ?_
  clear hP hD hS
  try clear locs
  try clear H
  intro H locs hP hD hS
  replace hP : va_P D vwCl [(maa, .inl (cs 1, 9, .inr (.inl (vp_updL (lt4 0 0 1 0) 3 0)))), (mab, .inl (cs 1, 9, .inr (.inl (vp_updL (lt4 1 1 2 0) 3 1)))), (mba, .inl (cs 1, 9, .inr (.inl (vp_updL (lt4 0 4 5 0) 3 0)))), (mbb, .inl (cs 1, 9, .inr (.inl (lt4 1 1 1 0)))), (hm, .inr (12, [.ref ms, .ref mkp, .int (nI 0), .ref mtr, .int (nI 4), .int (nI 2), .int (nI 2), .int (nI 3), .int (nI 2), .int (nI 1), .ref mas, .int (nI 0), .int (nI 0), .int (nI 0), .ref mso, .ref mon, .ref mot, .ref man, .int (nI 0), .int (nI 0), .ref mst, .ref msm, .ref mtb, .ref mti, .ref mfr, .ref mbn, .ref mbs, .ref mde, .int (nI 0), .int (nI 0), .int (nI 0), .int (nI 0), .long ab, .long be, .ref maa, .ref mab, .ref mba, .ref mbb]))] H := hP
  replace hD : va_D A [(maa, .inl (cs 1, 9, .inr (.inl (vp_updL (lt4 0 0 1 0) 3 0)))), (mab, .inl (cs 1, 9, .inr (.inl (vp_updL (lt4 1 1 2 0) 3 1)))), (mba, .inl (cs 1, 9, .inr (.inl (vp_updL (lt4 0 4 5 0) 3 0)))), (mbb, .inl (cs 1, 9, .inr (.inl (lt4 1 1 1 0)))), (hm, .inr (12, [.ref ms, .ref mkp, .int (nI 0), .ref mtr, .int (nI 4), .int (nI 2), .int (nI 2), .int (nI 3), .int (nI 2), .int (nI 1), .ref mas, .int (nI 0), .int (nI 0), .int (nI 0), .ref mso, .ref mon, .ref mot, .ref man, .int (nI 0), .int (nI 0), .ref mst, .ref msm, .ref mtb, .ref mti, .ref mfr, .ref mbn, .ref mbs, .ref mde, .int (nI 0), .int (nI 0), .int (nI 0), .int (nI 0), .long ab, .long be, .ref maa, .ref mab, .ref mba, .ref mbb]))] := hD
  refine lv_aload_n hx hb dX12_laysStep_34 rfl (lv_at hl 2 rfl) ?_
  refine xget C hP 4 rfl rfl zuX12 37 (by decide) zw6_10 rfl dX12_laysStep_35 ?_
  refine lv_iload_n hx hb dX12_laysStep_38 rfl (lv_at hl 3 rfl) ?_
  refine lv_lconst (v := 1) hx hb dX12_laysStep_39 (by decide) ?_
  refine xlast C hP hD hS 3 rfl 3 rfl (by decide) (by decide) dX12_laysStep_40 ?_
  clear hP hD hS
  try clear locs
  try clear H
  intro H locs hP hD hS
  replace hP : va_P D vwCl [(maa, .inl (cs 1, 9, .inr (.inl (vp_updL (lt4 0 0 1 0) 3 0)))), (mab, .inl (cs 1, 9, .inr (.inl (vp_updL (lt4 1 1 2 0) 3 1)))), (mba, .inl (cs 1, 9, .inr (.inl (vp_updL (lt4 0 4 5 0) 3 0)))), (mbb, .inl (cs 1, 9, .inr (.inl (vp_updL (lt4 1 1 1 0) 3 1)))), (hm, .inr (12, [.ref ms, .ref mkp, .int (nI 0), .ref mtr, .int (nI 4), .int (nI 2), .int (nI 2), .int (nI 3), .int (nI 2), .int (nI 1), .ref mas, .int (nI 0), .int (nI 0), .int (nI 0), .ref mso, .ref mon, .ref mot, .ref man, .int (nI 0), .int (nI 0), .ref mst, .ref msm, .ref mtb, .ref mti, .ref mfr, .ref mbn, .ref mbs, .ref mde, .int (nI 0), .int (nI 0), .int (nI 0), .int (nI 0), .long ab, .long be, .ref maa, .ref mab, .ref mba, .ref mbb]))] H := hP
  replace hD : va_D A [(maa, .inl (cs 1, 9, .inr (.inl (vp_updL (lt4 0 0 1 0) 3 0)))), (mab, .inl (cs 1, 9, .inr (.inl (vp_updL (lt4 1 1 2 0) 3 1)))), (mba, .inl (cs 1, 9, .inr (.inl (vp_updL (lt4 0 4 5 0) 3 0)))), (mbb, .inl (cs 1, 9, .inr (.inl (vp_updL (lt4 1 1 1 0) 3 1)))), (hm, .inr (12, [.ref ms, .ref mkp, .int (nI 0), .ref mtr, .int (nI 4), .int (nI 2), .int (nI 2), .int (nI 3), .int (nI 2), .int (nI 1), .ref mas, .int (nI 0), .int (nI 0), .int (nI 0), .ref mso, .ref mon, .ref mot, .ref man, .int (nI 0), .int (nI 0), .ref mst, .ref msm, .ref mtb, .ref mti, .ref mfr, .ref mbn, .ref mbs, .ref mde, .int (nI 0), .int (nI 0), .int (nI 0), .int (nI 0), .long ab, .long be, .ref maa, .ref mab, .ref mba, .ref mbb]))] := hD
  have hPD := xcongl (q0 := 0) (lt4 0 0 1 0) hP hD rfl (fun j hj => (show ∀ j, j < 9 → lt4 0 0 1 0 j = (vp_updL (lt4 0 0 1 0) 3 0) j from by decide) j hj)
  clear hP hD
  obtain ⟨hP, hD⟩ := hPD
  replace hP : va_P D vwCl [(maa, .inl (cs 1, 9, .inr (.inl (lt4 0 0 1 0)))), (mab, .inl (cs 1, 9, .inr (.inl (vp_updL (lt4 1 1 2 0) 3 1)))), (mba, .inl (cs 1, 9, .inr (.inl (vp_updL (lt4 0 4 5 0) 3 0)))), (mbb, .inl (cs 1, 9, .inr (.inl (vp_updL (lt4 1 1 1 0) 3 1)))), (hm, .inr (12, [.ref ms, .ref mkp, .int (nI 0), .ref mtr, .int (nI 4), .int (nI 2), .int (nI 2), .int (nI 3), .int (nI 2), .int (nI 1), .ref mas, .int (nI 0), .int (nI 0), .int (nI 0), .ref mso, .ref mon, .ref mot, .ref man, .int (nI 0), .int (nI 0), .ref mst, .ref msm, .ref mtb, .ref mti, .ref mfr, .ref mbn, .ref mbs, .ref mde, .int (nI 0), .int (nI 0), .int (nI 0), .int (nI 0), .long ab, .long be, .ref maa, .ref mab, .ref mba, .ref mbb]))] H := hP
  replace hD : va_D A [(maa, .inl (cs 1, 9, .inr (.inl (lt4 0 0 1 0)))), (mab, .inl (cs 1, 9, .inr (.inl (vp_updL (lt4 1 1 2 0) 3 1)))), (mba, .inl (cs 1, 9, .inr (.inl (vp_updL (lt4 0 4 5 0) 3 0)))), (mbb, .inl (cs 1, 9, .inr (.inl (vp_updL (lt4 1 1 1 0) 3 1)))), (hm, .inr (12, [.ref ms, .ref mkp, .int (nI 0), .ref mtr, .int (nI 4), .int (nI 2), .int (nI 2), .int (nI 3), .int (nI 2), .int (nI 1), .ref mas, .int (nI 0), .int (nI 0), .int (nI 0), .ref mso, .ref mon, .ref mot, .ref man, .int (nI 0), .int (nI 0), .ref mst, .ref msm, .ref mtb, .ref mti, .ref mfr, .ref mbn, .ref mbs, .ref mde, .int (nI 0), .int (nI 0), .int (nI 0), .int (nI 0), .long ab, .long be, .ref maa, .ref mab, .ref mba, .ref mbb]))] := hD
  have hPD := xcongl (q0 := 1) (lt4 1 1 2 1) hP hD rfl (fun j hj => (show ∀ j, j < 9 → lt4 1 1 2 1 j = (vp_updL (lt4 1 1 2 0) 3 1) j from by decide) j hj)
  clear hP hD
  obtain ⟨hP, hD⟩ := hPD
  replace hP : va_P D vwCl [(maa, .inl (cs 1, 9, .inr (.inl (lt4 0 0 1 0)))), (mab, .inl (cs 1, 9, .inr (.inl (lt4 1 1 2 1)))), (mba, .inl (cs 1, 9, .inr (.inl (vp_updL (lt4 0 4 5 0) 3 0)))), (mbb, .inl (cs 1, 9, .inr (.inl (vp_updL (lt4 1 1 1 0) 3 1)))), (hm, .inr (12, [.ref ms, .ref mkp, .int (nI 0), .ref mtr, .int (nI 4), .int (nI 2), .int (nI 2), .int (nI 3), .int (nI 2), .int (nI 1), .ref mas, .int (nI 0), .int (nI 0), .int (nI 0), .ref mso, .ref mon, .ref mot, .ref man, .int (nI 0), .int (nI 0), .ref mst, .ref msm, .ref mtb, .ref mti, .ref mfr, .ref mbn, .ref mbs, .ref mde, .int (nI 0), .int (nI 0), .int (nI 0), .int (nI 0), .long ab, .long be, .ref maa, .ref mab, .ref mba, .ref mbb]))] H := hP
  replace hD : va_D A [(maa, .inl (cs 1, 9, .inr (.inl (lt4 0 0 1 0)))), (mab, .inl (cs 1, 9, .inr (.inl (lt4 1 1 2 1)))), (mba, .inl (cs 1, 9, .inr (.inl (vp_updL (lt4 0 4 5 0) 3 0)))), (mbb, .inl (cs 1, 9, .inr (.inl (vp_updL (lt4 1 1 1 0) 3 1)))), (hm, .inr (12, [.ref ms, .ref mkp, .int (nI 0), .ref mtr, .int (nI 4), .int (nI 2), .int (nI 2), .int (nI 3), .int (nI 2), .int (nI 1), .ref mas, .int (nI 0), .int (nI 0), .int (nI 0), .ref mso, .ref mon, .ref mot, .ref man, .int (nI 0), .int (nI 0), .ref mst, .ref msm, .ref mtb, .ref mti, .ref mfr, .ref mbn, .ref mbs, .ref mde, .int (nI 0), .int (nI 0), .int (nI 0), .int (nI 0), .long ab, .long be, .ref maa, .ref mab, .ref mba, .ref mbb]))] := hD
  have hPD := xcongl (q0 := 2) (lt4 0 4 5 0) hP hD rfl (fun j hj => (show ∀ j, j < 9 → lt4 0 4 5 0 j = (vp_updL (lt4 0 4 5 0) 3 0) j from by decide) j hj)
  clear hP hD
  obtain ⟨hP, hD⟩ := hPD
  replace hP : va_P D vwCl [(maa, .inl (cs 1, 9, .inr (.inl (lt4 0 0 1 0)))), (mab, .inl (cs 1, 9, .inr (.inl (lt4 1 1 2 1)))), (mba, .inl (cs 1, 9, .inr (.inl (lt4 0 4 5 0)))), (mbb, .inl (cs 1, 9, .inr (.inl (vp_updL (lt4 1 1 1 0) 3 1)))), (hm, .inr (12, [.ref ms, .ref mkp, .int (nI 0), .ref mtr, .int (nI 4), .int (nI 2), .int (nI 2), .int (nI 3), .int (nI 2), .int (nI 1), .ref mas, .int (nI 0), .int (nI 0), .int (nI 0), .ref mso, .ref mon, .ref mot, .ref man, .int (nI 0), .int (nI 0), .ref mst, .ref msm, .ref mtb, .ref mti, .ref mfr, .ref mbn, .ref mbs, .ref mde, .int (nI 0), .int (nI 0), .int (nI 0), .int (nI 0), .long ab, .long be, .ref maa, .ref mab, .ref mba, .ref mbb]))] H := hP
  replace hD : va_D A [(maa, .inl (cs 1, 9, .inr (.inl (lt4 0 0 1 0)))), (mab, .inl (cs 1, 9, .inr (.inl (lt4 1 1 2 1)))), (mba, .inl (cs 1, 9, .inr (.inl (lt4 0 4 5 0)))), (mbb, .inl (cs 1, 9, .inr (.inl (vp_updL (lt4 1 1 1 0) 3 1)))), (hm, .inr (12, [.ref ms, .ref mkp, .int (nI 0), .ref mtr, .int (nI 4), .int (nI 2), .int (nI 2), .int (nI 3), .int (nI 2), .int (nI 1), .ref mas, .int (nI 0), .int (nI 0), .int (nI 0), .ref mso, .ref mon, .ref mot, .ref man, .int (nI 0), .int (nI 0), .ref mst, .ref msm, .ref mtb, .ref mti, .ref mfr, .ref mbn, .ref mbs, .ref mde, .int (nI 0), .int (nI 0), .int (nI 0), .int (nI 0), .long ab, .long be, .ref maa, .ref mab, .ref mba, .ref mbb]))] := hD
  have hPD := xcongl (q0 := 3) (lt4 1 1 1 1) hP hD rfl (fun j hj => (show ∀ j, j < 9 → lt4 1 1 1 1 j = (vp_updL (lt4 1 1 1 0) 3 1) j from by decide) j hj)
  clear hP hD
  obtain ⟨hP, hD⟩ := hPD
  replace hP : va_P D vwCl [(maa, .inl (cs 1, 9, .inr (.inl (lt4 0 0 1 0)))), (mab, .inl (cs 1, 9, .inr (.inl (lt4 1 1 2 1)))), (mba, .inl (cs 1, 9, .inr (.inl (lt4 0 4 5 0)))), (mbb, .inl (cs 1, 9, .inr (.inl (lt4 1 1 1 1)))), (hm, .inr (12, [.ref ms, .ref mkp, .int (nI 0), .ref mtr, .int (nI 4), .int (nI 2), .int (nI 2), .int (nI 3), .int (nI 2), .int (nI 1), .ref mas, .int (nI 0), .int (nI 0), .int (nI 0), .ref mso, .ref mon, .ref mot, .ref man, .int (nI 0), .int (nI 0), .ref mst, .ref msm, .ref mtb, .ref mti, .ref mfr, .ref mbn, .ref mbs, .ref mde, .int (nI 0), .int (nI 0), .int (nI 0), .int (nI 0), .long ab, .long be, .ref maa, .ref mab, .ref mba, .ref mbb]))] H := hP
  replace hD : va_D A [(maa, .inl (cs 1, 9, .inr (.inl (lt4 0 0 1 0)))), (mab, .inl (cs 1, 9, .inr (.inl (lt4 1 1 2 1)))), (mba, .inl (cs 1, 9, .inr (.inl (lt4 0 4 5 0)))), (mbb, .inl (cs 1, 9, .inr (.inl (lt4 1 1 1 1)))), (hm, .inr (12, [.ref ms, .ref mkp, .int (nI 0), .ref mtr, .int (nI 4), .int (nI 2), .int (nI 2), .int (nI 3), .int (nI 2), .int (nI 1), .ref mas, .int (nI 0), .int (nI 0), .int (nI 0), .ref mso, .ref mon, .ref mot, .ref man, .int (nI 0), .int (nI 0), .ref mst, .ref msm, .ref mtb, .ref mti, .ref mfr, .ref mbn, .ref mbs, .ref mde, .int (nI 0), .int (nI 0), .int (nI 0), .int (nI 0), .long ab, .long be, .ref maa, .ref mab, .ref mba, .ref mbb]))] := hD
  refine lv_lload_n hx hb dX12_laysStep_41 rfl (lv_at hl 1 rfl) ?_
  refine lv_lconst (v := 0) hx hb dX12_laysStep_42 (by decide) ?_
  refine W.lcmp hx hb dX12_laysStep_43 ?_
  refine lv_if_ne (tgt := 55) hx hb dX12_laysStep_44 (by decide) (fun _ => ?_) (fun c => absurd c (by decide))
  refine lv_aload_n hx hb dX12_laysStep_55 rfl (lv_at hl 2 rfl) ?_
  refine lv_lload hx hb dX12_laysStep_56 (lv_at hl 0 rfl) ?_
  refine lv_lconst (v := 1) hx hb dX12_laysStep_58 (by decide) ?_
  refine lv_aload_n hx hb dX12_laysStep_59 rfl (lv_at hl 2 rfl) ?_
  refine xget C hP 4 rfl rfl zuX12 34 (by decide) zw6_7 rfl dX12_laysStep_60 ?_
  refine lv_iload_n hx hb dX12_laysStep_63 rfl (lv_at hl 3 rfl) ?_
  refine lv_iconst (v := nI 1) hx hb dX12_laysStep_64 (by decide) ?_
  refine lv_isub hx hb dX12_laysStep_65 ?_
  refine lv_topi (nm_r (e' := nI 2) (by decide) ?_)
  refine xlald C hP 0 rfl 2 rfl (by decide) (by decide) dX12_laysStep_66 ?_
  refine lv_topl (nm_r (e' := 1) (by decide) ?_)
  refine lv_aload_n hx hb dX12_laysStep_67 rfl (lv_at hl 2 rfl) ?_
  refine xget C hP 4 rfl rfl zuX12 35 (by decide) zw6_8 rfl dX12_laysStep_68 ?_
  refine lv_iload_n hx hb dX12_laysStep_71 rfl (lv_at hl 3 rfl) ?_
  refine lv_iconst (v := nI 1) hx hb dX12_laysStep_72 (by decide) ?_
  refine lv_isub hx hb dX12_laysStep_73 ?_
  refine lv_topi (nm_r (e' := nI 2) (by decide) ?_)
  refine xlald C hP 1 rfl 2 rfl (by decide) (by decide) dX12_laysStep_74 ?_
  refine lv_topl (nm_r (e' := 2) (by decide) ?_)
  refine xv (wr := [(maa, .inl (cs 1, 9, .inr (.inl (lt4 0 0 1 0)))), (mab, .inl (cs 1, 9, .inr (.inl (lt4 1 1 2 1)))), (mba, .inl (cs 1, 9, .inr (.inl (lt4 0 4 5 0)))), (mbb, .inl (cs 1, 9, .inr (.inl (lt4 1 1 1 1))))]) (xV (As := [.long 0, .long 1, .long 1, .long 2]) (rest := []) C (c_X12_multiplies l D cs hm ms mkp mtr mas mso mon mot man mst msm mtb mti mfr mbn mbs mde maa mab mba mbb ab be 0 1 1 2 0 2 0 1 (by decide +kernel) (by decide +kernel) (by decide +kernel)) kX12_286 hP hD [4] rfl (by decide +kernel) 0 rfl rfl rfl ⟨Nat.le_of_ble_eq_true rfl, Nat.le_of_ble_eq_true rfl⟩ rfl hl.1 rfl (Nat.le_of_ble_eq_true rfl) dX12_laysStep_75 ⟨Nat.le_of_ble_eq_true rfl, Nat.le_of_ble_eq_true rfl⟩) hP hD hS hA [4] [0, 1, 2, 3] rfl rfl (by decide +kernel) (by decide +kernel) ?_
  clear hP hD hS
  try clear locs
  try clear H
  intro u_6 H locs hw_r_5 hP hD hS
  refine W.widen (k := 0) (n := 0) (Nat.le_of_ble_eq_true rfl) (Nat.le_of_ble_eq_true rfl) ?_
  replace hP : va_P D vwCl [(maa, .inl (cs 1, 9, .inr (.inl (lt4 0 0 1 0)))), (mab, .inl (cs 1, 9, .inr (.inl (lt4 1 1 2 1)))), (mba, .inl (cs 1, 9, .inr (.inl (lt4 0 4 5 0)))), (mbb, .inl (cs 1, 9, .inr (.inl (lt4 1 1 1 1)))), (hm, .inr (12, [.ref ms, .ref mkp, .int (nI 0), .ref mtr, .int (nI 4), .int (nI 2), .int (nI 2), .int (nI 3), .int (nI 2), .int (nI 1), .ref mas, .int (nI 0), .int (nI 0), .int (nI 0), .ref mso, .ref mon, .ref mot, .ref man, .int (nI 0), .int (nI 0), .ref mst, .ref msm, .ref mtb, .ref mti, .ref mfr, .ref mbn, .ref mbs, .ref mde, .int (nI 0), .int (nI 0), .int (nI 0), .int (nI 0), .long 0, .long 1, .ref maa, .ref mab, .ref mba, .ref mbb]))] H := hP
  replace hD : va_D A [(maa, .inl (cs 1, 9, .inr (.inl (lt4 0 0 1 0)))), (mab, .inl (cs 1, 9, .inr (.inl (lt4 1 1 2 1)))), (mba, .inl (cs 1, 9, .inr (.inl (lt4 0 4 5 0)))), (mbb, .inl (cs 1, 9, .inr (.inl (lt4 1 1 1 1)))), (hm, .inr (12, [.ref ms, .ref mkp, .int (nI 0), .ref mtr, .int (nI 4), .int (nI 2), .int (nI 2), .int (nI 3), .int (nI 2), .int (nI 1), .ref mas, .int (nI 0), .int (nI 0), .int (nI 0), .ref mso, .ref mon, .ref mot, .ref man, .int (nI 0), .int (nI 0), .ref mst, .ref msm, .ref mtb, .ref mti, .ref mfr, .ref mbn, .ref mbs, .ref mde, .int (nI 0), .int (nI 0), .int (nI 0), .int (nI 0), .long 0, .long 1, .ref maa, .ref mab, .ref mba, .ref mbb]))] := hD
  refine lv_aload_n hx hb dX12_laysStep_78 rfl (lv_at hl 2 rfl) ?_
  refine lv_lload_n hx hb dX12_laysStep_79 rfl (lv_at hl 1 rfl) ?_
  refine lv_lload hx hb dX12_laysStep_80 (lv_at hl 0 rfl) ?_
  refine lv_ladd hx hb dX12_laysStep_82 ?_
  refine lv_topl (nm_r (e' := 3) (by decide) ?_)
  refine lv_lconst (v := 1) hx hb dX12_laysStep_83 (by decide) ?_
  refine lv_aload_n hx hb dX12_laysStep_84 rfl (lv_at hl 2 rfl) ?_
  refine xget C hP 4 rfl rfl zuX12 32 (by decide) zw6_5 rfl dX12_laysStep_85 ?_
  refine lv_aload_n hx hb dX12_laysStep_88 rfl (lv_at hl 2 rfl) ?_
  refine xget C hP 4 rfl rfl zuX12 33 (by decide) zw6_6 rfl dX12_laysStep_89 ?_
  refine xv (wr := [(maa, .inl (cs 1, 9, .inr (.inl (lt4 0 0 1 0)))), (mab, .inl (cs 1, 9, .inr (.inl (lt4 1 1 2 1)))), (mba, .inl (cs 1, 9, .inr (.inl (lt4 0 4 5 0)))), (mbb, .inl (cs 1, 9, .inr (.inl (lt4 1 1 1 1))))]) (xV (As := [.long 3, .long 1, .long 0, .long 1]) (rest := []) C (c_X12_lessens l D cs hm ms mkp mtr mas mso mon mot man mst msm mtb mti mfr mbn mbs mde maa mab mba mbb 0 1 3 1 0 1 3 0 3 1 3 1 (by decide +kernel) (by decide +kernel) (by decide +kernel) (by decide +kernel) (by decide +kernel) (by decide +kernel)) kX12_290 hP hD [4] rfl (by decide +kernel) 0 rfl rfl rfl ⟨Nat.le_of_ble_eq_true rfl, Nat.le_of_ble_eq_true rfl⟩ rfl hl.1 rfl (Nat.le_of_ble_eq_true rfl) dX12_laysStep_92 ⟨Nat.le_of_ble_eq_true rfl, Nat.le_of_ble_eq_true rfl⟩) hP hD hS hA [4] [0, 1, 2, 3] rfl rfl (by decide +kernel) (by decide +kernel) ?_
  clear hP hD hS
  try clear locs
  try clear H
  intro u_8 H locs hw_r_7 hP hD hS
  refine W.widen (k := 0) (n := 0) (Nat.le_of_ble_eq_true rfl) (Nat.le_of_ble_eq_true rfl) ?_
  replace hP : va_P D vwCl [(maa, .inl (cs 1, 9, .inr (.inl (lt4 0 0 1 0)))), (mab, .inl (cs 1, 9, .inr (.inl (lt4 1 1 2 1)))), (mba, .inl (cs 1, 9, .inr (.inl (lt4 0 4 5 0)))), (mbb, .inl (cs 1, 9, .inr (.inl (lt4 1 1 1 1)))), (hm, .inr (12, [.ref ms, .ref mkp, .int (nI 0), .ref mtr, .int (nI 4), .int (nI 2), .int (nI 2), .int (nI 3), .int (nI 2), .int (nI 1), .ref mas, .int (nI 0), .int (nI 0), .int (nI 0), .ref mso, .ref mon, .ref mot, .ref man, .int (nI 0), .int (nI 0), .ref mst, .ref msm, .ref mtb, .ref mti, .ref mfr, .ref mbn, .ref mbs, .ref mde, .int (nI 0), .int (nI 0), .int (nI 0), .int (nI 0), .long 3, .long 1, .ref maa, .ref mab, .ref mba, .ref mbb]))] H := hP
  replace hD : va_D A [(maa, .inl (cs 1, 9, .inr (.inl (lt4 0 0 1 0)))), (mab, .inl (cs 1, 9, .inr (.inl (lt4 1 1 2 1)))), (mba, .inl (cs 1, 9, .inr (.inl (lt4 0 4 5 0)))), (mbb, .inl (cs 1, 9, .inr (.inl (lt4 1 1 1 1)))), (hm, .inr (12, [.ref ms, .ref mkp, .int (nI 0), .ref mtr, .int (nI 4), .int (nI 2), .int (nI 2), .int (nI 3), .int (nI 2), .int (nI 1), .ref mas, .int (nI 0), .int (nI 0), .int (nI 0), .ref mso, .ref mon, .ref mot, .ref man, .int (nI 0), .int (nI 0), .ref mst, .ref msm, .ref mtb, .ref mti, .ref mfr, .ref mbn, .ref mbs, .ref mde, .int (nI 0), .int (nI 0), .int (nI 0), .int (nI 0), .long 3, .long 1, .ref maa, .ref mab, .ref mba, .ref mbb]))] := hD
  refine lv_aload_n hx hb dX12_laysStep_95 rfl (lv_at hl 2 rfl) ?_
  refine xget C hP 4 rfl rfl zuX12 32 (by decide) zw6_5 rfl dX12_laysStep_96 ?_
  refine lv_lstore (lv' := [(7, .long 3), (5, .long 0), (3, .long 3), (0, .ref hm), (1, .int (nI 3)), (2, .int (nI 1))]) hx hb dX12_laysStep_99 hl (by decide) rfl ?_
  clear hl
  try clear ls
  intro ls hl
  refine lv_aload_n hx hb dX12_laysStep_101 rfl (lv_at hl 3 rfl) ?_
  refine xget C hP 4 rfl rfl zuX12 33 (by decide) zw6_6 rfl dX12_laysStep_102 ?_
  refine lv_lstore (lv' := [(9, .long 1), (7, .long 3), (5, .long 0), (3, .long 3), (0, .ref hm), (1, .int (nI 3)), (2, .int (nI 1))]) hx hb dX12_laysStep_105 hl (by decide) rfl ?_
  clear hl
  try clear ls
  intro ls hl
  refine lv_lload hx hb dX12_laysStep_107 (lv_at hl 1 rfl) ?_
  refine lv_lconst (v := 0) hx hb dX12_laysStep_109 (by decide) ?_
  refine W.lcmp hx hb dX12_laysStep_110 ?_
  refine lv_if_eq (tgt := 121) hx hb dX12_laysStep_111 (by decide) (fun c => absurd c (by decide)) (fun _ => ?_)
  refine lv_aload_n hx hb dX12_laysStep_114 rfl (lv_at hl 4 rfl) ?_
  refine xget C hP 4 rfl rfl zuX12 31 (by decide) zw6_4 rfl dX12_laysStep_115 ?_
  refine lv_if_eq (tgt := 122) hx hb dX12_laysStep_118 (by decide) (fun _ => ?_) (fun c => absurd (by decide) c)
  refine lv_aload_n hx hb dX12_laysStep_122 rfl (lv_at hl 4 rfl) ?_
  refine lv_lload_n hx hb dX12_laysStep_123 rfl (lv_at hl 3 rfl) ?_
  refine lv_lconst (v := 1) hx hb dX12_laysStep_124 (by decide) ?_
  refine lv_lload hx hb dX12_laysStep_125 (lv_at hl 1 rfl) ?_
  refine lv_lload hx hb dX12_laysStep_127 (lv_at hl 0 rfl) ?_
  refine xv (wr := [(maa, .inl (cs 1, 9, .inr (.inl (lt4 0 0 1 0)))), (mab, .inl (cs 1, 9, .inr (.inl (lt4 1 1 2 1)))), (mba, .inl (cs 1, 9, .inr (.inl (lt4 0 4 5 0)))), (mbb, .inl (cs 1, 9, .inr (.inl (lt4 1 1 1 1))))]) (xV (As := [.long 3, .long 1, .long 3, .long 1]) (rest := []) C (c_X12_divides l D cs hm ms mkp mtr mas mso mon mot man mst msm mtb mti mfr mbn mbs mde maa mab mba mbb 3 1 3 1 3 1 3 3 1 1 (by decide +kernel) (by decide +kernel) (by decide +kernel)) kX12_293 hP hD [4] rfl (by decide +kernel) 0 rfl rfl rfl ⟨Nat.le_of_ble_eq_true rfl, Nat.le_of_ble_eq_true rfl⟩ rfl hl.1 rfl (Nat.le_of_ble_eq_true rfl) dX12_laysStep_129 ⟨Nat.le_of_ble_eq_true rfl, Nat.le_of_ble_eq_true rfl⟩) hP hD hS hA [4] [0, 1, 2, 3] rfl rfl (by decide +kernel) (by decide +kernel) ?_
  clear hP hD hS
  try clear locs
  try clear H
  intro u_10 H locs hw_r_9 hP hD hS
  refine W.widen (k := 0) (n := 0) (Nat.le_of_ble_eq_true rfl) (Nat.le_of_ble_eq_true rfl) ?_
  replace hP : va_P D vwCl [(maa, .inl (cs 1, 9, .inr (.inl (lt4 0 0 1 0)))), (mab, .inl (cs 1, 9, .inr (.inl (lt4 1 1 2 1)))), (mba, .inl (cs 1, 9, .inr (.inl (lt4 0 4 5 0)))), (mbb, .inl (cs 1, 9, .inr (.inl (lt4 1 1 1 1)))), (hm, .inr (12, [.ref ms, .ref mkp, .int (nI 0), .ref mtr, .int (nI 4), .int (nI 2), .int (nI 2), .int (nI 3), .int (nI 2), .int (nI 1), .ref mas, .int (nI 0), .int (nI 0), .int (nI 0), .ref mso, .ref mon, .ref mot, .ref man, .int (nI 0), .int (nI 0), .ref mst, .ref msm, .ref mtb, .ref mti, .ref mfr, .ref mbn, .ref mbs, .ref mde, .int (nI 0), .int (nI 0), .int (nI 0), .int (nI 0), .long 1, .long 1, .ref maa, .ref mab, .ref mba, .ref mbb]))] H := hP
  replace hD : va_D A [(maa, .inl (cs 1, 9, .inr (.inl (lt4 0 0 1 0)))), (mab, .inl (cs 1, 9, .inr (.inl (lt4 1 1 2 1)))), (mba, .inl (cs 1, 9, .inr (.inl (lt4 0 4 5 0)))), (mbb, .inl (cs 1, 9, .inr (.inl (lt4 1 1 1 1)))), (hm, .inr (12, [.ref ms, .ref mkp, .int (nI 0), .ref mtr, .int (nI 4), .int (nI 2), .int (nI 2), .int (nI 3), .int (nI 2), .int (nI 1), .ref mas, .int (nI 0), .int (nI 0), .int (nI 0), .ref mso, .ref mon, .ref mot, .ref man, .int (nI 0), .int (nI 0), .ref mst, .ref msm, .ref mtb, .ref mti, .ref mfr, .ref mbn, .ref mbs, .ref mde, .int (nI 0), .int (nI 0), .int (nI 0), .int (nI 0), .long 1, .long 1, .ref maa, .ref mab, .ref mba, .ref mbb]))] := hD
  refine lv_aload_n hx hb dX12_laysStep_132 rfl (lv_at hl 4 rfl) ?_
  refine xget C hP 4 rfl rfl zuX12 34 (by decide) zw6_7 rfl dX12_laysStep_133 ?_
  refine lv_iload_n hx hb dX12_laysStep_136 rfl (lv_at hl 5 rfl) ?_
  refine lv_aload_n hx hb dX12_laysStep_137 rfl (lv_at hl 4 rfl) ?_
  refine xget C hP 4 rfl rfl zuX12 32 (by decide) zw6_5 rfl dX12_laysStep_138 ?_
  refine xlast C hP hD hS 0 rfl 3 rfl (by decide) (by decide) dX12_laysStep_141 ?_
  clear hP hD hS
  try clear locs
  try clear H
  intro H locs hP hD hS
  replace hP : va_P D vwCl [(maa, .inl (cs 1, 9, .inr (.inl (vp_updL (lt4 0 0 1 0) 3 1)))), (mab, .inl (cs 1, 9, .inr (.inl (lt4 1 1 2 1)))), (mba, .inl (cs 1, 9, .inr (.inl (lt4 0 4 5 0)))), (mbb, .inl (cs 1, 9, .inr (.inl (lt4 1 1 1 1)))), (hm, .inr (12, [.ref ms, .ref mkp, .int (nI 0), .ref mtr, .int (nI 4), .int (nI 2), .int (nI 2), .int (nI 3), .int (nI 2), .int (nI 1), .ref mas, .int (nI 0), .int (nI 0), .int (nI 0), .ref mso, .ref mon, .ref mot, .ref man, .int (nI 0), .int (nI 0), .ref mst, .ref msm, .ref mtb, .ref mti, .ref mfr, .ref mbn, .ref mbs, .ref mde, .int (nI 0), .int (nI 0), .int (nI 0), .int (nI 0), .long 1, .long 1, .ref maa, .ref mab, .ref mba, .ref mbb]))] H := hP
  replace hD : va_D A [(maa, .inl (cs 1, 9, .inr (.inl (vp_updL (lt4 0 0 1 0) 3 1)))), (mab, .inl (cs 1, 9, .inr (.inl (lt4 1 1 2 1)))), (mba, .inl (cs 1, 9, .inr (.inl (lt4 0 4 5 0)))), (mbb, .inl (cs 1, 9, .inr (.inl (lt4 1 1 1 1)))), (hm, .inr (12, [.ref ms, .ref mkp, .int (nI 0), .ref mtr, .int (nI 4), .int (nI 2), .int (nI 2), .int (nI 3), .int (nI 2), .int (nI 1), .ref mas, .int (nI 0), .int (nI 0), .int (nI 0), .ref mso, .ref mon, .ref mot, .ref man, .int (nI 0), .int (nI 0), .ref mst, .ref msm, .ref mtb, .ref mti, .ref mfr, .ref mbn, .ref mbs, .ref mde, .int (nI 0), .int (nI 0), .int (nI 0), .int (nI 0), .long 1, .long 1, .ref maa, .ref mab, .ref mba, .ref mbb]))] := hD
  refine lv_aload_n hx hb dX12_laysStep_142 rfl (lv_at hl 4 rfl) ?_
  refine xget C hP 4 rfl rfl zuX12 35 (by decide) zw6_8 rfl dX12_laysStep_143 ?_
  refine lv_iload_n hx hb dX12_laysStep_146 rfl (lv_at hl 5 rfl) ?_
  refine lv_aload_n hx hb dX12_laysStep_147 rfl (lv_at hl 4 rfl) ?_
  refine xget C hP 4 rfl rfl zuX12 33 (by decide) zw6_6 rfl dX12_laysStep_148 ?_
  refine xlast C hP hD hS 1 rfl 3 rfl (by decide) (by decide) dX12_laysStep_151 ?_
  clear hP hD hS
  try clear locs
  try clear H
  intro H locs hP hD hS
  replace hP : va_P D vwCl [(maa, .inl (cs 1, 9, .inr (.inl (vp_updL (lt4 0 0 1 0) 3 1)))), (mab, .inl (cs 1, 9, .inr (.inl (vp_updL (lt4 1 1 2 1) 3 1)))), (mba, .inl (cs 1, 9, .inr (.inl (lt4 0 4 5 0)))), (mbb, .inl (cs 1, 9, .inr (.inl (lt4 1 1 1 1)))), (hm, .inr (12, [.ref ms, .ref mkp, .int (nI 0), .ref mtr, .int (nI 4), .int (nI 2), .int (nI 2), .int (nI 3), .int (nI 2), .int (nI 1), .ref mas, .int (nI 0), .int (nI 0), .int (nI 0), .ref mso, .ref mon, .ref mot, .ref man, .int (nI 0), .int (nI 0), .ref mst, .ref msm, .ref mtb, .ref mti, .ref mfr, .ref mbn, .ref mbs, .ref mde, .int (nI 0), .int (nI 0), .int (nI 0), .int (nI 0), .long 1, .long 1, .ref maa, .ref mab, .ref mba, .ref mbb]))] H := hP
  replace hD : va_D A [(maa, .inl (cs 1, 9, .inr (.inl (vp_updL (lt4 0 0 1 0) 3 1)))), (mab, .inl (cs 1, 9, .inr (.inl (vp_updL (lt4 1 1 2 1) 3 1)))), (mba, .inl (cs 1, 9, .inr (.inl (lt4 0 4 5 0)))), (mbb, .inl (cs 1, 9, .inr (.inl (lt4 1 1 1 1)))), (hm, .inr (12, [.ref ms, .ref mkp, .int (nI 0), .ref mtr, .int (nI 4), .int (nI 2), .int (nI 2), .int (nI 3), .int (nI 2), .int (nI 1), .ref mas, .int (nI 0), .int (nI 0), .int (nI 0), .ref mso, .ref mon, .ref mot, .ref man, .int (nI 0), .int (nI 0), .ref mst, .ref msm, .ref mtb, .ref mti, .ref mfr, .ref mbn, .ref mbs, .ref mde, .int (nI 0), .int (nI 0), .int (nI 0), .int (nI 0), .long 1, .long 1, .ref maa, .ref mab, .ref mba, .ref mbb]))] := hD
  have hPD := xcongl (q0 := 0) (lt4 0 0 1 1) hP hD rfl (fun j hj => (show ∀ j, j < 9 → lt4 0 0 1 1 j = (vp_updL (lt4 0 0 1 0) 3 1) j from by decide) j hj)
  clear hP hD
  obtain ⟨hP, hD⟩ := hPD
  replace hP : va_P D vwCl [(maa, .inl (cs 1, 9, .inr (.inl (lt4 0 0 1 1)))), (mab, .inl (cs 1, 9, .inr (.inl (vp_updL (lt4 1 1 2 1) 3 1)))), (mba, .inl (cs 1, 9, .inr (.inl (lt4 0 4 5 0)))), (mbb, .inl (cs 1, 9, .inr (.inl (lt4 1 1 1 1)))), (hm, .inr (12, [.ref ms, .ref mkp, .int (nI 0), .ref mtr, .int (nI 4), .int (nI 2), .int (nI 2), .int (nI 3), .int (nI 2), .int (nI 1), .ref mas, .int (nI 0), .int (nI 0), .int (nI 0), .ref mso, .ref mon, .ref mot, .ref man, .int (nI 0), .int (nI 0), .ref mst, .ref msm, .ref mtb, .ref mti, .ref mfr, .ref mbn, .ref mbs, .ref mde, .int (nI 0), .int (nI 0), .int (nI 0), .int (nI 0), .long 1, .long 1, .ref maa, .ref mab, .ref mba, .ref mbb]))] H := hP
  replace hD : va_D A [(maa, .inl (cs 1, 9, .inr (.inl (lt4 0 0 1 1)))), (mab, .inl (cs 1, 9, .inr (.inl (vp_updL (lt4 1 1 2 1) 3 1)))), (mba, .inl (cs 1, 9, .inr (.inl (lt4 0 4 5 0)))), (mbb, .inl (cs 1, 9, .inr (.inl (lt4 1 1 1 1)))), (hm, .inr (12, [.ref ms, .ref mkp, .int (nI 0), .ref mtr, .int (nI 4), .int (nI 2), .int (nI 2), .int (nI 3), .int (nI 2), .int (nI 1), .ref mas, .int (nI 0), .int (nI 0), .int (nI 0), .ref mso, .ref mon, .ref mot, .ref man, .int (nI 0), .int (nI 0), .ref mst, .ref msm, .ref mtb, .ref mti, .ref mfr, .ref mbn, .ref mbs, .ref mde, .int (nI 0), .int (nI 0), .int (nI 0), .int (nI 0), .long 1, .long 1, .ref maa, .ref mab, .ref mba, .ref mbb]))] := hD
  have hPD := xcongl (q0 := 1) (lt4 1 1 2 1) hP hD rfl (fun j hj => (show ∀ j, j < 9 → lt4 1 1 2 1 j = (vp_updL (lt4 1 1 2 1) 3 1) j from by decide) j hj)
  clear hP hD
  obtain ⟨hP, hD⟩ := hPD
  replace hP : va_P D vwCl [(maa, .inl (cs 1, 9, .inr (.inl (lt4 0 0 1 1)))), (mab, .inl (cs 1, 9, .inr (.inl (lt4 1 1 2 1)))), (mba, .inl (cs 1, 9, .inr (.inl (lt4 0 4 5 0)))), (mbb, .inl (cs 1, 9, .inr (.inl (lt4 1 1 1 1)))), (hm, .inr (12, [.ref ms, .ref mkp, .int (nI 0), .ref mtr, .int (nI 4), .int (nI 2), .int (nI 2), .int (nI 3), .int (nI 2), .int (nI 1), .ref mas, .int (nI 0), .int (nI 0), .int (nI 0), .ref mso, .ref mon, .ref mot, .ref man, .int (nI 0), .int (nI 0), .ref mst, .ref msm, .ref mtb, .ref mti, .ref mfr, .ref mbn, .ref mbs, .ref mde, .int (nI 0), .int (nI 0), .int (nI 0), .int (nI 0), .long 1, .long 1, .ref maa, .ref mab, .ref mba, .ref mbb]))] H := hP
  replace hD : va_D A [(maa, .inl (cs 1, 9, .inr (.inl (lt4 0 0 1 1)))), (mab, .inl (cs 1, 9, .inr (.inl (lt4 1 1 2 1)))), (mba, .inl (cs 1, 9, .inr (.inl (lt4 0 4 5 0)))), (mbb, .inl (cs 1, 9, .inr (.inl (lt4 1 1 1 1)))), (hm, .inr (12, [.ref ms, .ref mkp, .int (nI 0), .ref mtr, .int (nI 4), .int (nI 2), .int (nI 2), .int (nI 3), .int (nI 2), .int (nI 1), .ref mas, .int (nI 0), .int (nI 0), .int (nI 0), .ref mso, .ref mon, .ref mot, .ref man, .int (nI 0), .int (nI 0), .ref mst, .ref msm, .ref mtb, .ref mti, .ref mfr, .ref mbn, .ref mbs, .ref mde, .int (nI 0), .int (nI 0), .int (nI 0), .int (nI 0), .long 1, .long 1, .ref maa, .ref mab, .ref mba, .ref mbb]))] := hD
  refine lv_aload_n hx hb dX12_laysStep_152 rfl (lv_at hl 4 rfl) ?_
  refine lv_lload hx hb dX12_laysStep_153 (lv_at hl 2 rfl) ?_
  refine lv_lconst (v := 1) hx hb dX12_laysStep_155 (by decide) ?_
  refine lv_aload_n hx hb dX12_laysStep_156 rfl (lv_at hl 4 rfl) ?_
  refine xget C hP 4 rfl rfl zuX12 36 (by decide) zw6_9 rfl dX12_laysStep_157 ?_
  refine lv_iload_n hx hb dX12_laysStep_160 rfl (lv_at hl 5 rfl) ?_
  refine lv_iconst (v := nI 1) hx hb dX12_laysStep_161 (by decide) ?_
  refine lv_isub hx hb dX12_laysStep_162 ?_
  refine lv_topi (nm_r (e' := nI 2) (by decide) ?_)
  refine xlald C hP 2 rfl 2 rfl (by decide) (by decide) dX12_laysStep_163 ?_
  refine lv_topl (nm_r (e' := 5) (by decide) ?_)
  refine lv_aload_n hx hb dX12_laysStep_164 rfl (lv_at hl 4 rfl) ?_
  refine xget C hP 4 rfl rfl zuX12 37 (by decide) zw6_10 rfl dX12_laysStep_165 ?_
  refine lv_iload_n hx hb dX12_laysStep_168 rfl (lv_at hl 5 rfl) ?_
  refine lv_iconst (v := nI 1) hx hb dX12_laysStep_169 (by decide) ?_
  refine lv_isub hx hb dX12_laysStep_170 ?_
  refine lv_topi (nm_r (e' := nI 2) (by decide) ?_)
  refine xlald C hP 3 rfl 2 rfl (by decide) (by decide) dX12_laysStep_171 ?_
  refine lv_topl (nm_r (e' := 1) (by decide) ?_)
  refine xv (wr := [(maa, .inl (cs 1, 9, .inr (.inl (lt4 0 0 1 1)))), (mab, .inl (cs 1, 9, .inr (.inl (lt4 1 1 2 1)))), (mba, .inl (cs 1, 9, .inr (.inl (lt4 0 4 5 0)))), (mbb, .inl (cs 1, 9, .inr (.inl (lt4 1 1 1 1))))]) (xV (As := [.long 0, .long 1, .long 5, .long 1]) (rest := []) C (c_X12_multiplies l D cs hm ms mkp mtr mas mso mon mot man mst msm mtb mti mfr mbn mbs mde maa mab mba mbb 1 1 0 1 5 1 0 1 0 1 (by decide +kernel) (by decide +kernel) (by decide +kernel)) kX12_286 hP hD [4] rfl (by decide +kernel) 0 rfl rfl rfl ⟨Nat.le_of_ble_eq_true rfl, Nat.le_of_ble_eq_true rfl⟩ rfl hl.1 rfl (Nat.le_of_ble_eq_true rfl) dX12_laysStep_172 ⟨Nat.le_of_ble_eq_true rfl, Nat.le_of_ble_eq_true rfl⟩) hP hD hS hA [4] [0, 1, 2, 3] rfl rfl (by decide +kernel) (by decide +kernel) ?_
  clear hP hD hS
  try clear locs
  try clear H
  intro u_12 H locs hw_r_11 hP hD hS
  refine W.widen (k := 0) (n := 0) (Nat.le_of_ble_eq_true rfl) (Nat.le_of_ble_eq_true rfl) ?_
  replace hP : va_P D vwCl [(maa, .inl (cs 1, 9, .inr (.inl (lt4 0 0 1 1)))), (mab, .inl (cs 1, 9, .inr (.inl (lt4 1 1 2 1)))), (mba, .inl (cs 1, 9, .inr (.inl (lt4 0 4 5 0)))), (mbb, .inl (cs 1, 9, .inr (.inl (lt4 1 1 1 1)))), (hm, .inr (12, [.ref ms, .ref mkp, .int (nI 0), .ref mtr, .int (nI 4), .int (nI 2), .int (nI 2), .int (nI 3), .int (nI 2), .int (nI 1), .ref mas, .int (nI 0), .int (nI 0), .int (nI 0), .ref mso, .ref mon, .ref mot, .ref man, .int (nI 0), .int (nI 0), .ref mst, .ref msm, .ref mtb, .ref mti, .ref mfr, .ref mbn, .ref mbs, .ref mde, .int (nI 0), .int (nI 0), .int (nI 0), .int (nI 0), .long 0, .long 1, .ref maa, .ref mab, .ref mba, .ref mbb]))] H := hP
  replace hD : va_D A [(maa, .inl (cs 1, 9, .inr (.inl (lt4 0 0 1 1)))), (mab, .inl (cs 1, 9, .inr (.inl (lt4 1 1 2 1)))), (mba, .inl (cs 1, 9, .inr (.inl (lt4 0 4 5 0)))), (mbb, .inl (cs 1, 9, .inr (.inl (lt4 1 1 1 1)))), (hm, .inr (12, [.ref ms, .ref mkp, .int (nI 0), .ref mtr, .int (nI 4), .int (nI 2), .int (nI 2), .int (nI 3), .int (nI 2), .int (nI 1), .ref mas, .int (nI 0), .int (nI 0), .int (nI 0), .ref mso, .ref mon, .ref mot, .ref man, .int (nI 0), .int (nI 0), .ref mst, .ref msm, .ref mtb, .ref mti, .ref mfr, .ref mbn, .ref mbs, .ref mde, .int (nI 0), .int (nI 0), .int (nI 0), .int (nI 0), .long 0, .long 1, .ref maa, .ref mab, .ref mba, .ref mbb]))] := hD
  refine lv_iload_n hx hb dX12_laysStep_175 rfl (lv_at hl 6 rfl) ?_
  refine lv_if_eq (tgt := 202) hx hb dX12_laysStep_176 (by decide) (fun c => absurd c (by decide)) (fun _ => ?_)
  refine lv_aload_n hx hb dX12_laysStep_179 rfl (lv_at hl 4 rfl) ?_
  refine lv_aload_n hx hb dX12_laysStep_180 rfl (lv_at hl 4 rfl) ?_
  refine xget C hP 4 rfl rfl zuX12 4 (by decide) zw5_217 rfl dX12_laysStep_181 ?_
  refine lv_i2l hx hb dX12_laysStep_184 rfl ?_
  refine lv_aload_n hx hb dX12_laysStep_185 rfl (lv_at hl 4 rfl) ?_
  refine xl (wr := [(maa, .inl (cs 1, 9, .inr (.inl (lt4 0 0 1 1)))), (mab, .inl (cs 1, 9, .inr (.inl (lt4 1 1 2 1)))), (mba, .inl (cs 1, 9, .inr (.inl (lt4 0 4 5 0)))), (mbb, .inl (cs 1, 9, .inr (.inl (lt4 1 1 1 1))))]) (xV (As := []) (rest := [.long ((nI 4).toInt64), .ref hm]) C (c_X12_samples_c l D cs hm ms mkp mtr mas mso mon mot man mst msm mtb mti mfr mbn mbs mde maa mab mba mbb 0 1) kX12_180 hP hD [4] rfl (by decide +kernel) 0 rfl rfl rfl ⟨Nat.le_of_ble_eq_true rfl, Nat.le_of_ble_eq_true rfl⟩ rfl hl.1 rfl (Nat.le_of_ble_eq_true rfl) dX12_laysStep_186 ⟨Nat.le_of_ble_eq_true rfl, Nat.le_of_ble_eq_true rfl⟩) hP hD hS hA [4] [0, 1, 2, 3] rfl rfl (by decide +kernel) (by decide +kernel) ?_
  clear hP hD hS
  try clear locs
  try clear H
  intro r_13 u_14 H locs hw_r_13 hP hD hS
  have hw_r_13 : r_13 = 3 := hw_r_13
  refine W.widen (k := 0) (n := 0) (Nat.le_of_ble_eq_true rfl) (Nat.le_of_ble_eq_true rfl) ?_
  replace hP : va_P D vwCl [(maa, .inl (cs 1, 9, .inr (.inl (lt4 0 0 1 1)))), (mab, .inl (cs 1, 9, .inr (.inl (lt4 1 1 2 1)))), (mba, .inl (cs 1, 9, .inr (.inl (lt4 0 4 5 0)))), (mbb, .inl (cs 1, 9, .inr (.inl (lt4 1 1 1 1)))), (hm, .inr (12, [.ref ms, .ref mkp, .int (nI 0), .ref mtr, .int (nI 4), .int (nI 2), .int (nI 2), .int (nI 3), .int (nI 2), .int (nI 1), .ref mas, .int (nI 0), .int (nI 0), .int (nI 0), .ref mso, .ref mon, .ref mot, .ref man, .int (nI 0), .int (nI 0), .ref mst, .ref msm, .ref mtb, .ref mti, .ref mfr, .ref mbn, .ref mbs, .ref mde, .int (nI 0), .int (nI 0), .int (nI 0), .int (nI 0), .long 0, .long 1, .ref maa, .ref mab, .ref mba, .ref mbb]))] H := hP
  replace hD : va_D A [(maa, .inl (cs 1, 9, .inr (.inl (lt4 0 0 1 1)))), (mab, .inl (cs 1, 9, .inr (.inl (lt4 1 1 2 1)))), (mba, .inl (cs 1, 9, .inr (.inl (lt4 0 4 5 0)))), (mbb, .inl (cs 1, 9, .inr (.inl (lt4 1 1 1 1)))), (hm, .inr (12, [.ref ms, .ref mkp, .int (nI 0), .ref mtr, .int (nI 4), .int (nI 2), .int (nI 2), .int (nI 3), .int (nI 2), .int (nI 1), .ref mas, .int (nI 0), .int (nI 0), .int (nI 0), .ref mso, .ref mon, .ref mot, .ref man, .int (nI 0), .int (nI 0), .ref mst, .ref msm, .ref mtb, .ref mti, .ref mfr, .ref mbn, .ref mbs, .ref mde, .int (nI 0), .int (nI 0), .int (nI 0), .int (nI 0), .long 0, .long 1, .ref maa, .ref mab, .ref mba, .ref mbb]))] := hD
  subst hw_r_13
  refine lv_lmul hx hb dX12_laysStep_189 ?_
  refine lv_topl (nm_r (e' := 12) (by decide) ?_)
  refine lv_lconst (v := 1) hx hb dX12_laysStep_190 (by decide) ?_
  refine lv_aload_n hx hb dX12_laysStep_191 rfl (lv_at hl 4 rfl) ?_
  refine xget C hP 4 rfl rfl zuX12 32 (by decide) zw6_5 rfl dX12_laysStep_192 ?_
  refine lv_aload_n hx hb dX12_laysStep_195 rfl (lv_at hl 4 rfl) ?_
  refine xget C hP 4 rfl rfl zuX12 33 (by decide) zw6_6 rfl dX12_laysStep_196 ?_
  refine xv (wr := [(maa, .inl (cs 1, 9, .inr (.inl (lt4 0 0 1 1)))), (mab, .inl (cs 1, 9, .inr (.inl (lt4 1 1 2 1)))), (mba, .inl (cs 1, 9, .inr (.inl (lt4 0 4 5 0)))), (mbb, .inl (cs 1, 9, .inr (.inl (lt4 1 1 1 1))))]) (xV (As := [.long 12, .long 1, .long 0, .long 1]) (rest := []) C (c_X12_adds l D cs hm ms mkp mtr mas mso mon mot man mst msm mtb mti mfr mbn mbs mde maa mab mba mbb 0 1 12 1 0 1 12 0 12 1 12 1 (by decide +kernel) (by decide +kernel) (by decide +kernel) (by decide +kernel) (by decide +kernel) (by decide +kernel)) kX12_296 hP hD [4] rfl (by decide +kernel) 0 rfl rfl rfl ⟨Nat.le_of_ble_eq_true rfl, Nat.le_of_ble_eq_true rfl⟩ rfl hl.1 rfl (Nat.le_of_ble_eq_true rfl) dX12_laysStep_199 ⟨Nat.le_of_ble_eq_true rfl, Nat.le_of_ble_eq_true rfl⟩) hP hD hS hA [4] [0, 1, 2, 3] rfl rfl (by decide +kernel) (by decide +kernel) ?_
  clear hP hD hS
  try clear locs
  try clear H
  intro u_16 H locs hw_r_15 hP hD hS
  refine W.widen (k := 0) (n := 0) (Nat.le_of_ble_eq_true rfl) (Nat.le_of_ble_eq_true rfl) ?_
  replace hP : va_P D vwCl [(maa, .inl (cs 1, 9, .inr (.inl (lt4 0 0 1 1)))), (mab, .inl (cs 1, 9, .inr (.inl (lt4 1 1 2 1)))), (mba, .inl (cs 1, 9, .inr (.inl (lt4 0 4 5 0)))), (mbb, .inl (cs 1, 9, .inr (.inl (lt4 1 1 1 1)))), (hm, .inr (12, [.ref ms, .ref mkp, .int (nI 0), .ref mtr, .int (nI 4), .int (nI 2), .int (nI 2), .int (nI 3), .int (nI 2), .int (nI 1), .ref mas, .int (nI 0), .int (nI 0), .int (nI 0), .ref mso, .ref mon, .ref mot, .ref man, .int (nI 0), .int (nI 0), .ref mst, .ref msm, .ref mtb, .ref mti, .ref mfr, .ref mbn, .ref mbs, .ref mde, .int (nI 0), .int (nI 0), .int (nI 0), .int (nI 0), .long 12, .long 1, .ref maa, .ref mab, .ref mba, .ref mbb]))] H := hP
  replace hD : va_D A [(maa, .inl (cs 1, 9, .inr (.inl (lt4 0 0 1 1)))), (mab, .inl (cs 1, 9, .inr (.inl (lt4 1 1 2 1)))), (mba, .inl (cs 1, 9, .inr (.inl (lt4 0 4 5 0)))), (mbb, .inl (cs 1, 9, .inr (.inl (lt4 1 1 1 1)))), (hm, .inr (12, [.ref ms, .ref mkp, .int (nI 0), .ref mtr, .int (nI 4), .int (nI 2), .int (nI 2), .int (nI 3), .int (nI 2), .int (nI 1), .ref mas, .int (nI 0), .int (nI 0), .int (nI 0), .ref mso, .ref mon, .ref mot, .ref man, .int (nI 0), .int (nI 0), .ref mst, .ref msm, .ref mtb, .ref mti, .ref mfr, .ref mbn, .ref mbs, .ref mde, .int (nI 0), .int (nI 0), .int (nI 0), .int (nI 0), .long 12, .long 1, .ref maa, .ref mab, .ref mba, .ref mbb]))] := hD
  refine lv_aload_n hx hb dX12_laysStep_202 rfl (lv_at hl 4 rfl) ?_
  refine lv_aload_n hx hb dX12_laysStep_203 rfl (lv_at hl 4 rfl) ?_
  refine xget C hP 4 rfl rfl zuX12 32 (by decide) zw6_5 rfl dX12_laysStep_204 ?_
  refine lv_aload_n hx hb dX12_laysStep_207 rfl (lv_at hl 4 rfl) ?_
  refine xget C hP 4 rfl rfl zuX12 33 (by decide) zw6_6 rfl dX12_laysStep_208 ?_
  refine lv_lload hx hb dX12_laysStep_211 (lv_at hl 1 rfl) ?_
  refine lv_lload hx hb dX12_laysStep_213 (lv_at hl 0 rfl) ?_
  refine xv (wr := [(maa, .inl (cs 1, 9, .inr (.inl (lt4 0 0 1 1)))), (mab, .inl (cs 1, 9, .inr (.inl (lt4 1 1 2 1)))), (mba, .inl (cs 1, 9, .inr (.inl (lt4 0 4 5 0)))), (mbb, .inl (cs 1, 9, .inr (.inl (lt4 1 1 1 1))))]) (xV (As := [.long 12, .long 1, .long 3, .long 1]) (rest := []) C (c_X12_divides l D cs hm ms mkp mtr mas mso mon mot man mst msm mtb mti mfr mbn mbs mde maa mab mba mbb 12 1 12 1 3 1 12 3 4 1 (by decide +kernel) (by decide +kernel) (by decide +kernel)) kX12_293 hP hD [4] rfl (by decide +kernel) 0 rfl rfl rfl ⟨Nat.le_of_ble_eq_true rfl, Nat.le_of_ble_eq_true rfl⟩ rfl hl.1 rfl (Nat.le_of_ble_eq_true rfl) dX12_laysStep_215 ⟨Nat.le_of_ble_eq_true rfl, Nat.le_of_ble_eq_true rfl⟩) hP hD hS hA [4] [0, 1, 2, 3] rfl rfl (by decide +kernel) (by decide +kernel) ?_
  clear hP hD hS
  try clear locs
  try clear H
  intro u_18 H locs hw_r_17 hP hD hS
  refine W.widen (k := 0) (n := 0) (Nat.le_of_ble_eq_true rfl) (Nat.le_of_ble_eq_true rfl) ?_
  replace hP : va_P D vwCl [(maa, .inl (cs 1, 9, .inr (.inl (lt4 0 0 1 1)))), (mab, .inl (cs 1, 9, .inr (.inl (lt4 1 1 2 1)))), (mba, .inl (cs 1, 9, .inr (.inl (lt4 0 4 5 0)))), (mbb, .inl (cs 1, 9, .inr (.inl (lt4 1 1 1 1)))), (hm, .inr (12, [.ref ms, .ref mkp, .int (nI 0), .ref mtr, .int (nI 4), .int (nI 2), .int (nI 2), .int (nI 3), .int (nI 2), .int (nI 1), .ref mas, .int (nI 0), .int (nI 0), .int (nI 0), .ref mso, .ref mon, .ref mot, .ref man, .int (nI 0), .int (nI 0), .ref mst, .ref msm, .ref mtb, .ref mti, .ref mfr, .ref mbn, .ref mbs, .ref mde, .int (nI 0), .int (nI 0), .int (nI 0), .int (nI 0), .long 4, .long 1, .ref maa, .ref mab, .ref mba, .ref mbb]))] H := hP
  replace hD : va_D A [(maa, .inl (cs 1, 9, .inr (.inl (lt4 0 0 1 1)))), (mab, .inl (cs 1, 9, .inr (.inl (lt4 1 1 2 1)))), (mba, .inl (cs 1, 9, .inr (.inl (lt4 0 4 5 0)))), (mbb, .inl (cs 1, 9, .inr (.inl (lt4 1 1 1 1)))), (hm, .inr (12, [.ref ms, .ref mkp, .int (nI 0), .ref mtr, .int (nI 4), .int (nI 2), .int (nI 2), .int (nI 3), .int (nI 2), .int (nI 1), .ref mas, .int (nI 0), .int (nI 0), .int (nI 0), .ref mso, .ref mon, .ref mot, .ref man, .int (nI 0), .int (nI 0), .ref mst, .ref msm, .ref mtb, .ref mti, .ref mfr, .ref mbn, .ref mbs, .ref mde, .int (nI 0), .int (nI 0), .int (nI 0), .int (nI 0), .long 4, .long 1, .ref maa, .ref mab, .ref mba, .ref mbb]))] := hD
  refine lv_aload_n hx hb dX12_laysStep_218 rfl (lv_at hl 4 rfl) ?_
  refine xget C hP 4 rfl rfl zuX12 36 (by decide) zw6_9 rfl dX12_laysStep_219 ?_
  refine lv_iload_n hx hb dX12_laysStep_222 rfl (lv_at hl 5 rfl) ?_
  refine lv_aload_n hx hb dX12_laysStep_223 rfl (lv_at hl 4 rfl) ?_
  refine xget C hP 4 rfl rfl zuX12 32 (by decide) zw6_5 rfl dX12_laysStep_224 ?_
  refine xlast C hP hD hS 2 rfl 3 rfl (by decide) (by decide) dX12_laysStep_227 ?_
  clear hP hD hS
  try clear locs
  try clear H
  intro H locs hP hD hS
  replace hP : va_P D vwCl [(maa, .inl (cs 1, 9, .inr (.inl (lt4 0 0 1 1)))), (mab, .inl (cs 1, 9, .inr (.inl (lt4 1 1 2 1)))), (mba, .inl (cs 1, 9, .inr (.inl (vp_updL (lt4 0 4 5 0) 3 4)))), (mbb, .inl (cs 1, 9, .inr (.inl (lt4 1 1 1 1)))), (hm, .inr (12, [.ref ms, .ref mkp, .int (nI 0), .ref mtr, .int (nI 4), .int (nI 2), .int (nI 2), .int (nI 3), .int (nI 2), .int (nI 1), .ref mas, .int (nI 0), .int (nI 0), .int (nI 0), .ref mso, .ref mon, .ref mot, .ref man, .int (nI 0), .int (nI 0), .ref mst, .ref msm, .ref mtb, .ref mti, .ref mfr, .ref mbn, .ref mbs, .ref mde, .int (nI 0), .int (nI 0), .int (nI 0), .int (nI 0), .long 4, .long 1, .ref maa, .ref mab, .ref mba, .ref mbb]))] H := hP
  replace hD : va_D A [(maa, .inl (cs 1, 9, .inr (.inl (lt4 0 0 1 1)))), (mab, .inl (cs 1, 9, .inr (.inl (lt4 1 1 2 1)))), (mba, .inl (cs 1, 9, .inr (.inl (vp_updL (lt4 0 4 5 0) 3 4)))), (mbb, .inl (cs 1, 9, .inr (.inl (lt4 1 1 1 1)))), (hm, .inr (12, [.ref ms, .ref mkp, .int (nI 0), .ref mtr, .int (nI 4), .int (nI 2), .int (nI 2), .int (nI 3), .int (nI 2), .int (nI 1), .ref mas, .int (nI 0), .int (nI 0), .int (nI 0), .ref mso, .ref mon, .ref mot, .ref man, .int (nI 0), .int (nI 0), .ref mst, .ref msm, .ref mtb, .ref mti, .ref mfr, .ref mbn, .ref mbs, .ref mde, .int (nI 0), .int (nI 0), .int (nI 0), .int (nI 0), .long 4, .long 1, .ref maa, .ref mab, .ref mba, .ref mbb]))] := hD
  refine lv_aload_n hx hb dX12_laysStep_228 rfl (lv_at hl 4 rfl) ?_
  refine xget C hP 4 rfl rfl zuX12 37 (by decide) zw6_10 rfl dX12_laysStep_229 ?_
  refine lv_iload_n hx hb dX12_laysStep_232 rfl (lv_at hl 5 rfl) ?_
  refine lv_aload_n hx hb dX12_laysStep_233 rfl (lv_at hl 4 rfl) ?_
  refine xget C hP 4 rfl rfl zuX12 33 (by decide) zw6_6 rfl dX12_laysStep_234 ?_
  refine xlast C hP hD hS 3 rfl 3 rfl (by decide) (by decide) dX12_laysStep_237 ?_
  clear hP hD hS
  try clear locs
  try clear H
  intro H locs hP hD hS
  replace hP : va_P D vwCl [(maa, .inl (cs 1, 9, .inr (.inl (lt4 0 0 1 1)))), (mab, .inl (cs 1, 9, .inr (.inl (lt4 1 1 2 1)))), (mba, .inl (cs 1, 9, .inr (.inl (vp_updL (lt4 0 4 5 0) 3 4)))), (mbb, .inl (cs 1, 9, .inr (.inl (vp_updL (lt4 1 1 1 1) 3 1)))), (hm, .inr (12, [.ref ms, .ref mkp, .int (nI 0), .ref mtr, .int (nI 4), .int (nI 2), .int (nI 2), .int (nI 3), .int (nI 2), .int (nI 1), .ref mas, .int (nI 0), .int (nI 0), .int (nI 0), .ref mso, .ref mon, .ref mot, .ref man, .int (nI 0), .int (nI 0), .ref mst, .ref msm, .ref mtb, .ref mti, .ref mfr, .ref mbn, .ref mbs, .ref mde, .int (nI 0), .int (nI 0), .int (nI 0), .int (nI 0), .long 4, .long 1, .ref maa, .ref mab, .ref mba, .ref mbb]))] H := hP
  replace hD : va_D A [(maa, .inl (cs 1, 9, .inr (.inl (lt4 0 0 1 1)))), (mab, .inl (cs 1, 9, .inr (.inl (lt4 1 1 2 1)))), (mba, .inl (cs 1, 9, .inr (.inl (vp_updL (lt4 0 4 5 0) 3 4)))), (mbb, .inl (cs 1, 9, .inr (.inl (vp_updL (lt4 1 1 1 1) 3 1)))), (hm, .inr (12, [.ref ms, .ref mkp, .int (nI 0), .ref mtr, .int (nI 4), .int (nI 2), .int (nI 2), .int (nI 3), .int (nI 2), .int (nI 1), .ref mas, .int (nI 0), .int (nI 0), .int (nI 0), .ref mso, .ref mon, .ref mot, .ref man, .int (nI 0), .int (nI 0), .ref mst, .ref msm, .ref mtb, .ref mti, .ref mfr, .ref mbn, .ref mbs, .ref mde, .int (nI 0), .int (nI 0), .int (nI 0), .int (nI 0), .long 4, .long 1, .ref maa, .ref mab, .ref mba, .ref mbb]))] := hD
  have hPD := xcongl (q0 := 2) (lt4 0 4 5 4) hP hD rfl (fun j hj => (show ∀ j, j < 9 → lt4 0 4 5 4 j = (vp_updL (lt4 0 4 5 0) 3 4) j from by decide) j hj)
  clear hP hD
  obtain ⟨hP, hD⟩ := hPD
  replace hP : va_P D vwCl [(maa, .inl (cs 1, 9, .inr (.inl (lt4 0 0 1 1)))), (mab, .inl (cs 1, 9, .inr (.inl (lt4 1 1 2 1)))), (mba, .inl (cs 1, 9, .inr (.inl (lt4 0 4 5 4)))), (mbb, .inl (cs 1, 9, .inr (.inl (vp_updL (lt4 1 1 1 1) 3 1)))), (hm, .inr (12, [.ref ms, .ref mkp, .int (nI 0), .ref mtr, .int (nI 4), .int (nI 2), .int (nI 2), .int (nI 3), .int (nI 2), .int (nI 1), .ref mas, .int (nI 0), .int (nI 0), .int (nI 0), .ref mso, .ref mon, .ref mot, .ref man, .int (nI 0), .int (nI 0), .ref mst, .ref msm, .ref mtb, .ref mti, .ref mfr, .ref mbn, .ref mbs, .ref mde, .int (nI 0), .int (nI 0), .int (nI 0), .int (nI 0), .long 4, .long 1, .ref maa, .ref mab, .ref mba, .ref mbb]))] H := hP
  replace hD : va_D A [(maa, .inl (cs 1, 9, .inr (.inl (lt4 0 0 1 1)))), (mab, .inl (cs 1, 9, .inr (.inl (lt4 1 1 2 1)))), (mba, .inl (cs 1, 9, .inr (.inl (lt4 0 4 5 4)))), (mbb, .inl (cs 1, 9, .inr (.inl (vp_updL (lt4 1 1 1 1) 3 1)))), (hm, .inr (12, [.ref ms, .ref mkp, .int (nI 0), .ref mtr, .int (nI 4), .int (nI 2), .int (nI 2), .int (nI 3), .int (nI 2), .int (nI 1), .ref mas, .int (nI 0), .int (nI 0), .int (nI 0), .ref mso, .ref mon, .ref mot, .ref man, .int (nI 0), .int (nI 0), .ref mst, .ref msm, .ref mtb, .ref mti, .ref mfr, .ref mbn, .ref mbs, .ref mde, .int (nI 0), .int (nI 0), .int (nI 0), .int (nI 0), .long 4, .long 1, .ref maa, .ref mab, .ref mba, .ref mbb]))] := hD
  have hPD := xcongl (q0 := 3) (lt4 1 1 1 1) hP hD rfl (fun j hj => (show ∀ j, j < 9 → lt4 1 1 1 1 j = (vp_updL (lt4 1 1 1 1) 3 1) j from by decide) j hj)
  clear hP hD
  obtain ⟨hP, hD⟩ := hPD
  replace hP : va_P D vwCl [(maa, .inl (cs 1, 9, .inr (.inl (lt4 0 0 1 1)))), (mab, .inl (cs 1, 9, .inr (.inl (lt4 1 1 2 1)))), (mba, .inl (cs 1, 9, .inr (.inl (lt4 0 4 5 4)))), (mbb, .inl (cs 1, 9, .inr (.inl (lt4 1 1 1 1)))), (hm, .inr (12, [.ref ms, .ref mkp, .int (nI 0), .ref mtr, .int (nI 4), .int (nI 2), .int (nI 2), .int (nI 3), .int (nI 2), .int (nI 1), .ref mas, .int (nI 0), .int (nI 0), .int (nI 0), .ref mso, .ref mon, .ref mot, .ref man, .int (nI 0), .int (nI 0), .ref mst, .ref msm, .ref mtb, .ref mti, .ref mfr, .ref mbn, .ref mbs, .ref mde, .int (nI 0), .int (nI 0), .int (nI 0), .int (nI 0), .long 4, .long 1, .ref maa, .ref mab, .ref mba, .ref mbb]))] H := hP
  replace hD : va_D A [(maa, .inl (cs 1, 9, .inr (.inl (lt4 0 0 1 1)))), (mab, .inl (cs 1, 9, .inr (.inl (lt4 1 1 2 1)))), (mba, .inl (cs 1, 9, .inr (.inl (lt4 0 4 5 4)))), (mbb, .inl (cs 1, 9, .inr (.inl (lt4 1 1 1 1)))), (hm, .inr (12, [.ref ms, .ref mkp, .int (nI 0), .ref mtr, .int (nI 4), .int (nI 2), .int (nI 2), .int (nI 3), .int (nI 2), .int (nI 1), .ref mas, .int (nI 0), .int (nI 0), .int (nI 0), .ref mso, .ref mon, .ref mot, .ref man, .int (nI 0), .int (nI 0), .ref mst, .ref msm, .ref mtb, .ref mti, .ref mfr, .ref mbn, .ref mbs, .ref mde, .int (nI 0), .int (nI 0), .int (nI 0), .int (nI 0), .long 4, .long 1, .ref maa, .ref mab, .ref mba, .ref mbb]))] := hD
  exact xretv C () trivial (xP_map hP [4, 0, 1, 2, 3] rfl) (hD.sub [4, 0, 1, 2, 3] (by decide +kernel) rfl) hS (Nat.le_of_ble_eq_true rfl) (Nat.le_of_ble_eq_true rfl) dX12_laysStep_238

set_option maxHeartbeats 4000000 in
set_option maxRecDepth 100000 in
theorem c_X12_laysSteps_0 (l : Launch) (D : va_G) (cs : Nat → ClassId) (hm ms mkp mtr mas mso mon mot man mst msm mtb mti mfr mbn mbs mde maa mab mba mbb : Nat) (ab be : Int64) : xMet l D cs yX12_laysSteps cX12_laysSteps 3 none ({ frames := 4, cells := 0, slots := 0, locals := 99 } : Room) [.ref hm, .int (nI 0)] [(hm, .inr (12, [.ref ms, .ref mkp, .int (nI 0), .ref mtr, .int (nI 4), .int (nI 2), .int (nI 2), .int (nI 3), .int (nI 2), .int (nI 1), .ref mas, .int (nI 0), .int (nI 0), .int (nI 0), .ref mso, .ref mon, .ref mot, .ref man, .int (nI 0), .int (nI 0), .ref mst, .ref msm, .ref mtb, .ref mti, .ref mfr, .ref mbn, .ref mbs, .ref mde, .int (nI 0), .int (nI 0), .int (nI 0), .int (nI 0), .long ab, .long be, .ref maa, .ref mab, .ref mba, .ref mbb])), (maa, .inl (cs 1, 9, .inr (.inl (fun _ => 0)))), (mab, .inl (cs 1, 9, .inr (.inl (fun _ => 0)))), (mba, .inl (cs 1, 9, .inr (.inl (fun _ => 0)))), (mbb, .inl (cs 1, 9, .inr (.inl (fun _ => 0))))] (xQv D (fun (_u : Unit) => True) (fun (_u : Unit) => [(hm, .inr (12, [.ref ms, .ref mkp, .int (nI 0), .ref mtr, .int (nI 4), .int (nI 2), .int (nI 2), .int (nI 3), .int (nI 2), .int (nI 1), .ref mas, .int (nI 0), .int (nI 0), .int (nI 0), .ref mso, .ref mon, .ref mot, .ref man, .int (nI 0), .int (nI 0), .ref mst, .ref msm, .ref mtb, .ref mti, .ref mfr, .ref mbn, .ref mbs, .ref mde, .int (nI 0), .int (nI 0), .int (nI 0), .int (nI 0), .long 0, .long 1, .ref maa, .ref mab, .ref mba, .ref mbb])), (maa, .inl (cs 1, 9, .inr (.inl (lt4 0 0 1 1)))), (mab, .inl (cs 1, 9, .inr (.inl (lt4 1 1 2 1)))), (mba, .inl (cs 1, 9, .inr (.inl (lt4 0 0 0 0)))), (mbb, .inl (cs 1, 9, .inr (.inl (lt4 1 1 1 1))))])) := by
  refine xMet.intro (by decide) (Nat.le_of_ble_eq_true rfl) ?_
  intro p e s m args below meth c A ls C hP hD hS hl
  have hx := C.1
  have hb := C.2.1
  have hz := C.2.2.2.2.1
  have hown := C.2.2.2.1
  have hA := C.2.2.2.2.2.2.2.2.2
  have hAO := C.2.2.2.2.2.2.2.2.1.2.2
  replace hl : lv_has ls 3 [(0, .ref hm), (1, .int (nI 0))] := hl
  obtain ⟨H, hH⟩ : ∃ H, H = s.heap := ⟨_, rfl⟩
  replace hP : va_P D vwCl [(hm, .inr (12, [.ref ms, .ref mkp, .int (nI 0), .ref mtr, .int (nI 4), .int (nI 2), .int (nI 2), .int (nI 3), .int (nI 2), .int (nI 1), .ref mas, .int (nI 0), .int (nI 0), .int (nI 0), .ref mso, .ref mon, .ref mot, .ref man, .int (nI 0), .int (nI 0), .ref mst, .ref msm, .ref mtb, .ref mti, .ref mfr, .ref mbn, .ref mbs, .ref mde, .int (nI 0), .int (nI 0), .int (nI 0), .int (nI 0), .long ab, .long be, .ref maa, .ref mab, .ref mba, .ref mbb])), (maa, .inl (cs 1, 9, .inr (.inl (fun _ => 0)))), (mab, .inl (cs 1, 9, .inr (.inl (fun _ => 0)))), (mba, .inl (cs 1, 9, .inr (.inl (fun _ => 0)))), (mbb, .inl (cs 1, 9, .inr (.inl (fun _ => 0))))] H := by rw [hH]; exact hP
  replace hS : va_S A s.heap H [] := by rw [hH]; exact hS
  obtain ⟨locs, hlocs⟩ : ∃ z : List Loc, z = [] := ⟨_, rfl⟩
  rw [← hlocs] at hS
  suffices hW : W p l e ({ frames := 4, cells := 0, slots := 0, locals := 99 } : Room) s m args below meth c H locs 0 0 (MQ below ((xQv D (fun (_u : Unit) => True) (fun (_u : Unit) => [(hm, .inr (12, [.ref ms, .ref mkp, .int (nI 0), .ref mtr, .int (nI 4), .int (nI 2), .int (nI 2), .int (nI 3), .int (nI 2), .int (nI 1), .ref mas, .int (nI 0), .int (nI 0), .int (nI 0), .ref mso, .ref mon, .ref mot, .ref man, .int (nI 0), .int (nI 0), .ref mst, .ref msm, .ref mtb, .ref mti, .ref mfr, .ref mbn, .ref mbs, .ref mde, .int (nI 0), .int (nI 0), .int (nI 0), .int (nI 0), .long 0, .long 1, .ref maa, .ref mab, .ref mba, .ref mbb])), (maa, .inl (cs 1, 9, .inr (.inl (lt4 0 0 1 1)))), (mab, .inl (cs 1, 9, .inr (.inl (lt4 1 1 2 1)))), (mba, .inl (cs 1, 9, .inr (.inl (lt4 0 0 0 0)))), (mbb, .inl (cs 1, 9, .inr (.inl (lt4 1 1 1 1))))])) A) args s 0 0 A) (F0 m 0 ls []) by rw [hlocs, hH] at hW; exact hW
  clear hH hlocs
  refine lv_aload_n hx hb dX12_laysSteps_0 rfl (lv_at hl 0 rfl) ?_
  refine xget C hP 0 rfl rfl zuX12 34 (by decide) zw6_7 rfl dX12_laysSteps_1 ?_
  refine lv_iconst (v := nI 0) hx hb dX12_laysSteps_4 (by decide) ?_
  refine lv_lconst (v := 0) hx hb dX12_laysSteps_5 (by decide) ?_
  refine xlast C hP hD hS 1 rfl 0 rfl (by decide) (by decide) dX12_laysSteps_6 ?_
  clear hP hD hS
  try clear locs
  try clear H
  intro H locs hP hD hS
  replace hP : va_P D vwCl [(hm, .inr (12, [.ref ms, .ref mkp, .int (nI 0), .ref mtr, .int (nI 4), .int (nI 2), .int (nI 2), .int (nI 3), .int (nI 2), .int (nI 1), .ref mas, .int (nI 0), .int (nI 0), .int (nI 0), .ref mso, .ref mon, .ref mot, .ref man, .int (nI 0), .int (nI 0), .ref mst, .ref msm, .ref mtb, .ref mti, .ref mfr, .ref mbn, .ref mbs, .ref mde, .int (nI 0), .int (nI 0), .int (nI 0), .int (nI 0), .long ab, .long be, .ref maa, .ref mab, .ref mba, .ref mbb])), (maa, .inl (cs 1, 9, .inr (.inl (vp_updL (fun _ => 0) 0 0)))), (mab, .inl (cs 1, 9, .inr (.inl (fun _ => 0)))), (mba, .inl (cs 1, 9, .inr (.inl (fun _ => 0)))), (mbb, .inl (cs 1, 9, .inr (.inl (fun _ => 0))))] H := hP
  replace hD : va_D A [(hm, .inr (12, [.ref ms, .ref mkp, .int (nI 0), .ref mtr, .int (nI 4), .int (nI 2), .int (nI 2), .int (nI 3), .int (nI 2), .int (nI 1), .ref mas, .int (nI 0), .int (nI 0), .int (nI 0), .ref mso, .ref mon, .ref mot, .ref man, .int (nI 0), .int (nI 0), .ref mst, .ref msm, .ref mtb, .ref mti, .ref mfr, .ref mbn, .ref mbs, .ref mde, .int (nI 0), .int (nI 0), .int (nI 0), .int (nI 0), .long ab, .long be, .ref maa, .ref mab, .ref mba, .ref mbb])), (maa, .inl (cs 1, 9, .inr (.inl (vp_updL (fun _ => 0) 0 0)))), (mab, .inl (cs 1, 9, .inr (.inl (fun _ => 0)))), (mba, .inl (cs 1, 9, .inr (.inl (fun _ => 0)))), (mbb, .inl (cs 1, 9, .inr (.inl (fun _ => 0))))] := hD
  refine lv_aload_n hx hb dX12_laysSteps_7 rfl (lv_at hl 0 rfl) ?_
  refine xget C hP 0 rfl rfl zuX12 35 (by decide) zw6_8 rfl dX12_laysSteps_8 ?_
  refine lv_iconst (v := nI 0) hx hb dX12_laysSteps_11 (by decide) ?_
  refine lv_lconst (v := 1) hx hb dX12_laysSteps_12 (by decide) ?_
  refine xlast C hP hD hS 2 rfl 0 rfl (by decide) (by decide) dX12_laysSteps_13 ?_
  clear hP hD hS
  try clear locs
  try clear H
  intro H locs hP hD hS
  replace hP : va_P D vwCl [(hm, .inr (12, [.ref ms, .ref mkp, .int (nI 0), .ref mtr, .int (nI 4), .int (nI 2), .int (nI 2), .int (nI 3), .int (nI 2), .int (nI 1), .ref mas, .int (nI 0), .int (nI 0), .int (nI 0), .ref mso, .ref mon, .ref mot, .ref man, .int (nI 0), .int (nI 0), .ref mst, .ref msm, .ref mtb, .ref mti, .ref mfr, .ref mbn, .ref mbs, .ref mde, .int (nI 0), .int (nI 0), .int (nI 0), .int (nI 0), .long ab, .long be, .ref maa, .ref mab, .ref mba, .ref mbb])), (maa, .inl (cs 1, 9, .inr (.inl (vp_updL (fun _ => 0) 0 0)))), (mab, .inl (cs 1, 9, .inr (.inl (vp_updL (fun _ => 0) 0 1)))), (mba, .inl (cs 1, 9, .inr (.inl (fun _ => 0)))), (mbb, .inl (cs 1, 9, .inr (.inl (fun _ => 0))))] H := hP
  replace hD : va_D A [(hm, .inr (12, [.ref ms, .ref mkp, .int (nI 0), .ref mtr, .int (nI 4), .int (nI 2), .int (nI 2), .int (nI 3), .int (nI 2), .int (nI 1), .ref mas, .int (nI 0), .int (nI 0), .int (nI 0), .ref mso, .ref mon, .ref mot, .ref man, .int (nI 0), .int (nI 0), .ref mst, .ref msm, .ref mtb, .ref mti, .ref mfr, .ref mbn, .ref mbs, .ref mde, .int (nI 0), .int (nI 0), .int (nI 0), .int (nI 0), .long ab, .long be, .ref maa, .ref mab, .ref mba, .ref mbb])), (maa, .inl (cs 1, 9, .inr (.inl (vp_updL (fun _ => 0) 0 0)))), (mab, .inl (cs 1, 9, .inr (.inl (vp_updL (fun _ => 0) 0 1)))), (mba, .inl (cs 1, 9, .inr (.inl (fun _ => 0)))), (mbb, .inl (cs 1, 9, .inr (.inl (fun _ => 0))))] := hD
  refine lv_aload_n hx hb dX12_laysSteps_14 rfl (lv_at hl 0 rfl) ?_
  refine xget C hP 0 rfl rfl zuX12 36 (by decide) zw6_9 rfl dX12_laysSteps_15 ?_
  refine lv_iconst (v := nI 0) hx hb dX12_laysSteps_18 (by decide) ?_
  refine lv_lconst (v := 0) hx hb dX12_laysSteps_19 (by decide) ?_
  refine xlast C hP hD hS 3 rfl 0 rfl (by decide) (by decide) dX12_laysSteps_20 ?_
  clear hP hD hS
  try clear locs
  try clear H
  intro H locs hP hD hS
  replace hP : va_P D vwCl [(hm, .inr (12, [.ref ms, .ref mkp, .int (nI 0), .ref mtr, .int (nI 4), .int (nI 2), .int (nI 2), .int (nI 3), .int (nI 2), .int (nI 1), .ref mas, .int (nI 0), .int (nI 0), .int (nI 0), .ref mso, .ref mon, .ref mot, .ref man, .int (nI 0), .int (nI 0), .ref mst, .ref msm, .ref mtb, .ref mti, .ref mfr, .ref mbn, .ref mbs, .ref mde, .int (nI 0), .int (nI 0), .int (nI 0), .int (nI 0), .long ab, .long be, .ref maa, .ref mab, .ref mba, .ref mbb])), (maa, .inl (cs 1, 9, .inr (.inl (vp_updL (fun _ => 0) 0 0)))), (mab, .inl (cs 1, 9, .inr (.inl (vp_updL (fun _ => 0) 0 1)))), (mba, .inl (cs 1, 9, .inr (.inl (vp_updL (fun _ => 0) 0 0)))), (mbb, .inl (cs 1, 9, .inr (.inl (fun _ => 0))))] H := hP
  replace hD : va_D A [(hm, .inr (12, [.ref ms, .ref mkp, .int (nI 0), .ref mtr, .int (nI 4), .int (nI 2), .int (nI 2), .int (nI 3), .int (nI 2), .int (nI 1), .ref mas, .int (nI 0), .int (nI 0), .int (nI 0), .ref mso, .ref mon, .ref mot, .ref man, .int (nI 0), .int (nI 0), .ref mst, .ref msm, .ref mtb, .ref mti, .ref mfr, .ref mbn, .ref mbs, .ref mde, .int (nI 0), .int (nI 0), .int (nI 0), .int (nI 0), .long ab, .long be, .ref maa, .ref mab, .ref mba, .ref mbb])), (maa, .inl (cs 1, 9, .inr (.inl (vp_updL (fun _ => 0) 0 0)))), (mab, .inl (cs 1, 9, .inr (.inl (vp_updL (fun _ => 0) 0 1)))), (mba, .inl (cs 1, 9, .inr (.inl (vp_updL (fun _ => 0) 0 0)))), (mbb, .inl (cs 1, 9, .inr (.inl (fun _ => 0))))] := hD
  refine lv_aload_n hx hb dX12_laysSteps_21 rfl (lv_at hl 0 rfl) ?_
  refine xget C hP 0 rfl rfl zuX12 37 (by decide) zw6_10 rfl dX12_laysSteps_22 ?_
  refine lv_iconst (v := nI 0) hx hb dX12_laysSteps_25 (by decide) ?_
  refine lv_lconst (v := 1) hx hb dX12_laysSteps_26 (by decide) ?_
  refine xlast C hP hD hS 4 rfl 0 rfl (by decide) (by decide) dX12_laysSteps_27 ?_
  clear hP hD hS
  try clear locs
  try clear H
  intro H locs hP hD hS
  replace hP : va_P D vwCl [(hm, .inr (12, [.ref ms, .ref mkp, .int (nI 0), .ref mtr, .int (nI 4), .int (nI 2), .int (nI 2), .int (nI 3), .int (nI 2), .int (nI 1), .ref mas, .int (nI 0), .int (nI 0), .int (nI 0), .ref mso, .ref mon, .ref mot, .ref man, .int (nI 0), .int (nI 0), .ref mst, .ref msm, .ref mtb, .ref mti, .ref mfr, .ref mbn, .ref mbs, .ref mde, .int (nI 0), .int (nI 0), .int (nI 0), .int (nI 0), .long ab, .long be, .ref maa, .ref mab, .ref mba, .ref mbb])), (maa, .inl (cs 1, 9, .inr (.inl (vp_updL (fun _ => 0) 0 0)))), (mab, .inl (cs 1, 9, .inr (.inl (vp_updL (fun _ => 0) 0 1)))), (mba, .inl (cs 1, 9, .inr (.inl (vp_updL (fun _ => 0) 0 0)))), (mbb, .inl (cs 1, 9, .inr (.inl (vp_updL (fun _ => 0) 0 1))))] H := hP
  replace hD : va_D A [(hm, .inr (12, [.ref ms, .ref mkp, .int (nI 0), .ref mtr, .int (nI 4), .int (nI 2), .int (nI 2), .int (nI 3), .int (nI 2), .int (nI 1), .ref mas, .int (nI 0), .int (nI 0), .int (nI 0), .ref mso, .ref mon, .ref mot, .ref man, .int (nI 0), .int (nI 0), .ref mst, .ref msm, .ref mtb, .ref mti, .ref mfr, .ref mbn, .ref mbs, .ref mde, .int (nI 0), .int (nI 0), .int (nI 0), .int (nI 0), .long ab, .long be, .ref maa, .ref mab, .ref mba, .ref mbb])), (maa, .inl (cs 1, 9, .inr (.inl (vp_updL (fun _ => 0) 0 0)))), (mab, .inl (cs 1, 9, .inr (.inl (vp_updL (fun _ => 0) 0 1)))), (mba, .inl (cs 1, 9, .inr (.inl (vp_updL (fun _ => 0) 0 0)))), (mbb, .inl (cs 1, 9, .inr (.inl (vp_updL (fun _ => 0) 0 1))))] := hD
  have hPD := xcongl (q0 := 1) (lt4 0 0 0 0) hP hD rfl (fun j hj => (show ∀ j, j < 9 → lt4 0 0 0 0 j = (vp_updL (fun _ => 0) 0 0) j from by decide) j hj)
  clear hP hD
  obtain ⟨hP, hD⟩ := hPD
  replace hP : va_P D vwCl [(hm, .inr (12, [.ref ms, .ref mkp, .int (nI 0), .ref mtr, .int (nI 4), .int (nI 2), .int (nI 2), .int (nI 3), .int (nI 2), .int (nI 1), .ref mas, .int (nI 0), .int (nI 0), .int (nI 0), .ref mso, .ref mon, .ref mot, .ref man, .int (nI 0), .int (nI 0), .ref mst, .ref msm, .ref mtb, .ref mti, .ref mfr, .ref mbn, .ref mbs, .ref mde, .int (nI 0), .int (nI 0), .int (nI 0), .int (nI 0), .long ab, .long be, .ref maa, .ref mab, .ref mba, .ref mbb])), (maa, .inl (cs 1, 9, .inr (.inl (lt4 0 0 0 0)))), (mab, .inl (cs 1, 9, .inr (.inl (vp_updL (fun _ => 0) 0 1)))), (mba, .inl (cs 1, 9, .inr (.inl (vp_updL (fun _ => 0) 0 0)))), (mbb, .inl (cs 1, 9, .inr (.inl (vp_updL (fun _ => 0) 0 1))))] H := hP
  replace hD : va_D A [(hm, .inr (12, [.ref ms, .ref mkp, .int (nI 0), .ref mtr, .int (nI 4), .int (nI 2), .int (nI 2), .int (nI 3), .int (nI 2), .int (nI 1), .ref mas, .int (nI 0), .int (nI 0), .int (nI 0), .ref mso, .ref mon, .ref mot, .ref man, .int (nI 0), .int (nI 0), .ref mst, .ref msm, .ref mtb, .ref mti, .ref mfr, .ref mbn, .ref mbs, .ref mde, .int (nI 0), .int (nI 0), .int (nI 0), .int (nI 0), .long ab, .long be, .ref maa, .ref mab, .ref mba, .ref mbb])), (maa, .inl (cs 1, 9, .inr (.inl (lt4 0 0 0 0)))), (mab, .inl (cs 1, 9, .inr (.inl (vp_updL (fun _ => 0) 0 1)))), (mba, .inl (cs 1, 9, .inr (.inl (vp_updL (fun _ => 0) 0 0)))), (mbb, .inl (cs 1, 9, .inr (.inl (vp_updL (fun _ => 0) 0 1))))] := hD
  have hPD := xcongl (q0 := 2) (lt4 1 0 0 0) hP hD rfl (fun j hj => (show ∀ j, j < 9 → lt4 1 0 0 0 j = (vp_updL (fun _ => 0) 0 1) j from by decide) j hj)
  clear hP hD
  obtain ⟨hP, hD⟩ := hPD
  replace hP : va_P D vwCl [(hm, .inr (12, [.ref ms, .ref mkp, .int (nI 0), .ref mtr, .int (nI 4), .int (nI 2), .int (nI 2), .int (nI 3), .int (nI 2), .int (nI 1), .ref mas, .int (nI 0), .int (nI 0), .int (nI 0), .ref mso, .ref mon, .ref mot, .ref man, .int (nI 0), .int (nI 0), .ref mst, .ref msm, .ref mtb, .ref mti, .ref mfr, .ref mbn, .ref mbs, .ref mde, .int (nI 0), .int (nI 0), .int (nI 0), .int (nI 0), .long ab, .long be, .ref maa, .ref mab, .ref mba, .ref mbb])), (maa, .inl (cs 1, 9, .inr (.inl (lt4 0 0 0 0)))), (mab, .inl (cs 1, 9, .inr (.inl (lt4 1 0 0 0)))), (mba, .inl (cs 1, 9, .inr (.inl (vp_updL (fun _ => 0) 0 0)))), (mbb, .inl (cs 1, 9, .inr (.inl (vp_updL (fun _ => 0) 0 1))))] H := hP
  replace hD : va_D A [(hm, .inr (12, [.ref ms, .ref mkp, .int (nI 0), .ref mtr, .int (nI 4), .int (nI 2), .int (nI 2), .int (nI 3), .int (nI 2), .int (nI 1), .ref mas, .int (nI 0), .int (nI 0), .int (nI 0), .ref mso, .ref mon, .ref mot, .ref man, .int (nI 0), .int (nI 0), .ref mst, .ref msm, .ref mtb, .ref mti, .ref mfr, .ref mbn, .ref mbs, .ref mde, .int (nI 0), .int (nI 0), .int (nI 0), .int (nI 0), .long ab, .long be, .ref maa, .ref mab, .ref mba, .ref mbb])), (maa, .inl (cs 1, 9, .inr (.inl (lt4 0 0 0 0)))), (mab, .inl (cs 1, 9, .inr (.inl (lt4 1 0 0 0)))), (mba, .inl (cs 1, 9, .inr (.inl (vp_updL (fun _ => 0) 0 0)))), (mbb, .inl (cs 1, 9, .inr (.inl (vp_updL (fun _ => 0) 0 1))))] := hD
  have hPD := xcongl (q0 := 3) (lt4 0 0 0 0) hP hD rfl (fun j hj => (show ∀ j, j < 9 → lt4 0 0 0 0 j = (vp_updL (fun _ => 0) 0 0) j from by decide) j hj)
  clear hP hD
  obtain ⟨hP, hD⟩ := hPD
  replace hP : va_P D vwCl [(hm, .inr (12, [.ref ms, .ref mkp, .int (nI 0), .ref mtr, .int (nI 4), .int (nI 2), .int (nI 2), .int (nI 3), .int (nI 2), .int (nI 1), .ref mas, .int (nI 0), .int (nI 0), .int (nI 0), .ref mso, .ref mon, .ref mot, .ref man, .int (nI 0), .int (nI 0), .ref mst, .ref msm, .ref mtb, .ref mti, .ref mfr, .ref mbn, .ref mbs, .ref mde, .int (nI 0), .int (nI 0), .int (nI 0), .int (nI 0), .long ab, .long be, .ref maa, .ref mab, .ref mba, .ref mbb])), (maa, .inl (cs 1, 9, .inr (.inl (lt4 0 0 0 0)))), (mab, .inl (cs 1, 9, .inr (.inl (lt4 1 0 0 0)))), (mba, .inl (cs 1, 9, .inr (.inl (lt4 0 0 0 0)))), (mbb, .inl (cs 1, 9, .inr (.inl (vp_updL (fun _ => 0) 0 1))))] H := hP
  replace hD : va_D A [(hm, .inr (12, [.ref ms, .ref mkp, .int (nI 0), .ref mtr, .int (nI 4), .int (nI 2), .int (nI 2), .int (nI 3), .int (nI 2), .int (nI 1), .ref mas, .int (nI 0), .int (nI 0), .int (nI 0), .ref mso, .ref mon, .ref mot, .ref man, .int (nI 0), .int (nI 0), .ref mst, .ref msm, .ref mtb, .ref mti, .ref mfr, .ref mbn, .ref mbs, .ref mde, .int (nI 0), .int (nI 0), .int (nI 0), .int (nI 0), .long ab, .long be, .ref maa, .ref mab, .ref mba, .ref mbb])), (maa, .inl (cs 1, 9, .inr (.inl (lt4 0 0 0 0)))), (mab, .inl (cs 1, 9, .inr (.inl (lt4 1 0 0 0)))), (mba, .inl (cs 1, 9, .inr (.inl (lt4 0 0 0 0)))), (mbb, .inl (cs 1, 9, .inr (.inl (vp_updL (fun _ => 0) 0 1))))] := hD
  have hPD := xcongl (q0 := 4) (lt4 1 0 0 0) hP hD rfl (fun j hj => (show ∀ j, j < 9 → lt4 1 0 0 0 j = (vp_updL (fun _ => 0) 0 1) j from by decide) j hj)
  clear hP hD
  obtain ⟨hP, hD⟩ := hPD
  replace hP : va_P D vwCl [(hm, .inr (12, [.ref ms, .ref mkp, .int (nI 0), .ref mtr, .int (nI 4), .int (nI 2), .int (nI 2), .int (nI 3), .int (nI 2), .int (nI 1), .ref mas, .int (nI 0), .int (nI 0), .int (nI 0), .ref mso, .ref mon, .ref mot, .ref man, .int (nI 0), .int (nI 0), .ref mst, .ref msm, .ref mtb, .ref mti, .ref mfr, .ref mbn, .ref mbs, .ref mde, .int (nI 0), .int (nI 0), .int (nI 0), .int (nI 0), .long ab, .long be, .ref maa, .ref mab, .ref mba, .ref mbb])), (maa, .inl (cs 1, 9, .inr (.inl (lt4 0 0 0 0)))), (mab, .inl (cs 1, 9, .inr (.inl (lt4 1 0 0 0)))), (mba, .inl (cs 1, 9, .inr (.inl (lt4 0 0 0 0)))), (mbb, .inl (cs 1, 9, .inr (.inl (lt4 1 0 0 0))))] H := hP
  replace hD : va_D A [(hm, .inr (12, [.ref ms, .ref mkp, .int (nI 0), .ref mtr, .int (nI 4), .int (nI 2), .int (nI 2), .int (nI 3), .int (nI 2), .int (nI 1), .ref mas, .int (nI 0), .int (nI 0), .int (nI 0), .ref mso, .ref mon, .ref mot, .ref man, .int (nI 0), .int (nI 0), .ref mst, .ref msm, .ref mtb, .ref mti, .ref mfr, .ref mbn, .ref mbs, .ref mde, .int (nI 0), .int (nI 0), .int (nI 0), .int (nI 0), .long ab, .long be, .ref maa, .ref mab, .ref mba, .ref mbb])), (maa, .inl (cs 1, 9, .inr (.inl (lt4 0 0 0 0)))), (mab, .inl (cs 1, 9, .inr (.inl (lt4 1 0 0 0)))), (mba, .inl (cs 1, 9, .inr (.inl (lt4 0 0 0 0)))), (mbb, .inl (cs 1, 9, .inr (.inl (lt4 1 0 0 0))))] := hD
  refine lv_iconst (v := nI 1) hx hb dX12_laysSteps_28 (by decide) ?_
  refine lv_istore_n (lv' := [(2, .int (nI 1)), (0, .ref hm), (1, .int (nI 0))]) hx hb dX12_laysSteps_29 rfl hl (by decide) rfl ?_
  clear hl
  try clear ls
  intro ls hl
  refine lv_iload_n hx hb dX12_laysSteps_30 rfl (lv_at hl 0 rfl) ?_
  refine lv_aload_n hx hb dX12_laysSteps_31 rfl (lv_at hl 1 rfl) ?_
  refine xget C hP 0 rfl rfl zuX12 4 (by decide) zw5_217 rfl dX12_laysSteps_32 ?_
  refine lv_icmp_ge (tgt := 57) hx hb dX12_laysSteps_35 (by decide) (fun c => absurd c (by decide)) (fun _ => ?_)
  refine lv_aload_n hx hb dX12_laysSteps_38 rfl (lv_at hl 1 rfl) ?_
  refine xget C hP 0 rfl rfl zuX12 31 (by decide) zw6_4 rfl dX12_laysSteps_39 ?_
  refine lv_if_ne (tgt := 57) hx hb dX12_laysSteps_42 (by decide) (fun c => absurd (by decide) c) (fun _ => ?_)
  refine lv_aload_n hx hb dX12_laysSteps_45 rfl (lv_at hl 1 rfl) ?_
  refine lv_iload_n hx hb dX12_laysSteps_46 rfl (lv_at hl 0 rfl) ?_
  refine lv_iload_n hx hb dX12_laysSteps_47 rfl (lv_at hl 2 rfl) ?_
  refine xv (wr := []) (xV (As := [.int (nI 1), .int (nI 0)]) (rest := []) C (c_X12_laysStep_1_0 l D cs hm ms mkp mtr mas mso mon mot man mst msm mtb mti mfr mbn mbs mde maa mab mba mbb ab be) kX12_276 hP hD [0, 1, 2, 3, 4] rfl (by decide +kernel) 0 rfl rfl rfl ⟨Nat.le_of_ble_eq_true rfl, Nat.le_of_ble_eq_true rfl⟩ rfl hl.1 rfl (Nat.le_of_ble_eq_true rfl) dX12_laysSteps_48 ⟨Nat.le_of_ble_eq_true rfl, Nat.le_of_ble_eq_true rfl⟩) hP hD hS hA [0, 1, 2, 3, 4] [] rfl rfl (by decide +kernel) (by decide +kernel) ?_
  clear hP hD hS
  try clear locs
  try clear H
  intro u_2 H locs hw_r_1 hP hD hS
  refine W.widen (k := 0) (n := 0) (Nat.le_of_ble_eq_true rfl) (Nat.le_of_ble_eq_true rfl) ?_
  replace hP : va_P D vwCl [(hm, .inr (12, [.ref ms, .ref mkp, .int (nI 0), .ref mtr, .int (nI 4), .int (nI 2), .int (nI 2), .int (nI 3), .int (nI 2), .int (nI 1), .ref mas, .int (nI 0), .int (nI 0), .int (nI 0), .ref mso, .ref mon, .ref mot, .ref man, .int (nI 0), .int (nI 0), .ref mst, .ref msm, .ref mtb, .ref mti, .ref mfr, .ref mbn, .ref mbs, .ref mde, .int (nI 0), .int (nI 0), .int (nI 0), .int (nI 0), .long 0, .long 1, .ref maa, .ref mab, .ref mba, .ref mbb])), (maa, .inl (cs 1, 9, .inr (.inl (lt4 0 0 0 0)))), (mab, .inl (cs 1, 9, .inr (.inl (lt4 1 1 0 0)))), (mba, .inl (cs 1, 9, .inr (.inl (lt4 0 0 0 0)))), (mbb, .inl (cs 1, 9, .inr (.inl (lt4 1 1 0 0))))] H := hP
  replace hD : va_D A [(hm, .inr (12, [.ref ms, .ref mkp, .int (nI 0), .ref mtr, .int (nI 4), .int (nI 2), .int (nI 2), .int (nI 3), .int (nI 2), .int (nI 1), .ref mas, .int (nI 0), .int (nI 0), .int (nI 0), .ref mso, .ref mon, .ref mot, .ref man, .int (nI 0), .int (nI 0), .ref mst, .ref msm, .ref mtb, .ref mti, .ref mfr, .ref mbn, .ref mbs, .ref mde, .int (nI 0), .int (nI 0), .int (nI 0), .int (nI 0), .long 0, .long 1, .ref maa, .ref mab, .ref mba, .ref mbb])), (maa, .inl (cs 1, 9, .inr (.inl (lt4 0 0 0 0)))), (mab, .inl (cs 1, 9, .inr (.inl (lt4 1 1 0 0)))), (mba, .inl (cs 1, 9, .inr (.inl (lt4 0 0 0 0)))), (mbb, .inl (cs 1, 9, .inr (.inl (lt4 1 1 0 0))))] := hD
  refine lv_iinc (v := nI 2) (lv' := [(2, .int (nI 2)), (0, .ref hm), (1, .int (nI 0))]) hx hb dX12_laysSteps_51 hl (k := 0) rfl (by decide) (by decide) rfl ?_
  clear hl
  try clear ls
  intro ls hl
  refine lv_goto (tgt := 30) hx hb dX12_laysSteps_54 (by decide) ?_
  refine lv_iload_n hx hb dX12_laysSteps_30 rfl (lv_at hl 0 rfl) ?_
  refine lv_aload_n hx hb dX12_laysSteps_31 rfl (lv_at hl 1 rfl) ?_
  refine xget C hP 0 rfl rfl zuX12 4 (by decide) zw5_217 rfl dX12_laysSteps_32 ?_
  refine lv_icmp_ge (tgt := 57) hx hb dX12_laysSteps_35 (by decide) (fun c => absurd c (by decide)) (fun _ => ?_)
  refine lv_aload_n hx hb dX12_laysSteps_38 rfl (lv_at hl 1 rfl) ?_
  refine xget C hP 0 rfl rfl zuX12 31 (by decide) zw6_4 rfl dX12_laysSteps_39 ?_
  refine lv_if_ne (tgt := 57) hx hb dX12_laysSteps_42 (by decide) (fun c => absurd (by decide) c) (fun _ => ?_)
  refine lv_aload_n hx hb dX12_laysSteps_45 rfl (lv_at hl 1 rfl) ?_
  refine lv_iload_n hx hb dX12_laysSteps_46 rfl (lv_at hl 0 rfl) ?_
  refine lv_iload_n hx hb dX12_laysSteps_47 rfl (lv_at hl 2 rfl) ?_
  refine xv (wr := []) (xV (As := [.int (nI 2), .int (nI 0)]) (rest := []) C (c_X12_laysStep_2_0 l D cs hm ms mkp mtr mas mso mon mot man mst msm mtb mti mfr mbn mbs mde maa mab mba mbb 0 1) kX12_276 hP hD [0, 1, 2, 3, 4] rfl (by decide +kernel) 0 rfl rfl rfl ⟨Nat.le_of_ble_eq_true rfl, Nat.le_of_ble_eq_true rfl⟩ rfl hl.1 rfl (Nat.le_of_ble_eq_true rfl) dX12_laysSteps_48 ⟨Nat.le_of_ble_eq_true rfl, Nat.le_of_ble_eq_true rfl⟩) hP hD hS hA [0, 1, 2, 3, 4] [] rfl rfl (by decide +kernel) (by decide +kernel) ?_
  clear hP hD hS
  try clear locs
  try clear H
  intro u_4 H locs hw_r_3 hP hD hS
  refine W.widen (k := 0) (n := 0) (Nat.le_of_ble_eq_true rfl) (Nat.le_of_ble_eq_true rfl) ?_
  replace hP : va_P D vwCl [(hm, .inr (12, [.ref ms, .ref mkp, .int (nI 0), .ref mtr, .int (nI 4), .int (nI 2), .int (nI 2), .int (nI 3), .int (nI 2), .int (nI 1), .ref mas, .int (nI 0), .int (nI 0), .int (nI 0), .ref mso, .ref mon, .ref mot, .ref man, .int (nI 0), .int (nI 0), .ref mst, .ref msm, .ref mtb, .ref mti, .ref mfr, .ref mbn, .ref mbs, .ref mde, .int (nI 0), .int (nI 0), .int (nI 0), .int (nI 0), .long 0, .long 1, .ref maa, .ref mab, .ref mba, .ref mbb])), (maa, .inl (cs 1, 9, .inr (.inl (lt4 0 0 1 0)))), (mab, .inl (cs 1, 9, .inr (.inl (lt4 1 1 2 0)))), (mba, .inl (cs 1, 9, .inr (.inl (lt4 0 0 0 0)))), (mbb, .inl (cs 1, 9, .inr (.inl (lt4 1 1 1 0))))] H := hP
  replace hD : va_D A [(hm, .inr (12, [.ref ms, .ref mkp, .int (nI 0), .ref mtr, .int (nI 4), .int (nI 2), .int (nI 2), .int (nI 3), .int (nI 2), .int (nI 1), .ref mas, .int (nI 0), .int (nI 0), .int (nI 0), .ref mso, .ref mon, .ref mot, .ref man, .int (nI 0), .int (nI 0), .ref mst, .ref msm, .ref mtb, .ref mti, .ref mfr, .ref mbn, .ref mbs, .ref mde, .int (nI 0), .int (nI 0), .int (nI 0), .int (nI 0), .long 0, .long 1, .ref maa, .ref mab, .ref mba, .ref mbb])), (maa, .inl (cs 1, 9, .inr (.inl (lt4 0 0 1 0)))), (mab, .inl (cs 1, 9, .inr (.inl (lt4 1 1 2 0)))), (mba, .inl (cs 1, 9, .inr (.inl (lt4 0 0 0 0)))), (mbb, .inl (cs 1, 9, .inr (.inl (lt4 1 1 1 0))))] := hD
  refine lv_iinc (v := nI 3) (lv' := [(2, .int (nI 3)), (0, .ref hm), (1, .int (nI 0))]) hx hb dX12_laysSteps_51 hl (k := 0) rfl (by decide) (by decide) rfl ?_
  clear hl
  try clear ls
  intro ls hl
  refine lv_goto (tgt := 30) hx hb dX12_laysSteps_54 (by decide) ?_
  refine lv_iload_n hx hb dX12_laysSteps_30 rfl (lv_at hl 0 rfl) ?_
  refine lv_aload_n hx hb dX12_laysSteps_31 rfl (lv_at hl 1 rfl) ?_
  refine xget C hP 0 rfl rfl zuX12 4 (by decide) zw5_217 rfl dX12_laysSteps_32 ?_
  refine lv_icmp_ge (tgt := 57) hx hb dX12_laysSteps_35 (by decide) (fun c => absurd c (by decide)) (fun _ => ?_)
  refine lv_aload_n hx hb dX12_laysSteps_38 rfl (lv_at hl 1 rfl) ?_
  refine xget C hP 0 rfl rfl zuX12 31 (by decide) zw6_4 rfl dX12_laysSteps_39 ?_
  refine lv_if_ne (tgt := 57) hx hb dX12_laysSteps_42 (by decide) (fun c => absurd (by decide) c) (fun _ => ?_)
  refine lv_aload_n hx hb dX12_laysSteps_45 rfl (lv_at hl 1 rfl) ?_
  refine lv_iload_n hx hb dX12_laysSteps_46 rfl (lv_at hl 0 rfl) ?_
  refine lv_iload_n hx hb dX12_laysSteps_47 rfl (lv_at hl 2 rfl) ?_
  refine xv (wr := []) (xV (As := [.int (nI 3), .int (nI 0)]) (rest := []) C (c_X12_laysStep_3_0 l D cs hm ms mkp mtr mas mso mon mot man mst msm mtb mti mfr mbn mbs mde maa mab mba mbb 0 1) kX12_276 hP hD [0, 1, 2, 3, 4] rfl (by decide +kernel) 0 rfl rfl rfl ⟨Nat.le_of_ble_eq_true rfl, Nat.le_of_ble_eq_true rfl⟩ rfl hl.1 rfl (Nat.le_of_ble_eq_true rfl) dX12_laysSteps_48 ⟨Nat.le_of_ble_eq_true rfl, Nat.le_of_ble_eq_true rfl⟩) hP hD hS hA [0, 1, 2, 3, 4] [] rfl rfl (by decide +kernel) (by decide +kernel) ?_
  clear hP hD hS
  try clear locs
  try clear H
  intro u_6 H locs hw_r_5 hP hD hS
  refine W.widen (k := 0) (n := 0) (Nat.le_of_ble_eq_true rfl) (Nat.le_of_ble_eq_true rfl) ?_
  replace hP : va_P D vwCl [(hm, .inr (12, [.ref ms, .ref mkp, .int (nI 0), .ref mtr, .int (nI 4), .int (nI 2), .int (nI 2), .int (nI 3), .int (nI 2), .int (nI 1), .ref mas, .int (nI 0), .int (nI 0), .int (nI 0), .ref mso, .ref mon, .ref mot, .ref man, .int (nI 0), .int (nI 0), .ref mst, .ref msm, .ref mtb, .ref mti, .ref mfr, .ref mbn, .ref mbs, .ref mde, .int (nI 0), .int (nI 0), .int (nI 0), .int (nI 0), .long 0, .long 1, .ref maa, .ref mab, .ref mba, .ref mbb])), (maa, .inl (cs 1, 9, .inr (.inl (lt4 0 0 1 1)))), (mab, .inl (cs 1, 9, .inr (.inl (lt4 1 1 2 1)))), (mba, .inl (cs 1, 9, .inr (.inl (lt4 0 0 0 0)))), (mbb, .inl (cs 1, 9, .inr (.inl (lt4 1 1 1 1))))] H := hP
  replace hD : va_D A [(hm, .inr (12, [.ref ms, .ref mkp, .int (nI 0), .ref mtr, .int (nI 4), .int (nI 2), .int (nI 2), .int (nI 3), .int (nI 2), .int (nI 1), .ref mas, .int (nI 0), .int (nI 0), .int (nI 0), .ref mso, .ref mon, .ref mot, .ref man, .int (nI 0), .int (nI 0), .ref mst, .ref msm, .ref mtb, .ref mti, .ref mfr, .ref mbn, .ref mbs, .ref mde, .int (nI 0), .int (nI 0), .int (nI 0), .int (nI 0), .long 0, .long 1, .ref maa, .ref mab, .ref mba, .ref mbb])), (maa, .inl (cs 1, 9, .inr (.inl (lt4 0 0 1 1)))), (mab, .inl (cs 1, 9, .inr (.inl (lt4 1 1 2 1)))), (mba, .inl (cs 1, 9, .inr (.inl (lt4 0 0 0 0)))), (mbb, .inl (cs 1, 9, .inr (.inl (lt4 1 1 1 1))))] := hD
  refine lv_iinc (v := nI 4) (lv' := [(2, .int (nI 4)), (0, .ref hm), (1, .int (nI 0))]) hx hb dX12_laysSteps_51 hl (k := 0) rfl (by decide) (by decide) rfl ?_
  clear hl
  try clear ls
  intro ls hl
  refine lv_goto (tgt := 30) hx hb dX12_laysSteps_54 (by decide) ?_
  refine lv_iload_n hx hb dX12_laysSteps_30 rfl (lv_at hl 0 rfl) ?_
  refine lv_aload_n hx hb dX12_laysSteps_31 rfl (lv_at hl 1 rfl) ?_
  refine xget C hP 0 rfl rfl zuX12 4 (by decide) zw5_217 rfl dX12_laysSteps_32 ?_
  refine lv_icmp_ge (tgt := 57) hx hb dX12_laysSteps_35 (by decide) (fun _ => ?_) (fun c => absurd (by decide) c)
  exact xretv C () trivial hP hD hS (Nat.le_of_ble_eq_true rfl) (Nat.le_of_ble_eq_true rfl) dX12_laysSteps_57

set_option maxHeartbeats 4000000 in
set_option maxRecDepth 100000 in
theorem c_X12_laysSteps_1 (l : Launch) (D : va_G) (cs : Nat → ClassId) (hm ms mkp mtr mas mso mon mot man mst msm mtb mti mfr mbn mbs mde maa mab mba mbb : Nat) (ab be : Int64) : xMet l D cs yX12_laysSteps cX12_laysSteps 3 none ({ frames := 4, cells := 0, slots := 0, locals := 99 } : Room) [.ref hm, .int (nI 1)] [(hm, .inr (12, [.ref ms, .ref mkp, .int (nI 0), .ref mtr, .int (nI 4), .int (nI 2), .int (nI 2), .int (nI 3), .int (nI 2), .int (nI 1), .ref mas, .int (nI 0), .int (nI 0), .int (nI 0), .ref mso, .ref mon, .ref mot, .ref man, .int (nI 0), .int (nI 0), .ref mst, .ref msm, .ref mtb, .ref mti, .ref mfr, .ref mbn, .ref mbs, .ref mde, .int (nI 0), .int (nI 0), .int (nI 0), .int (nI 0), .long ab, .long be, .ref maa, .ref mab, .ref mba, .ref mbb])), (maa, .inl (cs 1, 9, .inr (.inl (fun _ => 0)))), (mab, .inl (cs 1, 9, .inr (.inl (fun _ => 0)))), (mba, .inl (cs 1, 9, .inr (.inl (fun _ => 0)))), (mbb, .inl (cs 1, 9, .inr (.inl (fun _ => 0))))] (xQv D (fun (_u : Unit) => True) (fun (_u : Unit) => [(hm, .inr (12, [.ref ms, .ref mkp, .int (nI 0), .ref mtr, .int (nI 4), .int (nI 2), .int (nI 2), .int (nI 3), .int (nI 2), .int (nI 1), .ref mas, .int (nI 0), .int (nI 0), .int (nI 0), .ref mso, .ref mon, .ref mot, .ref man, .int (nI 0), .int (nI 0), .ref mst, .ref msm, .ref mtb, .ref mti, .ref mfr, .ref mbn, .ref mbs, .ref mde, .int (nI 0), .int (nI 0), .int (nI 0), .int (nI 0), .long 4, .long 1, .ref maa, .ref mab, .ref mba, .ref mbb])), (maa, .inl (cs 1, 9, .inr (.inl (lt4 0 0 1 1)))), (mab, .inl (cs 1, 9, .inr (.inl (lt4 1 1 2 1)))), (mba, .inl (cs 1, 9, .inr (.inl (lt4 0 4 5 4)))), (mbb, .inl (cs 1, 9, .inr (.inl (lt4 1 1 1 1))))])) := by
  refine xMet.intro (by decide) (Nat.le_of_ble_eq_true rfl) ?_
  intro p e s m args below meth c A ls C hP hD hS hl
  have hx := C.1
  have hb := C.2.1
  have hz := C.2.2.2.2.1
  have hown := C.2.2.2.1
  have hA := C.2.2.2.2.2.2.2.2.2
  have hAO := C.2.2.2.2.2.2.2.2.1.2.2
  replace hl : lv_has ls 3 [(0, .ref hm), (1, .int (nI 1))] := hl
  obtain ⟨H, hH⟩ : ∃ H, H = s.heap := ⟨_, rfl⟩
  replace hP : va_P D vwCl [(hm, .inr (12, [.ref ms, .ref mkp, .int (nI 0), .ref mtr, .int (nI 4), .int (nI 2), .int (nI 2), .int (nI 3), .int (nI 2), .int (nI 1), .ref mas, .int (nI 0), .int (nI 0), .int (nI 0), .ref mso, .ref mon, .ref mot, .ref man, .int (nI 0), .int (nI 0), .ref mst, .ref msm, .ref mtb, .ref mti, .ref mfr, .ref mbn, .ref mbs, .ref mde, .int (nI 0), .int (nI 0), .int (nI 0), .int (nI 0), .long ab, .long be, .ref maa, .ref mab, .ref mba, .ref mbb])), (maa, .inl (cs 1, 9, .inr (.inl (fun _ => 0)))), (mab, .inl (cs 1, 9, .inr (.inl (fun _ => 0)))), (mba, .inl (cs 1, 9, .inr (.inl (fun _ => 0)))), (mbb, .inl (cs 1, 9, .inr (.inl (fun _ => 0))))] H := by rw [hH]; exact hP
  replace hS : va_S A s.heap H [] := by rw [hH]; exact hS
  obtain ⟨locs, hlocs⟩ : ∃ z : List Loc, z = [] := ⟨_, rfl⟩
  rw [← hlocs] at hS
  suffices hW : W p l e ({ frames := 4, cells := 0, slots := 0, locals := 99 } : Room) s m args below meth c H locs 0 0 (MQ below ((xQv D (fun (_u : Unit) => True) (fun (_u : Unit) => [(hm, .inr (12, [.ref ms, .ref mkp, .int (nI 0), .ref mtr, .int (nI 4), .int (nI 2), .int (nI 2), .int (nI 3), .int (nI 2), .int (nI 1), .ref mas, .int (nI 0), .int (nI 0), .int (nI 0), .ref mso, .ref mon, .ref mot, .ref man, .int (nI 0), .int (nI 0), .ref mst, .ref msm, .ref mtb, .ref mti, .ref mfr, .ref mbn, .ref mbs, .ref mde, .int (nI 0), .int (nI 0), .int (nI 0), .int (nI 0), .long 4, .long 1, .ref maa, .ref mab, .ref mba, .ref mbb])), (maa, .inl (cs 1, 9, .inr (.inl (lt4 0 0 1 1)))), (mab, .inl (cs 1, 9, .inr (.inl (lt4 1 1 2 1)))), (mba, .inl (cs 1, 9, .inr (.inl (lt4 0 4 5 4)))), (mbb, .inl (cs 1, 9, .inr (.inl (lt4 1 1 1 1))))])) A) args s 0 0 A) (F0 m 0 ls []) by rw [hlocs, hH] at hW; exact hW
  clear hH hlocs
  refine lv_aload_n hx hb dX12_laysSteps_0 rfl (lv_at hl 0 rfl) ?_
  refine xget C hP 0 rfl rfl zuX12 34 (by decide) zw6_7 rfl dX12_laysSteps_1 ?_
  refine lv_iconst (v := nI 0) hx hb dX12_laysSteps_4 (by decide) ?_
  refine lv_lconst (v := 0) hx hb dX12_laysSteps_5 (by decide) ?_
  refine xlast C hP hD hS 1 rfl 0 rfl (by decide) (by decide) dX12_laysSteps_6 ?_
  clear hP hD hS
  try clear locs
  try clear H
  intro H locs hP hD hS
  replace hP : va_P D vwCl [(hm, .inr (12, [.ref ms, .ref mkp, .int (nI 0), .ref mtr, .int (nI 4), .int (nI 2), .int (nI 2), .int (nI 3), .int (nI 2), .int (nI 1), .ref mas, .int (nI 0), .int (nI 0), .int (nI 0), .ref mso, .ref mon, .ref mot, .ref man, .int (nI 0), .int (nI 0), .ref mst, .ref msm, .ref mtb, .ref mti, .ref mfr, .ref mbn, .ref mbs, .ref mde, .int (nI 0), .int (nI 0), .int (nI 0), .int (nI 0), .long ab, .long be, .ref maa, .ref mab, .ref mba, .ref mbb])), (maa, .inl (cs 1, 9, .inr (.inl (vp_updL (fun _ => 0) 0 0)))), (mab, .inl (cs 1, 9, .inr (.inl (fun _ => 0)))), (mba, .inl (cs 1, 9, .inr (.inl (fun _ => 0)))), (mbb, .inl (cs 1, 9, .inr (.inl (fun _ => 0))))] H := hP
  replace hD : va_D A [(hm, .inr (12, [.ref ms, .ref mkp, .int (nI 0), .ref mtr, .int (nI 4), .int (nI 2), .int (nI 2), .int (nI 3), .int (nI 2), .int (nI 1), .ref mas, .int (nI 0), .int (nI 0), .int (nI 0), .ref mso, .ref mon, .ref mot, .ref man, .int (nI 0), .int (nI 0), .ref mst, .ref msm, .ref mtb, .ref mti, .ref mfr, .ref mbn, .ref mbs, .ref mde, .int (nI 0), .int (nI 0), .int (nI 0), .int (nI 0), .long ab, .long be, .ref maa, .ref mab, .ref mba, .ref mbb])), (maa, .inl (cs 1, 9, .inr (.inl (vp_updL (fun _ => 0) 0 0)))), (mab, .inl (cs 1, 9, .inr (.inl (fun _ => 0)))), (mba, .inl (cs 1, 9, .inr (.inl (fun _ => 0)))), (mbb, .inl (cs 1, 9, .inr (.inl (fun _ => 0))))] := hD
  refine lv_aload_n hx hb dX12_laysSteps_7 rfl (lv_at hl 0 rfl) ?_
  refine xget C hP 0 rfl rfl zuX12 35 (by decide) zw6_8 rfl dX12_laysSteps_8 ?_
  refine lv_iconst (v := nI 0) hx hb dX12_laysSteps_11 (by decide) ?_
  refine lv_lconst (v := 1) hx hb dX12_laysSteps_12 (by decide) ?_
  refine xlast C hP hD hS 2 rfl 0 rfl (by decide) (by decide) dX12_laysSteps_13 ?_
  clear hP hD hS
  try clear locs
  try clear H
  intro H locs hP hD hS
  replace hP : va_P D vwCl [(hm, .inr (12, [.ref ms, .ref mkp, .int (nI 0), .ref mtr, .int (nI 4), .int (nI 2), .int (nI 2), .int (nI 3), .int (nI 2), .int (nI 1), .ref mas, .int (nI 0), .int (nI 0), .int (nI 0), .ref mso, .ref mon, .ref mot, .ref man, .int (nI 0), .int (nI 0), .ref mst, .ref msm, .ref mtb, .ref mti, .ref mfr, .ref mbn, .ref mbs, .ref mde, .int (nI 0), .int (nI 0), .int (nI 0), .int (nI 0), .long ab, .long be, .ref maa, .ref mab, .ref mba, .ref mbb])), (maa, .inl (cs 1, 9, .inr (.inl (vp_updL (fun _ => 0) 0 0)))), (mab, .inl (cs 1, 9, .inr (.inl (vp_updL (fun _ => 0) 0 1)))), (mba, .inl (cs 1, 9, .inr (.inl (fun _ => 0)))), (mbb, .inl (cs 1, 9, .inr (.inl (fun _ => 0))))] H := hP
  replace hD : va_D A [(hm, .inr (12, [.ref ms, .ref mkp, .int (nI 0), .ref mtr, .int (nI 4), .int (nI 2), .int (nI 2), .int (nI 3), .int (nI 2), .int (nI 1), .ref mas, .int (nI 0), .int (nI 0), .int (nI 0), .ref mso, .ref mon, .ref mot, .ref man, .int (nI 0), .int (nI 0), .ref mst, .ref msm, .ref mtb, .ref mti, .ref mfr, .ref mbn, .ref mbs, .ref mde, .int (nI 0), .int (nI 0), .int (nI 0), .int (nI 0), .long ab, .long be, .ref maa, .ref mab, .ref mba, .ref mbb])), (maa, .inl (cs 1, 9, .inr (.inl (vp_updL (fun _ => 0) 0 0)))), (mab, .inl (cs 1, 9, .inr (.inl (vp_updL (fun _ => 0) 0 1)))), (mba, .inl (cs 1, 9, .inr (.inl (fun _ => 0)))), (mbb, .inl (cs 1, 9, .inr (.inl (fun _ => 0))))] := hD
  refine lv_aload_n hx hb dX12_laysSteps_14 rfl (lv_at hl 0 rfl) ?_
  refine xget C hP 0 rfl rfl zuX12 36 (by decide) zw6_9 rfl dX12_laysSteps_15 ?_
  refine lv_iconst (v := nI 0) hx hb dX12_laysSteps_18 (by decide) ?_
  refine lv_lconst (v := 0) hx hb dX12_laysSteps_19 (by decide) ?_
  refine xlast C hP hD hS 3 rfl 0 rfl (by decide) (by decide) dX12_laysSteps_20 ?_
  clear hP hD hS
  try clear locs
  try clear H
  intro H locs hP hD hS
  replace hP : va_P D vwCl [(hm, .inr (12, [.ref ms, .ref mkp, .int (nI 0), .ref mtr, .int (nI 4), .int (nI 2), .int (nI 2), .int (nI 3), .int (nI 2), .int (nI 1), .ref mas, .int (nI 0), .int (nI 0), .int (nI 0), .ref mso, .ref mon, .ref mot, .ref man, .int (nI 0), .int (nI 0), .ref mst, .ref msm, .ref mtb, .ref mti, .ref mfr, .ref mbn, .ref mbs, .ref mde, .int (nI 0), .int (nI 0), .int (nI 0), .int (nI 0), .long ab, .long be, .ref maa, .ref mab, .ref mba, .ref mbb])), (maa, .inl (cs 1, 9, .inr (.inl (vp_updL (fun _ => 0) 0 0)))), (mab, .inl (cs 1, 9, .inr (.inl (vp_updL (fun _ => 0) 0 1)))), (mba, .inl (cs 1, 9, .inr (.inl (vp_updL (fun _ => 0) 0 0)))), (mbb, .inl (cs 1, 9, .inr (.inl (fun _ => 0))))] H := hP
  replace hD : va_D A [(hm, .inr (12, [.ref ms, .ref mkp, .int (nI 0), .ref mtr, .int (nI 4), .int (nI 2), .int (nI 2), .int (nI 3), .int (nI 2), .int (nI 1), .ref mas, .int (nI 0), .int (nI 0), .int (nI 0), .ref mso, .ref mon, .ref mot, .ref man, .int (nI 0), .int (nI 0), .ref mst, .ref msm, .ref mtb, .ref mti, .ref mfr, .ref mbn, .ref mbs, .ref mde, .int (nI 0), .int (nI 0), .int (nI 0), .int (nI 0), .long ab, .long be, .ref maa, .ref mab, .ref mba, .ref mbb])), (maa, .inl (cs 1, 9, .inr (.inl (vp_updL (fun _ => 0) 0 0)))), (mab, .inl (cs 1, 9, .inr (.inl (vp_updL (fun _ => 0) 0 1)))), (mba, .inl (cs 1, 9, .inr (.inl (vp_updL (fun _ => 0) 0 0)))), (mbb, .inl (cs 1, 9, .inr (.inl (fun _ => 0))))] := hD
  refine lv_aload_n hx hb dX12_laysSteps_21 rfl (lv_at hl 0 rfl) ?_
  refine xget C hP 0 rfl rfl zuX12 37 (by decide) zw6_10 rfl dX12_laysSteps_22 ?_
  refine lv_iconst (v := nI 0) hx hb dX12_laysSteps_25 (by decide) ?_
  refine lv_lconst (v := 1) hx hb dX12_laysSteps_26 (by decide) ?_
  refine xlast C hP hD hS 4 rfl 0 rfl (by decide) (by decide) dX12_laysSteps_27 ?_
  clear hP hD hS
  try clear locs
  try clear H
  intro H locs hP hD hS
  replace hP : va_P D vwCl [(hm, .inr (12, [.ref ms, .ref mkp, .int (nI 0), .ref mtr, .int (nI 4), .int (nI 2), .int (nI 2), .int (nI 3), .int (nI 2), .int (nI 1), .ref mas, .int (nI 0), .int (nI 0), .int (nI 0), .ref mso, .ref mon, .ref mot, .ref man, .int (nI 0), .int (nI 0), .ref mst, .ref msm, .ref mtb, .ref mti, .ref mfr, .ref mbn, .ref mbs, .ref mde, .int (nI 0), .int (nI 0), .int (nI 0), .int (nI 0), .long ab, .long be, .ref maa, .ref mab, .ref mba, .ref mbb])), (maa, .inl (cs 1, 9, .inr (.inl (vp_updL (fun _ => 0) 0 0)))), (mab, .inl (cs 1, 9, .inr (.inl (vp_updL (fun _ => 0) 0 1)))), (mba, .inl (cs 1, 9, .inr (.inl (vp_updL (fun _ => 0) 0 0)))), (mbb, .inl (cs 1, 9, .inr (.inl (vp_updL (fun _ => 0) 0 1))))] H := hP
  replace hD : va_D A [(hm, .inr (12, [.ref ms, .ref mkp, .int (nI 0), .ref mtr, .int (nI 4), .int (nI 2), .int (nI 2), .int (nI 3), .int (nI 2), .int (nI 1), .ref mas, .int (nI 0), .int (nI 0), .int (nI 0), .ref mso, .ref mon, .ref mot, .ref man, .int (nI 0), .int (nI 0), .ref mst, .ref msm, .ref mtb, .ref mti, .ref mfr, .ref mbn, .ref mbs, .ref mde, .int (nI 0), .int (nI 0), .int (nI 0), .int (nI 0), .long ab, .long be, .ref maa, .ref mab, .ref mba, .ref mbb])), (maa, .inl (cs 1, 9, .inr (.inl (vp_updL (fun _ => 0) 0 0)))), (mab, .inl (cs 1, 9, .inr (.inl (vp_updL (fun _ => 0) 0 1)))), (mba, .inl (cs 1, 9, .inr (.inl (vp_updL (fun _ => 0) 0 0)))), (mbb, .inl (cs 1, 9, .inr (.inl (vp_updL (fun _ => 0) 0 1))))] := hD
  have hPD := xcongl (q0 := 1) (lt4 0 0 0 0) hP hD rfl (fun j hj => (show ∀ j, j < 9 → lt4 0 0 0 0 j = (vp_updL (fun _ => 0) 0 0) j from by decide) j hj)
  clear hP hD
  obtain ⟨hP, hD⟩ := hPD
  replace hP : va_P D vwCl [(hm, .inr (12, [.ref ms, .ref mkp, .int (nI 0), .ref mtr, .int (nI 4), .int (nI 2), .int (nI 2), .int (nI 3), .int (nI 2), .int (nI 1), .ref mas, .int (nI 0), .int (nI 0), .int (nI 0), .ref mso, .ref mon, .ref mot, .ref man, .int (nI 0), .int (nI 0), .ref mst, .ref msm, .ref mtb, .ref mti, .ref mfr, .ref mbn, .ref mbs, .ref mde, .int (nI 0), .int (nI 0), .int (nI 0), .int (nI 0), .long ab, .long be, .ref maa, .ref mab, .ref mba, .ref mbb])), (maa, .inl (cs 1, 9, .inr (.inl (lt4 0 0 0 0)))), (mab, .inl (cs 1, 9, .inr (.inl (vp_updL (fun _ => 0) 0 1)))), (mba, .inl (cs 1, 9, .inr (.inl (vp_updL (fun _ => 0) 0 0)))), (mbb, .inl (cs 1, 9, .inr (.inl (vp_updL (fun _ => 0) 0 1))))] H := hP
  replace hD : va_D A [(hm, .inr (12, [.ref ms, .ref mkp, .int (nI 0), .ref mtr, .int (nI 4), .int (nI 2), .int (nI 2), .int (nI 3), .int (nI 2), .int (nI 1), .ref mas, .int (nI 0), .int (nI 0), .int (nI 0), .ref mso, .ref mon, .ref mot, .ref man, .int (nI 0), .int (nI 0), .ref mst, .ref msm, .ref mtb, .ref mti, .ref mfr, .ref mbn, .ref mbs, .ref mde, .int (nI 0), .int (nI 0), .int (nI 0), .int (nI 0), .long ab, .long be, .ref maa, .ref mab, .ref mba, .ref mbb])), (maa, .inl (cs 1, 9, .inr (.inl (lt4 0 0 0 0)))), (mab, .inl (cs 1, 9, .inr (.inl (vp_updL (fun _ => 0) 0 1)))), (mba, .inl (cs 1, 9, .inr (.inl (vp_updL (fun _ => 0) 0 0)))), (mbb, .inl (cs 1, 9, .inr (.inl (vp_updL (fun _ => 0) 0 1))))] := hD
  have hPD := xcongl (q0 := 2) (lt4 1 0 0 0) hP hD rfl (fun j hj => (show ∀ j, j < 9 → lt4 1 0 0 0 j = (vp_updL (fun _ => 0) 0 1) j from by decide) j hj)
  clear hP hD
  obtain ⟨hP, hD⟩ := hPD
  replace hP : va_P D vwCl [(hm, .inr (12, [.ref ms, .ref mkp, .int (nI 0), .ref mtr, .int (nI 4), .int (nI 2), .int (nI 2), .int (nI 3), .int (nI 2), .int (nI 1), .ref mas, .int (nI 0), .int (nI 0), .int (nI 0), .ref mso, .ref mon, .ref mot, .ref man, .int (nI 0), .int (nI 0), .ref mst, .ref msm, .ref mtb, .ref mti, .ref mfr, .ref mbn, .ref mbs, .ref mde, .int (nI 0), .int (nI 0), .int (nI 0), .int (nI 0), .long ab, .long be, .ref maa, .ref mab, .ref mba, .ref mbb])), (maa, .inl (cs 1, 9, .inr (.inl (lt4 0 0 0 0)))), (mab, .inl (cs 1, 9, .inr (.inl (lt4 1 0 0 0)))), (mba, .inl (cs 1, 9, .inr (.inl (vp_updL (fun _ => 0) 0 0)))), (mbb, .inl (cs 1, 9, .inr (.inl (vp_updL (fun _ => 0) 0 1))))] H := hP
  replace hD : va_D A [(hm, .inr (12, [.ref ms, .ref mkp, .int (nI 0), .ref mtr, .int (nI 4), .int (nI 2), .int (nI 2), .int (nI 3), .int (nI 2), .int (nI 1), .ref mas, .int (nI 0), .int (nI 0), .int (nI 0), .ref mso, .ref mon, .ref mot, .ref man, .int (nI 0), .int (nI 0), .ref mst, .ref msm, .ref mtb, .ref mti, .ref mfr, .ref mbn, .ref mbs, .ref mde, .int (nI 0), .int (nI 0), .int (nI 0), .int (nI 0), .long ab, .long be, .ref maa, .ref mab, .ref mba, .ref mbb])), (maa, .inl (cs 1, 9, .inr (.inl (lt4 0 0 0 0)))), (mab, .inl (cs 1, 9, .inr (.inl (lt4 1 0 0 0)))), (mba, .inl (cs 1, 9, .inr (.inl (vp_updL (fun _ => 0) 0 0)))), (mbb, .inl (cs 1, 9, .inr (.inl (vp_updL (fun _ => 0) 0 1))))] := hD
  have hPD := xcongl (q0 := 3) (lt4 0 0 0 0) hP hD rfl (fun j hj => (show ∀ j, j < 9 → lt4 0 0 0 0 j = (vp_updL (fun _ => 0) 0 0) j from by decide) j hj)
  clear hP hD
  obtain ⟨hP, hD⟩ := hPD
  replace hP : va_P D vwCl [(hm, .inr (12, [.ref ms, .ref mkp, .int (nI 0), .ref mtr, .int (nI 4), .int (nI 2), .int (nI 2), .int (nI 3), .int (nI 2), .int (nI 1), .ref mas, .int (nI 0), .int (nI 0), .int (nI 0), .ref mso, .ref mon, .ref mot, .ref man, .int (nI 0), .int (nI 0), .ref mst, .ref msm, .ref mtb, .ref mti, .ref mfr, .ref mbn, .ref mbs, .ref mde, .int (nI 0), .int (nI 0), .int (nI 0), .int (nI 0), .long ab, .long be, .ref maa, .ref mab, .ref mba, .ref mbb])), (maa, .inl (cs 1, 9, .inr (.inl (lt4 0 0 0 0)))), (mab, .inl (cs 1, 9, .inr (.inl (lt4 1 0 0 0)))), (mba, .inl (cs 1, 9, .inr (.inl (lt4 0 0 0 0)))), (mbb, .inl (cs 1, 9, .inr (.inl (vp_updL (fun _ => 0) 0 1))))] H := hP
  replace hD : va_D A [(hm, .inr (12, [.ref ms, .ref mkp, .int (nI 0), .ref mtr, .int (nI 4), .int (nI 2), .int (nI 2), .int (nI 3), .int (nI 2), .int (nI 1), .ref mas, .int (nI 0), .int (nI 0), .int (nI 0), .ref mso, .ref mon, .ref mot, .ref man, .int (nI 0), .int (nI 0), .ref mst, .ref msm, .ref mtb, .ref mti, .ref mfr, .ref mbn, .ref mbs, .ref mde, .int (nI 0), .int (nI 0), .int (nI 0), .int (nI 0), .long ab, .long be, .ref maa, .ref mab, .ref mba, .ref mbb])), (maa, .inl (cs 1, 9, .inr (.inl (lt4 0 0 0 0)))), (mab, .inl (cs 1, 9, .inr (.inl (lt4 1 0 0 0)))), (mba, .inl (cs 1, 9, .inr (.inl (lt4 0 0 0 0)))), (mbb, .inl (cs 1, 9, .inr (.inl (vp_updL (fun _ => 0) 0 1))))] := hD
  have hPD := xcongl (q0 := 4) (lt4 1 0 0 0) hP hD rfl (fun j hj => (show ∀ j, j < 9 → lt4 1 0 0 0 j = (vp_updL (fun _ => 0) 0 1) j from by decide) j hj)
  clear hP hD
  obtain ⟨hP, hD⟩ := hPD
  replace hP : va_P D vwCl [(hm, .inr (12, [.ref ms, .ref mkp, .int (nI 0), .ref mtr, .int (nI 4), .int (nI 2), .int (nI 2), .int (nI 3), .int (nI 2), .int (nI 1), .ref mas, .int (nI 0), .int (nI 0), .int (nI 0), .ref mso, .ref mon, .ref mot, .ref man, .int (nI 0), .int (nI 0), .ref mst, .ref msm, .ref mtb, .ref mti, .ref mfr, .ref mbn, .ref mbs, .ref mde, .int (nI 0), .int (nI 0), .int (nI 0), .int (nI 0), .long ab, .long be, .ref maa, .ref mab, .ref mba, .ref mbb])), (maa, .inl (cs 1, 9, .inr (.inl (lt4 0 0 0 0)))), (mab, .inl (cs 1, 9, .inr (.inl (lt4 1 0 0 0)))), (mba, .inl (cs 1, 9, .inr (.inl (lt4 0 0 0 0)))), (mbb, .inl (cs 1, 9, .inr (.inl (lt4 1 0 0 0))))] H := hP
  replace hD : va_D A [(hm, .inr (12, [.ref ms, .ref mkp, .int (nI 0), .ref mtr, .int (nI 4), .int (nI 2), .int (nI 2), .int (nI 3), .int (nI 2), .int (nI 1), .ref mas, .int (nI 0), .int (nI 0), .int (nI 0), .ref mso, .ref mon, .ref mot, .ref man, .int (nI 0), .int (nI 0), .ref mst, .ref msm, .ref mtb, .ref mti, .ref mfr, .ref mbn, .ref mbs, .ref mde, .int (nI 0), .int (nI 0), .int (nI 0), .int (nI 0), .long ab, .long be, .ref maa, .ref mab, .ref mba, .ref mbb])), (maa, .inl (cs 1, 9, .inr (.inl (lt4 0 0 0 0)))), (mab, .inl (cs 1, 9, .inr (.inl (lt4 1 0 0 0)))), (mba, .inl (cs 1, 9, .inr (.inl (lt4 0 0 0 0)))), (mbb, .inl (cs 1, 9, .inr (.inl (lt4 1 0 0 0))))] := hD
  refine lv_iconst (v := nI 1) hx hb dX12_laysSteps_28 (by decide) ?_
  refine lv_istore_n (lv' := [(2, .int (nI 1)), (0, .ref hm), (1, .int (nI 1))]) hx hb dX12_laysSteps_29 rfl hl (by decide) rfl ?_
  clear hl
  try clear ls
  intro ls hl
  refine lv_iload_n hx hb dX12_laysSteps_30 rfl (lv_at hl 0 rfl) ?_
  refine lv_aload_n hx hb dX12_laysSteps_31 rfl (lv_at hl 1 rfl) ?_
  refine xget C hP 0 rfl rfl zuX12 4 (by decide) zw5_217 rfl dX12_laysSteps_32 ?_
  refine lv_icmp_ge (tgt := 57) hx hb dX12_laysSteps_35 (by decide) (fun c => absurd c (by decide)) (fun _ => ?_)
  refine lv_aload_n hx hb dX12_laysSteps_38 rfl (lv_at hl 1 rfl) ?_
  refine xget C hP 0 rfl rfl zuX12 31 (by decide) zw6_4 rfl dX12_laysSteps_39 ?_
  refine lv_if_ne (tgt := 57) hx hb dX12_laysSteps_42 (by decide) (fun c => absurd (by decide) c) (fun _ => ?_)
  refine lv_aload_n hx hb dX12_laysSteps_45 rfl (lv_at hl 1 rfl) ?_
  refine lv_iload_n hx hb dX12_laysSteps_46 rfl (lv_at hl 0 rfl) ?_
  refine lv_iload_n hx hb dX12_laysSteps_47 rfl (lv_at hl 2 rfl) ?_
  refine xv (wr := []) (xV (As := [.int (nI 1), .int (nI 1)]) (rest := []) C (c_X12_laysStep_1_1 l D cs hm ms mkp mtr mas mso mon mot man mst msm mtb mti mfr mbn mbs mde maa mab mba mbb ab be) kX12_276 hP hD [0, 1, 2, 3, 4] rfl (by decide +kernel) 0 rfl rfl rfl ⟨Nat.le_of_ble_eq_true rfl, Nat.le_of_ble_eq_true rfl⟩ rfl hl.1 rfl (Nat.le_of_ble_eq_true rfl) dX12_laysSteps_48 ⟨Nat.le_of_ble_eq_true rfl, Nat.le_of_ble_eq_true rfl⟩) hP hD hS hA [0, 1, 2, 3, 4] [] rfl rfl (by decide +kernel) (by decide +kernel) ?_
  clear hP hD hS
  try clear locs
  try clear H
  intro u_2 H locs hw_r_1 hP hD hS
  refine W.widen (k := 0) (n := 0) (Nat.le_of_ble_eq_true rfl) (Nat.le_of_ble_eq_true rfl) ?_
  replace hP : va_P D vwCl [(hm, .inr (12, [.ref ms, .ref mkp, .int (nI 0), .ref mtr, .int (nI 4), .int (nI 2), .int (nI 2), .int (nI 3), .int (nI 2), .int (nI 1), .ref mas, .int (nI 0), .int (nI 0), .int (nI 0), .ref mso, .ref mon, .ref mot, .ref man, .int (nI 0), .int (nI 0), .ref mst, .ref msm, .ref mtb, .ref mti, .ref mfr, .ref mbn, .ref mbs, .ref mde, .int (nI 0), .int (nI 0), .int (nI 0), .int (nI 0), .long 4, .long 1, .ref maa, .ref mab, .ref mba, .ref mbb])), (maa, .inl (cs 1, 9, .inr (.inl (lt4 0 0 0 0)))), (mab, .inl (cs 1, 9, .inr (.inl (lt4 1 1 0 0)))), (mba, .inl (cs 1, 9, .inr (.inl (lt4 0 4 0 0)))), (mbb, .inl (cs 1, 9, .inr (.inl (lt4 1 1 0 0))))] H := hP
  replace hD : va_D A [(hm, .inr (12, [.ref ms, .ref mkp, .int (nI 0), .ref mtr, .int (nI 4), .int (nI 2), .int (nI 2), .int (nI 3), .int (nI 2), .int (nI 1), .ref mas, .int (nI 0), .int (nI 0), .int (nI 0), .ref mso, .ref mon, .ref mot, .ref man, .int (nI 0), .int (nI 0), .ref mst, .ref msm, .ref mtb, .ref mti, .ref mfr, .ref mbn, .ref mbs, .ref mde, .int (nI 0), .int (nI 0), .int (nI 0), .int (nI 0), .long 4, .long 1, .ref maa, .ref mab, .ref mba, .ref mbb])), (maa, .inl (cs 1, 9, .inr (.inl (lt4 0 0 0 0)))), (mab, .inl (cs 1, 9, .inr (.inl (lt4 1 1 0 0)))), (mba, .inl (cs 1, 9, .inr (.inl (lt4 0 4 0 0)))), (mbb, .inl (cs 1, 9, .inr (.inl (lt4 1 1 0 0))))] := hD
  refine lv_iinc (v := nI 2) (lv' := [(2, .int (nI 2)), (0, .ref hm), (1, .int (nI 1))]) hx hb dX12_laysSteps_51 hl (k := 0) rfl (by decide) (by decide) rfl ?_
  clear hl
  try clear ls
  intro ls hl
  refine lv_goto (tgt := 30) hx hb dX12_laysSteps_54 (by decide) ?_
  refine lv_iload_n hx hb dX12_laysSteps_30 rfl (lv_at hl 0 rfl) ?_
  refine lv_aload_n hx hb dX12_laysSteps_31 rfl (lv_at hl 1 rfl) ?_
  refine xget C hP 0 rfl rfl zuX12 4 (by decide) zw5_217 rfl dX12_laysSteps_32 ?_
  refine lv_icmp_ge (tgt := 57) hx hb dX12_laysSteps_35 (by decide) (fun c => absurd c (by decide)) (fun _ => ?_)
  refine lv_aload_n hx hb dX12_laysSteps_38 rfl (lv_at hl 1 rfl) ?_
  refine xget C hP 0 rfl rfl zuX12 31 (by decide) zw6_4 rfl dX12_laysSteps_39 ?_
  refine lv_if_ne (tgt := 57) hx hb dX12_laysSteps_42 (by decide) (fun c => absurd (by decide) c) (fun _ => ?_)
  refine lv_aload_n hx hb dX12_laysSteps_45 rfl (lv_at hl 1 rfl) ?_
  refine lv_iload_n hx hb dX12_laysSteps_46 rfl (lv_at hl 0 rfl) ?_
  refine lv_iload_n hx hb dX12_laysSteps_47 rfl (lv_at hl 2 rfl) ?_
  refine xv (wr := []) (xV (As := [.int (nI 2), .int (nI 1)]) (rest := []) C (c_X12_laysStep_2_1 l D cs hm ms mkp mtr mas mso mon mot man mst msm mtb mti mfr mbn mbs mde maa mab mba mbb 4 1) kX12_276 hP hD [0, 1, 2, 3, 4] rfl (by decide +kernel) 0 rfl rfl rfl ⟨Nat.le_of_ble_eq_true rfl, Nat.le_of_ble_eq_true rfl⟩ rfl hl.1 rfl (Nat.le_of_ble_eq_true rfl) dX12_laysSteps_48 ⟨Nat.le_of_ble_eq_true rfl, Nat.le_of_ble_eq_true rfl⟩) hP hD hS hA [0, 1, 2, 3, 4] [] rfl rfl (by decide +kernel) (by decide +kernel) ?_
  clear hP hD hS
  try clear locs
  try clear H
  intro u_4 H locs hw_r_3 hP hD hS
  refine W.widen (k := 0) (n := 0) (Nat.le_of_ble_eq_true rfl) (Nat.le_of_ble_eq_true rfl) ?_
  replace hP : va_P D vwCl [(hm, .inr (12, [.ref ms, .ref mkp, .int (nI 0), .ref mtr, .int (nI 4), .int (nI 2), .int (nI 2), .int (nI 3), .int (nI 2), .int (nI 1), .ref mas, .int (nI 0), .int (nI 0), .int (nI 0), .ref mso, .ref mon, .ref mot, .ref man, .int (nI 0), .int (nI 0), .ref mst, .ref msm, .ref mtb, .ref mti, .ref mfr, .ref mbn, .ref mbs, .ref mde, .int (nI 0), .int (nI 0), .int (nI 0), .int (nI 0), .long 5, .long 1, .ref maa, .ref mab, .ref mba, .ref mbb])), (maa, .inl (cs 1, 9, .inr (.inl (lt4 0 0 1 0)))), (mab, .inl (cs 1, 9, .inr (.inl (lt4 1 1 2 0)))), (mba, .inl (cs 1, 9, .inr (.inl (lt4 0 4 5 0)))), (mbb, .inl (cs 1, 9, .inr (.inl (lt4 1 1 1 0))))] H := hP
  replace hD : va_D A [(hm, .inr (12, [.ref ms, .ref mkp, .int (nI 0), .ref mtr, .int (nI 4), .int (nI 2), .int (nI 2), .int (nI 3), .int (nI 2), .int (nI 1), .ref mas, .int (nI 0), .int (nI 0), .int (nI 0), .ref mso, .ref mon, .ref mot, .ref man, .int (nI 0), .int (nI 0), .ref mst, .ref msm, .ref mtb, .ref mti, .ref mfr, .ref mbn, .ref mbs, .ref mde, .int (nI 0), .int (nI 0), .int (nI 0), .int (nI 0), .long 5, .long 1, .ref maa, .ref mab, .ref mba, .ref mbb])), (maa, .inl (cs 1, 9, .inr (.inl (lt4 0 0 1 0)))), (mab, .inl (cs 1, 9, .inr (.inl (lt4 1 1 2 0)))), (mba, .inl (cs 1, 9, .inr (.inl (lt4 0 4 5 0)))), (mbb, .inl (cs 1, 9, .inr (.inl (lt4 1 1 1 0))))] := hD
  refine lv_iinc (v := nI 3) (lv' := [(2, .int (nI 3)), (0, .ref hm), (1, .int (nI 1))]) hx hb dX12_laysSteps_51 hl (k := 0) rfl (by decide) (by decide) rfl ?_
  clear hl
  try clear ls
  intro ls hl
  refine lv_goto (tgt := 30) hx hb dX12_laysSteps_54 (by decide) ?_
  refine lv_iload_n hx hb dX12_laysSteps_30 rfl (lv_at hl 0 rfl) ?_
  refine lv_aload_n hx hb dX12_laysSteps_31 rfl (lv_at hl 1 rfl) ?_
  refine xget C hP 0 rfl rfl zuX12 4 (by decide) zw5_217 rfl dX12_laysSteps_32 ?_
  refine lv_icmp_ge (tgt := 57) hx hb dX12_laysSteps_35 (by decide) (fun c => absurd c (by decide)) (fun _ => ?_)
  refine lv_aload_n hx hb dX12_laysSteps_38 rfl (lv_at hl 1 rfl) ?_
  refine xget C hP 0 rfl rfl zuX12 31 (by decide) zw6_4 rfl dX12_laysSteps_39 ?_
  refine lv_if_ne (tgt := 57) hx hb dX12_laysSteps_42 (by decide) (fun c => absurd (by decide) c) (fun _ => ?_)
  refine lv_aload_n hx hb dX12_laysSteps_45 rfl (lv_at hl 1 rfl) ?_
  refine lv_iload_n hx hb dX12_laysSteps_46 rfl (lv_at hl 0 rfl) ?_
  refine lv_iload_n hx hb dX12_laysSteps_47 rfl (lv_at hl 2 rfl) ?_
  refine xv (wr := []) (xV (As := [.int (nI 3), .int (nI 1)]) (rest := []) C (c_X12_laysStep_3_1 l D cs hm ms mkp mtr mas mso mon mot man mst msm mtb mti mfr mbn mbs mde maa mab mba mbb 5 1) kX12_276 hP hD [0, 1, 2, 3, 4] rfl (by decide +kernel) 0 rfl rfl rfl ⟨Nat.le_of_ble_eq_true rfl, Nat.le_of_ble_eq_true rfl⟩ rfl hl.1 rfl (Nat.le_of_ble_eq_true rfl) dX12_laysSteps_48 ⟨Nat.le_of_ble_eq_true rfl, Nat.le_of_ble_eq_true rfl⟩) hP hD hS hA [0, 1, 2, 3, 4] [] rfl rfl (by decide +kernel) (by decide +kernel) ?_
  clear hP hD hS
  try clear locs
  try clear H
  intro u_6 H locs hw_r_5 hP hD hS
  refine W.widen (k := 0) (n := 0) (Nat.le_of_ble_eq_true rfl) (Nat.le_of_ble_eq_true rfl) ?_
  replace hP : va_P D vwCl [(hm, .inr (12, [.ref ms, .ref mkp, .int (nI 0), .ref mtr, .int (nI 4), .int (nI 2), .int (nI 2), .int (nI 3), .int (nI 2), .int (nI 1), .ref mas, .int (nI 0), .int (nI 0), .int (nI 0), .ref mso, .ref mon, .ref mot, .ref man, .int (nI 0), .int (nI 0), .ref mst, .ref msm, .ref mtb, .ref mti, .ref mfr, .ref mbn, .ref mbs, .ref mde, .int (nI 0), .int (nI 0), .int (nI 0), .int (nI 0), .long 4, .long 1, .ref maa, .ref mab, .ref mba, .ref mbb])), (maa, .inl (cs 1, 9, .inr (.inl (lt4 0 0 1 1)))), (mab, .inl (cs 1, 9, .inr (.inl (lt4 1 1 2 1)))), (mba, .inl (cs 1, 9, .inr (.inl (lt4 0 4 5 4)))), (mbb, .inl (cs 1, 9, .inr (.inl (lt4 1 1 1 1))))] H := hP
  replace hD : va_D A [(hm, .inr (12, [.ref ms, .ref mkp, .int (nI 0), .ref mtr, .int (nI 4), .int (nI 2), .int (nI 2), .int (nI 3), .int (nI 2), .int (nI 1), .ref mas, .int (nI 0), .int (nI 0), .int (nI 0), .ref mso, .ref mon, .ref mot, .ref man, .int (nI 0), .int (nI 0), .ref mst, .ref msm, .ref mtb, .ref mti, .ref mfr, .ref mbn, .ref mbs, .ref mde, .int (nI 0), .int (nI 0), .int (nI 0), .int (nI 0), .long 4, .long 1, .ref maa, .ref mab, .ref mba, .ref mbb])), (maa, .inl (cs 1, 9, .inr (.inl (lt4 0 0 1 1)))), (mab, .inl (cs 1, 9, .inr (.inl (lt4 1 1 2 1)))), (mba, .inl (cs 1, 9, .inr (.inl (lt4 0 4 5 4)))), (mbb, .inl (cs 1, 9, .inr (.inl (lt4 1 1 1 1))))] := hD
  refine lv_iinc (v := nI 4) (lv' := [(2, .int (nI 4)), (0, .ref hm), (1, .int (nI 1))]) hx hb dX12_laysSteps_51 hl (k := 0) rfl (by decide) (by decide) rfl ?_
  clear hl
  try clear ls
  intro ls hl
  refine lv_goto (tgt := 30) hx hb dX12_laysSteps_54 (by decide) ?_
  refine lv_iload_n hx hb dX12_laysSteps_30 rfl (lv_at hl 0 rfl) ?_
  refine lv_aload_n hx hb dX12_laysSteps_31 rfl (lv_at hl 1 rfl) ?_
  refine xget C hP 0 rfl rfl zuX12 4 (by decide) zw5_217 rfl dX12_laysSteps_32 ?_
  refine lv_icmp_ge (tgt := 57) hx hb dX12_laysSteps_35 (by decide) (fun _ => ?_) (fun c => absurd (by decide) c)
  exact xretv C () trivial hP hD hS (Nat.le_of_ble_eq_true rfl) (Nat.le_of_ble_eq_true rfl) dX12_laysSteps_57

set_option maxHeartbeats 4000000 in
set_option maxRecDepth 100000 in
theorem c_X12_goesDown_0_0 (l : Launch) (D : va_G) (cs : Nat → ClassId) (hm ms mkp mtr mas mso mon mot man mst msm mtb mti mfr mbn mbs mde maa mab mba mbb : Nat) (ab be : Int64) : xMet l D cs yX12_goesDown cX12_goesDown 5 none ({ frames := 2, cells := 0, slots := 0, locals := 58 } : Room) [.ref hm, .int (nI 0), .long 1] [(hm, .inr (12, [.ref ms, .ref mkp, .int (nI 0), .ref mtr, .int (nI 4), .int (nI 2), .int (nI 2), .int (nI 3), .int (nI 2), .int (nI 1), .ref mas, .int (nI 0), .int (nI 0), .int (nI 0), .ref mso, .ref mon, .ref mot, .ref man, .int (nI 0), .int (nI 0), .ref mst, .ref msm, .ref mtb, .ref mti, .ref mfr, .ref mbn, .ref mbs, .ref mde, .int (nI 0), .int (nI 0), .int (nI 0), .int (nI 0), .long ab, .long be, .ref maa, .ref mab, .ref mba, .ref mbb])), (maa, .inl (cs 1, 9, .inr (.inl (lt4 0 0 1 1)))), (mab, .inl (cs 1, 9, .inr (.inl (lt4 1 1 2 1)))), (mba, .inl (cs 1, 9, .inr (.inl (lt4 0 0 0 0)))), (mbb, .inl (cs 1, 9, .inr (.inl (lt4 1 1 1 1))))] (xQv D (fun (_u : Unit) => True) (fun (_u : Unit) => [(hm, .inr (12, [.ref ms, .ref mkp, .int (nI 0), .ref mtr, .int (nI 4), .int (nI 2), .int (nI 2), .int (nI 3), .int (nI 2), .int (nI 1), .ref mas, .int (nI 0), .int (nI 0), .int (nI 0), .ref mso, .ref mon, .ref mot, .ref man, .int (nI 0), .int (nI 0), .ref mst, .ref msm, .ref mtb, .ref mti, .ref mfr, .ref mbn, .ref mbs, .ref mde, .int (nI 0), .int (nI 0), .int (nI 0), .int (nI 0), .long 0, .long 1, .ref maa, .ref mab, .ref mba, .ref mbb])), (maa, .inl (cs 1, 9, .inr (.inl (lt4 0 0 1 1)))), (mab, .inl (cs 1, 9, .inr (.inl (lt4 1 1 2 1)))), (mba, .inl (cs 1, 9, .inr (.inl (lt4 0 0 0 0)))), (mbb, .inl (cs 1, 9, .inr (.inl (lt4 1 1 1 1))))])) := by
  refine xMet.intro (by decide) (Nat.le_of_ble_eq_true rfl) ?_
  intro p e s m args below meth c A ls C hP hD hS hl
  have hx := C.1
  have hb := C.2.1
  have hz := C.2.2.2.2.1
  have hown := C.2.2.2.1
  have hA := C.2.2.2.2.2.2.2.2.2
  have hAO := C.2.2.2.2.2.2.2.2.1.2.2
  replace hl : lv_has ls 5 [(0, .ref hm), (1, .int (nI 0)), (2, .long 1)] := hl
  obtain ⟨H, hH⟩ : ∃ H, H = s.heap := ⟨_, rfl⟩
  replace hP : va_P D vwCl [(hm, .inr (12, [.ref ms, .ref mkp, .int (nI 0), .ref mtr, .int (nI 4), .int (nI 2), .int (nI 2), .int (nI 3), .int (nI 2), .int (nI 1), .ref mas, .int (nI 0), .int (nI 0), .int (nI 0), .ref mso, .ref mon, .ref mot, .ref man, .int (nI 0), .int (nI 0), .ref mst, .ref msm, .ref mtb, .ref mti, .ref mfr, .ref mbn, .ref mbs, .ref mde, .int (nI 0), .int (nI 0), .int (nI 0), .int (nI 0), .long ab, .long be, .ref maa, .ref mab, .ref mba, .ref mbb])), (maa, .inl (cs 1, 9, .inr (.inl (lt4 0 0 1 1)))), (mab, .inl (cs 1, 9, .inr (.inl (lt4 1 1 2 1)))), (mba, .inl (cs 1, 9, .inr (.inl (lt4 0 0 0 0)))), (mbb, .inl (cs 1, 9, .inr (.inl (lt4 1 1 1 1))))] H := by rw [hH]; exact hP
  replace hS : va_S A s.heap H [] := by rw [hH]; exact hS
  obtain ⟨locs, hlocs⟩ : ∃ z : List Loc, z = [] := ⟨_, rfl⟩
  rw [← hlocs] at hS
  suffices hW : W p l e ({ frames := 2, cells := 0, slots := 0, locals := 58 } : Room) s m args below meth c H locs 0 0 (MQ below ((xQv D (fun (_u : Unit) => True) (fun (_u : Unit) => [(hm, .inr (12, [.ref ms, .ref mkp, .int (nI 0), .ref mtr, .int (nI 4), .int (nI 2), .int (nI 2), .int (nI 3), .int (nI 2), .int (nI 1), .ref mas, .int (nI 0), .int (nI 0), .int (nI 0), .ref mso, .ref mon, .ref mot, .ref man, .int (nI 0), .int (nI 0), .ref mst, .ref msm, .ref mtb, .ref mti, .ref mfr, .ref mbn, .ref mbs, .ref mde, .int (nI 0), .int (nI 0), .int (nI 0), .int (nI 0), .long 0, .long 1, .ref maa, .ref mab, .ref mba, .ref mbb])), (maa, .inl (cs 1, 9, .inr (.inl (lt4 0 0 1 1)))), (mab, .inl (cs 1, 9, .inr (.inl (lt4 1 1 2 1)))), (mba, .inl (cs 1, 9, .inr (.inl (lt4 0 0 0 0)))), (mbb, .inl (cs 1, 9, .inr (.inl (lt4 1 1 1 1))))])) A) args s 0 0 A) (F0 m 0 ls []) by rw [hlocs, hH] at hW; exact hW
  clear hH hlocs
  refine lv_aload_n hx hb dX12_goesDown_0 rfl (lv_at hl 0 rfl) ?_
  refine lv_lload_n hx hb dX12_goesDown_1 rfl (lv_at hl 2 rfl) ?_
  refine xput C hP hD hS 0 rfl rfl zuX12 tyX12 tyX12_ok nmX12 32 (by decide) zw6_5 rfl rfl rfl (Nat.le_of_ble_eq_true rfl) dX12_goesDown_2 ?_
  clear hP hD hS
  try clear locs
  try clear H
  intro H locs hP hD hS
  replace hP : va_P D vwCl [(hm, .inr (12, [.ref ms, .ref mkp, .int (nI 0), .ref mtr, .int (nI 4), .int (nI 2), .int (nI 2), .int (nI 3), .int (nI 2), .int (nI 1), .ref mas, .int (nI 0), .int (nI 0), .int (nI 0), .ref mso, .ref mon, .ref mot, .ref man, .int (nI 0), .int (nI 0), .ref mst, .ref msm, .ref mtb, .ref mti, .ref mfr, .ref mbn, .ref mbs, .ref mde, .int (nI 0), .int (nI 0), .int (nI 0), .int (nI 0), .long 1, .long be, .ref maa, .ref mab, .ref mba, .ref mbb])), (maa, .inl (cs 1, 9, .inr (.inl (lt4 0 0 1 1)))), (mab, .inl (cs 1, 9, .inr (.inl (lt4 1 1 2 1)))), (mba, .inl (cs 1, 9, .inr (.inl (lt4 0 0 0 0)))), (mbb, .inl (cs 1, 9, .inr (.inl (lt4 1 1 1 1))))] H := hP
  replace hD : va_D A [(hm, .inr (12, [.ref ms, .ref mkp, .int (nI 0), .ref mtr, .int (nI 4), .int (nI 2), .int (nI 2), .int (nI 3), .int (nI 2), .int (nI 1), .ref mas, .int (nI 0), .int (nI 0), .int (nI 0), .ref mso, .ref mon, .ref mot, .ref man, .int (nI 0), .int (nI 0), .ref mst, .ref msm, .ref mtb, .ref mti, .ref mfr, .ref mbn, .ref mbs, .ref mde, .int (nI 0), .int (nI 0), .int (nI 0), .int (nI 0), .long 1, .long be, .ref maa, .ref mab, .ref mba, .ref mbb])), (maa, .inl (cs 1, 9, .inr (.inl (lt4 0 0 1 1)))), (mab, .inl (cs 1, 9, .inr (.inl (lt4 1 1 2 1)))), (mba, .inl (cs 1, 9, .inr (.inl (lt4 0 0 0 0)))), (mbb, .inl (cs 1, 9, .inr (.inl (lt4 1 1 1 1))))] := hD
  refine lv_aload_n hx hb dX12_goesDown_5 rfl (lv_at hl 0 rfl) ?_
  refine lv_lconst (v := 1) hx hb dX12_goesDown_6 (by decide) ?_
  refine xput C hP hD hS 0 rfl rfl zuX12 tyX12 tyX12_ok nmX12 33 (by decide) zw6_6 rfl rfl rfl (Nat.le_of_ble_eq_true rfl) dX12_goesDown_7 ?_
  clear hP hD hS
  try clear locs
  try clear H
  intro H locs hP hD hS
  replace hP : va_P D vwCl [(hm, .inr (12, [.ref ms, .ref mkp, .int (nI 0), .ref mtr, .int (nI 4), .int (nI 2), .int (nI 2), .int (nI 3), .int (nI 2), .int (nI 1), .ref mas, .int (nI 0), .int (nI 0), .int (nI 0), .ref mso, .ref mon, .ref mot, .ref man, .int (nI 0), .int (nI 0), .ref mst, .ref msm, .ref mtb, .ref mti, .ref mfr, .ref mbn, .ref mbs, .ref mde, .int (nI 0), .int (nI 0), .int (nI 0), .int (nI 0), .long 1, .long 1, .ref maa, .ref mab, .ref mba, .ref mbb])), (maa, .inl (cs 1, 9, .inr (.inl (lt4 0 0 1 1)))), (mab, .inl (cs 1, 9, .inr (.inl (lt4 1 1 2 1)))), (mba, .inl (cs 1, 9, .inr (.inl (lt4 0 0 0 0)))), (mbb, .inl (cs 1, 9, .inr (.inl (lt4 1 1 1 1))))] H := hP
  replace hD : va_D A [(hm, .inr (12, [.ref ms, .ref mkp, .int (nI 0), .ref mtr, .int (nI 4), .int (nI 2), .int (nI 2), .int (nI 3), .int (nI 2), .int (nI 1), .ref mas, .int (nI 0), .int (nI 0), .int (nI 0), .ref mso, .ref mon, .ref mot, .ref man, .int (nI 0), .int (nI 0), .ref mst, .ref msm, .ref mtb, .ref mti, .ref mfr, .ref mbn, .ref mbs, .ref mde, .int (nI 0), .int (nI 0), .int (nI 0), .int (nI 0), .long 1, .long 1, .ref maa, .ref mab, .ref mba, .ref mbb])), (maa, .inl (cs 1, 9, .inr (.inl (lt4 0 0 1 1)))), (mab, .inl (cs 1, 9, .inr (.inl (lt4 1 1 2 1)))), (mba, .inl (cs 1, 9, .inr (.inl (lt4 0 0 0 0)))), (mbb, .inl (cs 1, 9, .inr (.inl (lt4 1 1 1 1))))] := hD
  refine lv_aload_n hx hb dX12_goesDown_10 rfl (lv_at hl 0 rfl) ?_
  refine xget C hP 0 rfl rfl zuX12 4 (by decide) zw5_217 rfl dX12_goesDown_11 ?_
  refine lv_iconst (v := nI 1) hx hb dX12_goesDown_14 (by decide) ?_
  refine lv_isub hx hb dX12_goesDown_15 ?_
  refine lv_topi (nm_r (e' := nI 3) (by decide) ?_)
  refine lv_istore (lv' := [(4, .int (nI 3)), (0, .ref hm), (1, .int (nI 0)), (2, .long 1)]) hx hb dX12_goesDown_16 hl (by decide) rfl ?_
  clear hl
  try clear ls
  intro ls hl
  refine lv_iload hx hb dX12_goesDown_18 (lv_at hl 0 rfl) ?_
  refine lv_iload_n hx hb dX12_goesDown_20 rfl (lv_at hl 2 rfl) ?_
  refine lv_icmp_lt (tgt := 89) hx hb dX12_goesDown_21 (by decide) (fun c => absurd c (by decide)) (fun _ => ?_)
  refine lv_aload_n hx hb dX12_goesDown_24 rfl (lv_at hl 1 rfl) ?_
  refine xget C hP 0 rfl rfl zuX12 31 (by decide) zw6_4 rfl dX12_goesDown_25 ?_
  refine lv_if_ne (tgt := 89) hx hb dX12_goesDown_28 (by decide) (fun c => absurd (by decide) c) (fun _ => ?_)
  refine lv_aload_n hx hb dX12_goesDown_31 rfl (lv_at hl 1 rfl) ?_
  refine lv_aload_n hx hb dX12_goesDown_32 rfl (lv_at hl 1 rfl) ?_
  refine xget C hP 0 rfl rfl zuX12 34 (by decide) zw6_7 rfl dX12_goesDown_33 ?_
  refine lv_iload hx hb dX12_goesDown_36 (lv_at hl 0 rfl) ?_
  refine xlald C hP 1 rfl 3 rfl (by decide) (by decide) dX12_goesDown_38 ?_
  refine lv_topl (nm_r (e' := 1) (by decide) ?_)
  refine lv_aload_n hx hb dX12_goesDown_39 rfl (lv_at hl 1 rfl) ?_
  refine xget C hP 0 rfl rfl zuX12 35 (by decide) zw6_8 rfl dX12_goesDown_40 ?_
  refine lv_iload hx hb dX12_goesDown_43 (lv_at hl 0 rfl) ?_
  refine xlald C hP 2 rfl 3 rfl (by decide) (by decide) dX12_goesDown_45 ?_
  refine lv_topl (nm_r (e' := 1) (by decide) ?_)
  refine lv_aload_n hx hb dX12_goesDown_46 rfl (lv_at hl 1 rfl) ?_
  refine xget C hP 0 rfl rfl zuX12 32 (by decide) zw6_5 rfl dX12_goesDown_47 ?_
  refine lv_aload_n hx hb dX12_goesDown_50 rfl (lv_at hl 1 rfl) ?_
  refine xget C hP 0 rfl rfl zuX12 33 (by decide) zw6_6 rfl dX12_goesDown_51 ?_
  refine xv (wr := [(maa, .inl (cs 1, 9, .inr (.inl (lt4 0 0 1 1)))), (mab, .inl (cs 1, 9, .inr (.inl (lt4 1 1 2 1)))), (mba, .inl (cs 1, 9, .inr (.inl (lt4 0 0 0 0)))), (mbb, .inl (cs 1, 9, .inr (.inl (lt4 1 1 1 1))))]) (xV (As := [.long 1, .long 1, .long 1, .long 1]) (rest := []) C (c_X12_multiplies l D cs hm ms mkp mtr mas mso mon mot man mst msm mtb mti mfr mbn mbs mde maa mab mba mbb 1 1 1 1 1 1 1 1 1 1 (by decide +kernel) (by decide +kernel) (by decide +kernel)) kX12_286 hP hD [0] rfl (by decide +kernel) 0 rfl rfl rfl ⟨Nat.le_of_ble_eq_true rfl, Nat.le_of_ble_eq_true rfl⟩ rfl hl.1 rfl (Nat.le_of_ble_eq_true rfl) dX12_goesDown_54 ⟨Nat.le_of_ble_eq_true rfl, Nat.le_of_ble_eq_true rfl⟩) hP hD hS hA [0] [1, 2, 3, 4] rfl rfl (by decide +kernel) (by decide +kernel) ?_
  clear hP hD hS
  try clear locs
  try clear H
  intro u_2 H locs hw_r_1 hP hD hS
  refine W.widen (k := 0) (n := 0) (Nat.le_of_ble_eq_true rfl) (Nat.le_of_ble_eq_true rfl) ?_
  replace hP : va_P D vwCl [(maa, .inl (cs 1, 9, .inr (.inl (lt4 0 0 1 1)))), (mab, .inl (cs 1, 9, .inr (.inl (lt4 1 1 2 1)))), (mba, .inl (cs 1, 9, .inr (.inl (lt4 0 0 0 0)))), (mbb, .inl (cs 1, 9, .inr (.inl (lt4 1 1 1 1)))), (hm, .inr (12, [.ref ms, .ref mkp, .int (nI 0), .ref mtr, .int (nI 4), .int (nI 2), .int (nI 2), .int (nI 3), .int (nI 2), .int (nI 1), .ref mas, .int (nI 0), .int (nI 0), .int (nI 0), .ref mso, .ref mon, .ref mot, .ref man, .int (nI 0), .int (nI 0), .ref mst, .ref msm, .ref mtb, .ref mti, .ref mfr, .ref mbn, .ref mbs, .ref mde, .int (nI 0), .int (nI 0), .int (nI 0), .int (nI 0), .long 1, .long 1, .ref maa, .ref mab, .ref mba, .ref mbb]))] H := hP
  replace hD : va_D A [(maa, .inl (cs 1, 9, .inr (.inl (lt4 0 0 1 1)))), (mab, .inl (cs 1, 9, .inr (.inl (lt4 1 1 2 1)))), (mba, .inl (cs 1, 9, .inr (.inl (lt4 0 0 0 0)))), (mbb, .inl (cs 1, 9, .inr (.inl (lt4 1 1 1 1)))), (hm, .inr (12, [.ref ms, .ref mkp, .int (nI 0), .ref mtr, .int (nI 4), .int (nI 2), .int (nI 2), .int (nI 3), .int (nI 2), .int (nI 1), .ref mas, .int (nI 0), .int (nI 0), .int (nI 0), .ref mso, .ref mon, .ref mot, .ref man, .int (nI 0), .int (nI 0), .ref mst, .ref msm, .ref mtb, .ref mti, .ref mfr, .ref mbn, .ref mbs, .ref mde, .int (nI 0), .int (nI 0), .int (nI 0), .int (nI 0), .long 1, .long 1, .ref maa, .ref mab, .ref mba, .ref mbb]))] := hD
  refine lv_aload_n hx hb dX12_goesDown_57 rfl (lv_at hl 1 rfl) ?_
  refine lv_aload_n hx hb dX12_goesDown_58 rfl (lv_at hl 1 rfl) ?_
  refine xget C hP 4 rfl rfl zuX12 32 (by decide) zw6_5 rfl dX12_goesDown_59 ?_
  refine lv_aload_n hx hb dX12_goesDown_62 rfl (lv_at hl 1 rfl) ?_
  refine xget C hP 4 rfl rfl zuX12 33 (by decide) zw6_6 rfl dX12_goesDown_63 ?_
  refine lv_aload_n hx hb dX12_goesDown_66 rfl (lv_at hl 1 rfl) ?_
  refine xget C hP 4 rfl rfl zuX12 36 (by decide) zw6_9 rfl dX12_goesDown_67 ?_
  refine lv_iload hx hb dX12_goesDown_70 (lv_at hl 0 rfl) ?_
  refine xlald C hP 2 rfl 3 rfl (by decide) (by decide) dX12_goesDown_72 ?_
  refine lv_topl (nm_r (e' := 0) (by decide) ?_)
  refine lv_aload_n hx hb dX12_goesDown_73 rfl (lv_at hl 1 rfl) ?_
  refine xget C hP 4 rfl rfl zuX12 37 (by decide) zw6_10 rfl dX12_goesDown_74 ?_
  refine lv_iload hx hb dX12_goesDown_77 (lv_at hl 0 rfl) ?_
  refine xlald C hP 3 rfl 3 rfl (by decide) (by decide) dX12_goesDown_79 ?_
  refine lv_topl (nm_r (e' := 1) (by decide) ?_)
  refine xv (wr := [(maa, .inl (cs 1, 9, .inr (.inl (lt4 0 0 1 1)))), (mab, .inl (cs 1, 9, .inr (.inl (lt4 1 1 2 1)))), (mba, .inl (cs 1, 9, .inr (.inl (lt4 0 0 0 0)))), (mbb, .inl (cs 1, 9, .inr (.inl (lt4 1 1 1 1))))]) (xV (As := [.long 1, .long 1, .long 0, .long 1]) (rest := []) C (c_X12_adds l D cs hm ms mkp mtr mas mso mon mot man mst msm mtb mti mfr mbn mbs mde maa mab mba mbb 1 1 1 1 0 1 1 0 1 1 1 1 (by decide +kernel) (by decide +kernel) (by decide +kernel) (by decide +kernel) (by decide +kernel) (by decide +kernel)) kX12_296 hP hD [4] rfl (by decide +kernel) 0 rfl rfl rfl ⟨Nat.le_of_ble_eq_true rfl, Nat.le_of_ble_eq_true rfl⟩ rfl hl.1 rfl (Nat.le_of_ble_eq_true rfl) dX12_goesDown_80 ⟨Nat.le_of_ble_eq_true rfl, Nat.le_of_ble_eq_true rfl⟩) hP hD hS hA [4] [0, 1, 2, 3] rfl rfl (by decide +kernel) (by decide +kernel) ?_
  clear hP hD hS
  try clear locs
  try clear H
  intro u_4 H locs hw_r_3 hP hD hS
  refine W.widen (k := 0) (n := 0) (Nat.le_of_ble_eq_true rfl) (Nat.le_of_ble_eq_true rfl) ?_
  replace hP : va_P D vwCl [(maa, .inl (cs 1, 9, .inr (.inl (lt4 0 0 1 1)))), (mab, .inl (cs 1, 9, .inr (.inl (lt4 1 1 2 1)))), (mba, .inl (cs 1, 9, .inr (.inl (lt4 0 0 0 0)))), (mbb, .inl (cs 1, 9, .inr (.inl (lt4 1 1 1 1)))), (hm, .inr (12, [.ref ms, .ref mkp, .int (nI 0), .ref mtr, .int (nI 4), .int (nI 2), .int (nI 2), .int (nI 3), .int (nI 2), .int (nI 1), .ref mas, .int (nI 0), .int (nI 0), .int (nI 0), .ref mso, .ref mon, .ref mot, .ref man, .int (nI 0), .int (nI 0), .ref mst, .ref msm, .ref mtb, .ref mti, .ref mfr, .ref mbn, .ref mbs, .ref mde, .int (nI 0), .int (nI 0), .int (nI 0), .int (nI 0), .long 1, .long 1, .ref maa, .ref mab, .ref mba, .ref mbb]))] H := hP
  replace hD : va_D A [(maa, .inl (cs 1, 9, .inr (.inl (lt4 0 0 1 1)))), (mab, .inl (cs 1, 9, .inr (.inl (lt4 1 1 2 1)))), (mba, .inl (cs 1, 9, .inr (.inl (lt4 0 0 0 0)))), (mbb, .inl (cs 1, 9, .inr (.inl (lt4 1 1 1 1)))), (hm, .inr (12, [.ref ms, .ref mkp, .int (nI 0), .ref mtr, .int (nI 4), .int (nI 2), .int (nI 2), .int (nI 3), .int (nI 2), .int (nI 1), .ref mas, .int (nI 0), .int (nI 0), .int (nI 0), .ref mso, .ref mon, .ref mot, .ref man, .int (nI 0), .int (nI 0), .ref mst, .ref msm, .ref mtb, .ref mti, .ref mfr, .ref mbn, .ref mbs, .ref mde, .int (nI 0), .int (nI 0), .int (nI 0), .int (nI 0), .long 1, .long 1, .ref maa, .ref mab, .ref mba, .ref mbb]))] := hD
  refine lv_iinc (v := nI 2) (lv' := [(4, .int (nI 2)), (0, .ref hm), (1, .int (nI 0)), (2, .long 1)]) hx hb dX12_goesDown_83 hl (k := 0) rfl (by decide) (by decide) rfl ?_
  clear hl
  try clear ls
  intro ls hl
  refine lv_goto (tgt := 18) hx hb dX12_goesDown_86 (by decide) ?_
  refine lv_iload hx hb dX12_goesDown_18 (lv_at hl 0 rfl) ?_
  refine lv_iload_n hx hb dX12_goesDown_20 rfl (lv_at hl 2 rfl) ?_
  refine lv_icmp_lt (tgt := 89) hx hb dX12_goesDown_21 (by decide) (fun c => absurd c (by decide)) (fun _ => ?_)
  refine lv_aload_n hx hb dX12_goesDown_24 rfl (lv_at hl 1 rfl) ?_
  refine xget C hP 4 rfl rfl zuX12 31 (by decide) zw6_4 rfl dX12_goesDown_25 ?_
  refine lv_if_ne (tgt := 89) hx hb dX12_goesDown_28 (by decide) (fun c => absurd (by decide) c) (fun _ => ?_)
  refine lv_aload_n hx hb dX12_goesDown_31 rfl (lv_at hl 1 rfl) ?_
  refine lv_aload_n hx hb dX12_goesDown_32 rfl (lv_at hl 1 rfl) ?_
  refine xget C hP 4 rfl rfl zuX12 34 (by decide) zw6_7 rfl dX12_goesDown_33 ?_
  refine lv_iload hx hb dX12_goesDown_36 (lv_at hl 0 rfl) ?_
  refine xlald C hP 0 rfl 2 rfl (by decide) (by decide) dX12_goesDown_38 ?_
  refine lv_topl (nm_r (e' := 1) (by decide) ?_)
  refine lv_aload_n hx hb dX12_goesDown_39 rfl (lv_at hl 1 rfl) ?_
  refine xget C hP 4 rfl rfl zuX12 35 (by decide) zw6_8 rfl dX12_goesDown_40 ?_
  refine lv_iload hx hb dX12_goesDown_43 (lv_at hl 0 rfl) ?_
  refine xlald C hP 1 rfl 2 rfl (by decide) (by decide) dX12_goesDown_45 ?_
  refine lv_topl (nm_r (e' := 2) (by decide) ?_)
  refine lv_aload_n hx hb dX12_goesDown_46 rfl (lv_at hl 1 rfl) ?_
  refine xget C hP 4 rfl rfl zuX12 32 (by decide) zw6_5 rfl dX12_goesDown_47 ?_
  refine lv_aload_n hx hb dX12_goesDown_50 rfl (lv_at hl 1 rfl) ?_
  refine xget C hP 4 rfl rfl zuX12 33 (by decide) zw6_6 rfl dX12_goesDown_51 ?_
  refine xv (wr := [(maa, .inl (cs 1, 9, .inr (.inl (lt4 0 0 1 1)))), (mab, .inl (cs 1, 9, .inr (.inl (lt4 1 1 2 1)))), (mba, .inl (cs 1, 9, .inr (.inl (lt4 0 0 0 0)))), (mbb, .inl (cs 1, 9, .inr (.inl (lt4 1 1 1 1))))]) (xV (As := [.long 1, .long 2, .long 1, .long 1]) (rest := []) C (c_X12_multiplies l D cs hm ms mkp mtr mas mso mon mot man mst msm mtb mti mfr mbn mbs mde maa mab mba mbb 1 1 1 2 1 1 1 2 1 2 (by decide +kernel) (by decide +kernel) (by decide +kernel)) kX12_286 hP hD [4] rfl (by decide +kernel) 0 rfl rfl rfl ⟨Nat.le_of_ble_eq_true rfl, Nat.le_of_ble_eq_true rfl⟩ rfl hl.1 rfl (Nat.le_of_ble_eq_true rfl) dX12_goesDown_54 ⟨Nat.le_of_ble_eq_true rfl, Nat.le_of_ble_eq_true rfl⟩) hP hD hS hA [4] [0, 1, 2, 3] rfl rfl (by decide +kernel) (by decide +kernel) ?_
  clear hP hD hS
  try clear locs
  try clear H
  intro u_6 H locs hw_r_5 hP hD hS
  refine W.widen (k := 0) (n := 0) (Nat.le_of_ble_eq_true rfl) (Nat.le_of_ble_eq_true rfl) ?_
  replace hP : va_P D vwCl [(maa, .inl (cs 1, 9, .inr (.inl (lt4 0 0 1 1)))), (mab, .inl (cs 1, 9, .inr (.inl (lt4 1 1 2 1)))), (mba, .inl (cs 1, 9, .inr (.inl (lt4 0 0 0 0)))), (mbb, .inl (cs 1, 9, .inr (.inl (lt4 1 1 1 1)))), (hm, .inr (12, [.ref ms, .ref mkp, .int (nI 0), .ref mtr, .int (nI 4), .int (nI 2), .int (nI 2), .int (nI 3), .int (nI 2), .int (nI 1), .ref mas, .int (nI 0), .int (nI 0), .int (nI 0), .ref mso, .ref mon, .ref mot, .ref man, .int (nI 0), .int (nI 0), .ref mst, .ref msm, .ref mtb, .ref mti, .ref mfr, .ref mbn, .ref mbs, .ref mde, .int (nI 0), .int (nI 0), .int (nI 0), .int (nI 0), .long 1, .long 2, .ref maa, .ref mab, .ref mba, .ref mbb]))] H := hP
  replace hD : va_D A [(maa, .inl (cs 1, 9, .inr (.inl (lt4 0 0 1 1)))), (mab, .inl (cs 1, 9, .inr (.inl (lt4 1 1 2 1)))), (mba, .inl (cs 1, 9, .inr (.inl (lt4 0 0 0 0)))), (mbb, .inl (cs 1, 9, .inr (.inl (lt4 1 1 1 1)))), (hm, .inr (12, [.ref ms, .ref mkp, .int (nI 0), .ref mtr, .int (nI 4), .int (nI 2), .int (nI 2), .int (nI 3), .int (nI 2), .int (nI 1), .ref mas, .int (nI 0), .int (nI 0), .int (nI 0), .ref mso, .ref mon, .ref mot, .ref man, .int (nI 0), .int (nI 0), .ref mst, .ref msm, .ref mtb, .ref mti, .ref mfr, .ref mbn, .ref mbs, .ref mde, .int (nI 0), .int (nI 0), .int (nI 0), .int (nI 0), .long 1, .long 2, .ref maa, .ref mab, .ref mba, .ref mbb]))] := hD
  refine lv_aload_n hx hb dX12_goesDown_57 rfl (lv_at hl 1 rfl) ?_
  refine lv_aload_n hx hb dX12_goesDown_58 rfl (lv_at hl 1 rfl) ?_
  refine xget C hP 4 rfl rfl zuX12 32 (by decide) zw6_5 rfl dX12_goesDown_59 ?_
  refine lv_aload_n hx hb dX12_goesDown_62 rfl (lv_at hl 1 rfl) ?_
  refine xget C hP 4 rfl rfl zuX12 33 (by decide) zw6_6 rfl dX12_goesDown_63 ?_
  refine lv_aload_n hx hb dX12_goesDown_66 rfl (lv_at hl 1 rfl) ?_
  refine xget C hP 4 rfl rfl zuX12 36 (by decide) zw6_9 rfl dX12_goesDown_67 ?_
  refine lv_iload hx hb dX12_goesDown_70 (lv_at hl 0 rfl) ?_
  refine xlald C hP 2 rfl 2 rfl (by decide) (by decide) dX12_goesDown_72 ?_
  refine lv_topl (nm_r (e' := 0) (by decide) ?_)
  refine lv_aload_n hx hb dX12_goesDown_73 rfl (lv_at hl 1 rfl) ?_
  refine xget C hP 4 rfl rfl zuX12 37 (by decide) zw6_10 rfl dX12_goesDown_74 ?_
  refine lv_iload hx hb dX12_goesDown_77 (lv_at hl 0 rfl) ?_
  refine xlald C hP 3 rfl 2 rfl (by decide) (by decide) dX12_goesDown_79 ?_
  refine lv_topl (nm_r (e' := 1) (by decide) ?_)
  refine xv (wr := [(maa, .inl (cs 1, 9, .inr (.inl (lt4 0 0 1 1)))), (mab, .inl (cs 1, 9, .inr (.inl (lt4 1 1 2 1)))), (mba, .inl (cs 1, 9, .inr (.inl (lt4 0 0 0 0)))), (mbb, .inl (cs 1, 9, .inr (.inl (lt4 1 1 1 1))))]) (xV (As := [.long 1, .long 2, .long 0, .long 1]) (rest := []) C (c_X12_adds l D cs hm ms mkp mtr mas mso mon mot man mst msm mtb mti mfr mbn mbs mde maa mab mba mbb 1 2 1 2 0 1 1 0 1 2 1 2 (by decide +kernel) (by decide +kernel) (by decide +kernel) (by decide +kernel) (by decide +kernel) (by decide +kernel)) kX12_296 hP hD [4] rfl (by decide +kernel) 0 rfl rfl rfl ⟨Nat.le_of_ble_eq_true rfl, Nat.le_of_ble_eq_true rfl⟩ rfl hl.1 rfl (Nat.le_of_ble_eq_true rfl) dX12_goesDown_80 ⟨Nat.le_of_ble_eq_true rfl, Nat.le_of_ble_eq_true rfl⟩) hP hD hS hA [4] [0, 1, 2, 3] rfl rfl (by decide +kernel) (by decide +kernel) ?_
  clear hP hD hS
  try clear locs
  try clear H
  intro u_8 H locs hw_r_7 hP hD hS
  refine W.widen (k := 0) (n := 0) (Nat.le_of_ble_eq_true rfl) (Nat.le_of_ble_eq_true rfl) ?_
  replace hP : va_P D vwCl [(maa, .inl (cs 1, 9, .inr (.inl (lt4 0 0 1 1)))), (mab, .inl (cs 1, 9, .inr (.inl (lt4 1 1 2 1)))), (mba, .inl (cs 1, 9, .inr (.inl (lt4 0 0 0 0)))), (mbb, .inl (cs 1, 9, .inr (.inl (lt4 1 1 1 1)))), (hm, .inr (12, [.ref ms, .ref mkp, .int (nI 0), .ref mtr, .int (nI 4), .int (nI 2), .int (nI 2), .int (nI 3), .int (nI 2), .int (nI 1), .ref mas, .int (nI 0), .int (nI 0), .int (nI 0), .ref mso, .ref mon, .ref mot, .ref man, .int (nI 0), .int (nI 0), .ref mst, .ref msm, .ref mtb, .ref mti, .ref mfr, .ref mbn, .ref mbs, .ref mde, .int (nI 0), .int (nI 0), .int (nI 0), .int (nI 0), .long 1, .long 2, .ref maa, .ref mab, .ref mba, .ref mbb]))] H := hP
  replace hD : va_D A [(maa, .inl (cs 1, 9, .inr (.inl (lt4 0 0 1 1)))), (mab, .inl (cs 1, 9, .inr (.inl (lt4 1 1 2 1)))), (mba, .inl (cs 1, 9, .inr (.inl (lt4 0 0 0 0)))), (mbb, .inl (cs 1, 9, .inr (.inl (lt4 1 1 1 1)))), (hm, .inr (12, [.ref ms, .ref mkp, .int (nI 0), .ref mtr, .int (nI 4), .int (nI 2), .int (nI 2), .int (nI 3), .int (nI 2), .int (nI 1), .ref mas, .int (nI 0), .int (nI 0), .int (nI 0), .ref mso, .ref mon, .ref mot, .ref man, .int (nI 0), .int (nI 0), .ref mst, .ref msm, .ref mtb, .ref mti, .ref mfr, .ref mbn, .ref mbs, .ref mde, .int (nI 0), .int (nI 0), .int (nI 0), .int (nI 0), .long 1, .long 2, .ref maa, .ref mab, .ref mba, .ref mbb]))] := hD
  refine lv_iinc (v := nI 1) (lv' := [(4, .int (nI 1)), (0, .ref hm), (1, .int (nI 0)), (2, .long 1)]) hx hb dX12_goesDown_83 hl (k := 0) rfl (by decide) (by decide) rfl ?_
  clear hl
  try clear ls
  intro ls hl
  refine lv_goto (tgt := 18) hx hb dX12_goesDown_86 (by decide) ?_
  refine lv_iload hx hb dX12_goesDown_18 (lv_at hl 0 rfl) ?_
  refine lv_iload_n hx hb dX12_goesDown_20 rfl (lv_at hl 2 rfl) ?_
  refine lv_icmp_lt (tgt := 89) hx hb dX12_goesDown_21 (by decide) (fun c => absurd c (by decide)) (fun _ => ?_)
  refine lv_aload_n hx hb dX12_goesDown_24 rfl (lv_at hl 1 rfl) ?_
  refine xget C hP 4 rfl rfl zuX12 31 (by decide) zw6_4 rfl dX12_goesDown_25 ?_
  refine lv_if_ne (tgt := 89) hx hb dX12_goesDown_28 (by decide) (fun c => absurd (by decide) c) (fun _ => ?_)
  refine lv_aload_n hx hb dX12_goesDown_31 rfl (lv_at hl 1 rfl) ?_
  refine lv_aload_n hx hb dX12_goesDown_32 rfl (lv_at hl 1 rfl) ?_
  refine xget C hP 4 rfl rfl zuX12 34 (by decide) zw6_7 rfl dX12_goesDown_33 ?_
  refine lv_iload hx hb dX12_goesDown_36 (lv_at hl 0 rfl) ?_
  refine xlald C hP 0 rfl 1 rfl (by decide) (by decide) dX12_goesDown_38 ?_
  refine lv_topl (nm_r (e' := 0) (by decide) ?_)
  refine lv_aload_n hx hb dX12_goesDown_39 rfl (lv_at hl 1 rfl) ?_
  refine xget C hP 4 rfl rfl zuX12 35 (by decide) zw6_8 rfl dX12_goesDown_40 ?_
  refine lv_iload hx hb dX12_goesDown_43 (lv_at hl 0 rfl) ?_
  refine xlald C hP 1 rfl 1 rfl (by decide) (by decide) dX12_goesDown_45 ?_
  refine lv_topl (nm_r (e' := 1) (by decide) ?_)
  refine lv_aload_n hx hb dX12_goesDown_46 rfl (lv_at hl 1 rfl) ?_
  refine xget C hP 4 rfl rfl zuX12 32 (by decide) zw6_5 rfl dX12_goesDown_47 ?_
  refine lv_aload_n hx hb dX12_goesDown_50 rfl (lv_at hl 1 rfl) ?_
  refine xget C hP 4 rfl rfl zuX12 33 (by decide) zw6_6 rfl dX12_goesDown_51 ?_
  refine xv (wr := [(maa, .inl (cs 1, 9, .inr (.inl (lt4 0 0 1 1)))), (mab, .inl (cs 1, 9, .inr (.inl (lt4 1 1 2 1)))), (mba, .inl (cs 1, 9, .inr (.inl (lt4 0 0 0 0)))), (mbb, .inl (cs 1, 9, .inr (.inl (lt4 1 1 1 1))))]) (xV (As := [.long 0, .long 1, .long 1, .long 2]) (rest := []) C (c_X12_multiplies l D cs hm ms mkp mtr mas mso mon mot man mst msm mtb mti mfr mbn mbs mde maa mab mba mbb 1 2 0 1 1 2 0 2 0 1 (by decide +kernel) (by decide +kernel) (by decide +kernel)) kX12_286 hP hD [4] rfl (by decide +kernel) 0 rfl rfl rfl ⟨Nat.le_of_ble_eq_true rfl, Nat.le_of_ble_eq_true rfl⟩ rfl hl.1 rfl (Nat.le_of_ble_eq_true rfl) dX12_goesDown_54 ⟨Nat.le_of_ble_eq_true rfl, Nat.le_of_ble_eq_true rfl⟩) hP hD hS hA [4] [0, 1, 2, 3] rfl rfl (by decide +kernel) (by decide +kernel) ?_
  clear hP hD hS
  try clear locs
  try clear H
  intro u_10 H locs hw_r_9 hP hD hS
  refine W.widen (k := 0) (n := 0) (Nat.le_of_ble_eq_true rfl) (Nat.le_of_ble_eq_true rfl) ?_
  replace hP : va_P D vwCl [(maa, .inl (cs 1, 9, .inr (.inl (lt4 0 0 1 1)))), (mab, .inl (cs 1, 9, .inr (.inl (lt4 1 1 2 1)))), (mba, .inl (cs 1, 9, .inr (.inl (lt4 0 0 0 0)))), (mbb, .inl (cs 1, 9, .inr (.inl (lt4 1 1 1 1)))), (hm, .inr (12, [.ref ms, .ref mkp, .int (nI 0), .ref mtr, .int (nI 4), .int (nI 2), .int (nI 2), .int (nI 3), .int (nI 2), .int (nI 1), .ref mas, .int (nI 0), .int (nI 0), .int (nI 0), .ref mso, .ref mon, .ref mot, .ref man, .int (nI 0), .int (nI 0), .ref mst, .ref msm, .ref mtb, .ref mti, .ref mfr, .ref mbn, .ref mbs, .ref mde, .int (nI 0), .int (nI 0), .int (nI 0), .int (nI 0), .long 0, .long 1, .ref maa, .ref mab, .ref mba, .ref mbb]))] H := hP
  replace hD : va_D A [(maa, .inl (cs 1, 9, .inr (.inl (lt4 0 0 1 1)))), (mab, .inl (cs 1, 9, .inr (.inl (lt4 1 1 2 1)))), (mba, .inl (cs 1, 9, .inr (.inl (lt4 0 0 0 0)))), (mbb, .inl (cs 1, 9, .inr (.inl (lt4 1 1 1 1)))), (hm, .inr (12, [.ref ms, .ref mkp, .int (nI 0), .ref mtr, .int (nI 4), .int (nI 2), .int (nI 2), .int (nI 3), .int (nI 2), .int (nI 1), .ref mas, .int (nI 0), .int (nI 0), .int (nI 0), .ref mso, .ref mon, .ref mot, .ref man, .int (nI 0), .int (nI 0), .ref mst, .ref msm, .ref mtb, .ref mti, .ref mfr, .ref mbn, .ref mbs, .ref mde, .int (nI 0), .int (nI 0), .int (nI 0), .int (nI 0), .long 0, .long 1, .ref maa, .ref mab, .ref mba, .ref mbb]))] := hD
  refine lv_aload_n hx hb dX12_goesDown_57 rfl (lv_at hl 1 rfl) ?_
  refine lv_aload_n hx hb dX12_goesDown_58 rfl (lv_at hl 1 rfl) ?_
  refine xget C hP 4 rfl rfl zuX12 32 (by decide) zw6_5 rfl dX12_goesDown_59 ?_
  refine lv_aload_n hx hb dX12_goesDown_62 rfl (lv_at hl 1 rfl) ?_
  refine xget C hP 4 rfl rfl zuX12 33 (by decide) zw6_6 rfl dX12_goesDown_63 ?_
  refine lv_aload_n hx hb dX12_goesDown_66 rfl (lv_at hl 1 rfl) ?_
  refine xget C hP 4 rfl rfl zuX12 36 (by decide) zw6_9 rfl dX12_goesDown_67 ?_
  refine lv_iload hx hb dX12_goesDown_70 (lv_at hl 0 rfl) ?_
  refine xlald C hP 2 rfl 1 rfl (by decide) (by decide) dX12_goesDown_72 ?_
  refine lv_topl (nm_r (e' := 0) (by decide) ?_)
  refine lv_aload_n hx hb dX12_goesDown_73 rfl (lv_at hl 1 rfl) ?_
  refine xget C hP 4 rfl rfl zuX12 37 (by decide) zw6_10 rfl dX12_goesDown_74 ?_
  refine lv_iload hx hb dX12_goesDown_77 (lv_at hl 0 rfl) ?_
  refine xlald C hP 3 rfl 1 rfl (by decide) (by decide) dX12_goesDown_79 ?_
  refine lv_topl (nm_r (e' := 1) (by decide) ?_)
  refine xv (wr := [(maa, .inl (cs 1, 9, .inr (.inl (lt4 0 0 1 1)))), (mab, .inl (cs 1, 9, .inr (.inl (lt4 1 1 2 1)))), (mba, .inl (cs 1, 9, .inr (.inl (lt4 0 0 0 0)))), (mbb, .inl (cs 1, 9, .inr (.inl (lt4 1 1 1 1))))]) (xV (As := [.long 0, .long 1, .long 0, .long 1]) (rest := []) C (c_X12_adds l D cs hm ms mkp mtr mas mso mon mot man mst msm mtb mti mfr mbn mbs mde maa mab mba mbb 0 1 0 1 0 1 0 0 0 1 0 1 (by decide +kernel) (by decide +kernel) (by decide +kernel) (by decide +kernel) (by decide +kernel) (by decide +kernel)) kX12_296 hP hD [4] rfl (by decide +kernel) 0 rfl rfl rfl ⟨Nat.le_of_ble_eq_true rfl, Nat.le_of_ble_eq_true rfl⟩ rfl hl.1 rfl (Nat.le_of_ble_eq_true rfl) dX12_goesDown_80 ⟨Nat.le_of_ble_eq_true rfl, Nat.le_of_ble_eq_true rfl⟩) hP hD hS hA [4] [0, 1, 2, 3] rfl rfl (by decide +kernel) (by decide +kernel) ?_
  clear hP hD hS
  try clear locs
  try clear H
  intro u_12 H locs hw_r_11 hP hD hS
  refine W.widen (k := 0) (n := 0) (Nat.le_of_ble_eq_true rfl) (Nat.le_of_ble_eq_true rfl) ?_
  replace hP : va_P D vwCl [(maa, .inl (cs 1, 9, .inr (.inl (lt4 0 0 1 1)))), (mab, .inl (cs 1, 9, .inr (.inl (lt4 1 1 2 1)))), (mba, .inl (cs 1, 9, .inr (.inl (lt4 0 0 0 0)))), (mbb, .inl (cs 1, 9, .inr (.inl (lt4 1 1 1 1)))), (hm, .inr (12, [.ref ms, .ref mkp, .int (nI 0), .ref mtr, .int (nI 4), .int (nI 2), .int (nI 2), .int (nI 3), .int (nI 2), .int (nI 1), .ref mas, .int (nI 0), .int (nI 0), .int (nI 0), .ref mso, .ref mon, .ref mot, .ref man, .int (nI 0), .int (nI 0), .ref mst, .ref msm, .ref mtb, .ref mti, .ref mfr, .ref mbn, .ref mbs, .ref mde, .int (nI 0), .int (nI 0), .int (nI 0), .int (nI 0), .long 0, .long 1, .ref maa, .ref mab, .ref mba, .ref mbb]))] H := hP
  replace hD : va_D A [(maa, .inl (cs 1, 9, .inr (.inl (lt4 0 0 1 1)))), (mab, .inl (cs 1, 9, .inr (.inl (lt4 1 1 2 1)))), (mba, .inl (cs 1, 9, .inr (.inl (lt4 0 0 0 0)))), (mbb, .inl (cs 1, 9, .inr (.inl (lt4 1 1 1 1)))), (hm, .inr (12, [.ref ms, .ref mkp, .int (nI 0), .ref mtr, .int (nI 4), .int (nI 2), .int (nI 2), .int (nI 3), .int (nI 2), .int (nI 1), .ref mas, .int (nI 0), .int (nI 0), .int (nI 0), .ref mso, .ref mon, .ref mot, .ref man, .int (nI 0), .int (nI 0), .ref mst, .ref msm, .ref mtb, .ref mti, .ref mfr, .ref mbn, .ref mbs, .ref mde, .int (nI 0), .int (nI 0), .int (nI 0), .int (nI 0), .long 0, .long 1, .ref maa, .ref mab, .ref mba, .ref mbb]))] := hD
  refine lv_iinc (v := nI 0) (lv' := [(4, .int (nI 0)), (0, .ref hm), (1, .int (nI 0)), (2, .long 1)]) hx hb dX12_goesDown_83 hl (k := 0) rfl (by decide) (by decide) rfl ?_
  clear hl
  try clear ls
  intro ls hl
  refine lv_goto (tgt := 18) hx hb dX12_goesDown_86 (by decide) ?_
  refine lv_iload hx hb dX12_goesDown_18 (lv_at hl 0 rfl) ?_
  refine lv_iload_n hx hb dX12_goesDown_20 rfl (lv_at hl 2 rfl) ?_
  refine lv_icmp_lt (tgt := 89) hx hb dX12_goesDown_21 (by decide) (fun c => absurd c (by decide)) (fun _ => ?_)
  refine lv_aload_n hx hb dX12_goesDown_24 rfl (lv_at hl 1 rfl) ?_
  refine xget C hP 4 rfl rfl zuX12 31 (by decide) zw6_4 rfl dX12_goesDown_25 ?_
  refine lv_if_ne (tgt := 89) hx hb dX12_goesDown_28 (by decide) (fun c => absurd (by decide) c) (fun _ => ?_)
  refine lv_aload_n hx hb dX12_goesDown_31 rfl (lv_at hl 1 rfl) ?_
  refine lv_aload_n hx hb dX12_goesDown_32 rfl (lv_at hl 1 rfl) ?_
  refine xget C hP 4 rfl rfl zuX12 34 (by decide) zw6_7 rfl dX12_goesDown_33 ?_
  refine lv_iload hx hb dX12_goesDown_36 (lv_at hl 0 rfl) ?_
  refine xlald C hP 0 rfl 0 rfl (by decide) (by decide) dX12_goesDown_38 ?_
  refine lv_topl (nm_r (e' := 0) (by decide) ?_)
  refine lv_aload_n hx hb dX12_goesDown_39 rfl (lv_at hl 1 rfl) ?_
  refine xget C hP 4 rfl rfl zuX12 35 (by decide) zw6_8 rfl dX12_goesDown_40 ?_
  refine lv_iload hx hb dX12_goesDown_43 (lv_at hl 0 rfl) ?_
  refine xlald C hP 1 rfl 0 rfl (by decide) (by decide) dX12_goesDown_45 ?_
  refine lv_topl (nm_r (e' := 1) (by decide) ?_)
  refine lv_aload_n hx hb dX12_goesDown_46 rfl (lv_at hl 1 rfl) ?_
  refine xget C hP 4 rfl rfl zuX12 32 (by decide) zw6_5 rfl dX12_goesDown_47 ?_
  refine lv_aload_n hx hb dX12_goesDown_50 rfl (lv_at hl 1 rfl) ?_
  refine xget C hP 4 rfl rfl zuX12 33 (by decide) zw6_6 rfl dX12_goesDown_51 ?_
  refine xv (wr := [(maa, .inl (cs 1, 9, .inr (.inl (lt4 0 0 1 1)))), (mab, .inl (cs 1, 9, .inr (.inl (lt4 1 1 2 1)))), (mba, .inl (cs 1, 9, .inr (.inl (lt4 0 0 0 0)))), (mbb, .inl (cs 1, 9, .inr (.inl (lt4 1 1 1 1))))]) (xV (As := [.long 0, .long 1, .long 0, .long 1]) (rest := []) C (c_X12_multiplies l D cs hm ms mkp mtr mas mso mon mot man mst msm mtb mti mfr mbn mbs mde maa mab mba mbb 0 1 0 1 0 1 0 1 0 1 (by decide +kernel) (by decide +kernel) (by decide +kernel)) kX12_286 hP hD [4] rfl (by decide +kernel) 0 rfl rfl rfl ⟨Nat.le_of_ble_eq_true rfl, Nat.le_of_ble_eq_true rfl⟩ rfl hl.1 rfl (Nat.le_of_ble_eq_true rfl) dX12_goesDown_54 ⟨Nat.le_of_ble_eq_true rfl, Nat.le_of_ble_eq_true rfl⟩) hP hD hS hA [4] [0, 1, 2, 3] rfl rfl (by decide +kernel) (by decide +kernel) ?_
  clear hP hD hS
  try clear locs
  try clear H
  intro u_14 H locs hw_r_13 hP hD hS
  refine W.widen (k := 0) (n := 0) (Nat.le_of_ble_eq_true rfl) (Nat.le_of_ble_eq_true rfl) ?_
  replace hP : va_P D vwCl [(maa, .inl (cs 1, 9, .inr (.inl (lt4 0 0 1 1)))), (mab, .inl (cs 1, 9, .inr (.inl (lt4 1 1 2 1)))), (mba, .inl (cs 1, 9, .inr (.inl (lt4 0 0 0 0)))), (mbb, .inl (cs 1, 9, .inr (.inl (lt4 1 1 1 1)))), (hm, .inr (12, [.ref ms, .ref mkp, .int (nI 0), .ref mtr, .int (nI 4), .int (nI 2), .int (nI 2), .int (nI 3), .int (nI 2), .int (nI 1), .ref mas, .int (nI 0), .int (nI 0), .int (nI 0), .ref mso, .ref mon, .ref mot, .ref man, .int (nI 0), .int (nI 0), .ref mst, .ref msm, .ref mtb, .ref mti, .ref mfr, .ref mbn, .ref mbs, .ref mde, .int (nI 0), .int (nI 0), .int (nI 0), .int (nI 0), .long 0, .long 1, .ref maa, .ref mab, .ref mba, .ref mbb]))] H := hP
  replace hD : va_D A [(maa, .inl (cs 1, 9, .inr (.inl (lt4 0 0 1 1)))), (mab, .inl (cs 1, 9, .inr (.inl (lt4 1 1 2 1)))), (mba, .inl (cs 1, 9, .inr (.inl (lt4 0 0 0 0)))), (mbb, .inl (cs 1, 9, .inr (.inl (lt4 1 1 1 1)))), (hm, .inr (12, [.ref ms, .ref mkp, .int (nI 0), .ref mtr, .int (nI 4), .int (nI 2), .int (nI 2), .int (nI 3), .int (nI 2), .int (nI 1), .ref mas, .int (nI 0), .int (nI 0), .int (nI 0), .ref mso, .ref mon, .ref mot, .ref man, .int (nI 0), .int (nI 0), .ref mst, .ref msm, .ref mtb, .ref mti, .ref mfr, .ref mbn, .ref mbs, .ref mde, .int (nI 0), .int (nI 0), .int (nI 0), .int (nI 0), .long 0, .long 1, .ref maa, .ref mab, .ref mba, .ref mbb]))] := hD
  refine lv_aload_n hx hb dX12_goesDown_57 rfl (lv_at hl 1 rfl) ?_
  refine lv_aload_n hx hb dX12_goesDown_58 rfl (lv_at hl 1 rfl) ?_
  refine xget C hP 4 rfl rfl zuX12 32 (by decide) zw6_5 rfl dX12_goesDown_59 ?_
  refine lv_aload_n hx hb dX12_goesDown_62 rfl (lv_at hl 1 rfl) ?_
  refine xget C hP 4 rfl rfl zuX12 33 (by decide) zw6_6 rfl dX12_goesDown_63 ?_
  refine lv_aload_n hx hb dX12_goesDown_66 rfl (lv_at hl 1 rfl) ?_
  refine xget C hP 4 rfl rfl zuX12 36 (by decide) zw6_9 rfl dX12_goesDown_67 ?_
  refine lv_iload hx hb dX12_goesDown_70 (lv_at hl 0 rfl) ?_
  refine xlald C hP 2 rfl 0 rfl (by decide) (by decide) dX12_goesDown_72 ?_
  refine lv_topl (nm_r (e' := 0) (by decide) ?_)
  refine lv_aload_n hx hb dX12_goesDown_73 rfl (lv_at hl 1 rfl) ?_
  refine xget C hP 4 rfl rfl zuX12 37 (by decide) zw6_10 rfl dX12_goesDown_74 ?_
  refine lv_iload hx hb dX12_goesDown_77 (lv_at hl 0 rfl) ?_
  refine xlald C hP 3 rfl 0 rfl (by decide) (by decide) dX12_goesDown_79 ?_
  refine lv_topl (nm_r (e' := 1) (by decide) ?_)
  refine xv (wr := [(maa, .inl (cs 1, 9, .inr (.inl (lt4 0 0 1 1)))), (mab, .inl (cs 1, 9, .inr (.inl (lt4 1 1 2 1)))), (mba, .inl (cs 1, 9, .inr (.inl (lt4 0 0 0 0)))), (mbb, .inl (cs 1, 9, .inr (.inl (lt4 1 1 1 1))))]) (xV (As := [.long 0, .long 1, .long 0, .long 1]) (rest := []) C (c_X12_adds l D cs hm ms mkp mtr mas mso mon mot man mst msm mtb mti mfr mbn mbs mde maa mab mba mbb 0 1 0 1 0 1 0 0 0 1 0 1 (by decide +kernel) (by decide +kernel) (by decide +kernel) (by decide +kernel) (by decide +kernel) (by decide +kernel)) kX12_296 hP hD [4] rfl (by decide +kernel) 0 rfl rfl rfl ⟨Nat.le_of_ble_eq_true rfl, Nat.le_of_ble_eq_true rfl⟩ rfl hl.1 rfl (Nat.le_of_ble_eq_true rfl) dX12_goesDown_80 ⟨Nat.le_of_ble_eq_true rfl, Nat.le_of_ble_eq_true rfl⟩) hP hD hS hA [4] [0, 1, 2, 3] rfl rfl (by decide +kernel) (by decide +kernel) ?_
  clear hP hD hS
  try clear locs
  try clear H
  intro u_16 H locs hw_r_15 hP hD hS
  refine W.widen (k := 0) (n := 0) (Nat.le_of_ble_eq_true rfl) (Nat.le_of_ble_eq_true rfl) ?_
  replace hP : va_P D vwCl [(maa, .inl (cs 1, 9, .inr (.inl (lt4 0 0 1 1)))), (mab, .inl (cs 1, 9, .inr (.inl (lt4 1 1 2 1)))), (mba, .inl (cs 1, 9, .inr (.inl (lt4 0 0 0 0)))), (mbb, .inl (cs 1, 9, .inr (.inl (lt4 1 1 1 1)))), (hm, .inr (12, [.ref ms, .ref mkp, .int (nI 0), .ref mtr, .int (nI 4), .int (nI 2), .int (nI 2), .int (nI 3), .int (nI 2), .int (nI 1), .ref mas, .int (nI 0), .int (nI 0), .int (nI 0), .ref mso, .ref mon, .ref mot, .ref man, .int (nI 0), .int (nI 0), .ref mst, .ref msm, .ref mtb, .ref mti, .ref mfr, .ref mbn, .ref mbs, .ref mde, .int (nI 0), .int (nI 0), .int (nI 0), .int (nI 0), .long 0, .long 1, .ref maa, .ref mab, .ref mba, .ref mbb]))] H := hP
  replace hD : va_D A [(maa, .inl (cs 1, 9, .inr (.inl (lt4 0 0 1 1)))), (mab, .inl (cs 1, 9, .inr (.inl (lt4 1 1 2 1)))), (mba, .inl (cs 1, 9, .inr (.inl (lt4 0 0 0 0)))), (mbb, .inl (cs 1, 9, .inr (.inl (lt4 1 1 1 1)))), (hm, .inr (12, [.ref ms, .ref mkp, .int (nI 0), .ref mtr, .int (nI 4), .int (nI 2), .int (nI 2), .int (nI 3), .int (nI 2), .int (nI 1), .ref mas, .int (nI 0), .int (nI 0), .int (nI 0), .ref mso, .ref mon, .ref mot, .ref man, .int (nI 0), .int (nI 0), .ref mst, .ref msm, .ref mtb, .ref mti, .ref mfr, .ref mbn, .ref mbs, .ref mde, .int (nI 0), .int (nI 0), .int (nI 0), .int (nI 0), .long 0, .long 1, .ref maa, .ref mab, .ref mba, .ref mbb]))] := hD
  refine lv_iinc (v := (-1)) (lv' := [(4, .int (-1)), (0, .ref hm), (1, .int (nI 0)), (2, .long 1)]) hx hb dX12_goesDown_83 hl (k := 0) rfl (by decide) (by decide) rfl ?_
  clear hl
  try clear ls
  intro ls hl
  refine lv_goto (tgt := 18) hx hb dX12_goesDown_86 (by decide) ?_
  refine lv_iload hx hb dX12_goesDown_18 (lv_at hl 0 rfl) ?_
  refine lv_iload_n hx hb dX12_goesDown_20 rfl (lv_at hl 2 rfl) ?_
  refine lv_icmp_lt (tgt := 89) hx hb dX12_goesDown_21 (by decide) (fun _ => ?_) (fun c => absurd (by decide) c)
  exact xretv C () trivial (xP_map hP [4, 0, 1, 2, 3] rfl) (hD.sub [4, 0, 1, 2, 3] (by decide +kernel) rfl) hS (Nat.le_of_ble_eq_true rfl) (Nat.le_of_ble_eq_true rfl) dX12_goesDown_89

set_option maxHeartbeats 4000000 in
set_option maxRecDepth 100000 in
theorem c_X12_goesDown_0_1 (l : Launch) (D : va_G) (cs : Nat → ClassId) (hm ms mkp mtr mas mso mon mot man mst msm mtb mti mfr mbn mbs mde maa mab mba mbb : Nat) (ab be : Int64) : xMet l D cs yX12_goesDown cX12_goesDown 5 none ({ frames := 2, cells := 0, slots := 0, locals := 58 } : Room) [.ref hm, .int (nI 1), .long 1] [(hm, .inr (12, [.ref ms, .ref mkp, .int (nI 0), .ref mtr, .int (nI 4), .int (nI 2), .int (nI 2), .int (nI 3), .int (nI 2), .int (nI 1), .ref mas, .int (nI 0), .int (nI 0), .int (nI 0), .ref mso, .ref mon, .ref mot, .ref man, .int (nI 0), .int (nI 0), .ref mst, .ref msm, .ref mtb, .ref mti, .ref mfr, .ref mbn, .ref mbs, .ref mde, .int (nI 0), .int (nI 0), .int (nI 0), .int (nI 0), .long ab, .long be, .ref maa, .ref mab, .ref mba, .ref mbb])), (maa, .inl (cs 1, 9, .inr (.inl (lt4 0 0 1 1)))), (mab, .inl (cs 1, 9, .inr (.inl (lt4 1 1 2 1)))), (mba, .inl (cs 1, 9, .inr (.inl (lt4 0 0 0 0)))), (mbb, .inl (cs 1, 9, .inr (.inl (lt4 1 1 1 1))))] (xQv D (fun (_u : Unit) => True) (fun (_u : Unit) => [(hm, .inr (12, [.ref ms, .ref mkp, .int (nI 0), .ref mtr, .int (nI 4), .int (nI 2), .int (nI 2), .int (nI 3), .int (nI 2), .int (nI 1), .ref mas, .int (nI 0), .int (nI 0), .int (nI 0), .ref mso, .ref mon, .ref mot, .ref man, .int (nI 0), .int (nI 0), .ref mst, .ref msm, .ref mtb, .ref mti, .ref mfr, .ref mbn, .ref mbs, .ref mde, .int (nI 0), .int (nI 0), .int (nI 0), .int (nI 0), .long 0, .long 1, .ref maa, .ref mab, .ref mba, .ref mbb])), (maa, .inl (cs 1, 9, .inr (.inl (lt4 0 0 1 1)))), (mab, .inl (cs 1, 9, .inr (.inl (lt4 1 1 2 1)))), (mba, .inl (cs 1, 9, .inr (.inl (lt4 0 0 0 0)))), (mbb, .inl (cs 1, 9, .inr (.inl (lt4 1 1 1 1))))])) := by
  refine xMet.intro (by decide) (Nat.le_of_ble_eq_true rfl) ?_
  intro p e s m args below meth c A ls C hP hD hS hl
  have hx := C.1
  have hb := C.2.1
  have hz := C.2.2.2.2.1
  have hown := C.2.2.2.1
  have hA := C.2.2.2.2.2.2.2.2.2
  have hAO := C.2.2.2.2.2.2.2.2.1.2.2
  replace hl : lv_has ls 5 [(0, .ref hm), (1, .int (nI 1)), (2, .long 1)] := hl
  obtain ⟨H, hH⟩ : ∃ H, H = s.heap := ⟨_, rfl⟩
  replace hP : va_P D vwCl [(hm, .inr (12, [.ref ms, .ref mkp, .int (nI 0), .ref mtr, .int (nI 4), .int (nI 2), .int (nI 2), .int (nI 3), .int (nI 2), .int (nI 1), .ref mas, .int (nI 0), .int (nI 0), .int (nI 0), .ref mso, .ref mon, .ref mot, .ref man, .int (nI 0), .int (nI 0), .ref mst, .ref msm, .ref mtb, .ref mti, .ref mfr, .ref mbn, .ref mbs, .ref mde, .int (nI 0), .int (nI 0), .int (nI 0), .int (nI 0), .long ab, .long be, .ref maa, .ref mab, .ref mba, .ref mbb])), (maa, .inl (cs 1, 9, .inr (.inl (lt4 0 0 1 1)))), (mab, .inl (cs 1, 9, .inr (.inl (lt4 1 1 2 1)))), (mba, .inl (cs 1, 9, .inr (.inl (lt4 0 0 0 0)))), (mbb, .inl (cs 1, 9, .inr (.inl (lt4 1 1 1 1))))] H := by rw [hH]; exact hP
  replace hS : va_S A s.heap H [] := by rw [hH]; exact hS
  obtain ⟨locs, hlocs⟩ : ∃ z : List Loc, z = [] := ⟨_, rfl⟩
  rw [← hlocs] at hS
  suffices hW : W p l e ({ frames := 2, cells := 0, slots := 0, locals := 58 } : Room) s m args below meth c H locs 0 0 (MQ below ((xQv D (fun (_u : Unit) => True) (fun (_u : Unit) => [(hm, .inr (12, [.ref ms, .ref mkp, .int (nI 0), .ref mtr, .int (nI 4), .int (nI 2), .int (nI 2), .int (nI 3), .int (nI 2), .int (nI 1), .ref mas, .int (nI 0), .int (nI 0), .int (nI 0), .ref mso, .ref mon, .ref mot, .ref man, .int (nI 0), .int (nI 0), .ref mst, .ref msm, .ref mtb, .ref mti, .ref mfr, .ref mbn, .ref mbs, .ref mde, .int (nI 0), .int (nI 0), .int (nI 0), .int (nI 0), .long 0, .long 1, .ref maa, .ref mab, .ref mba, .ref mbb])), (maa, .inl (cs 1, 9, .inr (.inl (lt4 0 0 1 1)))), (mab, .inl (cs 1, 9, .inr (.inl (lt4 1 1 2 1)))), (mba, .inl (cs 1, 9, .inr (.inl (lt4 0 0 0 0)))), (mbb, .inl (cs 1, 9, .inr (.inl (lt4 1 1 1 1))))])) A) args s 0 0 A) (F0 m 0 ls []) by rw [hlocs, hH] at hW; exact hW
  clear hH hlocs
  refine lv_aload_n hx hb dX12_goesDown_0 rfl (lv_at hl 0 rfl) ?_
  refine lv_lload_n hx hb dX12_goesDown_1 rfl (lv_at hl 2 rfl) ?_
  refine xput C hP hD hS 0 rfl rfl zuX12 tyX12 tyX12_ok nmX12 32 (by decide) zw6_5 rfl rfl rfl (Nat.le_of_ble_eq_true rfl) dX12_goesDown_2 ?_
  clear hP hD hS
  try clear locs
  try clear H
  intro H locs hP hD hS
  replace hP : va_P D vwCl [(hm, .inr (12, [.ref ms, .ref mkp, .int (nI 0), .ref mtr, .int (nI 4), .int (nI 2), .int (nI 2), .int (nI 3), .int (nI 2), .int (nI 1), .ref mas, .int (nI 0), .int (nI 0), .int (nI 0), .ref mso, .ref mon, .ref mot, .ref man, .int (nI 0), .int (nI 0), .ref mst, .ref msm, .ref mtb, .ref mti, .ref mfr, .ref mbn, .ref mbs, .ref mde, .int (nI 0), .int (nI 0), .int (nI 0), .int (nI 0), .long 1, .long be, .ref maa, .ref mab, .ref mba, .ref mbb])), (maa, .inl (cs 1, 9, .inr (.inl (lt4 0 0 1 1)))), (mab, .inl (cs 1, 9, .inr (.inl (lt4 1 1 2 1)))), (mba, .inl (cs 1, 9, .inr (.inl (lt4 0 0 0 0)))), (mbb, .inl (cs 1, 9, .inr (.inl (lt4 1 1 1 1))))] H := hP
  replace hD : va_D A [(hm, .inr (12, [.ref ms, .ref mkp, .int (nI 0), .ref mtr, .int (nI 4), .int (nI 2), .int (nI 2), .int (nI 3), .int (nI 2), .int (nI 1), .ref mas, .int (nI 0), .int (nI 0), .int (nI 0), .ref mso, .ref mon, .ref mot, .ref man, .int (nI 0), .int (nI 0), .ref mst, .ref msm, .ref mtb, .ref mti, .ref mfr, .ref mbn, .ref mbs, .ref mde, .int (nI 0), .int (nI 0), .int (nI 0), .int (nI 0), .long 1, .long be, .ref maa, .ref mab, .ref mba, .ref mbb])), (maa, .inl (cs 1, 9, .inr (.inl (lt4 0 0 1 1)))), (mab, .inl (cs 1, 9, .inr (.inl (lt4 1 1 2 1)))), (mba, .inl (cs 1, 9, .inr (.inl (lt4 0 0 0 0)))), (mbb, .inl (cs 1, 9, .inr (.inl (lt4 1 1 1 1))))] := hD
  refine lv_aload_n hx hb dX12_goesDown_5 rfl (lv_at hl 0 rfl) ?_
  refine lv_lconst (v := 1) hx hb dX12_goesDown_6 (by decide) ?_
  refine xput C hP hD hS 0 rfl rfl zuX12 tyX12 tyX12_ok nmX12 33 (by decide) zw6_6 rfl rfl rfl (Nat.le_of_ble_eq_true rfl) dX12_goesDown_7 ?_
  clear hP hD hS
  try clear locs
  try clear H
  intro H locs hP hD hS
  replace hP : va_P D vwCl [(hm, .inr (12, [.ref ms, .ref mkp, .int (nI 0), .ref mtr, .int (nI 4), .int (nI 2), .int (nI 2), .int (nI 3), .int (nI 2), .int (nI 1), .ref mas, .int (nI 0), .int (nI 0), .int (nI 0), .ref mso, .ref mon, .ref mot, .ref man, .int (nI 0), .int (nI 0), .ref mst, .ref msm, .ref mtb, .ref mti, .ref mfr, .ref mbn, .ref mbs, .ref mde, .int (nI 0), .int (nI 0), .int (nI 0), .int (nI 0), .long 1, .long 1, .ref maa, .ref mab, .ref mba, .ref mbb])), (maa, .inl (cs 1, 9, .inr (.inl (lt4 0 0 1 1)))), (mab, .inl (cs 1, 9, .inr (.inl (lt4 1 1 2 1)))), (mba, .inl (cs 1, 9, .inr (.inl (lt4 0 0 0 0)))), (mbb, .inl (cs 1, 9, .inr (.inl (lt4 1 1 1 1))))] H := hP
  replace hD : va_D A [(hm, .inr (12, [.ref ms, .ref mkp, .int (nI 0), .ref mtr, .int (nI 4), .int (nI 2), .int (nI 2), .int (nI 3), .int (nI 2), .int (nI 1), .ref mas, .int (nI 0), .int (nI 0), .int (nI 0), .ref mso, .ref mon, .ref mot, .ref man, .int (nI 0), .int (nI 0), .ref mst, .ref msm, .ref mtb, .ref mti, .ref mfr, .ref mbn, .ref mbs, .ref mde, .int (nI 0), .int (nI 0), .int (nI 0), .int (nI 0), .long 1, .long 1, .ref maa, .ref mab, .ref mba, .ref mbb])), (maa, .inl (cs 1, 9, .inr (.inl (lt4 0 0 1 1)))), (mab, .inl (cs 1, 9, .inr (.inl (lt4 1 1 2 1)))), (mba, .inl (cs 1, 9, .inr (.inl (lt4 0 0 0 0)))), (mbb, .inl (cs 1, 9, .inr (.inl (lt4 1 1 1 1))))] := hD
  refine lv_aload_n hx hb dX12_goesDown_10 rfl (lv_at hl 0 rfl) ?_
  refine xget C hP 0 rfl rfl zuX12 4 (by decide) zw5_217 rfl dX12_goesDown_11 ?_
  refine lv_iconst (v := nI 1) hx hb dX12_goesDown_14 (by decide) ?_
  refine lv_isub hx hb dX12_goesDown_15 ?_
  refine lv_topi (nm_r (e' := nI 3) (by decide) ?_)
  refine lv_istore (lv' := [(4, .int (nI 3)), (0, .ref hm), (1, .int (nI 1)), (2, .long 1)]) hx hb dX12_goesDown_16 hl (by decide) rfl ?_
  clear hl
  try clear ls
  intro ls hl
  refine lv_iload hx hb dX12_goesDown_18 (lv_at hl 0 rfl) ?_
  refine lv_iload_n hx hb dX12_goesDown_20 rfl (lv_at hl 2 rfl) ?_
  refine lv_icmp_lt (tgt := 89) hx hb dX12_goesDown_21 (by decide) (fun c => absurd c (by decide)) (fun _ => ?_)
  refine lv_aload_n hx hb dX12_goesDown_24 rfl (lv_at hl 1 rfl) ?_
  refine xget C hP 0 rfl rfl zuX12 31 (by decide) zw6_4 rfl dX12_goesDown_25 ?_
  refine lv_if_ne (tgt := 89) hx hb dX12_goesDown_28 (by decide) (fun c => absurd (by decide) c) (fun _ => ?_)
  refine lv_aload_n hx hb dX12_goesDown_31 rfl (lv_at hl 1 rfl) ?_
  refine lv_aload_n hx hb dX12_goesDown_32 rfl (lv_at hl 1 rfl) ?_
  refine xget C hP 0 rfl rfl zuX12 34 (by decide) zw6_7 rfl dX12_goesDown_33 ?_
  refine lv_iload hx hb dX12_goesDown_36 (lv_at hl 0 rfl) ?_
  refine xlald C hP 1 rfl 3 rfl (by decide) (by decide) dX12_goesDown_38 ?_
  refine lv_topl (nm_r (e' := 1) (by decide) ?_)
  refine lv_aload_n hx hb dX12_goesDown_39 rfl (lv_at hl 1 rfl) ?_
  refine xget C hP 0 rfl rfl zuX12 35 (by decide) zw6_8 rfl dX12_goesDown_40 ?_
  refine lv_iload hx hb dX12_goesDown_43 (lv_at hl 0 rfl) ?_
  refine xlald C hP 2 rfl 3 rfl (by decide) (by decide) dX12_goesDown_45 ?_
  refine lv_topl (nm_r (e' := 1) (by decide) ?_)
  refine lv_aload_n hx hb dX12_goesDown_46 rfl (lv_at hl 1 rfl) ?_
  refine xget C hP 0 rfl rfl zuX12 32 (by decide) zw6_5 rfl dX12_goesDown_47 ?_
  refine lv_aload_n hx hb dX12_goesDown_50 rfl (lv_at hl 1 rfl) ?_
  refine xget C hP 0 rfl rfl zuX12 33 (by decide) zw6_6 rfl dX12_goesDown_51 ?_
  refine xv (wr := [(maa, .inl (cs 1, 9, .inr (.inl (lt4 0 0 1 1)))), (mab, .inl (cs 1, 9, .inr (.inl (lt4 1 1 2 1)))), (mba, .inl (cs 1, 9, .inr (.inl (lt4 0 0 0 0)))), (mbb, .inl (cs 1, 9, .inr (.inl (lt4 1 1 1 1))))]) (xV (As := [.long 1, .long 1, .long 1, .long 1]) (rest := []) C (c_X12_multiplies l D cs hm ms mkp mtr mas mso mon mot man mst msm mtb mti mfr mbn mbs mde maa mab mba mbb 1 1 1 1 1 1 1 1 1 1 (by decide +kernel) (by decide +kernel) (by decide +kernel)) kX12_286 hP hD [0] rfl (by decide +kernel) 0 rfl rfl rfl ⟨Nat.le_of_ble_eq_true rfl, Nat.le_of_ble_eq_true rfl⟩ rfl hl.1 rfl (Nat.le_of_ble_eq_true rfl) dX12_goesDown_54 ⟨Nat.le_of_ble_eq_true rfl, Nat.le_of_ble_eq_true rfl⟩) hP hD hS hA [0] [1, 2, 3, 4] rfl rfl (by decide +kernel) (by decide +kernel) ?_
  clear hP hD hS
  try clear locs
  try clear H
  intro u_2 H locs hw_r_1 hP hD hS
  refine W.widen (k := 0) (n := 0) (Nat.le_of_ble_eq_true rfl) (Nat.le_of_ble_eq_true rfl) ?_
  replace hP : va_P D vwCl [(maa, .inl (cs 1, 9, .inr (.inl (lt4 0 0 1 1)))), (mab, .inl (cs 1, 9, .inr (.inl (lt4 1 1 2 1)))), (mba, .inl (cs 1, 9, .inr (.inl (lt4 0 0 0 0)))), (mbb, .inl (cs 1, 9, .inr (.inl (lt4 1 1 1 1)))), (hm, .inr (12, [.ref ms, .ref mkp, .int (nI 0), .ref mtr, .int (nI 4), .int (nI 2), .int (nI 2), .int (nI 3), .int (nI 2), .int (nI 1), .ref mas, .int (nI 0), .int (nI 0), .int (nI 0), .ref mso, .ref mon, .ref mot, .ref man, .int (nI 0), .int (nI 0), .ref mst, .ref msm, .ref mtb, .ref mti, .ref mfr, .ref mbn, .ref mbs, .ref mde, .int (nI 0), .int (nI 0), .int (nI 0), .int (nI 0), .long 1, .long 1, .ref maa, .ref mab, .ref mba, .ref mbb]))] H := hP
  replace hD : va_D A [(maa, .inl (cs 1, 9, .inr (.inl (lt4 0 0 1 1)))), (mab, .inl (cs 1, 9, .inr (.inl (lt4 1 1 2 1)))), (mba, .inl (cs 1, 9, .inr (.inl (lt4 0 0 0 0)))), (mbb, .inl (cs 1, 9, .inr (.inl (lt4 1 1 1 1)))), (hm, .inr (12, [.ref ms, .ref mkp, .int (nI 0), .ref mtr, .int (nI 4), .int (nI 2), .int (nI 2), .int (nI 3), .int (nI 2), .int (nI 1), .ref mas, .int (nI 0), .int (nI 0), .int (nI 0), .ref mso, .ref mon, .ref mot, .ref man, .int (nI 0), .int (nI 0), .ref mst, .ref msm, .ref mtb, .ref mti, .ref mfr, .ref mbn, .ref mbs, .ref mde, .int (nI 0), .int (nI 0), .int (nI 0), .int (nI 0), .long 1, .long 1, .ref maa, .ref mab, .ref mba, .ref mbb]))] := hD
  refine lv_aload_n hx hb dX12_goesDown_57 rfl (lv_at hl 1 rfl) ?_
  refine lv_aload_n hx hb dX12_goesDown_58 rfl (lv_at hl 1 rfl) ?_
  refine xget C hP 4 rfl rfl zuX12 32 (by decide) zw6_5 rfl dX12_goesDown_59 ?_
  refine lv_aload_n hx hb dX12_goesDown_62 rfl (lv_at hl 1 rfl) ?_
  refine xget C hP 4 rfl rfl zuX12 33 (by decide) zw6_6 rfl dX12_goesDown_63 ?_
  refine lv_aload_n hx hb dX12_goesDown_66 rfl (lv_at hl 1 rfl) ?_
  refine xget C hP 4 rfl rfl zuX12 36 (by decide) zw6_9 rfl dX12_goesDown_67 ?_
  refine lv_iload hx hb dX12_goesDown_70 (lv_at hl 0 rfl) ?_
  refine xlald C hP 2 rfl 3 rfl (by decide) (by decide) dX12_goesDown_72 ?_
  refine lv_topl (nm_r (e' := 0) (by decide) ?_)
  refine lv_aload_n hx hb dX12_goesDown_73 rfl (lv_at hl 1 rfl) ?_
  refine xget C hP 4 rfl rfl zuX12 37 (by decide) zw6_10 rfl dX12_goesDown_74 ?_
  refine lv_iload hx hb dX12_goesDown_77 (lv_at hl 0 rfl) ?_
  refine xlald C hP 3 rfl 3 rfl (by decide) (by decide) dX12_goesDown_79 ?_
  refine lv_topl (nm_r (e' := 1) (by decide) ?_)
  refine xv (wr := [(maa, .inl (cs 1, 9, .inr (.inl (lt4 0 0 1 1)))), (mab, .inl (cs 1, 9, .inr (.inl (lt4 1 1 2 1)))), (mba, .inl (cs 1, 9, .inr (.inl (lt4 0 0 0 0)))), (mbb, .inl (cs 1, 9, .inr (.inl (lt4 1 1 1 1))))]) (xV (As := [.long 1, .long 1, .long 0, .long 1]) (rest := []) C (c_X12_adds l D cs hm ms mkp mtr mas mso mon mot man mst msm mtb mti mfr mbn mbs mde maa mab mba mbb 1 1 1 1 0 1 1 0 1 1 1 1 (by decide +kernel) (by decide +kernel) (by decide +kernel) (by decide +kernel) (by decide +kernel) (by decide +kernel)) kX12_296 hP hD [4] rfl (by decide +kernel) 0 rfl rfl rfl ⟨Nat.le_of_ble_eq_true rfl, Nat.le_of_ble_eq_true rfl⟩ rfl hl.1 rfl (Nat.le_of_ble_eq_true rfl) dX12_goesDown_80 ⟨Nat.le_of_ble_eq_true rfl, Nat.le_of_ble_eq_true rfl⟩) hP hD hS hA [4] [0, 1, 2, 3] rfl rfl (by decide +kernel) (by decide +kernel) ?_
  clear hP hD hS
  try clear locs
  try clear H
  intro u_4 H locs hw_r_3 hP hD hS
  refine W.widen (k := 0) (n := 0) (Nat.le_of_ble_eq_true rfl) (Nat.le_of_ble_eq_true rfl) ?_
  replace hP : va_P D vwCl [(maa, .inl (cs 1, 9, .inr (.inl (lt4 0 0 1 1)))), (mab, .inl (cs 1, 9, .inr (.inl (lt4 1 1 2 1)))), (mba, .inl (cs 1, 9, .inr (.inl (lt4 0 0 0 0)))), (mbb, .inl (cs 1, 9, .inr (.inl (lt4 1 1 1 1)))), (hm, .inr (12, [.ref ms, .ref mkp, .int (nI 0), .ref mtr, .int (nI 4), .int (nI 2), .int (nI 2), .int (nI 3), .int (nI 2), .int (nI 1), .ref mas, .int (nI 0), .int (nI 0), .int (nI 0), .ref mso, .ref mon, .ref mot, .ref man, .int (nI 0), .int (nI 0), .ref mst, .ref msm, .ref mtb, .ref mti, .ref mfr, .ref mbn, .ref mbs, .ref mde, .int (nI 0), .int (nI 0), .int (nI 0), .int (nI 0), .long 1, .long 1, .ref maa, .ref mab, .ref mba, .ref mbb]))] H := hP
  replace hD : va_D A [(maa, .inl (cs 1, 9, .inr (.inl (lt4 0 0 1 1)))), (mab, .inl (cs 1, 9, .inr (.inl (lt4 1 1 2 1)))), (mba, .inl (cs 1, 9, .inr (.inl (lt4 0 0 0 0)))), (mbb, .inl (cs 1, 9, .inr (.inl (lt4 1 1 1 1)))), (hm, .inr (12, [.ref ms, .ref mkp, .int (nI 0), .ref mtr, .int (nI 4), .int (nI 2), .int (nI 2), .int (nI 3), .int (nI 2), .int (nI 1), .ref mas, .int (nI 0), .int (nI 0), .int (nI 0), .ref mso, .ref mon, .ref mot, .ref man, .int (nI 0), .int (nI 0), .ref mst, .ref msm, .ref mtb, .ref mti, .ref mfr, .ref mbn, .ref mbs, .ref mde, .int (nI 0), .int (nI 0), .int (nI 0), .int (nI 0), .long 1, .long 1, .ref maa, .ref mab, .ref mba, .ref mbb]))] := hD
  refine lv_iinc (v := nI 2) (lv' := [(4, .int (nI 2)), (0, .ref hm), (1, .int (nI 1)), (2, .long 1)]) hx hb dX12_goesDown_83 hl (k := 0) rfl (by decide) (by decide) rfl ?_
  clear hl
  try clear ls
  intro ls hl
  refine lv_goto (tgt := 18) hx hb dX12_goesDown_86 (by decide) ?_
  refine lv_iload hx hb dX12_goesDown_18 (lv_at hl 0 rfl) ?_
  refine lv_iload_n hx hb dX12_goesDown_20 rfl (lv_at hl 2 rfl) ?_
  refine lv_icmp_lt (tgt := 89) hx hb dX12_goesDown_21 (by decide) (fun c => absurd c (by decide)) (fun _ => ?_)
  refine lv_aload_n hx hb dX12_goesDown_24 rfl (lv_at hl 1 rfl) ?_
  refine xget C hP 4 rfl rfl zuX12 31 (by decide) zw6_4 rfl dX12_goesDown_25 ?_
  refine lv_if_ne (tgt := 89) hx hb dX12_goesDown_28 (by decide) (fun c => absurd (by decide) c) (fun _ => ?_)
  refine lv_aload_n hx hb dX12_goesDown_31 rfl (lv_at hl 1 rfl) ?_
  refine lv_aload_n hx hb dX12_goesDown_32 rfl (lv_at hl 1 rfl) ?_
  refine xget C hP 4 rfl rfl zuX12 34 (by decide) zw6_7 rfl dX12_goesDown_33 ?_
  refine lv_iload hx hb dX12_goesDown_36 (lv_at hl 0 rfl) ?_
  refine xlald C hP 0 rfl 2 rfl (by decide) (by decide) dX12_goesDown_38 ?_
  refine lv_topl (nm_r (e' := 1) (by decide) ?_)
  refine lv_aload_n hx hb dX12_goesDown_39 rfl (lv_at hl 1 rfl) ?_
  refine xget C hP 4 rfl rfl zuX12 35 (by decide) zw6_8 rfl dX12_goesDown_40 ?_
  refine lv_iload hx hb dX12_goesDown_43 (lv_at hl 0 rfl) ?_
  refine xlald C hP 1 rfl 2 rfl (by decide) (by decide) dX12_goesDown_45 ?_
  refine lv_topl (nm_r (e' := 2) (by decide) ?_)
  refine lv_aload_n hx hb dX12_goesDown_46 rfl (lv_at hl 1 rfl) ?_
  refine xget C hP 4 rfl rfl zuX12 32 (by decide) zw6_5 rfl dX12_goesDown_47 ?_
  refine lv_aload_n hx hb dX12_goesDown_50 rfl (lv_at hl 1 rfl) ?_
  refine xget C hP 4 rfl rfl zuX12 33 (by decide) zw6_6 rfl dX12_goesDown_51 ?_
  refine xv (wr := [(maa, .inl (cs 1, 9, .inr (.inl (lt4 0 0 1 1)))), (mab, .inl (cs 1, 9, .inr (.inl (lt4 1 1 2 1)))), (mba, .inl (cs 1, 9, .inr (.inl (lt4 0 0 0 0)))), (mbb, .inl (cs 1, 9, .inr (.inl (lt4 1 1 1 1))))]) (xV (As := [.long 1, .long 2, .long 1, .long 1]) (rest := []) C (c_X12_multiplies l D cs hm ms mkp mtr mas mso mon mot man mst msm mtb mti mfr mbn mbs mde maa mab mba mbb 1 1 1 2 1 1 1 2 1 2 (by decide +kernel) (by decide +kernel) (by decide +kernel)) kX12_286 hP hD [4] rfl (by decide +kernel) 0 rfl rfl rfl ⟨Nat.le_of_ble_eq_true rfl, Nat.le_of_ble_eq_true rfl⟩ rfl hl.1 rfl (Nat.le_of_ble_eq_true rfl) dX12_goesDown_54 ⟨Nat.le_of_ble_eq_true rfl, Nat.le_of_ble_eq_true rfl⟩) hP hD hS hA [4] [0, 1, 2, 3] rfl rfl (by decide +kernel) (by decide +kernel) ?_
  clear hP hD hS
  try clear locs
  try clear H
  intro u_6 H locs hw_r_5 hP hD hS
  refine W.widen (k := 0) (n := 0) (Nat.le_of_ble_eq_true rfl) (Nat.le_of_ble_eq_true rfl) ?_
  replace hP : va_P D vwCl [(maa, .inl (cs 1, 9, .inr (.inl (lt4 0 0 1 1)))), (mab, .inl (cs 1, 9, .inr (.inl (lt4 1 1 2 1)))), (mba, .inl (cs 1, 9, .inr (.inl (lt4 0 0 0 0)))), (mbb, .inl (cs 1, 9, .inr (.inl (lt4 1 1 1 1)))), (hm, .inr (12, [.ref ms, .ref mkp, .int (nI 0), .ref mtr, .int (nI 4), .int (nI 2), .int (nI 2), .int (nI 3), .int (nI 2), .int (nI 1), .ref mas, .int (nI 0), .int (nI 0), .int (nI 0), .ref mso, .ref mon, .ref mot, .ref man, .int (nI 0), .int (nI 0), .ref mst, .ref msm, .ref mtb, .ref mti, .ref mfr, .ref mbn, .ref mbs, .ref mde, .int (nI 0), .int (nI 0), .int (nI 0), .int (nI 0), .long 1, .long 2, .ref maa, .ref mab, .ref mba, .ref mbb]))] H := hP
  replace hD : va_D A [(maa, .inl (cs 1, 9, .inr (.inl (lt4 0 0 1 1)))), (mab, .inl (cs 1, 9, .inr (.inl (lt4 1 1 2 1)))), (mba, .inl (cs 1, 9, .inr (.inl (lt4 0 0 0 0)))), (mbb, .inl (cs 1, 9, .inr (.inl (lt4 1 1 1 1)))), (hm, .inr (12, [.ref ms, .ref mkp, .int (nI 0), .ref mtr, .int (nI 4), .int (nI 2), .int (nI 2), .int (nI 3), .int (nI 2), .int (nI 1), .ref mas, .int (nI 0), .int (nI 0), .int (nI 0), .ref mso, .ref mon, .ref mot, .ref man, .int (nI 0), .int (nI 0), .ref mst, .ref msm, .ref mtb, .ref mti, .ref mfr, .ref mbn, .ref mbs, .ref mde, .int (nI 0), .int (nI 0), .int (nI 0), .int (nI 0), .long 1, .long 2, .ref maa, .ref mab, .ref mba, .ref mbb]))] := hD
  refine lv_aload_n hx hb dX12_goesDown_57 rfl (lv_at hl 1 rfl) ?_
  refine lv_aload_n hx hb dX12_goesDown_58 rfl (lv_at hl 1 rfl) ?_
  refine xget C hP 4 rfl rfl zuX12 32 (by decide) zw6_5 rfl dX12_goesDown_59 ?_
  refine lv_aload_n hx hb dX12_goesDown_62 rfl (lv_at hl 1 rfl) ?_
  refine xget C hP 4 rfl rfl zuX12 33 (by decide) zw6_6 rfl dX12_goesDown_63 ?_
  refine lv_aload_n hx hb dX12_goesDown_66 rfl (lv_at hl 1 rfl) ?_
  refine xget C hP 4 rfl rfl zuX12 36 (by decide) zw6_9 rfl dX12_goesDown_67 ?_
  refine lv_iload hx hb dX12_goesDown_70 (lv_at hl 0 rfl) ?_
  refine xlald C hP 2 rfl 2 rfl (by decide) (by decide) dX12_goesDown_72 ?_
  refine lv_topl (nm_r (e' := 0) (by decide) ?_)
  refine lv_aload_n hx hb dX12_goesDown_73 rfl (lv_at hl 1 rfl) ?_
  refine xget C hP 4 rfl rfl zuX12 37 (by decide) zw6_10 rfl dX12_goesDown_74 ?_
  refine lv_iload hx hb dX12_goesDown_77 (lv_at hl 0 rfl) ?_
  refine xlald C hP 3 rfl 2 rfl (by decide) (by decide) dX12_goesDown_79 ?_
  refine lv_topl (nm_r (e' := 1) (by decide) ?_)
  refine xv (wr := [(maa, .inl (cs 1, 9, .inr (.inl (lt4 0 0 1 1)))), (mab, .inl (cs 1, 9, .inr (.inl (lt4 1 1 2 1)))), (mba, .inl (cs 1, 9, .inr (.inl (lt4 0 0 0 0)))), (mbb, .inl (cs 1, 9, .inr (.inl (lt4 1 1 1 1))))]) (xV (As := [.long 1, .long 2, .long 0, .long 1]) (rest := []) C (c_X12_adds l D cs hm ms mkp mtr mas mso mon mot man mst msm mtb mti mfr mbn mbs mde maa mab mba mbb 1 2 1 2 0 1 1 0 1 2 1 2 (by decide +kernel) (by decide +kernel) (by decide +kernel) (by decide +kernel) (by decide +kernel) (by decide +kernel)) kX12_296 hP hD [4] rfl (by decide +kernel) 0 rfl rfl rfl ⟨Nat.le_of_ble_eq_true rfl, Nat.le_of_ble_eq_true rfl⟩ rfl hl.1 rfl (Nat.le_of_ble_eq_true rfl) dX12_goesDown_80 ⟨Nat.le_of_ble_eq_true rfl, Nat.le_of_ble_eq_true rfl⟩) hP hD hS hA [4] [0, 1, 2, 3] rfl rfl (by decide +kernel) (by decide +kernel) ?_
  clear hP hD hS
  try clear locs
  try clear H
  intro u_8 H locs hw_r_7 hP hD hS
  refine W.widen (k := 0) (n := 0) (Nat.le_of_ble_eq_true rfl) (Nat.le_of_ble_eq_true rfl) ?_
  replace hP : va_P D vwCl [(maa, .inl (cs 1, 9, .inr (.inl (lt4 0 0 1 1)))), (mab, .inl (cs 1, 9, .inr (.inl (lt4 1 1 2 1)))), (mba, .inl (cs 1, 9, .inr (.inl (lt4 0 0 0 0)))), (mbb, .inl (cs 1, 9, .inr (.inl (lt4 1 1 1 1)))), (hm, .inr (12, [.ref ms, .ref mkp, .int (nI 0), .ref mtr, .int (nI 4), .int (nI 2), .int (nI 2), .int (nI 3), .int (nI 2), .int (nI 1), .ref mas, .int (nI 0), .int (nI 0), .int (nI 0), .ref mso, .ref mon, .ref mot, .ref man, .int (nI 0), .int (nI 0), .ref mst, .ref msm, .ref mtb, .ref mti, .ref mfr, .ref mbn, .ref mbs, .ref mde, .int (nI 0), .int (nI 0), .int (nI 0), .int (nI 0), .long 1, .long 2, .ref maa, .ref mab, .ref mba, .ref mbb]))] H := hP
  replace hD : va_D A [(maa, .inl (cs 1, 9, .inr (.inl (lt4 0 0 1 1)))), (mab, .inl (cs 1, 9, .inr (.inl (lt4 1 1 2 1)))), (mba, .inl (cs 1, 9, .inr (.inl (lt4 0 0 0 0)))), (mbb, .inl (cs 1, 9, .inr (.inl (lt4 1 1 1 1)))), (hm, .inr (12, [.ref ms, .ref mkp, .int (nI 0), .ref mtr, .int (nI 4), .int (nI 2), .int (nI 2), .int (nI 3), .int (nI 2), .int (nI 1), .ref mas, .int (nI 0), .int (nI 0), .int (nI 0), .ref mso, .ref mon, .ref mot, .ref man, .int (nI 0), .int (nI 0), .ref mst, .ref msm, .ref mtb, .ref mti, .ref mfr, .ref mbn, .ref mbs, .ref mde, .int (nI 0), .int (nI 0), .int (nI 0), .int (nI 0), .long 1, .long 2, .ref maa, .ref mab, .ref mba, .ref mbb]))] := hD
  refine lv_iinc (v := nI 1) (lv' := [(4, .int (nI 1)), (0, .ref hm), (1, .int (nI 1)), (2, .long 1)]) hx hb dX12_goesDown_83 hl (k := 0) rfl (by decide) (by decide) rfl ?_
  clear hl
  try clear ls
  intro ls hl
  refine lv_goto (tgt := 18) hx hb dX12_goesDown_86 (by decide) ?_
  refine lv_iload hx hb dX12_goesDown_18 (lv_at hl 0 rfl) ?_
  refine lv_iload_n hx hb dX12_goesDown_20 rfl (lv_at hl 2 rfl) ?_
  refine lv_icmp_lt (tgt := 89) hx hb dX12_goesDown_21 (by decide) (fun c => absurd c (by decide)) (fun _ => ?_)
  refine lv_aload_n hx hb dX12_goesDown_24 rfl (lv_at hl 1 rfl) ?_
  refine xget C hP 4 rfl rfl zuX12 31 (by decide) zw6_4 rfl dX12_goesDown_25 ?_
  refine lv_if_ne (tgt := 89) hx hb dX12_goesDown_28 (by decide) (fun c => absurd (by decide) c) (fun _ => ?_)
  refine lv_aload_n hx hb dX12_goesDown_31 rfl (lv_at hl 1 rfl) ?_
  refine lv_aload_n hx hb dX12_goesDown_32 rfl (lv_at hl 1 rfl) ?_
  refine xget C hP 4 rfl rfl zuX12 34 (by decide) zw6_7 rfl dX12_goesDown_33 ?_
  refine lv_iload hx hb dX12_goesDown_36 (lv_at hl 0 rfl) ?_
  refine xlald C hP 0 rfl 1 rfl (by decide) (by decide) dX12_goesDown_38 ?_
  refine lv_topl (nm_r (e' := 0) (by decide) ?_)
  refine lv_aload_n hx hb dX12_goesDown_39 rfl (lv_at hl 1 rfl) ?_
  refine xget C hP 4 rfl rfl zuX12 35 (by decide) zw6_8 rfl dX12_goesDown_40 ?_
  refine lv_iload hx hb dX12_goesDown_43 (lv_at hl 0 rfl) ?_
  refine xlald C hP 1 rfl 1 rfl (by decide) (by decide) dX12_goesDown_45 ?_
  refine lv_topl (nm_r (e' := 1) (by decide) ?_)
  refine lv_aload_n hx hb dX12_goesDown_46 rfl (lv_at hl 1 rfl) ?_
  refine xget C hP 4 rfl rfl zuX12 32 (by decide) zw6_5 rfl dX12_goesDown_47 ?_
  refine lv_aload_n hx hb dX12_goesDown_50 rfl (lv_at hl 1 rfl) ?_
  refine xget C hP 4 rfl rfl zuX12 33 (by decide) zw6_6 rfl dX12_goesDown_51 ?_
  refine xv (wr := [(maa, .inl (cs 1, 9, .inr (.inl (lt4 0 0 1 1)))), (mab, .inl (cs 1, 9, .inr (.inl (lt4 1 1 2 1)))), (mba, .inl (cs 1, 9, .inr (.inl (lt4 0 0 0 0)))), (mbb, .inl (cs 1, 9, .inr (.inl (lt4 1 1 1 1))))]) (xV (As := [.long 0, .long 1, .long 1, .long 2]) (rest := []) C (c_X12_multiplies l D cs hm ms mkp mtr mas mso mon mot man mst msm mtb mti mfr mbn mbs mde maa mab mba mbb 1 2 0 1 1 2 0 2 0 1 (by decide +kernel) (by decide +kernel) (by decide +kernel)) kX12_286 hP hD [4] rfl (by decide +kernel) 0 rfl rfl rfl ⟨Nat.le_of_ble_eq_true rfl, Nat.le_of_ble_eq_true rfl⟩ rfl hl.1 rfl (Nat.le_of_ble_eq_true rfl) dX12_goesDown_54 ⟨Nat.le_of_ble_eq_true rfl, Nat.le_of_ble_eq_true rfl⟩) hP hD hS hA [4] [0, 1, 2, 3] rfl rfl (by decide +kernel) (by decide +kernel) ?_
  clear hP hD hS
  try clear locs
  try clear H
  intro u_10 H locs hw_r_9 hP hD hS
  refine W.widen (k := 0) (n := 0) (Nat.le_of_ble_eq_true rfl) (Nat.le_of_ble_eq_true rfl) ?_
  replace hP : va_P D vwCl [(maa, .inl (cs 1, 9, .inr (.inl (lt4 0 0 1 1)))), (mab, .inl (cs 1, 9, .inr (.inl (lt4 1 1 2 1)))), (mba, .inl (cs 1, 9, .inr (.inl (lt4 0 0 0 0)))), (mbb, .inl (cs 1, 9, .inr (.inl (lt4 1 1 1 1)))), (hm, .inr (12, [.ref ms, .ref mkp, .int (nI 0), .ref mtr, .int (nI 4), .int (nI 2), .int (nI 2), .int (nI 3), .int (nI 2), .int (nI 1), .ref mas, .int (nI 0), .int (nI 0), .int (nI 0), .ref mso, .ref mon, .ref mot, .ref man, .int (nI 0), .int (nI 0), .ref mst, .ref msm, .ref mtb, .ref mti, .ref mfr, .ref mbn, .ref mbs, .ref mde, .int (nI 0), .int (nI 0), .int (nI 0), .int (nI 0), .long 0, .long 1, .ref maa, .ref mab, .ref mba, .ref mbb]))] H := hP
  replace hD : va_D A [(maa, .inl (cs 1, 9, .inr (.inl (lt4 0 0 1 1)))), (mab, .inl (cs 1, 9, .inr (.inl (lt4 1 1 2 1)))), (mba, .inl (cs 1, 9, .inr (.inl (lt4 0 0 0 0)))), (mbb, .inl (cs 1, 9, .inr (.inl (lt4 1 1 1 1)))), (hm, .inr (12, [.ref ms, .ref mkp, .int (nI 0), .ref mtr, .int (nI 4), .int (nI 2), .int (nI 2), .int (nI 3), .int (nI 2), .int (nI 1), .ref mas, .int (nI 0), .int (nI 0), .int (nI 0), .ref mso, .ref mon, .ref mot, .ref man, .int (nI 0), .int (nI 0), .ref mst, .ref msm, .ref mtb, .ref mti, .ref mfr, .ref mbn, .ref mbs, .ref mde, .int (nI 0), .int (nI 0), .int (nI 0), .int (nI 0), .long 0, .long 1, .ref maa, .ref mab, .ref mba, .ref mbb]))] := hD
  refine lv_aload_n hx hb dX12_goesDown_57 rfl (lv_at hl 1 rfl) ?_
  refine lv_aload_n hx hb dX12_goesDown_58 rfl (lv_at hl 1 rfl) ?_
  refine xget C hP 4 rfl rfl zuX12 32 (by decide) zw6_5 rfl dX12_goesDown_59 ?_
  refine lv_aload_n hx hb dX12_goesDown_62 rfl (lv_at hl 1 rfl) ?_
  refine xget C hP 4 rfl rfl zuX12 33 (by decide) zw6_6 rfl dX12_goesDown_63 ?_
  refine lv_aload_n hx hb dX12_goesDown_66 rfl (lv_at hl 1 rfl) ?_
  refine xget C hP 4 rfl rfl zuX12 36 (by decide) zw6_9 rfl dX12_goesDown_67 ?_
  refine lv_iload hx hb dX12_goesDown_70 (lv_at hl 0 rfl) ?_
  refine xlald C hP 2 rfl 1 rfl (by decide) (by decide) dX12_goesDown_72 ?_
  refine lv_topl (nm_r (e' := 0) (by decide) ?_)
  refine lv_aload_n hx hb dX12_goesDown_73 rfl (lv_at hl 1 rfl) ?_
  refine xget C hP 4 rfl rfl zuX12 37 (by decide) zw6_10 rfl dX12_goesDown_74 ?_
  refine lv_iload hx hb dX12_goesDown_77 (lv_at hl 0 rfl) ?_
  refine xlald C hP 3 rfl 1 rfl (by decide) (by decide) dX12_goesDown_79 ?_
  refine lv_topl (nm_r (e' := 1) (by decide) ?_)
  refine xv (wr := [(maa, .inl (cs 1, 9, .inr (.inl (lt4 0 0 1 1)))), (mab, .inl (cs 1, 9, .inr (.inl (lt4 1 1 2 1)))), (mba, .inl (cs 1, 9, .inr (.inl (lt4 0 0 0 0)))), (mbb, .inl (cs 1, 9, .inr (.inl (lt4 1 1 1 1))))]) (xV (As := [.long 0, .long 1, .long 0, .long 1]) (rest := []) C (c_X12_adds l D cs hm ms mkp mtr mas mso mon mot man mst msm mtb mti mfr mbn mbs mde maa mab mba mbb 0 1 0 1 0 1 0 0 0 1 0 1 (by decide +kernel) (by decide +kernel) (by decide +kernel) (by decide +kernel) (by decide +kernel) (by decide +kernel)) kX12_296 hP hD [4] rfl (by decide +kernel) 0 rfl rfl rfl ⟨Nat.le_of_ble_eq_true rfl, Nat.le_of_ble_eq_true rfl⟩ rfl hl.1 rfl (Nat.le_of_ble_eq_true rfl) dX12_goesDown_80 ⟨Nat.le_of_ble_eq_true rfl, Nat.le_of_ble_eq_true rfl⟩) hP hD hS hA [4] [0, 1, 2, 3] rfl rfl (by decide +kernel) (by decide +kernel) ?_
  clear hP hD hS
  try clear locs
  try clear H
  intro u_12 H locs hw_r_11 hP hD hS
  refine W.widen (k := 0) (n := 0) (Nat.le_of_ble_eq_true rfl) (Nat.le_of_ble_eq_true rfl) ?_
  replace hP : va_P D vwCl [(maa, .inl (cs 1, 9, .inr (.inl (lt4 0 0 1 1)))), (mab, .inl (cs 1, 9, .inr (.inl (lt4 1 1 2 1)))), (mba, .inl (cs 1, 9, .inr (.inl (lt4 0 0 0 0)))), (mbb, .inl (cs 1, 9, .inr (.inl (lt4 1 1 1 1)))), (hm, .inr (12, [.ref ms, .ref mkp, .int (nI 0), .ref mtr, .int (nI 4), .int (nI 2), .int (nI 2), .int (nI 3), .int (nI 2), .int (nI 1), .ref mas, .int (nI 0), .int (nI 0), .int (nI 0), .ref mso, .ref mon, .ref mot, .ref man, .int (nI 0), .int (nI 0), .ref mst, .ref msm, .ref mtb, .ref mti, .ref mfr, .ref mbn, .ref mbs, .ref mde, .int (nI 0), .int (nI 0), .int (nI 0), .int (nI 0), .long 0, .long 1, .ref maa, .ref mab, .ref mba, .ref mbb]))] H := hP
  replace hD : va_D A [(maa, .inl (cs 1, 9, .inr (.inl (lt4 0 0 1 1)))), (mab, .inl (cs 1, 9, .inr (.inl (lt4 1 1 2 1)))), (mba, .inl (cs 1, 9, .inr (.inl (lt4 0 0 0 0)))), (mbb, .inl (cs 1, 9, .inr (.inl (lt4 1 1 1 1)))), (hm, .inr (12, [.ref ms, .ref mkp, .int (nI 0), .ref mtr, .int (nI 4), .int (nI 2), .int (nI 2), .int (nI 3), .int (nI 2), .int (nI 1), .ref mas, .int (nI 0), .int (nI 0), .int (nI 0), .ref mso, .ref mon, .ref mot, .ref man, .int (nI 0), .int (nI 0), .ref mst, .ref msm, .ref mtb, .ref mti, .ref mfr, .ref mbn, .ref mbs, .ref mde, .int (nI 0), .int (nI 0), .int (nI 0), .int (nI 0), .long 0, .long 1, .ref maa, .ref mab, .ref mba, .ref mbb]))] := hD
  refine lv_iinc (v := nI 0) (lv' := [(4, .int (nI 0)), (0, .ref hm), (1, .int (nI 1)), (2, .long 1)]) hx hb dX12_goesDown_83 hl (k := 0) rfl (by decide) (by decide) rfl ?_
  clear hl
  try clear ls
  intro ls hl
  refine lv_goto (tgt := 18) hx hb dX12_goesDown_86 (by decide) ?_
  refine lv_iload hx hb dX12_goesDown_18 (lv_at hl 0 rfl) ?_
  refine lv_iload_n hx hb dX12_goesDown_20 rfl (lv_at hl 2 rfl) ?_
  refine lv_icmp_lt (tgt := 89) hx hb dX12_goesDown_21 (by decide) (fun _ => ?_) (fun c => absurd (by decide) c)
  exact xretv C () trivial (xP_map hP [4, 0, 1, 2, 3] rfl) (hD.sub [4, 0, 1, 2, 3] (by decide +kernel) rfl) hS (Nat.le_of_ble_eq_true rfl) (Nat.le_of_ble_eq_true rfl) dX12_goesDown_89

set_option maxHeartbeats 4000000 in
set_option maxRecDepth 100000 in
theorem c_X12_goesDown_0_2 (l : Launch) (D : va_G) (cs : Nat → ClassId) (hm ms mkp mtr mas mso mon mot man mst msm mtb mti mfr mbn mbs mde maa mab mba mbb : Nat) (ab be : Int64) : xMet l D cs yX12_goesDown cX12_goesDown 5 none ({ frames := 2, cells := 0, slots := 0, locals := 58 } : Room) [.ref hm, .int (nI 2), .long 1] [(hm, .inr (12, [.ref ms, .ref mkp, .int (nI 0), .ref mtr, .int (nI 4), .int (nI 2), .int (nI 2), .int (nI 3), .int (nI 2), .int (nI 1), .ref mas, .int (nI 0), .int (nI 0), .int (nI 0), .ref mso, .ref mon, .ref mot, .ref man, .int (nI 0), .int (nI 0), .ref mst, .ref msm, .ref mtb, .ref mti, .ref mfr, .ref mbn, .ref mbs, .ref mde, .int (nI 0), .int (nI 0), .int (nI 0), .int (nI 0), .long ab, .long be, .ref maa, .ref mab, .ref mba, .ref mbb])), (maa, .inl (cs 1, 9, .inr (.inl (lt4 0 0 1 1)))), (mab, .inl (cs 1, 9, .inr (.inl (lt4 1 1 2 1)))), (mba, .inl (cs 1, 9, .inr (.inl (lt4 0 0 0 0)))), (mbb, .inl (cs 1, 9, .inr (.inl (lt4 1 1 1 1))))] (xQv D (fun (_u : Unit) => True) (fun (_u : Unit) => [(hm, .inr (12, [.ref ms, .ref mkp, .int (nI 0), .ref mtr, .int (nI 4), .int (nI 2), .int (nI 2), .int (nI 3), .int (nI 2), .int (nI 1), .ref mas, .int (nI 0), .int (nI 0), .int (nI 0), .ref mso, .ref mon, .ref mot, .ref man, .int (nI 0), .int (nI 0), .ref mst, .ref msm, .ref mtb, .ref mti, .ref mfr, .ref mbn, .ref mbs, .ref mde, .int (nI 0), .int (nI 0), .int (nI 0), .int (nI 0), .long 1, .long 2, .ref maa, .ref mab, .ref mba, .ref mbb])), (maa, .inl (cs 1, 9, .inr (.inl (lt4 0 0 1 1)))), (mab, .inl (cs 1, 9, .inr (.inl (lt4 1 1 2 1)))), (mba, .inl (cs 1, 9, .inr (.inl (lt4 0 0 0 0)))), (mbb, .inl (cs 1, 9, .inr (.inl (lt4 1 1 1 1))))])) := by
  refine xMet.intro (by decide) (Nat.le_of_ble_eq_true rfl) ?_
  intro p e s m args below meth c A ls C hP hD hS hl
  have hx := C.1
  have hb := C.2.1
  have hz := C.2.2.2.2.1
  have hown := C.2.2.2.1
  have hA := C.2.2.2.2.2.2.2.2.2
  have hAO := C.2.2.2.2.2.2.2.2.1.2.2
  replace hl : lv_has ls 5 [(0, .ref hm), (1, .int (nI 2)), (2, .long 1)] := hl
  obtain ⟨H, hH⟩ : ∃ H, H = s.heap := ⟨_, rfl⟩
  replace hP : va_P D vwCl [(hm, .inr (12, [.ref ms, .ref mkp, .int (nI 0), .ref mtr, .int (nI 4), .int (nI 2), .int (nI 2), .int (nI 3), .int (nI 2), .int (nI 1), .ref mas, .int (nI 0), .int (nI 0), .int (nI 0), .ref mso, .ref mon, .ref mot, .ref man, .int (nI 0), .int (nI 0), .ref mst, .ref msm, .ref mtb, .ref mti, .ref mfr, .ref mbn, .ref mbs, .ref mde, .int (nI 0), .int (nI 0), .int (nI 0), .int (nI 0), .long ab, .long be, .ref maa, .ref mab, .ref mba, .ref mbb])), (maa, .inl (cs 1, 9, .inr (.inl (lt4 0 0 1 1)))), (mab, .inl (cs 1, 9, .inr (.inl (lt4 1 1 2 1)))), (mba, .inl (cs 1, 9, .inr (.inl (lt4 0 0 0 0)))), (mbb, .inl (cs 1, 9, .inr (.inl (lt4 1 1 1 1))))] H := by rw [hH]; exact hP
  replace hS : va_S A s.heap H [] := by rw [hH]; exact hS
  obtain ⟨locs, hlocs⟩ : ∃ z : List Loc, z = [] := ⟨_, rfl⟩
  rw [← hlocs] at hS
  suffices hW : W p l e ({ frames := 2, cells := 0, slots := 0, locals := 58 } : Room) s m args below meth c H locs 0 0 (MQ below ((xQv D (fun (_u : Unit) => True) (fun (_u : Unit) => [(hm, .inr (12, [.ref ms, .ref mkp, .int (nI 0), .ref mtr, .int (nI 4), .int (nI 2), .int (nI 2), .int (nI 3), .int (nI 2), .int (nI 1), .ref mas, .int (nI 0), .int (nI 0), .int (nI 0), .ref mso, .ref mon, .ref mot, .ref man, .int (nI 0), .int (nI 0), .ref mst, .ref msm, .ref mtb, .ref mti, .ref mfr, .ref mbn, .ref mbs, .ref mde, .int (nI 0), .int (nI 0), .int (nI 0), .int (nI 0), .long 1, .long 2, .ref maa, .ref mab, .ref mba, .ref mbb])), (maa, .inl (cs 1, 9, .inr (.inl (lt4 0 0 1 1)))), (mab, .inl (cs 1, 9, .inr (.inl (lt4 1 1 2 1)))), (mba, .inl (cs 1, 9, .inr (.inl (lt4 0 0 0 0)))), (mbb, .inl (cs 1, 9, .inr (.inl (lt4 1 1 1 1))))])) A) args s 0 0 A) (F0 m 0 ls []) by rw [hlocs, hH] at hW; exact hW
  clear hH hlocs
  refine lv_aload_n hx hb dX12_goesDown_0 rfl (lv_at hl 0 rfl) ?_
  refine lv_lload_n hx hb dX12_goesDown_1 rfl (lv_at hl 2 rfl) ?_
  refine xput C hP hD hS 0 rfl rfl zuX12 tyX12 tyX12_ok nmX12 32 (by decide) zw6_5 rfl rfl rfl (Nat.le_of_ble_eq_true rfl) dX12_goesDown_2 ?_
  clear hP hD hS
  try clear locs
  try clear H
  intro H locs hP hD hS
  replace hP : va_P D vwCl [(hm, .inr (12, [.ref ms, .ref mkp, .int (nI 0), .ref mtr, .int (nI 4), .int (nI 2), .int (nI 2), .int (nI 3), .int (nI 2), .int (nI 1), .ref mas, .int (nI 0), .int (nI 0), .int (nI 0), .ref mso, .ref mon, .ref mot, .ref man, .int (nI 0), .int (nI 0), .ref mst, .ref msm, .ref mtb, .ref mti, .ref mfr, .ref mbn, .ref mbs, .ref mde, .int (nI 0), .int (nI 0), .int (nI 0), .int (nI 0), .long 1, .long be, .ref maa, .ref mab, .ref mba, .ref mbb])), (maa, .inl (cs 1, 9, .inr (.inl (lt4 0 0 1 1)))), (mab, .inl (cs 1, 9, .inr (.inl (lt4 1 1 2 1)))), (mba, .inl (cs 1, 9, .inr (.inl (lt4 0 0 0 0)))), (mbb, .inl (cs 1, 9, .inr (.inl (lt4 1 1 1 1))))] H := hP
  replace hD : va_D A [(hm, .inr (12, [.ref ms, .ref mkp, .int (nI 0), .ref mtr, .int (nI 4), .int (nI 2), .int (nI 2), .int (nI 3), .int (nI 2), .int (nI 1), .ref mas, .int (nI 0), .int (nI 0), .int (nI 0), .ref mso, .ref mon, .ref mot, .ref man, .int (nI 0), .int (nI 0), .ref mst, .ref msm, .ref mtb, .ref mti, .ref mfr, .ref mbn, .ref mbs, .ref mde, .int (nI 0), .int (nI 0), .int (nI 0), .int (nI 0), .long 1, .long be, .ref maa, .ref mab, .ref mba, .ref mbb])), (maa, .inl (cs 1, 9, .inr (.inl (lt4 0 0 1 1)))), (mab, .inl (cs 1, 9, .inr (.inl (lt4 1 1 2 1)))), (mba, .inl (cs 1, 9, .inr (.inl (lt4 0 0 0 0)))), (mbb, .inl (cs 1, 9, .inr (.inl (lt4 1 1 1 1))))] := hD
  refine lv_aload_n hx hb dX12_goesDown_5 rfl (lv_at hl 0 rfl) ?_
  refine lv_lconst (v := 1) hx hb dX12_goesDown_6 (by decide) ?_
  refine xput C hP hD hS 0 rfl rfl zuX12 tyX12 tyX12_ok nmX12 33 (by decide) zw6_6 rfl rfl rfl (Nat.le_of_ble_eq_true rfl) dX12_goesDown_7 ?_
  clear hP hD hS
  try clear locs
  try clear H
  intro H locs hP hD hS
  replace hP : va_P D vwCl [(hm, .inr (12, [.ref ms, .ref mkp, .int (nI 0), .ref mtr, .int (nI 4), .int (nI 2), .int (nI 2), .int (nI 3), .int (nI 2), .int (nI 1), .ref mas, .int (nI 0), .int (nI 0), .int (nI 0), .ref mso, .ref mon, .ref mot, .ref man, .int (nI 0), .int (nI 0), .ref mst, .ref msm, .ref mtb, .ref mti, .ref mfr, .ref mbn, .ref mbs, .ref mde, .int (nI 0), .int (nI 0), .int (nI 0), .int (nI 0), .long 1, .long 1, .ref maa, .ref mab, .ref mba, .ref mbb])), (maa, .inl (cs 1, 9, .inr (.inl (lt4 0 0 1 1)))), (mab, .inl (cs 1, 9, .inr (.inl (lt4 1 1 2 1)))), (mba, .inl (cs 1, 9, .inr (.inl (lt4 0 0 0 0)))), (mbb, .inl (cs 1, 9, .inr (.inl (lt4 1 1 1 1))))] H := hP
  replace hD : va_D A [(hm, .inr (12, [.ref ms, .ref mkp, .int (nI 0), .ref mtr, .int (nI 4), .int (nI 2), .int (nI 2), .int (nI 3), .int (nI 2), .int (nI 1), .ref mas, .int (nI 0), .int (nI 0), .int (nI 0), .ref mso, .ref mon, .ref mot, .ref man, .int (nI 0), .int (nI 0), .ref mst, .ref msm, .ref mtb, .ref mti, .ref mfr, .ref mbn, .ref mbs, .ref mde, .int (nI 0), .int (nI 0), .int (nI 0), .int (nI 0), .long 1, .long 1, .ref maa, .ref mab, .ref mba, .ref mbb])), (maa, .inl (cs 1, 9, .inr (.inl (lt4 0 0 1 1)))), (mab, .inl (cs 1, 9, .inr (.inl (lt4 1 1 2 1)))), (mba, .inl (cs 1, 9, .inr (.inl (lt4 0 0 0 0)))), (mbb, .inl (cs 1, 9, .inr (.inl (lt4 1 1 1 1))))] := hD
  refine lv_aload_n hx hb dX12_goesDown_10 rfl (lv_at hl 0 rfl) ?_
  refine xget C hP 0 rfl rfl zuX12 4 (by decide) zw5_217 rfl dX12_goesDown_11 ?_
  refine lv_iconst (v := nI 1) hx hb dX12_goesDown_14 (by decide) ?_
  refine lv_isub hx hb dX12_goesDown_15 ?_
  refine lv_topi (nm_r (e' := nI 3) (by decide) ?_)
  refine lv_istore (lv' := [(4, .int (nI 3)), (0, .ref hm), (1, .int (nI 2)), (2, .long 1)]) hx hb dX12_goesDown_16 hl (by decide) rfl ?_
  clear hl
  try clear ls
  intro ls hl
  refine lv_iload hx hb dX12_goesDown_18 (lv_at hl 0 rfl) ?_
  refine lv_iload_n hx hb dX12_goesDown_20 rfl (lv_at hl 2 rfl) ?_
  refine lv_icmp_lt (tgt := 89) hx hb dX12_goesDown_21 (by decide) (fun c => absurd c (by decide)) (fun _ => ?_)
  refine lv_aload_n hx hb dX12_goesDown_24 rfl (lv_at hl 1 rfl) ?_
  refine xget C hP 0 rfl rfl zuX12 31 (by decide) zw6_4 rfl dX12_goesDown_25 ?_
  refine lv_if_ne (tgt := 89) hx hb dX12_goesDown_28 (by decide) (fun c => absurd (by decide) c) (fun _ => ?_)
  refine lv_aload_n hx hb dX12_goesDown_31 rfl (lv_at hl 1 rfl) ?_
  refine lv_aload_n hx hb dX12_goesDown_32 rfl (lv_at hl 1 rfl) ?_
  refine xget C hP 0 rfl rfl zuX12 34 (by decide) zw6_7 rfl dX12_goesDown_33 ?_
  refine lv_iload hx hb dX12_goesDown_36 (lv_at hl 0 rfl) ?_
  refine xlald C hP 1 rfl 3 rfl (by decide) (by decide) dX12_goesDown_38 ?_
  refine lv_topl (nm_r (e' := 1) (by decide) ?_)
  refine lv_aload_n hx hb dX12_goesDown_39 rfl (lv_at hl 1 rfl) ?_
  refine xget C hP 0 rfl rfl zuX12 35 (by decide) zw6_8 rfl dX12_goesDown_40 ?_
  refine lv_iload hx hb dX12_goesDown_43 (lv_at hl 0 rfl) ?_
  refine xlald C hP 2 rfl 3 rfl (by decide) (by decide) dX12_goesDown_45 ?_
  refine lv_topl (nm_r (e' := 1) (by decide) ?_)
  refine lv_aload_n hx hb dX12_goesDown_46 rfl (lv_at hl 1 rfl) ?_
  refine xget C hP 0 rfl rfl zuX12 32 (by decide) zw6_5 rfl dX12_goesDown_47 ?_
  refine lv_aload_n hx hb dX12_goesDown_50 rfl (lv_at hl 1 rfl) ?_
  refine xget C hP 0 rfl rfl zuX12 33 (by decide) zw6_6 rfl dX12_goesDown_51 ?_
  refine xv (wr := [(maa, .inl (cs 1, 9, .inr (.inl (lt4 0 0 1 1)))), (mab, .inl (cs 1, 9, .inr (.inl (lt4 1 1 2 1)))), (mba, .inl (cs 1, 9, .inr (.inl (lt4 0 0 0 0)))), (mbb, .inl (cs 1, 9, .inr (.inl (lt4 1 1 1 1))))]) (xV (As := [.long 1, .long 1, .long 1, .long 1]) (rest := []) C (c_X12_multiplies l D cs hm ms mkp mtr mas mso mon mot man mst msm mtb mti mfr mbn mbs mde maa mab mba mbb 1 1 1 1 1 1 1 1 1 1 (by decide +kernel) (by decide +kernel) (by decide +kernel)) kX12_286 hP hD [0] rfl (by decide +kernel) 0 rfl rfl rfl ⟨Nat.le_of_ble_eq_true rfl, Nat.le_of_ble_eq_true rfl⟩ rfl hl.1 rfl (Nat.le_of_ble_eq_true rfl) dX12_goesDown_54 ⟨Nat.le_of_ble_eq_true rfl, Nat.le_of_ble_eq_true rfl⟩) hP hD hS hA [0] [1, 2, 3, 4] rfl rfl (by decide +kernel) (by decide +kernel) ?_
  clear hP hD hS
  try clear locs
  try clear H
  intro u_2 H locs hw_r_1 hP hD hS
  refine W.widen (k := 0) (n := 0) (Nat.le_of_ble_eq_true rfl) (Nat.le_of_ble_eq_true rfl) ?_
  replace hP : va_P D vwCl [(maa, .inl (cs 1, 9, .inr (.inl (lt4 0 0 1 1)))), (mab, .inl (cs 1, 9, .inr (.inl (lt4 1 1 2 1)))), (mba, .inl (cs 1, 9, .inr (.inl (lt4 0 0 0 0)))), (mbb, .inl (cs 1, 9, .inr (.inl (lt4 1 1 1 1)))), (hm, .inr (12, [.ref ms, .ref mkp, .int (nI 0), .ref mtr, .int (nI 4), .int (nI 2), .int (nI 2), .int (nI 3), .int (nI 2), .int (nI 1), .ref mas, .int (nI 0), .int (nI 0), .int (nI 0), .ref mso, .ref mon, .ref mot, .ref man, .int (nI 0), .int (nI 0), .ref mst, .ref msm, .ref mtb, .ref mti, .ref mfr, .ref mbn, .ref mbs, .ref mde, .int (nI 0), .int (nI 0), .int (nI 0), .int (nI 0), .long 1, .long 1, .ref maa, .ref mab, .ref mba, .ref mbb]))] H := hP
  replace hD : va_D A [(maa, .inl (cs 1, 9, .inr (.inl (lt4 0 0 1 1)))), (mab, .inl (cs 1, 9, .inr (.inl (lt4 1 1 2 1)))), (mba, .inl (cs 1, 9, .inr (.inl (lt4 0 0 0 0)))), (mbb, .inl (cs 1, 9, .inr (.inl (lt4 1 1 1 1)))), (hm, .inr (12, [.ref ms, .ref mkp, .int (nI 0), .ref mtr, .int (nI 4), .int (nI 2), .int (nI 2), .int (nI 3), .int (nI 2), .int (nI 1), .ref mas, .int (nI 0), .int (nI 0), .int (nI 0), .ref mso, .ref mon, .ref mot, .ref man, .int (nI 0), .int (nI 0), .ref mst, .ref msm, .ref mtb, .ref mti, .ref mfr, .ref mbn, .ref mbs, .ref mde, .int (nI 0), .int (nI 0), .int (nI 0), .int (nI 0), .long 1, .long 1, .ref maa, .ref mab, .ref mba, .ref mbb]))] := hD
  refine lv_aload_n hx hb dX12_goesDown_57 rfl (lv_at hl 1 rfl) ?_
  refine lv_aload_n hx hb dX12_goesDown_58 rfl (lv_at hl 1 rfl) ?_
  refine xget C hP 4 rfl rfl zuX12 32 (by decide) zw6_5 rfl dX12_goesDown_59 ?_
  refine lv_aload_n hx hb dX12_goesDown_62 rfl (lv_at hl 1 rfl) ?_
  refine xget C hP 4 rfl rfl zuX12 33 (by decide) zw6_6 rfl dX12_goesDown_63 ?_
  refine lv_aload_n hx hb dX12_goesDown_66 rfl (lv_at hl 1 rfl) ?_
  refine xget C hP 4 rfl rfl zuX12 36 (by decide) zw6_9 rfl dX12_goesDown_67 ?_
  refine lv_iload hx hb dX12_goesDown_70 (lv_at hl 0 rfl) ?_
  refine xlald C hP 2 rfl 3 rfl (by decide) (by decide) dX12_goesDown_72 ?_
  refine lv_topl (nm_r (e' := 0) (by decide) ?_)
  refine lv_aload_n hx hb dX12_goesDown_73 rfl (lv_at hl 1 rfl) ?_
  refine xget C hP 4 rfl rfl zuX12 37 (by decide) zw6_10 rfl dX12_goesDown_74 ?_
  refine lv_iload hx hb dX12_goesDown_77 (lv_at hl 0 rfl) ?_
  refine xlald C hP 3 rfl 3 rfl (by decide) (by decide) dX12_goesDown_79 ?_
  refine lv_topl (nm_r (e' := 1) (by decide) ?_)
  refine xv (wr := [(maa, .inl (cs 1, 9, .inr (.inl (lt4 0 0 1 1)))), (mab, .inl (cs 1, 9, .inr (.inl (lt4 1 1 2 1)))), (mba, .inl (cs 1, 9, .inr (.inl (lt4 0 0 0 0)))), (mbb, .inl (cs 1, 9, .inr (.inl (lt4 1 1 1 1))))]) (xV (As := [.long 1, .long 1, .long 0, .long 1]) (rest := []) C (c_X12_adds l D cs hm ms mkp mtr mas mso mon mot man mst msm mtb mti mfr mbn mbs mde maa mab mba mbb 1 1 1 1 0 1 1 0 1 1 1 1 (by decide +kernel) (by decide +kernel) (by decide +kernel) (by decide +kernel) (by decide +kernel) (by decide +kernel)) kX12_296 hP hD [4] rfl (by decide +kernel) 0 rfl rfl rfl ⟨Nat.le_of_ble_eq_true rfl, Nat.le_of_ble_eq_true rfl⟩ rfl hl.1 rfl (Nat.le_of_ble_eq_true rfl) dX12_goesDown_80 ⟨Nat.le_of_ble_eq_true rfl, Nat.le_of_ble_eq_true rfl⟩) hP hD hS hA [4] [0, 1, 2, 3] rfl rfl (by decide +kernel) (by decide +kernel) ?_
  clear hP hD hS
  try clear locs
  try clear H
  intro u_4 H locs hw_r_3 hP hD hS
  refine W.widen (k := 0) (n := 0) (Nat.le_of_ble_eq_true rfl) (Nat.le_of_ble_eq_true rfl) ?_
  replace hP : va_P D vwCl [(maa, .inl (cs 1, 9, .inr (.inl (lt4 0 0 1 1)))), (mab, .inl (cs 1, 9, .inr (.inl (lt4 1 1 2 1)))), (mba, .inl (cs 1, 9, .inr (.inl (lt4 0 0 0 0)))), (mbb, .inl (cs 1, 9, .inr (.inl (lt4 1 1 1 1)))), (hm, .inr (12, [.ref ms, .ref mkp, .int (nI 0), .ref mtr, .int (nI 4), .int (nI 2), .int (nI 2), .int (nI 3), .int (nI 2), .int (nI 1), .ref mas, .int (nI 0), .int (nI 0), .int (nI 0), .ref mso, .ref mon, .ref mot, .ref man, .int (nI 0), .int (nI 0), .ref mst, .ref msm, .ref mtb, .ref mti, .ref mfr, .ref mbn, .ref mbs, .ref mde, .int (nI 0), .int (nI 0), .int (nI 0), .int (nI 0), .long 1, .long 1, .ref maa, .ref mab, .ref mba, .ref mbb]))] H := hP
  replace hD : va_D A [(maa, .inl (cs 1, 9, .inr (.inl (lt4 0 0 1 1)))), (mab, .inl (cs 1, 9, .inr (.inl (lt4 1 1 2 1)))), (mba, .inl (cs 1, 9, .inr (.inl (lt4 0 0 0 0)))), (mbb, .inl (cs 1, 9, .inr (.inl (lt4 1 1 1 1)))), (hm, .inr (12, [.ref ms, .ref mkp, .int (nI 0), .ref mtr, .int (nI 4), .int (nI 2), .int (nI 2), .int (nI 3), .int (nI 2), .int (nI 1), .ref mas, .int (nI 0), .int (nI 0), .int (nI 0), .ref mso, .ref mon, .ref mot, .ref man, .int (nI 0), .int (nI 0), .ref mst, .ref msm, .ref mtb, .ref mti, .ref mfr, .ref mbn, .ref mbs, .ref mde, .int (nI 0), .int (nI 0), .int (nI 0), .int (nI 0), .long 1, .long 1, .ref maa, .ref mab, .ref mba, .ref mbb]))] := hD
  refine lv_iinc (v := nI 2) (lv' := [(4, .int (nI 2)), (0, .ref hm), (1, .int (nI 2)), (2, .long 1)]) hx hb dX12_goesDown_83 hl (k := 0) rfl (by decide) (by decide) rfl ?_
  clear hl
  try clear ls
  intro ls hl
  refine lv_goto (tgt := 18) hx hb dX12_goesDown_86 (by decide) ?_
  refine lv_iload hx hb dX12_goesDown_18 (lv_at hl 0 rfl) ?_
  refine lv_iload_n hx hb dX12_goesDown_20 rfl (lv_at hl 2 rfl) ?_
  refine lv_icmp_lt (tgt := 89) hx hb dX12_goesDown_21 (by decide) (fun c => absurd c (by decide)) (fun _ => ?_)
  refine lv_aload_n hx hb dX12_goesDown_24 rfl (lv_at hl 1 rfl) ?_
  refine xget C hP 4 rfl rfl zuX12 31 (by decide) zw6_4 rfl dX12_goesDown_25 ?_
  refine lv_if_ne (tgt := 89) hx hb dX12_goesDown_28 (by decide) (fun c => absurd (by decide) c) (fun _ => ?_)
  refine lv_aload_n hx hb dX12_goesDown_31 rfl (lv_at hl 1 rfl) ?_
  refine lv_aload_n hx hb dX12_goesDown_32 rfl (lv_at hl 1 rfl) ?_
  refine xget C hP 4 rfl rfl zuX12 34 (by decide) zw6_7 rfl dX12_goesDown_33 ?_
  refine lv_iload hx hb dX12_goesDown_36 (lv_at hl 0 rfl) ?_
  refine xlald C hP 0 rfl 2 rfl (by decide) (by decide) dX12_goesDown_38 ?_
  refine lv_topl (nm_r (e' := 1) (by decide) ?_)
  refine lv_aload_n hx hb dX12_goesDown_39 rfl (lv_at hl 1 rfl) ?_
  refine xget C hP 4 rfl rfl zuX12 35 (by decide) zw6_8 rfl dX12_goesDown_40 ?_
  refine lv_iload hx hb dX12_goesDown_43 (lv_at hl 0 rfl) ?_
  refine xlald C hP 1 rfl 2 rfl (by decide) (by decide) dX12_goesDown_45 ?_
  refine lv_topl (nm_r (e' := 2) (by decide) ?_)
  refine lv_aload_n hx hb dX12_goesDown_46 rfl (lv_at hl 1 rfl) ?_
  refine xget C hP 4 rfl rfl zuX12 32 (by decide) zw6_5 rfl dX12_goesDown_47 ?_
  refine lv_aload_n hx hb dX12_goesDown_50 rfl (lv_at hl 1 rfl) ?_
  refine xget C hP 4 rfl rfl zuX12 33 (by decide) zw6_6 rfl dX12_goesDown_51 ?_
  refine xv (wr := [(maa, .inl (cs 1, 9, .inr (.inl (lt4 0 0 1 1)))), (mab, .inl (cs 1, 9, .inr (.inl (lt4 1 1 2 1)))), (mba, .inl (cs 1, 9, .inr (.inl (lt4 0 0 0 0)))), (mbb, .inl (cs 1, 9, .inr (.inl (lt4 1 1 1 1))))]) (xV (As := [.long 1, .long 2, .long 1, .long 1]) (rest := []) C (c_X12_multiplies l D cs hm ms mkp mtr mas mso mon mot man mst msm mtb mti mfr mbn mbs mde maa mab mba mbb 1 1 1 2 1 1 1 2 1 2 (by decide +kernel) (by decide +kernel) (by decide +kernel)) kX12_286 hP hD [4] rfl (by decide +kernel) 0 rfl rfl rfl ⟨Nat.le_of_ble_eq_true rfl, Nat.le_of_ble_eq_true rfl⟩ rfl hl.1 rfl (Nat.le_of_ble_eq_true rfl) dX12_goesDown_54 ⟨Nat.le_of_ble_eq_true rfl, Nat.le_of_ble_eq_true rfl⟩) hP hD hS hA [4] [0, 1, 2, 3] rfl rfl (by decide +kernel) (by decide +kernel) ?_
  clear hP hD hS
  try clear locs
  try clear H
  intro u_6 H locs hw_r_5 hP hD hS
  refine W.widen (k := 0) (n := 0) (Nat.le_of_ble_eq_true rfl) (Nat.le_of_ble_eq_true rfl) ?_
  replace hP : va_P D vwCl [(maa, .inl (cs 1, 9, .inr (.inl (lt4 0 0 1 1)))), (mab, .inl (cs 1, 9, .inr (.inl (lt4 1 1 2 1)))), (mba, .inl (cs 1, 9, .inr (.inl (lt4 0 0 0 0)))), (mbb, .inl (cs 1, 9, .inr (.inl (lt4 1 1 1 1)))), (hm, .inr (12, [.ref ms, .ref mkp, .int (nI 0), .ref mtr, .int (nI 4), .int (nI 2), .int (nI 2), .int (nI 3), .int (nI 2), .int (nI 1), .ref mas, .int (nI 0), .int (nI 0), .int (nI 0), .ref mso, .ref mon, .ref mot, .ref man, .int (nI 0), .int (nI 0), .ref mst, .ref msm, .ref mtb, .ref mti, .ref mfr, .ref mbn, .ref mbs, .ref mde, .int (nI 0), .int (nI 0), .int (nI 0), .int (nI 0), .long 1, .long 2, .ref maa, .ref mab, .ref mba, .ref mbb]))] H := hP
  replace hD : va_D A [(maa, .inl (cs 1, 9, .inr (.inl (lt4 0 0 1 1)))), (mab, .inl (cs 1, 9, .inr (.inl (lt4 1 1 2 1)))), (mba, .inl (cs 1, 9, .inr (.inl (lt4 0 0 0 0)))), (mbb, .inl (cs 1, 9, .inr (.inl (lt4 1 1 1 1)))), (hm, .inr (12, [.ref ms, .ref mkp, .int (nI 0), .ref mtr, .int (nI 4), .int (nI 2), .int (nI 2), .int (nI 3), .int (nI 2), .int (nI 1), .ref mas, .int (nI 0), .int (nI 0), .int (nI 0), .ref mso, .ref mon, .ref mot, .ref man, .int (nI 0), .int (nI 0), .ref mst, .ref msm, .ref mtb, .ref mti, .ref mfr, .ref mbn, .ref mbs, .ref mde, .int (nI 0), .int (nI 0), .int (nI 0), .int (nI 0), .long 1, .long 2, .ref maa, .ref mab, .ref mba, .ref mbb]))] := hD
  refine lv_aload_n hx hb dX12_goesDown_57 rfl (lv_at hl 1 rfl) ?_
  refine lv_aload_n hx hb dX12_goesDown_58 rfl (lv_at hl 1 rfl) ?_
  refine xget C hP 4 rfl rfl zuX12 32 (by decide) zw6_5 rfl dX12_goesDown_59 ?_
  refine lv_aload_n hx hb dX12_goesDown_62 rfl (lv_at hl 1 rfl) ?_
  refine xget C hP 4 rfl rfl zuX12 33 (by decide) zw6_6 rfl dX12_goesDown_63 ?_
  refine lv_aload_n hx hb dX12_goesDown_66 rfl (lv_at hl 1 rfl) ?_
  refine xget C hP 4 rfl rfl zuX12 36 (by decide) zw6_9 rfl dX12_goesDown_67 ?_
  refine lv_iload hx hb dX12_goesDown_70 (lv_at hl 0 rfl) ?_
  refine xlald C hP 2 rfl 2 rfl (by decide) (by decide) dX12_goesDown_72 ?_
  refine lv_topl (nm_r (e' := 0) (by decide) ?_)
  refine lv_aload_n hx hb dX12_goesDown_73 rfl (lv_at hl 1 rfl) ?_
  refine xget C hP 4 rfl rfl zuX12 37 (by decide) zw6_10 rfl dX12_goesDown_74 ?_
  refine lv_iload hx hb dX12_goesDown_77 (lv_at hl 0 rfl) ?_
  refine xlald C hP 3 rfl 2 rfl (by decide) (by decide) dX12_goesDown_79 ?_
  refine lv_topl (nm_r (e' := 1) (by decide) ?_)
  refine xv (wr := [(maa, .inl (cs 1, 9, .inr (.inl (lt4 0 0 1 1)))), (mab, .inl (cs 1, 9, .inr (.inl (lt4 1 1 2 1)))), (mba, .inl (cs 1, 9, .inr (.inl (lt4 0 0 0 0)))), (mbb, .inl (cs 1, 9, .inr (.inl (lt4 1 1 1 1))))]) (xV (As := [.long 1, .long 2, .long 0, .long 1]) (rest := []) C (c_X12_adds l D cs hm ms mkp mtr mas mso mon mot man mst msm mtb mti mfr mbn mbs mde maa mab mba mbb 1 2 1 2 0 1 1 0 1 2 1 2 (by decide +kernel) (by decide +kernel) (by decide +kernel) (by decide +kernel) (by decide +kernel) (by decide +kernel)) kX12_296 hP hD [4] rfl (by decide +kernel) 0 rfl rfl rfl ⟨Nat.le_of_ble_eq_true rfl, Nat.le_of_ble_eq_true rfl⟩ rfl hl.1 rfl (Nat.le_of_ble_eq_true rfl) dX12_goesDown_80 ⟨Nat.le_of_ble_eq_true rfl, Nat.le_of_ble_eq_true rfl⟩) hP hD hS hA [4] [0, 1, 2, 3] rfl rfl (by decide +kernel) (by decide +kernel) ?_
  clear hP hD hS
  try clear locs
  try clear H
  intro u_8 H locs hw_r_7 hP hD hS
  refine W.widen (k := 0) (n := 0) (Nat.le_of_ble_eq_true rfl) (Nat.le_of_ble_eq_true rfl) ?_
  replace hP : va_P D vwCl [(maa, .inl (cs 1, 9, .inr (.inl (lt4 0 0 1 1)))), (mab, .inl (cs 1, 9, .inr (.inl (lt4 1 1 2 1)))), (mba, .inl (cs 1, 9, .inr (.inl (lt4 0 0 0 0)))), (mbb, .inl (cs 1, 9, .inr (.inl (lt4 1 1 1 1)))), (hm, .inr (12, [.ref ms, .ref mkp, .int (nI 0), .ref mtr, .int (nI 4), .int (nI 2), .int (nI 2), .int (nI 3), .int (nI 2), .int (nI 1), .ref mas, .int (nI 0), .int (nI 0), .int (nI 0), .ref mso, .ref mon, .ref mot, .ref man, .int (nI 0), .int (nI 0), .ref mst, .ref msm, .ref mtb, .ref mti, .ref mfr, .ref mbn, .ref mbs, .ref mde, .int (nI 0), .int (nI 0), .int (nI 0), .int (nI 0), .long 1, .long 2, .ref maa, .ref mab, .ref mba, .ref mbb]))] H := hP
  replace hD : va_D A [(maa, .inl (cs 1, 9, .inr (.inl (lt4 0 0 1 1)))), (mab, .inl (cs 1, 9, .inr (.inl (lt4 1 1 2 1)))), (mba, .inl (cs 1, 9, .inr (.inl (lt4 0 0 0 0)))), (mbb, .inl (cs 1, 9, .inr (.inl (lt4 1 1 1 1)))), (hm, .inr (12, [.ref ms, .ref mkp, .int (nI 0), .ref mtr, .int (nI 4), .int (nI 2), .int (nI 2), .int (nI 3), .int (nI 2), .int (nI 1), .ref mas, .int (nI 0), .int (nI 0), .int (nI 0), .ref mso, .ref mon, .ref mot, .ref man, .int (nI 0), .int (nI 0), .ref mst, .ref msm, .ref mtb, .ref mti, .ref mfr, .ref mbn, .ref mbs, .ref mde, .int (nI 0), .int (nI 0), .int (nI 0), .int (nI 0), .long 1, .long 2, .ref maa, .ref mab, .ref mba, .ref mbb]))] := hD
  refine lv_iinc (v := nI 1) (lv' := [(4, .int (nI 1)), (0, .ref hm), (1, .int (nI 2)), (2, .long 1)]) hx hb dX12_goesDown_83 hl (k := 0) rfl (by decide) (by decide) rfl ?_
  clear hl
  try clear ls
  intro ls hl
  refine lv_goto (tgt := 18) hx hb dX12_goesDown_86 (by decide) ?_
  refine lv_iload hx hb dX12_goesDown_18 (lv_at hl 0 rfl) ?_
  refine lv_iload_n hx hb dX12_goesDown_20 rfl (lv_at hl 2 rfl) ?_
  refine lv_icmp_lt (tgt := 89) hx hb dX12_goesDown_21 (by decide) (fun _ => ?_) (fun c => absurd (by decide) c)
  exact xretv C () trivial (xP_map hP [4, 0, 1, 2, 3] rfl) (hD.sub [4, 0, 1, 2, 3] (by decide +kernel) rfl) hS (Nat.le_of_ble_eq_true rfl) (Nat.le_of_ble_eq_true rfl) dX12_goesDown_89

set_option maxHeartbeats 4000000 in
set_option maxRecDepth 100000 in
theorem c_X12_goesDown_0_3 (l : Launch) (D : va_G) (cs : Nat → ClassId) (hm ms mkp mtr mas mso mon mot man mst msm mtb mti mfr mbn mbs mde maa mab mba mbb : Nat) (ab be : Int64) : xMet l D cs yX12_goesDown cX12_goesDown 5 none ({ frames := 2, cells := 0, slots := 0, locals := 58 } : Room) [.ref hm, .int (nI 3), .long 1] [(hm, .inr (12, [.ref ms, .ref mkp, .int (nI 0), .ref mtr, .int (nI 4), .int (nI 2), .int (nI 2), .int (nI 3), .int (nI 2), .int (nI 1), .ref mas, .int (nI 0), .int (nI 0), .int (nI 0), .ref mso, .ref mon, .ref mot, .ref man, .int (nI 0), .int (nI 0), .ref mst, .ref msm, .ref mtb, .ref mti, .ref mfr, .ref mbn, .ref mbs, .ref mde, .int (nI 0), .int (nI 0), .int (nI 0), .int (nI 0), .long ab, .long be, .ref maa, .ref mab, .ref mba, .ref mbb])), (maa, .inl (cs 1, 9, .inr (.inl (lt4 0 0 1 1)))), (mab, .inl (cs 1, 9, .inr (.inl (lt4 1 1 2 1)))), (mba, .inl (cs 1, 9, .inr (.inl (lt4 0 0 0 0)))), (mbb, .inl (cs 1, 9, .inr (.inl (lt4 1 1 1 1))))] (xQv D (fun (_u : Unit) => True) (fun (_u : Unit) => [(hm, .inr (12, [.ref ms, .ref mkp, .int (nI 0), .ref mtr, .int (nI 4), .int (nI 2), .int (nI 2), .int (nI 3), .int (nI 2), .int (nI 1), .ref mas, .int (nI 0), .int (nI 0), .int (nI 0), .ref mso, .ref mon, .ref mot, .ref man, .int (nI 0), .int (nI 0), .ref mst, .ref msm, .ref mtb, .ref mti, .ref mfr, .ref mbn, .ref mbs, .ref mde, .int (nI 0), .int (nI 0), .int (nI 0), .int (nI 0), .long 1, .long 1, .ref maa, .ref mab, .ref mba, .ref mbb])), (maa, .inl (cs 1, 9, .inr (.inl (lt4 0 0 1 1)))), (mab, .inl (cs 1, 9, .inr (.inl (lt4 1 1 2 1)))), (mba, .inl (cs 1, 9, .inr (.inl (lt4 0 0 0 0)))), (mbb, .inl (cs 1, 9, .inr (.inl (lt4 1 1 1 1))))])) := by
  refine xMet.intro (by decide) (Nat.le_of_ble_eq_true rfl) ?_
  intro p e s m args below meth c A ls C hP hD hS hl
  have hx := C.1
  have hb := C.2.1
  have hz := C.2.2.2.2.1
  have hown := C.2.2.2.1
  have hA := C.2.2.2.2.2.2.2.2.2
  have hAO := C.2.2.2.2.2.2.2.2.1.2.2
  replace hl : lv_has ls 5 [(0, .ref hm), (1, .int (nI 3)), (2, .long 1)] := hl
  obtain ⟨H, hH⟩ : ∃ H, H = s.heap := ⟨_, rfl⟩
  replace hP : va_P D vwCl [(hm, .inr (12, [.ref ms, .ref mkp, .int (nI 0), .ref mtr, .int (nI 4), .int (nI 2), .int (nI 2), .int (nI 3), .int (nI 2), .int (nI 1), .ref mas, .int (nI 0), .int (nI 0), .int (nI 0), .ref mso, .ref mon, .ref mot, .ref man, .int (nI 0), .int (nI 0), .ref mst, .ref msm, .ref mtb, .ref mti, .ref mfr, .ref mbn, .ref mbs, .ref mde, .int (nI 0), .int (nI 0), .int (nI 0), .int (nI 0), .long ab, .long be, .ref maa, .ref mab, .ref mba, .ref mbb])), (maa, .inl (cs 1, 9, .inr (.inl (lt4 0 0 1 1)))), (mab, .inl (cs 1, 9, .inr (.inl (lt4 1 1 2 1)))), (mba, .inl (cs 1, 9, .inr (.inl (lt4 0 0 0 0)))), (mbb, .inl (cs 1, 9, .inr (.inl (lt4 1 1 1 1))))] H := by rw [hH]; exact hP
  replace hS : va_S A s.heap H [] := by rw [hH]; exact hS
  obtain ⟨locs, hlocs⟩ : ∃ z : List Loc, z = [] := ⟨_, rfl⟩
  rw [← hlocs] at hS
  suffices hW : W p l e ({ frames := 2, cells := 0, slots := 0, locals := 58 } : Room) s m args below meth c H locs 0 0 (MQ below ((xQv D (fun (_u : Unit) => True) (fun (_u : Unit) => [(hm, .inr (12, [.ref ms, .ref mkp, .int (nI 0), .ref mtr, .int (nI 4), .int (nI 2), .int (nI 2), .int (nI 3), .int (nI 2), .int (nI 1), .ref mas, .int (nI 0), .int (nI 0), .int (nI 0), .ref mso, .ref mon, .ref mot, .ref man, .int (nI 0), .int (nI 0), .ref mst, .ref msm, .ref mtb, .ref mti, .ref mfr, .ref mbn, .ref mbs, .ref mde, .int (nI 0), .int (nI 0), .int (nI 0), .int (nI 0), .long 1, .long 1, .ref maa, .ref mab, .ref mba, .ref mbb])), (maa, .inl (cs 1, 9, .inr (.inl (lt4 0 0 1 1)))), (mab, .inl (cs 1, 9, .inr (.inl (lt4 1 1 2 1)))), (mba, .inl (cs 1, 9, .inr (.inl (lt4 0 0 0 0)))), (mbb, .inl (cs 1, 9, .inr (.inl (lt4 1 1 1 1))))])) A) args s 0 0 A) (F0 m 0 ls []) by rw [hlocs, hH] at hW; exact hW
  clear hH hlocs
  refine lv_aload_n hx hb dX12_goesDown_0 rfl (lv_at hl 0 rfl) ?_
  refine lv_lload_n hx hb dX12_goesDown_1 rfl (lv_at hl 2 rfl) ?_
  refine xput C hP hD hS 0 rfl rfl zuX12 tyX12 tyX12_ok nmX12 32 (by decide) zw6_5 rfl rfl rfl (Nat.le_of_ble_eq_true rfl) dX12_goesDown_2 ?_
  clear hP hD hS
  try clear locs
  try clear H
  intro H locs hP hD hS
  replace hP : va_P D vwCl [(hm, .inr (12, [.ref ms, .ref mkp, .int (nI 0), .ref mtr, .int (nI 4), .int (nI 2), .int (nI 2), .int (nI 3), .int (nI 2), .int (nI 1), .ref mas, .int (nI 0), .int (nI 0), .int (nI 0), .ref mso, .ref mon, .ref mot, .ref man, .int (nI 0), .int (nI 0), .ref mst, .ref msm, .ref mtb, .ref mti, .ref mfr, .ref mbn, .ref mbs, .ref mde, .int (nI 0), .int (nI 0), .int (nI 0), .int (nI 0), .long 1, .long be, .ref maa, .ref mab, .ref mba, .ref mbb])), (maa, .inl (cs 1, 9, .inr (.inl (lt4 0 0 1 1)))), (mab, .inl (cs 1, 9, .inr (.inl (lt4 1 1 2 1)))), (mba, .inl (cs 1, 9, .inr (.inl (lt4 0 0 0 0)))), (mbb, .inl (cs 1, 9, .inr (.inl (lt4 1 1 1 1))))] H := hP
  replace hD : va_D A [(hm, .inr (12, [.ref ms, .ref mkp, .int (nI 0), .ref mtr, .int (nI 4), .int (nI 2), .int (nI 2), .int (nI 3), .int (nI 2), .int (nI 1), .ref mas, .int (nI 0), .int (nI 0), .int (nI 0), .ref mso, .ref mon, .ref mot, .ref man, .int (nI 0), .int (nI 0), .ref mst, .ref msm, .ref mtb, .ref mti, .ref mfr, .ref mbn, .ref mbs, .ref mde, .int (nI 0), .int (nI 0), .int (nI 0), .int (nI 0), .long 1, .long be, .ref maa, .ref mab, .ref mba, .ref mbb])), (maa, .inl (cs 1, 9, .inr (.inl (lt4 0 0 1 1)))), (mab, .inl (cs 1, 9, .inr (.inl (lt4 1 1 2 1)))), (mba, .inl (cs 1, 9, .inr (.inl (lt4 0 0 0 0)))), (mbb, .inl (cs 1, 9, .inr (.inl (lt4 1 1 1 1))))] := hD
  refine lv_aload_n hx hb dX12_goesDown_5 rfl (lv_at hl 0 rfl) ?_
  refine lv_lconst (v := 1) hx hb dX12_goesDown_6 (by decide) ?_
  refine xput C hP hD hS 0 rfl rfl zuX12 tyX12 tyX12_ok nmX12 33 (by decide) zw6_6 rfl rfl rfl (Nat.le_of_ble_eq_true rfl) dX12_goesDown_7 ?_
  clear hP hD hS
  try clear locs
  try clear H
  intro H locs hP hD hS
  replace hP : va_P D vwCl [(hm, .inr (12, [.ref ms, .ref mkp, .int (nI 0), .ref mtr, .int (nI 4), .int (nI 2), .int (nI 2), .int (nI 3), .int (nI 2), .int (nI 1), .ref mas, .int (nI 0), .int (nI 0), .int (nI 0), .ref mso, .ref mon, .ref mot, .ref man, .int (nI 0), .int (nI 0), .ref mst, .ref msm, .ref mtb, .ref mti, .ref mfr, .ref mbn, .ref mbs, .ref mde, .int (nI 0), .int (nI 0), .int (nI 0), .int (nI 0), .long 1, .long 1, .ref maa, .ref mab, .ref mba, .ref mbb])), (maa, .inl (cs 1, 9, .inr (.inl (lt4 0 0 1 1)))), (mab, .inl (cs 1, 9, .inr (.inl (lt4 1 1 2 1)))), (mba, .inl (cs 1, 9, .inr (.inl (lt4 0 0 0 0)))), (mbb, .inl (cs 1, 9, .inr (.inl (lt4 1 1 1 1))))] H := hP
  replace hD : va_D A [(hm, .inr (12, [.ref ms, .ref mkp, .int (nI 0), .ref mtr, .int (nI 4), .int (nI 2), .int (nI 2), .int (nI 3), .int (nI 2), .int (nI 1), .ref mas, .int (nI 0), .int (nI 0), .int (nI 0), .ref mso, .ref mon, .ref mot, .ref man, .int (nI 0), .int (nI 0), .ref mst, .ref msm, .ref mtb, .ref mti, .ref mfr, .ref mbn, .ref mbs, .ref mde, .int (nI 0), .int (nI 0), .int (nI 0), .int (nI 0), .long 1, .long 1, .ref maa, .ref mab, .ref mba, .ref mbb])), (maa, .inl (cs 1, 9, .inr (.inl (lt4 0 0 1 1)))), (mab, .inl (cs 1, 9, .inr (.inl (lt4 1 1 2 1)))), (mba, .inl (cs 1, 9, .inr (.inl (lt4 0 0 0 0)))), (mbb, .inl (cs 1, 9, .inr (.inl (lt4 1 1 1 1))))] := hD
  refine lv_aload_n hx hb dX12_goesDown_10 rfl (lv_at hl 0 rfl) ?_
  refine xget C hP 0 rfl rfl zuX12 4 (by decide) zw5_217 rfl dX12_goesDown_11 ?_
  refine lv_iconst (v := nI 1) hx hb dX12_goesDown_14 (by decide) ?_
  refine lv_isub hx hb dX12_goesDown_15 ?_
  refine lv_topi (nm_r (e' := nI 3) (by decide) ?_)
  refine lv_istore (lv' := [(4, .int (nI 3)), (0, .ref hm), (1, .int (nI 3)), (2, .long 1)]) hx hb dX12_goesDown_16 hl (by decide) rfl ?_
  clear hl
  try clear ls
  intro ls hl
  refine lv_iload hx hb dX12_goesDown_18 (lv_at hl 0 rfl) ?_
  refine lv_iload_n hx hb dX12_goesDown_20 rfl (lv_at hl 2 rfl) ?_
  refine lv_icmp_lt (tgt := 89) hx hb dX12_goesDown_21 (by decide) (fun c => absurd c (by decide)) (fun _ => ?_)
  refine lv_aload_n hx hb dX12_goesDown_24 rfl (lv_at hl 1 rfl) ?_
  refine xget C hP 0 rfl rfl zuX12 31 (by decide) zw6_4 rfl dX12_goesDown_25 ?_
  refine lv_if_ne (tgt := 89) hx hb dX12_goesDown_28 (by decide) (fun c => absurd (by decide) c) (fun _ => ?_)
  refine lv_aload_n hx hb dX12_goesDown_31 rfl (lv_at hl 1 rfl) ?_
  refine lv_aload_n hx hb dX12_goesDown_32 rfl (lv_at hl 1 rfl) ?_
  refine xget C hP 0 rfl rfl zuX12 34 (by decide) zw6_7 rfl dX12_goesDown_33 ?_
  refine lv_iload hx hb dX12_goesDown_36 (lv_at hl 0 rfl) ?_
  refine xlald C hP 1 rfl 3 rfl (by decide) (by decide) dX12_goesDown_38 ?_
  refine lv_topl (nm_r (e' := 1) (by decide) ?_)
  refine lv_aload_n hx hb dX12_goesDown_39 rfl (lv_at hl 1 rfl) ?_
  refine xget C hP 0 rfl rfl zuX12 35 (by decide) zw6_8 rfl dX12_goesDown_40 ?_
  refine lv_iload hx hb dX12_goesDown_43 (lv_at hl 0 rfl) ?_
  refine xlald C hP 2 rfl 3 rfl (by decide) (by decide) dX12_goesDown_45 ?_
  refine lv_topl (nm_r (e' := 1) (by decide) ?_)
  refine lv_aload_n hx hb dX12_goesDown_46 rfl (lv_at hl 1 rfl) ?_
  refine xget C hP 0 rfl rfl zuX12 32 (by decide) zw6_5 rfl dX12_goesDown_47 ?_
  refine lv_aload_n hx hb dX12_goesDown_50 rfl (lv_at hl 1 rfl) ?_
  refine xget C hP 0 rfl rfl zuX12 33 (by decide) zw6_6 rfl dX12_goesDown_51 ?_
  refine xv (wr := [(maa, .inl (cs 1, 9, .inr (.inl (lt4 0 0 1 1)))), (mab, .inl (cs 1, 9, .inr (.inl (lt4 1 1 2 1)))), (mba, .inl (cs 1, 9, .inr (.inl (lt4 0 0 0 0)))), (mbb, .inl (cs 1, 9, .inr (.inl (lt4 1 1 1 1))))]) (xV (As := [.long 1, .long 1, .long 1, .long 1]) (rest := []) C (c_X12_multiplies l D cs hm ms mkp mtr mas mso mon mot man mst msm mtb mti mfr mbn mbs mde maa mab mba mbb 1 1 1 1 1 1 1 1 1 1 (by decide +kernel) (by decide +kernel) (by decide +kernel)) kX12_286 hP hD [0] rfl (by decide +kernel) 0 rfl rfl rfl ⟨Nat.le_of_ble_eq_true rfl, Nat.le_of_ble_eq_true rfl⟩ rfl hl.1 rfl (Nat.le_of_ble_eq_true rfl) dX12_goesDown_54 ⟨Nat.le_of_ble_eq_true rfl, Nat.le_of_ble_eq_true rfl⟩) hP hD hS hA [0] [1, 2, 3, 4] rfl rfl (by decide +kernel) (by decide +kernel) ?_
  clear hP hD hS
  try clear locs
  try clear H
  intro u_2 H locs hw_r_1 hP hD hS
  refine W.widen (k := 0) (n := 0) (Nat.le_of_ble_eq_true rfl) (Nat.le_of_ble_eq_true rfl) ?_
  replace hP : va_P D vwCl [(maa, .inl (cs 1, 9, .inr (.inl (lt4 0 0 1 1)))), (mab, .inl (cs 1, 9, .inr (.inl (lt4 1 1 2 1)))), (mba, .inl (cs 1, 9, .inr (.inl (lt4 0 0 0 0)))), (mbb, .inl (cs 1, 9, .inr (.inl (lt4 1 1 1 1)))), (hm, .inr (12, [.ref ms, .ref mkp, .int (nI 0), .ref mtr, .int (nI 4), .int (nI 2), .int (nI 2), .int (nI 3), .int (nI 2), .int (nI 1), .ref mas, .int (nI 0), .int (nI 0), .int (nI 0), .ref mso, .ref mon, .ref mot, .ref man, .int (nI 0), .int (nI 0), .ref mst, .ref msm, .ref mtb, .ref mti, .ref mfr, .ref mbn, .ref mbs, .ref mde, .int (nI 0), .int (nI 0), .int (nI 0), .int (nI 0), .long 1, .long 1, .ref maa, .ref mab, .ref mba, .ref mbb]))] H := hP
  replace hD : va_D A [(maa, .inl (cs 1, 9, .inr (.inl (lt4 0 0 1 1)))), (mab, .inl (cs 1, 9, .inr (.inl (lt4 1 1 2 1)))), (mba, .inl (cs 1, 9, .inr (.inl (lt4 0 0 0 0)))), (mbb, .inl (cs 1, 9, .inr (.inl (lt4 1 1 1 1)))), (hm, .inr (12, [.ref ms, .ref mkp, .int (nI 0), .ref mtr, .int (nI 4), .int (nI 2), .int (nI 2), .int (nI 3), .int (nI 2), .int (nI 1), .ref mas, .int (nI 0), .int (nI 0), .int (nI 0), .ref mso, .ref mon, .ref mot, .ref man, .int (nI 0), .int (nI 0), .ref mst, .ref msm, .ref mtb, .ref mti, .ref mfr, .ref mbn, .ref mbs, .ref mde, .int (nI 0), .int (nI 0), .int (nI 0), .int (nI 0), .long 1, .long 1, .ref maa, .ref mab, .ref mba, .ref mbb]))] := hD
  refine lv_aload_n hx hb dX12_goesDown_57 rfl (lv_at hl 1 rfl) ?_
  refine lv_aload_n hx hb dX12_goesDown_58 rfl (lv_at hl 1 rfl) ?_
  refine xget C hP 4 rfl rfl zuX12 32 (by decide) zw6_5 rfl dX12_goesDown_59 ?_
  refine lv_aload_n hx hb dX12_goesDown_62 rfl (lv_at hl 1 rfl) ?_
  refine xget C hP 4 rfl rfl zuX12 33 (by decide) zw6_6 rfl dX12_goesDown_63 ?_
  refine lv_aload_n hx hb dX12_goesDown_66 rfl (lv_at hl 1 rfl) ?_
  refine xget C hP 4 rfl rfl zuX12 36 (by decide) zw6_9 rfl dX12_goesDown_67 ?_
  refine lv_iload hx hb dX12_goesDown_70 (lv_at hl 0 rfl) ?_
  refine xlald C hP 2 rfl 3 rfl (by decide) (by decide) dX12_goesDown_72 ?_
  refine lv_topl (nm_r (e' := 0) (by decide) ?_)
  refine lv_aload_n hx hb dX12_goesDown_73 rfl (lv_at hl 1 rfl) ?_
  refine xget C hP 4 rfl rfl zuX12 37 (by decide) zw6_10 rfl dX12_goesDown_74 ?_
  refine lv_iload hx hb dX12_goesDown_77 (lv_at hl 0 rfl) ?_
  refine xlald C hP 3 rfl 3 rfl (by decide) (by decide) dX12_goesDown_79 ?_
  refine lv_topl (nm_r (e' := 1) (by decide) ?_)
  refine xv (wr := [(maa, .inl (cs 1, 9, .inr (.inl (lt4 0 0 1 1)))), (mab, .inl (cs 1, 9, .inr (.inl (lt4 1 1 2 1)))), (mba, .inl (cs 1, 9, .inr (.inl (lt4 0 0 0 0)))), (mbb, .inl (cs 1, 9, .inr (.inl (lt4 1 1 1 1))))]) (xV (As := [.long 1, .long 1, .long 0, .long 1]) (rest := []) C (c_X12_adds l D cs hm ms mkp mtr mas mso mon mot man mst msm mtb mti mfr mbn mbs mde maa mab mba mbb 1 1 1 1 0 1 1 0 1 1 1 1 (by decide +kernel) (by decide +kernel) (by decide +kernel) (by decide +kernel) (by decide +kernel) (by decide +kernel)) kX12_296 hP hD [4] rfl (by decide +kernel) 0 rfl rfl rfl ⟨Nat.le_of_ble_eq_true rfl, Nat.le_of_ble_eq_true rfl⟩ rfl hl.1 rfl (Nat.le_of_ble_eq_true rfl) dX12_goesDown_80 ⟨Nat.le_of_ble_eq_true rfl, Nat.le_of_ble_eq_true rfl⟩) hP hD hS hA [4] [0, 1, 2, 3] rfl rfl (by decide +kernel) (by decide +kernel) ?_
  clear hP hD hS
  try clear locs
  try clear H
  intro u_4 H locs hw_r_3 hP hD hS
  refine W.widen (k := 0) (n := 0) (Nat.le_of_ble_eq_true rfl) (Nat.le_of_ble_eq_true rfl) ?_
  replace hP : va_P D vwCl [(maa, .inl (cs 1, 9, .inr (.inl (lt4 0 0 1 1)))), (mab, .inl (cs 1, 9, .inr (.inl (lt4 1 1 2 1)))), (mba, .inl (cs 1, 9, .inr (.inl (lt4 0 0 0 0)))), (mbb, .inl (cs 1, 9, .inr (.inl (lt4 1 1 1 1)))), (hm, .inr (12, [.ref ms, .ref mkp, .int (nI 0), .ref mtr, .int (nI 4), .int (nI 2), .int (nI 2), .int (nI 3), .int (nI 2), .int (nI 1), .ref mas, .int (nI 0), .int (nI 0), .int (nI 0), .ref mso, .ref mon, .ref mot, .ref man, .int (nI 0), .int (nI 0), .ref mst, .ref msm, .ref mtb, .ref mti, .ref mfr, .ref mbn, .ref mbs, .ref mde, .int (nI 0), .int (nI 0), .int (nI 0), .int (nI 0), .long 1, .long 1, .ref maa, .ref mab, .ref mba, .ref mbb]))] H := hP
  replace hD : va_D A [(maa, .inl (cs 1, 9, .inr (.inl (lt4 0 0 1 1)))), (mab, .inl (cs 1, 9, .inr (.inl (lt4 1 1 2 1)))), (mba, .inl (cs 1, 9, .inr (.inl (lt4 0 0 0 0)))), (mbb, .inl (cs 1, 9, .inr (.inl (lt4 1 1 1 1)))), (hm, .inr (12, [.ref ms, .ref mkp, .int (nI 0), .ref mtr, .int (nI 4), .int (nI 2), .int (nI 2), .int (nI 3), .int (nI 2), .int (nI 1), .ref mas, .int (nI 0), .int (nI 0), .int (nI 0), .ref mso, .ref mon, .ref mot, .ref man, .int (nI 0), .int (nI 0), .ref mst, .ref msm, .ref mtb, .ref mti, .ref mfr, .ref mbn, .ref mbs, .ref mde, .int (nI 0), .int (nI 0), .int (nI 0), .int (nI 0), .long 1, .long 1, .ref maa, .ref mab, .ref mba, .ref mbb]))] := hD
  refine lv_iinc (v := nI 2) (lv' := [(4, .int (nI 2)), (0, .ref hm), (1, .int (nI 3)), (2, .long 1)]) hx hb dX12_goesDown_83 hl (k := 0) rfl (by decide) (by decide) rfl ?_
  clear hl
  try clear ls
  intro ls hl
  refine lv_goto (tgt := 18) hx hb dX12_goesDown_86 (by decide) ?_
  refine lv_iload hx hb dX12_goesDown_18 (lv_at hl 0 rfl) ?_
  refine lv_iload_n hx hb dX12_goesDown_20 rfl (lv_at hl 2 rfl) ?_
  refine lv_icmp_lt (tgt := 89) hx hb dX12_goesDown_21 (by decide) (fun _ => ?_) (fun c => absurd (by decide) c)
  exact xretv C () trivial (xP_map hP [4, 0, 1, 2, 3] rfl) (hD.sub [4, 0, 1, 2, 3] (by decide +kernel) rfl) hS (Nat.le_of_ble_eq_true rfl) (Nat.le_of_ble_eq_true rfl) dX12_goesDown_89

set_option maxHeartbeats 4000000 in
set_option maxRecDepth 100000 in
theorem c_X12_goesDown_0_4 (l : Launch) (D : va_G) (cs : Nat → ClassId) (hm ms mkp mtr mas mso mon mot man mst msm mtb mti mfr mbn mbs mde maa mab mba mbb : Nat) (ab be : Int64) : xMet l D cs yX12_goesDown cX12_goesDown 5 none ({ frames := 0, cells := 0, slots := 0, locals := 0 } : Room) [.ref hm, .int (nI 4), .long 1] [(hm, .inr (12, [.ref ms, .ref mkp, .int (nI 0), .ref mtr, .int (nI 4), .int (nI 2), .int (nI 2), .int (nI 3), .int (nI 2), .int (nI 1), .ref mas, .int (nI 0), .int (nI 0), .int (nI 0), .ref mso, .ref mon, .ref mot, .ref man, .int (nI 0), .int (nI 0), .ref mst, .ref msm, .ref mtb, .ref mti, .ref mfr, .ref mbn, .ref mbs, .ref mde, .int (nI 0), .int (nI 0), .int (nI 0), .int (nI 0), .long ab, .long be, .ref maa, .ref mab, .ref mba, .ref mbb])), (maa, .inl (cs 1, 9, .inr (.inl (lt4 0 0 1 1)))), (mab, .inl (cs 1, 9, .inr (.inl (lt4 1 1 2 1)))), (mba, .inl (cs 1, 9, .inr (.inl (lt4 0 0 0 0)))), (mbb, .inl (cs 1, 9, .inr (.inl (lt4 1 1 1 1))))] (xQv D (fun (_u : Unit) => True) (fun (_u : Unit) => [(hm, .inr (12, [.ref ms, .ref mkp, .int (nI 0), .ref mtr, .int (nI 4), .int (nI 2), .int (nI 2), .int (nI 3), .int (nI 2), .int (nI 1), .ref mas, .int (nI 0), .int (nI 0), .int (nI 0), .ref mso, .ref mon, .ref mot, .ref man, .int (nI 0), .int (nI 0), .ref mst, .ref msm, .ref mtb, .ref mti, .ref mfr, .ref mbn, .ref mbs, .ref mde, .int (nI 0), .int (nI 0), .int (nI 0), .int (nI 0), .long 1, .long 1, .ref maa, .ref mab, .ref mba, .ref mbb])), (maa, .inl (cs 1, 9, .inr (.inl (lt4 0 0 1 1)))), (mab, .inl (cs 1, 9, .inr (.inl (lt4 1 1 2 1)))), (mba, .inl (cs 1, 9, .inr (.inl (lt4 0 0 0 0)))), (mbb, .inl (cs 1, 9, .inr (.inl (lt4 1 1 1 1))))])) := by
  refine xMet.intro (by decide) (Nat.le_of_ble_eq_true rfl) ?_
  intro p e s m args below meth c A ls C hP hD hS hl
  have hx := C.1
  have hb := C.2.1
  have hz := C.2.2.2.2.1
  have hown := C.2.2.2.1
  have hA := C.2.2.2.2.2.2.2.2.2
  have hAO := C.2.2.2.2.2.2.2.2.1.2.2
  replace hl : lv_has ls 5 [(0, .ref hm), (1, .int (nI 4)), (2, .long 1)] := hl
  obtain ⟨H, hH⟩ : ∃ H, H = s.heap := ⟨_, rfl⟩
  replace hP : va_P D vwCl [(hm, .inr (12, [.ref ms, .ref mkp, .int (nI 0), .ref mtr, .int (nI 4), .int (nI 2), .int (nI 2), .int (nI 3), .int (nI 2), .int (nI 1), .ref mas, .int (nI 0), .int (nI 0), .int (nI 0), .ref mso, .ref mon, .ref mot, .ref man, .int (nI 0), .int (nI 0), .ref mst, .ref msm, .ref mtb, .ref mti, .ref mfr, .ref mbn, .ref mbs, .ref mde, .int (nI 0), .int (nI 0), .int (nI 0), .int (nI 0), .long ab, .long be, .ref maa, .ref mab, .ref mba, .ref mbb])), (maa, .inl (cs 1, 9, .inr (.inl (lt4 0 0 1 1)))), (mab, .inl (cs 1, 9, .inr (.inl (lt4 1 1 2 1)))), (mba, .inl (cs 1, 9, .inr (.inl (lt4 0 0 0 0)))), (mbb, .inl (cs 1, 9, .inr (.inl (lt4 1 1 1 1))))] H := by rw [hH]; exact hP
  replace hS : va_S A s.heap H [] := by rw [hH]; exact hS
  obtain ⟨locs, hlocs⟩ : ∃ z : List Loc, z = [] := ⟨_, rfl⟩
  rw [← hlocs] at hS
  suffices hW : W p l e ({ frames := 0, cells := 0, slots := 0, locals := 0 } : Room) s m args below meth c H locs 0 0 (MQ below ((xQv D (fun (_u : Unit) => True) (fun (_u : Unit) => [(hm, .inr (12, [.ref ms, .ref mkp, .int (nI 0), .ref mtr, .int (nI 4), .int (nI 2), .int (nI 2), .int (nI 3), .int (nI 2), .int (nI 1), .ref mas, .int (nI 0), .int (nI 0), .int (nI 0), .ref mso, .ref mon, .ref mot, .ref man, .int (nI 0), .int (nI 0), .ref mst, .ref msm, .ref mtb, .ref mti, .ref mfr, .ref mbn, .ref mbs, .ref mde, .int (nI 0), .int (nI 0), .int (nI 0), .int (nI 0), .long 1, .long 1, .ref maa, .ref mab, .ref mba, .ref mbb])), (maa, .inl (cs 1, 9, .inr (.inl (lt4 0 0 1 1)))), (mab, .inl (cs 1, 9, .inr (.inl (lt4 1 1 2 1)))), (mba, .inl (cs 1, 9, .inr (.inl (lt4 0 0 0 0)))), (mbb, .inl (cs 1, 9, .inr (.inl (lt4 1 1 1 1))))])) A) args s 0 0 A) (F0 m 0 ls []) by rw [hlocs, hH] at hW; exact hW
  clear hH hlocs
  refine lv_aload_n hx hb dX12_goesDown_0 rfl (lv_at hl 0 rfl) ?_
  refine lv_lload_n hx hb dX12_goesDown_1 rfl (lv_at hl 2 rfl) ?_
  refine xput C hP hD hS 0 rfl rfl zuX12 tyX12 tyX12_ok nmX12 32 (by decide) zw6_5 rfl rfl rfl (Nat.le_of_ble_eq_true rfl) dX12_goesDown_2 ?_
  clear hP hD hS
  try clear locs
  try clear H
  intro H locs hP hD hS
  replace hP : va_P D vwCl [(hm, .inr (12, [.ref ms, .ref mkp, .int (nI 0), .ref mtr, .int (nI 4), .int (nI 2), .int (nI 2), .int (nI 3), .int (nI 2), .int (nI 1), .ref mas, .int (nI 0), .int (nI 0), .int (nI 0), .ref mso, .ref mon, .ref mot, .ref man, .int (nI 0), .int (nI 0), .ref mst, .ref msm, .ref mtb, .ref mti, .ref mfr, .ref mbn, .ref mbs, .ref mde, .int (nI 0), .int (nI 0), .int (nI 0), .int (nI 0), .long 1, .long be, .ref maa, .ref mab, .ref mba, .ref mbb])), (maa, .inl (cs 1, 9, .inr (.inl (lt4 0 0 1 1)))), (mab, .inl (cs 1, 9, .inr (.inl (lt4 1 1 2 1)))), (mba, .inl (cs 1, 9, .inr (.inl (lt4 0 0 0 0)))), (mbb, .inl (cs 1, 9, .inr (.inl (lt4 1 1 1 1))))] H := hP
  replace hD : va_D A [(hm, .inr (12, [.ref ms, .ref mkp, .int (nI 0), .ref mtr, .int (nI 4), .int (nI 2), .int (nI 2), .int (nI 3), .int (nI 2), .int (nI 1), .ref mas, .int (nI 0), .int (nI 0), .int (nI 0), .ref mso, .ref mon, .ref mot, .ref man, .int (nI 0), .int (nI 0), .ref mst, .ref msm, .ref mtb, .ref mti, .ref mfr, .ref mbn, .ref mbs, .ref mde, .int (nI 0), .int (nI 0), .int (nI 0), .int (nI 0), .long 1, .long be, .ref maa, .ref mab, .ref mba, .ref mbb])), (maa, .inl (cs 1, 9, .inr (.inl (lt4 0 0 1 1)))), (mab, .inl (cs 1, 9, .inr (.inl (lt4 1 1 2 1)))), (mba, .inl (cs 1, 9, .inr (.inl (lt4 0 0 0 0)))), (mbb, .inl (cs 1, 9, .inr (.inl (lt4 1 1 1 1))))] := hD
  refine lv_aload_n hx hb dX12_goesDown_5 rfl (lv_at hl 0 rfl) ?_
  refine lv_lconst (v := 1) hx hb dX12_goesDown_6 (by decide) ?_
  refine xput C hP hD hS 0 rfl rfl zuX12 tyX12 tyX12_ok nmX12 33 (by decide) zw6_6 rfl rfl rfl (Nat.le_of_ble_eq_true rfl) dX12_goesDown_7 ?_
  clear hP hD hS
  try clear locs
  try clear H
  intro H locs hP hD hS
  replace hP : va_P D vwCl [(hm, .inr (12, [.ref ms, .ref mkp, .int (nI 0), .ref mtr, .int (nI 4), .int (nI 2), .int (nI 2), .int (nI 3), .int (nI 2), .int (nI 1), .ref mas, .int (nI 0), .int (nI 0), .int (nI 0), .ref mso, .ref mon, .ref mot, .ref man, .int (nI 0), .int (nI 0), .ref mst, .ref msm, .ref mtb, .ref mti, .ref mfr, .ref mbn, .ref mbs, .ref mde, .int (nI 0), .int (nI 0), .int (nI 0), .int (nI 0), .long 1, .long 1, .ref maa, .ref mab, .ref mba, .ref mbb])), (maa, .inl (cs 1, 9, .inr (.inl (lt4 0 0 1 1)))), (mab, .inl (cs 1, 9, .inr (.inl (lt4 1 1 2 1)))), (mba, .inl (cs 1, 9, .inr (.inl (lt4 0 0 0 0)))), (mbb, .inl (cs 1, 9, .inr (.inl (lt4 1 1 1 1))))] H := hP
  replace hD : va_D A [(hm, .inr (12, [.ref ms, .ref mkp, .int (nI 0), .ref mtr, .int (nI 4), .int (nI 2), .int (nI 2), .int (nI 3), .int (nI 2), .int (nI 1), .ref mas, .int (nI 0), .int (nI 0), .int (nI 0), .ref mso, .ref mon, .ref mot, .ref man, .int (nI 0), .int (nI 0), .ref mst, .ref msm, .ref mtb, .ref mti, .ref mfr, .ref mbn, .ref mbs, .ref mde, .int (nI 0), .int (nI 0), .int (nI 0), .int (nI 0), .long 1, .long 1, .ref maa, .ref mab, .ref mba, .ref mbb])), (maa, .inl (cs 1, 9, .inr (.inl (lt4 0 0 1 1)))), (mab, .inl (cs 1, 9, .inr (.inl (lt4 1 1 2 1)))), (mba, .inl (cs 1, 9, .inr (.inl (lt4 0 0 0 0)))), (mbb, .inl (cs 1, 9, .inr (.inl (lt4 1 1 1 1))))] := hD
  refine lv_aload_n hx hb dX12_goesDown_10 rfl (lv_at hl 0 rfl) ?_
  refine xget C hP 0 rfl rfl zuX12 4 (by decide) zw5_217 rfl dX12_goesDown_11 ?_
  refine lv_iconst (v := nI 1) hx hb dX12_goesDown_14 (by decide) ?_
  refine lv_isub hx hb dX12_goesDown_15 ?_
  refine lv_topi (nm_r (e' := nI 3) (by decide) ?_)
  refine lv_istore (lv' := [(4, .int (nI 3)), (0, .ref hm), (1, .int (nI 4)), (2, .long 1)]) hx hb dX12_goesDown_16 hl (by decide) rfl ?_
  clear hl
  try clear ls
  intro ls hl
  refine lv_iload hx hb dX12_goesDown_18 (lv_at hl 0 rfl) ?_
  refine lv_iload_n hx hb dX12_goesDown_20 rfl (lv_at hl 2 rfl) ?_
  refine lv_icmp_lt (tgt := 89) hx hb dX12_goesDown_21 (by decide) (fun _ => ?_) (fun c => absurd (by decide) c)
  exact xretv C () trivial hP hD hS (Nat.le_of_ble_eq_true rfl) (Nat.le_of_ble_eq_true rfl) dX12_goesDown_89

set_option maxHeartbeats 4000000 in
set_option maxRecDepth 100000 in
theorem c_X12_goesDown_1_0 (l : Launch) (D : va_G) (cs : Nat → ClassId) (hm ms mkp mtr mas mso mon mot man mst msm mtb mti mfr mbn mbs mde maa mab mba mbb : Nat) (ab be : Int64) : xMet l D cs yX12_goesDown cX12_goesDown 5 none ({ frames := 2, cells := 0, slots := 0, locals := 58 } : Room) [.ref hm, .int (nI 0), .long 0] [(hm, .inr (12, [.ref ms, .ref mkp, .int (nI 0), .ref mtr, .int (nI 4), .int (nI 2), .int (nI 2), .int (nI 3), .int (nI 2), .int (nI 1), .ref mas, .int (nI 0), .int (nI 0), .int (nI 0), .ref mso, .ref mon, .ref mot, .ref man, .int (nI 0), .int (nI 0), .ref mst, .ref msm, .ref mtb, .ref mti, .ref mfr, .ref mbn, .ref mbs, .ref mde, .int (nI 0), .int (nI 0), .int (nI 0), .int (nI 0), .long ab, .long be, .ref maa, .ref mab, .ref mba, .ref mbb])), (maa, .inl (cs 1, 9, .inr (.inl (lt4 0 0 1 1)))), (mab, .inl (cs 1, 9, .inr (.inl (lt4 1 1 2 1)))), (mba, .inl (cs 1, 9, .inr (.inl (lt4 0 4 5 4)))), (mbb, .inl (cs 1, 9, .inr (.inl (lt4 1 1 1 1))))] (xQv D (fun (_u : Unit) => True) (fun (_u : Unit) => [(hm, .inr (12, [.ref ms, .ref mkp, .int (nI 0), .ref mtr, .int (nI 4), .int (nI 2), .int (nI 2), .int (nI 3), .int (nI 2), .int (nI 1), .ref mas, .int (nI 0), .int (nI 0), .int (nI 0), .ref mso, .ref mon, .ref mot, .ref man, .int (nI 0), .int (nI 0), .ref mst, .ref msm, .ref mtb, .ref mti, .ref mfr, .ref mbn, .ref mbs, .ref mde, .int (nI 0), .int (nI 0), .int (nI 0), .int (nI 0), .long 0, .long 1, .ref maa, .ref mab, .ref mba, .ref mbb])), (maa, .inl (cs 1, 9, .inr (.inl (lt4 0 0 1 1)))), (mab, .inl (cs 1, 9, .inr (.inl (lt4 1 1 2 1)))), (mba, .inl (cs 1, 9, .inr (.inl (lt4 0 4 5 4)))), (mbb, .inl (cs 1, 9, .inr (.inl (lt4 1 1 1 1))))])) := by
  refine xMet.intro (by decide) (Nat.le_of_ble_eq_true rfl) ?_
  intro p e s m args below meth c A ls C hP hD hS hl
  have hx := C.1
  have hb := C.2.1
  have hz := C.2.2.2.2.1
  have hown := C.2.2.2.1
  have hA := C.2.2.2.2.2.2.2.2.2
  have hAO := C.2.2.2.2.2.2.2.2.1.2.2
  replace hl : lv_has ls 5 [(0, .ref hm), (1, .int (nI 0)), (2, .long 0)] := hl
  obtain ⟨H, hH⟩ : ∃ H, H = s.heap := ⟨_, rfl⟩
  replace hP : va_P D vwCl [(hm, .inr (12, [.ref ms, .ref mkp, .int (nI 0), .ref mtr, .int (nI 4), .int (nI 2), .int (nI 2), .int (nI 3), .int (nI 2), .int (nI 1), .ref mas, .int (nI 0), .int (nI 0), .int (nI 0), .ref mso, .ref mon, .ref mot, .ref man, .int (nI 0), .int (nI 0), .ref mst, .ref msm, .ref mtb, .ref mti, .ref mfr, .ref mbn, .ref mbs, .ref mde, .int (nI 0), .int (nI 0), .int (nI 0), .int (nI 0), .long ab, .long be, .ref maa, .ref mab, .ref mba, .ref mbb])), (maa, .inl (cs 1, 9, .inr (.inl (lt4 0 0 1 1)))), (mab, .inl (cs 1, 9, .inr (.inl (lt4 1 1 2 1)))), (mba, .inl (cs 1, 9, .inr (.inl (lt4 0 4 5 4)))), (mbb, .inl (cs 1, 9, .inr (.inl (lt4 1 1 1 1))))] H := by rw [hH]; exact hP
  replace hS : va_S A s.heap H [] := by rw [hH]; exact hS
  obtain ⟨locs, hlocs⟩ : ∃ z : List Loc, z = [] := ⟨_, rfl⟩
  rw [← hlocs] at hS
  suffices hW : W p l e ({ frames := 2, cells := 0, slots := 0, locals := 58 } : Room) s m args below meth c H locs 0 0 (MQ below ((xQv D (fun (_u : Unit) => True) (fun (_u : Unit) => [(hm, .inr (12, [.ref ms, .ref mkp, .int (nI 0), .ref mtr, .int (nI 4), .int (nI 2), .int (nI 2), .int (nI 3), .int (nI 2), .int (nI 1), .ref mas, .int (nI 0), .int (nI 0), .int (nI 0), .ref mso, .ref mon, .ref mot, .ref man, .int (nI 0), .int (nI 0), .ref mst, .ref msm, .ref mtb, .ref mti, .ref mfr, .ref mbn, .ref mbs, .ref mde, .int (nI 0), .int (nI 0), .int (nI 0), .int (nI 0), .long 0, .long 1, .ref maa, .ref mab, .ref mba, .ref mbb])), (maa, .inl (cs 1, 9, .inr (.inl (lt4 0 0 1 1)))), (mab, .inl (cs 1, 9, .inr (.inl (lt4 1 1 2 1)))), (mba, .inl (cs 1, 9, .inr (.inl (lt4 0 4 5 4)))), (mbb, .inl (cs 1, 9, .inr (.inl (lt4 1 1 1 1))))])) A) args s 0 0 A) (F0 m 0 ls []) by rw [hlocs, hH] at hW; exact hW
  clear hH hlocs
  refine lv_aload_n hx hb dX12_goesDown_0 rfl (lv_at hl 0 rfl) ?_
  refine lv_lload_n hx hb dX12_goesDown_1 rfl (lv_at hl 2 rfl) ?_
  refine xput C hP hD hS 0 rfl rfl zuX12 tyX12 tyX12_ok nmX12 32 (by decide) zw6_5 rfl rfl rfl (Nat.le_of_ble_eq_true rfl) dX12_goesDown_2 ?_
  clear hP hD hS
  try clear locs
  try clear H
  intro H locs hP hD hS
  replace hP : va_P D vwCl [(hm, .inr (12, [.ref ms, .ref mkp, .int (nI 0), .ref mtr, .int (nI 4), .int (nI 2), .int (nI 2), .int (nI 3), .int (nI 2), .int (nI 1), .ref mas, .int (nI 0), .int (nI 0), .int (nI 0), .ref mso, .ref mon, .ref mot, .ref man, .int (nI 0), .int (nI 0), .ref mst, .ref msm, .ref mtb, .ref mti, .ref mfr, .ref mbn, .ref mbs, .ref mde, .int (nI 0), .int (nI 0), .int (nI 0), .int (nI 0), .long 0, .long be, .ref maa, .ref mab, .ref mba, .ref mbb])), (maa, .inl (cs 1, 9, .inr (.inl (lt4 0 0 1 1)))), (mab, .inl (cs 1, 9, .inr (.inl (lt4 1 1 2 1)))), (mba, .inl (cs 1, 9, .inr (.inl (lt4 0 4 5 4)))), (mbb, .inl (cs 1, 9, .inr (.inl (lt4 1 1 1 1))))] H := hP
  replace hD : va_D A [(hm, .inr (12, [.ref ms, .ref mkp, .int (nI 0), .ref mtr, .int (nI 4), .int (nI 2), .int (nI 2), .int (nI 3), .int (nI 2), .int (nI 1), .ref mas, .int (nI 0), .int (nI 0), .int (nI 0), .ref mso, .ref mon, .ref mot, .ref man, .int (nI 0), .int (nI 0), .ref mst, .ref msm, .ref mtb, .ref mti, .ref mfr, .ref mbn, .ref mbs, .ref mde, .int (nI 0), .int (nI 0), .int (nI 0), .int (nI 0), .long 0, .long be, .ref maa, .ref mab, .ref mba, .ref mbb])), (maa, .inl (cs 1, 9, .inr (.inl (lt4 0 0 1 1)))), (mab, .inl (cs 1, 9, .inr (.inl (lt4 1 1 2 1)))), (mba, .inl (cs 1, 9, .inr (.inl (lt4 0 4 5 4)))), (mbb, .inl (cs 1, 9, .inr (.inl (lt4 1 1 1 1))))] := hD
  refine lv_aload_n hx hb dX12_goesDown_5 rfl (lv_at hl 0 rfl) ?_
  refine lv_lconst (v := 1) hx hb dX12_goesDown_6 (by decide) ?_
  refine xput C hP hD hS 0 rfl rfl zuX12 tyX12 tyX12_ok nmX12 33 (by decide) zw6_6 rfl rfl rfl (Nat.le_of_ble_eq_true rfl) dX12_goesDown_7 ?_
  clear hP hD hS
  try clear locs
  try clear H
  intro H locs hP hD hS
  replace hP : va_P D vwCl [(hm, .inr (12, [.ref ms, .ref mkp, .int (nI 0), .ref mtr, .int (nI 4), .int (nI 2), .int (nI 2), .int (nI 3), .int (nI 2), .int (nI 1), .ref mas, .int (nI 0), .int (nI 0), .int (nI 0), .ref mso, .ref mon, .ref mot, .ref man, .int (nI 0), .int (nI 0), .ref mst, .ref msm, .ref mtb, .ref mti, .ref mfr, .ref mbn, .ref mbs, .ref mde, .int (nI 0), .int (nI 0), .int (nI 0), .int (nI 0), .long 0, .long 1, .ref maa, .ref mab, .ref mba, .ref mbb])), (maa, .inl (cs 1, 9, .inr (.inl (lt4 0 0 1 1)))), (mab, .inl (cs 1, 9, .inr (.inl (lt4 1 1 2 1)))), (mba, .inl (cs 1, 9, .inr (.inl (lt4 0 4 5 4)))), (mbb, .inl (cs 1, 9, .inr (.inl (lt4 1 1 1 1))))] H := hP
  replace hD : va_D A [(hm, .inr (12, [.ref ms, .ref mkp, .int (nI 0), .ref mtr, .int (nI 4), .int (nI 2), .int (nI 2), .int (nI 3), .int (nI 2), .int (nI 1), .ref mas, .int (nI 0), .int (nI 0), .int (nI 0), .ref mso, .ref mon, .ref mot, .ref man, .int (nI 0), .int (nI 0), .ref mst, .ref msm, .ref mtb, .ref mti, .ref mfr, .ref mbn, .ref mbs, .ref mde, .int (nI 0), .int (nI 0), .int (nI 0), .int (nI 0), .long 0, .long 1, .ref maa, .ref mab, .ref mba, .ref mbb])), (maa, .inl (cs 1, 9, .inr (.inl (lt4 0 0 1 1)))), (mab, .inl (cs 1, 9, .inr (.inl (lt4 1 1 2 1)))), (mba, .inl (cs 1, 9, .inr (.inl (lt4 0 4 5 4)))), (mbb, .inl (cs 1, 9, .inr (.inl (lt4 1 1 1 1))))] := hD
  refine lv_aload_n hx hb dX12_goesDown_10 rfl (lv_at hl 0 rfl) ?_
  refine xget C hP 0 rfl rfl zuX12 4 (by decide) zw5_217 rfl dX12_goesDown_11 ?_
  refine lv_iconst (v := nI 1) hx hb dX12_goesDown_14 (by decide) ?_
  refine lv_isub hx hb dX12_goesDown_15 ?_
  refine lv_topi (nm_r (e' := nI 3) (by decide) ?_)
  refine lv_istore (lv' := [(4, .int (nI 3)), (0, .ref hm), (1, .int (nI 0)), (2, .long 0)]) hx hb dX12_goesDown_16 hl (by decide) rfl ?_
  clear hl
  try clear ls
  intro ls hl
  refine lv_iload hx hb dX12_goesDown_18 (lv_at hl 0 rfl) ?_
  refine lv_iload_n hx hb dX12_goesDown_20 rfl (lv_at hl 2 rfl) ?_
  refine lv_icmp_lt (tgt := 89) hx hb dX12_goesDown_21 (by decide) (fun c => absurd c (by decide)) (fun _ => ?_)
  refine lv_aload_n hx hb dX12_goesDown_24 rfl (lv_at hl 1 rfl) ?_
  refine xget C hP 0 rfl rfl zuX12 31 (by decide) zw6_4 rfl dX12_goesDown_25 ?_
  refine lv_if_ne (tgt := 89) hx hb dX12_goesDown_28 (by decide) (fun c => absurd (by decide) c) (fun _ => ?_)
  refine lv_aload_n hx hb dX12_goesDown_31 rfl (lv_at hl 1 rfl) ?_
  refine lv_aload_n hx hb dX12_goesDown_32 rfl (lv_at hl 1 rfl) ?_
  refine xget C hP 0 rfl rfl zuX12 34 (by decide) zw6_7 rfl dX12_goesDown_33 ?_
  refine lv_iload hx hb dX12_goesDown_36 (lv_at hl 0 rfl) ?_
  refine xlald C hP 1 rfl 3 rfl (by decide) (by decide) dX12_goesDown_38 ?_
  refine lv_topl (nm_r (e' := 1) (by decide) ?_)
  refine lv_aload_n hx hb dX12_goesDown_39 rfl (lv_at hl 1 rfl) ?_
  refine xget C hP 0 rfl rfl zuX12 35 (by decide) zw6_8 rfl dX12_goesDown_40 ?_
  refine lv_iload hx hb dX12_goesDown_43 (lv_at hl 0 rfl) ?_
  refine xlald C hP 2 rfl 3 rfl (by decide) (by decide) dX12_goesDown_45 ?_
  refine lv_topl (nm_r (e' := 1) (by decide) ?_)
  refine lv_aload_n hx hb dX12_goesDown_46 rfl (lv_at hl 1 rfl) ?_
  refine xget C hP 0 rfl rfl zuX12 32 (by decide) zw6_5 rfl dX12_goesDown_47 ?_
  refine lv_aload_n hx hb dX12_goesDown_50 rfl (lv_at hl 1 rfl) ?_
  refine xget C hP 0 rfl rfl zuX12 33 (by decide) zw6_6 rfl dX12_goesDown_51 ?_
  refine xv (wr := [(maa, .inl (cs 1, 9, .inr (.inl (lt4 0 0 1 1)))), (mab, .inl (cs 1, 9, .inr (.inl (lt4 1 1 2 1)))), (mba, .inl (cs 1, 9, .inr (.inl (lt4 0 4 5 4)))), (mbb, .inl (cs 1, 9, .inr (.inl (lt4 1 1 1 1))))]) (xV (As := [.long 1, .long 1, .long 0, .long 1]) (rest := []) C (c_X12_multiplies l D cs hm ms mkp mtr mas mso mon mot man mst msm mtb mti mfr mbn mbs mde maa mab mba mbb 0 1 1 1 0 1 0 1 0 1 (by decide +kernel) (by decide +kernel) (by decide +kernel)) kX12_286 hP hD [0] rfl (by decide +kernel) 0 rfl rfl rfl ⟨Nat.le_of_ble_eq_true rfl, Nat.le_of_ble_eq_true rfl⟩ rfl hl.1 rfl (Nat.le_of_ble_eq_true rfl) dX12_goesDown_54 ⟨Nat.le_of_ble_eq_true rfl, Nat.le_of_ble_eq_true rfl⟩) hP hD hS hA [0] [1, 2, 3, 4] rfl rfl (by decide +kernel) (by decide +kernel) ?_
  clear hP hD hS
  try clear locs
  try clear H
  intro u_2 H locs hw_r_1 hP hD hS
  refine W.widen (k := 0) (n := 0) (Nat.le_of_ble_eq_true rfl) (Nat.le_of_ble_eq_true rfl) ?_
  replace hP : va_P D vwCl [(maa, .inl (cs 1, 9, .inr (.inl (lt4 0 0 1 1)))), (mab, .inl (cs 1, 9, .inr (.inl (lt4 1 1 2 1)))), (mba, .inl (cs 1, 9, .inr (.inl (lt4 0 4 5 4)))), (mbb, .inl (cs 1, 9, .inr (.inl (lt4 1 1 1 1)))), (hm, .inr (12, [.ref ms, .ref mkp, .int (nI 0), .ref mtr, .int (nI 4), .int (nI 2), .int (nI 2), .int (nI 3), .int (nI 2), .int (nI 1), .ref mas, .int (nI 0), .int (nI 0), .int (nI 0), .ref mso, .ref mon, .ref mot, .ref man, .int (nI 0), .int (nI 0), .ref mst, .ref msm, .ref mtb, .ref mti, .ref mfr, .ref mbn, .ref mbs, .ref mde, .int (nI 0), .int (nI 0), .int (nI 0), .int (nI 0), .long 0, .long 1, .ref maa, .ref mab, .ref mba, .ref mbb]))] H := hP
  replace hD : va_D A [(maa, .inl (cs 1, 9, .inr (.inl (lt4 0 0 1 1)))), (mab, .inl (cs 1, 9, .inr (.inl (lt4 1 1 2 1)))), (mba, .inl (cs 1, 9, .inr (.inl (lt4 0 4 5 4)))), (mbb, .inl (cs 1, 9, .inr (.inl (lt4 1 1 1 1)))), (hm, .inr (12, [.ref ms, .ref mkp, .int (nI 0), .ref mtr, .int (nI 4), .int (nI 2), .int (nI 2), .int (nI 3), .int (nI 2), .int (nI 1), .ref mas, .int (nI 0), .int (nI 0), .int (nI 0), .ref mso, .ref mon, .ref mot, .ref man, .int (nI 0), .int (nI 0), .ref mst, .ref msm, .ref mtb, .ref mti, .ref mfr, .ref mbn, .ref mbs, .ref mde, .int (nI 0), .int (nI 0), .int (nI 0), .int (nI 0), .long 0, .long 1, .ref maa, .ref mab, .ref mba, .ref mbb]))] := hD
  refine lv_aload_n hx hb dX12_goesDown_57 rfl (lv_at hl 1 rfl) ?_
  refine lv_aload_n hx hb dX12_goesDown_58 rfl (lv_at hl 1 rfl) ?_
  refine xget C hP 4 rfl rfl zuX12 32 (by decide) zw6_5 rfl dX12_goesDown_59 ?_
  refine lv_aload_n hx hb dX12_goesDown_62 rfl (lv_at hl 1 rfl) ?_
  refine xget C hP 4 rfl rfl zuX12 33 (by decide) zw6_6 rfl dX12_goesDown_63 ?_
  refine lv_aload_n hx hb dX12_goesDown_66 rfl (lv_at hl 1 rfl) ?_
  refine xget C hP 4 rfl rfl zuX12 36 (by decide) zw6_9 rfl dX12_goesDown_67 ?_
  refine lv_iload hx hb dX12_goesDown_70 (lv_at hl 0 rfl) ?_
  refine xlald C hP 2 rfl 3 rfl (by decide) (by decide) dX12_goesDown_72 ?_
  refine lv_topl (nm_r (e' := 4) (by decide) ?_)
  refine lv_aload_n hx hb dX12_goesDown_73 rfl (lv_at hl 1 rfl) ?_
  refine xget C hP 4 rfl rfl zuX12 37 (by decide) zw6_10 rfl dX12_goesDown_74 ?_
  refine lv_iload hx hb dX12_goesDown_77 (lv_at hl 0 rfl) ?_
  refine xlald C hP 3 rfl 3 rfl (by decide) (by decide) dX12_goesDown_79 ?_
  refine lv_topl (nm_r (e' := 1) (by decide) ?_)
  refine xv (wr := [(maa, .inl (cs 1, 9, .inr (.inl (lt4 0 0 1 1)))), (mab, .inl (cs 1, 9, .inr (.inl (lt4 1 1 2 1)))), (mba, .inl (cs 1, 9, .inr (.inl (lt4 0 4 5 4)))), (mbb, .inl (cs 1, 9, .inr (.inl (lt4 1 1 1 1))))]) (xV (As := [.long 0, .long 1, .long 4, .long 1]) (rest := []) C (c_X12_adds l D cs hm ms mkp mtr mas mso mon mot man mst msm mtb mti mfr mbn mbs mde maa mab mba mbb 0 1 0 1 4 1 0 4 4 1 4 1 (by decide +kernel) (by decide +kernel) (by decide +kernel) (by decide +kernel) (by decide +kernel) (by decide +kernel)) kX12_296 hP hD [4] rfl (by decide +kernel) 0 rfl rfl rfl ⟨Nat.le_of_ble_eq_true rfl, Nat.le_of_ble_eq_true rfl⟩ rfl hl.1 rfl (Nat.le_of_ble_eq_true rfl) dX12_goesDown_80 ⟨Nat.le_of_ble_eq_true rfl, Nat.le_of_ble_eq_true rfl⟩) hP hD hS hA [4] [0, 1, 2, 3] rfl rfl (by decide +kernel) (by decide +kernel) ?_
  clear hP hD hS
  try clear locs
  try clear H
  intro u_4 H locs hw_r_3 hP hD hS
  refine W.widen (k := 0) (n := 0) (Nat.le_of_ble_eq_true rfl) (Nat.le_of_ble_eq_true rfl) ?_
  replace hP : va_P D vwCl [(maa, .inl (cs 1, 9, .inr (.inl (lt4 0 0 1 1)))), (mab, .inl (cs 1, 9, .inr (.inl (lt4 1 1 2 1)))), (mba, .inl (cs 1, 9, .inr (.inl (lt4 0 4 5 4)))), (mbb, .inl (cs 1, 9, .inr (.inl (lt4 1 1 1 1)))), (hm, .inr (12, [.ref ms, .ref mkp, .int (nI 0), .ref mtr, .int (nI 4), .int (nI 2), .int (nI 2), .int (nI 3), .int (nI 2), .int (nI 1), .ref mas, .int (nI 0), .int (nI 0), .int (nI 0), .ref mso, .ref mon, .ref mot, .ref man, .int (nI 0), .int (nI 0), .ref mst, .ref msm, .ref mtb, .ref mti, .ref mfr, .ref mbn, .ref mbs, .ref mde, .int (nI 0), .int (nI 0), .int (nI 0), .int (nI 0), .long 4, .long 1, .ref maa, .ref mab, .ref mba, .ref mbb]))] H := hP
  replace hD : va_D A [(maa, .inl (cs 1, 9, .inr (.inl (lt4 0 0 1 1)))), (mab, .inl (cs 1, 9, .inr (.inl (lt4 1 1 2 1)))), (mba, .inl (cs 1, 9, .inr (.inl (lt4 0 4 5 4)))), (mbb, .inl (cs 1, 9, .inr (.inl (lt4 1 1 1 1)))), (hm, .inr (12, [.ref ms, .ref mkp, .int (nI 0), .ref mtr, .int (nI 4), .int (nI 2), .int (nI 2), .int (nI 3), .int (nI 2), .int (nI 1), .ref mas, .int (nI 0), .int (nI 0), .int (nI 0), .ref mso, .ref mon, .ref mot, .ref man, .int (nI 0), .int (nI 0), .ref mst, .ref msm, .ref mtb, .ref mti, .ref mfr, .ref mbn, .ref mbs, .ref mde, .int (nI 0), .int (nI 0), .int (nI 0), .int (nI 0), .long 4, .long 1, .ref maa, .ref mab, .ref mba, .ref mbb]))] := hD
  refine lv_iinc (v := nI 2) (lv' := [(4, .int (nI 2)), (0, .ref hm), (1, .int (nI 0)), (2, .long 0)]) hx hb dX12_goesDown_83 hl (k := 0) rfl (by decide) (by decide) rfl ?_
  clear hl
  try clear ls
  intro ls hl
  refine lv_goto (tgt := 18) hx hb dX12_goesDown_86 (by decide) ?_
  refine lv_iload hx hb dX12_goesDown_18 (lv_at hl 0 rfl) ?_
  refine lv_iload_n hx hb dX12_goesDown_20 rfl (lv_at hl 2 rfl) ?_
  refine lv_icmp_lt (tgt := 89) hx hb dX12_goesDown_21 (by decide) (fun c => absurd c (by decide)) (fun _ => ?_)
  refine lv_aload_n hx hb dX12_goesDown_24 rfl (lv_at hl 1 rfl) ?_
  refine xget C hP 4 rfl rfl zuX12 31 (by decide) zw6_4 rfl dX12_goesDown_25 ?_
  refine lv_if_ne (tgt := 89) hx hb dX12_goesDown_28 (by decide) (fun c => absurd (by decide) c) (fun _ => ?_)
  refine lv_aload_n hx hb dX12_goesDown_31 rfl (lv_at hl 1 rfl) ?_
  refine lv_aload_n hx hb dX12_goesDown_32 rfl (lv_at hl 1 rfl) ?_
  refine xget C hP 4 rfl rfl zuX12 34 (by decide) zw6_7 rfl dX12_goesDown_33 ?_
  refine lv_iload hx hb dX12_goesDown_36 (lv_at hl 0 rfl) ?_
  refine xlald C hP 0 rfl 2 rfl (by decide) (by decide) dX12_goesDown_38 ?_
  refine lv_topl (nm_r (e' := 1) (by decide) ?_)
  refine lv_aload_n hx hb dX12_goesDown_39 rfl (lv_at hl 1 rfl) ?_
  refine xget C hP 4 rfl rfl zuX12 35 (by decide) zw6_8 rfl dX12_goesDown_40 ?_
  refine lv_iload hx hb dX12_goesDown_43 (lv_at hl 0 rfl) ?_
  refine xlald C hP 1 rfl 2 rfl (by decide) (by decide) dX12_goesDown_45 ?_
  refine lv_topl (nm_r (e' := 2) (by decide) ?_)
  refine lv_aload_n hx hb dX12_goesDown_46 rfl (lv_at hl 1 rfl) ?_
  refine xget C hP 4 rfl rfl zuX12 32 (by decide) zw6_5 rfl dX12_goesDown_47 ?_
  refine lv_aload_n hx hb dX12_goesDown_50 rfl (lv_at hl 1 rfl) ?_
  refine xget C hP 4 rfl rfl zuX12 33 (by decide) zw6_6 rfl dX12_goesDown_51 ?_
  refine xv (wr := [(maa, .inl (cs 1, 9, .inr (.inl (lt4 0 0 1 1)))), (mab, .inl (cs 1, 9, .inr (.inl (lt4 1 1 2 1)))), (mba, .inl (cs 1, 9, .inr (.inl (lt4 0 4 5 4)))), (mbb, .inl (cs 1, 9, .inr (.inl (lt4 1 1 1 1))))]) (xV (As := [.long 1, .long 2, .long 4, .long 1]) (rest := []) C (c_X12_multiplies l D cs hm ms mkp mtr mas mso mon mot man mst msm mtb mti mfr mbn mbs mde maa mab mba mbb 4 1 1 2 4 1 4 2 2 1 (by decide +kernel) (by decide +kernel) (by decide +kernel)) kX12_286 hP hD [4] rfl (by decide +kernel) 0 rfl rfl rfl ⟨Nat.le_of_ble_eq_true rfl, Nat.le_of_ble_eq_true rfl⟩ rfl hl.1 rfl (Nat.le_of_ble_eq_true rfl) dX12_goesDown_54 ⟨Nat.le_of_ble_eq_true rfl, Nat.le_of_ble_eq_true rfl⟩) hP hD hS hA [4] [0, 1, 2, 3] rfl rfl (by decide +kernel) (by decide +kernel) ?_
  clear hP hD hS
  try clear locs
  try clear H
  intro u_6 H locs hw_r_5 hP hD hS
  refine W.widen (k := 0) (n := 0) (Nat.le_of_ble_eq_true rfl) (Nat.le_of_ble_eq_true rfl) ?_
  replace hP : va_P D vwCl [(maa, .inl (cs 1, 9, .inr (.inl (lt4 0 0 1 1)))), (mab, .inl (cs 1, 9, .inr (.inl (lt4 1 1 2 1)))), (mba, .inl (cs 1, 9, .inr (.inl (lt4 0 4 5 4)))), (mbb, .inl (cs 1, 9, .inr (.inl (lt4 1 1 1 1)))), (hm, .inr (12, [.ref ms, .ref mkp, .int (nI 0), .ref mtr, .int (nI 4), .int (nI 2), .int (nI 2), .int (nI 3), .int (nI 2), .int (nI 1), .ref mas, .int (nI 0), .int (nI 0), .int (nI 0), .ref mso, .ref mon, .ref mot, .ref man, .int (nI 0), .int (nI 0), .ref mst, .ref msm, .ref mtb, .ref mti, .ref mfr, .ref mbn, .ref mbs, .ref mde, .int (nI 0), .int (nI 0), .int (nI 0), .int (nI 0), .long 2, .long 1, .ref maa, .ref mab, .ref mba, .ref mbb]))] H := hP
  replace hD : va_D A [(maa, .inl (cs 1, 9, .inr (.inl (lt4 0 0 1 1)))), (mab, .inl (cs 1, 9, .inr (.inl (lt4 1 1 2 1)))), (mba, .inl (cs 1, 9, .inr (.inl (lt4 0 4 5 4)))), (mbb, .inl (cs 1, 9, .inr (.inl (lt4 1 1 1 1)))), (hm, .inr (12, [.ref ms, .ref mkp, .int (nI 0), .ref mtr, .int (nI 4), .int (nI 2), .int (nI 2), .int (nI 3), .int (nI 2), .int (nI 1), .ref mas, .int (nI 0), .int (nI 0), .int (nI 0), .ref mso, .ref mon, .ref mot, .ref man, .int (nI 0), .int (nI 0), .ref mst, .ref msm, .ref mtb, .ref mti, .ref mfr, .ref mbn, .ref mbs, .ref mde, .int (nI 0), .int (nI 0), .int (nI 0), .int (nI 0), .long 2, .long 1, .ref maa, .ref mab, .ref mba, .ref mbb]))] := hD
  refine lv_aload_n hx hb dX12_goesDown_57 rfl (lv_at hl 1 rfl) ?_
  refine lv_aload_n hx hb dX12_goesDown_58 rfl (lv_at hl 1 rfl) ?_
  refine xget C hP 4 rfl rfl zuX12 32 (by decide) zw6_5 rfl dX12_goesDown_59 ?_
  refine lv_aload_n hx hb dX12_goesDown_62 rfl (lv_at hl 1 rfl) ?_
  refine xget C hP 4 rfl rfl zuX12 33 (by decide) zw6_6 rfl dX12_goesDown_63 ?_
  refine lv_aload_n hx hb dX12_goesDown_66 rfl (lv_at hl 1 rfl) ?_
  refine xget C hP 4 rfl rfl zuX12 36 (by decide) zw6_9 rfl dX12_goesDown_67 ?_
  refine lv_iload hx hb dX12_goesDown_70 (lv_at hl 0 rfl) ?_
  refine xlald C hP 2 rfl 2 rfl (by decide) (by decide) dX12_goesDown_72 ?_
  refine lv_topl (nm_r (e' := 5) (by decide) ?_)
  refine lv_aload_n hx hb dX12_goesDown_73 rfl (lv_at hl 1 rfl) ?_
  refine xget C hP 4 rfl rfl zuX12 37 (by decide) zw6_10 rfl dX12_goesDown_74 ?_
  refine lv_iload hx hb dX12_goesDown_77 (lv_at hl 0 rfl) ?_
  refine xlald C hP 3 rfl 2 rfl (by decide) (by decide) dX12_goesDown_79 ?_
  refine lv_topl (nm_r (e' := 1) (by decide) ?_)
  refine xv (wr := [(maa, .inl (cs 1, 9, .inr (.inl (lt4 0 0 1 1)))), (mab, .inl (cs 1, 9, .inr (.inl (lt4 1 1 2 1)))), (mba, .inl (cs 1, 9, .inr (.inl (lt4 0 4 5 4)))), (mbb, .inl (cs 1, 9, .inr (.inl (lt4 1 1 1 1))))]) (xV (As := [.long 2, .long 1, .long 5, .long 1]) (rest := []) C (c_X12_adds l D cs hm ms mkp mtr mas mso mon mot man mst msm mtb mti mfr mbn mbs mde maa mab mba mbb 2 1 2 1 5 1 2 5 7 1 7 1 (by decide +kernel) (by decide +kernel) (by decide +kernel) (by decide +kernel) (by decide +kernel) (by decide +kernel)) kX12_296 hP hD [4] rfl (by decide +kernel) 0 rfl rfl rfl ⟨Nat.le_of_ble_eq_true rfl, Nat.le_of_ble_eq_true rfl⟩ rfl hl.1 rfl (Nat.le_of_ble_eq_true rfl) dX12_goesDown_80 ⟨Nat.le_of_ble_eq_true rfl, Nat.le_of_ble_eq_true rfl⟩) hP hD hS hA [4] [0, 1, 2, 3] rfl rfl (by decide +kernel) (by decide +kernel) ?_
  clear hP hD hS
  try clear locs
  try clear H
  intro u_8 H locs hw_r_7 hP hD hS
  refine W.widen (k := 0) (n := 0) (Nat.le_of_ble_eq_true rfl) (Nat.le_of_ble_eq_true rfl) ?_
  replace hP : va_P D vwCl [(maa, .inl (cs 1, 9, .inr (.inl (lt4 0 0 1 1)))), (mab, .inl (cs 1, 9, .inr (.inl (lt4 1 1 2 1)))), (mba, .inl (cs 1, 9, .inr (.inl (lt4 0 4 5 4)))), (mbb, .inl (cs 1, 9, .inr (.inl (lt4 1 1 1 1)))), (hm, .inr (12, [.ref ms, .ref mkp, .int (nI 0), .ref mtr, .int (nI 4), .int (nI 2), .int (nI 2), .int (nI 3), .int (nI 2), .int (nI 1), .ref mas, .int (nI 0), .int (nI 0), .int (nI 0), .ref mso, .ref mon, .ref mot, .ref man, .int (nI 0), .int (nI 0), .ref mst, .ref msm, .ref mtb, .ref mti, .ref mfr, .ref mbn, .ref mbs, .ref mde, .int (nI 0), .int (nI 0), .int (nI 0), .int (nI 0), .long 7, .long 1, .ref maa, .ref mab, .ref mba, .ref mbb]))] H := hP
  replace hD : va_D A [(maa, .inl (cs 1, 9, .inr (.inl (lt4 0 0 1 1)))), (mab, .inl (cs 1, 9, .inr (.inl (lt4 1 1 2 1)))), (mba, .inl (cs 1, 9, .inr (.inl (lt4 0 4 5 4)))), (mbb, .inl (cs 1, 9, .inr (.inl (lt4 1 1 1 1)))), (hm, .inr (12, [.ref ms, .ref mkp, .int (nI 0), .ref mtr, .int (nI 4), .int (nI 2), .int (nI 2), .int (nI 3), .int (nI 2), .int (nI 1), .ref mas, .int (nI 0), .int (nI 0), .int (nI 0), .ref mso, .ref mon, .ref mot, .ref man, .int (nI 0), .int (nI 0), .ref mst, .ref msm, .ref mtb, .ref mti, .ref mfr, .ref mbn, .ref mbs, .ref mde, .int (nI 0), .int (nI 0), .int (nI 0), .int (nI 0), .long 7, .long 1, .ref maa, .ref mab, .ref mba, .ref mbb]))] := hD
  refine lv_iinc (v := nI 1) (lv' := [(4, .int (nI 1)), (0, .ref hm), (1, .int (nI 0)), (2, .long 0)]) hx hb dX12_goesDown_83 hl (k := 0) rfl (by decide) (by decide) rfl ?_
  clear hl
  try clear ls
  intro ls hl
  refine lv_goto (tgt := 18) hx hb dX12_goesDown_86 (by decide) ?_
  refine lv_iload hx hb dX12_goesDown_18 (lv_at hl 0 rfl) ?_
  refine lv_iload_n hx hb dX12_goesDown_20 rfl (lv_at hl 2 rfl) ?_
  refine lv_icmp_lt (tgt := 89) hx hb dX12_goesDown_21 (by decide) (fun c => absurd c (by decide)) (fun _ => ?_)
  refine lv_aload_n hx hb dX12_goesDown_24 rfl (lv_at hl 1 rfl) ?_
  refine xget C hP 4 rfl rfl zuX12 31 (by decide) zw6_4 rfl dX12_goesDown_25 ?_
  refine lv_if_ne (tgt := 89) hx hb dX12_goesDown_28 (by decide) (fun c => absurd (by decide) c) (fun _ => ?_)
  refine lv_aload_n hx hb dX12_goesDown_31 rfl (lv_at hl 1 rfl) ?_
  refine lv_aload_n hx hb dX12_goesDown_32 rfl (lv_at hl 1 rfl) ?_
  refine xget C hP 4 rfl rfl zuX12 34 (by decide) zw6_7 rfl dX12_goesDown_33 ?_
  refine lv_iload hx hb dX12_goesDown_36 (lv_at hl 0 rfl) ?_
  refine xlald C hP 0 rfl 1 rfl (by decide) (by decide) dX12_goesDown_38 ?_
  refine lv_topl (nm_r (e' := 0) (by decide) ?_)
  refine lv_aload_n hx hb dX12_goesDown_39 rfl (lv_at hl 1 rfl) ?_
  refine xget C hP 4 rfl rfl zuX12 35 (by decide) zw6_8 rfl dX12_goesDown_40 ?_
  refine lv_iload hx hb dX12_goesDown_43 (lv_at hl 0 rfl) ?_
  refine xlald C hP 1 rfl 1 rfl (by decide) (by decide) dX12_goesDown_45 ?_
  refine lv_topl (nm_r (e' := 1) (by decide) ?_)
  refine lv_aload_n hx hb dX12_goesDown_46 rfl (lv_at hl 1 rfl) ?_
  refine xget C hP 4 rfl rfl zuX12 32 (by decide) zw6_5 rfl dX12_goesDown_47 ?_
  refine lv_aload_n hx hb dX12_goesDown_50 rfl (lv_at hl 1 rfl) ?_
  refine xget C hP 4 rfl rfl zuX12 33 (by decide) zw6_6 rfl dX12_goesDown_51 ?_
  refine xv (wr := [(maa, .inl (cs 1, 9, .inr (.inl (lt4 0 0 1 1)))), (mab, .inl (cs 1, 9, .inr (.inl (lt4 1 1 2 1)))), (mba, .inl (cs 1, 9, .inr (.inl (lt4 0 4 5 4)))), (mbb, .inl (cs 1, 9, .inr (.inl (lt4 1 1 1 1))))]) (xV (As := [.long 0, .long 1, .long 7, .long 1]) (rest := []) C (c_X12_multiplies l D cs hm ms mkp mtr mas mso mon mot man mst msm mtb mti mfr mbn mbs mde maa mab mba mbb 7 1 0 1 7 1 0 1 0 1 (by decide +kernel) (by decide +kernel) (by decide +kernel)) kX12_286 hP hD [4] rfl (by decide +kernel) 0 rfl rfl rfl ⟨Nat.le_of_ble_eq_true rfl, Nat.le_of_ble_eq_true rfl⟩ rfl hl.1 rfl (Nat.le_of_ble_eq_true rfl) dX12_goesDown_54 ⟨Nat.le_of_ble_eq_true rfl, Nat.le_of_ble_eq_true rfl⟩) hP hD hS hA [4] [0, 1, 2, 3] rfl rfl (by decide +kernel) (by decide +kernel) ?_
  clear hP hD hS
  try clear locs
  try clear H
  intro u_10 H locs hw_r_9 hP hD hS
  refine W.widen (k := 0) (n := 0) (Nat.le_of_ble_eq_true rfl) (Nat.le_of_ble_eq_true rfl) ?_
  replace hP : va_P D vwCl [(maa, .inl (cs 1, 9, .inr (.inl (lt4 0 0 1 1)))), (mab, .inl (cs 1, 9, .inr (.inl (lt4 1 1 2 1)))), (mba, .inl (cs 1, 9, .inr (.inl (lt4 0 4 5 4)))), (mbb, .inl (cs 1, 9, .inr (.inl (lt4 1 1 1 1)))), (hm, .inr (12, [.ref ms, .ref mkp, .int (nI 0), .ref mtr, .int (nI 4), .int (nI 2), .int (nI 2), .int (nI 3), .int (nI 2), .int (nI 1), .ref mas, .int (nI 0), .int (nI 0), .int (nI 0), .ref mso, .ref mon, .ref mot, .ref man, .int (nI 0), .int (nI 0), .ref mst, .ref msm, .ref mtb, .ref mti, .ref mfr, .ref mbn, .ref mbs, .ref mde, .int (nI 0), .int (nI 0), .int (nI 0), .int (nI 0), .long 0, .long 1, .ref maa, .ref mab, .ref mba, .ref mbb]))] H := hP
  replace hD : va_D A [(maa, .inl (cs 1, 9, .inr (.inl (lt4 0 0 1 1)))), (mab, .inl (cs 1, 9, .inr (.inl (lt4 1 1 2 1)))), (mba, .inl (cs 1, 9, .inr (.inl (lt4 0 4 5 4)))), (mbb, .inl (cs 1, 9, .inr (.inl (lt4 1 1 1 1)))), (hm, .inr (12, [.ref ms, .ref mkp, .int (nI 0), .ref mtr, .int (nI 4), .int (nI 2), .int (nI 2), .int (nI 3), .int (nI 2), .int (nI 1), .ref mas, .int (nI 0), .int (nI 0), .int (nI 0), .ref mso, .ref mon, .ref mot, .ref man, .int (nI 0), .int (nI 0), .ref mst, .ref msm, .ref mtb, .ref mti, .ref mfr, .ref mbn, .ref mbs, .ref mde, .int (nI 0), .int (nI 0), .int (nI 0), .int (nI 0), .long 0, .long 1, .ref maa, .ref mab, .ref mba, .ref mbb]))] := hD
  refine lv_aload_n hx hb dX12_goesDown_57 rfl (lv_at hl 1 rfl) ?_
  refine lv_aload_n hx hb dX12_goesDown_58 rfl (lv_at hl 1 rfl) ?_
  refine xget C hP 4 rfl rfl zuX12 32 (by decide) zw6_5 rfl dX12_goesDown_59 ?_
  refine lv_aload_n hx hb dX12_goesDown_62 rfl (lv_at hl 1 rfl) ?_
  refine xget C hP 4 rfl rfl zuX12 33 (by decide) zw6_6 rfl dX12_goesDown_63 ?_
  refine lv_aload_n hx hb dX12_goesDown_66 rfl (lv_at hl 1 rfl) ?_
  refine xget C hP 4 rfl rfl zuX12 36 (by decide) zw6_9 rfl dX12_goesDown_67 ?_
  refine lv_iload hx hb dX12_goesDown_70 (lv_at hl 0 rfl) ?_
  refine xlald C hP 2 rfl 1 rfl (by decide) (by decide) dX12_goesDown_72 ?_
  refine lv_topl (nm_r (e' := 4) (by decide) ?_)
  refine lv_aload_n hx hb dX12_goesDown_73 rfl (lv_at hl 1 rfl) ?_
  refine xget C hP 4 rfl rfl zuX12 37 (by decide) zw6_10 rfl dX12_goesDown_74 ?_
  refine lv_iload hx hb dX12_goesDown_77 (lv_at hl 0 rfl) ?_
  refine xlald C hP 3 rfl 1 rfl (by decide) (by decide) dX12_goesDown_79 ?_
  refine lv_topl (nm_r (e' := 1) (by decide) ?_)
  refine xv (wr := [(maa, .inl (cs 1, 9, .inr (.inl (lt4 0 0 1 1)))), (mab, .inl (cs 1, 9, .inr (.inl (lt4 1 1 2 1)))), (mba, .inl (cs 1, 9, .inr (.inl (lt4 0 4 5 4)))), (mbb, .inl (cs 1, 9, .inr (.inl (lt4 1 1 1 1))))]) (xV (As := [.long 0, .long 1, .long 4, .long 1]) (rest := []) C (c_X12_adds l D cs hm ms mkp mtr mas mso mon mot man mst msm mtb mti mfr mbn mbs mde maa mab mba mbb 0 1 0 1 4 1 0 4 4 1 4 1 (by decide +kernel) (by decide +kernel) (by decide +kernel) (by decide +kernel) (by decide +kernel) (by decide +kernel)) kX12_296 hP hD [4] rfl (by decide +kernel) 0 rfl rfl rfl ⟨Nat.le_of_ble_eq_true rfl, Nat.le_of_ble_eq_true rfl⟩ rfl hl.1 rfl (Nat.le_of_ble_eq_true rfl) dX12_goesDown_80 ⟨Nat.le_of_ble_eq_true rfl, Nat.le_of_ble_eq_true rfl⟩) hP hD hS hA [4] [0, 1, 2, 3] rfl rfl (by decide +kernel) (by decide +kernel) ?_
  clear hP hD hS
  try clear locs
  try clear H
  intro u_12 H locs hw_r_11 hP hD hS
  refine W.widen (k := 0) (n := 0) (Nat.le_of_ble_eq_true rfl) (Nat.le_of_ble_eq_true rfl) ?_
  replace hP : va_P D vwCl [(maa, .inl (cs 1, 9, .inr (.inl (lt4 0 0 1 1)))), (mab, .inl (cs 1, 9, .inr (.inl (lt4 1 1 2 1)))), (mba, .inl (cs 1, 9, .inr (.inl (lt4 0 4 5 4)))), (mbb, .inl (cs 1, 9, .inr (.inl (lt4 1 1 1 1)))), (hm, .inr (12, [.ref ms, .ref mkp, .int (nI 0), .ref mtr, .int (nI 4), .int (nI 2), .int (nI 2), .int (nI 3), .int (nI 2), .int (nI 1), .ref mas, .int (nI 0), .int (nI 0), .int (nI 0), .ref mso, .ref mon, .ref mot, .ref man, .int (nI 0), .int (nI 0), .ref mst, .ref msm, .ref mtb, .ref mti, .ref mfr, .ref mbn, .ref mbs, .ref mde, .int (nI 0), .int (nI 0), .int (nI 0), .int (nI 0), .long 4, .long 1, .ref maa, .ref mab, .ref mba, .ref mbb]))] H := hP
  replace hD : va_D A [(maa, .inl (cs 1, 9, .inr (.inl (lt4 0 0 1 1)))), (mab, .inl (cs 1, 9, .inr (.inl (lt4 1 1 2 1)))), (mba, .inl (cs 1, 9, .inr (.inl (lt4 0 4 5 4)))), (mbb, .inl (cs 1, 9, .inr (.inl (lt4 1 1 1 1)))), (hm, .inr (12, [.ref ms, .ref mkp, .int (nI 0), .ref mtr, .int (nI 4), .int (nI 2), .int (nI 2), .int (nI 3), .int (nI 2), .int (nI 1), .ref mas, .int (nI 0), .int (nI 0), .int (nI 0), .ref mso, .ref mon, .ref mot, .ref man, .int (nI 0), .int (nI 0), .ref mst, .ref msm, .ref mtb, .ref mti, .ref mfr, .ref mbn, .ref mbs, .ref mde, .int (nI 0), .int (nI 0), .int (nI 0), .int (nI 0), .long 4, .long 1, .ref maa, .ref mab, .ref mba, .ref mbb]))] := hD
  refine lv_iinc (v := nI 0) (lv' := [(4, .int (nI 0)), (0, .ref hm), (1, .int (nI 0)), (2, .long 0)]) hx hb dX12_goesDown_83 hl (k := 0) rfl (by decide) (by decide) rfl ?_
  clear hl
  try clear ls
  intro ls hl
  refine lv_goto (tgt := 18) hx hb dX12_goesDown_86 (by decide) ?_
  refine lv_iload hx hb dX12_goesDown_18 (lv_at hl 0 rfl) ?_
  refine lv_iload_n hx hb dX12_goesDown_20 rfl (lv_at hl 2 rfl) ?_
  refine lv_icmp_lt (tgt := 89) hx hb dX12_goesDown_21 (by decide) (fun c => absurd c (by decide)) (fun _ => ?_)
  refine lv_aload_n hx hb dX12_goesDown_24 rfl (lv_at hl 1 rfl) ?_
  refine xget C hP 4 rfl rfl zuX12 31 (by decide) zw6_4 rfl dX12_goesDown_25 ?_
  refine lv_if_ne (tgt := 89) hx hb dX12_goesDown_28 (by decide) (fun c => absurd (by decide) c) (fun _ => ?_)
  refine lv_aload_n hx hb dX12_goesDown_31 rfl (lv_at hl 1 rfl) ?_
  refine lv_aload_n hx hb dX12_goesDown_32 rfl (lv_at hl 1 rfl) ?_
  refine xget C hP 4 rfl rfl zuX12 34 (by decide) zw6_7 rfl dX12_goesDown_33 ?_
  refine lv_iload hx hb dX12_goesDown_36 (lv_at hl 0 rfl) ?_
  refine xlald C hP 0 rfl 0 rfl (by decide) (by decide) dX12_goesDown_38 ?_
  refine lv_topl (nm_r (e' := 0) (by decide) ?_)
  refine lv_aload_n hx hb dX12_goesDown_39 rfl (lv_at hl 1 rfl) ?_
  refine xget C hP 4 rfl rfl zuX12 35 (by decide) zw6_8 rfl dX12_goesDown_40 ?_
  refine lv_iload hx hb dX12_goesDown_43 (lv_at hl 0 rfl) ?_
  refine xlald C hP 1 rfl 0 rfl (by decide) (by decide) dX12_goesDown_45 ?_
  refine lv_topl (nm_r (e' := 1) (by decide) ?_)
  refine lv_aload_n hx hb dX12_goesDown_46 rfl (lv_at hl 1 rfl) ?_
  refine xget C hP 4 rfl rfl zuX12 32 (by decide) zw6_5 rfl dX12_goesDown_47 ?_
  refine lv_aload_n hx hb dX12_goesDown_50 rfl (lv_at hl 1 rfl) ?_
  refine xget C hP 4 rfl rfl zuX12 33 (by decide) zw6_6 rfl dX12_goesDown_51 ?_
  refine xv (wr := [(maa, .inl (cs 1, 9, .inr (.inl (lt4 0 0 1 1)))), (mab, .inl (cs 1, 9, .inr (.inl (lt4 1 1 2 1)))), (mba, .inl (cs 1, 9, .inr (.inl (lt4 0 4 5 4)))), (mbb, .inl (cs 1, 9, .inr (.inl (lt4 1 1 1 1))))]) (xV (As := [.long 0, .long 1, .long 4, .long 1]) (rest := []) C (c_X12_multiplies l D cs hm ms mkp mtr mas mso mon mot man mst msm mtb mti mfr mbn mbs mde maa mab mba mbb 4 1 0 1 4 1 0 1 0 1 (by decide +kernel) (by decide +kernel) (by decide +kernel)) kX12_286 hP hD [4] rfl (by decide +kernel) 0 rfl rfl rfl ⟨Nat.le_of_ble_eq_true rfl, Nat.le_of_ble_eq_true rfl⟩ rfl hl.1 rfl (Nat.le_of_ble_eq_true rfl) dX12_goesDown_54 ⟨Nat.le_of_ble_eq_true rfl, Nat.le_of_ble_eq_true rfl⟩) hP hD hS hA [4] [0, 1, 2, 3] rfl rfl (by decide +kernel) (by decide +kernel) ?_
  clear hP hD hS
  try clear locs
  try clear H
  intro u_14 H locs hw_r_13 hP hD hS
  refine W.widen (k := 0) (n := 0) (Nat.le_of_ble_eq_true rfl) (Nat.le_of_ble_eq_true rfl) ?_
  replace hP : va_P D vwCl [(maa, .inl (cs 1, 9, .inr (.inl (lt4 0 0 1 1)))), (mab, .inl (cs 1, 9, .inr (.inl (lt4 1 1 2 1)))), (mba, .inl (cs 1, 9, .inr (.inl (lt4 0 4 5 4)))), (mbb, .inl (cs 1, 9, .inr (.inl (lt4 1 1 1 1)))), (hm, .inr (12, [.ref ms, .ref mkp, .int (nI 0), .ref mtr, .int (nI 4), .int (nI 2), .int (nI 2), .int (nI 3), .int (nI 2), .int (nI 1), .ref mas, .int (nI 0), .int (nI 0), .int (nI 0), .ref mso, .ref mon, .ref mot, .ref man, .int (nI 0), .int (nI 0), .ref mst, .ref msm, .ref mtb, .ref mti, .ref mfr, .ref mbn, .ref mbs, .ref mde, .int (nI 0), .int (nI 0), .int (nI 0), .int (nI 0), .long 0, .long 1, .ref maa, .ref mab, .ref mba, .ref mbb]))] H := hP
  replace hD : va_D A [(maa, .inl (cs 1, 9, .inr (.inl (lt4 0 0 1 1)))), (mab, .inl (cs 1, 9, .inr (.inl (lt4 1 1 2 1)))), (mba, .inl (cs 1, 9, .inr (.inl (lt4 0 4 5 4)))), (mbb, .inl (cs 1, 9, .inr (.inl (lt4 1 1 1 1)))), (hm, .inr (12, [.ref ms, .ref mkp, .int (nI 0), .ref mtr, .int (nI 4), .int (nI 2), .int (nI 2), .int (nI 3), .int (nI 2), .int (nI 1), .ref mas, .int (nI 0), .int (nI 0), .int (nI 0), .ref mso, .ref mon, .ref mot, .ref man, .int (nI 0), .int (nI 0), .ref mst, .ref msm, .ref mtb, .ref mti, .ref mfr, .ref mbn, .ref mbs, .ref mde, .int (nI 0), .int (nI 0), .int (nI 0), .int (nI 0), .long 0, .long 1, .ref maa, .ref mab, .ref mba, .ref mbb]))] := hD
  refine lv_aload_n hx hb dX12_goesDown_57 rfl (lv_at hl 1 rfl) ?_
  refine lv_aload_n hx hb dX12_goesDown_58 rfl (lv_at hl 1 rfl) ?_
  refine xget C hP 4 rfl rfl zuX12 32 (by decide) zw6_5 rfl dX12_goesDown_59 ?_
  refine lv_aload_n hx hb dX12_goesDown_62 rfl (lv_at hl 1 rfl) ?_
  refine xget C hP 4 rfl rfl zuX12 33 (by decide) zw6_6 rfl dX12_goesDown_63 ?_
  refine lv_aload_n hx hb dX12_goesDown_66 rfl (lv_at hl 1 rfl) ?_
  refine xget C hP 4 rfl rfl zuX12 36 (by decide) zw6_9 rfl dX12_goesDown_67 ?_
  refine lv_iload hx hb dX12_goesDown_70 (lv_at hl 0 rfl) ?_
  refine xlald C hP 2 rfl 0 rfl (by decide) (by decide) dX12_goesDown_72 ?_
  refine lv_topl (nm_r (e' := 0) (by decide) ?_)
  refine lv_aload_n hx hb dX12_goesDown_73 rfl (lv_at hl 1 rfl) ?_
  refine xget C hP 4 rfl rfl zuX12 37 (by decide) zw6_10 rfl dX12_goesDown_74 ?_
  refine lv_iload hx hb dX12_goesDown_77 (lv_at hl 0 rfl) ?_
  refine xlald C hP 3 rfl 0 rfl (by decide) (by decide) dX12_goesDown_79 ?_
  refine lv_topl (nm_r (e' := 1) (by decide) ?_)
  refine xv (wr := [(maa, .inl (cs 1, 9, .inr (.inl (lt4 0 0 1 1)))), (mab, .inl (cs 1, 9, .inr (.inl (lt4 1 1 2 1)))), (mba, .inl (cs 1, 9, .inr (.inl (lt4 0 4 5 4)))), (mbb, .inl (cs 1, 9, .inr (.inl (lt4 1 1 1 1))))]) (xV (As := [.long 0, .long 1, .long 0, .long 1]) (rest := []) C (c_X12_adds l D cs hm ms mkp mtr mas mso mon mot man mst msm mtb mti mfr mbn mbs mde maa mab mba mbb 0 1 0 1 0 1 0 0 0 1 0 1 (by decide +kernel) (by decide +kernel) (by decide +kernel) (by decide +kernel) (by decide +kernel) (by decide +kernel)) kX12_296 hP hD [4] rfl (by decide +kernel) 0 rfl rfl rfl ⟨Nat.le_of_ble_eq_true rfl, Nat.le_of_ble_eq_true rfl⟩ rfl hl.1 rfl (Nat.le_of_ble_eq_true rfl) dX12_goesDown_80 ⟨Nat.le_of_ble_eq_true rfl, Nat.le_of_ble_eq_true rfl⟩) hP hD hS hA [4] [0, 1, 2, 3] rfl rfl (by decide +kernel) (by decide +kernel) ?_
  clear hP hD hS
  try clear locs
  try clear H
  intro u_16 H locs hw_r_15 hP hD hS
  refine W.widen (k := 0) (n := 0) (Nat.le_of_ble_eq_true rfl) (Nat.le_of_ble_eq_true rfl) ?_
  replace hP : va_P D vwCl [(maa, .inl (cs 1, 9, .inr (.inl (lt4 0 0 1 1)))), (mab, .inl (cs 1, 9, .inr (.inl (lt4 1 1 2 1)))), (mba, .inl (cs 1, 9, .inr (.inl (lt4 0 4 5 4)))), (mbb, .inl (cs 1, 9, .inr (.inl (lt4 1 1 1 1)))), (hm, .inr (12, [.ref ms, .ref mkp, .int (nI 0), .ref mtr, .int (nI 4), .int (nI 2), .int (nI 2), .int (nI 3), .int (nI 2), .int (nI 1), .ref mas, .int (nI 0), .int (nI 0), .int (nI 0), .ref mso, .ref mon, .ref mot, .ref man, .int (nI 0), .int (nI 0), .ref mst, .ref msm, .ref mtb, .ref mti, .ref mfr, .ref mbn, .ref mbs, .ref mde, .int (nI 0), .int (nI 0), .int (nI 0), .int (nI 0), .long 0, .long 1, .ref maa, .ref mab, .ref mba, .ref mbb]))] H := hP
  replace hD : va_D A [(maa, .inl (cs 1, 9, .inr (.inl (lt4 0 0 1 1)))), (mab, .inl (cs 1, 9, .inr (.inl (lt4 1 1 2 1)))), (mba, .inl (cs 1, 9, .inr (.inl (lt4 0 4 5 4)))), (mbb, .inl (cs 1, 9, .inr (.inl (lt4 1 1 1 1)))), (hm, .inr (12, [.ref ms, .ref mkp, .int (nI 0), .ref mtr, .int (nI 4), .int (nI 2), .int (nI 2), .int (nI 3), .int (nI 2), .int (nI 1), .ref mas, .int (nI 0), .int (nI 0), .int (nI 0), .ref mso, .ref mon, .ref mot, .ref man, .int (nI 0), .int (nI 0), .ref mst, .ref msm, .ref mtb, .ref mti, .ref mfr, .ref mbn, .ref mbs, .ref mde, .int (nI 0), .int (nI 0), .int (nI 0), .int (nI 0), .long 0, .long 1, .ref maa, .ref mab, .ref mba, .ref mbb]))] := hD
  refine lv_iinc (v := (-1)) (lv' := [(4, .int (-1)), (0, .ref hm), (1, .int (nI 0)), (2, .long 0)]) hx hb dX12_goesDown_83 hl (k := 0) rfl (by decide) (by decide) rfl ?_
  clear hl
  try clear ls
  intro ls hl
  refine lv_goto (tgt := 18) hx hb dX12_goesDown_86 (by decide) ?_
  refine lv_iload hx hb dX12_goesDown_18 (lv_at hl 0 rfl) ?_
  refine lv_iload_n hx hb dX12_goesDown_20 rfl (lv_at hl 2 rfl) ?_
  refine lv_icmp_lt (tgt := 89) hx hb dX12_goesDown_21 (by decide) (fun _ => ?_) (fun c => absurd (by decide) c)
  exact xretv C () trivial (xP_map hP [4, 0, 1, 2, 3] rfl) (hD.sub [4, 0, 1, 2, 3] (by decide +kernel) rfl) hS (Nat.le_of_ble_eq_true rfl) (Nat.le_of_ble_eq_true rfl) dX12_goesDown_89

set_option maxHeartbeats 4000000 in
set_option maxRecDepth 100000 in
theorem c_X12_goesDown_1_1 (l : Launch) (D : va_G) (cs : Nat → ClassId) (hm ms mkp mtr mas mso mon mot man mst msm mtb mti mfr mbn mbs mde maa mab mba mbb : Nat) (ab be : Int64) : xMet l D cs yX12_goesDown cX12_goesDown 5 none ({ frames := 2, cells := 0, slots := 0, locals := 58 } : Room) [.ref hm, .int (nI 1), .long 0] [(hm, .inr (12, [.ref ms, .ref mkp, .int (nI 0), .ref mtr, .int (nI 4), .int (nI 2), .int (nI 2), .int (nI 3), .int (nI 2), .int (nI 1), .ref mas, .int (nI 0), .int (nI 0), .int (nI 0), .ref mso, .ref mon, .ref mot, .ref man, .int (nI 0), .int (nI 0), .ref mst, .ref msm, .ref mtb, .ref mti, .ref mfr, .ref mbn, .ref mbs, .ref mde, .int (nI 0), .int (nI 0), .int (nI 0), .int (nI 0), .long ab, .long be, .ref maa, .ref mab, .ref mba, .ref mbb])), (maa, .inl (cs 1, 9, .inr (.inl (lt4 0 0 1 1)))), (mab, .inl (cs 1, 9, .inr (.inl (lt4 1 1 2 1)))), (mba, .inl (cs 1, 9, .inr (.inl (lt4 0 4 5 4)))), (mbb, .inl (cs 1, 9, .inr (.inl (lt4 1 1 1 1))))] (xQv D (fun (_u : Unit) => True) (fun (_u : Unit) => [(hm, .inr (12, [.ref ms, .ref mkp, .int (nI 0), .ref mtr, .int (nI 4), .int (nI 2), .int (nI 2), .int (nI 3), .int (nI 2), .int (nI 1), .ref mas, .int (nI 0), .int (nI 0), .int (nI 0), .ref mso, .ref mon, .ref mot, .ref man, .int (nI 0), .int (nI 0), .ref mst, .ref msm, .ref mtb, .ref mti, .ref mfr, .ref mbn, .ref mbs, .ref mde, .int (nI 0), .int (nI 0), .int (nI 0), .int (nI 0), .long 4, .long 1, .ref maa, .ref mab, .ref mba, .ref mbb])), (maa, .inl (cs 1, 9, .inr (.inl (lt4 0 0 1 1)))), (mab, .inl (cs 1, 9, .inr (.inl (lt4 1 1 2 1)))), (mba, .inl (cs 1, 9, .inr (.inl (lt4 0 4 5 4)))), (mbb, .inl (cs 1, 9, .inr (.inl (lt4 1 1 1 1))))])) := by
  refine xMet.intro (by decide) (Nat.le_of_ble_eq_true rfl) ?_
  intro p e s m args below meth c A ls C hP hD hS hl
  have hx := C.1
  have hb := C.2.1
  have hz := C.2.2.2.2.1
  have hown := C.2.2.2.1
  have hA := C.2.2.2.2.2.2.2.2.2
  have hAO := C.2.2.2.2.2.2.2.2.1.2.2
  replace hl : lv_has ls 5 [(0, .ref hm), (1, .int (nI 1)), (2, .long 0)] := hl
  obtain ⟨H, hH⟩ : ∃ H, H = s.heap := ⟨_, rfl⟩
  replace hP : va_P D vwCl [(hm, .inr (12, [.ref ms, .ref mkp, .int (nI 0), .ref mtr, .int (nI 4), .int (nI 2), .int (nI 2), .int (nI 3), .int (nI 2), .int (nI 1), .ref mas, .int (nI 0), .int (nI 0), .int (nI 0), .ref mso, .ref mon, .ref mot, .ref man, .int (nI 0), .int (nI 0), .ref mst, .ref msm, .ref mtb, .ref mti, .ref mfr, .ref mbn, .ref mbs, .ref mde, .int (nI 0), .int (nI 0), .int (nI 0), .int (nI 0), .long ab, .long be, .ref maa, .ref mab, .ref mba, .ref mbb])), (maa, .inl (cs 1, 9, .inr (.inl (lt4 0 0 1 1)))), (mab, .inl (cs 1, 9, .inr (.inl (lt4 1 1 2 1)))), (mba, .inl (cs 1, 9, .inr (.inl (lt4 0 4 5 4)))), (mbb, .inl (cs 1, 9, .inr (.inl (lt4 1 1 1 1))))] H := by rw [hH]; exact hP
  replace hS : va_S A s.heap H [] := by rw [hH]; exact hS
  obtain ⟨locs, hlocs⟩ : ∃ z : List Loc, z = [] := ⟨_, rfl⟩
  rw [← hlocs] at hS
  suffices hW : W p l e ({ frames := 2, cells := 0, slots := 0, locals := 58 } : Room) s m args below meth c H locs 0 0 (MQ below ((xQv D (fun (_u : Unit) => True) (fun (_u : Unit) => [(hm, .inr (12, [.ref ms, .ref mkp, .int (nI 0), .ref mtr, .int (nI 4), .int (nI 2), .int (nI 2), .int (nI 3), .int (nI 2), .int (nI 1), .ref mas, .int (nI 0), .int (nI 0), .int (nI 0), .ref mso, .ref mon, .ref mot, .ref man, .int (nI 0), .int (nI 0), .ref mst, .ref msm, .ref mtb, .ref mti, .ref mfr, .ref mbn, .ref mbs, .ref mde, .int (nI 0), .int (nI 0), .int (nI 0), .int (nI 0), .long 4, .long 1, .ref maa, .ref mab, .ref mba, .ref mbb])), (maa, .inl (cs 1, 9, .inr (.inl (lt4 0 0 1 1)))), (mab, .inl (cs 1, 9, .inr (.inl (lt4 1 1 2 1)))), (mba, .inl (cs 1, 9, .inr (.inl (lt4 0 4 5 4)))), (mbb, .inl (cs 1, 9, .inr (.inl (lt4 1 1 1 1))))])) A) args s 0 0 A) (F0 m 0 ls []) by rw [hlocs, hH] at hW; exact hW
  clear hH hlocs
  refine lv_aload_n hx hb dX12_goesDown_0 rfl (lv_at hl 0 rfl) ?_
  refine lv_lload_n hx hb dX12_goesDown_1 rfl (lv_at hl 2 rfl) ?_
  refine xput C hP hD hS 0 rfl rfl zuX12 tyX12 tyX12_ok nmX12 32 (by decide) zw6_5 rfl rfl rfl (Nat.le_of_ble_eq_true rfl) dX12_goesDown_2 ?_
  clear hP hD hS
  try clear locs
  try clear H
  intro H locs hP hD hS
  replace hP : va_P D vwCl [(hm, .inr (12, [.ref ms, .ref mkp, .int (nI 0), .ref mtr, .int (nI 4), .int (nI 2), .int (nI 2), .int (nI 3), .int (nI 2), .int (nI 1), .ref mas, .int (nI 0), .int (nI 0), .int (nI 0), .ref mso, .ref mon, .ref mot, .ref man, .int (nI 0), .int (nI 0), .ref mst, .ref msm, .ref mtb, .ref mti, .ref mfr, .ref mbn, .ref mbs, .ref mde, .int (nI 0), .int (nI 0), .int (nI 0), .int (nI 0), .long 0, .long be, .ref maa, .ref mab, .ref mba, .ref mbb])), (maa, .inl (cs 1, 9, .inr (.inl (lt4 0 0 1 1)))), (mab, .inl (cs 1, 9, .inr (.inl (lt4 1 1 2 1)))), (mba, .inl (cs 1, 9, .inr (.inl (lt4 0 4 5 4)))), (mbb, .inl (cs 1, 9, .inr (.inl (lt4 1 1 1 1))))] H := hP
  replace hD : va_D A [(hm, .inr (12, [.ref ms, .ref mkp, .int (nI 0), .ref mtr, .int (nI 4), .int (nI 2), .int (nI 2), .int (nI 3), .int (nI 2), .int (nI 1), .ref mas, .int (nI 0), .int (nI 0), .int (nI 0), .ref mso, .ref mon, .ref mot, .ref man, .int (nI 0), .int (nI 0), .ref mst, .ref msm, .ref mtb, .ref mti, .ref mfr, .ref mbn, .ref mbs, .ref mde, .int (nI 0), .int (nI 0), .int (nI 0), .int (nI 0), .long 0, .long be, .ref maa, .ref mab, .ref mba, .ref mbb])), (maa, .inl (cs 1, 9, .inr (.inl (lt4 0 0 1 1)))), (mab, .inl (cs 1, 9, .inr (.inl (lt4 1 1 2 1)))), (mba, .inl (cs 1, 9, .inr (.inl (lt4 0 4 5 4)))), (mbb, .inl (cs 1, 9, .inr (.inl (lt4 1 1 1 1))))] := hD
  refine lv_aload_n hx hb dX12_goesDown_5 rfl (lv_at hl 0 rfl) ?_
  refine lv_lconst (v := 1) hx hb dX12_goesDown_6 (by decide) ?_
  refine xput C hP hD hS 0 rfl rfl zuX12 tyX12 tyX12_ok nmX12 33 (by decide) zw6_6 rfl rfl rfl (Nat.le_of_ble_eq_true rfl) dX12_goesDown_7 ?_
  clear hP hD hS
  try clear locs
  try clear H
  intro H locs hP hD hS
  replace hP : va_P D vwCl [(hm, .inr (12, [.ref ms, .ref mkp, .int (nI 0), .ref mtr, .int (nI 4), .int (nI 2), .int (nI 2), .int (nI 3), .int (nI 2), .int (nI 1), .ref mas, .int (nI 0), .int (nI 0), .int (nI 0), .ref mso, .ref mon, .ref mot, .ref man, .int (nI 0), .int (nI 0), .ref mst, .ref msm, .ref mtb, .ref mti, .ref mfr, .ref mbn, .ref mbs, .ref mde, .int (nI 0), .int (nI 0), .int (nI 0), .int (nI 0), .long 0, .long 1, .ref maa, .ref mab, .ref mba, .ref mbb])), (maa, .inl (cs 1, 9, .inr (.inl (lt4 0 0 1 1)))), (mab, .inl (cs 1, 9, .inr (.inl (lt4 1 1 2 1)))), (mba, .inl (cs 1, 9, .inr (.inl (lt4 0 4 5 4)))), (mbb, .inl (cs 1, 9, .inr (.inl (lt4 1 1 1 1))))] H := hP
  replace hD : va_D A [(hm, .inr (12, [.ref ms, .ref mkp, .int (nI 0), .ref mtr, .int (nI 4), .int (nI 2), .int (nI 2), .int (nI 3), .int (nI 2), .int (nI 1), .ref mas, .int (nI 0), .int (nI 0), .int (nI 0), .ref mso, .ref mon, .ref mot, .ref man, .int (nI 0), .int (nI 0), .ref mst, .ref msm, .ref mtb, .ref mti, .ref mfr, .ref mbn, .ref mbs, .ref mde, .int (nI 0), .int (nI 0), .int (nI 0), .int (nI 0), .long 0, .long 1, .ref maa, .ref mab, .ref mba, .ref mbb])), (maa, .inl (cs 1, 9, .inr (.inl (lt4 0 0 1 1)))), (mab, .inl (cs 1, 9, .inr (.inl (lt4 1 1 2 1)))), (mba, .inl (cs 1, 9, .inr (.inl (lt4 0 4 5 4)))), (mbb, .inl (cs 1, 9, .inr (.inl (lt4 1 1 1 1))))] := hD
  refine lv_aload_n hx hb dX12_goesDown_10 rfl (lv_at hl 0 rfl) ?_
  refine xget C hP 0 rfl rfl zuX12 4 (by decide) zw5_217 rfl dX12_goesDown_11 ?_
  refine lv_iconst (v := nI 1) hx hb dX12_goesDown_14 (by decide) ?_
  refine lv_isub hx hb dX12_goesDown_15 ?_
  refine lv_topi (nm_r (e' := nI 3) (by decide) ?_)
  refine lv_istore (lv' := [(4, .int (nI 3)), (0, .ref hm), (1, .int (nI 1)), (2, .long 0)]) hx hb dX12_goesDown_16 hl (by decide) rfl ?_
  clear hl
  try clear ls
  intro ls hl
  refine lv_iload hx hb dX12_goesDown_18 (lv_at hl 0 rfl) ?_
  refine lv_iload_n hx hb dX12_goesDown_20 rfl (lv_at hl 2 rfl) ?_
  refine lv_icmp_lt (tgt := 89) hx hb dX12_goesDown_21 (by decide) (fun c => absurd c (by decide)) (fun _ => ?_)
  refine lv_aload_n hx hb dX12_goesDown_24 rfl (lv_at hl 1 rfl) ?_
  refine xget C hP 0 rfl rfl zuX12 31 (by decide) zw6_4 rfl dX12_goesDown_25 ?_
  refine lv_if_ne (tgt := 89) hx hb dX12_goesDown_28 (by decide) (fun c => absurd (by decide) c) (fun _ => ?_)
  refine lv_aload_n hx hb dX12_goesDown_31 rfl (lv_at hl 1 rfl) ?_
  refine lv_aload_n hx hb dX12_goesDown_32 rfl (lv_at hl 1 rfl) ?_
  refine xget C hP 0 rfl rfl zuX12 34 (by decide) zw6_7 rfl dX12_goesDown_33 ?_
  refine lv_iload hx hb dX12_goesDown_36 (lv_at hl 0 rfl) ?_
  refine xlald C hP 1 rfl 3 rfl (by decide) (by decide) dX12_goesDown_38 ?_
  refine lv_topl (nm_r (e' := 1) (by decide) ?_)
  refine lv_aload_n hx hb dX12_goesDown_39 rfl (lv_at hl 1 rfl) ?_
  refine xget C hP 0 rfl rfl zuX12 35 (by decide) zw6_8 rfl dX12_goesDown_40 ?_
  refine lv_iload hx hb dX12_goesDown_43 (lv_at hl 0 rfl) ?_
  refine xlald C hP 2 rfl 3 rfl (by decide) (by decide) dX12_goesDown_45 ?_
  refine lv_topl (nm_r (e' := 1) (by decide) ?_)
  refine lv_aload_n hx hb dX12_goesDown_46 rfl (lv_at hl 1 rfl) ?_
  refine xget C hP 0 rfl rfl zuX12 32 (by decide) zw6_5 rfl dX12_goesDown_47 ?_
  refine lv_aload_n hx hb dX12_goesDown_50 rfl (lv_at hl 1 rfl) ?_
  refine xget C hP 0 rfl rfl zuX12 33 (by decide) zw6_6 rfl dX12_goesDown_51 ?_
  refine xv (wr := [(maa, .inl (cs 1, 9, .inr (.inl (lt4 0 0 1 1)))), (mab, .inl (cs 1, 9, .inr (.inl (lt4 1 1 2 1)))), (mba, .inl (cs 1, 9, .inr (.inl (lt4 0 4 5 4)))), (mbb, .inl (cs 1, 9, .inr (.inl (lt4 1 1 1 1))))]) (xV (As := [.long 1, .long 1, .long 0, .long 1]) (rest := []) C (c_X12_multiplies l D cs hm ms mkp mtr mas mso mon mot man mst msm mtb mti mfr mbn mbs mde maa mab mba mbb 0 1 1 1 0 1 0 1 0 1 (by decide +kernel) (by decide +kernel) (by decide +kernel)) kX12_286 hP hD [0] rfl (by decide +kernel) 0 rfl rfl rfl ⟨Nat.le_of_ble_eq_true rfl, Nat.le_of_ble_eq_true rfl⟩ rfl hl.1 rfl (Nat.le_of_ble_eq_true rfl) dX12_goesDown_54 ⟨Nat.le_of_ble_eq_true rfl, Nat.le_of_ble_eq_true rfl⟩) hP hD hS hA [0] [1, 2, 3, 4] rfl rfl (by decide +kernel) (by decide +kernel) ?_
  clear hP hD hS
  try clear locs
  try clear H
  intro u_2 H locs hw_r_1 hP hD hS
  refine W.widen (k := 0) (n := 0) (Nat.le_of_ble_eq_true rfl) (Nat.le_of_ble_eq_true rfl) ?_
  replace hP : va_P D vwCl [(maa, .inl (cs 1, 9, .inr (.inl (lt4 0 0 1 1)))), (mab, .inl (cs 1, 9, .inr (.inl (lt4 1 1 2 1)))), (mba, .inl (cs 1, 9, .inr (.inl (lt4 0 4 5 4)))), (mbb, .inl (cs 1, 9, .inr (.inl (lt4 1 1 1 1)))), (hm, .inr (12, [.ref ms, .ref mkp, .int (nI 0), .ref mtr, .int (nI 4), .int (nI 2), .int (nI 2), .int (nI 3), .int (nI 2), .int (nI 1), .ref mas, .int (nI 0), .int (nI 0), .int (nI 0), .ref mso, .ref mon, .ref mot, .ref man, .int (nI 0), .int (nI 0), .ref mst, .ref msm, .ref mtb, .ref mti, .ref mfr, .ref mbn, .ref mbs, .ref mde, .int (nI 0), .int (nI 0), .int (nI 0), .int (nI 0), .long 0, .long 1, .ref maa, .ref mab, .ref mba, .ref mbb]))] H := hP
  replace hD : va_D A [(maa, .inl (cs 1, 9, .inr (.inl (lt4 0 0 1 1)))), (mab, .inl (cs 1, 9, .inr (.inl (lt4 1 1 2 1)))), (mba, .inl (cs 1, 9, .inr (.inl (lt4 0 4 5 4)))), (mbb, .inl (cs 1, 9, .inr (.inl (lt4 1 1 1 1)))), (hm, .inr (12, [.ref ms, .ref mkp, .int (nI 0), .ref mtr, .int (nI 4), .int (nI 2), .int (nI 2), .int (nI 3), .int (nI 2), .int (nI 1), .ref mas, .int (nI 0), .int (nI 0), .int (nI 0), .ref mso, .ref mon, .ref mot, .ref man, .int (nI 0), .int (nI 0), .ref mst, .ref msm, .ref mtb, .ref mti, .ref mfr, .ref mbn, .ref mbs, .ref mde, .int (nI 0), .int (nI 0), .int (nI 0), .int (nI 0), .long 0, .long 1, .ref maa, .ref mab, .ref mba, .ref mbb]))] := hD
  refine lv_aload_n hx hb dX12_goesDown_57 rfl (lv_at hl 1 rfl) ?_
  refine lv_aload_n hx hb dX12_goesDown_58 rfl (lv_at hl 1 rfl) ?_
  refine xget C hP 4 rfl rfl zuX12 32 (by decide) zw6_5 rfl dX12_goesDown_59 ?_
  refine lv_aload_n hx hb dX12_goesDown_62 rfl (lv_at hl 1 rfl) ?_
  refine xget C hP 4 rfl rfl zuX12 33 (by decide) zw6_6 rfl dX12_goesDown_63 ?_
  refine lv_aload_n hx hb dX12_goesDown_66 rfl (lv_at hl 1 rfl) ?_
  refine xget C hP 4 rfl rfl zuX12 36 (by decide) zw6_9 rfl dX12_goesDown_67 ?_
  refine lv_iload hx hb dX12_goesDown_70 (lv_at hl 0 rfl) ?_
  refine xlald C hP 2 rfl 3 rfl (by decide) (by decide) dX12_goesDown_72 ?_
  refine lv_topl (nm_r (e' := 4) (by decide) ?_)
  refine lv_aload_n hx hb dX12_goesDown_73 rfl (lv_at hl 1 rfl) ?_
  refine xget C hP 4 rfl rfl zuX12 37 (by decide) zw6_10 rfl dX12_goesDown_74 ?_
  refine lv_iload hx hb dX12_goesDown_77 (lv_at hl 0 rfl) ?_
  refine xlald C hP 3 rfl 3 rfl (by decide) (by decide) dX12_goesDown_79 ?_
  refine lv_topl (nm_r (e' := 1) (by decide) ?_)
  refine xv (wr := [(maa, .inl (cs 1, 9, .inr (.inl (lt4 0 0 1 1)))), (mab, .inl (cs 1, 9, .inr (.inl (lt4 1 1 2 1)))), (mba, .inl (cs 1, 9, .inr (.inl (lt4 0 4 5 4)))), (mbb, .inl (cs 1, 9, .inr (.inl (lt4 1 1 1 1))))]) (xV (As := [.long 0, .long 1, .long 4, .long 1]) (rest := []) C (c_X12_adds l D cs hm ms mkp mtr mas mso mon mot man mst msm mtb mti mfr mbn mbs mde maa mab mba mbb 0 1 0 1 4 1 0 4 4 1 4 1 (by decide +kernel) (by decide +kernel) (by decide +kernel) (by decide +kernel) (by decide +kernel) (by decide +kernel)) kX12_296 hP hD [4] rfl (by decide +kernel) 0 rfl rfl rfl ⟨Nat.le_of_ble_eq_true rfl, Nat.le_of_ble_eq_true rfl⟩ rfl hl.1 rfl (Nat.le_of_ble_eq_true rfl) dX12_goesDown_80 ⟨Nat.le_of_ble_eq_true rfl, Nat.le_of_ble_eq_true rfl⟩) hP hD hS hA [4] [0, 1, 2, 3] rfl rfl (by decide +kernel) (by decide +kernel) ?_
  clear hP hD hS
  try clear locs
  try clear H
  intro u_4 H locs hw_r_3 hP hD hS
  refine W.widen (k := 0) (n := 0) (Nat.le_of_ble_eq_true rfl) (Nat.le_of_ble_eq_true rfl) ?_
  replace hP : va_P D vwCl [(maa, .inl (cs 1, 9, .inr (.inl (lt4 0 0 1 1)))), (mab, .inl (cs 1, 9, .inr (.inl (lt4 1 1 2 1)))), (mba, .inl (cs 1, 9, .inr (.inl (lt4 0 4 5 4)))), (mbb, .inl (cs 1, 9, .inr (.inl (lt4 1 1 1 1)))), (hm, .inr (12, [.ref ms, .ref mkp, .int (nI 0), .ref mtr, .int (nI 4), .int (nI 2), .int (nI 2), .int (nI 3), .int (nI 2), .int (nI 1), .ref mas, .int (nI 0), .int (nI 0), .int (nI 0), .ref mso, .ref mon, .ref mot, .ref man, .int (nI 0), .int (nI 0), .ref mst, .ref msm, .ref mtb, .ref mti, .ref mfr, .ref mbn, .ref mbs, .ref mde, .int (nI 0), .int (nI 0), .int (nI 0), .int (nI 0), .long 4, .long 1, .ref maa, .ref mab, .ref mba, .ref mbb]))] H := hP
  replace hD : va_D A [(maa, .inl (cs 1, 9, .inr (.inl (lt4 0 0 1 1)))), (mab, .inl (cs 1, 9, .inr (.inl (lt4 1 1 2 1)))), (mba, .inl (cs 1, 9, .inr (.inl (lt4 0 4 5 4)))), (mbb, .inl (cs 1, 9, .inr (.inl (lt4 1 1 1 1)))), (hm, .inr (12, [.ref ms, .ref mkp, .int (nI 0), .ref mtr, .int (nI 4), .int (nI 2), .int (nI 2), .int (nI 3), .int (nI 2), .int (nI 1), .ref mas, .int (nI 0), .int (nI 0), .int (nI 0), .ref mso, .ref mon, .ref mot, .ref man, .int (nI 0), .int (nI 0), .ref mst, .ref msm, .ref mtb, .ref mti, .ref mfr, .ref mbn, .ref mbs, .ref mde, .int (nI 0), .int (nI 0), .int (nI 0), .int (nI 0), .long 4, .long 1, .ref maa, .ref mab, .ref mba, .ref mbb]))] := hD
  refine lv_iinc (v := nI 2) (lv' := [(4, .int (nI 2)), (0, .ref hm), (1, .int (nI 1)), (2, .long 0)]) hx hb dX12_goesDown_83 hl (k := 0) rfl (by decide) (by decide) rfl ?_
  clear hl
  try clear ls
  intro ls hl
  refine lv_goto (tgt := 18) hx hb dX12_goesDown_86 (by decide) ?_
  refine lv_iload hx hb dX12_goesDown_18 (lv_at hl 0 rfl) ?_
  refine lv_iload_n hx hb dX12_goesDown_20 rfl (lv_at hl 2 rfl) ?_
  refine lv_icmp_lt (tgt := 89) hx hb dX12_goesDown_21 (by decide) (fun c => absurd c (by decide)) (fun _ => ?_)
  refine lv_aload_n hx hb dX12_goesDown_24 rfl (lv_at hl 1 rfl) ?_
  refine xget C hP 4 rfl rfl zuX12 31 (by decide) zw6_4 rfl dX12_goesDown_25 ?_
  refine lv_if_ne (tgt := 89) hx hb dX12_goesDown_28 (by decide) (fun c => absurd (by decide) c) (fun _ => ?_)
  refine lv_aload_n hx hb dX12_goesDown_31 rfl (lv_at hl 1 rfl) ?_
  refine lv_aload_n hx hb dX12_goesDown_32 rfl (lv_at hl 1 rfl) ?_
  refine xget C hP 4 rfl rfl zuX12 34 (by decide) zw6_7 rfl dX12_goesDown_33 ?_
  refine lv_iload hx hb dX12_goesDown_36 (lv_at hl 0 rfl) ?_
  refine xlald C hP 0 rfl 2 rfl (by decide) (by decide) dX12_goesDown_38 ?_
  refine lv_topl (nm_r (e' := 1) (by decide) ?_)
  refine lv_aload_n hx hb dX12_goesDown_39 rfl (lv_at hl 1 rfl) ?_
  refine xget C hP 4 rfl rfl zuX12 35 (by decide) zw6_8 rfl dX12_goesDown_40 ?_
  refine lv_iload hx hb dX12_goesDown_43 (lv_at hl 0 rfl) ?_
  refine xlald C hP 1 rfl 2 rfl (by decide) (by decide) dX12_goesDown_45 ?_
  refine lv_topl (nm_r (e' := 2) (by decide) ?_)
  refine lv_aload_n hx hb dX12_goesDown_46 rfl (lv_at hl 1 rfl) ?_
  refine xget C hP 4 rfl rfl zuX12 32 (by decide) zw6_5 rfl dX12_goesDown_47 ?_
  refine lv_aload_n hx hb dX12_goesDown_50 rfl (lv_at hl 1 rfl) ?_
  refine xget C hP 4 rfl rfl zuX12 33 (by decide) zw6_6 rfl dX12_goesDown_51 ?_
  refine xv (wr := [(maa, .inl (cs 1, 9, .inr (.inl (lt4 0 0 1 1)))), (mab, .inl (cs 1, 9, .inr (.inl (lt4 1 1 2 1)))), (mba, .inl (cs 1, 9, .inr (.inl (lt4 0 4 5 4)))), (mbb, .inl (cs 1, 9, .inr (.inl (lt4 1 1 1 1))))]) (xV (As := [.long 1, .long 2, .long 4, .long 1]) (rest := []) C (c_X12_multiplies l D cs hm ms mkp mtr mas mso mon mot man mst msm mtb mti mfr mbn mbs mde maa mab mba mbb 4 1 1 2 4 1 4 2 2 1 (by decide +kernel) (by decide +kernel) (by decide +kernel)) kX12_286 hP hD [4] rfl (by decide +kernel) 0 rfl rfl rfl ⟨Nat.le_of_ble_eq_true rfl, Nat.le_of_ble_eq_true rfl⟩ rfl hl.1 rfl (Nat.le_of_ble_eq_true rfl) dX12_goesDown_54 ⟨Nat.le_of_ble_eq_true rfl, Nat.le_of_ble_eq_true rfl⟩) hP hD hS hA [4] [0, 1, 2, 3] rfl rfl (by decide +kernel) (by decide +kernel) ?_
  clear hP hD hS
  try clear locs
  try clear H
  intro u_6 H locs hw_r_5 hP hD hS
  refine W.widen (k := 0) (n := 0) (Nat.le_of_ble_eq_true rfl) (Nat.le_of_ble_eq_true rfl) ?_
  replace hP : va_P D vwCl [(maa, .inl (cs 1, 9, .inr (.inl (lt4 0 0 1 1)))), (mab, .inl (cs 1, 9, .inr (.inl (lt4 1 1 2 1)))), (mba, .inl (cs 1, 9, .inr (.inl (lt4 0 4 5 4)))), (mbb, .inl (cs 1, 9, .inr (.inl (lt4 1 1 1 1)))), (hm, .inr (12, [.ref ms, .ref mkp, .int (nI 0), .ref mtr, .int (nI 4), .int (nI 2), .int (nI 2), .int (nI 3), .int (nI 2), .int (nI 1), .ref mas, .int (nI 0), .int (nI 0), .int (nI 0), .ref mso, .ref mon, .ref mot, .ref man, .int (nI 0), .int (nI 0), .ref mst, .ref msm, .ref mtb, .ref mti, .ref mfr, .ref mbn, .ref mbs, .ref mde, .int (nI 0), .int (nI 0), .int (nI 0), .int (nI 0), .long 2, .long 1, .ref maa, .ref mab, .ref mba, .ref mbb]))] H := hP
  replace hD : va_D A [(maa, .inl (cs 1, 9, .inr (.inl (lt4 0 0 1 1)))), (mab, .inl (cs 1, 9, .inr (.inl (lt4 1 1 2 1)))), (mba, .inl (cs 1, 9, .inr (.inl (lt4 0 4 5 4)))), (mbb, .inl (cs 1, 9, .inr (.inl (lt4 1 1 1 1)))), (hm, .inr (12, [.ref ms, .ref mkp, .int (nI 0), .ref mtr, .int (nI 4), .int (nI 2), .int (nI 2), .int (nI 3), .int (nI 2), .int (nI 1), .ref mas, .int (nI 0), .int (nI 0), .int (nI 0), .ref mso, .ref mon, .ref mot, .ref man, .int (nI 0), .int (nI 0), .ref mst, .ref msm, .ref mtb, .ref mti, .ref mfr, .ref mbn, .ref mbs, .ref mde, .int (nI 0), .int (nI 0), .int (nI 0), .int (nI 0), .long 2, .long 1, .ref maa, .ref mab, .ref mba, .ref mbb]))] := hD
  refine lv_aload_n hx hb dX12_goesDown_57 rfl (lv_at hl 1 rfl) ?_
  refine lv_aload_n hx hb dX12_goesDown_58 rfl (lv_at hl 1 rfl) ?_
  refine xget C hP 4 rfl rfl zuX12 32 (by decide) zw6_5 rfl dX12_goesDown_59 ?_
  refine lv_aload_n hx hb dX12_goesDown_62 rfl (lv_at hl 1 rfl) ?_
  refine xget C hP 4 rfl rfl zuX12 33 (by decide) zw6_6 rfl dX12_goesDown_63 ?_
  refine lv_aload_n hx hb dX12_goesDown_66 rfl (lv_at hl 1 rfl) ?_
  refine xget C hP 4 rfl rfl zuX12 36 (by decide) zw6_9 rfl dX12_goesDown_67 ?_
  refine lv_iload hx hb dX12_goesDown_70 (lv_at hl 0 rfl) ?_
  refine xlald C hP 2 rfl 2 rfl (by decide) (by decide) dX12_goesDown_72 ?_
  refine lv_topl (nm_r (e' := 5) (by decide) ?_)
  refine lv_aload_n hx hb dX12_goesDown_73 rfl (lv_at hl 1 rfl) ?_
  refine xget C hP 4 rfl rfl zuX12 37 (by decide) zw6_10 rfl dX12_goesDown_74 ?_
  refine lv_iload hx hb dX12_goesDown_77 (lv_at hl 0 rfl) ?_
  refine xlald C hP 3 rfl 2 rfl (by decide) (by decide) dX12_goesDown_79 ?_
  refine lv_topl (nm_r (e' := 1) (by decide) ?_)
  refine xv (wr := [(maa, .inl (cs 1, 9, .inr (.inl (lt4 0 0 1 1)))), (mab, .inl (cs 1, 9, .inr (.inl (lt4 1 1 2 1)))), (mba, .inl (cs 1, 9, .inr (.inl (lt4 0 4 5 4)))), (mbb, .inl (cs 1, 9, .inr (.inl (lt4 1 1 1 1))))]) (xV (As := [.long 2, .long 1, .long 5, .long 1]) (rest := []) C (c_X12_adds l D cs hm ms mkp mtr mas mso mon mot man mst msm mtb mti mfr mbn mbs mde maa mab mba mbb 2 1 2 1 5 1 2 5 7 1 7 1 (by decide +kernel) (by decide +kernel) (by decide +kernel) (by decide +kernel) (by decide +kernel) (by decide +kernel)) kX12_296 hP hD [4] rfl (by decide +kernel) 0 rfl rfl rfl ⟨Nat.le_of_ble_eq_true rfl, Nat.le_of_ble_eq_true rfl⟩ rfl hl.1 rfl (Nat.le_of_ble_eq_true rfl) dX12_goesDown_80 ⟨Nat.le_of_ble_eq_true rfl, Nat.le_of_ble_eq_true rfl⟩) hP hD hS hA [4] [0, 1, 2, 3] rfl rfl (by decide +kernel) (by decide +kernel) ?_
  clear hP hD hS
  try clear locs
  try clear H
  intro u_8 H locs hw_r_7 hP hD hS
  refine W.widen (k := 0) (n := 0) (Nat.le_of_ble_eq_true rfl) (Nat.le_of_ble_eq_true rfl) ?_
  replace hP : va_P D vwCl [(maa, .inl (cs 1, 9, .inr (.inl (lt4 0 0 1 1)))), (mab, .inl (cs 1, 9, .inr (.inl (lt4 1 1 2 1)))), (mba, .inl (cs 1, 9, .inr (.inl (lt4 0 4 5 4)))), (mbb, .inl (cs 1, 9, .inr (.inl (lt4 1 1 1 1)))), (hm, .inr (12, [.ref ms, .ref mkp, .int (nI 0), .ref mtr, .int (nI 4), .int (nI 2), .int (nI 2), .int (nI 3), .int (nI 2), .int (nI 1), .ref mas, .int (nI 0), .int (nI 0), .int (nI 0), .ref mso, .ref mon, .ref mot, .ref man, .int (nI 0), .int (nI 0), .ref mst, .ref msm, .ref mtb, .ref mti, .ref mfr, .ref mbn, .ref mbs, .ref mde, .int (nI 0), .int (nI 0), .int (nI 0), .int (nI 0), .long 7, .long 1, .ref maa, .ref mab, .ref mba, .ref mbb]))] H := hP
  replace hD : va_D A [(maa, .inl (cs 1, 9, .inr (.inl (lt4 0 0 1 1)))), (mab, .inl (cs 1, 9, .inr (.inl (lt4 1 1 2 1)))), (mba, .inl (cs 1, 9, .inr (.inl (lt4 0 4 5 4)))), (mbb, .inl (cs 1, 9, .inr (.inl (lt4 1 1 1 1)))), (hm, .inr (12, [.ref ms, .ref mkp, .int (nI 0), .ref mtr, .int (nI 4), .int (nI 2), .int (nI 2), .int (nI 3), .int (nI 2), .int (nI 1), .ref mas, .int (nI 0), .int (nI 0), .int (nI 0), .ref mso, .ref mon, .ref mot, .ref man, .int (nI 0), .int (nI 0), .ref mst, .ref msm, .ref mtb, .ref mti, .ref mfr, .ref mbn, .ref mbs, .ref mde, .int (nI 0), .int (nI 0), .int (nI 0), .int (nI 0), .long 7, .long 1, .ref maa, .ref mab, .ref mba, .ref mbb]))] := hD
  refine lv_iinc (v := nI 1) (lv' := [(4, .int (nI 1)), (0, .ref hm), (1, .int (nI 1)), (2, .long 0)]) hx hb dX12_goesDown_83 hl (k := 0) rfl (by decide) (by decide) rfl ?_
  clear hl
  try clear ls
  intro ls hl
  refine lv_goto (tgt := 18) hx hb dX12_goesDown_86 (by decide) ?_
  refine lv_iload hx hb dX12_goesDown_18 (lv_at hl 0 rfl) ?_
  refine lv_iload_n hx hb dX12_goesDown_20 rfl (lv_at hl 2 rfl) ?_
  refine lv_icmp_lt (tgt := 89) hx hb dX12_goesDown_21 (by decide) (fun c => absurd c (by decide)) (fun _ => ?_)
  refine lv_aload_n hx hb dX12_goesDown_24 rfl (lv_at hl 1 rfl) ?_
  refine xget C hP 4 rfl rfl zuX12 31 (by decide) zw6_4 rfl dX12_goesDown_25 ?_
  refine lv_if_ne (tgt := 89) hx hb dX12_goesDown_28 (by decide) (fun c => absurd (by decide) c) (fun _ => ?_)
  refine lv_aload_n hx hb dX12_goesDown_31 rfl (lv_at hl 1 rfl) ?_
  refine lv_aload_n hx hb dX12_goesDown_32 rfl (lv_at hl 1 rfl) ?_
  refine xget C hP 4 rfl rfl zuX12 34 (by decide) zw6_7 rfl dX12_goesDown_33 ?_
  refine lv_iload hx hb dX12_goesDown_36 (lv_at hl 0 rfl) ?_
  refine xlald C hP 0 rfl 1 rfl (by decide) (by decide) dX12_goesDown_38 ?_
  refine lv_topl (nm_r (e' := 0) (by decide) ?_)
  refine lv_aload_n hx hb dX12_goesDown_39 rfl (lv_at hl 1 rfl) ?_
  refine xget C hP 4 rfl rfl zuX12 35 (by decide) zw6_8 rfl dX12_goesDown_40 ?_
  refine lv_iload hx hb dX12_goesDown_43 (lv_at hl 0 rfl) ?_
  refine xlald C hP 1 rfl 1 rfl (by decide) (by decide) dX12_goesDown_45 ?_
  refine lv_topl (nm_r (e' := 1) (by decide) ?_)
  refine lv_aload_n hx hb dX12_goesDown_46 rfl (lv_at hl 1 rfl) ?_
  refine xget C hP 4 rfl rfl zuX12 32 (by decide) zw6_5 rfl dX12_goesDown_47 ?_
  refine lv_aload_n hx hb dX12_goesDown_50 rfl (lv_at hl 1 rfl) ?_
  refine xget C hP 4 rfl rfl zuX12 33 (by decide) zw6_6 rfl dX12_goesDown_51 ?_
  refine xv (wr := [(maa, .inl (cs 1, 9, .inr (.inl (lt4 0 0 1 1)))), (mab, .inl (cs 1, 9, .inr (.inl (lt4 1 1 2 1)))), (mba, .inl (cs 1, 9, .inr (.inl (lt4 0 4 5 4)))), (mbb, .inl (cs 1, 9, .inr (.inl (lt4 1 1 1 1))))]) (xV (As := [.long 0, .long 1, .long 7, .long 1]) (rest := []) C (c_X12_multiplies l D cs hm ms mkp mtr mas mso mon mot man mst msm mtb mti mfr mbn mbs mde maa mab mba mbb 7 1 0 1 7 1 0 1 0 1 (by decide +kernel) (by decide +kernel) (by decide +kernel)) kX12_286 hP hD [4] rfl (by decide +kernel) 0 rfl rfl rfl ⟨Nat.le_of_ble_eq_true rfl, Nat.le_of_ble_eq_true rfl⟩ rfl hl.1 rfl (Nat.le_of_ble_eq_true rfl) dX12_goesDown_54 ⟨Nat.le_of_ble_eq_true rfl, Nat.le_of_ble_eq_true rfl⟩) hP hD hS hA [4] [0, 1, 2, 3] rfl rfl (by decide +kernel) (by decide +kernel) ?_
  clear hP hD hS
  try clear locs
  try clear H
  intro u_10 H locs hw_r_9 hP hD hS
  refine W.widen (k := 0) (n := 0) (Nat.le_of_ble_eq_true rfl) (Nat.le_of_ble_eq_true rfl) ?_
  replace hP : va_P D vwCl [(maa, .inl (cs 1, 9, .inr (.inl (lt4 0 0 1 1)))), (mab, .inl (cs 1, 9, .inr (.inl (lt4 1 1 2 1)))), (mba, .inl (cs 1, 9, .inr (.inl (lt4 0 4 5 4)))), (mbb, .inl (cs 1, 9, .inr (.inl (lt4 1 1 1 1)))), (hm, .inr (12, [.ref ms, .ref mkp, .int (nI 0), .ref mtr, .int (nI 4), .int (nI 2), .int (nI 2), .int (nI 3), .int (nI 2), .int (nI 1), .ref mas, .int (nI 0), .int (nI 0), .int (nI 0), .ref mso, .ref mon, .ref mot, .ref man, .int (nI 0), .int (nI 0), .ref mst, .ref msm, .ref mtb, .ref mti, .ref mfr, .ref mbn, .ref mbs, .ref mde, .int (nI 0), .int (nI 0), .int (nI 0), .int (nI 0), .long 0, .long 1, .ref maa, .ref mab, .ref mba, .ref mbb]))] H := hP
  replace hD : va_D A [(maa, .inl (cs 1, 9, .inr (.inl (lt4 0 0 1 1)))), (mab, .inl (cs 1, 9, .inr (.inl (lt4 1 1 2 1)))), (mba, .inl (cs 1, 9, .inr (.inl (lt4 0 4 5 4)))), (mbb, .inl (cs 1, 9, .inr (.inl (lt4 1 1 1 1)))), (hm, .inr (12, [.ref ms, .ref mkp, .int (nI 0), .ref mtr, .int (nI 4), .int (nI 2), .int (nI 2), .int (nI 3), .int (nI 2), .int (nI 1), .ref mas, .int (nI 0), .int (nI 0), .int (nI 0), .ref mso, .ref mon, .ref mot, .ref man, .int (nI 0), .int (nI 0), .ref mst, .ref msm, .ref mtb, .ref mti, .ref mfr, .ref mbn, .ref mbs, .ref mde, .int (nI 0), .int (nI 0), .int (nI 0), .int (nI 0), .long 0, .long 1, .ref maa, .ref mab, .ref mba, .ref mbb]))] := hD
  refine lv_aload_n hx hb dX12_goesDown_57 rfl (lv_at hl 1 rfl) ?_
  refine lv_aload_n hx hb dX12_goesDown_58 rfl (lv_at hl 1 rfl) ?_
  refine xget C hP 4 rfl rfl zuX12 32 (by decide) zw6_5 rfl dX12_goesDown_59 ?_
  refine lv_aload_n hx hb dX12_goesDown_62 rfl (lv_at hl 1 rfl) ?_
  refine xget C hP 4 rfl rfl zuX12 33 (by decide) zw6_6 rfl dX12_goesDown_63 ?_
  refine lv_aload_n hx hb dX12_goesDown_66 rfl (lv_at hl 1 rfl) ?_
  refine xget C hP 4 rfl rfl zuX12 36 (by decide) zw6_9 rfl dX12_goesDown_67 ?_
  refine lv_iload hx hb dX12_goesDown_70 (lv_at hl 0 rfl) ?_
  refine xlald C hP 2 rfl 1 rfl (by decide) (by decide) dX12_goesDown_72 ?_
  refine lv_topl (nm_r (e' := 4) (by decide) ?_)
  refine lv_aload_n hx hb dX12_goesDown_73 rfl (lv_at hl 1 rfl) ?_
  refine xget C hP 4 rfl rfl zuX12 37 (by decide) zw6_10 rfl dX12_goesDown_74 ?_
  refine lv_iload hx hb dX12_goesDown_77 (lv_at hl 0 rfl) ?_
  refine xlald C hP 3 rfl 1 rfl (by decide) (by decide) dX12_goesDown_79 ?_
  refine lv_topl (nm_r (e' := 1) (by decide) ?_)
  refine xv (wr := [(maa, .inl (cs 1, 9, .inr (.inl (lt4 0 0 1 1)))), (mab, .inl (cs 1, 9, .inr (.inl (lt4 1 1 2 1)))), (mba, .inl (cs 1, 9, .inr (.inl (lt4 0 4 5 4)))), (mbb, .inl (cs 1, 9, .inr (.inl (lt4 1 1 1 1))))]) (xV (As := [.long 0, .long 1, .long 4, .long 1]) (rest := []) C (c_X12_adds l D cs hm ms mkp mtr mas mso mon mot man mst msm mtb mti mfr mbn mbs mde maa mab mba mbb 0 1 0 1 4 1 0 4 4 1 4 1 (by decide +kernel) (by decide +kernel) (by decide +kernel) (by decide +kernel) (by decide +kernel) (by decide +kernel)) kX12_296 hP hD [4] rfl (by decide +kernel) 0 rfl rfl rfl ⟨Nat.le_of_ble_eq_true rfl, Nat.le_of_ble_eq_true rfl⟩ rfl hl.1 rfl (Nat.le_of_ble_eq_true rfl) dX12_goesDown_80 ⟨Nat.le_of_ble_eq_true rfl, Nat.le_of_ble_eq_true rfl⟩) hP hD hS hA [4] [0, 1, 2, 3] rfl rfl (by decide +kernel) (by decide +kernel) ?_
  clear hP hD hS
  try clear locs
  try clear H
  intro u_12 H locs hw_r_11 hP hD hS
  refine W.widen (k := 0) (n := 0) (Nat.le_of_ble_eq_true rfl) (Nat.le_of_ble_eq_true rfl) ?_
  replace hP : va_P D vwCl [(maa, .inl (cs 1, 9, .inr (.inl (lt4 0 0 1 1)))), (mab, .inl (cs 1, 9, .inr (.inl (lt4 1 1 2 1)))), (mba, .inl (cs 1, 9, .inr (.inl (lt4 0 4 5 4)))), (mbb, .inl (cs 1, 9, .inr (.inl (lt4 1 1 1 1)))), (hm, .inr (12, [.ref ms, .ref mkp, .int (nI 0), .ref mtr, .int (nI 4), .int (nI 2), .int (nI 2), .int (nI 3), .int (nI 2), .int (nI 1), .ref mas, .int (nI 0), .int (nI 0), .int (nI 0), .ref mso, .ref mon, .ref mot, .ref man, .int (nI 0), .int (nI 0), .ref mst, .ref msm, .ref mtb, .ref mti, .ref mfr, .ref mbn, .ref mbs, .ref mde, .int (nI 0), .int (nI 0), .int (nI 0), .int (nI 0), .long 4, .long 1, .ref maa, .ref mab, .ref mba, .ref mbb]))] H := hP
  replace hD : va_D A [(maa, .inl (cs 1, 9, .inr (.inl (lt4 0 0 1 1)))), (mab, .inl (cs 1, 9, .inr (.inl (lt4 1 1 2 1)))), (mba, .inl (cs 1, 9, .inr (.inl (lt4 0 4 5 4)))), (mbb, .inl (cs 1, 9, .inr (.inl (lt4 1 1 1 1)))), (hm, .inr (12, [.ref ms, .ref mkp, .int (nI 0), .ref mtr, .int (nI 4), .int (nI 2), .int (nI 2), .int (nI 3), .int (nI 2), .int (nI 1), .ref mas, .int (nI 0), .int (nI 0), .int (nI 0), .ref mso, .ref mon, .ref mot, .ref man, .int (nI 0), .int (nI 0), .ref mst, .ref msm, .ref mtb, .ref mti, .ref mfr, .ref mbn, .ref mbs, .ref mde, .int (nI 0), .int (nI 0), .int (nI 0), .int (nI 0), .long 4, .long 1, .ref maa, .ref mab, .ref mba, .ref mbb]))] := hD
  refine lv_iinc (v := nI 0) (lv' := [(4, .int (nI 0)), (0, .ref hm), (1, .int (nI 1)), (2, .long 0)]) hx hb dX12_goesDown_83 hl (k := 0) rfl (by decide) (by decide) rfl ?_
  clear hl
  try clear ls
  intro ls hl
  refine lv_goto (tgt := 18) hx hb dX12_goesDown_86 (by decide) ?_
  refine lv_iload hx hb dX12_goesDown_18 (lv_at hl 0 rfl) ?_
  refine lv_iload_n hx hb dX12_goesDown_20 rfl (lv_at hl 2 rfl) ?_
  refine lv_icmp_lt (tgt := 89) hx hb dX12_goesDown_21 (by decide) (fun _ => ?_) (fun c => absurd (by decide) c)
  exact xretv C () trivial (xP_map hP [4, 0, 1, 2, 3] rfl) (hD.sub [4, 0, 1, 2, 3] (by decide +kernel) rfl) hS (Nat.le_of_ble_eq_true rfl) (Nat.le_of_ble_eq_true rfl) dX12_goesDown_89

set_option maxHeartbeats 4000000 in
set_option maxRecDepth 100000 in
theorem c_X12_goesDown_1_2 (l : Launch) (D : va_G) (cs : Nat → ClassId) (hm ms mkp mtr mas mso mon mot man mst msm mtb mti mfr mbn mbs mde maa mab mba mbb : Nat) (ab be : Int64) : xMet l D cs yX12_goesDown cX12_goesDown 5 none ({ frames := 2, cells := 0, slots := 0, locals := 58 } : Room) [.ref hm, .int (nI 2), .long 0] [(hm, .inr (12, [.ref ms, .ref mkp, .int (nI 0), .ref mtr, .int (nI 4), .int (nI 2), .int (nI 2), .int (nI 3), .int (nI 2), .int (nI 1), .ref mas, .int (nI 0), .int (nI 0), .int (nI 0), .ref mso, .ref mon, .ref mot, .ref man, .int (nI 0), .int (nI 0), .ref mst, .ref msm, .ref mtb, .ref mti, .ref mfr, .ref mbn, .ref mbs, .ref mde, .int (nI 0), .int (nI 0), .int (nI 0), .int (nI 0), .long ab, .long be, .ref maa, .ref mab, .ref mba, .ref mbb])), (maa, .inl (cs 1, 9, .inr (.inl (lt4 0 0 1 1)))), (mab, .inl (cs 1, 9, .inr (.inl (lt4 1 1 2 1)))), (mba, .inl (cs 1, 9, .inr (.inl (lt4 0 4 5 4)))), (mbb, .inl (cs 1, 9, .inr (.inl (lt4 1 1 1 1))))] (xQv D (fun (_u : Unit) => True) (fun (_u : Unit) => [(hm, .inr (12, [.ref ms, .ref mkp, .int (nI 0), .ref mtr, .int (nI 4), .int (nI 2), .int (nI 2), .int (nI 3), .int (nI 2), .int (nI 1), .ref mas, .int (nI 0), .int (nI 0), .int (nI 0), .ref mso, .ref mon, .ref mot, .ref man, .int (nI 0), .int (nI 0), .ref mst, .ref msm, .ref mtb, .ref mti, .ref mfr, .ref mbn, .ref mbs, .ref mde, .int (nI 0), .int (nI 0), .int (nI 0), .int (nI 0), .long 7, .long 1, .ref maa, .ref mab, .ref mba, .ref mbb])), (maa, .inl (cs 1, 9, .inr (.inl (lt4 0 0 1 1)))), (mab, .inl (cs 1, 9, .inr (.inl (lt4 1 1 2 1)))), (mba, .inl (cs 1, 9, .inr (.inl (lt4 0 4 5 4)))), (mbb, .inl (cs 1, 9, .inr (.inl (lt4 1 1 1 1))))])) := by
  refine xMet.intro (by decide) (Nat.le_of_ble_eq_true rfl) ?_
  intro p e s m args below meth c A ls C hP hD hS hl
  have hx := C.1
  have hb := C.2.1
  have hz := C.2.2.2.2.1
  have hown := C.2.2.2.1
  have hA := C.2.2.2.2.2.2.2.2.2
  have hAO := C.2.2.2.2.2.2.2.2.1.2.2
  replace hl : lv_has ls 5 [(0, .ref hm), (1, .int (nI 2)), (2, .long 0)] := hl
  obtain ⟨H, hH⟩ : ∃ H, H = s.heap := ⟨_, rfl⟩
  replace hP : va_P D vwCl [(hm, .inr (12, [.ref ms, .ref mkp, .int (nI 0), .ref mtr, .int (nI 4), .int (nI 2), .int (nI 2), .int (nI 3), .int (nI 2), .int (nI 1), .ref mas, .int (nI 0), .int (nI 0), .int (nI 0), .ref mso, .ref mon, .ref mot, .ref man, .int (nI 0), .int (nI 0), .ref mst, .ref msm, .ref mtb, .ref mti, .ref mfr, .ref mbn, .ref mbs, .ref mde, .int (nI 0), .int (nI 0), .int (nI 0), .int (nI 0), .long ab, .long be, .ref maa, .ref mab, .ref mba, .ref mbb])), (maa, .inl (cs 1, 9, .inr (.inl (lt4 0 0 1 1)))), (mab, .inl (cs 1, 9, .inr (.inl (lt4 1 1 2 1)))), (mba, .inl (cs 1, 9, .inr (.inl (lt4 0 4 5 4)))), (mbb, .inl (cs 1, 9, .inr (.inl (lt4 1 1 1 1))))] H := by rw [hH]; exact hP
  replace hS : va_S A s.heap H [] := by rw [hH]; exact hS
  obtain ⟨locs, hlocs⟩ : ∃ z : List Loc, z = [] := ⟨_, rfl⟩
  rw [← hlocs] at hS
  suffices hW : W p l e ({ frames := 2, cells := 0, slots := 0, locals := 58 } : Room) s m args below meth c H locs 0 0 (MQ below ((xQv D (fun (_u : Unit) => True) (fun (_u : Unit) => [(hm, .inr (12, [.ref ms, .ref mkp, .int (nI 0), .ref mtr, .int (nI 4), .int (nI 2), .int (nI 2), .int (nI 3), .int (nI 2), .int (nI 1), .ref mas, .int (nI 0), .int (nI 0), .int (nI 0), .ref mso, .ref mon, .ref mot, .ref man, .int (nI 0), .int (nI 0), .ref mst, .ref msm, .ref mtb, .ref mti, .ref mfr, .ref mbn, .ref mbs, .ref mde, .int (nI 0), .int (nI 0), .int (nI 0), .int (nI 0), .long 7, .long 1, .ref maa, .ref mab, .ref mba, .ref mbb])), (maa, .inl (cs 1, 9, .inr (.inl (lt4 0 0 1 1)))), (mab, .inl (cs 1, 9, .inr (.inl (lt4 1 1 2 1)))), (mba, .inl (cs 1, 9, .inr (.inl (lt4 0 4 5 4)))), (mbb, .inl (cs 1, 9, .inr (.inl (lt4 1 1 1 1))))])) A) args s 0 0 A) (F0 m 0 ls []) by rw [hlocs, hH] at hW; exact hW
  clear hH hlocs
  refine lv_aload_n hx hb dX12_goesDown_0 rfl (lv_at hl 0 rfl) ?_
  refine lv_lload_n hx hb dX12_goesDown_1 rfl (lv_at hl 2 rfl) ?_
  refine xput C hP hD hS 0 rfl rfl zuX12 tyX12 tyX12_ok nmX12 32 (by decide) zw6_5 rfl rfl rfl (Nat.le_of_ble_eq_true rfl) dX12_goesDown_2 ?_
  clear hP hD hS
  try clear locs
  try clear H
  intro H locs hP hD hS
  replace hP : va_P D vwCl [(hm, .inr (12, [.ref ms, .ref mkp, .int (nI 0), .ref mtr, .int (nI 4), .int (nI 2), .int (nI 2), .int (nI 3), .int (nI 2), .int (nI 1), .ref mas, .int (nI 0), .int (nI 0), .int (nI 0), .ref mso, .ref mon, .ref mot, .ref man, .int (nI 0), .int (nI 0), .ref mst, .ref msm, .ref mtb, .ref mti, .ref mfr, .ref mbn, .ref mbs, .ref mde, .int (nI 0), .int (nI 0), .int (nI 0), .int (nI 0), .long 0, .long be, .ref maa, .ref mab, .ref mba, .ref mbb])), (maa, .inl (cs 1, 9, .inr (.inl (lt4 0 0 1 1)))), (mab, .inl (cs 1, 9, .inr (.inl (lt4 1 1 2 1)))), (mba, .inl (cs 1, 9, .inr (.inl (lt4 0 4 5 4)))), (mbb, .inl (cs 1, 9, .inr (.inl (lt4 1 1 1 1))))] H := hP
  replace hD : va_D A [(hm, .inr (12, [.ref ms, .ref mkp, .int (nI 0), .ref mtr, .int (nI 4), .int (nI 2), .int (nI 2), .int (nI 3), .int (nI 2), .int (nI 1), .ref mas, .int (nI 0), .int (nI 0), .int (nI 0), .ref mso, .ref mon, .ref mot, .ref man, .int (nI 0), .int (nI 0), .ref mst, .ref msm, .ref mtb, .ref mti, .ref mfr, .ref mbn, .ref mbs, .ref mde, .int (nI 0), .int (nI 0), .int (nI 0), .int (nI 0), .long 0, .long be, .ref maa, .ref mab, .ref mba, .ref mbb])), (maa, .inl (cs 1, 9, .inr (.inl (lt4 0 0 1 1)))), (mab, .inl (cs 1, 9, .inr (.inl (lt4 1 1 2 1)))), (mba, .inl (cs 1, 9, .inr (.inl (lt4 0 4 5 4)))), (mbb, .inl (cs 1, 9, .inr (.inl (lt4 1 1 1 1))))] := hD
  refine lv_aload_n hx hb dX12_goesDown_5 rfl (lv_at hl 0 rfl) ?_
  refine lv_lconst (v := 1) hx hb dX12_goesDown_6 (by decide) ?_
  refine xput C hP hD hS 0 rfl rfl zuX12 tyX12 tyX12_ok nmX12 33 (by decide) zw6_6 rfl rfl rfl (Nat.le_of_ble_eq_true rfl) dX12_goesDown_7 ?_
  clear hP hD hS
  try clear locs
  try clear H
  intro H locs hP hD hS
  replace hP : va_P D vwCl [(hm, .inr (12, [.ref ms, .ref mkp, .int (nI 0), .ref mtr, .int (nI 4), .int (nI 2), .int (nI 2), .int (nI 3), .int (nI 2), .int (nI 1), .ref mas, .int (nI 0), .int (nI 0), .int (nI 0), .ref mso, .ref mon, .ref mot, .ref man, .int (nI 0), .int (nI 0), .ref mst, .ref msm, .ref mtb, .ref mti, .ref mfr, .ref mbn, .ref mbs, .ref mde, .int (nI 0), .int (nI 0), .int (nI 0), .int (nI 0), .long 0, .long 1, .ref maa, .ref mab, .ref mba, .ref mbb])), (maa, .inl (cs 1, 9, .inr (.inl (lt4 0 0 1 1)))), (mab, .inl (cs 1, 9, .inr (.inl (lt4 1 1 2 1)))), (mba, .inl (cs 1, 9, .inr (.inl (lt4 0 4 5 4)))), (mbb, .inl (cs 1, 9, .inr (.inl (lt4 1 1 1 1))))] H := hP
  replace hD : va_D A [(hm, .inr (12, [.ref ms, .ref mkp, .int (nI 0), .ref mtr, .int (nI 4), .int (nI 2), .int (nI 2), .int (nI 3), .int (nI 2), .int (nI 1), .ref mas, .int (nI 0), .int (nI 0), .int (nI 0), .ref mso, .ref mon, .ref mot, .ref man, .int (nI 0), .int (nI 0), .ref mst, .ref msm, .ref mtb, .ref mti, .ref mfr, .ref mbn, .ref mbs, .ref mde, .int (nI 0), .int (nI 0), .int (nI 0), .int (nI 0), .long 0, .long 1, .ref maa, .ref mab, .ref mba, .ref mbb])), (maa, .inl (cs 1, 9, .inr (.inl (lt4 0 0 1 1)))), (mab, .inl (cs 1, 9, .inr (.inl (lt4 1 1 2 1)))), (mba, .inl (cs 1, 9, .inr (.inl (lt4 0 4 5 4)))), (mbb, .inl (cs 1, 9, .inr (.inl (lt4 1 1 1 1))))] := hD
  refine lv_aload_n hx hb dX12_goesDown_10 rfl (lv_at hl 0 rfl) ?_
  refine xget C hP 0 rfl rfl zuX12 4 (by decide) zw5_217 rfl dX12_goesDown_11 ?_
  refine lv_iconst (v := nI 1) hx hb dX12_goesDown_14 (by decide) ?_
  refine lv_isub hx hb dX12_goesDown_15 ?_
  refine lv_topi (nm_r (e' := nI 3) (by decide) ?_)
  refine lv_istore (lv' := [(4, .int (nI 3)), (0, .ref hm), (1, .int (nI 2)), (2, .long 0)]) hx hb dX12_goesDown_16 hl (by decide) rfl ?_
  clear hl
  try clear ls
  intro ls hl
  refine lv_iload hx hb dX12_goesDown_18 (lv_at hl 0 rfl) ?_
  refine lv_iload_n hx hb dX12_goesDown_20 rfl (lv_at hl 2 rfl) ?_
  refine lv_icmp_lt (tgt := 89) hx hb dX12_goesDown_21 (by decide) (fun c => absurd c (by decide)) (fun _ => ?_)
  refine lv_aload_n hx hb dX12_goesDown_24 rfl (lv_at hl 1 rfl) ?_
  refine xget C hP 0 rfl rfl zuX12 31 (by decide) zw6_4 rfl dX12_goesDown_25 ?_
  refine lv_if_ne (tgt := 89) hx hb dX12_goesDown_28 (by decide) (fun c => absurd (by decide) c) (fun _ => ?_)
  refine lv_aload_n hx hb dX12_goesDown_31 rfl (lv_at hl 1 rfl) ?_
  refine lv_aload_n hx hb dX12_goesDown_32 rfl (lv_at hl 1 rfl) ?_
  refine xget C hP 0 rfl rfl zuX12 34 (by decide) zw6_7 rfl dX12_goesDown_33 ?_
  refine lv_iload hx hb dX12_goesDown_36 (lv_at hl 0 rfl) ?_
  refine xlald C hP 1 rfl 3 rfl (by decide) (by decide) dX12_goesDown_38 ?_
  refine lv_topl (nm_r (e' := 1) (by decide) ?_)
  refine lv_aload_n hx hb dX12_goesDown_39 rfl (lv_at hl 1 rfl) ?_
  refine xget C hP 0 rfl rfl zuX12 35 (by decide) zw6_8 rfl dX12_goesDown_40 ?_
  refine lv_iload hx hb dX12_goesDown_43 (lv_at hl 0 rfl) ?_
  refine xlald C hP 2 rfl 3 rfl (by decide) (by decide) dX12_goesDown_45 ?_
  refine lv_topl (nm_r (e' := 1) (by decide) ?_)
  refine lv_aload_n hx hb dX12_goesDown_46 rfl (lv_at hl 1 rfl) ?_
  refine xget C hP 0 rfl rfl zuX12 32 (by decide) zw6_5 rfl dX12_goesDown_47 ?_
  refine lv_aload_n hx hb dX12_goesDown_50 rfl (lv_at hl 1 rfl) ?_
  refine xget C hP 0 rfl rfl zuX12 33 (by decide) zw6_6 rfl dX12_goesDown_51 ?_
  refine xv (wr := [(maa, .inl (cs 1, 9, .inr (.inl (lt4 0 0 1 1)))), (mab, .inl (cs 1, 9, .inr (.inl (lt4 1 1 2 1)))), (mba, .inl (cs 1, 9, .inr (.inl (lt4 0 4 5 4)))), (mbb, .inl (cs 1, 9, .inr (.inl (lt4 1 1 1 1))))]) (xV (As := [.long 1, .long 1, .long 0, .long 1]) (rest := []) C (c_X12_multiplies l D cs hm ms mkp mtr mas mso mon mot man mst msm mtb mti mfr mbn mbs mde maa mab mba mbb 0 1 1 1 0 1 0 1 0 1 (by decide +kernel) (by decide +kernel) (by decide +kernel)) kX12_286 hP hD [0] rfl (by decide +kernel) 0 rfl rfl rfl ⟨Nat.le_of_ble_eq_true rfl, Nat.le_of_ble_eq_true rfl⟩ rfl hl.1 rfl (Nat.le_of_ble_eq_true rfl) dX12_goesDown_54 ⟨Nat.le_of_ble_eq_true rfl, Nat.le_of_ble_eq_true rfl⟩) hP hD hS hA [0] [1, 2, 3, 4] rfl rfl (by decide +kernel) (by decide +kernel) ?_
  clear hP hD hS
  try clear locs
  try clear H
  intro u_2 H locs hw_r_1 hP hD hS
  refine W.widen (k := 0) (n := 0) (Nat.le_of_ble_eq_true rfl) (Nat.le_of_ble_eq_true rfl) ?_
  replace hP : va_P D vwCl [(maa, .inl (cs 1, 9, .inr (.inl (lt4 0 0 1 1)))), (mab, .inl (cs 1, 9, .inr (.inl (lt4 1 1 2 1)))), (mba, .inl (cs 1, 9, .inr (.inl (lt4 0 4 5 4)))), (mbb, .inl (cs 1, 9, .inr (.inl (lt4 1 1 1 1)))), (hm, .inr (12, [.ref ms, .ref mkp, .int (nI 0), .ref mtr, .int (nI 4), .int (nI 2), .int (nI 2), .int (nI 3), .int (nI 2), .int (nI 1), .ref mas, .int (nI 0), .int (nI 0), .int (nI 0), .ref mso, .ref mon, .ref mot, .ref man, .int (nI 0), .int (nI 0), .ref mst, .ref msm, .ref mtb, .ref mti, .ref mfr, .ref mbn, .ref mbs, .ref mde, .int (nI 0), .int (nI 0), .int (nI 0), .int (nI 0), .long 0, .long 1, .ref maa, .ref mab, .ref mba, .ref mbb]))] H := hP
  replace hD : va_D A [(maa, .inl (cs 1, 9, .inr (.inl (lt4 0 0 1 1)))), (mab, .inl (cs 1, 9, .inr (.inl (lt4 1 1 2 1)))), (mba, .inl (cs 1, 9, .inr (.inl (lt4 0 4 5 4)))), (mbb, .inl (cs 1, 9, .inr (.inl (lt4 1 1 1 1)))), (hm, .inr (12, [.ref ms, .ref mkp, .int (nI 0), .ref mtr, .int (nI 4), .int (nI 2), .int (nI 2), .int (nI 3), .int (nI 2), .int (nI 1), .ref mas, .int (nI 0), .int (nI 0), .int (nI 0), .ref mso, .ref mon, .ref mot, .ref man, .int (nI 0), .int (nI 0), .ref mst, .ref msm, .ref mtb, .ref mti, .ref mfr, .ref mbn, .ref mbs, .ref mde, .int (nI 0), .int (nI 0), .int (nI 0), .int (nI 0), .long 0, .long 1, .ref maa, .ref mab, .ref mba, .ref mbb]))] := hD
  refine lv_aload_n hx hb dX12_goesDown_57 rfl (lv_at hl 1 rfl) ?_
  refine lv_aload_n hx hb dX12_goesDown_58 rfl (lv_at hl 1 rfl) ?_
  refine xget C hP 4 rfl rfl zuX12 32 (by decide) zw6_5 rfl dX12_goesDown_59 ?_
  refine lv_aload_n hx hb dX12_goesDown_62 rfl (lv_at hl 1 rfl) ?_
  refine xget C hP 4 rfl rfl zuX12 33 (by decide) zw6_6 rfl dX12_goesDown_63 ?_
  refine lv_aload_n hx hb dX12_goesDown_66 rfl (lv_at hl 1 rfl) ?_
  refine xget C hP 4 rfl rfl zuX12 36 (by decide) zw6_9 rfl dX12_goesDown_67 ?_
  refine lv_iload hx hb dX12_goesDown_70 (lv_at hl 0 rfl) ?_
  refine xlald C hP 2 rfl 3 rfl (by decide) (by decide) dX12_goesDown_72 ?_
  refine lv_topl (nm_r (e' := 4) (by decide) ?_)
  refine lv_aload_n hx hb dX12_goesDown_73 rfl (lv_at hl 1 rfl) ?_
  refine xget C hP 4 rfl rfl zuX12 37 (by decide) zw6_10 rfl dX12_goesDown_74 ?_
  refine lv_iload hx hb dX12_goesDown_77 (lv_at hl 0 rfl) ?_
  refine xlald C hP 3 rfl 3 rfl (by decide) (by decide) dX12_goesDown_79 ?_
  refine lv_topl (nm_r (e' := 1) (by decide) ?_)
  refine xv (wr := [(maa, .inl (cs 1, 9, .inr (.inl (lt4 0 0 1 1)))), (mab, .inl (cs 1, 9, .inr (.inl (lt4 1 1 2 1)))), (mba, .inl (cs 1, 9, .inr (.inl (lt4 0 4 5 4)))), (mbb, .inl (cs 1, 9, .inr (.inl (lt4 1 1 1 1))))]) (xV (As := [.long 0, .long 1, .long 4, .long 1]) (rest := []) C (c_X12_adds l D cs hm ms mkp mtr mas mso mon mot man mst msm mtb mti mfr mbn mbs mde maa mab mba mbb 0 1 0 1 4 1 0 4 4 1 4 1 (by decide +kernel) (by decide +kernel) (by decide +kernel) (by decide +kernel) (by decide +kernel) (by decide +kernel)) kX12_296 hP hD [4] rfl (by decide +kernel) 0 rfl rfl rfl ⟨Nat.le_of_ble_eq_true rfl, Nat.le_of_ble_eq_true rfl⟩ rfl hl.1 rfl (Nat.le_of_ble_eq_true rfl) dX12_goesDown_80 ⟨Nat.le_of_ble_eq_true rfl, Nat.le_of_ble_eq_true rfl⟩) hP hD hS hA [4] [0, 1, 2, 3] rfl rfl (by decide +kernel) (by decide +kernel) ?_
  clear hP hD hS
  try clear locs
  try clear H
  intro u_4 H locs hw_r_3 hP hD hS
  refine W.widen (k := 0) (n := 0) (Nat.le_of_ble_eq_true rfl) (Nat.le_of_ble_eq_true rfl) ?_
  replace hP : va_P D vwCl [(maa, .inl (cs 1, 9, .inr (.inl (lt4 0 0 1 1)))), (mab, .inl (cs 1, 9, .inr (.inl (lt4 1 1 2 1)))), (mba, .inl (cs 1, 9, .inr (.inl (lt4 0 4 5 4)))), (mbb, .inl (cs 1, 9, .inr (.inl (lt4 1 1 1 1)))), (hm, .inr (12, [.ref ms, .ref mkp, .int (nI 0), .ref mtr, .int (nI 4), .int (nI 2), .int (nI 2), .int (nI 3), .int (nI 2), .int (nI 1), .ref mas, .int (nI 0), .int (nI 0), .int (nI 0), .ref mso, .ref mon, .ref mot, .ref man, .int (nI 0), .int (nI 0), .ref mst, .ref msm, .ref mtb, .ref mti, .ref mfr, .ref mbn, .ref mbs, .ref mde, .int (nI 0), .int (nI 0), .int (nI 0), .int (nI 0), .long 4, .long 1, .ref maa, .ref mab, .ref mba, .ref mbb]))] H := hP
  replace hD : va_D A [(maa, .inl (cs 1, 9, .inr (.inl (lt4 0 0 1 1)))), (mab, .inl (cs 1, 9, .inr (.inl (lt4 1 1 2 1)))), (mba, .inl (cs 1, 9, .inr (.inl (lt4 0 4 5 4)))), (mbb, .inl (cs 1, 9, .inr (.inl (lt4 1 1 1 1)))), (hm, .inr (12, [.ref ms, .ref mkp, .int (nI 0), .ref mtr, .int (nI 4), .int (nI 2), .int (nI 2), .int (nI 3), .int (nI 2), .int (nI 1), .ref mas, .int (nI 0), .int (nI 0), .int (nI 0), .ref mso, .ref mon, .ref mot, .ref man, .int (nI 0), .int (nI 0), .ref mst, .ref msm, .ref mtb, .ref mti, .ref mfr, .ref mbn, .ref mbs, .ref mde, .int (nI 0), .int (nI 0), .int (nI 0), .int (nI 0), .long 4, .long 1, .ref maa, .ref mab, .ref mba, .ref mbb]))] := hD
  refine lv_iinc (v := nI 2) (lv' := [(4, .int (nI 2)), (0, .ref hm), (1, .int (nI 2)), (2, .long 0)]) hx hb dX12_goesDown_83 hl (k := 0) rfl (by decide) (by decide) rfl ?_
  clear hl
  try clear ls
  intro ls hl
  refine lv_goto (tgt := 18) hx hb dX12_goesDown_86 (by decide) ?_
  refine lv_iload hx hb dX12_goesDown_18 (lv_at hl 0 rfl) ?_
  refine lv_iload_n hx hb dX12_goesDown_20 rfl (lv_at hl 2 rfl) ?_
  refine lv_icmp_lt (tgt := 89) hx hb dX12_goesDown_21 (by decide) (fun c => absurd c (by decide)) (fun _ => ?_)
  refine lv_aload_n hx hb dX12_goesDown_24 rfl (lv_at hl 1 rfl) ?_
  refine xget C hP 4 rfl rfl zuX12 31 (by decide) zw6_4 rfl dX12_goesDown_25 ?_
  refine lv_if_ne (tgt := 89) hx hb dX12_goesDown_28 (by decide) (fun c => absurd (by decide) c) (fun _ => ?_)
  refine lv_aload_n hx hb dX12_goesDown_31 rfl (lv_at hl 1 rfl) ?_
  refine lv_aload_n hx hb dX12_goesDown_32 rfl (lv_at hl 1 rfl) ?_
  refine xget C hP 4 rfl rfl zuX12 34 (by decide) zw6_7 rfl dX12_goesDown_33 ?_
  refine lv_iload hx hb dX12_goesDown_36 (lv_at hl 0 rfl) ?_
  refine xlald C hP 0 rfl 2 rfl (by decide) (by decide) dX12_goesDown_38 ?_
  refine lv_topl (nm_r (e' := 1) (by decide) ?_)
  refine lv_aload_n hx hb dX12_goesDown_39 rfl (lv_at hl 1 rfl) ?_
  refine xget C hP 4 rfl rfl zuX12 35 (by decide) zw6_8 rfl dX12_goesDown_40 ?_
  refine lv_iload hx hb dX12_goesDown_43 (lv_at hl 0 rfl) ?_
  refine xlald C hP 1 rfl 2 rfl (by decide) (by decide) dX12_goesDown_45 ?_
  refine lv_topl (nm_r (e' := 2) (by decide) ?_)
  refine lv_aload_n hx hb dX12_goesDown_46 rfl (lv_at hl 1 rfl) ?_
  refine xget C hP 4 rfl rfl zuX12 32 (by decide) zw6_5 rfl dX12_goesDown_47 ?_
  refine lv_aload_n hx hb dX12_goesDown_50 rfl (lv_at hl 1 rfl) ?_
  refine xget C hP 4 rfl rfl zuX12 33 (by decide) zw6_6 rfl dX12_goesDown_51 ?_
  refine xv (wr := [(maa, .inl (cs 1, 9, .inr (.inl (lt4 0 0 1 1)))), (mab, .inl (cs 1, 9, .inr (.inl (lt4 1 1 2 1)))), (mba, .inl (cs 1, 9, .inr (.inl (lt4 0 4 5 4)))), (mbb, .inl (cs 1, 9, .inr (.inl (lt4 1 1 1 1))))]) (xV (As := [.long 1, .long 2, .long 4, .long 1]) (rest := []) C (c_X12_multiplies l D cs hm ms mkp mtr mas mso mon mot man mst msm mtb mti mfr mbn mbs mde maa mab mba mbb 4 1 1 2 4 1 4 2 2 1 (by decide +kernel) (by decide +kernel) (by decide +kernel)) kX12_286 hP hD [4] rfl (by decide +kernel) 0 rfl rfl rfl ⟨Nat.le_of_ble_eq_true rfl, Nat.le_of_ble_eq_true rfl⟩ rfl hl.1 rfl (Nat.le_of_ble_eq_true rfl) dX12_goesDown_54 ⟨Nat.le_of_ble_eq_true rfl, Nat.le_of_ble_eq_true rfl⟩) hP hD hS hA [4] [0, 1, 2, 3] rfl rfl (by decide +kernel) (by decide +kernel) ?_
  clear hP hD hS
  try clear locs
  try clear H
  intro u_6 H locs hw_r_5 hP hD hS
  refine W.widen (k := 0) (n := 0) (Nat.le_of_ble_eq_true rfl) (Nat.le_of_ble_eq_true rfl) ?_
  replace hP : va_P D vwCl [(maa, .inl (cs 1, 9, .inr (.inl (lt4 0 0 1 1)))), (mab, .inl (cs 1, 9, .inr (.inl (lt4 1 1 2 1)))), (mba, .inl (cs 1, 9, .inr (.inl (lt4 0 4 5 4)))), (mbb, .inl (cs 1, 9, .inr (.inl (lt4 1 1 1 1)))), (hm, .inr (12, [.ref ms, .ref mkp, .int (nI 0), .ref mtr, .int (nI 4), .int (nI 2), .int (nI 2), .int (nI 3), .int (nI 2), .int (nI 1), .ref mas, .int (nI 0), .int (nI 0), .int (nI 0), .ref mso, .ref mon, .ref mot, .ref man, .int (nI 0), .int (nI 0), .ref mst, .ref msm, .ref mtb, .ref mti, .ref mfr, .ref mbn, .ref mbs, .ref mde, .int (nI 0), .int (nI 0), .int (nI 0), .int (nI 0), .long 2, .long 1, .ref maa, .ref mab, .ref mba, .ref mbb]))] H := hP
  replace hD : va_D A [(maa, .inl (cs 1, 9, .inr (.inl (lt4 0 0 1 1)))), (mab, .inl (cs 1, 9, .inr (.inl (lt4 1 1 2 1)))), (mba, .inl (cs 1, 9, .inr (.inl (lt4 0 4 5 4)))), (mbb, .inl (cs 1, 9, .inr (.inl (lt4 1 1 1 1)))), (hm, .inr (12, [.ref ms, .ref mkp, .int (nI 0), .ref mtr, .int (nI 4), .int (nI 2), .int (nI 2), .int (nI 3), .int (nI 2), .int (nI 1), .ref mas, .int (nI 0), .int (nI 0), .int (nI 0), .ref mso, .ref mon, .ref mot, .ref man, .int (nI 0), .int (nI 0), .ref mst, .ref msm, .ref mtb, .ref mti, .ref mfr, .ref mbn, .ref mbs, .ref mde, .int (nI 0), .int (nI 0), .int (nI 0), .int (nI 0), .long 2, .long 1, .ref maa, .ref mab, .ref mba, .ref mbb]))] := hD
  refine lv_aload_n hx hb dX12_goesDown_57 rfl (lv_at hl 1 rfl) ?_
  refine lv_aload_n hx hb dX12_goesDown_58 rfl (lv_at hl 1 rfl) ?_
  refine xget C hP 4 rfl rfl zuX12 32 (by decide) zw6_5 rfl dX12_goesDown_59 ?_
  refine lv_aload_n hx hb dX12_goesDown_62 rfl (lv_at hl 1 rfl) ?_
  refine xget C hP 4 rfl rfl zuX12 33 (by decide) zw6_6 rfl dX12_goesDown_63 ?_
  refine lv_aload_n hx hb dX12_goesDown_66 rfl (lv_at hl 1 rfl) ?_
  refine xget C hP 4 rfl rfl zuX12 36 (by decide) zw6_9 rfl dX12_goesDown_67 ?_
  refine lv_iload hx hb dX12_goesDown_70 (lv_at hl 0 rfl) ?_
  refine xlald C hP 2 rfl 2 rfl (by decide) (by decide) dX12_goesDown_72 ?_
  refine lv_topl (nm_r (e' := 5) (by decide) ?_)
  refine lv_aload_n hx hb dX12_goesDown_73 rfl (lv_at hl 1 rfl) ?_
  refine xget C hP 4 rfl rfl zuX12 37 (by decide) zw6_10 rfl dX12_goesDown_74 ?_
  refine lv_iload hx hb dX12_goesDown_77 (lv_at hl 0 rfl) ?_
  refine xlald C hP 3 rfl 2 rfl (by decide) (by decide) dX12_goesDown_79 ?_
  refine lv_topl (nm_r (e' := 1) (by decide) ?_)
  refine xv (wr := [(maa, .inl (cs 1, 9, .inr (.inl (lt4 0 0 1 1)))), (mab, .inl (cs 1, 9, .inr (.inl (lt4 1 1 2 1)))), (mba, .inl (cs 1, 9, .inr (.inl (lt4 0 4 5 4)))), (mbb, .inl (cs 1, 9, .inr (.inl (lt4 1 1 1 1))))]) (xV (As := [.long 2, .long 1, .long 5, .long 1]) (rest := []) C (c_X12_adds l D cs hm ms mkp mtr mas mso mon mot man mst msm mtb mti mfr mbn mbs mde maa mab mba mbb 2 1 2 1 5 1 2 5 7 1 7 1 (by decide +kernel) (by decide +kernel) (by decide +kernel) (by decide +kernel) (by decide +kernel) (by decide +kernel)) kX12_296 hP hD [4] rfl (by decide +kernel) 0 rfl rfl rfl ⟨Nat.le_of_ble_eq_true rfl, Nat.le_of_ble_eq_true rfl⟩ rfl hl.1 rfl (Nat.le_of_ble_eq_true rfl) dX12_goesDown_80 ⟨Nat.le_of_ble_eq_true rfl, Nat.le_of_ble_eq_true rfl⟩) hP hD hS hA [4] [0, 1, 2, 3] rfl rfl (by decide +kernel) (by decide +kernel) ?_
  clear hP hD hS
  try clear locs
  try clear H
  intro u_8 H locs hw_r_7 hP hD hS
  refine W.widen (k := 0) (n := 0) (Nat.le_of_ble_eq_true rfl) (Nat.le_of_ble_eq_true rfl) ?_
  replace hP : va_P D vwCl [(maa, .inl (cs 1, 9, .inr (.inl (lt4 0 0 1 1)))), (mab, .inl (cs 1, 9, .inr (.inl (lt4 1 1 2 1)))), (mba, .inl (cs 1, 9, .inr (.inl (lt4 0 4 5 4)))), (mbb, .inl (cs 1, 9, .inr (.inl (lt4 1 1 1 1)))), (hm, .inr (12, [.ref ms, .ref mkp, .int (nI 0), .ref mtr, .int (nI 4), .int (nI 2), .int (nI 2), .int (nI 3), .int (nI 2), .int (nI 1), .ref mas, .int (nI 0), .int (nI 0), .int (nI 0), .ref mso, .ref mon, .ref mot, .ref man, .int (nI 0), .int (nI 0), .ref mst, .ref msm, .ref mtb, .ref mti, .ref mfr, .ref mbn, .ref mbs, .ref mde, .int (nI 0), .int (nI 0), .int (nI 0), .int (nI 0), .long 7, .long 1, .ref maa, .ref mab, .ref mba, .ref mbb]))] H := hP
  replace hD : va_D A [(maa, .inl (cs 1, 9, .inr (.inl (lt4 0 0 1 1)))), (mab, .inl (cs 1, 9, .inr (.inl (lt4 1 1 2 1)))), (mba, .inl (cs 1, 9, .inr (.inl (lt4 0 4 5 4)))), (mbb, .inl (cs 1, 9, .inr (.inl (lt4 1 1 1 1)))), (hm, .inr (12, [.ref ms, .ref mkp, .int (nI 0), .ref mtr, .int (nI 4), .int (nI 2), .int (nI 2), .int (nI 3), .int (nI 2), .int (nI 1), .ref mas, .int (nI 0), .int (nI 0), .int (nI 0), .ref mso, .ref mon, .ref mot, .ref man, .int (nI 0), .int (nI 0), .ref mst, .ref msm, .ref mtb, .ref mti, .ref mfr, .ref mbn, .ref mbs, .ref mde, .int (nI 0), .int (nI 0), .int (nI 0), .int (nI 0), .long 7, .long 1, .ref maa, .ref mab, .ref mba, .ref mbb]))] := hD
  refine lv_iinc (v := nI 1) (lv' := [(4, .int (nI 1)), (0, .ref hm), (1, .int (nI 2)), (2, .long 0)]) hx hb dX12_goesDown_83 hl (k := 0) rfl (by decide) (by decide) rfl ?_
  clear hl
  try clear ls
  intro ls hl
  refine lv_goto (tgt := 18) hx hb dX12_goesDown_86 (by decide) ?_
  refine lv_iload hx hb dX12_goesDown_18 (lv_at hl 0 rfl) ?_
  refine lv_iload_n hx hb dX12_goesDown_20 rfl (lv_at hl 2 rfl) ?_
  refine lv_icmp_lt (tgt := 89) hx hb dX12_goesDown_21 (by decide) (fun _ => ?_) (fun c => absurd (by decide) c)
  exact xretv C () trivial (xP_map hP [4, 0, 1, 2, 3] rfl) (hD.sub [4, 0, 1, 2, 3] (by decide +kernel) rfl) hS (Nat.le_of_ble_eq_true rfl) (Nat.le_of_ble_eq_true rfl) dX12_goesDown_89

set_option maxHeartbeats 4000000 in
set_option maxRecDepth 100000 in
theorem c_X12_goesDown_1_3 (l : Launch) (D : va_G) (cs : Nat → ClassId) (hm ms mkp mtr mas mso mon mot man mst msm mtb mti mfr mbn mbs mde maa mab mba mbb : Nat) (ab be : Int64) : xMet l D cs yX12_goesDown cX12_goesDown 5 none ({ frames := 2, cells := 0, slots := 0, locals := 58 } : Room) [.ref hm, .int (nI 3), .long 0] [(hm, .inr (12, [.ref ms, .ref mkp, .int (nI 0), .ref mtr, .int (nI 4), .int (nI 2), .int (nI 2), .int (nI 3), .int (nI 2), .int (nI 1), .ref mas, .int (nI 0), .int (nI 0), .int (nI 0), .ref mso, .ref mon, .ref mot, .ref man, .int (nI 0), .int (nI 0), .ref mst, .ref msm, .ref mtb, .ref mti, .ref mfr, .ref mbn, .ref mbs, .ref mde, .int (nI 0), .int (nI 0), .int (nI 0), .int (nI 0), .long ab, .long be, .ref maa, .ref mab, .ref mba, .ref mbb])), (maa, .inl (cs 1, 9, .inr (.inl (lt4 0 0 1 1)))), (mab, .inl (cs 1, 9, .inr (.inl (lt4 1 1 2 1)))), (mba, .inl (cs 1, 9, .inr (.inl (lt4 0 4 5 4)))), (mbb, .inl (cs 1, 9, .inr (.inl (lt4 1 1 1 1))))] (xQv D (fun (_u : Unit) => True) (fun (_u : Unit) => [(hm, .inr (12, [.ref ms, .ref mkp, .int (nI 0), .ref mtr, .int (nI 4), .int (nI 2), .int (nI 2), .int (nI 3), .int (nI 2), .int (nI 1), .ref mas, .int (nI 0), .int (nI 0), .int (nI 0), .ref mso, .ref mon, .ref mot, .ref man, .int (nI 0), .int (nI 0), .ref mst, .ref msm, .ref mtb, .ref mti, .ref mfr, .ref mbn, .ref mbs, .ref mde, .int (nI 0), .int (nI 0), .int (nI 0), .int (nI 0), .long 4, .long 1, .ref maa, .ref mab, .ref mba, .ref mbb])), (maa, .inl (cs 1, 9, .inr (.inl (lt4 0 0 1 1)))), (mab, .inl (cs 1, 9, .inr (.inl (lt4 1 1 2 1)))), (mba, .inl (cs 1, 9, .inr (.inl (lt4 0 4 5 4)))), (mbb, .inl (cs 1, 9, .inr (.inl (lt4 1 1 1 1))))])) := by
  refine xMet.intro (by decide) (Nat.le_of_ble_eq_true rfl) ?_
  intro p e s m args below meth c A ls C hP hD hS hl
  have hx := C.1
  have hb := C.2.1
  have hz := C.2.2.2.2.1
  have hown := C.2.2.2.1
  have hA := C.2.2.2.2.2.2.2.2.2
  have hAO := C.2.2.2.2.2.2.2.2.1.2.2
  replace hl : lv_has ls 5 [(0, .ref hm), (1, .int (nI 3)), (2, .long 0)] := hl
  obtain ⟨H, hH⟩ : ∃ H, H = s.heap := ⟨_, rfl⟩
  replace hP : va_P D vwCl [(hm, .inr (12, [.ref ms, .ref mkp, .int (nI 0), .ref mtr, .int (nI 4), .int (nI 2), .int (nI 2), .int (nI 3), .int (nI 2), .int (nI 1), .ref mas, .int (nI 0), .int (nI 0), .int (nI 0), .ref mso, .ref mon, .ref mot, .ref man, .int (nI 0), .int (nI 0), .ref mst, .ref msm, .ref mtb, .ref mti, .ref mfr, .ref mbn, .ref mbs, .ref mde, .int (nI 0), .int (nI 0), .int (nI 0), .int (nI 0), .long ab, .long be, .ref maa, .ref mab, .ref mba, .ref mbb])), (maa, .inl (cs 1, 9, .inr (.inl (lt4 0 0 1 1)))), (mab, .inl (cs 1, 9, .inr (.inl (lt4 1 1 2 1)))), (mba, .inl (cs 1, 9, .inr (.inl (lt4 0 4 5 4)))), (mbb, .inl (cs 1, 9, .inr (.inl (lt4 1 1 1 1))))] H := by rw [hH]; exact hP
  replace hS : va_S A s.heap H [] := by rw [hH]; exact hS
  obtain ⟨locs, hlocs⟩ : ∃ z : List Loc, z = [] := ⟨_, rfl⟩
  rw [← hlocs] at hS
  suffices hW : W p l e ({ frames := 2, cells := 0, slots := 0, locals := 58 } : Room) s m args below meth c H locs 0 0 (MQ below ((xQv D (fun (_u : Unit) => True) (fun (_u : Unit) => [(hm, .inr (12, [.ref ms, .ref mkp, .int (nI 0), .ref mtr, .int (nI 4), .int (nI 2), .int (nI 2), .int (nI 3), .int (nI 2), .int (nI 1), .ref mas, .int (nI 0), .int (nI 0), .int (nI 0), .ref mso, .ref mon, .ref mot, .ref man, .int (nI 0), .int (nI 0), .ref mst, .ref msm, .ref mtb, .ref mti, .ref mfr, .ref mbn, .ref mbs, .ref mde, .int (nI 0), .int (nI 0), .int (nI 0), .int (nI 0), .long 4, .long 1, .ref maa, .ref mab, .ref mba, .ref mbb])), (maa, .inl (cs 1, 9, .inr (.inl (lt4 0 0 1 1)))), (mab, .inl (cs 1, 9, .inr (.inl (lt4 1 1 2 1)))), (mba, .inl (cs 1, 9, .inr (.inl (lt4 0 4 5 4)))), (mbb, .inl (cs 1, 9, .inr (.inl (lt4 1 1 1 1))))])) A) args s 0 0 A) (F0 m 0 ls []) by rw [hlocs, hH] at hW; exact hW
  clear hH hlocs
  refine lv_aload_n hx hb dX12_goesDown_0 rfl (lv_at hl 0 rfl) ?_
  refine lv_lload_n hx hb dX12_goesDown_1 rfl (lv_at hl 2 rfl) ?_
  refine xput C hP hD hS 0 rfl rfl zuX12 tyX12 tyX12_ok nmX12 32 (by decide) zw6_5 rfl rfl rfl (Nat.le_of_ble_eq_true rfl) dX12_goesDown_2 ?_
  clear hP hD hS
  try clear locs
  try clear H
  intro H locs hP hD hS
  replace hP : va_P D vwCl [(hm, .inr (12, [.ref ms, .ref mkp, .int (nI 0), .ref mtr, .int (nI 4), .int (nI 2), .int (nI 2), .int (nI 3), .int (nI 2), .int (nI 1), .ref mas, .int (nI 0), .int (nI 0), .int (nI 0), .ref mso, .ref mon, .ref mot, .ref man, .int (nI 0), .int (nI 0), .ref mst, .ref msm, .ref mtb, .ref mti, .ref mfr, .ref mbn, .ref mbs, .ref mde, .int (nI 0), .int (nI 0), .int (nI 0), .int (nI 0), .long 0, .long be, .ref maa, .ref mab, .ref mba, .ref mbb])), (maa, .inl (cs 1, 9, .inr (.inl (lt4 0 0 1 1)))), (mab, .inl (cs 1, 9, .inr (.inl (lt4 1 1 2 1)))), (mba, .inl (cs 1, 9, .inr (.inl (lt4 0 4 5 4)))), (mbb, .inl (cs 1, 9, .inr (.inl (lt4 1 1 1 1))))] H := hP
  replace hD : va_D A [(hm, .inr (12, [.ref ms, .ref mkp, .int (nI 0), .ref mtr, .int (nI 4), .int (nI 2), .int (nI 2), .int (nI 3), .int (nI 2), .int (nI 1), .ref mas, .int (nI 0), .int (nI 0), .int (nI 0), .ref mso, .ref mon, .ref mot, .ref man, .int (nI 0), .int (nI 0), .ref mst, .ref msm, .ref mtb, .ref mti, .ref mfr, .ref mbn, .ref mbs, .ref mde, .int (nI 0), .int (nI 0), .int (nI 0), .int (nI 0), .long 0, .long be, .ref maa, .ref mab, .ref mba, .ref mbb])), (maa, .inl (cs 1, 9, .inr (.inl (lt4 0 0 1 1)))), (mab, .inl (cs 1, 9, .inr (.inl (lt4 1 1 2 1)))), (mba, .inl (cs 1, 9, .inr (.inl (lt4 0 4 5 4)))), (mbb, .inl (cs 1, 9, .inr (.inl (lt4 1 1 1 1))))] := hD
  refine lv_aload_n hx hb dX12_goesDown_5 rfl (lv_at hl 0 rfl) ?_
  refine lv_lconst (v := 1) hx hb dX12_goesDown_6 (by decide) ?_
  refine xput C hP hD hS 0 rfl rfl zuX12 tyX12 tyX12_ok nmX12 33 (by decide) zw6_6 rfl rfl rfl (Nat.le_of_ble_eq_true rfl) dX12_goesDown_7 ?_
  clear hP hD hS
  try clear locs
  try clear H
  intro H locs hP hD hS
  replace hP : va_P D vwCl [(hm, .inr (12, [.ref ms, .ref mkp, .int (nI 0), .ref mtr, .int (nI 4), .int (nI 2), .int (nI 2), .int (nI 3), .int (nI 2), .int (nI 1), .ref mas, .int (nI 0), .int (nI 0), .int (nI 0), .ref mso, .ref mon, .ref mot, .ref man, .int (nI 0), .int (nI 0), .ref mst, .ref msm, .ref mtb, .ref mti, .ref mfr, .ref mbn, .ref mbs, .ref mde, .int (nI 0), .int (nI 0), .int (nI 0), .int (nI 0), .long 0, .long 1, .ref maa, .ref mab, .ref mba, .ref mbb])), (maa, .inl (cs 1, 9, .inr (.inl (lt4 0 0 1 1)))), (mab, .inl (cs 1, 9, .inr (.inl (lt4 1 1 2 1)))), (mba, .inl (cs 1, 9, .inr (.inl (lt4 0 4 5 4)))), (mbb, .inl (cs 1, 9, .inr (.inl (lt4 1 1 1 1))))] H := hP
  replace hD : va_D A [(hm, .inr (12, [.ref ms, .ref mkp, .int (nI 0), .ref mtr, .int (nI 4), .int (nI 2), .int (nI 2), .int (nI 3), .int (nI 2), .int (nI 1), .ref mas, .int (nI 0), .int (nI 0), .int (nI 0), .ref mso, .ref mon, .ref mot, .ref man, .int (nI 0), .int (nI 0), .ref mst, .ref msm, .ref mtb, .ref mti, .ref mfr, .ref mbn, .ref mbs, .ref mde, .int (nI 0), .int (nI 0), .int (nI 0), .int (nI 0), .long 0, .long 1, .ref maa, .ref mab, .ref mba, .ref mbb])), (maa, .inl (cs 1, 9, .inr (.inl (lt4 0 0 1 1)))), (mab, .inl (cs 1, 9, .inr (.inl (lt4 1 1 2 1)))), (mba, .inl (cs 1, 9, .inr (.inl (lt4 0 4 5 4)))), (mbb, .inl (cs 1, 9, .inr (.inl (lt4 1 1 1 1))))] := hD
  refine lv_aload_n hx hb dX12_goesDown_10 rfl (lv_at hl 0 rfl) ?_
  refine xget C hP 0 rfl rfl zuX12 4 (by decide) zw5_217 rfl dX12_goesDown_11 ?_
  refine lv_iconst (v := nI 1) hx hb dX12_goesDown_14 (by decide) ?_
  refine lv_isub hx hb dX12_goesDown_15 ?_
  refine lv_topi (nm_r (e' := nI 3) (by decide) ?_)
  refine lv_istore (lv' := [(4, .int (nI 3)), (0, .ref hm), (1, .int (nI 3)), (2, .long 0)]) hx hb dX12_goesDown_16 hl (by decide) rfl ?_
  clear hl
  try clear ls
  intro ls hl
  refine lv_iload hx hb dX12_goesDown_18 (lv_at hl 0 rfl) ?_
  refine lv_iload_n hx hb dX12_goesDown_20 rfl (lv_at hl 2 rfl) ?_
  refine lv_icmp_lt (tgt := 89) hx hb dX12_goesDown_21 (by decide) (fun c => absurd c (by decide)) (fun _ => ?_)
  refine lv_aload_n hx hb dX12_goesDown_24 rfl (lv_at hl 1 rfl) ?_
  refine xget C hP 0 rfl rfl zuX12 31 (by decide) zw6_4 rfl dX12_goesDown_25 ?_
  refine lv_if_ne (tgt := 89) hx hb dX12_goesDown_28 (by decide) (fun c => absurd (by decide) c) (fun _ => ?_)
  refine lv_aload_n hx hb dX12_goesDown_31 rfl (lv_at hl 1 rfl) ?_
  refine lv_aload_n hx hb dX12_goesDown_32 rfl (lv_at hl 1 rfl) ?_
  refine xget C hP 0 rfl rfl zuX12 34 (by decide) zw6_7 rfl dX12_goesDown_33 ?_
  refine lv_iload hx hb dX12_goesDown_36 (lv_at hl 0 rfl) ?_
  refine xlald C hP 1 rfl 3 rfl (by decide) (by decide) dX12_goesDown_38 ?_
  refine lv_topl (nm_r (e' := 1) (by decide) ?_)
  refine lv_aload_n hx hb dX12_goesDown_39 rfl (lv_at hl 1 rfl) ?_
  refine xget C hP 0 rfl rfl zuX12 35 (by decide) zw6_8 rfl dX12_goesDown_40 ?_
  refine lv_iload hx hb dX12_goesDown_43 (lv_at hl 0 rfl) ?_
  refine xlald C hP 2 rfl 3 rfl (by decide) (by decide) dX12_goesDown_45 ?_
  refine lv_topl (nm_r (e' := 1) (by decide) ?_)
  refine lv_aload_n hx hb dX12_goesDown_46 rfl (lv_at hl 1 rfl) ?_
  refine xget C hP 0 rfl rfl zuX12 32 (by decide) zw6_5 rfl dX12_goesDown_47 ?_
  refine lv_aload_n hx hb dX12_goesDown_50 rfl (lv_at hl 1 rfl) ?_
  refine xget C hP 0 rfl rfl zuX12 33 (by decide) zw6_6 rfl dX12_goesDown_51 ?_
  refine xv (wr := [(maa, .inl (cs 1, 9, .inr (.inl (lt4 0 0 1 1)))), (mab, .inl (cs 1, 9, .inr (.inl (lt4 1 1 2 1)))), (mba, .inl (cs 1, 9, .inr (.inl (lt4 0 4 5 4)))), (mbb, .inl (cs 1, 9, .inr (.inl (lt4 1 1 1 1))))]) (xV (As := [.long 1, .long 1, .long 0, .long 1]) (rest := []) C (c_X12_multiplies l D cs hm ms mkp mtr mas mso mon mot man mst msm mtb mti mfr mbn mbs mde maa mab mba mbb 0 1 1 1 0 1 0 1 0 1 (by decide +kernel) (by decide +kernel) (by decide +kernel)) kX12_286 hP hD [0] rfl (by decide +kernel) 0 rfl rfl rfl ⟨Nat.le_of_ble_eq_true rfl, Nat.le_of_ble_eq_true rfl⟩ rfl hl.1 rfl (Nat.le_of_ble_eq_true rfl) dX12_goesDown_54 ⟨Nat.le_of_ble_eq_true rfl, Nat.le_of_ble_eq_true rfl⟩) hP hD hS hA [0] [1, 2, 3, 4] rfl rfl (by decide +kernel) (by decide +kernel) ?_
  clear hP hD hS
  try clear locs
  try clear H
  intro u_2 H locs hw_r_1 hP hD hS
  refine W.widen (k := 0) (n := 0) (Nat.le_of_ble_eq_true rfl) (Nat.le_of_ble_eq_true rfl) ?_
  replace hP : va_P D vwCl [(maa, .inl (cs 1, 9, .inr (.inl (lt4 0 0 1 1)))), (mab, .inl (cs 1, 9, .inr (.inl (lt4 1 1 2 1)))), (mba, .inl (cs 1, 9, .inr (.inl (lt4 0 4 5 4)))), (mbb, .inl (cs 1, 9, .inr (.inl (lt4 1 1 1 1)))), (hm, .inr (12, [.ref ms, .ref mkp, .int (nI 0), .ref mtr, .int (nI 4), .int (nI 2), .int (nI 2), .int (nI 3), .int (nI 2), .int (nI 1), .ref mas, .int (nI 0), .int (nI 0), .int (nI 0), .ref mso, .ref mon, .ref mot, .ref man, .int (nI 0), .int (nI 0), .ref mst, .ref msm, .ref mtb, .ref mti, .ref mfr, .ref mbn, .ref mbs, .ref mde, .int (nI 0), .int (nI 0), .int (nI 0), .int (nI 0), .long 0, .long 1, .ref maa, .ref mab, .ref mba, .ref mbb]))] H := hP
  replace hD : va_D A [(maa, .inl (cs 1, 9, .inr (.inl (lt4 0 0 1 1)))), (mab, .inl (cs 1, 9, .inr (.inl (lt4 1 1 2 1)))), (mba, .inl (cs 1, 9, .inr (.inl (lt4 0 4 5 4)))), (mbb, .inl (cs 1, 9, .inr (.inl (lt4 1 1 1 1)))), (hm, .inr (12, [.ref ms, .ref mkp, .int (nI 0), .ref mtr, .int (nI 4), .int (nI 2), .int (nI 2), .int (nI 3), .int (nI 2), .int (nI 1), .ref mas, .int (nI 0), .int (nI 0), .int (nI 0), .ref mso, .ref mon, .ref mot, .ref man, .int (nI 0), .int (nI 0), .ref mst, .ref msm, .ref mtb, .ref mti, .ref mfr, .ref mbn, .ref mbs, .ref mde, .int (nI 0), .int (nI 0), .int (nI 0), .int (nI 0), .long 0, .long 1, .ref maa, .ref mab, .ref mba, .ref mbb]))] := hD
  refine lv_aload_n hx hb dX12_goesDown_57 rfl (lv_at hl 1 rfl) ?_
  refine lv_aload_n hx hb dX12_goesDown_58 rfl (lv_at hl 1 rfl) ?_
  refine xget C hP 4 rfl rfl zuX12 32 (by decide) zw6_5 rfl dX12_goesDown_59 ?_
  refine lv_aload_n hx hb dX12_goesDown_62 rfl (lv_at hl 1 rfl) ?_
  refine xget C hP 4 rfl rfl zuX12 33 (by decide) zw6_6 rfl dX12_goesDown_63 ?_
  refine lv_aload_n hx hb dX12_goesDown_66 rfl (lv_at hl 1 rfl) ?_
  refine xget C hP 4 rfl rfl zuX12 36 (by decide) zw6_9 rfl dX12_goesDown_67 ?_
  refine lv_iload hx hb dX12_goesDown_70 (lv_at hl 0 rfl) ?_
  refine xlald C hP 2 rfl 3 rfl (by decide) (by decide) dX12_goesDown_72 ?_
  refine lv_topl (nm_r (e' := 4) (by decide) ?_)
  refine lv_aload_n hx hb dX12_goesDown_73 rfl (lv_at hl 1 rfl) ?_
  refine xget C hP 4 rfl rfl zuX12 37 (by decide) zw6_10 rfl dX12_goesDown_74 ?_
  refine lv_iload hx hb dX12_goesDown_77 (lv_at hl 0 rfl) ?_
  refine xlald C hP 3 rfl 3 rfl (by decide) (by decide) dX12_goesDown_79 ?_
  refine lv_topl (nm_r (e' := 1) (by decide) ?_)
  refine xv (wr := [(maa, .inl (cs 1, 9, .inr (.inl (lt4 0 0 1 1)))), (mab, .inl (cs 1, 9, .inr (.inl (lt4 1 1 2 1)))), (mba, .inl (cs 1, 9, .inr (.inl (lt4 0 4 5 4)))), (mbb, .inl (cs 1, 9, .inr (.inl (lt4 1 1 1 1))))]) (xV (As := [.long 0, .long 1, .long 4, .long 1]) (rest := []) C (c_X12_adds l D cs hm ms mkp mtr mas mso mon mot man mst msm mtb mti mfr mbn mbs mde maa mab mba mbb 0 1 0 1 4 1 0 4 4 1 4 1 (by decide +kernel) (by decide +kernel) (by decide +kernel) (by decide +kernel) (by decide +kernel) (by decide +kernel)) kX12_296 hP hD [4] rfl (by decide +kernel) 0 rfl rfl rfl ⟨Nat.le_of_ble_eq_true rfl, Nat.le_of_ble_eq_true rfl⟩ rfl hl.1 rfl (Nat.le_of_ble_eq_true rfl) dX12_goesDown_80 ⟨Nat.le_of_ble_eq_true rfl, Nat.le_of_ble_eq_true rfl⟩) hP hD hS hA [4] [0, 1, 2, 3] rfl rfl (by decide +kernel) (by decide +kernel) ?_
  clear hP hD hS
  try clear locs
  try clear H
  intro u_4 H locs hw_r_3 hP hD hS
  refine W.widen (k := 0) (n := 0) (Nat.le_of_ble_eq_true rfl) (Nat.le_of_ble_eq_true rfl) ?_
  replace hP : va_P D vwCl [(maa, .inl (cs 1, 9, .inr (.inl (lt4 0 0 1 1)))), (mab, .inl (cs 1, 9, .inr (.inl (lt4 1 1 2 1)))), (mba, .inl (cs 1, 9, .inr (.inl (lt4 0 4 5 4)))), (mbb, .inl (cs 1, 9, .inr (.inl (lt4 1 1 1 1)))), (hm, .inr (12, [.ref ms, .ref mkp, .int (nI 0), .ref mtr, .int (nI 4), .int (nI 2), .int (nI 2), .int (nI 3), .int (nI 2), .int (nI 1), .ref mas, .int (nI 0), .int (nI 0), .int (nI 0), .ref mso, .ref mon, .ref mot, .ref man, .int (nI 0), .int (nI 0), .ref mst, .ref msm, .ref mtb, .ref mti, .ref mfr, .ref mbn, .ref mbs, .ref mde, .int (nI 0), .int (nI 0), .int (nI 0), .int (nI 0), .long 4, .long 1, .ref maa, .ref mab, .ref mba, .ref mbb]))] H := hP
  replace hD : va_D A [(maa, .inl (cs 1, 9, .inr (.inl (lt4 0 0 1 1)))), (mab, .inl (cs 1, 9, .inr (.inl (lt4 1 1 2 1)))), (mba, .inl (cs 1, 9, .inr (.inl (lt4 0 4 5 4)))), (mbb, .inl (cs 1, 9, .inr (.inl (lt4 1 1 1 1)))), (hm, .inr (12, [.ref ms, .ref mkp, .int (nI 0), .ref mtr, .int (nI 4), .int (nI 2), .int (nI 2), .int (nI 3), .int (nI 2), .int (nI 1), .ref mas, .int (nI 0), .int (nI 0), .int (nI 0), .ref mso, .ref mon, .ref mot, .ref man, .int (nI 0), .int (nI 0), .ref mst, .ref msm, .ref mtb, .ref mti, .ref mfr, .ref mbn, .ref mbs, .ref mde, .int (nI 0), .int (nI 0), .int (nI 0), .int (nI 0), .long 4, .long 1, .ref maa, .ref mab, .ref mba, .ref mbb]))] := hD
  refine lv_iinc (v := nI 2) (lv' := [(4, .int (nI 2)), (0, .ref hm), (1, .int (nI 3)), (2, .long 0)]) hx hb dX12_goesDown_83 hl (k := 0) rfl (by decide) (by decide) rfl ?_
  clear hl
  try clear ls
  intro ls hl
  refine lv_goto (tgt := 18) hx hb dX12_goesDown_86 (by decide) ?_
  refine lv_iload hx hb dX12_goesDown_18 (lv_at hl 0 rfl) ?_
  refine lv_iload_n hx hb dX12_goesDown_20 rfl (lv_at hl 2 rfl) ?_
  refine lv_icmp_lt (tgt := 89) hx hb dX12_goesDown_21 (by decide) (fun _ => ?_) (fun c => absurd (by decide) c)
  exact xretv C () trivial (xP_map hP [4, 0, 1, 2, 3] rfl) (hD.sub [4, 0, 1, 2, 3] (by decide +kernel) rfl) hS (Nat.le_of_ble_eq_true rfl) (Nat.le_of_ble_eq_true rfl) dX12_goesDown_89

set_option maxHeartbeats 4000000 in
set_option maxRecDepth 100000 in
theorem c_X12_goesDown_1_4 (l : Launch) (D : va_G) (cs : Nat → ClassId) (hm ms mkp mtr mas mso mon mot man mst msm mtb mti mfr mbn mbs mde maa mab mba mbb : Nat) (ab be : Int64) : xMet l D cs yX12_goesDown cX12_goesDown 5 none ({ frames := 0, cells := 0, slots := 0, locals := 0 } : Room) [.ref hm, .int (nI 4), .long 0] [(hm, .inr (12, [.ref ms, .ref mkp, .int (nI 0), .ref mtr, .int (nI 4), .int (nI 2), .int (nI 2), .int (nI 3), .int (nI 2), .int (nI 1), .ref mas, .int (nI 0), .int (nI 0), .int (nI 0), .ref mso, .ref mon, .ref mot, .ref man, .int (nI 0), .int (nI 0), .ref mst, .ref msm, .ref mtb, .ref mti, .ref mfr, .ref mbn, .ref mbs, .ref mde, .int (nI 0), .int (nI 0), .int (nI 0), .int (nI 0), .long ab, .long be, .ref maa, .ref mab, .ref mba, .ref mbb])), (maa, .inl (cs 1, 9, .inr (.inl (lt4 0 0 1 1)))), (mab, .inl (cs 1, 9, .inr (.inl (lt4 1 1 2 1)))), (mba, .inl (cs 1, 9, .inr (.inl (lt4 0 4 5 4)))), (mbb, .inl (cs 1, 9, .inr (.inl (lt4 1 1 1 1))))] (xQv D (fun (_u : Unit) => True) (fun (_u : Unit) => [(hm, .inr (12, [.ref ms, .ref mkp, .int (nI 0), .ref mtr, .int (nI 4), .int (nI 2), .int (nI 2), .int (nI 3), .int (nI 2), .int (nI 1), .ref mas, .int (nI 0), .int (nI 0), .int (nI 0), .ref mso, .ref mon, .ref mot, .ref man, .int (nI 0), .int (nI 0), .ref mst, .ref msm, .ref mtb, .ref mti, .ref mfr, .ref mbn, .ref mbs, .ref mde, .int (nI 0), .int (nI 0), .int (nI 0), .int (nI 0), .long 0, .long 1, .ref maa, .ref mab, .ref mba, .ref mbb])), (maa, .inl (cs 1, 9, .inr (.inl (lt4 0 0 1 1)))), (mab, .inl (cs 1, 9, .inr (.inl (lt4 1 1 2 1)))), (mba, .inl (cs 1, 9, .inr (.inl (lt4 0 4 5 4)))), (mbb, .inl (cs 1, 9, .inr (.inl (lt4 1 1 1 1))))])) := by
  refine xMet.intro (by decide) (Nat.le_of_ble_eq_true rfl) ?_
  intro p e s m args below meth c A ls C hP hD hS hl
  have hx := C.1
  have hb := C.2.1
  have hz := C.2.2.2.2.1
  have hown := C.2.2.2.1
  have hA := C.2.2.2.2.2.2.2.2.2
  have hAO := C.2.2.2.2.2.2.2.2.1.2.2
  replace hl : lv_has ls 5 [(0, .ref hm), (1, .int (nI 4)), (2, .long 0)] := hl
  obtain ⟨H, hH⟩ : ∃ H, H = s.heap := ⟨_, rfl⟩
  replace hP : va_P D vwCl [(hm, .inr (12, [.ref ms, .ref mkp, .int (nI 0), .ref mtr, .int (nI 4), .int (nI 2), .int (nI 2), .int (nI 3), .int (nI 2), .int (nI 1), .ref mas, .int (nI 0), .int (nI 0), .int (nI 0), .ref mso, .ref mon, .ref mot, .ref man, .int (nI 0), .int (nI 0), .ref mst, .ref msm, .ref mtb, .ref mti, .ref mfr, .ref mbn, .ref mbs, .ref mde, .int (nI 0), .int (nI 0), .int (nI 0), .int (nI 0), .long ab, .long be, .ref maa, .ref mab, .ref mba, .ref mbb])), (maa, .inl (cs 1, 9, .inr (.inl (lt4 0 0 1 1)))), (mab, .inl (cs 1, 9, .inr (.inl (lt4 1 1 2 1)))), (mba, .inl (cs 1, 9, .inr (.inl (lt4 0 4 5 4)))), (mbb, .inl (cs 1, 9, .inr (.inl (lt4 1 1 1 1))))] H := by rw [hH]; exact hP
  replace hS : va_S A s.heap H [] := by rw [hH]; exact hS
  obtain ⟨locs, hlocs⟩ : ∃ z : List Loc, z = [] := ⟨_, rfl⟩
  rw [← hlocs] at hS
  suffices hW : W p l e ({ frames := 0, cells := 0, slots := 0, locals := 0 } : Room) s m args below meth c H locs 0 0 (MQ below ((xQv D (fun (_u : Unit) => True) (fun (_u : Unit) => [(hm, .inr (12, [.ref ms, .ref mkp, .int (nI 0), .ref mtr, .int (nI 4), .int (nI 2), .int (nI 2), .int (nI 3), .int (nI 2), .int (nI 1), .ref mas, .int (nI 0), .int (nI 0), .int (nI 0), .ref mso, .ref mon, .ref mot, .ref man, .int (nI 0), .int (nI 0), .ref mst, .ref msm, .ref mtb, .ref mti, .ref mfr, .ref mbn, .ref mbs, .ref mde, .int (nI 0), .int (nI 0), .int (nI 0), .int (nI 0), .long 0, .long 1, .ref maa, .ref mab, .ref mba, .ref mbb])), (maa, .inl (cs 1, 9, .inr (.inl (lt4 0 0 1 1)))), (mab, .inl (cs 1, 9, .inr (.inl (lt4 1 1 2 1)))), (mba, .inl (cs 1, 9, .inr (.inl (lt4 0 4 5 4)))), (mbb, .inl (cs 1, 9, .inr (.inl (lt4 1 1 1 1))))])) A) args s 0 0 A) (F0 m 0 ls []) by rw [hlocs, hH] at hW; exact hW
  clear hH hlocs
  refine lv_aload_n hx hb dX12_goesDown_0 rfl (lv_at hl 0 rfl) ?_
  refine lv_lload_n hx hb dX12_goesDown_1 rfl (lv_at hl 2 rfl) ?_
  refine xput C hP hD hS 0 rfl rfl zuX12 tyX12 tyX12_ok nmX12 32 (by decide) zw6_5 rfl rfl rfl (Nat.le_of_ble_eq_true rfl) dX12_goesDown_2 ?_
  clear hP hD hS
  try clear locs
  try clear H
  intro H locs hP hD hS
  replace hP : va_P D vwCl [(hm, .inr (12, [.ref ms, .ref mkp, .int (nI 0), .ref mtr, .int (nI 4), .int (nI 2), .int (nI 2), .int (nI 3), .int (nI 2), .int (nI 1), .ref mas, .int (nI 0), .int (nI 0), .int (nI 0), .ref mso, .ref mon, .ref mot, .ref man, .int (nI 0), .int (nI 0), .ref mst, .ref msm, .ref mtb, .ref mti, .ref mfr, .ref mbn, .ref mbs, .ref mde, .int (nI 0), .int (nI 0), .int (nI 0), .int (nI 0), .long 0, .long be, .ref maa, .ref mab, .ref mba, .ref mbb])), (maa, .inl (cs 1, 9, .inr (.inl (lt4 0 0 1 1)))), (mab, .inl (cs 1, 9, .inr (.inl (lt4 1 1 2 1)))), (mba, .inl (cs 1, 9, .inr (.inl (lt4 0 4 5 4)))), (mbb, .inl (cs 1, 9, .inr (.inl (lt4 1 1 1 1))))] H := hP
  replace hD : va_D A [(hm, .inr (12, [.ref ms, .ref mkp, .int (nI 0), .ref mtr, .int (nI 4), .int (nI 2), .int (nI 2), .int (nI 3), .int (nI 2), .int (nI 1), .ref mas, .int (nI 0), .int (nI 0), .int (nI 0), .ref mso, .ref mon, .ref mot, .ref man, .int (nI 0), .int (nI 0), .ref mst, .ref msm, .ref mtb, .ref mti, .ref mfr, .ref mbn, .ref mbs, .ref mde, .int (nI 0), .int (nI 0), .int (nI 0), .int (nI 0), .long 0, .long be, .ref maa, .ref mab, .ref mba, .ref mbb])), (maa, .inl (cs 1, 9, .inr (.inl (lt4 0 0 1 1)))), (mab, .inl (cs 1, 9, .inr (.inl (lt4 1 1 2 1)))), (mba, .inl (cs 1, 9, .inr (.inl (lt4 0 4 5 4)))), (mbb, .inl (cs 1, 9, .inr (.inl (lt4 1 1 1 1))))] := hD
  refine lv_aload_n hx hb dX12_goesDown_5 rfl (lv_at hl 0 rfl) ?_
  refine lv_lconst (v := 1) hx hb dX12_goesDown_6 (by decide) ?_
  refine xput C hP hD hS 0 rfl rfl zuX12 tyX12 tyX12_ok nmX12 33 (by decide) zw6_6 rfl rfl rfl (Nat.le_of_ble_eq_true rfl) dX12_goesDown_7 ?_
  clear hP hD hS
  try clear locs
  try clear H
  intro H locs hP hD hS
  replace hP : va_P D vwCl [(hm, .inr (12, [.ref ms, .ref mkp, .int (nI 0), .ref mtr, .int (nI 4), .int (nI 2), .int (nI 2), .int (nI 3), .int (nI 2), .int (nI 1), .ref mas, .int (nI 0), .int (nI 0), .int (nI 0), .ref mso, .ref mon, .ref mot, .ref man, .int (nI 0), .int (nI 0), .ref mst, .ref msm, .ref mtb, .ref mti, .ref mfr, .ref mbn, .ref mbs, .ref mde, .int (nI 0), .int (nI 0), .int (nI 0), .int (nI 0), .long 0, .long 1, .ref maa, .ref mab, .ref mba, .ref mbb])), (maa, .inl (cs 1, 9, .inr (.inl (lt4 0 0 1 1)))), (mab, .inl (cs 1, 9, .inr (.inl (lt4 1 1 2 1)))), (mba, .inl (cs 1, 9, .inr (.inl (lt4 0 4 5 4)))), (mbb, .inl (cs 1, 9, .inr (.inl (lt4 1 1 1 1))))] H := hP
  replace hD : va_D A [(hm, .inr (12, [.ref ms, .ref mkp, .int (nI 0), .ref mtr, .int (nI 4), .int (nI 2), .int (nI 2), .int (nI 3), .int (nI 2), .int (nI 1), .ref mas, .int (nI 0), .int (nI 0), .int (nI 0), .ref mso, .ref mon, .ref mot, .ref man, .int (nI 0), .int (nI 0), .ref mst, .ref msm, .ref mtb, .ref mti, .ref mfr, .ref mbn, .ref mbs, .ref mde, .int (nI 0), .int (nI 0), .int (nI 0), .int (nI 0), .long 0, .long 1, .ref maa, .ref mab, .ref mba, .ref mbb])), (maa, .inl (cs 1, 9, .inr (.inl (lt4 0 0 1 1)))), (mab, .inl (cs 1, 9, .inr (.inl (lt4 1 1 2 1)))), (mba, .inl (cs 1, 9, .inr (.inl (lt4 0 4 5 4)))), (mbb, .inl (cs 1, 9, .inr (.inl (lt4 1 1 1 1))))] := hD
  refine lv_aload_n hx hb dX12_goesDown_10 rfl (lv_at hl 0 rfl) ?_
  refine xget C hP 0 rfl rfl zuX12 4 (by decide) zw5_217 rfl dX12_goesDown_11 ?_
  refine lv_iconst (v := nI 1) hx hb dX12_goesDown_14 (by decide) ?_
  refine lv_isub hx hb dX12_goesDown_15 ?_
  refine lv_topi (nm_r (e' := nI 3) (by decide) ?_)
  refine lv_istore (lv' := [(4, .int (nI 3)), (0, .ref hm), (1, .int (nI 4)), (2, .long 0)]) hx hb dX12_goesDown_16 hl (by decide) rfl ?_
  clear hl
  try clear ls
  intro ls hl
  refine lv_iload hx hb dX12_goesDown_18 (lv_at hl 0 rfl) ?_
  refine lv_iload_n hx hb dX12_goesDown_20 rfl (lv_at hl 2 rfl) ?_
  refine lv_icmp_lt (tgt := 89) hx hb dX12_goesDown_21 (by decide) (fun _ => ?_) (fun c => absurd (by decide) c)
  exact xretv C () trivial hP hD hS (Nat.le_of_ble_eq_true rfl) (Nat.le_of_ble_eq_true rfl) dX12_goesDown_89
