set_option maxHeartbeats 4000000 in
set_option maxRecDepth 100000 in
theorem c_X12_findsBehind (l : Launch) (D : va_G) (cs : Nat → ClassId) (hm ms mkp mtr mas mso mon mot man mst msm mtb mti mfr mbn mbs mde maa mab mba mbb : Nat) (st0 : Nat) (fst : Nat → Option Nat) (q0 : Nat → Int32) (hf : fst 0 = some st0) (hq : ∀ j, j < 48 → q0 j = freshS j) : xMet l D cs yX12_findsBehind cX12_findsBehind 6 (some .int) ({ frames := 3, cells := 0, slots := 0, locals := 65 } : Room) [.ref hm, .int (nI 0)] [(hm, .inr (12, [.ref ms, .ref mkp, .int (nI 0), .ref mtr, .int (nI 4), .int (nI 2), .int (nI 2), .int (nI 3), .int (nI 2), .int (nI 1), .ref mas, .int (nI 0), .int (nI 0), .int (nI 0), .ref mso, .ref mon, .ref mot, .ref man, .int (nI 0), .int (nI 0), .ref mst, .ref msm, .ref mtb, .ref mti, .ref mfr, .ref mbn, .ref mbs, .ref mde, .int (nI 0), .int (nI 0), .int (nI 0), .int (nI 0), .long 0, .long 0, .ref maa, .ref mab, .ref mba, .ref mbb])), (ms, .inl (cs 0, 288, .inl freshS)), (mst, .inl (cs 5, 2, .inr (.inr (.inr (.inr fst))))), (st0, .inl (cs 0, 96048, .inl q0))] (xQi D (fun (r : Int32) (_u : Unit) => r = -1) (fun (_u : Unit) => [(hm, .inr (12, [.ref ms, .ref mkp, .int (nI 0), .ref mtr, .int (nI 4), .int (nI 2), .int (nI 2), .int (nI 3), .int (nI 2), .int (nI 1), .ref mas, .int (nI 0), .int (nI 0), .int (nI 0), .ref mso, .ref mon, .ref mot, .ref man, .int (nI 0), .int (nI 0), .ref mst, .ref msm, .ref mtb, .ref mti, .ref mfr, .ref mbn, .ref mbs, .ref mde, .int (nI 0), .int (nI 0), .int (nI 0), .int (nI 0), .long 0, .long 0, .ref maa, .ref mab, .ref mba, .ref mbb])), (ms, .inl (cs 0, 288, .inl freshS)), (mst, .inl (cs 5, 2, .inr (.inr (.inr (.inr fst))))), (st0, .inl (cs 0, 96048, .inl q0))])) := by
  refine xMet.intro (by decide) (Nat.le_of_ble_eq_true rfl) ?_
  intro p e s m args below meth c A ls C hP hD hS hl
  have hx := C.1
  have hb := C.2.1
  have hz := C.2.2.2.2.1
  have hown := C.2.2.2.1
  have hA := C.2.2.2.2.2.2.2.2.2
  have hAO := C.2.2.2.2.2.2.2.2.1.2.2
  replace hl : lv_has ls 6 [(0, .ref hm), (1, .int (nI 0))] := hl
  obtain ⟨H, hH⟩ : ∃ H, H = s.heap := ⟨_, rfl⟩
  replace hP : va_P D vwCl [(hm, .inr (12, [.ref ms, .ref mkp, .int (nI 0), .ref mtr, .int (nI 4), .int (nI 2), .int (nI 2), .int (nI 3), .int (nI 2), .int (nI 1), .ref mas, .int (nI 0), .int (nI 0), .int (nI 0), .ref mso, .ref mon, .ref mot, .ref man, .int (nI 0), .int (nI 0), .ref mst, .ref msm, .ref mtb, .ref mti, .ref mfr, .ref mbn, .ref mbs, .ref mde, .int (nI 0), .int (nI 0), .int (nI 0), .int (nI 0), .long 0, .long 0, .ref maa, .ref mab, .ref mba, .ref mbb])), (ms, .inl (cs 0, 288, .inl freshS)), (mst, .inl (cs 5, 2, .inr (.inr (.inr (.inr fst))))), (st0, .inl (cs 0, 96048, .inl q0))] H := by rw [hH]; exact hP
  replace hS : va_S A s.heap H [] := by rw [hH]; exact hS
  obtain ⟨locs, hlocs⟩ : ∃ z : List Loc, z = [] := ⟨_, rfl⟩
  rw [← hlocs] at hS
  suffices hW : W p l e ({ frames := 3, cells := 0, slots := 0, locals := 65 } : Room) s m args below meth c H locs 0 0 (MQ below ((xQi D (fun (r : Int32) (_u : Unit) => r = -1) (fun (_u : Unit) => [(hm, .inr (12, [.ref ms, .ref mkp, .int (nI 0), .ref mtr, .int (nI 4), .int (nI 2), .int (nI 2), .int (nI 3), .int (nI 2), .int (nI 1), .ref mas, .int (nI 0), .int (nI 0), .int (nI 0), .ref mso, .ref mon, .ref mot, .ref man, .int (nI 0), .int (nI 0), .ref mst, .ref msm, .ref mtb, .ref mti, .ref mfr, .ref mbn, .ref mbs, .ref mde, .int (nI 0), .int (nI 0), .int (nI 0), .int (nI 0), .long 0, .long 0, .ref maa, .ref mab, .ref mba, .ref mbb])), (ms, .inl (cs 0, 288, .inl freshS)), (mst, .inl (cs 5, 2, .inr (.inr (.inr (.inr fst))))), (st0, .inl (cs 0, 96048, .inl q0))])) A) args s 0 0 A) (F0 m 0 ls []) by rw [hlocs, hH] at hW; exact hW
  clear hH hlocs
  refine lv_iconst (v := nI 0) hx hb dX12_findsBehind_0 (by decide) ?_
  refine lv_istore_n (lv' := [(2, .int (nI 0)), (0, .ref hm), (1, .int (nI 0))]) hx hb dX12_findsBehind_1 rfl hl (by decide) rfl ?_
  clear hl
  try clear ls
  intro ls hl
  refine lv_iload_n hx hb dX12_findsBehind_2 rfl (lv_at hl 0 rfl) ?_
  refine lv_aload_n hx hb dX12_findsBehind_3 rfl (lv_at hl 1 rfl) ?_
  refine xget C hP 0 rfl rfl zuX12 4 (by decide) zw5_217 rfl dX12_findsBehind_4 ?_
  refine lv_icmp_ge (tgt := 176) hx hb dX12_findsBehind_7 (by decide) (fun c => absurd c (by decide)) (fun _ => ?_)
  refine lv_iconst (v := nI 0) hx hb dX12_findsBehind_10 (by decide) ?_
  refine lv_istore_n (lv' := [(3, .int (nI 0)), (2, .int (nI 0)), (0, .ref hm), (1, .int (nI 0))]) hx hb dX12_findsBehind_11 rfl hl (by decide) rfl ?_
  clear hl
  try clear ls
  intro ls hl
  refine lv_iload_n hx hb dX12_findsBehind_12 rfl (lv_at hl 0 rfl) ?_
  refine lv_iconst (v := nI 1) hx hb dX12_findsBehind_13 (by decide) ?_
  refine lv_aload_n hx hb dX12_findsBehind_14 rfl (lv_at hl 2 rfl) ?_
  refine xget C hP 0 rfl rfl zuX12 4 (by decide) zw5_217 rfl dX12_findsBehind_15 ?_
  refine lv_ishl hx hb dX12_findsBehind_18 ?_
  refine lv_topi (nm_r (e' := nI 16) (by decide) ?_)
  refine lv_icmp_ge (tgt := 170) hx hb dX12_findsBehind_19 (by decide) (fun c => absurd c (by decide)) (fun _ => ?_)
  refine lv_aload_n hx hb dX12_findsBehind_22 rfl (lv_at hl 2 rfl) ?_
  refine lv_iload_n hx hb dX12_findsBehind_23 rfl (lv_at hl 1 rfl) ?_
  refine lv_iload_n hx hb dX12_findsBehind_24 rfl (lv_at hl 0 rfl) ?_
  refine xi (wr := [(ms, .inl (cs 0, 288, .inl freshS)), (mst, .inl (cs 5, 2, .inr (.inr (.inr (.inr fst))))), (st0, .inl (cs 0, 96048, .inl q0))]) (xV (As := [.int (nI 0), .int (nI 0)]) (rest := []) C (c_X12_isSample_x l D cs hm ms mkp mtr mas mso mon mot man mst msm mtb mti mfr mbn mbs mde maa mab mba mbb 0 0 (by decide) (by decide)) kX12_139 hP hD [0] rfl (by decide +kernel) 0 rfl rfl rfl ⟨Nat.le_of_ble_eq_true rfl, Nat.le_of_ble_eq_true rfl⟩ rfl hl.1 rfl (Nat.le_of_ble_eq_true rfl) dX12_findsBehind_25 ⟨Nat.le_of_ble_eq_true rfl, Nat.le_of_ble_eq_true rfl⟩) hP hD hS hA [0] [1, 2, 3] rfl rfl (by decide +kernel) (by decide +kernel) ?_
  clear hP hD hS
  try clear locs
  try clear H
  intro r_1 u_2 H locs hw_r_1 hP hD hS
  have hw_r_1 : r_1 = smB 0 0 := hw_r_1
  refine W.widen (k := 0) (n := 0) (Nat.le_of_ble_eq_true rfl) (Nat.le_of_ble_eq_true rfl) ?_
  replace hP : va_P D vwCl [(ms, .inl (cs 0, 288, .inl freshS)), (mst, .inl (cs 5, 2, .inr (.inr (.inr (.inr fst))))), (st0, .inl (cs 0, 96048, .inl q0)), (hm, .inr (12, [.ref ms, .ref mkp, .int (nI 0), .ref mtr, .int (nI 4), .int (nI 2), .int (nI 2), .int (nI 3), .int (nI 2), .int (nI 1), .ref mas, .int (nI 0), .int (nI 0), .int (nI 0), .ref mso, .ref mon, .ref mot, .ref man, .int (nI 0), .int (nI 0), .ref mst, .ref msm, .ref mtb, .ref mti, .ref mfr, .ref mbn, .ref mbs, .ref mde, .int (nI 0), .int (nI 0), .int (nI 0), .int (nI 0), .long 0, .long 0, .ref maa, .ref mab, .ref mba, .ref mbb]))] H := hP
  replace hD : va_D A [(ms, .inl (cs 0, 288, .inl freshS)), (mst, .inl (cs 5, 2, .inr (.inr (.inr (.inr fst))))), (st0, .inl (cs 0, 96048, .inl q0)), (hm, .inr (12, [.ref ms, .ref mkp, .int (nI 0), .ref mtr, .int (nI 4), .int (nI 2), .int (nI 2), .int (nI 3), .int (nI 2), .int (nI 1), .ref mas, .int (nI 0), .int (nI 0), .int (nI 0), .ref mso, .ref mon, .ref mot, .ref man, .int (nI 0), .int (nI 0), .ref mst, .ref msm, .ref mtb, .ref mti, .ref mfr, .ref mbn, .ref mbs, .ref mde, .int (nI 0), .int (nI 0), .int (nI 0), .int (nI 0), .long 0, .long 0, .ref maa, .ref mab, .ref mba, .ref mbb]))] := hD
  obtain rfl : r_1 = nI 0 := by rw [hw_r_1]; decide +kernel
  refine lv_if_ne (tgt := 34) hx hb dX12_findsBehind_28 (by decide) (fun c => absurd (by decide) c) (fun _ => ?_)
  refine lv_goto (tgt := 164) hx hb dX12_findsBehind_31 (by decide) ?_
  refine lv_iinc (v := nI 1) (lv' := [(3, .int (nI 1)), (2, .int (nI 0)), (0, .ref hm), (1, .int (nI 0))]) hx hb dX12_findsBehind_164 hl (k := 0) rfl (by decide) (by decide) rfl ?_
  clear hl
  try clear ls
  intro ls hl
  refine lv_goto (tgt := 12) hx hb dX12_findsBehind_167 (by decide) ?_
  refine lv_iload_n hx hb dX12_findsBehind_12 rfl (lv_at hl 0 rfl) ?_
  refine lv_iconst (v := nI 1) hx hb dX12_findsBehind_13 (by decide) ?_
  refine lv_aload_n hx hb dX12_findsBehind_14 rfl (lv_at hl 2 rfl) ?_
  refine xget C hP 3 rfl rfl zuX12 4 (by decide) zw5_217 rfl dX12_findsBehind_15 ?_
  refine lv_ishl hx hb dX12_findsBehind_18 ?_
  refine lv_topi (nm_r (e' := nI 16) (by decide) ?_)
  refine lv_icmp_ge (tgt := 170) hx hb dX12_findsBehind_19 (by decide) (fun c => absurd c (by decide)) (fun _ => ?_)
  refine lv_aload_n hx hb dX12_findsBehind_22 rfl (lv_at hl 2 rfl) ?_
  refine lv_iload_n hx hb dX12_findsBehind_23 rfl (lv_at hl 1 rfl) ?_
  refine lv_iload_n hx hb dX12_findsBehind_24 rfl (lv_at hl 0 rfl) ?_
  refine xi (wr := [(ms, .inl (cs 0, 288, .inl freshS)), (mst, .inl (cs 5, 2, .inr (.inr (.inr (.inr fst))))), (st0, .inl (cs 0, 96048, .inl q0))]) (xV (As := [.int (nI 0), .int (nI 1)]) (rest := []) C (c_X12_isSample_x l D cs hm ms mkp mtr mas mso mon mot man mst msm mtb mti mfr mbn mbs mde maa mab mba mbb 0 1 (by decide) (by decide)) kX12_139 hP hD [3] rfl (by decide +kernel) 0 rfl rfl rfl ⟨Nat.le_of_ble_eq_true rfl, Nat.le_of_ble_eq_true rfl⟩ rfl hl.1 rfl (Nat.le_of_ble_eq_true rfl) dX12_findsBehind_25 ⟨Nat.le_of_ble_eq_true rfl, Nat.le_of_ble_eq_true rfl⟩) hP hD hS hA [3] [0, 1, 2] rfl rfl (by decide +kernel) (by decide +kernel) ?_
  clear hP hD hS
  try clear locs
  try clear H
  intro r_3 u_4 H locs hw_r_3 hP hD hS
  have hw_r_3 : r_3 = smB 0 1 := hw_r_3
  refine W.widen (k := 0) (n := 0) (Nat.le_of_ble_eq_true rfl) (Nat.le_of_ble_eq_true rfl) ?_
  replace hP : va_P D vwCl [(ms, .inl (cs 0, 288, .inl freshS)), (mst, .inl (cs 5, 2, .inr (.inr (.inr (.inr fst))))), (st0, .inl (cs 0, 96048, .inl q0)), (hm, .inr (12, [.ref ms, .ref mkp, .int (nI 0), .ref mtr, .int (nI 4), .int (nI 2), .int (nI 2), .int (nI 3), .int (nI 2), .int (nI 1), .ref mas, .int (nI 0), .int (nI 0), .int (nI 0), .ref mso, .ref mon, .ref mot, .ref man, .int (nI 0), .int (nI 0), .ref mst, .ref msm, .ref mtb, .ref mti, .ref mfr, .ref mbn, .ref mbs, .ref mde, .int (nI 0), .int (nI 0), .int (nI 0), .int (nI 0), .long 0, .long 0, .ref maa, .ref mab, .ref mba, .ref mbb]))] H := hP
  replace hD : va_D A [(ms, .inl (cs 0, 288, .inl freshS)), (mst, .inl (cs 5, 2, .inr (.inr (.inr (.inr fst))))), (st0, .inl (cs 0, 96048, .inl q0)), (hm, .inr (12, [.ref ms, .ref mkp, .int (nI 0), .ref mtr, .int (nI 4), .int (nI 2), .int (nI 2), .int (nI 3), .int (nI 2), .int (nI 1), .ref mas, .int (nI 0), .int (nI 0), .int (nI 0), .ref mso, .ref mon, .ref mot, .ref man, .int (nI 0), .int (nI 0), .ref mst, .ref msm, .ref mtb, .ref mti, .ref mfr, .ref mbn, .ref mbs, .ref mde, .int (nI 0), .int (nI 0), .int (nI 0), .int (nI 0), .long 0, .long 0, .ref maa, .ref mab, .ref mba, .ref mbb]))] := hD
  obtain rfl : r_3 = nI 0 := by rw [hw_r_3]; decide +kernel
  refine lv_if_ne (tgt := 34) hx hb dX12_findsBehind_28 (by decide) (fun c => absurd (by decide) c) (fun _ => ?_)
  refine lv_goto (tgt := 164) hx hb dX12_findsBehind_31 (by decide) ?_
  refine lv_iinc (v := nI 2) (lv' := [(3, .int (nI 2)), (2, .int (nI 0)), (0, .ref hm), (1, .int (nI 0))]) hx hb dX12_findsBehind_164 hl (k := 0) rfl (by decide) (by decide) rfl ?_
  clear hl
  try clear ls
  intro ls hl
  refine lv_goto (tgt := 12) hx hb dX12_findsBehind_167 (by decide) ?_
  refine lv_iload_n hx hb dX12_findsBehind_12 rfl (lv_at hl 0 rfl) ?_
  refine lv_iconst (v := nI 1) hx hb dX12_findsBehind_13 (by decide) ?_
  refine lv_aload_n hx hb dX12_findsBehind_14 rfl (lv_at hl 2 rfl) ?_
  refine xget C hP 3 rfl rfl zuX12 4 (by decide) zw5_217 rfl dX12_findsBehind_15 ?_
  refine lv_ishl hx hb dX12_findsBehind_18 ?_
  refine lv_topi (nm_r (e' := nI 16) (by decide) ?_)
  refine lv_icmp_ge (tgt := 170) hx hb dX12_findsBehind_19 (by decide) (fun c => absurd c (by decide)) (fun _ => ?_)
  refine lv_aload_n hx hb dX12_findsBehind_22 rfl (lv_at hl 2 rfl) ?_
  refine lv_iload_n hx hb dX12_findsBehind_23 rfl (lv_at hl 1 rfl) ?_
  refine lv_iload_n hx hb dX12_findsBehind_24 rfl (lv_at hl 0 rfl) ?_
  refine xi (wr := [(ms, .inl (cs 0, 288, .inl freshS)), (mst, .inl (cs 5, 2, .inr (.inr (.inr (.inr fst))))), (st0, .inl (cs 0, 96048, .inl q0))]) (xV (As := [.int (nI 0), .int (nI 2)]) (rest := []) C (c_X12_isSample_x l D cs hm ms mkp mtr mas mso mon mot man mst msm mtb mti mfr mbn mbs mde maa mab mba mbb 0 2 (by decide) (by decide)) kX12_139 hP hD [3] rfl (by decide +kernel) 0 rfl rfl rfl ⟨Nat.le_of_ble_eq_true rfl, Nat.le_of_ble_eq_true rfl⟩ rfl hl.1 rfl (Nat.le_of_ble_eq_true rfl) dX12_findsBehind_25 ⟨Nat.le_of_ble_eq_true rfl, Nat.le_of_ble_eq_true rfl⟩) hP hD hS hA [3] [0, 1, 2] rfl rfl (by decide +kernel) (by decide +kernel) ?_
  clear hP hD hS
  try clear locs
  try clear H
  intro r_5 u_6 H locs hw_r_5 hP hD hS
  have hw_r_5 : r_5 = smB 0 2 := hw_r_5
  refine W.widen (k := 0) (n := 0) (Nat.le_of_ble_eq_true rfl) (Nat.le_of_ble_eq_true rfl) ?_
  replace hP : va_P D vwCl [(ms, .inl (cs 0, 288, .inl freshS)), (mst, .inl (cs 5, 2, .inr (.inr (.inr (.inr fst))))), (st0, .inl (cs 0, 96048, .inl q0)), (hm, .inr (12, [.ref ms, .ref mkp, .int (nI 0), .ref mtr, .int (nI 4), .int (nI 2), .int (nI 2), .int (nI 3), .int (nI 2), .int (nI 1), .ref mas, .int (nI 0), .int (nI 0), .int (nI 0), .ref mso, .ref mon, .ref mot, .ref man, .int (nI 0), .int (nI 0), .ref mst, .ref msm, .ref mtb, .ref mti, .ref mfr, .ref mbn, .ref mbs, .ref mde, .int (nI 0), .int (nI 0), .int (nI 0), .int (nI 0), .long 0, .long 0, .ref maa, .ref mab, .ref mba, .ref mbb]))] H := hP
  replace hD : va_D A [(ms, .inl (cs 0, 288, .inl freshS)), (mst, .inl (cs 5, 2, .inr (.inr (.inr (.inr fst))))), (st0, .inl (cs 0, 96048, .inl q0)), (hm, .inr (12, [.ref ms, .ref mkp, .int (nI 0), .ref mtr, .int (nI 4), .int (nI 2), .int (nI 2), .int (nI 3), .int (nI 2), .int (nI 1), .ref mas, .int (nI 0), .int (nI 0), .int (nI 0), .ref mso, .ref mon, .ref mot, .ref man, .int (nI 0), .int (nI 0), .ref mst, .ref msm, .ref mtb, .ref mti, .ref mfr, .ref mbn, .ref mbs, .ref mde, .int (nI 0), .int (nI 0), .int (nI 0), .int (nI 0), .long 0, .long 0, .ref maa, .ref mab, .ref mba, .ref mbb]))] := hD
  obtain rfl : r_5 = nI 0 := by rw [hw_r_5]; decide +kernel
  refine lv_if_ne (tgt := 34) hx hb dX12_findsBehind_28 (by decide) (fun c => absurd (by decide) c) (fun _ => ?_)
  refine lv_goto (tgt := 164) hx hb dX12_findsBehind_31 (by decide) ?_
  refine lv_iinc (v := nI 3) (lv' := [(3, .int (nI 3)), (2, .int (nI 0)), (0, .ref hm), (1, .int (nI 0))]) hx hb dX12_findsBehind_164 hl (k := 0) rfl (by decide) (by decide) rfl ?_
  clear hl
  try clear ls
  intro ls hl
  refine lv_goto (tgt := 12) hx hb dX12_findsBehind_167 (by decide) ?_
  refine lv_iload_n hx hb dX12_findsBehind_12 rfl (lv_at hl 0 rfl) ?_
  refine lv_iconst (v := nI 1) hx hb dX12_findsBehind_13 (by decide) ?_
  refine lv_aload_n hx hb dX12_findsBehind_14 rfl (lv_at hl 2 rfl) ?_
  refine xget C hP 3 rfl rfl zuX12 4 (by decide) zw5_217 rfl dX12_findsBehind_15 ?_
  refine lv_ishl hx hb dX12_findsBehind_18 ?_
  refine lv_topi (nm_r (e' := nI 16) (by decide) ?_)
  refine lv_icmp_ge (tgt := 170) hx hb dX12_findsBehind_19 (by decide) (fun c => absurd c (by decide)) (fun _ => ?_)
  refine lv_aload_n hx hb dX12_findsBehind_22 rfl (lv_at hl 2 rfl) ?_
  refine lv_iload_n hx hb dX12_findsBehind_23 rfl (lv_at hl 1 rfl) ?_
  refine lv_iload_n hx hb dX12_findsBehind_24 rfl (lv_at hl 0 rfl) ?_
  refine xi (wr := [(ms, .inl (cs 0, 288, .inl freshS)), (mst, .inl (cs 5, 2, .inr (.inr (.inr (.inr fst))))), (st0, .inl (cs 0, 96048, .inl q0))]) (xV (As := [.int (nI 0), .int (nI 3)]) (rest := []) C (c_X12_isSample_x l D cs hm ms mkp mtr mas mso mon mot man mst msm mtb mti mfr mbn mbs mde maa mab mba mbb 0 3 (by decide) (by decide)) kX12_139 hP hD [3] rfl (by decide +kernel) 0 rfl rfl rfl ⟨Nat.le_of_ble_eq_true rfl, Nat.le_of_ble_eq_true rfl⟩ rfl hl.1 rfl (Nat.le_of_ble_eq_true rfl) dX12_findsBehind_25 ⟨Nat.le_of_ble_eq_true rfl, Nat.le_of_ble_eq_true rfl⟩) hP hD hS hA [3] [0, 1, 2] rfl rfl (by decide +kernel) (by decide +kernel) ?_
  clear hP hD hS
  try clear locs
  try clear H
  intro r_7 u_8 H locs hw_r_7 hP hD hS
  have hw_r_7 : r_7 = smB 0 3 := hw_r_7
  refine W.widen (k := 0) (n := 0) (Nat.le_of_ble_eq_true rfl) (Nat.le_of_ble_eq_true rfl) ?_
  replace hP : va_P D vwCl [(ms, .inl (cs 0, 288, .inl freshS)), (mst, .inl (cs 5, 2, .inr (.inr (.inr (.inr fst))))), (st0, .inl (cs 0, 96048, .inl q0)), (hm, .inr (12, [.ref ms, .ref mkp, .int (nI 0), .ref mtr, .int (nI 4), .int (nI 2), .int (nI 2), .int (nI 3), .int (nI 2), .int (nI 1), .ref mas, .int (nI 0), .int (nI 0), .int (nI 0), .ref mso, .ref mon, .ref mot, .ref man, .int (nI 0), .int (nI 0), .ref mst, .ref msm, .ref mtb, .ref mti, .ref mfr, .ref mbn, .ref mbs, .ref mde, .int (nI 0), .int (nI 0), .int (nI 0), .int (nI 0), .long 0, .long 0, .ref maa, .ref mab, .ref mba, .ref mbb]))] H := hP
  replace hD : va_D A [(ms, .inl (cs 0, 288, .inl freshS)), (mst, .inl (cs 5, 2, .inr (.inr (.inr (.inr fst))))), (st0, .inl (cs 0, 96048, .inl q0)), (hm, .inr (12, [.ref ms, .ref mkp, .int (nI 0), .ref mtr, .int (nI 4), .int (nI 2), .int (nI 2), .int (nI 3), .int (nI 2), .int (nI 1), .ref mas, .int (nI 0), .int (nI 0), .int (nI 0), .ref mso, .ref mon, .ref mot, .ref man, .int (nI 0), .int (nI 0), .ref mst, .ref msm, .ref mtb, .ref mti, .ref mfr, .ref mbn, .ref mbs, .ref mde, .int (nI 0), .int (nI 0), .int (nI 0), .int (nI 0), .long 0, .long 0, .ref maa, .ref mab, .ref mba, .ref mbb]))] := hD
  obtain rfl : r_7 = nI 0 := by rw [hw_r_7]; decide +kernel
  refine lv_if_ne (tgt := 34) hx hb dX12_findsBehind_28 (by decide) (fun c => absurd (by decide) c) (fun _ => ?_)
  refine lv_goto (tgt := 164) hx hb dX12_findsBehind_31 (by decide) ?_
  refine lv_iinc (v := nI 4) (lv' := [(3, .int (nI 4)), (2, .int (nI 0)), (0, .ref hm), (1, .int (nI 0))]) hx hb dX12_findsBehind_164 hl (k := 0) rfl (by decide) (by decide) rfl ?_
  clear hl
  try clear ls
  intro ls hl
  refine lv_goto (tgt := 12) hx hb dX12_findsBehind_167 (by decide) ?_
  refine lv_iload_n hx hb dX12_findsBehind_12 rfl (lv_at hl 0 rfl) ?_
  refine lv_iconst (v := nI 1) hx hb dX12_findsBehind_13 (by decide) ?_
  refine lv_aload_n hx hb dX12_findsBehind_14 rfl (lv_at hl 2 rfl) ?_
  refine xget C hP 3 rfl rfl zuX12 4 (by decide) zw5_217 rfl dX12_findsBehind_15 ?_
  refine lv_ishl hx hb dX12_findsBehind_18 ?_
  refine lv_topi (nm_r (e' := nI 16) (by decide) ?_)
  refine lv_icmp_ge (tgt := 170) hx hb dX12_findsBehind_19 (by decide) (fun c => absurd c (by decide)) (fun _ => ?_)
  refine lv_aload_n hx hb dX12_findsBehind_22 rfl (lv_at hl 2 rfl) ?_
  refine lv_iload_n hx hb dX12_findsBehind_23 rfl (lv_at hl 1 rfl) ?_
  refine lv_iload_n hx hb dX12_findsBehind_24 rfl (lv_at hl 0 rfl) ?_
  refine xi (wr := [(ms, .inl (cs 0, 288, .inl freshS)), (mst, .inl (cs 5, 2, .inr (.inr (.inr (.inr fst))))), (st0, .inl (cs 0, 96048, .inl q0))]) (xV (As := [.int (nI 0), .int (nI 4)]) (rest := []) C (c_X12_isSample_x l D cs hm ms mkp mtr mas mso mon mot man mst msm mtb mti mfr mbn mbs mde maa mab mba mbb 0 4 (by decide) (by decide)) kX12_139 hP hD [3] rfl (by decide +kernel) 0 rfl rfl rfl ⟨Nat.le_of_ble_eq_true rfl, Nat.le_of_ble_eq_true rfl⟩ rfl hl.1 rfl (Nat.le_of_ble_eq_true rfl) dX12_findsBehind_25 ⟨Nat.le_of_ble_eq_true rfl, Nat.le_of_ble_eq_true rfl⟩) hP hD hS hA [3] [0, 1, 2] rfl rfl (by decide +kernel) (by decide +kernel) ?_
  clear hP hD hS
  try clear locs
  try clear H
  intro r_9 u_10 H locs hw_r_9 hP hD hS
  have hw_r_9 : r_9 = smB 0 4 := hw_r_9
  refine W.widen (k := 0) (n := 0) (Nat.le_of_ble_eq_true rfl) (Nat.le_of_ble_eq_true rfl) ?_
  replace hP : va_P D vwCl [(ms, .inl (cs 0, 288, .inl freshS)), (mst, .inl (cs 5, 2, .inr (.inr (.inr (.inr fst))))), (st0, .inl (cs 0, 96048, .inl q0)), (hm, .inr (12, [.ref ms, .ref mkp, .int (nI 0), .ref mtr, .int (nI 4), .int (nI 2), .int (nI 2), .int (nI 3), .int (nI 2), .int (nI 1), .ref mas, .int (nI 0), .int (nI 0), .int (nI 0), .ref mso, .ref mon, .ref mot, .ref man, .int (nI 0), .int (nI 0), .ref mst, .ref msm, .ref mtb, .ref mti, .ref mfr, .ref mbn, .ref mbs, .ref mde, .int (nI 0), .int (nI 0), .int (nI 0), .int (nI 0), .long 0, .long 0, .ref maa, .ref mab, .ref mba, .ref mbb]))] H := hP
  replace hD : va_D A [(ms, .inl (cs 0, 288, .inl freshS)), (mst, .inl (cs 5, 2, .inr (.inr (.inr (.inr fst))))), (st0, .inl (cs 0, 96048, .inl q0)), (hm, .inr (12, [.ref ms, .ref mkp, .int (nI 0), .ref mtr, .int (nI 4), .int (nI 2), .int (nI 2), .int (nI 3), .int (nI 2), .int (nI 1), .ref mas, .int (nI 0), .int (nI 0), .int (nI 0), .ref mso, .ref mon, .ref mot, .ref man, .int (nI 0), .int (nI 0), .ref mst, .ref msm, .ref mtb, .ref mti, .ref mfr, .ref mbn, .ref mbs, .ref mde, .int (nI 0), .int (nI 0), .int (nI 0), .int (nI 0), .long 0, .long 0, .ref maa, .ref mab, .ref mba, .ref mbb]))] := hD
  obtain rfl : r_9 = nI 0 := by rw [hw_r_9]; decide +kernel
  refine lv_if_ne (tgt := 34) hx hb dX12_findsBehind_28 (by decide) (fun c => absurd (by decide) c) (fun _ => ?_)
  refine lv_goto (tgt := 164) hx hb dX12_findsBehind_31 (by decide) ?_
  refine lv_iinc (v := nI 5) (lv' := [(3, .int (nI 5)), (2, .int (nI 0)), (0, .ref hm), (1, .int (nI 0))]) hx hb dX12_findsBehind_164 hl (k := 0) rfl (by decide) (by decide) rfl ?_
  clear hl
  try clear ls
  intro ls hl
  refine lv_goto (tgt := 12) hx hb dX12_findsBehind_167 (by decide) ?_
  refine lv_iload_n hx hb dX12_findsBehind_12 rfl (lv_at hl 0 rfl) ?_
  refine lv_iconst (v := nI 1) hx hb dX12_findsBehind_13 (by decide) ?_
  refine lv_aload_n hx hb dX12_findsBehind_14 rfl (lv_at hl 2 rfl) ?_
  refine xget C hP 3 rfl rfl zuX12 4 (by decide) zw5_217 rfl dX12_findsBehind_15 ?_
  refine lv_ishl hx hb dX12_findsBehind_18 ?_
  refine lv_topi (nm_r (e' := nI 16) (by decide) ?_)
  refine lv_icmp_ge (tgt := 170) hx hb dX12_findsBehind_19 (by decide) (fun c => absurd c (by decide)) (fun _ => ?_)
  refine lv_aload_n hx hb dX12_findsBehind_22 rfl (lv_at hl 2 rfl) ?_
  refine lv_iload_n hx hb dX12_findsBehind_23 rfl (lv_at hl 1 rfl) ?_
  refine lv_iload_n hx hb dX12_findsBehind_24 rfl (lv_at hl 0 rfl) ?_
  refine xi (wr := [(ms, .inl (cs 0, 288, .inl freshS)), (mst, .inl (cs 5, 2, .inr (.inr (.inr (.inr fst))))), (st0, .inl (cs 0, 96048, .inl q0))]) (xV (As := [.int (nI 0), .int (nI 5)]) (rest := []) C (c_X12_isSample_x l D cs hm ms mkp mtr mas mso mon mot man mst msm mtb mti mfr mbn mbs mde maa mab mba mbb 0 5 (by decide) (by decide)) kX12_139 hP hD [3] rfl (by decide +kernel) 0 rfl rfl rfl ⟨Nat.le_of_ble_eq_true rfl, Nat.le_of_ble_eq_true rfl⟩ rfl hl.1 rfl (Nat.le_of_ble_eq_true rfl) dX12_findsBehind_25 ⟨Nat.le_of_ble_eq_true rfl, Nat.le_of_ble_eq_true rfl⟩) hP hD hS hA [3] [0, 1, 2] rfl rfl (by decide +kernel) (by decide +kernel) ?_
  clear hP hD hS
  try clear locs
  try clear H
  intro r_11 u_12 H locs hw_r_11 hP hD hS
  have hw_r_11 : r_11 = smB 0 5 := hw_r_11
  refine W.widen (k := 0) (n := 0) (Nat.le_of_ble_eq_true rfl) (Nat.le_of_ble_eq_true rfl) ?_
  replace hP : va_P D vwCl [(ms, .inl (cs 0, 288, .inl freshS)), (mst, .inl (cs 5, 2, .inr (.inr (.inr (.inr fst))))), (st0, .inl (cs 0, 96048, .inl q0)), (hm, .inr (12, [.ref ms, .ref mkp, .int (nI 0), .ref mtr, .int (nI 4), .int (nI 2), .int (nI 2), .int (nI 3), .int (nI 2), .int (nI 1), .ref mas, .int (nI 0), .int (nI 0), .int (nI 0), .ref mso, .ref mon, .ref mot, .ref man, .int (nI 0), .int (nI 0), .ref mst, .ref msm, .ref mtb, .ref mti, .ref mfr, .ref mbn, .ref mbs, .ref mde, .int (nI 0), .int (nI 0), .int (nI 0), .int (nI 0), .long 0, .long 0, .ref maa, .ref mab, .ref mba, .ref mbb]))] H := hP
  replace hD : va_D A [(ms, .inl (cs 0, 288, .inl freshS)), (mst, .inl (cs 5, 2, .inr (.inr (.inr (.inr fst))))), (st0, .inl (cs 0, 96048, .inl q0)), (hm, .inr (12, [.ref ms, .ref mkp, .int (nI 0), .ref mtr, .int (nI 4), .int (nI 2), .int (nI 2), .int (nI 3), .int (nI 2), .int (nI 1), .ref mas, .int (nI 0), .int (nI 0), .int (nI 0), .ref mso, .ref mon, .ref mot, .ref man, .int (nI 0), .int (nI 0), .ref mst, .ref msm, .ref mtb, .ref mti, .ref mfr, .ref mbn, .ref mbs, .ref mde, .int (nI 0), .int (nI 0), .int (nI 0), .int (nI 0), .long 0, .long 0, .ref maa, .ref mab, .ref mba, .ref mbb]))] := hD
  obtain rfl : r_11 = nI 0 := by rw [hw_r_11]; decide +kernel
  refine lv_if_ne (tgt := 34) hx hb dX12_findsBehind_28 (by decide) (fun c => absurd (by decide) c) (fun _ => ?_)
  refine lv_goto (tgt := 164) hx hb dX12_findsBehind_31 (by decide) ?_
  refine lv_iinc (v := nI 6) (lv' := [(3, .int (nI 6)), (2, .int (nI 0)), (0, .ref hm), (1, .int (nI 0))]) hx hb dX12_findsBehind_164 hl (k := 0) rfl (by decide) (by decide) rfl ?_
  clear hl
  try clear ls
  intro ls hl
  refine lv_goto (tgt := 12) hx hb dX12_findsBehind_167 (by decide) ?_
  refine lv_iload_n hx hb dX12_findsBehind_12 rfl (lv_at hl 0 rfl) ?_
  refine lv_iconst (v := nI 1) hx hb dX12_findsBehind_13 (by decide) ?_
  refine lv_aload_n hx hb dX12_findsBehind_14 rfl (lv_at hl 2 rfl) ?_
  refine xget C hP 3 rfl rfl zuX12 4 (by decide) zw5_217 rfl dX12_findsBehind_15 ?_
  refine lv_ishl hx hb dX12_findsBehind_18 ?_
  refine lv_topi (nm_r (e' := nI 16) (by decide) ?_)
  refine lv_icmp_ge (tgt := 170) hx hb dX12_findsBehind_19 (by decide) (fun c => absurd c (by decide)) (fun _ => ?_)
  refine lv_aload_n hx hb dX12_findsBehind_22 rfl (lv_at hl 2 rfl) ?_
  refine lv_iload_n hx hb dX12_findsBehind_23 rfl (lv_at hl 1 rfl) ?_
  refine lv_iload_n hx hb dX12_findsBehind_24 rfl (lv_at hl 0 rfl) ?_
  refine xi (wr := [(ms, .inl (cs 0, 288, .inl freshS)), (mst, .inl (cs 5, 2, .inr (.inr (.inr (.inr fst))))), (st0, .inl (cs 0, 96048, .inl q0))]) (xV (As := [.int (nI 0), .int (nI 6)]) (rest := []) C (c_X12_isSample_x l D cs hm ms mkp mtr mas mso mon mot man mst msm mtb mti mfr mbn mbs mde maa mab mba mbb 0 6 (by decide) (by decide)) kX12_139 hP hD [3] rfl (by decide +kernel) 0 rfl rfl rfl ⟨Nat.le_of_ble_eq_true rfl, Nat.le_of_ble_eq_true rfl⟩ rfl hl.1 rfl (Nat.le_of_ble_eq_true rfl) dX12_findsBehind_25 ⟨Nat.le_of_ble_eq_true rfl, Nat.le_of_ble_eq_true rfl⟩) hP hD hS hA [3] [0, 1, 2] rfl rfl (by decide +kernel) (by decide +kernel) ?_
  clear hP hD hS
  try clear locs
  try clear H
  intro r_13 u_14 H locs hw_r_13 hP hD hS
  have hw_r_13 : r_13 = smB 0 6 := hw_r_13
  refine W.widen (k := 0) (n := 0) (Nat.le_of_ble_eq_true rfl) (Nat.le_of_ble_eq_true rfl) ?_
  replace hP : va_P D vwCl [(ms, .inl (cs 0, 288, .inl freshS)), (mst, .inl (cs 5, 2, .inr (.inr (.inr (.inr fst))))), (st0, .inl (cs 0, 96048, .inl q0)), (hm, .inr (12, [.ref ms, .ref mkp, .int (nI 0), .ref mtr, .int (nI 4), .int (nI 2), .int (nI 2), .int (nI 3), .int (nI 2), .int (nI 1), .ref mas, .int (nI 0), .int (nI 0), .int (nI 0), .ref mso, .ref mon, .ref mot, .ref man, .int (nI 0), .int (nI 0), .ref mst, .ref msm, .ref mtb, .ref mti, .ref mfr, .ref mbn, .ref mbs, .ref mde, .int (nI 0), .int (nI 0), .int (nI 0), .int (nI 0), .long 0, .long 0, .ref maa, .ref mab, .ref mba, .ref mbb]))] H := hP
  replace hD : va_D A [(ms, .inl (cs 0, 288, .inl freshS)), (mst, .inl (cs 5, 2, .inr (.inr (.inr (.inr fst))))), (st0, .inl (cs 0, 96048, .inl q0)), (hm, .inr (12, [.ref ms, .ref mkp, .int (nI 0), .ref mtr, .int (nI 4), .int (nI 2), .int (nI 2), .int (nI 3), .int (nI 2), .int (nI 1), .ref mas, .int (nI 0), .int (nI 0), .int (nI 0), .ref mso, .ref mon, .ref mot, .ref man, .int (nI 0), .int (nI 0), .ref mst, .ref msm, .ref mtb, .ref mti, .ref mfr, .ref mbn, .ref mbs, .ref mde, .int (nI 0), .int (nI 0), .int (nI 0), .int (nI 0), .long 0, .long 0, .ref maa, .ref mab, .ref mba, .ref mbb]))] := hD
  obtain rfl : r_13 = nI 1 := by rw [hw_r_13]; decide +kernel
  refine lv_if_ne (tgt := 34) hx hb dX12_findsBehind_28 (by decide) (fun _ => ?_) (fun c => absurd c (by decide))
  refine lv_aload_n hx hb dX12_findsBehind_34 rfl (lv_at hl 2 rfl) ?_
  refine lv_iconst (v := nI 0) hx hb dX12_findsBehind_35 (by decide) ?_
  refine lv_iload_n hx hb dX12_findsBehind_36 rfl (lv_at hl 3 rfl) ?_
  refine xv (wr := []) (xV (As := [.int (nI 0), .int (nI 0)]) (rest := []) C (c_X12_brings_0 l D cs hm ms mkp mtr mas mso mon mot man mst msm mtb mti mfr mbn mbs mde maa mab mba mbb st0 fst q0 hf hq) kX12_203 hP hD [3, 0, 1, 2] rfl (by decide +kernel) 0 rfl rfl rfl ⟨Nat.le_of_ble_eq_true rfl, Nat.le_of_ble_eq_true rfl⟩ rfl hl.1 rfl (Nat.le_of_ble_eq_true rfl) dX12_findsBehind_37 ⟨Nat.le_of_ble_eq_true rfl, Nat.le_of_ble_eq_true rfl⟩) hP hD hS hA [3, 0, 1, 2] [] rfl rfl (by decide +kernel) (by decide +kernel) ?_
  clear hP hD hS
  try clear locs
  try clear H
  intro u_16 H locs hw_r_15 hP hD hS
  refine W.widen (k := 0) (n := 0) (Nat.le_of_ble_eq_true rfl) (Nat.le_of_ble_eq_true rfl) ?_
  replace hP : va_P D vwCl [(hm, .inr (12, [.ref ms, .ref mkp, .int (nI 0), .ref mtr, .int (nI 4), .int (nI 2), .int (nI 2), .int (nI 3), .int (nI 2), .int (nI 1), .ref mas, .int (nI 0), .int (nI 0), .int (nI 0), .ref mso, .ref mon, .ref mot, .ref man, .int (nI 0), .int (nI 0), .ref mst, .ref msm, .ref mtb, .ref mti, .ref mfr, .ref mbn, .ref mbs, .ref mde, .int (nI 0), .int (nI 0), .int (nI 0), .int (nI 0), .long 0, .long 0, .ref maa, .ref mab, .ref mba, .ref mbb])), (ms, .inl (cs 0, 288, .inl freshS)), (mst, .inl (cs 5, 2, .inr (.inr (.inr (.inr fst))))), (st0, .inl (cs 0, 96048, .inl q0))] H := hP
  replace hD : va_D A [(hm, .inr (12, [.ref ms, .ref mkp, .int (nI 0), .ref mtr, .int (nI 4), .int (nI 2), .int (nI 2), .int (nI 3), .int (nI 2), .int (nI 1), .ref mas, .int (nI 0), .int (nI 0), .int (nI 0), .ref mso, .ref mon, .ref mot, .ref man, .int (nI 0), .int (nI 0), .ref mst, .ref msm, .ref mtb, .ref mti, .ref mfr, .ref mbn, .ref mbs, .ref mde, .int (nI 0), .int (nI 0), .int (nI 0), .int (nI 0), .long 0, .long 0, .ref maa, .ref mab, .ref mba, .ref mbb])), (ms, .inl (cs 0, 288, .inl freshS)), (mst, .inl (cs 5, 2, .inr (.inr (.inr (.inr fst))))), (st0, .inl (cs 0, 96048, .inl q0))] := hD
  refine lv_aload_n hx hb dX12_findsBehind_40 rfl (lv_at hl 2 rfl) ?_
  refine lv_iload_n hx hb dX12_findsBehind_41 rfl (lv_at hl 1 rfl) ?_
  refine xi (wr := [(mst, .inl (cs 5, 2, .inr (.inr (.inr (.inr fst))))), (st0, .inl (cs 0, 96048, .inl q0))]) (xV (As := [.int (nI 0)]) (rest := []) C (c_X12_canAsk_z l D cs hm ms mkp mtr mas mso mon mot man mst msm mtb mti mfr mbn mbs mde maa mab mba mbb 0 (by decide)) kX12_142 hP hD [0, 1] rfl (by decide +kernel) 0 rfl rfl rfl ⟨Nat.le_of_ble_eq_true rfl, Nat.le_of_ble_eq_true rfl⟩ rfl hl.1 rfl (Nat.le_of_ble_eq_true rfl) dX12_findsBehind_42 ⟨Nat.le_of_ble_eq_true rfl, Nat.le_of_ble_eq_true rfl⟩) hP hD hS hA [0, 1] [2, 3] rfl rfl (by decide +kernel) (by decide +kernel) ?_
  clear hP hD hS
  try clear locs
  try clear H
  intro r_17 u_18 H locs hw_r_17 hP hD hS
  have hw_r_17 : r_17 = nI 0 := hw_r_17
  refine W.widen (k := 0) (n := 0) (Nat.le_of_ble_eq_true rfl) (Nat.le_of_ble_eq_true rfl) ?_
  replace hP : va_P D vwCl [(mst, .inl (cs 5, 2, .inr (.inr (.inr (.inr fst))))), (st0, .inl (cs 0, 96048, .inl q0)), (hm, .inr (12, [.ref ms, .ref mkp, .int (nI 0), .ref mtr, .int (nI 4), .int (nI 2), .int (nI 2), .int (nI 3), .int (nI 2), .int (nI 1), .ref mas, .int (nI 0), .int (nI 0), .int (nI 0), .ref mso, .ref mon, .ref mot, .ref man, .int (nI 0), .int (nI 0), .ref mst, .ref msm, .ref mtb, .ref mti, .ref mfr, .ref mbn, .ref mbs, .ref mde, .int (nI 0), .int (nI 0), .int (nI 0), .int (nI 0), .long 0, .long 0, .ref maa, .ref mab, .ref mba, .ref mbb])), (ms, .inl (cs 0, 288, .inl freshS))] H := hP
  replace hD : va_D A [(mst, .inl (cs 5, 2, .inr (.inr (.inr (.inr fst))))), (st0, .inl (cs 0, 96048, .inl q0)), (hm, .inr (12, [.ref ms, .ref mkp, .int (nI 0), .ref mtr, .int (nI 4), .int (nI 2), .int (nI 2), .int (nI 3), .int (nI 2), .int (nI 1), .ref mas, .int (nI 0), .int (nI 0), .int (nI 0), .ref mso, .ref mon, .ref mot, .ref man, .int (nI 0), .int (nI 0), .ref mst, .ref msm, .ref mtb, .ref mti, .ref mfr, .ref mbn, .ref mbs, .ref mde, .int (nI 0), .int (nI 0), .int (nI 0), .int (nI 0), .long 0, .long 0, .ref maa, .ref mab, .ref mba, .ref mbb])), (ms, .inl (cs 0, 288, .inl freshS))] := hD
  subst hw_r_17
  refine lv_if_ne (tgt := 51) hx hb dX12_findsBehind_45 (by decide) (fun c => absurd (by decide) c) (fun _ => ?_)
  refine lv_goto (tgt := 170) hx hb dX12_findsBehind_48 (by decide) ?_
  refine lv_iinc (v := nI 1) (lv' := [(2, .int (nI 1)), (3, .int (nI 6)), (0, .ref hm), (1, .int (nI 0))]) hx hb dX12_findsBehind_170 hl (k := 1) rfl (by decide) (by decide) rfl ?_
  clear hl
  try clear ls
  intro ls hl
  refine lv_goto (tgt := 2) hx hb dX12_findsBehind_173 (by decide) ?_
  refine lv_iload_n hx hb dX12_findsBehind_2 rfl (lv_at hl 0 rfl) ?_
  refine lv_aload_n hx hb dX12_findsBehind_3 rfl (lv_at hl 2 rfl) ?_
  refine xget C hP 2 rfl rfl zuX12 4 (by decide) zw5_217 rfl dX12_findsBehind_4 ?_
  refine lv_icmp_ge (tgt := 176) hx hb dX12_findsBehind_7 (by decide) (fun c => absurd c (by decide)) (fun _ => ?_)
  refine lv_iconst (v := nI 0) hx hb dX12_findsBehind_10 (by decide) ?_
  refine lv_istore_n (lv' := [(3, .int (nI 0)), (2, .int (nI 1)), (0, .ref hm), (1, .int (nI 0))]) hx hb dX12_findsBehind_11 rfl hl (by decide) rfl ?_
  clear hl
  try clear ls
  intro ls hl
  refine lv_iload_n hx hb dX12_findsBehind_12 rfl (lv_at hl 0 rfl) ?_
  refine lv_iconst (v := nI 1) hx hb dX12_findsBehind_13 (by decide) ?_
  refine lv_aload_n hx hb dX12_findsBehind_14 rfl (lv_at hl 2 rfl) ?_
  refine xget C hP 2 rfl rfl zuX12 4 (by decide) zw5_217 rfl dX12_findsBehind_15 ?_
  refine lv_ishl hx hb dX12_findsBehind_18 ?_
  refine lv_topi (nm_r (e' := nI 16) (by decide) ?_)
  refine lv_icmp_ge (tgt := 170) hx hb dX12_findsBehind_19 (by decide) (fun c => absurd c (by decide)) (fun _ => ?_)
  refine lv_aload_n hx hb dX12_findsBehind_22 rfl (lv_at hl 2 rfl) ?_
  refine lv_iload_n hx hb dX12_findsBehind_23 rfl (lv_at hl 1 rfl) ?_
  refine lv_iload_n hx hb dX12_findsBehind_24 rfl (lv_at hl 0 rfl) ?_
  refine xi (wr := [(mst, .inl (cs 5, 2, .inr (.inr (.inr (.inr fst))))), (st0, .inl (cs 0, 96048, .inl q0)), (ms, .inl (cs 0, 288, .inl freshS))]) (xV (As := [.int (nI 1), .int (nI 0)]) (rest := []) C (c_X12_isSample_x l D cs hm ms mkp mtr mas mso mon mot man mst msm mtb mti mfr mbn mbs mde maa mab mba mbb 1 0 (by decide) (by decide)) kX12_139 hP hD [2] rfl (by decide +kernel) 0 rfl rfl rfl ⟨Nat.le_of_ble_eq_true rfl, Nat.le_of_ble_eq_true rfl⟩ rfl hl.1 rfl (Nat.le_of_ble_eq_true rfl) dX12_findsBehind_25 ⟨Nat.le_of_ble_eq_true rfl, Nat.le_of_ble_eq_true rfl⟩) hP hD hS hA [2] [0, 1, 3] rfl rfl (by decide +kernel) (by decide +kernel) ?_
  clear hP hD hS
  try clear locs
  try clear H
  intro r_19 u_20 H locs hw_r_19 hP hD hS
  have hw_r_19 : r_19 = smB 1 0 := hw_r_19
  refine W.widen (k := 0) (n := 0) (Nat.le_of_ble_eq_true rfl) (Nat.le_of_ble_eq_true rfl) ?_
  replace hP : va_P D vwCl [(mst, .inl (cs 5, 2, .inr (.inr (.inr (.inr fst))))), (st0, .inl (cs 0, 96048, .inl q0)), (ms, .inl (cs 0, 288, .inl freshS)), (hm, .inr (12, [.ref ms, .ref mkp, .int (nI 0), .ref mtr, .int (nI 4), .int (nI 2), .int (nI 2), .int (nI 3), .int (nI 2), .int (nI 1), .ref mas, .int (nI 0), .int (nI 0), .int (nI 0), .ref mso, .ref mon, .ref mot, .ref man, .int (nI 0), .int (nI 0), .ref mst, .ref msm, .ref mtb, .ref mti, .ref mfr, .ref mbn, .ref mbs, .ref mde, .int (nI 0), .int (nI 0), .int (nI 0), .int (nI 0), .long 0, .long 0, .ref maa, .ref mab, .ref mba, .ref mbb]))] H := hP
  replace hD : va_D A [(mst, .inl (cs 5, 2, .inr (.inr (.inr (.inr fst))))), (st0, .inl (cs 0, 96048, .inl q0)), (ms, .inl (cs 0, 288, .inl freshS)), (hm, .inr (12, [.ref ms, .ref mkp, .int (nI 0), .ref mtr, .int (nI 4), .int (nI 2), .int (nI 2), .int (nI 3), .int (nI 2), .int (nI 1), .ref mas, .int (nI 0), .int (nI 0), .int (nI 0), .ref mso, .ref mon, .ref mot, .ref man, .int (nI 0), .int (nI 0), .ref mst, .ref msm, .ref mtb, .ref mti, .ref mfr, .ref mbn, .ref mbs, .ref mde, .int (nI 0), .int (nI 0), .int (nI 0), .int (nI 0), .long 0, .long 0, .ref maa, .ref mab, .ref mba, .ref mbb]))] := hD
  obtain rfl : r_19 = nI 0 := by rw [hw_r_19]; decide +kernel
  refine lv_if_ne (tgt := 34) hx hb dX12_findsBehind_28 (by decide) (fun c => absurd (by decide) c) (fun _ => ?_)
  refine lv_goto (tgt := 164) hx hb dX12_findsBehind_31 (by decide) ?_
  refine lv_iinc (v := nI 1) (lv' := [(3, .int (nI 1)), (2, .int (nI 1)), (0, .ref hm), (1, .int (nI 0))]) hx hb dX12_findsBehind_164 hl (k := 0) rfl (by decide) (by decide) rfl ?_
  clear hl
  try clear ls
  intro ls hl
  refine lv_goto (tgt := 12) hx hb dX12_findsBehind_167 (by decide) ?_
  refine lv_iload_n hx hb dX12_findsBehind_12 rfl (lv_at hl 0 rfl) ?_
  refine lv_iconst (v := nI 1) hx hb dX12_findsBehind_13 (by decide) ?_
  refine lv_aload_n hx hb dX12_findsBehind_14 rfl (lv_at hl 2 rfl) ?_
  refine xget C hP 3 rfl rfl zuX12 4 (by decide) zw5_217 rfl dX12_findsBehind_15 ?_
  refine lv_ishl hx hb dX12_findsBehind_18 ?_
  refine lv_topi (nm_r (e' := nI 16) (by decide) ?_)
  refine lv_icmp_ge (tgt := 170) hx hb dX12_findsBehind_19 (by decide) (fun c => absurd c (by decide)) (fun _ => ?_)
  refine lv_aload_n hx hb dX12_findsBehind_22 rfl (lv_at hl 2 rfl) ?_
  refine lv_iload_n hx hb dX12_findsBehind_23 rfl (lv_at hl 1 rfl) ?_
  refine lv_iload_n hx hb dX12_findsBehind_24 rfl (lv_at hl 0 rfl) ?_
  refine xi (wr := [(mst, .inl (cs 5, 2, .inr (.inr (.inr (.inr fst))))), (st0, .inl (cs 0, 96048, .inl q0)), (ms, .inl (cs 0, 288, .inl freshS))]) (xV (As := [.int (nI 1), .int (nI 1)]) (rest := []) C (c_X12_isSample_x l D cs hm ms mkp mtr mas mso mon mot man mst msm mtb mti mfr mbn mbs mde maa mab mba mbb 1 1 (by decide) (by decide)) kX12_139 hP hD [3] rfl (by decide +kernel) 0 rfl rfl rfl ⟨Nat.le_of_ble_eq_true rfl, Nat.le_of_ble_eq_true rfl⟩ rfl hl.1 rfl (Nat.le_of_ble_eq_true rfl) dX12_findsBehind_25 ⟨Nat.le_of_ble_eq_true rfl, Nat.le_of_ble_eq_true rfl⟩) hP hD hS hA [3] [0, 1, 2] rfl rfl (by decide +kernel) (by decide +kernel) ?_
  clear hP hD hS
  try clear locs
  try clear H
  intro r_21 u_22 H locs hw_r_21 hP hD hS
  have hw_r_21 : r_21 = smB 1 1 := hw_r_21
  refine W.widen (k := 0) (n := 0) (Nat.le_of_ble_eq_true rfl) (Nat.le_of_ble_eq_true rfl) ?_
  replace hP : va_P D vwCl [(mst, .inl (cs 5, 2, .inr (.inr (.inr (.inr fst))))), (st0, .inl (cs 0, 96048, .inl q0)), (ms, .inl (cs 0, 288, .inl freshS)), (hm, .inr (12, [.ref ms, .ref mkp, .int (nI 0), .ref mtr, .int (nI 4), .int (nI 2), .int (nI 2), .int (nI 3), .int (nI 2), .int (nI 1), .ref mas, .int (nI 0), .int (nI 0), .int (nI 0), .ref mso, .ref mon, .ref mot, .ref man, .int (nI 0), .int (nI 0), .ref mst, .ref msm, .ref mtb, .ref mti, .ref mfr, .ref mbn, .ref mbs, .ref mde, .int (nI 0), .int (nI 0), .int (nI 0), .int (nI 0), .long 0, .long 0, .ref maa, .ref mab, .ref mba, .ref mbb]))] H := hP
  replace hD : va_D A [(mst, .inl (cs 5, 2, .inr (.inr (.inr (.inr fst))))), (st0, .inl (cs 0, 96048, .inl q0)), (ms, .inl (cs 0, 288, .inl freshS)), (hm, .inr (12, [.ref ms, .ref mkp, .int (nI 0), .ref mtr, .int (nI 4), .int (nI 2), .int (nI 2), .int (nI 3), .int (nI 2), .int (nI 1), .ref mas, .int (nI 0), .int (nI 0), .int (nI 0), .ref mso, .ref mon, .ref mot, .ref man, .int (nI 0), .int (nI 0), .ref mst, .ref msm, .ref mtb, .ref mti, .ref mfr, .ref mbn, .ref mbs, .ref mde, .int (nI 0), .int (nI 0), .int (nI 0), .int (nI 0), .long 0, .long 0, .ref maa, .ref mab, .ref mba, .ref mbb]))] := hD
  obtain rfl : r_21 = nI 0 := by rw [hw_r_21]; decide +kernel
  refine lv_if_ne (tgt := 34) hx hb dX12_findsBehind_28 (by decide) (fun c => absurd (by decide) c) (fun _ => ?_)
  refine lv_goto (tgt := 164) hx hb dX12_findsBehind_31 (by decide) ?_
  refine lv_iinc (v := nI 2) (lv' := [(3, .int (nI 2)), (2, .int (nI 1)), (0, .ref hm), (1, .int (nI 0))]) hx hb dX12_findsBehind_164 hl (k := 0) rfl (by decide) (by decide) rfl ?_
  clear hl
  try clear ls
  intro ls hl
  refine lv_goto (tgt := 12) hx hb dX12_findsBehind_167 (by decide) ?_
  refine lv_iload_n hx hb dX12_findsBehind_12 rfl (lv_at hl 0 rfl) ?_
  refine lv_iconst (v := nI 1) hx hb dX12_findsBehind_13 (by decide) ?_
  refine lv_aload_n hx hb dX12_findsBehind_14 rfl (lv_at hl 2 rfl) ?_
  refine xget C hP 3 rfl rfl zuX12 4 (by decide) zw5_217 rfl dX12_findsBehind_15 ?_
  refine lv_ishl hx hb dX12_findsBehind_18 ?_
  refine lv_topi (nm_r (e' := nI 16) (by decide) ?_)
  refine lv_icmp_ge (tgt := 170) hx hb dX12_findsBehind_19 (by decide) (fun c => absurd c (by decide)) (fun _ => ?_)
  refine lv_aload_n hx hb dX12_findsBehind_22 rfl (lv_at hl 2 rfl) ?_
  refine lv_iload_n hx hb dX12_findsBehind_23 rfl (lv_at hl 1 rfl) ?_
  refine lv_iload_n hx hb dX12_findsBehind_24 rfl (lv_at hl 0 rfl) ?_
  refine xi (wr := [(mst, .inl (cs 5, 2, .inr (.inr (.inr (.inr fst))))), (st0, .inl (cs 0, 96048, .inl q0)), (ms, .inl (cs 0, 288, .inl freshS))]) (xV (As := [.int (nI 1), .int (nI 2)]) (rest := []) C (c_X12_isSample_x l D cs hm ms mkp mtr mas mso mon mot man mst msm mtb mti mfr mbn mbs mde maa mab mba mbb 1 2 (by decide) (by decide)) kX12_139 hP hD [3] rfl (by decide +kernel) 0 rfl rfl rfl ⟨Nat.le_of_ble_eq_true rfl, Nat.le_of_ble_eq_true rfl⟩ rfl hl.1 rfl (Nat.le_of_ble_eq_true rfl) dX12_findsBehind_25 ⟨Nat.le_of_ble_eq_true rfl, Nat.le_of_ble_eq_true rfl⟩) hP hD hS hA [3] [0, 1, 2] rfl rfl (by decide +kernel) (by decide +kernel) ?_
  clear hP hD hS
  try clear locs
  try clear H
  intro r_23 u_24 H locs hw_r_23 hP hD hS
  have hw_r_23 : r_23 = smB 1 2 := hw_r_23
  refine W.widen (k := 0) (n := 0) (Nat.le_of_ble_eq_true rfl) (Nat.le_of_ble_eq_true rfl) ?_
  replace hP : va_P D vwCl [(mst, .inl (cs 5, 2, .inr (.inr (.inr (.inr fst))))), (st0, .inl (cs 0, 96048, .inl q0)), (ms, .inl (cs 0, 288, .inl freshS)), (hm, .inr (12, [.ref ms, .ref mkp, .int (nI 0), .ref mtr, .int (nI 4), .int (nI 2), .int (nI 2), .int (nI 3), .int (nI 2), .int (nI 1), .ref mas, .int (nI 0), .int (nI 0), .int (nI 0), .ref mso, .ref mon, .ref mot, .ref man, .int (nI 0), .int (nI 0), .ref mst, .ref msm, .ref mtb, .ref mti, .ref mfr, .ref mbn, .ref mbs, .ref mde, .int (nI 0), .int (nI 0), .int (nI 0), .int (nI 0), .long 0, .long 0, .ref maa, .ref mab, .ref mba, .ref mbb]))] H := hP
  replace hD : va_D A [(mst, .inl (cs 5, 2, .inr (.inr (.inr (.inr fst))))), (st0, .inl (cs 0, 96048, .inl q0)), (ms, .inl (cs 0, 288, .inl freshS)), (hm, .inr (12, [.ref ms, .ref mkp, .int (nI 0), .ref mtr, .int (nI 4), .int (nI 2), .int (nI 2), .int (nI 3), .int (nI 2), .int (nI 1), .ref mas, .int (nI 0), .int (nI 0), .int (nI 0), .ref mso, .ref mon, .ref mot, .ref man, .int (nI 0), .int (nI 0), .ref mst, .ref msm, .ref mtb, .ref mti, .ref mfr, .ref mbn, .ref mbs, .ref mde, .int (nI 0), .int (nI 0), .int (nI 0), .int (nI 0), .long 0, .long 0, .ref maa, .ref mab, .ref mba, .ref mbb]))] := hD
  obtain rfl : r_23 = nI 0 := by rw [hw_r_23]; decide +kernel
  refine lv_if_ne (tgt := 34) hx hb dX12_findsBehind_28 (by decide) (fun c => absurd (by decide) c) (fun _ => ?_)
  refine lv_goto (tgt := 164) hx hb dX12_findsBehind_31 (by decide) ?_
  refine lv_iinc (v := nI 3) (lv' := [(3, .int (nI 3)), (2, .int (nI 1)), (0, .ref hm), (1, .int (nI 0))]) hx hb dX12_findsBehind_164 hl (k := 0) rfl (by decide) (by decide) rfl ?_
  clear hl
  try clear ls
  intro ls hl
  refine lv_goto (tgt := 12) hx hb dX12_findsBehind_167 (by decide) ?_
  refine lv_iload_n hx hb dX12_findsBehind_12 rfl (lv_at hl 0 rfl) ?_
  refine lv_iconst (v := nI 1) hx hb dX12_findsBehind_13 (by decide) ?_
  refine lv_aload_n hx hb dX12_findsBehind_14 rfl (lv_at hl 2 rfl) ?_
  refine xget C hP 3 rfl rfl zuX12 4 (by decide) zw5_217 rfl dX12_findsBehind_15 ?_
  refine lv_ishl hx hb dX12_findsBehind_18 ?_
  refine lv_topi (nm_r (e' := nI 16) (by decide) ?_)
  refine lv_icmp_ge (tgt := 170) hx hb dX12_findsBehind_19 (by decide) (fun c => absurd c (by decide)) (fun _ => ?_)
  refine lv_aload_n hx hb dX12_findsBehind_22 rfl (lv_at hl 2 rfl) ?_
  refine lv_iload_n hx hb dX12_findsBehind_23 rfl (lv_at hl 1 rfl) ?_
  refine lv_iload_n hx hb dX12_findsBehind_24 rfl (lv_at hl 0 rfl) ?_
  refine xi (wr := [(mst, .inl (cs 5, 2, .inr (.inr (.inr (.inr fst))))), (st0, .inl (cs 0, 96048, .inl q0)), (ms, .inl (cs 0, 288, .inl freshS))]) (xV (As := [.int (nI 1), .int (nI 3)]) (rest := []) C (c_X12_isSample_x l D cs hm ms mkp mtr mas mso mon mot man mst msm mtb mti mfr mbn mbs mde maa mab mba mbb 1 3 (by decide) (by decide)) kX12_139 hP hD [3] rfl (by decide +kernel) 0 rfl rfl rfl ⟨Nat.le_of_ble_eq_true rfl, Nat.le_of_ble_eq_true rfl⟩ rfl hl.1 rfl (Nat.le_of_ble_eq_true rfl) dX12_findsBehind_25 ⟨Nat.le_of_ble_eq_true rfl, Nat.le_of_ble_eq_true rfl⟩) hP hD hS hA [3] [0, 1, 2] rfl rfl (by decide +kernel) (by decide +kernel) ?_
  clear hP hD hS
  try clear locs
  try clear H
  intro r_25 u_26 H locs hw_r_25 hP hD hS
  have hw_r_25 : r_25 = smB 1 3 := hw_r_25
  refine W.widen (k := 0) (n := 0) (Nat.le_of_ble_eq_true rfl) (Nat.le_of_ble_eq_true rfl) ?_
  replace hP : va_P D vwCl [(mst, .inl (cs 5, 2, .inr (.inr (.inr (.inr fst))))), (st0, .inl (cs 0, 96048, .inl q0)), (ms, .inl (cs 0, 288, .inl freshS)), (hm, .inr (12, [.ref ms, .ref mkp, .int (nI 0), .ref mtr, .int (nI 4), .int (nI 2), .int (nI 2), .int (nI 3), .int (nI 2), .int (nI 1), .ref mas, .int (nI 0), .int (nI 0), .int (nI 0), .ref mso, .ref mon, .ref mot, .ref man, .int (nI 0), .int (nI 0), .ref mst, .ref msm, .ref mtb, .ref mti, .ref mfr, .ref mbn, .ref mbs, .ref mde, .int (nI 0), .int (nI 0), .int (nI 0), .int (nI 0), .long 0, .long 0, .ref maa, .ref mab, .ref mba, .ref mbb]))] H := hP
  replace hD : va_D A [(mst, .inl (cs 5, 2, .inr (.inr (.inr (.inr fst))))), (st0, .inl (cs 0, 96048, .inl q0)), (ms, .inl (cs 0, 288, .inl freshS)), (hm, .inr (12, [.ref ms, .ref mkp, .int (nI 0), .ref mtr, .int (nI 4), .int (nI 2), .int (nI 2), .int (nI 3), .int (nI 2), .int (nI 1), .ref mas, .int (nI 0), .int (nI 0), .int (nI 0), .ref mso, .ref mon, .ref mot, .ref man, .int (nI 0), .int (nI 0), .ref mst, .ref msm, .ref mtb, .ref mti, .ref mfr, .ref mbn, .ref mbs, .ref mde, .int (nI 0), .int (nI 0), .int (nI 0), .int (nI 0), .long 0, .long 0, .ref maa, .ref mab, .ref mba, .ref mbb]))] := hD
  obtain rfl : r_25 = nI 0 := by rw [hw_r_25]; decide +kernel
  refine lv_if_ne (tgt := 34) hx hb dX12_findsBehind_28 (by decide) (fun c => absurd (by decide) c) (fun _ => ?_)
  refine lv_goto (tgt := 164) hx hb dX12_findsBehind_31 (by decide) ?_
  refine lv_iinc (v := nI 4) (lv' := [(3, .int (nI 4)), (2, .int (nI 1)), (0, .ref hm), (1, .int (nI 0))]) hx hb dX12_findsBehind_164 hl (k := 0) rfl (by decide) (by decide) rfl ?_
  clear hl
  try clear ls
  intro ls hl
  refine lv_goto (tgt := 12) hx hb dX12_findsBehind_167 (by decide) ?_
  refine lv_iload_n hx hb dX12_findsBehind_12 rfl (lv_at hl 0 rfl) ?_
  refine lv_iconst (v := nI 1) hx hb dX12_findsBehind_13 (by decide) ?_
  refine lv_aload_n hx hb dX12_findsBehind_14 rfl (lv_at hl 2 rfl) ?_
  refine xget C hP 3 rfl rfl zuX12 4 (by decide) zw5_217 rfl dX12_findsBehind_15 ?_
  refine lv_ishl hx hb dX12_findsBehind_18 ?_
  refine lv_topi (nm_r (e' := nI 16) (by decide) ?_)
  refine lv_icmp_ge (tgt := 170) hx hb dX12_findsBehind_19 (by decide) (fun c => absurd c (by decide)) (fun _ => ?_)
  refine lv_aload_n hx hb dX12_findsBehind_22 rfl (lv_at hl 2 rfl) ?_
  refine lv_iload_n hx hb dX12_findsBehind_23 rfl (lv_at hl 1 rfl) ?_
  refine lv_iload_n hx hb dX12_findsBehind_24 rfl (lv_at hl 0 rfl) ?_
  refine xi (wr := [(mst, .inl (cs 5, 2, .inr (.inr (.inr (.inr fst))))), (st0, .inl (cs 0, 96048, .inl q0)), (ms, .inl (cs 0, 288, .inl freshS))]) (xV (As := [.int (nI 1), .int (nI 4)]) (rest := []) C (c_X12_isSample_x l D cs hm ms mkp mtr mas mso mon mot man mst msm mtb mti mfr mbn mbs mde maa mab mba mbb 1 4 (by decide) (by decide)) kX12_139 hP hD [3] rfl (by decide +kernel) 0 rfl rfl rfl ⟨Nat.le_of_ble_eq_true rfl, Nat.le_of_ble_eq_true rfl⟩ rfl hl.1 rfl (Nat.le_of_ble_eq_true rfl) dX12_findsBehind_25 ⟨Nat.le_of_ble_eq_true rfl, Nat.le_of_ble_eq_true rfl⟩) hP hD hS hA [3] [0, 1, 2] rfl rfl (by decide +kernel) (by decide +kernel) ?_
  clear hP hD hS
  try clear locs
  try clear H
  intro r_27 u_28 H locs hw_r_27 hP hD hS
  have hw_r_27 : r_27 = smB 1 4 := hw_r_27
  refine W.widen (k := 0) (n := 0) (Nat.le_of_ble_eq_true rfl) (Nat.le_of_ble_eq_true rfl) ?_
  replace hP : va_P D vwCl [(mst, .inl (cs 5, 2, .inr (.inr (.inr (.inr fst))))), (st0, .inl (cs 0, 96048, .inl q0)), (ms, .inl (cs 0, 288, .inl freshS)), (hm, .inr (12, [.ref ms, .ref mkp, .int (nI 0), .ref mtr, .int (nI 4), .int (nI 2), .int (nI 2), .int (nI 3), .int (nI 2), .int (nI 1), .ref mas, .int (nI 0), .int (nI 0), .int (nI 0), .ref mso, .ref mon, .ref mot, .ref man, .int (nI 0), .int (nI 0), .ref mst, .ref msm, .ref mtb, .ref mti, .ref mfr, .ref mbn, .ref mbs, .ref mde, .int (nI 0), .int (nI 0), .int (nI 0), .int (nI 0), .long 0, .long 0, .ref maa, .ref mab, .ref mba, .ref mbb]))] H := hP
  replace hD : va_D A [(mst, .inl (cs 5, 2, .inr (.inr (.inr (.inr fst))))), (st0, .inl (cs 0, 96048, .inl q0)), (ms, .inl (cs 0, 288, .inl freshS)), (hm, .inr (12, [.ref ms, .ref mkp, .int (nI 0), .ref mtr, .int (nI 4), .int (nI 2), .int (nI 2), .int (nI 3), .int (nI 2), .int (nI 1), .ref mas, .int (nI 0), .int (nI 0), .int (nI 0), .ref mso, .ref mon, .ref mot, .ref man, .int (nI 0), .int (nI 0), .ref mst, .ref msm, .ref mtb, .ref mti, .ref mfr, .ref mbn, .ref mbs, .ref mde, .int (nI 0), .int (nI 0), .int (nI 0), .int (nI 0), .long 0, .long 0, .ref maa, .ref mab, .ref mba, .ref mbb]))] := hD
  obtain rfl : r_27 = nI 0 := by rw [hw_r_27]; decide +kernel
  refine lv_if_ne (tgt := 34) hx hb dX12_findsBehind_28 (by decide) (fun c => absurd (by decide) c) (fun _ => ?_)
  refine lv_goto (tgt := 164) hx hb dX12_findsBehind_31 (by decide) ?_
  refine lv_iinc (v := nI 5) (lv' := [(3, .int (nI 5)), (2, .int (nI 1)), (0, .ref hm), (1, .int (nI 0))]) hx hb dX12_findsBehind_164 hl (k := 0) rfl (by decide) (by decide) rfl ?_
  clear hl
  try clear ls
  intro ls hl
  refine lv_goto (tgt := 12) hx hb dX12_findsBehind_167 (by decide) ?_
  refine lv_iload_n hx hb dX12_findsBehind_12 rfl (lv_at hl 0 rfl) ?_
  refine lv_iconst (v := nI 1) hx hb dX12_findsBehind_13 (by decide) ?_
  refine lv_aload_n hx hb dX12_findsBehind_14 rfl (lv_at hl 2 rfl) ?_
  refine xget C hP 3 rfl rfl zuX12 4 (by decide) zw5_217 rfl dX12_findsBehind_15 ?_
  refine lv_ishl hx hb dX12_findsBehind_18 ?_
  refine lv_topi (nm_r (e' := nI 16) (by decide) ?_)
  refine lv_icmp_ge (tgt := 170) hx hb dX12_findsBehind_19 (by decide) (fun c => absurd c (by decide)) (fun _ => ?_)
  refine lv_aload_n hx hb dX12_findsBehind_22 rfl (lv_at hl 2 rfl) ?_
  refine lv_iload_n hx hb dX12_findsBehind_23 rfl (lv_at hl 1 rfl) ?_
  refine lv_iload_n hx hb dX12_findsBehind_24 rfl (lv_at hl 0 rfl) ?_
  refine xi (wr := [(mst, .inl (cs 5, 2, .inr (.inr (.inr (.inr fst))))), (st0, .inl (cs 0, 96048, .inl q0)), (ms, .inl (cs 0, 288, .inl freshS))]) (xV (As := [.int (nI 1), .int (nI 5)]) (rest := []) C (c_X12_isSample_x l D cs hm ms mkp mtr mas mso mon mot man mst msm mtb mti mfr mbn mbs mde maa mab mba mbb 1 5 (by decide) (by decide)) kX12_139 hP hD [3] rfl (by decide +kernel) 0 rfl rfl rfl ⟨Nat.le_of_ble_eq_true rfl, Nat.le_of_ble_eq_true rfl⟩ rfl hl.1 rfl (Nat.le_of_ble_eq_true rfl) dX12_findsBehind_25 ⟨Nat.le_of_ble_eq_true rfl, Nat.le_of_ble_eq_true rfl⟩) hP hD hS hA [3] [0, 1, 2] rfl rfl (by decide +kernel) (by decide +kernel) ?_
  clear hP hD hS
  try clear locs
  try clear H
  intro r_29 u_30 H locs hw_r_29 hP hD hS
  have hw_r_29 : r_29 = smB 1 5 := hw_r_29
  refine W.widen (k := 0) (n := 0) (Nat.le_of_ble_eq_true rfl) (Nat.le_of_ble_eq_true rfl) ?_
  replace hP : va_P D vwCl [(mst, .inl (cs 5, 2, .inr (.inr (.inr (.inr fst))))), (st0, .inl (cs 0, 96048, .inl q0)), (ms, .inl (cs 0, 288, .inl freshS)), (hm, .inr (12, [.ref ms, .ref mkp, .int (nI 0), .ref mtr, .int (nI 4), .int (nI 2), .int (nI 2), .int (nI 3), .int (nI 2), .int (nI 1), .ref mas, .int (nI 0), .int (nI 0), .int (nI 0), .ref mso, .ref mon, .ref mot, .ref man, .int (nI 0), .int (nI 0), .ref mst, .ref msm, .ref mtb, .ref mti, .ref mfr, .ref mbn, .ref mbs, .ref mde, .int (nI 0), .int (nI 0), .int (nI 0), .int (nI 0), .long 0, .long 0, .ref maa, .ref mab, .ref mba, .ref mbb]))] H := hP
  replace hD : va_D A [(mst, .inl (cs 5, 2, .inr (.inr (.inr (.inr fst))))), (st0, .inl (cs 0, 96048, .inl q0)), (ms, .inl (cs 0, 288, .inl freshS)), (hm, .inr (12, [.ref ms, .ref mkp, .int (nI 0), .ref mtr, .int (nI 4), .int (nI 2), .int (nI 2), .int (nI 3), .int (nI 2), .int (nI 1), .ref mas, .int (nI 0), .int (nI 0), .int (nI 0), .ref mso, .ref mon, .ref mot, .ref man, .int (nI 0), .int (nI 0), .ref mst, .ref msm, .ref mtb, .ref mti, .ref mfr, .ref mbn, .ref mbs, .ref mde, .int (nI 0), .int (nI 0), .int (nI 0), .int (nI 0), .long 0, .long 0, .ref maa, .ref mab, .ref mba, .ref mbb]))] := hD
  obtain rfl : r_29 = nI 1 := by rw [hw_r_29]; decide +kernel
  refine lv_if_ne (tgt := 34) hx hb dX12_findsBehind_28 (by decide) (fun _ => ?_) (fun c => absurd c (by decide))
  refine lv_aload_n hx hb dX12_findsBehind_34 rfl (lv_at hl 2 rfl) ?_
  refine lv_iconst (v := nI 0) hx hb dX12_findsBehind_35 (by decide) ?_
  refine lv_iload_n hx hb dX12_findsBehind_36 rfl (lv_at hl 3 rfl) ?_
  refine xv (wr := []) (xV (As := [.int (nI 0), .int (nI 0)]) (rest := []) C (c_X12_brings_0 l D cs hm ms mkp mtr mas mso mon mot man mst msm mtb mti mfr mbn mbs mde maa mab mba mbb st0 fst q0 hf hq) kX12_203 hP hD [3, 2, 0, 1] rfl (by decide +kernel) 0 rfl rfl rfl ⟨Nat.le_of_ble_eq_true rfl, Nat.le_of_ble_eq_true rfl⟩ rfl hl.1 rfl (Nat.le_of_ble_eq_true rfl) dX12_findsBehind_37 ⟨Nat.le_of_ble_eq_true rfl, Nat.le_of_ble_eq_true rfl⟩) hP hD hS hA [3, 2, 0, 1] [] rfl rfl (by decide +kernel) (by decide +kernel) ?_
  clear hP hD hS
  try clear locs
  try clear H
  intro u_32 H locs hw_r_31 hP hD hS
  refine W.widen (k := 0) (n := 0) (Nat.le_of_ble_eq_true rfl) (Nat.le_of_ble_eq_true rfl) ?_
  replace hP : va_P D vwCl [(hm, .inr (12, [.ref ms, .ref mkp, .int (nI 0), .ref mtr, .int (nI 4), .int (nI 2), .int (nI 2), .int (nI 3), .int (nI 2), .int (nI 1), .ref mas, .int (nI 0), .int (nI 0), .int (nI 0), .ref mso, .ref mon, .ref mot, .ref man, .int (nI 0), .int (nI 0), .ref mst, .ref msm, .ref mtb, .ref mti, .ref mfr, .ref mbn, .ref mbs, .ref mde, .int (nI 0), .int (nI 0), .int (nI 0), .int (nI 0), .long 0, .long 0, .ref maa, .ref mab, .ref mba, .ref mbb])), (ms, .inl (cs 0, 288, .inl freshS)), (mst, .inl (cs 5, 2, .inr (.inr (.inr (.inr fst))))), (st0, .inl (cs 0, 96048, .inl q0))] H := hP
  replace hD : va_D A [(hm, .inr (12, [.ref ms, .ref mkp, .int (nI 0), .ref mtr, .int (nI 4), .int (nI 2), .int (nI 2), .int (nI 3), .int (nI 2), .int (nI 1), .ref mas, .int (nI 0), .int (nI 0), .int (nI 0), .ref mso, .ref mon, .ref mot, .ref man, .int (nI 0), .int (nI 0), .ref mst, .ref msm, .ref mtb, .ref mti, .ref mfr, .ref mbn, .ref mbs, .ref mde, .int (nI 0), .int (nI 0), .int (nI 0), .int (nI 0), .long 0, .long 0, .ref maa, .ref mab, .ref mba, .ref mbb])), (ms, .inl (cs 0, 288, .inl freshS)), (mst, .inl (cs 5, 2, .inr (.inr (.inr (.inr fst))))), (st0, .inl (cs 0, 96048, .inl q0))] := hD
  refine lv_aload_n hx hb dX12_findsBehind_40 rfl (lv_at hl 2 rfl) ?_
  refine lv_iload_n hx hb dX12_findsBehind_41 rfl (lv_at hl 1 rfl) ?_
  refine xi (wr := [(mst, .inl (cs 5, 2, .inr (.inr (.inr (.inr fst))))), (st0, .inl (cs 0, 96048, .inl q0))]) (xV (As := [.int (nI 1)]) (rest := []) C (c_X12_canAsk_z l D cs hm ms mkp mtr mas mso mon mot man mst msm mtb mti mfr mbn mbs mde maa mab mba mbb 1 (by decide)) kX12_142 hP hD [0, 1] rfl (by decide +kernel) 0 rfl rfl rfl ⟨Nat.le_of_ble_eq_true rfl, Nat.le_of_ble_eq_true rfl⟩ rfl hl.1 rfl (Nat.le_of_ble_eq_true rfl) dX12_findsBehind_42 ⟨Nat.le_of_ble_eq_true rfl, Nat.le_of_ble_eq_true rfl⟩) hP hD hS hA [0, 1] [2, 3] rfl rfl (by decide +kernel) (by decide +kernel) ?_
  clear hP hD hS
  try clear locs
  try clear H
  intro r_33 u_34 H locs hw_r_33 hP hD hS
  have hw_r_33 : r_33 = nI 0 := hw_r_33
  refine W.widen (k := 0) (n := 0) (Nat.le_of_ble_eq_true rfl) (Nat.le_of_ble_eq_true rfl) ?_
  replace hP : va_P D vwCl [(mst, .inl (cs 5, 2, .inr (.inr (.inr (.inr fst))))), (st0, .inl (cs 0, 96048, .inl q0)), (hm, .inr (12, [.ref ms, .ref mkp, .int (nI 0), .ref mtr, .int (nI 4), .int (nI 2), .int (nI 2), .int (nI 3), .int (nI 2), .int (nI 1), .ref mas, .int (nI 0), .int (nI 0), .int (nI 0), .ref mso, .ref mon, .ref mot, .ref man, .int (nI 0), .int (nI 0), .ref mst, .ref msm, .ref mtb, .ref mti, .ref mfr, .ref mbn, .ref mbs, .ref mde, .int (nI 0), .int (nI 0), .int (nI 0), .int (nI 0), .long 0, .long 0, .ref maa, .ref mab, .ref mba, .ref mbb])), (ms, .inl (cs 0, 288, .inl freshS))] H := hP
  replace hD : va_D A [(mst, .inl (cs 5, 2, .inr (.inr (.inr (.inr fst))))), (st0, .inl (cs 0, 96048, .inl q0)), (hm, .inr (12, [.ref ms, .ref mkp, .int (nI 0), .ref mtr, .int (nI 4), .int (nI 2), .int (nI 2), .int (nI 3), .int (nI 2), .int (nI 1), .ref mas, .int (nI 0), .int (nI 0), .int (nI 0), .ref mso, .ref mon, .ref mot, .ref man, .int (nI 0), .int (nI 0), .ref mst, .ref msm, .ref mtb, .ref mti, .ref mfr, .ref mbn, .ref mbs, .ref mde, .int (nI 0), .int (nI 0), .int (nI 0), .int (nI 0), .long 0, .long 0, .ref maa, .ref mab, .ref mba, .ref mbb])), (ms, .inl (cs 0, 288, .inl freshS))] := hD
  subst hw_r_33
  refine lv_if_ne (tgt := 51) hx hb dX12_findsBehind_45 (by decide) (fun c => absurd (by decide) c) (fun _ => ?_)
  refine lv_goto (tgt := 170) hx hb dX12_findsBehind_48 (by decide) ?_
  refine lv_iinc (v := nI 2) (lv' := [(2, .int (nI 2)), (3, .int (nI 5)), (0, .ref hm), (1, .int (nI 0))]) hx hb dX12_findsBehind_170 hl (k := 1) rfl (by decide) (by decide) rfl ?_
  clear hl
  try clear ls
  intro ls hl
  refine lv_goto (tgt := 2) hx hb dX12_findsBehind_173 (by decide) ?_
  refine lv_iload_n hx hb dX12_findsBehind_2 rfl (lv_at hl 0 rfl) ?_
  refine lv_aload_n hx hb dX12_findsBehind_3 rfl (lv_at hl 2 rfl) ?_
  refine xget C hP 2 rfl rfl zuX12 4 (by decide) zw5_217 rfl dX12_findsBehind_4 ?_
  refine lv_icmp_ge (tgt := 176) hx hb dX12_findsBehind_7 (by decide) (fun c => absurd c (by decide)) (fun _ => ?_)
  refine lv_iconst (v := nI 0) hx hb dX12_findsBehind_10 (by decide) ?_
  refine lv_istore_n (lv' := [(3, .int (nI 0)), (2, .int (nI 2)), (0, .ref hm), (1, .int (nI 0))]) hx hb dX12_findsBehind_11 rfl hl (by decide) rfl ?_
  clear hl
  try clear ls
  intro ls hl
  refine lv_iload_n hx hb dX12_findsBehind_12 rfl (lv_at hl 0 rfl) ?_
  refine lv_iconst (v := nI 1) hx hb dX12_findsBehind_13 (by decide) ?_
  refine lv_aload_n hx hb dX12_findsBehind_14 rfl (lv_at hl 2 rfl) ?_
  refine xget C hP 2 rfl rfl zuX12 4 (by decide) zw5_217 rfl dX12_findsBehind_15 ?_
  refine lv_ishl hx hb dX12_findsBehind_18 ?_
  refine lv_topi (nm_r (e' := nI 16) (by decide) ?_)
  refine lv_icmp_ge (tgt := 170) hx hb dX12_findsBehind_19 (by decide) (fun c => absurd c (by decide)) (fun _ => ?_)
  refine lv_aload_n hx hb dX12_findsBehind_22 rfl (lv_at hl 2 rfl) ?_
  refine lv_iload_n hx hb dX12_findsBehind_23 rfl (lv_at hl 1 rfl) ?_
  refine lv_iload_n hx hb dX12_findsBehind_24 rfl (lv_at hl 0 rfl) ?_
  refine xi (wr := [(mst, .inl (cs 5, 2, .inr (.inr (.inr (.inr fst))))), (st0, .inl (cs 0, 96048, .inl q0)), (ms, .inl (cs 0, 288, .inl freshS))]) (xV (As := [.int (nI 2), .int (nI 0)]) (rest := []) C (c_X12_isSample_x l D cs hm ms mkp mtr mas mso mon mot man mst msm mtb mti mfr mbn mbs mde maa mab mba mbb 2 0 (by decide) (by decide)) kX12_139 hP hD [2] rfl (by decide +kernel) 0 rfl rfl rfl ⟨Nat.le_of_ble_eq_true rfl, Nat.le_of_ble_eq_true rfl⟩ rfl hl.1 rfl (Nat.le_of_ble_eq_true rfl) dX12_findsBehind_25 ⟨Nat.le_of_ble_eq_true rfl, Nat.le_of_ble_eq_true rfl⟩) hP hD hS hA [2] [0, 1, 3] rfl rfl (by decide +kernel) (by decide +kernel) ?_
  clear hP hD hS
  try clear locs
  try clear H
  intro r_35 u_36 H locs hw_r_35 hP hD hS
  have hw_r_35 : r_35 = smB 2 0 := hw_r_35
  refine W.widen (k := 0) (n := 0) (Nat.le_of_ble_eq_true rfl) (Nat.le_of_ble_eq_true rfl) ?_
  replace hP : va_P D vwCl [(mst, .inl (cs 5, 2, .inr (.inr (.inr (.inr fst))))), (st0, .inl (cs 0, 96048, .inl q0)), (ms, .inl (cs 0, 288, .inl freshS)), (hm, .inr (12, [.ref ms, .ref mkp, .int (nI 0), .ref mtr, .int (nI 4), .int (nI 2), .int (nI 2), .int (nI 3), .int (nI 2), .int (nI 1), .ref mas, .int (nI 0), .int (nI 0), .int (nI 0), .ref mso, .ref mon, .ref mot, .ref man, .int (nI 0), .int (nI 0), .ref mst, .ref msm, .ref mtb, .ref mti, .ref mfr, .ref mbn, .ref mbs, .ref mde, .int (nI 0), .int (nI 0), .int (nI 0), .int (nI 0), .long 0, .long 0, .ref maa, .ref mab, .ref mba, .ref mbb]))] H := hP
  replace hD : va_D A [(mst, .inl (cs 5, 2, .inr (.inr (.inr (.inr fst))))), (st0, .inl (cs 0, 96048, .inl q0)), (ms, .inl (cs 0, 288, .inl freshS)), (hm, .inr (12, [.ref ms, .ref mkp, .int (nI 0), .ref mtr, .int (nI 4), .int (nI 2), .int (nI 2), .int (nI 3), .int (nI 2), .int (nI 1), .ref mas, .int (nI 0), .int (nI 0), .int (nI 0), .ref mso, .ref mon, .ref mot, .ref man, .int (nI 0), .int (nI 0), .ref mst, .ref msm, .ref mtb, .ref mti, .ref mfr, .ref mbn, .ref mbs, .ref mde, .int (nI 0), .int (nI 0), .int (nI 0), .int (nI 0), .long 0, .long 0, .ref maa, .ref mab, .ref mba, .ref mbb]))] := hD
  obtain rfl : r_35 = nI 0 := by rw [hw_r_35]; decide +kernel
  refine lv_if_ne (tgt := 34) hx hb dX12_findsBehind_28 (by decide) (fun c => absurd (by decide) c) (fun _ => ?_)
  refine lv_goto (tgt := 164) hx hb dX12_findsBehind_31 (by decide) ?_
  refine lv_iinc (v := nI 1) (lv' := [(3, .int (nI 1)), (2, .int (nI 2)), (0, .ref hm), (1, .int (nI 0))]) hx hb dX12_findsBehind_164 hl (k := 0) rfl (by decide) (by decide) rfl ?_
  clear hl
  try clear ls
  intro ls hl
  refine lv_goto (tgt := 12) hx hb dX12_findsBehind_167 (by decide) ?_
  refine lv_iload_n hx hb dX12_findsBehind_12 rfl (lv_at hl 0 rfl) ?_
  refine lv_iconst (v := nI 1) hx hb dX12_findsBehind_13 (by decide) ?_
  refine lv_aload_n hx hb dX12_findsBehind_14 rfl (lv_at hl 2 rfl) ?_
  refine xget C hP 3 rfl rfl zuX12 4 (by decide) zw5_217 rfl dX12_findsBehind_15 ?_
  refine lv_ishl hx hb dX12_findsBehind_18 ?_
  refine lv_topi (nm_r (e' := nI 16) (by decide) ?_)
  refine lv_icmp_ge (tgt := 170) hx hb dX12_findsBehind_19 (by decide) (fun c => absurd c (by decide)) (fun _ => ?_)
  refine lv_aload_n hx hb dX12_findsBehind_22 rfl (lv_at hl 2 rfl) ?_
  refine lv_iload_n hx hb dX12_findsBehind_23 rfl (lv_at hl 1 rfl) ?_
  refine lv_iload_n hx hb dX12_findsBehind_24 rfl (lv_at hl 0 rfl) ?_
  refine xi (wr := [(mst, .inl (cs 5, 2, .inr (.inr (.inr (.inr fst))))), (st0, .inl (cs 0, 96048, .inl q0)), (ms, .inl (cs 0, 288, .inl freshS))]) (xV (As := [.int (nI 2), .int (nI 1)]) (rest := []) C (c_X12_isSample_x l D cs hm ms mkp mtr mas mso mon mot man mst msm mtb mti mfr mbn mbs mde maa mab mba mbb 2 1 (by decide) (by decide)) kX12_139 hP hD [3] rfl (by decide +kernel) 0 rfl rfl rfl ⟨Nat.le_of_ble_eq_true rfl, Nat.le_of_ble_eq_true rfl⟩ rfl hl.1 rfl (Nat.le_of_ble_eq_true rfl) dX12_findsBehind_25 ⟨Nat.le_of_ble_eq_true rfl, Nat.le_of_ble_eq_true rfl⟩) hP hD hS hA [3] [0, 1, 2] rfl rfl (by decide +kernel) (by decide +kernel) ?_
  clear hP hD hS
  try clear locs
  try clear H
  intro r_37 u_38 H locs hw_r_37 hP hD hS
  have hw_r_37 : r_37 = smB 2 1 := hw_r_37
  refine W.widen (k := 0) (n := 0) (Nat.le_of_ble_eq_true rfl) (Nat.le_of_ble_eq_true rfl) ?_
  replace hP : va_P D vwCl [(mst, .inl (cs 5, 2, .inr (.inr (.inr (.inr fst))))), (st0, .inl (cs 0, 96048, .inl q0)), (ms, .inl (cs 0, 288, .inl freshS)), (hm, .inr (12, [.ref ms, .ref mkp, .int (nI 0), .ref mtr, .int (nI 4), .int (nI 2), .int (nI 2), .int (nI 3), .int (nI 2), .int (nI 1), .ref mas, .int (nI 0), .int (nI 0), .int (nI 0), .ref mso, .ref mon, .ref mot, .ref man, .int (nI 0), .int (nI 0), .ref mst, .ref msm, .ref mtb, .ref mti, .ref mfr, .ref mbn, .ref mbs, .ref mde, .int (nI 0), .int (nI 0), .int (nI 0), .int (nI 0), .long 0, .long 0, .ref maa, .ref mab, .ref mba, .ref mbb]))] H := hP
  replace hD : va_D A [(mst, .inl (cs 5, 2, .inr (.inr (.inr (.inr fst))))), (st0, .inl (cs 0, 96048, .inl q0)), (ms, .inl (cs 0, 288, .inl freshS)), (hm, .inr (12, [.ref ms, .ref mkp, .int (nI 0), .ref mtr, .int (nI 4), .int (nI 2), .int (nI 2), .int (nI 3), .int (nI 2), .int (nI 1), .ref mas, .int (nI 0), .int (nI 0), .int (nI 0), .ref mso, .ref mon, .ref mot, .ref man, .int (nI 0), .int (nI 0), .ref mst, .ref msm, .ref mtb, .ref mti, .ref mfr, .ref mbn, .ref mbs, .ref mde, .int (nI 0), .int (nI 0), .int (nI 0), .int (nI 0), .long 0, .long 0, .ref maa, .ref mab, .ref mba, .ref mbb]))] := hD
  obtain rfl : r_37 = nI 0 := by rw [hw_r_37]; decide +kernel
  refine lv_if_ne (tgt := 34) hx hb dX12_findsBehind_28 (by decide) (fun c => absurd (by decide) c) (fun _ => ?_)
  refine lv_goto (tgt := 164) hx hb dX12_findsBehind_31 (by decide) ?_
  refine lv_iinc (v := nI 2) (lv' := [(3, .int (nI 2)), (2, .int (nI 2)), (0, .ref hm), (1, .int (nI 0))]) hx hb dX12_findsBehind_164 hl (k := 0) rfl (by decide) (by decide) rfl ?_
  clear hl
  try clear ls
  intro ls hl
  refine lv_goto (tgt := 12) hx hb dX12_findsBehind_167 (by decide) ?_
  refine lv_iload_n hx hb dX12_findsBehind_12 rfl (lv_at hl 0 rfl) ?_
  refine lv_iconst (v := nI 1) hx hb dX12_findsBehind_13 (by decide) ?_
  refine lv_aload_n hx hb dX12_findsBehind_14 rfl (lv_at hl 2 rfl) ?_
  refine xget C hP 3 rfl rfl zuX12 4 (by decide) zw5_217 rfl dX12_findsBehind_15 ?_
  refine lv_ishl hx hb dX12_findsBehind_18 ?_
  refine lv_topi (nm_r (e' := nI 16) (by decide) ?_)
  refine lv_icmp_ge (tgt := 170) hx hb dX12_findsBehind_19 (by decide) (fun c => absurd c (by decide)) (fun _ => ?_)
  refine lv_aload_n hx hb dX12_findsBehind_22 rfl (lv_at hl 2 rfl) ?_
  refine lv_iload_n hx hb dX12_findsBehind_23 rfl (lv_at hl 1 rfl) ?_
  refine lv_iload_n hx hb dX12_findsBehind_24 rfl (lv_at hl 0 rfl) ?_
  refine xi (wr := [(mst, .inl (cs 5, 2, .inr (.inr (.inr (.inr fst))))), (st0, .inl (cs 0, 96048, .inl q0)), (ms, .inl (cs 0, 288, .inl freshS))]) (xV (As := [.int (nI 2), .int (nI 2)]) (rest := []) C (c_X12_isSample_x l D cs hm ms mkp mtr mas mso mon mot man mst msm mtb mti mfr mbn mbs mde maa mab mba mbb 2 2 (by decide) (by decide)) kX12_139 hP hD [3] rfl (by decide +kernel) 0 rfl rfl rfl ⟨Nat.le_of_ble_eq_true rfl, Nat.le_of_ble_eq_true rfl⟩ rfl hl.1 rfl (Nat.le_of_ble_eq_true rfl) dX12_findsBehind_25 ⟨Nat.le_of_ble_eq_true rfl, Nat.le_of_ble_eq_true rfl⟩) hP hD hS hA [3] [0, 1, 2] rfl rfl (by decide +kernel) (by decide +kernel) ?_
  clear hP hD hS
  try clear locs
  try clear H
  intro r_39 u_40 H locs hw_r_39 hP hD hS
  have hw_r_39 : r_39 = smB 2 2 := hw_r_39
  refine W.widen (k := 0) (n := 0) (Nat.le_of_ble_eq_true rfl) (Nat.le_of_ble_eq_true rfl) ?_
  replace hP : va_P D vwCl [(mst, .inl (cs 5, 2, .inr (.inr (.inr (.inr fst))))), (st0, .inl (cs 0, 96048, .inl q0)), (ms, .inl (cs 0, 288, .inl freshS)), (hm, .inr (12, [.ref ms, .ref mkp, .int (nI 0), .ref mtr, .int (nI 4), .int (nI 2), .int (nI 2), .int (nI 3), .int (nI 2), .int (nI 1), .ref mas, .int (nI 0), .int (nI 0), .int (nI 0), .ref mso, .ref mon, .ref mot, .ref man, .int (nI 0), .int (nI 0), .ref mst, .ref msm, .ref mtb, .ref mti, .ref mfr, .ref mbn, .ref mbs, .ref mde, .int (nI 0), .int (nI 0), .int (nI 0), .int (nI 0), .long 0, .long 0, .ref maa, .ref mab, .ref mba, .ref mbb]))] H := hP
  replace hD : va_D A [(mst, .inl (cs 5, 2, .inr (.inr (.inr (.inr fst))))), (st0, .inl (cs 0, 96048, .inl q0)), (ms, .inl (cs 0, 288, .inl freshS)), (hm, .inr (12, [.ref ms, .ref mkp, .int (nI 0), .ref mtr, .int (nI 4), .int (nI 2), .int (nI 2), .int (nI 3), .int (nI 2), .int (nI 1), .ref mas, .int (nI 0), .int (nI 0), .int (nI 0), .ref mso, .ref mon, .ref mot, .ref man, .int (nI 0), .int (nI 0), .ref mst, .ref msm, .ref mtb, .ref mti, .ref mfr, .ref mbn, .ref mbs, .ref mde, .int (nI 0), .int (nI 0), .int (nI 0), .int (nI 0), .long 0, .long 0, .ref maa, .ref mab, .ref mba, .ref mbb]))] := hD
  obtain rfl : r_39 = nI 0 := by rw [hw_r_39]; decide +kernel
  refine lv_if_ne (tgt := 34) hx hb dX12_findsBehind_28 (by decide) (fun c => absurd (by decide) c) (fun _ => ?_)
  refine lv_goto (tgt := 164) hx hb dX12_findsBehind_31 (by decide) ?_
  refine lv_iinc (v := nI 3) (lv' := [(3, .int (nI 3)), (2, .int (nI 2)), (0, .ref hm), (1, .int (nI 0))]) hx hb dX12_findsBehind_164 hl (k := 0) rfl (by decide) (by decide) rfl ?_
  clear hl
  try clear ls
  intro ls hl
  refine lv_goto (tgt := 12) hx hb dX12_findsBehind_167 (by decide) ?_
  refine lv_iload_n hx hb dX12_findsBehind_12 rfl (lv_at hl 0 rfl) ?_
  refine lv_iconst (v := nI 1) hx hb dX12_findsBehind_13 (by decide) ?_
  refine lv_aload_n hx hb dX12_findsBehind_14 rfl (lv_at hl 2 rfl) ?_
  refine xget C hP 3 rfl rfl zuX12 4 (by decide) zw5_217 rfl dX12_findsBehind_15 ?_
  refine lv_ishl hx hb dX12_findsBehind_18 ?_
  refine lv_topi (nm_r (e' := nI 16) (by decide) ?_)
  refine lv_icmp_ge (tgt := 170) hx hb dX12_findsBehind_19 (by decide) (fun c => absurd c (by decide)) (fun _ => ?_)
  refine lv_aload_n hx hb dX12_findsBehind_22 rfl (lv_at hl 2 rfl) ?_
  refine lv_iload_n hx hb dX12_findsBehind_23 rfl (lv_at hl 1 rfl) ?_
  refine lv_iload_n hx hb dX12_findsBehind_24 rfl (lv_at hl 0 rfl) ?_
  refine xi (wr := [(mst, .inl (cs 5, 2, .inr (.inr (.inr (.inr fst))))), (st0, .inl (cs 0, 96048, .inl q0)), (ms, .inl (cs 0, 288, .inl freshS))]) (xV (As := [.int (nI 2), .int (nI 3)]) (rest := []) C (c_X12_isSample_x l D cs hm ms mkp mtr mas mso mon mot man mst msm mtb mti mfr mbn mbs mde maa mab mba mbb 2 3 (by decide) (by decide)) kX12_139 hP hD [3] rfl (by decide +kernel) 0 rfl rfl rfl ⟨Nat.le_of_ble_eq_true rfl, Nat.le_of_ble_eq_true rfl⟩ rfl hl.1 rfl (Nat.le_of_ble_eq_true rfl) dX12_findsBehind_25 ⟨Nat.le_of_ble_eq_true rfl, Nat.le_of_ble_eq_true rfl⟩) hP hD hS hA [3] [0, 1, 2] rfl rfl (by decide +kernel) (by decide +kernel) ?_
  clear hP hD hS
  try clear locs
  try clear H
  intro r_41 u_42 H locs hw_r_41 hP hD hS
  have hw_r_41 : r_41 = smB 2 3 := hw_r_41
  refine W.widen (k := 0) (n := 0) (Nat.le_of_ble_eq_true rfl) (Nat.le_of_ble_eq_true rfl) ?_
  replace hP : va_P D vwCl [(mst, .inl (cs 5, 2, .inr (.inr (.inr (.inr fst))))), (st0, .inl (cs 0, 96048, .inl q0)), (ms, .inl (cs 0, 288, .inl freshS)), (hm, .inr (12, [.ref ms, .ref mkp, .int (nI 0), .ref mtr, .int (nI 4), .int (nI 2), .int (nI 2), .int (nI 3), .int (nI 2), .int (nI 1), .ref mas, .int (nI 0), .int (nI 0), .int (nI 0), .ref mso, .ref mon, .ref mot, .ref man, .int (nI 0), .int (nI 0), .ref mst, .ref msm, .ref mtb, .ref mti, .ref mfr, .ref mbn, .ref mbs, .ref mde, .int (nI 0), .int (nI 0), .int (nI 0), .int (nI 0), .long 0, .long 0, .ref maa, .ref mab, .ref mba, .ref mbb]))] H := hP
  replace hD : va_D A [(mst, .inl (cs 5, 2, .inr (.inr (.inr (.inr fst))))), (st0, .inl (cs 0, 96048, .inl q0)), (ms, .inl (cs 0, 288, .inl freshS)), (hm, .inr (12, [.ref ms, .ref mkp, .int (nI 0), .ref mtr, .int (nI 4), .int (nI 2), .int (nI 2), .int (nI 3), .int (nI 2), .int (nI 1), .ref mas, .int (nI 0), .int (nI 0), .int (nI 0), .ref mso, .ref mon, .ref mot, .ref man, .int (nI 0), .int (nI 0), .ref mst, .ref msm, .ref mtb, .ref mti, .ref mfr, .ref mbn, .ref mbs, .ref mde, .int (nI 0), .int (nI 0), .int (nI 0), .int (nI 0), .long 0, .long 0, .ref maa, .ref mab, .ref mba, .ref mbb]))] := hD
  obtain rfl : r_41 = nI 1 := by rw [hw_r_41]; decide +kernel
  refine lv_if_ne (tgt := 34) hx hb dX12_findsBehind_28 (by decide) (fun _ => ?_) (fun c => absurd c (by decide))
  refine lv_aload_n hx hb dX12_findsBehind_34 rfl (lv_at hl 2 rfl) ?_
  refine lv_iconst (v := nI 0) hx hb dX12_findsBehind_35 (by decide) ?_
  refine lv_iload_n hx hb dX12_findsBehind_36 rfl (lv_at hl 3 rfl) ?_
  refine xv (wr := []) (xV (As := [.int (nI 0), .int (nI 0)]) (rest := []) C (c_X12_brings_0 l D cs hm ms mkp mtr mas mso mon mot man mst msm mtb mti mfr mbn mbs mde maa mab mba mbb st0 fst q0 hf hq) kX12_203 hP hD [3, 2, 0, 1] rfl (by decide +kernel) 0 rfl rfl rfl ⟨Nat.le_of_ble_eq_true rfl, Nat.le_of_ble_eq_true rfl⟩ rfl hl.1 rfl (Nat.le_of_ble_eq_true rfl) dX12_findsBehind_37 ⟨Nat.le_of_ble_eq_true rfl, Nat.le_of_ble_eq_true rfl⟩) hP hD hS hA [3, 2, 0, 1] [] rfl rfl (by decide +kernel) (by decide +kernel) ?_
  clear hP hD hS
  try clear locs
  try clear H
  intro u_44 H locs hw_r_43 hP hD hS
  refine W.widen (k := 0) (n := 0) (Nat.le_of_ble_eq_true rfl) (Nat.le_of_ble_eq_true rfl) ?_
  replace hP : va_P D vwCl [(hm, .inr (12, [.ref ms, .ref mkp, .int (nI 0), .ref mtr, .int (nI 4), .int (nI 2), .int (nI 2), .int (nI 3), .int (nI 2), .int (nI 1), .ref mas, .int (nI 0), .int (nI 0), .int (nI 0), .ref mso, .ref mon, .ref mot, .ref man, .int (nI 0), .int (nI 0), .ref mst, .ref msm, .ref mtb, .ref mti, .ref mfr, .ref mbn, .ref mbs, .ref mde, .int (nI 0), .int (nI 0), .int (nI 0), .int (nI 0), .long 0, .long 0, .ref maa, .ref mab, .ref mba, .ref mbb])), (ms, .inl (cs 0, 288, .inl freshS)), (mst, .inl (cs 5, 2, .inr (.inr (.inr (.inr fst))))), (st0, .inl (cs 0, 96048, .inl q0))] H := hP
  replace hD : va_D A [(hm, .inr (12, [.ref ms, .ref mkp, .int (nI 0), .ref mtr, .int (nI 4), .int (nI 2), .int (nI 2), .int (nI 3), .int (nI 2), .int (nI 1), .ref mas, .int (nI 0), .int (nI 0), .int (nI 0), .ref mso, .ref mon, .ref mot, .ref man, .int (nI 0), .int (nI 0), .ref mst, .ref msm, .ref mtb, .ref mti, .ref mfr, .ref mbn, .ref mbs, .ref mde, .int (nI 0), .int (nI 0), .int (nI 0), .int (nI 0), .long 0, .long 0, .ref maa, .ref mab, .ref mba, .ref mbb])), (ms, .inl (cs 0, 288, .inl freshS)), (mst, .inl (cs 5, 2, .inr (.inr (.inr (.inr fst))))), (st0, .inl (cs 0, 96048, .inl q0))] := hD
  refine lv_aload_n hx hb dX12_findsBehind_40 rfl (lv_at hl 2 rfl) ?_
  refine lv_iload_n hx hb dX12_findsBehind_41 rfl (lv_at hl 1 rfl) ?_
  refine xi (wr := [(mst, .inl (cs 5, 2, .inr (.inr (.inr (.inr fst))))), (st0, .inl (cs 0, 96048, .inl q0))]) (xV (As := [.int (nI 2)]) (rest := []) C (c_X12_canAsk_z l D cs hm ms mkp mtr mas mso mon mot man mst msm mtb mti mfr mbn mbs mde maa mab mba mbb 2 (by decide)) kX12_142 hP hD [0, 1] rfl (by decide +kernel) 0 rfl rfl rfl ⟨Nat.le_of_ble_eq_true rfl, Nat.le_of_ble_eq_true rfl⟩ rfl hl.1 rfl (Nat.le_of_ble_eq_true rfl) dX12_findsBehind_42 ⟨Nat.le_of_ble_eq_true rfl, Nat.le_of_ble_eq_true rfl⟩) hP hD hS hA [0, 1] [2, 3] rfl rfl (by decide +kernel) (by decide +kernel) ?_
  clear hP hD hS
  try clear locs
  try clear H
  intro r_45 u_46 H locs hw_r_45 hP hD hS
  have hw_r_45 : r_45 = nI 0 := hw_r_45
  refine W.widen (k := 0) (n := 0) (Nat.le_of_ble_eq_true rfl) (Nat.le_of_ble_eq_true rfl) ?_
  replace hP : va_P D vwCl [(mst, .inl (cs 5, 2, .inr (.inr (.inr (.inr fst))))), (st0, .inl (cs 0, 96048, .inl q0)), (hm, .inr (12, [.ref ms, .ref mkp, .int (nI 0), .ref mtr, .int (nI 4), .int (nI 2), .int (nI 2), .int (nI 3), .int (nI 2), .int (nI 1), .ref mas, .int (nI 0), .int (nI 0), .int (nI 0), .ref mso, .ref mon, .ref mot, .ref man, .int (nI 0), .int (nI 0), .ref mst, .ref msm, .ref mtb, .ref mti, .ref mfr, .ref mbn, .ref mbs, .ref mde, .int (nI 0), .int (nI 0), .int (nI 0), .int (nI 0), .long 0, .long 0, .ref maa, .ref mab, .ref mba, .ref mbb])), (ms, .inl (cs 0, 288, .inl freshS))] H := hP
  replace hD : va_D A [(mst, .inl (cs 5, 2, .inr (.inr (.inr (.inr fst))))), (st0, .inl (cs 0, 96048, .inl q0)), (hm, .inr (12, [.ref ms, .ref mkp, .int (nI 0), .ref mtr, .int (nI 4), .int (nI 2), .int (nI 2), .int (nI 3), .int (nI 2), .int (nI 1), .ref mas, .int (nI 0), .int (nI 0), .int (nI 0), .ref mso, .ref mon, .ref mot, .ref man, .int (nI 0), .int (nI 0), .ref mst, .ref msm, .ref mtb, .ref mti, .ref mfr, .ref mbn, .ref mbs, .ref mde, .int (nI 0), .int (nI 0), .int (nI 0), .int (nI 0), .long 0, .long 0, .ref maa, .ref mab, .ref mba, .ref mbb])), (ms, .inl (cs 0, 288, .inl freshS))] := hD
  subst hw_r_45
  refine lv_if_ne (tgt := 51) hx hb dX12_findsBehind_45 (by decide) (fun c => absurd (by decide) c) (fun _ => ?_)
  refine lv_goto (tgt := 170) hx hb dX12_findsBehind_48 (by decide) ?_
  refine lv_iinc (v := nI 3) (lv' := [(2, .int (nI 3)), (3, .int (nI 3)), (0, .ref hm), (1, .int (nI 0))]) hx hb dX12_findsBehind_170 hl (k := 1) rfl (by decide) (by decide) rfl ?_
  clear hl
  try clear ls
  intro ls hl
  refine lv_goto (tgt := 2) hx hb dX12_findsBehind_173 (by decide) ?_
  refine lv_iload_n hx hb dX12_findsBehind_2 rfl (lv_at hl 0 rfl) ?_
  refine lv_aload_n hx hb dX12_findsBehind_3 rfl (lv_at hl 2 rfl) ?_
  refine xget C hP 2 rfl rfl zuX12 4 (by decide) zw5_217 rfl dX12_findsBehind_4 ?_
  refine lv_icmp_ge (tgt := 176) hx hb dX12_findsBehind_7 (by decide) (fun c => absurd c (by decide)) (fun _ => ?_)
  refine lv_iconst (v := nI 0) hx hb dX12_findsBehind_10 (by decide) ?_
  refine lv_istore_n (lv' := [(3, .int (nI 0)), (2, .int (nI 3)), (0, .ref hm), (1, .int (nI 0))]) hx hb dX12_findsBehind_11 rfl hl (by decide) rfl ?_
  clear hl
  try clear ls
  intro ls hl
  refine lv_iload_n hx hb dX12_findsBehind_12 rfl (lv_at hl 0 rfl) ?_
  refine lv_iconst (v := nI 1) hx hb dX12_findsBehind_13 (by decide) ?_
  refine lv_aload_n hx hb dX12_findsBehind_14 rfl (lv_at hl 2 rfl) ?_
  refine xget C hP 2 rfl rfl zuX12 4 (by decide) zw5_217 rfl dX12_findsBehind_15 ?_
  refine lv_ishl hx hb dX12_findsBehind_18 ?_
  refine lv_topi (nm_r (e' := nI 16) (by decide) ?_)
  refine lv_icmp_ge (tgt := 170) hx hb dX12_findsBehind_19 (by decide) (fun c => absurd c (by decide)) (fun _ => ?_)
  refine lv_aload_n hx hb dX12_findsBehind_22 rfl (lv_at hl 2 rfl) ?_
  refine lv_iload_n hx hb dX12_findsBehind_23 rfl (lv_at hl 1 rfl) ?_
  refine lv_iload_n hx hb dX12_findsBehind_24 rfl (lv_at hl 0 rfl) ?_
  refine xi (wr := [(mst, .inl (cs 5, 2, .inr (.inr (.inr (.inr fst))))), (st0, .inl (cs 0, 96048, .inl q0)), (ms, .inl (cs 0, 288, .inl freshS))]) (xV (As := [.int (nI 3), .int (nI 0)]) (rest := []) C (c_X12_isSample_x l D cs hm ms mkp mtr mas mso mon mot man mst msm mtb mti mfr mbn mbs mde maa mab mba mbb 3 0 (by decide) (by decide)) kX12_139 hP hD [2] rfl (by decide +kernel) 0 rfl rfl rfl ⟨Nat.le_of_ble_eq_true rfl, Nat.le_of_ble_eq_true rfl⟩ rfl hl.1 rfl (Nat.le_of_ble_eq_true rfl) dX12_findsBehind_25 ⟨Nat.le_of_ble_eq_true rfl, Nat.le_of_ble_eq_true rfl⟩) hP hD hS hA [2] [0, 1, 3] rfl rfl (by decide +kernel) (by decide +kernel) ?_
  clear hP hD hS
  try clear locs
  try clear H
  intro r_47 u_48 H locs hw_r_47 hP hD hS
  have hw_r_47 : r_47 = smB 3 0 := hw_r_47
  refine W.widen (k := 0) (n := 0) (Nat.le_of_ble_eq_true rfl) (Nat.le_of_ble_eq_true rfl) ?_
  replace hP : va_P D vwCl [(mst, .inl (cs 5, 2, .inr (.inr (.inr (.inr fst))))), (st0, .inl (cs 0, 96048, .inl q0)), (ms, .inl (cs 0, 288, .inl freshS)), (hm, .inr (12, [.ref ms, .ref mkp, .int (nI 0), .ref mtr, .int (nI 4), .int (nI 2), .int (nI 2), .int (nI 3), .int (nI 2), .int (nI 1), .ref mas, .int (nI 0), .int (nI 0), .int (nI 0), .ref mso, .ref mon, .ref mot, .ref man, .int (nI 0), .int (nI 0), .ref mst, .ref msm, .ref mtb, .ref mti, .ref mfr, .ref mbn, .ref mbs, .ref mde, .int (nI 0), .int (nI 0), .int (nI 0), .int (nI 0), .long 0, .long 0, .ref maa, .ref mab, .ref mba, .ref mbb]))] H := hP
  replace hD : va_D A [(mst, .inl (cs 5, 2, .inr (.inr (.inr (.inr fst))))), (st0, .inl (cs 0, 96048, .inl q0)), (ms, .inl (cs 0, 288, .inl freshS)), (hm, .inr (12, [.ref ms, .ref mkp, .int (nI 0), .ref mtr, .int (nI 4), .int (nI 2), .int (nI 2), .int (nI 3), .int (nI 2), .int (nI 1), .ref mas, .int (nI 0), .int (nI 0), .int (nI 0), .ref mso, .ref mon, .ref mot, .ref man, .int (nI 0), .int (nI 0), .ref mst, .ref msm, .ref mtb, .ref mti, .ref mfr, .ref mbn, .ref mbs, .ref mde, .int (nI 0), .int (nI 0), .int (nI 0), .int (nI 0), .long 0, .long 0, .ref maa, .ref mab, .ref mba, .ref mbb]))] := hD
  obtain rfl : r_47 = nI 0 := by rw [hw_r_47]; decide +kernel
  refine lv_if_ne (tgt := 34) hx hb dX12_findsBehind_28 (by decide) (fun c => absurd (by decide) c) (fun _ => ?_)
  refine lv_goto (tgt := 164) hx hb dX12_findsBehind_31 (by decide) ?_
  refine lv_iinc (v := nI 1) (lv' := [(3, .int (nI 1)), (2, .int (nI 3)), (0, .ref hm), (1, .int (nI 0))]) hx hb dX12_findsBehind_164 hl (k := 0) rfl (by decide) (by decide) rfl ?_
  clear hl
  try clear ls
  intro ls hl
  refine lv_goto (tgt := 12) hx hb dX12_findsBehind_167 (by decide) ?_
  refine lv_iload_n hx hb dX12_findsBehind_12 rfl (lv_at hl 0 rfl) ?_
  refine lv_iconst (v := nI 1) hx hb dX12_findsBehind_13 (by decide) ?_
  refine lv_aload_n hx hb dX12_findsBehind_14 rfl (lv_at hl 2 rfl) ?_
  refine xget C hP 3 rfl rfl zuX12 4 (by decide) zw5_217 rfl dX12_findsBehind_15 ?_
  refine lv_ishl hx hb dX12_findsBehind_18 ?_
  refine lv_topi (nm_r (e' := nI 16) (by decide) ?_)
  refine lv_icmp_ge (tgt := 170) hx hb dX12_findsBehind_19 (by decide) (fun c => absurd c (by decide)) (fun _ => ?_)
  refine lv_aload_n hx hb dX12_findsBehind_22 rfl (lv_at hl 2 rfl) ?_
  refine lv_iload_n hx hb dX12_findsBehind_23 rfl (lv_at hl 1 rfl) ?_
  refine lv_iload_n hx hb dX12_findsBehind_24 rfl (lv_at hl 0 rfl) ?_
  refine xi (wr := [(mst, .inl (cs 5, 2, .inr (.inr (.inr (.inr fst))))), (st0, .inl (cs 0, 96048, .inl q0)), (ms, .inl (cs 0, 288, .inl freshS))]) (xV (As := [.int (nI 3), .int (nI 1)]) (rest := []) C (c_X12_isSample_x l D cs hm ms mkp mtr mas mso mon mot man mst msm mtb mti mfr mbn mbs mde maa mab mba mbb 3 1 (by decide) (by decide)) kX12_139 hP hD [3] rfl (by decide +kernel) 0 rfl rfl rfl ⟨Nat.le_of_ble_eq_true rfl, Nat.le_of_ble_eq_true rfl⟩ rfl hl.1 rfl (Nat.le_of_ble_eq_true rfl) dX12_findsBehind_25 ⟨Nat.le_of_ble_eq_true rfl, Nat.le_of_ble_eq_true rfl⟩) hP hD hS hA [3] [0, 1, 2] rfl rfl (by decide +kernel) (by decide +kernel) ?_
  clear hP hD hS
  try clear locs
  try clear H
  intro r_49 u_50 H locs hw_r_49 hP hD hS
  have hw_r_49 : r_49 = smB 3 1 := hw_r_49
  refine W.widen (k := 0) (n := 0) (Nat.le_of_ble_eq_true rfl) (Nat.le_of_ble_eq_true rfl) ?_
  replace hP : va_P D vwCl [(mst, .inl (cs 5, 2, .inr (.inr (.inr (.inr fst))))), (st0, .inl (cs 0, 96048, .inl q0)), (ms, .inl (cs 0, 288, .inl freshS)), (hm, .inr (12, [.ref ms, .ref mkp, .int (nI 0), .ref mtr, .int (nI 4), .int (nI 2), .int (nI 2), .int (nI 3), .int (nI 2), .int (nI 1), .ref mas, .int (nI 0), .int (nI 0), .int (nI 0), .ref mso, .ref mon, .ref mot, .ref man, .int (nI 0), .int (nI 0), .ref mst, .ref msm, .ref mtb, .ref mti, .ref mfr, .ref mbn, .ref mbs, .ref mde, .int (nI 0), .int (nI 0), .int (nI 0), .int (nI 0), .long 0, .long 0, .ref maa, .ref mab, .ref mba, .ref mbb]))] H := hP
  replace hD : va_D A [(mst, .inl (cs 5, 2, .inr (.inr (.inr (.inr fst))))), (st0, .inl (cs 0, 96048, .inl q0)), (ms, .inl (cs 0, 288, .inl freshS)), (hm, .inr (12, [.ref ms, .ref mkp, .int (nI 0), .ref mtr, .int (nI 4), .int (nI 2), .int (nI 2), .int (nI 3), .int (nI 2), .int (nI 1), .ref mas, .int (nI 0), .int (nI 0), .int (nI 0), .ref mso, .ref mon, .ref mot, .ref man, .int (nI 0), .int (nI 0), .ref mst, .ref msm, .ref mtb, .ref mti, .ref mfr, .ref mbn, .ref mbs, .ref mde, .int (nI 0), .int (nI 0), .int (nI 0), .int (nI 0), .long 0, .long 0, .ref maa, .ref mab, .ref mba, .ref mbb]))] := hD
  obtain rfl : r_49 = nI 0 := by rw [hw_r_49]; decide +kernel
  refine lv_if_ne (tgt := 34) hx hb dX12_findsBehind_28 (by decide) (fun c => absurd (by decide) c) (fun _ => ?_)
  refine lv_goto (tgt := 164) hx hb dX12_findsBehind_31 (by decide) ?_
  refine lv_iinc (v := nI 2) (lv' := [(3, .int (nI 2)), (2, .int (nI 3)), (0, .ref hm), (1, .int (nI 0))]) hx hb dX12_findsBehind_164 hl (k := 0) rfl (by decide) (by decide) rfl ?_
  clear hl
  try clear ls
  intro ls hl
  refine lv_goto (tgt := 12) hx hb dX12_findsBehind_167 (by decide) ?_
  refine lv_iload_n hx hb dX12_findsBehind_12 rfl (lv_at hl 0 rfl) ?_
  refine lv_iconst (v := nI 1) hx hb dX12_findsBehind_13 (by decide) ?_
  refine lv_aload_n hx hb dX12_findsBehind_14 rfl (lv_at hl 2 rfl) ?_
  refine xget C hP 3 rfl rfl zuX12 4 (by decide) zw5_217 rfl dX12_findsBehind_15 ?_
  refine lv_ishl hx hb dX12_findsBehind_18 ?_
  refine lv_topi (nm_r (e' := nI 16) (by decide) ?_)
  refine lv_icmp_ge (tgt := 170) hx hb dX12_findsBehind_19 (by decide) (fun c => absurd c (by decide)) (fun _ => ?_)
  refine lv_aload_n hx hb dX12_findsBehind_22 rfl (lv_at hl 2 rfl) ?_
  refine lv_iload_n hx hb dX12_findsBehind_23 rfl (lv_at hl 1 rfl) ?_
  refine lv_iload_n hx hb dX12_findsBehind_24 rfl (lv_at hl 0 rfl) ?_
  refine xi (wr := [(mst, .inl (cs 5, 2, .inr (.inr (.inr (.inr fst))))), (st0, .inl (cs 0, 96048, .inl q0)), (ms, .inl (cs 0, 288, .inl freshS))]) (xV (As := [.int (nI 3), .int (nI 2)]) (rest := []) C (c_X12_isSample_x l D cs hm ms mkp mtr mas mso mon mot man mst msm mtb mti mfr mbn mbs mde maa mab mba mbb 3 2 (by decide) (by decide)) kX12_139 hP hD [3] rfl (by decide +kernel) 0 rfl rfl rfl ⟨Nat.le_of_ble_eq_true rfl, Nat.le_of_ble_eq_true rfl⟩ rfl hl.1 rfl (Nat.le_of_ble_eq_true rfl) dX12_findsBehind_25 ⟨Nat.le_of_ble_eq_true rfl, Nat.le_of_ble_eq_true rfl⟩) hP hD hS hA [3] [0, 1, 2] rfl rfl (by decide +kernel) (by decide +kernel) ?_
  clear hP hD hS
  try clear locs
  try clear H
  intro r_51 u_52 H locs hw_r_51 hP hD hS
  have hw_r_51 : r_51 = smB 3 2 := hw_r_51
  refine W.widen (k := 0) (n := 0) (Nat.le_of_ble_eq_true rfl) (Nat.le_of_ble_eq_true rfl) ?_
  replace hP : va_P D vwCl [(mst, .inl (cs 5, 2, .inr (.inr (.inr (.inr fst))))), (st0, .inl (cs 0, 96048, .inl q0)), (ms, .inl (cs 0, 288, .inl freshS)), (hm, .inr (12, [.ref ms, .ref mkp, .int (nI 0), .ref mtr, .int (nI 4), .int (nI 2), .int (nI 2), .int (nI 3), .int (nI 2), .int (nI 1), .ref mas, .int (nI 0), .int (nI 0), .int (nI 0), .ref mso, .ref mon, .ref mot, .ref man, .int (nI 0), .int (nI 0), .ref mst, .ref msm, .ref mtb, .ref mti, .ref mfr, .ref mbn, .ref mbs, .ref mde, .int (nI 0), .int (nI 0), .int (nI 0), .int (nI 0), .long 0, .long 0, .ref maa, .ref mab, .ref mba, .ref mbb]))] H := hP
  replace hD : va_D A [(mst, .inl (cs 5, 2, .inr (.inr (.inr (.inr fst))))), (st0, .inl (cs 0, 96048, .inl q0)), (ms, .inl (cs 0, 288, .inl freshS)), (hm, .inr (12, [.ref ms, .ref mkp, .int (nI 0), .ref mtr, .int (nI 4), .int (nI 2), .int (nI 2), .int (nI 3), .int (nI 2), .int (nI 1), .ref mas, .int (nI 0), .int (nI 0), .int (nI 0), .ref mso, .ref mon, .ref mot, .ref man, .int (nI 0), .int (nI 0), .ref mst, .ref msm, .ref mtb, .ref mti, .ref mfr, .ref mbn, .ref mbs, .ref mde, .int (nI 0), .int (nI 0), .int (nI 0), .int (nI 0), .long 0, .long 0, .ref maa, .ref mab, .ref mba, .ref mbb]))] := hD
  obtain rfl : r_51 = nI 0 := by rw [hw_r_51]; decide +kernel
  refine lv_if_ne (tgt := 34) hx hb dX12_findsBehind_28 (by decide) (fun c => absurd (by decide) c) (fun _ => ?_)
  refine lv_goto (tgt := 164) hx hb dX12_findsBehind_31 (by decide) ?_
  refine lv_iinc (v := nI 3) (lv' := [(3, .int (nI 3)), (2, .int (nI 3)), (0, .ref hm), (1, .int (nI 0))]) hx hb dX12_findsBehind_164 hl (k := 0) rfl (by decide) (by decide) rfl ?_
  clear hl
  try clear ls
  intro ls hl
  refine lv_goto (tgt := 12) hx hb dX12_findsBehind_167 (by decide) ?_
  refine lv_iload_n hx hb dX12_findsBehind_12 rfl (lv_at hl 0 rfl) ?_
  refine lv_iconst (v := nI 1) hx hb dX12_findsBehind_13 (by decide) ?_
  refine lv_aload_n hx hb dX12_findsBehind_14 rfl (lv_at hl 2 rfl) ?_
  refine xget C hP 3 rfl rfl zuX12 4 (by decide) zw5_217 rfl dX12_findsBehind_15 ?_
  refine lv_ishl hx hb dX12_findsBehind_18 ?_
  refine lv_topi (nm_r (e' := nI 16) (by decide) ?_)
  refine lv_icmp_ge (tgt := 170) hx hb dX12_findsBehind_19 (by decide) (fun c => absurd c (by decide)) (fun _ => ?_)
  refine lv_aload_n hx hb dX12_findsBehind_22 rfl (lv_at hl 2 rfl) ?_
  refine lv_iload_n hx hb dX12_findsBehind_23 rfl (lv_at hl 1 rfl) ?_
  refine lv_iload_n hx hb dX12_findsBehind_24 rfl (lv_at hl 0 rfl) ?_
  refine xi (wr := [(mst, .inl (cs 5, 2, .inr (.inr (.inr (.inr fst))))), (st0, .inl (cs 0, 96048, .inl q0)), (ms, .inl (cs 0, 288, .inl freshS))]) (xV (As := [.int (nI 3), .int (nI 3)]) (rest := []) C (c_X12_isSample_x l D cs hm ms mkp mtr mas mso mon mot man mst msm mtb mti mfr mbn mbs mde maa mab mba mbb 3 3 (by decide) (by decide)) kX12_139 hP hD [3] rfl (by decide +kernel) 0 rfl rfl rfl ⟨Nat.le_of_ble_eq_true rfl, Nat.le_of_ble_eq_true rfl⟩ rfl hl.1 rfl (Nat.le_of_ble_eq_true rfl) dX12_findsBehind_25 ⟨Nat.le_of_ble_eq_true rfl, Nat.le_of_ble_eq_true rfl⟩) hP hD hS hA [3] [0, 1, 2] rfl rfl (by decide +kernel) (by decide +kernel) ?_
  clear hP hD hS
  try clear locs
  try clear H
  intro r_53 u_54 H locs hw_r_53 hP hD hS
  have hw_r_53 : r_53 = smB 3 3 := hw_r_53
  refine W.widen (k := 0) (n := 0) (Nat.le_of_ble_eq_true rfl) (Nat.le_of_ble_eq_true rfl) ?_
  replace hP : va_P D vwCl [(mst, .inl (cs 5, 2, .inr (.inr (.inr (.inr fst))))), (st0, .inl (cs 0, 96048, .inl q0)), (ms, .inl (cs 0, 288, .inl freshS)), (hm, .inr (12, [.ref ms, .ref mkp, .int (nI 0), .ref mtr, .int (nI 4), .int (nI 2), .int (nI 2), .int (nI 3), .int (nI 2), .int (nI 1), .ref mas, .int (nI 0), .int (nI 0), .int (nI 0), .ref mso, .ref mon, .ref mot, .ref man, .int (nI 0), .int (nI 0), .ref mst, .ref msm, .ref mtb, .ref mti, .ref mfr, .ref mbn, .ref mbs, .ref mde, .int (nI 0), .int (nI 0), .int (nI 0), .int (nI 0), .long 0, .long 0, .ref maa, .ref mab, .ref mba, .ref mbb]))] H := hP
  replace hD : va_D A [(mst, .inl (cs 5, 2, .inr (.inr (.inr (.inr fst))))), (st0, .inl (cs 0, 96048, .inl q0)), (ms, .inl (cs 0, 288, .inl freshS)), (hm, .inr (12, [.ref ms, .ref mkp, .int (nI 0), .ref mtr, .int (nI 4), .int (nI 2), .int (nI 2), .int (nI 3), .int (nI 2), .int (nI 1), .ref mas, .int (nI 0), .int (nI 0), .int (nI 0), .ref mso, .ref mon, .ref mot, .ref man, .int (nI 0), .int (nI 0), .ref mst, .ref msm, .ref mtb, .ref mti, .ref mfr, .ref mbn, .ref mbs, .ref mde, .int (nI 0), .int (nI 0), .int (nI 0), .int (nI 0), .long 0, .long 0, .ref maa, .ref mab, .ref mba, .ref mbb]))] := hD
  obtain rfl : r_53 = nI 1 := by rw [hw_r_53]; decide +kernel
  refine lv_if_ne (tgt := 34) hx hb dX12_findsBehind_28 (by decide) (fun _ => ?_) (fun c => absurd c (by decide))
  refine lv_aload_n hx hb dX12_findsBehind_34 rfl (lv_at hl 2 rfl) ?_
  refine lv_iconst (v := nI 0) hx hb dX12_findsBehind_35 (by decide) ?_
  refine lv_iload_n hx hb dX12_findsBehind_36 rfl (lv_at hl 3 rfl) ?_
  refine xv (wr := []) (xV (As := [.int (nI 0), .int (nI 0)]) (rest := []) C (c_X12_brings_0 l D cs hm ms mkp mtr mas mso mon mot man mst msm mtb mti mfr mbn mbs mde maa mab mba mbb st0 fst q0 hf hq) kX12_203 hP hD [3, 2, 0, 1] rfl (by decide +kernel) 0 rfl rfl rfl ⟨Nat.le_of_ble_eq_true rfl, Nat.le_of_ble_eq_true rfl⟩ rfl hl.1 rfl (Nat.le_of_ble_eq_true rfl) dX12_findsBehind_37 ⟨Nat.le_of_ble_eq_true rfl, Nat.le_of_ble_eq_true rfl⟩) hP hD hS hA [3, 2, 0, 1] [] rfl rfl (by decide +kernel) (by decide +kernel) ?_
  clear hP hD hS
  try clear locs
  try clear H
  intro u_56 H locs hw_r_55 hP hD hS
  refine W.widen (k := 0) (n := 0) (Nat.le_of_ble_eq_true rfl) (Nat.le_of_ble_eq_true rfl) ?_
  replace hP : va_P D vwCl [(hm, .inr (12, [.ref ms, .ref mkp, .int (nI 0), .ref mtr, .int (nI 4), .int (nI 2), .int (nI 2), .int (nI 3), .int (nI 2), .int (nI 1), .ref mas, .int (nI 0), .int (nI 0), .int (nI 0), .ref mso, .ref mon, .ref mot, .ref man, .int (nI 0), .int (nI 0), .ref mst, .ref msm, .ref mtb, .ref mti, .ref mfr, .ref mbn, .ref mbs, .ref mde, .int (nI 0), .int (nI 0), .int (nI 0), .int (nI 0), .long 0, .long 0, .ref maa, .ref mab, .ref mba, .ref mbb])), (ms, .inl (cs 0, 288, .inl freshS)), (mst, .inl (cs 5, 2, .inr (.inr (.inr (.inr fst))))), (st0, .inl (cs 0, 96048, .inl q0))] H := hP
  replace hD : va_D A [(hm, .inr (12, [.ref ms, .ref mkp, .int (nI 0), .ref mtr, .int (nI 4), .int (nI 2), .int (nI 2), .int (nI 3), .int (nI 2), .int (nI 1), .ref mas, .int (nI 0), .int (nI 0), .int (nI 0), .ref mso, .ref mon, .ref mot, .ref man, .int (nI 0), .int (nI 0), .ref mst, .ref msm, .ref mtb, .ref mti, .ref mfr, .ref mbn, .ref mbs, .ref mde, .int (nI 0), .int (nI 0), .int (nI 0), .int (nI 0), .long 0, .long 0, .ref maa, .ref mab, .ref mba, .ref mbb])), (ms, .inl (cs 0, 288, .inl freshS)), (mst, .inl (cs 5, 2, .inr (.inr (.inr (.inr fst))))), (st0, .inl (cs 0, 96048, .inl q0))] := hD
  refine lv_aload_n hx hb dX12_findsBehind_40 rfl (lv_at hl 2 rfl) ?_
  refine lv_iload_n hx hb dX12_findsBehind_41 rfl (lv_at hl 1 rfl) ?_
  refine xi (wr := [(mst, .inl (cs 5, 2, .inr (.inr (.inr (.inr fst))))), (st0, .inl (cs 0, 96048, .inl q0))]) (xV (As := [.int (nI 3)]) (rest := []) C (c_X12_canAsk_z l D cs hm ms mkp mtr mas mso mon mot man mst msm mtb mti mfr mbn mbs mde maa mab mba mbb 3 (by decide)) kX12_142 hP hD [0, 1] rfl (by decide +kernel) 0 rfl rfl rfl ⟨Nat.le_of_ble_eq_true rfl, Nat.le_of_ble_eq_true rfl⟩ rfl hl.1 rfl (Nat.le_of_ble_eq_true rfl) dX12_findsBehind_42 ⟨Nat.le_of_ble_eq_true rfl, Nat.le_of_ble_eq_true rfl⟩) hP hD hS hA [0, 1] [2, 3] rfl rfl (by decide +kernel) (by decide +kernel) ?_
  clear hP hD hS
  try clear locs
  try clear H
  intro r_57 u_58 H locs hw_r_57 hP hD hS
  have hw_r_57 : r_57 = nI 0 := hw_r_57
  refine W.widen (k := 0) (n := 0) (Nat.le_of_ble_eq_true rfl) (Nat.le_of_ble_eq_true rfl) ?_
  replace hP : va_P D vwCl [(mst, .inl (cs 5, 2, .inr (.inr (.inr (.inr fst))))), (st0, .inl (cs 0, 96048, .inl q0)), (hm, .inr (12, [.ref ms, .ref mkp, .int (nI 0), .ref mtr, .int (nI 4), .int (nI 2), .int (nI 2), .int (nI 3), .int (nI 2), .int (nI 1), .ref mas, .int (nI 0), .int (nI 0), .int (nI 0), .ref mso, .ref mon, .ref mot, .ref man, .int (nI 0), .int (nI 0), .ref mst, .ref msm, .ref mtb, .ref mti, .ref mfr, .ref mbn, .ref mbs, .ref mde, .int (nI 0), .int (nI 0), .int (nI 0), .int (nI 0), .long 0, .long 0, .ref maa, .ref mab, .ref mba, .ref mbb])), (ms, .inl (cs 0, 288, .inl freshS))] H := hP
  replace hD : va_D A [(mst, .inl (cs 5, 2, .inr (.inr (.inr (.inr fst))))), (st0, .inl (cs 0, 96048, .inl q0)), (hm, .inr (12, [.ref ms, .ref mkp, .int (nI 0), .ref mtr, .int (nI 4), .int (nI 2), .int (nI 2), .int (nI 3), .int (nI 2), .int (nI 1), .ref mas, .int (nI 0), .int (nI 0), .int (nI 0), .ref mso, .ref mon, .ref mot, .ref man, .int (nI 0), .int (nI 0), .ref mst, .ref msm, .ref mtb, .ref mti, .ref mfr, .ref mbn, .ref mbs, .ref mde, .int (nI 0), .int (nI 0), .int (nI 0), .int (nI 0), .long 0, .long 0, .ref maa, .ref mab, .ref mba, .ref mbb])), (ms, .inl (cs 0, 288, .inl freshS))] := hD
  subst hw_r_57
  refine lv_if_ne (tgt := 51) hx hb dX12_findsBehind_45 (by decide) (fun c => absurd (by decide) c) (fun _ => ?_)
  refine lv_goto (tgt := 170) hx hb dX12_findsBehind_48 (by decide) ?_
  refine lv_iinc (v := nI 4) (lv' := [(2, .int (nI 4)), (3, .int (nI 3)), (0, .ref hm), (1, .int (nI 0))]) hx hb dX12_findsBehind_170 hl (k := 1) rfl (by decide) (by decide) rfl ?_
  clear hl
  try clear ls
  intro ls hl
  refine lv_goto (tgt := 2) hx hb dX12_findsBehind_173 (by decide) ?_
  refine lv_iload_n hx hb dX12_findsBehind_2 rfl (lv_at hl 0 rfl) ?_
  refine lv_aload_n hx hb dX12_findsBehind_3 rfl (lv_at hl 2 rfl) ?_
  refine xget C hP 2 rfl rfl zuX12 4 (by decide) zw5_217 rfl dX12_findsBehind_4 ?_
  refine lv_icmp_ge (tgt := 176) hx hb dX12_findsBehind_7 (by decide) (fun _ => ?_) (fun c => absurd (by decide) c)
  refine lv_iconst (v := (-1)) hx hb dX12_findsBehind_176 (by decide) ?_
  exact xreti C () rfl (xP_map hP [2, 3, 0, 1] rfl) (hD.sub [2, 3, 0, 1] (by decide +kernel) rfl) hS (Nat.le_of_ble_eq_true rfl) (Nat.le_of_ble_eq_true rfl) rfl dX12_findsBehind_177

set_option maxHeartbeats 4000000 in
set_option maxRecDepth 100000 in
theorem c_X12_finds (l : Launch) (D : va_G) (cs : Nat → ClassId) (hm ms mkp mtr mas mso mon mot man mst msm mtb mti mfr mbn mbs mde maa mab mba mbb : Nat) (tf de : Nat → Int32) : xMet l D cs yX12_finds cX12_finds 3 (some .int) ({ frames := 4, cells := 6, slots := 212482, locals := 90 } : Room) [.ref hm] [(hm, .inr (12, [.ref ms, .ref mkp, .int (nI 0), .ref mtr, .int (nI 4), .int (nI 2), .int (nI 2), .int (nI 3), .int (nI 2), .int (nI 1), .ref mas, .int (nI 0), .int (nI 0), .int (nI 0), .ref mso, .ref mon, .ref mot, .ref man, .int (nI 0), .int (nI 0), .ref mst, .ref msm, .ref mtb, .ref mti, .ref mfr, .ref mbn, .ref mbs, .ref mde, .int (nI 0), .int (nI 0), .int (nI 0), .int (nI 0), .long 0, .long 0, .ref maa, .ref mab, .ref mba, .ref mbb])), (ms, .inl (cs 0, 288, .inl freshS)), (mtr, .inl (cs 0, 288, .inl tf)), (msm, .inl (cs 0, 2, .inl (fun _ => 0))), (mst, .inl (cs 5, 2, .inr (.inr (.inr (.inr (fun _ => none)))))), (mtb, .inl (cs 5, 2, .inr (.inr (.inr (.inr (fun _ => none)))))), (mti, .inl (cs 6, 2, .inr (.inr (.inr (.inr (fun _ => none)))))), (mde, .inl (cs 0, 2001, .inl de))] (xQi D (fun (r : Int32) (_u : Unit) => r = -1) (fun (_u : Unit) => [])) := by
  refine xMet.intro (by decide) (Nat.le_of_ble_eq_true rfl) ?_
  intro p e s m args below meth c A ls C hP hD hS hl
  have hx := C.1
  have hb := C.2.1
  have hz := C.2.2.2.2.1
  have hown := C.2.2.2.1
  have hA := C.2.2.2.2.2.2.2.2.2
  have hAO := C.2.2.2.2.2.2.2.2.1.2.2
  replace hl : lv_has ls 3 [(0, .ref hm)] := hl
  obtain ⟨H, hH⟩ : ∃ H, H = s.heap := ⟨_, rfl⟩
  replace hP : va_P D vwCl [(hm, .inr (12, [.ref ms, .ref mkp, .int (nI 0), .ref mtr, .int (nI 4), .int (nI 2), .int (nI 2), .int (nI 3), .int (nI 2), .int (nI 1), .ref mas, .int (nI 0), .int (nI 0), .int (nI 0), .ref mso, .ref mon, .ref mot, .ref man, .int (nI 0), .int (nI 0), .ref mst, .ref msm, .ref mtb, .ref mti, .ref mfr, .ref mbn, .ref mbs, .ref mde, .int (nI 0), .int (nI 0), .int (nI 0), .int (nI 0), .long 0, .long 0, .ref maa, .ref mab, .ref mba, .ref mbb])), (ms, .inl (cs 0, 288, .inl freshS)), (mtr, .inl (cs 0, 288, .inl tf)), (msm, .inl (cs 0, 2, .inl (fun _ => 0))), (mst, .inl (cs 5, 2, .inr (.inr (.inr (.inr (fun _ => none)))))), (mtb, .inl (cs 5, 2, .inr (.inr (.inr (.inr (fun _ => none)))))), (mti, .inl (cs 6, 2, .inr (.inr (.inr (.inr (fun _ => none)))))), (mde, .inl (cs 0, 2001, .inl de))] H := by rw [hH]; exact hP
  replace hS : va_S A s.heap H [] := by rw [hH]; exact hS
  obtain ⟨locs, hlocs⟩ : ∃ z : List Loc, z = [] := ⟨_, rfl⟩
  rw [← hlocs] at hS
  suffices hW : W p l e ({ frames := 4, cells := 6, slots := 212482, locals := 90 } : Room) s m args below meth c H locs 0 0 (MQ below ((xQi D (fun (r : Int32) (_u : Unit) => r = -1) (fun (_u : Unit) => [])) A) args s 6 212482 A) (F0 m 0 ls []) by rw [hlocs, hH] at hW; exact hW
  clear hH hlocs
  refine lv_aload_n hx hb dX12_finds_0 rfl (lv_at hl 0 rfl) ?_
  refine xi (wr := [(mtr, .inl (cs 0, 288, .inl tf)), (msm, .inl (cs 0, 2, .inl (fun _ => 0))), (mst, .inl (cs 5, 2, .inr (.inr (.inr (.inr (fun _ => none)))))), (mtb, .inl (cs 5, 2, .inr (.inr (.inr (.inr (fun _ => none)))))), (mti, .inl (cs 6, 2, .inr (.inr (.inr (.inr (fun _ => none)))))), (mde, .inl (cs 0, 2001, .inl de))]) (xV (As := []) (rest := []) C (c_X12_areSplit_z l D cs hm ms mkp mtr mas mso mon mot man mst msm mtb mti mfr mbn mbs mde maa mab mba mbb) kX12_211 hP hD [0, 1] rfl (by decide +kernel) 0 rfl rfl rfl ⟨Nat.le_of_ble_eq_true rfl, Nat.le_of_ble_eq_true rfl⟩ rfl hl.1 rfl (Nat.le_of_ble_eq_true rfl) dX12_finds_1 ⟨Nat.le_of_ble_eq_true rfl, Nat.le_of_ble_eq_true rfl⟩) hP hD hS hA [0, 1] [2, 3, 4, 5, 6, 7] rfl rfl (by decide +kernel) (by decide +kernel) ?_
  clear hP hD hS
  try clear locs
  try clear H
  intro r_1 u_2 H locs hw_r_1 hP hD hS
  have hw_r_1 : r_1 = nI 0 := hw_r_1
  refine W.widen (k := 0) (n := 0) (Nat.le_of_ble_eq_true rfl) (Nat.le_of_ble_eq_true rfl) ?_
  replace hP : va_P D vwCl [(mtr, .inl (cs 0, 288, .inl tf)), (msm, .inl (cs 0, 2, .inl (fun _ => 0))), (mst, .inl (cs 5, 2, .inr (.inr (.inr (.inr (fun _ => none)))))), (mtb, .inl (cs 5, 2, .inr (.inr (.inr (.inr (fun _ => none)))))), (mti, .inl (cs 6, 2, .inr (.inr (.inr (.inr (fun _ => none)))))), (mde, .inl (cs 0, 2001, .inl de)), (hm, .inr (12, [.ref ms, .ref mkp, .int (nI 0), .ref mtr, .int (nI 4), .int (nI 2), .int (nI 2), .int (nI 3), .int (nI 2), .int (nI 1), .ref mas, .int (nI 0), .int (nI 0), .int (nI 0), .ref mso, .ref mon, .ref mot, .ref man, .int (nI 0), .int (nI 0), .ref mst, .ref msm, .ref mtb, .ref mti, .ref mfr, .ref mbn, .ref mbs, .ref mde, .int (nI 0), .int (nI 0), .int (nI 0), .int (nI 0), .long 0, .long 0, .ref maa, .ref mab, .ref mba, .ref mbb])), (ms, .inl (cs 0, 288, .inl freshS))] H := hP
  replace hD : va_D A [(mtr, .inl (cs 0, 288, .inl tf)), (msm, .inl (cs 0, 2, .inl (fun _ => 0))), (mst, .inl (cs 5, 2, .inr (.inr (.inr (.inr (fun _ => none)))))), (mtb, .inl (cs 5, 2, .inr (.inr (.inr (.inr (fun _ => none)))))), (mti, .inl (cs 6, 2, .inr (.inr (.inr (.inr (fun _ => none)))))), (mde, .inl (cs 0, 2001, .inl de)), (hm, .inr (12, [.ref ms, .ref mkp, .int (nI 0), .ref mtr, .int (nI 4), .int (nI 2), .int (nI 2), .int (nI 3), .int (nI 2), .int (nI 1), .ref mas, .int (nI 0), .int (nI 0), .int (nI 0), .ref mso, .ref mon, .ref mot, .ref man, .int (nI 0), .int (nI 0), .ref mst, .ref msm, .ref mtb, .ref mti, .ref mfr, .ref mbn, .ref mbs, .ref mde, .int (nI 0), .int (nI 0), .int (nI 0), .int (nI 0), .long 0, .long 0, .ref maa, .ref mab, .ref mba, .ref mbb])), (ms, .inl (cs 0, 288, .inl freshS))] := hD
  subst hw_r_1
  refine lv_if_eq (tgt := 9) hx hb dX12_finds_4 (by decide) (fun _ => ?_) (fun c => absurd (by decide) c)
  refine lv_aload_n hx hb dX12_finds_9 rfl (lv_at hl 0 rfl) ?_
  refine xv (wr := [(mtr, .inl (cs 0, 288, .inl tf)), (msm, .inl (cs 0, 2, .inl (fun _ => 0))), (mde, .inl (cs 0, 2001, .inl de)), (ms, .inl (cs 0, 288, .inl freshS))]) (xV (As := []) (rest := []) C (c_X12_room_z l D cs hm ms mkp mtr mas mso mon mot man mst msm mtb mti mfr mbn mbs mde maa mab mba mbb) kX12_190 hP hD [6, 2, 3, 4] rfl (by decide +kernel) 0 rfl rfl rfl ⟨Nat.le_of_ble_eq_true rfl, Nat.le_of_ble_eq_true rfl⟩ rfl hl.1 rfl (Nat.le_of_ble_eq_true rfl) dX12_finds_10 ⟨Nat.le_of_ble_eq_true rfl, Nat.le_of_ble_eq_true rfl⟩) hP hD hS hA [6, 2, 3, 4] [0, 1, 5, 7] rfl rfl (by decide +kernel) (by decide +kernel) ?_
  clear hP hD hS
  try clear locs
  try clear H
  intro u_4 H locs hw_r_3 hP hD hS
  obtain ⟨st0_5, st1_6, tb0_7, tb1_8, ti0_9, ti1_10⟩ := u_4
  refine W.widen (k := 6) (n := 212482) (Nat.le_of_ble_eq_true rfl) (Nat.le_of_ble_eq_true rfl) ?_
  replace hP : va_P D vwCl [(mtr, .inl (cs 0, 288, .inl tf)), (msm, .inl (cs 0, 2, .inl (fun _ => 0))), (mde, .inl (cs 0, 2001, .inl de)), (ms, .inl (cs 0, 288, .inl freshS)), (hm, .inr (12, [.ref ms, .ref mkp, .int (nI 0), .ref mtr, .int (nI 4), .int (nI 2), .int (nI 2), .int (nI 3), .int (nI 2), .int (nI 1), .ref mas, .int (nI 0), .int (nI 0), .int (nI 0), .ref mso, .ref mon, .ref mot, .ref man, .int (nI 0), .int (nI 0), .ref mst, .ref msm, .ref mtb, .ref mti, .ref mfr, .ref mbn, .ref mbs, .ref mde, .int (nI 0), .int (nI 0), .int (nI 0), .int (nI 0), .long 0, .long 0, .ref maa, .ref mab, .ref mba, .ref mbb])), (mst, .inl (cs 5, 2, .inr (.inr (.inr (.inr (va_up (va_up (fun _ => none) 0 (some st0_5)) 1 (some st1_6))))))), (mtb, .inl (cs 5, 2, .inr (.inr (.inr (.inr (va_up (va_up (fun _ => none) 0 (some tb0_7)) 1 (some tb1_8))))))), (mti, .inl (cs 6, 2, .inr (.inr (.inr (.inr (va_up (va_up (fun _ => none) 0 (some ti0_9)) 1 (some ti1_10))))))), (st0_5, .inl (cs 0, 96048, .inl (fun _ => 0))), (st1_6, .inl (cs 0, 96048, .inl (fun _ => 0))), (tb0_7, .inl (cs 0, 8192, .inl (fun _ => 0))), (tb1_8, .inl (cs 0, 8192, .inl (fun _ => 0))), (ti0_9, .inl (cs 1, 2001, .inr (.inl (fun _ => 0)))), (ti1_10, .inl (cs 1, 2001, .inr (.inl (fun _ => 0))))] H := hP
  replace hD : va_D A [(mtr, .inl (cs 0, 288, .inl tf)), (msm, .inl (cs 0, 2, .inl (fun _ => 0))), (mde, .inl (cs 0, 2001, .inl de)), (ms, .inl (cs 0, 288, .inl freshS)), (hm, .inr (12, [.ref ms, .ref mkp, .int (nI 0), .ref mtr, .int (nI 4), .int (nI 2), .int (nI 2), .int (nI 3), .int (nI 2), .int (nI 1), .ref mas, .int (nI 0), .int (nI 0), .int (nI 0), .ref mso, .ref mon, .ref mot, .ref man, .int (nI 0), .int (nI 0), .ref mst, .ref msm, .ref mtb, .ref mti, .ref mfr, .ref mbn, .ref mbs, .ref mde, .int (nI 0), .int (nI 0), .int (nI 0), .int (nI 0), .long 0, .long 0, .ref maa, .ref mab, .ref mba, .ref mbb])), (mst, .inl (cs 5, 2, .inr (.inr (.inr (.inr (va_up (va_up (fun _ => none) 0 (some st0_5)) 1 (some st1_6))))))), (mtb, .inl (cs 5, 2, .inr (.inr (.inr (.inr (va_up (va_up (fun _ => none) 0 (some tb0_7)) 1 (some tb1_8))))))), (mti, .inl (cs 6, 2, .inr (.inr (.inr (.inr (va_up (va_up (fun _ => none) 0 (some ti0_9)) 1 (some ti1_10))))))), (st0_5, .inl (cs 0, 96048, .inl (fun _ => 0))), (st1_6, .inl (cs 0, 96048, .inl (fun _ => 0))), (tb0_7, .inl (cs 0, 8192, .inl (fun _ => 0))), (tb1_8, .inl (cs 0, 8192, .inl (fun _ => 0))), (ti0_9, .inl (cs 1, 2001, .inr (.inl (fun _ => 0)))), (ti1_10, .inl (cs 1, 2001, .inr (.inl (fun _ => 0))))] := hD
  refine lv_aload_n hx hb dX12_finds_13 rfl (lv_at hl 0 rfl) ?_
  refine lv_iconst (v := nI 0) hx hb dX12_finds_14 (by decide) ?_
  refine xv (wr := [(mtr, .inl (cs 0, 288, .inl tf)), (mde, .inl (cs 0, 2001, .inl de)), (ms, .inl (cs 0, 288, .inl freshS)), (mst, .inl (cs 5, 2, .inr (.inr (.inr (.inr (va_up (va_up (fun _ => none) 0 (some st0_5)) 1 (some st1_6))))))), (mti, .inl (cs 6, 2, .inr (.inr (.inr (.inr (va_up (va_up (fun _ => none) 0 (some ti0_9)) 1 (some ti1_10))))))), (st0_5, .inl (cs 0, 96048, .inl (fun _ => 0))), (st1_6, .inl (cs 0, 96048, .inl (fun _ => 0))), (tb1_8, .inl (cs 0, 8192, .inl (fun _ => 0))), (ti0_9, .inl (cs 1, 2001, .inr (.inl (fun _ => 0)))), (ti1_10, .inl (cs 1, 2001, .inr (.inl (fun _ => 0))))]) (xV (As := [.int (nI 0)]) (rest := []) C (c_X12_clears_0 l D cs hm ms mkp mtr mas mso mon mot man mst msm mtb mti mfr mbn mbs mde maa mab mba mbb tb0_7 (va_up (va_up (fun _ => none) 0 (some tb0_7)) 1 (some tb1_8)) (fun _ => 0) (fun _ => 0) rfl) kX12_193 hP hD [4, 1, 6, 10] rfl (by decide +kernel) 0 rfl rfl rfl ⟨Nat.le_of_ble_eq_true rfl, Nat.le_of_ble_eq_true rfl⟩ rfl hl.1 rfl (Nat.le_of_ble_eq_true rfl) dX12_finds_15 ⟨Nat.le_of_ble_eq_true rfl, Nat.le_of_ble_eq_true rfl⟩) hP hD hS hA [4, 1, 6, 10] [0, 2, 3, 5, 7, 8, 9, 11, 12, 13] rfl rfl (by decide +kernel) (by decide +kernel) ?_
  clear hP hD hS
  try clear locs
  try clear H
  intro u_12 H locs hw_r_11 hP hD hS
  refine W.widen (k := 6) (n := 212482) (Nat.le_of_ble_eq_true rfl) (Nat.le_of_ble_eq_true rfl) ?_
  replace hP : va_P D vwCl [(mtr, .inl (cs 0, 288, .inl tf)), (mde, .inl (cs 0, 2001, .inl de)), (ms, .inl (cs 0, 288, .inl freshS)), (mst, .inl (cs 5, 2, .inr (.inr (.inr (.inr (va_up (va_up (fun _ => none) 0 (some st0_5)) 1 (some st1_6))))))), (mti, .inl (cs 6, 2, .inr (.inr (.inr (.inr (va_up (va_up (fun _ => none) 0 (some ti0_9)) 1 (some ti1_10))))))), (st0_5, .inl (cs 0, 96048, .inl (fun _ => 0))), (st1_6, .inl (cs 0, 96048, .inl (fun _ => 0))), (tb1_8, .inl (cs 0, 8192, .inl (fun _ => 0))), (ti0_9, .inl (cs 1, 2001, .inr (.inl (fun _ => 0)))), (ti1_10, .inl (cs 1, 2001, .inr (.inl (fun _ => 0)))), (hm, .inr (12, [.ref ms, .ref mkp, .int (nI 0), .ref mtr, .int (nI 4), .int (nI 2), .int (nI 2), .int (nI 3), .int (nI 2), .int (nI 1), .ref mas, .int (nI 0), .int (nI 0), .int (nI 0), .ref mso, .ref mon, .ref mot, .ref man, .int (nI 0), .int (nI 0), .ref mst, .ref msm, .ref mtb, .ref mti, .ref mfr, .ref mbn, .ref mbs, .ref mde, .int (nI 0), .int (nI 0), .int (nI 0), .int (nI 0), .long 0, .long 0, .ref maa, .ref mab, .ref mba, .ref mbb])), (msm, .inl (cs 0, 2, .inl (upd (fun _ => 0) 0 (nI 0)))), (mtb, .inl (cs 5, 2, .inr (.inr (.inr (.inr (va_up (va_up (fun _ => none) 0 (some tb0_7)) 1 (some tb1_8))))))), (tb0_7, .inl (cs 0, 8192, .inl (fun _ => nI 0)))] H := hP
  replace hD : va_D A [(mtr, .inl (cs 0, 288, .inl tf)), (mde, .inl (cs 0, 2001, .inl de)), (ms, .inl (cs 0, 288, .inl freshS)), (mst, .inl (cs 5, 2, .inr (.inr (.inr (.inr (va_up (va_up (fun _ => none) 0 (some st0_5)) 1 (some st1_6))))))), (mti, .inl (cs 6, 2, .inr (.inr (.inr (.inr (va_up (va_up (fun _ => none) 0 (some ti0_9)) 1 (some ti1_10))))))), (st0_5, .inl (cs 0, 96048, .inl (fun _ => 0))), (st1_6, .inl (cs 0, 96048, .inl (fun _ => 0))), (tb1_8, .inl (cs 0, 8192, .inl (fun _ => 0))), (ti0_9, .inl (cs 1, 2001, .inr (.inl (fun _ => 0)))), (ti1_10, .inl (cs 1, 2001, .inr (.inl (fun _ => 0)))), (hm, .inr (12, [.ref ms, .ref mkp, .int (nI 0), .ref mtr, .int (nI 4), .int (nI 2), .int (nI 2), .int (nI 3), .int (nI 2), .int (nI 1), .ref mas, .int (nI 0), .int (nI 0), .int (nI 0), .ref mso, .ref mon, .ref mot, .ref man, .int (nI 0), .int (nI 0), .ref mst, .ref msm, .ref mtb, .ref mti, .ref mfr, .ref mbn, .ref mbs, .ref mde, .int (nI 0), .int (nI 0), .int (nI 0), .int (nI 0), .long 0, .long 0, .ref maa, .ref mab, .ref mba, .ref mbb])), (msm, .inl (cs 0, 2, .inl (upd (fun _ => 0) 0 (nI 0)))), (mtb, .inl (cs 5, 2, .inr (.inr (.inr (.inr (va_up (va_up (fun _ => none) 0 (some tb0_7)) 1 (some tb1_8))))))), (tb0_7, .inl (cs 0, 8192, .inl (fun _ => nI 0)))] := hD
  have hPD := xcongi (q0 := 11) (smF2 (nI 0) (nI 0)) hP hD rfl (fun j hj => sm2_00 j hj)
  clear hP hD
  obtain ⟨hP, hD⟩ := hPD
  replace hP : va_P D vwCl [(mtr, .inl (cs 0, 288, .inl tf)), (mde, .inl (cs 0, 2001, .inl de)), (ms, .inl (cs 0, 288, .inl freshS)), (mst, .inl (cs 5, 2, .inr (.inr (.inr (.inr (va_up (va_up (fun _ => none) 0 (some st0_5)) 1 (some st1_6))))))), (mti, .inl (cs 6, 2, .inr (.inr (.inr (.inr (va_up (va_up (fun _ => none) 0 (some ti0_9)) 1 (some ti1_10))))))), (st0_5, .inl (cs 0, 96048, .inl (fun _ => 0))), (st1_6, .inl (cs 0, 96048, .inl (fun _ => 0))), (tb1_8, .inl (cs 0, 8192, .inl (fun _ => 0))), (ti0_9, .inl (cs 1, 2001, .inr (.inl (fun _ => 0)))), (ti1_10, .inl (cs 1, 2001, .inr (.inl (fun _ => 0)))), (hm, .inr (12, [.ref ms, .ref mkp, .int (nI 0), .ref mtr, .int (nI 4), .int (nI 2), .int (nI 2), .int (nI 3), .int (nI 2), .int (nI 1), .ref mas, .int (nI 0), .int (nI 0), .int (nI 0), .ref mso, .ref mon, .ref mot, .ref man, .int (nI 0), .int (nI 0), .ref mst, .ref msm, .ref mtb, .ref mti, .ref mfr, .ref mbn, .ref mbs, .ref mde, .int (nI 0), .int (nI 0), .int (nI 0), .int (nI 0), .long 0, .long 0, .ref maa, .ref mab, .ref mba, .ref mbb])), (msm, .inl (cs 0, 2, .inl (smF2 (nI 0) (nI 0)))), (mtb, .inl (cs 5, 2, .inr (.inr (.inr (.inr (va_up (va_up (fun _ => none) 0 (some tb0_7)) 1 (some tb1_8))))))), (tb0_7, .inl (cs 0, 8192, .inl (fun _ => nI 0)))] H := hP
  replace hD : va_D A [(mtr, .inl (cs 0, 288, .inl tf)), (mde, .inl (cs 0, 2001, .inl de)), (ms, .inl (cs 0, 288, .inl freshS)), (mst, .inl (cs 5, 2, .inr (.inr (.inr (.inr (va_up (va_up (fun _ => none) 0 (some st0_5)) 1 (some st1_6))))))), (mti, .inl (cs 6, 2, .inr (.inr (.inr (.inr (va_up (va_up (fun _ => none) 0 (some ti0_9)) 1 (some ti1_10))))))), (st0_5, .inl (cs 0, 96048, .inl (fun _ => 0))), (st1_6, .inl (cs 0, 96048, .inl (fun _ => 0))), (tb1_8, .inl (cs 0, 8192, .inl (fun _ => 0))), (ti0_9, .inl (cs 1, 2001, .inr (.inl (fun _ => 0)))), (ti1_10, .inl (cs 1, 2001, .inr (.inl (fun _ => 0)))), (hm, .inr (12, [.ref ms, .ref mkp, .int (nI 0), .ref mtr, .int (nI 4), .int (nI 2), .int (nI 2), .int (nI 3), .int (nI 2), .int (nI 1), .ref mas, .int (nI 0), .int (nI 0), .int (nI 0), .ref mso, .ref mon, .ref mot, .ref man, .int (nI 0), .int (nI 0), .ref mst, .ref msm, .ref mtb, .ref mti, .ref mfr, .ref mbn, .ref mbs, .ref mde, .int (nI 0), .int (nI 0), .int (nI 0), .int (nI 0), .long 0, .long 0, .ref maa, .ref mab, .ref mba, .ref mbb])), (msm, .inl (cs 0, 2, .inl (smF2 (nI 0) (nI 0)))), (mtb, .inl (cs 5, 2, .inr (.inr (.inr (.inr (va_up (va_up (fun _ => none) 0 (some tb0_7)) 1 (some tb1_8))))))), (tb0_7, .inl (cs 0, 8192, .inl (fun _ => nI 0)))] := hD
  refine lv_aload_n hx hb dX12_finds_18 rfl (lv_at hl 0 rfl) ?_
  refine lv_aload_n hx hb dX12_finds_19 rfl (lv_at hl 0 rfl) ?_
  refine xget C hP 10 rfl rfl zuX12 0 (by decide) zw5_213 rfl dX12_finds_20 ?_
  refine lv_aload_n hx hb dX12_finds_23 rfl (lv_at hl 0 rfl) ?_
  refine xget C hP 10 rfl rfl zuX12 3 (by decide) zw5_216 rfl dX12_finds_24 ?_
  refine xv (wr := [(mde, .inl (cs 0, 2001, .inl de)), (mst, .inl (cs 5, 2, .inr (.inr (.inr (.inr (va_up (va_up (fun _ => none) 0 (some st0_5)) 1 (some st1_6))))))), (mti, .inl (cs 6, 2, .inr (.inr (.inr (.inr (va_up (va_up (fun _ => none) 0 (some ti0_9)) 1 (some ti1_10))))))), (st0_5, .inl (cs 0, 96048, .inl (fun _ => 0))), (st1_6, .inl (cs 0, 96048, .inl (fun _ => 0))), (tb1_8, .inl (cs 0, 8192, .inl (fun _ => 0))), (ti0_9, .inl (cs 1, 2001, .inr (.inl (fun _ => 0)))), (ti1_10, .inl (cs 1, 2001, .inr (.inl (fun _ => 0)))), (msm, .inl (cs 0, 2, .inl (smF2 (nI 0) (nI 0)))), (mtb, .inl (cs 5, 2, .inr (.inr (.inr (.inr (va_up (va_up (fun _ => none) 0 (some tb0_7)) 1 (some tb1_8))))))), (tb0_7, .inl (cs 0, 8192, .inl (fun _ => nI 0)))]) (xV (As := [.ref ms, .ref mtr]) (rest := []) C (c_X12_puts_m l D cs hm ms mkp mtr mas mso mon mot man mst msm mtb mti mfr mbn mbs mde maa mab mba mbb ms mtr freshS tf) kX12_148 hP hD [10, 2, 0] rfl (by decide +kernel) 0 rfl rfl rfl ⟨Nat.le_of_ble_eq_true rfl, Nat.le_of_ble_eq_true rfl⟩ rfl hl.1 rfl (Nat.le_of_ble_eq_true rfl) dX12_finds_27 ⟨Nat.le_of_ble_eq_true rfl, Nat.le_of_ble_eq_true rfl⟩) hP hD hS hA [10, 2, 0] [1, 3, 4, 5, 6, 7, 8, 9, 11, 12, 13] rfl rfl (by decide +kernel) (by decide +kernel) ?_
  clear hP hD hS
  try clear locs
  try clear H
  intro u_14 H locs hw_r_13 hP hD hS
  refine W.widen (k := 6) (n := 212482) (Nat.le_of_ble_eq_true rfl) (Nat.le_of_ble_eq_true rfl) ?_
  replace hP : va_P D vwCl [(mde, .inl (cs 0, 2001, .inl de)), (mst, .inl (cs 5, 2, .inr (.inr (.inr (.inr (va_up (va_up (fun _ => none) 0 (some st0_5)) 1 (some st1_6))))))), (mti, .inl (cs 6, 2, .inr (.inr (.inr (.inr (va_up (va_up (fun _ => none) 0 (some ti0_9)) 1 (some ti1_10))))))), (st0_5, .inl (cs 0, 96048, .inl (fun _ => 0))), (st1_6, .inl (cs 0, 96048, .inl (fun _ => 0))), (tb1_8, .inl (cs 0, 8192, .inl (fun _ => 0))), (ti0_9, .inl (cs 1, 2001, .inr (.inl (fun _ => 0)))), (ti1_10, .inl (cs 1, 2001, .inr (.inl (fun _ => 0)))), (msm, .inl (cs 0, 2, .inl (smF2 (nI 0) (nI 0)))), (mtb, .inl (cs 5, 2, .inr (.inr (.inr (.inr (va_up (va_up (fun _ => none) 0 (some tb0_7)) 1 (some tb1_8))))))), (tb0_7, .inl (cs 0, 8192, .inl (fun _ => nI 0))), (hm, .inr (12, [.ref ms, .ref mkp, .int (nI 0), .ref mtr, .int (nI 4), .int (nI 2), .int (nI 2), .int (nI 3), .int (nI 2), .int (nI 1), .ref mas, .int (nI 0), .int (nI 0), .int (nI 0), .ref mso, .ref mon, .ref mot, .ref man, .int (nI 0), .int (nI 0), .ref mst, .ref msm, .ref mtb, .ref mti, .ref mfr, .ref mbn, .ref mbs, .ref mde, .int (nI 0), .int (nI 0), .int (nI 0), .int (nI 0), .long 0, .long 0, .ref maa, .ref mab, .ref mba, .ref mbb])), (ms, .inl (cs 0, 288, .inl freshS)), (mtr, .inl (cs 0, 288, .inl freshS))] H := hP
  replace hD : va_D A [(mde, .inl (cs 0, 2001, .inl de)), (mst, .inl (cs 5, 2, .inr (.inr (.inr (.inr (va_up (va_up (fun _ => none) 0 (some st0_5)) 1 (some st1_6))))))), (mti, .inl (cs 6, 2, .inr (.inr (.inr (.inr (va_up (va_up (fun _ => none) 0 (some ti0_9)) 1 (some ti1_10))))))), (st0_5, .inl (cs 0, 96048, .inl (fun _ => 0))), (st1_6, .inl (cs 0, 96048, .inl (fun _ => 0))), (tb1_8, .inl (cs 0, 8192, .inl (fun _ => 0))), (ti0_9, .inl (cs 1, 2001, .inr (.inl (fun _ => 0)))), (ti1_10, .inl (cs 1, 2001, .inr (.inl (fun _ => 0)))), (msm, .inl (cs 0, 2, .inl (smF2 (nI 0) (nI 0)))), (mtb, .inl (cs 5, 2, .inr (.inr (.inr (.inr (va_up (va_up (fun _ => none) 0 (some tb0_7)) 1 (some tb1_8))))))), (tb0_7, .inl (cs 0, 8192, .inl (fun _ => nI 0))), (hm, .inr (12, [.ref ms, .ref mkp, .int (nI 0), .ref mtr, .int (nI 4), .int (nI 2), .int (nI 2), .int (nI 3), .int (nI 2), .int (nI 1), .ref mas, .int (nI 0), .int (nI 0), .int (nI 0), .ref mso, .ref mon, .ref mot, .ref man, .int (nI 0), .int (nI 0), .ref mst, .ref msm, .ref mtb, .ref mti, .ref mfr, .ref mbn, .ref mbs, .ref mde, .int (nI 0), .int (nI 0), .int (nI 0), .int (nI 0), .long 0, .long 0, .ref maa, .ref mab, .ref mba, .ref mbb])), (ms, .inl (cs 0, 288, .inl freshS)), (mtr, .inl (cs 0, 288, .inl freshS))] := hD
  refine lv_aload_n hx hb dX12_finds_30 rfl (lv_at hl 0 rfl) ?_
  refine xget C hP 11 rfl rfl zuX12 27 (by decide) zw6_0 rfl dX12_finds_31 ?_
  refine lv_aload_n hx hb dX12_finds_34 rfl (lv_at hl 0 rfl) ?_
  refine lv_iconst (v := nI 0) hx hb dX12_finds_35 (by decide) ?_
  refine lv_sipush (v := nI 2000) hx hb dX12_finds_36 (by decide) ?_
  refine xi (wr := [(mde, .inl (cs 0, 2001, .inl de)), (st1_6, .inl (cs 0, 96048, .inl (fun _ => 0))), (tb1_8, .inl (cs 0, 8192, .inl (fun _ => 0))), (ti1_10, .inl (cs 1, 2001, .inr (.inl (fun _ => 0)))), (mtr, .inl (cs 0, 288, .inl freshS))]) (xV (As := [.int (nI 0), .int (nI 2000)]) (rest := [.ref mde]) C (c_X12_numberOf_a0 l D cs hm ms mkp mtr mas mso mon mot man mst msm mtb mti mfr mbn mbs mde maa mab mba mbb st0_5 tb0_7 ti0_9 (va_up (va_up (fun _ => none) 0 (some st0_5)) 1 (some st1_6)) (va_up (va_up (fun _ => none) 0 (some tb0_7)) 1 (some tb1_8)) (va_up (va_up (fun _ => none) 0 (some ti0_9)) 1 (some ti1_10)) (smF2 (nI 0) (nI 0)) (fun _ => 0) (fun _ => 0) rfl rfl rfl rfl) kX12_197 hP hD [11, 12, 8, 1, 3, 9, 10, 2, 6] rfl (by decide +kernel) 0 rfl rfl rfl ⟨Nat.le_of_ble_eq_true rfl, Nat.le_of_ble_eq_true rfl⟩ rfl hl.1 rfl (Nat.le_of_ble_eq_true rfl) dX12_finds_39 ⟨Nat.le_of_ble_eq_true rfl, Nat.le_of_ble_eq_true rfl⟩) hP hD hS hA [11, 12, 8, 1, 3, 9, 10, 2, 6] [0, 4, 5, 7, 13] rfl rfl (by decide +kernel) (by decide +kernel) ?_
  clear hP hD hS
  try clear locs
  try clear H
  intro r_15 u_16 H locs hw_r_15 hP hD hS
  have hw_r_15 : r_15 = nI 0 := hw_r_15
  refine W.widen (k := 6) (n := 212482) (Nat.le_of_ble_eq_true rfl) (Nat.le_of_ble_eq_true rfl) ?_
  replace hP : va_P D vwCl [(mde, .inl (cs 0, 2001, .inl de)), (st1_6, .inl (cs 0, 96048, .inl (fun _ => 0))), (tb1_8, .inl (cs 0, 8192, .inl (fun _ => 0))), (ti1_10, .inl (cs 1, 2001, .inr (.inl (fun _ => 0)))), (mtr, .inl (cs 0, 288, .inl freshS)), (hm, .inr (12, [.ref ms, .ref mkp, .int (nI 0), .ref mtr, .int (nI 4), .int (nI 2), .int (nI 2), .int (nI 3), .int (nI 2), .int (nI 1), .ref mas, .int (nI 0), .int (nI 0), .int (nI 0), .ref mso, .ref mon, .ref mot, .ref man, .int (nI 0), .int (nI 0), .ref mst, .ref msm, .ref mtb, .ref mti, .ref mfr, .ref mbn, .ref mbs, .ref mde, .int (nI 0), .int (nI 0), .int (nI 0), .int (nI 0), .long 0, .long 0, .ref maa, .ref mab, .ref mba, .ref mbb])), (ms, .inl (cs 0, 288, .inl freshS)), (msm, .inl (cs 0, 2, .inl (upd (smF2 (nI 0) (nI 0)) 0 (nI 1)))), (mst, .inl (cs 5, 2, .inr (.inr (.inr (.inr (va_up (va_up (fun _ => none) 0 (some st0_5)) 1 (some st1_6))))))), (st0_5, .inl (cs 0, 96048, .inl (cpF freshS (fun _ => 0) 48))), (mtb, .inl (cs 5, 2, .inr (.inr (.inr (.inr (va_up (va_up (fun _ => none) 0 (some tb0_7)) 1 (some tb1_8))))))), (tb0_7, .inl (cs 0, 8192, .inl (upd (fun _ => nI 0) 965 (nI 1)))), (mti, .inl (cs 6, 2, .inr (.inr (.inr (.inr (va_up (va_up (fun _ => none) 0 (some ti0_9)) 1 (some ti1_10))))))), (ti0_9, .inl (cs 1, 2001, .inr (.inl (vp_updL (fun _ => 0) 0 0))))] H := hP
  replace hD : va_D A [(mde, .inl (cs 0, 2001, .inl de)), (st1_6, .inl (cs 0, 96048, .inl (fun _ => 0))), (tb1_8, .inl (cs 0, 8192, .inl (fun _ => 0))), (ti1_10, .inl (cs 1, 2001, .inr (.inl (fun _ => 0)))), (mtr, .inl (cs 0, 288, .inl freshS)), (hm, .inr (12, [.ref ms, .ref mkp, .int (nI 0), .ref mtr, .int (nI 4), .int (nI 2), .int (nI 2), .int (nI 3), .int (nI 2), .int (nI 1), .ref mas, .int (nI 0), .int (nI 0), .int (nI 0), .ref mso, .ref mon, .ref mot, .ref man, .int (nI 0), .int (nI 0), .ref mst, .ref msm, .ref mtb, .ref mti, .ref mfr, .ref mbn, .ref mbs, .ref mde, .int (nI 0), .int (nI 0), .int (nI 0), .int (nI 0), .long 0, .long 0, .ref maa, .ref mab, .ref mba, .ref mbb])), (ms, .inl (cs 0, 288, .inl freshS)), (msm, .inl (cs 0, 2, .inl (upd (smF2 (nI 0) (nI 0)) 0 (nI 1)))), (mst, .inl (cs 5, 2, .inr (.inr (.inr (.inr (va_up (va_up (fun _ => none) 0 (some st0_5)) 1 (some st1_6))))))), (st0_5, .inl (cs 0, 96048, .inl (cpF freshS (fun _ => 0) 48))), (mtb, .inl (cs 5, 2, .inr (.inr (.inr (.inr (va_up (va_up (fun _ => none) 0 (some tb0_7)) 1 (some tb1_8))))))), (tb0_7, .inl (cs 0, 8192, .inl (upd (fun _ => nI 0) 965 (nI 1)))), (mti, .inl (cs 6, 2, .inr (.inr (.inr (.inr (va_up (va_up (fun _ => none) 0 (some ti0_9)) 1 (some ti1_10))))))), (ti0_9, .inl (cs 1, 2001, .inr (.inl (vp_updL (fun _ => 0) 0 0))))] := hD
  subst hw_r_15
  have hPD := xcongi (q0 := 7) (smF2 (nI 1) (nI 0)) hP hD rfl (fun j hj => smF2_0 (nI 0) (nI 0) (nI 1) j)
  clear hP hD
  obtain ⟨hP, hD⟩ := hPD
  replace hP : va_P D vwCl [(mde, .inl (cs 0, 2001, .inl de)), (st1_6, .inl (cs 0, 96048, .inl (fun _ => 0))), (tb1_8, .inl (cs 0, 8192, .inl (fun _ => 0))), (ti1_10, .inl (cs 1, 2001, .inr (.inl (fun _ => 0)))), (mtr, .inl (cs 0, 288, .inl freshS)), (hm, .inr (12, [.ref ms, .ref mkp, .int (nI 0), .ref mtr, .int (nI 4), .int (nI 2), .int (nI 2), .int (nI 3), .int (nI 2), .int (nI 1), .ref mas, .int (nI 0), .int (nI 0), .int (nI 0), .ref mso, .ref mon, .ref mot, .ref man, .int (nI 0), .int (nI 0), .ref mst, .ref msm, .ref mtb, .ref mti, .ref mfr, .ref mbn, .ref mbs, .ref mde, .int (nI 0), .int (nI 0), .int (nI 0), .int (nI 0), .long 0, .long 0, .ref maa, .ref mab, .ref mba, .ref mbb])), (ms, .inl (cs 0, 288, .inl freshS)), (msm, .inl (cs 0, 2, .inl (smF2 (nI 1) (nI 0)))), (mst, .inl (cs 5, 2, .inr (.inr (.inr (.inr (va_up (va_up (fun _ => none) 0 (some st0_5)) 1 (some st1_6))))))), (st0_5, .inl (cs 0, 96048, .inl (cpF freshS (fun _ => 0) 48))), (mtb, .inl (cs 5, 2, .inr (.inr (.inr (.inr (va_up (va_up (fun _ => none) 0 (some tb0_7)) 1 (some tb1_8))))))), (tb0_7, .inl (cs 0, 8192, .inl (upd (fun _ => nI 0) 965 (nI 1)))), (mti, .inl (cs 6, 2, .inr (.inr (.inr (.inr (va_up (va_up (fun _ => none) 0 (some ti0_9)) 1 (some ti1_10))))))), (ti0_9, .inl (cs 1, 2001, .inr (.inl (vp_updL (fun _ => 0) 0 0))))] H := hP
  replace hD : va_D A [(mde, .inl (cs 0, 2001, .inl de)), (st1_6, .inl (cs 0, 96048, .inl (fun _ => 0))), (tb1_8, .inl (cs 0, 8192, .inl (fun _ => 0))), (ti1_10, .inl (cs 1, 2001, .inr (.inl (fun _ => 0)))), (mtr, .inl (cs 0, 288, .inl freshS)), (hm, .inr (12, [.ref ms, .ref mkp, .int (nI 0), .ref mtr, .int (nI 4), .int (nI 2), .int (nI 2), .int (nI 3), .int (nI 2), .int (nI 1), .ref mas, .int (nI 0), .int (nI 0), .int (nI 0), .ref mso, .ref mon, .ref mot, .ref man, .int (nI 0), .int (nI 0), .ref mst, .ref msm, .ref mtb, .ref mti, .ref mfr, .ref mbn, .ref mbs, .ref mde, .int (nI 0), .int (nI 0), .int (nI 0), .int (nI 0), .long 0, .long 0, .ref maa, .ref mab, .ref mba, .ref mbb])), (ms, .inl (cs 0, 288, .inl freshS)), (msm, .inl (cs 0, 2, .inl (smF2 (nI 1) (nI 0)))), (mst, .inl (cs 5, 2, .inr (.inr (.inr (.inr (va_up (va_up (fun _ => none) 0 (some st0_5)) 1 (some st1_6))))))), (st0_5, .inl (cs 0, 96048, .inl (cpF freshS (fun _ => 0) 48))), (mtb, .inl (cs 5, 2, .inr (.inr (.inr (.inr (va_up (va_up (fun _ => none) 0 (some tb0_7)) 1 (some tb1_8))))))), (tb0_7, .inl (cs 0, 8192, .inl (upd (fun _ => nI 0) 965 (nI 1)))), (mti, .inl (cs 6, 2, .inr (.inr (.inr (.inr (va_up (va_up (fun _ => none) 0 (some ti0_9)) 1 (some ti1_10))))))), (ti0_9, .inl (cs 1, 2001, .inr (.inl (vp_updL (fun _ => 0) 0 0))))] := hD
  refine lv_iconst (v := nI 0) hx hb dX12_finds_42 (by decide) ?_
  refine xiast C hP hD hS 0 rfl 0 rfl (by decide) (by decide) dX12_finds_43 ?_
  clear hP hD hS
  try clear locs
  try clear H
  intro H locs hP hD hS
  replace hP : va_P D vwCl [(mde, .inl (cs 0, 2001, .inl (upd de 0 (nI 0)))), (st1_6, .inl (cs 0, 96048, .inl (fun _ => 0))), (tb1_8, .inl (cs 0, 8192, .inl (fun _ => 0))), (ti1_10, .inl (cs 1, 2001, .inr (.inl (fun _ => 0)))), (mtr, .inl (cs 0, 288, .inl freshS)), (hm, .inr (12, [.ref ms, .ref mkp, .int (nI 0), .ref mtr, .int (nI 4), .int (nI 2), .int (nI 2), .int (nI 3), .int (nI 2), .int (nI 1), .ref mas, .int (nI 0), .int (nI 0), .int (nI 0), .ref mso, .ref mon, .ref mot, .ref man, .int (nI 0), .int (nI 0), .ref mst, .ref msm, .ref mtb, .ref mti, .ref mfr, .ref mbn, .ref mbs, .ref mde, .int (nI 0), .int (nI 0), .int (nI 0), .int (nI 0), .long 0, .long 0, .ref maa, .ref mab, .ref mba, .ref mbb])), (ms, .inl (cs 0, 288, .inl freshS)), (msm, .inl (cs 0, 2, .inl (smF2 (nI 1) (nI 0)))), (mst, .inl (cs 5, 2, .inr (.inr (.inr (.inr (va_up (va_up (fun _ => none) 0 (some st0_5)) 1 (some st1_6))))))), (st0_5, .inl (cs 0, 96048, .inl (cpF freshS (fun _ => 0) 48))), (mtb, .inl (cs 5, 2, .inr (.inr (.inr (.inr (va_up (va_up (fun _ => none) 0 (some tb0_7)) 1 (some tb1_8))))))), (tb0_7, .inl (cs 0, 8192, .inl (upd (fun _ => nI 0) 965 (nI 1)))), (mti, .inl (cs 6, 2, .inr (.inr (.inr (.inr (va_up (va_up (fun _ => none) 0 (some ti0_9)) 1 (some ti1_10))))))), (ti0_9, .inl (cs 1, 2001, .inr (.inl (vp_updL (fun _ => 0) 0 0))))] H := hP
  replace hD : va_D A [(mde, .inl (cs 0, 2001, .inl (upd de 0 (nI 0)))), (st1_6, .inl (cs 0, 96048, .inl (fun _ => 0))), (tb1_8, .inl (cs 0, 8192, .inl (fun _ => 0))), (ti1_10, .inl (cs 1, 2001, .inr (.inl (fun _ => 0)))), (mtr, .inl (cs 0, 288, .inl freshS)), (hm, .inr (12, [.ref ms, .ref mkp, .int (nI 0), .ref mtr, .int (nI 4), .int (nI 2), .int (nI 2), .int (nI 3), .int (nI 2), .int (nI 1), .ref mas, .int (nI 0), .int (nI 0), .int (nI 0), .ref mso, .ref mon, .ref mot, .ref man, .int (nI 0), .int (nI 0), .ref mst, .ref msm, .ref mtb, .ref mti, .ref mfr, .ref mbn, .ref mbs, .ref mde, .int (nI 0), .int (nI 0), .int (nI 0), .int (nI 0), .long 0, .long 0, .ref maa, .ref mab, .ref mba, .ref mbb])), (ms, .inl (cs 0, 288, .inl freshS)), (msm, .inl (cs 0, 2, .inl (smF2 (nI 1) (nI 0)))), (mst, .inl (cs 5, 2, .inr (.inr (.inr (.inr (va_up (va_up (fun _ => none) 0 (some st0_5)) 1 (some st1_6))))))), (st0_5, .inl (cs 0, 96048, .inl (cpF freshS (fun _ => 0) 48))), (mtb, .inl (cs 5, 2, .inr (.inr (.inr (.inr (va_up (va_up (fun _ => none) 0 (some tb0_7)) 1 (some tb1_8))))))), (tb0_7, .inl (cs 0, 8192, .inl (upd (fun _ => nI 0) 965 (nI 1)))), (mti, .inl (cs 6, 2, .inr (.inr (.inr (.inr (va_up (va_up (fun _ => none) 0 (some ti0_9)) 1 (some ti1_10))))))), (ti0_9, .inl (cs 1, 2001, .inr (.inl (vp_updL (fun _ => 0) 0 0))))] := hD
  refine lv_iconst (v := (-1)) hx hb dX12_finds_44 (by decide) ?_
  refine lv_istore_n (lv' := [(1, .int (-1)), (0, .ref hm)]) hx hb dX12_finds_45 rfl hl (by decide) rfl ?_
  clear hl
  try clear ls
  intro ls hl
  refine lv_iconst (v := nI 0) hx hb dX12_finds_46 (by decide) ?_
  refine lv_istore_n (lv' := [(2, .int (nI 0)), (1, .int (-1)), (0, .ref hm)]) hx hb dX12_finds_47 rfl hl (by decide) rfl ?_
  clear hl
  try clear ls
  intro ls hl
  refine lv_iload_n hx hb dX12_finds_48 rfl (lv_at hl 0 rfl) ?_
  refine lv_aload_n hx hb dX12_finds_49 rfl (lv_at hl 2 rfl) ?_
  refine xget C hP 5 rfl rfl zuX12 21 (by decide) zw5_234 rfl dX12_finds_50 ?_
  refine lv_iconst (v := nI 0) hx hb dX12_finds_53 (by decide) ?_
  refine xiald C hP 7 rfl 0 rfl (by decide) (by decide) dX12_finds_54 ?_
  refine lv_topi (nm_r (e' := nI 1) (by decide) ?_)
  refine lv_icmp_ge (tgt := 75) hx hb dX12_finds_55 (by decide) (fun c => absurd c (by decide)) (fun _ => ?_)
  refine lv_iload_n hx hb dX12_finds_58 rfl (lv_at hl 1 rfl) ?_
  refine lv_iconst (v := (-1)) hx hb dX12_finds_59 (by decide) ?_
  refine lv_icmp_ne (tgt := 75) hx hb dX12_finds_60 (by decide) (fun c => absurd (by decide) c) (fun _ => ?_)
  refine lv_aload_n hx hb dX12_finds_63 rfl (lv_at hl 2 rfl) ?_
  refine lv_iload_n hx hb dX12_finds_64 rfl (lv_at hl 0 rfl) ?_
  refine xi (wr := [(mde, .inl (cs 0, 2001, .inl (upd de 0 (nI 0)))), (st1_6, .inl (cs 0, 96048, .inl (fun _ => 0))), (tb1_8, .inl (cs 0, 8192, .inl (fun _ => 0))), (ti1_10, .inl (cs 1, 2001, .inr (.inl (fun _ => 0)))), (mtr, .inl (cs 0, 288, .inl freshS)), (msm, .inl (cs 0, 2, .inl (smF2 (nI 1) (nI 0)))), (mtb, .inl (cs 5, 2, .inr (.inr (.inr (.inr (va_up (va_up (fun _ => none) 0 (some tb0_7)) 1 (some tb1_8))))))), (tb0_7, .inl (cs 0, 8192, .inl (upd (fun _ => nI 0) 965 (nI 1)))), (mti, .inl (cs 6, 2, .inr (.inr (.inr (.inr (va_up (va_up (fun _ => none) 0 (some ti0_9)) 1 (some ti1_10))))))), (ti0_9, .inl (cs 1, 2001, .inr (.inl (vp_updL (fun _ => 0) 0 0))))]) (xV (As := [.int (nI 0)]) (rest := []) C (c_X12_findsBehind l D cs hm ms mkp mtr mas mso mon mot man mst msm mtb mti mfr mbn mbs mde maa mab mba mbb st0_5 (va_up (va_up (fun _ => none) 0 (some st0_5)) 1 (some st1_6)) (cpF freshS (fun _ => 0) 48) rfl (fun j hj => cpF_lt hj)) kX12_237 hP hD [5, 6, 8, 9] rfl (by decide +kernel) 0 rfl rfl rfl ⟨Nat.le_of_ble_eq_true rfl, Nat.le_of_ble_eq_true rfl⟩ rfl hl.1 rfl (Nat.le_of_ble_eq_true rfl) dX12_finds_65 ⟨Nat.le_of_ble_eq_true rfl, Nat.le_of_ble_eq_true rfl⟩) hP hD hS hA [5, 6, 8, 9] [0, 1, 2, 3, 4, 7, 10, 11, 12, 13] rfl rfl (by decide +kernel) (by decide +kernel) ?_
  clear hP hD hS
  try clear locs
  try clear H
  intro r_17 u_18 H locs hw_r_17 hP hD hS
  have hw_r_17 : r_17 = -1 := hw_r_17
  refine W.widen (k := 6) (n := 212482) (Nat.le_of_ble_eq_true rfl) (Nat.le_of_ble_eq_true rfl) ?_
  replace hP : va_P D vwCl [(mde, .inl (cs 0, 2001, .inl (upd de 0 (nI 0)))), (st1_6, .inl (cs 0, 96048, .inl (fun _ => 0))), (tb1_8, .inl (cs 0, 8192, .inl (fun _ => 0))), (ti1_10, .inl (cs 1, 2001, .inr (.inl (fun _ => 0)))), (mtr, .inl (cs 0, 288, .inl freshS)), (msm, .inl (cs 0, 2, .inl (smF2 (nI 1) (nI 0)))), (mtb, .inl (cs 5, 2, .inr (.inr (.inr (.inr (va_up (va_up (fun _ => none) 0 (some tb0_7)) 1 (some tb1_8))))))), (tb0_7, .inl (cs 0, 8192, .inl (upd (fun _ => nI 0) 965 (nI 1)))), (mti, .inl (cs 6, 2, .inr (.inr (.inr (.inr (va_up (va_up (fun _ => none) 0 (some ti0_9)) 1 (some ti1_10))))))), (ti0_9, .inl (cs 1, 2001, .inr (.inl (vp_updL (fun _ => 0) 0 0)))), (hm, .inr (12, [.ref ms, .ref mkp, .int (nI 0), .ref mtr, .int (nI 4), .int (nI 2), .int (nI 2), .int (nI 3), .int (nI 2), .int (nI 1), .ref mas, .int (nI 0), .int (nI 0), .int (nI 0), .ref mso, .ref mon, .ref mot, .ref man, .int (nI 0), .int (nI 0), .ref mst, .ref msm, .ref mtb, .ref mti, .ref mfr, .ref mbn, .ref mbs, .ref mde, .int (nI 0), .int (nI 0), .int (nI 0), .int (nI 0), .long 0, .long 0, .ref maa, .ref mab, .ref mba, .ref mbb])), (ms, .inl (cs 0, 288, .inl freshS)), (mst, .inl (cs 5, 2, .inr (.inr (.inr (.inr (va_up (va_up (fun _ => none) 0 (some st0_5)) 1 (some st1_6))))))), (st0_5, .inl (cs 0, 96048, .inl (cpF freshS (fun _ => 0) 48)))] H := hP
  replace hD : va_D A [(mde, .inl (cs 0, 2001, .inl (upd de 0 (nI 0)))), (st1_6, .inl (cs 0, 96048, .inl (fun _ => 0))), (tb1_8, .inl (cs 0, 8192, .inl (fun _ => 0))), (ti1_10, .inl (cs 1, 2001, .inr (.inl (fun _ => 0)))), (mtr, .inl (cs 0, 288, .inl freshS)), (msm, .inl (cs 0, 2, .inl (smF2 (nI 1) (nI 0)))), (mtb, .inl (cs 5, 2, .inr (.inr (.inr (.inr (va_up (va_up (fun _ => none) 0 (some tb0_7)) 1 (some tb1_8))))))), (tb0_7, .inl (cs 0, 8192, .inl (upd (fun _ => nI 0) 965 (nI 1)))), (mti, .inl (cs 6, 2, .inr (.inr (.inr (.inr (va_up (va_up (fun _ => none) 0 (some ti0_9)) 1 (some ti1_10))))))), (ti0_9, .inl (cs 1, 2001, .inr (.inl (vp_updL (fun _ => 0) 0 0)))), (hm, .inr (12, [.ref ms, .ref mkp, .int (nI 0), .ref mtr, .int (nI 4), .int (nI 2), .int (nI 2), .int (nI 3), .int (nI 2), .int (nI 1), .ref mas, .int (nI 0), .int (nI 0), .int (nI 0), .ref mso, .ref mon, .ref mot, .ref man, .int (nI 0), .int (nI 0), .ref mst, .ref msm, .ref mtb, .ref mti, .ref mfr, .ref mbn, .ref mbs, .ref mde, .int (nI 0), .int (nI 0), .int (nI 0), .int (nI 0), .long 0, .long 0, .ref maa, .ref mab, .ref mba, .ref mbb])), (ms, .inl (cs 0, 288, .inl freshS)), (mst, .inl (cs 5, 2, .inr (.inr (.inr (.inr (va_up (va_up (fun _ => none) 0 (some st0_5)) 1 (some st1_6))))))), (st0_5, .inl (cs 0, 96048, .inl (cpF freshS (fun _ => 0) 48)))] := hD
  subst hw_r_17
  refine lv_istore_n (lv' := [(1, .int (-1)), (2, .int (nI 0)), (0, .ref hm)]) hx hb dX12_finds_68 rfl hl (by decide) rfl ?_
  clear hl
  try clear ls
  intro ls hl
  refine lv_iinc (v := nI 1) (lv' := [(2, .int (nI 1)), (1, .int (-1)), (0, .ref hm)]) hx hb dX12_finds_69 hl (k := 1) rfl (by decide) (by decide) rfl ?_
  clear hl
  try clear ls
  intro ls hl
  refine lv_goto (tgt := 48) hx hb dX12_finds_72 (by decide) ?_
  refine lv_iload_n hx hb dX12_finds_48 rfl (lv_at hl 0 rfl) ?_
  refine lv_aload_n hx hb dX12_finds_49 rfl (lv_at hl 2 rfl) ?_
  refine xget C hP 10 rfl rfl zuX12 21 (by decide) zw5_234 rfl dX12_finds_50 ?_
  refine lv_iconst (v := nI 0) hx hb dX12_finds_53 (by decide) ?_
  refine xiald C hP 5 rfl 0 rfl (by decide) (by decide) dX12_finds_54 ?_
  refine lv_topi (nm_r (e' := nI 1) (by decide) ?_)
  refine lv_icmp_ge (tgt := 75) hx hb dX12_finds_55 (by decide) (fun _ => ?_) (fun c => absurd (by decide) c)
  refine lv_aload_n hx hb dX12_finds_75 rfl (lv_at hl 2 rfl) ?_
  refine lv_aload_n hx hb dX12_finds_76 rfl (lv_at hl 2 rfl) ?_
  refine xget C hP 10 rfl rfl zuX12 3 (by decide) zw5_216 rfl dX12_finds_77 ?_
  refine lv_aload_n hx hb dX12_finds_80 rfl (lv_at hl 2 rfl) ?_
  refine xget C hP 10 rfl rfl zuX12 0 (by decide) zw5_213 rfl dX12_finds_81 ?_
  refine xv (wr := [(mde, .inl (cs 0, 2001, .inl (upd de 0 (nI 0)))), (st1_6, .inl (cs 0, 96048, .inl (fun _ => 0))), (tb1_8, .inl (cs 0, 8192, .inl (fun _ => 0))), (ti1_10, .inl (cs 1, 2001, .inr (.inl (fun _ => 0)))), (msm, .inl (cs 0, 2, .inl (smF2 (nI 1) (nI 0)))), (mtb, .inl (cs 5, 2, .inr (.inr (.inr (.inr (va_up (va_up (fun _ => none) 0 (some tb0_7)) 1 (some tb1_8))))))), (tb0_7, .inl (cs 0, 8192, .inl (upd (fun _ => nI 0) 965 (nI 1)))), (mti, .inl (cs 6, 2, .inr (.inr (.inr (.inr (va_up (va_up (fun _ => none) 0 (some ti0_9)) 1 (some ti1_10))))))), (ti0_9, .inl (cs 1, 2001, .inr (.inl (vp_updL (fun _ => 0) 0 0)))), (mst, .inl (cs 5, 2, .inr (.inr (.inr (.inr (va_up (va_up (fun _ => none) 0 (some st0_5)) 1 (some st1_6))))))), (st0_5, .inl (cs 0, 96048, .inl (cpF freshS (fun _ => 0) 48)))]) (xV (As := [.ref mtr, .ref ms]) (rest := []) C (c_X12_puts_m l D cs hm ms mkp mtr mas mso mon mot man mst msm mtb mti mfr mbn mbs mde maa mab mba mbb mtr ms freshS freshS) kX12_148 hP hD [10, 4, 11] rfl (by decide +kernel) 0 rfl rfl rfl ⟨Nat.le_of_ble_eq_true rfl, Nat.le_of_ble_eq_true rfl⟩ rfl hl.1 rfl (Nat.le_of_ble_eq_true rfl) dX12_finds_84 ⟨Nat.le_of_ble_eq_true rfl, Nat.le_of_ble_eq_true rfl⟩) hP hD hS hA [10, 4, 11] [0, 1, 2, 3, 5, 6, 7, 8, 9, 12, 13] rfl rfl (by decide +kernel) (by decide +kernel) ?_
  clear hP hD hS
  try clear locs
  try clear H
  intro u_20 H locs hw_r_19 hP hD hS
  refine W.widen (k := 6) (n := 212482) (Nat.le_of_ble_eq_true rfl) (Nat.le_of_ble_eq_true rfl) ?_
  replace hP : va_P D vwCl [(mde, .inl (cs 0, 2001, .inl (upd de 0 (nI 0)))), (st1_6, .inl (cs 0, 96048, .inl (fun _ => 0))), (tb1_8, .inl (cs 0, 8192, .inl (fun _ => 0))), (ti1_10, .inl (cs 1, 2001, .inr (.inl (fun _ => 0)))), (msm, .inl (cs 0, 2, .inl (smF2 (nI 1) (nI 0)))), (mtb, .inl (cs 5, 2, .inr (.inr (.inr (.inr (va_up (va_up (fun _ => none) 0 (some tb0_7)) 1 (some tb1_8))))))), (tb0_7, .inl (cs 0, 8192, .inl (upd (fun _ => nI 0) 965 (nI 1)))), (mti, .inl (cs 6, 2, .inr (.inr (.inr (.inr (va_up (va_up (fun _ => none) 0 (some ti0_9)) 1 (some ti1_10))))))), (ti0_9, .inl (cs 1, 2001, .inr (.inl (vp_updL (fun _ => 0) 0 0)))), (mst, .inl (cs 5, 2, .inr (.inr (.inr (.inr (va_up (va_up (fun _ => none) 0 (some st0_5)) 1 (some st1_6))))))), (st0_5, .inl (cs 0, 96048, .inl (cpF freshS (fun _ => 0) 48))), (hm, .inr (12, [.ref ms, .ref mkp, .int (nI 0), .ref mtr, .int (nI 4), .int (nI 2), .int (nI 2), .int (nI 3), .int (nI 2), .int (nI 1), .ref mas, .int (nI 0), .int (nI 0), .int (nI 0), .ref mso, .ref mon, .ref mot, .ref man, .int (nI 0), .int (nI 0), .ref mst, .ref msm, .ref mtb, .ref mti, .ref mfr, .ref mbn, .ref mbs, .ref mde, .int (nI 0), .int (nI 0), .int (nI 0), .int (nI 0), .long 0, .long 0, .ref maa, .ref mab, .ref mba, .ref mbb])), (mtr, .inl (cs 0, 288, .inl freshS)), (ms, .inl (cs 0, 288, .inl freshS))] H := hP
  replace hD : va_D A [(mde, .inl (cs 0, 2001, .inl (upd de 0 (nI 0)))), (st1_6, .inl (cs 0, 96048, .inl (fun _ => 0))), (tb1_8, .inl (cs 0, 8192, .inl (fun _ => 0))), (ti1_10, .inl (cs 1, 2001, .inr (.inl (fun _ => 0)))), (msm, .inl (cs 0, 2, .inl (smF2 (nI 1) (nI 0)))), (mtb, .inl (cs 5, 2, .inr (.inr (.inr (.inr (va_up (va_up (fun _ => none) 0 (some tb0_7)) 1 (some tb1_8))))))), (tb0_7, .inl (cs 0, 8192, .inl (upd (fun _ => nI 0) 965 (nI 1)))), (mti, .inl (cs 6, 2, .inr (.inr (.inr (.inr (va_up (va_up (fun _ => none) 0 (some ti0_9)) 1 (some ti1_10))))))), (ti0_9, .inl (cs 1, 2001, .inr (.inl (vp_updL (fun _ => 0) 0 0)))), (mst, .inl (cs 5, 2, .inr (.inr (.inr (.inr (va_up (va_up (fun _ => none) 0 (some st0_5)) 1 (some st1_6))))))), (st0_5, .inl (cs 0, 96048, .inl (cpF freshS (fun _ => 0) 48))), (hm, .inr (12, [.ref ms, .ref mkp, .int (nI 0), .ref mtr, .int (nI 4), .int (nI 2), .int (nI 2), .int (nI 3), .int (nI 2), .int (nI 1), .ref mas, .int (nI 0), .int (nI 0), .int (nI 0), .ref mso, .ref mon, .ref mot, .ref man, .int (nI 0), .int (nI 0), .ref mst, .ref msm, .ref mtb, .ref mti, .ref mfr, .ref mbn, .ref mbs, .ref mde, .int (nI 0), .int (nI 0), .int (nI 0), .int (nI 0), .long 0, .long 0, .ref maa, .ref mab, .ref mba, .ref mbb])), (mtr, .inl (cs 0, 288, .inl freshS)), (ms, .inl (cs 0, 288, .inl freshS))] := hD
  refine lv_iload_n hx hb dX12_finds_87 rfl (lv_at hl 1 rfl) ?_
  exact xreti C () rfl (xP_map hP [] rfl) (hD.sub [] (by decide +kernel) rfl) hS (Nat.le_of_ble_eq_true rfl) (Nat.le_of_ble_eq_true rfl) rfl dX12_finds_88

set_option maxHeartbeats 4000000 in
set_option maxRecDepth 100000 in
theorem c_X12_soonest (l : Launch) (D : va_G) (cs : Nat → ClassId) (hm ms mkp mtr mas mso mon mot man mst msm mtb mti mfr mbn mbs mde maa mab mba mbb : Nat) (tf de : Nat → Int32) : xMet l D cs yX12_soonest cX12_soonest 1 (some .int) ({ frames := 5, cells := 6, slots := 212482, locals := 112 } : Room) [.ref hm] [(hm, .inr (12, [.ref ms, .ref mkp, .int (nI 0), .ref mtr, .int (nI 4), .int (nI 2), .int (nI 2), .int (nI 3), .int (nI 2), .int (nI 1), .ref mas, .int (nI 0), .int (nI 0), .int (nI 0), .ref mso, .ref mon, .ref mot, .ref man, .int (nI 0), .int (nI 0), .ref mst, .ref msm, .ref mtb, .ref mti, .ref mfr, .ref mbn, .ref mbs, .ref mde, .int (nI 0), .int (nI 0), .int (nI 0), .int (nI 0), .long 0, .long 0, .ref maa, .ref mab, .ref mba, .ref mbb])), (ms, .inl (cs 0, 288, .inl freshS)), (mtr, .inl (cs 0, 288, .inl tf)), (msm, .inl (cs 0, 2, .inl (fun _ => 0))), (mst, .inl (cs 5, 2, .inr (.inr (.inr (.inr (fun _ => none)))))), (mtb, .inl (cs 5, 2, .inr (.inr (.inr (.inr (fun _ => none)))))), (mti, .inl (cs 6, 2, .inr (.inr (.inr (.inr (fun _ => none)))))), (mde, .inl (cs 0, 2001, .inl de))] (xQi D (fun (r : Int32) (_u : Unit) => r = -1) (fun (_u : Unit) => [])) := by
  refine xMet.intro (by decide) (Nat.le_of_ble_eq_true rfl) ?_
  intro p e s m args below meth c A ls C hP hD hS hl
  have hx := C.1
  have hb := C.2.1
  have hz := C.2.2.2.2.1
  have hown := C.2.2.2.1
  have hA := C.2.2.2.2.2.2.2.2.2
  have hAO := C.2.2.2.2.2.2.2.2.1.2.2
  replace hl : lv_has ls 1 [(0, .ref hm)] := hl
  obtain ⟨H, hH⟩ : ∃ H, H = s.heap := ⟨_, rfl⟩
  replace hP : va_P D vwCl [(hm, .inr (12, [.ref ms, .ref mkp, .int (nI 0), .ref mtr, .int (nI 4), .int (nI 2), .int (nI 2), .int (nI 3), .int (nI 2), .int (nI 1), .ref mas, .int (nI 0), .int (nI 0), .int (nI 0), .ref mso, .ref mon, .ref mot, .ref man, .int (nI 0), .int (nI 0), .ref mst, .ref msm, .ref mtb, .ref mti, .ref mfr, .ref mbn, .ref mbs, .ref mde, .int (nI 0), .int (nI 0), .int (nI 0), .int (nI 0), .long 0, .long 0, .ref maa, .ref mab, .ref mba, .ref mbb])), (ms, .inl (cs 0, 288, .inl freshS)), (mtr, .inl (cs 0, 288, .inl tf)), (msm, .inl (cs 0, 2, .inl (fun _ => 0))), (mst, .inl (cs 5, 2, .inr (.inr (.inr (.inr (fun _ => none)))))), (mtb, .inl (cs 5, 2, .inr (.inr (.inr (.inr (fun _ => none)))))), (mti, .inl (cs 6, 2, .inr (.inr (.inr (.inr (fun _ => none)))))), (mde, .inl (cs 0, 2001, .inl de))] H := by rw [hH]; exact hP
  replace hS : va_S A s.heap H [] := by rw [hH]; exact hS
  obtain ⟨locs, hlocs⟩ : ∃ z : List Loc, z = [] := ⟨_, rfl⟩
  rw [← hlocs] at hS
  suffices hW : W p l e ({ frames := 5, cells := 6, slots := 212482, locals := 112 } : Room) s m args below meth c H locs 0 0 (MQ below ((xQi D (fun (r : Int32) (_u : Unit) => r = -1) (fun (_u : Unit) => [])) A) args s 6 212482 A) (F0 m 0 ls []) by rw [hlocs, hH] at hW; exact hW
  clear hH hlocs
  refine lv_aload_n hx hb dX12_soonest_0 rfl (lv_at hl 0 rfl) ?_
  refine lv_iconst (v := nI 0) hx hb dX12_soonest_1 (by decide) ?_
  refine xput C hP hD hS 0 rfl rfl zuX12 tyX12 tyX12_ok nmX12 18 (by decide) zw5_231 rfl rfl rfl (Nat.le_of_ble_eq_true rfl) dX12_soonest_2 ?_
  clear hP hD hS
  try clear locs
  try clear H
  intro H locs hP hD hS
  replace hP : va_P D vwCl [(hm, .inr (12, [.ref ms, .ref mkp, .int (nI 0), .ref mtr, .int (nI 4), .int (nI 2), .int (nI 2), .int (nI 3), .int (nI 2), .int (nI 1), .ref mas, .int (nI 0), .int (nI 0), .int (nI 0), .ref mso, .ref mon, .ref mot, .ref man, .int (nI 0), .int (nI 0), .ref mst, .ref msm, .ref mtb, .ref mti, .ref mfr, .ref mbn, .ref mbs, .ref mde, .int (nI 0), .int (nI 0), .int (nI 0), .int (nI 0), .long 0, .long 0, .ref maa, .ref mab, .ref mba, .ref mbb])), (ms, .inl (cs 0, 288, .inl freshS)), (mtr, .inl (cs 0, 288, .inl tf)), (msm, .inl (cs 0, 2, .inl (fun _ => 0))), (mst, .inl (cs 5, 2, .inr (.inr (.inr (.inr (fun _ => none)))))), (mtb, .inl (cs 5, 2, .inr (.inr (.inr (.inr (fun _ => none)))))), (mti, .inl (cs 6, 2, .inr (.inr (.inr (.inr (fun _ => none)))))), (mde, .inl (cs 0, 2001, .inl de))] H := hP
  replace hD : va_D A [(hm, .inr (12, [.ref ms, .ref mkp, .int (nI 0), .ref mtr, .int (nI 4), .int (nI 2), .int (nI 2), .int (nI 3), .int (nI 2), .int (nI 1), .ref mas, .int (nI 0), .int (nI 0), .int (nI 0), .ref mso, .ref mon, .ref mot, .ref man, .int (nI 0), .int (nI 0), .ref mst, .ref msm, .ref mtb, .ref mti, .ref mfr, .ref mbn, .ref mbs, .ref mde, .int (nI 0), .int (nI 0), .int (nI 0), .int (nI 0), .long 0, .long 0, .ref maa, .ref mab, .ref mba, .ref mbb])), (ms, .inl (cs 0, 288, .inl freshS)), (mtr, .inl (cs 0, 288, .inl tf)), (msm, .inl (cs 0, 2, .inl (fun _ => 0))), (mst, .inl (cs 5, 2, .inr (.inr (.inr (.inr (fun _ => none)))))), (mtb, .inl (cs 5, 2, .inr (.inr (.inr (.inr (fun _ => none)))))), (mti, .inl (cs 6, 2, .inr (.inr (.inr (.inr (fun _ => none)))))), (mde, .inl (cs 0, 2001, .inl de))] := hD
  refine lv_aload_n hx hb dX12_soonest_5 rfl (lv_at hl 0 rfl) ?_
  refine xi (wr := []) (xV (As := []) (rest := []) C (c_X12_finds l D cs hm ms mkp mtr mas mso mon mot man mst msm mtb mti mfr mbn mbs mde maa mab mba mbb tf de) kX12_249 hP hD [0, 1, 2, 3, 4, 5, 6, 7] rfl (by decide +kernel) 0 rfl rfl rfl ⟨Nat.le_of_ble_eq_true rfl, Nat.le_of_ble_eq_true rfl⟩ rfl hl.1 rfl (Nat.le_of_ble_eq_true rfl) dX12_soonest_6 ⟨Nat.le_of_ble_eq_true rfl, Nat.le_of_ble_eq_true rfl⟩) hP hD hS hA [0, 1, 2, 3, 4, 5, 6, 7] [] rfl rfl (by decide +kernel) (by decide +kernel) ?_
  clear hP hD hS
  try clear locs
  try clear H
  intro r_1 u_2 H locs hw_r_1 hP hD hS
  have hw_r_1 : r_1 = -1 := hw_r_1
  refine W.widen (k := 6) (n := 212482) (Nat.le_of_ble_eq_true rfl) (Nat.le_of_ble_eq_true rfl) ?_
  replace hP : va_P D vwCl [] H := hP
  replace hD : va_D A [] := hD
  subst hw_r_1
  exact xreti C () rfl hP hD hS (Nat.le_of_ble_eq_true rfl) (Nat.le_of_ble_eq_true rfl) rfl dX12_soonest_9

set_option maxHeartbeats 4000000 in
set_option maxRecDepth 100000 in
theorem c_X12_way (l : Launch) (D : va_G) (cs : Nat → ClassId) (hm ms mkp mtr mas mso mon mot man mst msm mtb mti mfr mbn mbs mde maa mab mba mbb : Nat) (tf de : Nat → Int32) (x y : Int32) : xMet l D cs yX12_way cX12_way 8 (some .int) ({ frames := 5, cells := 6, slots := 212482, locals := 112 } : Room) [.ref hm, .int x, .int y] [(hm, .inr (12, [.ref ms, .ref mkp, .int (nI 0), .ref mtr, .int (nI 4), .int (nI 2), .int (nI 2), .int (nI 3), .int (nI 2), .int (nI 1), .ref mas, .int (nI 0), .int (nI 0), .int (nI 0), .ref mso, .ref mon, .ref mot, .ref man, .int (nI 0), .int (nI 0), .ref mst, .ref msm, .ref mtb, .ref mti, .ref mfr, .ref mbn, .ref mbs, .ref mde, .int (nI 0), .int (nI 0), .int (nI 0), .int (nI 0), .long 0, .long 0, .ref maa, .ref mab, .ref mba, .ref mbb])), (ms, .inl (cs 0, 288, .inl freshS)), (mtr, .inl (cs 0, 288, .inl tf)), (msm, .inl (cs 0, 2, .inl (fun _ => 0))), (mst, .inl (cs 5, 2, .inr (.inr (.inr (.inr (fun _ => none)))))), (mtb, .inl (cs 5, 2, .inr (.inr (.inr (.inr (fun _ => none)))))), (mti, .inl (cs 6, 2, .inr (.inr (.inr (.inr (fun _ => none)))))), (mde, .inl (cs 0, 2001, .inl de))] (xQi D (fun (r : Int32) (_u : Unit) => r = -2) (fun (_u : Unit) => [])) := by
  refine xMet.intro (by decide) (Nat.le_of_ble_eq_true rfl) ?_
  intro p e s m args below meth c A ls C hP hD hS hl
  have hx := C.1
  have hb := C.2.1
  have hz := C.2.2.2.2.1
  have hown := C.2.2.2.1
  have hA := C.2.2.2.2.2.2.2.2.2
  have hAO := C.2.2.2.2.2.2.2.2.1.2.2
  replace hl : lv_has ls 8 [(0, .ref hm), (1, .int x), (2, .int y)] := hl
  obtain ⟨H, hH⟩ : ∃ H, H = s.heap := ⟨_, rfl⟩
  replace hP : va_P D vwCl [(hm, .inr (12, [.ref ms, .ref mkp, .int (nI 0), .ref mtr, .int (nI 4), .int (nI 2), .int (nI 2), .int (nI 3), .int (nI 2), .int (nI 1), .ref mas, .int (nI 0), .int (nI 0), .int (nI 0), .ref mso, .ref mon, .ref mot, .ref man, .int (nI 0), .int (nI 0), .ref mst, .ref msm, .ref mtb, .ref mti, .ref mfr, .ref mbn, .ref mbs, .ref mde, .int (nI 0), .int (nI 0), .int (nI 0), .int (nI 0), .long 0, .long 0, .ref maa, .ref mab, .ref mba, .ref mbb])), (ms, .inl (cs 0, 288, .inl freshS)), (mtr, .inl (cs 0, 288, .inl tf)), (msm, .inl (cs 0, 2, .inl (fun _ => 0))), (mst, .inl (cs 5, 2, .inr (.inr (.inr (.inr (fun _ => none)))))), (mtb, .inl (cs 5, 2, .inr (.inr (.inr (.inr (fun _ => none)))))), (mti, .inl (cs 6, 2, .inr (.inr (.inr (.inr (fun _ => none)))))), (mde, .inl (cs 0, 2001, .inl de))] H := by rw [hH]; exact hP
  replace hS : va_S A s.heap H [] := by rw [hH]; exact hS
  obtain ⟨locs, hlocs⟩ : ∃ z : List Loc, z = [] := ⟨_, rfl⟩
  rw [← hlocs] at hS
  suffices hW : W p l e ({ frames := 5, cells := 6, slots := 212482, locals := 112 } : Room) s m args below meth c H locs 0 0 (MQ below ((xQi D (fun (r : Int32) (_u : Unit) => r = -2) (fun (_u : Unit) => [])) A) args s 6 212482 A) (F0 m 0 ls []) by rw [hlocs, hH] at hW; exact hW
  clear hH hlocs
  refine lv_aload_n hx hb dX12_way_0 rfl (lv_at hl 0 rfl) ?_
  refine lv_iconst (v := nI 0) hx hb dX12_way_1 (by decide) ?_
  refine xput C hP hD hS 0 rfl rfl zuX12 tyX12 tyX12_ok nmX12 18 (by decide) zw5_231 rfl rfl rfl (Nat.le_of_ble_eq_true rfl) dX12_way_2 ?_
  clear hP hD hS
  try clear locs
  try clear H
  intro H locs hP hD hS
  replace hP : va_P D vwCl [(hm, .inr (12, [.ref ms, .ref mkp, .int (nI 0), .ref mtr, .int (nI 4), .int (nI 2), .int (nI 2), .int (nI 3), .int (nI 2), .int (nI 1), .ref mas, .int (nI 0), .int (nI 0), .int (nI 0), .ref mso, .ref mon, .ref mot, .ref man, .int (nI 0), .int (nI 0), .ref mst, .ref msm, .ref mtb, .ref mti, .ref mfr, .ref mbn, .ref mbs, .ref mde, .int (nI 0), .int (nI 0), .int (nI 0), .int (nI 0), .long 0, .long 0, .ref maa, .ref mab, .ref mba, .ref mbb])), (ms, .inl (cs 0, 288, .inl freshS)), (mtr, .inl (cs 0, 288, .inl tf)), (msm, .inl (cs 0, 2, .inl (fun _ => 0))), (mst, .inl (cs 5, 2, .inr (.inr (.inr (.inr (fun _ => none)))))), (mtb, .inl (cs 5, 2, .inr (.inr (.inr (.inr (fun _ => none)))))), (mti, .inl (cs 6, 2, .inr (.inr (.inr (.inr (fun _ => none)))))), (mde, .inl (cs 0, 2001, .inl de))] H := hP
  replace hD : va_D A [(hm, .inr (12, [.ref ms, .ref mkp, .int (nI 0), .ref mtr, .int (nI 4), .int (nI 2), .int (nI 2), .int (nI 3), .int (nI 2), .int (nI 1), .ref mas, .int (nI 0), .int (nI 0), .int (nI 0), .ref mso, .ref mon, .ref mot, .ref man, .int (nI 0), .int (nI 0), .ref mst, .ref msm, .ref mtb, .ref mti, .ref mfr, .ref mbn, .ref mbs, .ref mde, .int (nI 0), .int (nI 0), .int (nI 0), .int (nI 0), .long 0, .long 0, .ref maa, .ref mab, .ref mba, .ref mbb])), (ms, .inl (cs 0, 288, .inl freshS)), (mtr, .inl (cs 0, 288, .inl tf)), (msm, .inl (cs 0, 2, .inl (fun _ => 0))), (mst, .inl (cs 5, 2, .inr (.inr (.inr (.inr (fun _ => none)))))), (mtb, .inl (cs 5, 2, .inr (.inr (.inr (.inr (fun _ => none)))))), (mti, .inl (cs 6, 2, .inr (.inr (.inr (.inr (fun _ => none)))))), (mde, .inl (cs 0, 2001, .inl de))] := hD
  refine lv_aload_n hx hb dX12_way_5 rfl (lv_at hl 0 rfl) ?_
  refine xi (wr := []) (xV (As := []) (rest := []) C (c_X12_finds l D cs hm ms mkp mtr mas mso mon mot man mst msm mtb mti mfr mbn mbs mde maa mab mba mbb tf de) kX12_249 hP hD [0, 1, 2, 3, 4, 5, 6, 7] rfl (by decide +kernel) 0 rfl rfl rfl ⟨Nat.le_of_ble_eq_true rfl, Nat.le_of_ble_eq_true rfl⟩ rfl hl.1 rfl (Nat.le_of_ble_eq_true rfl) dX12_way_6 ⟨Nat.le_of_ble_eq_true rfl, Nat.le_of_ble_eq_true rfl⟩) hP hD hS hA [0, 1, 2, 3, 4, 5, 6, 7] [] rfl rfl (by decide +kernel) (by decide +kernel) ?_
  clear hP hD hS
  try clear locs
  try clear H
  intro r_1 u_2 H locs hw_r_1 hP hD hS
  have hw_r_1 : r_1 = -1 := hw_r_1
  refine W.widen (k := 6) (n := 212482) (Nat.le_of_ble_eq_true rfl) (Nat.le_of_ble_eq_true rfl) ?_
  replace hP : va_P D vwCl [] H := hP
  replace hD : va_D A [] := hD
  subst hw_r_1
  refine lv_istore_n (lv' := [(3, .int (-1)), (0, .ref hm), (1, .int x), (2, .int y)]) hx hb dX12_way_9 rfl hl (by decide) rfl ?_
  clear hl
  try clear ls
  intro ls hl
  refine lv_iload_n hx hb dX12_way_10 rfl (lv_at hl 0 rfl) ?_
  refine lv_bipush (v := (-3)) hx hb dX12_way_11 (by decide) ?_
  refine lv_icmp_ne (tgt := 19) hx hb dX12_way_13 (by decide) (fun _ => ?_) (fun c => absurd c (by decide))
  refine lv_iload_n hx hb dX12_way_19 rfl (lv_at hl 3 rfl) ?_
  refine lv_iconst (v := nI 0) hx hb dX12_way_20 (by decide) ?_
  refine lv_iconst (v := nI 1) hx hb dX12_way_21 (by decide) ?_
  refine xi (wr := []) (xS (As := [.int y, .int (nI 0), .int (nI 1)]) (rest := []) C (c_X12_within l D cs y (nI 0) (nI 1)) kX12_116 hP hD [] rfl (by decide +kernel) ⟨Nat.le_of_ble_eq_true rfl, Nat.le_of_ble_eq_true rfl⟩ rfl hl.1 rfl (Nat.le_of_ble_eq_true rfl) dX12_way_22 ⟨Nat.le_of_ble_eq_true rfl, Nat.le_of_ble_eq_true rfl⟩) hP hD hS hA [] [] rfl rfl (by decide +kernel) (by decide +kernel) ?_
  clear hP hD hS
  try clear locs
  try clear H
  intro r_3 u_4 H locs hw_r_3 hP hD hS
  have hw_r_3 : PQ (¬ y < (nI 0) ∧ y ≤ (nI 1)) r_3 (nI 1) (nI 0) := hw_r_3
  refine W.widen (k := 6) (n := 212482) (Nat.le_of_ble_eq_true rfl) (Nat.le_of_ble_eq_true rfl) ?_
  replace hP : va_P D vwCl [] H := hP
  replace hD : va_D A [] := hD
  refine lv_if_eq (tgt := 39) hx hb dX12_way_25 (by decide) (fun c_5 => ?_) (fun c_5 => ?_)
  · -- 25 t
    have hn_a := PQ.no hw_r_3 c_5 (by decide)
    refine lv_bipush (v := (-2)) hx hb dX12_way_39 (by decide) ?_
    exact xreti C () rfl hP hD hS (Nat.le_of_ble_eq_true rfl) (Nat.le_of_ble_eq_true rfl) rfl dX12_way_41
  · -- 25 f
    have hy_a := PQ.yes hw_r_3 c_5
    refine lv_iload_n hx hb dX12_way_28 rfl (lv_at hl 2 rfl) ?_
    refine lv_iconst (v := nI 0) hx hb dX12_way_29 (by decide) ?_
    refine lv_iload_n hx hb dX12_way_30 rfl (lv_at hl 0 rfl) ?_
    refine lv_iconst (v := nI 1) hx hb dX12_way_31 (by decide) ?_
    refine lv_isub hx hb dX12_way_32 ?_
    refine xi (wr := []) (xS (As := [.int x, .int (nI 0), .int ((-1) - (nI 1))]) (rest := []) C (c_X12_within l D cs x (nI 0) ((-1) - (nI 1))) kX12_116 hP hD [] rfl (by decide +kernel) ⟨Nat.le_of_ble_eq_true rfl, Nat.le_of_ble_eq_true rfl⟩ rfl hl.1 rfl (Nat.le_of_ble_eq_true rfl) dX12_way_33 ⟨Nat.le_of_ble_eq_true rfl, Nat.le_of_ble_eq_true rfl⟩) hP hD hS hA [] [] rfl rfl (by decide +kernel) (by decide +kernel) ?_
    clear hP hD hS
    try clear locs
    try clear H
    intro r_6 u_7 H locs hw_r_6 hP hD hS
    have hw_r_6 : PQ (¬ x < (nI 0) ∧ x ≤ ((-1) - (nI 1))) r_6 (nI 1) (nI 0) := hw_r_6
    refine W.widen (k := 6) (n := 212482) (Nat.le_of_ble_eq_true rfl) (Nat.le_of_ble_eq_true rfl) ?_
    replace hP : va_P D vwCl [] H := hP
    replace hD : va_D A [] := hD
    obtain rfl : r_6 = nI 0 := by rcases hw_r_6 with ⟨q, _⟩ | ⟨_, q⟩; exact absurd (Int32.lt_of_le_of_lt q.2 (by decide)) q.1; exact q
    refine lv_if_ne (tgt := 42) hx hb dX12_way_36 (by decide) (fun c => absurd (by decide) c) (fun _ => ?_)
    refine lv_bipush (v := (-2)) hx hb dX12_way_39 (by decide) ?_
    exact xreti C () rfl hP hD hS (Nat.le_of_ble_eq_true rfl) (Nat.le_of_ble_eq_true rfl) rfl dX12_way_41
