set_option maxHeartbeats 4000000 in
set_option maxRecDepth 100000 in
theorem c_X12_canAsk_r (l : Launch) (D : va_G) (cs : Nat → ClassId) (hm ms mkp mtr mas mso mon mot man mst msm mtb mti mfr mbn mbs mde maa mab mba mbb : Nat) (km xx : Int32) (j : Nat) (hj : j < 4) : xMet l D cs yX12_canAsk cX12_canAsk 2 (some .boolean) ({ frames := 0, cells := 0, slots := 0, locals := 0 } : Room) [.ref hm, .int (nI j)] [(hm, .inr (12, [.ref ms, .ref mkp, .int km, .ref mtr, .int (nI 4), .int (nI 2), .int (nI 2), .int (nI 3), .int (nI 2), .int (nI 1), .ref mas, .int (nI 0), .int (nI 0), .int (nI 0), .ref mso, .ref mon, .ref mot, .ref man, .int (nI 0), .int xx, .ref mst, .ref msm, .ref mtb, .ref mti, .ref mfr, .ref mbn, .ref mbs, .ref mde, .int (nI 0), .int (nI 0), .int (nI 0), .int (nI 0), .long 0, .long 0, .ref maa, .ref mab, .ref mba, .ref mbb])), (ms, .inl (cs 0, 288, .inl freshS))] (xQi D (fun (r : Int32) (_u : Unit) => r = nI 0) (fun (_u : Unit) => [(hm, .inr (12, [.ref ms, .ref mkp, .int km, .ref mtr, .int (nI 4), .int (nI 2), .int (nI 2), .int (nI 3), .int (nI 2), .int (nI 1), .ref mas, .int (nI 0), .int (nI 0), .int (nI 0), .ref mso, .ref mon, .ref mot, .ref man, .int (nI 0), .int xx, .ref mst, .ref msm, .ref mtb, .ref mti, .ref mfr, .ref mbn, .ref mbs, .ref mde, .int (nI 0), .int (nI 0), .int (nI 0), .int (nI 0), .long 0, .long 0, .ref maa, .ref mab, .ref mba, .ref mbb])), (ms, .inl (cs 0, 288, .inl freshS))])) := by
  refine xMet.intro (by decide) (Nat.le_of_ble_eq_true rfl) ?_
  intro p e s m args below meth c A ls C hP hD hS hl
  have hx := C.1
  have hb := C.2.1
  have hz := C.2.2.2.2.1
  have hown := C.2.2.2.1
  have hA := C.2.2.2.2.2.2.2.2.2
  have hAO := C.2.2.2.2.2.2.2.2.1.2.2
  replace hl : lv_has ls 2 [(0, .ref hm), (1, .int (nI j))] := hl
  obtain ⟨H, hH⟩ : ∃ H, H = s.heap := ⟨_, rfl⟩
  replace hP : va_P D vwCl [(hm, .inr (12, [.ref ms, .ref mkp, .int km, .ref mtr, .int (nI 4), .int (nI 2), .int (nI 2), .int (nI 3), .int (nI 2), .int (nI 1), .ref mas, .int (nI 0), .int (nI 0), .int (nI 0), .ref mso, .ref mon, .ref mot, .ref man, .int (nI 0), .int xx, .ref mst, .ref msm, .ref mtb, .ref mti, .ref mfr, .ref mbn, .ref mbs, .ref mde, .int (nI 0), .int (nI 0), .int (nI 0), .int (nI 0), .long 0, .long 0, .ref maa, .ref mab, .ref mba, .ref mbb])), (ms, .inl (cs 0, 288, .inl freshS))] H := by rw [hH]; exact hP
  replace hS : va_S A s.heap H [] := by rw [hH]; exact hS
  obtain ⟨locs, hlocs⟩ : ∃ z : List Loc, z = [] := ⟨_, rfl⟩
  rw [← hlocs] at hS
  suffices hW : W p l e ({ frames := 0, cells := 0, slots := 0, locals := 0 } : Room) s m args below meth c H locs 0 0 (MQ below ((xQi D (fun (r : Int32) (_u : Unit) => r = nI 0) (fun (_u : Unit) => [(hm, .inr (12, [.ref ms, .ref mkp, .int km, .ref mtr, .int (nI 4), .int (nI 2), .int (nI 2), .int (nI 3), .int (nI 2), .int (nI 1), .ref mas, .int (nI 0), .int (nI 0), .int (nI 0), .ref mso, .ref mon, .ref mot, .ref man, .int (nI 0), .int xx, .ref mst, .ref msm, .ref mtb, .ref mti, .ref mfr, .ref mbn, .ref mbs, .ref mde, .int (nI 0), .int (nI 0), .int (nI 0), .int (nI 0), .long 0, .long 0, .ref maa, .ref mab, .ref mba, .ref mbb])), (ms, .inl (cs 0, 288, .inl freshS))])) A) args s 0 0 A) (F0 m 0 ls []) by rw [hlocs, hH] at hW; exact hW
  clear hH hlocs
  refine lv_aload_n hx hb dX12_canAsk_0 rfl (lv_at hl 0 rfl) ?_
  refine xget C hP 0 rfl rfl zuX12 0 (by decide) zw5_213 rfl dX12_canAsk_1 ?_
  refine lv_bipush (v := nI 48) hx hb dX12_canAsk_4 (by decide) ?_
  refine lv_iload_n hx hb dX12_canAsk_6 rfl (lv_at hl 1 rfl) ?_
  refine lv_iadd hx hb dX12_canAsk_7 ?_
  refine lv_topi (nm_r (e' := nI (48 + j)) (nI_add _ _) ?_)
  refine xiald C hP 1 rfl (48 + j) rfl (by omega) (by decide) dX12_canAsk_8 ?_
  refine lv_topi (nm_r (e' := nI 0) (fS_z (by omega)) ?_)
  refine lv_if_ne (tgt := 39) hx hb dX12_canAsk_9 (by decide) (fun c => absurd (by decide) c) (fun _ => ?_)
  refine lv_aload_n hx hb dX12_canAsk_12 rfl (lv_at hl 0 rfl) ?_
  refine xget C hP 0 rfl rfl zuX12 0 (by decide) zw5_213 rfl dX12_canAsk_13 ?_
  refine lv_bipush (v := nI 40) hx hb dX12_canAsk_16 (by decide) ?_
  refine lv_iload_n hx hb dX12_canAsk_18 rfl (lv_at hl 1 rfl) ?_
  refine lv_iadd hx hb dX12_canAsk_19 ?_
  refine lv_topi (nm_r (e' := nI (40 + j)) (nI_add _ _) ?_)
  refine xiald C hP 1 rfl (40 + j) rfl (by omega) (by decide) dX12_canAsk_20 ?_
  refine lv_topi (nm_r (e' := nI 0) (fS_z (by omega)) ?_)
  refine lv_if_ne (tgt := 39) hx hb dX12_canAsk_21 (by decide) (fun c => absurd (by decide) c) (fun _ => ?_)
  refine lv_aload_n hx hb dX12_canAsk_24 rfl (lv_at hl 0 rfl) ?_
  refine xget C hP 0 rfl rfl zuX12 0 (by decide) zw5_213 rfl dX12_canAsk_25 ?_
  refine lv_iconst (v := nI 0) hx hb dX12_canAsk_28 (by decide) ?_
  refine lv_iload_n hx hb dX12_canAsk_29 rfl (lv_at hl 1 rfl) ?_
  refine lv_iadd hx hb dX12_canAsk_30 ?_
  refine lv_topi (nm_r (e' := nI (0 + j)) (nI_add _ _) ?_)
  refine xiald C hP 1 rfl (0 + j) rfl (by omega) (by decide) dX12_canAsk_31 ?_
  refine lv_topi (nm_r (e' := (-1)) (fS_16 (by omega)) ?_)
  refine lv_if_lt (tgt := 39) hx hb dX12_canAsk_32 (by decide) (fun _ => ?_) (fun c => absurd (by decide) c)
  refine lv_iconst (v := nI 0) hx hb dX12_canAsk_39 (by decide) ?_
  exact xreti C () rfl hP hD hS (Nat.le_of_ble_eq_true rfl) (Nat.le_of_ble_eq_true rfl) (by decide) dX12_canAsk_40

set_option maxHeartbeats 4000000 in
set_option maxRecDepth 100000 in
theorem c_X12_run_z (l : Launch) (D : va_G) (cs : Nat → ClassId) (hm ms mkp mtr mas mso mon mot man mst msm mtb mti mfr mbn mbs mde maa mab mba mbb : Nat) (kf : Nat → Int32) (x sd : Int32) : xMet l D cs yX12_run cX12_run 7 (some .int) ({ frames := 3, cells := 0, slots := 0, locals := 70 } : Room) [.ref hm, .int x, .int sd] [(hm, .inr (12, [.ref ms, .ref mkp, .int (nI 0), .ref mtr, .int (nI 4), .int (nI 2), .int (nI 2), .int (nI 3), .int (nI 2), .int (nI 1), .ref mas, .int (nI 0), .int (nI 0), .int (nI 0), .ref mso, .ref mon, .ref mot, .ref man, .int (nI 0), .int (nI 0), .ref mst, .ref msm, .ref mtb, .ref mti, .ref mfr, .ref mbn, .ref mbs, .ref mde, .int (nI 0), .int (nI 0), .int (nI 0), .int (nI 0), .long 0, .long 0, .ref maa, .ref mab, .ref mba, .ref mbb])), (ms, .inl (cs 0, 288, .inl freshS)), (mkp, .inl (cs 0, 2304, .inl kf))] (xQi D (fun (r : Int32) (_u : Unit) => PQ (¬ x < nI 1 ∧ x ≤ nI 300) r (nI 0) (-1)) (fun (_u : Unit) => [])) := by
  refine xMet.intro (by decide) (Nat.le_of_ble_eq_true rfl) ?_
  intro p e s m args below meth c A ls C hP hD hS hl
  have hx := C.1
  have hb := C.2.1
  have hz := C.2.2.2.2.1
  have hown := C.2.2.2.1
  have hA := C.2.2.2.2.2.2.2.2.2
  have hAO := C.2.2.2.2.2.2.2.2.1.2.2
  replace hl : lv_has ls 7 [(0, .ref hm), (1, .int x), (2, .int sd)] := hl
  obtain ⟨H, hH⟩ : ∃ H, H = s.heap := ⟨_, rfl⟩
  replace hP : va_P D vwCl [(hm, .inr (12, [.ref ms, .ref mkp, .int (nI 0), .ref mtr, .int (nI 4), .int (nI 2), .int (nI 2), .int (nI 3), .int (nI 2), .int (nI 1), .ref mas, .int (nI 0), .int (nI 0), .int (nI 0), .ref mso, .ref mon, .ref mot, .ref man, .int (nI 0), .int (nI 0), .ref mst, .ref msm, .ref mtb, .ref mti, .ref mfr, .ref mbn, .ref mbs, .ref mde, .int (nI 0), .int (nI 0), .int (nI 0), .int (nI 0), .long 0, .long 0, .ref maa, .ref mab, .ref mba, .ref mbb])), (ms, .inl (cs 0, 288, .inl freshS)), (mkp, .inl (cs 0, 2304, .inl kf))] H := by rw [hH]; exact hP
  replace hS : va_S A s.heap H [] := by rw [hH]; exact hS
  obtain ⟨locs, hlocs⟩ : ∃ z : List Loc, z = [] := ⟨_, rfl⟩
  rw [← hlocs] at hS
  suffices hW : W p l e ({ frames := 3, cells := 0, slots := 0, locals := 70 } : Room) s m args below meth c H locs 0 0 (MQ below ((xQi D (fun (r : Int32) (_u : Unit) => PQ (¬ x < nI 1 ∧ x ≤ nI 300) r (nI 0) (-1)) (fun (_u : Unit) => [])) A) args s 0 0 A) (F0 m 0 ls []) by rw [hlocs, hH] at hW; exact hW
  clear hH hlocs
  refine lv_aload_n hx hb dX12_run_0 rfl (lv_at hl 0 rfl) ?_
  refine lv_iconst (v := nI 0) hx hb dX12_run_1 (by decide) ?_
  refine xput C hP hD hS 0 rfl rfl zuX12 tyX12 tyX12_ok nmX12 18 (by decide) zw5_231 rfl rfl rfl (Nat.le_of_ble_eq_true rfl) dX12_run_2 ?_
  clear hP hD hS
  try clear locs
  try clear H
  intro H locs hP hD hS
  replace hP : va_P D vwCl [(hm, .inr (12, [.ref ms, .ref mkp, .int (nI 0), .ref mtr, .int (nI 4), .int (nI 2), .int (nI 2), .int (nI 3), .int (nI 2), .int (nI 1), .ref mas, .int (nI 0), .int (nI 0), .int (nI 0), .ref mso, .ref mon, .ref mot, .ref man, .int (nI 0), .int (nI 0), .ref mst, .ref msm, .ref mtb, .ref mti, .ref mfr, .ref mbn, .ref mbs, .ref mde, .int (nI 0), .int (nI 0), .int (nI 0), .int (nI 0), .long 0, .long 0, .ref maa, .ref mab, .ref mba, .ref mbb])), (ms, .inl (cs 0, 288, .inl freshS)), (mkp, .inl (cs 0, 2304, .inl kf))] H := hP
  replace hD : va_D A [(hm, .inr (12, [.ref ms, .ref mkp, .int (nI 0), .ref mtr, .int (nI 4), .int (nI 2), .int (nI 2), .int (nI 3), .int (nI 2), .int (nI 1), .ref mas, .int (nI 0), .int (nI 0), .int (nI 0), .ref mso, .ref mon, .ref mot, .ref man, .int (nI 0), .int (nI 0), .ref mst, .ref msm, .ref mtb, .ref mti, .ref mfr, .ref mbn, .ref mbs, .ref mde, .int (nI 0), .int (nI 0), .int (nI 0), .int (nI 0), .long 0, .long 0, .ref maa, .ref mab, .ref mba, .ref mbb])), (ms, .inl (cs 0, 288, .inl freshS)), (mkp, .inl (cs 0, 2304, .inl kf))] := hD
  refine lv_iload_n hx hb dX12_run_5 rfl (lv_at hl 1 rfl) ?_
  refine lv_iconst (v := nI 1) hx hb dX12_run_6 (by decide) ?_
  refine lv_sipush (v := nI 300) hx hb dX12_run_7 (by decide) ?_
  refine xi (wr := [(hm, .inr (12, [.ref ms, .ref mkp, .int (nI 0), .ref mtr, .int (nI 4), .int (nI 2), .int (nI 2), .int (nI 3), .int (nI 2), .int (nI 1), .ref mas, .int (nI 0), .int (nI 0), .int (nI 0), .ref mso, .ref mon, .ref mot, .ref man, .int (nI 0), .int (nI 0), .ref mst, .ref msm, .ref mtb, .ref mti, .ref mfr, .ref mbn, .ref mbs, .ref mde, .int (nI 0), .int (nI 0), .int (nI 0), .int (nI 0), .long 0, .long 0, .ref maa, .ref mab, .ref mba, .ref mbb])), (ms, .inl (cs 0, 288, .inl freshS)), (mkp, .inl (cs 0, 2304, .inl kf))]) (xS (As := [.int x, .int (nI 1), .int (nI 300)]) (rest := []) C (c_X12_within l D cs x (nI 1) (nI 300)) kX12_116 hP hD [] rfl (by decide +kernel) ⟨Nat.le_of_ble_eq_true rfl, Nat.le_of_ble_eq_true rfl⟩ rfl hl.1 rfl (Nat.le_of_ble_eq_true rfl) dX12_run_10 ⟨Nat.le_of_ble_eq_true rfl, Nat.le_of_ble_eq_true rfl⟩) hP hD hS hA [] [0, 1, 2] rfl rfl (by decide +kernel) (by decide +kernel) ?_
  clear hP hD hS
  try clear locs
  try clear H
  intro r_1 u_2 H locs hw_r_1 hP hD hS
  have hw_r_1 : PQ (¬ x < (nI 1) ∧ x ≤ (nI 300)) r_1 (nI 1) (nI 0) := hw_r_1
  refine W.widen (k := 0) (n := 0) (Nat.le_of_ble_eq_true rfl) (Nat.le_of_ble_eq_true rfl) ?_
  replace hP : va_P D vwCl [(hm, .inr (12, [.ref ms, .ref mkp, .int (nI 0), .ref mtr, .int (nI 4), .int (nI 2), .int (nI 2), .int (nI 3), .int (nI 2), .int (nI 1), .ref mas, .int (nI 0), .int (nI 0), .int (nI 0), .ref mso, .ref mon, .ref mot, .ref man, .int (nI 0), .int (nI 0), .ref mst, .ref msm, .ref mtb, .ref mti, .ref mfr, .ref mbn, .ref mbs, .ref mde, .int (nI 0), .int (nI 0), .int (nI 0), .int (nI 0), .long 0, .long 0, .ref maa, .ref mab, .ref mba, .ref mbb])), (ms, .inl (cs 0, 288, .inl freshS)), (mkp, .inl (cs 0, 2304, .inl kf))] H := hP
  replace hD : va_D A [(hm, .inr (12, [.ref ms, .ref mkp, .int (nI 0), .ref mtr, .int (nI 4), .int (nI 2), .int (nI 2), .int (nI 3), .int (nI 2), .int (nI 1), .ref mas, .int (nI 0), .int (nI 0), .int (nI 0), .ref mso, .ref mon, .ref mot, .ref man, .int (nI 0), .int (nI 0), .ref mst, .ref msm, .ref mtb, .ref mti, .ref mfr, .ref mbn, .ref mbs, .ref mde, .int (nI 0), .int (nI 0), .int (nI 0), .int (nI 0), .long 0, .long 0, .ref maa, .ref mab, .ref mba, .ref mbb])), (ms, .inl (cs 0, 288, .inl freshS)), (mkp, .inl (cs 0, 2304, .inl kf))] := hD
  refine lv_if_ne (tgt := 18) hx hb dX12_run_13 (by decide) (fun c_3 => ?_) (fun c_3 => ?_)
  · -- 13 t
    have hy_a := PQ.yes hw_r_1 c_3
    obtain ⟨nn, h_nn, rfl⟩ : ∃ j : Nat, j ≤ 300 ∧ x = nI j := nI_of2 (M := nI 300) (by decide) (fun q => hy_a.1 (Int32.lt_trans q (by decide))) hy_a.2
    replace hP : va_P D vwCl [(hm, .inr (12, [.ref ms, .ref mkp, .int (nI 0), .ref mtr, .int (nI 4), .int (nI 2), .int (nI 2), .int (nI 3), .int (nI 2), .int (nI 1), .ref mas, .int (nI 0), .int (nI 0), .int (nI 0), .ref mso, .ref mon, .ref mot, .ref man, .int (nI 0), .int (nI 0), .ref mst, .ref msm, .ref mtb, .ref mti, .ref mfr, .ref mbn, .ref mbs, .ref mde, .int (nI 0), .int (nI 0), .int (nI 0), .int (nI 0), .long 0, .long 0, .ref maa, .ref mab, .ref mba, .ref mbb])), (ms, .inl (cs 0, 288, .inl freshS)), (mkp, .inl (cs 0, 2304, .inl kf))] H := hP
    replace hD : va_D A [(hm, .inr (12, [.ref ms, .ref mkp, .int (nI 0), .ref mtr, .int (nI 4), .int (nI 2), .int (nI 2), .int (nI 3), .int (nI 2), .int (nI 1), .ref mas, .int (nI 0), .int (nI 0), .int (nI 0), .ref mso, .ref mon, .ref mot, .ref man, .int (nI 0), .int (nI 0), .ref mst, .ref msm, .ref mtb, .ref mti, .ref mfr, .ref mbn, .ref mbs, .ref mde, .int (nI 0), .int (nI 0), .int (nI 0), .int (nI 0), .long 0, .long 0, .ref maa, .ref mab, .ref mba, .ref mbb])), (ms, .inl (cs 0, 288, .inl freshS)), (mkp, .inl (cs 0, 2304, .inl kf))] := hD
    refine lv_aload_n hx hb dX12_run_18 rfl (lv_at hl 0 rfl) ?_
    refine xv (wr := []) (xV (As := []) (rest := []) C (c_X12_keeps_z l D cs hm ms mkp mtr mas mso mon mot man mst msm mtb mti mfr mbn mbs mde maa mab mba mbb kf) kX12_124 hP hD [0, 1, 2] rfl (by decide +kernel) 0 rfl rfl rfl ⟨Nat.le_of_ble_eq_true rfl, Nat.le_of_ble_eq_true rfl⟩ rfl hl.1 rfl (Nat.le_of_ble_eq_true rfl) dX12_run_19 ⟨Nat.le_of_ble_eq_true rfl, Nat.le_of_ble_eq_true rfl⟩) hP hD hS hA [0, 1, 2] [] rfl rfl (by decide +kernel) (by decide +kernel) ?_
    clear hP hD hS
    try clear locs
    try clear H
    intro u_5 H locs hw_r_4 hP hD hS
    refine W.widen (k := 0) (n := 0) (Nat.le_of_ble_eq_true rfl) (Nat.le_of_ble_eq_true rfl) ?_
    replace hP : va_P D vwCl [(hm, .inr (12, [.ref ms, .ref mkp, .int (nI 1), .ref mtr, .int (nI 4), .int (nI 2), .int (nI 2), .int (nI 3), .int (nI 2), .int (nI 1), .ref mas, .int (nI 0), .int (nI 0), .int (nI 0), .ref mso, .ref mon, .ref mot, .ref man, .int (nI 0), .int (nI 0), .ref mst, .ref msm, .ref mtb, .ref mti, .ref mfr, .ref mbn, .ref mbs, .ref mde, .int (nI 0), .int (nI 0), .int (nI 0), .int (nI 0), .long 0, .long 0, .ref maa, .ref mab, .ref mba, .ref mbb])), (ms, .inl (cs 0, 288, .inl freshS)), (mkp, .inl (cs 0, 2304, .inl u_5))] H := hP
    replace hD : va_D A [(hm, .inr (12, [.ref ms, .ref mkp, .int (nI 1), .ref mtr, .int (nI 4), .int (nI 2), .int (nI 2), .int (nI 3), .int (nI 2), .int (nI 1), .ref mas, .int (nI 0), .int (nI 0), .int (nI 0), .ref mso, .ref mon, .ref mot, .ref man, .int (nI 0), .int (nI 0), .ref mst, .ref msm, .ref mtb, .ref mti, .ref mfr, .ref mbn, .ref mbs, .ref mde, .int (nI 0), .int (nI 0), .int (nI 0), .int (nI 0), .long 0, .long 0, .ref maa, .ref mab, .ref mba, .ref mbb])), (ms, .inl (cs 0, 288, .inl freshS)), (mkp, .inl (cs 0, 2304, .inl u_5))] := hD
    refine lv_aload_n hx hb dX12_run_22 rfl (lv_at hl 0 rfl) ?_
    refine lv_iload_n hx hb dX12_run_23 rfl (lv_at hl 2 rfl) ?_
    refine xput C hP hD hS 0 rfl rfl zuX12 tyX12 tyX12_ok nmX12 19 (by decide) zw5_232 rfl rfl rfl (Nat.le_of_ble_eq_true rfl) dX12_run_24 ?_
    clear hP hD hS
    try clear locs
    try clear H
    intro H locs hP hD hS
    replace hP : va_P D vwCl [(hm, .inr (12, [.ref ms, .ref mkp, .int (nI 1), .ref mtr, .int (nI 4), .int (nI 2), .int (nI 2), .int (nI 3), .int (nI 2), .int (nI 1), .ref mas, .int (nI 0), .int (nI 0), .int (nI 0), .ref mso, .ref mon, .ref mot, .ref man, .int (nI 0), .int sd, .ref mst, .ref msm, .ref mtb, .ref mti, .ref mfr, .ref mbn, .ref mbs, .ref mde, .int (nI 0), .int (nI 0), .int (nI 0), .int (nI 0), .long 0, .long 0, .ref maa, .ref mab, .ref mba, .ref mbb])), (ms, .inl (cs 0, 288, .inl freshS)), (mkp, .inl (cs 0, 2304, .inl u_5))] H := hP
    replace hD : va_D A [(hm, .inr (12, [.ref ms, .ref mkp, .int (nI 1), .ref mtr, .int (nI 4), .int (nI 2), .int (nI 2), .int (nI 3), .int (nI 2), .int (nI 1), .ref mas, .int (nI 0), .int (nI 0), .int (nI 0), .ref mso, .ref mon, .ref mot, .ref man, .int (nI 0), .int sd, .ref mst, .ref msm, .ref mtb, .ref mti, .ref mfr, .ref mbn, .ref mbs, .ref mde, .int (nI 0), .int (nI 0), .int (nI 0), .int (nI 0), .long 0, .long 0, .ref maa, .ref mab, .ref mba, .ref mbb])), (ms, .inl (cs 0, 288, .inl freshS)), (mkp, .inl (cs 0, 2304, .inl u_5))] := hD
    refine lv_iconst (v := nI 0) hx hb dX12_run_27 (by decide) ?_
    refine lv_istore_n (lv' := [(3, .int (nI 0)), (0, .ref hm), (1, .int (nI nn)), (2, .int sd)]) hx hb dX12_run_28 rfl hl (by decide) rfl ?_
    clear hl
    try clear ls
    intro ls hl
    refine lv_iconst (v := nI 0) hx hb dX12_run_29 (by decide) ?_
    refine lv_istore (lv' := [(4, .int (nI 0)), (3, .int (nI 0)), (0, .ref hm), (1, .int (nI nn)), (2, .int sd)]) hx hb dX12_run_30 hl (by decide) rfl ?_
    clear hl
    try clear ls
    intro ls hl
    have loop_6 : ∀ (n_loop_6 : Nat) (i : Nat) (xx : Int32), (i ≤ nn) → nn - i < n_loop_6 → ∀ (H : Heap) (locs : List Loc) (ls : Array Slot), va_P D vwCl [(hm, .inr (12, [.ref ms, .ref mkp, .int (nI 1), .ref mtr, .int (nI 4), .int (nI 2), .int (nI 2), .int (nI 3), .int (nI 2), .int (nI 1), .ref mas, .int (nI 0), .int (nI 0), .int (nI 0), .ref mso, .ref mon, .ref mot, .ref man, .int (nI 0), .int xx, .ref mst, .ref msm, .ref mtb, .ref mti, .ref mfr, .ref mbn, .ref mbs, .ref mde, .int (nI 0), .int (nI 0), .int (nI 0), .int (nI 0), .long 0, .long 0, .ref maa, .ref mab, .ref mba, .ref mbb])), (ms, .inl (cs 0, 288, .inl freshS)), (mkp, .inl (cs 0, 2304, .inl u_5))] H → va_D A [(hm, .inr (12, [.ref ms, .ref mkp, .int (nI 1), .ref mtr, .int (nI 4), .int (nI 2), .int (nI 2), .int (nI 3), .int (nI 2), .int (nI 1), .ref mas, .int (nI 0), .int (nI 0), .int (nI 0), .ref mso, .ref mon, .ref mot, .ref man, .int (nI 0), .int xx, .ref mst, .ref msm, .ref mtb, .ref mti, .ref mfr, .ref mbn, .ref mbs, .ref mde, .int (nI 0), .int (nI 0), .int (nI 0), .int (nI 0), .long 0, .long 0, .ref maa, .ref mab, .ref mba, .ref mbb])), (ms, .inl (cs 0, 288, .inl freshS)), (mkp, .inl (cs 0, 2304, .inl u_5))] → va_S A s.heap H locs → lv_has ls 7 [(4, .int (nI i)), (3, .int (nI 0)), (0, .ref hm), (1, .int (nI nn)), (2, .int sd)] → W p l e ({ frames := 3, cells := 0, slots := 0, locals := 70 } : Room) s m args below meth c H locs 0 0 (MQ below ((xQi D (fun (r : Int32) (_u : Unit) => PQ (¬ (nI nn) < nI 1 ∧ (nI nn) ≤ nI 300) r (nI 0) (-1)) (fun (_u : Unit) => [])) A) args s 0 0 A) (F0 m 32 ls []) := by
      intro n_loop_6
      induction n_loop_6 with
      | zero => intro i xx h_i hlt H locs ls hP hD hS hl; exact absurd hlt (Nat.not_lt_zero _)
      | succ n_loop_6 ih_loop_6 =>
        intro i xx h_i hlt_loop_6 H locs ls hP hD hS hl
        refine lv_iload hx hb dX12_run_32 (lv_at hl 0 rfl) ?_
        refine lv_iload_n hx hb dX12_run_34 rfl (lv_at hl 3 rfl) ?_
        refine lv_icmp_ge (tgt := 110) hx hb dX12_run_35 (by decide) (fun c_7 => ?_) (fun c_7 => ?_)
        · -- 35 t
          have fc_7 : nn ≤ i := nf_le (by omega) (by omega) c_7
          obtain rfl : nn = i := by omega
          replace hP : va_P D vwCl [(hm, .inr (12, [.ref ms, .ref mkp, .int (nI 1), .ref mtr, .int (nI 4), .int (nI 2), .int (nI 2), .int (nI 3), .int (nI 2), .int (nI 1), .ref mas, .int (nI 0), .int (nI 0), .int (nI 0), .ref mso, .ref mon, .ref mot, .ref man, .int (nI 0), .int xx, .ref mst, .ref msm, .ref mtb, .ref mti, .ref mfr, .ref mbn, .ref mbs, .ref mde, .int (nI 0), .int (nI 0), .int (nI 0), .int (nI 0), .long 0, .long 0, .ref maa, .ref mab, .ref mba, .ref mbb])), (ms, .inl (cs 0, 288, .inl freshS)), (mkp, .inl (cs 0, 2304, .inl u_5))] H := hP
          replace hD : va_D A [(hm, .inr (12, [.ref ms, .ref mkp, .int (nI 1), .ref mtr, .int (nI 4), .int (nI 2), .int (nI 2), .int (nI 3), .int (nI 2), .int (nI 1), .ref mas, .int (nI 0), .int (nI 0), .int (nI 0), .ref mso, .ref mon, .ref mot, .ref man, .int (nI 0), .int xx, .ref mst, .ref msm, .ref mtb, .ref mti, .ref mfr, .ref mbn, .ref mbs, .ref mde, .int (nI 0), .int (nI 0), .int (nI 0), .int (nI 0), .long 0, .long 0, .ref maa, .ref mab, .ref mba, .ref mbb])), (ms, .inl (cs 0, 288, .inl freshS)), (mkp, .inl (cs 0, 2304, .inl u_5))] := hD
          refine lv_iload_n hx hb dX12_run_110 rfl (lv_at hl 1 rfl) ?_
          exact xreti C () (Or.inl ⟨hy_a, rfl⟩) (xP_map hP [] rfl) (hD.sub [] (by decide +kernel) rfl) hS (Nat.le_of_ble_eq_true rfl) (Nat.le_of_ble_eq_true rfl) rfl dX12_run_111
        · -- 35 f
          have fc_7 : i < nn := nf_nle (by omega) (by omega) c_7
          refine lv_aload_n hx hb dX12_run_38 rfl (lv_at hl 2 rfl) ?_
          refine lv_aload_n hx hb dX12_run_39 rfl (lv_at hl 2 rfl) ?_
          refine xget C hP 0 rfl rfl zuX12 4 (by decide) zw5_217 rfl dX12_run_40 ?_
          refine xi (wr := [(ms, .inl (cs 0, 288, .inl freshS)), (mkp, .inl (cs 0, 2304, .inl u_5))]) (xV (As := [.int (nI 4)]) (rest := []) C (c_X12_draw l D cs hm ms mkp mtr mas mso mon mot man mst msm mtb mti mfr mbn mbs mde maa mab mba mbb (nI 1) xx 4 (by decide) (by decide)) kX12_156 hP hD [0] rfl (by decide +kernel) 0 rfl rfl rfl ⟨Nat.le_of_ble_eq_true rfl, Nat.le_of_ble_eq_true rfl⟩ rfl hl.1 rfl (Nat.le_of_ble_eq_true rfl) dX12_run_43 ⟨Nat.le_of_ble_eq_true rfl, Nat.le_of_ble_eq_true rfl⟩) hP hD hS hA [0] [1, 2] rfl rfl (by decide +kernel) (by decide +kernel) ?_
          clear hP hD hS
          try clear locs
          try clear H
          intro r_8 u_9 H locs hw_r_8 hP hD hS
          have hw_r_8 : ∃ j, j < 4 ∧ r_8 = nI j := hw_r_8
          refine W.widen (k := 0) (n := 0) (Nat.le_of_ble_eq_true rfl) (Nat.le_of_ble_eq_true rfl) ?_
          replace hP : va_P D vwCl [(ms, .inl (cs 0, 288, .inl freshS)), (mkp, .inl (cs 0, 2304, .inl u_5)), (hm, .inr (12, [.ref ms, .ref mkp, .int (nI 1), .ref mtr, .int (nI 4), .int (nI 2), .int (nI 2), .int (nI 3), .int (nI 2), .int (nI 1), .ref mas, .int (nI 0), .int (nI 0), .int (nI 0), .ref mso, .ref mon, .ref mot, .ref man, .int (nI 0), .int u_9, .ref mst, .ref msm, .ref mtb, .ref mti, .ref mfr, .ref mbn, .ref mbs, .ref mde, .int (nI 0), .int (nI 0), .int (nI 0), .int (nI 0), .long 0, .long 0, .ref maa, .ref mab, .ref mba, .ref mbb]))] H := hP
          replace hD : va_D A [(ms, .inl (cs 0, 288, .inl freshS)), (mkp, .inl (cs 0, 2304, .inl u_5)), (hm, .inr (12, [.ref ms, .ref mkp, .int (nI 1), .ref mtr, .int (nI 4), .int (nI 2), .int (nI 2), .int (nI 3), .int (nI 2), .int (nI 1), .ref mas, .int (nI 0), .int (nI 0), .int (nI 0), .ref mso, .ref mon, .ref mot, .ref man, .int (nI 0), .int u_9, .ref mst, .ref msm, .ref mtb, .ref mti, .ref mfr, .ref mbn, .ref mbs, .ref mde, .int (nI 0), .int (nI 0), .int (nI 0), .int (nI 0), .long 0, .long 0, .ref maa, .ref mab, .ref mba, .ref mbb]))] := hD
          obtain ⟨j, hj, rfl⟩ := hw_r_8
          rcases (show j = 0 ∨ j = 1 ∨ j = 2 ∨ j = 3 by omega) with rfl | rfl | rfl | rfl
          · -- j = 0
            replace hP : va_P D vwCl [(ms, .inl (cs 0, 288, .inl freshS)), (mkp, .inl (cs 0, 2304, .inl u_5)), (hm, .inr (12, [.ref ms, .ref mkp, .int (nI 1), .ref mtr, .int (nI 4), .int (nI 2), .int (nI 2), .int (nI 3), .int (nI 2), .int (nI 1), .ref mas, .int (nI 0), .int (nI 0), .int (nI 0), .ref mso, .ref mon, .ref mot, .ref man, .int (nI 0), .int u_9, .ref mst, .ref msm, .ref mtb, .ref mti, .ref mfr, .ref mbn, .ref mbs, .ref mde, .int (nI 0), .int (nI 0), .int (nI 0), .int (nI 0), .long 0, .long 0, .ref maa, .ref mab, .ref mba, .ref mbb]))] H := hP
            replace hD : va_D A [(ms, .inl (cs 0, 288, .inl freshS)), (mkp, .inl (cs 0, 2304, .inl u_5)), (hm, .inr (12, [.ref ms, .ref mkp, .int (nI 1), .ref mtr, .int (nI 4), .int (nI 2), .int (nI 2), .int (nI 3), .int (nI 2), .int (nI 1), .ref mas, .int (nI 0), .int (nI 0), .int (nI 0), .ref mso, .ref mon, .ref mot, .ref man, .int (nI 0), .int u_9, .ref mst, .ref msm, .ref mtb, .ref mti, .ref mfr, .ref mbn, .ref mbs, .ref mde, .int (nI 0), .int (nI 0), .int (nI 0), .int (nI 0), .long 0, .long 0, .ref maa, .ref mab, .ref mba, .ref mbb]))] := hD
            refine lv_istore (lv' := [(5, .int (nI 0)), (4, .int (nI i)), (3, .int (nI 0)), (0, .ref hm), (1, .int (nI nn)), (2, .int sd)]) hx hb dX12_run_46 hl (by decide) rfl ?_
            clear hl
            try clear ls
            intro ls hl
            refine lv_aload_n hx hb dX12_run_48 rfl (lv_at hl 3 rfl) ?_
            refine lv_iload hx hb dX12_run_49 (lv_at hl 0 rfl) ?_
            refine xi (wr := [(ms, .inl (cs 0, 288, .inl freshS)), (mkp, .inl (cs 0, 2304, .inl u_5))]) (xV (As := [.int (nI 0)]) (rest := []) C (c_X12_drawSample_0 l D cs hm ms mkp mtr mas mso mon mot man mst msm mtb mti mfr mbn mbs mde maa mab mba mbb (nI 1) u_9) kX12_162 hP hD [2] rfl (by decide +kernel) 0 rfl rfl rfl ⟨Nat.le_of_ble_eq_true rfl, Nat.le_of_ble_eq_true rfl⟩ rfl hl.1 rfl (Nat.le_of_ble_eq_true rfl) dX12_run_51 ⟨Nat.le_of_ble_eq_true rfl, Nat.le_of_ble_eq_true rfl⟩) hP hD hS hA [2] [0, 1] rfl rfl (by decide +kernel) (by decide +kernel) ?_
            clear hP hD hS
            try clear locs
            try clear H
            intro r_10 u_11 H locs hw_r_10 hP hD hS
            refine W.widen (k := 0) (n := 0) (Nat.le_of_ble_eq_true rfl) (Nat.le_of_ble_eq_true rfl) ?_
            replace hP : va_P D vwCl [(ms, .inl (cs 0, 288, .inl freshS)), (mkp, .inl (cs 0, 2304, .inl u_5)), (hm, .inr (12, [.ref ms, .ref mkp, .int (nI 1), .ref mtr, .int (nI 4), .int (nI 2), .int (nI 2), .int (nI 3), .int (nI 2), .int (nI 1), .ref mas, .int (nI 0), .int (nI 0), .int (nI 0), .ref mso, .ref mon, .ref mot, .ref man, .int (nI 0), .int u_11, .ref mst, .ref msm, .ref mtb, .ref mti, .ref mfr, .ref mbn, .ref mbs, .ref mde, .int (nI 0), .int (nI 0), .int (nI 0), .int (nI 0), .long 0, .long 0, .ref maa, .ref mab, .ref mba, .ref mbb]))] H := hP
            replace hD : va_D A [(ms, .inl (cs 0, 288, .inl freshS)), (mkp, .inl (cs 0, 2304, .inl u_5)), (hm, .inr (12, [.ref ms, .ref mkp, .int (nI 1), .ref mtr, .int (nI 4), .int (nI 2), .int (nI 2), .int (nI 3), .int (nI 2), .int (nI 1), .ref mas, .int (nI 0), .int (nI 0), .int (nI 0), .ref mso, .ref mon, .ref mot, .ref man, .int (nI 0), .int u_11, .ref mst, .ref msm, .ref mtb, .ref mti, .ref mfr, .ref mbn, .ref mbs, .ref mde, .int (nI 0), .int (nI 0), .int (nI 0), .int (nI 0), .long 0, .long 0, .ref maa, .ref mab, .ref mba, .ref mbb]))] := hD
            refine lv_istore (lv' := [(6, .int r_10), (5, .int (nI 0)), (4, .int (nI i)), (3, .int (nI 0)), (0, .ref hm), (1, .int (nI nn)), (2, .int sd)]) hx hb dX12_run_54 hl (by decide) rfl ?_
            clear hl
            try clear ls
            intro ls hl
            refine lv_aload_n hx hb dX12_run_56 rfl (lv_at hl 4 rfl) ?_
            refine lv_iload hx hb dX12_run_57 (lv_at hl 1 rfl) ?_
            refine xi (wr := [(mkp, .inl (cs 0, 2304, .inl u_5))]) (xV (As := [.int (nI 0)]) (rest := []) C (c_X12_canAsk_r l D cs hm ms mkp mtr mas mso mon mot man mst msm mtb mti mfr mbn mbs mde maa mab mba mbb (nI 1) u_11 0 (by decide)) kX12_142 hP hD [2, 0] rfl (by decide +kernel) 0 rfl rfl rfl ⟨Nat.le_of_ble_eq_true rfl, Nat.le_of_ble_eq_true rfl⟩ rfl hl.1 rfl (Nat.le_of_ble_eq_true rfl) dX12_run_59 ⟨Nat.le_of_ble_eq_true rfl, Nat.le_of_ble_eq_true rfl⟩) hP hD hS hA [2, 0] [1] rfl rfl (by decide +kernel) (by decide +kernel) ?_
            clear hP hD hS
            try clear locs
            try clear H
            intro r_12 u_13 H locs hw_r_12 hP hD hS
            have hw_r_12 : r_12 = nI 0 := hw_r_12
            refine W.widen (k := 0) (n := 0) (Nat.le_of_ble_eq_true rfl) (Nat.le_of_ble_eq_true rfl) ?_
            replace hP : va_P D vwCl [(mkp, .inl (cs 0, 2304, .inl u_5)), (hm, .inr (12, [.ref ms, .ref mkp, .int (nI 1), .ref mtr, .int (nI 4), .int (nI 2), .int (nI 2), .int (nI 3), .int (nI 2), .int (nI 1), .ref mas, .int (nI 0), .int (nI 0), .int (nI 0), .ref mso, .ref mon, .ref mot, .ref man, .int (nI 0), .int u_11, .ref mst, .ref msm, .ref mtb, .ref mti, .ref mfr, .ref mbn, .ref mbs, .ref mde, .int (nI 0), .int (nI 0), .int (nI 0), .int (nI 0), .long 0, .long 0, .ref maa, .ref mab, .ref mba, .ref mbb])), (ms, .inl (cs 0, 288, .inl freshS))] H := hP
            replace hD : va_D A [(mkp, .inl (cs 0, 2304, .inl u_5)), (hm, .inr (12, [.ref ms, .ref mkp, .int (nI 1), .ref mtr, .int (nI 4), .int (nI 2), .int (nI 2), .int (nI 3), .int (nI 2), .int (nI 1), .ref mas, .int (nI 0), .int (nI 0), .int (nI 0), .ref mso, .ref mon, .ref mot, .ref man, .int (nI 0), .int u_11, .ref mst, .ref msm, .ref mtb, .ref mti, .ref mfr, .ref mbn, .ref mbs, .ref mde, .int (nI 0), .int (nI 0), .int (nI 0), .int (nI 0), .long 0, .long 0, .ref maa, .ref mab, .ref mba, .ref mbb])), (ms, .inl (cs 0, 288, .inl freshS))] := hD
            subst hw_r_12
            refine lv_if_ne (tgt := 68) hx hb dX12_run_62 (by decide) (fun c => absurd (by decide) c) (fun _ => ?_)
            refine lv_goto (tgt := 104) hx hb dX12_run_65 (by decide) ?_
            refine lv_iinc (v := nI (i + 1)) (lv' := [(4, .int (nI (i + 1))), (6, .int r_10), (5, .int (nI 0)), (3, .int (nI 0)), (0, .ref hm), (1, .int (nI nn)), (2, .int sd)]) hx hb dX12_run_104 hl (k := 2) rfl (nI_add i 1) (by decide) rfl ?_
            clear hl
            try clear ls
            intro ls hl
            refine lv_goto (tgt := 32) hx hb dX12_run_107 (by decide) ?_
            exact ih_loop_6 (i + 1) u_11 (by omega) (by omega) H locs ls (xP_map hP [1, 2, 0] rfl) (hD.sub [1, 2, 0] (by decide +kernel) rfl) hS (lv_sub hl [0, 3, 4, 5, 6] rfl)
          · -- j = 1
            replace hP : va_P D vwCl [(ms, .inl (cs 0, 288, .inl freshS)), (mkp, .inl (cs 0, 2304, .inl u_5)), (hm, .inr (12, [.ref ms, .ref mkp, .int (nI 1), .ref mtr, .int (nI 4), .int (nI 2), .int (nI 2), .int (nI 3), .int (nI 2), .int (nI 1), .ref mas, .int (nI 0), .int (nI 0), .int (nI 0), .ref mso, .ref mon, .ref mot, .ref man, .int (nI 0), .int u_9, .ref mst, .ref msm, .ref mtb, .ref mti, .ref mfr, .ref mbn, .ref mbs, .ref mde, .int (nI 0), .int (nI 0), .int (nI 0), .int (nI 0), .long 0, .long 0, .ref maa, .ref mab, .ref mba, .ref mbb]))] H := hP
            replace hD : va_D A [(ms, .inl (cs 0, 288, .inl freshS)), (mkp, .inl (cs 0, 2304, .inl u_5)), (hm, .inr (12, [.ref ms, .ref mkp, .int (nI 1), .ref mtr, .int (nI 4), .int (nI 2), .int (nI 2), .int (nI 3), .int (nI 2), .int (nI 1), .ref mas, .int (nI 0), .int (nI 0), .int (nI 0), .ref mso, .ref mon, .ref mot, .ref man, .int (nI 0), .int u_9, .ref mst, .ref msm, .ref mtb, .ref mti, .ref mfr, .ref mbn, .ref mbs, .ref mde, .int (nI 0), .int (nI 0), .int (nI 0), .int (nI 0), .long 0, .long 0, .ref maa, .ref mab, .ref mba, .ref mbb]))] := hD
            refine lv_istore (lv' := [(5, .int (nI 1)), (4, .int (nI i)), (3, .int (nI 0)), (0, .ref hm), (1, .int (nI nn)), (2, .int sd)]) hx hb dX12_run_46 hl (by decide) rfl ?_
            clear hl
            try clear ls
            intro ls hl
            refine lv_aload_n hx hb dX12_run_48 rfl (lv_at hl 3 rfl) ?_
            refine lv_iload hx hb dX12_run_49 (lv_at hl 0 rfl) ?_
            refine xi (wr := [(ms, .inl (cs 0, 288, .inl freshS)), (mkp, .inl (cs 0, 2304, .inl u_5))]) (xV (As := [.int (nI 1)]) (rest := []) C (c_X12_drawSample_1 l D cs hm ms mkp mtr mas mso mon mot man mst msm mtb mti mfr mbn mbs mde maa mab mba mbb (nI 1) u_9) kX12_162 hP hD [2] rfl (by decide +kernel) 0 rfl rfl rfl ⟨Nat.le_of_ble_eq_true rfl, Nat.le_of_ble_eq_true rfl⟩ rfl hl.1 rfl (Nat.le_of_ble_eq_true rfl) dX12_run_51 ⟨Nat.le_of_ble_eq_true rfl, Nat.le_of_ble_eq_true rfl⟩) hP hD hS hA [2] [0, 1] rfl rfl (by decide +kernel) (by decide +kernel) ?_
            clear hP hD hS
            try clear locs
            try clear H
            intro r_14 u_15 H locs hw_r_14 hP hD hS
            refine W.widen (k := 0) (n := 0) (Nat.le_of_ble_eq_true rfl) (Nat.le_of_ble_eq_true rfl) ?_
            replace hP : va_P D vwCl [(ms, .inl (cs 0, 288, .inl freshS)), (mkp, .inl (cs 0, 2304, .inl u_5)), (hm, .inr (12, [.ref ms, .ref mkp, .int (nI 1), .ref mtr, .int (nI 4), .int (nI 2), .int (nI 2), .int (nI 3), .int (nI 2), .int (nI 1), .ref mas, .int (nI 0), .int (nI 0), .int (nI 0), .ref mso, .ref mon, .ref mot, .ref man, .int (nI 0), .int u_15, .ref mst, .ref msm, .ref mtb, .ref mti, .ref mfr, .ref mbn, .ref mbs, .ref mde, .int (nI 0), .int (nI 0), .int (nI 0), .int (nI 0), .long 0, .long 0, .ref maa, .ref mab, .ref mba, .ref mbb]))] H := hP
            replace hD : va_D A [(ms, .inl (cs 0, 288, .inl freshS)), (mkp, .inl (cs 0, 2304, .inl u_5)), (hm, .inr (12, [.ref ms, .ref mkp, .int (nI 1), .ref mtr, .int (nI 4), .int (nI 2), .int (nI 2), .int (nI 3), .int (nI 2), .int (nI 1), .ref mas, .int (nI 0), .int (nI 0), .int (nI 0), .ref mso, .ref mon, .ref mot, .ref man, .int (nI 0), .int u_15, .ref mst, .ref msm, .ref mtb, .ref mti, .ref mfr, .ref mbn, .ref mbs, .ref mde, .int (nI 0), .int (nI 0), .int (nI 0), .int (nI 0), .long 0, .long 0, .ref maa, .ref mab, .ref mba, .ref mbb]))] := hD
            refine lv_istore (lv' := [(6, .int r_14), (5, .int (nI 1)), (4, .int (nI i)), (3, .int (nI 0)), (0, .ref hm), (1, .int (nI nn)), (2, .int sd)]) hx hb dX12_run_54 hl (by decide) rfl ?_
            clear hl
            try clear ls
            intro ls hl
            refine lv_aload_n hx hb dX12_run_56 rfl (lv_at hl 4 rfl) ?_
            refine lv_iload hx hb dX12_run_57 (lv_at hl 1 rfl) ?_
            refine xi (wr := [(mkp, .inl (cs 0, 2304, .inl u_5))]) (xV (As := [.int (nI 1)]) (rest := []) C (c_X12_canAsk_r l D cs hm ms mkp mtr mas mso mon mot man mst msm mtb mti mfr mbn mbs mde maa mab mba mbb (nI 1) u_15 1 (by decide)) kX12_142 hP hD [2, 0] rfl (by decide +kernel) 0 rfl rfl rfl ⟨Nat.le_of_ble_eq_true rfl, Nat.le_of_ble_eq_true rfl⟩ rfl hl.1 rfl (Nat.le_of_ble_eq_true rfl) dX12_run_59 ⟨Nat.le_of_ble_eq_true rfl, Nat.le_of_ble_eq_true rfl⟩) hP hD hS hA [2, 0] [1] rfl rfl (by decide +kernel) (by decide +kernel) ?_
            clear hP hD hS
            try clear locs
            try clear H
            intro r_16 u_17 H locs hw_r_16 hP hD hS
            have hw_r_16 : r_16 = nI 0 := hw_r_16
            refine W.widen (k := 0) (n := 0) (Nat.le_of_ble_eq_true rfl) (Nat.le_of_ble_eq_true rfl) ?_
            replace hP : va_P D vwCl [(mkp, .inl (cs 0, 2304, .inl u_5)), (hm, .inr (12, [.ref ms, .ref mkp, .int (nI 1), .ref mtr, .int (nI 4), .int (nI 2), .int (nI 2), .int (nI 3), .int (nI 2), .int (nI 1), .ref mas, .int (nI 0), .int (nI 0), .int (nI 0), .ref mso, .ref mon, .ref mot, .ref man, .int (nI 0), .int u_15, .ref mst, .ref msm, .ref mtb, .ref mti, .ref mfr, .ref mbn, .ref mbs, .ref mde, .int (nI 0), .int (nI 0), .int (nI 0), .int (nI 0), .long 0, .long 0, .ref maa, .ref mab, .ref mba, .ref mbb])), (ms, .inl (cs 0, 288, .inl freshS))] H := hP
            replace hD : va_D A [(mkp, .inl (cs 0, 2304, .inl u_5)), (hm, .inr (12, [.ref ms, .ref mkp, .int (nI 1), .ref mtr, .int (nI 4), .int (nI 2), .int (nI 2), .int (nI 3), .int (nI 2), .int (nI 1), .ref mas, .int (nI 0), .int (nI 0), .int (nI 0), .ref mso, .ref mon, .ref mot, .ref man, .int (nI 0), .int u_15, .ref mst, .ref msm, .ref mtb, .ref mti, .ref mfr, .ref mbn, .ref mbs, .ref mde, .int (nI 0), .int (nI 0), .int (nI 0), .int (nI 0), .long 0, .long 0, .ref maa, .ref mab, .ref mba, .ref mbb])), (ms, .inl (cs 0, 288, .inl freshS))] := hD
            subst hw_r_16
            refine lv_if_ne (tgt := 68) hx hb dX12_run_62 (by decide) (fun c => absurd (by decide) c) (fun _ => ?_)
            refine lv_goto (tgt := 104) hx hb dX12_run_65 (by decide) ?_
            refine lv_iinc (v := nI (i + 1)) (lv' := [(4, .int (nI (i + 1))), (6, .int r_14), (5, .int (nI 1)), (3, .int (nI 0)), (0, .ref hm), (1, .int (nI nn)), (2, .int sd)]) hx hb dX12_run_104 hl (k := 2) rfl (nI_add i 1) (by decide) rfl ?_
            clear hl
            try clear ls
            intro ls hl
            refine lv_goto (tgt := 32) hx hb dX12_run_107 (by decide) ?_
            exact ih_loop_6 (i + 1) u_15 (by omega) (by omega) H locs ls (xP_map hP [1, 2, 0] rfl) (hD.sub [1, 2, 0] (by decide +kernel) rfl) hS (lv_sub hl [0, 3, 4, 5, 6] rfl)
          · -- j = 2
            replace hP : va_P D vwCl [(ms, .inl (cs 0, 288, .inl freshS)), (mkp, .inl (cs 0, 2304, .inl u_5)), (hm, .inr (12, [.ref ms, .ref mkp, .int (nI 1), .ref mtr, .int (nI 4), .int (nI 2), .int (nI 2), .int (nI 3), .int (nI 2), .int (nI 1), .ref mas, .int (nI 0), .int (nI 0), .int (nI 0), .ref mso, .ref mon, .ref mot, .ref man, .int (nI 0), .int u_9, .ref mst, .ref msm, .ref mtb, .ref mti, .ref mfr, .ref mbn, .ref mbs, .ref mde, .int (nI 0), .int (nI 0), .int (nI 0), .int (nI 0), .long 0, .long 0, .ref maa, .ref mab, .ref mba, .ref mbb]))] H := hP
            replace hD : va_D A [(ms, .inl (cs 0, 288, .inl freshS)), (mkp, .inl (cs 0, 2304, .inl u_5)), (hm, .inr (12, [.ref ms, .ref mkp, .int (nI 1), .ref mtr, .int (nI 4), .int (nI 2), .int (nI 2), .int (nI 3), .int (nI 2), .int (nI 1), .ref mas, .int (nI 0), .int (nI 0), .int (nI 0), .ref mso, .ref mon, .ref mot, .ref man, .int (nI 0), .int u_9, .ref mst, .ref msm, .ref mtb, .ref mti, .ref mfr, .ref mbn, .ref mbs, .ref mde, .int (nI 0), .int (nI 0), .int (nI 0), .int (nI 0), .long 0, .long 0, .ref maa, .ref mab, .ref mba, .ref mbb]))] := hD
            refine lv_istore (lv' := [(5, .int (nI 2)), (4, .int (nI i)), (3, .int (nI 0)), (0, .ref hm), (1, .int (nI nn)), (2, .int sd)]) hx hb dX12_run_46 hl (by decide) rfl ?_
            clear hl
            try clear ls
            intro ls hl
            refine lv_aload_n hx hb dX12_run_48 rfl (lv_at hl 3 rfl) ?_
            refine lv_iload hx hb dX12_run_49 (lv_at hl 0 rfl) ?_
            refine xi (wr := [(ms, .inl (cs 0, 288, .inl freshS)), (mkp, .inl (cs 0, 2304, .inl u_5))]) (xV (As := [.int (nI 2)]) (rest := []) C (c_X12_drawSample_2 l D cs hm ms mkp mtr mas mso mon mot man mst msm mtb mti mfr mbn mbs mde maa mab mba mbb (nI 1) u_9) kX12_162 hP hD [2] rfl (by decide +kernel) 0 rfl rfl rfl ⟨Nat.le_of_ble_eq_true rfl, Nat.le_of_ble_eq_true rfl⟩ rfl hl.1 rfl (Nat.le_of_ble_eq_true rfl) dX12_run_51 ⟨Nat.le_of_ble_eq_true rfl, Nat.le_of_ble_eq_true rfl⟩) hP hD hS hA [2] [0, 1] rfl rfl (by decide +kernel) (by decide +kernel) ?_
            clear hP hD hS
            try clear locs
            try clear H
            intro r_18 u_19 H locs hw_r_18 hP hD hS
            refine W.widen (k := 0) (n := 0) (Nat.le_of_ble_eq_true rfl) (Nat.le_of_ble_eq_true rfl) ?_
            replace hP : va_P D vwCl [(ms, .inl (cs 0, 288, .inl freshS)), (mkp, .inl (cs 0, 2304, .inl u_5)), (hm, .inr (12, [.ref ms, .ref mkp, .int (nI 1), .ref mtr, .int (nI 4), .int (nI 2), .int (nI 2), .int (nI 3), .int (nI 2), .int (nI 1), .ref mas, .int (nI 0), .int (nI 0), .int (nI 0), .ref mso, .ref mon, .ref mot, .ref man, .int (nI 0), .int u_19, .ref mst, .ref msm, .ref mtb, .ref mti, .ref mfr, .ref mbn, .ref mbs, .ref mde, .int (nI 0), .int (nI 0), .int (nI 0), .int (nI 0), .long 0, .long 0, .ref maa, .ref mab, .ref mba, .ref mbb]))] H := hP
            replace hD : va_D A [(ms, .inl (cs 0, 288, .inl freshS)), (mkp, .inl (cs 0, 2304, .inl u_5)), (hm, .inr (12, [.ref ms, .ref mkp, .int (nI 1), .ref mtr, .int (nI 4), .int (nI 2), .int (nI 2), .int (nI 3), .int (nI 2), .int (nI 1), .ref mas, .int (nI 0), .int (nI 0), .int (nI 0), .ref mso, .ref mon, .ref mot, .ref man, .int (nI 0), .int u_19, .ref mst, .ref msm, .ref mtb, .ref mti, .ref mfr, .ref mbn, .ref mbs, .ref mde, .int (nI 0), .int (nI 0), .int (nI 0), .int (nI 0), .long 0, .long 0, .ref maa, .ref mab, .ref mba, .ref mbb]))] := hD
            refine lv_istore (lv' := [(6, .int r_18), (5, .int (nI 2)), (4, .int (nI i)), (3, .int (nI 0)), (0, .ref hm), (1, .int (nI nn)), (2, .int sd)]) hx hb dX12_run_54 hl (by decide) rfl ?_
            clear hl
            try clear ls
            intro ls hl
            refine lv_aload_n hx hb dX12_run_56 rfl (lv_at hl 4 rfl) ?_
            refine lv_iload hx hb dX12_run_57 (lv_at hl 1 rfl) ?_
            refine xi (wr := [(mkp, .inl (cs 0, 2304, .inl u_5))]) (xV (As := [.int (nI 2)]) (rest := []) C (c_X12_canAsk_r l D cs hm ms mkp mtr mas mso mon mot man mst msm mtb mti mfr mbn mbs mde maa mab mba mbb (nI 1) u_19 2 (by decide)) kX12_142 hP hD [2, 0] rfl (by decide +kernel) 0 rfl rfl rfl ⟨Nat.le_of_ble_eq_true rfl, Nat.le_of_ble_eq_true rfl⟩ rfl hl.1 rfl (Nat.le_of_ble_eq_true rfl) dX12_run_59 ⟨Nat.le_of_ble_eq_true rfl, Nat.le_of_ble_eq_true rfl⟩) hP hD hS hA [2, 0] [1] rfl rfl (by decide +kernel) (by decide +kernel) ?_
            clear hP hD hS
            try clear locs
            try clear H
            intro r_20 u_21 H locs hw_r_20 hP hD hS
            have hw_r_20 : r_20 = nI 0 := hw_r_20
            refine W.widen (k := 0) (n := 0) (Nat.le_of_ble_eq_true rfl) (Nat.le_of_ble_eq_true rfl) ?_
            replace hP : va_P D vwCl [(mkp, .inl (cs 0, 2304, .inl u_5)), (hm, .inr (12, [.ref ms, .ref mkp, .int (nI 1), .ref mtr, .int (nI 4), .int (nI 2), .int (nI 2), .int (nI 3), .int (nI 2), .int (nI 1), .ref mas, .int (nI 0), .int (nI 0), .int (nI 0), .ref mso, .ref mon, .ref mot, .ref man, .int (nI 0), .int u_19, .ref mst, .ref msm, .ref mtb, .ref mti, .ref mfr, .ref mbn, .ref mbs, .ref mde, .int (nI 0), .int (nI 0), .int (nI 0), .int (nI 0), .long 0, .long 0, .ref maa, .ref mab, .ref mba, .ref mbb])), (ms, .inl (cs 0, 288, .inl freshS))] H := hP
            replace hD : va_D A [(mkp, .inl (cs 0, 2304, .inl u_5)), (hm, .inr (12, [.ref ms, .ref mkp, .int (nI 1), .ref mtr, .int (nI 4), .int (nI 2), .int (nI 2), .int (nI 3), .int (nI 2), .int (nI 1), .ref mas, .int (nI 0), .int (nI 0), .int (nI 0), .ref mso, .ref mon, .ref mot, .ref man, .int (nI 0), .int u_19, .ref mst, .ref msm, .ref mtb, .ref mti, .ref mfr, .ref mbn, .ref mbs, .ref mde, .int (nI 0), .int (nI 0), .int (nI 0), .int (nI 0), .long 0, .long 0, .ref maa, .ref mab, .ref mba, .ref mbb])), (ms, .inl (cs 0, 288, .inl freshS))] := hD
            subst hw_r_20
            refine lv_if_ne (tgt := 68) hx hb dX12_run_62 (by decide) (fun c => absurd (by decide) c) (fun _ => ?_)
            refine lv_goto (tgt := 104) hx hb dX12_run_65 (by decide) ?_
            refine lv_iinc (v := nI (i + 1)) (lv' := [(4, .int (nI (i + 1))), (6, .int r_18), (5, .int (nI 2)), (3, .int (nI 0)), (0, .ref hm), (1, .int (nI nn)), (2, .int sd)]) hx hb dX12_run_104 hl (k := 2) rfl (nI_add i 1) (by decide) rfl ?_
            clear hl
            try clear ls
            intro ls hl
            refine lv_goto (tgt := 32) hx hb dX12_run_107 (by decide) ?_
            exact ih_loop_6 (i + 1) u_19 (by omega) (by omega) H locs ls (xP_map hP [1, 2, 0] rfl) (hD.sub [1, 2, 0] (by decide +kernel) rfl) hS (lv_sub hl [0, 3, 4, 5, 6] rfl)
          · -- j = 3
            replace hP : va_P D vwCl [(ms, .inl (cs 0, 288, .inl freshS)), (mkp, .inl (cs 0, 2304, .inl u_5)), (hm, .inr (12, [.ref ms, .ref mkp, .int (nI 1), .ref mtr, .int (nI 4), .int (nI 2), .int (nI 2), .int (nI 3), .int (nI 2), .int (nI 1), .ref mas, .int (nI 0), .int (nI 0), .int (nI 0), .ref mso, .ref mon, .ref mot, .ref man, .int (nI 0), .int u_9, .ref mst, .ref msm, .ref mtb, .ref mti, .ref mfr, .ref mbn, .ref mbs, .ref mde, .int (nI 0), .int (nI 0), .int (nI 0), .int (nI 0), .long 0, .long 0, .ref maa, .ref mab, .ref mba, .ref mbb]))] H := hP
            replace hD : va_D A [(ms, .inl (cs 0, 288, .inl freshS)), (mkp, .inl (cs 0, 2304, .inl u_5)), (hm, .inr (12, [.ref ms, .ref mkp, .int (nI 1), .ref mtr, .int (nI 4), .int (nI 2), .int (nI 2), .int (nI 3), .int (nI 2), .int (nI 1), .ref mas, .int (nI 0), .int (nI 0), .int (nI 0), .ref mso, .ref mon, .ref mot, .ref man, .int (nI 0), .int u_9, .ref mst, .ref msm, .ref mtb, .ref mti, .ref mfr, .ref mbn, .ref mbs, .ref mde, .int (nI 0), .int (nI 0), .int (nI 0), .int (nI 0), .long 0, .long 0, .ref maa, .ref mab, .ref mba, .ref mbb]))] := hD
            refine lv_istore (lv' := [(5, .int (nI 3)), (4, .int (nI i)), (3, .int (nI 0)), (0, .ref hm), (1, .int (nI nn)), (2, .int sd)]) hx hb dX12_run_46 hl (by decide) rfl ?_
            clear hl
            try clear ls
            intro ls hl
            refine lv_aload_n hx hb dX12_run_48 rfl (lv_at hl 3 rfl) ?_
            refine lv_iload hx hb dX12_run_49 (lv_at hl 0 rfl) ?_
            refine xi (wr := [(ms, .inl (cs 0, 288, .inl freshS)), (mkp, .inl (cs 0, 2304, .inl u_5))]) (xV (As := [.int (nI 3)]) (rest := []) C (c_X12_drawSample_3 l D cs hm ms mkp mtr mas mso mon mot man mst msm mtb mti mfr mbn mbs mde maa mab mba mbb (nI 1) u_9) kX12_162 hP hD [2] rfl (by decide +kernel) 0 rfl rfl rfl ⟨Nat.le_of_ble_eq_true rfl, Nat.le_of_ble_eq_true rfl⟩ rfl hl.1 rfl (Nat.le_of_ble_eq_true rfl) dX12_run_51 ⟨Nat.le_of_ble_eq_true rfl, Nat.le_of_ble_eq_true rfl⟩) hP hD hS hA [2] [0, 1] rfl rfl (by decide +kernel) (by decide +kernel) ?_
            clear hP hD hS
            try clear locs
            try clear H
            intro r_22 u_23 H locs hw_r_22 hP hD hS
            refine W.widen (k := 0) (n := 0) (Nat.le_of_ble_eq_true rfl) (Nat.le_of_ble_eq_true rfl) ?_
            replace hP : va_P D vwCl [(ms, .inl (cs 0, 288, .inl freshS)), (mkp, .inl (cs 0, 2304, .inl u_5)), (hm, .inr (12, [.ref ms, .ref mkp, .int (nI 1), .ref mtr, .int (nI 4), .int (nI 2), .int (nI 2), .int (nI 3), .int (nI 2), .int (nI 1), .ref mas, .int (nI 0), .int (nI 0), .int (nI 0), .ref mso, .ref mon, .ref mot, .ref man, .int (nI 0), .int u_23, .ref mst, .ref msm, .ref mtb, .ref mti, .ref mfr, .ref mbn, .ref mbs, .ref mde, .int (nI 0), .int (nI 0), .int (nI 0), .int (nI 0), .long 0, .long 0, .ref maa, .ref mab, .ref mba, .ref mbb]))] H := hP
            replace hD : va_D A [(ms, .inl (cs 0, 288, .inl freshS)), (mkp, .inl (cs 0, 2304, .inl u_5)), (hm, .inr (12, [.ref ms, .ref mkp, .int (nI 1), .ref mtr, .int (nI 4), .int (nI 2), .int (nI 2), .int (nI 3), .int (nI 2), .int (nI 1), .ref mas, .int (nI 0), .int (nI 0), .int (nI 0), .ref mso, .ref mon, .ref mot, .ref man, .int (nI 0), .int u_23, .ref mst, .ref msm, .ref mtb, .ref mti, .ref mfr, .ref mbn, .ref mbs, .ref mde, .int (nI 0), .int (nI 0), .int (nI 0), .int (nI 0), .long 0, .long 0, .ref maa, .ref mab, .ref mba, .ref mbb]))] := hD
            refine lv_istore (lv' := [(6, .int r_22), (5, .int (nI 3)), (4, .int (nI i)), (3, .int (nI 0)), (0, .ref hm), (1, .int (nI nn)), (2, .int sd)]) hx hb dX12_run_54 hl (by decide) rfl ?_
            clear hl
            try clear ls
            intro ls hl
            refine lv_aload_n hx hb dX12_run_56 rfl (lv_at hl 4 rfl) ?_
            refine lv_iload hx hb dX12_run_57 (lv_at hl 1 rfl) ?_
            refine xi (wr := [(mkp, .inl (cs 0, 2304, .inl u_5))]) (xV (As := [.int (nI 3)]) (rest := []) C (c_X12_canAsk_r l D cs hm ms mkp mtr mas mso mon mot man mst msm mtb mti mfr mbn mbs mde maa mab mba mbb (nI 1) u_23 3 (by decide)) kX12_142 hP hD [2, 0] rfl (by decide +kernel) 0 rfl rfl rfl ⟨Nat.le_of_ble_eq_true rfl, Nat.le_of_ble_eq_true rfl⟩ rfl hl.1 rfl (Nat.le_of_ble_eq_true rfl) dX12_run_59 ⟨Nat.le_of_ble_eq_true rfl, Nat.le_of_ble_eq_true rfl⟩) hP hD hS hA [2, 0] [1] rfl rfl (by decide +kernel) (by decide +kernel) ?_
            clear hP hD hS
            try clear locs
            try clear H
            intro r_24 u_25 H locs hw_r_24 hP hD hS
            have hw_r_24 : r_24 = nI 0 := hw_r_24
            refine W.widen (k := 0) (n := 0) (Nat.le_of_ble_eq_true rfl) (Nat.le_of_ble_eq_true rfl) ?_
            replace hP : va_P D vwCl [(mkp, .inl (cs 0, 2304, .inl u_5)), (hm, .inr (12, [.ref ms, .ref mkp, .int (nI 1), .ref mtr, .int (nI 4), .int (nI 2), .int (nI 2), .int (nI 3), .int (nI 2), .int (nI 1), .ref mas, .int (nI 0), .int (nI 0), .int (nI 0), .ref mso, .ref mon, .ref mot, .ref man, .int (nI 0), .int u_23, .ref mst, .ref msm, .ref mtb, .ref mti, .ref mfr, .ref mbn, .ref mbs, .ref mde, .int (nI 0), .int (nI 0), .int (nI 0), .int (nI 0), .long 0, .long 0, .ref maa, .ref mab, .ref mba, .ref mbb])), (ms, .inl (cs 0, 288, .inl freshS))] H := hP
            replace hD : va_D A [(mkp, .inl (cs 0, 2304, .inl u_5)), (hm, .inr (12, [.ref ms, .ref mkp, .int (nI 1), .ref mtr, .int (nI 4), .int (nI 2), .int (nI 2), .int (nI 3), .int (nI 2), .int (nI 1), .ref mas, .int (nI 0), .int (nI 0), .int (nI 0), .ref mso, .ref mon, .ref mot, .ref man, .int (nI 0), .int u_23, .ref mst, .ref msm, .ref mtb, .ref mti, .ref mfr, .ref mbn, .ref mbs, .ref mde, .int (nI 0), .int (nI 0), .int (nI 0), .int (nI 0), .long 0, .long 0, .ref maa, .ref mab, .ref mba, .ref mbb])), (ms, .inl (cs 0, 288, .inl freshS))] := hD
            subst hw_r_24
            refine lv_if_ne (tgt := 68) hx hb dX12_run_62 (by decide) (fun c => absurd (by decide) c) (fun _ => ?_)
            refine lv_goto (tgt := 104) hx hb dX12_run_65 (by decide) ?_
            refine lv_iinc (v := nI (i + 1)) (lv' := [(4, .int (nI (i + 1))), (6, .int r_22), (5, .int (nI 3)), (3, .int (nI 0)), (0, .ref hm), (1, .int (nI nn)), (2, .int sd)]) hx hb dX12_run_104 hl (k := 2) rfl (nI_add i 1) (by decide) rfl ?_
            clear hl
            try clear ls
            intro ls hl
            refine lv_goto (tgt := 32) hx hb dX12_run_107 (by decide) ?_
            exact ih_loop_6 (i + 1) u_23 (by omega) (by omega) H locs ls (xP_map hP [1, 2, 0] rfl) (hD.sub [1, 2, 0] (by decide +kernel) rfl) hS (lv_sub hl [0, 3, 4, 5, 6] rfl)
    exact loop_6 _ 0 sd (by omega) (Nat.lt_succ_self _) H locs ls hP hD hS (lv_sub hl [0, 1, 2, 3, 4] rfl)
  · -- 13 f
    have hn_a := PQ.no hw_r_1 c_3 (by decide)
    refine lv_iconst (v := (-1)) hx hb dX12_run_16 (by decide) ?_
    exact xreti C () (Or.inr ⟨fun q => hn_a (q), rfl⟩) (xP_map hP [] rfl) (hD.sub [] (by decide +kernel) rfl) hS (Nat.le_of_ble_eq_true rfl) (Nat.le_of_ble_eq_true rfl) rfl dX12_run_17

set_option maxHeartbeats 4000000 in
set_option maxRecDepth 100000 in
theorem c_X12_polls_z (l : Launch) (D : va_G) (cs : Nat → ClassId) (hm ms mkp mtr mas mso mon mot man mst msm mtb mti mfr mbn mbs mde maa mab mba mbb : Nat) (kf : Nat → Int32) (x sd : Int32) : xMet l D cs yX12_polls cX12_polls 9 (some .int) ({ frames := 1, cells := 0, slots := 0, locals := 22 } : Room) [.ref hm, .int x, .int sd] [(hm, .inr (12, [.ref ms, .ref mkp, .int (nI 0), .ref mtr, .int (nI 4), .int (nI 2), .int (nI 2), .int (nI 3), .int (nI 2), .int (nI 1), .ref mas, .int (nI 0), .int (nI 0), .int (nI 0), .ref mso, .ref mon, .ref mot, .ref man, .int (nI 0), .int (nI 0), .ref mst, .ref msm, .ref mtb, .ref mti, .ref mfr, .ref mbn, .ref mbs, .ref mde, .int (nI 0), .int (nI 0), .int (nI 0), .int (nI 0), .long 0, .long 0, .ref maa, .ref mab, .ref mba, .ref mbb])), (ms, .inl (cs 0, 288, .inl freshS)), (mkp, .inl (cs 0, 2304, .inl kf))] (xQi D (fun (r : Int32) (_u : Unit) => PQ (¬ x < nI 1 ∧ x ≤ nI 100) r (nI 0) (-1)) (fun (_u : Unit) => [])) := by
  refine xMet.intro (by decide) (Nat.le_of_ble_eq_true rfl) ?_
  intro p e s m args below meth c A ls C hP hD hS hl
  have hx := C.1
  have hb := C.2.1
  have hz := C.2.2.2.2.1
  have hown := C.2.2.2.1
  have hA := C.2.2.2.2.2.2.2.2.2
  have hAO := C.2.2.2.2.2.2.2.2.1.2.2
  replace hl : lv_has ls 9 [(0, .ref hm), (1, .int x), (2, .int sd)] := hl
  obtain ⟨H, hH⟩ : ∃ H, H = s.heap := ⟨_, rfl⟩
  replace hP : va_P D vwCl [(hm, .inr (12, [.ref ms, .ref mkp, .int (nI 0), .ref mtr, .int (nI 4), .int (nI 2), .int (nI 2), .int (nI 3), .int (nI 2), .int (nI 1), .ref mas, .int (nI 0), .int (nI 0), .int (nI 0), .ref mso, .ref mon, .ref mot, .ref man, .int (nI 0), .int (nI 0), .ref mst, .ref msm, .ref mtb, .ref mti, .ref mfr, .ref mbn, .ref mbs, .ref mde, .int (nI 0), .int (nI 0), .int (nI 0), .int (nI 0), .long 0, .long 0, .ref maa, .ref mab, .ref mba, .ref mbb])), (ms, .inl (cs 0, 288, .inl freshS)), (mkp, .inl (cs 0, 2304, .inl kf))] H := by rw [hH]; exact hP
  replace hS : va_S A s.heap H [] := by rw [hH]; exact hS
  obtain ⟨locs, hlocs⟩ : ∃ z : List Loc, z = [] := ⟨_, rfl⟩
  rw [← hlocs] at hS
  suffices hW : W p l e ({ frames := 1, cells := 0, slots := 0, locals := 22 } : Room) s m args below meth c H locs 0 0 (MQ below ((xQi D (fun (r : Int32) (_u : Unit) => PQ (¬ x < nI 1 ∧ x ≤ nI 100) r (nI 0) (-1)) (fun (_u : Unit) => [])) A) args s 0 0 A) (F0 m 0 ls []) by rw [hlocs, hH] at hW; exact hW
  clear hH hlocs
  refine lv_aload_n hx hb dX12_polls_0 rfl (lv_at hl 0 rfl) ?_
  refine lv_iconst (v := nI 0) hx hb dX12_polls_1 (by decide) ?_
  refine xput C hP hD hS 0 rfl rfl zuX12 tyX12 tyX12_ok nmX12 18 (by decide) zw5_231 rfl rfl rfl (Nat.le_of_ble_eq_true rfl) dX12_polls_2 ?_
  clear hP hD hS
  try clear locs
  try clear H
  intro H locs hP hD hS
  replace hP : va_P D vwCl [(hm, .inr (12, [.ref ms, .ref mkp, .int (nI 0), .ref mtr, .int (nI 4), .int (nI 2), .int (nI 2), .int (nI 3), .int (nI 2), .int (nI 1), .ref mas, .int (nI 0), .int (nI 0), .int (nI 0), .ref mso, .ref mon, .ref mot, .ref man, .int (nI 0), .int (nI 0), .ref mst, .ref msm, .ref mtb, .ref mti, .ref mfr, .ref mbn, .ref mbs, .ref mde, .int (nI 0), .int (nI 0), .int (nI 0), .int (nI 0), .long 0, .long 0, .ref maa, .ref mab, .ref mba, .ref mbb])), (ms, .inl (cs 0, 288, .inl freshS)), (mkp, .inl (cs 0, 2304, .inl kf))] H := hP
  replace hD : va_D A [(hm, .inr (12, [.ref ms, .ref mkp, .int (nI 0), .ref mtr, .int (nI 4), .int (nI 2), .int (nI 2), .int (nI 3), .int (nI 2), .int (nI 1), .ref mas, .int (nI 0), .int (nI 0), .int (nI 0), .ref mso, .ref mon, .ref mot, .ref man, .int (nI 0), .int (nI 0), .ref mst, .ref msm, .ref mtb, .ref mti, .ref mfr, .ref mbn, .ref mbs, .ref mde, .int (nI 0), .int (nI 0), .int (nI 0), .int (nI 0), .long 0, .long 0, .ref maa, .ref mab, .ref mba, .ref mbb])), (ms, .inl (cs 0, 288, .inl freshS)), (mkp, .inl (cs 0, 2304, .inl kf))] := hD
  refine lv_iload_n hx hb dX12_polls_5 rfl (lv_at hl 1 rfl) ?_
  refine lv_iconst (v := nI 1) hx hb dX12_polls_6 (by decide) ?_
  refine lv_bipush (v := nI 100) hx hb dX12_polls_7 (by decide) ?_
  refine xi (wr := [(hm, .inr (12, [.ref ms, .ref mkp, .int (nI 0), .ref mtr, .int (nI 4), .int (nI 2), .int (nI 2), .int (nI 3), .int (nI 2), .int (nI 1), .ref mas, .int (nI 0), .int (nI 0), .int (nI 0), .ref mso, .ref mon, .ref mot, .ref man, .int (nI 0), .int (nI 0), .ref mst, .ref msm, .ref mtb, .ref mti, .ref mfr, .ref mbn, .ref mbs, .ref mde, .int (nI 0), .int (nI 0), .int (nI 0), .int (nI 0), .long 0, .long 0, .ref maa, .ref mab, .ref mba, .ref mbb])), (ms, .inl (cs 0, 288, .inl freshS)), (mkp, .inl (cs 0, 2304, .inl kf))]) (xS (As := [.int x, .int (nI 1), .int (nI 100)]) (rest := []) C (c_X12_within l D cs x (nI 1) (nI 100)) kX12_116 hP hD [] rfl (by decide +kernel) ⟨Nat.le_of_ble_eq_true rfl, Nat.le_of_ble_eq_true rfl⟩ rfl hl.1 rfl (Nat.le_of_ble_eq_true rfl) dX12_polls_9 ⟨Nat.le_of_ble_eq_true rfl, Nat.le_of_ble_eq_true rfl⟩) hP hD hS hA [] [0, 1, 2] rfl rfl (by decide +kernel) (by decide +kernel) ?_
  clear hP hD hS
  try clear locs
  try clear H
  intro r_1 u_2 H locs hw_r_1 hP hD hS
  have hw_r_1 : PQ (¬ x < (nI 1) ∧ x ≤ (nI 100)) r_1 (nI 1) (nI 0) := hw_r_1
  refine W.widen (k := 0) (n := 0) (Nat.le_of_ble_eq_true rfl) (Nat.le_of_ble_eq_true rfl) ?_
  replace hP : va_P D vwCl [(hm, .inr (12, [.ref ms, .ref mkp, .int (nI 0), .ref mtr, .int (nI 4), .int (nI 2), .int (nI 2), .int (nI 3), .int (nI 2), .int (nI 1), .ref mas, .int (nI 0), .int (nI 0), .int (nI 0), .ref mso, .ref mon, .ref mot, .ref man, .int (nI 0), .int (nI 0), .ref mst, .ref msm, .ref mtb, .ref mti, .ref mfr, .ref mbn, .ref mbs, .ref mde, .int (nI 0), .int (nI 0), .int (nI 0), .int (nI 0), .long 0, .long 0, .ref maa, .ref mab, .ref mba, .ref mbb])), (ms, .inl (cs 0, 288, .inl freshS)), (mkp, .inl (cs 0, 2304, .inl kf))] H := hP
  replace hD : va_D A [(hm, .inr (12, [.ref ms, .ref mkp, .int (nI 0), .ref mtr, .int (nI 4), .int (nI 2), .int (nI 2), .int (nI 3), .int (nI 2), .int (nI 1), .ref mas, .int (nI 0), .int (nI 0), .int (nI 0), .ref mso, .ref mon, .ref mot, .ref man, .int (nI 0), .int (nI 0), .ref mst, .ref msm, .ref mtb, .ref mti, .ref mfr, .ref mbn, .ref mbs, .ref mde, .int (nI 0), .int (nI 0), .int (nI 0), .int (nI 0), .long 0, .long 0, .ref maa, .ref mab, .ref mba, .ref mbb])), (ms, .inl (cs 0, 288, .inl freshS)), (mkp, .inl (cs 0, 2304, .inl kf))] := hD
  refine lv_if_ne (tgt := 17) hx hb dX12_polls_12 (by decide) (fun c_3 => ?_) (fun c_3 => ?_)
  · -- 12 t
    have hy_a := PQ.yes hw_r_1 c_3
    obtain ⟨nn, h_nn, rfl⟩ : ∃ j : Nat, j ≤ 100 ∧ x = nI j := nI_of2 (M := nI 100) (by decide) (fun q => hy_a.1 (Int32.lt_trans q (by decide))) hy_a.2
    replace hP : va_P D vwCl [(hm, .inr (12, [.ref ms, .ref mkp, .int (nI 0), .ref mtr, .int (nI 4), .int (nI 2), .int (nI 2), .int (nI 3), .int (nI 2), .int (nI 1), .ref mas, .int (nI 0), .int (nI 0), .int (nI 0), .ref mso, .ref mon, .ref mot, .ref man, .int (nI 0), .int (nI 0), .ref mst, .ref msm, .ref mtb, .ref mti, .ref mfr, .ref mbn, .ref mbs, .ref mde, .int (nI 0), .int (nI 0), .int (nI 0), .int (nI 0), .long 0, .long 0, .ref maa, .ref mab, .ref mba, .ref mbb])), (ms, .inl (cs 0, 288, .inl freshS)), (mkp, .inl (cs 0, 2304, .inl kf))] H := hP
    replace hD : va_D A [(hm, .inr (12, [.ref ms, .ref mkp, .int (nI 0), .ref mtr, .int (nI 4), .int (nI 2), .int (nI 2), .int (nI 3), .int (nI 2), .int (nI 1), .ref mas, .int (nI 0), .int (nI 0), .int (nI 0), .ref mso, .ref mon, .ref mot, .ref man, .int (nI 0), .int (nI 0), .ref mst, .ref msm, .ref mtb, .ref mti, .ref mfr, .ref mbn, .ref mbs, .ref mde, .int (nI 0), .int (nI 0), .int (nI 0), .int (nI 0), .long 0, .long 0, .ref maa, .ref mab, .ref mba, .ref mbb])), (ms, .inl (cs 0, 288, .inl freshS)), (mkp, .inl (cs 0, 2304, .inl kf))] := hD
    refine lv_aload_n hx hb dX12_polls_17 rfl (lv_at hl 0 rfl) ?_
    refine xv (wr := []) (xV (As := []) (rest := []) C (c_X12_keeps_z l D cs hm ms mkp mtr mas mso mon mot man mst msm mtb mti mfr mbn mbs mde maa mab mba mbb kf) kX12_124 hP hD [0, 1, 2] rfl (by decide +kernel) 0 rfl rfl rfl ⟨Nat.le_of_ble_eq_true rfl, Nat.le_of_ble_eq_true rfl⟩ rfl hl.1 rfl (Nat.le_of_ble_eq_true rfl) dX12_polls_18 ⟨Nat.le_of_ble_eq_true rfl, Nat.le_of_ble_eq_true rfl⟩) hP hD hS hA [0, 1, 2] [] rfl rfl (by decide +kernel) (by decide +kernel) ?_
    clear hP hD hS
    try clear locs
    try clear H
    intro u_5 H locs hw_r_4 hP hD hS
    refine W.widen (k := 0) (n := 0) (Nat.le_of_ble_eq_true rfl) (Nat.le_of_ble_eq_true rfl) ?_
    replace hP : va_P D vwCl [(hm, .inr (12, [.ref ms, .ref mkp, .int (nI 1), .ref mtr, .int (nI 4), .int (nI 2), .int (nI 2), .int (nI 3), .int (nI 2), .int (nI 1), .ref mas, .int (nI 0), .int (nI 0), .int (nI 0), .ref mso, .ref mon, .ref mot, .ref man, .int (nI 0), .int (nI 0), .ref mst, .ref msm, .ref mtb, .ref mti, .ref mfr, .ref mbn, .ref mbs, .ref mde, .int (nI 0), .int (nI 0), .int (nI 0), .int (nI 0), .long 0, .long 0, .ref maa, .ref mab, .ref mba, .ref mbb])), (ms, .inl (cs 0, 288, .inl freshS)), (mkp, .inl (cs 0, 2304, .inl u_5))] H := hP
    replace hD : va_D A [(hm, .inr (12, [.ref ms, .ref mkp, .int (nI 1), .ref mtr, .int (nI 4), .int (nI 2), .int (nI 2), .int (nI 3), .int (nI 2), .int (nI 1), .ref mas, .int (nI 0), .int (nI 0), .int (nI 0), .ref mso, .ref mon, .ref mot, .ref man, .int (nI 0), .int (nI 0), .ref mst, .ref msm, .ref mtb, .ref mti, .ref mfr, .ref mbn, .ref mbs, .ref mde, .int (nI 0), .int (nI 0), .int (nI 0), .int (nI 0), .long 0, .long 0, .ref maa, .ref mab, .ref mba, .ref mbb])), (ms, .inl (cs 0, 288, .inl freshS)), (mkp, .inl (cs 0, 2304, .inl u_5))] := hD
    refine lv_aload_n hx hb dX12_polls_21 rfl (lv_at hl 0 rfl) ?_
    refine lv_iload_n hx hb dX12_polls_22 rfl (lv_at hl 2 rfl) ?_
    refine xput C hP hD hS 0 rfl rfl zuX12 tyX12 tyX12_ok nmX12 19 (by decide) zw5_232 rfl rfl rfl (Nat.le_of_ble_eq_true rfl) dX12_polls_23 ?_
    clear hP hD hS
    try clear locs
    try clear H
    intro H locs hP hD hS
    replace hP : va_P D vwCl [(hm, .inr (12, [.ref ms, .ref mkp, .int (nI 1), .ref mtr, .int (nI 4), .int (nI 2), .int (nI 2), .int (nI 3), .int (nI 2), .int (nI 1), .ref mas, .int (nI 0), .int (nI 0), .int (nI 0), .ref mso, .ref mon, .ref mot, .ref man, .int (nI 0), .int sd, .ref mst, .ref msm, .ref mtb, .ref mti, .ref mfr, .ref mbn, .ref mbs, .ref mde, .int (nI 0), .int (nI 0), .int (nI 0), .int (nI 0), .long 0, .long 0, .ref maa, .ref mab, .ref mba, .ref mbb])), (ms, .inl (cs 0, 288, .inl freshS)), (mkp, .inl (cs 0, 2304, .inl u_5))] H := hP
    replace hD : va_D A [(hm, .inr (12, [.ref ms, .ref mkp, .int (nI 1), .ref mtr, .int (nI 4), .int (nI 2), .int (nI 2), .int (nI 3), .int (nI 2), .int (nI 1), .ref mas, .int (nI 0), .int (nI 0), .int (nI 0), .ref mso, .ref mon, .ref mot, .ref man, .int (nI 0), .int sd, .ref mst, .ref msm, .ref mtb, .ref mti, .ref mfr, .ref mbn, .ref mbs, .ref mde, .int (nI 0), .int (nI 0), .int (nI 0), .int (nI 0), .long 0, .long 0, .ref maa, .ref mab, .ref mba, .ref mbb])), (ms, .inl (cs 0, 288, .inl freshS)), (mkp, .inl (cs 0, 2304, .inl u_5))] := hD
    refine lv_iconst (v := nI 0) hx hb dX12_polls_26 (by decide) ?_
    refine lv_istore_n (lv' := [(3, .int (nI 0)), (0, .ref hm), (1, .int (nI nn)), (2, .int sd)]) hx hb dX12_polls_27 rfl hl (by decide) rfl ?_
    clear hl
    try clear ls
    intro ls hl
    refine lv_iconst (v := nI 0) hx hb dX12_polls_28 (by decide) ?_
    refine lv_istore (lv' := [(4, .int (nI 0)), (3, .int (nI 0)), (0, .ref hm), (1, .int (nI nn)), (2, .int sd)]) hx hb dX12_polls_29 hl (by decide) rfl ?_
    clear hl
    try clear ls
    intro ls hl
    have loop_6 : ∀ (n_loop_6 : Nat) (i : Nat) (xx : Int32), (i ≤ nn) → nn - i < n_loop_6 → ∀ (H : Heap) (locs : List Loc) (ls : Array Slot), va_P D vwCl [(hm, .inr (12, [.ref ms, .ref mkp, .int (nI 1), .ref mtr, .int (nI 4), .int (nI 2), .int (nI 2), .int (nI 3), .int (nI 2), .int (nI 1), .ref mas, .int (nI 0), .int (nI 0), .int (nI 0), .ref mso, .ref mon, .ref mot, .ref man, .int (nI 0), .int xx, .ref mst, .ref msm, .ref mtb, .ref mti, .ref mfr, .ref mbn, .ref mbs, .ref mde, .int (nI 0), .int (nI 0), .int (nI 0), .int (nI 0), .long 0, .long 0, .ref maa, .ref mab, .ref mba, .ref mbb])), (ms, .inl (cs 0, 288, .inl freshS)), (mkp, .inl (cs 0, 2304, .inl u_5))] H → va_D A [(hm, .inr (12, [.ref ms, .ref mkp, .int (nI 1), .ref mtr, .int (nI 4), .int (nI 2), .int (nI 2), .int (nI 3), .int (nI 2), .int (nI 1), .ref mas, .int (nI 0), .int (nI 0), .int (nI 0), .ref mso, .ref mon, .ref mot, .ref man, .int (nI 0), .int xx, .ref mst, .ref msm, .ref mtb, .ref mti, .ref mfr, .ref mbn, .ref mbs, .ref mde, .int (nI 0), .int (nI 0), .int (nI 0), .int (nI 0), .long 0, .long 0, .ref maa, .ref mab, .ref mba, .ref mbb])), (ms, .inl (cs 0, 288, .inl freshS)), (mkp, .inl (cs 0, 2304, .inl u_5))] → va_S A s.heap H locs → lv_has ls 9 [(4, .int (nI i)), (3, .int (nI 0)), (0, .ref hm), (1, .int (nI nn)), (2, .int sd)] → W p l e ({ frames := 1, cells := 0, slots := 0, locals := 22 } : Room) s m args below meth c H locs 0 0 (MQ below ((xQi D (fun (r : Int32) (_u : Unit) => PQ (¬ (nI nn) < nI 1 ∧ (nI nn) ≤ nI 100) r (nI 0) (-1)) (fun (_u : Unit) => [])) A) args s 0 0 A) (F0 m 31 ls []) := by
      intro n_loop_6
      induction n_loop_6 with
      | zero => intro i xx h_i hlt H locs ls hP hD hS hl; exact absurd hlt (Nat.not_lt_zero _)
      | succ n_loop_6 ih_loop_6 =>
        intro i xx h_i hlt_loop_6 H locs ls hP hD hS hl
        refine lv_iload hx hb dX12_polls_31 (lv_at hl 0 rfl) ?_
        refine lv_iload_n hx hb dX12_polls_33 rfl (lv_at hl 3 rfl) ?_
        refine lv_icmp_ge (tgt := 155) hx hb dX12_polls_34 (by decide) (fun c_7 => ?_) (fun c_7 => ?_)
        · -- 34 t
          have fc_7 : nn ≤ i := nf_le (by omega) (by omega) c_7
          obtain rfl : nn = i := by omega
          replace hP : va_P D vwCl [(hm, .inr (12, [.ref ms, .ref mkp, .int (nI 1), .ref mtr, .int (nI 4), .int (nI 2), .int (nI 2), .int (nI 3), .int (nI 2), .int (nI 1), .ref mas, .int (nI 0), .int (nI 0), .int (nI 0), .ref mso, .ref mon, .ref mot, .ref man, .int (nI 0), .int xx, .ref mst, .ref msm, .ref mtb, .ref mti, .ref mfr, .ref mbn, .ref mbs, .ref mde, .int (nI 0), .int (nI 0), .int (nI 0), .int (nI 0), .long 0, .long 0, .ref maa, .ref mab, .ref mba, .ref mbb])), (ms, .inl (cs 0, 288, .inl freshS)), (mkp, .inl (cs 0, 2304, .inl u_5))] H := hP
          replace hD : va_D A [(hm, .inr (12, [.ref ms, .ref mkp, .int (nI 1), .ref mtr, .int (nI 4), .int (nI 2), .int (nI 2), .int (nI 3), .int (nI 2), .int (nI 1), .ref mas, .int (nI 0), .int (nI 0), .int (nI 0), .ref mso, .ref mon, .ref mot, .ref man, .int (nI 0), .int xx, .ref mst, .ref msm, .ref mtb, .ref mti, .ref mfr, .ref mbn, .ref mbs, .ref mde, .int (nI 0), .int (nI 0), .int (nI 0), .int (nI 0), .long 0, .long 0, .ref maa, .ref mab, .ref mba, .ref mbb])), (ms, .inl (cs 0, 288, .inl freshS)), (mkp, .inl (cs 0, 2304, .inl u_5))] := hD
          refine lv_iload_n hx hb dX12_polls_155 rfl (lv_at hl 1 rfl) ?_
          exact xreti C () (Or.inl ⟨hy_a, rfl⟩) (xP_map hP [] rfl) (hD.sub [] (by decide +kernel) rfl) hS (Nat.le_of_ble_eq_true rfl) (Nat.le_of_ble_eq_true rfl) rfl dX12_polls_156
        · -- 34 f
          have fc_7 : i < nn := nf_nle (by omega) (by omega) c_7
          refine lv_aload_n hx hb dX12_polls_37 rfl (lv_at hl 2 rfl) ?_
          refine lv_aload_n hx hb dX12_polls_38 rfl (lv_at hl 2 rfl) ?_
          refine xget C hP 0 rfl rfl zuX12 4 (by decide) zw5_217 rfl dX12_polls_39 ?_
          refine xi (wr := [(ms, .inl (cs 0, 288, .inl freshS)), (mkp, .inl (cs 0, 2304, .inl u_5))]) (xV (As := [.int (nI 4)]) (rest := []) C (c_X12_draw l D cs hm ms mkp mtr mas mso mon mot man mst msm mtb mti mfr mbn mbs mde maa mab mba mbb (nI 1) xx 4 (by decide) (by decide)) kX12_156 hP hD [0] rfl (by decide +kernel) 0 rfl rfl rfl ⟨Nat.le_of_ble_eq_true rfl, Nat.le_of_ble_eq_true rfl⟩ rfl hl.1 rfl (Nat.le_of_ble_eq_true rfl) dX12_polls_42 ⟨Nat.le_of_ble_eq_true rfl, Nat.le_of_ble_eq_true rfl⟩) hP hD hS hA [0] [1, 2] rfl rfl (by decide +kernel) (by decide +kernel) ?_
          clear hP hD hS
          try clear locs
          try clear H
          intro r_8 u_9 H locs hw_r_8 hP hD hS
          have hw_r_8 : ∃ j, j < 4 ∧ r_8 = nI j := hw_r_8
          refine W.widen (k := 0) (n := 0) (Nat.le_of_ble_eq_true rfl) (Nat.le_of_ble_eq_true rfl) ?_
          replace hP : va_P D vwCl [(ms, .inl (cs 0, 288, .inl freshS)), (mkp, .inl (cs 0, 2304, .inl u_5)), (hm, .inr (12, [.ref ms, .ref mkp, .int (nI 1), .ref mtr, .int (nI 4), .int (nI 2), .int (nI 2), .int (nI 3), .int (nI 2), .int (nI 1), .ref mas, .int (nI 0), .int (nI 0), .int (nI 0), .ref mso, .ref mon, .ref mot, .ref man, .int (nI 0), .int u_9, .ref mst, .ref msm, .ref mtb, .ref mti, .ref mfr, .ref mbn, .ref mbs, .ref mde, .int (nI 0), .int (nI 0), .int (nI 0), .int (nI 0), .long 0, .long 0, .ref maa, .ref mab, .ref mba, .ref mbb]))] H := hP
          replace hD : va_D A [(ms, .inl (cs 0, 288, .inl freshS)), (mkp, .inl (cs 0, 2304, .inl u_5)), (hm, .inr (12, [.ref ms, .ref mkp, .int (nI 1), .ref mtr, .int (nI 4), .int (nI 2), .int (nI 2), .int (nI 3), .int (nI 2), .int (nI 1), .ref mas, .int (nI 0), .int (nI 0), .int (nI 0), .ref mso, .ref mon, .ref mot, .ref man, .int (nI 0), .int u_9, .ref mst, .ref msm, .ref mtb, .ref mti, .ref mfr, .ref mbn, .ref mbs, .ref mde, .int (nI 0), .int (nI 0), .int (nI 0), .int (nI 0), .long 0, .long 0, .ref maa, .ref mab, .ref mba, .ref mbb]))] := hD
          obtain ⟨j, hj, rfl⟩ := hw_r_8
          refine lv_istore (lv' := [(5, .int (nI j)), (4, .int (nI i)), (3, .int (nI 0)), (0, .ref hm), (1, .int (nI nn)), (2, .int sd)]) hx hb dX12_polls_45 hl (by decide) rfl ?_
          clear hl
          try clear ls
          intro ls hl
          refine lv_iconst (v := nI 1) hx hb dX12_polls_47 (by decide) ?_
          refine lv_aload_n hx hb dX12_polls_48 rfl (lv_at hl 3 rfl) ?_
          refine xget C hP 2 rfl rfl zuX12 13 (by decide) zw5_226 rfl dX12_polls_49 ?_
          refine lv_ishl hx hb dX12_polls_52 ?_
          refine lv_topi (nm_r (e' := nI 1) (by decide) ?_)
          refine lv_iconst (v := nI 1) hx hb dX12_polls_53 (by decide) ?_
          refine lv_isub hx hb dX12_polls_54 ?_
          refine lv_topi (nm_r (e' := nI 0) (by decide) ?_)
          refine lv_aload_n hx hb dX12_polls_55 rfl (lv_at hl 3 rfl) ?_
          refine xget C hP 2 rfl rfl zuX12 0 (by decide) zw5_213 rfl dX12_polls_56 ?_
          refine lv_bipush (v := nI 72) hx hb dX12_polls_59 (by decide) ?_
          refine lv_iload hx hb dX12_polls_61 (lv_at hl 0 rfl) ?_
          refine lv_iadd hx hb dX12_polls_63 ?_
          refine lv_topi (nm_r (e' := nI (72 + j)) (nI_add _ _) ?_)
          refine xiald C hP 0 rfl (72 + j) rfl (by omega) (by decide) dX12_polls_64 ?_
          refine lv_topi (nm_r (e' := nI 0) (fS_z (by omega)) ?_)
          refine lv_iconst (v := (-1)) hx hb dX12_polls_65 (by decide) ?_
          refine lv_ixor hx hb dX12_polls_66 ?_
          refine lv_iand hx hb dX12_polls_67 ?_
          refine lv_topi (nm_r (e' := nI 0) (by decide) ?_)
          refine lv_istore (lv' := [(6, .int (nI 0)), (5, .int (nI j)), (4, .int (nI i)), (3, .int (nI 0)), (0, .ref hm), (1, .int (nI nn)), (2, .int sd)]) hx hb dX12_polls_68 hl (by decide) rfl ?_
          clear hl
          try clear ls
          intro ls hl
          refine lv_aload_n hx hb dX12_polls_70 rfl (lv_at hl 4 rfl) ?_
          refine xget C hP 2 rfl rfl zuX12 0 (by decide) zw5_213 rfl dX12_polls_71 ?_
          refine lv_bipush (v := nI 48) hx hb dX12_polls_74 (by decide) ?_
          refine lv_iload hx hb dX12_polls_76 (lv_at hl 1 rfl) ?_
          refine lv_iadd hx hb dX12_polls_78 ?_
          refine lv_topi (nm_r (e' := nI (48 + j)) (nI_add _ _) ?_)
          refine xiald C hP 0 rfl (48 + j) rfl (by omega) (by decide) dX12_polls_79 ?_
          refine lv_topi (nm_r (e' := nI 0) (fS_z (by omega)) ?_)
          refine lv_if_ne (tgt := 149) hx hb dX12_polls_80 (by decide) (fun c => absurd (by decide) c) (fun _ => ?_)
          refine lv_iload hx hb dX12_polls_83 (lv_at hl 0 rfl) ?_
          refine lv_if_ne (tgt := 91) hx hb dX12_polls_85 (by decide) (fun c => absurd (by decide) c) (fun _ => ?_)
          refine lv_goto (tgt := 149) hx hb dX12_polls_88 (by decide) ?_
          refine lv_iinc (v := nI (i + 1)) (lv' := [(4, .int (nI (i + 1))), (6, .int (nI 0)), (5, .int (nI j)), (3, .int (nI 0)), (0, .ref hm), (1, .int (nI nn)), (2, .int sd)]) hx hb dX12_polls_149 hl (k := 2) rfl (nI_add i 1) (by decide) rfl ?_
          clear hl
          try clear ls
          intro ls hl
          refine lv_goto (tgt := 31) hx hb dX12_polls_152 (by decide) ?_
          exact ih_loop_6 (i + 1) u_9 (by omega) (by omega) H locs ls (xP_map hP [2, 0, 1] rfl) (hD.sub [2, 0, 1] (by decide +kernel) rfl) hS (lv_sub hl [0, 3, 4, 5, 6] rfl)
    exact loop_6 _ 0 sd (by omega) (Nat.lt_succ_self _) H locs ls hP hD hS (lv_sub hl [0, 1, 2, 3, 4] rfl)
  · -- 12 f
    have hn_a := PQ.no hw_r_1 c_3 (by decide)
    refine lv_iconst (v := (-1)) hx hb dX12_polls_15 (by decide) ?_
    exact xreti C () (Or.inr ⟨fun q => hn_a (q), rfl⟩) (xP_map hP [] rfl) (hD.sub [] (by decide +kernel) rfl) hS (Nat.le_of_ble_eq_true rfl) (Nat.le_of_ble_eq_true rfl) rfl dX12_polls_16

def stT : Nat → Int32
  | 2 => 0 | _ => -1
def setP (x y z tt r : Int32) : Prop := (∃ k : Nat, k < 4 ∧ okN 4 x ∧ okN 8 y ∧ z = nI k ∧ tt = nI 0 ∧ r = stT k) ∨ (¬ (okN 4 x ∧ okN 8 y ∧ okN 4 z) ∧ tt = nI 1)

set_option maxHeartbeats 4000000 in
set_option maxRecDepth 100000 in
theorem c_X12_view_z (l : Launch) (D : va_G) (cs : Nat → ClassId) (hm ms mkp mtr mas mso mon mot man mst msm mtb mti mfr mbn mbs mde maa mab mba mbb : Nat) (x y z9 : Int32) : xMet l D cs yX12_view cX12_view 4 (some .int) ({ frames := 3, cells := 0, slots := 0, locals := 64 } : Room) [.ref hm, .int x, .int y, .int z9] [(hm, .inr (12, [.ref ms, .ref mkp, .int (nI 0), .ref mtr, .int (nI 4), .int (nI 2), .int (nI 2), .int (nI 3), .int (nI 2), .int (nI 1), .ref mas, .int (nI 0), .int (nI 0), .int (nI 0), .ref mso, .ref mon, .ref mot, .ref man, .int (nI 0), .int (nI 0), .ref mst, .ref msm, .ref mtb, .ref mti, .ref mfr, .ref mbn, .ref mbs, .ref mde, .int (nI 0), .int (nI 0), .int (nI 0), .int (nI 0), .long 0, .long 0, .ref maa, .ref mab, .ref mba, .ref mbb])), (ms, .inl (cs 0, 288, .inl freshS))] (xQi D (fun (r : Int32) (_u : Unit) => r = nI 0) (fun (_u : Unit) => [(hm, .inr (12, [.ref ms, .ref mkp, .int (nI 0), .ref mtr, .int (nI 4), .int (nI 2), .int (nI 2), .int (nI 3), .int (nI 2), .int (nI 1), .ref mas, .int (nI 0), .int (nI 0), .int (nI 0), .ref mso, .ref mon, .ref mot, .ref man, .int (nI 1), .int (nI 0), .ref mst, .ref msm, .ref mtb, .ref mti, .ref mfr, .ref mbn, .ref mbs, .ref mde, .int (nI 0), .int (nI 0), .int (nI 0), .int (nI 0), .long 0, .long 0, .ref maa, .ref mab, .ref mba, .ref mbb]))])) := by
  refine xMet.intro (by decide) (Nat.le_of_ble_eq_true rfl) ?_
  intro p e s m args below meth c A ls C hP hD hS hl
  have hx := C.1
  have hb := C.2.1
  have hz := C.2.2.2.2.1
  have hown := C.2.2.2.1
  have hA := C.2.2.2.2.2.2.2.2.2
  have hAO := C.2.2.2.2.2.2.2.2.1.2.2
  replace hl : lv_has ls 4 [(0, .ref hm), (1, .int x), (2, .int y), (3, .int z9)] := hl
  obtain ⟨H, hH⟩ : ∃ H, H = s.heap := ⟨_, rfl⟩
  replace hP : va_P D vwCl [(hm, .inr (12, [.ref ms, .ref mkp, .int (nI 0), .ref mtr, .int (nI 4), .int (nI 2), .int (nI 2), .int (nI 3), .int (nI 2), .int (nI 1), .ref mas, .int (nI 0), .int (nI 0), .int (nI 0), .ref mso, .ref mon, .ref mot, .ref man, .int (nI 0), .int (nI 0), .ref mst, .ref msm, .ref mtb, .ref mti, .ref mfr, .ref mbn, .ref mbs, .ref mde, .int (nI 0), .int (nI 0), .int (nI 0), .int (nI 0), .long 0, .long 0, .ref maa, .ref mab, .ref mba, .ref mbb])), (ms, .inl (cs 0, 288, .inl freshS))] H := by rw [hH]; exact hP
  replace hS : va_S A s.heap H [] := by rw [hH]; exact hS
  obtain ⟨locs, hlocs⟩ : ∃ z : List Loc, z = [] := ⟨_, rfl⟩
  rw [← hlocs] at hS
  suffices hW : W p l e ({ frames := 3, cells := 0, slots := 0, locals := 64 } : Room) s m args below meth c H locs 0 0 (MQ below ((xQi D (fun (r : Int32) (_u : Unit) => r = nI 0) (fun (_u : Unit) => [(hm, .inr (12, [.ref ms, .ref mkp, .int (nI 0), .ref mtr, .int (nI 4), .int (nI 2), .int (nI 2), .int (nI 3), .int (nI 2), .int (nI 1), .ref mas, .int (nI 0), .int (nI 0), .int (nI 0), .ref mso, .ref mon, .ref mot, .ref man, .int (nI 1), .int (nI 0), .ref mst, .ref msm, .ref mtb, .ref mti, .ref mfr, .ref mbn, .ref mbs, .ref mde, .int (nI 0), .int (nI 0), .int (nI 0), .int (nI 0), .long 0, .long 0, .ref maa, .ref mab, .ref mba, .ref mbb]))])) A) args s 0 0 A) (F0 m 0 ls []) by rw [hlocs, hH] at hW; exact hW
  clear hH hlocs
  refine lv_aload_n hx hb dX12_view_0 rfl (lv_at hl 0 rfl) ?_
  refine lv_aload_n hx hb dX12_view_1 rfl (lv_at hl 0 rfl) ?_
  refine lv_iload_n hx hb dX12_view_2 rfl (lv_at hl 1 rfl) ?_
  refine xi (wr := []) (xV (As := [.int x]) (rest := [.ref hm]) C (c_X12_isHonest_z l D cs hm ms mkp mtr mas mso mon mot man mst msm mtb mti mfr mbn mbs mde maa mab mba mbb x) kX12_357 hP hD [0, 1] rfl (by decide +kernel) 0 rfl rfl rfl ⟨Nat.le_of_ble_eq_true rfl, Nat.le_of_ble_eq_true rfl⟩ rfl hl.1 rfl (Nat.le_of_ble_eq_true rfl) dX12_view_3 ⟨Nat.le_of_ble_eq_true rfl, Nat.le_of_ble_eq_true rfl⟩) hP hD hS hA [0, 1] [] rfl rfl (by decide +kernel) (by decide +kernel) ?_
  clear hP hD hS
  try clear locs
  try clear H
  intro r_1 u_2 H locs hw_r_1 hP hD hS
  have hw_r_1 : PQ (okN 4 x) r_1 (nI 1) (nI 0) := hw_r_1
  refine W.widen (k := 0) (n := 0) (Nat.le_of_ble_eq_true rfl) (Nat.le_of_ble_eq_true rfl) ?_
  replace hP : va_P D vwCl [(hm, .inr (12, [.ref ms, .ref mkp, .int (nI 0), .ref mtr, .int (nI 4), .int (nI 2), .int (nI 2), .int (nI 3), .int (nI 2), .int (nI 1), .ref mas, .int (nI 0), .int (nI 0), .int (nI 0), .ref mso, .ref mon, .ref mot, .ref man, .int (nI 0), .int (nI 0), .ref mst, .ref msm, .ref mtb, .ref mti, .ref mfr, .ref mbn, .ref mbs, .ref mde, .int (nI 0), .int (nI 0), .int (nI 0), .int (nI 0), .long 0, .long 0, .ref maa, .ref mab, .ref mba, .ref mbb])), (ms, .inl (cs 0, 288, .inl freshS))] H := hP
  replace hD : va_D A [(hm, .inr (12, [.ref ms, .ref mkp, .int (nI 0), .ref mtr, .int (nI 4), .int (nI 2), .int (nI 2), .int (nI 3), .int (nI 2), .int (nI 1), .ref mas, .int (nI 0), .int (nI 0), .int (nI 0), .ref mso, .ref mon, .ref mot, .ref man, .int (nI 0), .int (nI 0), .ref mst, .ref msm, .ref mtb, .ref mti, .ref mfr, .ref mbn, .ref mbs, .ref mde, .int (nI 0), .int (nI 0), .int (nI 0), .int (nI 0), .long 0, .long 0, .ref maa, .ref mab, .ref mba, .ref mbb])), (ms, .inl (cs 0, 288, .inl freshS))] := hD
  refine lv_if_eq (tgt := 30) hx hb dX12_view_6 (by decide) (fun c_3 => ?_) (fun c_3 => ?_)
  · -- 6 t
    refine lv_iconst (v := nI 1) hx hb dX12_view_30 (by decide) ?_
    refine xput C hP hD hS 0 rfl rfl zuX12 tyX12 tyX12_ok nmX12 18 (by decide) zw5_231 rfl rfl rfl (Nat.le_of_ble_eq_true rfl) dX12_view_31 ?_
    clear hP hD hS
    try clear locs
    try clear H
    intro H locs hP hD hS
    replace hP : va_P D vwCl [(hm, .inr (12, [.ref ms, .ref mkp, .int (nI 0), .ref mtr, .int (nI 4), .int (nI 2), .int (nI 2), .int (nI 3), .int (nI 2), .int (nI 1), .ref mas, .int (nI 0), .int (nI 0), .int (nI 0), .ref mso, .ref mon, .ref mot, .ref man, .int (nI 1), .int (nI 0), .ref mst, .ref msm, .ref mtb, .ref mti, .ref mfr, .ref mbn, .ref mbs, .ref mde, .int (nI 0), .int (nI 0), .int (nI 0), .int (nI 0), .long 0, .long 0, .ref maa, .ref mab, .ref mba, .ref mbb])), (ms, .inl (cs 0, 288, .inl freshS))] H := hP
    replace hD : va_D A [(hm, .inr (12, [.ref ms, .ref mkp, .int (nI 0), .ref mtr, .int (nI 4), .int (nI 2), .int (nI 2), .int (nI 3), .int (nI 2), .int (nI 1), .ref mas, .int (nI 0), .int (nI 0), .int (nI 0), .ref mso, .ref mon, .ref mot, .ref man, .int (nI 1), .int (nI 0), .ref mst, .ref msm, .ref mtb, .ref mti, .ref mfr, .ref mbn, .ref mbs, .ref mde, .int (nI 0), .int (nI 0), .int (nI 0), .int (nI 0), .long 0, .long 0, .ref maa, .ref mab, .ref mba, .ref mbb])), (ms, .inl (cs 0, 288, .inl freshS))] := hD
    refine lv_aload_n hx hb dX12_view_34 rfl (lv_at hl 0 rfl) ?_
    refine xget C hP 0 rfl rfl zuX12 18 (by decide) zw5_231 rfl dX12_view_35 ?_
    refine lv_iconst (v := nI 1) hx hb dX12_view_38 (by decide) ?_
    refine lv_icmp_ne (tgt := 44) hx hb dX12_view_39 (by decide) (fun c => absurd (by decide) c) (fun _ => ?_)
    refine lv_iconst (v := nI 0) hx hb dX12_view_42 (by decide) ?_
    exact xreti C () rfl (xP_map hP [0] rfl) (hD.sub [0] (by decide +kernel) rfl) hS (Nat.le_of_ble_eq_true rfl) (Nat.le_of_ble_eq_true rfl) rfl dX12_view_43
  · -- 6 f
    refine lv_aload_n hx hb dX12_view_9 rfl (lv_at hl 0 rfl) ?_
    refine lv_iload_n hx hb dX12_view_10 rfl (lv_at hl 2 rfl) ?_
    refine xi (wr := [(ms, .inl (cs 0, 288, .inl freshS))]) (xV (As := [.int y]) (rest := [.ref hm]) C (c_X12_isEntry_z l D cs hm ms mkp mtr mas mso mon mot man mst msm mtb mti mfr mbn mbs mde maa mab mba mbb y) kX12_319 hP hD [0] rfl (by decide +kernel) 0 rfl rfl rfl ⟨Nat.le_of_ble_eq_true rfl, Nat.le_of_ble_eq_true rfl⟩ rfl hl.1 rfl (Nat.le_of_ble_eq_true rfl) dX12_view_11 ⟨Nat.le_of_ble_eq_true rfl, Nat.le_of_ble_eq_true rfl⟩) hP hD hS hA [0] [1] rfl rfl (by decide +kernel) (by decide +kernel) ?_
    clear hP hD hS
    try clear locs
    try clear H
    intro r_4 u_5 H locs hw_r_4 hP hD hS
    have hw_r_4 : r_4 = nI 0 := hw_r_4
    refine W.widen (k := 0) (n := 0) (Nat.le_of_ble_eq_true rfl) (Nat.le_of_ble_eq_true rfl) ?_
    replace hP : va_P D vwCl [(ms, .inl (cs 0, 288, .inl freshS)), (hm, .inr (12, [.ref ms, .ref mkp, .int (nI 0), .ref mtr, .int (nI 4), .int (nI 2), .int (nI 2), .int (nI 3), .int (nI 2), .int (nI 1), .ref mas, .int (nI 0), .int (nI 0), .int (nI 0), .ref mso, .ref mon, .ref mot, .ref man, .int (nI 0), .int (nI 0), .ref mst, .ref msm, .ref mtb, .ref mti, .ref mfr, .ref mbn, .ref mbs, .ref mde, .int (nI 0), .int (nI 0), .int (nI 0), .int (nI 0), .long 0, .long 0, .ref maa, .ref mab, .ref mba, .ref mbb]))] H := hP
    replace hD : va_D A [(ms, .inl (cs 0, 288, .inl freshS)), (hm, .inr (12, [.ref ms, .ref mkp, .int (nI 0), .ref mtr, .int (nI 4), .int (nI 2), .int (nI 2), .int (nI 3), .int (nI 2), .int (nI 1), .ref mas, .int (nI 0), .int (nI 0), .int (nI 0), .ref mso, .ref mon, .ref mot, .ref man, .int (nI 0), .int (nI 0), .ref mst, .ref msm, .ref mtb, .ref mti, .ref mfr, .ref mbn, .ref mbs, .ref mde, .int (nI 0), .int (nI 0), .int (nI 0), .int (nI 0), .long 0, .long 0, .ref maa, .ref mab, .ref mba, .ref mbb]))] := hD
    subst hw_r_4
    refine lv_if_eq (tgt := 30) hx hb dX12_view_14 (by decide) (fun _ => ?_) (fun c => absurd (by decide) c)
    refine lv_iconst (v := nI 1) hx hb dX12_view_30 (by decide) ?_
    refine xput C hP hD hS 1 rfl rfl zuX12 tyX12 tyX12_ok nmX12 18 (by decide) zw5_231 rfl rfl rfl (Nat.le_of_ble_eq_true rfl) dX12_view_31 ?_
    clear hP hD hS
    try clear locs
    try clear H
    intro H locs hP hD hS
    replace hP : va_P D vwCl [(ms, .inl (cs 0, 288, .inl freshS)), (hm, .inr (12, [.ref ms, .ref mkp, .int (nI 0), .ref mtr, .int (nI 4), .int (nI 2), .int (nI 2), .int (nI 3), .int (nI 2), .int (nI 1), .ref mas, .int (nI 0), .int (nI 0), .int (nI 0), .ref mso, .ref mon, .ref mot, .ref man, .int (nI 1), .int (nI 0), .ref mst, .ref msm, .ref mtb, .ref mti, .ref mfr, .ref mbn, .ref mbs, .ref mde, .int (nI 0), .int (nI 0), .int (nI 0), .int (nI 0), .long 0, .long 0, .ref maa, .ref mab, .ref mba, .ref mbb]))] H := hP
    replace hD : va_D A [(ms, .inl (cs 0, 288, .inl freshS)), (hm, .inr (12, [.ref ms, .ref mkp, .int (nI 0), .ref mtr, .int (nI 4), .int (nI 2), .int (nI 2), .int (nI 3), .int (nI 2), .int (nI 1), .ref mas, .int (nI 0), .int (nI 0), .int (nI 0), .ref mso, .ref mon, .ref mot, .ref man, .int (nI 1), .int (nI 0), .ref mst, .ref msm, .ref mtb, .ref mti, .ref mfr, .ref mbn, .ref mbs, .ref mde, .int (nI 0), .int (nI 0), .int (nI 0), .int (nI 0), .long 0, .long 0, .ref maa, .ref mab, .ref mba, .ref mbb]))] := hD
    refine lv_aload_n hx hb dX12_view_34 rfl (lv_at hl 0 rfl) ?_
    refine xget C hP 1 rfl rfl zuX12 18 (by decide) zw5_231 rfl dX12_view_35 ?_
    refine lv_iconst (v := nI 1) hx hb dX12_view_38 (by decide) ?_
    refine lv_icmp_ne (tgt := 44) hx hb dX12_view_39 (by decide) (fun c => absurd (by decide) c) (fun _ => ?_)
    refine lv_iconst (v := nI 0) hx hb dX12_view_42 (by decide) ?_
    exact xreti C () rfl (xP_map hP [1] rfl) (hD.sub [1] (by decide +kernel) rfl) hS (Nat.le_of_ble_eq_true rfl) (Nat.le_of_ble_eq_true rfl) rfl dX12_view_43

set_option maxHeartbeats 4000000 in
set_option maxRecDepth 100000 in
theorem c_X12_set_z (l : Launch) (D : va_G) (cs : Nat → ClassId) (hm ms mkp mtr mas mso mon mot man mst msm mtb mti mfr mbn mbs mde maa mab mba mbb : Nat) (x y z9 : Int32) : xMet l D cs yX12_set cX12_set 5 (some .int) ({ frames := 3, cells := 0, slots := 0, locals := 64 } : Room) [.ref hm, .int x, .int y, .int z9] [(hm, .inr (12, [.ref ms, .ref mkp, .int (nI 0), .ref mtr, .int (nI 4), .int (nI 2), .int (nI 2), .int (nI 3), .int (nI 2), .int (nI 1), .ref mas, .int (nI 0), .int (nI 0), .int (nI 0), .ref mso, .ref mon, .ref mot, .ref man, .int (nI 0), .int (nI 0), .ref mst, .ref msm, .ref mtb, .ref mti, .ref mfr, .ref mbn, .ref mbs, .ref mde, .int (nI 0), .int (nI 0), .int (nI 0), .int (nI 0), .long 0, .long 0, .ref maa, .ref mab, .ref mba, .ref mbb])), (ms, .inl (cs 0, 288, .inl freshS))] (xQi D (fun (r : Int32) (tt : Int32) => setP x y z9 tt r) (fun (tt : Int32) => [(hm, .inr (12, [.ref ms, .ref mkp, .int (nI 0), .ref mtr, .int (nI 4), .int (nI 2), .int (nI 2), .int (nI 3), .int (nI 2), .int (nI 1), .ref mas, .int (nI 0), .int (nI 0), .int (nI 0), .ref mso, .ref mon, .ref mot, .ref man, .int tt, .int (nI 0), .ref mst, .ref msm, .ref mtb, .ref mti, .ref mfr, .ref mbn, .ref mbs, .ref mde, .int (nI 0), .int (nI 0), .int (nI 0), .int (nI 0), .long 0, .long 0, .ref maa, .ref mab, .ref mba, .ref mbb]))])) := by
  refine xMet.intro (by decide) (Nat.le_of_ble_eq_true rfl) ?_
  intro p e s m args below meth c A ls C hP hD hS hl
  have hx := C.1
  have hb := C.2.1
  have hz := C.2.2.2.2.1
  have hown := C.2.2.2.1
  have hA := C.2.2.2.2.2.2.2.2.2
  have hAO := C.2.2.2.2.2.2.2.2.1.2.2
  replace hl : lv_has ls 5 [(0, .ref hm), (1, .int x), (2, .int y), (3, .int z9)] := hl
  obtain ⟨H, hH⟩ : ∃ H, H = s.heap := ⟨_, rfl⟩
  replace hP : va_P D vwCl [(hm, .inr (12, [.ref ms, .ref mkp, .int (nI 0), .ref mtr, .int (nI 4), .int (nI 2), .int (nI 2), .int (nI 3), .int (nI 2), .int (nI 1), .ref mas, .int (nI 0), .int (nI 0), .int (nI 0), .ref mso, .ref mon, .ref mot, .ref man, .int (nI 0), .int (nI 0), .ref mst, .ref msm, .ref mtb, .ref mti, .ref mfr, .ref mbn, .ref mbs, .ref mde, .int (nI 0), .int (nI 0), .int (nI 0), .int (nI 0), .long 0, .long 0, .ref maa, .ref mab, .ref mba, .ref mbb])), (ms, .inl (cs 0, 288, .inl freshS))] H := by rw [hH]; exact hP
  replace hS : va_S A s.heap H [] := by rw [hH]; exact hS
  obtain ⟨locs, hlocs⟩ : ∃ z : List Loc, z = [] := ⟨_, rfl⟩
  rw [← hlocs] at hS
  suffices hW : W p l e ({ frames := 3, cells := 0, slots := 0, locals := 64 } : Room) s m args below meth c H locs 0 0 (MQ below ((xQi D (fun (r : Int32) (tt : Int32) => setP x y z9 tt r) (fun (tt : Int32) => [(hm, .inr (12, [.ref ms, .ref mkp, .int (nI 0), .ref mtr, .int (nI 4), .int (nI 2), .int (nI 2), .int (nI 3), .int (nI 2), .int (nI 1), .ref mas, .int (nI 0), .int (nI 0), .int (nI 0), .ref mso, .ref mon, .ref mot, .ref man, .int tt, .int (nI 0), .ref mst, .ref msm, .ref mtb, .ref mti, .ref mfr, .ref mbn, .ref mbs, .ref mde, .int (nI 0), .int (nI 0), .int (nI 0), .int (nI 0), .long 0, .long 0, .ref maa, .ref mab, .ref mba, .ref mbb]))])) A) args s 0 0 A) (F0 m 0 ls []) by rw [hlocs, hH] at hW; exact hW
  clear hH hlocs
  refine lv_aload_n hx hb dX12_set_0 rfl (lv_at hl 0 rfl) ?_
  refine lv_aload_n hx hb dX12_set_1 rfl (lv_at hl 0 rfl) ?_
  refine lv_iload_n hx hb dX12_set_2 rfl (lv_at hl 1 rfl) ?_
  refine xi (wr := []) (xV (As := [.int x]) (rest := [.ref hm]) C (c_X12_isHonest_z l D cs hm ms mkp mtr mas mso mon mot man mst msm mtb mti mfr mbn mbs mde maa mab mba mbb x) kX12_357 hP hD [0, 1] rfl (by decide +kernel) 0 rfl rfl rfl ⟨Nat.le_of_ble_eq_true rfl, Nat.le_of_ble_eq_true rfl⟩ rfl hl.1 rfl (Nat.le_of_ble_eq_true rfl) dX12_set_3 ⟨Nat.le_of_ble_eq_true rfl, Nat.le_of_ble_eq_true rfl⟩) hP hD hS hA [0, 1] [] rfl rfl (by decide +kernel) (by decide +kernel) ?_
  clear hP hD hS
  try clear locs
  try clear H
  intro r_1 u_2 H locs hw_r_1 hP hD hS
  have hw_r_1 : PQ (okN 4 x) r_1 (nI 1) (nI 0) := hw_r_1
  refine W.widen (k := 0) (n := 0) (Nat.le_of_ble_eq_true rfl) (Nat.le_of_ble_eq_true rfl) ?_
  replace hP : va_P D vwCl [(hm, .inr (12, [.ref ms, .ref mkp, .int (nI 0), .ref mtr, .int (nI 4), .int (nI 2), .int (nI 2), .int (nI 3), .int (nI 2), .int (nI 1), .ref mas, .int (nI 0), .int (nI 0), .int (nI 0), .ref mso, .ref mon, .ref mot, .ref man, .int (nI 0), .int (nI 0), .ref mst, .ref msm, .ref mtb, .ref mti, .ref mfr, .ref mbn, .ref mbs, .ref mde, .int (nI 0), .int (nI 0), .int (nI 0), .int (nI 0), .long 0, .long 0, .ref maa, .ref mab, .ref mba, .ref mbb])), (ms, .inl (cs 0, 288, .inl freshS))] H := hP
  replace hD : va_D A [(hm, .inr (12, [.ref ms, .ref mkp, .int (nI 0), .ref mtr, .int (nI 4), .int (nI 2), .int (nI 2), .int (nI 3), .int (nI 2), .int (nI 1), .ref mas, .int (nI 0), .int (nI 0), .int (nI 0), .ref mso, .ref mon, .ref mot, .ref man, .int (nI 0), .int (nI 0), .ref mst, .ref msm, .ref mtb, .ref mti, .ref mfr, .ref mbn, .ref mbs, .ref mde, .int (nI 0), .int (nI 0), .int (nI 0), .int (nI 0), .long 0, .long 0, .ref maa, .ref mab, .ref mba, .ref mbb])), (ms, .inl (cs 0, 288, .inl freshS))] := hD
  refine lv_if_eq (tgt := 32) hx hb dX12_set_6 (by decide) (fun c_3 => ?_) (fun c_3 => ?_)
  · -- 6 t
    have hn_x := PQ.no hw_r_1 c_3 (by decide)
    refine lv_iconst (v := nI 1) hx hb dX12_set_32 (by decide) ?_
    refine xput C hP hD hS 0 rfl rfl zuX12 tyX12 tyX12_ok nmX12 18 (by decide) zw5_231 rfl rfl rfl (Nat.le_of_ble_eq_true rfl) dX12_set_33 ?_
    clear hP hD hS
    try clear locs
    try clear H
    intro H locs hP hD hS
    replace hP : va_P D vwCl [(hm, .inr (12, [.ref ms, .ref mkp, .int (nI 0), .ref mtr, .int (nI 4), .int (nI 2), .int (nI 2), .int (nI 3), .int (nI 2), .int (nI 1), .ref mas, .int (nI 0), .int (nI 0), .int (nI 0), .ref mso, .ref mon, .ref mot, .ref man, .int (nI 1), .int (nI 0), .ref mst, .ref msm, .ref mtb, .ref mti, .ref mfr, .ref mbn, .ref mbs, .ref mde, .int (nI 0), .int (nI 0), .int (nI 0), .int (nI 0), .long 0, .long 0, .ref maa, .ref mab, .ref mba, .ref mbb])), (ms, .inl (cs 0, 288, .inl freshS))] H := hP
    replace hD : va_D A [(hm, .inr (12, [.ref ms, .ref mkp, .int (nI 0), .ref mtr, .int (nI 4), .int (nI 2), .int (nI 2), .int (nI 3), .int (nI 2), .int (nI 1), .ref mas, .int (nI 0), .int (nI 0), .int (nI 0), .ref mso, .ref mon, .ref mot, .ref man, .int (nI 1), .int (nI 0), .ref mst, .ref msm, .ref mtb, .ref mti, .ref mfr, .ref mbn, .ref mbs, .ref mde, .int (nI 0), .int (nI 0), .int (nI 0), .int (nI 0), .long 0, .long 0, .ref maa, .ref mab, .ref mba, .ref mbb])), (ms, .inl (cs 0, 288, .inl freshS))] := hD
    refine lv_aload_n hx hb dX12_set_36 rfl (lv_at hl 0 rfl) ?_
    refine xget C hP 0 rfl rfl zuX12 18 (by decide) zw5_231 rfl dX12_set_37 ?_
    refine lv_iconst (v := nI 1) hx hb dX12_set_40 (by decide) ?_
    refine lv_icmp_ne (tgt := 46) hx hb dX12_set_41 (by decide) (fun c => absurd (by decide) c) (fun _ => ?_)
    refine lv_iconst (v := nI 0) hx hb dX12_set_44 (by decide) ?_
    exact xreti C (nI 1) (Or.inr ⟨fun q => hn_x q.1, rfl⟩) (xP_map hP [0] rfl) (hD.sub [0] (by decide +kernel) rfl) hS (Nat.le_of_ble_eq_true rfl) (Nat.le_of_ble_eq_true rfl) rfl dX12_set_45
  · -- 6 f
    have hok_x := PQ.yes hw_r_1 c_3
    obtain ⟨j4, h_j4, rfl⟩ := okN_of hok_x (by decide)
    replace hP : va_P D vwCl [(hm, .inr (12, [.ref ms, .ref mkp, .int (nI 0), .ref mtr, .int (nI 4), .int (nI 2), .int (nI 2), .int (nI 3), .int (nI 2), .int (nI 1), .ref mas, .int (nI 0), .int (nI 0), .int (nI 0), .ref mso, .ref mon, .ref mot, .ref man, .int (nI 0), .int (nI 0), .ref mst, .ref msm, .ref mtb, .ref mti, .ref mfr, .ref mbn, .ref mbs, .ref mde, .int (nI 0), .int (nI 0), .int (nI 0), .int (nI 0), .long 0, .long 0, .ref maa, .ref mab, .ref mba, .ref mbb])), (ms, .inl (cs 0, 288, .inl freshS))] H := hP
    replace hD : va_D A [(hm, .inr (12, [.ref ms, .ref mkp, .int (nI 0), .ref mtr, .int (nI 4), .int (nI 2), .int (nI 2), .int (nI 3), .int (nI 2), .int (nI 1), .ref mas, .int (nI 0), .int (nI 0), .int (nI 0), .ref mso, .ref mon, .ref mot, .ref man, .int (nI 0), .int (nI 0), .ref mst, .ref msm, .ref mtb, .ref mti, .ref mfr, .ref mbn, .ref mbs, .ref mde, .int (nI 0), .int (nI 0), .int (nI 0), .int (nI 0), .long 0, .long 0, .ref maa, .ref mab, .ref mba, .ref mbb])), (ms, .inl (cs 0, 288, .inl freshS))] := hD
    refine lv_iload_n hx hb dX12_set_9 rfl (lv_at hl 2 rfl) ?_
    refine lv_iconst (v := nI 0) hx hb dX12_set_10 (by decide) ?_
    refine lv_bipush (v := nI 7) hx hb dX12_set_11 (by decide) ?_
    refine xi (wr := [(hm, .inr (12, [.ref ms, .ref mkp, .int (nI 0), .ref mtr, .int (nI 4), .int (nI 2), .int (nI 2), .int (nI 3), .int (nI 2), .int (nI 1), .ref mas, .int (nI 0), .int (nI 0), .int (nI 0), .ref mso, .ref mon, .ref mot, .ref man, .int (nI 0), .int (nI 0), .ref mst, .ref msm, .ref mtb, .ref mti, .ref mfr, .ref mbn, .ref mbs, .ref mde, .int (nI 0), .int (nI 0), .int (nI 0), .int (nI 0), .long 0, .long 0, .ref maa, .ref mab, .ref mba, .ref mbb])), (ms, .inl (cs 0, 288, .inl freshS))]) (xS (As := [.int y, .int (nI 0), .int (nI 7)]) (rest := [.ref hm]) C (c_X12_within l D cs y (nI 0) (nI 7)) kX12_116 hP hD [] rfl (by decide +kernel) ⟨Nat.le_of_ble_eq_true rfl, Nat.le_of_ble_eq_true rfl⟩ rfl hl.1 rfl (Nat.le_of_ble_eq_true rfl) dX12_set_13 ⟨Nat.le_of_ble_eq_true rfl, Nat.le_of_ble_eq_true rfl⟩) hP hD hS hA [] [0, 1] rfl rfl (by decide +kernel) (by decide +kernel) ?_
    clear hP hD hS
    try clear locs
    try clear H
    intro r_4 u_5 H locs hw_r_4 hP hD hS
    have hw_r_4 : PQ (¬ y < (nI 0) ∧ y ≤ (nI 7)) r_4 (nI 1) (nI 0) := hw_r_4
    refine W.widen (k := 0) (n := 0) (Nat.le_of_ble_eq_true rfl) (Nat.le_of_ble_eq_true rfl) ?_
    replace hP : va_P D vwCl [(hm, .inr (12, [.ref ms, .ref mkp, .int (nI 0), .ref mtr, .int (nI 4), .int (nI 2), .int (nI 2), .int (nI 3), .int (nI 2), .int (nI 1), .ref mas, .int (nI 0), .int (nI 0), .int (nI 0), .ref mso, .ref mon, .ref mot, .ref man, .int (nI 0), .int (nI 0), .ref mst, .ref msm, .ref mtb, .ref mti, .ref mfr, .ref mbn, .ref mbs, .ref mde, .int (nI 0), .int (nI 0), .int (nI 0), .int (nI 0), .long 0, .long 0, .ref maa, .ref mab, .ref mba, .ref mbb])), (ms, .inl (cs 0, 288, .inl freshS))] H := hP
    replace hD : va_D A [(hm, .inr (12, [.ref ms, .ref mkp, .int (nI 0), .ref mtr, .int (nI 4), .int (nI 2), .int (nI 2), .int (nI 3), .int (nI 2), .int (nI 1), .ref mas, .int (nI 0), .int (nI 0), .int (nI 0), .ref mso, .ref mon, .ref mot, .ref man, .int (nI 0), .int (nI 0), .ref mst, .ref msm, .ref mtb, .ref mti, .ref mfr, .ref mbn, .ref mbs, .ref mde, .int (nI 0), .int (nI 0), .int (nI 0), .int (nI 0), .long 0, .long 0, .ref maa, .ref mab, .ref mba, .ref mbb])), (ms, .inl (cs 0, 288, .inl freshS))] := hD
    refine lv_if_eq (tgt := 32) hx hb dX12_set_16 (by decide) (fun c_6 => ?_) (fun c_6 => ?_)
    · -- 16 t
      have hn_y : ¬ okN 8 y := fun q => PQ.no hw_r_4 c_6 (by decide) (ok8.mp q)
      refine lv_iconst (v := nI 1) hx hb dX12_set_32 (by decide) ?_
      refine xput C hP hD hS 0 rfl rfl zuX12 tyX12 tyX12_ok nmX12 18 (by decide) zw5_231 rfl rfl rfl (Nat.le_of_ble_eq_true rfl) dX12_set_33 ?_
      clear hP hD hS
      try clear locs
      try clear H
      intro H locs hP hD hS
      replace hP : va_P D vwCl [(hm, .inr (12, [.ref ms, .ref mkp, .int (nI 0), .ref mtr, .int (nI 4), .int (nI 2), .int (nI 2), .int (nI 3), .int (nI 2), .int (nI 1), .ref mas, .int (nI 0), .int (nI 0), .int (nI 0), .ref mso, .ref mon, .ref mot, .ref man, .int (nI 1), .int (nI 0), .ref mst, .ref msm, .ref mtb, .ref mti, .ref mfr, .ref mbn, .ref mbs, .ref mde, .int (nI 0), .int (nI 0), .int (nI 0), .int (nI 0), .long 0, .long 0, .ref maa, .ref mab, .ref mba, .ref mbb])), (ms, .inl (cs 0, 288, .inl freshS))] H := hP
      replace hD : va_D A [(hm, .inr (12, [.ref ms, .ref mkp, .int (nI 0), .ref mtr, .int (nI 4), .int (nI 2), .int (nI 2), .int (nI 3), .int (nI 2), .int (nI 1), .ref mas, .int (nI 0), .int (nI 0), .int (nI 0), .ref mso, .ref mon, .ref mot, .ref man, .int (nI 1), .int (nI 0), .ref mst, .ref msm, .ref mtb, .ref mti, .ref mfr, .ref mbn, .ref mbs, .ref mde, .int (nI 0), .int (nI 0), .int (nI 0), .int (nI 0), .long 0, .long 0, .ref maa, .ref mab, .ref mba, .ref mbb])), (ms, .inl (cs 0, 288, .inl freshS))] := hD
      refine lv_aload_n hx hb dX12_set_36 rfl (lv_at hl 0 rfl) ?_
      refine xget C hP 0 rfl rfl zuX12 18 (by decide) zw5_231 rfl dX12_set_37 ?_
      refine lv_iconst (v := nI 1) hx hb dX12_set_40 (by decide) ?_
      refine lv_icmp_ne (tgt := 46) hx hb dX12_set_41 (by decide) (fun c => absurd (by decide) c) (fun _ => ?_)
      refine lv_iconst (v := nI 0) hx hb dX12_set_44 (by decide) ?_
      exact xreti C (nI 1) (Or.inr ⟨fun q => hn_y q.2.1, rfl⟩) (xP_map hP [0] rfl) (hD.sub [0] (by decide +kernel) rfl) hS (Nat.le_of_ble_eq_true rfl) (Nat.le_of_ble_eq_true rfl) rfl dX12_set_45
    · -- 16 f
      have hy_y : okN 8 y := ok8.mpr (PQ.yes hw_r_4 c_6)
      obtain ⟨k8, h_k8, rfl⟩ := okN_of hy_y (by decide)
      replace hP : va_P D vwCl [(hm, .inr (12, [.ref ms, .ref mkp, .int (nI 0), .ref mtr, .int (nI 4), .int (nI 2), .int (nI 2), .int (nI 3), .int (nI 2), .int (nI 1), .ref mas, .int (nI 0), .int (nI 0), .int (nI 0), .ref mso, .ref mon, .ref mot, .ref man, .int (nI 0), .int (nI 0), .ref mst, .ref msm, .ref mtb, .ref mti, .ref mfr, .ref mbn, .ref mbs, .ref mde, .int (nI 0), .int (nI 0), .int (nI 0), .int (nI 0), .long 0, .long 0, .ref maa, .ref mab, .ref mba, .ref mbb])), (ms, .inl (cs 0, 288, .inl freshS))] H := hP
      replace hD : va_D A [(hm, .inr (12, [.ref ms, .ref mkp, .int (nI 0), .ref mtr, .int (nI 4), .int (nI 2), .int (nI 2), .int (nI 3), .int (nI 2), .int (nI 1), .ref mas, .int (nI 0), .int (nI 0), .int (nI 0), .ref mso, .ref mon, .ref mot, .ref man, .int (nI 0), .int (nI 0), .ref mst, .ref msm, .ref mtb, .ref mti, .ref mfr, .ref mbn, .ref mbs, .ref mde, .int (nI 0), .int (nI 0), .int (nI 0), .int (nI 0), .long 0, .long 0, .ref maa, .ref mab, .ref mba, .ref mbb])), (ms, .inl (cs 0, 288, .inl freshS))] := hD
      refine lv_iload_n hx hb dX12_set_19 rfl (lv_at hl 3 rfl) ?_
      refine lv_iconst (v := nI 0) hx hb dX12_set_20 (by decide) ?_
      refine lv_iconst (v := nI 3) hx hb dX12_set_21 (by decide) ?_
      refine xi (wr := [(hm, .inr (12, [.ref ms, .ref mkp, .int (nI 0), .ref mtr, .int (nI 4), .int (nI 2), .int (nI 2), .int (nI 3), .int (nI 2), .int (nI 1), .ref mas, .int (nI 0), .int (nI 0), .int (nI 0), .ref mso, .ref mon, .ref mot, .ref man, .int (nI 0), .int (nI 0), .ref mst, .ref msm, .ref mtb, .ref mti, .ref mfr, .ref mbn, .ref mbs, .ref mde, .int (nI 0), .int (nI 0), .int (nI 0), .int (nI 0), .long 0, .long 0, .ref maa, .ref mab, .ref mba, .ref mbb])), (ms, .inl (cs 0, 288, .inl freshS))]) (xS (As := [.int z9, .int (nI 0), .int (nI 3)]) (rest := [.ref hm]) C (c_X12_within l D cs z9 (nI 0) (nI 3)) kX12_116 hP hD [] rfl (by decide +kernel) ⟨Nat.le_of_ble_eq_true rfl, Nat.le_of_ble_eq_true rfl⟩ rfl hl.1 rfl (Nat.le_of_ble_eq_true rfl) dX12_set_22 ⟨Nat.le_of_ble_eq_true rfl, Nat.le_of_ble_eq_true rfl⟩) hP hD hS hA [] [0, 1] rfl rfl (by decide +kernel) (by decide +kernel) ?_
      clear hP hD hS
      try clear locs
      try clear H
      intro r_7 u_8 H locs hw_r_7 hP hD hS
      have hw_r_7 : PQ (¬ z9 < (nI 0) ∧ z9 ≤ (nI 3)) r_7 (nI 1) (nI 0) := hw_r_7
      refine W.widen (k := 0) (n := 0) (Nat.le_of_ble_eq_true rfl) (Nat.le_of_ble_eq_true rfl) ?_
      replace hP : va_P D vwCl [(hm, .inr (12, [.ref ms, .ref mkp, .int (nI 0), .ref mtr, .int (nI 4), .int (nI 2), .int (nI 2), .int (nI 3), .int (nI 2), .int (nI 1), .ref mas, .int (nI 0), .int (nI 0), .int (nI 0), .ref mso, .ref mon, .ref mot, .ref man, .int (nI 0), .int (nI 0), .ref mst, .ref msm, .ref mtb, .ref mti, .ref mfr, .ref mbn, .ref mbs, .ref mde, .int (nI 0), .int (nI 0), .int (nI 0), .int (nI 0), .long 0, .long 0, .ref maa, .ref mab, .ref mba, .ref mbb])), (ms, .inl (cs 0, 288, .inl freshS))] H := hP
      replace hD : va_D A [(hm, .inr (12, [.ref ms, .ref mkp, .int (nI 0), .ref mtr, .int (nI 4), .int (nI 2), .int (nI 2), .int (nI 3), .int (nI 2), .int (nI 1), .ref mas, .int (nI 0), .int (nI 0), .int (nI 0), .ref mso, .ref mon, .ref mot, .ref man, .int (nI 0), .int (nI 0), .ref mst, .ref msm, .ref mtb, .ref mti, .ref mfr, .ref mbn, .ref mbs, .ref mde, .int (nI 0), .int (nI 0), .int (nI 0), .int (nI 0), .long 0, .long 0, .ref maa, .ref mab, .ref mba, .ref mbb])), (ms, .inl (cs 0, 288, .inl freshS))] := hD
      refine lv_if_eq (tgt := 32) hx hb dX12_set_25 (by decide) (fun c_9 => ?_) (fun c_9 => ?_)
      · -- 25 t
        have hn_z : ¬ okN 4 z9 := fun q => PQ.no hw_r_7 c_9 (by decide) (ok4.mp q)
        refine lv_iconst (v := nI 1) hx hb dX12_set_32 (by decide) ?_
        refine xput C hP hD hS 0 rfl rfl zuX12 tyX12 tyX12_ok nmX12 18 (by decide) zw5_231 rfl rfl rfl (Nat.le_of_ble_eq_true rfl) dX12_set_33 ?_
        clear hP hD hS
        try clear locs
        try clear H
        intro H locs hP hD hS
        replace hP : va_P D vwCl [(hm, .inr (12, [.ref ms, .ref mkp, .int (nI 0), .ref mtr, .int (nI 4), .int (nI 2), .int (nI 2), .int (nI 3), .int (nI 2), .int (nI 1), .ref mas, .int (nI 0), .int (nI 0), .int (nI 0), .ref mso, .ref mon, .ref mot, .ref man, .int (nI 1), .int (nI 0), .ref mst, .ref msm, .ref mtb, .ref mti, .ref mfr, .ref mbn, .ref mbs, .ref mde, .int (nI 0), .int (nI 0), .int (nI 0), .int (nI 0), .long 0, .long 0, .ref maa, .ref mab, .ref mba, .ref mbb])), (ms, .inl (cs 0, 288, .inl freshS))] H := hP
        replace hD : va_D A [(hm, .inr (12, [.ref ms, .ref mkp, .int (nI 0), .ref mtr, .int (nI 4), .int (nI 2), .int (nI 2), .int (nI 3), .int (nI 2), .int (nI 1), .ref mas, .int (nI 0), .int (nI 0), .int (nI 0), .ref mso, .ref mon, .ref mot, .ref man, .int (nI 1), .int (nI 0), .ref mst, .ref msm, .ref mtb, .ref mti, .ref mfr, .ref mbn, .ref mbs, .ref mde, .int (nI 0), .int (nI 0), .int (nI 0), .int (nI 0), .long 0, .long 0, .ref maa, .ref mab, .ref mba, .ref mbb])), (ms, .inl (cs 0, 288, .inl freshS))] := hD
        refine lv_aload_n hx hb dX12_set_36 rfl (lv_at hl 0 rfl) ?_
        refine xget C hP 0 rfl rfl zuX12 18 (by decide) zw5_231 rfl dX12_set_37 ?_
        refine lv_iconst (v := nI 1) hx hb dX12_set_40 (by decide) ?_
        refine lv_icmp_ne (tgt := 46) hx hb dX12_set_41 (by decide) (fun c => absurd (by decide) c) (fun _ => ?_)
        refine lv_iconst (v := nI 0) hx hb dX12_set_44 (by decide) ?_
        exact xreti C (nI 1) (Or.inr ⟨fun q => hn_z q.2.2, rfl⟩) (xP_map hP [0] rfl) (hD.sub [0] (by decide +kernel) rfl) hS (Nat.le_of_ble_eq_true rfl) (Nat.le_of_ble_eq_true rfl) rfl dX12_set_45
      · -- 25 f
        have hy_z : okN 4 z9 := ok4.mpr (PQ.yes hw_r_7 c_9)
        obtain ⟨k4, h_k4, rfl⟩ := okN_of hy_z (by decide)
        replace hP : va_P D vwCl [(hm, .inr (12, [.ref ms, .ref mkp, .int (nI 0), .ref mtr, .int (nI 4), .int (nI 2), .int (nI 2), .int (nI 3), .int (nI 2), .int (nI 1), .ref mas, .int (nI 0), .int (nI 0), .int (nI 0), .ref mso, .ref mon, .ref mot, .ref man, .int (nI 0), .int (nI 0), .ref mst, .ref msm, .ref mtb, .ref mti, .ref mfr, .ref mbn, .ref mbs, .ref mde, .int (nI 0), .int (nI 0), .int (nI 0), .int (nI 0), .long 0, .long 0, .ref maa, .ref mab, .ref mba, .ref mbb])), (ms, .inl (cs 0, 288, .inl freshS))] H := hP
        replace hD : va_D A [(hm, .inr (12, [.ref ms, .ref mkp, .int (nI 0), .ref mtr, .int (nI 4), .int (nI 2), .int (nI 2), .int (nI 3), .int (nI 2), .int (nI 1), .ref mas, .int (nI 0), .int (nI 0), .int (nI 0), .ref mso, .ref mon, .ref mot, .ref man, .int (nI 0), .int (nI 0), .ref mst, .ref msm, .ref mtb, .ref mti, .ref mfr, .ref mbn, .ref mbs, .ref mde, .int (nI 0), .int (nI 0), .int (nI 0), .int (nI 0), .long 0, .long 0, .ref maa, .ref mab, .ref mba, .ref mbb])), (ms, .inl (cs 0, 288, .inl freshS))] := hD
        refine lv_iconst (v := nI 0) hx hb dX12_set_28 (by decide) ?_
        refine lv_goto (tgt := 33) hx hb dX12_set_29 (by decide) ?_
        refine xput C hP hD hS 0 rfl rfl zuX12 tyX12 tyX12_ok nmX12 18 (by decide) zw5_231 rfl rfl rfl (Nat.le_of_ble_eq_true rfl) dX12_set_33 ?_
        clear hP hD hS
        try clear locs
        try clear H
        intro H locs hP hD hS
        replace hP : va_P D vwCl [(hm, .inr (12, [.ref ms, .ref mkp, .int (nI 0), .ref mtr, .int (nI 4), .int (nI 2), .int (nI 2), .int (nI 3), .int (nI 2), .int (nI 1), .ref mas, .int (nI 0), .int (nI 0), .int (nI 0), .ref mso, .ref mon, .ref mot, .ref man, .int (nI 0), .int (nI 0), .ref mst, .ref msm, .ref mtb, .ref mti, .ref mfr, .ref mbn, .ref mbs, .ref mde, .int (nI 0), .int (nI 0), .int (nI 0), .int (nI 0), .long 0, .long 0, .ref maa, .ref mab, .ref mba, .ref mbb])), (ms, .inl (cs 0, 288, .inl freshS))] H := hP
        replace hD : va_D A [(hm, .inr (12, [.ref ms, .ref mkp, .int (nI 0), .ref mtr, .int (nI 4), .int (nI 2), .int (nI 2), .int (nI 3), .int (nI 2), .int (nI 1), .ref mas, .int (nI 0), .int (nI 0), .int (nI 0), .ref mso, .ref mon, .ref mot, .ref man, .int (nI 0), .int (nI 0), .ref mst, .ref msm, .ref mtb, .ref mti, .ref mfr, .ref mbn, .ref mbs, .ref mde, .int (nI 0), .int (nI 0), .int (nI 0), .int (nI 0), .long 0, .long 0, .ref maa, .ref mab, .ref mba, .ref mbb])), (ms, .inl (cs 0, 288, .inl freshS))] := hD
        refine lv_aload_n hx hb dX12_set_36 rfl (lv_at hl 0 rfl) ?_
        refine xget C hP 0 rfl rfl zuX12 18 (by decide) zw5_231 rfl dX12_set_37 ?_
        refine lv_iconst (v := nI 1) hx hb dX12_set_40 (by decide) ?_
        refine lv_icmp_ne (tgt := 46) hx hb dX12_set_41 (by decide) (fun _ => ?_) (fun c => absurd c (by decide))
        refine lv_bipush (v := nI 8) hx hb dX12_set_46 (by decide) ?_
        refine lv_iload_n hx hb dX12_set_48 rfl (lv_at hl 1 rfl) ?_
        refine lv_imul hx hb dX12_set_49 ?_
        refine lv_topi (nm_r (e' := nI (8 * j4)) (pk_mul _ _) ?_)
        refine lv_iload_n hx hb dX12_set_50 rfl (lv_at hl 2 rfl) ?_
        refine lv_iadd hx hb dX12_set_51 ?_
        refine lv_topi (nm_r (e' := nI ((8 * j4) + k8)) (nI_add _ _) ?_)
        refine lv_istore (lv' := [(4, .int (nI ((8 * j4) + k8))), (0, .ref hm), (1, .int (nI j4)), (2, .int (nI k8)), (3, .int (nI k4))]) hx hb dX12_set_52 hl (by decide) rfl ?_
        clear hl
        try clear ls
        intro ls hl
        rcases (show k4 = 0 ∨ k4 = 1 ∨ k4 = 2 ∨ k4 = 3 by omega) with rfl | rfl | rfl | rfl
        · -- k4 = 0
          replace hP : va_P D vwCl [(hm, .inr (12, [.ref ms, .ref mkp, .int (nI 0), .ref mtr, .int (nI 4), .int (nI 2), .int (nI 2), .int (nI 3), .int (nI 2), .int (nI 1), .ref mas, .int (nI 0), .int (nI 0), .int (nI 0), .ref mso, .ref mon, .ref mot, .ref man, .int (nI 0), .int (nI 0), .ref mst, .ref msm, .ref mtb, .ref mti, .ref mfr, .ref mbn, .ref mbs, .ref mde, .int (nI 0), .int (nI 0), .int (nI 0), .int (nI 0), .long 0, .long 0, .ref maa, .ref mab, .ref mba, .ref mbb])), (ms, .inl (cs 0, 288, .inl freshS))] H := hP
          replace hD : va_D A [(hm, .inr (12, [.ref ms, .ref mkp, .int (nI 0), .ref mtr, .int (nI 4), .int (nI 2), .int (nI 2), .int (nI 3), .int (nI 2), .int (nI 1), .ref mas, .int (nI 0), .int (nI 0), .int (nI 0), .ref mso, .ref mon, .ref mot, .ref man, .int (nI 0), .int (nI 0), .ref mst, .ref msm, .ref mtb, .ref mti, .ref mfr, .ref mbn, .ref mbs, .ref mde, .int (nI 0), .int (nI 0), .int (nI 0), .int (nI 0), .long 0, .long 0, .ref maa, .ref mab, .ref mba, .ref mbb])), (ms, .inl (cs 0, 288, .inl freshS))] := hD
          refine lv_iload_n hx hb dX12_set_54 rfl (lv_at hl 4 rfl) ?_
          refine lv_if_ne (tgt := 71) hx hb dX12_set_55 (by decide) (fun c => absurd (by decide) c) (fun _ => ?_)
          refine lv_aload_n hx hb dX12_set_58 rfl (lv_at hl 1 rfl) ?_
          refine xget C hP 0 rfl rfl zuX12 0 (by decide) zw5_213 rfl dX12_set_59 ?_
          refine lv_bipush (v := nI 96) hx hb dX12_set_62 (by decide) ?_
          refine lv_iload hx hb dX12_set_64 (lv_at hl 0 rfl) ?_
          refine lv_iadd hx hb dX12_set_66 ?_
          refine lv_topi (nm_r (e' := nI (96 + ((8 * j4) + k8))) (nI_add _ _) ?_)
          refine xiald C hP 1 rfl (96 + ((8 * j4) + k8)) rfl (by omega) (by decide) dX12_set_67 ?_
          refine lv_topi (nm_r (e' := (-1)) (by unfold freshS; rw [if_neg (by omega), if_neg (by omega), if_pos (by omega)]) ?_)
          refine lv_goto (tgt := 115) hx hb dX12_set_68 (by decide) ?_
          exact xreti C (nI 0) (Or.inl ⟨0, by decide, hok_x, hy_y, rfl, rfl, by decide⟩) (xP_map hP [0] rfl) (hD.sub [0] (by decide +kernel) rfl) hS (Nat.le_of_ble_eq_true rfl) (Nat.le_of_ble_eq_true rfl) rfl dX12_set_115
        · -- k4 = 1
          replace hP : va_P D vwCl [(hm, .inr (12, [.ref ms, .ref mkp, .int (nI 0), .ref mtr, .int (nI 4), .int (nI 2), .int (nI 2), .int (nI 3), .int (nI 2), .int (nI 1), .ref mas, .int (nI 0), .int (nI 0), .int (nI 0), .ref mso, .ref mon, .ref mot, .ref man, .int (nI 0), .int (nI 0), .ref mst, .ref msm, .ref mtb, .ref mti, .ref mfr, .ref mbn, .ref mbs, .ref mde, .int (nI 0), .int (nI 0), .int (nI 0), .int (nI 0), .long 0, .long 0, .ref maa, .ref mab, .ref mba, .ref mbb])), (ms, .inl (cs 0, 288, .inl freshS))] H := hP
          replace hD : va_D A [(hm, .inr (12, [.ref ms, .ref mkp, .int (nI 0), .ref mtr, .int (nI 4), .int (nI 2), .int (nI 2), .int (nI 3), .int (nI 2), .int (nI 1), .ref mas, .int (nI 0), .int (nI 0), .int (nI 0), .ref mso, .ref mon, .ref mot, .ref man, .int (nI 0), .int (nI 0), .ref mst, .ref msm, .ref mtb, .ref mti, .ref mfr, .ref mbn, .ref mbs, .ref mde, .int (nI 0), .int (nI 0), .int (nI 0), .int (nI 0), .long 0, .long 0, .ref maa, .ref mab, .ref mba, .ref mbb])), (ms, .inl (cs 0, 288, .inl freshS))] := hD
          refine lv_iload_n hx hb dX12_set_54 rfl (lv_at hl 4 rfl) ?_
          refine lv_if_ne (tgt := 71) hx hb dX12_set_55 (by decide) (fun _ => ?_) (fun c => absurd c (by decide))
          refine lv_iload_n hx hb dX12_set_71 rfl (lv_at hl 4 rfl) ?_
          refine lv_iconst (v := nI 1) hx hb dX12_set_72 (by decide) ?_
          refine lv_icmp_ne (tgt := 90) hx hb dX12_set_73 (by decide) (fun c => absurd (by decide) c) (fun _ => ?_)
          refine lv_aload_n hx hb dX12_set_76 rfl (lv_at hl 1 rfl) ?_
          refine xget C hP 0 rfl rfl zuX12 0 (by decide) zw5_213 rfl dX12_set_77 ?_
          refine lv_sipush (v := nI 160) hx hb dX12_set_80 (by decide) ?_
          refine lv_iload hx hb dX12_set_83 (lv_at hl 0 rfl) ?_
          refine lv_iadd hx hb dX12_set_85 ?_
          refine lv_topi (nm_r (e' := nI (160 + ((8 * j4) + k8))) (nI_add _ _) ?_)
          refine xiald C hP 1 rfl (160 + ((8 * j4) + k8)) rfl (by omega) (by decide) dX12_set_86 ?_
          refine lv_topi (nm_r (e' := (-1)) (by unfold freshS; rw [if_neg (by omega), if_neg (by omega), if_pos (by omega)]) ?_)
          refine lv_goto (tgt := 115) hx hb dX12_set_87 (by decide) ?_
          exact xreti C (nI 0) (Or.inl ⟨1, by decide, hok_x, hy_y, rfl, rfl, by decide⟩) (xP_map hP [0] rfl) (hD.sub [0] (by decide +kernel) rfl) hS (Nat.le_of_ble_eq_true rfl) (Nat.le_of_ble_eq_true rfl) rfl dX12_set_115
        · -- k4 = 2
          replace hP : va_P D vwCl [(hm, .inr (12, [.ref ms, .ref mkp, .int (nI 0), .ref mtr, .int (nI 4), .int (nI 2), .int (nI 2), .int (nI 3), .int (nI 2), .int (nI 1), .ref mas, .int (nI 0), .int (nI 0), .int (nI 0), .ref mso, .ref mon, .ref mot, .ref man, .int (nI 0), .int (nI 0), .ref mst, .ref msm, .ref mtb, .ref mti, .ref mfr, .ref mbn, .ref mbs, .ref mde, .int (nI 0), .int (nI 0), .int (nI 0), .int (nI 0), .long 0, .long 0, .ref maa, .ref mab, .ref mba, .ref mbb])), (ms, .inl (cs 0, 288, .inl freshS))] H := hP
          replace hD : va_D A [(hm, .inr (12, [.ref ms, .ref mkp, .int (nI 0), .ref mtr, .int (nI 4), .int (nI 2), .int (nI 2), .int (nI 3), .int (nI 2), .int (nI 1), .ref mas, .int (nI 0), .int (nI 0), .int (nI 0), .ref mso, .ref mon, .ref mot, .ref man, .int (nI 0), .int (nI 0), .ref mst, .ref msm, .ref mtb, .ref mti, .ref mfr, .ref mbn, .ref mbs, .ref mde, .int (nI 0), .int (nI 0), .int (nI 0), .int (nI 0), .long 0, .long 0, .ref maa, .ref mab, .ref mba, .ref mbb])), (ms, .inl (cs 0, 288, .inl freshS))] := hD
          refine lv_iload_n hx hb dX12_set_54 rfl (lv_at hl 4 rfl) ?_
          refine lv_if_ne (tgt := 71) hx hb dX12_set_55 (by decide) (fun _ => ?_) (fun c => absurd c (by decide))
          refine lv_iload_n hx hb dX12_set_71 rfl (lv_at hl 4 rfl) ?_
          refine lv_iconst (v := nI 1) hx hb dX12_set_72 (by decide) ?_
          refine lv_icmp_ne (tgt := 90) hx hb dX12_set_73 (by decide) (fun _ => ?_) (fun c => absurd c (by decide))
          refine lv_iload_n hx hb dX12_set_90 rfl (lv_at hl 4 rfl) ?_
          refine lv_iconst (v := nI 2) hx hb dX12_set_91 (by decide) ?_
          refine lv_icmp_ne (tgt := 109) hx hb dX12_set_92 (by decide) (fun c => absurd (by decide) c) (fun _ => ?_)
          refine lv_aload_n hx hb dX12_set_95 rfl (lv_at hl 1 rfl) ?_
          refine xget C hP 0 rfl rfl zuX12 0 (by decide) zw5_213 rfl dX12_set_96 ?_
          refine lv_sipush (v := nI 224) hx hb dX12_set_99 (by decide) ?_
          refine lv_iload hx hb dX12_set_102 (lv_at hl 0 rfl) ?_
          refine lv_iadd hx hb dX12_set_104 ?_
          refine lv_topi (nm_r (e' := nI (224 + ((8 * j4) + k8))) (nI_add _ _) ?_)
          refine xiald C hP 1 rfl (224 + ((8 * j4) + k8)) rfl (by omega) (by decide) dX12_set_105 ?_
          refine lv_topi (nm_r (e' := nI 0) (by unfold freshS; rw [if_neg (by omega), if_neg (by omega), if_neg (by omega)]) ?_)
          refine lv_goto (tgt := 115) hx hb dX12_set_106 (by decide) ?_
          exact xreti C (nI 0) (Or.inl ⟨2, by decide, hok_x, hy_y, rfl, rfl, by decide⟩) (xP_map hP [0] rfl) (hD.sub [0] (by decide +kernel) rfl) hS (Nat.le_of_ble_eq_true rfl) (Nat.le_of_ble_eq_true rfl) rfl dX12_set_115
        · -- k4 = 3
          replace hP : va_P D vwCl [(hm, .inr (12, [.ref ms, .ref mkp, .int (nI 0), .ref mtr, .int (nI 4), .int (nI 2), .int (nI 2), .int (nI 3), .int (nI 2), .int (nI 1), .ref mas, .int (nI 0), .int (nI 0), .int (nI 0), .ref mso, .ref mon, .ref mot, .ref man, .int (nI 0), .int (nI 0), .ref mst, .ref msm, .ref mtb, .ref mti, .ref mfr, .ref mbn, .ref mbs, .ref mde, .int (nI 0), .int (nI 0), .int (nI 0), .int (nI 0), .long 0, .long 0, .ref maa, .ref mab, .ref mba, .ref mbb])), (ms, .inl (cs 0, 288, .inl freshS))] H := hP
          replace hD : va_D A [(hm, .inr (12, [.ref ms, .ref mkp, .int (nI 0), .ref mtr, .int (nI 4), .int (nI 2), .int (nI 2), .int (nI 3), .int (nI 2), .int (nI 1), .ref mas, .int (nI 0), .int (nI 0), .int (nI 0), .ref mso, .ref mon, .ref mot, .ref man, .int (nI 0), .int (nI 0), .ref mst, .ref msm, .ref mtb, .ref mti, .ref mfr, .ref mbn, .ref mbs, .ref mde, .int (nI 0), .int (nI 0), .int (nI 0), .int (nI 0), .long 0, .long 0, .ref maa, .ref mab, .ref mba, .ref mbb])), (ms, .inl (cs 0, 288, .inl freshS))] := hD
          refine lv_iload_n hx hb dX12_set_54 rfl (lv_at hl 4 rfl) ?_
          refine lv_if_ne (tgt := 71) hx hb dX12_set_55 (by decide) (fun _ => ?_) (fun c => absurd c (by decide))
          refine lv_iload_n hx hb dX12_set_71 rfl (lv_at hl 4 rfl) ?_
          refine lv_iconst (v := nI 1) hx hb dX12_set_72 (by decide) ?_
          refine lv_icmp_ne (tgt := 90) hx hb dX12_set_73 (by decide) (fun _ => ?_) (fun c => absurd c (by decide))
          refine lv_iload_n hx hb dX12_set_90 rfl (lv_at hl 4 rfl) ?_
          refine lv_iconst (v := nI 2) hx hb dX12_set_91 (by decide) ?_
          refine lv_icmp_ne (tgt := 109) hx hb dX12_set_92 (by decide) (fun _ => ?_) (fun c => absurd c (by decide))
          refine lv_aload_n hx hb dX12_set_109 rfl (lv_at hl 1 rfl) ?_
          refine lv_iload_n hx hb dX12_set_110 rfl (lv_at hl 2 rfl) ?_
          refine lv_iload_n hx hb dX12_set_111 rfl (lv_at hl 3 rfl) ?_
          refine xi (wr := [(ms, .inl (cs 0, 288, .inl freshS))]) (xV (As := [.int (nI j4), .int (nI k8)]) (rest := []) C (c_X12_acceptedOf_z l D cs hm ms mkp mtr mas mso mon mot man mst msm mtb mti mfr mbn mbs mde maa mab mba mbb (nI j4) (nI k8)) kX12_310 hP hD [0] rfl (by decide +kernel) 0 rfl rfl rfl ⟨Nat.le_of_ble_eq_true rfl, Nat.le_of_ble_eq_true rfl⟩ rfl hl.1 rfl (Nat.le_of_ble_eq_true rfl) dX12_set_112 ⟨Nat.le_of_ble_eq_true rfl, Nat.le_of_ble_eq_true rfl⟩) hP hD hS hA [0] [1] rfl rfl (by decide +kernel) (by decide +kernel) ?_
          clear hP hD hS
          try clear locs
          try clear H
          intro r_10 u_11 H locs hw_r_10 hP hD hS
          have hw_r_10 : r_10 = -1 := hw_r_10
          refine W.widen (k := 0) (n := 0) (Nat.le_of_ble_eq_true rfl) (Nat.le_of_ble_eq_true rfl) ?_
          replace hP : va_P D vwCl [(ms, .inl (cs 0, 288, .inl freshS)), (hm, .inr (12, [.ref ms, .ref mkp, .int (nI 0), .ref mtr, .int (nI 4), .int (nI 2), .int (nI 2), .int (nI 3), .int (nI 2), .int (nI 1), .ref mas, .int (nI 0), .int (nI 0), .int (nI 0), .ref mso, .ref mon, .ref mot, .ref man, .int (nI 0), .int (nI 0), .ref mst, .ref msm, .ref mtb, .ref mti, .ref mfr, .ref mbn, .ref mbs, .ref mde, .int (nI 0), .int (nI 0), .int (nI 0), .int (nI 0), .long 0, .long 0, .ref maa, .ref mab, .ref mba, .ref mbb]))] H := hP
          replace hD : va_D A [(ms, .inl (cs 0, 288, .inl freshS)), (hm, .inr (12, [.ref ms, .ref mkp, .int (nI 0), .ref mtr, .int (nI 4), .int (nI 2), .int (nI 2), .int (nI 3), .int (nI 2), .int (nI 1), .ref mas, .int (nI 0), .int (nI 0), .int (nI 0), .ref mso, .ref mon, .ref mot, .ref man, .int (nI 0), .int (nI 0), .ref mst, .ref msm, .ref mtb, .ref mti, .ref mfr, .ref mbn, .ref mbs, .ref mde, .int (nI 0), .int (nI 0), .int (nI 0), .int (nI 0), .long 0, .long 0, .ref maa, .ref mab, .ref mba, .ref mbb]))] := hD
          subst hw_r_10
          exact xreti C (nI 0) (Or.inl ⟨3, by decide, hok_x, hy_y, rfl, rfl, by decide⟩) (xP_map hP [1] rfl) (hD.sub [1] (by decide +kernel) rfl) hS (Nat.le_of_ble_eq_true rfl) (Nat.le_of_ble_eq_true rfl) rfl dX12_set_115

set_option maxHeartbeats 4000000 in
set_option maxRecDepth 100000 in
theorem c_X12_thrown_t (l : Launch) (D : va_G) (cs : Nat → ClassId) (hm ms mkp mtr mas mso mon mot man mst msm mtb mti mfr mbn mbs mde maa mab mba mbb : Nat) (tt : Int32) : xMet l D cs yX12_thrown cX12_thrown 1 (some .int) ({ frames := 0, cells := 0, slots := 0, locals := 0 } : Room) [.ref hm] [(hm, .inr (12, [.ref ms, .ref mkp, .int (nI 0), .ref mtr, .int (nI 4), .int (nI 2), .int (nI 2), .int (nI 3), .int (nI 2), .int (nI 1), .ref mas, .int (nI 0), .int (nI 0), .int (nI 0), .ref mso, .ref mon, .ref mot, .ref man, .int tt, .int (nI 0), .ref mst, .ref msm, .ref mtb, .ref mti, .ref mfr, .ref mbn, .ref mbs, .ref mde, .int (nI 0), .int (nI 0), .int (nI 0), .int (nI 0), .long 0, .long 0, .ref maa, .ref mab, .ref mba, .ref mbb]))] (xQi D (fun (r : Int32) (_u : Unit) => r = tt) (fun (_u : Unit) => [(hm, .inr (12, [.ref ms, .ref mkp, .int (nI 0), .ref mtr, .int (nI 4), .int (nI 2), .int (nI 2), .int (nI 3), .int (nI 2), .int (nI 1), .ref mas, .int (nI 0), .int (nI 0), .int (nI 0), .ref mso, .ref mon, .ref mot, .ref man, .int tt, .int (nI 0), .ref mst, .ref msm, .ref mtb, .ref mti, .ref mfr, .ref mbn, .ref mbs, .ref mde, .int (nI 0), .int (nI 0), .int (nI 0), .int (nI 0), .long 0, .long 0, .ref maa, .ref mab, .ref mba, .ref mbb]))])) := by
  refine xMet.intro (by decide) (Nat.le_of_ble_eq_true rfl) ?_
  intro p e s m args below meth c A ls C hP hD hS hl
  have hx := C.1
  have hb := C.2.1
  have hz := C.2.2.2.2.1
  have hown := C.2.2.2.1
  have hA := C.2.2.2.2.2.2.2.2.2
  have hAO := C.2.2.2.2.2.2.2.2.1.2.2
  replace hl : lv_has ls 1 [(0, .ref hm)] := hl
  obtain ⟨H, hH⟩ : ∃ H, H = s.heap := ⟨_, rfl⟩
  replace hP : va_P D vwCl [(hm, .inr (12, [.ref ms, .ref mkp, .int (nI 0), .ref mtr, .int (nI 4), .int (nI 2), .int (nI 2), .int (nI 3), .int (nI 2), .int (nI 1), .ref mas, .int (nI 0), .int (nI 0), .int (nI 0), .ref mso, .ref mon, .ref mot, .ref man, .int tt, .int (nI 0), .ref mst, .ref msm, .ref mtb, .ref mti, .ref mfr, .ref mbn, .ref mbs, .ref mde, .int (nI 0), .int (nI 0), .int (nI 0), .int (nI 0), .long 0, .long 0, .ref maa, .ref mab, .ref mba, .ref mbb]))] H := by rw [hH]; exact hP
  replace hS : va_S A s.heap H [] := by rw [hH]; exact hS
  obtain ⟨locs, hlocs⟩ : ∃ z : List Loc, z = [] := ⟨_, rfl⟩
  rw [← hlocs] at hS
  suffices hW : W p l e ({ frames := 0, cells := 0, slots := 0, locals := 0 } : Room) s m args below meth c H locs 0 0 (MQ below ((xQi D (fun (r : Int32) (_u : Unit) => r = tt) (fun (_u : Unit) => [(hm, .inr (12, [.ref ms, .ref mkp, .int (nI 0), .ref mtr, .int (nI 4), .int (nI 2), .int (nI 2), .int (nI 3), .int (nI 2), .int (nI 1), .ref mas, .int (nI 0), .int (nI 0), .int (nI 0), .ref mso, .ref mon, .ref mot, .ref man, .int tt, .int (nI 0), .ref mst, .ref msm, .ref mtb, .ref mti, .ref mfr, .ref mbn, .ref mbs, .ref mde, .int (nI 0), .int (nI 0), .int (nI 0), .int (nI 0), .long 0, .long 0, .ref maa, .ref mab, .ref mba, .ref mbb]))])) A) args s 0 0 A) (F0 m 0 ls []) by rw [hlocs, hH] at hW; exact hW
  clear hH hlocs
  refine lv_aload_n hx hb dX12_thrown_0 rfl (lv_at hl 0 rfl) ?_
  refine xget C hP 0 rfl rfl zuX12 18 (by decide) zw5_231 rfl dX12_thrown_1 ?_
  exact xreti C () rfl hP hD hS (Nat.le_of_ble_eq_true rfl) (Nat.le_of_ble_eq_true rfl) rfl dX12_thrown_4
