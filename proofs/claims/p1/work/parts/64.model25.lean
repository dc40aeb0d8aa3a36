set_option maxHeartbeats 4000000 in
set_option maxRecDepth 100000 in
theorem c_X12_drawSample_0 (l : Launch) (D : va_G) (cs : Nat → ClassId) (hm ms mkp mtr mas mso mon mot man mst msm mtb mti mfr mbn mbs mde maa mab mba mbb : Nat) (km xx : Int32) : xMet l D cs yX12_drawSample cX12_drawSample 7 (some .int) ({ frames := 2, cells := 0, slots := 0, locals := 44 } : Room) [.ref hm, .int (nI 0)] [(hm, .inr (12, [.ref ms, .ref mkp, .int km, .ref mtr, .int (nI 4), .int (nI 2), .int (nI 2), .int (nI 3), .int (nI 2), .int (nI 1), .ref mas, .int (nI 0), .int (nI 0), .int (nI 0), .ref mso, .ref mon, .ref mot, .ref man, .int (nI 0), .int xx, .ref mst, .ref msm, .ref mtb, .ref mti, .ref mfr, .ref mbn, .ref mbs, .ref mde, .int (nI 0), .int (nI 0), .int (nI 0), .int (nI 0), .long 0, .long 0, .ref maa, .ref mab, .ref mba, .ref mbb]))] (xQi D (fun (r : Int32) (x2 : Int32) => True) (fun (x2 : Int32) => [(hm, .inr (12, [.ref ms, .ref mkp, .int km, .ref mtr, .int (nI 4), .int (nI 2), .int (nI 2), .int (nI 3), .int (nI 2), .int (nI 1), .ref mas, .int (nI 0), .int (nI 0), .int (nI 0), .ref mso, .ref mon, .ref mot, .ref man, .int (nI 0), .int x2, .ref mst, .ref msm, .ref mtb, .ref mti, .ref mfr, .ref mbn, .ref mbs, .ref mde, .int (nI 0), .int (nI 0), .int (nI 0), .int (nI 0), .long 0, .long 0, .ref maa, .ref mab, .ref mba, .ref mbb]))])) := by
  refine xMet.intro (by decide) (Nat.le_of_ble_eq_true rfl) ?_
  intro p e s m args below meth c A ls C hP hD hS hl
  have hx := C.1
  have hb := C.2.1
  have hz := C.2.2.2.2.1
  have hown := C.2.2.2.1
  have hA := C.2.2.2.2.2.2.2.2.2
  have hAO := C.2.2.2.2.2.2.2.2.1.2.2
  replace hl : lv_has ls 7 [(0, .ref hm), (1, .int (nI 0))] := hl
  obtain ⟨H, hH⟩ : ∃ H, H = s.heap := ⟨_, rfl⟩
  replace hP : va_P D vwCl [(hm, .inr (12, [.ref ms, .ref mkp, .int km, .ref mtr, .int (nI 4), .int (nI 2), .int (nI 2), .int (nI 3), .int (nI 2), .int (nI 1), .ref mas, .int (nI 0), .int (nI 0), .int (nI 0), .ref mso, .ref mon, .ref mot, .ref man, .int (nI 0), .int xx, .ref mst, .ref msm, .ref mtb, .ref mti, .ref mfr, .ref mbn, .ref mbs, .ref mde, .int (nI 0), .int (nI 0), .int (nI 0), .int (nI 0), .long 0, .long 0, .ref maa, .ref mab, .ref mba, .ref mbb]))] H := by rw [hH]; exact hP
  replace hS : va_S A s.heap H [] := by rw [hH]; exact hS
  obtain ⟨locs, hlocs⟩ : ∃ z : List Loc, z = [] := ⟨_, rfl⟩
  rw [← hlocs] at hS
  suffices hW : W p l e ({ frames := 2, cells := 0, slots := 0, locals := 44 } : Room) s m args below meth c H locs 0 0 (MQ below ((xQi D (fun (r : Int32) (x2 : Int32) => True) (fun (x2 : Int32) => [(hm, .inr (12, [.ref ms, .ref mkp, .int km, .ref mtr, .int (nI 4), .int (nI 2), .int (nI 2), .int (nI 3), .int (nI 2), .int (nI 1), .ref mas, .int (nI 0), .int (nI 0), .int (nI 0), .ref mso, .ref mon, .ref mot, .ref man, .int (nI 0), .int x2, .ref mst, .ref msm, .ref mtb, .ref mti, .ref mfr, .ref mbn, .ref mbs, .ref mde, .int (nI 0), .int (nI 0), .int (nI 0), .int (nI 0), .long 0, .long 0, .ref maa, .ref mab, .ref mba, .ref mbb]))])) A) args s 0 0 A) (F0 m 0 ls []) by rw [hlocs, hH] at hW; exact hW
  clear hH hlocs
  refine lv_iconst (v := nI 1) hx hb dX12_drawSample_0 (by decide) ?_
  refine lv_aload_n hx hb dX12_drawSample_1 rfl (lv_at hl 0 rfl) ?_
  refine xget C hP 0 rfl rfl zuX12 4 (by decide) zw5_217 rfl dX12_drawSample_2 ?_
  refine lv_ishl hx hb dX12_drawSample_5 ?_
  refine lv_topi (nm_r (e' := nI 16) (by decide) ?_)
  refine lv_iconst (v := nI 1) hx hb dX12_drawSample_6 (by decide) ?_
  refine lv_isub hx hb dX12_drawSample_7 ?_
  refine lv_topi (nm_r (e' := nI 15) (by decide) ?_)
  refine lv_iconst (v := nI 1) hx hb dX12_drawSample_8 (by decide) ?_
  refine lv_iload_n hx hb dX12_drawSample_9 rfl (lv_at hl 1 rfl) ?_
  refine lv_ishl hx hb dX12_drawSample_10 ?_
  refine lv_topi (nm_r (e' := nI 1) (by decide) ?_)
  refine lv_iconst (v := (-1)) hx hb dX12_drawSample_11 (by decide) ?_
  refine lv_ixor hx hb dX12_drawSample_12 ?_
  refine lv_iand hx hb dX12_drawSample_13 ?_
  refine lv_topi (nm_r (e' := nI 14) (by decide) ?_)
  refine lv_istore_n (lv' := [(2, .int (nI 14)), (0, .ref hm), (1, .int (nI 0))]) hx hb dX12_drawSample_14 rfl hl (by decide) rfl ?_
  clear hl
  try clear ls
  intro ls hl
  refine lv_iconst (v := nI 0) hx hb dX12_drawSample_15 (by decide) ?_
  refine lv_istore_n (lv' := [(3, .int (nI 0)), (2, .int (nI 14)), (0, .ref hm), (1, .int (nI 0))]) hx hb dX12_drawSample_16 rfl hl (by decide) rfl ?_
  clear hl
  try clear ls
  intro ls hl
  refine lv_iconst (v := nI 0) hx hb dX12_drawSample_17 (by decide) ?_
  refine lv_istore (lv' := [(4, .int (nI 0)), (3, .int (nI 0)), (2, .int (nI 14)), (0, .ref hm), (1, .int (nI 0))]) hx hb dX12_drawSample_18 hl (by decide) rfl ?_
  clear hl
  try clear ls
  intro ls hl
  refine lv_iload hx hb dX12_drawSample_20 (lv_at hl 0 rfl) ?_
  refine lv_aload_n hx hb dX12_drawSample_22 rfl (lv_at hl 3 rfl) ?_
  refine xget C hP 0 rfl rfl zuX12 5 (by decide) zw5_218 rfl dX12_drawSample_23 ?_
  refine lv_icmp_ge (tgt := 69) hx hb dX12_drawSample_26 (by decide) (fun c => absurd c (by decide)) (fun _ => ?_)
  refine lv_aload_n hx hb dX12_drawSample_29 rfl (lv_at hl 3 rfl) ?_
  refine lv_iload_n hx hb dX12_drawSample_30 rfl (lv_at hl 2 rfl) ?_
  refine xi (wr := [(hm, .inr (12, [.ref ms, .ref mkp, .int km, .ref mtr, .int (nI 4), .int (nI 2), .int (nI 2), .int (nI 3), .int (nI 2), .int (nI 1), .ref mas, .int (nI 0), .int (nI 0), .int (nI 0), .ref mso, .ref mon, .ref mot, .ref man, .int (nI 0), .int xx, .ref mst, .ref msm, .ref mtb, .ref mti, .ref mfr, .ref mbn, .ref mbs, .ref mde, .int (nI 0), .int (nI 0), .int (nI 0), .int (nI 0), .long 0, .long 0, .ref maa, .ref mab, .ref mba, .ref mbb]))]) (xS (As := [.int (nI 14)]) (rest := [.ref hm]) C (c_X12_many_x l D cs (nI 14)) kX12_127 hP hD [] rfl (by decide +kernel) ⟨Nat.le_of_ble_eq_true rfl, Nat.le_of_ble_eq_true rfl⟩ rfl hl.1 rfl (Nat.le_of_ble_eq_true rfl) dX12_drawSample_31 ⟨Nat.le_of_ble_eq_true rfl, Nat.le_of_ble_eq_true rfl⟩) hP hD hS hA [] [0] rfl rfl (by decide +kernel) (by decide +kernel) ?_
  clear hP hD hS
  try clear locs
  try clear H
  intro r_1 u_2 H locs hw_r_1 hP hD hS
  have hw_r_1 : r_1 = mnC (nI 14) 16 := hw_r_1
  refine W.widen (k := 0) (n := 0) (Nat.le_of_ble_eq_true rfl) (Nat.le_of_ble_eq_true rfl) ?_
  replace hP : va_P D vwCl [(hm, .inr (12, [.ref ms, .ref mkp, .int km, .ref mtr, .int (nI 4), .int (nI 2), .int (nI 2), .int (nI 3), .int (nI 2), .int (nI 1), .ref mas, .int (nI 0), .int (nI 0), .int (nI 0), .ref mso, .ref mon, .ref mot, .ref man, .int (nI 0), .int xx, .ref mst, .ref msm, .ref mtb, .ref mti, .ref mfr, .ref mbn, .ref mbs, .ref mde, .int (nI 0), .int (nI 0), .int (nI 0), .int (nI 0), .long 0, .long 0, .ref maa, .ref mab, .ref mba, .ref mbb]))] H := hP
  replace hD : va_D A [(hm, .inr (12, [.ref ms, .ref mkp, .int km, .ref mtr, .int (nI 4), .int (nI 2), .int (nI 2), .int (nI 3), .int (nI 2), .int (nI 1), .ref mas, .int (nI 0), .int (nI 0), .int (nI 0), .ref mso, .ref mon, .ref mot, .ref man, .int (nI 0), .int xx, .ref mst, .ref msm, .ref mtb, .ref mti, .ref mfr, .ref mbn, .ref mbs, .ref mde, .int (nI 0), .int (nI 0), .int (nI 0), .int (nI 0), .long 0, .long 0, .ref maa, .ref mab, .ref mba, .ref mbb]))] := hD
  obtain rfl : r_1 = nI 3 := by rw [hw_r_1]; decide +kernel
  refine xi (wr := []) (xV (As := [.int (nI 3)]) (rest := []) C (c_X12_draw l D cs hm ms mkp mtr mas mso mon mot man mst msm mtb mti mfr mbn mbs mde maa mab mba mbb km xx 3 (by decide) (by decide)) kX12_156 hP hD [0] rfl (by decide +kernel) 0 rfl rfl rfl ⟨Nat.le_of_ble_eq_true rfl, Nat.le_of_ble_eq_true rfl⟩ rfl hl.1 rfl (Nat.le_of_ble_eq_true rfl) dX12_drawSample_34 ⟨Nat.le_of_ble_eq_true rfl, Nat.le_of_ble_eq_true rfl⟩) hP hD hS hA [0] [] rfl rfl (by decide +kernel) (by decide +kernel) ?_
  clear hP hD hS
  try clear locs
  try clear H
  intro r_3 u_4 H locs hw_r_3 hP hD hS
  have hw_r_3 : ∃ j, j < 3 ∧ r_3 = nI j := hw_r_3
  refine W.widen (k := 0) (n := 0) (Nat.le_of_ble_eq_true rfl) (Nat.le_of_ble_eq_true rfl) ?_
  replace hP : va_P D vwCl [(hm, .inr (12, [.ref ms, .ref mkp, .int km, .ref mtr, .int (nI 4), .int (nI 2), .int (nI 2), .int (nI 3), .int (nI 2), .int (nI 1), .ref mas, .int (nI 0), .int (nI 0), .int (nI 0), .ref mso, .ref mon, .ref mot, .ref man, .int (nI 0), .int u_4, .ref mst, .ref msm, .ref mtb, .ref mti, .ref mfr, .ref mbn, .ref mbs, .ref mde, .int (nI 0), .int (nI 0), .int (nI 0), .int (nI 0), .long 0, .long 0, .ref maa, .ref mab, .ref mba, .ref mbb]))] H := hP
  replace hD : va_D A [(hm, .inr (12, [.ref ms, .ref mkp, .int km, .ref mtr, .int (nI 4), .int (nI 2), .int (nI 2), .int (nI 3), .int (nI 2), .int (nI 1), .ref mas, .int (nI 0), .int (nI 0), .int (nI 0), .ref mso, .ref mon, .ref mot, .ref man, .int (nI 0), .int u_4, .ref mst, .ref msm, .ref mtb, .ref mti, .ref mfr, .ref mbn, .ref mbs, .ref mde, .int (nI 0), .int (nI 0), .int (nI 0), .int (nI 0), .long 0, .long 0, .ref maa, .ref mab, .ref mba, .ref mbb]))] := hD
  rcases (dr3 hw_r_3) with rfl | rfl | rfl
  · -- split
    replace hP : va_P D vwCl [(hm, .inr (12, [.ref ms, .ref mkp, .int km, .ref mtr, .int (nI 4), .int (nI 2), .int (nI 2), .int (nI 3), .int (nI 2), .int (nI 1), .ref mas, .int (nI 0), .int (nI 0), .int (nI 0), .ref mso, .ref mon, .ref mot, .ref man, .int (nI 0), .int u_4, .ref mst, .ref msm, .ref mtb, .ref mti, .ref mfr, .ref mbn, .ref mbs, .ref mde, .int (nI 0), .int (nI 0), .int (nI 0), .int (nI 0), .long 0, .long 0, .ref maa, .ref mab, .ref mba, .ref mbb]))] H := hP
    replace hD : va_D A [(hm, .inr (12, [.ref ms, .ref mkp, .int km, .ref mtr, .int (nI 4), .int (nI 2), .int (nI 2), .int (nI 3), .int (nI 2), .int (nI 1), .ref mas, .int (nI 0), .int (nI 0), .int (nI 0), .ref mso, .ref mon, .ref mot, .ref man, .int (nI 0), .int u_4, .ref mst, .ref msm, .ref mtb, .ref mti, .ref mfr, .ref mbn, .ref mbs, .ref mde, .int (nI 0), .int (nI 0), .int (nI 0), .int (nI 0), .long 0, .long 0, .ref maa, .ref mab, .ref mba, .ref mbb]))] := hD
    refine lv_istore (lv' := [(5, .int (nI 0)), (4, .int (nI 0)), (3, .int (nI 0)), (2, .int (nI 14)), (0, .ref hm), (1, .int (nI 0))]) hx hb dX12_drawSample_37 hl (by decide) rfl ?_
    clear hl
    try clear ls
    intro ls hl
    refine lv_iload_n hx hb dX12_drawSample_39 rfl (lv_at hl 3 rfl) ?_
    refine lv_iload hx hb dX12_drawSample_40 (lv_at hl 0 rfl) ?_
    refine xi (wr := [(hm, .inr (12, [.ref ms, .ref mkp, .int km, .ref mtr, .int (nI 4), .int (nI 2), .int (nI 2), .int (nI 3), .int (nI 2), .int (nI 1), .ref mas, .int (nI 0), .int (nI 0), .int (nI 0), .ref mso, .ref mon, .ref mot, .ref man, .int (nI 0), .int u_4, .ref mst, .ref msm, .ref mtb, .ref mti, .ref mfr, .ref mbn, .ref mbs, .ref mde, .int (nI 0), .int (nI 0), .int (nI 0), .int (nI 0), .long 0, .long 0, .ref maa, .ref mab, .ref mba, .ref mbb]))]) (xS (As := [.int (nI 14), .int (nI 0)]) (rest := []) C (c_X12_nth_14_0 l D cs 0) kX12_159 hP hD [] rfl (by decide +kernel) ⟨Nat.le_of_ble_eq_true rfl, Nat.le_of_ble_eq_true rfl⟩ rfl hl.1 rfl (Nat.le_of_ble_eq_true rfl) dX12_drawSample_42 ⟨Nat.le_of_ble_eq_true rfl, Nat.le_of_ble_eq_true rfl⟩) hP hD hS hA [] [0] rfl rfl (by decide +kernel) (by decide +kernel) ?_
    clear hP hD hS
    try clear locs
    try clear H
    intro r_5 u_6 H locs hw_r_5 hP hD hS
    have hw_r_5 : r_5 = nI 1 := hw_r_5
    refine W.widen (k := 0) (n := 0) (Nat.le_of_ble_eq_true rfl) (Nat.le_of_ble_eq_true rfl) ?_
    replace hP : va_P D vwCl [(hm, .inr (12, [.ref ms, .ref mkp, .int km, .ref mtr, .int (nI 4), .int (nI 2), .int (nI 2), .int (nI 3), .int (nI 2), .int (nI 1), .ref mas, .int (nI 0), .int (nI 0), .int (nI 0), .ref mso, .ref mon, .ref mot, .ref man, .int (nI 0), .int u_4, .ref mst, .ref msm, .ref mtb, .ref mti, .ref mfr, .ref mbn, .ref mbs, .ref mde, .int (nI 0), .int (nI 0), .int (nI 0), .int (nI 0), .long 0, .long 0, .ref maa, .ref mab, .ref mba, .ref mbb]))] H := hP
    replace hD : va_D A [(hm, .inr (12, [.ref ms, .ref mkp, .int km, .ref mtr, .int (nI 4), .int (nI 2), .int (nI 2), .int (nI 3), .int (nI 2), .int (nI 1), .ref mas, .int (nI 0), .int (nI 0), .int (nI 0), .ref mso, .ref mon, .ref mot, .ref man, .int (nI 0), .int u_4, .ref mst, .ref msm, .ref mtb, .ref mti, .ref mfr, .ref mbn, .ref mbs, .ref mde, .int (nI 0), .int (nI 0), .int (nI 0), .int (nI 0), .long 0, .long 0, .ref maa, .ref mab, .ref mba, .ref mbb]))] := hD
    subst hw_r_5
    refine lv_istore (lv' := [(6, .int (nI 1)), (5, .int (nI 0)), (4, .int (nI 0)), (3, .int (nI 0)), (2, .int (nI 14)), (0, .ref hm), (1, .int (nI 0))]) hx hb dX12_drawSample_45 hl (by decide) rfl ?_
    clear hl
    try clear ls
    intro ls hl
    refine lv_iload_n hx hb dX12_drawSample_47 rfl (lv_at hl 4 rfl) ?_
    refine lv_iconst (v := nI 1) hx hb dX12_drawSample_48 (by decide) ?_
    refine lv_iload hx hb dX12_drawSample_49 (lv_at hl 0 rfl) ?_
    refine lv_ishl hx hb dX12_drawSample_51 ?_
    refine lv_topi (nm_r (e' := nI 2) (by decide) ?_)
    refine lv_iconst (v := (-1)) hx hb dX12_drawSample_52 (by decide) ?_
    refine lv_ixor hx hb dX12_drawSample_53 ?_
    refine lv_iand hx hb dX12_drawSample_54 ?_
    refine lv_topi (nm_r (e' := nI 12) (by decide) ?_)
    refine lv_istore_n (lv' := [(2, .int (nI 12)), (6, .int (nI 1)), (5, .int (nI 0)), (4, .int (nI 0)), (3, .int (nI 0)), (0, .ref hm), (1, .int (nI 0))]) hx hb dX12_drawSample_55 rfl hl (by decide) rfl ?_
    clear hl
    try clear ls
    intro ls hl
    refine lv_iload_n hx hb dX12_drawSample_56 rfl (lv_at hl 4 rfl) ?_
    refine lv_iconst (v := nI 1) hx hb dX12_drawSample_57 (by decide) ?_
    refine lv_iload hx hb dX12_drawSample_58 (lv_at hl 1 rfl) ?_
    refine lv_ishl hx hb dX12_drawSample_60 ?_
    refine lv_topi (nm_r (e' := nI 2) (by decide) ?_)
    refine lv_ior hx hb dX12_drawSample_61 ?_
    refine lv_topi (nm_r (e' := nI 2) (by decide) ?_)
    refine lv_istore_n (lv' := [(3, .int (nI 2)), (2, .int (nI 12)), (6, .int (nI 1)), (5, .int (nI 0)), (4, .int (nI 0)), (0, .ref hm), (1, .int (nI 0))]) hx hb dX12_drawSample_62 rfl hl (by decide) rfl ?_
    clear hl
    try clear ls
    intro ls hl
    refine lv_iinc (v := nI 1) (lv' := [(4, .int (nI 1)), (3, .int (nI 2)), (2, .int (nI 12)), (6, .int (nI 1)), (5, .int (nI 0)), (0, .ref hm), (1, .int (nI 0))]) hx hb dX12_drawSample_63 hl (k := 4) rfl (by decide) (by decide) rfl ?_
    clear hl
    try clear ls
    intro ls hl
    refine lv_goto (tgt := 20) hx hb dX12_drawSample_66 (by decide) ?_
    refine lv_iload hx hb dX12_drawSample_20 (lv_at hl 0 rfl) ?_
    refine lv_aload_n hx hb dX12_drawSample_22 rfl (lv_at hl 5 rfl) ?_
    refine xget C hP 0 rfl rfl zuX12 5 (by decide) zw5_218 rfl dX12_drawSample_23 ?_
    refine lv_icmp_ge (tgt := 69) hx hb dX12_drawSample_26 (by decide) (fun c => absurd c (by decide)) (fun _ => ?_)
    refine lv_aload_n hx hb dX12_drawSample_29 rfl (lv_at hl 5 rfl) ?_
    refine lv_iload_n hx hb dX12_drawSample_30 rfl (lv_at hl 2 rfl) ?_
    refine xi (wr := [(hm, .inr (12, [.ref ms, .ref mkp, .int km, .ref mtr, .int (nI 4), .int (nI 2), .int (nI 2), .int (nI 3), .int (nI 2), .int (nI 1), .ref mas, .int (nI 0), .int (nI 0), .int (nI 0), .ref mso, .ref mon, .ref mot, .ref man, .int (nI 0), .int u_4, .ref mst, .ref msm, .ref mtb, .ref mti, .ref mfr, .ref mbn, .ref mbs, .ref mde, .int (nI 0), .int (nI 0), .int (nI 0), .int (nI 0), .long 0, .long 0, .ref maa, .ref mab, .ref mba, .ref mbb]))]) (xS (As := [.int (nI 12)]) (rest := [.ref hm]) C (c_X12_many_x l D cs (nI 12)) kX12_127 hP hD [] rfl (by decide +kernel) ⟨Nat.le_of_ble_eq_true rfl, Nat.le_of_ble_eq_true rfl⟩ rfl hl.1 rfl (Nat.le_of_ble_eq_true rfl) dX12_drawSample_31 ⟨Nat.le_of_ble_eq_true rfl, Nat.le_of_ble_eq_true rfl⟩) hP hD hS hA [] [0] rfl rfl (by decide +kernel) (by decide +kernel) ?_
    clear hP hD hS
    try clear locs
    try clear H
    intro r_7 u_8 H locs hw_r_7 hP hD hS
    have hw_r_7 : r_7 = mnC (nI 12) 16 := hw_r_7
    refine W.widen (k := 0) (n := 0) (Nat.le_of_ble_eq_true rfl) (Nat.le_of_ble_eq_true rfl) ?_
    replace hP : va_P D vwCl [(hm, .inr (12, [.ref ms, .ref mkp, .int km, .ref mtr, .int (nI 4), .int (nI 2), .int (nI 2), .int (nI 3), .int (nI 2), .int (nI 1), .ref mas, .int (nI 0), .int (nI 0), .int (nI 0), .ref mso, .ref mon, .ref mot, .ref man, .int (nI 0), .int u_4, .ref mst, .ref msm, .ref mtb, .ref mti, .ref mfr, .ref mbn, .ref mbs, .ref mde, .int (nI 0), .int (nI 0), .int (nI 0), .int (nI 0), .long 0, .long 0, .ref maa, .ref mab, .ref mba, .ref mbb]))] H := hP
    replace hD : va_D A [(hm, .inr (12, [.ref ms, .ref mkp, .int km, .ref mtr, .int (nI 4), .int (nI 2), .int (nI 2), .int (nI 3), .int (nI 2), .int (nI 1), .ref mas, .int (nI 0), .int (nI 0), .int (nI 0), .ref mso, .ref mon, .ref mot, .ref man, .int (nI 0), .int u_4, .ref mst, .ref msm, .ref mtb, .ref mti, .ref mfr, .ref mbn, .ref mbs, .ref mde, .int (nI 0), .int (nI 0), .int (nI 0), .int (nI 0), .long 0, .long 0, .ref maa, .ref mab, .ref mba, .ref mbb]))] := hD
    obtain rfl : r_7 = nI 2 := by rw [hw_r_7]; decide +kernel
    refine xi (wr := []) (xV (As := [.int (nI 2)]) (rest := []) C (c_X12_draw l D cs hm ms mkp mtr mas mso mon mot man mst msm mtb mti mfr mbn mbs mde maa mab mba mbb km u_4 2 (by decide) (by decide)) kX12_156 hP hD [0] rfl (by decide +kernel) 0 rfl rfl rfl ⟨Nat.le_of_ble_eq_true rfl, Nat.le_of_ble_eq_true rfl⟩ rfl hl.1 rfl (Nat.le_of_ble_eq_true rfl) dX12_drawSample_34 ⟨Nat.le_of_ble_eq_true rfl, Nat.le_of_ble_eq_true rfl⟩) hP hD hS hA [0] [] rfl rfl (by decide +kernel) (by decide +kernel) ?_
    clear hP hD hS
    try clear locs
    try clear H
    intro r_9 u_10 H locs hw_r_9 hP hD hS
    have hw_r_9 : ∃ j, j < 2 ∧ r_9 = nI j := hw_r_9
    refine W.widen (k := 0) (n := 0) (Nat.le_of_ble_eq_true rfl) (Nat.le_of_ble_eq_true rfl) ?_
    replace hP : va_P D vwCl [(hm, .inr (12, [.ref ms, .ref mkp, .int km, .ref mtr, .int (nI 4), .int (nI 2), .int (nI 2), .int (nI 3), .int (nI 2), .int (nI 1), .ref mas, .int (nI 0), .int (nI 0), .int (nI 0), .ref mso, .ref mon, .ref mot, .ref man, .int (nI 0), .int u_10, .ref mst, .ref msm, .ref mtb, .ref mti, .ref mfr, .ref mbn, .ref mbs, .ref mde, .int (nI 0), .int (nI 0), .int (nI 0), .int (nI 0), .long 0, .long 0, .ref maa, .ref mab, .ref mba, .ref mbb]))] H := hP
    replace hD : va_D A [(hm, .inr (12, [.ref ms, .ref mkp, .int km, .ref mtr, .int (nI 4), .int (nI 2), .int (nI 2), .int (nI 3), .int (nI 2), .int (nI 1), .ref mas, .int (nI 0), .int (nI 0), .int (nI 0), .ref mso, .ref mon, .ref mot, .ref man, .int (nI 0), .int u_10, .ref mst, .ref msm, .ref mtb, .ref mti, .ref mfr, .ref mbn, .ref mbs, .ref mde, .int (nI 0), .int (nI 0), .int (nI 0), .int (nI 0), .long 0, .long 0, .ref maa, .ref mab, .ref mba, .ref mbb]))] := hD
    rcases (dr2 hw_r_9) with rfl | rfl
    · -- split
      replace hP : va_P D vwCl [(hm, .inr (12, [.ref ms, .ref mkp, .int km, .ref mtr, .int (nI 4), .int (nI 2), .int (nI 2), .int (nI 3), .int (nI 2), .int (nI 1), .ref mas, .int (nI 0), .int (nI 0), .int (nI 0), .ref mso, .ref mon, .ref mot, .ref man, .int (nI 0), .int u_10, .ref mst, .ref msm, .ref mtb, .ref mti, .ref mfr, .ref mbn, .ref mbs, .ref mde, .int (nI 0), .int (nI 0), .int (nI 0), .int (nI 0), .long 0, .long 0, .ref maa, .ref mab, .ref mba, .ref mbb]))] H := hP
      replace hD : va_D A [(hm, .inr (12, [.ref ms, .ref mkp, .int km, .ref mtr, .int (nI 4), .int (nI 2), .int (nI 2), .int (nI 3), .int (nI 2), .int (nI 1), .ref mas, .int (nI 0), .int (nI 0), .int (nI 0), .ref mso, .ref mon, .ref mot, .ref man, .int (nI 0), .int u_10, .ref mst, .ref msm, .ref mtb, .ref mti, .ref mfr, .ref mbn, .ref mbs, .ref mde, .int (nI 0), .int (nI 0), .int (nI 0), .int (nI 0), .long 0, .long 0, .ref maa, .ref mab, .ref mba, .ref mbb]))] := hD
      refine lv_istore (lv' := [(5, .int (nI 0)), (4, .int (nI 1)), (3, .int (nI 2)), (2, .int (nI 12)), (6, .int (nI 1)), (0, .ref hm), (1, .int (nI 0))]) hx hb dX12_drawSample_37 hl (by decide) rfl ?_
      clear hl
      try clear ls
      intro ls hl
      refine lv_iload_n hx hb dX12_drawSample_39 rfl (lv_at hl 3 rfl) ?_
      refine lv_iload hx hb dX12_drawSample_40 (lv_at hl 0 rfl) ?_
      refine xi (wr := [(hm, .inr (12, [.ref ms, .ref mkp, .int km, .ref mtr, .int (nI 4), .int (nI 2), .int (nI 2), .int (nI 3), .int (nI 2), .int (nI 1), .ref mas, .int (nI 0), .int (nI 0), .int (nI 0), .ref mso, .ref mon, .ref mot, .ref man, .int (nI 0), .int u_10, .ref mst, .ref msm, .ref mtb, .ref mti, .ref mfr, .ref mbn, .ref mbs, .ref mde, .int (nI 0), .int (nI 0), .int (nI 0), .int (nI 0), .long 0, .long 0, .ref maa, .ref mab, .ref mba, .ref mbb]))]) (xS (As := [.int (nI 12), .int (nI 0)]) (rest := []) C (c_X12_nth_12_0 l D cs 0) kX12_159 hP hD [] rfl (by decide +kernel) ⟨Nat.le_of_ble_eq_true rfl, Nat.le_of_ble_eq_true rfl⟩ rfl hl.1 rfl (Nat.le_of_ble_eq_true rfl) dX12_drawSample_42 ⟨Nat.le_of_ble_eq_true rfl, Nat.le_of_ble_eq_true rfl⟩) hP hD hS hA [] [0] rfl rfl (by decide +kernel) (by decide +kernel) ?_
      clear hP hD hS
      try clear locs
      try clear H
      intro r_11 u_12 H locs hw_r_11 hP hD hS
      have hw_r_11 : r_11 = nI 2 := hw_r_11
      refine W.widen (k := 0) (n := 0) (Nat.le_of_ble_eq_true rfl) (Nat.le_of_ble_eq_true rfl) ?_
      replace hP : va_P D vwCl [(hm, .inr (12, [.ref ms, .ref mkp, .int km, .ref mtr, .int (nI 4), .int (nI 2), .int (nI 2), .int (nI 3), .int (nI 2), .int (nI 1), .ref mas, .int (nI 0), .int (nI 0), .int (nI 0), .ref mso, .ref mon, .ref mot, .ref man, .int (nI 0), .int u_10, .ref mst, .ref msm, .ref mtb, .ref mti, .ref mfr, .ref mbn, .ref mbs, .ref mde, .int (nI 0), .int (nI 0), .int (nI 0), .int (nI 0), .long 0, .long 0, .ref maa, .ref mab, .ref mba, .ref mbb]))] H := hP
      replace hD : va_D A [(hm, .inr (12, [.ref ms, .ref mkp, .int km, .ref mtr, .int (nI 4), .int (nI 2), .int (nI 2), .int (nI 3), .int (nI 2), .int (nI 1), .ref mas, .int (nI 0), .int (nI 0), .int (nI 0), .ref mso, .ref mon, .ref mot, .ref man, .int (nI 0), .int u_10, .ref mst, .ref msm, .ref mtb, .ref mti, .ref mfr, .ref mbn, .ref mbs, .ref mde, .int (nI 0), .int (nI 0), .int (nI 0), .int (nI 0), .long 0, .long 0, .ref maa, .ref mab, .ref mba, .ref mbb]))] := hD
      subst hw_r_11
      refine lv_istore (lv' := [(6, .int (nI 2)), (5, .int (nI 0)), (4, .int (nI 1)), (3, .int (nI 2)), (2, .int (nI 12)), (0, .ref hm), (1, .int (nI 0))]) hx hb dX12_drawSample_45 hl (by decide) rfl ?_
      clear hl
      try clear ls
      intro ls hl
      refine lv_iload_n hx hb dX12_drawSample_47 rfl (lv_at hl 4 rfl) ?_
      refine lv_iconst (v := nI 1) hx hb dX12_drawSample_48 (by decide) ?_
      refine lv_iload hx hb dX12_drawSample_49 (lv_at hl 0 rfl) ?_
      refine lv_ishl hx hb dX12_drawSample_51 ?_
      refine lv_topi (nm_r (e' := nI 4) (by decide) ?_)
      refine lv_iconst (v := (-1)) hx hb dX12_drawSample_52 (by decide) ?_
      refine lv_ixor hx hb dX12_drawSample_53 ?_
      refine lv_iand hx hb dX12_drawSample_54 ?_
      refine lv_topi (nm_r (e' := nI 8) (by decide) ?_)
      refine lv_istore_n (lv' := [(2, .int (nI 8)), (6, .int (nI 2)), (5, .int (nI 0)), (4, .int (nI 1)), (3, .int (nI 2)), (0, .ref hm), (1, .int (nI 0))]) hx hb dX12_drawSample_55 rfl hl (by decide) rfl ?_
      clear hl
      try clear ls
      intro ls hl
      refine lv_iload_n hx hb dX12_drawSample_56 rfl (lv_at hl 4 rfl) ?_
      refine lv_iconst (v := nI 1) hx hb dX12_drawSample_57 (by decide) ?_
      refine lv_iload hx hb dX12_drawSample_58 (lv_at hl 1 rfl) ?_
      refine lv_ishl hx hb dX12_drawSample_60 ?_
      refine lv_topi (nm_r (e' := nI 4) (by decide) ?_)
      refine lv_ior hx hb dX12_drawSample_61 ?_
      refine lv_topi (nm_r (e' := nI 6) (by decide) ?_)
      refine lv_istore_n (lv' := [(3, .int (nI 6)), (2, .int (nI 8)), (6, .int (nI 2)), (5, .int (nI 0)), (4, .int (nI 1)), (0, .ref hm), (1, .int (nI 0))]) hx hb dX12_drawSample_62 rfl hl (by decide) rfl ?_
      clear hl
      try clear ls
      intro ls hl
      refine lv_iinc (v := nI 2) (lv' := [(4, .int (nI 2)), (3, .int (nI 6)), (2, .int (nI 8)), (6, .int (nI 2)), (5, .int (nI 0)), (0, .ref hm), (1, .int (nI 0))]) hx hb dX12_drawSample_63 hl (k := 4) rfl (by decide) (by decide) rfl ?_
      clear hl
      try clear ls
      intro ls hl
      refine lv_goto (tgt := 20) hx hb dX12_drawSample_66 (by decide) ?_
      refine lv_iload hx hb dX12_drawSample_20 (lv_at hl 0 rfl) ?_
      refine lv_aload_n hx hb dX12_drawSample_22 rfl (lv_at hl 5 rfl) ?_
      refine xget C hP 0 rfl rfl zuX12 5 (by decide) zw5_218 rfl dX12_drawSample_23 ?_
      refine lv_icmp_ge (tgt := 69) hx hb dX12_drawSample_26 (by decide) (fun _ => ?_) (fun c => absurd (by decide) c)
      refine lv_iload_n hx hb dX12_drawSample_69 rfl (lv_at hl 1 rfl) ?_
      exact xreti C u_10 trivial hP hD hS (Nat.le_of_ble_eq_true rfl) (Nat.le_of_ble_eq_true rfl) rfl dX12_drawSample_70
    · -- split
      replace hP : va_P D vwCl [(hm, .inr (12, [.ref ms, .ref mkp, .int km, .ref mtr, .int (nI 4), .int (nI 2), .int (nI 2), .int (nI 3), .int (nI 2), .int (nI 1), .ref mas, .int (nI 0), .int (nI 0), .int (nI 0), .ref mso, .ref mon, .ref mot, .ref man, .int (nI 0), .int u_10, .ref mst, .ref msm, .ref mtb, .ref mti, .ref mfr, .ref mbn, .ref mbs, .ref mde, .int (nI 0), .int (nI 0), .int (nI 0), .int (nI 0), .long 0, .long 0, .ref maa, .ref mab, .ref mba, .ref mbb]))] H := hP
      replace hD : va_D A [(hm, .inr (12, [.ref ms, .ref mkp, .int km, .ref mtr, .int (nI 4), .int (nI 2), .int (nI 2), .int (nI 3), .int (nI 2), .int (nI 1), .ref mas, .int (nI 0), .int (nI 0), .int (nI 0), .ref mso, .ref mon, .ref mot, .ref man, .int (nI 0), .int u_10, .ref mst, .ref msm, .ref mtb, .ref mti, .ref mfr, .ref mbn, .ref mbs, .ref mde, .int (nI 0), .int (nI 0), .int (nI 0), .int (nI 0), .long 0, .long 0, .ref maa, .ref mab, .ref mba, .ref mbb]))] := hD
      refine lv_istore (lv' := [(5, .int (nI 1)), (4, .int (nI 1)), (3, .int (nI 2)), (2, .int (nI 12)), (6, .int (nI 1)), (0, .ref hm), (1, .int (nI 0))]) hx hb dX12_drawSample_37 hl (by decide) rfl ?_
      clear hl
      try clear ls
      intro ls hl
      refine lv_iload_n hx hb dX12_drawSample_39 rfl (lv_at hl 3 rfl) ?_
      refine lv_iload hx hb dX12_drawSample_40 (lv_at hl 0 rfl) ?_
      refine xi (wr := [(hm, .inr (12, [.ref ms, .ref mkp, .int km, .ref mtr, .int (nI 4), .int (nI 2), .int (nI 2), .int (nI 3), .int (nI 2), .int (nI 1), .ref mas, .int (nI 0), .int (nI 0), .int (nI 0), .ref mso, .ref mon, .ref mot, .ref man, .int (nI 0), .int u_10, .ref mst, .ref msm, .ref mtb, .ref mti, .ref mfr, .ref mbn, .ref mbs, .ref mde, .int (nI 0), .int (nI 0), .int (nI 0), .int (nI 0), .long 0, .long 0, .ref maa, .ref mab, .ref mba, .ref mbb]))]) (xS (As := [.int (nI 12), .int (nI 1)]) (rest := []) C (c_X12_nth_12_1 l D cs 0) kX12_159 hP hD [] rfl (by decide +kernel) ⟨Nat.le_of_ble_eq_true rfl, Nat.le_of_ble_eq_true rfl⟩ rfl hl.1 rfl (Nat.le_of_ble_eq_true rfl) dX12_drawSample_42 ⟨Nat.le_of_ble_eq_true rfl, Nat.le_of_ble_eq_true rfl⟩) hP hD hS hA [] [0] rfl rfl (by decide +kernel) (by decide +kernel) ?_
      clear hP hD hS
      try clear locs
      try clear H
      intro r_13 u_14 H locs hw_r_13 hP hD hS
      have hw_r_13 : r_13 = nI 3 := hw_r_13
      refine W.widen (k := 0) (n := 0) (Nat.le_of_ble_eq_true rfl) (Nat.le_of_ble_eq_true rfl) ?_
      replace hP : va_P D vwCl [(hm, .inr (12, [.ref ms, .ref mkp, .int km, .ref mtr, .int (nI 4), .int (nI 2), .int (nI 2), .int (nI 3), .int (nI 2), .int (nI 1), .ref mas, .int (nI 0), .int (nI 0), .int (nI 0), .ref mso, .ref mon, .ref mot, .ref man, .int (nI 0), .int u_10, .ref mst, .ref msm, .ref mtb, .ref mti, .ref mfr, .ref mbn, .ref mbs, .ref mde, .int (nI 0), .int (nI 0), .int (nI 0), .int (nI 0), .long 0, .long 0, .ref maa, .ref mab, .ref mba, .ref mbb]))] H := hP
      replace hD : va_D A [(hm, .inr (12, [.ref ms, .ref mkp, .int km, .ref mtr, .int (nI 4), .int (nI 2), .int (nI 2), .int (nI 3), .int (nI 2), .int (nI 1), .ref mas, .int (nI 0), .int (nI 0), .int (nI 0), .ref mso, .ref mon, .ref mot, .ref man, .int (nI 0), .int u_10, .ref mst, .ref msm, .ref mtb, .ref mti, .ref mfr, .ref mbn, .ref mbs, .ref mde, .int (nI 0), .int (nI 0), .int (nI 0), .int (nI 0), .long 0, .long 0, .ref maa, .ref mab, .ref mba, .ref mbb]))] := hD
      subst hw_r_13
      refine lv_istore (lv' := [(6, .int (nI 3)), (5, .int (nI 1)), (4, .int (nI 1)), (3, .int (nI 2)), (2, .int (nI 12)), (0, .ref hm), (1, .int (nI 0))]) hx hb dX12_drawSample_45 hl (by decide) rfl ?_
      clear hl
      try clear ls
      intro ls hl
      refine lv_iload_n hx hb dX12_drawSample_47 rfl (lv_at hl 4 rfl) ?_
      refine lv_iconst (v := nI 1) hx hb dX12_drawSample_48 (by decide) ?_
      refine lv_iload hx hb dX12_drawSample_49 (lv_at hl 0 rfl) ?_
      refine lv_ishl hx hb dX12_drawSample_51 ?_
      refine lv_topi (nm_r (e' := nI 8) (by decide) ?_)
      refine lv_iconst (v := (-1)) hx hb dX12_drawSample_52 (by decide) ?_
      refine lv_ixor hx hb dX12_drawSample_53 ?_
      refine lv_iand hx hb dX12_drawSample_54 ?_
      refine lv_topi (nm_r (e' := nI 4) (by decide) ?_)
      refine lv_istore_n (lv' := [(2, .int (nI 4)), (6, .int (nI 3)), (5, .int (nI 1)), (4, .int (nI 1)), (3, .int (nI 2)), (0, .ref hm), (1, .int (nI 0))]) hx hb dX12_drawSample_55 rfl hl (by decide) rfl ?_
      clear hl
      try clear ls
      intro ls hl
      refine lv_iload_n hx hb dX12_drawSample_56 rfl (lv_at hl 4 rfl) ?_
      refine lv_iconst (v := nI 1) hx hb dX12_drawSample_57 (by decide) ?_
      refine lv_iload hx hb dX12_drawSample_58 (lv_at hl 1 rfl) ?_
      refine lv_ishl hx hb dX12_drawSample_60 ?_
      refine lv_topi (nm_r (e' := nI 8) (by decide) ?_)
      refine lv_ior hx hb dX12_drawSample_61 ?_
      refine lv_topi (nm_r (e' := nI 10) (by decide) ?_)
      refine lv_istore_n (lv' := [(3, .int (nI 10)), (2, .int (nI 4)), (6, .int (nI 3)), (5, .int (nI 1)), (4, .int (nI 1)), (0, .ref hm), (1, .int (nI 0))]) hx hb dX12_drawSample_62 rfl hl (by decide) rfl ?_
      clear hl
      try clear ls
      intro ls hl
      refine lv_iinc (v := nI 2) (lv' := [(4, .int (nI 2)), (3, .int (nI 10)), (2, .int (nI 4)), (6, .int (nI 3)), (5, .int (nI 1)), (0, .ref hm), (1, .int (nI 0))]) hx hb dX12_drawSample_63 hl (k := 4) rfl (by decide) (by decide) rfl ?_
      clear hl
      try clear ls
      intro ls hl
      refine lv_goto (tgt := 20) hx hb dX12_drawSample_66 (by decide) ?_
      refine lv_iload hx hb dX12_drawSample_20 (lv_at hl 0 rfl) ?_
      refine lv_aload_n hx hb dX12_drawSample_22 rfl (lv_at hl 5 rfl) ?_
      refine xget C hP 0 rfl rfl zuX12 5 (by decide) zw5_218 rfl dX12_drawSample_23 ?_
      refine lv_icmp_ge (tgt := 69) hx hb dX12_drawSample_26 (by decide) (fun _ => ?_) (fun c => absurd (by decide) c)
      refine lv_iload_n hx hb dX12_drawSample_69 rfl (lv_at hl 1 rfl) ?_
      exact xreti C u_10 trivial hP hD hS (Nat.le_of_ble_eq_true rfl) (Nat.le_of_ble_eq_true rfl) rfl dX12_drawSample_70
  · -- split
    replace hP : va_P D vwCl [(hm, .inr (12, [.ref ms, .ref mkp, .int km, .ref mtr, .int (nI 4), .int (nI 2), .int (nI 2), .int (nI 3), .int (nI 2), .int (nI 1), .ref mas, .int (nI 0), .int (nI 0), .int (nI 0), .ref mso, .ref mon, .ref mot, .ref man, .int (nI 0), .int u_4, .ref mst, .ref msm, .ref mtb, .ref mti, .ref mfr, .ref mbn, .ref mbs, .ref mde, .int (nI 0), .int (nI 0), .int (nI 0), .int (nI 0), .long 0, .long 0, .ref maa, .ref mab, .ref mba, .ref mbb]))] H := hP
    replace hD : va_D A [(hm, .inr (12, [.ref ms, .ref mkp, .int km, .ref mtr, .int (nI 4), .int (nI 2), .int (nI 2), .int (nI 3), .int (nI 2), .int (nI 1), .ref mas, .int (nI 0), .int (nI 0), .int (nI 0), .ref mso, .ref mon, .ref mot, .ref man, .int (nI 0), .int u_4, .ref mst, .ref msm, .ref mtb, .ref mti, .ref mfr, .ref mbn, .ref mbs, .ref mde, .int (nI 0), .int (nI 0), .int (nI 0), .int (nI 0), .long 0, .long 0, .ref maa, .ref mab, .ref mba, .ref mbb]))] := hD
    refine lv_istore (lv' := [(5, .int (nI 1)), (4, .int (nI 0)), (3, .int (nI 0)), (2, .int (nI 14)), (0, .ref hm), (1, .int (nI 0))]) hx hb dX12_drawSample_37 hl (by decide) rfl ?_
    clear hl
    try clear ls
    intro ls hl
    refine lv_iload_n hx hb dX12_drawSample_39 rfl (lv_at hl 3 rfl) ?_
    refine lv_iload hx hb dX12_drawSample_40 (lv_at hl 0 rfl) ?_
    refine xi (wr := [(hm, .inr (12, [.ref ms, .ref mkp, .int km, .ref mtr, .int (nI 4), .int (nI 2), .int (nI 2), .int (nI 3), .int (nI 2), .int (nI 1), .ref mas, .int (nI 0), .int (nI 0), .int (nI 0), .ref mso, .ref mon, .ref mot, .ref man, .int (nI 0), .int u_4, .ref mst, .ref msm, .ref mtb, .ref mti, .ref mfr, .ref mbn, .ref mbs, .ref mde, .int (nI 0), .int (nI 0), .int (nI 0), .int (nI 0), .long 0, .long 0, .ref maa, .ref mab, .ref mba, .ref mbb]))]) (xS (As := [.int (nI 14), .int (nI 1)]) (rest := []) C (c_X12_nth_14_1 l D cs 0) kX12_159 hP hD [] rfl (by decide +kernel) ⟨Nat.le_of_ble_eq_true rfl, Nat.le_of_ble_eq_true rfl⟩ rfl hl.1 rfl (Nat.le_of_ble_eq_true rfl) dX12_drawSample_42 ⟨Nat.le_of_ble_eq_true rfl, Nat.le_of_ble_eq_true rfl⟩) hP hD hS hA [] [0] rfl rfl (by decide +kernel) (by decide +kernel) ?_
    clear hP hD hS
    try clear locs
    try clear H
    intro r_15 u_16 H locs hw_r_15 hP hD hS
    have hw_r_15 : r_15 = nI 2 := hw_r_15
    refine W.widen (k := 0) (n := 0) (Nat.le_of_ble_eq_true rfl) (Nat.le_of_ble_eq_true rfl) ?_
    replace hP : va_P D vwCl [(hm, .inr (12, [.ref ms, .ref mkp, .int km, .ref mtr, .int (nI 4), .int (nI 2), .int (nI 2), .int (nI 3), .int (nI 2), .int (nI 1), .ref mas, .int (nI 0), .int (nI 0), .int (nI 0), .ref mso, .ref mon, .ref mot, .ref man, .int (nI 0), .int u_4, .ref mst, .ref msm, .ref mtb, .ref mti, .ref mfr, .ref mbn, .ref mbs, .ref mde, .int (nI 0), .int (nI 0), .int (nI 0), .int (nI 0), .long 0, .long 0, .ref maa, .ref mab, .ref mba, .ref mbb]))] H := hP
    replace hD : va_D A [(hm, .inr (12, [.ref ms, .ref mkp, .int km, .ref mtr, .int (nI 4), .int (nI 2), .int (nI 2), .int (nI 3), .int (nI 2), .int (nI 1), .ref mas, .int (nI 0), .int (nI 0), .int (nI 0), .ref mso, .ref mon, .ref mot, .ref man, .int (nI 0), .int u_4, .ref mst, .ref msm, .ref mtb, .ref mti, .ref mfr, .ref mbn, .ref mbs, .ref mde, .int (nI 0), .int (nI 0), .int (nI 0), .int (nI 0), .long 0, .long 0, .ref maa, .ref mab, .ref mba, .ref mbb]))] := hD
    subst hw_r_15
    refine lv_istore (lv' := [(6, .int (nI 2)), (5, .int (nI 1)), (4, .int (nI 0)), (3, .int (nI 0)), (2, .int (nI 14)), (0, .ref hm), (1, .int (nI 0))]) hx hb dX12_drawSample_45 hl (by decide) rfl ?_
    clear hl
    try clear ls
    intro ls hl
    refine lv_iload_n hx hb dX12_drawSample_47 rfl (lv_at hl 4 rfl) ?_
    refine lv_iconst (v := nI 1) hx hb dX12_drawSample_48 (by decide) ?_
    refine lv_iload hx hb dX12_drawSample_49 (lv_at hl 0 rfl) ?_
    refine lv_ishl hx hb dX12_drawSample_51 ?_
    refine lv_topi (nm_r (e' := nI 4) (by decide) ?_)
    refine lv_iconst (v := (-1)) hx hb dX12_drawSample_52 (by decide) ?_
    refine lv_ixor hx hb dX12_drawSample_53 ?_
    refine lv_iand hx hb dX12_drawSample_54 ?_
    refine lv_topi (nm_r (e' := nI 10) (by decide) ?_)
    refine lv_istore_n (lv' := [(2, .int (nI 10)), (6, .int (nI 2)), (5, .int (nI 1)), (4, .int (nI 0)), (3, .int (nI 0)), (0, .ref hm), (1, .int (nI 0))]) hx hb dX12_drawSample_55 rfl hl (by decide) rfl ?_
    clear hl
    try clear ls
    intro ls hl
    refine lv_iload_n hx hb dX12_drawSample_56 rfl (lv_at hl 4 rfl) ?_
    refine lv_iconst (v := nI 1) hx hb dX12_drawSample_57 (by decide) ?_
    refine lv_iload hx hb dX12_drawSample_58 (lv_at hl 1 rfl) ?_
    refine lv_ishl hx hb dX12_drawSample_60 ?_
    refine lv_topi (nm_r (e' := nI 4) (by decide) ?_)
    refine lv_ior hx hb dX12_drawSample_61 ?_
    refine lv_topi (nm_r (e' := nI 4) (by decide) ?_)
    refine lv_istore_n (lv' := [(3, .int (nI 4)), (2, .int (nI 10)), (6, .int (nI 2)), (5, .int (nI 1)), (4, .int (nI 0)), (0, .ref hm), (1, .int (nI 0))]) hx hb dX12_drawSample_62 rfl hl (by decide) rfl ?_
    clear hl
    try clear ls
    intro ls hl
    refine lv_iinc (v := nI 1) (lv' := [(4, .int (nI 1)), (3, .int (nI 4)), (2, .int (nI 10)), (6, .int (nI 2)), (5, .int (nI 1)), (0, .ref hm), (1, .int (nI 0))]) hx hb dX12_drawSample_63 hl (k := 4) rfl (by decide) (by decide) rfl ?_
    clear hl
    try clear ls
    intro ls hl
    refine lv_goto (tgt := 20) hx hb dX12_drawSample_66 (by decide) ?_
    refine lv_iload hx hb dX12_drawSample_20 (lv_at hl 0 rfl) ?_
    refine lv_aload_n hx hb dX12_drawSample_22 rfl (lv_at hl 5 rfl) ?_
    refine xget C hP 0 rfl rfl zuX12 5 (by decide) zw5_218 rfl dX12_drawSample_23 ?_
    refine lv_icmp_ge (tgt := 69) hx hb dX12_drawSample_26 (by decide) (fun c => absurd c (by decide)) (fun _ => ?_)
    refine lv_aload_n hx hb dX12_drawSample_29 rfl (lv_at hl 5 rfl) ?_
    refine lv_iload_n hx hb dX12_drawSample_30 rfl (lv_at hl 2 rfl) ?_
    refine xi (wr := [(hm, .inr (12, [.ref ms, .ref mkp, .int km, .ref mtr, .int (nI 4), .int (nI 2), .int (nI 2), .int (nI 3), .int (nI 2), .int (nI 1), .ref mas, .int (nI 0), .int (nI 0), .int (nI 0), .ref mso, .ref mon, .ref mot, .ref man, .int (nI 0), .int u_4, .ref mst, .ref msm, .ref mtb, .ref mti, .ref mfr, .ref mbn, .ref mbs, .ref mde, .int (nI 0), .int (nI 0), .int (nI 0), .int (nI 0), .long 0, .long 0, .ref maa, .ref mab, .ref mba, .ref mbb]))]) (xS (As := [.int (nI 10)]) (rest := [.ref hm]) C (c_X12_many_x l D cs (nI 10)) kX12_127 hP hD [] rfl (by decide +kernel) ⟨Nat.le_of_ble_eq_true rfl, Nat.le_of_ble_eq_true rfl⟩ rfl hl.1 rfl (Nat.le_of_ble_eq_true rfl) dX12_drawSample_31 ⟨Nat.le_of_ble_eq_true rfl, Nat.le_of_ble_eq_true rfl⟩) hP hD hS hA [] [0] rfl rfl (by decide +kernel) (by decide +kernel) ?_
    clear hP hD hS
    try clear locs
    try clear H
    intro r_17 u_18 H locs hw_r_17 hP hD hS
    have hw_r_17 : r_17 = mnC (nI 10) 16 := hw_r_17
    refine W.widen (k := 0) (n := 0) (Nat.le_of_ble_eq_true rfl) (Nat.le_of_ble_eq_true rfl) ?_
    replace hP : va_P D vwCl [(hm, .inr (12, [.ref ms, .ref mkp, .int km, .ref mtr, .int (nI 4), .int (nI 2), .int (nI 2), .int (nI 3), .int (nI 2), .int (nI 1), .ref mas, .int (nI 0), .int (nI 0), .int (nI 0), .ref mso, .ref mon, .ref mot, .ref man, .int (nI 0), .int u_4, .ref mst, .ref msm, .ref mtb, .ref mti, .ref mfr, .ref mbn, .ref mbs, .ref mde, .int (nI 0), .int (nI 0), .int (nI 0), .int (nI 0), .long 0, .long 0, .ref maa, .ref mab, .ref mba, .ref mbb]))] H := hP
    replace hD : va_D A [(hm, .inr (12, [.ref ms, .ref mkp, .int km, .ref mtr, .int (nI 4), .int (nI 2), .int (nI 2), .int (nI 3), .int (nI 2), .int (nI 1), .ref mas, .int (nI 0), .int (nI 0), .int (nI 0), .ref mso, .ref mon, .ref mot, .ref man, .int (nI 0), .int u_4, .ref mst, .ref msm, .ref mtb, .ref mti, .ref mfr, .ref mbn, .ref mbs, .ref mde, .int (nI 0), .int (nI 0), .int (nI 0), .int (nI 0), .long 0, .long 0, .ref maa, .ref mab, .ref mba, .ref mbb]))] := hD
    obtain rfl : r_17 = nI 2 := by rw [hw_r_17]; decide +kernel
    refine xi (wr := []) (xV (As := [.int (nI 2)]) (rest := []) C (c_X12_draw l D cs hm ms mkp mtr mas mso mon mot man mst msm mtb mti mfr mbn mbs mde maa mab mba mbb km u_4 2 (by decide) (by decide)) kX12_156 hP hD [0] rfl (by decide +kernel) 0 rfl rfl rfl ⟨Nat.le_of_ble_eq_true rfl, Nat.le_of_ble_eq_true rfl⟩ rfl hl.1 rfl (Nat.le_of_ble_eq_true rfl) dX12_drawSample_34 ⟨Nat.le_of_ble_eq_true rfl, Nat.le_of_ble_eq_true rfl⟩) hP hD hS hA [0] [] rfl rfl (by decide +kernel) (by decide +kernel) ?_
    clear hP hD hS
    try clear locs
    try clear H
    intro r_19 u_20 H locs hw_r_19 hP hD hS
    have hw_r_19 : ∃ j, j < 2 ∧ r_19 = nI j := hw_r_19
    refine W.widen (k := 0) (n := 0) (Nat.le_of_ble_eq_true rfl) (Nat.le_of_ble_eq_true rfl) ?_
    replace hP : va_P D vwCl [(hm, .inr (12, [.ref ms, .ref mkp, .int km, .ref mtr, .int (nI 4), .int (nI 2), .int (nI 2), .int (nI 3), .int (nI 2), .int (nI 1), .ref mas, .int (nI 0), .int (nI 0), .int (nI 0), .ref mso, .ref mon, .ref mot, .ref man, .int (nI 0), .int u_20, .ref mst, .ref msm, .ref mtb, .ref mti, .ref mfr, .ref mbn, .ref mbs, .ref mde, .int (nI 0), .int (nI 0), .int (nI 0), .int (nI 0), .long 0, .long 0, .ref maa, .ref mab, .ref mba, .ref mbb]))] H := hP
    replace hD : va_D A [(hm, .inr (12, [.ref ms, .ref mkp, .int km, .ref mtr, .int (nI 4), .int (nI 2), .int (nI 2), .int (nI 3), .int (nI 2), .int (nI 1), .ref mas, .int (nI 0), .int (nI 0), .int (nI 0), .ref mso, .ref mon, .ref mot, .ref man, .int (nI 0), .int u_20, .ref mst, .ref msm, .ref mtb, .ref mti, .ref mfr, .ref mbn, .ref mbs, .ref mde, .int (nI 0), .int (nI 0), .int (nI 0), .int (nI 0), .long 0, .long 0, .ref maa, .ref mab, .ref mba, .ref mbb]))] := hD
    rcases (dr2 hw_r_19) with rfl | rfl
    · -- split
      replace hP : va_P D vwCl [(hm, .inr (12, [.ref ms, .ref mkp, .int km, .ref mtr, .int (nI 4), .int (nI 2), .int (nI 2), .int (nI 3), .int (nI 2), .int (nI 1), .ref mas, .int (nI 0), .int (nI 0), .int (nI 0), .ref mso, .ref mon, .ref mot, .ref man, .int (nI 0), .int u_20, .ref mst, .ref msm, .ref mtb, .ref mti, .ref mfr, .ref mbn, .ref mbs, .ref mde, .int (nI 0), .int (nI 0), .int (nI 0), .int (nI 0), .long 0, .long 0, .ref maa, .ref mab, .ref mba, .ref mbb]))] H := hP
      replace hD : va_D A [(hm, .inr (12, [.ref ms, .ref mkp, .int km, .ref mtr, .int (nI 4), .int (nI 2), .int (nI 2), .int (nI 3), .int (nI 2), .int (nI 1), .ref mas, .int (nI 0), .int (nI 0), .int (nI 0), .ref mso, .ref mon, .ref mot, .ref man, .int (nI 0), .int u_20, .ref mst, .ref msm, .ref mtb, .ref mti, .ref mfr, .ref mbn, .ref mbs, .ref mde, .int (nI 0), .int (nI 0), .int (nI 0), .int (nI 0), .long 0, .long 0, .ref maa, .ref mab, .ref mba, .ref mbb]))] := hD
      refine lv_istore (lv' := [(5, .int (nI 0)), (4, .int (nI 1)), (3, .int (nI 4)), (2, .int (nI 10)), (6, .int (nI 2)), (0, .ref hm), (1, .int (nI 0))]) hx hb dX12_drawSample_37 hl (by decide) rfl ?_
      clear hl
      try clear ls
      intro ls hl
      refine lv_iload_n hx hb dX12_drawSample_39 rfl (lv_at hl 3 rfl) ?_
      refine lv_iload hx hb dX12_drawSample_40 (lv_at hl 0 rfl) ?_
      refine xi (wr := [(hm, .inr (12, [.ref ms, .ref mkp, .int km, .ref mtr, .int (nI 4), .int (nI 2), .int (nI 2), .int (nI 3), .int (nI 2), .int (nI 1), .ref mas, .int (nI 0), .int (nI 0), .int (nI 0), .ref mso, .ref mon, .ref mot, .ref man, .int (nI 0), .int u_20, .ref mst, .ref msm, .ref mtb, .ref mti, .ref mfr, .ref mbn, .ref mbs, .ref mde, .int (nI 0), .int (nI 0), .int (nI 0), .int (nI 0), .long 0, .long 0, .ref maa, .ref mab, .ref mba, .ref mbb]))]) (xS (As := [.int (nI 10), .int (nI 0)]) (rest := []) C (c_X12_nth_10_0 l D cs 0) kX12_159 hP hD [] rfl (by decide +kernel) ⟨Nat.le_of_ble_eq_true rfl, Nat.le_of_ble_eq_true rfl⟩ rfl hl.1 rfl (Nat.le_of_ble_eq_true rfl) dX12_drawSample_42 ⟨Nat.le_of_ble_eq_true rfl, Nat.le_of_ble_eq_true rfl⟩) hP hD hS hA [] [0] rfl rfl (by decide +kernel) (by decide +kernel) ?_
      clear hP hD hS
      try clear locs
      try clear H
      intro r_21 u_22 H locs hw_r_21 hP hD hS
      have hw_r_21 : r_21 = nI 1 := hw_r_21
      refine W.widen (k := 0) (n := 0) (Nat.le_of_ble_eq_true rfl) (Nat.le_of_ble_eq_true rfl) ?_
      replace hP : va_P D vwCl [(hm, .inr (12, [.ref ms, .ref mkp, .int km, .ref mtr, .int (nI 4), .int (nI 2), .int (nI 2), .int (nI 3), .int (nI 2), .int (nI 1), .ref mas, .int (nI 0), .int (nI 0), .int (nI 0), .ref mso, .ref mon, .ref mot, .ref man, .int (nI 0), .int u_20, .ref mst, .ref msm, .ref mtb, .ref mti, .ref mfr, .ref mbn, .ref mbs, .ref mde, .int (nI 0), .int (nI 0), .int (nI 0), .int (nI 0), .long 0, .long 0, .ref maa, .ref mab, .ref mba, .ref mbb]))] H := hP
      replace hD : va_D A [(hm, .inr (12, [.ref ms, .ref mkp, .int km, .ref mtr, .int (nI 4), .int (nI 2), .int (nI 2), .int (nI 3), .int (nI 2), .int (nI 1), .ref mas, .int (nI 0), .int (nI 0), .int (nI 0), .ref mso, .ref mon, .ref mot, .ref man, .int (nI 0), .int u_20, .ref mst, .ref msm, .ref mtb, .ref mti, .ref mfr, .ref mbn, .ref mbs, .ref mde, .int (nI 0), .int (nI 0), .int (nI 0), .int (nI 0), .long 0, .long 0, .ref maa, .ref mab, .ref mba, .ref mbb]))] := hD
      subst hw_r_21
      refine lv_istore (lv' := [(6, .int (nI 1)), (5, .int (nI 0)), (4, .int (nI 1)), (3, .int (nI 4)), (2, .int (nI 10)), (0, .ref hm), (1, .int (nI 0))]) hx hb dX12_drawSample_45 hl (by decide) rfl ?_
      clear hl
      try clear ls
      intro ls hl
      refine lv_iload_n hx hb dX12_drawSample_47 rfl (lv_at hl 4 rfl) ?_
      refine lv_iconst (v := nI 1) hx hb dX12_drawSample_48 (by decide) ?_
      refine lv_iload hx hb dX12_drawSample_49 (lv_at hl 0 rfl) ?_
      refine lv_ishl hx hb dX12_drawSample_51 ?_
      refine lv_topi (nm_r (e' := nI 2) (by decide) ?_)
      refine lv_iconst (v := (-1)) hx hb dX12_drawSample_52 (by decide) ?_
      refine lv_ixor hx hb dX12_drawSample_53 ?_
      refine lv_iand hx hb dX12_drawSample_54 ?_
      refine lv_topi (nm_r (e' := nI 8) (by decide) ?_)
      refine lv_istore_n (lv' := [(2, .int (nI 8)), (6, .int (nI 1)), (5, .int (nI 0)), (4, .int (nI 1)), (3, .int (nI 4)), (0, .ref hm), (1, .int (nI 0))]) hx hb dX12_drawSample_55 rfl hl (by decide) rfl ?_
      clear hl
      try clear ls
      intro ls hl
      refine lv_iload_n hx hb dX12_drawSample_56 rfl (lv_at hl 4 rfl) ?_
      refine lv_iconst (v := nI 1) hx hb dX12_drawSample_57 (by decide) ?_
      refine lv_iload hx hb dX12_drawSample_58 (lv_at hl 1 rfl) ?_
      refine lv_ishl hx hb dX12_drawSample_60 ?_
      refine lv_topi (nm_r (e' := nI 2) (by decide) ?_)
      refine lv_ior hx hb dX12_drawSample_61 ?_
      refine lv_topi (nm_r (e' := nI 6) (by decide) ?_)
      refine lv_istore_n (lv' := [(3, .int (nI 6)), (2, .int (nI 8)), (6, .int (nI 1)), (5, .int (nI 0)), (4, .int (nI 1)), (0, .ref hm), (1, .int (nI 0))]) hx hb dX12_drawSample_62 rfl hl (by decide) rfl ?_
      clear hl
      try clear ls
      intro ls hl
      refine lv_iinc (v := nI 2) (lv' := [(4, .int (nI 2)), (3, .int (nI 6)), (2, .int (nI 8)), (6, .int (nI 1)), (5, .int (nI 0)), (0, .ref hm), (1, .int (nI 0))]) hx hb dX12_drawSample_63 hl (k := 4) rfl (by decide) (by decide) rfl ?_
      clear hl
      try clear ls
      intro ls hl
      refine lv_goto (tgt := 20) hx hb dX12_drawSample_66 (by decide) ?_
      refine lv_iload hx hb dX12_drawSample_20 (lv_at hl 0 rfl) ?_
      refine lv_aload_n hx hb dX12_drawSample_22 rfl (lv_at hl 5 rfl) ?_
      refine xget C hP 0 rfl rfl zuX12 5 (by decide) zw5_218 rfl dX12_drawSample_23 ?_
      refine lv_icmp_ge (tgt := 69) hx hb dX12_drawSample_26 (by decide) (fun _ => ?_) (fun c => absurd (by decide) c)
      refine lv_iload_n hx hb dX12_drawSample_69 rfl (lv_at hl 1 rfl) ?_
      exact xreti C u_20 trivial hP hD hS (Nat.le_of_ble_eq_true rfl) (Nat.le_of_ble_eq_true rfl) rfl dX12_drawSample_70
    · -- split
      replace hP : va_P D vwCl [(hm, .inr (12, [.ref ms, .ref mkp, .int km, .ref mtr, .int (nI 4), .int (nI 2), .int (nI 2), .int (nI 3), .int (nI 2), .int (nI 1), .ref mas, .int (nI 0), .int (nI 0), .int (nI 0), .ref mso, .ref mon, .ref mot, .ref man, .int (nI 0), .int u_20, .ref mst, .ref msm, .ref mtb, .ref mti, .ref mfr, .ref mbn, .ref mbs, .ref mde, .int (nI 0), .int (nI 0), .int (nI 0), .int (nI 0), .long 0, .long 0, .ref maa, .ref mab, .ref mba, .ref mbb]))] H := hP
      replace hD : va_D A [(hm, .inr (12, [.ref ms, .ref mkp, .int km, .ref mtr, .int (nI 4), .int (nI 2), .int (nI 2), .int (nI 3), .int (nI 2), .int (nI 1), .ref mas, .int (nI 0), .int (nI 0), .int (nI 0), .ref mso, .ref mon, .ref mot, .ref man, .int (nI 0), .int u_20, .ref mst, .ref msm, .ref mtb, .ref mti, .ref mfr, .ref mbn, .ref mbs, .ref mde, .int (nI 0), .int (nI 0), .int (nI 0), .int (nI 0), .long 0, .long 0, .ref maa, .ref mab, .ref mba, .ref mbb]))] := hD
      refine lv_istore (lv' := [(5, .int (nI 1)), (4, .int (nI 1)), (3, .int (nI 4)), (2, .int (nI 10)), (6, .int (nI 2)), (0, .ref hm), (1, .int (nI 0))]) hx hb dX12_drawSample_37 hl (by decide) rfl ?_
      clear hl
      try clear ls
      intro ls hl
      refine lv_iload_n hx hb dX12_drawSample_39 rfl (lv_at hl 3 rfl) ?_
      refine lv_iload hx hb dX12_drawSample_40 (lv_at hl 0 rfl) ?_
      refine xi (wr := [(hm, .inr (12, [.ref ms, .ref mkp, .int km, .ref mtr, .int (nI 4), .int (nI 2), .int (nI 2), .int (nI 3), .int (nI 2), .int (nI 1), .ref mas, .int (nI 0), .int (nI 0), .int (nI 0), .ref mso, .ref mon, .ref mot, .ref man, .int (nI 0), .int u_20, .ref mst, .ref msm, .ref mtb, .ref mti, .ref mfr, .ref mbn, .ref mbs, .ref mde, .int (nI 0), .int (nI 0), .int (nI 0), .int (nI 0), .long 0, .long 0, .ref maa, .ref mab, .ref mba, .ref mbb]))]) (xS (As := [.int (nI 10), .int (nI 1)]) (rest := []) C (c_X12_nth_10_1 l D cs 0) kX12_159 hP hD [] rfl (by decide +kernel) ⟨Nat.le_of_ble_eq_true rfl, Nat.le_of_ble_eq_true rfl⟩ rfl hl.1 rfl (Nat.le_of_ble_eq_true rfl) dX12_drawSample_42 ⟨Nat.le_of_ble_eq_true rfl, Nat.le_of_ble_eq_true rfl⟩) hP hD hS hA [] [0] rfl rfl (by decide +kernel) (by decide +kernel) ?_
      clear hP hD hS
      try clear locs
      try clear H
      intro r_23 u_24 H locs hw_r_23 hP hD hS
      have hw_r_23 : r_23 = nI 3 := hw_r_23
      refine W.widen (k := 0) (n := 0) (Nat.le_of_ble_eq_true rfl) (Nat.le_of_ble_eq_true rfl) ?_
      replace hP : va_P D vwCl [(hm, .inr (12, [.ref ms, .ref mkp, .int km, .ref mtr, .int (nI 4), .int (nI 2), .int (nI 2), .int (nI 3), .int (nI 2), .int (nI 1), .ref mas, .int (nI 0), .int (nI 0), .int (nI 0), .ref mso, .ref mon, .ref mot, .ref man, .int (nI 0), .int u_20, .ref mst, .ref msm, .ref mtb, .ref mti, .ref mfr, .ref mbn, .ref mbs, .ref mde, .int (nI 0), .int (nI 0), .int (nI 0), .int (nI 0), .long 0, .long 0, .ref maa, .ref mab, .ref mba, .ref mbb]))] H := hP
      replace hD : va_D A [(hm, .inr (12, [.ref ms, .ref mkp, .int km, .ref mtr, .int (nI 4), .int (nI 2), .int (nI 2), .int (nI 3), .int (nI 2), .int (nI 1), .ref mas, .int (nI 0), .int (nI 0), .int (nI 0), .ref mso, .ref mon, .ref mot, .ref man, .int (nI 0), .int u_20, .ref mst, .ref msm, .ref mtb, .ref mti, .ref mfr, .ref mbn, .ref mbs, .ref mde, .int (nI 0), .int (nI 0), .int (nI 0), .int (nI 0), .long 0, .long 0, .ref maa, .ref mab, .ref mba, .ref mbb]))] := hD
      subst hw_r_23
      refine lv_istore (lv' := [(6, .int (nI 3)), (5, .int (nI 1)), (4, .int (nI 1)), (3, .int (nI 4)), (2, .int (nI 10)), (0, .ref hm), (1, .int (nI 0))]) hx hb dX12_drawSample_45 hl (by decide) rfl ?_
      clear hl
      try clear ls
      intro ls hl
      refine lv_iload_n hx hb dX12_drawSample_47 rfl (lv_at hl 4 rfl) ?_
      refine lv_iconst (v := nI 1) hx hb dX12_drawSample_48 (by decide) ?_
      refine lv_iload hx hb dX12_drawSample_49 (lv_at hl 0 rfl) ?_
      refine lv_ishl hx hb dX12_drawSample_51 ?_
      refine lv_topi (nm_r (e' := nI 8) (by decide) ?_)
      refine lv_iconst (v := (-1)) hx hb dX12_drawSample_52 (by decide) ?_
      refine lv_ixor hx hb dX12_drawSample_53 ?_
      refine lv_iand hx hb dX12_drawSample_54 ?_
      refine lv_topi (nm_r (e' := nI 2) (by decide) ?_)
      refine lv_istore_n (lv' := [(2, .int (nI 2)), (6, .int (nI 3)), (5, .int (nI 1)), (4, .int (nI 1)), (3, .int (nI 4)), (0, .ref hm), (1, .int (nI 0))]) hx hb dX12_drawSample_55 rfl hl (by decide) rfl ?_
      clear hl
      try clear ls
      intro ls hl
      refine lv_iload_n hx hb dX12_drawSample_56 rfl (lv_at hl 4 rfl) ?_
      refine lv_iconst (v := nI 1) hx hb dX12_drawSample_57 (by decide) ?_
      refine lv_iload hx hb dX12_drawSample_58 (lv_at hl 1 rfl) ?_
      refine lv_ishl hx hb dX12_drawSample_60 ?_
      refine lv_topi (nm_r (e' := nI 8) (by decide) ?_)
      refine lv_ior hx hb dX12_drawSample_61 ?_
      refine lv_topi (nm_r (e' := nI 12) (by decide) ?_)
      refine lv_istore_n (lv' := [(3, .int (nI 12)), (2, .int (nI 2)), (6, .int (nI 3)), (5, .int (nI 1)), (4, .int (nI 1)), (0, .ref hm), (1, .int (nI 0))]) hx hb dX12_drawSample_62 rfl hl (by decide) rfl ?_
      clear hl
      try clear ls
      intro ls hl
      refine lv_iinc (v := nI 2) (lv' := [(4, .int (nI 2)), (3, .int (nI 12)), (2, .int (nI 2)), (6, .int (nI 3)), (5, .int (nI 1)), (0, .ref hm), (1, .int (nI 0))]) hx hb dX12_drawSample_63 hl (k := 4) rfl (by decide) (by decide) rfl ?_
      clear hl
      try clear ls
      intro ls hl
      refine lv_goto (tgt := 20) hx hb dX12_drawSample_66 (by decide) ?_
      refine lv_iload hx hb dX12_drawSample_20 (lv_at hl 0 rfl) ?_
      refine lv_aload_n hx hb dX12_drawSample_22 rfl (lv_at hl 5 rfl) ?_
      refine xget C hP 0 rfl rfl zuX12 5 (by decide) zw5_218 rfl dX12_drawSample_23 ?_
      refine lv_icmp_ge (tgt := 69) hx hb dX12_drawSample_26 (by decide) (fun _ => ?_) (fun c => absurd (by decide) c)
      refine lv_iload_n hx hb dX12_drawSample_69 rfl (lv_at hl 1 rfl) ?_
      exact xreti C u_20 trivial hP hD hS (Nat.le_of_ble_eq_true rfl) (Nat.le_of_ble_eq_true rfl) rfl dX12_drawSample_70
  · -- split
    replace hP : va_P D vwCl [(hm, .inr (12, [.ref ms, .ref mkp, .int km, .ref mtr, .int (nI 4), .int (nI 2), .int (nI 2), .int (nI 3), .int (nI 2), .int (nI 1), .ref mas, .int (nI 0), .int (nI 0), .int (nI 0), .ref mso, .ref mon, .ref mot, .ref man, .int (nI 0), .int u_4, .ref mst, .ref msm, .ref mtb, .ref mti, .ref mfr, .ref mbn, .ref mbs, .ref mde, .int (nI 0), .int (nI 0), .int (nI 0), .int (nI 0), .long 0, .long 0, .ref maa, .ref mab, .ref mba, .ref mbb]))] H := hP
    replace hD : va_D A [(hm, .inr (12, [.ref ms, .ref mkp, .int km, .ref mtr, .int (nI 4), .int (nI 2), .int (nI 2), .int (nI 3), .int (nI 2), .int (nI 1), .ref mas, .int (nI 0), .int (nI 0), .int (nI 0), .ref mso, .ref mon, .ref mot, .ref man, .int (nI 0), .int u_4, .ref mst, .ref msm, .ref mtb, .ref mti, .ref mfr, .ref mbn, .ref mbs, .ref mde, .int (nI 0), .int (nI 0), .int (nI 0), .int (nI 0), .long 0, .long 0, .ref maa, .ref mab, .ref mba, .ref mbb]))] := hD
    refine lv_istore (lv' := [(5, .int (nI 2)), (4, .int (nI 0)), (3, .int (nI 0)), (2, .int (nI 14)), (0, .ref hm), (1, .int (nI 0))]) hx hb dX12_drawSample_37 hl (by decide) rfl ?_
    clear hl
    try clear ls
    intro ls hl
    refine lv_iload_n hx hb dX12_drawSample_39 rfl (lv_at hl 3 rfl) ?_
    refine lv_iload hx hb dX12_drawSample_40 (lv_at hl 0 rfl) ?_
    refine xi (wr := [(hm, .inr (12, [.ref ms, .ref mkp, .int km, .ref mtr, .int (nI 4), .int (nI 2), .int (nI 2), .int (nI 3), .int (nI 2), .int (nI 1), .ref mas, .int (nI 0), .int (nI 0), .int (nI 0), .ref mso, .ref mon, .ref mot, .ref man, .int (nI 0), .int u_4, .ref mst, .ref msm, .ref mtb, .ref mti, .ref mfr, .ref mbn, .ref mbs, .ref mde, .int (nI 0), .int (nI 0), .int (nI 0), .int (nI 0), .long 0, .long 0, .ref maa, .ref mab, .ref mba, .ref mbb]))]) (xS (As := [.int (nI 14), .int (nI 2)]) (rest := []) C (c_X12_nth_14_2 l D cs 0) kX12_159 hP hD [] rfl (by decide +kernel) ⟨Nat.le_of_ble_eq_true rfl, Nat.le_of_ble_eq_true rfl⟩ rfl hl.1 rfl (Nat.le_of_ble_eq_true rfl) dX12_drawSample_42 ⟨Nat.le_of_ble_eq_true rfl, Nat.le_of_ble_eq_true rfl⟩) hP hD hS hA [] [0] rfl rfl (by decide +kernel) (by decide +kernel) ?_
    clear hP hD hS
    try clear locs
    try clear H
    intro r_25 u_26 H locs hw_r_25 hP hD hS
    have hw_r_25 : r_25 = nI 3 := hw_r_25
    refine W.widen (k := 0) (n := 0) (Nat.le_of_ble_eq_true rfl) (Nat.le_of_ble_eq_true rfl) ?_
    replace hP : va_P D vwCl [(hm, .inr (12, [.ref ms, .ref mkp, .int km, .ref mtr, .int (nI 4), .int (nI 2), .int (nI 2), .int (nI 3), .int (nI 2), .int (nI 1), .ref mas, .int (nI 0), .int (nI 0), .int (nI 0), .ref mso, .ref mon, .ref mot, .ref man, .int (nI 0), .int u_4, .ref mst, .ref msm, .ref mtb, .ref mti, .ref mfr, .ref mbn, .ref mbs, .ref mde, .int (nI 0), .int (nI 0), .int (nI 0), .int (nI 0), .long 0, .long 0, .ref maa, .ref mab, .ref mba, .ref mbb]))] H := hP
    replace hD : va_D A [(hm, .inr (12, [.ref ms, .ref mkp, .int km, .ref mtr, .int (nI 4), .int (nI 2), .int (nI 2), .int (nI 3), .int (nI 2), .int (nI 1), .ref mas, .int (nI 0), .int (nI 0), .int (nI 0), .ref mso, .ref mon, .ref mot, .ref man, .int (nI 0), .int u_4, .ref mst, .ref msm, .ref mtb, .ref mti, .ref mfr, .ref mbn, .ref mbs, .ref mde, .int (nI 0), .int (nI 0), .int (nI 0), .int (nI 0), .long 0, .long 0, .ref maa, .ref mab, .ref mba, .ref mbb]))] := hD
    subst hw_r_25
    refine lv_istore (lv' := [(6, .int (nI 3)), (5, .int (nI 2)), (4, .int (nI 0)), (3, .int (nI 0)), (2, .int (nI 14)), (0, .ref hm), (1, .int (nI 0))]) hx hb dX12_drawSample_45 hl (by decide) rfl ?_
    clear hl
    try clear ls
    intro ls hl
    refine lv_iload_n hx hb dX12_drawSample_47 rfl (lv_at hl 4 rfl) ?_
    refine lv_iconst (v := nI 1) hx hb dX12_drawSample_48 (by decide) ?_
    refine lv_iload hx hb dX12_drawSample_49 (lv_at hl 0 rfl) ?_
    refine lv_ishl hx hb dX12_drawSample_51 ?_
    refine lv_topi (nm_r (e' := nI 8) (by decide) ?_)
    refine lv_iconst (v := (-1)) hx hb dX12_drawSample_52 (by decide) ?_
    refine lv_ixor hx hb dX12_drawSample_53 ?_
    refine lv_iand hx hb dX12_drawSample_54 ?_
    refine lv_topi (nm_r (e' := nI 6) (by decide) ?_)
    refine lv_istore_n (lv' := [(2, .int (nI 6)), (6, .int (nI 3)), (5, .int (nI 2)), (4, .int (nI 0)), (3, .int (nI 0)), (0, .ref hm), (1, .int (nI 0))]) hx hb dX12_drawSample_55 rfl hl (by decide) rfl ?_
    clear hl
    try clear ls
    intro ls hl
    refine lv_iload_n hx hb dX12_drawSample_56 rfl (lv_at hl 4 rfl) ?_
    refine lv_iconst (v := nI 1) hx hb dX12_drawSample_57 (by decide) ?_
    refine lv_iload hx hb dX12_drawSample_58 (lv_at hl 1 rfl) ?_
    refine lv_ishl hx hb dX12_drawSample_60 ?_
    refine lv_topi (nm_r (e' := nI 8) (by decide) ?_)
    refine lv_ior hx hb dX12_drawSample_61 ?_
    refine lv_topi (nm_r (e' := nI 8) (by decide) ?_)
    refine lv_istore_n (lv' := [(3, .int (nI 8)), (2, .int (nI 6)), (6, .int (nI 3)), (5, .int (nI 2)), (4, .int (nI 0)), (0, .ref hm), (1, .int (nI 0))]) hx hb dX12_drawSample_62 rfl hl (by decide) rfl ?_
    clear hl
    try clear ls
    intro ls hl
    refine lv_iinc (v := nI 1) (lv' := [(4, .int (nI 1)), (3, .int (nI 8)), (2, .int (nI 6)), (6, .int (nI 3)), (5, .int (nI 2)), (0, .ref hm), (1, .int (nI 0))]) hx hb dX12_drawSample_63 hl (k := 4) rfl (by decide) (by decide) rfl ?_
    clear hl
    try clear ls
    intro ls hl
    refine lv_goto (tgt := 20) hx hb dX12_drawSample_66 (by decide) ?_
    refine lv_iload hx hb dX12_drawSample_20 (lv_at hl 0 rfl) ?_
    refine lv_aload_n hx hb dX12_drawSample_22 rfl (lv_at hl 5 rfl) ?_
    refine xget C hP 0 rfl rfl zuX12 5 (by decide) zw5_218 rfl dX12_drawSample_23 ?_
    refine lv_icmp_ge (tgt := 69) hx hb dX12_drawSample_26 (by decide) (fun c => absurd c (by decide)) (fun _ => ?_)
    refine lv_aload_n hx hb dX12_drawSample_29 rfl (lv_at hl 5 rfl) ?_
    refine lv_iload_n hx hb dX12_drawSample_30 rfl (lv_at hl 2 rfl) ?_
    refine xi (wr := [(hm, .inr (12, [.ref ms, .ref mkp, .int km, .ref mtr, .int (nI 4), .int (nI 2), .int (nI 2), .int (nI 3), .int (nI 2), .int (nI 1), .ref mas, .int (nI 0), .int (nI 0), .int (nI 0), .ref mso, .ref mon, .ref mot, .ref man, .int (nI 0), .int u_4, .ref mst, .ref msm, .ref mtb, .ref mti, .ref mfr, .ref mbn, .ref mbs, .ref mde, .int (nI 0), .int (nI 0), .int (nI 0), .int (nI 0), .long 0, .long 0, .ref maa, .ref mab, .ref mba, .ref mbb]))]) (xS (As := [.int (nI 6)]) (rest := [.ref hm]) C (c_X12_many_x l D cs (nI 6)) kX12_127 hP hD [] rfl (by decide +kernel) ⟨Nat.le_of_ble_eq_true rfl, Nat.le_of_ble_eq_true rfl⟩ rfl hl.1 rfl (Nat.le_of_ble_eq_true rfl) dX12_drawSample_31 ⟨Nat.le_of_ble_eq_true rfl, Nat.le_of_ble_eq_true rfl⟩) hP hD hS hA [] [0] rfl rfl (by decide +kernel) (by decide +kernel) ?_
    clear hP hD hS
    try clear locs
    try clear H
    intro r_27 u_28 H locs hw_r_27 hP hD hS
    have hw_r_27 : r_27 = mnC (nI 6) 16 := hw_r_27
    refine W.widen (k := 0) (n := 0) (Nat.le_of_ble_eq_true rfl) (Nat.le_of_ble_eq_true rfl) ?_
    replace hP : va_P D vwCl [(hm, .inr (12, [.ref ms, .ref mkp, .int km, .ref mtr, .int (nI 4), .int (nI 2), .int (nI 2), .int (nI 3), .int (nI 2), .int (nI 1), .ref mas, .int (nI 0), .int (nI 0), .int (nI 0), .ref mso, .ref mon, .ref mot, .ref man, .int (nI 0), .int u_4, .ref mst, .ref msm, .ref mtb, .ref mti, .ref mfr, .ref mbn, .ref mbs, .ref mde, .int (nI 0), .int (nI 0), .int (nI 0), .int (nI 0), .long 0, .long 0, .ref maa, .ref mab, .ref mba, .ref mbb]))] H := hP
    replace hD : va_D A [(hm, .inr (12, [.ref ms, .ref mkp, .int km, .ref mtr, .int (nI 4), .int (nI 2), .int (nI 2), .int (nI 3), .int (nI 2), .int (nI 1), .ref mas, .int (nI 0), .int (nI 0), .int (nI 0), .ref mso, .ref mon, .ref mot, .ref man, .int (nI 0), .int u_4, .ref mst, .ref msm, .ref mtb, .ref mti, .ref mfr, .ref mbn, .ref mbs, .ref mde, .int (nI 0), .int (nI 0), .int (nI 0), .int (nI 0), .long 0, .long 0, .ref maa, .ref mab, .ref mba, .ref mbb]))] := hD
    obtain rfl : r_27 = nI 2 := by rw [hw_r_27]; decide +kernel
    refine xi (wr := []) (xV (As := [.int (nI 2)]) (rest := []) C (c_X12_draw l D cs hm ms mkp mtr mas mso mon mot man mst msm mtb mti mfr mbn mbs mde maa mab mba mbb km u_4 2 (by decide) (by decide)) kX12_156 hP hD [0] rfl (by decide +kernel) 0 rfl rfl rfl ⟨Nat.le_of_ble_eq_true rfl, Nat.le_of_ble_eq_true rfl⟩ rfl hl.1 rfl (Nat.le_of_ble_eq_true rfl) dX12_drawSample_34 ⟨Nat.le_of_ble_eq_true rfl, Nat.le_of_ble_eq_true rfl⟩) hP hD hS hA [0] [] rfl rfl (by decide +kernel) (by decide +kernel) ?_
    clear hP hD hS
    try clear locs
    try clear H
    intro r_29 u_30 H locs hw_r_29 hP hD hS
    have hw_r_29 : ∃ j, j < 2 ∧ r_29 = nI j := hw_r_29
    refine W.widen (k := 0) (n := 0) (Nat.le_of_ble_eq_true rfl) (Nat.le_of_ble_eq_true rfl) ?_
    replace hP : va_P D vwCl [(hm, .inr (12, [.ref ms, .ref mkp, .int km, .ref mtr, .int (nI 4), .int (nI 2), .int (nI 2), .int (nI 3), .int (nI 2), .int (nI 1), .ref mas, .int (nI 0), .int (nI 0), .int (nI 0), .ref mso, .ref mon, .ref mot, .ref man, .int (nI 0), .int u_30, .ref mst, .ref msm, .ref mtb, .ref mti, .ref mfr, .ref mbn, .ref mbs, .ref mde, .int (nI 0), .int (nI 0), .int (nI 0), .int (nI 0), .long 0, .long 0, .ref maa, .ref mab, .ref mba, .ref mbb]))] H := hP
    replace hD : va_D A [(hm, .inr (12, [.ref ms, .ref mkp, .int km, .ref mtr, .int (nI 4), .int (nI 2), .int (nI 2), .int (nI 3), .int (nI 2), .int (nI 1), .ref mas, .int (nI 0), .int (nI 0), .int (nI 0), .ref mso, .ref mon, .ref mot, .ref man, .int (nI 0), .int u_30, .ref mst, .ref msm, .ref mtb, .ref mti, .ref mfr, .ref mbn, .ref mbs, .ref mde, .int (nI 0), .int (nI 0), .int (nI 0), .int (nI 0), .long 0, .long 0, .ref maa, .ref mab, .ref mba, .ref mbb]))] := hD
    rcases (dr2 hw_r_29) with rfl | rfl
    · -- split
      replace hP : va_P D vwCl [(hm, .inr (12, [.ref ms, .ref mkp, .int km, .ref mtr, .int (nI 4), .int (nI 2), .int (nI 2), .int (nI 3), .int (nI 2), .int (nI 1), .ref mas, .int (nI 0), .int (nI 0), .int (nI 0), .ref mso, .ref mon, .ref mot, .ref man, .int (nI 0), .int u_30, .ref mst, .ref msm, .ref mtb, .ref mti, .ref mfr, .ref mbn, .ref mbs, .ref mde, .int (nI 0), .int (nI 0), .int (nI 0), .int (nI 0), .long 0, .long 0, .ref maa, .ref mab, .ref mba, .ref mbb]))] H := hP
      replace hD : va_D A [(hm, .inr (12, [.ref ms, .ref mkp, .int km, .ref mtr, .int (nI 4), .int (nI 2), .int (nI 2), .int (nI 3), .int (nI 2), .int (nI 1), .ref mas, .int (nI 0), .int (nI 0), .int (nI 0), .ref mso, .ref mon, .ref mot, .ref man, .int (nI 0), .int u_30, .ref mst, .ref msm, .ref mtb, .ref mti, .ref mfr, .ref mbn, .ref mbs, .ref mde, .int (nI 0), .int (nI 0), .int (nI 0), .int (nI 0), .long 0, .long 0, .ref maa, .ref mab, .ref mba, .ref mbb]))] := hD
      refine lv_istore (lv' := [(5, .int (nI 0)), (4, .int (nI 1)), (3, .int (nI 8)), (2, .int (nI 6)), (6, .int (nI 3)), (0, .ref hm), (1, .int (nI 0))]) hx hb dX12_drawSample_37 hl (by decide) rfl ?_
      clear hl
      try clear ls
      intro ls hl
      refine lv_iload_n hx hb dX12_drawSample_39 rfl (lv_at hl 3 rfl) ?_
      refine lv_iload hx hb dX12_drawSample_40 (lv_at hl 0 rfl) ?_
      refine xi (wr := [(hm, .inr (12, [.ref ms, .ref mkp, .int km, .ref mtr, .int (nI 4), .int (nI 2), .int (nI 2), .int (nI 3), .int (nI 2), .int (nI 1), .ref mas, .int (nI 0), .int (nI 0), .int (nI 0), .ref mso, .ref mon, .ref mot, .ref man, .int (nI 0), .int u_30, .ref mst, .ref msm, .ref mtb, .ref mti, .ref mfr, .ref mbn, .ref mbs, .ref mde, .int (nI 0), .int (nI 0), .int (nI 0), .int (nI 0), .long 0, .long 0, .ref maa, .ref mab, .ref mba, .ref mbb]))]) (xS (As := [.int (nI 6), .int (nI 0)]) (rest := []) C (c_X12_nth_6_0 l D cs 0) kX12_159 hP hD [] rfl (by decide +kernel) ⟨Nat.le_of_ble_eq_true rfl, Nat.le_of_ble_eq_true rfl⟩ rfl hl.1 rfl (Nat.le_of_ble_eq_true rfl) dX12_drawSample_42 ⟨Nat.le_of_ble_eq_true rfl, Nat.le_of_ble_eq_true rfl⟩) hP hD hS hA [] [0] rfl rfl (by decide +kernel) (by decide +kernel) ?_
      clear hP hD hS
      try clear locs
      try clear H
      intro r_31 u_32 H locs hw_r_31 hP hD hS
      have hw_r_31 : r_31 = nI 1 := hw_r_31
      refine W.widen (k := 0) (n := 0) (Nat.le_of_ble_eq_true rfl) (Nat.le_of_ble_eq_true rfl) ?_
      replace hP : va_P D vwCl [(hm, .inr (12, [.ref ms, .ref mkp, .int km, .ref mtr, .int (nI 4), .int (nI 2), .int (nI 2), .int (nI 3), .int (nI 2), .int (nI 1), .ref mas, .int (nI 0), .int (nI 0), .int (nI 0), .ref mso, .ref mon, .ref mot, .ref man, .int (nI 0), .int u_30, .ref mst, .ref msm, .ref mtb, .ref mti, .ref mfr, .ref mbn, .ref mbs, .ref mde, .int (nI 0), .int (nI 0), .int (nI 0), .int (nI 0), .long 0, .long 0, .ref maa, .ref mab, .ref mba, .ref mbb]))] H := hP
      replace hD : va_D A [(hm, .inr (12, [.ref ms, .ref mkp, .int km, .ref mtr, .int (nI 4), .int (nI 2), .int (nI 2), .int (nI 3), .int (nI 2), .int (nI 1), .ref mas, .int (nI 0), .int (nI 0), .int (nI 0), .ref mso, .ref mon, .ref mot, .ref man, .int (nI 0), .int u_30, .ref mst, .ref msm, .ref mtb, .ref mti, .ref mfr, .ref mbn, .ref mbs, .ref mde, .int (nI 0), .int (nI 0), .int (nI 0), .int (nI 0), .long 0, .long 0, .ref maa, .ref mab, .ref mba, .ref mbb]))] := hD
      subst hw_r_31
      refine lv_istore (lv' := [(6, .int (nI 1)), (5, .int (nI 0)), (4, .int (nI 1)), (3, .int (nI 8)), (2, .int (nI 6)), (0, .ref hm), (1, .int (nI 0))]) hx hb dX12_drawSample_45 hl (by decide) rfl ?_
      clear hl
      try clear ls
      intro ls hl
      refine lv_iload_n hx hb dX12_drawSample_47 rfl (lv_at hl 4 rfl) ?_
      refine lv_iconst (v := nI 1) hx hb dX12_drawSample_48 (by decide) ?_
      refine lv_iload hx hb dX12_drawSample_49 (lv_at hl 0 rfl) ?_
      refine lv_ishl hx hb dX12_drawSample_51 ?_
      refine lv_topi (nm_r (e' := nI 2) (by decide) ?_)
      refine lv_iconst (v := (-1)) hx hb dX12_drawSample_52 (by decide) ?_
      refine lv_ixor hx hb dX12_drawSample_53 ?_
      refine lv_iand hx hb dX12_drawSample_54 ?_
      refine lv_topi (nm_r (e' := nI 4) (by decide) ?_)
      refine lv_istore_n (lv' := [(2, .int (nI 4)), (6, .int (nI 1)), (5, .int (nI 0)), (4, .int (nI 1)), (3, .int (nI 8)), (0, .ref hm), (1, .int (nI 0))]) hx hb dX12_drawSample_55 rfl hl (by decide) rfl ?_
      clear hl
      try clear ls
      intro ls hl
      refine lv_iload_n hx hb dX12_drawSample_56 rfl (lv_at hl 4 rfl) ?_
      refine lv_iconst (v := nI 1) hx hb dX12_drawSample_57 (by decide) ?_
      refine lv_iload hx hb dX12_drawSample_58 (lv_at hl 1 rfl) ?_
      refine lv_ishl hx hb dX12_drawSample_60 ?_
      refine lv_topi (nm_r (e' := nI 2) (by decide) ?_)
      refine lv_ior hx hb dX12_drawSample_61 ?_
      refine lv_topi (nm_r (e' := nI 10) (by decide) ?_)
      refine lv_istore_n (lv' := [(3, .int (nI 10)), (2, .int (nI 4)), (6, .int (nI 1)), (5, .int (nI 0)), (4, .int (nI 1)), (0, .ref hm), (1, .int (nI 0))]) hx hb dX12_drawSample_62 rfl hl (by decide) rfl ?_
      clear hl
      try clear ls
      intro ls hl
      refine lv_iinc (v := nI 2) (lv' := [(4, .int (nI 2)), (3, .int (nI 10)), (2, .int (nI 4)), (6, .int (nI 1)), (5, .int (nI 0)), (0, .ref hm), (1, .int (nI 0))]) hx hb dX12_drawSample_63 hl (k := 4) rfl (by decide) (by decide) rfl ?_
      clear hl
      try clear ls
      intro ls hl
      refine lv_goto (tgt := 20) hx hb dX12_drawSample_66 (by decide) ?_
      refine lv_iload hx hb dX12_drawSample_20 (lv_at hl 0 rfl) ?_
      refine lv_aload_n hx hb dX12_drawSample_22 rfl (lv_at hl 5 rfl) ?_
      refine xget C hP 0 rfl rfl zuX12 5 (by decide) zw5_218 rfl dX12_drawSample_23 ?_
      refine lv_icmp_ge (tgt := 69) hx hb dX12_drawSample_26 (by decide) (fun _ => ?_) (fun c => absurd (by decide) c)
      refine lv_iload_n hx hb dX12_drawSample_69 rfl (lv_at hl 1 rfl) ?_
      exact xreti C u_30 trivial hP hD hS (Nat.le_of_ble_eq_true rfl) (Nat.le_of_ble_eq_true rfl) rfl dX12_drawSample_70
    · -- split
      replace hP : va_P D vwCl [(hm, .inr (12, [.ref ms, .ref mkp, .int km, .ref mtr, .int (nI 4), .int (nI 2), .int (nI 2), .int (nI 3), .int (nI 2), .int (nI 1), .ref mas, .int (nI 0), .int (nI 0), .int (nI 0), .ref mso, .ref mon, .ref mot, .ref man, .int (nI 0), .int u_30, .ref mst, .ref msm, .ref mtb, .ref mti, .ref mfr, .ref mbn, .ref mbs, .ref mde, .int (nI 0), .int (nI 0), .int (nI 0), .int (nI 0), .long 0, .long 0, .ref maa, .ref mab, .ref mba, .ref mbb]))] H := hP
      replace hD : va_D A [(hm, .inr (12, [.ref ms, .ref mkp, .int km, .ref mtr, .int (nI 4), .int (nI 2), .int (nI 2), .int (nI 3), .int (nI 2), .int (nI 1), .ref mas, .int (nI 0), .int (nI 0), .int (nI 0), .ref mso, .ref mon, .ref mot, .ref man, .int (nI 0), .int u_30, .ref mst, .ref msm, .ref mtb, .ref mti, .ref mfr, .ref mbn, .ref mbs, .ref mde, .int (nI 0), .int (nI 0), .int (nI 0), .int (nI 0), .long 0, .long 0, .ref maa, .ref mab, .ref mba, .ref mbb]))] := hD
      refine lv_istore (lv' := [(5, .int (nI 1)), (4, .int (nI 1)), (3, .int (nI 8)), (2, .int (nI 6)), (6, .int (nI 3)), (0, .ref hm), (1, .int (nI 0))]) hx hb dX12_drawSample_37 hl (by decide) rfl ?_
      clear hl
      try clear ls
      intro ls hl
      refine lv_iload_n hx hb dX12_drawSample_39 rfl (lv_at hl 3 rfl) ?_
      refine lv_iload hx hb dX12_drawSample_40 (lv_at hl 0 rfl) ?_
      refine xi (wr := [(hm, .inr (12, [.ref ms, .ref mkp, .int km, .ref mtr, .int (nI 4), .int (nI 2), .int (nI 2), .int (nI 3), .int (nI 2), .int (nI 1), .ref mas, .int (nI 0), .int (nI 0), .int (nI 0), .ref mso, .ref mon, .ref mot, .ref man, .int (nI 0), .int u_30, .ref mst, .ref msm, .ref mtb, .ref mti, .ref mfr, .ref mbn, .ref mbs, .ref mde, .int (nI 0), .int (nI 0), .int (nI 0), .int (nI 0), .long 0, .long 0, .ref maa, .ref mab, .ref mba, .ref mbb]))]) (xS (As := [.int (nI 6), .int (nI 1)]) (rest := []) C (c_X12_nth_6_1 l D cs 0) kX12_159 hP hD [] rfl (by decide +kernel) ⟨Nat.le_of_ble_eq_true rfl, Nat.le_of_ble_eq_true rfl⟩ rfl hl.1 rfl (Nat.le_of_ble_eq_true rfl) dX12_drawSample_42 ⟨Nat.le_of_ble_eq_true rfl, Nat.le_of_ble_eq_true rfl⟩) hP hD hS hA [] [0] rfl rfl (by decide +kernel) (by decide +kernel) ?_
      clear hP hD hS
      try clear locs
      try clear H
      intro r_33 u_34 H locs hw_r_33 hP hD hS
      have hw_r_33 : r_33 = nI 2 := hw_r_33
      refine W.widen (k := 0) (n := 0) (Nat.le_of_ble_eq_true rfl) (Nat.le_of_ble_eq_true rfl) ?_
      replace hP : va_P D vwCl [(hm, .inr (12, [.ref ms, .ref mkp, .int km, .ref mtr, .int (nI 4), .int (nI 2), .int (nI 2), .int (nI 3), .int (nI 2), .int (nI 1), .ref mas, .int (nI 0), .int (nI 0), .int (nI 0), .ref mso, .ref mon, .ref mot, .ref man, .int (nI 0), .int u_30, .ref mst, .ref msm, .ref mtb, .ref mti, .ref mfr, .ref mbn, .ref mbs, .ref mde, .int (nI 0), .int (nI 0), .int (nI 0), .int (nI 0), .long 0, .long 0, .ref maa, .ref mab, .ref mba, .ref mbb]))] H := hP
      replace hD : va_D A [(hm, .inr (12, [.ref ms, .ref mkp, .int km, .ref mtr, .int (nI 4), .int (nI 2), .int (nI 2), .int (nI 3), .int (nI 2), .int (nI 1), .ref mas, .int (nI 0), .int (nI 0), .int (nI 0), .ref mso, .ref mon, .ref mot, .ref man, .int (nI 0), .int u_30, .ref mst, .ref msm, .ref mtb, .ref mti, .ref mfr, .ref mbn, .ref mbs, .ref mde, .int (nI 0), .int (nI 0), .int (nI 0), .int (nI 0), .long 0, .long 0, .ref maa, .ref mab, .ref mba, .ref mbb]))] := hD
      subst hw_r_33
      refine lv_istore (lv' := [(6, .int (nI 2)), (5, .int (nI 1)), (4, .int (nI 1)), (3, .int (nI 8)), (2, .int (nI 6)), (0, .ref hm), (1, .int (nI 0))]) hx hb dX12_drawSample_45 hl (by decide) rfl ?_
      clear hl
      try clear ls
      intro ls hl
      refine lv_iload_n hx hb dX12_drawSample_47 rfl (lv_at hl 4 rfl) ?_
      refine lv_iconst (v := nI 1) hx hb dX12_drawSample_48 (by decide) ?_
      refine lv_iload hx hb dX12_drawSample_49 (lv_at hl 0 rfl) ?_
      refine lv_ishl hx hb dX12_drawSample_51 ?_
      refine lv_topi (nm_r (e' := nI 4) (by decide) ?_)
      refine lv_iconst (v := (-1)) hx hb dX12_drawSample_52 (by decide) ?_
      refine lv_ixor hx hb dX12_drawSample_53 ?_
      refine lv_iand hx hb dX12_drawSample_54 ?_
      refine lv_topi (nm_r (e' := nI 2) (by decide) ?_)
      refine lv_istore_n (lv' := [(2, .int (nI 2)), (6, .int (nI 2)), (5, .int (nI 1)), (4, .int (nI 1)), (3, .int (nI 8)), (0, .ref hm), (1, .int (nI 0))]) hx hb dX12_drawSample_55 rfl hl (by decide) rfl ?_
      clear hl
      try clear ls
      intro ls hl
      refine lv_iload_n hx hb dX12_drawSample_56 rfl (lv_at hl 4 rfl) ?_
      refine lv_iconst (v := nI 1) hx hb dX12_drawSample_57 (by decide) ?_
      refine lv_iload hx hb dX12_drawSample_58 (lv_at hl 1 rfl) ?_
      refine lv_ishl hx hb dX12_drawSample_60 ?_
      refine lv_topi (nm_r (e' := nI 4) (by decide) ?_)
      refine lv_ior hx hb dX12_drawSample_61 ?_
      refine lv_topi (nm_r (e' := nI 12) (by decide) ?_)
      refine lv_istore_n (lv' := [(3, .int (nI 12)), (2, .int (nI 2)), (6, .int (nI 2)), (5, .int (nI 1)), (4, .int (nI 1)), (0, .ref hm), (1, .int (nI 0))]) hx hb dX12_drawSample_62 rfl hl (by decide) rfl ?_
      clear hl
      try clear ls
      intro ls hl
      refine lv_iinc (v := nI 2) (lv' := [(4, .int (nI 2)), (3, .int (nI 12)), (2, .int (nI 2)), (6, .int (nI 2)), (5, .int (nI 1)), (0, .ref hm), (1, .int (nI 0))]) hx hb dX12_drawSample_63 hl (k := 4) rfl (by decide) (by decide) rfl ?_
      clear hl
      try clear ls
      intro ls hl
      refine lv_goto (tgt := 20) hx hb dX12_drawSample_66 (by decide) ?_
      refine lv_iload hx hb dX12_drawSample_20 (lv_at hl 0 rfl) ?_
      refine lv_aload_n hx hb dX12_drawSample_22 rfl (lv_at hl 5 rfl) ?_
      refine xget C hP 0 rfl rfl zuX12 5 (by decide) zw5_218 rfl dX12_drawSample_23 ?_
      refine lv_icmp_ge (tgt := 69) hx hb dX12_drawSample_26 (by decide) (fun _ => ?_) (fun c => absurd (by decide) c)
      refine lv_iload_n hx hb dX12_drawSample_69 rfl (lv_at hl 1 rfl) ?_
      exact xreti C u_30 trivial hP hD hS (Nat.le_of_ble_eq_true rfl) (Nat.le_of_ble_eq_true rfl) rfl dX12_drawSample_70

set_option maxHeartbeats 4000000 in
set_option maxRecDepth 100000 in
theorem c_X12_drawSample_1 (l : Launch) (D : va_G) (cs : Nat → ClassId) (hm ms mkp mtr mas mso mon mot man mst msm mtb mti mfr mbn mbs mde maa mab mba mbb : Nat) (km xx : Int32) : xMet l D cs yX12_drawSample cX12_drawSample 7 (some .int) ({ frames := 2, cells := 0, slots := 0, locals := 44 } : Room) [.ref hm, .int (nI 1)] [(hm, .inr (12, [.ref ms, .ref mkp, .int km, .ref mtr, .int (nI 4), .int (nI 2), .int (nI 2), .int (nI 3), .int (nI 2), .int (nI 1), .ref mas, .int (nI 0), .int (nI 0), .int (nI 0), .ref mso, .ref mon, .ref mot, .ref man, .int (nI 0), .int xx, .ref mst, .ref msm, .ref mtb, .ref mti, .ref mfr, .ref mbn, .ref mbs, .ref mde, .int (nI 0), .int (nI 0), .int (nI 0), .int (nI 0), .long 0, .long 0, .ref maa, .ref mab, .ref mba, .ref mbb]))] (xQi D (fun (r : Int32) (x2 : Int32) => True) (fun (x2 : Int32) => [(hm, .inr (12, [.ref ms, .ref mkp, .int km, .ref mtr, .int (nI 4), .int (nI 2), .int (nI 2), .int (nI 3), .int (nI 2), .int (nI 1), .ref mas, .int (nI 0), .int (nI 0), .int (nI 0), .ref mso, .ref mon, .ref mot, .ref man, .int (nI 0), .int x2, .ref mst, .ref msm, .ref mtb, .ref mti, .ref mfr, .ref mbn, .ref mbs, .ref mde, .int (nI 0), .int (nI 0), .int (nI 0), .int (nI 0), .long 0, .long 0, .ref maa, .ref mab, .ref mba, .ref mbb]))])) := by
  refine xMet.intro (by decide) (Nat.le_of_ble_eq_true rfl) ?_
  intro p e s m args below meth c A ls C hP hD hS hl
  have hx := C.1
  have hb := C.2.1
  have hz := C.2.2.2.2.1
  have hown := C.2.2.2.1
  have hA := C.2.2.2.2.2.2.2.2.2
  have hAO := C.2.2.2.2.2.2.2.2.1.2.2
  replace hl : lv_has ls 7 [(0, .ref hm), (1, .int (nI 1))] := hl
  obtain ⟨H, hH⟩ : ∃ H, H = s.heap := ⟨_, rfl⟩
  replace hP : va_P D vwCl [(hm, .inr (12, [.ref ms, .ref mkp, .int km, .ref mtr, .int (nI 4), .int (nI 2), .int (nI 2), .int (nI 3), .int (nI 2), .int (nI 1), .ref mas, .int (nI 0), .int (nI 0), .int (nI 0), .ref mso, .ref mon, .ref mot, .ref man, .int (nI 0), .int xx, .ref mst, .ref msm, .ref mtb, .ref mti, .ref mfr, .ref mbn, .ref mbs, .ref mde, .int (nI 0), .int (nI 0), .int (nI 0), .int (nI 0), .long 0, .long 0, .ref maa, .ref mab, .ref mba, .ref mbb]))] H := by rw [hH]; exact hP
  replace hS : va_S A s.heap H [] := by rw [hH]; exact hS
  obtain ⟨locs, hlocs⟩ : ∃ z : List Loc, z = [] := ⟨_, rfl⟩
  rw [← hlocs] at hS
  suffices hW : W p l e ({ frames := 2, cells := 0, slots := 0, locals := 44 } : Room) s m args below meth c H locs 0 0 (MQ below ((xQi D (fun (r : Int32) (x2 : Int32) => True) (fun (x2 : Int32) => [(hm, .inr (12, [.ref ms, .ref mkp, .int km, .ref mtr, .int (nI 4), .int (nI 2), .int (nI 2), .int (nI 3), .int (nI 2), .int (nI 1), .ref mas, .int (nI 0), .int (nI 0), .int (nI 0), .ref mso, .ref mon, .ref mot, .ref man, .int (nI 0), .int x2, .ref mst, .ref msm, .ref mtb, .ref mti, .ref mfr, .ref mbn, .ref mbs, .ref mde, .int (nI 0), .int (nI 0), .int (nI 0), .int (nI 0), .long 0, .long 0, .ref maa, .ref mab, .ref mba, .ref mbb]))])) A) args s 0 0 A) (F0 m 0 ls []) by rw [hlocs, hH] at hW; exact hW
  clear hH hlocs
  refine lv_iconst (v := nI 1) hx hb dX12_drawSample_0 (by decide) ?_
  refine lv_aload_n hx hb dX12_drawSample_1 rfl (lv_at hl 0 rfl) ?_
  refine xget C hP 0 rfl rfl zuX12 4 (by decide) zw5_217 rfl dX12_drawSample_2 ?_
  refine lv_ishl hx hb dX12_drawSample_5 ?_
  refine lv_topi (nm_r (e' := nI 16) (by decide) ?_)
  refine lv_iconst (v := nI 1) hx hb dX12_drawSample_6 (by decide) ?_
  refine lv_isub hx hb dX12_drawSample_7 ?_
  refine lv_topi (nm_r (e' := nI 15) (by decide) ?_)
  refine lv_iconst (v := nI 1) hx hb dX12_drawSample_8 (by decide) ?_
  refine lv_iload_n hx hb dX12_drawSample_9 rfl (lv_at hl 1 rfl) ?_
  refine lv_ishl hx hb dX12_drawSample_10 ?_
  refine lv_topi (nm_r (e' := nI 2) (by decide) ?_)
  refine lv_iconst (v := (-1)) hx hb dX12_drawSample_11 (by decide) ?_
  refine lv_ixor hx hb dX12_drawSample_12 ?_
  refine lv_iand hx hb dX12_drawSample_13 ?_
  refine lv_topi (nm_r (e' := nI 13) (by decide) ?_)
  refine lv_istore_n (lv' := [(2, .int (nI 13)), (0, .ref hm), (1, .int (nI 1))]) hx hb dX12_drawSample_14 rfl hl (by decide) rfl ?_
  clear hl
  try clear ls
  intro ls hl
  refine lv_iconst (v := nI 0) hx hb dX12_drawSample_15 (by decide) ?_
  refine lv_istore_n (lv' := [(3, .int (nI 0)), (2, .int (nI 13)), (0, .ref hm), (1, .int (nI 1))]) hx hb dX12_drawSample_16 rfl hl (by decide) rfl ?_
  clear hl
  try clear ls
  intro ls hl
  refine lv_iconst (v := nI 0) hx hb dX12_drawSample_17 (by decide) ?_
  refine lv_istore (lv' := [(4, .int (nI 0)), (3, .int (nI 0)), (2, .int (nI 13)), (0, .ref hm), (1, .int (nI 1))]) hx hb dX12_drawSample_18 hl (by decide) rfl ?_
  clear hl
  try clear ls
  intro ls hl
  refine lv_iload hx hb dX12_drawSample_20 (lv_at hl 0 rfl) ?_
  refine lv_aload_n hx hb dX12_drawSample_22 rfl (lv_at hl 3 rfl) ?_
  refine xget C hP 0 rfl rfl zuX12 5 (by decide) zw5_218 rfl dX12_drawSample_23 ?_
  refine lv_icmp_ge (tgt := 69) hx hb dX12_drawSample_26 (by decide) (fun c => absurd c (by decide)) (fun _ => ?_)
  refine lv_aload_n hx hb dX12_drawSample_29 rfl (lv_at hl 3 rfl) ?_
  refine lv_iload_n hx hb dX12_drawSample_30 rfl (lv_at hl 2 rfl) ?_
  refine xi (wr := [(hm, .inr (12, [.ref ms, .ref mkp, .int km, .ref mtr, .int (nI 4), .int (nI 2), .int (nI 2), .int (nI 3), .int (nI 2), .int (nI 1), .ref mas, .int (nI 0), .int (nI 0), .int (nI 0), .ref mso, .ref mon, .ref mot, .ref man, .int (nI 0), .int xx, .ref mst, .ref msm, .ref mtb, .ref mti, .ref mfr, .ref mbn, .ref mbs, .ref mde, .int (nI 0), .int (nI 0), .int (nI 0), .int (nI 0), .long 0, .long 0, .ref maa, .ref mab, .ref mba, .ref mbb]))]) (xS (As := [.int (nI 13)]) (rest := [.ref hm]) C (c_X12_many_x l D cs (nI 13)) kX12_127 hP hD [] rfl (by decide +kernel) ⟨Nat.le_of_ble_eq_true rfl, Nat.le_of_ble_eq_true rfl⟩ rfl hl.1 rfl (Nat.le_of_ble_eq_true rfl) dX12_drawSample_31 ⟨Nat.le_of_ble_eq_true rfl, Nat.le_of_ble_eq_true rfl⟩) hP hD hS hA [] [0] rfl rfl (by decide +kernel) (by decide +kernel) ?_
  clear hP hD hS
  try clear locs
  try clear H
  intro r_1 u_2 H locs hw_r_1 hP hD hS
  have hw_r_1 : r_1 = mnC (nI 13) 16 := hw_r_1
  refine W.widen (k := 0) (n := 0) (Nat.le_of_ble_eq_true rfl) (Nat.le_of_ble_eq_true rfl) ?_
  replace hP : va_P D vwCl [(hm, .inr (12, [.ref ms, .ref mkp, .int km, .ref mtr, .int (nI 4), .int (nI 2), .int (nI 2), .int (nI 3), .int (nI 2), .int (nI 1), .ref mas, .int (nI 0), .int (nI 0), .int (nI 0), .ref mso, .ref mon, .ref mot, .ref man, .int (nI 0), .int xx, .ref mst, .ref msm, .ref mtb, .ref mti, .ref mfr, .ref mbn, .ref mbs, .ref mde, .int (nI 0), .int (nI 0), .int (nI 0), .int (nI 0), .long 0, .long 0, .ref maa, .ref mab, .ref mba, .ref mbb]))] H := hP
  replace hD : va_D A [(hm, .inr (12, [.ref ms, .ref mkp, .int km, .ref mtr, .int (nI 4), .int (nI 2), .int (nI 2), .int (nI 3), .int (nI 2), .int (nI 1), .ref mas, .int (nI 0), .int (nI 0), .int (nI 0), .ref mso, .ref mon, .ref mot, .ref man, .int (nI 0), .int xx, .ref mst, .ref msm, .ref mtb, .ref mti, .ref mfr, .ref mbn, .ref mbs, .ref mde, .int (nI 0), .int (nI 0), .int (nI 0), .int (nI 0), .long 0, .long 0, .ref maa, .ref mab, .ref mba, .ref mbb]))] := hD
  obtain rfl : r_1 = nI 3 := by rw [hw_r_1]; decide +kernel
  refine xi (wr := []) (xV (As := [.int (nI 3)]) (rest := []) C (c_X12_draw l D cs hm ms mkp mtr mas mso mon mot man mst msm mtb mti mfr mbn mbs mde maa mab mba mbb km xx 3 (by decide) (by decide)) kX12_156 hP hD [0] rfl (by decide +kernel) 0 rfl rfl rfl ⟨Nat.le_of_ble_eq_true rfl, Nat.le_of_ble_eq_true rfl⟩ rfl hl.1 rfl (Nat.le_of_ble_eq_true rfl) dX12_drawSample_34 ⟨Nat.le_of_ble_eq_true rfl, Nat.le_of_ble_eq_true rfl⟩) hP hD hS hA [0] [] rfl rfl (by decide +kernel) (by decide +kernel) ?_
  clear hP hD hS
  try clear locs
  try clear H
  intro r_3 u_4 H locs hw_r_3 hP hD hS
  have hw_r_3 : ∃ j, j < 3 ∧ r_3 = nI j := hw_r_3
  refine W.widen (k := 0) (n := 0) (Nat.le_of_ble_eq_true rfl) (Nat.le_of_ble_eq_true rfl) ?_
  replace hP : va_P D vwCl [(hm, .inr (12, [.ref ms, .ref mkp, .int km, .ref mtr, .int (nI 4), .int (nI 2), .int (nI 2), .int (nI 3), .int (nI 2), .int (nI 1), .ref mas, .int (nI 0), .int (nI 0), .int (nI 0), .ref mso, .ref mon, .ref mot, .ref man, .int (nI 0), .int u_4, .ref mst, .ref msm, .ref mtb, .ref mti, .ref mfr, .ref mbn, .ref mbs, .ref mde, .int (nI 0), .int (nI 0), .int (nI 0), .int (nI 0), .long 0, .long 0, .ref maa, .ref mab, .ref mba, .ref mbb]))] H := hP
  replace hD : va_D A [(hm, .inr (12, [.ref ms, .ref mkp, .int km, .ref mtr, .int (nI 4), .int (nI 2), .int (nI 2), .int (nI 3), .int (nI 2), .int (nI 1), .ref mas, .int (nI 0), .int (nI 0), .int (nI 0), .ref mso, .ref mon, .ref mot, .ref man, .int (nI 0), .int u_4, .ref mst, .ref msm, .ref mtb, .ref mti, .ref mfr, .ref mbn, .ref mbs, .ref mde, .int (nI 0), .int (nI 0), .int (nI 0), .int (nI 0), .long 0, .long 0, .ref maa, .ref mab, .ref mba, .ref mbb]))] := hD
  rcases (dr3 hw_r_3) with rfl | rfl | rfl
  · -- split
    replace hP : va_P D vwCl [(hm, .inr (12, [.ref ms, .ref mkp, .int km, .ref mtr, .int (nI 4), .int (nI 2), .int (nI 2), .int (nI 3), .int (nI 2), .int (nI 1), .ref mas, .int (nI 0), .int (nI 0), .int (nI 0), .ref mso, .ref mon, .ref mot, .ref man, .int (nI 0), .int u_4, .ref mst, .ref msm, .ref mtb, .ref mti, .ref mfr, .ref mbn, .ref mbs, .ref mde, .int (nI 0), .int (nI 0), .int (nI 0), .int (nI 0), .long 0, .long 0, .ref maa, .ref mab, .ref mba, .ref mbb]))] H := hP
    replace hD : va_D A [(hm, .inr (12, [.ref ms, .ref mkp, .int km, .ref mtr, .int (nI 4), .int (nI 2), .int (nI 2), .int (nI 3), .int (nI 2), .int (nI 1), .ref mas, .int (nI 0), .int (nI 0), .int (nI 0), .ref mso, .ref mon, .ref mot, .ref man, .int (nI 0), .int u_4, .ref mst, .ref msm, .ref mtb, .ref mti, .ref mfr, .ref mbn, .ref mbs, .ref mde, .int (nI 0), .int (nI 0), .int (nI 0), .int (nI 0), .long 0, .long 0, .ref maa, .ref mab, .ref mba, .ref mbb]))] := hD
    refine lv_istore (lv' := [(5, .int (nI 0)), (4, .int (nI 0)), (3, .int (nI 0)), (2, .int (nI 13)), (0, .ref hm), (1, .int (nI 1))]) hx hb dX12_drawSample_37 hl (by decide) rfl ?_
    clear hl
    try clear ls
    intro ls hl
    refine lv_iload_n hx hb dX12_drawSample_39 rfl (lv_at hl 3 rfl) ?_
    refine lv_iload hx hb dX12_drawSample_40 (lv_at hl 0 rfl) ?_
    refine xi (wr := [(hm, .inr (12, [.ref ms, .ref mkp, .int km, .ref mtr, .int (nI 4), .int (nI 2), .int (nI 2), .int (nI 3), .int (nI 2), .int (nI 1), .ref mas, .int (nI 0), .int (nI 0), .int (nI 0), .ref mso, .ref mon, .ref mot, .ref man, .int (nI 0), .int u_4, .ref mst, .ref msm, .ref mtb, .ref mti, .ref mfr, .ref mbn, .ref mbs, .ref mde, .int (nI 0), .int (nI 0), .int (nI 0), .int (nI 0), .long 0, .long 0, .ref maa, .ref mab, .ref mba, .ref mbb]))]) (xS (As := [.int (nI 13), .int (nI 0)]) (rest := []) C (c_X12_nth_13_0 l D cs 0) kX12_159 hP hD [] rfl (by decide +kernel) ⟨Nat.le_of_ble_eq_true rfl, Nat.le_of_ble_eq_true rfl⟩ rfl hl.1 rfl (Nat.le_of_ble_eq_true rfl) dX12_drawSample_42 ⟨Nat.le_of_ble_eq_true rfl, Nat.le_of_ble_eq_true rfl⟩) hP hD hS hA [] [0] rfl rfl (by decide +kernel) (by decide +kernel) ?_
    clear hP hD hS
    try clear locs
    try clear H
    intro r_5 u_6 H locs hw_r_5 hP hD hS
    have hw_r_5 : r_5 = nI 0 := hw_r_5
    refine W.widen (k := 0) (n := 0) (Nat.le_of_ble_eq_true rfl) (Nat.le_of_ble_eq_true rfl) ?_
    replace hP : va_P D vwCl [(hm, .inr (12, [.ref ms, .ref mkp, .int km, .ref mtr, .int (nI 4), .int (nI 2), .int (nI 2), .int (nI 3), .int (nI 2), .int (nI 1), .ref mas, .int (nI 0), .int (nI 0), .int (nI 0), .ref mso, .ref mon, .ref mot, .ref man, .int (nI 0), .int u_4, .ref mst, .ref msm, .ref mtb, .ref mti, .ref mfr, .ref mbn, .ref mbs, .ref mde, .int (nI 0), .int (nI 0), .int (nI 0), .int (nI 0), .long 0, .long 0, .ref maa, .ref mab, .ref mba, .ref mbb]))] H := hP
    replace hD : va_D A [(hm, .inr (12, [.ref ms, .ref mkp, .int km, .ref mtr, .int (nI 4), .int (nI 2), .int (nI 2), .int (nI 3), .int (nI 2), .int (nI 1), .ref mas, .int (nI 0), .int (nI 0), .int (nI 0), .ref mso, .ref mon, .ref mot, .ref man, .int (nI 0), .int u_4, .ref mst, .ref msm, .ref mtb, .ref mti, .ref mfr, .ref mbn, .ref mbs, .ref mde, .int (nI 0), .int (nI 0), .int (nI 0), .int (nI 0), .long 0, .long 0, .ref maa, .ref mab, .ref mba, .ref mbb]))] := hD
    subst hw_r_5
    refine lv_istore (lv' := [(6, .int (nI 0)), (5, .int (nI 0)), (4, .int (nI 0)), (3, .int (nI 0)), (2, .int (nI 13)), (0, .ref hm), (1, .int (nI 1))]) hx hb dX12_drawSample_45 hl (by decide) rfl ?_
    clear hl
    try clear ls
    intro ls hl
    refine lv_iload_n hx hb dX12_drawSample_47 rfl (lv_at hl 4 rfl) ?_
    refine lv_iconst (v := nI 1) hx hb dX12_drawSample_48 (by decide) ?_
    refine lv_iload hx hb dX12_drawSample_49 (lv_at hl 0 rfl) ?_
    refine lv_ishl hx hb dX12_drawSample_51 ?_
    refine lv_topi (nm_r (e' := nI 1) (by decide) ?_)
    refine lv_iconst (v := (-1)) hx hb dX12_drawSample_52 (by decide) ?_
    refine lv_ixor hx hb dX12_drawSample_53 ?_
    refine lv_iand hx hb dX12_drawSample_54 ?_
    refine lv_topi (nm_r (e' := nI 12) (by decide) ?_)
    refine lv_istore_n (lv' := [(2, .int (nI 12)), (6, .int (nI 0)), (5, .int (nI 0)), (4, .int (nI 0)), (3, .int (nI 0)), (0, .ref hm), (1, .int (nI 1))]) hx hb dX12_drawSample_55 rfl hl (by decide) rfl ?_
    clear hl
    try clear ls
    intro ls hl
    refine lv_iload_n hx hb dX12_drawSample_56 rfl (lv_at hl 4 rfl) ?_
    refine lv_iconst (v := nI 1) hx hb dX12_drawSample_57 (by decide) ?_
    refine lv_iload hx hb dX12_drawSample_58 (lv_at hl 1 rfl) ?_
    refine lv_ishl hx hb dX12_drawSample_60 ?_
    refine lv_topi (nm_r (e' := nI 1) (by decide) ?_)
    refine lv_ior hx hb dX12_drawSample_61 ?_
    refine lv_topi (nm_r (e' := nI 1) (by decide) ?_)
    refine lv_istore_n (lv' := [(3, .int (nI 1)), (2, .int (nI 12)), (6, .int (nI 0)), (5, .int (nI 0)), (4, .int (nI 0)), (0, .ref hm), (1, .int (nI 1))]) hx hb dX12_drawSample_62 rfl hl (by decide) rfl ?_
    clear hl
    try clear ls
    intro ls hl
    refine lv_iinc (v := nI 1) (lv' := [(4, .int (nI 1)), (3, .int (nI 1)), (2, .int (nI 12)), (6, .int (nI 0)), (5, .int (nI 0)), (0, .ref hm), (1, .int (nI 1))]) hx hb dX12_drawSample_63 hl (k := 4) rfl (by decide) (by decide) rfl ?_
    clear hl
    try clear ls
    intro ls hl
    refine lv_goto (tgt := 20) hx hb dX12_drawSample_66 (by decide) ?_
    refine lv_iload hx hb dX12_drawSample_20 (lv_at hl 0 rfl) ?_
    refine lv_aload_n hx hb dX12_drawSample_22 rfl (lv_at hl 5 rfl) ?_
    refine xget C hP 0 rfl rfl zuX12 5 (by decide) zw5_218 rfl dX12_drawSample_23 ?_
    refine lv_icmp_ge (tgt := 69) hx hb dX12_drawSample_26 (by decide) (fun c => absurd c (by decide)) (fun _ => ?_)
    refine lv_aload_n hx hb dX12_drawSample_29 rfl (lv_at hl 5 rfl) ?_
    refine lv_iload_n hx hb dX12_drawSample_30 rfl (lv_at hl 2 rfl) ?_
    refine xi (wr := [(hm, .inr (12, [.ref ms, .ref mkp, .int km, .ref mtr, .int (nI 4), .int (nI 2), .int (nI 2), .int (nI 3), .int (nI 2), .int (nI 1), .ref mas, .int (nI 0), .int (nI 0), .int (nI 0), .ref mso, .ref mon, .ref mot, .ref man, .int (nI 0), .int u_4, .ref mst, .ref msm, .ref mtb, .ref mti, .ref mfr, .ref mbn, .ref mbs, .ref mde, .int (nI 0), .int (nI 0), .int (nI 0), .int (nI 0), .long 0, .long 0, .ref maa, .ref mab, .ref mba, .ref mbb]))]) (xS (As := [.int (nI 12)]) (rest := [.ref hm]) C (c_X12_many_x l D cs (nI 12)) kX12_127 hP hD [] rfl (by decide +kernel) ⟨Nat.le_of_ble_eq_true rfl, Nat.le_of_ble_eq_true rfl⟩ rfl hl.1 rfl (Nat.le_of_ble_eq_true rfl) dX12_drawSample_31 ⟨Nat.le_of_ble_eq_true rfl, Nat.le_of_ble_eq_true rfl⟩) hP hD hS hA [] [0] rfl rfl (by decide +kernel) (by decide +kernel) ?_
    clear hP hD hS
    try clear locs
    try clear H
    intro r_7 u_8 H locs hw_r_7 hP hD hS
    have hw_r_7 : r_7 = mnC (nI 12) 16 := hw_r_7
    refine W.widen (k := 0) (n := 0) (Nat.le_of_ble_eq_true rfl) (Nat.le_of_ble_eq_true rfl) ?_
    replace hP : va_P D vwCl [(hm, .inr (12, [.ref ms, .ref mkp, .int km, .ref mtr, .int (nI 4), .int (nI 2), .int (nI 2), .int (nI 3), .int (nI 2), .int (nI 1), .ref mas, .int (nI 0), .int (nI 0), .int (nI 0), .ref mso, .ref mon, .ref mot, .ref man, .int (nI 0), .int u_4, .ref mst, .ref msm, .ref mtb, .ref mti, .ref mfr, .ref mbn, .ref mbs, .ref mde, .int (nI 0), .int (nI 0), .int (nI 0), .int (nI 0), .long 0, .long 0, .ref maa, .ref mab, .ref mba, .ref mbb]))] H := hP
    replace hD : va_D A [(hm, .inr (12, [.ref ms, .ref mkp, .int km, .ref mtr, .int (nI 4), .int (nI 2), .int (nI 2), .int (nI 3), .int (nI 2), .int (nI 1), .ref mas, .int (nI 0), .int (nI 0), .int (nI 0), .ref mso, .ref mon, .ref mot, .ref man, .int (nI 0), .int u_4, .ref mst, .ref msm, .ref mtb, .ref mti, .ref mfr, .ref mbn, .ref mbs, .ref mde, .int (nI 0), .int (nI 0), .int (nI 0), .int (nI 0), .long 0, .long 0, .ref maa, .ref mab, .ref mba, .ref mbb]))] := hD
    obtain rfl : r_7 = nI 2 := by rw [hw_r_7]; decide +kernel
    refine xi (wr := []) (xV (As := [.int (nI 2)]) (rest := []) C (c_X12_draw l D cs hm ms mkp mtr mas mso mon mot man mst msm mtb mti mfr mbn mbs mde maa mab mba mbb km u_4 2 (by decide) (by decide)) kX12_156 hP hD [0] rfl (by decide +kernel) 0 rfl rfl rfl ⟨Nat.le_of_ble_eq_true rfl, Nat.le_of_ble_eq_true rfl⟩ rfl hl.1 rfl (Nat.le_of_ble_eq_true rfl) dX12_drawSample_34 ⟨Nat.le_of_ble_eq_true rfl, Nat.le_of_ble_eq_true rfl⟩) hP hD hS hA [0] [] rfl rfl (by decide +kernel) (by decide +kernel) ?_
    clear hP hD hS
    try clear locs
    try clear H
    intro r_9 u_10 H locs hw_r_9 hP hD hS
    have hw_r_9 : ∃ j, j < 2 ∧ r_9 = nI j := hw_r_9
    refine W.widen (k := 0) (n := 0) (Nat.le_of_ble_eq_true rfl) (Nat.le_of_ble_eq_true rfl) ?_
    replace hP : va_P D vwCl [(hm, .inr (12, [.ref ms, .ref mkp, .int km, .ref mtr, .int (nI 4), .int (nI 2), .int (nI 2), .int (nI 3), .int (nI 2), .int (nI 1), .ref mas, .int (nI 0), .int (nI 0), .int (nI 0), .ref mso, .ref mon, .ref mot, .ref man, .int (nI 0), .int u_10, .ref mst, .ref msm, .ref mtb, .ref mti, .ref mfr, .ref mbn, .ref mbs, .ref mde, .int (nI 0), .int (nI 0), .int (nI 0), .int (nI 0), .long 0, .long 0, .ref maa, .ref mab, .ref mba, .ref mbb]))] H := hP
    replace hD : va_D A [(hm, .inr (12, [.ref ms, .ref mkp, .int km, .ref mtr, .int (nI 4), .int (nI 2), .int (nI 2), .int (nI 3), .int (nI 2), .int (nI 1), .ref mas, .int (nI 0), .int (nI 0), .int (nI 0), .ref mso, .ref mon, .ref mot, .ref man, .int (nI 0), .int u_10, .ref mst, .ref msm, .ref mtb, .ref mti, .ref mfr, .ref mbn, .ref mbs, .ref mde, .int (nI 0), .int (nI 0), .int (nI 0), .int (nI 0), .long 0, .long 0, .ref maa, .ref mab, .ref mba, .ref mbb]))] := hD
    rcases (dr2 hw_r_9) with rfl | rfl
    · -- split
      replace hP : va_P D vwCl [(hm, .inr (12, [.ref ms, .ref mkp, .int km, .ref mtr, .int (nI 4), .int (nI 2), .int (nI 2), .int (nI 3), .int (nI 2), .int (nI 1), .ref mas, .int (nI 0), .int (nI 0), .int (nI 0), .ref mso, .ref mon, .ref mot, .ref man, .int (nI 0), .int u_10, .ref mst, .ref msm, .ref mtb, .ref mti, .ref mfr, .ref mbn, .ref mbs, .ref mde, .int (nI 0), .int (nI 0), .int (nI 0), .int (nI 0), .long 0, .long 0, .ref maa, .ref mab, .ref mba, .ref mbb]))] H := hP
      replace hD : va_D A [(hm, .inr (12, [.ref ms, .ref mkp, .int km, .ref mtr, .int (nI 4), .int (nI 2), .int (nI 2), .int (nI 3), .int (nI 2), .int (nI 1), .ref mas, .int (nI 0), .int (nI 0), .int (nI 0), .ref mso, .ref mon, .ref mot, .ref man, .int (nI 0), .int u_10, .ref mst, .ref msm, .ref mtb, .ref mti, .ref mfr, .ref mbn, .ref mbs, .ref mde, .int (nI 0), .int (nI 0), .int (nI 0), .int (nI 0), .long 0, .long 0, .ref maa, .ref mab, .ref mba, .ref mbb]))] := hD
      refine lv_istore (lv' := [(5, .int (nI 0)), (4, .int (nI 1)), (3, .int (nI 1)), (2, .int (nI 12)), (6, .int (nI 0)), (0, .ref hm), (1, .int (nI 1))]) hx hb dX12_drawSample_37 hl (by decide) rfl ?_
      clear hl
      try clear ls
      intro ls hl
      refine lv_iload_n hx hb dX12_drawSample_39 rfl (lv_at hl 3 rfl) ?_
      refine lv_iload hx hb dX12_drawSample_40 (lv_at hl 0 rfl) ?_
      refine xi (wr := [(hm, .inr (12, [.ref ms, .ref mkp, .int km, .ref mtr, .int (nI 4), .int (nI 2), .int (nI 2), .int (nI 3), .int (nI 2), .int (nI 1), .ref mas, .int (nI 0), .int (nI 0), .int (nI 0), .ref mso, .ref mon, .ref mot, .ref man, .int (nI 0), .int u_10, .ref mst, .ref msm, .ref mtb, .ref mti, .ref mfr, .ref mbn, .ref mbs, .ref mde, .int (nI 0), .int (nI 0), .int (nI 0), .int (nI 0), .long 0, .long 0, .ref maa, .ref mab, .ref mba, .ref mbb]))]) (xS (As := [.int (nI 12), .int (nI 0)]) (rest := []) C (c_X12_nth_12_0 l D cs 0) kX12_159 hP hD [] rfl (by decide +kernel) ⟨Nat.le_of_ble_eq_true rfl, Nat.le_of_ble_eq_true rfl⟩ rfl hl.1 rfl (Nat.le_of_ble_eq_true rfl) dX12_drawSample_42 ⟨Nat.le_of_ble_eq_true rfl, Nat.le_of_ble_eq_true rfl⟩) hP hD hS hA [] [0] rfl rfl (by decide +kernel) (by decide +kernel) ?_
      clear hP hD hS
      try clear locs
      try clear H
      intro r_11 u_12 H locs hw_r_11 hP hD hS
      have hw_r_11 : r_11 = nI 2 := hw_r_11
      refine W.widen (k := 0) (n := 0) (Nat.le_of_ble_eq_true rfl) (Nat.le_of_ble_eq_true rfl) ?_
      replace hP : va_P D vwCl [(hm, .inr (12, [.ref ms, .ref mkp, .int km, .ref mtr, .int (nI 4), .int (nI 2), .int (nI 2), .int (nI 3), .int (nI 2), .int (nI 1), .ref mas, .int (nI 0), .int (nI 0), .int (nI 0), .ref mso, .ref mon, .ref mot, .ref man, .int (nI 0), .int u_10, .ref mst, .ref msm, .ref mtb, .ref mti, .ref mfr, .ref mbn, .ref mbs, .ref mde, .int (nI 0), .int (nI 0), .int (nI 0), .int (nI 0), .long 0, .long 0, .ref maa, .ref mab, .ref mba, .ref mbb]))] H := hP
      replace hD : va_D A [(hm, .inr (12, [.ref ms, .ref mkp, .int km, .ref mtr, .int (nI 4), .int (nI 2), .int (nI 2), .int (nI 3), .int (nI 2), .int (nI 1), .ref mas, .int (nI 0), .int (nI 0), .int (nI 0), .ref mso, .ref mon, .ref mot, .ref man, .int (nI 0), .int u_10, .ref mst, .ref msm, .ref mtb, .ref mti, .ref mfr, .ref mbn, .ref mbs, .ref mde, .int (nI 0), .int (nI 0), .int (nI 0), .int (nI 0), .long 0, .long 0, .ref maa, .ref mab, .ref mba, .ref mbb]))] := hD
      subst hw_r_11
      refine lv_istore (lv' := [(6, .int (nI 2)), (5, .int (nI 0)), (4, .int (nI 1)), (3, .int (nI 1)), (2, .int (nI 12)), (0, .ref hm), (1, .int (nI 1))]) hx hb dX12_drawSample_45 hl (by decide) rfl ?_
      clear hl
      try clear ls
      intro ls hl
      refine lv_iload_n hx hb dX12_drawSample_47 rfl (lv_at hl 4 rfl) ?_
      refine lv_iconst (v := nI 1) hx hb dX12_drawSample_48 (by decide) ?_
      refine lv_iload hx hb dX12_drawSample_49 (lv_at hl 0 rfl) ?_
      refine lv_ishl hx hb dX12_drawSample_51 ?_
      refine lv_topi (nm_r (e' := nI 4) (by decide) ?_)
      refine lv_iconst (v := (-1)) hx hb dX12_drawSample_52 (by decide) ?_
      refine lv_ixor hx hb dX12_drawSample_53 ?_
      refine lv_iand hx hb dX12_drawSample_54 ?_
      refine lv_topi (nm_r (e' := nI 8) (by decide) ?_)
      refine lv_istore_n (lv' := [(2, .int (nI 8)), (6, .int (nI 2)), (5, .int (nI 0)), (4, .int (nI 1)), (3, .int (nI 1)), (0, .ref hm), (1, .int (nI 1))]) hx hb dX12_drawSample_55 rfl hl (by decide) rfl ?_
      clear hl
      try clear ls
      intro ls hl
      refine lv_iload_n hx hb dX12_drawSample_56 rfl (lv_at hl 4 rfl) ?_
      refine lv_iconst (v := nI 1) hx hb dX12_drawSample_57 (by decide) ?_
      refine lv_iload hx hb dX12_drawSample_58 (lv_at hl 1 rfl) ?_
      refine lv_ishl hx hb dX12_drawSample_60 ?_
      refine lv_topi (nm_r (e' := nI 4) (by decide) ?_)
      refine lv_ior hx hb dX12_drawSample_61 ?_
      refine lv_topi (nm_r (e' := nI 5) (by decide) ?_)
      refine lv_istore_n (lv' := [(3, .int (nI 5)), (2, .int (nI 8)), (6, .int (nI 2)), (5, .int (nI 0)), (4, .int (nI 1)), (0, .ref hm), (1, .int (nI 1))]) hx hb dX12_drawSample_62 rfl hl (by decide) rfl ?_
      clear hl
      try clear ls
      intro ls hl
      refine lv_iinc (v := nI 2) (lv' := [(4, .int (nI 2)), (3, .int (nI 5)), (2, .int (nI 8)), (6, .int (nI 2)), (5, .int (nI 0)), (0, .ref hm), (1, .int (nI 1))]) hx hb dX12_drawSample_63 hl (k := 4) rfl (by decide) (by decide) rfl ?_
      clear hl
      try clear ls
      intro ls hl
      refine lv_goto (tgt := 20) hx hb dX12_drawSample_66 (by decide) ?_
      refine lv_iload hx hb dX12_drawSample_20 (lv_at hl 0 rfl) ?_
      refine lv_aload_n hx hb dX12_drawSample_22 rfl (lv_at hl 5 rfl) ?_
      refine xget C hP 0 rfl rfl zuX12 5 (by decide) zw5_218 rfl dX12_drawSample_23 ?_
      refine lv_icmp_ge (tgt := 69) hx hb dX12_drawSample_26 (by decide) (fun _ => ?_) (fun c => absurd (by decide) c)
      refine lv_iload_n hx hb dX12_drawSample_69 rfl (lv_at hl 1 rfl) ?_
      exact xreti C u_10 trivial hP hD hS (Nat.le_of_ble_eq_true rfl) (Nat.le_of_ble_eq_true rfl) rfl dX12_drawSample_70
    · -- split
      replace hP : va_P D vwCl [(hm, .inr (12, [.ref ms, .ref mkp, .int km, .ref mtr, .int (nI 4), .int (nI 2), .int (nI 2), .int (nI 3), .int (nI 2), .int (nI 1), .ref mas, .int (nI 0), .int (nI 0), .int (nI 0), .ref mso, .ref mon, .ref mot, .ref man, .int (nI 0), .int u_10, .ref mst, .ref msm, .ref mtb, .ref mti, .ref mfr, .ref mbn, .ref mbs, .ref mde, .int (nI 0), .int (nI 0), .int (nI 0), .int (nI 0), .long 0, .long 0, .ref maa, .ref mab, .ref mba, .ref mbb]))] H := hP
      replace hD : va_D A [(hm, .inr (12, [.ref ms, .ref mkp, .int km, .ref mtr, .int (nI 4), .int (nI 2), .int (nI 2), .int (nI 3), .int (nI 2), .int (nI 1), .ref mas, .int (nI 0), .int (nI 0), .int (nI 0), .ref mso, .ref mon, .ref mot, .ref man, .int (nI 0), .int u_10, .ref mst, .ref msm, .ref mtb, .ref mti, .ref mfr, .ref mbn, .ref mbs, .ref mde, .int (nI 0), .int (nI 0), .int (nI 0), .int (nI 0), .long 0, .long 0, .ref maa, .ref mab, .ref mba, .ref mbb]))] := hD
      refine lv_istore (lv' := [(5, .int (nI 1)), (4, .int (nI 1)), (3, .int (nI 1)), (2, .int (nI 12)), (6, .int (nI 0)), (0, .ref hm), (1, .int (nI 1))]) hx hb dX12_drawSample_37 hl (by decide) rfl ?_
      clear hl
      try clear ls
      intro ls hl
      refine lv_iload_n hx hb dX12_drawSample_39 rfl (lv_at hl 3 rfl) ?_
      refine lv_iload hx hb dX12_drawSample_40 (lv_at hl 0 rfl) ?_
      refine xi (wr := [(hm, .inr (12, [.ref ms, .ref mkp, .int km, .ref mtr, .int (nI 4), .int (nI 2), .int (nI 2), .int (nI 3), .int (nI 2), .int (nI 1), .ref mas, .int (nI 0), .int (nI 0), .int (nI 0), .ref mso, .ref mon, .ref mot, .ref man, .int (nI 0), .int u_10, .ref mst, .ref msm, .ref mtb, .ref mti, .ref mfr, .ref mbn, .ref mbs, .ref mde, .int (nI 0), .int (nI 0), .int (nI 0), .int (nI 0), .long 0, .long 0, .ref maa, .ref mab, .ref mba, .ref mbb]))]) (xS (As := [.int (nI 12), .int (nI 1)]) (rest := []) C (c_X12_nth_12_1 l D cs 0) kX12_159 hP hD [] rfl (by decide +kernel) ⟨Nat.le_of_ble_eq_true rfl, Nat.le_of_ble_eq_true rfl⟩ rfl hl.1 rfl (Nat.le_of_ble_eq_true rfl) dX12_drawSample_42 ⟨Nat.le_of_ble_eq_true rfl, Nat.le_of_ble_eq_true rfl⟩) hP hD hS hA [] [0] rfl rfl (by decide +kernel) (by decide +kernel) ?_
      clear hP hD hS
      try clear locs
      try clear H
      intro r_13 u_14 H locs hw_r_13 hP hD hS
      have hw_r_13 : r_13 = nI 3 := hw_r_13
      refine W.widen (k := 0) (n := 0) (Nat.le_of_ble_eq_true rfl) (Nat.le_of_ble_eq_true rfl) ?_
      replace hP : va_P D vwCl [(hm, .inr (12, [.ref ms, .ref mkp, .int km, .ref mtr, .int (nI 4), .int (nI 2), .int (nI 2), .int (nI 3), .int (nI 2), .int (nI 1), .ref mas, .int (nI 0), .int (nI 0), .int (nI 0), .ref mso, .ref mon, .ref mot, .ref man, .int (nI 0), .int u_10, .ref mst, .ref msm, .ref mtb, .ref mti, .ref mfr, .ref mbn, .ref mbs, .ref mde, .int (nI 0), .int (nI 0), .int (nI 0), .int (nI 0), .long 0, .long 0, .ref maa, .ref mab, .ref mba, .ref mbb]))] H := hP
      replace hD : va_D A [(hm, .inr (12, [.ref ms, .ref mkp, .int km, .ref mtr, .int (nI 4), .int (nI 2), .int (nI 2), .int (nI 3), .int (nI 2), .int (nI 1), .ref mas, .int (nI 0), .int (nI 0), .int (nI 0), .ref mso, .ref mon, .ref mot, .ref man, .int (nI 0), .int u_10, .ref mst, .ref msm, .ref mtb, .ref mti, .ref mfr, .ref mbn, .ref mbs, .ref mde, .int (nI 0), .int (nI 0), .int (nI 0), .int (nI 0), .long 0, .long 0, .ref maa, .ref mab, .ref mba, .ref mbb]))] := hD
      subst hw_r_13
      refine lv_istore (lv' := [(6, .int (nI 3)), (5, .int (nI 1)), (4, .int (nI 1)), (3, .int (nI 1)), (2, .int (nI 12)), (0, .ref hm), (1, .int (nI 1))]) hx hb dX12_drawSample_45 hl (by decide) rfl ?_
      clear hl
      try clear ls
      intro ls hl
      refine lv_iload_n hx hb dX12_drawSample_47 rfl (lv_at hl 4 rfl) ?_
      refine lv_iconst (v := nI 1) hx hb dX12_drawSample_48 (by decide) ?_
      refine lv_iload hx hb dX12_drawSample_49 (lv_at hl 0 rfl) ?_
      refine lv_ishl hx hb dX12_drawSample_51 ?_
      refine lv_topi (nm_r (e' := nI 8) (by decide) ?_)
      refine lv_iconst (v := (-1)) hx hb dX12_drawSample_52 (by decide) ?_
      refine lv_ixor hx hb dX12_drawSample_53 ?_
      refine lv_iand hx hb dX12_drawSample_54 ?_
      refine lv_topi (nm_r (e' := nI 4) (by decide) ?_)
      refine lv_istore_n (lv' := [(2, .int (nI 4)), (6, .int (nI 3)), (5, .int (nI 1)), (4, .int (nI 1)), (3, .int (nI 1)), (0, .ref hm), (1, .int (nI 1))]) hx hb dX12_drawSample_55 rfl hl (by decide) rfl ?_
      clear hl
      try clear ls
      intro ls hl
      refine lv_iload_n hx hb dX12_drawSample_56 rfl (lv_at hl 4 rfl) ?_
      refine lv_iconst (v := nI 1) hx hb dX12_drawSample_57 (by decide) ?_
      refine lv_iload hx hb dX12_drawSample_58 (lv_at hl 1 rfl) ?_
      refine lv_ishl hx hb dX12_drawSample_60 ?_
      refine lv_topi (nm_r (e' := nI 8) (by decide) ?_)
      refine lv_ior hx hb dX12_drawSample_61 ?_
      refine lv_topi (nm_r (e' := nI 9) (by decide) ?_)
      refine lv_istore_n (lv' := [(3, .int (nI 9)), (2, .int (nI 4)), (6, .int (nI 3)), (5, .int (nI 1)), (4, .int (nI 1)), (0, .ref hm), (1, .int (nI 1))]) hx hb dX12_drawSample_62 rfl hl (by decide) rfl ?_
      clear hl
      try clear ls
      intro ls hl
      refine lv_iinc (v := nI 2) (lv' := [(4, .int (nI 2)), (3, .int (nI 9)), (2, .int (nI 4)), (6, .int (nI 3)), (5, .int (nI 1)), (0, .ref hm), (1, .int (nI 1))]) hx hb dX12_drawSample_63 hl (k := 4) rfl (by decide) (by decide) rfl ?_
      clear hl
      try clear ls
      intro ls hl
      refine lv_goto (tgt := 20) hx hb dX12_drawSample_66 (by decide) ?_
      refine lv_iload hx hb dX12_drawSample_20 (lv_at hl 0 rfl) ?_
      refine lv_aload_n hx hb dX12_drawSample_22 rfl (lv_at hl 5 rfl) ?_
      refine xget C hP 0 rfl rfl zuX12 5 (by decide) zw5_218 rfl dX12_drawSample_23 ?_
      refine lv_icmp_ge (tgt := 69) hx hb dX12_drawSample_26 (by decide) (fun _ => ?_) (fun c => absurd (by decide) c)
      refine lv_iload_n hx hb dX12_drawSample_69 rfl (lv_at hl 1 rfl) ?_
      exact xreti C u_10 trivial hP hD hS (Nat.le_of_ble_eq_true rfl) (Nat.le_of_ble_eq_true rfl) rfl dX12_drawSample_70
  · -- split
    replace hP : va_P D vwCl [(hm, .inr (12, [.ref ms, .ref mkp, .int km, .ref mtr, .int (nI 4), .int (nI 2), .int (nI 2), .int (nI 3), .int (nI 2), .int (nI 1), .ref mas, .int (nI 0), .int (nI 0), .int (nI 0), .ref mso, .ref mon, .ref mot, .ref man, .int (nI 0), .int u_4, .ref mst, .ref msm, .ref mtb, .ref mti, .ref mfr, .ref mbn, .ref mbs, .ref mde, .int (nI 0), .int (nI 0), .int (nI 0), .int (nI 0), .long 0, .long 0, .ref maa, .ref mab, .ref mba, .ref mbb]))] H := hP
    replace hD : va_D A [(hm, .inr (12, [.ref ms, .ref mkp, .int km, .ref mtr, .int (nI 4), .int (nI 2), .int (nI 2), .int (nI 3), .int (nI 2), .int (nI 1), .ref mas, .int (nI 0), .int (nI 0), .int (nI 0), .ref mso, .ref mon, .ref mot, .ref man, .int (nI 0), .int u_4, .ref mst, .ref msm, .ref mtb, .ref mti, .ref mfr, .ref mbn, .ref mbs, .ref mde, .int (nI 0), .int (nI 0), .int (nI 0), .int (nI 0), .long 0, .long 0, .ref maa, .ref mab, .ref mba, .ref mbb]))] := hD
    refine lv_istore (lv' := [(5, .int (nI 1)), (4, .int (nI 0)), (3, .int (nI 0)), (2, .int (nI 13)), (0, .ref hm), (1, .int (nI 1))]) hx hb dX12_drawSample_37 hl (by decide) rfl ?_
    clear hl
    try clear ls
    intro ls hl
    refine lv_iload_n hx hb dX12_drawSample_39 rfl (lv_at hl 3 rfl) ?_
    refine lv_iload hx hb dX12_drawSample_40 (lv_at hl 0 rfl) ?_
    refine xi (wr := [(hm, .inr (12, [.ref ms, .ref mkp, .int km, .ref mtr, .int (nI 4), .int (nI 2), .int (nI 2), .int (nI 3), .int (nI 2), .int (nI 1), .ref mas, .int (nI 0), .int (nI 0), .int (nI 0), .ref mso, .ref mon, .ref mot, .ref man, .int (nI 0), .int u_4, .ref mst, .ref msm, .ref mtb, .ref mti, .ref mfr, .ref mbn, .ref mbs, .ref mde, .int (nI 0), .int (nI 0), .int (nI 0), .int (nI 0), .long 0, .long 0, .ref maa, .ref mab, .ref mba, .ref mbb]))]) (xS (As := [.int (nI 13), .int (nI 1)]) (rest := []) C (c_X12_nth_13_1 l D cs 0) kX12_159 hP hD [] rfl (by decide +kernel) ⟨Nat.le_of_ble_eq_true rfl, Nat.le_of_ble_eq_true rfl⟩ rfl hl.1 rfl (Nat.le_of_ble_eq_true rfl) dX12_drawSample_42 ⟨Nat.le_of_ble_eq_true rfl, Nat.le_of_ble_eq_true rfl⟩) hP hD hS hA [] [0] rfl rfl (by decide +kernel) (by decide +kernel) ?_
    clear hP hD hS
    try clear locs
    try clear H
    intro r_15 u_16 H locs hw_r_15 hP hD hS
    have hw_r_15 : r_15 = nI 2 := hw_r_15
    refine W.widen (k := 0) (n := 0) (Nat.le_of_ble_eq_true rfl) (Nat.le_of_ble_eq_true rfl) ?_
    replace hP : va_P D vwCl [(hm, .inr (12, [.ref ms, .ref mkp, .int km, .ref mtr, .int (nI 4), .int (nI 2), .int (nI 2), .int (nI 3), .int (nI 2), .int (nI 1), .ref mas, .int (nI 0), .int (nI 0), .int (nI 0), .ref mso, .ref mon, .ref mot, .ref man, .int (nI 0), .int u_4, .ref mst, .ref msm, .ref mtb, .ref mti, .ref mfr, .ref mbn, .ref mbs, .ref mde, .int (nI 0), .int (nI 0), .int (nI 0), .int (nI 0), .long 0, .long 0, .ref maa, .ref mab, .ref mba, .ref mbb]))] H := hP
    replace hD : va_D A [(hm, .inr (12, [.ref ms, .ref mkp, .int km, .ref mtr, .int (nI 4), .int (nI 2), .int (nI 2), .int (nI 3), .int (nI 2), .int (nI 1), .ref mas, .int (nI 0), .int (nI 0), .int (nI 0), .ref mso, .ref mon, .ref mot, .ref man, .int (nI 0), .int u_4, .ref mst, .ref msm, .ref mtb, .ref mti, .ref mfr, .ref mbn, .ref mbs, .ref mde, .int (nI 0), .int (nI 0), .int (nI 0), .int (nI 0), .long 0, .long 0, .ref maa, .ref mab, .ref mba, .ref mbb]))] := hD
    subst hw_r_15
    refine lv_istore (lv' := [(6, .int (nI 2)), (5, .int (nI 1)), (4, .int (nI 0)), (3, .int (nI 0)), (2, .int (nI 13)), (0, .ref hm), (1, .int (nI 1))]) hx hb dX12_drawSample_45 hl (by decide) rfl ?_
    clear hl
    try clear ls
    intro ls hl
    refine lv_iload_n hx hb dX12_drawSample_47 rfl (lv_at hl 4 rfl) ?_
    refine lv_iconst (v := nI 1) hx hb dX12_drawSample_48 (by decide) ?_
    refine lv_iload hx hb dX12_drawSample_49 (lv_at hl 0 rfl) ?_
    refine lv_ishl hx hb dX12_drawSample_51 ?_
    refine lv_topi (nm_r (e' := nI 4) (by decide) ?_)
    refine lv_iconst (v := (-1)) hx hb dX12_drawSample_52 (by decide) ?_
    refine lv_ixor hx hb dX12_drawSample_53 ?_
    refine lv_iand hx hb dX12_drawSample_54 ?_
    refine lv_topi (nm_r (e' := nI 9) (by decide) ?_)
    refine lv_istore_n (lv' := [(2, .int (nI 9)), (6, .int (nI 2)), (5, .int (nI 1)), (4, .int (nI 0)), (3, .int (nI 0)), (0, .ref hm), (1, .int (nI 1))]) hx hb dX12_drawSample_55 rfl hl (by decide) rfl ?_
    clear hl
    try clear ls
    intro ls hl
    refine lv_iload_n hx hb dX12_drawSample_56 rfl (lv_at hl 4 rfl) ?_
    refine lv_iconst (v := nI 1) hx hb dX12_drawSample_57 (by decide) ?_
    refine lv_iload hx hb dX12_drawSample_58 (lv_at hl 1 rfl) ?_
    refine lv_ishl hx hb dX12_drawSample_60 ?_
    refine lv_topi (nm_r (e' := nI 4) (by decide) ?_)
    refine lv_ior hx hb dX12_drawSample_61 ?_
    refine lv_topi (nm_r (e' := nI 4) (by decide) ?_)
    refine lv_istore_n (lv' := [(3, .int (nI 4)), (2, .int (nI 9)), (6, .int (nI 2)), (5, .int (nI 1)), (4, .int (nI 0)), (0, .ref hm), (1, .int (nI 1))]) hx hb dX12_drawSample_62 rfl hl (by decide) rfl ?_
    clear hl
    try clear ls
    intro ls hl
    refine lv_iinc (v := nI 1) (lv' := [(4, .int (nI 1)), (3, .int (nI 4)), (2, .int (nI 9)), (6, .int (nI 2)), (5, .int (nI 1)), (0, .ref hm), (1, .int (nI 1))]) hx hb dX12_drawSample_63 hl (k := 4) rfl (by decide) (by decide) rfl ?_
    clear hl
    try clear ls
    intro ls hl
    refine lv_goto (tgt := 20) hx hb dX12_drawSample_66 (by decide) ?_
    refine lv_iload hx hb dX12_drawSample_20 (lv_at hl 0 rfl) ?_
    refine lv_aload_n hx hb dX12_drawSample_22 rfl (lv_at hl 5 rfl) ?_
    refine xget C hP 0 rfl rfl zuX12 5 (by decide) zw5_218 rfl dX12_drawSample_23 ?_
    refine lv_icmp_ge (tgt := 69) hx hb dX12_drawSample_26 (by decide) (fun c => absurd c (by decide)) (fun _ => ?_)
    refine lv_aload_n hx hb dX12_drawSample_29 rfl (lv_at hl 5 rfl) ?_
    refine lv_iload_n hx hb dX12_drawSample_30 rfl (lv_at hl 2 rfl) ?_
    refine xi (wr := [(hm, .inr (12, [.ref ms, .ref mkp, .int km, .ref mtr, .int (nI 4), .int (nI 2), .int (nI 2), .int (nI 3), .int (nI 2), .int (nI 1), .ref mas, .int (nI 0), .int (nI 0), .int (nI 0), .ref mso, .ref mon, .ref mot, .ref man, .int (nI 0), .int u_4, .ref mst, .ref msm, .ref mtb, .ref mti, .ref mfr, .ref mbn, .ref mbs, .ref mde, .int (nI 0), .int (nI 0), .int (nI 0), .int (nI 0), .long 0, .long 0, .ref maa, .ref mab, .ref mba, .ref mbb]))]) (xS (As := [.int (nI 9)]) (rest := [.ref hm]) C (c_X12_many_x l D cs (nI 9)) kX12_127 hP hD [] rfl (by decide +kernel) ⟨Nat.le_of_ble_eq_true rfl, Nat.le_of_ble_eq_true rfl⟩ rfl hl.1 rfl (Nat.le_of_ble_eq_true rfl) dX12_drawSample_31 ⟨Nat.le_of_ble_eq_true rfl, Nat.le_of_ble_eq_true rfl⟩) hP hD hS hA [] [0] rfl rfl (by decide +kernel) (by decide +kernel) ?_
    clear hP hD hS
    try clear locs
    try clear H
    intro r_17 u_18 H locs hw_r_17 hP hD hS
    have hw_r_17 : r_17 = mnC (nI 9) 16 := hw_r_17
    refine W.widen (k := 0) (n := 0) (Nat.le_of_ble_eq_true rfl) (Nat.le_of_ble_eq_true rfl) ?_
    replace hP : va_P D vwCl [(hm, .inr (12, [.ref ms, .ref mkp, .int km, .ref mtr, .int (nI 4), .int (nI 2), .int (nI 2), .int (nI 3), .int (nI 2), .int (nI 1), .ref mas, .int (nI 0), .int (nI 0), .int (nI 0), .ref mso, .ref mon, .ref mot, .ref man, .int (nI 0), .int u_4, .ref mst, .ref msm, .ref mtb, .ref mti, .ref mfr, .ref mbn, .ref mbs, .ref mde, .int (nI 0), .int (nI 0), .int (nI 0), .int (nI 0), .long 0, .long 0, .ref maa, .ref mab, .ref mba, .ref mbb]))] H := hP
    replace hD : va_D A [(hm, .inr (12, [.ref ms, .ref mkp, .int km, .ref mtr, .int (nI 4), .int (nI 2), .int (nI 2), .int (nI 3), .int (nI 2), .int (nI 1), .ref mas, .int (nI 0), .int (nI 0), .int (nI 0), .ref mso, .ref mon, .ref mot, .ref man, .int (nI 0), .int u_4, .ref mst, .ref msm, .ref mtb, .ref mti, .ref mfr, .ref mbn, .ref mbs, .ref mde, .int (nI 0), .int (nI 0), .int (nI 0), .int (nI 0), .long 0, .long 0, .ref maa, .ref mab, .ref mba, .ref mbb]))] := hD
    obtain rfl : r_17 = nI 2 := by rw [hw_r_17]; decide +kernel
    refine xi (wr := []) (xV (As := [.int (nI 2)]) (rest := []) C (c_X12_draw l D cs hm ms mkp mtr mas mso mon mot man mst msm mtb mti mfr mbn mbs mde maa mab mba mbb km u_4 2 (by decide) (by decide)) kX12_156 hP hD [0] rfl (by decide +kernel) 0 rfl rfl rfl ⟨Nat.le_of_ble_eq_true rfl, Nat.le_of_ble_eq_true rfl⟩ rfl hl.1 rfl (Nat.le_of_ble_eq_true rfl) dX12_drawSample_34 ⟨Nat.le_of_ble_eq_true rfl, Nat.le_of_ble_eq_true rfl⟩) hP hD hS hA [0] [] rfl rfl (by decide +kernel) (by decide +kernel) ?_
    clear hP hD hS
    try clear locs
    try clear H
    intro r_19 u_20 H locs hw_r_19 hP hD hS
    have hw_r_19 : ∃ j, j < 2 ∧ r_19 = nI j := hw_r_19
    refine W.widen (k := 0) (n := 0) (Nat.le_of_ble_eq_true rfl) (Nat.le_of_ble_eq_true rfl) ?_
    replace hP : va_P D vwCl [(hm, .inr (12, [.ref ms, .ref mkp, .int km, .ref mtr, .int (nI 4), .int (nI 2), .int (nI 2), .int (nI 3), .int (nI 2), .int (nI 1), .ref mas, .int (nI 0), .int (nI 0), .int (nI 0), .ref mso, .ref mon, .ref mot, .ref man, .int (nI 0), .int u_20, .ref mst, .ref msm, .ref mtb, .ref mti, .ref mfr, .ref mbn, .ref mbs, .ref mde, .int (nI 0), .int (nI 0), .int (nI 0), .int (nI 0), .long 0, .long 0, .ref maa, .ref mab, .ref mba, .ref mbb]))] H := hP
    replace hD : va_D A [(hm, .inr (12, [.ref ms, .ref mkp, .int km, .ref mtr, .int (nI 4), .int (nI 2), .int (nI 2), .int (nI 3), .int (nI 2), .int (nI 1), .ref mas, .int (nI 0), .int (nI 0), .int (nI 0), .ref mso, .ref mon, .ref mot, .ref man, .int (nI 0), .int u_20, .ref mst, .ref msm, .ref mtb, .ref mti, .ref mfr, .ref mbn, .ref mbs, .ref mde, .int (nI 0), .int (nI 0), .int (nI 0), .int (nI 0), .long 0, .long 0, .ref maa, .ref mab, .ref mba, .ref mbb]))] := hD
    rcases (dr2 hw_r_19) with rfl | rfl
    · -- split
      replace hP : va_P D vwCl [(hm, .inr (12, [.ref ms, .ref mkp, .int km, .ref mtr, .int (nI 4), .int (nI 2), .int (nI 2), .int (nI 3), .int (nI 2), .int (nI 1), .ref mas, .int (nI 0), .int (nI 0), .int (nI 0), .ref mso, .ref mon, .ref mot, .ref man, .int (nI 0), .int u_20, .ref mst, .ref msm, .ref mtb, .ref mti, .ref mfr, .ref mbn, .ref mbs, .ref mde, .int (nI 0), .int (nI 0), .int (nI 0), .int (nI 0), .long 0, .long 0, .ref maa, .ref mab, .ref mba, .ref mbb]))] H := hP
      replace hD : va_D A [(hm, .inr (12, [.ref ms, .ref mkp, .int km, .ref mtr, .int (nI 4), .int (nI 2), .int (nI 2), .int (nI 3), .int (nI 2), .int (nI 1), .ref mas, .int (nI 0), .int (nI 0), .int (nI 0), .ref mso, .ref mon, .ref mot, .ref man, .int (nI 0), .int u_20, .ref mst, .ref msm, .ref mtb, .ref mti, .ref mfr, .ref mbn, .ref mbs, .ref mde, .int (nI 0), .int (nI 0), .int (nI 0), .int (nI 0), .long 0, .long 0, .ref maa, .ref mab, .ref mba, .ref mbb]))] := hD
      refine lv_istore (lv' := [(5, .int (nI 0)), (4, .int (nI 1)), (3, .int (nI 4)), (2, .int (nI 9)), (6, .int (nI 2)), (0, .ref hm), (1, .int (nI 1))]) hx hb dX12_drawSample_37 hl (by decide) rfl ?_
      clear hl
      try clear ls
      intro ls hl
      refine lv_iload_n hx hb dX12_drawSample_39 rfl (lv_at hl 3 rfl) ?_
      refine lv_iload hx hb dX12_drawSample_40 (lv_at hl 0 rfl) ?_
      refine xi (wr := [(hm, .inr (12, [.ref ms, .ref mkp, .int km, .ref mtr, .int (nI 4), .int (nI 2), .int (nI 2), .int (nI 3), .int (nI 2), .int (nI 1), .ref mas, .int (nI 0), .int (nI 0), .int (nI 0), .ref mso, .ref mon, .ref mot, .ref man, .int (nI 0), .int u_20, .ref mst, .ref msm, .ref mtb, .ref mti, .ref mfr, .ref mbn, .ref mbs, .ref mde, .int (nI 0), .int (nI 0), .int (nI 0), .int (nI 0), .long 0, .long 0, .ref maa, .ref mab, .ref mba, .ref mbb]))]) (xS (As := [.int (nI 9), .int (nI 0)]) (rest := []) C (c_X12_nth_9_0 l D cs 0) kX12_159 hP hD [] rfl (by decide +kernel) ⟨Nat.le_of_ble_eq_true rfl, Nat.le_of_ble_eq_true rfl⟩ rfl hl.1 rfl (Nat.le_of_ble_eq_true rfl) dX12_drawSample_42 ⟨Nat.le_of_ble_eq_true rfl, Nat.le_of_ble_eq_true rfl⟩) hP hD hS hA [] [0] rfl rfl (by decide +kernel) (by decide +kernel) ?_
      clear hP hD hS
      try clear locs
      try clear H
      intro r_21 u_22 H locs hw_r_21 hP hD hS
      have hw_r_21 : r_21 = nI 0 := hw_r_21
      refine W.widen (k := 0) (n := 0) (Nat.le_of_ble_eq_true rfl) (Nat.le_of_ble_eq_true rfl) ?_
      replace hP : va_P D vwCl [(hm, .inr (12, [.ref ms, .ref mkp, .int km, .ref mtr, .int (nI 4), .int (nI 2), .int (nI 2), .int (nI 3), .int (nI 2), .int (nI 1), .ref mas, .int (nI 0), .int (nI 0), .int (nI 0), .ref mso, .ref mon, .ref mot, .ref man, .int (nI 0), .int u_20, .ref mst, .ref msm, .ref mtb, .ref mti, .ref mfr, .ref mbn, .ref mbs, .ref mde, .int (nI 0), .int (nI 0), .int (nI 0), .int (nI 0), .long 0, .long 0, .ref maa, .ref mab, .ref mba, .ref mbb]))] H := hP
      replace hD : va_D A [(hm, .inr (12, [.ref ms, .ref mkp, .int km, .ref mtr, .int (nI 4), .int (nI 2), .int (nI 2), .int (nI 3), .int (nI 2), .int (nI 1), .ref mas, .int (nI 0), .int (nI 0), .int (nI 0), .ref mso, .ref mon, .ref mot, .ref man, .int (nI 0), .int u_20, .ref mst, .ref msm, .ref mtb, .ref mti, .ref mfr, .ref mbn, .ref mbs, .ref mde, .int (nI 0), .int (nI 0), .int (nI 0), .int (nI 0), .long 0, .long 0, .ref maa, .ref mab, .ref mba, .ref mbb]))] := hD
      subst hw_r_21
      refine lv_istore (lv' := [(6, .int (nI 0)), (5, .int (nI 0)), (4, .int (nI 1)), (3, .int (nI 4)), (2, .int (nI 9)), (0, .ref hm), (1, .int (nI 1))]) hx hb dX12_drawSample_45 hl (by decide) rfl ?_
      clear hl
      try clear ls
      intro ls hl
      refine lv_iload_n hx hb dX12_drawSample_47 rfl (lv_at hl 4 rfl) ?_
      refine lv_iconst (v := nI 1) hx hb dX12_drawSample_48 (by decide) ?_
      refine lv_iload hx hb dX12_drawSample_49 (lv_at hl 0 rfl) ?_
      refine lv_ishl hx hb dX12_drawSample_51 ?_
      refine lv_topi (nm_r (e' := nI 1) (by decide) ?_)
      refine lv_iconst (v := (-1)) hx hb dX12_drawSample_52 (by decide) ?_
      refine lv_ixor hx hb dX12_drawSample_53 ?_
      refine lv_iand hx hb dX12_drawSample_54 ?_
      refine lv_topi (nm_r (e' := nI 8) (by decide) ?_)
      refine lv_istore_n (lv' := [(2, .int (nI 8)), (6, .int (nI 0)), (5, .int (nI 0)), (4, .int (nI 1)), (3, .int (nI 4)), (0, .ref hm), (1, .int (nI 1))]) hx hb dX12_drawSample_55 rfl hl (by decide) rfl ?_
      clear hl
      try clear ls
      intro ls hl
      refine lv_iload_n hx hb dX12_drawSample_56 rfl (lv_at hl 4 rfl) ?_
      refine lv_iconst (v := nI 1) hx hb dX12_drawSample_57 (by decide) ?_
      refine lv_iload hx hb dX12_drawSample_58 (lv_at hl 1 rfl) ?_
      refine lv_ishl hx hb dX12_drawSample_60 ?_
      refine lv_topi (nm_r (e' := nI 1) (by decide) ?_)
      refine lv_ior hx hb dX12_drawSample_61 ?_
      refine lv_topi (nm_r (e' := nI 5) (by decide) ?_)
      refine lv_istore_n (lv' := [(3, .int (nI 5)), (2, .int (nI 8)), (6, .int (nI 0)), (5, .int (nI 0)), (4, .int (nI 1)), (0, .ref hm), (1, .int (nI 1))]) hx hb dX12_drawSample_62 rfl hl (by decide) rfl ?_
      clear hl
      try clear ls
      intro ls hl
      refine lv_iinc (v := nI 2) (lv' := [(4, .int (nI 2)), (3, .int (nI 5)), (2, .int (nI 8)), (6, .int (nI 0)), (5, .int (nI 0)), (0, .ref hm), (1, .int (nI 1))]) hx hb dX12_drawSample_63 hl (k := 4) rfl (by decide) (by decide) rfl ?_
      clear hl
      try clear ls
      intro ls hl
      refine lv_goto (tgt := 20) hx hb dX12_drawSample_66 (by decide) ?_
      refine lv_iload hx hb dX12_drawSample_20 (lv_at hl 0 rfl) ?_
      refine lv_aload_n hx hb dX12_drawSample_22 rfl (lv_at hl 5 rfl) ?_
      refine xget C hP 0 rfl rfl zuX12 5 (by decide) zw5_218 rfl dX12_drawSample_23 ?_
      refine lv_icmp_ge (tgt := 69) hx hb dX12_drawSample_26 (by decide) (fun _ => ?_) (fun c => absurd (by decide) c)
      refine lv_iload_n hx hb dX12_drawSample_69 rfl (lv_at hl 1 rfl) ?_
      exact xreti C u_20 trivial hP hD hS (Nat.le_of_ble_eq_true rfl) (Nat.le_of_ble_eq_true rfl) rfl dX12_drawSample_70
    · -- split
      replace hP : va_P D vwCl [(hm, .inr (12, [.ref ms, .ref mkp, .int km, .ref mtr, .int (nI 4), .int (nI 2), .int (nI 2), .int (nI 3), .int (nI 2), .int (nI 1), .ref mas, .int (nI 0), .int (nI 0), .int (nI 0), .ref mso, .ref mon, .ref mot, .ref man, .int (nI 0), .int u_20, .ref mst, .ref msm, .ref mtb, .ref mti, .ref mfr, .ref mbn, .ref mbs, .ref mde, .int (nI 0), .int (nI 0), .int (nI 0), .int (nI 0), .long 0, .long 0, .ref maa, .ref mab, .ref mba, .ref mbb]))] H := hP
      replace hD : va_D A [(hm, .inr (12, [.ref ms, .ref mkp, .int km, .ref mtr, .int (nI 4), .int (nI 2), .int (nI 2), .int (nI 3), .int (nI 2), .int (nI 1), .ref mas, .int (nI 0), .int (nI 0), .int (nI 0), .ref mso, .ref mon, .ref mot, .ref man, .int (nI 0), .int u_20, .ref mst, .ref msm, .ref mtb, .ref mti, .ref mfr, .ref mbn, .ref mbs, .ref mde, .int (nI 0), .int (nI 0), .int (nI 0), .int (nI 0), .long 0, .long 0, .ref maa, .ref mab, .ref mba, .ref mbb]))] := hD
      refine lv_istore (lv' := [(5, .int (nI 1)), (4, .int (nI 1)), (3, .int (nI 4)), (2, .int (nI 9)), (6, .int (nI 2)), (0, .ref hm), (1, .int (nI 1))]) hx hb dX12_drawSample_37 hl (by decide) rfl ?_
      clear hl
      try clear ls
      intro ls hl
      refine lv_iload_n hx hb dX12_drawSample_39 rfl (lv_at hl 3 rfl) ?_
      refine lv_iload hx hb dX12_drawSample_40 (lv_at hl 0 rfl) ?_
      refine xi (wr := [(hm, .inr (12, [.ref ms, .ref mkp, .int km, .ref mtr, .int (nI 4), .int (nI 2), .int (nI 2), .int (nI 3), .int (nI 2), .int (nI 1), .ref mas, .int (nI 0), .int (nI 0), .int (nI 0), .ref mso, .ref mon, .ref mot, .ref man, .int (nI 0), .int u_20, .ref mst, .ref msm, .ref mtb, .ref mti, .ref mfr, .ref mbn, .ref mbs, .ref mde, .int (nI 0), .int (nI 0), .int (nI 0), .int (nI 0), .long 0, .long 0, .ref maa, .ref mab, .ref mba, .ref mbb]))]) (xS (As := [.int (nI 9), .int (nI 1)]) (rest := []) C (c_X12_nth_9_1 l D cs 0) kX12_159 hP hD [] rfl (by decide +kernel) ⟨Nat.le_of_ble_eq_true rfl, Nat.le_of_ble_eq_true rfl⟩ rfl hl.1 rfl (Nat.le_of_ble_eq_true rfl) dX12_drawSample_42 ⟨Nat.le_of_ble_eq_true rfl, Nat.le_of_ble_eq_true rfl⟩) hP hD hS hA [] [0] rfl rfl (by decide +kernel) (by decide +kernel) ?_
      clear hP hD hS
      try clear locs
      try clear H
      intro r_23 u_24 H locs hw_r_23 hP hD hS
      have hw_r_23 : r_23 = nI 3 := hw_r_23
      refine W.widen (k := 0) (n := 0) (Nat.le_of_ble_eq_true rfl) (Nat.le_of_ble_eq_true rfl) ?_
      replace hP : va_P D vwCl [(hm, .inr (12, [.ref ms, .ref mkp, .int km, .ref mtr, .int (nI 4), .int (nI 2), .int (nI 2), .int (nI 3), .int (nI 2), .int (nI 1), .ref mas, .int (nI 0), .int (nI 0), .int (nI 0), .ref mso, .ref mon, .ref mot, .ref man, .int (nI 0), .int u_20, .ref mst, .ref msm, .ref mtb, .ref mti, .ref mfr, .ref mbn, .ref mbs, .ref mde, .int (nI 0), .int (nI 0), .int (nI 0), .int (nI 0), .long 0, .long 0, .ref maa, .ref mab, .ref mba, .ref mbb]))] H := hP
      replace hD : va_D A [(hm, .inr (12, [.ref ms, .ref mkp, .int km, .ref mtr, .int (nI 4), .int (nI 2), .int (nI 2), .int (nI 3), .int (nI 2), .int (nI 1), .ref mas, .int (nI 0), .int (nI 0), .int (nI 0), .ref mso, .ref mon, .ref mot, .ref man, .int (nI 0), .int u_20, .ref mst, .ref msm, .ref mtb, .ref mti, .ref mfr, .ref mbn, .ref mbs, .ref mde, .int (nI 0), .int (nI 0), .int (nI 0), .int (nI 0), .long 0, .long 0, .ref maa, .ref mab, .ref mba, .ref mbb]))] := hD
      subst hw_r_23
      refine lv_istore (lv' := [(6, .int (nI 3)), (5, .int (nI 1)), (4, .int (nI 1)), (3, .int (nI 4)), (2, .int (nI 9)), (0, .ref hm), (1, .int (nI 1))]) hx hb dX12_drawSample_45 hl (by decide) rfl ?_
      clear hl
      try clear ls
      intro ls hl
      refine lv_iload_n hx hb dX12_drawSample_47 rfl (lv_at hl 4 rfl) ?_
      refine lv_iconst (v := nI 1) hx hb dX12_drawSample_48 (by decide) ?_
      refine lv_iload hx hb dX12_drawSample_49 (lv_at hl 0 rfl) ?_
      refine lv_ishl hx hb dX12_drawSample_51 ?_
      refine lv_topi (nm_r (e' := nI 8) (by decide) ?_)
      refine lv_iconst (v := (-1)) hx hb dX12_drawSample_52 (by decide) ?_
      refine lv_ixor hx hb dX12_drawSample_53 ?_
      refine lv_iand hx hb dX12_drawSample_54 ?_
      refine lv_topi (nm_r (e' := nI 1) (by decide) ?_)
      refine lv_istore_n (lv' := [(2, .int (nI 1)), (6, .int (nI 3)), (5, .int (nI 1)), (4, .int (nI 1)), (3, .int (nI 4)), (0, .ref hm), (1, .int (nI 1))]) hx hb dX12_drawSample_55 rfl hl (by decide) rfl ?_
      clear hl
      try clear ls
      intro ls hl
      refine lv_iload_n hx hb dX12_drawSample_56 rfl (lv_at hl 4 rfl) ?_
      refine lv_iconst (v := nI 1) hx hb dX12_drawSample_57 (by decide) ?_
      refine lv_iload hx hb dX12_drawSample_58 (lv_at hl 1 rfl) ?_
      refine lv_ishl hx hb dX12_drawSample_60 ?_
      refine lv_topi (nm_r (e' := nI 8) (by decide) ?_)
      refine lv_ior hx hb dX12_drawSample_61 ?_
      refine lv_topi (nm_r (e' := nI 12) (by decide) ?_)
      refine lv_istore_n (lv' := [(3, .int (nI 12)), (2, .int (nI 1)), (6, .int (nI 3)), (5, .int (nI 1)), (4, .int (nI 1)), (0, .ref hm), (1, .int (nI 1))]) hx hb dX12_drawSample_62 rfl hl (by decide) rfl ?_
      clear hl
      try clear ls
      intro ls hl
      refine lv_iinc (v := nI 2) (lv' := [(4, .int (nI 2)), (3, .int (nI 12)), (2, .int (nI 1)), (6, .int (nI 3)), (5, .int (nI 1)), (0, .ref hm), (1, .int (nI 1))]) hx hb dX12_drawSample_63 hl (k := 4) rfl (by decide) (by decide) rfl ?_
      clear hl
      try clear ls
      intro ls hl
      refine lv_goto (tgt := 20) hx hb dX12_drawSample_66 (by decide) ?_
      refine lv_iload hx hb dX12_drawSample_20 (lv_at hl 0 rfl) ?_
      refine lv_aload_n hx hb dX12_drawSample_22 rfl (lv_at hl 5 rfl) ?_
      refine xget C hP 0 rfl rfl zuX12 5 (by decide) zw5_218 rfl dX12_drawSample_23 ?_
      refine lv_icmp_ge (tgt := 69) hx hb dX12_drawSample_26 (by decide) (fun _ => ?_) (fun c => absurd (by decide) c)
      refine lv_iload_n hx hb dX12_drawSample_69 rfl (lv_at hl 1 rfl) ?_
      exact xreti C u_20 trivial hP hD hS (Nat.le_of_ble_eq_true rfl) (Nat.le_of_ble_eq_true rfl) rfl dX12_drawSample_70
  · -- split
    replace hP : va_P D vwCl [(hm, .inr (12, [.ref ms, .ref mkp, .int km, .ref mtr, .int (nI 4), .int (nI 2), .int (nI 2), .int (nI 3), .int (nI 2), .int (nI 1), .ref mas, .int (nI 0), .int (nI 0), .int (nI 0), .ref mso, .ref mon, .ref mot, .ref man, .int (nI 0), .int u_4, .ref mst, .ref msm, .ref mtb, .ref mti, .ref mfr, .ref mbn, .ref mbs, .ref mde, .int (nI 0), .int (nI 0), .int (nI 0), .int (nI 0), .long 0, .long 0, .ref maa, .ref mab, .ref mba, .ref mbb]))] H := hP
    replace hD : va_D A [(hm, .inr (12, [.ref ms, .ref mkp, .int km, .ref mtr, .int (nI 4), .int (nI 2), .int (nI 2), .int (nI 3), .int (nI 2), .int (nI 1), .ref mas, .int (nI 0), .int (nI 0), .int (nI 0), .ref mso, .ref mon, .ref mot, .ref man, .int (nI 0), .int u_4, .ref mst, .ref msm, .ref mtb, .ref mti, .ref mfr, .ref mbn, .ref mbs, .ref mde, .int (nI 0), .int (nI 0), .int (nI 0), .int (nI 0), .long 0, .long 0, .ref maa, .ref mab, .ref mba, .ref mbb]))] := hD
    refine lv_istore (lv' := [(5, .int (nI 2)), (4, .int (nI 0)), (3, .int (nI 0)), (2, .int (nI 13)), (0, .ref hm), (1, .int (nI 1))]) hx hb dX12_drawSample_37 hl (by decide) rfl ?_
    clear hl
    try clear ls
    intro ls hl
    refine lv_iload_n hx hb dX12_drawSample_39 rfl (lv_at hl 3 rfl) ?_
    refine lv_iload hx hb dX12_drawSample_40 (lv_at hl 0 rfl) ?_
    refine xi (wr := [(hm, .inr (12, [.ref ms, .ref mkp, .int km, .ref mtr, .int (nI 4), .int (nI 2), .int (nI 2), .int (nI 3), .int (nI 2), .int (nI 1), .ref mas, .int (nI 0), .int (nI 0), .int (nI 0), .ref mso, .ref mon, .ref mot, .ref man, .int (nI 0), .int u_4, .ref mst, .ref msm, .ref mtb, .ref mti, .ref mfr, .ref mbn, .ref mbs, .ref mde, .int (nI 0), .int (nI 0), .int (nI 0), .int (nI 0), .long 0, .long 0, .ref maa, .ref mab, .ref mba, .ref mbb]))]) (xS (As := [.int (nI 13), .int (nI 2)]) (rest := []) C (c_X12_nth_13_2 l D cs 0) kX12_159 hP hD [] rfl (by decide +kernel) ⟨Nat.le_of_ble_eq_true rfl, Nat.le_of_ble_eq_true rfl⟩ rfl hl.1 rfl (Nat.le_of_ble_eq_true rfl) dX12_drawSample_42 ⟨Nat.le_of_ble_eq_true rfl, Nat.le_of_ble_eq_true rfl⟩) hP hD hS hA [] [0] rfl rfl (by decide +kernel) (by decide +kernel) ?_
    clear hP hD hS
    try clear locs
    try clear H
    intro r_25 u_26 H locs hw_r_25 hP hD hS
    have hw_r_25 : r_25 = nI 3 := hw_r_25
    refine W.widen (k := 0) (n := 0) (Nat.le_of_ble_eq_true rfl) (Nat.le_of_ble_eq_true rfl) ?_
    replace hP : va_P D vwCl [(hm, .inr (12, [.ref ms, .ref mkp, .int km, .ref mtr, .int (nI 4), .int (nI 2), .int (nI 2), .int (nI 3), .int (nI 2), .int (nI 1), .ref mas, .int (nI 0), .int (nI 0), .int (nI 0), .ref mso, .ref mon, .ref mot, .ref man, .int (nI 0), .int u_4, .ref mst, .ref msm, .ref mtb, .ref mti, .ref mfr, .ref mbn, .ref mbs, .ref mde, .int (nI 0), .int (nI 0), .int (nI 0), .int (nI 0), .long 0, .long 0, .ref maa, .ref mab, .ref mba, .ref mbb]))] H := hP
    replace hD : va_D A [(hm, .inr (12, [.ref ms, .ref mkp, .int km, .ref mtr, .int (nI 4), .int (nI 2), .int (nI 2), .int (nI 3), .int (nI 2), .int (nI 1), .ref mas, .int (nI 0), .int (nI 0), .int (nI 0), .ref mso, .ref mon, .ref mot, .ref man, .int (nI 0), .int u_4, .ref mst, .ref msm, .ref mtb, .ref mti, .ref mfr, .ref mbn, .ref mbs, .ref mde, .int (nI 0), .int (nI 0), .int (nI 0), .int (nI 0), .long 0, .long 0, .ref maa, .ref mab, .ref mba, .ref mbb]))] := hD
    subst hw_r_25
    refine lv_istore (lv' := [(6, .int (nI 3)), (5, .int (nI 2)), (4, .int (nI 0)), (3, .int (nI 0)), (2, .int (nI 13)), (0, .ref hm), (1, .int (nI 1))]) hx hb dX12_drawSample_45 hl (by decide) rfl ?_
    clear hl
    try clear ls
    intro ls hl
    refine lv_iload_n hx hb dX12_drawSample_47 rfl (lv_at hl 4 rfl) ?_
    refine lv_iconst (v := nI 1) hx hb dX12_drawSample_48 (by decide) ?_
    refine lv_iload hx hb dX12_drawSample_49 (lv_at hl 0 rfl) ?_
    refine lv_ishl hx hb dX12_drawSample_51 ?_
    refine lv_topi (nm_r (e' := nI 8) (by decide) ?_)
    refine lv_iconst (v := (-1)) hx hb dX12_drawSample_52 (by decide) ?_
    refine lv_ixor hx hb dX12_drawSample_53 ?_
    refine lv_iand hx hb dX12_drawSample_54 ?_
    refine lv_topi (nm_r (e' := nI 5) (by decide) ?_)
    refine lv_istore_n (lv' := [(2, .int (nI 5)), (6, .int (nI 3)), (5, .int (nI 2)), (4, .int (nI 0)), (3, .int (nI 0)), (0, .ref hm), (1, .int (nI 1))]) hx hb dX12_drawSample_55 rfl hl (by decide) rfl ?_
    clear hl
    try clear ls
    intro ls hl
    refine lv_iload_n hx hb dX12_drawSample_56 rfl (lv_at hl 4 rfl) ?_
    refine lv_iconst (v := nI 1) hx hb dX12_drawSample_57 (by decide) ?_
    refine lv_iload hx hb dX12_drawSample_58 (lv_at hl 1 rfl) ?_
    refine lv_ishl hx hb dX12_drawSample_60 ?_
    refine lv_topi (nm_r (e' := nI 8) (by decide) ?_)
    refine lv_ior hx hb dX12_drawSample_61 ?_
    refine lv_topi (nm_r (e' := nI 8) (by decide) ?_)
    refine lv_istore_n (lv' := [(3, .int (nI 8)), (2, .int (nI 5)), (6, .int (nI 3)), (5, .int (nI 2)), (4, .int (nI 0)), (0, .ref hm), (1, .int (nI 1))]) hx hb dX12_drawSample_62 rfl hl (by decide) rfl ?_
    clear hl
    try clear ls
    intro ls hl
    refine lv_iinc (v := nI 1) (lv' := [(4, .int (nI 1)), (3, .int (nI 8)), (2, .int (nI 5)), (6, .int (nI 3)), (5, .int (nI 2)), (0, .ref hm), (1, .int (nI 1))]) hx hb dX12_drawSample_63 hl (k := 4) rfl (by decide) (by decide) rfl ?_
    clear hl
    try clear ls
    intro ls hl
    refine lv_goto (tgt := 20) hx hb dX12_drawSample_66 (by decide) ?_
    refine lv_iload hx hb dX12_drawSample_20 (lv_at hl 0 rfl) ?_
    refine lv_aload_n hx hb dX12_drawSample_22 rfl (lv_at hl 5 rfl) ?_
    refine xget C hP 0 rfl rfl zuX12 5 (by decide) zw5_218 rfl dX12_drawSample_23 ?_
    refine lv_icmp_ge (tgt := 69) hx hb dX12_drawSample_26 (by decide) (fun c => absurd c (by decide)) (fun _ => ?_)
    refine lv_aload_n hx hb dX12_drawSample_29 rfl (lv_at hl 5 rfl) ?_
    refine lv_iload_n hx hb dX12_drawSample_30 rfl (lv_at hl 2 rfl) ?_
    refine xi (wr := [(hm, .inr (12, [.ref ms, .ref mkp, .int km, .ref mtr, .int (nI 4), .int (nI 2), .int (nI 2), .int (nI 3), .int (nI 2), .int (nI 1), .ref mas, .int (nI 0), .int (nI 0), .int (nI 0), .ref mso, .ref mon, .ref mot, .ref man, .int (nI 0), .int u_4, .ref mst, .ref msm, .ref mtb, .ref mti, .ref mfr, .ref mbn, .ref mbs, .ref mde, .int (nI 0), .int (nI 0), .int (nI 0), .int (nI 0), .long 0, .long 0, .ref maa, .ref mab, .ref mba, .ref mbb]))]) (xS (As := [.int (nI 5)]) (rest := [.ref hm]) C (c_X12_many_x l D cs (nI 5)) kX12_127 hP hD [] rfl (by decide +kernel) ⟨Nat.le_of_ble_eq_true rfl, Nat.le_of_ble_eq_true rfl⟩ rfl hl.1 rfl (Nat.le_of_ble_eq_true rfl) dX12_drawSample_31 ⟨Nat.le_of_ble_eq_true rfl, Nat.le_of_ble_eq_true rfl⟩) hP hD hS hA [] [0] rfl rfl (by decide +kernel) (by decide +kernel) ?_
    clear hP hD hS
    try clear locs
    try clear H
    intro r_27 u_28 H locs hw_r_27 hP hD hS
    have hw_r_27 : r_27 = mnC (nI 5) 16 := hw_r_27
    refine W.widen (k := 0) (n := 0) (Nat.le_of_ble_eq_true rfl) (Nat.le_of_ble_eq_true rfl) ?_
    replace hP : va_P D vwCl [(hm, .inr (12, [.ref ms, .ref mkp, .int km, .ref mtr, .int (nI 4), .int (nI 2), .int (nI 2), .int (nI 3), .int (nI 2), .int (nI 1), .ref mas, .int (nI 0), .int (nI 0), .int (nI 0), .ref mso, .ref mon, .ref mot, .ref man, .int (nI 0), .int u_4, .ref mst, .ref msm, .ref mtb, .ref mti, .ref mfr, .ref mbn, .ref mbs, .ref mde, .int (nI 0), .int (nI 0), .int (nI 0), .int (nI 0), .long 0, .long 0, .ref maa, .ref mab, .ref mba, .ref mbb]))] H := hP
    replace hD : va_D A [(hm, .inr (12, [.ref ms, .ref mkp, .int km, .ref mtr, .int (nI 4), .int (nI 2), .int (nI 2), .int (nI 3), .int (nI 2), .int (nI 1), .ref mas, .int (nI 0), .int (nI 0), .int (nI 0), .ref mso, .ref mon, .ref mot, .ref man, .int (nI 0), .int u_4, .ref mst, .ref msm, .ref mtb, .ref mti, .ref mfr, .ref mbn, .ref mbs, .ref mde, .int (nI 0), .int (nI 0), .int (nI 0), .int (nI 0), .long 0, .long 0, .ref maa, .ref mab, .ref mba, .ref mbb]))] := hD
    obtain rfl : r_27 = nI 2 := by rw [hw_r_27]; decide +kernel
    refine xi (wr := []) (xV (As := [.int (nI 2)]) (rest := []) C (c_X12_draw l D cs hm ms mkp mtr mas mso mon mot man mst msm mtb mti mfr mbn mbs mde maa mab mba mbb km u_4 2 (by decide) (by decide)) kX12_156 hP hD [0] rfl (by decide +kernel) 0 rfl rfl rfl ⟨Nat.le_of_ble_eq_true rfl, Nat.le_of_ble_eq_true rfl⟩ rfl hl.1 rfl (Nat.le_of_ble_eq_true rfl) dX12_drawSample_34 ⟨Nat.le_of_ble_eq_true rfl, Nat.le_of_ble_eq_true rfl⟩) hP hD hS hA [0] [] rfl rfl (by decide +kernel) (by decide +kernel) ?_
    clear hP hD hS
    try clear locs
    try clear H
    intro r_29 u_30 H locs hw_r_29 hP hD hS
    have hw_r_29 : ∃ j, j < 2 ∧ r_29 = nI j := hw_r_29
    refine W.widen (k := 0) (n := 0) (Nat.le_of_ble_eq_true rfl) (Nat.le_of_ble_eq_true rfl) ?_
    replace hP : va_P D vwCl [(hm, .inr (12, [.ref ms, .ref mkp, .int km, .ref mtr, .int (nI 4), .int (nI 2), .int (nI 2), .int (nI 3), .int (nI 2), .int (nI 1), .ref mas, .int (nI 0), .int (nI 0), .int (nI 0), .ref mso, .ref mon, .ref mot, .ref man, .int (nI 0), .int u_30, .ref mst, .ref msm, .ref mtb, .ref mti, .ref mfr, .ref mbn, .ref mbs, .ref mde, .int (nI 0), .int (nI 0), .int (nI 0), .int (nI 0), .long 0, .long 0, .ref maa, .ref mab, .ref mba, .ref mbb]))] H := hP
    replace hD : va_D A [(hm, .inr (12, [.ref ms, .ref mkp, .int km, .ref mtr, .int (nI 4), .int (nI 2), .int (nI 2), .int (nI 3), .int (nI 2), .int (nI 1), .ref mas, .int (nI 0), .int (nI 0), .int (nI 0), .ref mso, .ref mon, .ref mot, .ref man, .int (nI 0), .int u_30, .ref mst, .ref msm, .ref mtb, .ref mti, .ref mfr, .ref mbn, .ref mbs, .ref mde, .int (nI 0), .int (nI 0), .int (nI 0), .int (nI 0), .long 0, .long 0, .ref maa, .ref mab, .ref mba, .ref mbb]))] := hD
    rcases (dr2 hw_r_29) with rfl | rfl
    · -- split
      replace hP : va_P D vwCl [(hm, .inr (12, [.ref ms, .ref mkp, .int km, .ref mtr, .int (nI 4), .int (nI 2), .int (nI 2), .int (nI 3), .int (nI 2), .int (nI 1), .ref mas, .int (nI 0), .int (nI 0), .int (nI 0), .ref mso, .ref mon, .ref mot, .ref man, .int (nI 0), .int u_30, .ref mst, .ref msm, .ref mtb, .ref mti, .ref mfr, .ref mbn, .ref mbs, .ref mde, .int (nI 0), .int (nI 0), .int (nI 0), .int (nI 0), .long 0, .long 0, .ref maa, .ref mab, .ref mba, .ref mbb]))] H := hP
      replace hD : va_D A [(hm, .inr (12, [.ref ms, .ref mkp, .int km, .ref mtr, .int (nI 4), .int (nI 2), .int (nI 2), .int (nI 3), .int (nI 2), .int (nI 1), .ref mas, .int (nI 0), .int (nI 0), .int (nI 0), .ref mso, .ref mon, .ref mot, .ref man, .int (nI 0), .int u_30, .ref mst, .ref msm, .ref mtb, .ref mti, .ref mfr, .ref mbn, .ref mbs, .ref mde, .int (nI 0), .int (nI 0), .int (nI 0), .int (nI 0), .long 0, .long 0, .ref maa, .ref mab, .ref mba, .ref mbb]))] := hD
      refine lv_istore (lv' := [(5, .int (nI 0)), (4, .int (nI 1)), (3, .int (nI 8)), (2, .int (nI 5)), (6, .int (nI 3)), (0, .ref hm), (1, .int (nI 1))]) hx hb dX12_drawSample_37 hl (by decide) rfl ?_
      clear hl
      try clear ls
      intro ls hl
      refine lv_iload_n hx hb dX12_drawSample_39 rfl (lv_at hl 3 rfl) ?_
      refine lv_iload hx hb dX12_drawSample_40 (lv_at hl 0 rfl) ?_
      refine xi (wr := [(hm, .inr (12, [.ref ms, .ref mkp, .int km, .ref mtr, .int (nI 4), .int (nI 2), .int (nI 2), .int (nI 3), .int (nI 2), .int (nI 1), .ref mas, .int (nI 0), .int (nI 0), .int (nI 0), .ref mso, .ref mon, .ref mot, .ref man, .int (nI 0), .int u_30, .ref mst, .ref msm, .ref mtb, .ref mti, .ref mfr, .ref mbn, .ref mbs, .ref mde, .int (nI 0), .int (nI 0), .int (nI 0), .int (nI 0), .long 0, .long 0, .ref maa, .ref mab, .ref mba, .ref mbb]))]) (xS (As := [.int (nI 5), .int (nI 0)]) (rest := []) C (c_X12_nth_5_0 l D cs 0) kX12_159 hP hD [] rfl (by decide +kernel) ⟨Nat.le_of_ble_eq_true rfl, Nat.le_of_ble_eq_true rfl⟩ rfl hl.1 rfl (Nat.le_of_ble_eq_true rfl) dX12_drawSample_42 ⟨Nat.le_of_ble_eq_true rfl, Nat.le_of_ble_eq_true rfl⟩) hP hD hS hA [] [0] rfl rfl (by decide +kernel) (by decide +kernel) ?_
      clear hP hD hS
      try clear locs
      try clear H
      intro r_31 u_32 H locs hw_r_31 hP hD hS
      have hw_r_31 : r_31 = nI 0 := hw_r_31
      refine W.widen (k := 0) (n := 0) (Nat.le_of_ble_eq_true rfl) (Nat.le_of_ble_eq_true rfl) ?_
      replace hP : va_P D vwCl [(hm, .inr (12, [.ref ms, .ref mkp, .int km, .ref mtr, .int (nI 4), .int (nI 2), .int (nI 2), .int (nI 3), .int (nI 2), .int (nI 1), .ref mas, .int (nI 0), .int (nI 0), .int (nI 0), .ref mso, .ref mon, .ref mot, .ref man, .int (nI 0), .int u_30, .ref mst, .ref msm, .ref mtb, .ref mti, .ref mfr, .ref mbn, .ref mbs, .ref mde, .int (nI 0), .int (nI 0), .int (nI 0), .int (nI 0), .long 0, .long 0, .ref maa, .ref mab, .ref mba, .ref mbb]))] H := hP
      replace hD : va_D A [(hm, .inr (12, [.ref ms, .ref mkp, .int km, .ref mtr, .int (nI 4), .int (nI 2), .int (nI 2), .int (nI 3), .int (nI 2), .int (nI 1), .ref mas, .int (nI 0), .int (nI 0), .int (nI 0), .ref mso, .ref mon, .ref mot, .ref man, .int (nI 0), .int u_30, .ref mst, .ref msm, .ref mtb, .ref mti, .ref mfr, .ref mbn, .ref mbs, .ref mde, .int (nI 0), .int (nI 0), .int (nI 0), .int (nI 0), .long 0, .long 0, .ref maa, .ref mab, .ref mba, .ref mbb]))] := hD
      subst hw_r_31
      refine lv_istore (lv' := [(6, .int (nI 0)), (5, .int (nI 0)), (4, .int (nI 1)), (3, .int (nI 8)), (2, .int (nI 5)), (0, .ref hm), (1, .int (nI 1))]) hx hb dX12_drawSample_45 hl (by decide) rfl ?_
      clear hl
      try clear ls
      intro ls hl
      refine lv_iload_n hx hb dX12_drawSample_47 rfl (lv_at hl 4 rfl) ?_
      refine lv_iconst (v := nI 1) hx hb dX12_drawSample_48 (by decide) ?_
      refine lv_iload hx hb dX12_drawSample_49 (lv_at hl 0 rfl) ?_
      refine lv_ishl hx hb dX12_drawSample_51 ?_
      refine lv_topi (nm_r (e' := nI 1) (by decide) ?_)
      refine lv_iconst (v := (-1)) hx hb dX12_drawSample_52 (by decide) ?_
      refine lv_ixor hx hb dX12_drawSample_53 ?_
      refine lv_iand hx hb dX12_drawSample_54 ?_
      refine lv_topi (nm_r (e' := nI 4) (by decide) ?_)
      refine lv_istore_n (lv' := [(2, .int (nI 4)), (6, .int (nI 0)), (5, .int (nI 0)), (4, .int (nI 1)), (3, .int (nI 8)), (0, .ref hm), (1, .int (nI 1))]) hx hb dX12_drawSample_55 rfl hl (by decide) rfl ?_
      clear hl
      try clear ls
      intro ls hl
      refine lv_iload_n hx hb dX12_drawSample_56 rfl (lv_at hl 4 rfl) ?_
      refine lv_iconst (v := nI 1) hx hb dX12_drawSample_57 (by decide) ?_
      refine lv_iload hx hb dX12_drawSample_58 (lv_at hl 1 rfl) ?_
      refine lv_ishl hx hb dX12_drawSample_60 ?_
      refine lv_topi (nm_r (e' := nI 1) (by decide) ?_)
      refine lv_ior hx hb dX12_drawSample_61 ?_
      refine lv_topi (nm_r (e' := nI 9) (by decide) ?_)
      refine lv_istore_n (lv' := [(3, .int (nI 9)), (2, .int (nI 4)), (6, .int (nI 0)), (5, .int (nI 0)), (4, .int (nI 1)), (0, .ref hm), (1, .int (nI 1))]) hx hb dX12_drawSample_62 rfl hl (by decide) rfl ?_
      clear hl
      try clear ls
      intro ls hl
      refine lv_iinc (v := nI 2) (lv' := [(4, .int (nI 2)), (3, .int (nI 9)), (2, .int (nI 4)), (6, .int (nI 0)), (5, .int (nI 0)), (0, .ref hm), (1, .int (nI 1))]) hx hb dX12_drawSample_63 hl (k := 4) rfl (by decide) (by decide) rfl ?_
      clear hl
      try clear ls
      intro ls hl
      refine lv_goto (tgt := 20) hx hb dX12_drawSample_66 (by decide) ?_
      refine lv_iload hx hb dX12_drawSample_20 (lv_at hl 0 rfl) ?_
      refine lv_aload_n hx hb dX12_drawSample_22 rfl (lv_at hl 5 rfl) ?_
      refine xget C hP 0 rfl rfl zuX12 5 (by decide) zw5_218 rfl dX12_drawSample_23 ?_
      refine lv_icmp_ge (tgt := 69) hx hb dX12_drawSample_26 (by decide) (fun _ => ?_) (fun c => absurd (by decide) c)
      refine lv_iload_n hx hb dX12_drawSample_69 rfl (lv_at hl 1 rfl) ?_
      exact xreti C u_30 trivial hP hD hS (Nat.le_of_ble_eq_true rfl) (Nat.le_of_ble_eq_true rfl) rfl dX12_drawSample_70
    · -- split
      replace hP : va_P D vwCl [(hm, .inr (12, [.ref ms, .ref mkp, .int km, .ref mtr, .int (nI 4), .int (nI 2), .int (nI 2), .int (nI 3), .int (nI 2), .int (nI 1), .ref mas, .int (nI 0), .int (nI 0), .int (nI 0), .ref mso, .ref mon, .ref mot, .ref man, .int (nI 0), .int u_30, .ref mst, .ref msm, .ref mtb, .ref mti, .ref mfr, .ref mbn, .ref mbs, .ref mde, .int (nI 0), .int (nI 0), .int (nI 0), .int (nI 0), .long 0, .long 0, .ref maa, .ref mab, .ref mba, .ref mbb]))] H := hP
      replace hD : va_D A [(hm, .inr (12, [.ref ms, .ref mkp, .int km, .ref mtr, .int (nI 4), .int (nI 2), .int (nI 2), .int (nI 3), .int (nI 2), .int (nI 1), .ref mas, .int (nI 0), .int (nI 0), .int (nI 0), .ref mso, .ref mon, .ref mot, .ref man, .int (nI 0), .int u_30, .ref mst, .ref msm, .ref mtb, .ref mti, .ref mfr, .ref mbn, .ref mbs, .ref mde, .int (nI 0), .int (nI 0), .int (nI 0), .int (nI 0), .long 0, .long 0, .ref maa, .ref mab, .ref mba, .ref mbb]))] := hD
      refine lv_istore (lv' := [(5, .int (nI 1)), (4, .int (nI 1)), (3, .int (nI 8)), (2, .int (nI 5)), (6, .int (nI 3)), (0, .ref hm), (1, .int (nI 1))]) hx hb dX12_drawSample_37 hl (by decide) rfl ?_
      clear hl
      try clear ls
      intro ls hl
      refine lv_iload_n hx hb dX12_drawSample_39 rfl (lv_at hl 3 rfl) ?_
      refine lv_iload hx hb dX12_drawSample_40 (lv_at hl 0 rfl) ?_
      refine xi (wr := [(hm, .inr (12, [.ref ms, .ref mkp, .int km, .ref mtr, .int (nI 4), .int (nI 2), .int (nI 2), .int (nI 3), .int (nI 2), .int (nI 1), .ref mas, .int (nI 0), .int (nI 0), .int (nI 0), .ref mso, .ref mon, .ref mot, .ref man, .int (nI 0), .int u_30, .ref mst, .ref msm, .ref mtb, .ref mti, .ref mfr, .ref mbn, .ref mbs, .ref mde, .int (nI 0), .int (nI 0), .int (nI 0), .int (nI 0), .long 0, .long 0, .ref maa, .ref mab, .ref mba, .ref mbb]))]) (xS (As := [.int (nI 5), .int (nI 1)]) (rest := []) C (c_X12_nth_5_1 l D cs 0) kX12_159 hP hD [] rfl (by decide +kernel) ⟨Nat.le_of_ble_eq_true rfl, Nat.le_of_ble_eq_true rfl⟩ rfl hl.1 rfl (Nat.le_of_ble_eq_true rfl) dX12_drawSample_42 ⟨Nat.le_of_ble_eq_true rfl, Nat.le_of_ble_eq_true rfl⟩) hP hD hS hA [] [0] rfl rfl (by decide +kernel) (by decide +kernel) ?_
      clear hP hD hS
      try clear locs
      try clear H
      intro r_33 u_34 H locs hw_r_33 hP hD hS
      have hw_r_33 : r_33 = nI 2 := hw_r_33
      refine W.widen (k := 0) (n := 0) (Nat.le_of_ble_eq_true rfl) (Nat.le_of_ble_eq_true rfl) ?_
      replace hP : va_P D vwCl [(hm, .inr (12, [.ref ms, .ref mkp, .int km, .ref mtr, .int (nI 4), .int (nI 2), .int (nI 2), .int (nI 3), .int (nI 2), .int (nI 1), .ref mas, .int (nI 0), .int (nI 0), .int (nI 0), .ref mso, .ref mon, .ref mot, .ref man, .int (nI 0), .int u_30, .ref mst, .ref msm, .ref mtb, .ref mti, .ref mfr, .ref mbn, .ref mbs, .ref mde, .int (nI 0), .int (nI 0), .int (nI 0), .int (nI 0), .long 0, .long 0, .ref maa, .ref mab, .ref mba, .ref mbb]))] H := hP
      replace hD : va_D A [(hm, .inr (12, [.ref ms, .ref mkp, .int km, .ref mtr, .int (nI 4), .int (nI 2), .int (nI 2), .int (nI 3), .int (nI 2), .int (nI 1), .ref mas, .int (nI 0), .int (nI 0), .int (nI 0), .ref mso, .ref mon, .ref mot, .ref man, .int (nI 0), .int u_30, .ref mst, .ref msm, .ref mtb, .ref mti, .ref mfr, .ref mbn, .ref mbs, .ref mde, .int (nI 0), .int (nI 0), .int (nI 0), .int (nI 0), .long 0, .long 0, .ref maa, .ref mab, .ref mba, .ref mbb]))] := hD
      subst hw_r_33
      refine lv_istore (lv' := [(6, .int (nI 2)), (5, .int (nI 1)), (4, .int (nI 1)), (3, .int (nI 8)), (2, .int (nI 5)), (0, .ref hm), (1, .int (nI 1))]) hx hb dX12_drawSample_45 hl (by decide) rfl ?_
      clear hl
      try clear ls
      intro ls hl
      refine lv_iload_n hx hb dX12_drawSample_47 rfl (lv_at hl 4 rfl) ?_
      refine lv_iconst (v := nI 1) hx hb dX12_drawSample_48 (by decide) ?_
      refine lv_iload hx hb dX12_drawSample_49 (lv_at hl 0 rfl) ?_
      refine lv_ishl hx hb dX12_drawSample_51 ?_
      refine lv_topi (nm_r (e' := nI 4) (by decide) ?_)
      refine lv_iconst (v := (-1)) hx hb dX12_drawSample_52 (by decide) ?_
      refine lv_ixor hx hb dX12_drawSample_53 ?_
      refine lv_iand hx hb dX12_drawSample_54 ?_
      refine lv_topi (nm_r (e' := nI 1) (by decide) ?_)
      refine lv_istore_n (lv' := [(2, .int (nI 1)), (6, .int (nI 2)), (5, .int (nI 1)), (4, .int (nI 1)), (3, .int (nI 8)), (0, .ref hm), (1, .int (nI 1))]) hx hb dX12_drawSample_55 rfl hl (by decide) rfl ?_
      clear hl
      try clear ls
      intro ls hl
      refine lv_iload_n hx hb dX12_drawSample_56 rfl (lv_at hl 4 rfl) ?_
      refine lv_iconst (v := nI 1) hx hb dX12_drawSample_57 (by decide) ?_
      refine lv_iload hx hb dX12_drawSample_58 (lv_at hl 1 rfl) ?_
      refine lv_ishl hx hb dX12_drawSample_60 ?_
      refine lv_topi (nm_r (e' := nI 4) (by decide) ?_)
      refine lv_ior hx hb dX12_drawSample_61 ?_
      refine lv_topi (nm_r (e' := nI 12) (by decide) ?_)
      refine lv_istore_n (lv' := [(3, .int (nI 12)), (2, .int (nI 1)), (6, .int (nI 2)), (5, .int (nI 1)), (4, .int (nI 1)), (0, .ref hm), (1, .int (nI 1))]) hx hb dX12_drawSample_62 rfl hl (by decide) rfl ?_
      clear hl
      try clear ls
      intro ls hl
      refine lv_iinc (v := nI 2) (lv' := [(4, .int (nI 2)), (3, .int (nI 12)), (2, .int (nI 1)), (6, .int (nI 2)), (5, .int (nI 1)), (0, .ref hm), (1, .int (nI 1))]) hx hb dX12_drawSample_63 hl (k := 4) rfl (by decide) (by decide) rfl ?_
      clear hl
      try clear ls
      intro ls hl
      refine lv_goto (tgt := 20) hx hb dX12_drawSample_66 (by decide) ?_
      refine lv_iload hx hb dX12_drawSample_20 (lv_at hl 0 rfl) ?_
      refine lv_aload_n hx hb dX12_drawSample_22 rfl (lv_at hl 5 rfl) ?_
      refine xget C hP 0 rfl rfl zuX12 5 (by decide) zw5_218 rfl dX12_drawSample_23 ?_
      refine lv_icmp_ge (tgt := 69) hx hb dX12_drawSample_26 (by decide) (fun _ => ?_) (fun c => absurd (by decide) c)
      refine lv_iload_n hx hb dX12_drawSample_69 rfl (lv_at hl 1 rfl) ?_
      exact xreti C u_30 trivial hP hD hS (Nat.le_of_ble_eq_true rfl) (Nat.le_of_ble_eq_true rfl) rfl dX12_drawSample_70

set_option maxHeartbeats 4000000 in
set_option maxRecDepth 100000 in
theorem c_X12_drawSample_2 (l : Launch) (D : va_G) (cs : Nat → ClassId) (hm ms mkp mtr mas mso mon mot man mst msm mtb mti mfr mbn mbs mde maa mab mba mbb : Nat) (km xx : Int32) : xMet l D cs yX12_drawSample cX12_drawSample 7 (some .int) ({ frames := 2, cells := 0, slots := 0, locals := 44 } : Room) [.ref hm, .int (nI 2)] [(hm, .inr (12, [.ref ms, .ref mkp, .int km, .ref mtr, .int (nI 4), .int (nI 2), .int (nI 2), .int (nI 3), .int (nI 2), .int (nI 1), .ref mas, .int (nI 0), .int (nI 0), .int (nI 0), .ref mso, .ref mon, .ref mot, .ref man, .int (nI 0), .int xx, .ref mst, .ref msm, .ref mtb, .ref mti, .ref mfr, .ref mbn, .ref mbs, .ref mde, .int (nI 0), .int (nI 0), .int (nI 0), .int (nI 0), .long 0, .long 0, .ref maa, .ref mab, .ref mba, .ref mbb]))] (xQi D (fun (r : Int32) (x2 : Int32) => True) (fun (x2 : Int32) => [(hm, .inr (12, [.ref ms, .ref mkp, .int km, .ref mtr, .int (nI 4), .int (nI 2), .int (nI 2), .int (nI 3), .int (nI 2), .int (nI 1), .ref mas, .int (nI 0), .int (nI 0), .int (nI 0), .ref mso, .ref mon, .ref mot, .ref man, .int (nI 0), .int x2, .ref mst, .ref msm, .ref mtb, .ref mti, .ref mfr, .ref mbn, .ref mbs, .ref mde, .int (nI 0), .int (nI 0), .int (nI 0), .int (nI 0), .long 0, .long 0, .ref maa, .ref mab, .ref mba, .ref mbb]))])) := by
  refine xMet.intro (by decide) (Nat.le_of_ble_eq_true rfl) ?_
  intro p e s m args below meth c A ls C hP hD hS hl
  have hx := C.1
  have hb := C.2.1
  have hz := C.2.2.2.2.1
  have hown := C.2.2.2.1
  have hA := C.2.2.2.2.2.2.2.2.2
  have hAO := C.2.2.2.2.2.2.2.2.1.2.2
  replace hl : lv_has ls 7 [(0, .ref hm), (1, .int (nI 2))] := hl
  obtain ⟨H, hH⟩ : ∃ H, H = s.heap := ⟨_, rfl⟩
  replace hP : va_P D vwCl [(hm, .inr (12, [.ref ms, .ref mkp, .int km, .ref mtr, .int (nI 4), .int (nI 2), .int (nI 2), .int (nI 3), .int (nI 2), .int (nI 1), .ref mas, .int (nI 0), .int (nI 0), .int (nI 0), .ref mso, .ref mon, .ref mot, .ref man, .int (nI 0), .int xx, .ref mst, .ref msm, .ref mtb, .ref mti, .ref mfr, .ref mbn, .ref mbs, .ref mde, .int (nI 0), .int (nI 0), .int (nI 0), .int (nI 0), .long 0, .long 0, .ref maa, .ref mab, .ref mba, .ref mbb]))] H := by rw [hH]; exact hP
  replace hS : va_S A s.heap H [] := by rw [hH]; exact hS
  obtain ⟨locs, hlocs⟩ : ∃ z : List Loc, z = [] := ⟨_, rfl⟩
  rw [← hlocs] at hS
  suffices hW : W p l e ({ frames := 2, cells := 0, slots := 0, locals := 44 } : Room) s m args below meth c H locs 0 0 (MQ below ((xQi D (fun (r : Int32) (x2 : Int32) => True) (fun (x2 : Int32) => [(hm, .inr (12, [.ref ms, .ref mkp, .int km, .ref mtr, .int (nI 4), .int (nI 2), .int (nI 2), .int (nI 3), .int (nI 2), .int (nI 1), .ref mas, .int (nI 0), .int (nI 0), .int (nI 0), .ref mso, .ref mon, .ref mot, .ref man, .int (nI 0), .int x2, .ref mst, .ref msm, .ref mtb, .ref mti, .ref mfr, .ref mbn, .ref mbs, .ref mde, .int (nI 0), .int (nI 0), .int (nI 0), .int (nI 0), .long 0, .long 0, .ref maa, .ref mab, .ref mba, .ref mbb]))])) A) args s 0 0 A) (F0 m 0 ls []) by rw [hlocs, hH] at hW; exact hW
  clear hH hlocs
  refine lv_iconst (v := nI 1) hx hb dX12_drawSample_0 (by decide) ?_
  refine lv_aload_n hx hb dX12_drawSample_1 rfl (lv_at hl 0 rfl) ?_
  refine xget C hP 0 rfl rfl zuX12 4 (by decide) zw5_217 rfl dX12_drawSample_2 ?_
  refine lv_ishl hx hb dX12_drawSample_5 ?_
  refine lv_topi (nm_r (e' := nI 16) (by decide) ?_)
  refine lv_iconst (v := nI 1) hx hb dX12_drawSample_6 (by decide) ?_
  refine lv_isub hx hb dX12_drawSample_7 ?_
  refine lv_topi (nm_r (e' := nI 15) (by decide) ?_)
  refine lv_iconst (v := nI 1) hx hb dX12_drawSample_8 (by decide) ?_
  refine lv_iload_n hx hb dX12_drawSample_9 rfl (lv_at hl 1 rfl) ?_
  refine lv_ishl hx hb dX12_drawSample_10 ?_
  refine lv_topi (nm_r (e' := nI 4) (by decide) ?_)
  refine lv_iconst (v := (-1)) hx hb dX12_drawSample_11 (by decide) ?_
  refine lv_ixor hx hb dX12_drawSample_12 ?_
  refine lv_iand hx hb dX12_drawSample_13 ?_
  refine lv_topi (nm_r (e' := nI 11) (by decide) ?_)
  refine lv_istore_n (lv' := [(2, .int (nI 11)), (0, .ref hm), (1, .int (nI 2))]) hx hb dX12_drawSample_14 rfl hl (by decide) rfl ?_
  clear hl
  try clear ls
  intro ls hl
  refine lv_iconst (v := nI 0) hx hb dX12_drawSample_15 (by decide) ?_
  refine lv_istore_n (lv' := [(3, .int (nI 0)), (2, .int (nI 11)), (0, .ref hm), (1, .int (nI 2))]) hx hb dX12_drawSample_16 rfl hl (by decide) rfl ?_
  clear hl
  try clear ls
  intro ls hl
  refine lv_iconst (v := nI 0) hx hb dX12_drawSample_17 (by decide) ?_
  refine lv_istore (lv' := [(4, .int (nI 0)), (3, .int (nI 0)), (2, .int (nI 11)), (0, .ref hm), (1, .int (nI 2))]) hx hb dX12_drawSample_18 hl (by decide) rfl ?_
  clear hl
  try clear ls
  intro ls hl
  refine lv_iload hx hb dX12_drawSample_20 (lv_at hl 0 rfl) ?_
  refine lv_aload_n hx hb dX12_drawSample_22 rfl (lv_at hl 3 rfl) ?_
  refine xget C hP 0 rfl rfl zuX12 5 (by decide) zw5_218 rfl dX12_drawSample_23 ?_
  refine lv_icmp_ge (tgt := 69) hx hb dX12_drawSample_26 (by decide) (fun c => absurd c (by decide)) (fun _ => ?_)
  refine lv_aload_n hx hb dX12_drawSample_29 rfl (lv_at hl 3 rfl) ?_
  refine lv_iload_n hx hb dX12_drawSample_30 rfl (lv_at hl 2 rfl) ?_
  refine xi (wr := [(hm, .inr (12, [.ref ms, .ref mkp, .int km, .ref mtr, .int (nI 4), .int (nI 2), .int (nI 2), .int (nI 3), .int (nI 2), .int (nI 1), .ref mas, .int (nI 0), .int (nI 0), .int (nI 0), .ref mso, .ref mon, .ref mot, .ref man, .int (nI 0), .int xx, .ref mst, .ref msm, .ref mtb, .ref mti, .ref mfr, .ref mbn, .ref mbs, .ref mde, .int (nI 0), .int (nI 0), .int (nI 0), .int (nI 0), .long 0, .long 0, .ref maa, .ref mab, .ref mba, .ref mbb]))]) (xS (As := [.int (nI 11)]) (rest := [.ref hm]) C (c_X12_many_x l D cs (nI 11)) kX12_127 hP hD [] rfl (by decide +kernel) ⟨Nat.le_of_ble_eq_true rfl, Nat.le_of_ble_eq_true rfl⟩ rfl hl.1 rfl (Nat.le_of_ble_eq_true rfl) dX12_drawSample_31 ⟨Nat.le_of_ble_eq_true rfl, Nat.le_of_ble_eq_true rfl⟩) hP hD hS hA [] [0] rfl rfl (by decide +kernel) (by decide +kernel) ?_
  clear hP hD hS
  try clear locs
  try clear H
  intro r_1 u_2 H locs hw_r_1 hP hD hS
  have hw_r_1 : r_1 = mnC (nI 11) 16 := hw_r_1
  refine W.widen (k := 0) (n := 0) (Nat.le_of_ble_eq_true rfl) (Nat.le_of_ble_eq_true rfl) ?_
  replace hP : va_P D vwCl [(hm, .inr (12, [.ref ms, .ref mkp, .int km, .ref mtr, .int (nI 4), .int (nI 2), .int (nI 2), .int (nI 3), .int (nI 2), .int (nI 1), .ref mas, .int (nI 0), .int (nI 0), .int (nI 0), .ref mso, .ref mon, .ref mot, .ref man, .int (nI 0), .int xx, .ref mst, .ref msm, .ref mtb, .ref mti, .ref mfr, .ref mbn, .ref mbs, .ref mde, .int (nI 0), .int (nI 0), .int (nI 0), .int (nI 0), .long 0, .long 0, .ref maa, .ref mab, .ref mba, .ref mbb]))] H := hP
  replace hD : va_D A [(hm, .inr (12, [.ref ms, .ref mkp, .int km, .ref mtr, .int (nI 4), .int (nI 2), .int (nI 2), .int (nI 3), .int (nI 2), .int (nI 1), .ref mas, .int (nI 0), .int (nI 0), .int (nI 0), .ref mso, .ref mon, .ref mot, .ref man, .int (nI 0), .int xx, .ref mst, .ref msm, .ref mtb, .ref mti, .ref mfr, .ref mbn, .ref mbs, .ref mde, .int (nI 0), .int (nI 0), .int (nI 0), .int (nI 0), .long 0, .long 0, .ref maa, .ref mab, .ref mba, .ref mbb]))] := hD
  obtain rfl : r_1 = nI 3 := by rw [hw_r_1]; decide +kernel
  refine xi (wr := []) (xV (As := [.int (nI 3)]) (rest := []) C (c_X12_draw l D cs hm ms mkp mtr mas mso mon mot man mst msm mtb mti mfr mbn mbs mde maa mab mba mbb km xx 3 (by decide) (by decide)) kX12_156 hP hD [0] rfl (by decide +kernel) 0 rfl rfl rfl ⟨Nat.le_of_ble_eq_true rfl, Nat.le_of_ble_eq_true rfl⟩ rfl hl.1 rfl (Nat.le_of_ble_eq_true rfl) dX12_drawSample_34 ⟨Nat.le_of_ble_eq_true rfl, Nat.le_of_ble_eq_true rfl⟩) hP hD hS hA [0] [] rfl rfl (by decide +kernel) (by decide +kernel) ?_
  clear hP hD hS
  try clear locs
  try clear H
  intro r_3 u_4 H locs hw_r_3 hP hD hS
  have hw_r_3 : ∃ j, j < 3 ∧ r_3 = nI j := hw_r_3
  refine W.widen (k := 0) (n := 0) (Nat.le_of_ble_eq_true rfl) (Nat.le_of_ble_eq_true rfl) ?_
  replace hP : va_P D vwCl [(hm, .inr (12, [.ref ms, .ref mkp, .int km, .ref mtr, .int (nI 4), .int (nI 2), .int (nI 2), .int (nI 3), .int (nI 2), .int (nI 1), .ref mas, .int (nI 0), .int (nI 0), .int (nI 0), .ref mso, .ref mon, .ref mot, .ref man, .int (nI 0), .int u_4, .ref mst, .ref msm, .ref mtb, .ref mti, .ref mfr, .ref mbn, .ref mbs, .ref mde, .int (nI 0), .int (nI 0), .int (nI 0), .int (nI 0), .long 0, .long 0, .ref maa, .ref mab, .ref mba, .ref mbb]))] H := hP
  replace hD : va_D A [(hm, .inr (12, [.ref ms, .ref mkp, .int km, .ref mtr, .int (nI 4), .int (nI 2), .int (nI 2), .int (nI 3), .int (nI 2), .int (nI 1), .ref mas, .int (nI 0), .int (nI 0), .int (nI 0), .ref mso, .ref mon, .ref mot, .ref man, .int (nI 0), .int u_4, .ref mst, .ref msm, .ref mtb, .ref mti, .ref mfr, .ref mbn, .ref mbs, .ref mde, .int (nI 0), .int (nI 0), .int (nI 0), .int (nI 0), .long 0, .long 0, .ref maa, .ref mab, .ref mba, .ref mbb]))] := hD
  rcases (dr3 hw_r_3) with rfl | rfl | rfl
  · -- split
    replace hP : va_P D vwCl [(hm, .inr (12, [.ref ms, .ref mkp, .int km, .ref mtr, .int (nI 4), .int (nI 2), .int (nI 2), .int (nI 3), .int (nI 2), .int (nI 1), .ref mas, .int (nI 0), .int (nI 0), .int (nI 0), .ref mso, .ref mon, .ref mot, .ref man, .int (nI 0), .int u_4, .ref mst, .ref msm, .ref mtb, .ref mti, .ref mfr, .ref mbn, .ref mbs, .ref mde, .int (nI 0), .int (nI 0), .int (nI 0), .int (nI 0), .long 0, .long 0, .ref maa, .ref mab, .ref mba, .ref mbb]))] H := hP
    replace hD : va_D A [(hm, .inr (12, [.ref ms, .ref mkp, .int km, .ref mtr, .int (nI 4), .int (nI 2), .int (nI 2), .int (nI 3), .int (nI 2), .int (nI 1), .ref mas, .int (nI 0), .int (nI 0), .int (nI 0), .ref mso, .ref mon, .ref mot, .ref man, .int (nI 0), .int u_4, .ref mst, .ref msm, .ref mtb, .ref mti, .ref mfr, .ref mbn, .ref mbs, .ref mde, .int (nI 0), .int (nI 0), .int (nI 0), .int (nI 0), .long 0, .long 0, .ref maa, .ref mab, .ref mba, .ref mbb]))] := hD
    refine lv_istore (lv' := [(5, .int (nI 0)), (4, .int (nI 0)), (3, .int (nI 0)), (2, .int (nI 11)), (0, .ref hm), (1, .int (nI 2))]) hx hb dX12_drawSample_37 hl (by decide) rfl ?_
    clear hl
    try clear ls
    intro ls hl
    refine lv_iload_n hx hb dX12_drawSample_39 rfl (lv_at hl 3 rfl) ?_
    refine lv_iload hx hb dX12_drawSample_40 (lv_at hl 0 rfl) ?_
    refine xi (wr := [(hm, .inr (12, [.ref ms, .ref mkp, .int km, .ref mtr, .int (nI 4), .int (nI 2), .int (nI 2), .int (nI 3), .int (nI 2), .int (nI 1), .ref mas, .int (nI 0), .int (nI 0), .int (nI 0), .ref mso, .ref mon, .ref mot, .ref man, .int (nI 0), .int u_4, .ref mst, .ref msm, .ref mtb, .ref mti, .ref mfr, .ref mbn, .ref mbs, .ref mde, .int (nI 0), .int (nI 0), .int (nI 0), .int (nI 0), .long 0, .long 0, .ref maa, .ref mab, .ref mba, .ref mbb]))]) (xS (As := [.int (nI 11), .int (nI 0)]) (rest := []) C (c_X12_nth_11_0 l D cs 0) kX12_159 hP hD [] rfl (by decide +kernel) ⟨Nat.le_of_ble_eq_true rfl, Nat.le_of_ble_eq_true rfl⟩ rfl hl.1 rfl (Nat.le_of_ble_eq_true rfl) dX12_drawSample_42 ⟨Nat.le_of_ble_eq_true rfl, Nat.le_of_ble_eq_true rfl⟩) hP hD hS hA [] [0] rfl rfl (by decide +kernel) (by decide +kernel) ?_
    clear hP hD hS
    try clear locs
    try clear H
    intro r_5 u_6 H locs hw_r_5 hP hD hS
    have hw_r_5 : r_5 = nI 0 := hw_r_5
    refine W.widen (k := 0) (n := 0) (Nat.le_of_ble_eq_true rfl) (Nat.le_of_ble_eq_true rfl) ?_
    replace hP : va_P D vwCl [(hm, .inr (12, [.ref ms, .ref mkp, .int km, .ref mtr, .int (nI 4), .int (nI 2), .int (nI 2), .int (nI 3), .int (nI 2), .int (nI 1), .ref mas, .int (nI 0), .int (nI 0), .int (nI 0), .ref mso, .ref mon, .ref mot, .ref man, .int (nI 0), .int u_4, .ref mst, .ref msm, .ref mtb, .ref mti, .ref mfr, .ref mbn, .ref mbs, .ref mde, .int (nI 0), .int (nI 0), .int (nI 0), .int (nI 0), .long 0, .long 0, .ref maa, .ref mab, .ref mba, .ref mbb]))] H := hP
    replace hD : va_D A [(hm, .inr (12, [.ref ms, .ref mkp, .int km, .ref mtr, .int (nI 4), .int (nI 2), .int (nI 2), .int (nI 3), .int (nI 2), .int (nI 1), .ref mas, .int (nI 0), .int (nI 0), .int (nI 0), .ref mso, .ref mon, .ref mot, .ref man, .int (nI 0), .int u_4, .ref mst, .ref msm, .ref mtb, .ref mti, .ref mfr, .ref mbn, .ref mbs, .ref mde, .int (nI 0), .int (nI 0), .int (nI 0), .int (nI 0), .long 0, .long 0, .ref maa, .ref mab, .ref mba, .ref mbb]))] := hD
    subst hw_r_5
    refine lv_istore (lv' := [(6, .int (nI 0)), (5, .int (nI 0)), (4, .int (nI 0)), (3, .int (nI 0)), (2, .int (nI 11)), (0, .ref hm), (1, .int (nI 2))]) hx hb dX12_drawSample_45 hl (by decide) rfl ?_
    clear hl
    try clear ls
    intro ls hl
    refine lv_iload_n hx hb dX12_drawSample_47 rfl (lv_at hl 4 rfl) ?_
    refine lv_iconst (v := nI 1) hx hb dX12_drawSample_48 (by decide) ?_
    refine lv_iload hx hb dX12_drawSample_49 (lv_at hl 0 rfl) ?_
    refine lv_ishl hx hb dX12_drawSample_51 ?_
    refine lv_topi (nm_r (e' := nI 1) (by decide) ?_)
    refine lv_iconst (v := (-1)) hx hb dX12_drawSample_52 (by decide) ?_
    refine lv_ixor hx hb dX12_drawSample_53 ?_
    refine lv_iand hx hb dX12_drawSample_54 ?_
    refine lv_topi (nm_r (e' := nI 10) (by decide) ?_)
    refine lv_istore_n (lv' := [(2, .int (nI 10)), (6, .int (nI 0)), (5, .int (nI 0)), (4, .int (nI 0)), (3, .int (nI 0)), (0, .ref hm), (1, .int (nI 2))]) hx hb dX12_drawSample_55 rfl hl (by decide) rfl ?_
    clear hl
    try clear ls
    intro ls hl
    refine lv_iload_n hx hb dX12_drawSample_56 rfl (lv_at hl 4 rfl) ?_
    refine lv_iconst (v := nI 1) hx hb dX12_drawSample_57 (by decide) ?_
    refine lv_iload hx hb dX12_drawSample_58 (lv_at hl 1 rfl) ?_
    refine lv_ishl hx hb dX12_drawSample_60 ?_
    refine lv_topi (nm_r (e' := nI 1) (by decide) ?_)
    refine lv_ior hx hb dX12_drawSample_61 ?_
    refine lv_topi (nm_r (e' := nI 1) (by decide) ?_)
    refine lv_istore_n (lv' := [(3, .int (nI 1)), (2, .int (nI 10)), (6, .int (nI 0)), (5, .int (nI 0)), (4, .int (nI 0)), (0, .ref hm), (1, .int (nI 2))]) hx hb dX12_drawSample_62 rfl hl (by decide) rfl ?_
    clear hl
    try clear ls
    intro ls hl
    refine lv_iinc (v := nI 1) (lv' := [(4, .int (nI 1)), (3, .int (nI 1)), (2, .int (nI 10)), (6, .int (nI 0)), (5, .int (nI 0)), (0, .ref hm), (1, .int (nI 2))]) hx hb dX12_drawSample_63 hl (k := 4) rfl (by decide) (by decide) rfl ?_
    clear hl
    try clear ls
    intro ls hl
    refine lv_goto (tgt := 20) hx hb dX12_drawSample_66 (by decide) ?_
    refine lv_iload hx hb dX12_drawSample_20 (lv_at hl 0 rfl) ?_
    refine lv_aload_n hx hb dX12_drawSample_22 rfl (lv_at hl 5 rfl) ?_
    refine xget C hP 0 rfl rfl zuX12 5 (by decide) zw5_218 rfl dX12_drawSample_23 ?_
    refine lv_icmp_ge (tgt := 69) hx hb dX12_drawSample_26 (by decide) (fun c => absurd c (by decide)) (fun _ => ?_)
    refine lv_aload_n hx hb dX12_drawSample_29 rfl (lv_at hl 5 rfl) ?_
    refine lv_iload_n hx hb dX12_drawSample_30 rfl (lv_at hl 2 rfl) ?_
    refine xi (wr := [(hm, .inr (12, [.ref ms, .ref mkp, .int km, .ref mtr, .int (nI 4), .int (nI 2), .int (nI 2), .int (nI 3), .int (nI 2), .int (nI 1), .ref mas, .int (nI 0), .int (nI 0), .int (nI 0), .ref mso, .ref mon, .ref mot, .ref man, .int (nI 0), .int u_4, .ref mst, .ref msm, .ref mtb, .ref mti, .ref mfr, .ref mbn, .ref mbs, .ref mde, .int (nI 0), .int (nI 0), .int (nI 0), .int (nI 0), .long 0, .long 0, .ref maa, .ref mab, .ref mba, .ref mbb]))]) (xS (As := [.int (nI 10)]) (rest := [.ref hm]) C (c_X12_many_x l D cs (nI 10)) kX12_127 hP hD [] rfl (by decide +kernel) ⟨Nat.le_of_ble_eq_true rfl, Nat.le_of_ble_eq_true rfl⟩ rfl hl.1 rfl (Nat.le_of_ble_eq_true rfl) dX12_drawSample_31 ⟨Nat.le_of_ble_eq_true rfl, Nat.le_of_ble_eq_true rfl⟩) hP hD hS hA [] [0] rfl rfl (by decide +kernel) (by decide +kernel) ?_
    clear hP hD hS
    try clear locs
    try clear H
    intro r_7 u_8 H locs hw_r_7 hP hD hS
    have hw_r_7 : r_7 = mnC (nI 10) 16 := hw_r_7
    refine W.widen (k := 0) (n := 0) (Nat.le_of_ble_eq_true rfl) (Nat.le_of_ble_eq_true rfl) ?_
    replace hP : va_P D vwCl [(hm, .inr (12, [.ref ms, .ref mkp, .int km, .ref mtr, .int (nI 4), .int (nI 2), .int (nI 2), .int (nI 3), .int (nI 2), .int (nI 1), .ref mas, .int (nI 0), .int (nI 0), .int (nI 0), .ref mso, .ref mon, .ref mot, .ref man, .int (nI 0), .int u_4, .ref mst, .ref msm, .ref mtb, .ref mti, .ref mfr, .ref mbn, .ref mbs, .ref mde, .int (nI 0), .int (nI 0), .int (nI 0), .int (nI 0), .long 0, .long 0, .ref maa, .ref mab, .ref mba, .ref mbb]))] H := hP
    replace hD : va_D A [(hm, .inr (12, [.ref ms, .ref mkp, .int km, .ref mtr, .int (nI 4), .int (nI 2), .int (nI 2), .int (nI 3), .int (nI 2), .int (nI 1), .ref mas, .int (nI 0), .int (nI 0), .int (nI 0), .ref mso, .ref mon, .ref mot, .ref man, .int (nI 0), .int u_4, .ref mst, .ref msm, .ref mtb, .ref mti, .ref mfr, .ref mbn, .ref mbs, .ref mde, .int (nI 0), .int (nI 0), .int (nI 0), .int (nI 0), .long 0, .long 0, .ref maa, .ref mab, .ref mba, .ref mbb]))] := hD
    obtain rfl : r_7 = nI 2 := by rw [hw_r_7]; decide +kernel
    refine xi (wr := []) (xV (As := [.int (nI 2)]) (rest := []) C (c_X12_draw l D cs hm ms mkp mtr mas mso mon mot man mst msm mtb mti mfr mbn mbs mde maa mab mba mbb km u_4 2 (by decide) (by decide)) kX12_156 hP hD [0] rfl (by decide +kernel) 0 rfl rfl rfl ⟨Nat.le_of_ble_eq_true rfl, Nat.le_of_ble_eq_true rfl⟩ rfl hl.1 rfl (Nat.le_of_ble_eq_true rfl) dX12_drawSample_34 ⟨Nat.le_of_ble_eq_true rfl, Nat.le_of_ble_eq_true rfl⟩) hP hD hS hA [0] [] rfl rfl (by decide +kernel) (by decide +kernel) ?_
    clear hP hD hS
    try clear locs
    try clear H
    intro r_9 u_10 H locs hw_r_9 hP hD hS
    have hw_r_9 : ∃ j, j < 2 ∧ r_9 = nI j := hw_r_9
    refine W.widen (k := 0) (n := 0) (Nat.le_of_ble_eq_true rfl) (Nat.le_of_ble_eq_true rfl) ?_
    replace hP : va_P D vwCl [(hm, .inr (12, [.ref ms, .ref mkp, .int km, .ref mtr, .int (nI 4), .int (nI 2), .int (nI 2), .int (nI 3), .int (nI 2), .int (nI 1), .ref mas, .int (nI 0), .int (nI 0), .int (nI 0), .ref mso, .ref mon, .ref mot, .ref man, .int (nI 0), .int u_10, .ref mst, .ref msm, .ref mtb, .ref mti, .ref mfr, .ref mbn, .ref mbs, .ref mde, .int (nI 0), .int (nI 0), .int (nI 0), .int (nI 0), .long 0, .long 0, .ref maa, .ref mab, .ref mba, .ref mbb]))] H := hP
    replace hD : va_D A [(hm, .inr (12, [.ref ms, .ref mkp, .int km, .ref mtr, .int (nI 4), .int (nI 2), .int (nI 2), .int (nI 3), .int (nI 2), .int (nI 1), .ref mas, .int (nI 0), .int (nI 0), .int (nI 0), .ref mso, .ref mon, .ref mot, .ref man, .int (nI 0), .int u_10, .ref mst, .ref msm, .ref mtb, .ref mti, .ref mfr, .ref mbn, .ref mbs, .ref mde, .int (nI 0), .int (nI 0), .int (nI 0), .int (nI 0), .long 0, .long 0, .ref maa, .ref mab, .ref mba, .ref mbb]))] := hD
    rcases (dr2 hw_r_9) with rfl | rfl
    · -- split
      replace hP : va_P D vwCl [(hm, .inr (12, [.ref ms, .ref mkp, .int km, .ref mtr, .int (nI 4), .int (nI 2), .int (nI 2), .int (nI 3), .int (nI 2), .int (nI 1), .ref mas, .int (nI 0), .int (nI 0), .int (nI 0), .ref mso, .ref mon, .ref mot, .ref man, .int (nI 0), .int u_10, .ref mst, .ref msm, .ref mtb, .ref mti, .ref mfr, .ref mbn, .ref mbs, .ref mde, .int (nI 0), .int (nI 0), .int (nI 0), .int (nI 0), .long 0, .long 0, .ref maa, .ref mab, .ref mba, .ref mbb]))] H := hP
      replace hD : va_D A [(hm, .inr (12, [.ref ms, .ref mkp, .int km, .ref mtr, .int (nI 4), .int (nI 2), .int (nI 2), .int (nI 3), .int (nI 2), .int (nI 1), .ref mas, .int (nI 0), .int (nI 0), .int (nI 0), .ref mso, .ref mon, .ref mot, .ref man, .int (nI 0), .int u_10, .ref mst, .ref msm, .ref mtb, .ref mti, .ref mfr, .ref mbn, .ref mbs, .ref mde, .int (nI 0), .int (nI 0), .int (nI 0), .int (nI 0), .long 0, .long 0, .ref maa, .ref mab, .ref mba, .ref mbb]))] := hD
      refine lv_istore (lv' := [(5, .int (nI 0)), (4, .int (nI 1)), (3, .int (nI 1)), (2, .int (nI 10)), (6, .int (nI 0)), (0, .ref hm), (1, .int (nI 2))]) hx hb dX12_drawSample_37 hl (by decide) rfl ?_
      clear hl
      try clear ls
      intro ls hl
      refine lv_iload_n hx hb dX12_drawSample_39 rfl (lv_at hl 3 rfl) ?_
      refine lv_iload hx hb dX12_drawSample_40 (lv_at hl 0 rfl) ?_
      refine xi (wr := [(hm, .inr (12, [.ref ms, .ref mkp, .int km, .ref mtr, .int (nI 4), .int (nI 2), .int (nI 2), .int (nI 3), .int (nI 2), .int (nI 1), .ref mas, .int (nI 0), .int (nI 0), .int (nI 0), .ref mso, .ref mon, .ref mot, .ref man, .int (nI 0), .int u_10, .ref mst, .ref msm, .ref mtb, .ref mti, .ref mfr, .ref mbn, .ref mbs, .ref mde, .int (nI 0), .int (nI 0), .int (nI 0), .int (nI 0), .long 0, .long 0, .ref maa, .ref mab, .ref mba, .ref mbb]))]) (xS (As := [.int (nI 10), .int (nI 0)]) (rest := []) C (c_X12_nth_10_0 l D cs 0) kX12_159 hP hD [] rfl (by decide +kernel) ⟨Nat.le_of_ble_eq_true rfl, Nat.le_of_ble_eq_true rfl⟩ rfl hl.1 rfl (Nat.le_of_ble_eq_true rfl) dX12_drawSample_42 ⟨Nat.le_of_ble_eq_true rfl, Nat.le_of_ble_eq_true rfl⟩) hP hD hS hA [] [0] rfl rfl (by decide +kernel) (by decide +kernel) ?_
      clear hP hD hS
      try clear locs
      try clear H
      intro r_11 u_12 H locs hw_r_11 hP hD hS
      have hw_r_11 : r_11 = nI 1 := hw_r_11
      refine W.widen (k := 0) (n := 0) (Nat.le_of_ble_eq_true rfl) (Nat.le_of_ble_eq_true rfl) ?_
      replace hP : va_P D vwCl [(hm, .inr (12, [.ref ms, .ref mkp, .int km, .ref mtr, .int (nI 4), .int (nI 2), .int (nI 2), .int (nI 3), .int (nI 2), .int (nI 1), .ref mas, .int (nI 0), .int (nI 0), .int (nI 0), .ref mso, .ref mon, .ref mot, .ref man, .int (nI 0), .int u_10, .ref mst, .ref msm, .ref mtb, .ref mti, .ref mfr, .ref mbn, .ref mbs, .ref mde, .int (nI 0), .int (nI 0), .int (nI 0), .int (nI 0), .long 0, .long 0, .ref maa, .ref mab, .ref mba, .ref mbb]))] H := hP
      replace hD : va_D A [(hm, .inr (12, [.ref ms, .ref mkp, .int km, .ref mtr, .int (nI 4), .int (nI 2), .int (nI 2), .int (nI 3), .int (nI 2), .int (nI 1), .ref mas, .int (nI 0), .int (nI 0), .int (nI 0), .ref mso, .ref mon, .ref mot, .ref man, .int (nI 0), .int u_10, .ref mst, .ref msm, .ref mtb, .ref mti, .ref mfr, .ref mbn, .ref mbs, .ref mde, .int (nI 0), .int (nI 0), .int (nI 0), .int (nI 0), .long 0, .long 0, .ref maa, .ref mab, .ref mba, .ref mbb]))] := hD
      subst hw_r_11
      refine lv_istore (lv' := [(6, .int (nI 1)), (5, .int (nI 0)), (4, .int (nI 1)), (3, .int (nI 1)), (2, .int (nI 10)), (0, .ref hm), (1, .int (nI 2))]) hx hb dX12_drawSample_45 hl (by decide) rfl ?_
      clear hl
      try clear ls
      intro ls hl
      refine lv_iload_n hx hb dX12_drawSample_47 rfl (lv_at hl 4 rfl) ?_
      refine lv_iconst (v := nI 1) hx hb dX12_drawSample_48 (by decide) ?_
      refine lv_iload hx hb dX12_drawSample_49 (lv_at hl 0 rfl) ?_
      refine lv_ishl hx hb dX12_drawSample_51 ?_
      refine lv_topi (nm_r (e' := nI 2) (by decide) ?_)
      refine lv_iconst (v := (-1)) hx hb dX12_drawSample_52 (by decide) ?_
      refine lv_ixor hx hb dX12_drawSample_53 ?_
      refine lv_iand hx hb dX12_drawSample_54 ?_
      refine lv_topi (nm_r (e' := nI 8) (by decide) ?_)
      refine lv_istore_n (lv' := [(2, .int (nI 8)), (6, .int (nI 1)), (5, .int (nI 0)), (4, .int (nI 1)), (3, .int (nI 1)), (0, .ref hm), (1, .int (nI 2))]) hx hb dX12_drawSample_55 rfl hl (by decide) rfl ?_
      clear hl
      try clear ls
      intro ls hl
      refine lv_iload_n hx hb dX12_drawSample_56 rfl (lv_at hl 4 rfl) ?_
      refine lv_iconst (v := nI 1) hx hb dX12_drawSample_57 (by decide) ?_
      refine lv_iload hx hb dX12_drawSample_58 (lv_at hl 1 rfl) ?_
      refine lv_ishl hx hb dX12_drawSample_60 ?_
      refine lv_topi (nm_r (e' := nI 2) (by decide) ?_)
      refine lv_ior hx hb dX12_drawSample_61 ?_
      refine lv_topi (nm_r (e' := nI 3) (by decide) ?_)
      refine lv_istore_n (lv' := [(3, .int (nI 3)), (2, .int (nI 8)), (6, .int (nI 1)), (5, .int (nI 0)), (4, .int (nI 1)), (0, .ref hm), (1, .int (nI 2))]) hx hb dX12_drawSample_62 rfl hl (by decide) rfl ?_
      clear hl
      try clear ls
      intro ls hl
      refine lv_iinc (v := nI 2) (lv' := [(4, .int (nI 2)), (3, .int (nI 3)), (2, .int (nI 8)), (6, .int (nI 1)), (5, .int (nI 0)), (0, .ref hm), (1, .int (nI 2))]) hx hb dX12_drawSample_63 hl (k := 4) rfl (by decide) (by decide) rfl ?_
      clear hl
      try clear ls
      intro ls hl
      refine lv_goto (tgt := 20) hx hb dX12_drawSample_66 (by decide) ?_
      refine lv_iload hx hb dX12_drawSample_20 (lv_at hl 0 rfl) ?_
      refine lv_aload_n hx hb dX12_drawSample_22 rfl (lv_at hl 5 rfl) ?_
      refine xget C hP 0 rfl rfl zuX12 5 (by decide) zw5_218 rfl dX12_drawSample_23 ?_
      refine lv_icmp_ge (tgt := 69) hx hb dX12_drawSample_26 (by decide) (fun _ => ?_) (fun c => absurd (by decide) c)
      refine lv_iload_n hx hb dX12_drawSample_69 rfl (lv_at hl 1 rfl) ?_
      exact xreti C u_10 trivial hP hD hS (Nat.le_of_ble_eq_true rfl) (Nat.le_of_ble_eq_true rfl) rfl dX12_drawSample_70
    · -- split
      replace hP : va_P D vwCl [(hm, .inr (12, [.ref ms, .ref mkp, .int km, .ref mtr, .int (nI 4), .int (nI 2), .int (nI 2), .int (nI 3), .int (nI 2), .int (nI 1), .ref mas, .int (nI 0), .int (nI 0), .int (nI 0), .ref mso, .ref mon, .ref mot, .ref man, .int (nI 0), .int u_10, .ref mst, .ref msm, .ref mtb, .ref mti, .ref mfr, .ref mbn, .ref mbs, .ref mde, .int (nI 0), .int (nI 0), .int (nI 0), .int (nI 0), .long 0, .long 0, .ref maa, .ref mab, .ref mba, .ref mbb]))] H := hP
      replace hD : va_D A [(hm, .inr (12, [.ref ms, .ref mkp, .int km, .ref mtr, .int (nI 4), .int (nI 2), .int (nI 2), .int (nI 3), .int (nI 2), .int (nI 1), .ref mas, .int (nI 0), .int (nI 0), .int (nI 0), .ref mso, .ref mon, .ref mot, .ref man, .int (nI 0), .int u_10, .ref mst, .ref msm, .ref mtb, .ref mti, .ref mfr, .ref mbn, .ref mbs, .ref mde, .int (nI 0), .int (nI 0), .int (nI 0), .int (nI 0), .long 0, .long 0, .ref maa, .ref mab, .ref mba, .ref mbb]))] := hD
      refine lv_istore (lv' := [(5, .int (nI 1)), (4, .int (nI 1)), (3, .int (nI 1)), (2, .int (nI 10)), (6, .int (nI 0)), (0, .ref hm), (1, .int (nI 2))]) hx hb dX12_drawSample_37 hl (by decide) rfl ?_
      clear hl
      try clear ls
      intro ls hl
      refine lv_iload_n hx hb dX12_drawSample_39 rfl (lv_at hl 3 rfl) ?_
      refine lv_iload hx hb dX12_drawSample_40 (lv_at hl 0 rfl) ?_
      refine xi (wr := [(hm, .inr (12, [.ref ms, .ref mkp, .int km, .ref mtr, .int (nI 4), .int (nI 2), .int (nI 2), .int (nI 3), .int (nI 2), .int (nI 1), .ref mas, .int (nI 0), .int (nI 0), .int (nI 0), .ref mso, .ref mon, .ref mot, .ref man, .int (nI 0), .int u_10, .ref mst, .ref msm, .ref mtb, .ref mti, .ref mfr, .ref mbn, .ref mbs, .ref mde, .int (nI 0), .int (nI 0), .int (nI 0), .int (nI 0), .long 0, .long 0, .ref maa, .ref mab, .ref mba, .ref mbb]))]) (xS (As := [.int (nI 10), .int (nI 1)]) (rest := []) C (c_X12_nth_10_1 l D cs 0) kX12_159 hP hD [] rfl (by decide +kernel) ⟨Nat.le_of_ble_eq_true rfl, Nat.le_of_ble_eq_true rfl⟩ rfl hl.1 rfl (Nat.le_of_ble_eq_true rfl) dX12_drawSample_42 ⟨Nat.le_of_ble_eq_true rfl, Nat.le_of_ble_eq_true rfl⟩) hP hD hS hA [] [0] rfl rfl (by decide +kernel) (by decide +kernel) ?_
      clear hP hD hS
      try clear locs
      try clear H
      intro r_13 u_14 H locs hw_r_13 hP hD hS
      have hw_r_13 : r_13 = nI 3 := hw_r_13
      refine W.widen (k := 0) (n := 0) (Nat.le_of_ble_eq_true rfl) (Nat.le_of_ble_eq_true rfl) ?_
      replace hP : va_P D vwCl [(hm, .inr (12, [.ref ms, .ref mkp, .int km, .ref mtr, .int (nI 4), .int (nI 2), .int (nI 2), .int (nI 3), .int (nI 2), .int (nI 1), .ref mas, .int (nI 0), .int (nI 0), .int (nI 0), .ref mso, .ref mon, .ref mot, .ref man, .int (nI 0), .int u_10, .ref mst, .ref msm, .ref mtb, .ref mti, .ref mfr, .ref mbn, .ref mbs, .ref mde, .int (nI 0), .int (nI 0), .int (nI 0), .int (nI 0), .long 0, .long 0, .ref maa, .ref mab, .ref mba, .ref mbb]))] H := hP
      replace hD : va_D A [(hm, .inr (12, [.ref ms, .ref mkp, .int km, .ref mtr, .int (nI 4), .int (nI 2), .int (nI 2), .int (nI 3), .int (nI 2), .int (nI 1), .ref mas, .int (nI 0), .int (nI 0), .int (nI 0), .ref mso, .ref mon, .ref mot, .ref man, .int (nI 0), .int u_10, .ref mst, .ref msm, .ref mtb, .ref mti, .ref mfr, .ref mbn, .ref mbs, .ref mde, .int (nI 0), .int (nI 0), .int (nI 0), .int (nI 0), .long 0, .long 0, .ref maa, .ref mab, .ref mba, .ref mbb]))] := hD
      subst hw_r_13
      refine lv_istore (lv' := [(6, .int (nI 3)), (5, .int (nI 1)), (4, .int (nI 1)), (3, .int (nI 1)), (2, .int (nI 10)), (0, .ref hm), (1, .int (nI 2))]) hx hb dX12_drawSample_45 hl (by decide) rfl ?_
      clear hl
      try clear ls
      intro ls hl
      refine lv_iload_n hx hb dX12_drawSample_47 rfl (lv_at hl 4 rfl) ?_
      refine lv_iconst (v := nI 1) hx hb dX12_drawSample_48 (by decide) ?_
      refine lv_iload hx hb dX12_drawSample_49 (lv_at hl 0 rfl) ?_
      refine lv_ishl hx hb dX12_drawSample_51 ?_
      refine lv_topi (nm_r (e' := nI 8) (by decide) ?_)
      refine lv_iconst (v := (-1)) hx hb dX12_drawSample_52 (by decide) ?_
      refine lv_ixor hx hb dX12_drawSample_53 ?_
      refine lv_iand hx hb dX12_drawSample_54 ?_
      refine lv_topi (nm_r (e' := nI 2) (by decide) ?_)
      refine lv_istore_n (lv' := [(2, .int (nI 2)), (6, .int (nI 3)), (5, .int (nI 1)), (4, .int (nI 1)), (3, .int (nI 1)), (0, .ref hm), (1, .int (nI 2))]) hx hb dX12_drawSample_55 rfl hl (by decide) rfl ?_
      clear hl
      try clear ls
      intro ls hl
      refine lv_iload_n hx hb dX12_drawSample_56 rfl (lv_at hl 4 rfl) ?_
      refine lv_iconst (v := nI 1) hx hb dX12_drawSample_57 (by decide) ?_
      refine lv_iload hx hb dX12_drawSample_58 (lv_at hl 1 rfl) ?_
      refine lv_ishl hx hb dX12_drawSample_60 ?_
      refine lv_topi (nm_r (e' := nI 8) (by decide) ?_)
      refine lv_ior hx hb dX12_drawSample_61 ?_
      refine lv_topi (nm_r (e' := nI 9) (by decide) ?_)
      refine lv_istore_n (lv' := [(3, .int (nI 9)), (2, .int (nI 2)), (6, .int (nI 3)), (5, .int (nI 1)), (4, .int (nI 1)), (0, .ref hm), (1, .int (nI 2))]) hx hb dX12_drawSample_62 rfl hl (by decide) rfl ?_
      clear hl
      try clear ls
      intro ls hl
      refine lv_iinc (v := nI 2) (lv' := [(4, .int (nI 2)), (3, .int (nI 9)), (2, .int (nI 2)), (6, .int (nI 3)), (5, .int (nI 1)), (0, .ref hm), (1, .int (nI 2))]) hx hb dX12_drawSample_63 hl (k := 4) rfl (by decide) (by decide) rfl ?_
      clear hl
      try clear ls
      intro ls hl
      refine lv_goto (tgt := 20) hx hb dX12_drawSample_66 (by decide) ?_
      refine lv_iload hx hb dX12_drawSample_20 (lv_at hl 0 rfl) ?_
      refine lv_aload_n hx hb dX12_drawSample_22 rfl (lv_at hl 5 rfl) ?_
      refine xget C hP 0 rfl rfl zuX12 5 (by decide) zw5_218 rfl dX12_drawSample_23 ?_
      refine lv_icmp_ge (tgt := 69) hx hb dX12_drawSample_26 (by decide) (fun _ => ?_) (fun c => absurd (by decide) c)
      refine lv_iload_n hx hb dX12_drawSample_69 rfl (lv_at hl 1 rfl) ?_
      exact xreti C u_10 trivial hP hD hS (Nat.le_of_ble_eq_true rfl) (Nat.le_of_ble_eq_true rfl) rfl dX12_drawSample_70
  · -- split
    replace hP : va_P D vwCl [(hm, .inr (12, [.ref ms, .ref mkp, .int km, .ref mtr, .int (nI 4), .int (nI 2), .int (nI 2), .int (nI 3), .int (nI 2), .int (nI 1), .ref mas, .int (nI 0), .int (nI 0), .int (nI 0), .ref mso, .ref mon, .ref mot, .ref man, .int (nI 0), .int u_4, .ref mst, .ref msm, .ref mtb, .ref mti, .ref mfr, .ref mbn, .ref mbs, .ref mde, .int (nI 0), .int (nI 0), .int (nI 0), .int (nI 0), .long 0, .long 0, .ref maa, .ref mab, .ref mba, .ref mbb]))] H := hP
    replace hD : va_D A [(hm, .inr (12, [.ref ms, .ref mkp, .int km, .ref mtr, .int (nI 4), .int (nI 2), .int (nI 2), .int (nI 3), .int (nI 2), .int (nI 1), .ref mas, .int (nI 0), .int (nI 0), .int (nI 0), .ref mso, .ref mon, .ref mot, .ref man, .int (nI 0), .int u_4, .ref mst, .ref msm, .ref mtb, .ref mti, .ref mfr, .ref mbn, .ref mbs, .ref mde, .int (nI 0), .int (nI 0), .int (nI 0), .int (nI 0), .long 0, .long 0, .ref maa, .ref mab, .ref mba, .ref mbb]))] := hD
    refine lv_istore (lv' := [(5, .int (nI 1)), (4, .int (nI 0)), (3, .int (nI 0)), (2, .int (nI 11)), (0, .ref hm), (1, .int (nI 2))]) hx hb dX12_drawSample_37 hl (by decide) rfl ?_
    clear hl
    try clear ls
    intro ls hl
    refine lv_iload_n hx hb dX12_drawSample_39 rfl (lv_at hl 3 rfl) ?_
    refine lv_iload hx hb dX12_drawSample_40 (lv_at hl 0 rfl) ?_
    refine xi (wr := [(hm, .inr (12, [.ref ms, .ref mkp, .int km, .ref mtr, .int (nI 4), .int (nI 2), .int (nI 2), .int (nI 3), .int (nI 2), .int (nI 1), .ref mas, .int (nI 0), .int (nI 0), .int (nI 0), .ref mso, .ref mon, .ref mot, .ref man, .int (nI 0), .int u_4, .ref mst, .ref msm, .ref mtb, .ref mti, .ref mfr, .ref mbn, .ref mbs, .ref mde, .int (nI 0), .int (nI 0), .int (nI 0), .int (nI 0), .long 0, .long 0, .ref maa, .ref mab, .ref mba, .ref mbb]))]) (xS (As := [.int (nI 11), .int (nI 1)]) (rest := []) C (c_X12_nth_11_1 l D cs 0) kX12_159 hP hD [] rfl (by decide +kernel) ⟨Nat.le_of_ble_eq_true rfl, Nat.le_of_ble_eq_true rfl⟩ rfl hl.1 rfl (Nat.le_of_ble_eq_true rfl) dX12_drawSample_42 ⟨Nat.le_of_ble_eq_true rfl, Nat.le_of_ble_eq_true rfl⟩) hP hD hS hA [] [0] rfl rfl (by decide +kernel) (by decide +kernel) ?_
    clear hP hD hS
    try clear locs
    try clear H
    intro r_15 u_16 H locs hw_r_15 hP hD hS
    have hw_r_15 : r_15 = nI 1 := hw_r_15
    refine W.widen (k := 0) (n := 0) (Nat.le_of_ble_eq_true rfl) (Nat.le_of_ble_eq_true rfl) ?_
    replace hP : va_P D vwCl [(hm, .inr (12, [.ref ms, .ref mkp, .int km, .ref mtr, .int (nI 4), .int (nI 2), .int (nI 2), .int (nI 3), .int (nI 2), .int (nI 1), .ref mas, .int (nI 0), .int (nI 0), .int (nI 0), .ref mso, .ref mon, .ref mot, .ref man, .int (nI 0), .int u_4, .ref mst, .ref msm, .ref mtb, .ref mti, .ref mfr, .ref mbn, .ref mbs, .ref mde, .int (nI 0), .int (nI 0), .int (nI 0), .int (nI 0), .long 0, .long 0, .ref maa, .ref mab, .ref mba, .ref mbb]))] H := hP
    replace hD : va_D A [(hm, .inr (12, [.ref ms, .ref mkp, .int km, .ref mtr, .int (nI 4), .int (nI 2), .int (nI 2), .int (nI 3), .int (nI 2), .int (nI 1), .ref mas, .int (nI 0), .int (nI 0), .int (nI 0), .ref mso, .ref mon, .ref mot, .ref man, .int (nI 0), .int u_4, .ref mst, .ref msm, .ref mtb, .ref mti, .ref mfr, .ref mbn, .ref mbs, .ref mde, .int (nI 0), .int (nI 0), .int (nI 0), .int (nI 0), .long 0, .long 0, .ref maa, .ref mab, .ref mba, .ref mbb]))] := hD
    subst hw_r_15
    refine lv_istore (lv' := [(6, .int (nI 1)), (5, .int (nI 1)), (4, .int (nI 0)), (3, .int (nI 0)), (2, .int (nI 11)), (0, .ref hm), (1, .int (nI 2))]) hx hb dX12_drawSample_45 hl (by decide) rfl ?_
    clear hl
    try clear ls
    intro ls hl
    refine lv_iload_n hx hb dX12_drawSample_47 rfl (lv_at hl 4 rfl) ?_
    refine lv_iconst (v := nI 1) hx hb dX12_drawSample_48 (by decide) ?_
    refine lv_iload hx hb dX12_drawSample_49 (lv_at hl 0 rfl) ?_
    refine lv_ishl hx hb dX12_drawSample_51 ?_
    refine lv_topi (nm_r (e' := nI 2) (by decide) ?_)
    refine lv_iconst (v := (-1)) hx hb dX12_drawSample_52 (by decide) ?_
    refine lv_ixor hx hb dX12_drawSample_53 ?_
    refine lv_iand hx hb dX12_drawSample_54 ?_
    refine lv_topi (nm_r (e' := nI 9) (by decide) ?_)
    refine lv_istore_n (lv' := [(2, .int (nI 9)), (6, .int (nI 1)), (5, .int (nI 1)), (4, .int (nI 0)), (3, .int (nI 0)), (0, .ref hm), (1, .int (nI 2))]) hx hb dX12_drawSample_55 rfl hl (by decide) rfl ?_
    clear hl
    try clear ls
    intro ls hl
    refine lv_iload_n hx hb dX12_drawSample_56 rfl (lv_at hl 4 rfl) ?_
    refine lv_iconst (v := nI 1) hx hb dX12_drawSample_57 (by decide) ?_
    refine lv_iload hx hb dX12_drawSample_58 (lv_at hl 1 rfl) ?_
    refine lv_ishl hx hb dX12_drawSample_60 ?_
    refine lv_topi (nm_r (e' := nI 2) (by decide) ?_)
    refine lv_ior hx hb dX12_drawSample_61 ?_
    refine lv_topi (nm_r (e' := nI 2) (by decide) ?_)
    refine lv_istore_n (lv' := [(3, .int (nI 2)), (2, .int (nI 9)), (6, .int (nI 1)), (5, .int (nI 1)), (4, .int (nI 0)), (0, .ref hm), (1, .int (nI 2))]) hx hb dX12_drawSample_62 rfl hl (by decide) rfl ?_
    clear hl
    try clear ls
    intro ls hl
    refine lv_iinc (v := nI 1) (lv' := [(4, .int (nI 1)), (3, .int (nI 2)), (2, .int (nI 9)), (6, .int (nI 1)), (5, .int (nI 1)), (0, .ref hm), (1, .int (nI 2))]) hx hb dX12_drawSample_63 hl (k := 4) rfl (by decide) (by decide) rfl ?_
    clear hl
    try clear ls
    intro ls hl
    refine lv_goto (tgt := 20) hx hb dX12_drawSample_66 (by decide) ?_
    refine lv_iload hx hb dX12_drawSample_20 (lv_at hl 0 rfl) ?_
    refine lv_aload_n hx hb dX12_drawSample_22 rfl (lv_at hl 5 rfl) ?_
    refine xget C hP 0 rfl rfl zuX12 5 (by decide) zw5_218 rfl dX12_drawSample_23 ?_
    refine lv_icmp_ge (tgt := 69) hx hb dX12_drawSample_26 (by decide) (fun c => absurd c (by decide)) (fun _ => ?_)
    refine lv_aload_n hx hb dX12_drawSample_29 rfl (lv_at hl 5 rfl) ?_
    refine lv_iload_n hx hb dX12_drawSample_30 rfl (lv_at hl 2 rfl) ?_
    refine xi (wr := [(hm, .inr (12, [.ref ms, .ref mkp, .int km, .ref mtr, .int (nI 4), .int (nI 2), .int (nI 2), .int (nI 3), .int (nI 2), .int (nI 1), .ref mas, .int (nI 0), .int (nI 0), .int (nI 0), .ref mso, .ref mon, .ref mot, .ref man, .int (nI 0), .int u_4, .ref mst, .ref msm, .ref mtb, .ref mti, .ref mfr, .ref mbn, .ref mbs, .ref mde, .int (nI 0), .int (nI 0), .int (nI 0), .int (nI 0), .long 0, .long 0, .ref maa, .ref mab, .ref mba, .ref mbb]))]) (xS (As := [.int (nI 9)]) (rest := [.ref hm]) C (c_X12_many_x l D cs (nI 9)) kX12_127 hP hD [] rfl (by decide +kernel) ⟨Nat.le_of_ble_eq_true rfl, Nat.le_of_ble_eq_true rfl⟩ rfl hl.1 rfl (Nat.le_of_ble_eq_true rfl) dX12_drawSample_31 ⟨Nat.le_of_ble_eq_true rfl, Nat.le_of_ble_eq_true rfl⟩) hP hD hS hA [] [0] rfl rfl (by decide +kernel) (by decide +kernel) ?_
    clear hP hD hS
    try clear locs
    try clear H
    intro r_17 u_18 H locs hw_r_17 hP hD hS
    have hw_r_17 : r_17 = mnC (nI 9) 16 := hw_r_17
    refine W.widen (k := 0) (n := 0) (Nat.le_of_ble_eq_true rfl) (Nat.le_of_ble_eq_true rfl) ?_
    replace hP : va_P D vwCl [(hm, .inr (12, [.ref ms, .ref mkp, .int km, .ref mtr, .int (nI 4), .int (nI 2), .int (nI 2), .int (nI 3), .int (nI 2), .int (nI 1), .ref mas, .int (nI 0), .int (nI 0), .int (nI 0), .ref mso, .ref mon, .ref mot, .ref man, .int (nI 0), .int u_4, .ref mst, .ref msm, .ref mtb, .ref mti, .ref mfr, .ref mbn, .ref mbs, .ref mde, .int (nI 0), .int (nI 0), .int (nI 0), .int (nI 0), .long 0, .long 0, .ref maa, .ref mab, .ref mba, .ref mbb]))] H := hP
    replace hD : va_D A [(hm, .inr (12, [.ref ms, .ref mkp, .int km, .ref mtr, .int (nI 4), .int (nI 2), .int (nI 2), .int (nI 3), .int (nI 2), .int (nI 1), .ref mas, .int (nI 0), .int (nI 0), .int (nI 0), .ref mso, .ref mon, .ref mot, .ref man, .int (nI 0), .int u_4, .ref mst, .ref msm, .ref mtb, .ref mti, .ref mfr, .ref mbn, .ref mbs, .ref mde, .int (nI 0), .int (nI 0), .int (nI 0), .int (nI 0), .long 0, .long 0, .ref maa, .ref mab, .ref mba, .ref mbb]))] := hD
    obtain rfl : r_17 = nI 2 := by rw [hw_r_17]; decide +kernel
    refine xi (wr := []) (xV (As := [.int (nI 2)]) (rest := []) C (c_X12_draw l D cs hm ms mkp mtr mas mso mon mot man mst msm mtb mti mfr mbn mbs mde maa mab mba mbb km u_4 2 (by decide) (by decide)) kX12_156 hP hD [0] rfl (by decide +kernel) 0 rfl rfl rfl ⟨Nat.le_of_ble_eq_true rfl, Nat.le_of_ble_eq_true rfl⟩ rfl hl.1 rfl (Nat.le_of_ble_eq_true rfl) dX12_drawSample_34 ⟨Nat.le_of_ble_eq_true rfl, Nat.le_of_ble_eq_true rfl⟩) hP hD hS hA [0] [] rfl rfl (by decide +kernel) (by decide +kernel) ?_
    clear hP hD hS
    try clear locs
    try clear H
    intro r_19 u_20 H locs hw_r_19 hP hD hS
    have hw_r_19 : ∃ j, j < 2 ∧ r_19 = nI j := hw_r_19
    refine W.widen (k := 0) (n := 0) (Nat.le_of_ble_eq_true rfl) (Nat.le_of_ble_eq_true rfl) ?_
    replace hP : va_P D vwCl [(hm, .inr (12, [.ref ms, .ref mkp, .int km, .ref mtr, .int (nI 4), .int (nI 2), .int (nI 2), .int (nI 3), .int (nI 2), .int (nI 1), .ref mas, .int (nI 0), .int (nI 0), .int (nI 0), .ref mso, .ref mon, .ref mot, .ref man, .int (nI 0), .int u_20, .ref mst, .ref msm, .ref mtb, .ref mti, .ref mfr, .ref mbn, .ref mbs, .ref mde, .int (nI 0), .int (nI 0), .int (nI 0), .int (nI 0), .long 0, .long 0, .ref maa, .ref mab, .ref mba, .ref mbb]))] H := hP
    replace hD : va_D A [(hm, .inr (12, [.ref ms, .ref mkp, .int km, .ref mtr, .int (nI 4), .int (nI 2), .int (nI 2), .int (nI 3), .int (nI 2), .int (nI 1), .ref mas, .int (nI 0), .int (nI 0), .int (nI 0), .ref mso, .ref mon, .ref mot, .ref man, .int (nI 0), .int u_20, .ref mst, .ref msm, .ref mtb, .ref mti, .ref mfr, .ref mbn, .ref mbs, .ref mde, .int (nI 0), .int (nI 0), .int (nI 0), .int (nI 0), .long 0, .long 0, .ref maa, .ref mab, .ref mba, .ref mbb]))] := hD
    rcases (dr2 hw_r_19) with rfl | rfl
    · -- split
      replace hP : va_P D vwCl [(hm, .inr (12, [.ref ms, .ref mkp, .int km, .ref mtr, .int (nI 4), .int (nI 2), .int (nI 2), .int (nI 3), .int (nI 2), .int (nI 1), .ref mas, .int (nI 0), .int (nI 0), .int (nI 0), .ref mso, .ref mon, .ref mot, .ref man, .int (nI 0), .int u_20, .ref mst, .ref msm, .ref mtb, .ref mti, .ref mfr, .ref mbn, .ref mbs, .ref mde, .int (nI 0), .int (nI 0), .int (nI 0), .int (nI 0), .long 0, .long 0, .ref maa, .ref mab, .ref mba, .ref mbb]))] H := hP
      replace hD : va_D A [(hm, .inr (12, [.ref ms, .ref mkp, .int km, .ref mtr, .int (nI 4), .int (nI 2), .int (nI 2), .int (nI 3), .int (nI 2), .int (nI 1), .ref mas, .int (nI 0), .int (nI 0), .int (nI 0), .ref mso, .ref mon, .ref mot, .ref man, .int (nI 0), .int u_20, .ref mst, .ref msm, .ref mtb, .ref mti, .ref mfr, .ref mbn, .ref mbs, .ref mde, .int (nI 0), .int (nI 0), .int (nI 0), .int (nI 0), .long 0, .long 0, .ref maa, .ref mab, .ref mba, .ref mbb]))] := hD
      refine lv_istore (lv' := [(5, .int (nI 0)), (4, .int (nI 1)), (3, .int (nI 2)), (2, .int (nI 9)), (6, .int (nI 1)), (0, .ref hm), (1, .int (nI 2))]) hx hb dX12_drawSample_37 hl (by decide) rfl ?_
      clear hl
      try clear ls
      intro ls hl
      refine lv_iload_n hx hb dX12_drawSample_39 rfl (lv_at hl 3 rfl) ?_
      refine lv_iload hx hb dX12_drawSample_40 (lv_at hl 0 rfl) ?_
      refine xi (wr := [(hm, .inr (12, [.ref ms, .ref mkp, .int km, .ref mtr, .int (nI 4), .int (nI 2), .int (nI 2), .int (nI 3), .int (nI 2), .int (nI 1), .ref mas, .int (nI 0), .int (nI 0), .int (nI 0), .ref mso, .ref mon, .ref mot, .ref man, .int (nI 0), .int u_20, .ref mst, .ref msm, .ref mtb, .ref mti, .ref mfr, .ref mbn, .ref mbs, .ref mde, .int (nI 0), .int (nI 0), .int (nI 0), .int (nI 0), .long 0, .long 0, .ref maa, .ref mab, .ref mba, .ref mbb]))]) (xS (As := [.int (nI 9), .int (nI 0)]) (rest := []) C (c_X12_nth_9_0 l D cs 0) kX12_159 hP hD [] rfl (by decide +kernel) ⟨Nat.le_of_ble_eq_true rfl, Nat.le_of_ble_eq_true rfl⟩ rfl hl.1 rfl (Nat.le_of_ble_eq_true rfl) dX12_drawSample_42 ⟨Nat.le_of_ble_eq_true rfl, Nat.le_of_ble_eq_true rfl⟩) hP hD hS hA [] [0] rfl rfl (by decide +kernel) (by decide +kernel) ?_
      clear hP hD hS
      try clear locs
      try clear H
      intro r_21 u_22 H locs hw_r_21 hP hD hS
      have hw_r_21 : r_21 = nI 0 := hw_r_21
      refine W.widen (k := 0) (n := 0) (Nat.le_of_ble_eq_true rfl) (Nat.le_of_ble_eq_true rfl) ?_
      replace hP : va_P D vwCl [(hm, .inr (12, [.ref ms, .ref mkp, .int km, .ref mtr, .int (nI 4), .int (nI 2), .int (nI 2), .int (nI 3), .int (nI 2), .int (nI 1), .ref mas, .int (nI 0), .int (nI 0), .int (nI 0), .ref mso, .ref mon, .ref mot, .ref man, .int (nI 0), .int u_20, .ref mst, .ref msm, .ref mtb, .ref mti, .ref mfr, .ref mbn, .ref mbs, .ref mde, .int (nI 0), .int (nI 0), .int (nI 0), .int (nI 0), .long 0, .long 0, .ref maa, .ref mab, .ref mba, .ref mbb]))] H := hP
      replace hD : va_D A [(hm, .inr (12, [.ref ms, .ref mkp, .int km, .ref mtr, .int (nI 4), .int (nI 2), .int (nI 2), .int (nI 3), .int (nI 2), .int (nI 1), .ref mas, .int (nI 0), .int (nI 0), .int (nI 0), .ref mso, .ref mon, .ref mot, .ref man, .int (nI 0), .int u_20, .ref mst, .ref msm, .ref mtb, .ref mti, .ref mfr, .ref mbn, .ref mbs, .ref mde, .int (nI 0), .int (nI 0), .int (nI 0), .int (nI 0), .long 0, .long 0, .ref maa, .ref mab, .ref mba, .ref mbb]))] := hD
      subst hw_r_21
      refine lv_istore (lv' := [(6, .int (nI 0)), (5, .int (nI 0)), (4, .int (nI 1)), (3, .int (nI 2)), (2, .int (nI 9)), (0, .ref hm), (1, .int (nI 2))]) hx hb dX12_drawSample_45 hl (by decide) rfl ?_
      clear hl
      try clear ls
      intro ls hl
      refine lv_iload_n hx hb dX12_drawSample_47 rfl (lv_at hl 4 rfl) ?_
      refine lv_iconst (v := nI 1) hx hb dX12_drawSample_48 (by decide) ?_
      refine lv_iload hx hb dX12_drawSample_49 (lv_at hl 0 rfl) ?_
      refine lv_ishl hx hb dX12_drawSample_51 ?_
      refine lv_topi (nm_r (e' := nI 1) (by decide) ?_)
      refine lv_iconst (v := (-1)) hx hb dX12_drawSample_52 (by decide) ?_
      refine lv_ixor hx hb dX12_drawSample_53 ?_
      refine lv_iand hx hb dX12_drawSample_54 ?_
      refine lv_topi (nm_r (e' := nI 8) (by decide) ?_)
      refine lv_istore_n (lv' := [(2, .int (nI 8)), (6, .int (nI 0)), (5, .int (nI 0)), (4, .int (nI 1)), (3, .int (nI 2)), (0, .ref hm), (1, .int (nI 2))]) hx hb dX12_drawSample_55 rfl hl (by decide) rfl ?_
      clear hl
      try clear ls
      intro ls hl
      refine lv_iload_n hx hb dX12_drawSample_56 rfl (lv_at hl 4 rfl) ?_
      refine lv_iconst (v := nI 1) hx hb dX12_drawSample_57 (by decide) ?_
      refine lv_iload hx hb dX12_drawSample_58 (lv_at hl 1 rfl) ?_
      refine lv_ishl hx hb dX12_drawSample_60 ?_
      refine lv_topi (nm_r (e' := nI 1) (by decide) ?_)
      refine lv_ior hx hb dX12_drawSample_61 ?_
      refine lv_topi (nm_r (e' := nI 3) (by decide) ?_)
      refine lv_istore_n (lv' := [(3, .int (nI 3)), (2, .int (nI 8)), (6, .int (nI 0)), (5, .int (nI 0)), (4, .int (nI 1)), (0, .ref hm), (1, .int (nI 2))]) hx hb dX12_drawSample_62 rfl hl (by decide) rfl ?_
      clear hl
      try clear ls
      intro ls hl
      refine lv_iinc (v := nI 2) (lv' := [(4, .int (nI 2)), (3, .int (nI 3)), (2, .int (nI 8)), (6, .int (nI 0)), (5, .int (nI 0)), (0, .ref hm), (1, .int (nI 2))]) hx hb dX12_drawSample_63 hl (k := 4) rfl (by decide) (by decide) rfl ?_
      clear hl
      try clear ls
      intro ls hl
      refine lv_goto (tgt := 20) hx hb dX12_drawSample_66 (by decide) ?_
      refine lv_iload hx hb dX12_drawSample_20 (lv_at hl 0 rfl) ?_
      refine lv_aload_n hx hb dX12_drawSample_22 rfl (lv_at hl 5 rfl) ?_
      refine xget C hP 0 rfl rfl zuX12 5 (by decide) zw5_218 rfl dX12_drawSample_23 ?_
      refine lv_icmp_ge (tgt := 69) hx hb dX12_drawSample_26 (by decide) (fun _ => ?_) (fun c => absurd (by decide) c)
      refine lv_iload_n hx hb dX12_drawSample_69 rfl (lv_at hl 1 rfl) ?_
      exact xreti C u_20 trivial hP hD hS (Nat.le_of_ble_eq_true rfl) (Nat.le_of_ble_eq_true rfl) rfl dX12_drawSample_70
    · -- split
      replace hP : va_P D vwCl [(hm, .inr (12, [.ref ms, .ref mkp, .int km, .ref mtr, .int (nI 4), .int (nI 2), .int (nI 2), .int (nI 3), .int (nI 2), .int (nI 1), .ref mas, .int (nI 0), .int (nI 0), .int (nI 0), .ref mso, .ref mon, .ref mot, .ref man, .int (nI 0), .int u_20, .ref mst, .ref msm, .ref mtb, .ref mti, .ref mfr, .ref mbn, .ref mbs, .ref mde, .int (nI 0), .int (nI 0), .int (nI 0), .int (nI 0), .long 0, .long 0, .ref maa, .ref mab, .ref mba, .ref mbb]))] H := hP
      replace hD : va_D A [(hm, .inr (12, [.ref ms, .ref mkp, .int km, .ref mtr, .int (nI 4), .int (nI 2), .int (nI 2), .int (nI 3), .int (nI 2), .int (nI 1), .ref mas, .int (nI 0), .int (nI 0), .int (nI 0), .ref mso, .ref mon, .ref mot, .ref man, .int (nI 0), .int u_20, .ref mst, .ref msm, .ref mtb, .ref mti, .ref mfr, .ref mbn, .ref mbs, .ref mde, .int (nI 0), .int (nI 0), .int (nI 0), .int (nI 0), .long 0, .long 0, .ref maa, .ref mab, .ref mba, .ref mbb]))] := hD
      refine lv_istore (lv' := [(5, .int (nI 1)), (4, .int (nI 1)), (3, .int (nI 2)), (2, .int (nI 9)), (6, .int (nI 1)), (0, .ref hm), (1, .int (nI 2))]) hx hb dX12_drawSample_37 hl (by decide) rfl ?_
      clear hl
      try clear ls
      intro ls hl
      refine lv_iload_n hx hb dX12_drawSample_39 rfl (lv_at hl 3 rfl) ?_
      refine lv_iload hx hb dX12_drawSample_40 (lv_at hl 0 rfl) ?_
      refine xi (wr := [(hm, .inr (12, [.ref ms, .ref mkp, .int km, .ref mtr, .int (nI 4), .int (nI 2), .int (nI 2), .int (nI 3), .int (nI 2), .int (nI 1), .ref mas, .int (nI 0), .int (nI 0), .int (nI 0), .ref mso, .ref mon, .ref mot, .ref man, .int (nI 0), .int u_20, .ref mst, .ref msm, .ref mtb, .ref mti, .ref mfr, .ref mbn, .ref mbs, .ref mde, .int (nI 0), .int (nI 0), .int (nI 0), .int (nI 0), .long 0, .long 0, .ref maa, .ref mab, .ref mba, .ref mbb]))]) (xS (As := [.int (nI 9), .int (nI 1)]) (rest := []) C (c_X12_nth_9_1 l D cs 0) kX12_159 hP hD [] rfl (by decide +kernel) ⟨Nat.le_of_ble_eq_true rfl, Nat.le_of_ble_eq_true rfl⟩ rfl hl.1 rfl (Nat.le_of_ble_eq_true rfl) dX12_drawSample_42 ⟨Nat.le_of_ble_eq_true rfl, Nat.le_of_ble_eq_true rfl⟩) hP hD hS hA [] [0] rfl rfl (by decide +kernel) (by decide +kernel) ?_
      clear hP hD hS
      try clear locs
      try clear H
      intro r_23 u_24 H locs hw_r_23 hP hD hS
      have hw_r_23 : r_23 = nI 3 := hw_r_23
      refine W.widen (k := 0) (n := 0) (Nat.le_of_ble_eq_true rfl) (Nat.le_of_ble_eq_true rfl) ?_
      replace hP : va_P D vwCl [(hm, .inr (12, [.ref ms, .ref mkp, .int km, .ref mtr, .int (nI 4), .int (nI 2), .int (nI 2), .int (nI 3), .int (nI 2), .int (nI 1), .ref mas, .int (nI 0), .int (nI 0), .int (nI 0), .ref mso, .ref mon, .ref mot, .ref man, .int (nI 0), .int u_20, .ref mst, .ref msm, .ref mtb, .ref mti, .ref mfr, .ref mbn, .ref mbs, .ref mde, .int (nI 0), .int (nI 0), .int (nI 0), .int (nI 0), .long 0, .long 0, .ref maa, .ref mab, .ref mba, .ref mbb]))] H := hP
      replace hD : va_D A [(hm, .inr (12, [.ref ms, .ref mkp, .int km, .ref mtr, .int (nI 4), .int (nI 2), .int (nI 2), .int (nI 3), .int (nI 2), .int (nI 1), .ref mas, .int (nI 0), .int (nI 0), .int (nI 0), .ref mso, .ref mon, .ref mot, .ref man, .int (nI 0), .int u_20, .ref mst, .ref msm, .ref mtb, .ref mti, .ref mfr, .ref mbn, .ref mbs, .ref mde, .int (nI 0), .int (nI 0), .int (nI 0), .int (nI 0), .long 0, .long 0, .ref maa, .ref mab, .ref mba, .ref mbb]))] := hD
      subst hw_r_23
      refine lv_istore (lv' := [(6, .int (nI 3)), (5, .int (nI 1)), (4, .int (nI 1)), (3, .int (nI 2)), (2, .int (nI 9)), (0, .ref hm), (1, .int (nI 2))]) hx hb dX12_drawSample_45 hl (by decide) rfl ?_
      clear hl
      try clear ls
      intro ls hl
      refine lv_iload_n hx hb dX12_drawSample_47 rfl (lv_at hl 4 rfl) ?_
      refine lv_iconst (v := nI 1) hx hb dX12_drawSample_48 (by decide) ?_
      refine lv_iload hx hb dX12_drawSample_49 (lv_at hl 0 rfl) ?_
      refine lv_ishl hx hb dX12_drawSample_51 ?_
      refine lv_topi (nm_r (e' := nI 8) (by decide) ?_)
      refine lv_iconst (v := (-1)) hx hb dX12_drawSample_52 (by decide) ?_
      refine lv_ixor hx hb dX12_drawSample_53 ?_
      refine lv_iand hx hb dX12_drawSample_54 ?_
      refine lv_topi (nm_r (e' := nI 1) (by decide) ?_)
      refine lv_istore_n (lv' := [(2, .int (nI 1)), (6, .int (nI 3)), (5, .int (nI 1)), (4, .int (nI 1)), (3, .int (nI 2)), (0, .ref hm), (1, .int (nI 2))]) hx hb dX12_drawSample_55 rfl hl (by decide) rfl ?_
      clear hl
      try clear ls
      intro ls hl
      refine lv_iload_n hx hb dX12_drawSample_56 rfl (lv_at hl 4 rfl) ?_
      refine lv_iconst (v := nI 1) hx hb dX12_drawSample_57 (by decide) ?_
      refine lv_iload hx hb dX12_drawSample_58 (lv_at hl 1 rfl) ?_
      refine lv_ishl hx hb dX12_drawSample_60 ?_
      refine lv_topi (nm_r (e' := nI 8) (by decide) ?_)
      refine lv_ior hx hb dX12_drawSample_61 ?_
      refine lv_topi (nm_r (e' := nI 10) (by decide) ?_)
      refine lv_istore_n (lv' := [(3, .int (nI 10)), (2, .int (nI 1)), (6, .int (nI 3)), (5, .int (nI 1)), (4, .int (nI 1)), (0, .ref hm), (1, .int (nI 2))]) hx hb dX12_drawSample_62 rfl hl (by decide) rfl ?_
      clear hl
      try clear ls
      intro ls hl
      refine lv_iinc (v := nI 2) (lv' := [(4, .int (nI 2)), (3, .int (nI 10)), (2, .int (nI 1)), (6, .int (nI 3)), (5, .int (nI 1)), (0, .ref hm), (1, .int (nI 2))]) hx hb dX12_drawSample_63 hl (k := 4) rfl (by decide) (by decide) rfl ?_
      clear hl
      try clear ls
      intro ls hl
      refine lv_goto (tgt := 20) hx hb dX12_drawSample_66 (by decide) ?_
      refine lv_iload hx hb dX12_drawSample_20 (lv_at hl 0 rfl) ?_
      refine lv_aload_n hx hb dX12_drawSample_22 rfl (lv_at hl 5 rfl) ?_
      refine xget C hP 0 rfl rfl zuX12 5 (by decide) zw5_218 rfl dX12_drawSample_23 ?_
      refine lv_icmp_ge (tgt := 69) hx hb dX12_drawSample_26 (by decide) (fun _ => ?_) (fun c => absurd (by decide) c)
      refine lv_iload_n hx hb dX12_drawSample_69 rfl (lv_at hl 1 rfl) ?_
      exact xreti C u_20 trivial hP hD hS (Nat.le_of_ble_eq_true rfl) (Nat.le_of_ble_eq_true rfl) rfl dX12_drawSample_70
  · -- split
    replace hP : va_P D vwCl [(hm, .inr (12, [.ref ms, .ref mkp, .int km, .ref mtr, .int (nI 4), .int (nI 2), .int (nI 2), .int (nI 3), .int (nI 2), .int (nI 1), .ref mas, .int (nI 0), .int (nI 0), .int (nI 0), .ref mso, .ref mon, .ref mot, .ref man, .int (nI 0), .int u_4, .ref mst, .ref msm, .ref mtb, .ref mti, .ref mfr, .ref mbn, .ref mbs, .ref mde, .int (nI 0), .int (nI 0), .int (nI 0), .int (nI 0), .long 0, .long 0, .ref maa, .ref mab, .ref mba, .ref mbb]))] H := hP
    replace hD : va_D A [(hm, .inr (12, [.ref ms, .ref mkp, .int km, .ref mtr, .int (nI 4), .int (nI 2), .int (nI 2), .int (nI 3), .int (nI 2), .int (nI 1), .ref mas, .int (nI 0), .int (nI 0), .int (nI 0), .ref mso, .ref mon, .ref mot, .ref man, .int (nI 0), .int u_4, .ref mst, .ref msm, .ref mtb, .ref mti, .ref mfr, .ref mbn, .ref mbs, .ref mde, .int (nI 0), .int (nI 0), .int (nI 0), .int (nI 0), .long 0, .long 0, .ref maa, .ref mab, .ref mba, .ref mbb]))] := hD
    refine lv_istore (lv' := [(5, .int (nI 2)), (4, .int (nI 0)), (3, .int (nI 0)), (2, .int (nI 11)), (0, .ref hm), (1, .int (nI 2))]) hx hb dX12_drawSample_37 hl (by decide) rfl ?_
    clear hl
    try clear ls
    intro ls hl
    refine lv_iload_n hx hb dX12_drawSample_39 rfl (lv_at hl 3 rfl) ?_
    refine lv_iload hx hb dX12_drawSample_40 (lv_at hl 0 rfl) ?_
    refine xi (wr := [(hm, .inr (12, [.ref ms, .ref mkp, .int km, .ref mtr, .int (nI 4), .int (nI 2), .int (nI 2), .int (nI 3), .int (nI 2), .int (nI 1), .ref mas, .int (nI 0), .int (nI 0), .int (nI 0), .ref mso, .ref mon, .ref mot, .ref man, .int (nI 0), .int u_4, .ref mst, .ref msm, .ref mtb, .ref mti, .ref mfr, .ref mbn, .ref mbs, .ref mde, .int (nI 0), .int (nI 0), .int (nI 0), .int (nI 0), .long 0, .long 0, .ref maa, .ref mab, .ref mba, .ref mbb]))]) (xS (As := [.int (nI 11), .int (nI 2)]) (rest := []) C (c_X12_nth_11_2 l D cs 0) kX12_159 hP hD [] rfl (by decide +kernel) ⟨Nat.le_of_ble_eq_true rfl, Nat.le_of_ble_eq_true rfl⟩ rfl hl.1 rfl (Nat.le_of_ble_eq_true rfl) dX12_drawSample_42 ⟨Nat.le_of_ble_eq_true rfl, Nat.le_of_ble_eq_true rfl⟩) hP hD hS hA [] [0] rfl rfl (by decide +kernel) (by decide +kernel) ?_
    clear hP hD hS
    try clear locs
    try clear H
    intro r_25 u_26 H locs hw_r_25 hP hD hS
    have hw_r_25 : r_25 = nI 3 := hw_r_25
    refine W.widen (k := 0) (n := 0) (Nat.le_of_ble_eq_true rfl) (Nat.le_of_ble_eq_true rfl) ?_
    replace hP : va_P D vwCl [(hm, .inr (12, [.ref ms, .ref mkp, .int km, .ref mtr, .int (nI 4), .int (nI 2), .int (nI 2), .int (nI 3), .int (nI 2), .int (nI 1), .ref mas, .int (nI 0), .int (nI 0), .int (nI 0), .ref mso, .ref mon, .ref mot, .ref man, .int (nI 0), .int u_4, .ref mst, .ref msm, .ref mtb, .ref mti, .ref mfr, .ref mbn, .ref mbs, .ref mde, .int (nI 0), .int (nI 0), .int (nI 0), .int (nI 0), .long 0, .long 0, .ref maa, .ref mab, .ref mba, .ref mbb]))] H := hP
    replace hD : va_D A [(hm, .inr (12, [.ref ms, .ref mkp, .int km, .ref mtr, .int (nI 4), .int (nI 2), .int (nI 2), .int (nI 3), .int (nI 2), .int (nI 1), .ref mas, .int (nI 0), .int (nI 0), .int (nI 0), .ref mso, .ref mon, .ref mot, .ref man, .int (nI 0), .int u_4, .ref mst, .ref msm, .ref mtb, .ref mti, .ref mfr, .ref mbn, .ref mbs, .ref mde, .int (nI 0), .int (nI 0), .int (nI 0), .int (nI 0), .long 0, .long 0, .ref maa, .ref mab, .ref mba, .ref mbb]))] := hD
    subst hw_r_25
    refine lv_istore (lv' := [(6, .int (nI 3)), (5, .int (nI 2)), (4, .int (nI 0)), (3, .int (nI 0)), (2, .int (nI 11)), (0, .ref hm), (1, .int (nI 2))]) hx hb dX12_drawSample_45 hl (by decide) rfl ?_
    clear hl
    try clear ls
    intro ls hl
    refine lv_iload_n hx hb dX12_drawSample_47 rfl (lv_at hl 4 rfl) ?_
    refine lv_iconst (v := nI 1) hx hb dX12_drawSample_48 (by decide) ?_
    refine lv_iload hx hb dX12_drawSample_49 (lv_at hl 0 rfl) ?_
    refine lv_ishl hx hb dX12_drawSample_51 ?_
    refine lv_topi (nm_r (e' := nI 8) (by decide) ?_)
    refine lv_iconst (v := (-1)) hx hb dX12_drawSample_52 (by decide) ?_
    refine lv_ixor hx hb dX12_drawSample_53 ?_
    refine lv_iand hx hb dX12_drawSample_54 ?_
    refine lv_topi (nm_r (e' := nI 3) (by decide) ?_)
    refine lv_istore_n (lv' := [(2, .int (nI 3)), (6, .int (nI 3)), (5, .int (nI 2)), (4, .int (nI 0)), (3, .int (nI 0)), (0, .ref hm), (1, .int (nI 2))]) hx hb dX12_drawSample_55 rfl hl (by decide) rfl ?_
    clear hl
    try clear ls
    intro ls hl
    refine lv_iload_n hx hb dX12_drawSample_56 rfl (lv_at hl 4 rfl) ?_
    refine lv_iconst (v := nI 1) hx hb dX12_drawSample_57 (by decide) ?_
    refine lv_iload hx hb dX12_drawSample_58 (lv_at hl 1 rfl) ?_
    refine lv_ishl hx hb dX12_drawSample_60 ?_
    refine lv_topi (nm_r (e' := nI 8) (by decide) ?_)
    refine lv_ior hx hb dX12_drawSample_61 ?_
    refine lv_topi (nm_r (e' := nI 8) (by decide) ?_)
    refine lv_istore_n (lv' := [(3, .int (nI 8)), (2, .int (nI 3)), (6, .int (nI 3)), (5, .int (nI 2)), (4, .int (nI 0)), (0, .ref hm), (1, .int (nI 2))]) hx hb dX12_drawSample_62 rfl hl (by decide) rfl ?_
    clear hl
    try clear ls
    intro ls hl
    refine lv_iinc (v := nI 1) (lv' := [(4, .int (nI 1)), (3, .int (nI 8)), (2, .int (nI 3)), (6, .int (nI 3)), (5, .int (nI 2)), (0, .ref hm), (1, .int (nI 2))]) hx hb dX12_drawSample_63 hl (k := 4) rfl (by decide) (by decide) rfl ?_
    clear hl
    try clear ls
    intro ls hl
    refine lv_goto (tgt := 20) hx hb dX12_drawSample_66 (by decide) ?_
    refine lv_iload hx hb dX12_drawSample_20 (lv_at hl 0 rfl) ?_
    refine lv_aload_n hx hb dX12_drawSample_22 rfl (lv_at hl 5 rfl) ?_
    refine xget C hP 0 rfl rfl zuX12 5 (by decide) zw5_218 rfl dX12_drawSample_23 ?_
    refine lv_icmp_ge (tgt := 69) hx hb dX12_drawSample_26 (by decide) (fun c => absurd c (by decide)) (fun _ => ?_)
    refine lv_aload_n hx hb dX12_drawSample_29 rfl (lv_at hl 5 rfl) ?_
    refine lv_iload_n hx hb dX12_drawSample_30 rfl (lv_at hl 2 rfl) ?_
    refine xi (wr := [(hm, .inr (12, [.ref ms, .ref mkp, .int km, .ref mtr, .int (nI 4), .int (nI 2), .int (nI 2), .int (nI 3), .int (nI 2), .int (nI 1), .ref mas, .int (nI 0), .int (nI 0), .int (nI 0), .ref mso, .ref mon, .ref mot, .ref man, .int (nI 0), .int u_4, .ref mst, .ref msm, .ref mtb, .ref mti, .ref mfr, .ref mbn, .ref mbs, .ref mde, .int (nI 0), .int (nI 0), .int (nI 0), .int (nI 0), .long 0, .long 0, .ref maa, .ref mab, .ref mba, .ref mbb]))]) (xS (As := [.int (nI 3)]) (rest := [.ref hm]) C (c_X12_many_x l D cs (nI 3)) kX12_127 hP hD [] rfl (by decide +kernel) ⟨Nat.le_of_ble_eq_true rfl, Nat.le_of_ble_eq_true rfl⟩ rfl hl.1 rfl (Nat.le_of_ble_eq_true rfl) dX12_drawSample_31 ⟨Nat.le_of_ble_eq_true rfl, Nat.le_of_ble_eq_true rfl⟩) hP hD hS hA [] [0] rfl rfl (by decide +kernel) (by decide +kernel) ?_
    clear hP hD hS
    try clear locs
    try clear H
    intro r_27 u_28 H locs hw_r_27 hP hD hS
    have hw_r_27 : r_27 = mnC (nI 3) 16 := hw_r_27
    refine W.widen (k := 0) (n := 0) (Nat.le_of_ble_eq_true rfl) (Nat.le_of_ble_eq_true rfl) ?_
    replace hP : va_P D vwCl [(hm, .inr (12, [.ref ms, .ref mkp, .int km, .ref mtr, .int (nI 4), .int (nI 2), .int (nI 2), .int (nI 3), .int (nI 2), .int (nI 1), .ref mas, .int (nI 0), .int (nI 0), .int (nI 0), .ref mso, .ref mon, .ref mot, .ref man, .int (nI 0), .int u_4, .ref mst, .ref msm, .ref mtb, .ref mti, .ref mfr, .ref mbn, .ref mbs, .ref mde, .int (nI 0), .int (nI 0), .int (nI 0), .int (nI 0), .long 0, .long 0, .ref maa, .ref mab, .ref mba, .ref mbb]))] H := hP
    replace hD : va_D A [(hm, .inr (12, [.ref ms, .ref mkp, .int km, .ref mtr, .int (nI 4), .int (nI 2), .int (nI 2), .int (nI 3), .int (nI 2), .int (nI 1), .ref mas, .int (nI 0), .int (nI 0), .int (nI 0), .ref mso, .ref mon, .ref mot, .ref man, .int (nI 0), .int u_4, .ref mst, .ref msm, .ref mtb, .ref mti, .ref mfr, .ref mbn, .ref mbs, .ref mde, .int (nI 0), .int (nI 0), .int (nI 0), .int (nI 0), .long 0, .long 0, .ref maa, .ref mab, .ref mba, .ref mbb]))] := hD
    obtain rfl : r_27 = nI 2 := by rw [hw_r_27]; decide +kernel
    refine xi (wr := []) (xV (As := [.int (nI 2)]) (rest := []) C (c_X12_draw l D cs hm ms mkp mtr mas mso mon mot man mst msm mtb mti mfr mbn mbs mde maa mab mba mbb km u_4 2 (by decide) (by decide)) kX12_156 hP hD [0] rfl (by decide +kernel) 0 rfl rfl rfl ⟨Nat.le_of_ble_eq_true rfl, Nat.le_of_ble_eq_true rfl⟩ rfl hl.1 rfl (Nat.le_of_ble_eq_true rfl) dX12_drawSample_34 ⟨Nat.le_of_ble_eq_true rfl, Nat.le_of_ble_eq_true rfl⟩) hP hD hS hA [0] [] rfl rfl (by decide +kernel) (by decide +kernel) ?_
    clear hP hD hS
    try clear locs
    try clear H
    intro r_29 u_30 H locs hw_r_29 hP hD hS
    have hw_r_29 : ∃ j, j < 2 ∧ r_29 = nI j := hw_r_29
    refine W.widen (k := 0) (n := 0) (Nat.le_of_ble_eq_true rfl) (Nat.le_of_ble_eq_true rfl) ?_
    replace hP : va_P D vwCl [(hm, .inr (12, [.ref ms, .ref mkp, .int km, .ref mtr, .int (nI 4), .int (nI 2), .int (nI 2), .int (nI 3), .int (nI 2), .int (nI 1), .ref mas, .int (nI 0), .int (nI 0), .int (nI 0), .ref mso, .ref mon, .ref mot, .ref man, .int (nI 0), .int u_30, .ref mst, .ref msm, .ref mtb, .ref mti, .ref mfr, .ref mbn, .ref mbs, .ref mde, .int (nI 0), .int (nI 0), .int (nI 0), .int (nI 0), .long 0, .long 0, .ref maa, .ref mab, .ref mba, .ref mbb]))] H := hP
    replace hD : va_D A [(hm, .inr (12, [.ref ms, .ref mkp, .int km, .ref mtr, .int (nI 4), .int (nI 2), .int (nI 2), .int (nI 3), .int (nI 2), .int (nI 1), .ref mas, .int (nI 0), .int (nI 0), .int (nI 0), .ref mso, .ref mon, .ref mot, .ref man, .int (nI 0), .int u_30, .ref mst, .ref msm, .ref mtb, .ref mti, .ref mfr, .ref mbn, .ref mbs, .ref mde, .int (nI 0), .int (nI 0), .int (nI 0), .int (nI 0), .long 0, .long 0, .ref maa, .ref mab, .ref mba, .ref mbb]))] := hD
    rcases (dr2 hw_r_29) with rfl | rfl
    · -- split
      replace hP : va_P D vwCl [(hm, .inr (12, [.ref ms, .ref mkp, .int km, .ref mtr, .int (nI 4), .int (nI 2), .int (nI 2), .int (nI 3), .int (nI 2), .int (nI 1), .ref mas, .int (nI 0), .int (nI 0), .int (nI 0), .ref mso, .ref mon, .ref mot, .ref man, .int (nI 0), .int u_30, .ref mst, .ref msm, .ref mtb, .ref mti, .ref mfr, .ref mbn, .ref mbs, .ref mde, .int (nI 0), .int (nI 0), .int (nI 0), .int (nI 0), .long 0, .long 0, .ref maa, .ref mab, .ref mba, .ref mbb]))] H := hP
      replace hD : va_D A [(hm, .inr (12, [.ref ms, .ref mkp, .int km, .ref mtr, .int (nI 4), .int (nI 2), .int (nI 2), .int (nI 3), .int (nI 2), .int (nI 1), .ref mas, .int (nI 0), .int (nI 0), .int (nI 0), .ref mso, .ref mon, .ref mot, .ref man, .int (nI 0), .int u_30, .ref mst, .ref msm, .ref mtb, .ref mti, .ref mfr, .ref mbn, .ref mbs, .ref mde, .int (nI 0), .int (nI 0), .int (nI 0), .int (nI 0), .long 0, .long 0, .ref maa, .ref mab, .ref mba, .ref mbb]))] := hD
      refine lv_istore (lv' := [(5, .int (nI 0)), (4, .int (nI 1)), (3, .int (nI 8)), (2, .int (nI 3)), (6, .int (nI 3)), (0, .ref hm), (1, .int (nI 2))]) hx hb dX12_drawSample_37 hl (by decide) rfl ?_
      clear hl
      try clear ls
      intro ls hl
      refine lv_iload_n hx hb dX12_drawSample_39 rfl (lv_at hl 3 rfl) ?_
      refine lv_iload hx hb dX12_drawSample_40 (lv_at hl 0 rfl) ?_
      refine xi (wr := [(hm, .inr (12, [.ref ms, .ref mkp, .int km, .ref mtr, .int (nI 4), .int (nI 2), .int (nI 2), .int (nI 3), .int (nI 2), .int (nI 1), .ref mas, .int (nI 0), .int (nI 0), .int (nI 0), .ref mso, .ref mon, .ref mot, .ref man, .int (nI 0), .int u_30, .ref mst, .ref msm, .ref mtb, .ref mti, .ref mfr, .ref mbn, .ref mbs, .ref mde, .int (nI 0), .int (nI 0), .int (nI 0), .int (nI 0), .long 0, .long 0, .ref maa, .ref mab, .ref mba, .ref mbb]))]) (xS (As := [.int (nI 3), .int (nI 0)]) (rest := []) C (c_X12_nth_3_0 l D cs 0) kX12_159 hP hD [] rfl (by decide +kernel) ⟨Nat.le_of_ble_eq_true rfl, Nat.le_of_ble_eq_true rfl⟩ rfl hl.1 rfl (Nat.le_of_ble_eq_true rfl) dX12_drawSample_42 ⟨Nat.le_of_ble_eq_true rfl, Nat.le_of_ble_eq_true rfl⟩) hP hD hS hA [] [0] rfl rfl (by decide +kernel) (by decide +kernel) ?_
      clear hP hD hS
      try clear locs
      try clear H
      intro r_31 u_32 H locs hw_r_31 hP hD hS
      have hw_r_31 : r_31 = nI 0 := hw_r_31
      refine W.widen (k := 0) (n := 0) (Nat.le_of_ble_eq_true rfl) (Nat.le_of_ble_eq_true rfl) ?_
      replace hP : va_P D vwCl [(hm, .inr (12, [.ref ms, .ref mkp, .int km, .ref mtr, .int (nI 4), .int (nI 2), .int (nI 2), .int (nI 3), .int (nI 2), .int (nI 1), .ref mas, .int (nI 0), .int (nI 0), .int (nI 0), .ref mso, .ref mon, .ref mot, .ref man, .int (nI 0), .int u_30, .ref mst, .ref msm, .ref mtb, .ref mti, .ref mfr, .ref mbn, .ref mbs, .ref mde, .int (nI 0), .int (nI 0), .int (nI 0), .int (nI 0), .long 0, .long 0, .ref maa, .ref mab, .ref mba, .ref mbb]))] H := hP
      replace hD : va_D A [(hm, .inr (12, [.ref ms, .ref mkp, .int km, .ref mtr, .int (nI 4), .int (nI 2), .int (nI 2), .int (nI 3), .int (nI 2), .int (nI 1), .ref mas, .int (nI 0), .int (nI 0), .int (nI 0), .ref mso, .ref mon, .ref mot, .ref man, .int (nI 0), .int u_30, .ref mst, .ref msm, .ref mtb, .ref mti, .ref mfr, .ref mbn, .ref mbs, .ref mde, .int (nI 0), .int (nI 0), .int (nI 0), .int (nI 0), .long 0, .long 0, .ref maa, .ref mab, .ref mba, .ref mbb]))] := hD
      subst hw_r_31
      refine lv_istore (lv' := [(6, .int (nI 0)), (5, .int (nI 0)), (4, .int (nI 1)), (3, .int (nI 8)), (2, .int (nI 3)), (0, .ref hm), (1, .int (nI 2))]) hx hb dX12_drawSample_45 hl (by decide) rfl ?_
      clear hl
      try clear ls
      intro ls hl
      refine lv_iload_n hx hb dX12_drawSample_47 rfl (lv_at hl 4 rfl) ?_
      refine lv_iconst (v := nI 1) hx hb dX12_drawSample_48 (by decide) ?_
      refine lv_iload hx hb dX12_drawSample_49 (lv_at hl 0 rfl) ?_
      refine lv_ishl hx hb dX12_drawSample_51 ?_
      refine lv_topi (nm_r (e' := nI 1) (by decide) ?_)
      refine lv_iconst (v := (-1)) hx hb dX12_drawSample_52 (by decide) ?_
      refine lv_ixor hx hb dX12_drawSample_53 ?_
      refine lv_iand hx hb dX12_drawSample_54 ?_
      refine lv_topi (nm_r (e' := nI 2) (by decide) ?_)
      refine lv_istore_n (lv' := [(2, .int (nI 2)), (6, .int (nI 0)), (5, .int (nI 0)), (4, .int (nI 1)), (3, .int (nI 8)), (0, .ref hm), (1, .int (nI 2))]) hx hb dX12_drawSample_55 rfl hl (by decide) rfl ?_
      clear hl
      try clear ls
      intro ls hl
      refine lv_iload_n hx hb dX12_drawSample_56 rfl (lv_at hl 4 rfl) ?_
      refine lv_iconst (v := nI 1) hx hb dX12_drawSample_57 (by decide) ?_
      refine lv_iload hx hb dX12_drawSample_58 (lv_at hl 1 rfl) ?_
      refine lv_ishl hx hb dX12_drawSample_60 ?_
      refine lv_topi (nm_r (e' := nI 1) (by decide) ?_)
      refine lv_ior hx hb dX12_drawSample_61 ?_
      refine lv_topi (nm_r (e' := nI 9) (by decide) ?_)
      refine lv_istore_n (lv' := [(3, .int (nI 9)), (2, .int (nI 2)), (6, .int (nI 0)), (5, .int (nI 0)), (4, .int (nI 1)), (0, .ref hm), (1, .int (nI 2))]) hx hb dX12_drawSample_62 rfl hl (by decide) rfl ?_
      clear hl
      try clear ls
      intro ls hl
      refine lv_iinc (v := nI 2) (lv' := [(4, .int (nI 2)), (3, .int (nI 9)), (2, .int (nI 2)), (6, .int (nI 0)), (5, .int (nI 0)), (0, .ref hm), (1, .int (nI 2))]) hx hb dX12_drawSample_63 hl (k := 4) rfl (by decide) (by decide) rfl ?_
      clear hl
      try clear ls
      intro ls hl
      refine lv_goto (tgt := 20) hx hb dX12_drawSample_66 (by decide) ?_
      refine lv_iload hx hb dX12_drawSample_20 (lv_at hl 0 rfl) ?_
      refine lv_aload_n hx hb dX12_drawSample_22 rfl (lv_at hl 5 rfl) ?_
      refine xget C hP 0 rfl rfl zuX12 5 (by decide) zw5_218 rfl dX12_drawSample_23 ?_
      refine lv_icmp_ge (tgt := 69) hx hb dX12_drawSample_26 (by decide) (fun _ => ?_) (fun c => absurd (by decide) c)
      refine lv_iload_n hx hb dX12_drawSample_69 rfl (lv_at hl 1 rfl) ?_
      exact xreti C u_30 trivial hP hD hS (Nat.le_of_ble_eq_true rfl) (Nat.le_of_ble_eq_true rfl) rfl dX12_drawSample_70
    · -- split
      replace hP : va_P D vwCl [(hm, .inr (12, [.ref ms, .ref mkp, .int km, .ref mtr, .int (nI 4), .int (nI 2), .int (nI 2), .int (nI 3), .int (nI 2), .int (nI 1), .ref mas, .int (nI 0), .int (nI 0), .int (nI 0), .ref mso, .ref mon, .ref mot, .ref man, .int (nI 0), .int u_30, .ref mst, .ref msm, .ref mtb, .ref mti, .ref mfr, .ref mbn, .ref mbs, .ref mde, .int (nI 0), .int (nI 0), .int (nI 0), .int (nI 0), .long 0, .long 0, .ref maa, .ref mab, .ref mba, .ref mbb]))] H := hP
      replace hD : va_D A [(hm, .inr (12, [.ref ms, .ref mkp, .int km, .ref mtr, .int (nI 4), .int (nI 2), .int (nI 2), .int (nI 3), .int (nI 2), .int (nI 1), .ref mas, .int (nI 0), .int (nI 0), .int (nI 0), .ref mso, .ref mon, .ref mot, .ref man, .int (nI 0), .int u_30, .ref mst, .ref msm, .ref mtb, .ref mti, .ref mfr, .ref mbn, .ref mbs, .ref mde, .int (nI 0), .int (nI 0), .int (nI 0), .int (nI 0), .long 0, .long 0, .ref maa, .ref mab, .ref mba, .ref mbb]))] := hD
      refine lv_istore (lv' := [(5, .int (nI 1)), (4, .int (nI 1)), (3, .int (nI 8)), (2, .int (nI 3)), (6, .int (nI 3)), (0, .ref hm), (1, .int (nI 2))]) hx hb dX12_drawSample_37 hl (by decide) rfl ?_
      clear hl
      try clear ls
      intro ls hl
      refine lv_iload_n hx hb dX12_drawSample_39 rfl (lv_at hl 3 rfl) ?_
      refine lv_iload hx hb dX12_drawSample_40 (lv_at hl 0 rfl) ?_
      refine xi (wr := [(hm, .inr (12, [.ref ms, .ref mkp, .int km, .ref mtr, .int (nI 4), .int (nI 2), .int (nI 2), .int (nI 3), .int (nI 2), .int (nI 1), .ref mas, .int (nI 0), .int (nI 0), .int (nI 0), .ref mso, .ref mon, .ref mot, .ref man, .int (nI 0), .int u_30, .ref mst, .ref msm, .ref mtb, .ref mti, .ref mfr, .ref mbn, .ref mbs, .ref mde, .int (nI 0), .int (nI 0), .int (nI 0), .int (nI 0), .long 0, .long 0, .ref maa, .ref mab, .ref mba, .ref mbb]))]) (xS (As := [.int (nI 3), .int (nI 1)]) (rest := []) C (c_X12_nth_3_1 l D cs 0) kX12_159 hP hD [] rfl (by decide +kernel) ⟨Nat.le_of_ble_eq_true rfl, Nat.le_of_ble_eq_true rfl⟩ rfl hl.1 rfl (Nat.le_of_ble_eq_true rfl) dX12_drawSample_42 ⟨Nat.le_of_ble_eq_true rfl, Nat.le_of_ble_eq_true rfl⟩) hP hD hS hA [] [0] rfl rfl (by decide +kernel) (by decide +kernel) ?_
      clear hP hD hS
      try clear locs
      try clear H
      intro r_33 u_34 H locs hw_r_33 hP hD hS
      have hw_r_33 : r_33 = nI 1 := hw_r_33
      refine W.widen (k := 0) (n := 0) (Nat.le_of_ble_eq_true rfl) (Nat.le_of_ble_eq_true rfl) ?_
      replace hP : va_P D vwCl [(hm, .inr (12, [.ref ms, .ref mkp, .int km, .ref mtr, .int (nI 4), .int (nI 2), .int (nI 2), .int (nI 3), .int (nI 2), .int (nI 1), .ref mas, .int (nI 0), .int (nI 0), .int (nI 0), .ref mso, .ref mon, .ref mot, .ref man, .int (nI 0), .int u_30, .ref mst, .ref msm, .ref mtb, .ref mti, .ref mfr, .ref mbn, .ref mbs, .ref mde, .int (nI 0), .int (nI 0), .int (nI 0), .int (nI 0), .long 0, .long 0, .ref maa, .ref mab, .ref mba, .ref mbb]))] H := hP
      replace hD : va_D A [(hm, .inr (12, [.ref ms, .ref mkp, .int km, .ref mtr, .int (nI 4), .int (nI 2), .int (nI 2), .int (nI 3), .int (nI 2), .int (nI 1), .ref mas, .int (nI 0), .int (nI 0), .int (nI 0), .ref mso, .ref mon, .ref mot, .ref man, .int (nI 0), .int u_30, .ref mst, .ref msm, .ref mtb, .ref mti, .ref mfr, .ref mbn, .ref mbs, .ref mde, .int (nI 0), .int (nI 0), .int (nI 0), .int (nI 0), .long 0, .long 0, .ref maa, .ref mab, .ref mba, .ref mbb]))] := hD
      subst hw_r_33
      refine lv_istore (lv' := [(6, .int (nI 1)), (5, .int (nI 1)), (4, .int (nI 1)), (3, .int (nI 8)), (2, .int (nI 3)), (0, .ref hm), (1, .int (nI 2))]) hx hb dX12_drawSample_45 hl (by decide) rfl ?_
      clear hl
      try clear ls
      intro ls hl
      refine lv_iload_n hx hb dX12_drawSample_47 rfl (lv_at hl 4 rfl) ?_
      refine lv_iconst (v := nI 1) hx hb dX12_drawSample_48 (by decide) ?_
      refine lv_iload hx hb dX12_drawSample_49 (lv_at hl 0 rfl) ?_
      refine lv_ishl hx hb dX12_drawSample_51 ?_
      refine lv_topi (nm_r (e' := nI 2) (by decide) ?_)
      refine lv_iconst (v := (-1)) hx hb dX12_drawSample_52 (by decide) ?_
      refine lv_ixor hx hb dX12_drawSample_53 ?_
      refine lv_iand hx hb dX12_drawSample_54 ?_
      refine lv_topi (nm_r (e' := nI 1) (by decide) ?_)
      refine lv_istore_n (lv' := [(2, .int (nI 1)), (6, .int (nI 1)), (5, .int (nI 1)), (4, .int (nI 1)), (3, .int (nI 8)), (0, .ref hm), (1, .int (nI 2))]) hx hb dX12_drawSample_55 rfl hl (by decide) rfl ?_
      clear hl
      try clear ls
      intro ls hl
      refine lv_iload_n hx hb dX12_drawSample_56 rfl (lv_at hl 4 rfl) ?_
      refine lv_iconst (v := nI 1) hx hb dX12_drawSample_57 (by decide) ?_
      refine lv_iload hx hb dX12_drawSample_58 (lv_at hl 1 rfl) ?_
      refine lv_ishl hx hb dX12_drawSample_60 ?_
      refine lv_topi (nm_r (e' := nI 2) (by decide) ?_)
      refine lv_ior hx hb dX12_drawSample_61 ?_
      refine lv_topi (nm_r (e' := nI 10) (by decide) ?_)
      refine lv_istore_n (lv' := [(3, .int (nI 10)), (2, .int (nI 1)), (6, .int (nI 1)), (5, .int (nI 1)), (4, .int (nI 1)), (0, .ref hm), (1, .int (nI 2))]) hx hb dX12_drawSample_62 rfl hl (by decide) rfl ?_
      clear hl
      try clear ls
      intro ls hl
      refine lv_iinc (v := nI 2) (lv' := [(4, .int (nI 2)), (3, .int (nI 10)), (2, .int (nI 1)), (6, .int (nI 1)), (5, .int (nI 1)), (0, .ref hm), (1, .int (nI 2))]) hx hb dX12_drawSample_63 hl (k := 4) rfl (by decide) (by decide) rfl ?_
      clear hl
      try clear ls
      intro ls hl
      refine lv_goto (tgt := 20) hx hb dX12_drawSample_66 (by decide) ?_
      refine lv_iload hx hb dX12_drawSample_20 (lv_at hl 0 rfl) ?_
      refine lv_aload_n hx hb dX12_drawSample_22 rfl (lv_at hl 5 rfl) ?_
      refine xget C hP 0 rfl rfl zuX12 5 (by decide) zw5_218 rfl dX12_drawSample_23 ?_
      refine lv_icmp_ge (tgt := 69) hx hb dX12_drawSample_26 (by decide) (fun _ => ?_) (fun c => absurd (by decide) c)
      refine lv_iload_n hx hb dX12_drawSample_69 rfl (lv_at hl 1 rfl) ?_
      exact xreti C u_30 trivial hP hD hS (Nat.le_of_ble_eq_true rfl) (Nat.le_of_ble_eq_true rfl) rfl dX12_drawSample_70

set_option maxHeartbeats 4000000 in
set_option maxRecDepth 100000 in
theorem c_X12_drawSample_3 (l : Launch) (D : va_G) (cs : Nat → ClassId) (hm ms mkp mtr mas mso mon mot man mst msm mtb mti mfr mbn mbs mde maa mab mba mbb : Nat) (km xx : Int32) : xMet l D cs yX12_drawSample cX12_drawSample 7 (some .int) ({ frames := 2, cells := 0, slots := 0, locals := 44 } : Room) [.ref hm, .int (nI 3)] [(hm, .inr (12, [.ref ms, .ref mkp, .int km, .ref mtr, .int (nI 4), .int (nI 2), .int (nI 2), .int (nI 3), .int (nI 2), .int (nI 1), .ref mas, .int (nI 0), .int (nI 0), .int (nI 0), .ref mso, .ref mon, .ref mot, .ref man, .int (nI 0), .int xx, .ref mst, .ref msm, .ref mtb, .ref mti, .ref mfr, .ref mbn, .ref mbs, .ref mde, .int (nI 0), .int (nI 0), .int (nI 0), .int (nI 0), .long 0, .long 0, .ref maa, .ref mab, .ref mba, .ref mbb]))] (xQi D (fun (r : Int32) (x2 : Int32) => True) (fun (x2 : Int32) => [(hm, .inr (12, [.ref ms, .ref mkp, .int km, .ref mtr, .int (nI 4), .int (nI 2), .int (nI 2), .int (nI 3), .int (nI 2), .int (nI 1), .ref mas, .int (nI 0), .int (nI 0), .int (nI 0), .ref mso, .ref mon, .ref mot, .ref man, .int (nI 0), .int x2, .ref mst, .ref msm, .ref mtb, .ref mti, .ref mfr, .ref mbn, .ref mbs, .ref mde, .int (nI 0), .int (nI 0), .int (nI 0), .int (nI 0), .long 0, .long 0, .ref maa, .ref mab, .ref mba, .ref mbb]))])) := by
  refine xMet.intro (by decide) (Nat.le_of_ble_eq_true rfl) ?_
  intro p e s m args below meth c A ls C hP hD hS hl
  have hx := C.1
  have hb := C.2.1
  have hz := C.2.2.2.2.1
  have hown := C.2.2.2.1
  have hA := C.2.2.2.2.2.2.2.2.2
  have hAO := C.2.2.2.2.2.2.2.2.1.2.2
  replace hl : lv_has ls 7 [(0, .ref hm), (1, .int (nI 3))] := hl
  obtain ⟨H, hH⟩ : ∃ H, H = s.heap := ⟨_, rfl⟩
  replace hP : va_P D vwCl [(hm, .inr (12, [.ref ms, .ref mkp, .int km, .ref mtr, .int (nI 4), .int (nI 2), .int (nI 2), .int (nI 3), .int (nI 2), .int (nI 1), .ref mas, .int (nI 0), .int (nI 0), .int (nI 0), .ref mso, .ref mon, .ref mot, .ref man, .int (nI 0), .int xx, .ref mst, .ref msm, .ref mtb, .ref mti, .ref mfr, .ref mbn, .ref mbs, .ref mde, .int (nI 0), .int (nI 0), .int (nI 0), .int (nI 0), .long 0, .long 0, .ref maa, .ref mab, .ref mba, .ref mbb]))] H := by rw [hH]; exact hP
  replace hS : va_S A s.heap H [] := by rw [hH]; exact hS
  obtain ⟨locs, hlocs⟩ : ∃ z : List Loc, z = [] := ⟨_, rfl⟩
  rw [← hlocs] at hS
  suffices hW : W p l e ({ frames := 2, cells := 0, slots := 0, locals := 44 } : Room) s m args below meth c H locs 0 0 (MQ below ((xQi D (fun (r : Int32) (x2 : Int32) => True) (fun (x2 : Int32) => [(hm, .inr (12, [.ref ms, .ref mkp, .int km, .ref mtr, .int (nI 4), .int (nI 2), .int (nI 2), .int (nI 3), .int (nI 2), .int (nI 1), .ref mas, .int (nI 0), .int (nI 0), .int (nI 0), .ref mso, .ref mon, .ref mot, .ref man, .int (nI 0), .int x2, .ref mst, .ref msm, .ref mtb, .ref mti, .ref mfr, .ref mbn, .ref mbs, .ref mde, .int (nI 0), .int (nI 0), .int (nI 0), .int (nI 0), .long 0, .long 0, .ref maa, .ref mab, .ref mba, .ref mbb]))])) A) args s 0 0 A) (F0 m 0 ls []) by rw [hlocs, hH] at hW; exact hW
  clear hH hlocs
  refine lv_iconst (v := nI 1) hx hb dX12_drawSample_0 (by decide) ?_
  refine lv_aload_n hx hb dX12_drawSample_1 rfl (lv_at hl 0 rfl) ?_
  refine xget C hP 0 rfl rfl zuX12 4 (by decide) zw5_217 rfl dX12_drawSample_2 ?_
  refine lv_ishl hx hb dX12_drawSample_5 ?_
  refine lv_topi (nm_r (e' := nI 16) (by decide) ?_)
  refine lv_iconst (v := nI 1) hx hb dX12_drawSample_6 (by decide) ?_
  refine lv_isub hx hb dX12_drawSample_7 ?_
  refine lv_topi (nm_r (e' := nI 15) (by decide) ?_)
  refine lv_iconst (v := nI 1) hx hb dX12_drawSample_8 (by decide) ?_
  refine lv_iload_n hx hb dX12_drawSample_9 rfl (lv_at hl 1 rfl) ?_
  refine lv_ishl hx hb dX12_drawSample_10 ?_
  refine lv_topi (nm_r (e' := nI 8) (by decide) ?_)
  refine lv_iconst (v := (-1)) hx hb dX12_drawSample_11 (by decide) ?_
  refine lv_ixor hx hb dX12_drawSample_12 ?_
  refine lv_iand hx hb dX12_drawSample_13 ?_
  refine lv_topi (nm_r (e' := nI 7) (by decide) ?_)
  refine lv_istore_n (lv' := [(2, .int (nI 7)), (0, .ref hm), (1, .int (nI 3))]) hx hb dX12_drawSample_14 rfl hl (by decide) rfl ?_
  clear hl
  try clear ls
  intro ls hl
  refine lv_iconst (v := nI 0) hx hb dX12_drawSample_15 (by decide) ?_
  refine lv_istore_n (lv' := [(3, .int (nI 0)), (2, .int (nI 7)), (0, .ref hm), (1, .int (nI 3))]) hx hb dX12_drawSample_16 rfl hl (by decide) rfl ?_
  clear hl
  try clear ls
  intro ls hl
  refine lv_iconst (v := nI 0) hx hb dX12_drawSample_17 (by decide) ?_
  refine lv_istore (lv' := [(4, .int (nI 0)), (3, .int (nI 0)), (2, .int (nI 7)), (0, .ref hm), (1, .int (nI 3))]) hx hb dX12_drawSample_18 hl (by decide) rfl ?_
  clear hl
  try clear ls
  intro ls hl
  refine lv_iload hx hb dX12_drawSample_20 (lv_at hl 0 rfl) ?_
  refine lv_aload_n hx hb dX12_drawSample_22 rfl (lv_at hl 3 rfl) ?_
  refine xget C hP 0 rfl rfl zuX12 5 (by decide) zw5_218 rfl dX12_drawSample_23 ?_
  refine lv_icmp_ge (tgt := 69) hx hb dX12_drawSample_26 (by decide) (fun c => absurd c (by decide)) (fun _ => ?_)
  refine lv_aload_n hx hb dX12_drawSample_29 rfl (lv_at hl 3 rfl) ?_
  refine lv_iload_n hx hb dX12_drawSample_30 rfl (lv_at hl 2 rfl) ?_
  refine xi (wr := [(hm, .inr (12, [.ref ms, .ref mkp, .int km, .ref mtr, .int (nI 4), .int (nI 2), .int (nI 2), .int (nI 3), .int (nI 2), .int (nI 1), .ref mas, .int (nI 0), .int (nI 0), .int (nI 0), .ref mso, .ref mon, .ref mot, .ref man, .int (nI 0), .int xx, .ref mst, .ref msm, .ref mtb, .ref mti, .ref mfr, .ref mbn, .ref mbs, .ref mde, .int (nI 0), .int (nI 0), .int (nI 0), .int (nI 0), .long 0, .long 0, .ref maa, .ref mab, .ref mba, .ref mbb]))]) (xS (As := [.int (nI 7)]) (rest := [.ref hm]) C (c_X12_many_x l D cs (nI 7)) kX12_127 hP hD [] rfl (by decide +kernel) ⟨Nat.le_of_ble_eq_true rfl, Nat.le_of_ble_eq_true rfl⟩ rfl hl.1 rfl (Nat.le_of_ble_eq_true rfl) dX12_drawSample_31 ⟨Nat.le_of_ble_eq_true rfl, Nat.le_of_ble_eq_true rfl⟩) hP hD hS hA [] [0] rfl rfl (by decide +kernel) (by decide +kernel) ?_
  clear hP hD hS
  try clear locs
  try clear H
  intro r_1 u_2 H locs hw_r_1 hP hD hS
  have hw_r_1 : r_1 = mnC (nI 7) 16 := hw_r_1
  refine W.widen (k := 0) (n := 0) (Nat.le_of_ble_eq_true rfl) (Nat.le_of_ble_eq_true rfl) ?_
  replace hP : va_P D vwCl [(hm, .inr (12, [.ref ms, .ref mkp, .int km, .ref mtr, .int (nI 4), .int (nI 2), .int (nI 2), .int (nI 3), .int (nI 2), .int (nI 1), .ref mas, .int (nI 0), .int (nI 0), .int (nI 0), .ref mso, .ref mon, .ref mot, .ref man, .int (nI 0), .int xx, .ref mst, .ref msm, .ref mtb, .ref mti, .ref mfr, .ref mbn, .ref mbs, .ref mde, .int (nI 0), .int (nI 0), .int (nI 0), .int (nI 0), .long 0, .long 0, .ref maa, .ref mab, .ref mba, .ref mbb]))] H := hP
  replace hD : va_D A [(hm, .inr (12, [.ref ms, .ref mkp, .int km, .ref mtr, .int (nI 4), .int (nI 2), .int (nI 2), .int (nI 3), .int (nI 2), .int (nI 1), .ref mas, .int (nI 0), .int (nI 0), .int (nI 0), .ref mso, .ref mon, .ref mot, .ref man, .int (nI 0), .int xx, .ref mst, .ref msm, .ref mtb, .ref mti, .ref mfr, .ref mbn, .ref mbs, .ref mde, .int (nI 0), .int (nI 0), .int (nI 0), .int (nI 0), .long 0, .long 0, .ref maa, .ref mab, .ref mba, .ref mbb]))] := hD
  obtain rfl : r_1 = nI 3 := by rw [hw_r_1]; decide +kernel
  refine xi (wr := []) (xV (As := [.int (nI 3)]) (rest := []) C (c_X12_draw l D cs hm ms mkp mtr mas mso mon mot man mst msm mtb mti mfr mbn mbs mde maa mab mba mbb km xx 3 (by decide) (by decide)) kX12_156 hP hD [0] rfl (by decide +kernel) 0 rfl rfl rfl ⟨Nat.le_of_ble_eq_true rfl, Nat.le_of_ble_eq_true rfl⟩ rfl hl.1 rfl (Nat.le_of_ble_eq_true rfl) dX12_drawSample_34 ⟨Nat.le_of_ble_eq_true rfl, Nat.le_of_ble_eq_true rfl⟩) hP hD hS hA [0] [] rfl rfl (by decide +kernel) (by decide +kernel) ?_
  clear hP hD hS
  try clear locs
  try clear H
  intro r_3 u_4 H locs hw_r_3 hP hD hS
  have hw_r_3 : ∃ j, j < 3 ∧ r_3 = nI j := hw_r_3
  refine W.widen (k := 0) (n := 0) (Nat.le_of_ble_eq_true rfl) (Nat.le_of_ble_eq_true rfl) ?_
  replace hP : va_P D vwCl [(hm, .inr (12, [.ref ms, .ref mkp, .int km, .ref mtr, .int (nI 4), .int (nI 2), .int (nI 2), .int (nI 3), .int (nI 2), .int (nI 1), .ref mas, .int (nI 0), .int (nI 0), .int (nI 0), .ref mso, .ref mon, .ref mot, .ref man, .int (nI 0), .int u_4, .ref mst, .ref msm, .ref mtb, .ref mti, .ref mfr, .ref mbn, .ref mbs, .ref mde, .int (nI 0), .int (nI 0), .int (nI 0), .int (nI 0), .long 0, .long 0, .ref maa, .ref mab, .ref mba, .ref mbb]))] H := hP
  replace hD : va_D A [(hm, .inr (12, [.ref ms, .ref mkp, .int km, .ref mtr, .int (nI 4), .int (nI 2), .int (nI 2), .int (nI 3), .int (nI 2), .int (nI 1), .ref mas, .int (nI 0), .int (nI 0), .int (nI 0), .ref mso, .ref mon, .ref mot, .ref man, .int (nI 0), .int u_4, .ref mst, .ref msm, .ref mtb, .ref mti, .ref mfr, .ref mbn, .ref mbs, .ref mde, .int (nI 0), .int (nI 0), .int (nI 0), .int (nI 0), .long 0, .long 0, .ref maa, .ref mab, .ref mba, .ref mbb]))] := hD
  rcases (dr3 hw_r_3) with rfl | rfl | rfl
  · -- split
    replace hP : va_P D vwCl [(hm, .inr (12, [.ref ms, .ref mkp, .int km, .ref mtr, .int (nI 4), .int (nI 2), .int (nI 2), .int (nI 3), .int (nI 2), .int (nI 1), .ref mas, .int (nI 0), .int (nI 0), .int (nI 0), .ref mso, .ref mon, .ref mot, .ref man, .int (nI 0), .int u_4, .ref mst, .ref msm, .ref mtb, .ref mti, .ref mfr, .ref mbn, .ref mbs, .ref mde, .int (nI 0), .int (nI 0), .int (nI 0), .int (nI 0), .long 0, .long 0, .ref maa, .ref mab, .ref mba, .ref mbb]))] H := hP
    replace hD : va_D A [(hm, .inr (12, [.ref ms, .ref mkp, .int km, .ref mtr, .int (nI 4), .int (nI 2), .int (nI 2), .int (nI 3), .int (nI 2), .int (nI 1), .ref mas, .int (nI 0), .int (nI 0), .int (nI 0), .ref mso, .ref mon, .ref mot, .ref man, .int (nI 0), .int u_4, .ref mst, .ref msm, .ref mtb, .ref mti, .ref mfr, .ref mbn, .ref mbs, .ref mde, .int (nI 0), .int (nI 0), .int (nI 0), .int (nI 0), .long 0, .long 0, .ref maa, .ref mab, .ref mba, .ref mbb]))] := hD
    refine lv_istore (lv' := [(5, .int (nI 0)), (4, .int (nI 0)), (3, .int (nI 0)), (2, .int (nI 7)), (0, .ref hm), (1, .int (nI 3))]) hx hb dX12_drawSample_37 hl (by decide) rfl ?_
    clear hl
    try clear ls
    intro ls hl
    refine lv_iload_n hx hb dX12_drawSample_39 rfl (lv_at hl 3 rfl) ?_
    refine lv_iload hx hb dX12_drawSample_40 (lv_at hl 0 rfl) ?_
    refine xi (wr := [(hm, .inr (12, [.ref ms, .ref mkp, .int km, .ref mtr, .int (nI 4), .int (nI 2), .int (nI 2), .int (nI 3), .int (nI 2), .int (nI 1), .ref mas, .int (nI 0), .int (nI 0), .int (nI 0), .ref mso, .ref mon, .ref mot, .ref man, .int (nI 0), .int u_4, .ref mst, .ref msm, .ref mtb, .ref mti, .ref mfr, .ref mbn, .ref mbs, .ref mde, .int (nI 0), .int (nI 0), .int (nI 0), .int (nI 0), .long 0, .long 0, .ref maa, .ref mab, .ref mba, .ref mbb]))]) (xS (As := [.int (nI 7), .int (nI 0)]) (rest := []) C (c_X12_nth_7_0 l D cs 0) kX12_159 hP hD [] rfl (by decide +kernel) ⟨Nat.le_of_ble_eq_true rfl, Nat.le_of_ble_eq_true rfl⟩ rfl hl.1 rfl (Nat.le_of_ble_eq_true rfl) dX12_drawSample_42 ⟨Nat.le_of_ble_eq_true rfl, Nat.le_of_ble_eq_true rfl⟩) hP hD hS hA [] [0] rfl rfl (by decide +kernel) (by decide +kernel) ?_
    clear hP hD hS
    try clear locs
    try clear H
    intro r_5 u_6 H locs hw_r_5 hP hD hS
    have hw_r_5 : r_5 = nI 0 := hw_r_5
    refine W.widen (k := 0) (n := 0) (Nat.le_of_ble_eq_true rfl) (Nat.le_of_ble_eq_true rfl) ?_
    replace hP : va_P D vwCl [(hm, .inr (12, [.ref ms, .ref mkp, .int km, .ref mtr, .int (nI 4), .int (nI 2), .int (nI 2), .int (nI 3), .int (nI 2), .int (nI 1), .ref mas, .int (nI 0), .int (nI 0), .int (nI 0), .ref mso, .ref mon, .ref mot, .ref man, .int (nI 0), .int u_4, .ref mst, .ref msm, .ref mtb, .ref mti, .ref mfr, .ref mbn, .ref mbs, .ref mde, .int (nI 0), .int (nI 0), .int (nI 0), .int (nI 0), .long 0, .long 0, .ref maa, .ref mab, .ref mba, .ref mbb]))] H := hP
    replace hD : va_D A [(hm, .inr (12, [.ref ms, .ref mkp, .int km, .ref mtr, .int (nI 4), .int (nI 2), .int (nI 2), .int (nI 3), .int (nI 2), .int (nI 1), .ref mas, .int (nI 0), .int (nI 0), .int (nI 0), .ref mso, .ref mon, .ref mot, .ref man, .int (nI 0), .int u_4, .ref mst, .ref msm, .ref mtb, .ref mti, .ref mfr, .ref mbn, .ref mbs, .ref mde, .int (nI 0), .int (nI 0), .int (nI 0), .int (nI 0), .long 0, .long 0, .ref maa, .ref mab, .ref mba, .ref mbb]))] := hD
    subst hw_r_5
    refine lv_istore (lv' := [(6, .int (nI 0)), (5, .int (nI 0)), (4, .int (nI 0)), (3, .int (nI 0)), (2, .int (nI 7)), (0, .ref hm), (1, .int (nI 3))]) hx hb dX12_drawSample_45 hl (by decide) rfl ?_
    clear hl
    try clear ls
    intro ls hl
    refine lv_iload_n hx hb dX12_drawSample_47 rfl (lv_at hl 4 rfl) ?_
    refine lv_iconst (v := nI 1) hx hb dX12_drawSample_48 (by decide) ?_
    refine lv_iload hx hb dX12_drawSample_49 (lv_at hl 0 rfl) ?_
    refine lv_ishl hx hb dX12_drawSample_51 ?_
    refine lv_topi (nm_r (e' := nI 1) (by decide) ?_)
    refine lv_iconst (v := (-1)) hx hb dX12_drawSample_52 (by decide) ?_
    refine lv_ixor hx hb dX12_drawSample_53 ?_
    refine lv_iand hx hb dX12_drawSample_54 ?_
    refine lv_topi (nm_r (e' := nI 6) (by decide) ?_)
    refine lv_istore_n (lv' := [(2, .int (nI 6)), (6, .int (nI 0)), (5, .int (nI 0)), (4, .int (nI 0)), (3, .int (nI 0)), (0, .ref hm), (1, .int (nI 3))]) hx hb dX12_drawSample_55 rfl hl (by decide) rfl ?_
    clear hl
    try clear ls
    intro ls hl
    refine lv_iload_n hx hb dX12_drawSample_56 rfl (lv_at hl 4 rfl) ?_
    refine lv_iconst (v := nI 1) hx hb dX12_drawSample_57 (by decide) ?_
    refine lv_iload hx hb dX12_drawSample_58 (lv_at hl 1 rfl) ?_
    refine lv_ishl hx hb dX12_drawSample_60 ?_
    refine lv_topi (nm_r (e' := nI 1) (by decide) ?_)
    refine lv_ior hx hb dX12_drawSample_61 ?_
    refine lv_topi (nm_r (e' := nI 1) (by decide) ?_)
    refine lv_istore_n (lv' := [(3, .int (nI 1)), (2, .int (nI 6)), (6, .int (nI 0)), (5, .int (nI 0)), (4, .int (nI 0)), (0, .ref hm), (1, .int (nI 3))]) hx hb dX12_drawSample_62 rfl hl (by decide) rfl ?_
    clear hl
    try clear ls
    intro ls hl
    refine lv_iinc (v := nI 1) (lv' := [(4, .int (nI 1)), (3, .int (nI 1)), (2, .int (nI 6)), (6, .int (nI 0)), (5, .int (nI 0)), (0, .ref hm), (1, .int (nI 3))]) hx hb dX12_drawSample_63 hl (k := 4) rfl (by decide) (by decide) rfl ?_
    clear hl
    try clear ls
    intro ls hl
    refine lv_goto (tgt := 20) hx hb dX12_drawSample_66 (by decide) ?_
    refine lv_iload hx hb dX12_drawSample_20 (lv_at hl 0 rfl) ?_
    refine lv_aload_n hx hb dX12_drawSample_22 rfl (lv_at hl 5 rfl) ?_
    refine xget C hP 0 rfl rfl zuX12 5 (by decide) zw5_218 rfl dX12_drawSample_23 ?_
    refine lv_icmp_ge (tgt := 69) hx hb dX12_drawSample_26 (by decide) (fun c => absurd c (by decide)) (fun _ => ?_)
    refine lv_aload_n hx hb dX12_drawSample_29 rfl (lv_at hl 5 rfl) ?_
    refine lv_iload_n hx hb dX12_drawSample_30 rfl (lv_at hl 2 rfl) ?_
    refine xi (wr := [(hm, .inr (12, [.ref ms, .ref mkp, .int km, .ref mtr, .int (nI 4), .int (nI 2), .int (nI 2), .int (nI 3), .int (nI 2), .int (nI 1), .ref mas, .int (nI 0), .int (nI 0), .int (nI 0), .ref mso, .ref mon, .ref mot, .ref man, .int (nI 0), .int u_4, .ref mst, .ref msm, .ref mtb, .ref mti, .ref mfr, .ref mbn, .ref mbs, .ref mde, .int (nI 0), .int (nI 0), .int (nI 0), .int (nI 0), .long 0, .long 0, .ref maa, .ref mab, .ref mba, .ref mbb]))]) (xS (As := [.int (nI 6)]) (rest := [.ref hm]) C (c_X12_many_x l D cs (nI 6)) kX12_127 hP hD [] rfl (by decide +kernel) ⟨Nat.le_of_ble_eq_true rfl, Nat.le_of_ble_eq_true rfl⟩ rfl hl.1 rfl (Nat.le_of_ble_eq_true rfl) dX12_drawSample_31 ⟨Nat.le_of_ble_eq_true rfl, Nat.le_of_ble_eq_true rfl⟩) hP hD hS hA [] [0] rfl rfl (by decide +kernel) (by decide +kernel) ?_
    clear hP hD hS
    try clear locs
    try clear H
    intro r_7 u_8 H locs hw_r_7 hP hD hS
    have hw_r_7 : r_7 = mnC (nI 6) 16 := hw_r_7
    refine W.widen (k := 0) (n := 0) (Nat.le_of_ble_eq_true rfl) (Nat.le_of_ble_eq_true rfl) ?_
    replace hP : va_P D vwCl [(hm, .inr (12, [.ref ms, .ref mkp, .int km, .ref mtr, .int (nI 4), .int (nI 2), .int (nI 2), .int (nI 3), .int (nI 2), .int (nI 1), .ref mas, .int (nI 0), .int (nI 0), .int (nI 0), .ref mso, .ref mon, .ref mot, .ref man, .int (nI 0), .int u_4, .ref mst, .ref msm, .ref mtb, .ref mti, .ref mfr, .ref mbn, .ref mbs, .ref mde, .int (nI 0), .int (nI 0), .int (nI 0), .int (nI 0), .long 0, .long 0, .ref maa, .ref mab, .ref mba, .ref mbb]))] H := hP
    replace hD : va_D A [(hm, .inr (12, [.ref ms, .ref mkp, .int km, .ref mtr, .int (nI 4), .int (nI 2), .int (nI 2), .int (nI 3), .int (nI 2), .int (nI 1), .ref mas, .int (nI 0), .int (nI 0), .int (nI 0), .ref mso, .ref mon, .ref mot, .ref man, .int (nI 0), .int u_4, .ref mst, .ref msm, .ref mtb, .ref mti, .ref mfr, .ref mbn, .ref mbs, .ref mde, .int (nI 0), .int (nI 0), .int (nI 0), .int (nI 0), .long 0, .long 0, .ref maa, .ref mab, .ref mba, .ref mbb]))] := hD
    obtain rfl : r_7 = nI 2 := by rw [hw_r_7]; decide +kernel
    refine xi (wr := []) (xV (As := [.int (nI 2)]) (rest := []) C (c_X12_draw l D cs hm ms mkp mtr mas mso mon mot man mst msm mtb mti mfr mbn mbs mde maa mab mba mbb km u_4 2 (by decide) (by decide)) kX12_156 hP hD [0] rfl (by decide +kernel) 0 rfl rfl rfl ⟨Nat.le_of_ble_eq_true rfl, Nat.le_of_ble_eq_true rfl⟩ rfl hl.1 rfl (Nat.le_of_ble_eq_true rfl) dX12_drawSample_34 ⟨Nat.le_of_ble_eq_true rfl, Nat.le_of_ble_eq_true rfl⟩) hP hD hS hA [0] [] rfl rfl (by decide +kernel) (by decide +kernel) ?_
    clear hP hD hS
    try clear locs
    try clear H
    intro r_9 u_10 H locs hw_r_9 hP hD hS
    have hw_r_9 : ∃ j, j < 2 ∧ r_9 = nI j := hw_r_9
    refine W.widen (k := 0) (n := 0) (Nat.le_of_ble_eq_true rfl) (Nat.le_of_ble_eq_true rfl) ?_
    replace hP : va_P D vwCl [(hm, .inr (12, [.ref ms, .ref mkp, .int km, .ref mtr, .int (nI 4), .int (nI 2), .int (nI 2), .int (nI 3), .int (nI 2), .int (nI 1), .ref mas, .int (nI 0), .int (nI 0), .int (nI 0), .ref mso, .ref mon, .ref mot, .ref man, .int (nI 0), .int u_10, .ref mst, .ref msm, .ref mtb, .ref mti, .ref mfr, .ref mbn, .ref mbs, .ref mde, .int (nI 0), .int (nI 0), .int (nI 0), .int (nI 0), .long 0, .long 0, .ref maa, .ref mab, .ref mba, .ref mbb]))] H := hP
    replace hD : va_D A [(hm, .inr (12, [.ref ms, .ref mkp, .int km, .ref mtr, .int (nI 4), .int (nI 2), .int (nI 2), .int (nI 3), .int (nI 2), .int (nI 1), .ref mas, .int (nI 0), .int (nI 0), .int (nI 0), .ref mso, .ref mon, .ref mot, .ref man, .int (nI 0), .int u_10, .ref mst, .ref msm, .ref mtb, .ref mti, .ref mfr, .ref mbn, .ref mbs, .ref mde, .int (nI 0), .int (nI 0), .int (nI 0), .int (nI 0), .long 0, .long 0, .ref maa, .ref mab, .ref mba, .ref mbb]))] := hD
    rcases (dr2 hw_r_9) with rfl | rfl
    · -- split
      replace hP : va_P D vwCl [(hm, .inr (12, [.ref ms, .ref mkp, .int km, .ref mtr, .int (nI 4), .int (nI 2), .int (nI 2), .int (nI 3), .int (nI 2), .int (nI 1), .ref mas, .int (nI 0), .int (nI 0), .int (nI 0), .ref mso, .ref mon, .ref mot, .ref man, .int (nI 0), .int u_10, .ref mst, .ref msm, .ref mtb, .ref mti, .ref mfr, .ref mbn, .ref mbs, .ref mde, .int (nI 0), .int (nI 0), .int (nI 0), .int (nI 0), .long 0, .long 0, .ref maa, .ref mab, .ref mba, .ref mbb]))] H := hP
      replace hD : va_D A [(hm, .inr (12, [.ref ms, .ref mkp, .int km, .ref mtr, .int (nI 4), .int (nI 2), .int (nI 2), .int (nI 3), .int (nI 2), .int (nI 1), .ref mas, .int (nI 0), .int (nI 0), .int (nI 0), .ref mso, .ref mon, .ref mot, .ref man, .int (nI 0), .int u_10, .ref mst, .ref msm, .ref mtb, .ref mti, .ref mfr, .ref mbn, .ref mbs, .ref mde, .int (nI 0), .int (nI 0), .int (nI 0), .int (nI 0), .long 0, .long 0, .ref maa, .ref mab, .ref mba, .ref mbb]))] := hD
      refine lv_istore (lv' := [(5, .int (nI 0)), (4, .int (nI 1)), (3, .int (nI 1)), (2, .int (nI 6)), (6, .int (nI 0)), (0, .ref hm), (1, .int (nI 3))]) hx hb dX12_drawSample_37 hl (by decide) rfl ?_
      clear hl
      try clear ls
      intro ls hl
      refine lv_iload_n hx hb dX12_drawSample_39 rfl (lv_at hl 3 rfl) ?_
      refine lv_iload hx hb dX12_drawSample_40 (lv_at hl 0 rfl) ?_
      refine xi (wr := [(hm, .inr (12, [.ref ms, .ref mkp, .int km, .ref mtr, .int (nI 4), .int (nI 2), .int (nI 2), .int (nI 3), .int (nI 2), .int (nI 1), .ref mas, .int (nI 0), .int (nI 0), .int (nI 0), .ref mso, .ref mon, .ref mot, .ref man, .int (nI 0), .int u_10, .ref mst, .ref msm, .ref mtb, .ref mti, .ref mfr, .ref mbn, .ref mbs, .ref mde, .int (nI 0), .int (nI 0), .int (nI 0), .int (nI 0), .long 0, .long 0, .ref maa, .ref mab, .ref mba, .ref mbb]))]) (xS (As := [.int (nI 6), .int (nI 0)]) (rest := []) C (c_X12_nth_6_0 l D cs 0) kX12_159 hP hD [] rfl (by decide +kernel) ⟨Nat.le_of_ble_eq_true rfl, Nat.le_of_ble_eq_true rfl⟩ rfl hl.1 rfl (Nat.le_of_ble_eq_true rfl) dX12_drawSample_42 ⟨Nat.le_of_ble_eq_true rfl, Nat.le_of_ble_eq_true rfl⟩) hP hD hS hA [] [0] rfl rfl (by decide +kernel) (by decide +kernel) ?_
      clear hP hD hS
      try clear locs
      try clear H
      intro r_11 u_12 H locs hw_r_11 hP hD hS
      have hw_r_11 : r_11 = nI 1 := hw_r_11
      refine W.widen (k := 0) (n := 0) (Nat.le_of_ble_eq_true rfl) (Nat.le_of_ble_eq_true rfl) ?_
      replace hP : va_P D vwCl [(hm, .inr (12, [.ref ms, .ref mkp, .int km, .ref mtr, .int (nI 4), .int (nI 2), .int (nI 2), .int (nI 3), .int (nI 2), .int (nI 1), .ref mas, .int (nI 0), .int (nI 0), .int (nI 0), .ref mso, .ref mon, .ref mot, .ref man, .int (nI 0), .int u_10, .ref mst, .ref msm, .ref mtb, .ref mti, .ref mfr, .ref mbn, .ref mbs, .ref mde, .int (nI 0), .int (nI 0), .int (nI 0), .int (nI 0), .long 0, .long 0, .ref maa, .ref mab, .ref mba, .ref mbb]))] H := hP
      replace hD : va_D A [(hm, .inr (12, [.ref ms, .ref mkp, .int km, .ref mtr, .int (nI 4), .int (nI 2), .int (nI 2), .int (nI 3), .int (nI 2), .int (nI 1), .ref mas, .int (nI 0), .int (nI 0), .int (nI 0), .ref mso, .ref mon, .ref mot, .ref man, .int (nI 0), .int u_10, .ref mst, .ref msm, .ref mtb, .ref mti, .ref mfr, .ref mbn, .ref mbs, .ref mde, .int (nI 0), .int (nI 0), .int (nI 0), .int (nI 0), .long 0, .long 0, .ref maa, .ref mab, .ref mba, .ref mbb]))] := hD
      subst hw_r_11
      refine lv_istore (lv' := [(6, .int (nI 1)), (5, .int (nI 0)), (4, .int (nI 1)), (3, .int (nI 1)), (2, .int (nI 6)), (0, .ref hm), (1, .int (nI 3))]) hx hb dX12_drawSample_45 hl (by decide) rfl ?_
      clear hl
      try clear ls
      intro ls hl
      refine lv_iload_n hx hb dX12_drawSample_47 rfl (lv_at hl 4 rfl) ?_
      refine lv_iconst (v := nI 1) hx hb dX12_drawSample_48 (by decide) ?_
      refine lv_iload hx hb dX12_drawSample_49 (lv_at hl 0 rfl) ?_
      refine lv_ishl hx hb dX12_drawSample_51 ?_
      refine lv_topi (nm_r (e' := nI 2) (by decide) ?_)
      refine lv_iconst (v := (-1)) hx hb dX12_drawSample_52 (by decide) ?_
      refine lv_ixor hx hb dX12_drawSample_53 ?_
      refine lv_iand hx hb dX12_drawSample_54 ?_
      refine lv_topi (nm_r (e' := nI 4) (by decide) ?_)
      refine lv_istore_n (lv' := [(2, .int (nI 4)), (6, .int (nI 1)), (5, .int (nI 0)), (4, .int (nI 1)), (3, .int (nI 1)), (0, .ref hm), (1, .int (nI 3))]) hx hb dX12_drawSample_55 rfl hl (by decide) rfl ?_
      clear hl
      try clear ls
      intro ls hl
      refine lv_iload_n hx hb dX12_drawSample_56 rfl (lv_at hl 4 rfl) ?_
      refine lv_iconst (v := nI 1) hx hb dX12_drawSample_57 (by decide) ?_
      refine lv_iload hx hb dX12_drawSample_58 (lv_at hl 1 rfl) ?_
      refine lv_ishl hx hb dX12_drawSample_60 ?_
      refine lv_topi (nm_r (e' := nI 2) (by decide) ?_)
      refine lv_ior hx hb dX12_drawSample_61 ?_
      refine lv_topi (nm_r (e' := nI 3) (by decide) ?_)
      refine lv_istore_n (lv' := [(3, .int (nI 3)), (2, .int (nI 4)), (6, .int (nI 1)), (5, .int (nI 0)), (4, .int (nI 1)), (0, .ref hm), (1, .int (nI 3))]) hx hb dX12_drawSample_62 rfl hl (by decide) rfl ?_
      clear hl
      try clear ls
      intro ls hl
      refine lv_iinc (v := nI 2) (lv' := [(4, .int (nI 2)), (3, .int (nI 3)), (2, .int (nI 4)), (6, .int (nI 1)), (5, .int (nI 0)), (0, .ref hm), (1, .int (nI 3))]) hx hb dX12_drawSample_63 hl (k := 4) rfl (by decide) (by decide) rfl ?_
      clear hl
      try clear ls
      intro ls hl
      refine lv_goto (tgt := 20) hx hb dX12_drawSample_66 (by decide) ?_
      refine lv_iload hx hb dX12_drawSample_20 (lv_at hl 0 rfl) ?_
      refine lv_aload_n hx hb dX12_drawSample_22 rfl (lv_at hl 5 rfl) ?_
      refine xget C hP 0 rfl rfl zuX12 5 (by decide) zw5_218 rfl dX12_drawSample_23 ?_
      refine lv_icmp_ge (tgt := 69) hx hb dX12_drawSample_26 (by decide) (fun _ => ?_) (fun c => absurd (by decide) c)
      refine lv_iload_n hx hb dX12_drawSample_69 rfl (lv_at hl 1 rfl) ?_
      exact xreti C u_10 trivial hP hD hS (Nat.le_of_ble_eq_true rfl) (Nat.le_of_ble_eq_true rfl) rfl dX12_drawSample_70
    · -- split
      replace hP : va_P D vwCl [(hm, .inr (12, [.ref ms, .ref mkp, .int km, .ref mtr, .int (nI 4), .int (nI 2), .int (nI 2), .int (nI 3), .int (nI 2), .int (nI 1), .ref mas, .int (nI 0), .int (nI 0), .int (nI 0), .ref mso, .ref mon, .ref mot, .ref man, .int (nI 0), .int u_10, .ref mst, .ref msm, .ref mtb, .ref mti, .ref mfr, .ref mbn, .ref mbs, .ref mde, .int (nI 0), .int (nI 0), .int (nI 0), .int (nI 0), .long 0, .long 0, .ref maa, .ref mab, .ref mba, .ref mbb]))] H := hP
      replace hD : va_D A [(hm, .inr (12, [.ref ms, .ref mkp, .int km, .ref mtr, .int (nI 4), .int (nI 2), .int (nI 2), .int (nI 3), .int (nI 2), .int (nI 1), .ref mas, .int (nI 0), .int (nI 0), .int (nI 0), .ref mso, .ref mon, .ref mot, .ref man, .int (nI 0), .int u_10, .ref mst, .ref msm, .ref mtb, .ref mti, .ref mfr, .ref mbn, .ref mbs, .ref mde, .int (nI 0), .int (nI 0), .int (nI 0), .int (nI 0), .long 0, .long 0, .ref maa, .ref mab, .ref mba, .ref mbb]))] := hD
      refine lv_istore (lv' := [(5, .int (nI 1)), (4, .int (nI 1)), (3, .int (nI 1)), (2, .int (nI 6)), (6, .int (nI 0)), (0, .ref hm), (1, .int (nI 3))]) hx hb dX12_drawSample_37 hl (by decide) rfl ?_
      clear hl
      try clear ls
      intro ls hl
      refine lv_iload_n hx hb dX12_drawSample_39 rfl (lv_at hl 3 rfl) ?_
      refine lv_iload hx hb dX12_drawSample_40 (lv_at hl 0 rfl) ?_
      refine xi (wr := [(hm, .inr (12, [.ref ms, .ref mkp, .int km, .ref mtr, .int (nI 4), .int (nI 2), .int (nI 2), .int (nI 3), .int (nI 2), .int (nI 1), .ref mas, .int (nI 0), .int (nI 0), .int (nI 0), .ref mso, .ref mon, .ref mot, .ref man, .int (nI 0), .int u_10, .ref mst, .ref msm, .ref mtb, .ref mti, .ref mfr, .ref mbn, .ref mbs, .ref mde, .int (nI 0), .int (nI 0), .int (nI 0), .int (nI 0), .long 0, .long 0, .ref maa, .ref mab, .ref mba, .ref mbb]))]) (xS (As := [.int (nI 6), .int (nI 1)]) (rest := []) C (c_X12_nth_6_1 l D cs 0) kX12_159 hP hD [] rfl (by decide +kernel) ⟨Nat.le_of_ble_eq_true rfl, Nat.le_of_ble_eq_true rfl⟩ rfl hl.1 rfl (Nat.le_of_ble_eq_true rfl) dX12_drawSample_42 ⟨Nat.le_of_ble_eq_true rfl, Nat.le_of_ble_eq_true rfl⟩) hP hD hS hA [] [0] rfl rfl (by decide +kernel) (by decide +kernel) ?_
      clear hP hD hS
      try clear locs
      try clear H
      intro r_13 u_14 H locs hw_r_13 hP hD hS
      have hw_r_13 : r_13 = nI 2 := hw_r_13
      refine W.widen (k := 0) (n := 0) (Nat.le_of_ble_eq_true rfl) (Nat.le_of_ble_eq_true rfl) ?_
      replace hP : va_P D vwCl [(hm, .inr (12, [.ref ms, .ref mkp, .int km, .ref mtr, .int (nI 4), .int (nI 2), .int (nI 2), .int (nI 3), .int (nI 2), .int (nI 1), .ref mas, .int (nI 0), .int (nI 0), .int (nI 0), .ref mso, .ref mon, .ref mot, .ref man, .int (nI 0), .int u_10, .ref mst, .ref msm, .ref mtb, .ref mti, .ref mfr, .ref mbn, .ref mbs, .ref mde, .int (nI 0), .int (nI 0), .int (nI 0), .int (nI 0), .long 0, .long 0, .ref maa, .ref mab, .ref mba, .ref mbb]))] H := hP
      replace hD : va_D A [(hm, .inr (12, [.ref ms, .ref mkp, .int km, .ref mtr, .int (nI 4), .int (nI 2), .int (nI 2), .int (nI 3), .int (nI 2), .int (nI 1), .ref mas, .int (nI 0), .int (nI 0), .int (nI 0), .ref mso, .ref mon, .ref mot, .ref man, .int (nI 0), .int u_10, .ref mst, .ref msm, .ref mtb, .ref mti, .ref mfr, .ref mbn, .ref mbs, .ref mde, .int (nI 0), .int (nI 0), .int (nI 0), .int (nI 0), .long 0, .long 0, .ref maa, .ref mab, .ref mba, .ref mbb]))] := hD
      subst hw_r_13
      refine lv_istore (lv' := [(6, .int (nI 2)), (5, .int (nI 1)), (4, .int (nI 1)), (3, .int (nI 1)), (2, .int (nI 6)), (0, .ref hm), (1, .int (nI 3))]) hx hb dX12_drawSample_45 hl (by decide) rfl ?_
      clear hl
      try clear ls
      intro ls hl
      refine lv_iload_n hx hb dX12_drawSample_47 rfl (lv_at hl 4 rfl) ?_
      refine lv_iconst (v := nI 1) hx hb dX12_drawSample_48 (by decide) ?_
      refine lv_iload hx hb dX12_drawSample_49 (lv_at hl 0 rfl) ?_
      refine lv_ishl hx hb dX12_drawSample_51 ?_
      refine lv_topi (nm_r (e' := nI 4) (by decide) ?_)
      refine lv_iconst (v := (-1)) hx hb dX12_drawSample_52 (by decide) ?_
      refine lv_ixor hx hb dX12_drawSample_53 ?_
      refine lv_iand hx hb dX12_drawSample_54 ?_
      refine lv_topi (nm_r (e' := nI 2) (by decide) ?_)
      refine lv_istore_n (lv' := [(2, .int (nI 2)), (6, .int (nI 2)), (5, .int (nI 1)), (4, .int (nI 1)), (3, .int (nI 1)), (0, .ref hm), (1, .int (nI 3))]) hx hb dX12_drawSample_55 rfl hl (by decide) rfl ?_
      clear hl
      try clear ls
      intro ls hl
      refine lv_iload_n hx hb dX12_drawSample_56 rfl (lv_at hl 4 rfl) ?_
      refine lv_iconst (v := nI 1) hx hb dX12_drawSample_57 (by decide) ?_
      refine lv_iload hx hb dX12_drawSample_58 (lv_at hl 1 rfl) ?_
      refine lv_ishl hx hb dX12_drawSample_60 ?_
      refine lv_topi (nm_r (e' := nI 4) (by decide) ?_)
      refine lv_ior hx hb dX12_drawSample_61 ?_
      refine lv_topi (nm_r (e' := nI 5) (by decide) ?_)
      refine lv_istore_n (lv' := [(3, .int (nI 5)), (2, .int (nI 2)), (6, .int (nI 2)), (5, .int (nI 1)), (4, .int (nI 1)), (0, .ref hm), (1, .int (nI 3))]) hx hb dX12_drawSample_62 rfl hl (by decide) rfl ?_
      clear hl
      try clear ls
      intro ls hl
      refine lv_iinc (v := nI 2) (lv' := [(4, .int (nI 2)), (3, .int (nI 5)), (2, .int (nI 2)), (6, .int (nI 2)), (5, .int (nI 1)), (0, .ref hm), (1, .int (nI 3))]) hx hb dX12_drawSample_63 hl (k := 4) rfl (by decide) (by decide) rfl ?_
      clear hl
      try clear ls
      intro ls hl
      refine lv_goto (tgt := 20) hx hb dX12_drawSample_66 (by decide) ?_
      refine lv_iload hx hb dX12_drawSample_20 (lv_at hl 0 rfl) ?_
      refine lv_aload_n hx hb dX12_drawSample_22 rfl (lv_at hl 5 rfl) ?_
      refine xget C hP 0 rfl rfl zuX12 5 (by decide) zw5_218 rfl dX12_drawSample_23 ?_
      refine lv_icmp_ge (tgt := 69) hx hb dX12_drawSample_26 (by decide) (fun _ => ?_) (fun c => absurd (by decide) c)
      refine lv_iload_n hx hb dX12_drawSample_69 rfl (lv_at hl 1 rfl) ?_
      exact xreti C u_10 trivial hP hD hS (Nat.le_of_ble_eq_true rfl) (Nat.le_of_ble_eq_true rfl) rfl dX12_drawSample_70
  · -- split
    replace hP : va_P D vwCl [(hm, .inr (12, [.ref ms, .ref mkp, .int km, .ref mtr, .int (nI 4), .int (nI 2), .int (nI 2), .int (nI 3), .int (nI 2), .int (nI 1), .ref mas, .int (nI 0), .int (nI 0), .int (nI 0), .ref mso, .ref mon, .ref mot, .ref man, .int (nI 0), .int u_4, .ref mst, .ref msm, .ref mtb, .ref mti, .ref mfr, .ref mbn, .ref mbs, .ref mde, .int (nI 0), .int (nI 0), .int (nI 0), .int (nI 0), .long 0, .long 0, .ref maa, .ref mab, .ref mba, .ref mbb]))] H := hP
    replace hD : va_D A [(hm, .inr (12, [.ref ms, .ref mkp, .int km, .ref mtr, .int (nI 4), .int (nI 2), .int (nI 2), .int (nI 3), .int (nI 2), .int (nI 1), .ref mas, .int (nI 0), .int (nI 0), .int (nI 0), .ref mso, .ref mon, .ref mot, .ref man, .int (nI 0), .int u_4, .ref mst, .ref msm, .ref mtb, .ref mti, .ref mfr, .ref mbn, .ref mbs, .ref mde, .int (nI 0), .int (nI 0), .int (nI 0), .int (nI 0), .long 0, .long 0, .ref maa, .ref mab, .ref mba, .ref mbb]))] := hD
    refine lv_istore (lv' := [(5, .int (nI 1)), (4, .int (nI 0)), (3, .int (nI 0)), (2, .int (nI 7)), (0, .ref hm), (1, .int (nI 3))]) hx hb dX12_drawSample_37 hl (by decide) rfl ?_
    clear hl
    try clear ls
    intro ls hl
    refine lv_iload_n hx hb dX12_drawSample_39 rfl (lv_at hl 3 rfl) ?_
    refine lv_iload hx hb dX12_drawSample_40 (lv_at hl 0 rfl) ?_
    refine xi (wr := [(hm, .inr (12, [.ref ms, .ref mkp, .int km, .ref mtr, .int (nI 4), .int (nI 2), .int (nI 2), .int (nI 3), .int (nI 2), .int (nI 1), .ref mas, .int (nI 0), .int (nI 0), .int (nI 0), .ref mso, .ref mon, .ref mot, .ref man, .int (nI 0), .int u_4, .ref mst, .ref msm, .ref mtb, .ref mti, .ref mfr, .ref mbn, .ref mbs, .ref mde, .int (nI 0), .int (nI 0), .int (nI 0), .int (nI 0), .long 0, .long 0, .ref maa, .ref mab, .ref mba, .ref mbb]))]) (xS (As := [.int (nI 7), .int (nI 1)]) (rest := []) C (c_X12_nth_7_1 l D cs 0) kX12_159 hP hD [] rfl (by decide +kernel) ⟨Nat.le_of_ble_eq_true rfl, Nat.le_of_ble_eq_true rfl⟩ rfl hl.1 rfl (Nat.le_of_ble_eq_true rfl) dX12_drawSample_42 ⟨Nat.le_of_ble_eq_true rfl, Nat.le_of_ble_eq_true rfl⟩) hP hD hS hA [] [0] rfl rfl (by decide +kernel) (by decide +kernel) ?_
    clear hP hD hS
    try clear locs
    try clear H
    intro r_15 u_16 H locs hw_r_15 hP hD hS
    have hw_r_15 : r_15 = nI 1 := hw_r_15
    refine W.widen (k := 0) (n := 0) (Nat.le_of_ble_eq_true rfl) (Nat.le_of_ble_eq_true rfl) ?_
    replace hP : va_P D vwCl [(hm, .inr (12, [.ref ms, .ref mkp, .int km, .ref mtr, .int (nI 4), .int (nI 2), .int (nI 2), .int (nI 3), .int (nI 2), .int (nI 1), .ref mas, .int (nI 0), .int (nI 0), .int (nI 0), .ref mso, .ref mon, .ref mot, .ref man, .int (nI 0), .int u_4, .ref mst, .ref msm, .ref mtb, .ref mti, .ref mfr, .ref mbn, .ref mbs, .ref mde, .int (nI 0), .int (nI 0), .int (nI 0), .int (nI 0), .long 0, .long 0, .ref maa, .ref mab, .ref mba, .ref mbb]))] H := hP
    replace hD : va_D A [(hm, .inr (12, [.ref ms, .ref mkp, .int km, .ref mtr, .int (nI 4), .int (nI 2), .int (nI 2), .int (nI 3), .int (nI 2), .int (nI 1), .ref mas, .int (nI 0), .int (nI 0), .int (nI 0), .ref mso, .ref mon, .ref mot, .ref man, .int (nI 0), .int u_4, .ref mst, .ref msm, .ref mtb, .ref mti, .ref mfr, .ref mbn, .ref mbs, .ref mde, .int (nI 0), .int (nI 0), .int (nI 0), .int (nI 0), .long 0, .long 0, .ref maa, .ref mab, .ref mba, .ref mbb]))] := hD
    subst hw_r_15
    refine lv_istore (lv' := [(6, .int (nI 1)), (5, .int (nI 1)), (4, .int (nI 0)), (3, .int (nI 0)), (2, .int (nI 7)), (0, .ref hm), (1, .int (nI 3))]) hx hb dX12_drawSample_45 hl (by decide) rfl ?_
    clear hl
    try clear ls
    intro ls hl
    refine lv_iload_n hx hb dX12_drawSample_47 rfl (lv_at hl 4 rfl) ?_
    refine lv_iconst (v := nI 1) hx hb dX12_drawSample_48 (by decide) ?_
    refine lv_iload hx hb dX12_drawSample_49 (lv_at hl 0 rfl) ?_
    refine lv_ishl hx hb dX12_drawSample_51 ?_
    refine lv_topi (nm_r (e' := nI 2) (by decide) ?_)
    refine lv_iconst (v := (-1)) hx hb dX12_drawSample_52 (by decide) ?_
    refine lv_ixor hx hb dX12_drawSample_53 ?_
    refine lv_iand hx hb dX12_drawSample_54 ?_
    refine lv_topi (nm_r (e' := nI 5) (by decide) ?_)
    refine lv_istore_n (lv' := [(2, .int (nI 5)), (6, .int (nI 1)), (5, .int (nI 1)), (4, .int (nI 0)), (3, .int (nI 0)), (0, .ref hm), (1, .int (nI 3))]) hx hb dX12_drawSample_55 rfl hl (by decide) rfl ?_
    clear hl
    try clear ls
    intro ls hl
    refine lv_iload_n hx hb dX12_drawSample_56 rfl (lv_at hl 4 rfl) ?_
    refine lv_iconst (v := nI 1) hx hb dX12_drawSample_57 (by decide) ?_
    refine lv_iload hx hb dX12_drawSample_58 (lv_at hl 1 rfl) ?_
    refine lv_ishl hx hb dX12_drawSample_60 ?_
    refine lv_topi (nm_r (e' := nI 2) (by decide) ?_)
    refine lv_ior hx hb dX12_drawSample_61 ?_
    refine lv_topi (nm_r (e' := nI 2) (by decide) ?_)
    refine lv_istore_n (lv' := [(3, .int (nI 2)), (2, .int (nI 5)), (6, .int (nI 1)), (5, .int (nI 1)), (4, .int (nI 0)), (0, .ref hm), (1, .int (nI 3))]) hx hb dX12_drawSample_62 rfl hl (by decide) rfl ?_
    clear hl
    try clear ls
    intro ls hl
    refine lv_iinc (v := nI 1) (lv' := [(4, .int (nI 1)), (3, .int (nI 2)), (2, .int (nI 5)), (6, .int (nI 1)), (5, .int (nI 1)), (0, .ref hm), (1, .int (nI 3))]) hx hb dX12_drawSample_63 hl (k := 4) rfl (by decide) (by decide) rfl ?_
    clear hl
    try clear ls
    intro ls hl
    refine lv_goto (tgt := 20) hx hb dX12_drawSample_66 (by decide) ?_
    refine lv_iload hx hb dX12_drawSample_20 (lv_at hl 0 rfl) ?_
    refine lv_aload_n hx hb dX12_drawSample_22 rfl (lv_at hl 5 rfl) ?_
    refine xget C hP 0 rfl rfl zuX12 5 (by decide) zw5_218 rfl dX12_drawSample_23 ?_
    refine lv_icmp_ge (tgt := 69) hx hb dX12_drawSample_26 (by decide) (fun c => absurd c (by decide)) (fun _ => ?_)
    refine lv_aload_n hx hb dX12_drawSample_29 rfl (lv_at hl 5 rfl) ?_
    refine lv_iload_n hx hb dX12_drawSample_30 rfl (lv_at hl 2 rfl) ?_
    refine xi (wr := [(hm, .inr (12, [.ref ms, .ref mkp, .int km, .ref mtr, .int (nI 4), .int (nI 2), .int (nI 2), .int (nI 3), .int (nI 2), .int (nI 1), .ref mas, .int (nI 0), .int (nI 0), .int (nI 0), .ref mso, .ref mon, .ref mot, .ref man, .int (nI 0), .int u_4, .ref mst, .ref msm, .ref mtb, .ref mti, .ref mfr, .ref mbn, .ref mbs, .ref mde, .int (nI 0), .int (nI 0), .int (nI 0), .int (nI 0), .long 0, .long 0, .ref maa, .ref mab, .ref mba, .ref mbb]))]) (xS (As := [.int (nI 5)]) (rest := [.ref hm]) C (c_X12_many_x l D cs (nI 5)) kX12_127 hP hD [] rfl (by decide +kernel) ⟨Nat.le_of_ble_eq_true rfl, Nat.le_of_ble_eq_true rfl⟩ rfl hl.1 rfl (Nat.le_of_ble_eq_true rfl) dX12_drawSample_31 ⟨Nat.le_of_ble_eq_true rfl, Nat.le_of_ble_eq_true rfl⟩) hP hD hS hA [] [0] rfl rfl (by decide +kernel) (by decide +kernel) ?_
    clear hP hD hS
    try clear locs
    try clear H
    intro r_17 u_18 H locs hw_r_17 hP hD hS
    have hw_r_17 : r_17 = mnC (nI 5) 16 := hw_r_17
    refine W.widen (k := 0) (n := 0) (Nat.le_of_ble_eq_true rfl) (Nat.le_of_ble_eq_true rfl) ?_
    replace hP : va_P D vwCl [(hm, .inr (12, [.ref ms, .ref mkp, .int km, .ref mtr, .int (nI 4), .int (nI 2), .int (nI 2), .int (nI 3), .int (nI 2), .int (nI 1), .ref mas, .int (nI 0), .int (nI 0), .int (nI 0), .ref mso, .ref mon, .ref mot, .ref man, .int (nI 0), .int u_4, .ref mst, .ref msm, .ref mtb, .ref mti, .ref mfr, .ref mbn, .ref mbs, .ref mde, .int (nI 0), .int (nI 0), .int (nI 0), .int (nI 0), .long 0, .long 0, .ref maa, .ref mab, .ref mba, .ref mbb]))] H := hP
    replace hD : va_D A [(hm, .inr (12, [.ref ms, .ref mkp, .int km, .ref mtr, .int (nI 4), .int (nI 2), .int (nI 2), .int (nI 3), .int (nI 2), .int (nI 1), .ref mas, .int (nI 0), .int (nI 0), .int (nI 0), .ref mso, .ref mon, .ref mot, .ref man, .int (nI 0), .int u_4, .ref mst, .ref msm, .ref mtb, .ref mti, .ref mfr, .ref mbn, .ref mbs, .ref mde, .int (nI 0), .int (nI 0), .int (nI 0), .int (nI 0), .long 0, .long 0, .ref maa, .ref mab, .ref mba, .ref mbb]))] := hD
    obtain rfl : r_17 = nI 2 := by rw [hw_r_17]; decide +kernel
    refine xi (wr := []) (xV (As := [.int (nI 2)]) (rest := []) C (c_X12_draw l D cs hm ms mkp mtr mas mso mon mot man mst msm mtb mti mfr mbn mbs mde maa mab mba mbb km u_4 2 (by decide) (by decide)) kX12_156 hP hD [0] rfl (by decide +kernel) 0 rfl rfl rfl ⟨Nat.le_of_ble_eq_true rfl, Nat.le_of_ble_eq_true rfl⟩ rfl hl.1 rfl (Nat.le_of_ble_eq_true rfl) dX12_drawSample_34 ⟨Nat.le_of_ble_eq_true rfl, Nat.le_of_ble_eq_true rfl⟩) hP hD hS hA [0] [] rfl rfl (by decide +kernel) (by decide +kernel) ?_
    clear hP hD hS
    try clear locs
    try clear H
    intro r_19 u_20 H locs hw_r_19 hP hD hS
    have hw_r_19 : ∃ j, j < 2 ∧ r_19 = nI j := hw_r_19
    refine W.widen (k := 0) (n := 0) (Nat.le_of_ble_eq_true rfl) (Nat.le_of_ble_eq_true rfl) ?_
    replace hP : va_P D vwCl [(hm, .inr (12, [.ref ms, .ref mkp, .int km, .ref mtr, .int (nI 4), .int (nI 2), .int (nI 2), .int (nI 3), .int (nI 2), .int (nI 1), .ref mas, .int (nI 0), .int (nI 0), .int (nI 0), .ref mso, .ref mon, .ref mot, .ref man, .int (nI 0), .int u_20, .ref mst, .ref msm, .ref mtb, .ref mti, .ref mfr, .ref mbn, .ref mbs, .ref mde, .int (nI 0), .int (nI 0), .int (nI 0), .int (nI 0), .long 0, .long 0, .ref maa, .ref mab, .ref mba, .ref mbb]))] H := hP
    replace hD : va_D A [(hm, .inr (12, [.ref ms, .ref mkp, .int km, .ref mtr, .int (nI 4), .int (nI 2), .int (nI 2), .int (nI 3), .int (nI 2), .int (nI 1), .ref mas, .int (nI 0), .int (nI 0), .int (nI 0), .ref mso, .ref mon, .ref mot, .ref man, .int (nI 0), .int u_20, .ref mst, .ref msm, .ref mtb, .ref mti, .ref mfr, .ref mbn, .ref mbs, .ref mde, .int (nI 0), .int (nI 0), .int (nI 0), .int (nI 0), .long 0, .long 0, .ref maa, .ref mab, .ref mba, .ref mbb]))] := hD
    rcases (dr2 hw_r_19) with rfl | rfl
    · -- split
      replace hP : va_P D vwCl [(hm, .inr (12, [.ref ms, .ref mkp, .int km, .ref mtr, .int (nI 4), .int (nI 2), .int (nI 2), .int (nI 3), .int (nI 2), .int (nI 1), .ref mas, .int (nI 0), .int (nI 0), .int (nI 0), .ref mso, .ref mon, .ref mot, .ref man, .int (nI 0), .int u_20, .ref mst, .ref msm, .ref mtb, .ref mti, .ref mfr, .ref mbn, .ref mbs, .ref mde, .int (nI 0), .int (nI 0), .int (nI 0), .int (nI 0), .long 0, .long 0, .ref maa, .ref mab, .ref mba, .ref mbb]))] H := hP
      replace hD : va_D A [(hm, .inr (12, [.ref ms, .ref mkp, .int km, .ref mtr, .int (nI 4), .int (nI 2), .int (nI 2), .int (nI 3), .int (nI 2), .int (nI 1), .ref mas, .int (nI 0), .int (nI 0), .int (nI 0), .ref mso, .ref mon, .ref mot, .ref man, .int (nI 0), .int u_20, .ref mst, .ref msm, .ref mtb, .ref mti, .ref mfr, .ref mbn, .ref mbs, .ref mde, .int (nI 0), .int (nI 0), .int (nI 0), .int (nI 0), .long 0, .long 0, .ref maa, .ref mab, .ref mba, .ref mbb]))] := hD
      refine lv_istore (lv' := [(5, .int (nI 0)), (4, .int (nI 1)), (3, .int (nI 2)), (2, .int (nI 5)), (6, .int (nI 1)), (0, .ref hm), (1, .int (nI 3))]) hx hb dX12_drawSample_37 hl (by decide) rfl ?_
      clear hl
      try clear ls
      intro ls hl
      refine lv_iload_n hx hb dX12_drawSample_39 rfl (lv_at hl 3 rfl) ?_
      refine lv_iload hx hb dX12_drawSample_40 (lv_at hl 0 rfl) ?_
      refine xi (wr := [(hm, .inr (12, [.ref ms, .ref mkp, .int km, .ref mtr, .int (nI 4), .int (nI 2), .int (nI 2), .int (nI 3), .int (nI 2), .int (nI 1), .ref mas, .int (nI 0), .int (nI 0), .int (nI 0), .ref mso, .ref mon, .ref mot, .ref man, .int (nI 0), .int u_20, .ref mst, .ref msm, .ref mtb, .ref mti, .ref mfr, .ref mbn, .ref mbs, .ref mde, .int (nI 0), .int (nI 0), .int (nI 0), .int (nI 0), .long 0, .long 0, .ref maa, .ref mab, .ref mba, .ref mbb]))]) (xS (As := [.int (nI 5), .int (nI 0)]) (rest := []) C (c_X12_nth_5_0 l D cs 0) kX12_159 hP hD [] rfl (by decide +kernel) ⟨Nat.le_of_ble_eq_true rfl, Nat.le_of_ble_eq_true rfl⟩ rfl hl.1 rfl (Nat.le_of_ble_eq_true rfl) dX12_drawSample_42 ⟨Nat.le_of_ble_eq_true rfl, Nat.le_of_ble_eq_true rfl⟩) hP hD hS hA [] [0] rfl rfl (by decide +kernel) (by decide +kernel) ?_
      clear hP hD hS
      try clear locs
      try clear H
      intro r_21 u_22 H locs hw_r_21 hP hD hS
      have hw_r_21 : r_21 = nI 0 := hw_r_21
      refine W.widen (k := 0) (n := 0) (Nat.le_of_ble_eq_true rfl) (Nat.le_of_ble_eq_true rfl) ?_
      replace hP : va_P D vwCl [(hm, .inr (12, [.ref ms, .ref mkp, .int km, .ref mtr, .int (nI 4), .int (nI 2), .int (nI 2), .int (nI 3), .int (nI 2), .int (nI 1), .ref mas, .int (nI 0), .int (nI 0), .int (nI 0), .ref mso, .ref mon, .ref mot, .ref man, .int (nI 0), .int u_20, .ref mst, .ref msm, .ref mtb, .ref mti, .ref mfr, .ref mbn, .ref mbs, .ref mde, .int (nI 0), .int (nI 0), .int (nI 0), .int (nI 0), .long 0, .long 0, .ref maa, .ref mab, .ref mba, .ref mbb]))] H := hP
      replace hD : va_D A [(hm, .inr (12, [.ref ms, .ref mkp, .int km, .ref mtr, .int (nI 4), .int (nI 2), .int (nI 2), .int (nI 3), .int (nI 2), .int (nI 1), .ref mas, .int (nI 0), .int (nI 0), .int (nI 0), .ref mso, .ref mon, .ref mot, .ref man, .int (nI 0), .int u_20, .ref mst, .ref msm, .ref mtb, .ref mti, .ref mfr, .ref mbn, .ref mbs, .ref mde, .int (nI 0), .int (nI 0), .int (nI 0), .int (nI 0), .long 0, .long 0, .ref maa, .ref mab, .ref mba, .ref mbb]))] := hD
      subst hw_r_21
      refine lv_istore (lv' := [(6, .int (nI 0)), (5, .int (nI 0)), (4, .int (nI 1)), (3, .int (nI 2)), (2, .int (nI 5)), (0, .ref hm), (1, .int (nI 3))]) hx hb dX12_drawSample_45 hl (by decide) rfl ?_
      clear hl
      try clear ls
      intro ls hl
      refine lv_iload_n hx hb dX12_drawSample_47 rfl (lv_at hl 4 rfl) ?_
      refine lv_iconst (v := nI 1) hx hb dX12_drawSample_48 (by decide) ?_
      refine lv_iload hx hb dX12_drawSample_49 (lv_at hl 0 rfl) ?_
      refine lv_ishl hx hb dX12_drawSample_51 ?_
      refine lv_topi (nm_r (e' := nI 1) (by decide) ?_)
      refine lv_iconst (v := (-1)) hx hb dX12_drawSample_52 (by decide) ?_
      refine lv_ixor hx hb dX12_drawSample_53 ?_
      refine lv_iand hx hb dX12_drawSample_54 ?_
      refine lv_topi (nm_r (e' := nI 4) (by decide) ?_)
      refine lv_istore_n (lv' := [(2, .int (nI 4)), (6, .int (nI 0)), (5, .int (nI 0)), (4, .int (nI 1)), (3, .int (nI 2)), (0, .ref hm), (1, .int (nI 3))]) hx hb dX12_drawSample_55 rfl hl (by decide) rfl ?_
      clear hl
      try clear ls
      intro ls hl
      refine lv_iload_n hx hb dX12_drawSample_56 rfl (lv_at hl 4 rfl) ?_
      refine lv_iconst (v := nI 1) hx hb dX12_drawSample_57 (by decide) ?_
      refine lv_iload hx hb dX12_drawSample_58 (lv_at hl 1 rfl) ?_
      refine lv_ishl hx hb dX12_drawSample_60 ?_
      refine lv_topi (nm_r (e' := nI 1) (by decide) ?_)
      refine lv_ior hx hb dX12_drawSample_61 ?_
      refine lv_topi (nm_r (e' := nI 3) (by decide) ?_)
      refine lv_istore_n (lv' := [(3, .int (nI 3)), (2, .int (nI 4)), (6, .int (nI 0)), (5, .int (nI 0)), (4, .int (nI 1)), (0, .ref hm), (1, .int (nI 3))]) hx hb dX12_drawSample_62 rfl hl (by decide) rfl ?_
      clear hl
      try clear ls
      intro ls hl
      refine lv_iinc (v := nI 2) (lv' := [(4, .int (nI 2)), (3, .int (nI 3)), (2, .int (nI 4)), (6, .int (nI 0)), (5, .int (nI 0)), (0, .ref hm), (1, .int (nI 3))]) hx hb dX12_drawSample_63 hl (k := 4) rfl (by decide) (by decide) rfl ?_
      clear hl
      try clear ls
      intro ls hl
      refine lv_goto (tgt := 20) hx hb dX12_drawSample_66 (by decide) ?_
      refine lv_iload hx hb dX12_drawSample_20 (lv_at hl 0 rfl) ?_
      refine lv_aload_n hx hb dX12_drawSample_22 rfl (lv_at hl 5 rfl) ?_
      refine xget C hP 0 rfl rfl zuX12 5 (by decide) zw5_218 rfl dX12_drawSample_23 ?_
      refine lv_icmp_ge (tgt := 69) hx hb dX12_drawSample_26 (by decide) (fun _ => ?_) (fun c => absurd (by decide) c)
      refine lv_iload_n hx hb dX12_drawSample_69 rfl (lv_at hl 1 rfl) ?_
      exact xreti C u_20 trivial hP hD hS (Nat.le_of_ble_eq_true rfl) (Nat.le_of_ble_eq_true rfl) rfl dX12_drawSample_70
    · -- split
      replace hP : va_P D vwCl [(hm, .inr (12, [.ref ms, .ref mkp, .int km, .ref mtr, .int (nI 4), .int (nI 2), .int (nI 2), .int (nI 3), .int (nI 2), .int (nI 1), .ref mas, .int (nI 0), .int (nI 0), .int (nI 0), .ref mso, .ref mon, .ref mot, .ref man, .int (nI 0), .int u_20, .ref mst, .ref msm, .ref mtb, .ref mti, .ref mfr, .ref mbn, .ref mbs, .ref mde, .int (nI 0), .int (nI 0), .int (nI 0), .int (nI 0), .long 0, .long 0, .ref maa, .ref mab, .ref mba, .ref mbb]))] H := hP
      replace hD : va_D A [(hm, .inr (12, [.ref ms, .ref mkp, .int km, .ref mtr, .int (nI 4), .int (nI 2), .int (nI 2), .int (nI 3), .int (nI 2), .int (nI 1), .ref mas, .int (nI 0), .int (nI 0), .int (nI 0), .ref mso, .ref mon, .ref mot, .ref man, .int (nI 0), .int u_20, .ref mst, .ref msm, .ref mtb, .ref mti, .ref mfr, .ref mbn, .ref mbs, .ref mde, .int (nI 0), .int (nI 0), .int (nI 0), .int (nI 0), .long 0, .long 0, .ref maa, .ref mab, .ref mba, .ref mbb]))] := hD
      refine lv_istore (lv' := [(5, .int (nI 1)), (4, .int (nI 1)), (3, .int (nI 2)), (2, .int (nI 5)), (6, .int (nI 1)), (0, .ref hm), (1, .int (nI 3))]) hx hb dX12_drawSample_37 hl (by decide) rfl ?_
      clear hl
      try clear ls
      intro ls hl
      refine lv_iload_n hx hb dX12_drawSample_39 rfl (lv_at hl 3 rfl) ?_
      refine lv_iload hx hb dX12_drawSample_40 (lv_at hl 0 rfl) ?_
      refine xi (wr := [(hm, .inr (12, [.ref ms, .ref mkp, .int km, .ref mtr, .int (nI 4), .int (nI 2), .int (nI 2), .int (nI 3), .int (nI 2), .int (nI 1), .ref mas, .int (nI 0), .int (nI 0), .int (nI 0), .ref mso, .ref mon, .ref mot, .ref man, .int (nI 0), .int u_20, .ref mst, .ref msm, .ref mtb, .ref mti, .ref mfr, .ref mbn, .ref mbs, .ref mde, .int (nI 0), .int (nI 0), .int (nI 0), .int (nI 0), .long 0, .long 0, .ref maa, .ref mab, .ref mba, .ref mbb]))]) (xS (As := [.int (nI 5), .int (nI 1)]) (rest := []) C (c_X12_nth_5_1 l D cs 0) kX12_159 hP hD [] rfl (by decide +kernel) ⟨Nat.le_of_ble_eq_true rfl, Nat.le_of_ble_eq_true rfl⟩ rfl hl.1 rfl (Nat.le_of_ble_eq_true rfl) dX12_drawSample_42 ⟨Nat.le_of_ble_eq_true rfl, Nat.le_of_ble_eq_true rfl⟩) hP hD hS hA [] [0] rfl rfl (by decide +kernel) (by decide +kernel) ?_
      clear hP hD hS
      try clear locs
      try clear H
      intro r_23 u_24 H locs hw_r_23 hP hD hS
      have hw_r_23 : r_23 = nI 2 := hw_r_23
      refine W.widen (k := 0) (n := 0) (Nat.le_of_ble_eq_true rfl) (Nat.le_of_ble_eq_true rfl) ?_
      replace hP : va_P D vwCl [(hm, .inr (12, [.ref ms, .ref mkp, .int km, .ref mtr, .int (nI 4), .int (nI 2), .int (nI 2), .int (nI 3), .int (nI 2), .int (nI 1), .ref mas, .int (nI 0), .int (nI 0), .int (nI 0), .ref mso, .ref mon, .ref mot, .ref man, .int (nI 0), .int u_20, .ref mst, .ref msm, .ref mtb, .ref mti, .ref mfr, .ref mbn, .ref mbs, .ref mde, .int (nI 0), .int (nI 0), .int (nI 0), .int (nI 0), .long 0, .long 0, .ref maa, .ref mab, .ref mba, .ref mbb]))] H := hP
      replace hD : va_D A [(hm, .inr (12, [.ref ms, .ref mkp, .int km, .ref mtr, .int (nI 4), .int (nI 2), .int (nI 2), .int (nI 3), .int (nI 2), .int (nI 1), .ref mas, .int (nI 0), .int (nI 0), .int (nI 0), .ref mso, .ref mon, .ref mot, .ref man, .int (nI 0), .int u_20, .ref mst, .ref msm, .ref mtb, .ref mti, .ref mfr, .ref mbn, .ref mbs, .ref mde, .int (nI 0), .int (nI 0), .int (nI 0), .int (nI 0), .long 0, .long 0, .ref maa, .ref mab, .ref mba, .ref mbb]))] := hD
      subst hw_r_23
      refine lv_istore (lv' := [(6, .int (nI 2)), (5, .int (nI 1)), (4, .int (nI 1)), (3, .int (nI 2)), (2, .int (nI 5)), (0, .ref hm), (1, .int (nI 3))]) hx hb dX12_drawSample_45 hl (by decide) rfl ?_
      clear hl
      try clear ls
      intro ls hl
      refine lv_iload_n hx hb dX12_drawSample_47 rfl (lv_at hl 4 rfl) ?_
      refine lv_iconst (v := nI 1) hx hb dX12_drawSample_48 (by decide) ?_
      refine lv_iload hx hb dX12_drawSample_49 (lv_at hl 0 rfl) ?_
      refine lv_ishl hx hb dX12_drawSample_51 ?_
      refine lv_topi (nm_r (e' := nI 4) (by decide) ?_)
      refine lv_iconst (v := (-1)) hx hb dX12_drawSample_52 (by decide) ?_
      refine lv_ixor hx hb dX12_drawSample_53 ?_
      refine lv_iand hx hb dX12_drawSample_54 ?_
      refine lv_topi (nm_r (e' := nI 1) (by decide) ?_)
      refine lv_istore_n (lv' := [(2, .int (nI 1)), (6, .int (nI 2)), (5, .int (nI 1)), (4, .int (nI 1)), (3, .int (nI 2)), (0, .ref hm), (1, .int (nI 3))]) hx hb dX12_drawSample_55 rfl hl (by decide) rfl ?_
      clear hl
      try clear ls
      intro ls hl
      refine lv_iload_n hx hb dX12_drawSample_56 rfl (lv_at hl 4 rfl) ?_
      refine lv_iconst (v := nI 1) hx hb dX12_drawSample_57 (by decide) ?_
      refine lv_iload hx hb dX12_drawSample_58 (lv_at hl 1 rfl) ?_
      refine lv_ishl hx hb dX12_drawSample_60 ?_
      refine lv_topi (nm_r (e' := nI 4) (by decide) ?_)
      refine lv_ior hx hb dX12_drawSample_61 ?_
      refine lv_topi (nm_r (e' := nI 6) (by decide) ?_)
      refine lv_istore_n (lv' := [(3, .int (nI 6)), (2, .int (nI 1)), (6, .int (nI 2)), (5, .int (nI 1)), (4, .int (nI 1)), (0, .ref hm), (1, .int (nI 3))]) hx hb dX12_drawSample_62 rfl hl (by decide) rfl ?_
      clear hl
      try clear ls
      intro ls hl
      refine lv_iinc (v := nI 2) (lv' := [(4, .int (nI 2)), (3, .int (nI 6)), (2, .int (nI 1)), (6, .int (nI 2)), (5, .int (nI 1)), (0, .ref hm), (1, .int (nI 3))]) hx hb dX12_drawSample_63 hl (k := 4) rfl (by decide) (by decide) rfl ?_
      clear hl
      try clear ls
      intro ls hl
      refine lv_goto (tgt := 20) hx hb dX12_drawSample_66 (by decide) ?_
      refine lv_iload hx hb dX12_drawSample_20 (lv_at hl 0 rfl) ?_
      refine lv_aload_n hx hb dX12_drawSample_22 rfl (lv_at hl 5 rfl) ?_
      refine xget C hP 0 rfl rfl zuX12 5 (by decide) zw5_218 rfl dX12_drawSample_23 ?_
      refine lv_icmp_ge (tgt := 69) hx hb dX12_drawSample_26 (by decide) (fun _ => ?_) (fun c => absurd (by decide) c)
      refine lv_iload_n hx hb dX12_drawSample_69 rfl (lv_at hl 1 rfl) ?_
      exact xreti C u_20 trivial hP hD hS (Nat.le_of_ble_eq_true rfl) (Nat.le_of_ble_eq_true rfl) rfl dX12_drawSample_70
  · -- split
    replace hP : va_P D vwCl [(hm, .inr (12, [.ref ms, .ref mkp, .int km, .ref mtr, .int (nI 4), .int (nI 2), .int (nI 2), .int (nI 3), .int (nI 2), .int (nI 1), .ref mas, .int (nI 0), .int (nI 0), .int (nI 0), .ref mso, .ref mon, .ref mot, .ref man, .int (nI 0), .int u_4, .ref mst, .ref msm, .ref mtb, .ref mti, .ref mfr, .ref mbn, .ref mbs, .ref mde, .int (nI 0), .int (nI 0), .int (nI 0), .int (nI 0), .long 0, .long 0, .ref maa, .ref mab, .ref mba, .ref mbb]))] H := hP
    replace hD : va_D A [(hm, .inr (12, [.ref ms, .ref mkp, .int km, .ref mtr, .int (nI 4), .int (nI 2), .int (nI 2), .int (nI 3), .int (nI 2), .int (nI 1), .ref mas, .int (nI 0), .int (nI 0), .int (nI 0), .ref mso, .ref mon, .ref mot, .ref man, .int (nI 0), .int u_4, .ref mst, .ref msm, .ref mtb, .ref mti, .ref mfr, .ref mbn, .ref mbs, .ref mde, .int (nI 0), .int (nI 0), .int (nI 0), .int (nI 0), .long 0, .long 0, .ref maa, .ref mab, .ref mba, .ref mbb]))] := hD
    refine lv_istore (lv' := [(5, .int (nI 2)), (4, .int (nI 0)), (3, .int (nI 0)), (2, .int (nI 7)), (0, .ref hm), (1, .int (nI 3))]) hx hb dX12_drawSample_37 hl (by decide) rfl ?_
    clear hl
    try clear ls
    intro ls hl
    refine lv_iload_n hx hb dX12_drawSample_39 rfl (lv_at hl 3 rfl) ?_
    refine lv_iload hx hb dX12_drawSample_40 (lv_at hl 0 rfl) ?_
    refine xi (wr := [(hm, .inr (12, [.ref ms, .ref mkp, .int km, .ref mtr, .int (nI 4), .int (nI 2), .int (nI 2), .int (nI 3), .int (nI 2), .int (nI 1), .ref mas, .int (nI 0), .int (nI 0), .int (nI 0), .ref mso, .ref mon, .ref mot, .ref man, .int (nI 0), .int u_4, .ref mst, .ref msm, .ref mtb, .ref mti, .ref mfr, .ref mbn, .ref mbs, .ref mde, .int (nI 0), .int (nI 0), .int (nI 0), .int (nI 0), .long 0, .long 0, .ref maa, .ref mab, .ref mba, .ref mbb]))]) (xS (As := [.int (nI 7), .int (nI 2)]) (rest := []) C (c_X12_nth_7_2 l D cs 0) kX12_159 hP hD [] rfl (by decide +kernel) ⟨Nat.le_of_ble_eq_true rfl, Nat.le_of_ble_eq_true rfl⟩ rfl hl.1 rfl (Nat.le_of_ble_eq_true rfl) dX12_drawSample_42 ⟨Nat.le_of_ble_eq_true rfl, Nat.le_of_ble_eq_true rfl⟩) hP hD hS hA [] [0] rfl rfl (by decide +kernel) (by decide +kernel) ?_
    clear hP hD hS
    try clear locs
    try clear H
    intro r_25 u_26 H locs hw_r_25 hP hD hS
    have hw_r_25 : r_25 = nI 2 := hw_r_25
    refine W.widen (k := 0) (n := 0) (Nat.le_of_ble_eq_true rfl) (Nat.le_of_ble_eq_true rfl) ?_
    replace hP : va_P D vwCl [(hm, .inr (12, [.ref ms, .ref mkp, .int km, .ref mtr, .int (nI 4), .int (nI 2), .int (nI 2), .int (nI 3), .int (nI 2), .int (nI 1), .ref mas, .int (nI 0), .int (nI 0), .int (nI 0), .ref mso, .ref mon, .ref mot, .ref man, .int (nI 0), .int u_4, .ref mst, .ref msm, .ref mtb, .ref mti, .ref mfr, .ref mbn, .ref mbs, .ref mde, .int (nI 0), .int (nI 0), .int (nI 0), .int (nI 0), .long 0, .long 0, .ref maa, .ref mab, .ref mba, .ref mbb]))] H := hP
    replace hD : va_D A [(hm, .inr (12, [.ref ms, .ref mkp, .int km, .ref mtr, .int (nI 4), .int (nI 2), .int (nI 2), .int (nI 3), .int (nI 2), .int (nI 1), .ref mas, .int (nI 0), .int (nI 0), .int (nI 0), .ref mso, .ref mon, .ref mot, .ref man, .int (nI 0), .int u_4, .ref mst, .ref msm, .ref mtb, .ref mti, .ref mfr, .ref mbn, .ref mbs, .ref mde, .int (nI 0), .int (nI 0), .int (nI 0), .int (nI 0), .long 0, .long 0, .ref maa, .ref mab, .ref mba, .ref mbb]))] := hD
    subst hw_r_25
    refine lv_istore (lv' := [(6, .int (nI 2)), (5, .int (nI 2)), (4, .int (nI 0)), (3, .int (nI 0)), (2, .int (nI 7)), (0, .ref hm), (1, .int (nI 3))]) hx hb dX12_drawSample_45 hl (by decide) rfl ?_
    clear hl
    try clear ls
    intro ls hl
    refine lv_iload_n hx hb dX12_drawSample_47 rfl (lv_at hl 4 rfl) ?_
    refine lv_iconst (v := nI 1) hx hb dX12_drawSample_48 (by decide) ?_
    refine lv_iload hx hb dX12_drawSample_49 (lv_at hl 0 rfl) ?_
    refine lv_ishl hx hb dX12_drawSample_51 ?_
    refine lv_topi (nm_r (e' := nI 4) (by decide) ?_)
    refine lv_iconst (v := (-1)) hx hb dX12_drawSample_52 (by decide) ?_
    refine lv_ixor hx hb dX12_drawSample_53 ?_
    refine lv_iand hx hb dX12_drawSample_54 ?_
    refine lv_topi (nm_r (e' := nI 3) (by decide) ?_)
    refine lv_istore_n (lv' := [(2, .int (nI 3)), (6, .int (nI 2)), (5, .int (nI 2)), (4, .int (nI 0)), (3, .int (nI 0)), (0, .ref hm), (1, .int (nI 3))]) hx hb dX12_drawSample_55 rfl hl (by decide) rfl ?_
    clear hl
    try clear ls
    intro ls hl
    refine lv_iload_n hx hb dX12_drawSample_56 rfl (lv_at hl 4 rfl) ?_
    refine lv_iconst (v := nI 1) hx hb dX12_drawSample_57 (by decide) ?_
    refine lv_iload hx hb dX12_drawSample_58 (lv_at hl 1 rfl) ?_
    refine lv_ishl hx hb dX12_drawSample_60 ?_
    refine lv_topi (nm_r (e' := nI 4) (by decide) ?_)
    refine lv_ior hx hb dX12_drawSample_61 ?_
    refine lv_topi (nm_r (e' := nI 4) (by decide) ?_)
    refine lv_istore_n (lv' := [(3, .int (nI 4)), (2, .int (nI 3)), (6, .int (nI 2)), (5, .int (nI 2)), (4, .int (nI 0)), (0, .ref hm), (1, .int (nI 3))]) hx hb dX12_drawSample_62 rfl hl (by decide) rfl ?_
    clear hl
    try clear ls
    intro ls hl
    refine lv_iinc (v := nI 1) (lv' := [(4, .int (nI 1)), (3, .int (nI 4)), (2, .int (nI 3)), (6, .int (nI 2)), (5, .int (nI 2)), (0, .ref hm), (1, .int (nI 3))]) hx hb dX12_drawSample_63 hl (k := 4) rfl (by decide) (by decide) rfl ?_
    clear hl
    try clear ls
    intro ls hl
    refine lv_goto (tgt := 20) hx hb dX12_drawSample_66 (by decide) ?_
    refine lv_iload hx hb dX12_drawSample_20 (lv_at hl 0 rfl) ?_
    refine lv_aload_n hx hb dX12_drawSample_22 rfl (lv_at hl 5 rfl) ?_
    refine xget C hP 0 rfl rfl zuX12 5 (by decide) zw5_218 rfl dX12_drawSample_23 ?_
    refine lv_icmp_ge (tgt := 69) hx hb dX12_drawSample_26 (by decide) (fun c => absurd c (by decide)) (fun _ => ?_)
    refine lv_aload_n hx hb dX12_drawSample_29 rfl (lv_at hl 5 rfl) ?_
    refine lv_iload_n hx hb dX12_drawSample_30 rfl (lv_at hl 2 rfl) ?_
    refine xi (wr := [(hm, .inr (12, [.ref ms, .ref mkp, .int km, .ref mtr, .int (nI 4), .int (nI 2), .int (nI 2), .int (nI 3), .int (nI 2), .int (nI 1), .ref mas, .int (nI 0), .int (nI 0), .int (nI 0), .ref mso, .ref mon, .ref mot, .ref man, .int (nI 0), .int u_4, .ref mst, .ref msm, .ref mtb, .ref mti, .ref mfr, .ref mbn, .ref mbs, .ref mde, .int (nI 0), .int (nI 0), .int (nI 0), .int (nI 0), .long 0, .long 0, .ref maa, .ref mab, .ref mba, .ref mbb]))]) (xS (As := [.int (nI 3)]) (rest := [.ref hm]) C (c_X12_many_x l D cs (nI 3)) kX12_127 hP hD [] rfl (by decide +kernel) ⟨Nat.le_of_ble_eq_true rfl, Nat.le_of_ble_eq_true rfl⟩ rfl hl.1 rfl (Nat.le_of_ble_eq_true rfl) dX12_drawSample_31 ⟨Nat.le_of_ble_eq_true rfl, Nat.le_of_ble_eq_true rfl⟩) hP hD hS hA [] [0] rfl rfl (by decide +kernel) (by decide +kernel) ?_
    clear hP hD hS
    try clear locs
    try clear H
    intro r_27 u_28 H locs hw_r_27 hP hD hS
    have hw_r_27 : r_27 = mnC (nI 3) 16 := hw_r_27
    refine W.widen (k := 0) (n := 0) (Nat.le_of_ble_eq_true rfl) (Nat.le_of_ble_eq_true rfl) ?_
    replace hP : va_P D vwCl [(hm, .inr (12, [.ref ms, .ref mkp, .int km, .ref mtr, .int (nI 4), .int (nI 2), .int (nI 2), .int (nI 3), .int (nI 2), .int (nI 1), .ref mas, .int (nI 0), .int (nI 0), .int (nI 0), .ref mso, .ref mon, .ref mot, .ref man, .int (nI 0), .int u_4, .ref mst, .ref msm, .ref mtb, .ref mti, .ref mfr, .ref mbn, .ref mbs, .ref mde, .int (nI 0), .int (nI 0), .int (nI 0), .int (nI 0), .long 0, .long 0, .ref maa, .ref mab, .ref mba, .ref mbb]))] H := hP
    replace hD : va_D A [(hm, .inr (12, [.ref ms, .ref mkp, .int km, .ref mtr, .int (nI 4), .int (nI 2), .int (nI 2), .int (nI 3), .int (nI 2), .int (nI 1), .ref mas, .int (nI 0), .int (nI 0), .int (nI 0), .ref mso, .ref mon, .ref mot, .ref man, .int (nI 0), .int u_4, .ref mst, .ref msm, .ref mtb, .ref mti, .ref mfr, .ref mbn, .ref mbs, .ref mde, .int (nI 0), .int (nI 0), .int (nI 0), .int (nI 0), .long 0, .long 0, .ref maa, .ref mab, .ref mba, .ref mbb]))] := hD
    obtain rfl : r_27 = nI 2 := by rw [hw_r_27]; decide +kernel
    refine xi (wr := []) (xV (As := [.int (nI 2)]) (rest := []) C (c_X12_draw l D cs hm ms mkp mtr mas mso mon mot man mst msm mtb mti mfr mbn mbs mde maa mab mba mbb km u_4 2 (by decide) (by decide)) kX12_156 hP hD [0] rfl (by decide +kernel) 0 rfl rfl rfl ⟨Nat.le_of_ble_eq_true rfl, Nat.le_of_ble_eq_true rfl⟩ rfl hl.1 rfl (Nat.le_of_ble_eq_true rfl) dX12_drawSample_34 ⟨Nat.le_of_ble_eq_true rfl, Nat.le_of_ble_eq_true rfl⟩) hP hD hS hA [0] [] rfl rfl (by decide +kernel) (by decide +kernel) ?_
    clear hP hD hS
    try clear locs
    try clear H
    intro r_29 u_30 H locs hw_r_29 hP hD hS
    have hw_r_29 : ∃ j, j < 2 ∧ r_29 = nI j := hw_r_29
    refine W.widen (k := 0) (n := 0) (Nat.le_of_ble_eq_true rfl) (Nat.le_of_ble_eq_true rfl) ?_
    replace hP : va_P D vwCl [(hm, .inr (12, [.ref ms, .ref mkp, .int km, .ref mtr, .int (nI 4), .int (nI 2), .int (nI 2), .int (nI 3), .int (nI 2), .int (nI 1), .ref mas, .int (nI 0), .int (nI 0), .int (nI 0), .ref mso, .ref mon, .ref mot, .ref man, .int (nI 0), .int u_30, .ref mst, .ref msm, .ref mtb, .ref mti, .ref mfr, .ref mbn, .ref mbs, .ref mde, .int (nI 0), .int (nI 0), .int (nI 0), .int (nI 0), .long 0, .long 0, .ref maa, .ref mab, .ref mba, .ref mbb]))] H := hP
    replace hD : va_D A [(hm, .inr (12, [.ref ms, .ref mkp, .int km, .ref mtr, .int (nI 4), .int (nI 2), .int (nI 2), .int (nI 3), .int (nI 2), .int (nI 1), .ref mas, .int (nI 0), .int (nI 0), .int (nI 0), .ref mso, .ref mon, .ref mot, .ref man, .int (nI 0), .int u_30, .ref mst, .ref msm, .ref mtb, .ref mti, .ref mfr, .ref mbn, .ref mbs, .ref mde, .int (nI 0), .int (nI 0), .int (nI 0), .int (nI 0), .long 0, .long 0, .ref maa, .ref mab, .ref mba, .ref mbb]))] := hD
    rcases (dr2 hw_r_29) with rfl | rfl
    · -- split
      replace hP : va_P D vwCl [(hm, .inr (12, [.ref ms, .ref mkp, .int km, .ref mtr, .int (nI 4), .int (nI 2), .int (nI 2), .int (nI 3), .int (nI 2), .int (nI 1), .ref mas, .int (nI 0), .int (nI 0), .int (nI 0), .ref mso, .ref mon, .ref mot, .ref man, .int (nI 0), .int u_30, .ref mst, .ref msm, .ref mtb, .ref mti, .ref mfr, .ref mbn, .ref mbs, .ref mde, .int (nI 0), .int (nI 0), .int (nI 0), .int (nI 0), .long 0, .long 0, .ref maa, .ref mab, .ref mba, .ref mbb]))] H := hP
      replace hD : va_D A [(hm, .inr (12, [.ref ms, .ref mkp, .int km, .ref mtr, .int (nI 4), .int (nI 2), .int (nI 2), .int (nI 3), .int (nI 2), .int (nI 1), .ref mas, .int (nI 0), .int (nI 0), .int (nI 0), .ref mso, .ref mon, .ref mot, .ref man, .int (nI 0), .int u_30, .ref mst, .ref msm, .ref mtb, .ref mti, .ref mfr, .ref mbn, .ref mbs, .ref mde, .int (nI 0), .int (nI 0), .int (nI 0), .int (nI 0), .long 0, .long 0, .ref maa, .ref mab, .ref mba, .ref mbb]))] := hD
      refine lv_istore (lv' := [(5, .int (nI 0)), (4, .int (nI 1)), (3, .int (nI 4)), (2, .int (nI 3)), (6, .int (nI 2)), (0, .ref hm), (1, .int (nI 3))]) hx hb dX12_drawSample_37 hl (by decide) rfl ?_
      clear hl
      try clear ls
      intro ls hl
      refine lv_iload_n hx hb dX12_drawSample_39 rfl (lv_at hl 3 rfl) ?_
      refine lv_iload hx hb dX12_drawSample_40 (lv_at hl 0 rfl) ?_
      refine xi (wr := [(hm, .inr (12, [.ref ms, .ref mkp, .int km, .ref mtr, .int (nI 4), .int (nI 2), .int (nI 2), .int (nI 3), .int (nI 2), .int (nI 1), .ref mas, .int (nI 0), .int (nI 0), .int (nI 0), .ref mso, .ref mon, .ref mot, .ref man, .int (nI 0), .int u_30, .ref mst, .ref msm, .ref mtb, .ref mti, .ref mfr, .ref mbn, .ref mbs, .ref mde, .int (nI 0), .int (nI 0), .int (nI 0), .int (nI 0), .long 0, .long 0, .ref maa, .ref mab, .ref mba, .ref mbb]))]) (xS (As := [.int (nI 3), .int (nI 0)]) (rest := []) C (c_X12_nth_3_0 l D cs 0) kX12_159 hP hD [] rfl (by decide +kernel) ⟨Nat.le_of_ble_eq_true rfl, Nat.le_of_ble_eq_true rfl⟩ rfl hl.1 rfl (Nat.le_of_ble_eq_true rfl) dX12_drawSample_42 ⟨Nat.le_of_ble_eq_true rfl, Nat.le_of_ble_eq_true rfl⟩) hP hD hS hA [] [0] rfl rfl (by decide +kernel) (by decide +kernel) ?_
      clear hP hD hS
      try clear locs
      try clear H
      intro r_31 u_32 H locs hw_r_31 hP hD hS
      have hw_r_31 : r_31 = nI 0 := hw_r_31
      refine W.widen (k := 0) (n := 0) (Nat.le_of_ble_eq_true rfl) (Nat.le_of_ble_eq_true rfl) ?_
      replace hP : va_P D vwCl [(hm, .inr (12, [.ref ms, .ref mkp, .int km, .ref mtr, .int (nI 4), .int (nI 2), .int (nI 2), .int (nI 3), .int (nI 2), .int (nI 1), .ref mas, .int (nI 0), .int (nI 0), .int (nI 0), .ref mso, .ref mon, .ref mot, .ref man, .int (nI 0), .int u_30, .ref mst, .ref msm, .ref mtb, .ref mti, .ref mfr, .ref mbn, .ref mbs, .ref mde, .int (nI 0), .int (nI 0), .int (nI 0), .int (nI 0), .long 0, .long 0, .ref maa, .ref mab, .ref mba, .ref mbb]))] H := hP
      replace hD : va_D A [(hm, .inr (12, [.ref ms, .ref mkp, .int km, .ref mtr, .int (nI 4), .int (nI 2), .int (nI 2), .int (nI 3), .int (nI 2), .int (nI 1), .ref mas, .int (nI 0), .int (nI 0), .int (nI 0), .ref mso, .ref mon, .ref mot, .ref man, .int (nI 0), .int u_30, .ref mst, .ref msm, .ref mtb, .ref mti, .ref mfr, .ref mbn, .ref mbs, .ref mde, .int (nI 0), .int (nI 0), .int (nI 0), .int (nI 0), .long 0, .long 0, .ref maa, .ref mab, .ref mba, .ref mbb]))] := hD
      subst hw_r_31
      refine lv_istore (lv' := [(6, .int (nI 0)), (5, .int (nI 0)), (4, .int (nI 1)), (3, .int (nI 4)), (2, .int (nI 3)), (0, .ref hm), (1, .int (nI 3))]) hx hb dX12_drawSample_45 hl (by decide) rfl ?_
      clear hl
      try clear ls
      intro ls hl
      refine lv_iload_n hx hb dX12_drawSample_47 rfl (lv_at hl 4 rfl) ?_
      refine lv_iconst (v := nI 1) hx hb dX12_drawSample_48 (by decide) ?_
      refine lv_iload hx hb dX12_drawSample_49 (lv_at hl 0 rfl) ?_
      refine lv_ishl hx hb dX12_drawSample_51 ?_
      refine lv_topi (nm_r (e' := nI 1) (by decide) ?_)
      refine lv_iconst (v := (-1)) hx hb dX12_drawSample_52 (by decide) ?_
      refine lv_ixor hx hb dX12_drawSample_53 ?_
      refine lv_iand hx hb dX12_drawSample_54 ?_
      refine lv_topi (nm_r (e' := nI 2) (by decide) ?_)
      refine lv_istore_n (lv' := [(2, .int (nI 2)), (6, .int (nI 0)), (5, .int (nI 0)), (4, .int (nI 1)), (3, .int (nI 4)), (0, .ref hm), (1, .int (nI 3))]) hx hb dX12_drawSample_55 rfl hl (by decide) rfl ?_
      clear hl
      try clear ls
      intro ls hl
      refine lv_iload_n hx hb dX12_drawSample_56 rfl (lv_at hl 4 rfl) ?_
      refine lv_iconst (v := nI 1) hx hb dX12_drawSample_57 (by decide) ?_
      refine lv_iload hx hb dX12_drawSample_58 (lv_at hl 1 rfl) ?_
      refine lv_ishl hx hb dX12_drawSample_60 ?_
      refine lv_topi (nm_r (e' := nI 1) (by decide) ?_)
      refine lv_ior hx hb dX12_drawSample_61 ?_
      refine lv_topi (nm_r (e' := nI 5) (by decide) ?_)
      refine lv_istore_n (lv' := [(3, .int (nI 5)), (2, .int (nI 2)), (6, .int (nI 0)), (5, .int (nI 0)), (4, .int (nI 1)), (0, .ref hm), (1, .int (nI 3))]) hx hb dX12_drawSample_62 rfl hl (by decide) rfl ?_
      clear hl
      try clear ls
      intro ls hl
      refine lv_iinc (v := nI 2) (lv' := [(4, .int (nI 2)), (3, .int (nI 5)), (2, .int (nI 2)), (6, .int (nI 0)), (5, .int (nI 0)), (0, .ref hm), (1, .int (nI 3))]) hx hb dX12_drawSample_63 hl (k := 4) rfl (by decide) (by decide) rfl ?_
      clear hl
      try clear ls
      intro ls hl
      refine lv_goto (tgt := 20) hx hb dX12_drawSample_66 (by decide) ?_
      refine lv_iload hx hb dX12_drawSample_20 (lv_at hl 0 rfl) ?_
      refine lv_aload_n hx hb dX12_drawSample_22 rfl (lv_at hl 5 rfl) ?_
      refine xget C hP 0 rfl rfl zuX12 5 (by decide) zw5_218 rfl dX12_drawSample_23 ?_
      refine lv_icmp_ge (tgt := 69) hx hb dX12_drawSample_26 (by decide) (fun _ => ?_) (fun c => absurd (by decide) c)
      refine lv_iload_n hx hb dX12_drawSample_69 rfl (lv_at hl 1 rfl) ?_
      exact xreti C u_30 trivial hP hD hS (Nat.le_of_ble_eq_true rfl) (Nat.le_of_ble_eq_true rfl) rfl dX12_drawSample_70
    · -- split
      replace hP : va_P D vwCl [(hm, .inr (12, [.ref ms, .ref mkp, .int km, .ref mtr, .int (nI 4), .int (nI 2), .int (nI 2), .int (nI 3), .int (nI 2), .int (nI 1), .ref mas, .int (nI 0), .int (nI 0), .int (nI 0), .ref mso, .ref mon, .ref mot, .ref man, .int (nI 0), .int u_30, .ref mst, .ref msm, .ref mtb, .ref mti, .ref mfr, .ref mbn, .ref mbs, .ref mde, .int (nI 0), .int (nI 0), .int (nI 0), .int (nI 0), .long 0, .long 0, .ref maa, .ref mab, .ref mba, .ref mbb]))] H := hP
      replace hD : va_D A [(hm, .inr (12, [.ref ms, .ref mkp, .int km, .ref mtr, .int (nI 4), .int (nI 2), .int (nI 2), .int (nI 3), .int (nI 2), .int (nI 1), .ref mas, .int (nI 0), .int (nI 0), .int (nI 0), .ref mso, .ref mon, .ref mot, .ref man, .int (nI 0), .int u_30, .ref mst, .ref msm, .ref mtb, .ref mti, .ref mfr, .ref mbn, .ref mbs, .ref mde, .int (nI 0), .int (nI 0), .int (nI 0), .int (nI 0), .long 0, .long 0, .ref maa, .ref mab, .ref mba, .ref mbb]))] := hD
      refine lv_istore (lv' := [(5, .int (nI 1)), (4, .int (nI 1)), (3, .int (nI 4)), (2, .int (nI 3)), (6, .int (nI 2)), (0, .ref hm), (1, .int (nI 3))]) hx hb dX12_drawSample_37 hl (by decide) rfl ?_
      clear hl
      try clear ls
      intro ls hl
      refine lv_iload_n hx hb dX12_drawSample_39 rfl (lv_at hl 3 rfl) ?_
      refine lv_iload hx hb dX12_drawSample_40 (lv_at hl 0 rfl) ?_
      refine xi (wr := [(hm, .inr (12, [.ref ms, .ref mkp, .int km, .ref mtr, .int (nI 4), .int (nI 2), .int (nI 2), .int (nI 3), .int (nI 2), .int (nI 1), .ref mas, .int (nI 0), .int (nI 0), .int (nI 0), .ref mso, .ref mon, .ref mot, .ref man, .int (nI 0), .int u_30, .ref mst, .ref msm, .ref mtb, .ref mti, .ref mfr, .ref mbn, .ref mbs, .ref mde, .int (nI 0), .int (nI 0), .int (nI 0), .int (nI 0), .long 0, .long 0, .ref maa, .ref mab, .ref mba, .ref mbb]))]) (xS (As := [.int (nI 3), .int (nI 1)]) (rest := []) C (c_X12_nth_3_1 l D cs 0) kX12_159 hP hD [] rfl (by decide +kernel) ⟨Nat.le_of_ble_eq_true rfl, Nat.le_of_ble_eq_true rfl⟩ rfl hl.1 rfl (Nat.le_of_ble_eq_true rfl) dX12_drawSample_42 ⟨Nat.le_of_ble_eq_true rfl, Nat.le_of_ble_eq_true rfl⟩) hP hD hS hA [] [0] rfl rfl (by decide +kernel) (by decide +kernel) ?_
      clear hP hD hS
      try clear locs
      try clear H
      intro r_33 u_34 H locs hw_r_33 hP hD hS
      have hw_r_33 : r_33 = nI 1 := hw_r_33
      refine W.widen (k := 0) (n := 0) (Nat.le_of_ble_eq_true rfl) (Nat.le_of_ble_eq_true rfl) ?_
      replace hP : va_P D vwCl [(hm, .inr (12, [.ref ms, .ref mkp, .int km, .ref mtr, .int (nI 4), .int (nI 2), .int (nI 2), .int (nI 3), .int (nI 2), .int (nI 1), .ref mas, .int (nI 0), .int (nI 0), .int (nI 0), .ref mso, .ref mon, .ref mot, .ref man, .int (nI 0), .int u_30, .ref mst, .ref msm, .ref mtb, .ref mti, .ref mfr, .ref mbn, .ref mbs, .ref mde, .int (nI 0), .int (nI 0), .int (nI 0), .int (nI 0), .long 0, .long 0, .ref maa, .ref mab, .ref mba, .ref mbb]))] H := hP
      replace hD : va_D A [(hm, .inr (12, [.ref ms, .ref mkp, .int km, .ref mtr, .int (nI 4), .int (nI 2), .int (nI 2), .int (nI 3), .int (nI 2), .int (nI 1), .ref mas, .int (nI 0), .int (nI 0), .int (nI 0), .ref mso, .ref mon, .ref mot, .ref man, .int (nI 0), .int u_30, .ref mst, .ref msm, .ref mtb, .ref mti, .ref mfr, .ref mbn, .ref mbs, .ref mde, .int (nI 0), .int (nI 0), .int (nI 0), .int (nI 0), .long 0, .long 0, .ref maa, .ref mab, .ref mba, .ref mbb]))] := hD
      subst hw_r_33
      refine lv_istore (lv' := [(6, .int (nI 1)), (5, .int (nI 1)), (4, .int (nI 1)), (3, .int (nI 4)), (2, .int (nI 3)), (0, .ref hm), (1, .int (nI 3))]) hx hb dX12_drawSample_45 hl (by decide) rfl ?_
      clear hl
      try clear ls
      intro ls hl
      refine lv_iload_n hx hb dX12_drawSample_47 rfl (lv_at hl 4 rfl) ?_
      refine lv_iconst (v := nI 1) hx hb dX12_drawSample_48 (by decide) ?_
      refine lv_iload hx hb dX12_drawSample_49 (lv_at hl 0 rfl) ?_
      refine lv_ishl hx hb dX12_drawSample_51 ?_
      refine lv_topi (nm_r (e' := nI 2) (by decide) ?_)
      refine lv_iconst (v := (-1)) hx hb dX12_drawSample_52 (by decide) ?_
      refine lv_ixor hx hb dX12_drawSample_53 ?_
      refine lv_iand hx hb dX12_drawSample_54 ?_
      refine lv_topi (nm_r (e' := nI 1) (by decide) ?_)
      refine lv_istore_n (lv' := [(2, .int (nI 1)), (6, .int (nI 1)), (5, .int (nI 1)), (4, .int (nI 1)), (3, .int (nI 4)), (0, .ref hm), (1, .int (nI 3))]) hx hb dX12_drawSample_55 rfl hl (by decide) rfl ?_
      clear hl
      try clear ls
      intro ls hl
      refine lv_iload_n hx hb dX12_drawSample_56 rfl (lv_at hl 4 rfl) ?_
      refine lv_iconst (v := nI 1) hx hb dX12_drawSample_57 (by decide) ?_
      refine lv_iload hx hb dX12_drawSample_58 (lv_at hl 1 rfl) ?_
      refine lv_ishl hx hb dX12_drawSample_60 ?_
      refine lv_topi (nm_r (e' := nI 2) (by decide) ?_)
      refine lv_ior hx hb dX12_drawSample_61 ?_
      refine lv_topi (nm_r (e' := nI 6) (by decide) ?_)
      refine lv_istore_n (lv' := [(3, .int (nI 6)), (2, .int (nI 1)), (6, .int (nI 1)), (5, .int (nI 1)), (4, .int (nI 1)), (0, .ref hm), (1, .int (nI 3))]) hx hb dX12_drawSample_62 rfl hl (by decide) rfl ?_
      clear hl
      try clear ls
      intro ls hl
      refine lv_iinc (v := nI 2) (lv' := [(4, .int (nI 2)), (3, .int (nI 6)), (2, .int (nI 1)), (6, .int (nI 1)), (5, .int (nI 1)), (0, .ref hm), (1, .int (nI 3))]) hx hb dX12_drawSample_63 hl (k := 4) rfl (by decide) (by decide) rfl ?_
      clear hl
      try clear ls
      intro ls hl
      refine lv_goto (tgt := 20) hx hb dX12_drawSample_66 (by decide) ?_
      refine lv_iload hx hb dX12_drawSample_20 (lv_at hl 0 rfl) ?_
      refine lv_aload_n hx hb dX12_drawSample_22 rfl (lv_at hl 5 rfl) ?_
      refine xget C hP 0 rfl rfl zuX12 5 (by decide) zw5_218 rfl dX12_drawSample_23 ?_
      refine lv_icmp_ge (tgt := 69) hx hb dX12_drawSample_26 (by decide) (fun _ => ?_) (fun c => absurd (by decide) c)
      refine lv_iload_n hx hb dX12_drawSample_69 rfl (lv_at hl 1 rfl) ?_
      exact xreti C u_30 trivial hP hD hS (Nat.le_of_ble_eq_true rfl) (Nat.le_of_ble_eq_true rfl) rfl dX12_drawSample_70
