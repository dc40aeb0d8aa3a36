set_option maxHeartbeats 4000000 in
set_option maxRecDepth 100000 in
theorem c_X12_chain (l : Launch) (D : va_G) (cs : Nat → ClassId) (hm ms mkp mtr mas mso mon mot man mst msm mtb mti mfr mbn mbs mde maa mab mba mbb : Nat) (x y : Int32) : xMet l D cs yX12_chain cX12_chain 3 (some .long) ({ frames := 5, cells := 0, slots := 0, locals := 121 } : Room) [.ref hm, .int x, .int y] [(hm, .inr (12, [.ref ms, .ref mkp, .int (nI 0), .ref mtr, .int (nI 4), .int (nI 2), .int (nI 2), .int (nI 3), .int (nI 2), .int (nI 1), .ref mas, .int (nI 0), .int (nI 0), .int (nI 0), .ref mso, .ref mon, .ref mot, .ref man, .int (nI 0), .int (nI 0), .ref mst, .ref msm, .ref mtb, .ref mti, .ref mfr, .ref mbn, .ref mbs, .ref mde, .int (nI 0), .int (nI 0), .int (nI 0), .int (nI 0), .long 0, .long 0, .ref maa, .ref mab, .ref mba, .ref mbb])), (maa, .inl (cs 1, 9, .inr (.inl (fun _ => 0)))), (mab, .inl (cs 1, 9, .inr (.inl (fun _ => 0)))), (mba, .inl (cs 1, 9, .inr (.inl (fun _ => 0)))), (mbb, .inl (cs 1, 9, .inr (.inl (fun _ => 0))))] (xQl D (fun (r : Int64) (_u : Unit) => chP x y r) (fun (_u : Unit) => [])) := by
  refine xMet.intro (by decide) (Nat.le_of_ble_eq_true rfl) ?_
  intro p e s m args below meth c A ls C hP hD hS hl
  have hx := C.1
  have hb := C.2.1
  have hz := C.2.2.2.2.1
  have hown := C.2.2.2.1
  have hA := C.2.2.2.2.2.2.2.2.2
  have hAO := C.2.2.2.2.2.2.2.2.1.2.2
  replace hl : lv_has ls 3 [(0, .ref hm), (1, .int x), (2, .int y)] := hl
  obtain ⟨H, hH⟩ : ∃ H, H = s.heap := ⟨_, rfl⟩
  replace hP : va_P D vwCl [(hm, .inr (12, [.ref ms, .ref mkp, .int (nI 0), .ref mtr, .int (nI 4), .int (nI 2), .int (nI 2), .int (nI 3), .int (nI 2), .int (nI 1), .ref mas, .int (nI 0), .int (nI 0), .int (nI 0), .ref mso, .ref mon, .ref mot, .ref man, .int (nI 0), .int (nI 0), .ref mst, .ref msm, .ref mtb, .ref mti, .ref mfr, .ref mbn, .ref mbs, .ref mde, .int (nI 0), .int (nI 0), .int (nI 0), .int (nI 0), .long 0, .long 0, .ref maa, .ref mab, .ref mba, .ref mbb])), (maa, .inl (cs 1, 9, .inr (.inl (fun _ => 0)))), (mab, .inl (cs 1, 9, .inr (.inl (fun _ => 0)))), (mba, .inl (cs 1, 9, .inr (.inl (fun _ => 0)))), (mbb, .inl (cs 1, 9, .inr (.inl (fun _ => 0))))] H := by rw [hH]; exact hP
  replace hS : va_S A s.heap H [] := by rw [hH]; exact hS
  obtain ⟨locs, hlocs⟩ : ∃ z : List Loc, z = [] := ⟨_, rfl⟩
  rw [← hlocs] at hS
  suffices hW : W p l e ({ frames := 5, cells := 0, slots := 0, locals := 121 } : Room) s m args below meth c H locs 0 0 (MQ below ((xQl D (fun (r : Int64) (_u : Unit) => chP x y r) (fun (_u : Unit) => [])) A) args s 0 0 A) (F0 m 0 ls []) by rw [hlocs, hH] at hW; exact hW
  clear hH hlocs
  refine lv_aload_n hx hb dX12_chain_0 rfl (lv_at hl 0 rfl) ?_
  refine lv_iconst (v := nI 0) hx hb dX12_chain_1 (by decide) ?_
  refine xput C hP hD hS 0 rfl rfl zuX12 tyX12 tyX12_ok nmX12 18 (by decide) zw5_231 rfl rfl rfl (Nat.le_of_ble_eq_true rfl) dX12_chain_2 ?_
  clear hP hD hS
  try clear locs
  try clear H
  intro H locs hP hD hS
  replace hP : va_P D vwCl [(hm, .inr (12, [.ref ms, .ref mkp, .int (nI 0), .ref mtr, .int (nI 4), .int (nI 2), .int (nI 2), .int (nI 3), .int (nI 2), .int (nI 1), .ref mas, .int (nI 0), .int (nI 0), .int (nI 0), .ref mso, .ref mon, .ref mot, .ref man, .int (nI 0), .int (nI 0), .ref mst, .ref msm, .ref mtb, .ref mti, .ref mfr, .ref mbn, .ref mbs, .ref mde, .int (nI 0), .int (nI 0), .int (nI 0), .int (nI 0), .long 0, .long 0, .ref maa, .ref mab, .ref mba, .ref mbb])), (maa, .inl (cs 1, 9, .inr (.inl (fun _ => 0)))), (mab, .inl (cs 1, 9, .inr (.inl (fun _ => 0)))), (mba, .inl (cs 1, 9, .inr (.inl (fun _ => 0)))), (mbb, .inl (cs 1, 9, .inr (.inl (fun _ => 0))))] H := hP
  replace hD : va_D A [(hm, .inr (12, [.ref ms, .ref mkp, .int (nI 0), .ref mtr, .int (nI 4), .int (nI 2), .int (nI 2), .int (nI 3), .int (nI 2), .int (nI 1), .ref mas, .int (nI 0), .int (nI 0), .int (nI 0), .ref mso, .ref mon, .ref mot, .ref man, .int (nI 0), .int (nI 0), .ref mst, .ref msm, .ref mtb, .ref mti, .ref mfr, .ref mbn, .ref mbs, .ref mde, .int (nI 0), .int (nI 0), .int (nI 0), .int (nI 0), .long 0, .long 0, .ref maa, .ref mab, .ref mba, .ref mbb])), (maa, .inl (cs 1, 9, .inr (.inl (fun _ => 0)))), (mab, .inl (cs 1, 9, .inr (.inl (fun _ => 0)))), (mba, .inl (cs 1, 9, .inr (.inl (fun _ => 0)))), (mbb, .inl (cs 1, 9, .inr (.inl (fun _ => 0))))] := hD
  refine lv_iload_n hx hb dX12_chain_5 rfl (lv_at hl 1 rfl) ?_
  refine lv_iconst (v := nI 0) hx hb dX12_chain_6 (by decide) ?_
  refine lv_aload_n hx hb dX12_chain_7 rfl (lv_at hl 0 rfl) ?_
  refine xget C hP 0 rfl rfl zuX12 4 (by decide) zw5_217 rfl dX12_chain_8 ?_
  refine xi (wr := [(hm, .inr (12, [.ref ms, .ref mkp, .int (nI 0), .ref mtr, .int (nI 4), .int (nI 2), .int (nI 2), .int (nI 3), .int (nI 2), .int (nI 1), .ref mas, .int (nI 0), .int (nI 0), .int (nI 0), .ref mso, .ref mon, .ref mot, .ref man, .int (nI 0), .int (nI 0), .ref mst, .ref msm, .ref mtb, .ref mti, .ref mfr, .ref mbn, .ref mbs, .ref mde, .int (nI 0), .int (nI 0), .int (nI 0), .int (nI 0), .long 0, .long 0, .ref maa, .ref mab, .ref mba, .ref mbb])), (maa, .inl (cs 1, 9, .inr (.inl (fun _ => 0)))), (mab, .inl (cs 1, 9, .inr (.inl (fun _ => 0)))), (mba, .inl (cs 1, 9, .inr (.inl (fun _ => 0)))), (mbb, .inl (cs 1, 9, .inr (.inl (fun _ => 0))))]) (xS (As := [.int x, .int (nI 0), .int (nI 4)]) (rest := []) C (c_X12_within l D cs x (nI 0) (nI 4)) kX12_116 hP hD [] rfl (by decide +kernel) ⟨Nat.le_of_ble_eq_true rfl, Nat.le_of_ble_eq_true rfl⟩ rfl hl.1 rfl (Nat.le_of_ble_eq_true rfl) dX12_chain_11 ⟨Nat.le_of_ble_eq_true rfl, Nat.le_of_ble_eq_true rfl⟩) hP hD hS hA [] [0, 1, 2, 3, 4] rfl rfl (by decide +kernel) (by decide +kernel) ?_
  clear hP hD hS
  try clear locs
  try clear H
  intro r_1 u_2 H locs hw_r_1 hP hD hS
  have hw_r_1 : PQ (¬ x < (nI 0) ∧ x ≤ (nI 4)) r_1 (nI 1) (nI 0) := hw_r_1
  refine W.widen (k := 0) (n := 0) (Nat.le_of_ble_eq_true rfl) (Nat.le_of_ble_eq_true rfl) ?_
  replace hP : va_P D vwCl [(hm, .inr (12, [.ref ms, .ref mkp, .int (nI 0), .ref mtr, .int (nI 4), .int (nI 2), .int (nI 2), .int (nI 3), .int (nI 2), .int (nI 1), .ref mas, .int (nI 0), .int (nI 0), .int (nI 0), .ref mso, .ref mon, .ref mot, .ref man, .int (nI 0), .int (nI 0), .ref mst, .ref msm, .ref mtb, .ref mti, .ref mfr, .ref mbn, .ref mbs, .ref mde, .int (nI 0), .int (nI 0), .int (nI 0), .int (nI 0), .long 0, .long 0, .ref maa, .ref mab, .ref mba, .ref mbb])), (maa, .inl (cs 1, 9, .inr (.inl (fun _ => 0)))), (mab, .inl (cs 1, 9, .inr (.inl (fun _ => 0)))), (mba, .inl (cs 1, 9, .inr (.inl (fun _ => 0)))), (mbb, .inl (cs 1, 9, .inr (.inl (fun _ => 0))))] H := hP
  replace hD : va_D A [(hm, .inr (12, [.ref ms, .ref mkp, .int (nI 0), .ref mtr, .int (nI 4), .int (nI 2), .int (nI 2), .int (nI 3), .int (nI 2), .int (nI 1), .ref mas, .int (nI 0), .int (nI 0), .int (nI 0), .ref mso, .ref mon, .ref mot, .ref man, .int (nI 0), .int (nI 0), .ref mst, .ref msm, .ref mtb, .ref mti, .ref mfr, .ref mbn, .ref mbs, .ref mde, .int (nI 0), .int (nI 0), .int (nI 0), .int (nI 0), .long 0, .long 0, .ref maa, .ref mab, .ref mba, .ref mbb])), (maa, .inl (cs 1, 9, .inr (.inl (fun _ => 0)))), (mab, .inl (cs 1, 9, .inr (.inl (fun _ => 0)))), (mba, .inl (cs 1, 9, .inr (.inl (fun _ => 0)))), (mbb, .inl (cs 1, 9, .inr (.inl (fun _ => 0))))] := hD
  refine lv_if_eq (tgt := 39) hx hb dX12_chain_14 (by decide) (fun c_3 => ?_) (fun c_3 => ?_)
  · -- 14 t
    have hn_a := PQ.no hw_r_1 c_3 (by decide)
    refine lv_ldc2 (v := (-1)) hx hb hown (hz _ zw6_193) dX12_chain_39 ?_
    exact xretl C () (Or.inr ⟨fun q => hn_a ⟨q.1.1, Int32.not_lt.mp (okS_n (n := 4) (by decide) q.1)⟩, rfl⟩) (xP_map hP [] rfl) (hD.sub [] (by decide +kernel) rfl) hS (Nat.le_of_ble_eq_true rfl) (Nat.le_of_ble_eq_true rfl) dX12_chain_42
  · -- 14 f
    have hy_a := PQ.yes hw_r_1 c_3
    refine lv_iload_n hx hb dX12_chain_17 rfl (lv_at hl 2 rfl) ?_
    refine lv_iconst (v := nI 0) hx hb dX12_chain_18 (by decide) ?_
    refine lv_iconst (v := nI 3) hx hb dX12_chain_19 (by decide) ?_
    refine xi (wr := [(hm, .inr (12, [.ref ms, .ref mkp, .int (nI 0), .ref mtr, .int (nI 4), .int (nI 2), .int (nI 2), .int (nI 3), .int (nI 2), .int (nI 1), .ref mas, .int (nI 0), .int (nI 0), .int (nI 0), .ref mso, .ref mon, .ref mot, .ref man, .int (nI 0), .int (nI 0), .ref mst, .ref msm, .ref mtb, .ref mti, .ref mfr, .ref mbn, .ref mbs, .ref mde, .int (nI 0), .int (nI 0), .int (nI 0), .int (nI 0), .long 0, .long 0, .ref maa, .ref mab, .ref mba, .ref mbb])), (maa, .inl (cs 1, 9, .inr (.inl (fun _ => 0)))), (mab, .inl (cs 1, 9, .inr (.inl (fun _ => 0)))), (mba, .inl (cs 1, 9, .inr (.inl (fun _ => 0)))), (mbb, .inl (cs 1, 9, .inr (.inl (fun _ => 0))))]) (xS (As := [.int y, .int (nI 0), .int (nI 3)]) (rest := []) C (c_X12_within l D cs y (nI 0) (nI 3)) kX12_116 hP hD [] rfl (by decide +kernel) ⟨Nat.le_of_ble_eq_true rfl, Nat.le_of_ble_eq_true rfl⟩ rfl hl.1 rfl (Nat.le_of_ble_eq_true rfl) dX12_chain_20 ⟨Nat.le_of_ble_eq_true rfl, Nat.le_of_ble_eq_true rfl⟩) hP hD hS hA [] [0, 1, 2, 3, 4] rfl rfl (by decide +kernel) (by decide +kernel) ?_
    clear hP hD hS
    try clear locs
    try clear H
    intro r_4 u_5 H locs hw_r_4 hP hD hS
    have hw_r_4 : PQ (¬ y < (nI 0) ∧ y ≤ (nI 3)) r_4 (nI 1) (nI 0) := hw_r_4
    refine W.widen (k := 0) (n := 0) (Nat.le_of_ble_eq_true rfl) (Nat.le_of_ble_eq_true rfl) ?_
    replace hP : va_P D vwCl [(hm, .inr (12, [.ref ms, .ref mkp, .int (nI 0), .ref mtr, .int (nI 4), .int (nI 2), .int (nI 2), .int (nI 3), .int (nI 2), .int (nI 1), .ref mas, .int (nI 0), .int (nI 0), .int (nI 0), .ref mso, .ref mon, .ref mot, .ref man, .int (nI 0), .int (nI 0), .ref mst, .ref msm, .ref mtb, .ref mti, .ref mfr, .ref mbn, .ref mbs, .ref mde, .int (nI 0), .int (nI 0), .int (nI 0), .int (nI 0), .long 0, .long 0, .ref maa, .ref mab, .ref mba, .ref mbb])), (maa, .inl (cs 1, 9, .inr (.inl (fun _ => 0)))), (mab, .inl (cs 1, 9, .inr (.inl (fun _ => 0)))), (mba, .inl (cs 1, 9, .inr (.inl (fun _ => 0)))), (mbb, .inl (cs 1, 9, .inr (.inl (fun _ => 0))))] H := hP
    replace hD : va_D A [(hm, .inr (12, [.ref ms, .ref mkp, .int (nI 0), .ref mtr, .int (nI 4), .int (nI 2), .int (nI 2), .int (nI 3), .int (nI 2), .int (nI 1), .ref mas, .int (nI 0), .int (nI 0), .int (nI 0), .ref mso, .ref mon, .ref mot, .ref man, .int (nI 0), .int (nI 0), .ref mst, .ref msm, .ref mtb, .ref mti, .ref mfr, .ref mbn, .ref mbs, .ref mde, .int (nI 0), .int (nI 0), .int (nI 0), .int (nI 0), .long 0, .long 0, .ref maa, .ref mab, .ref mba, .ref mbb])), (maa, .inl (cs 1, 9, .inr (.inl (fun _ => 0)))), (mab, .inl (cs 1, 9, .inr (.inl (fun _ => 0)))), (mba, .inl (cs 1, 9, .inr (.inl (fun _ => 0)))), (mbb, .inl (cs 1, 9, .inr (.inl (fun _ => 0))))] := hD
    refine lv_if_eq (tgt := 39) hx hb dX12_chain_23 (by decide) (fun c_6 => ?_) (fun c_6 => ?_)
    · -- 23 t
      have hn_b := PQ.no hw_r_4 c_6 (by decide)
      refine lv_ldc2 (v := (-1)) hx hb hown (hz _ zw6_193) dX12_chain_39 ?_
      exact xretl C () (Or.inr ⟨fun q => hn_b ⟨q.2.1, Int32.not_lt.mp (okS_n (n := 3) (by decide) q.2)⟩, rfl⟩) (xP_map hP [] rfl) (hD.sub [] (by decide +kernel) rfl) hS (Nat.le_of_ble_eq_true rfl) (Nat.le_of_ble_eq_true rfl) dX12_chain_42
    · -- 23 f
      have hy_b := PQ.yes hw_r_4 c_6
      rcases (show (∃ j : Nat, j < 5 ∧ x = nI j) ∧ ∃ k : Nat, k < 4 ∧ y = nI k from ⟨okN_of (okS (n := 4) (by decide) hy_a.1 (Int32.not_lt.mpr hy_a.2)) (by decide), okN_of (okS (n := 3) (by decide) hy_b.1 (Int32.not_lt.mpr hy_b.2)) (by decide)⟩) with ⟨⟨j, hj, rfl⟩, k, hk, rfl⟩
      · -- split
        replace hP : va_P D vwCl [(hm, .inr (12, [.ref ms, .ref mkp, .int (nI 0), .ref mtr, .int (nI 4), .int (nI 2), .int (nI 2), .int (nI 3), .int (nI 2), .int (nI 1), .ref mas, .int (nI 0), .int (nI 0), .int (nI 0), .ref mso, .ref mon, .ref mot, .ref man, .int (nI 0), .int (nI 0), .ref mst, .ref msm, .ref mtb, .ref mti, .ref mfr, .ref mbn, .ref mbs, .ref mde, .int (nI 0), .int (nI 0), .int (nI 0), .int (nI 0), .long 0, .long 0, .ref maa, .ref mab, .ref mba, .ref mbb])), (maa, .inl (cs 1, 9, .inr (.inl (fun _ => 0)))), (mab, .inl (cs 1, 9, .inr (.inl (fun _ => 0)))), (mba, .inl (cs 1, 9, .inr (.inl (fun _ => 0)))), (mbb, .inl (cs 1, 9, .inr (.inl (fun _ => 0))))] H := hP
        replace hD : va_D A [(hm, .inr (12, [.ref ms, .ref mkp, .int (nI 0), .ref mtr, .int (nI 4), .int (nI 2), .int (nI 2), .int (nI 3), .int (nI 2), .int (nI 1), .ref mas, .int (nI 0), .int (nI 0), .int (nI 0), .ref mso, .ref mon, .ref mot, .ref man, .int (nI 0), .int (nI 0), .ref mst, .ref msm, .ref mtb, .ref mti, .ref mfr, .ref mbn, .ref mbs, .ref mde, .int (nI 0), .int (nI 0), .int (nI 0), .int (nI 0), .long 0, .long 0, .ref maa, .ref mab, .ref mba, .ref mbb])), (maa, .inl (cs 1, 9, .inr (.inl (fun _ => 0)))), (mab, .inl (cs 1, 9, .inr (.inl (fun _ => 0)))), (mba, .inl (cs 1, 9, .inr (.inl (fun _ => 0)))), (mbb, .inl (cs 1, 9, .inr (.inl (fun _ => 0))))] := hD
        refine lv_iload_n hx hb dX12_chain_26 rfl (lv_at hl 2 rfl) ?_
        rcases (show k = 0 ∨ k = 1 ∨ k = 2 ∨ k = 3 by omega) with rfl | rfl | rfl | rfl
        · -- k = 0
          replace hP : va_P D vwCl [(hm, .inr (12, [.ref ms, .ref mkp, .int (nI 0), .ref mtr, .int (nI 4), .int (nI 2), .int (nI 2), .int (nI 3), .int (nI 2), .int (nI 1), .ref mas, .int (nI 0), .int (nI 0), .int (nI 0), .ref mso, .ref mon, .ref mot, .ref man, .int (nI 0), .int (nI 0), .ref mst, .ref msm, .ref mtb, .ref mti, .ref mfr, .ref mbn, .ref mbs, .ref mde, .int (nI 0), .int (nI 0), .int (nI 0), .int (nI 0), .long 0, .long 0, .ref maa, .ref mab, .ref mba, .ref mbb])), (maa, .inl (cs 1, 9, .inr (.inl (fun _ => 0)))), (mab, .inl (cs 1, 9, .inr (.inl (fun _ => 0)))), (mba, .inl (cs 1, 9, .inr (.inl (fun _ => 0)))), (mbb, .inl (cs 1, 9, .inr (.inl (fun _ => 0))))] H := hP
          replace hD : va_D A [(hm, .inr (12, [.ref ms, .ref mkp, .int (nI 0), .ref mtr, .int (nI 4), .int (nI 2), .int (nI 2), .int (nI 3), .int (nI 2), .int (nI 1), .ref mas, .int (nI 0), .int (nI 0), .int (nI 0), .ref mso, .ref mon, .ref mot, .ref man, .int (nI 0), .int (nI 0), .ref mst, .ref msm, .ref mtb, .ref mti, .ref mfr, .ref mbn, .ref mbs, .ref mde, .int (nI 0), .int (nI 0), .int (nI 0), .int (nI 0), .long 0, .long 0, .ref maa, .ref mab, .ref mba, .ref mbb])), (maa, .inl (cs 1, 9, .inr (.inl (fun _ => 0)))), (mab, .inl (cs 1, 9, .inr (.inl (fun _ => 0)))), (mba, .inl (cs 1, 9, .inr (.inl (fun _ => 0)))), (mbb, .inl (cs 1, 9, .inr (.inl (fun _ => 0))))] := hD
          refine lv_iconst (v := nI 1) hx hb dX12_chain_27 (by decide) ?_
          refine lv_icmp_le (tgt := 43) hx hb dX12_chain_28 (by decide) (fun _ => ?_) (fun c => absurd (by decide) c)
          rcases (show j = 0 ∨ j = 1 ∨ j = 2 ∨ j = 3 ∨ j = 4 from (by omega)) with rfl | rfl | rfl | rfl | rfl
          · -- split
            replace hP : va_P D vwCl [(hm, .inr (12, [.ref ms, .ref mkp, .int (nI 0), .ref mtr, .int (nI 4), .int (nI 2), .int (nI 2), .int (nI 3), .int (nI 2), .int (nI 1), .ref mas, .int (nI 0), .int (nI 0), .int (nI 0), .ref mso, .ref mon, .ref mot, .ref man, .int (nI 0), .int (nI 0), .ref mst, .ref msm, .ref mtb, .ref mti, .ref mfr, .ref mbn, .ref mbs, .ref mde, .int (nI 0), .int (nI 0), .int (nI 0), .int (nI 0), .long 0, .long 0, .ref maa, .ref mab, .ref mba, .ref mbb])), (maa, .inl (cs 1, 9, .inr (.inl (fun _ => 0)))), (mab, .inl (cs 1, 9, .inr (.inl (fun _ => 0)))), (mba, .inl (cs 1, 9, .inr (.inl (fun _ => 0)))), (mbb, .inl (cs 1, 9, .inr (.inl (fun _ => 0))))] H := hP
            replace hD : va_D A [(hm, .inr (12, [.ref ms, .ref mkp, .int (nI 0), .ref mtr, .int (nI 4), .int (nI 2), .int (nI 2), .int (nI 3), .int (nI 2), .int (nI 1), .ref mas, .int (nI 0), .int (nI 0), .int (nI 0), .ref mso, .ref mon, .ref mot, .ref man, .int (nI 0), .int (nI 0), .ref mst, .ref msm, .ref mtb, .ref mti, .ref mfr, .ref mbn, .ref mbs, .ref mde, .int (nI 0), .int (nI 0), .int (nI 0), .int (nI 0), .long 0, .long 0, .ref maa, .ref mab, .ref mba, .ref mbb])), (maa, .inl (cs 1, 9, .inr (.inl (fun _ => 0)))), (mab, .inl (cs 1, 9, .inr (.inl (fun _ => 0)))), (mba, .inl (cs 1, 9, .inr (.inl (fun _ => 0)))), (mbb, .inl (cs 1, 9, .inr (.inl (fun _ => 0))))] := hD
            refine lv_aload_n hx hb dX12_chain_43 rfl (lv_at hl 0 rfl) ?_
            refine lv_iconst (v := nI 0) hx hb dX12_chain_44 (by decide) ?_
            refine xput C hP hD hS 0 rfl rfl zuX12 tyX12 tyX12_ok nmX12 31 (by decide) zw6_4 rfl rfl rfl (Nat.le_of_ble_eq_true rfl) dX12_chain_45 ?_
            clear hP hD hS
            try clear locs
            try clear H
            intro H locs hP hD hS
            replace hP : va_P D vwCl [(hm, .inr (12, [.ref ms, .ref mkp, .int (nI 0), .ref mtr, .int (nI 4), .int (nI 2), .int (nI 2), .int (nI 3), .int (nI 2), .int (nI 1), .ref mas, .int (nI 0), .int (nI 0), .int (nI 0), .ref mso, .ref mon, .ref mot, .ref man, .int (nI 0), .int (nI 0), .ref mst, .ref msm, .ref mtb, .ref mti, .ref mfr, .ref mbn, .ref mbs, .ref mde, .int (nI 0), .int (nI 0), .int (nI 0), .int (nI 0), .long 0, .long 0, .ref maa, .ref mab, .ref mba, .ref mbb])), (maa, .inl (cs 1, 9, .inr (.inl (fun _ => 0)))), (mab, .inl (cs 1, 9, .inr (.inl (fun _ => 0)))), (mba, .inl (cs 1, 9, .inr (.inl (fun _ => 0)))), (mbb, .inl (cs 1, 9, .inr (.inl (fun _ => 0))))] H := hP
            replace hD : va_D A [(hm, .inr (12, [.ref ms, .ref mkp, .int (nI 0), .ref mtr, .int (nI 4), .int (nI 2), .int (nI 2), .int (nI 3), .int (nI 2), .int (nI 1), .ref mas, .int (nI 0), .int (nI 0), .int (nI 0), .ref mso, .ref mon, .ref mot, .ref man, .int (nI 0), .int (nI 0), .ref mst, .ref msm, .ref mtb, .ref mti, .ref mfr, .ref mbn, .ref mbs, .ref mde, .int (nI 0), .int (nI 0), .int (nI 0), .int (nI 0), .long 0, .long 0, .ref maa, .ref mab, .ref mba, .ref mbb])), (maa, .inl (cs 1, 9, .inr (.inl (fun _ => 0)))), (mab, .inl (cs 1, 9, .inr (.inl (fun _ => 0)))), (mba, .inl (cs 1, 9, .inr (.inl (fun _ => 0)))), (mbb, .inl (cs 1, 9, .inr (.inl (fun _ => 0))))] := hD
            refine lv_aload_n hx hb dX12_chain_48 rfl (lv_at hl 0 rfl) ?_
            refine lv_iload_n hx hb dX12_chain_49 rfl (lv_at hl 2 rfl) ?_
            refine lv_iconst (v := nI 1) hx hb dX12_chain_50 (by decide) ?_
            refine lv_icmp_le (tgt := 58) hx hb dX12_chain_51 (by decide) (fun _ => ?_) (fun c => absurd (by decide) c)
            refine lv_iconst (v := nI 0) hx hb dX12_chain_58 (by decide) ?_
            refine xv (wr := []) (xV (As := [.int (nI 0)]) (rest := []) C (c_X12_laysSteps_0 l D cs hm ms mkp mtr mas mso mon mot man mst msm mtb mti mfr mbn mbs mde maa mab mba mbb 0 0) kX12_302 hP hD [0, 1, 2, 3, 4] rfl (by decide +kernel) 0 rfl rfl rfl ⟨Nat.le_of_ble_eq_true rfl, Nat.le_of_ble_eq_true rfl⟩ rfl hl.1 rfl (Nat.le_of_ble_eq_true rfl) dX12_chain_59 ⟨Nat.le_of_ble_eq_true rfl, Nat.le_of_ble_eq_true rfl⟩) hP hD hS hA [0, 1, 2, 3, 4] [] rfl rfl (by decide +kernel) (by decide +kernel) ?_
            clear hP hD hS
            try clear locs
            try clear H
            intro u_8 H locs hw_r_7 hP hD hS
            refine W.widen (k := 0) (n := 0) (Nat.le_of_ble_eq_true rfl) (Nat.le_of_ble_eq_true rfl) ?_
            replace hP : va_P D vwCl [(hm, .inr (12, [.ref ms, .ref mkp, .int (nI 0), .ref mtr, .int (nI 4), .int (nI 2), .int (nI 2), .int (nI 3), .int (nI 2), .int (nI 1), .ref mas, .int (nI 0), .int (nI 0), .int (nI 0), .ref mso, .ref mon, .ref mot, .ref man, .int (nI 0), .int (nI 0), .ref mst, .ref msm, .ref mtb, .ref mti, .ref mfr, .ref mbn, .ref mbs, .ref mde, .int (nI 0), .int (nI 0), .int (nI 0), .int (nI 0), .long 0, .long 1, .ref maa, .ref mab, .ref mba, .ref mbb])), (maa, .inl (cs 1, 9, .inr (.inl (lt4 0 0 1 1)))), (mab, .inl (cs 1, 9, .inr (.inl (lt4 1 1 2 1)))), (mba, .inl (cs 1, 9, .inr (.inl (lt4 0 0 0 0)))), (mbb, .inl (cs 1, 9, .inr (.inl (lt4 1 1 1 1))))] H := hP
            replace hD : va_D A [(hm, .inr (12, [.ref ms, .ref mkp, .int (nI 0), .ref mtr, .int (nI 4), .int (nI 2), .int (nI 2), .int (nI 3), .int (nI 2), .int (nI 1), .ref mas, .int (nI 0), .int (nI 0), .int (nI 0), .ref mso, .ref mon, .ref mot, .ref man, .int (nI 0), .int (nI 0), .ref mst, .ref msm, .ref mtb, .ref mti, .ref mfr, .ref mbn, .ref mbs, .ref mde, .int (nI 0), .int (nI 0), .int (nI 0), .int (nI 0), .long 0, .long 1, .ref maa, .ref mab, .ref mba, .ref mbb])), (maa, .inl (cs 1, 9, .inr (.inl (lt4 0 0 1 1)))), (mab, .inl (cs 1, 9, .inr (.inl (lt4 1 1 2 1)))), (mba, .inl (cs 1, 9, .inr (.inl (lt4 0 0 0 0)))), (mbb, .inl (cs 1, 9, .inr (.inl (lt4 1 1 1 1))))] := hD
            refine lv_aload_n hx hb dX12_chain_62 rfl (lv_at hl 0 rfl) ?_
            refine xget C hP 0 rfl rfl zuX12 31 (by decide) zw6_4 rfl dX12_chain_63 ?_
            refine lv_if_ne (tgt := 103) hx hb dX12_chain_66 (by decide) (fun c => absurd (by decide) c) (fun _ => ?_)
            refine lv_aload_n hx hb dX12_chain_69 rfl (lv_at hl 0 rfl) ?_
            refine lv_iload_n hx hb dX12_chain_70 rfl (lv_at hl 1 rfl) ?_
            refine lv_iload_n hx hb dX12_chain_71 rfl (lv_at hl 2 rfl) ?_
            refine lv_iconst (v := nI 1) hx hb dX12_chain_72 (by decide) ?_
            refine lv_icmp_le (tgt := 80) hx hb dX12_chain_73 (by decide) (fun _ => ?_) (fun c => absurd (by decide) c)
            refine lv_lconst (v := 1) hx hb dX12_chain_80 (by decide) ?_
            refine xv (wr := []) (xV (As := [.int (nI 0), .long 1]) (rest := []) C (c_X12_goesDown_0_0 l D cs hm ms mkp mtr mas mso mon mot man mst msm mtb mti mfr mbn mbs mde maa mab mba mbb 0 1) kX12_306 hP hD [0, 1, 2, 3, 4] rfl (by decide +kernel) 0 rfl rfl rfl ⟨Nat.le_of_ble_eq_true rfl, Nat.le_of_ble_eq_true rfl⟩ rfl hl.1 rfl (Nat.le_of_ble_eq_true rfl) dX12_chain_81 ⟨Nat.le_of_ble_eq_true rfl, Nat.le_of_ble_eq_true rfl⟩) hP hD hS hA [0, 1, 2, 3, 4] [] rfl rfl (by decide +kernel) (by decide +kernel) ?_
            clear hP hD hS
            try clear locs
            try clear H
            intro u_10 H locs hw_r_9 hP hD hS
            refine W.widen (k := 0) (n := 0) (Nat.le_of_ble_eq_true rfl) (Nat.le_of_ble_eq_true rfl) ?_
            replace hP : va_P D vwCl [(hm, .inr (12, [.ref ms, .ref mkp, .int (nI 0), .ref mtr, .int (nI 4), .int (nI 2), .int (nI 2), .int (nI 3), .int (nI 2), .int (nI 1), .ref mas, .int (nI 0), .int (nI 0), .int (nI 0), .ref mso, .ref mon, .ref mot, .ref man, .int (nI 0), .int (nI 0), .ref mst, .ref msm, .ref mtb, .ref mti, .ref mfr, .ref mbn, .ref mbs, .ref mde, .int (nI 0), .int (nI 0), .int (nI 0), .int (nI 0), .long 0, .long 1, .ref maa, .ref mab, .ref mba, .ref mbb])), (maa, .inl (cs 1, 9, .inr (.inl (lt4 0 0 1 1)))), (mab, .inl (cs 1, 9, .inr (.inl (lt4 1 1 2 1)))), (mba, .inl (cs 1, 9, .inr (.inl (lt4 0 0 0 0)))), (mbb, .inl (cs 1, 9, .inr (.inl (lt4 1 1 1 1))))] H := hP
            replace hD : va_D A [(hm, .inr (12, [.ref ms, .ref mkp, .int (nI 0), .ref mtr, .int (nI 4), .int (nI 2), .int (nI 2), .int (nI 3), .int (nI 2), .int (nI 1), .ref mas, .int (nI 0), .int (nI 0), .int (nI 0), .ref mso, .ref mon, .ref mot, .ref man, .int (nI 0), .int (nI 0), .ref mst, .ref msm, .ref mtb, .ref mti, .ref mfr, .ref mbn, .ref mbs, .ref mde, .int (nI 0), .int (nI 0), .int (nI 0), .int (nI 0), .long 0, .long 1, .ref maa, .ref mab, .ref mba, .ref mbb])), (maa, .inl (cs 1, 9, .inr (.inl (lt4 0 0 1 1)))), (mab, .inl (cs 1, 9, .inr (.inl (lt4 1 1 2 1)))), (mba, .inl (cs 1, 9, .inr (.inl (lt4 0 0 0 0)))), (mbb, .inl (cs 1, 9, .inr (.inl (lt4 1 1 1 1))))] := hD
            refine lv_iload_n hx hb dX12_chain_84 rfl (lv_at hl 2 rfl) ?_
            refine lv_iconst (v := nI 1) hx hb dX12_chain_85 (by decide) ?_
            refine lv_icmp_le (tgt := 103) hx hb dX12_chain_86 (by decide) (fun _ => ?_) (fun c => absurd (by decide) c)
            refine lv_aload_n hx hb dX12_chain_103 rfl (lv_at hl 0 rfl) ?_
            refine xget C hP 0 rfl rfl zuX12 31 (by decide) zw6_4 rfl dX12_chain_104 ?_
            refine lv_if_eq (tgt := 114) hx hb dX12_chain_107 (by decide) (fun _ => ?_) (fun c => absurd (by decide) c)
            refine lv_iload_n hx hb dX12_chain_114 rfl (lv_at hl 2 rfl) ?_
            refine lv_iconst (v := nI 2) hx hb dX12_chain_115 (by decide) ?_
            refine lv_irem hx hb dX12_chain_116 (by decide) ?_
            refine lv_topi (nm_r (e' := nI 0) (by decide) ?_)
            refine lv_if_ne (tgt := 127) hx hb dX12_chain_117 (by decide) (fun c => absurd (by decide) c) (fun _ => ?_)
            refine lv_aload_n hx hb dX12_chain_120 rfl (lv_at hl 0 rfl) ?_
            refine xget C hP 0 rfl rfl zuX12 32 (by decide) zw6_5 rfl dX12_chain_121 ?_
            refine lv_goto (tgt := 131) hx hb dX12_chain_124 (by decide) ?_
            exact xretl C () (Or.inl ⟨0, 0, by decide, by decide, rfl, rfl, rfl⟩) (xP_map hP [] rfl) (hD.sub [] (by decide +kernel) rfl) hS (Nat.le_of_ble_eq_true rfl) (Nat.le_of_ble_eq_true rfl) dX12_chain_131
          · -- split
            replace hP : va_P D vwCl [(hm, .inr (12, [.ref ms, .ref mkp, .int (nI 0), .ref mtr, .int (nI 4), .int (nI 2), .int (nI 2), .int (nI 3), .int (nI 2), .int (nI 1), .ref mas, .int (nI 0), .int (nI 0), .int (nI 0), .ref mso, .ref mon, .ref mot, .ref man, .int (nI 0), .int (nI 0), .ref mst, .ref msm, .ref mtb, .ref mti, .ref mfr, .ref mbn, .ref mbs, .ref mde, .int (nI 0), .int (nI 0), .int (nI 0), .int (nI 0), .long 0, .long 0, .ref maa, .ref mab, .ref mba, .ref mbb])), (maa, .inl (cs 1, 9, .inr (.inl (fun _ => 0)))), (mab, .inl (cs 1, 9, .inr (.inl (fun _ => 0)))), (mba, .inl (cs 1, 9, .inr (.inl (fun _ => 0)))), (mbb, .inl (cs 1, 9, .inr (.inl (fun _ => 0))))] H := hP
            replace hD : va_D A [(hm, .inr (12, [.ref ms, .ref mkp, .int (nI 0), .ref mtr, .int (nI 4), .int (nI 2), .int (nI 2), .int (nI 3), .int (nI 2), .int (nI 1), .ref mas, .int (nI 0), .int (nI 0), .int (nI 0), .ref mso, .ref mon, .ref mot, .ref man, .int (nI 0), .int (nI 0), .ref mst, .ref msm, .ref mtb, .ref mti, .ref mfr, .ref mbn, .ref mbs, .ref mde, .int (nI 0), .int (nI 0), .int (nI 0), .int (nI 0), .long 0, .long 0, .ref maa, .ref mab, .ref mba, .ref mbb])), (maa, .inl (cs 1, 9, .inr (.inl (fun _ => 0)))), (mab, .inl (cs 1, 9, .inr (.inl (fun _ => 0)))), (mba, .inl (cs 1, 9, .inr (.inl (fun _ => 0)))), (mbb, .inl (cs 1, 9, .inr (.inl (fun _ => 0))))] := hD
            refine lv_aload_n hx hb dX12_chain_43 rfl (lv_at hl 0 rfl) ?_
            refine lv_iconst (v := nI 0) hx hb dX12_chain_44 (by decide) ?_
            refine xput C hP hD hS 0 rfl rfl zuX12 tyX12 tyX12_ok nmX12 31 (by decide) zw6_4 rfl rfl rfl (Nat.le_of_ble_eq_true rfl) dX12_chain_45 ?_
            clear hP hD hS
            try clear locs
            try clear H
            intro H locs hP hD hS
            replace hP : va_P D vwCl [(hm, .inr (12, [.ref ms, .ref mkp, .int (nI 0), .ref mtr, .int (nI 4), .int (nI 2), .int (nI 2), .int (nI 3), .int (nI 2), .int (nI 1), .ref mas, .int (nI 0), .int (nI 0), .int (nI 0), .ref mso, .ref mon, .ref mot, .ref man, .int (nI 0), .int (nI 0), .ref mst, .ref msm, .ref mtb, .ref mti, .ref mfr, .ref mbn, .ref mbs, .ref mde, .int (nI 0), .int (nI 0), .int (nI 0), .int (nI 0), .long 0, .long 0, .ref maa, .ref mab, .ref mba, .ref mbb])), (maa, .inl (cs 1, 9, .inr (.inl (fun _ => 0)))), (mab, .inl (cs 1, 9, .inr (.inl (fun _ => 0)))), (mba, .inl (cs 1, 9, .inr (.inl (fun _ => 0)))), (mbb, .inl (cs 1, 9, .inr (.inl (fun _ => 0))))] H := hP
            replace hD : va_D A [(hm, .inr (12, [.ref ms, .ref mkp, .int (nI 0), .ref mtr, .int (nI 4), .int (nI 2), .int (nI 2), .int (nI 3), .int (nI 2), .int (nI 1), .ref mas, .int (nI 0), .int (nI 0), .int (nI 0), .ref mso, .ref mon, .ref mot, .ref man, .int (nI 0), .int (nI 0), .ref mst, .ref msm, .ref mtb, .ref mti, .ref mfr, .ref mbn, .ref mbs, .ref mde, .int (nI 0), .int (nI 0), .int (nI 0), .int (nI 0), .long 0, .long 0, .ref maa, .ref mab, .ref mba, .ref mbb])), (maa, .inl (cs 1, 9, .inr (.inl (fun _ => 0)))), (mab, .inl (cs 1, 9, .inr (.inl (fun _ => 0)))), (mba, .inl (cs 1, 9, .inr (.inl (fun _ => 0)))), (mbb, .inl (cs 1, 9, .inr (.inl (fun _ => 0))))] := hD
            refine lv_aload_n hx hb dX12_chain_48 rfl (lv_at hl 0 rfl) ?_
            refine lv_iload_n hx hb dX12_chain_49 rfl (lv_at hl 2 rfl) ?_
            refine lv_iconst (v := nI 1) hx hb dX12_chain_50 (by decide) ?_
            refine lv_icmp_le (tgt := 58) hx hb dX12_chain_51 (by decide) (fun _ => ?_) (fun c => absurd (by decide) c)
            refine lv_iconst (v := nI 0) hx hb dX12_chain_58 (by decide) ?_
            refine xv (wr := []) (xV (As := [.int (nI 0)]) (rest := []) C (c_X12_laysSteps_0 l D cs hm ms mkp mtr mas mso mon mot man mst msm mtb mti mfr mbn mbs mde maa mab mba mbb 0 0) kX12_302 hP hD [0, 1, 2, 3, 4] rfl (by decide +kernel) 0 rfl rfl rfl ⟨Nat.le_of_ble_eq_true rfl, Nat.le_of_ble_eq_true rfl⟩ rfl hl.1 rfl (Nat.le_of_ble_eq_true rfl) dX12_chain_59 ⟨Nat.le_of_ble_eq_true rfl, Nat.le_of_ble_eq_true rfl⟩) hP hD hS hA [0, 1, 2, 3, 4] [] rfl rfl (by decide +kernel) (by decide +kernel) ?_
            clear hP hD hS
            try clear locs
            try clear H
            intro u_12 H locs hw_r_11 hP hD hS
            refine W.widen (k := 0) (n := 0) (Nat.le_of_ble_eq_true rfl) (Nat.le_of_ble_eq_true rfl) ?_
            replace hP : va_P D vwCl [(hm, .inr (12, [.ref ms, .ref mkp, .int (nI 0), .ref mtr, .int (nI 4), .int (nI 2), .int (nI 2), .int (nI 3), .int (nI 2), .int (nI 1), .ref mas, .int (nI 0), .int (nI 0), .int (nI 0), .ref mso, .ref mon, .ref mot, .ref man, .int (nI 0), .int (nI 0), .ref mst, .ref msm, .ref mtb, .ref mti, .ref mfr, .ref mbn, .ref mbs, .ref mde, .int (nI 0), .int (nI 0), .int (nI 0), .int (nI 0), .long 0, .long 1, .ref maa, .ref mab, .ref mba, .ref mbb])), (maa, .inl (cs 1, 9, .inr (.inl (lt4 0 0 1 1)))), (mab, .inl (cs 1, 9, .inr (.inl (lt4 1 1 2 1)))), (mba, .inl (cs 1, 9, .inr (.inl (lt4 0 0 0 0)))), (mbb, .inl (cs 1, 9, .inr (.inl (lt4 1 1 1 1))))] H := hP
            replace hD : va_D A [(hm, .inr (12, [.ref ms, .ref mkp, .int (nI 0), .ref mtr, .int (nI 4), .int (nI 2), .int (nI 2), .int (nI 3), .int (nI 2), .int (nI 1), .ref mas, .int (nI 0), .int (nI 0), .int (nI 0), .ref mso, .ref mon, .ref mot, .ref man, .int (nI 0), .int (nI 0), .ref mst, .ref msm, .ref mtb, .ref mti, .ref mfr, .ref mbn, .ref mbs, .ref mde, .int (nI 0), .int (nI 0), .int (nI 0), .int (nI 0), .long 0, .long 1, .ref maa, .ref mab, .ref mba, .ref mbb])), (maa, .inl (cs 1, 9, .inr (.inl (lt4 0 0 1 1)))), (mab, .inl (cs 1, 9, .inr (.inl (lt4 1 1 2 1)))), (mba, .inl (cs 1, 9, .inr (.inl (lt4 0 0 0 0)))), (mbb, .inl (cs 1, 9, .inr (.inl (lt4 1 1 1 1))))] := hD
            refine lv_aload_n hx hb dX12_chain_62 rfl (lv_at hl 0 rfl) ?_
            refine xget C hP 0 rfl rfl zuX12 31 (by decide) zw6_4 rfl dX12_chain_63 ?_
            refine lv_if_ne (tgt := 103) hx hb dX12_chain_66 (by decide) (fun c => absurd (by decide) c) (fun _ => ?_)
            refine lv_aload_n hx hb dX12_chain_69 rfl (lv_at hl 0 rfl) ?_
            refine lv_iload_n hx hb dX12_chain_70 rfl (lv_at hl 1 rfl) ?_
            refine lv_iload_n hx hb dX12_chain_71 rfl (lv_at hl 2 rfl) ?_
            refine lv_iconst (v := nI 1) hx hb dX12_chain_72 (by decide) ?_
            refine lv_icmp_le (tgt := 80) hx hb dX12_chain_73 (by decide) (fun _ => ?_) (fun c => absurd (by decide) c)
            refine lv_lconst (v := 1) hx hb dX12_chain_80 (by decide) ?_
            refine xv (wr := []) (xV (As := [.int (nI 1), .long 1]) (rest := []) C (c_X12_goesDown_0_1 l D cs hm ms mkp mtr mas mso mon mot man mst msm mtb mti mfr mbn mbs mde maa mab mba mbb 0 1) kX12_306 hP hD [0, 1, 2, 3, 4] rfl (by decide +kernel) 0 rfl rfl rfl ⟨Nat.le_of_ble_eq_true rfl, Nat.le_of_ble_eq_true rfl⟩ rfl hl.1 rfl (Nat.le_of_ble_eq_true rfl) dX12_chain_81 ⟨Nat.le_of_ble_eq_true rfl, Nat.le_of_ble_eq_true rfl⟩) hP hD hS hA [0, 1, 2, 3, 4] [] rfl rfl (by decide +kernel) (by decide +kernel) ?_
            clear hP hD hS
            try clear locs
            try clear H
            intro u_14 H locs hw_r_13 hP hD hS
            refine W.widen (k := 0) (n := 0) (Nat.le_of_ble_eq_true rfl) (Nat.le_of_ble_eq_true rfl) ?_
            replace hP : va_P D vwCl [(hm, .inr (12, [.ref ms, .ref mkp, .int (nI 0), .ref mtr, .int (nI 4), .int (nI 2), .int (nI 2), .int (nI 3), .int (nI 2), .int (nI 1), .ref mas, .int (nI 0), .int (nI 0), .int (nI 0), .ref mso, .ref mon, .ref mot, .ref man, .int (nI 0), .int (nI 0), .ref mst, .ref msm, .ref mtb, .ref mti, .ref mfr, .ref mbn, .ref mbs, .ref mde, .int (nI 0), .int (nI 0), .int (nI 0), .int (nI 0), .long 0, .long 1, .ref maa, .ref mab, .ref mba, .ref mbb])), (maa, .inl (cs 1, 9, .inr (.inl (lt4 0 0 1 1)))), (mab, .inl (cs 1, 9, .inr (.inl (lt4 1 1 2 1)))), (mba, .inl (cs 1, 9, .inr (.inl (lt4 0 0 0 0)))), (mbb, .inl (cs 1, 9, .inr (.inl (lt4 1 1 1 1))))] H := hP
            replace hD : va_D A [(hm, .inr (12, [.ref ms, .ref mkp, .int (nI 0), .ref mtr, .int (nI 4), .int (nI 2), .int (nI 2), .int (nI 3), .int (nI 2), .int (nI 1), .ref mas, .int (nI 0), .int (nI 0), .int (nI 0), .ref mso, .ref mon, .ref mot, .ref man, .int (nI 0), .int (nI 0), .ref mst, .ref msm, .ref mtb, .ref mti, .ref mfr, .ref mbn, .ref mbs, .ref mde, .int (nI 0), .int (nI 0), .int (nI 0), .int (nI 0), .long 0, .long 1, .ref maa, .ref mab, .ref mba, .ref mbb])), (maa, .inl (cs 1, 9, .inr (.inl (lt4 0 0 1 1)))), (mab, .inl (cs 1, 9, .inr (.inl (lt4 1 1 2 1)))), (mba, .inl (cs 1, 9, .inr (.inl (lt4 0 0 0 0)))), (mbb, .inl (cs 1, 9, .inr (.inl (lt4 1 1 1 1))))] := hD
            refine lv_iload_n hx hb dX12_chain_84 rfl (lv_at hl 2 rfl) ?_
            refine lv_iconst (v := nI 1) hx hb dX12_chain_85 (by decide) ?_
            refine lv_icmp_le (tgt := 103) hx hb dX12_chain_86 (by decide) (fun _ => ?_) (fun c => absurd (by decide) c)
            refine lv_aload_n hx hb dX12_chain_103 rfl (lv_at hl 0 rfl) ?_
            refine xget C hP 0 rfl rfl zuX12 31 (by decide) zw6_4 rfl dX12_chain_104 ?_
            refine lv_if_eq (tgt := 114) hx hb dX12_chain_107 (by decide) (fun _ => ?_) (fun c => absurd (by decide) c)
            refine lv_iload_n hx hb dX12_chain_114 rfl (lv_at hl 2 rfl) ?_
            refine lv_iconst (v := nI 2) hx hb dX12_chain_115 (by decide) ?_
            refine lv_irem hx hb dX12_chain_116 (by decide) ?_
            refine lv_topi (nm_r (e' := nI 0) (by decide) ?_)
            refine lv_if_ne (tgt := 127) hx hb dX12_chain_117 (by decide) (fun c => absurd (by decide) c) (fun _ => ?_)
            refine lv_aload_n hx hb dX12_chain_120 rfl (lv_at hl 0 rfl) ?_
            refine xget C hP 0 rfl rfl zuX12 32 (by decide) zw6_5 rfl dX12_chain_121 ?_
            refine lv_goto (tgt := 131) hx hb dX12_chain_124 (by decide) ?_
            exact xretl C () (Or.inl ⟨1, 0, by decide, by decide, rfl, rfl, rfl⟩) (xP_map hP [] rfl) (hD.sub [] (by decide +kernel) rfl) hS (Nat.le_of_ble_eq_true rfl) (Nat.le_of_ble_eq_true rfl) dX12_chain_131
          · -- split
            replace hP : va_P D vwCl [(hm, .inr (12, [.ref ms, .ref mkp, .int (nI 0), .ref mtr, .int (nI 4), .int (nI 2), .int (nI 2), .int (nI 3), .int (nI 2), .int (nI 1), .ref mas, .int (nI 0), .int (nI 0), .int (nI 0), .ref mso, .ref mon, .ref mot, .ref man, .int (nI 0), .int (nI 0), .ref mst, .ref msm, .ref mtb, .ref mti, .ref mfr, .ref mbn, .ref mbs, .ref mde, .int (nI 0), .int (nI 0), .int (nI 0), .int (nI 0), .long 0, .long 0, .ref maa, .ref mab, .ref mba, .ref mbb])), (maa, .inl (cs 1, 9, .inr (.inl (fun _ => 0)))), (mab, .inl (cs 1, 9, .inr (.inl (fun _ => 0)))), (mba, .inl (cs 1, 9, .inr (.inl (fun _ => 0)))), (mbb, .inl (cs 1, 9, .inr (.inl (fun _ => 0))))] H := hP
            replace hD : va_D A [(hm, .inr (12, [.ref ms, .ref mkp, .int (nI 0), .ref mtr, .int (nI 4), .int (nI 2), .int (nI 2), .int (nI 3), .int (nI 2), .int (nI 1), .ref mas, .int (nI 0), .int (nI 0), .int (nI 0), .ref mso, .ref mon, .ref mot, .ref man, .int (nI 0), .int (nI 0), .ref mst, .ref msm, .ref mtb, .ref mti, .ref mfr, .ref mbn, .ref mbs, .ref mde, .int (nI 0), .int (nI 0), .int (nI 0), .int (nI 0), .long 0, .long 0, .ref maa, .ref mab, .ref mba, .ref mbb])), (maa, .inl (cs 1, 9, .inr (.inl (fun _ => 0)))), (mab, .inl (cs 1, 9, .inr (.inl (fun _ => 0)))), (mba, .inl (cs 1, 9, .inr (.inl (fun _ => 0)))), (mbb, .inl (cs 1, 9, .inr (.inl (fun _ => 0))))] := hD
            refine lv_aload_n hx hb dX12_chain_43 rfl (lv_at hl 0 rfl) ?_
            refine lv_iconst (v := nI 0) hx hb dX12_chain_44 (by decide) ?_
            refine xput C hP hD hS 0 rfl rfl zuX12 tyX12 tyX12_ok nmX12 31 (by decide) zw6_4 rfl rfl rfl (Nat.le_of_ble_eq_true rfl) dX12_chain_45 ?_
            clear hP hD hS
            try clear locs
            try clear H
            intro H locs hP hD hS
            replace hP : va_P D vwCl [(hm, .inr (12, [.ref ms, .ref mkp, .int (nI 0), .ref mtr, .int (nI 4), .int (nI 2), .int (nI 2), .int (nI 3), .int (nI 2), .int (nI 1), .ref mas, .int (nI 0), .int (nI 0), .int (nI 0), .ref mso, .ref mon, .ref mot, .ref man, .int (nI 0), .int (nI 0), .ref mst, .ref msm, .ref mtb, .ref mti, .ref mfr, .ref mbn, .ref mbs, .ref mde, .int (nI 0), .int (nI 0), .int (nI 0), .int (nI 0), .long 0, .long 0, .ref maa, .ref mab, .ref mba, .ref mbb])), (maa, .inl (cs 1, 9, .inr (.inl (fun _ => 0)))), (mab, .inl (cs 1, 9, .inr (.inl (fun _ => 0)))), (mba, .inl (cs 1, 9, .inr (.inl (fun _ => 0)))), (mbb, .inl (cs 1, 9, .inr (.inl (fun _ => 0))))] H := hP
            replace hD : va_D A [(hm, .inr (12, [.ref ms, .ref mkp, .int (nI 0), .ref mtr, .int (nI 4), .int (nI 2), .int (nI 2), .int (nI 3), .int (nI 2), .int (nI 1), .ref mas, .int (nI 0), .int (nI 0), .int (nI 0), .ref mso, .ref mon, .ref mot, .ref man, .int (nI 0), .int (nI 0), .ref mst, .ref msm, .ref mtb, .ref mti, .ref mfr, .ref mbn, .ref mbs, .ref mde, .int (nI 0), .int (nI 0), .int (nI 0), .int (nI 0), .long 0, .long 0, .ref maa, .ref mab, .ref mba, .ref mbb])), (maa, .inl (cs 1, 9, .inr (.inl (fun _ => 0)))), (mab, .inl (cs 1, 9, .inr (.inl (fun _ => 0)))), (mba, .inl (cs 1, 9, .inr (.inl (fun _ => 0)))), (mbb, .inl (cs 1, 9, .inr (.inl (fun _ => 0))))] := hD
            refine lv_aload_n hx hb dX12_chain_48 rfl (lv_at hl 0 rfl) ?_
            refine lv_iload_n hx hb dX12_chain_49 rfl (lv_at hl 2 rfl) ?_
            refine lv_iconst (v := nI 1) hx hb dX12_chain_50 (by decide) ?_
            refine lv_icmp_le (tgt := 58) hx hb dX12_chain_51 (by decide) (fun _ => ?_) (fun c => absurd (by decide) c)
            refine lv_iconst (v := nI 0) hx hb dX12_chain_58 (by decide) ?_
            refine xv (wr := []) (xV (As := [.int (nI 0)]) (rest := []) C (c_X12_laysSteps_0 l D cs hm ms mkp mtr mas mso mon mot man mst msm mtb mti mfr mbn mbs mde maa mab mba mbb 0 0) kX12_302 hP hD [0, 1, 2, 3, 4] rfl (by decide +kernel) 0 rfl rfl rfl ⟨Nat.le_of_ble_eq_true rfl, Nat.le_of_ble_eq_true rfl⟩ rfl hl.1 rfl (Nat.le_of_ble_eq_true rfl) dX12_chain_59 ⟨Nat.le_of_ble_eq_true rfl, Nat.le_of_ble_eq_true rfl⟩) hP hD hS hA [0, 1, 2, 3, 4] [] rfl rfl (by decide +kernel) (by decide +kernel) ?_
            clear hP hD hS
            try clear locs
            try clear H
            intro u_16 H locs hw_r_15 hP hD hS
            refine W.widen (k := 0) (n := 0) (Nat.le_of_ble_eq_true rfl) (Nat.le_of_ble_eq_true rfl) ?_
            replace hP : va_P D vwCl [(hm, .inr (12, [.ref ms, .ref mkp, .int (nI 0), .ref mtr, .int (nI 4), .int (nI 2), .int (nI 2), .int (nI 3), .int (nI 2), .int (nI 1), .ref mas, .int (nI 0), .int (nI 0), .int (nI 0), .ref mso, .ref mon, .ref mot, .ref man, .int (nI 0), .int (nI 0), .ref mst, .ref msm, .ref mtb, .ref mti, .ref mfr, .ref mbn, .ref mbs, .ref mde, .int (nI 0), .int (nI 0), .int (nI 0), .int (nI 0), .long 0, .long 1, .ref maa, .ref mab, .ref mba, .ref mbb])), (maa, .inl (cs 1, 9, .inr (.inl (lt4 0 0 1 1)))), (mab, .inl (cs 1, 9, .inr (.inl (lt4 1 1 2 1)))), (mba, .inl (cs 1, 9, .inr (.inl (lt4 0 0 0 0)))), (mbb, .inl (cs 1, 9, .inr (.inl (lt4 1 1 1 1))))] H := hP
            replace hD : va_D A [(hm, .inr (12, [.ref ms, .ref mkp, .int (nI 0), .ref mtr, .int (nI 4), .int (nI 2), .int (nI 2), .int (nI 3), .int (nI 2), .int (nI 1), .ref mas, .int (nI 0), .int (nI 0), .int (nI 0), .ref mso, .ref mon, .ref mot, .ref man, .int (nI 0), .int (nI 0), .ref mst, .ref msm, .ref mtb, .ref mti, .ref mfr, .ref mbn, .ref mbs, .ref mde, .int (nI 0), .int (nI 0), .int (nI 0), .int (nI 0), .long 0, .long 1, .ref maa, .ref mab, .ref mba, .ref mbb])), (maa, .inl (cs 1, 9, .inr (.inl (lt4 0 0 1 1)))), (mab, .inl (cs 1, 9, .inr (.inl (lt4 1 1 2 1)))), (mba, .inl (cs 1, 9, .inr (.inl (lt4 0 0 0 0)))), (mbb, .inl (cs 1, 9, .inr (.inl (lt4 1 1 1 1))))] := hD
            refine lv_aload_n hx hb dX12_chain_62 rfl (lv_at hl 0 rfl) ?_
            refine xget C hP 0 rfl rfl zuX12 31 (by decide) zw6_4 rfl dX12_chain_63 ?_
            refine lv_if_ne (tgt := 103) hx hb dX12_chain_66 (by decide) (fun c => absurd (by decide) c) (fun _ => ?_)
            refine lv_aload_n hx hb dX12_chain_69 rfl (lv_at hl 0 rfl) ?_
            refine lv_iload_n hx hb dX12_chain_70 rfl (lv_at hl 1 rfl) ?_
            refine lv_iload_n hx hb dX12_chain_71 rfl (lv_at hl 2 rfl) ?_
            refine lv_iconst (v := nI 1) hx hb dX12_chain_72 (by decide) ?_
            refine lv_icmp_le (tgt := 80) hx hb dX12_chain_73 (by decide) (fun _ => ?_) (fun c => absurd (by decide) c)
            refine lv_lconst (v := 1) hx hb dX12_chain_80 (by decide) ?_
            refine xv (wr := []) (xV (As := [.int (nI 2), .long 1]) (rest := []) C (c_X12_goesDown_0_2 l D cs hm ms mkp mtr mas mso mon mot man mst msm mtb mti mfr mbn mbs mde maa mab mba mbb 0 1) kX12_306 hP hD [0, 1, 2, 3, 4] rfl (by decide +kernel) 0 rfl rfl rfl ⟨Nat.le_of_ble_eq_true rfl, Nat.le_of_ble_eq_true rfl⟩ rfl hl.1 rfl (Nat.le_of_ble_eq_true rfl) dX12_chain_81 ⟨Nat.le_of_ble_eq_true rfl, Nat.le_of_ble_eq_true rfl⟩) hP hD hS hA [0, 1, 2, 3, 4] [] rfl rfl (by decide +kernel) (by decide +kernel) ?_
            clear hP hD hS
            try clear locs
            try clear H
            intro u_18 H locs hw_r_17 hP hD hS
            refine W.widen (k := 0) (n := 0) (Nat.le_of_ble_eq_true rfl) (Nat.le_of_ble_eq_true rfl) ?_
            replace hP : va_P D vwCl [(hm, .inr (12, [.ref ms, .ref mkp, .int (nI 0), .ref mtr, .int (nI 4), .int (nI 2), .int (nI 2), .int (nI 3), .int (nI 2), .int (nI 1), .ref mas, .int (nI 0), .int (nI 0), .int (nI 0), .ref mso, .ref mon, .ref mot, .ref man, .int (nI 0), .int (nI 0), .ref mst, .ref msm, .ref mtb, .ref mti, .ref mfr, .ref mbn, .ref mbs, .ref mde, .int (nI 0), .int (nI 0), .int (nI 0), .int (nI 0), .long 1, .long 2, .ref maa, .ref mab, .ref mba, .ref mbb])), (maa, .inl (cs 1, 9, .inr (.inl (lt4 0 0 1 1)))), (mab, .inl (cs 1, 9, .inr (.inl (lt4 1 1 2 1)))), (mba, .inl (cs 1, 9, .inr (.inl (lt4 0 0 0 0)))), (mbb, .inl (cs 1, 9, .inr (.inl (lt4 1 1 1 1))))] H := hP
            replace hD : va_D A [(hm, .inr (12, [.ref ms, .ref mkp, .int (nI 0), .ref mtr, .int (nI 4), .int (nI 2), .int (nI 2), .int (nI 3), .int (nI 2), .int (nI 1), .ref mas, .int (nI 0), .int (nI 0), .int (nI 0), .ref mso, .ref mon, .ref mot, .ref man, .int (nI 0), .int (nI 0), .ref mst, .ref msm, .ref mtb, .ref mti, .ref mfr, .ref mbn, .ref mbs, .ref mde, .int (nI 0), .int (nI 0), .int (nI 0), .int (nI 0), .long 1, .long 2, .ref maa, .ref mab, .ref mba, .ref mbb])), (maa, .inl (cs 1, 9, .inr (.inl (lt4 0 0 1 1)))), (mab, .inl (cs 1, 9, .inr (.inl (lt4 1 1 2 1)))), (mba, .inl (cs 1, 9, .inr (.inl (lt4 0 0 0 0)))), (mbb, .inl (cs 1, 9, .inr (.inl (lt4 1 1 1 1))))] := hD
            refine lv_iload_n hx hb dX12_chain_84 rfl (lv_at hl 2 rfl) ?_
            refine lv_iconst (v := nI 1) hx hb dX12_chain_85 (by decide) ?_
            refine lv_icmp_le (tgt := 103) hx hb dX12_chain_86 (by decide) (fun _ => ?_) (fun c => absurd (by decide) c)
            refine lv_aload_n hx hb dX12_chain_103 rfl (lv_at hl 0 rfl) ?_
            refine xget C hP 0 rfl rfl zuX12 31 (by decide) zw6_4 rfl dX12_chain_104 ?_
            refine lv_if_eq (tgt := 114) hx hb dX12_chain_107 (by decide) (fun _ => ?_) (fun c => absurd (by decide) c)
            refine lv_iload_n hx hb dX12_chain_114 rfl (lv_at hl 2 rfl) ?_
            refine lv_iconst (v := nI 2) hx hb dX12_chain_115 (by decide) ?_
            refine lv_irem hx hb dX12_chain_116 (by decide) ?_
            refine lv_topi (nm_r (e' := nI 0) (by decide) ?_)
            refine lv_if_ne (tgt := 127) hx hb dX12_chain_117 (by decide) (fun c => absurd (by decide) c) (fun _ => ?_)
            refine lv_aload_n hx hb dX12_chain_120 rfl (lv_at hl 0 rfl) ?_
            refine xget C hP 0 rfl rfl zuX12 32 (by decide) zw6_5 rfl dX12_chain_121 ?_
            refine lv_goto (tgt := 131) hx hb dX12_chain_124 (by decide) ?_
            exact xretl C () (Or.inl ⟨2, 0, by decide, by decide, rfl, rfl, rfl⟩) (xP_map hP [] rfl) (hD.sub [] (by decide +kernel) rfl) hS (Nat.le_of_ble_eq_true rfl) (Nat.le_of_ble_eq_true rfl) dX12_chain_131
          · -- split
            replace hP : va_P D vwCl [(hm, .inr (12, [.ref ms, .ref mkp, .int (nI 0), .ref mtr, .int (nI 4), .int (nI 2), .int (nI 2), .int (nI 3), .int (nI 2), .int (nI 1), .ref mas, .int (nI 0), .int (nI 0), .int (nI 0), .ref mso, .ref mon, .ref mot, .ref man, .int (nI 0), .int (nI 0), .ref mst, .ref msm, .ref mtb, .ref mti, .ref mfr, .ref mbn, .ref mbs, .ref mde, .int (nI 0), .int (nI 0), .int (nI 0), .int (nI 0), .long 0, .long 0, .ref maa, .ref mab, .ref mba, .ref mbb])), (maa, .inl (cs 1, 9, .inr (.inl (fun _ => 0)))), (mab, .inl (cs 1, 9, .inr (.inl (fun _ => 0)))), (mba, .inl (cs 1, 9, .inr (.inl (fun _ => 0)))), (mbb, .inl (cs 1, 9, .inr (.inl (fun _ => 0))))] H := hP
            replace hD : va_D A [(hm, .inr (12, [.ref ms, .ref mkp, .int (nI 0), .ref mtr, .int (nI 4), .int (nI 2), .int (nI 2), .int (nI 3), .int (nI 2), .int (nI 1), .ref mas, .int (nI 0), .int (nI 0), .int (nI 0), .ref mso, .ref mon, .ref mot, .ref man, .int (nI 0), .int (nI 0), .ref mst, .ref msm, .ref mtb, .ref mti, .ref mfr, .ref mbn, .ref mbs, .ref mde, .int (nI 0), .int (nI 0), .int (nI 0), .int (nI 0), .long 0, .long 0, .ref maa, .ref mab, .ref mba, .ref mbb])), (maa, .inl (cs 1, 9, .inr (.inl (fun _ => 0)))), (mab, .inl (cs 1, 9, .inr (.inl (fun _ => 0)))), (mba, .inl (cs 1, 9, .inr (.inl (fun _ => 0)))), (mbb, .inl (cs 1, 9, .inr (.inl (fun _ => 0))))] := hD
            refine lv_aload_n hx hb dX12_chain_43 rfl (lv_at hl 0 rfl) ?_
            refine lv_iconst (v := nI 0) hx hb dX12_chain_44 (by decide) ?_
            refine xput C hP hD hS 0 rfl rfl zuX12 tyX12 tyX12_ok nmX12 31 (by decide) zw6_4 rfl rfl rfl (Nat.le_of_ble_eq_true rfl) dX12_chain_45 ?_
            clear hP hD hS
            try clear locs
            try clear H
            intro H locs hP hD hS
            replace hP : va_P D vwCl [(hm, .inr (12, [.ref ms, .ref mkp, .int (nI 0), .ref mtr, .int (nI 4), .int (nI 2), .int (nI 2), .int (nI 3), .int (nI 2), .int (nI 1), .ref mas, .int (nI 0), .int (nI 0), .int (nI 0), .ref mso, .ref mon, .ref mot, .ref man, .int (nI 0), .int (nI 0), .ref mst, .ref msm, .ref mtb, .ref mti, .ref mfr, .ref mbn, .ref mbs, .ref mde, .int (nI 0), .int (nI 0), .int (nI 0), .int (nI 0), .long 0, .long 0, .ref maa, .ref mab, .ref mba, .ref mbb])), (maa, .inl (cs 1, 9, .inr (.inl (fun _ => 0)))), (mab, .inl (cs 1, 9, .inr (.inl (fun _ => 0)))), (mba, .inl (cs 1, 9, .inr (.inl (fun _ => 0)))), (mbb, .inl (cs 1, 9, .inr (.inl (fun _ => 0))))] H := hP
            replace hD : va_D A [(hm, .inr (12, [.ref ms, .ref mkp, .int (nI 0), .ref mtr, .int (nI 4), .int (nI 2), .int (nI 2), .int (nI 3), .int (nI 2), .int (nI 1), .ref mas, .int (nI 0), .int (nI 0), .int (nI 0), .ref mso, .ref mon, .ref mot, .ref man, .int (nI 0), .int (nI 0), .ref mst, .ref msm, .ref mtb, .ref mti, .ref mfr, .ref mbn, .ref mbs, .ref mde, .int (nI 0), .int (nI 0), .int (nI 0), .int (nI 0), .long 0, .long 0, .ref maa, .ref mab, .ref mba, .ref mbb])), (maa, .inl (cs 1, 9, .inr (.inl (fun _ => 0)))), (mab, .inl (cs 1, 9, .inr (.inl (fun _ => 0)))), (mba, .inl (cs 1, 9, .inr (.inl (fun _ => 0)))), (mbb, .inl (cs 1, 9, .inr (.inl (fun _ => 0))))] := hD
            refine lv_aload_n hx hb dX12_chain_48 rfl (lv_at hl 0 rfl) ?_
            refine lv_iload_n hx hb dX12_chain_49 rfl (lv_at hl 2 rfl) ?_
            refine lv_iconst (v := nI 1) hx hb dX12_chain_50 (by decide) ?_
            refine lv_icmp_le (tgt := 58) hx hb dX12_chain_51 (by decide) (fun _ => ?_) (fun c => absurd (by decide) c)
            refine lv_iconst (v := nI 0) hx hb dX12_chain_58 (by decide) ?_
            refine xv (wr := []) (xV (As := [.int (nI 0)]) (rest := []) C (c_X12_laysSteps_0 l D cs hm ms mkp mtr mas mso mon mot man mst msm mtb mti mfr mbn mbs mde maa mab mba mbb 0 0) kX12_302 hP hD [0, 1, 2, 3, 4] rfl (by decide +kernel) 0 rfl rfl rfl ⟨Nat.le_of_ble_eq_true rfl, Nat.le_of_ble_eq_true rfl⟩ rfl hl.1 rfl (Nat.le_of_ble_eq_true rfl) dX12_chain_59 ⟨Nat.le_of_ble_eq_true rfl, Nat.le_of_ble_eq_true rfl⟩) hP hD hS hA [0, 1, 2, 3, 4] [] rfl rfl (by decide +kernel) (by decide +kernel) ?_
            clear hP hD hS
            try clear locs
            try clear H
            intro u_20 H locs hw_r_19 hP hD hS
            refine W.widen (k := 0) (n := 0) (Nat.le_of_ble_eq_true rfl) (Nat.le_of_ble_eq_true rfl) ?_
            replace hP : va_P D vwCl [(hm, .inr (12, [.ref ms, .ref mkp, .int (nI 0), .ref mtr, .int (nI 4), .int (nI 2), .int (nI 2), .int (nI 3), .int (nI 2), .int (nI 1), .ref mas, .int (nI 0), .int (nI 0), .int (nI 0), .ref mso, .ref mon, .ref mot, .ref man, .int (nI 0), .int (nI 0), .ref mst, .ref msm, .ref mtb, .ref mti, .ref mfr, .ref mbn, .ref mbs, .ref mde, .int (nI 0), .int (nI 0), .int (nI 0), .int (nI 0), .long 0, .long 1, .ref maa, .ref mab, .ref mba, .ref mbb])), (maa, .inl (cs 1, 9, .inr (.inl (lt4 0 0 1 1)))), (mab, .inl (cs 1, 9, .inr (.inl (lt4 1 1 2 1)))), (mba, .inl (cs 1, 9, .inr (.inl (lt4 0 0 0 0)))), (mbb, .inl (cs 1, 9, .inr (.inl (lt4 1 1 1 1))))] H := hP
            replace hD : va_D A [(hm, .inr (12, [.ref ms, .ref mkp, .int (nI 0), .ref mtr, .int (nI 4), .int (nI 2), .int (nI 2), .int (nI 3), .int (nI 2), .int (nI 1), .ref mas, .int (nI 0), .int (nI 0), .int (nI 0), .ref mso, .ref mon, .ref mot, .ref man, .int (nI 0), .int (nI 0), .ref mst, .ref msm, .ref mtb, .ref mti, .ref mfr, .ref mbn, .ref mbs, .ref mde, .int (nI 0), .int (nI 0), .int (nI 0), .int (nI 0), .long 0, .long 1, .ref maa, .ref mab, .ref mba, .ref mbb])), (maa, .inl (cs 1, 9, .inr (.inl (lt4 0 0 1 1)))), (mab, .inl (cs 1, 9, .inr (.inl (lt4 1 1 2 1)))), (mba, .inl (cs 1, 9, .inr (.inl (lt4 0 0 0 0)))), (mbb, .inl (cs 1, 9, .inr (.inl (lt4 1 1 1 1))))] := hD
            refine lv_aload_n hx hb dX12_chain_62 rfl (lv_at hl 0 rfl) ?_
            refine xget C hP 0 rfl rfl zuX12 31 (by decide) zw6_4 rfl dX12_chain_63 ?_
            refine lv_if_ne (tgt := 103) hx hb dX12_chain_66 (by decide) (fun c => absurd (by decide) c) (fun _ => ?_)
            refine lv_aload_n hx hb dX12_chain_69 rfl (lv_at hl 0 rfl) ?_
            refine lv_iload_n hx hb dX12_chain_70 rfl (lv_at hl 1 rfl) ?_
            refine lv_iload_n hx hb dX12_chain_71 rfl (lv_at hl 2 rfl) ?_
            refine lv_iconst (v := nI 1) hx hb dX12_chain_72 (by decide) ?_
            refine lv_icmp_le (tgt := 80) hx hb dX12_chain_73 (by decide) (fun _ => ?_) (fun c => absurd (by decide) c)
            refine lv_lconst (v := 1) hx hb dX12_chain_80 (by decide) ?_
            refine xv (wr := []) (xV (As := [.int (nI 3), .long 1]) (rest := []) C (c_X12_goesDown_0_3 l D cs hm ms mkp mtr mas mso mon mot man mst msm mtb mti mfr mbn mbs mde maa mab mba mbb 0 1) kX12_306 hP hD [0, 1, 2, 3, 4] rfl (by decide +kernel) 0 rfl rfl rfl ⟨Nat.le_of_ble_eq_true rfl, Nat.le_of_ble_eq_true rfl⟩ rfl hl.1 rfl (Nat.le_of_ble_eq_true rfl) dX12_chain_81 ⟨Nat.le_of_ble_eq_true rfl, Nat.le_of_ble_eq_true rfl⟩) hP hD hS hA [0, 1, 2, 3, 4] [] rfl rfl (by decide +kernel) (by decide +kernel) ?_
            clear hP hD hS
            try clear locs
            try clear H
            intro u_22 H locs hw_r_21 hP hD hS
            refine W.widen (k := 0) (n := 0) (Nat.le_of_ble_eq_true rfl) (Nat.le_of_ble_eq_true rfl) ?_
            replace hP : va_P D vwCl [(hm, .inr (12, [.ref ms, .ref mkp, .int (nI 0), .ref mtr, .int (nI 4), .int (nI 2), .int (nI 2), .int (nI 3), .int (nI 2), .int (nI 1), .ref mas, .int (nI 0), .int (nI 0), .int (nI 0), .ref mso, .ref mon, .ref mot, .ref man, .int (nI 0), .int (nI 0), .ref mst, .ref msm, .ref mtb, .ref mti, .ref mfr, .ref mbn, .ref mbs, .ref mde, .int (nI 0), .int (nI 0), .int (nI 0), .int (nI 0), .long 1, .long 1, .ref maa, .ref mab, .ref mba, .ref mbb])), (maa, .inl (cs 1, 9, .inr (.inl (lt4 0 0 1 1)))), (mab, .inl (cs 1, 9, .inr (.inl (lt4 1 1 2 1)))), (mba, .inl (cs 1, 9, .inr (.inl (lt4 0 0 0 0)))), (mbb, .inl (cs 1, 9, .inr (.inl (lt4 1 1 1 1))))] H := hP
            replace hD : va_D A [(hm, .inr (12, [.ref ms, .ref mkp, .int (nI 0), .ref mtr, .int (nI 4), .int (nI 2), .int (nI 2), .int (nI 3), .int (nI 2), .int (nI 1), .ref mas, .int (nI 0), .int (nI 0), .int (nI 0), .ref mso, .ref mon, .ref mot, .ref man, .int (nI 0), .int (nI 0), .ref mst, .ref msm, .ref mtb, .ref mti, .ref mfr, .ref mbn, .ref mbs, .ref mde, .int (nI 0), .int (nI 0), .int (nI 0), .int (nI 0), .long 1, .long 1, .ref maa, .ref mab, .ref mba, .ref mbb])), (maa, .inl (cs 1, 9, .inr (.inl (lt4 0 0 1 1)))), (mab, .inl (cs 1, 9, .inr (.inl (lt4 1 1 2 1)))), (mba, .inl (cs 1, 9, .inr (.inl (lt4 0 0 0 0)))), (mbb, .inl (cs 1, 9, .inr (.inl (lt4 1 1 1 1))))] := hD
            refine lv_iload_n hx hb dX12_chain_84 rfl (lv_at hl 2 rfl) ?_
            refine lv_iconst (v := nI 1) hx hb dX12_chain_85 (by decide) ?_
            refine lv_icmp_le (tgt := 103) hx hb dX12_chain_86 (by decide) (fun _ => ?_) (fun c => absurd (by decide) c)
            refine lv_aload_n hx hb dX12_chain_103 rfl (lv_at hl 0 rfl) ?_
            refine xget C hP 0 rfl rfl zuX12 31 (by decide) zw6_4 rfl dX12_chain_104 ?_
            refine lv_if_eq (tgt := 114) hx hb dX12_chain_107 (by decide) (fun _ => ?_) (fun c => absurd (by decide) c)
            refine lv_iload_n hx hb dX12_chain_114 rfl (lv_at hl 2 rfl) ?_
            refine lv_iconst (v := nI 2) hx hb dX12_chain_115 (by decide) ?_
            refine lv_irem hx hb dX12_chain_116 (by decide) ?_
            refine lv_topi (nm_r (e' := nI 0) (by decide) ?_)
            refine lv_if_ne (tgt := 127) hx hb dX12_chain_117 (by decide) (fun c => absurd (by decide) c) (fun _ => ?_)
            refine lv_aload_n hx hb dX12_chain_120 rfl (lv_at hl 0 rfl) ?_
            refine xget C hP 0 rfl rfl zuX12 32 (by decide) zw6_5 rfl dX12_chain_121 ?_
            refine lv_goto (tgt := 131) hx hb dX12_chain_124 (by decide) ?_
            exact xretl C () (Or.inl ⟨3, 0, by decide, by decide, rfl, rfl, rfl⟩) (xP_map hP [] rfl) (hD.sub [] (by decide +kernel) rfl) hS (Nat.le_of_ble_eq_true rfl) (Nat.le_of_ble_eq_true rfl) dX12_chain_131
          · -- split
            replace hP : va_P D vwCl [(hm, .inr (12, [.ref ms, .ref mkp, .int (nI 0), .ref mtr, .int (nI 4), .int (nI 2), .int (nI 2), .int (nI 3), .int (nI 2), .int (nI 1), .ref mas, .int (nI 0), .int (nI 0), .int (nI 0), .ref mso, .ref mon, .ref mot, .ref man, .int (nI 0), .int (nI 0), .ref mst, .ref msm, .ref mtb, .ref mti, .ref mfr, .ref mbn, .ref mbs, .ref mde, .int (nI 0), .int (nI 0), .int (nI 0), .int (nI 0), .long 0, .long 0, .ref maa, .ref mab, .ref mba, .ref mbb])), (maa, .inl (cs 1, 9, .inr (.inl (fun _ => 0)))), (mab, .inl (cs 1, 9, .inr (.inl (fun _ => 0)))), (mba, .inl (cs 1, 9, .inr (.inl (fun _ => 0)))), (mbb, .inl (cs 1, 9, .inr (.inl (fun _ => 0))))] H := hP
            replace hD : va_D A [(hm, .inr (12, [.ref ms, .ref mkp, .int (nI 0), .ref mtr, .int (nI 4), .int (nI 2), .int (nI 2), .int (nI 3), .int (nI 2), .int (nI 1), .ref mas, .int (nI 0), .int (nI 0), .int (nI 0), .ref mso, .ref mon, .ref mot, .ref man, .int (nI 0), .int (nI 0), .ref mst, .ref msm, .ref mtb, .ref mti, .ref mfr, .ref mbn, .ref mbs, .ref mde, .int (nI 0), .int (nI 0), .int (nI 0), .int (nI 0), .long 0, .long 0, .ref maa, .ref mab, .ref mba, .ref mbb])), (maa, .inl (cs 1, 9, .inr (.inl (fun _ => 0)))), (mab, .inl (cs 1, 9, .inr (.inl (fun _ => 0)))), (mba, .inl (cs 1, 9, .inr (.inl (fun _ => 0)))), (mbb, .inl (cs 1, 9, .inr (.inl (fun _ => 0))))] := hD
            refine lv_aload_n hx hb dX12_chain_43 rfl (lv_at hl 0 rfl) ?_
            refine lv_iconst (v := nI 0) hx hb dX12_chain_44 (by decide) ?_
            refine xput C hP hD hS 0 rfl rfl zuX12 tyX12 tyX12_ok nmX12 31 (by decide) zw6_4 rfl rfl rfl (Nat.le_of_ble_eq_true rfl) dX12_chain_45 ?_
            clear hP hD hS
            try clear locs
            try clear H
            intro H locs hP hD hS
            replace hP : va_P D vwCl [(hm, .inr (12, [.ref ms, .ref mkp, .int (nI 0), .ref mtr, .int (nI 4), .int (nI 2), .int (nI 2), .int (nI 3), .int (nI 2), .int (nI 1), .ref mas, .int (nI 0), .int (nI 0), .int (nI 0), .ref mso, .ref mon, .ref mot, .ref man, .int (nI 0), .int (nI 0), .ref mst, .ref msm, .ref mtb, .ref mti, .ref mfr, .ref mbn, .ref mbs, .ref mde, .int (nI 0), .int (nI 0), .int (nI 0), .int (nI 0), .long 0, .long 0, .ref maa, .ref mab, .ref mba, .ref mbb])), (maa, .inl (cs 1, 9, .inr (.inl (fun _ => 0)))), (mab, .inl (cs 1, 9, .inr (.inl (fun _ => 0)))), (mba, .inl (cs 1, 9, .inr (.inl (fun _ => 0)))), (mbb, .inl (cs 1, 9, .inr (.inl (fun _ => 0))))] H := hP
            replace hD : va_D A [(hm, .inr (12, [.ref ms, .ref mkp, .int (nI 0), .ref mtr, .int (nI 4), .int (nI 2), .int (nI 2), .int (nI 3), .int (nI 2), .int (nI 1), .ref mas, .int (nI 0), .int (nI 0), .int (nI 0), .ref mso, .ref mon, .ref mot, .ref man, .int (nI 0), .int (nI 0), .ref mst, .ref msm, .ref mtb, .ref mti, .ref mfr, .ref mbn, .ref mbs, .ref mde, .int (nI 0), .int (nI 0), .int (nI 0), .int (nI 0), .long 0, .long 0, .ref maa, .ref mab, .ref mba, .ref mbb])), (maa, .inl (cs 1, 9, .inr (.inl (fun _ => 0)))), (mab, .inl (cs 1, 9, .inr (.inl (fun _ => 0)))), (mba, .inl (cs 1, 9, .inr (.inl (fun _ => 0)))), (mbb, .inl (cs 1, 9, .inr (.inl (fun _ => 0))))] := hD
            refine lv_aload_n hx hb dX12_chain_48 rfl (lv_at hl 0 rfl) ?_
            refine lv_iload_n hx hb dX12_chain_49 rfl (lv_at hl 2 rfl) ?_
            refine lv_iconst (v := nI 1) hx hb dX12_chain_50 (by decide) ?_
            refine lv_icmp_le (tgt := 58) hx hb dX12_chain_51 (by decide) (fun _ => ?_) (fun c => absurd (by decide) c)
            refine lv_iconst (v := nI 0) hx hb dX12_chain_58 (by decide) ?_
            refine xv (wr := []) (xV (As := [.int (nI 0)]) (rest := []) C (c_X12_laysSteps_0 l D cs hm ms mkp mtr mas mso mon mot man mst msm mtb mti mfr mbn mbs mde maa mab mba mbb 0 0) kX12_302 hP hD [0, 1, 2, 3, 4] rfl (by decide +kernel) 0 rfl rfl rfl ⟨Nat.le_of_ble_eq_true rfl, Nat.le_of_ble_eq_true rfl⟩ rfl hl.1 rfl (Nat.le_of_ble_eq_true rfl) dX12_chain_59 ⟨Nat.le_of_ble_eq_true rfl, Nat.le_of_ble_eq_true rfl⟩) hP hD hS hA [0, 1, 2, 3, 4] [] rfl rfl (by decide +kernel) (by decide +kernel) ?_
            clear hP hD hS
            try clear locs
            try clear H
            intro u_24 H locs hw_r_23 hP hD hS
            refine W.widen (k := 0) (n := 0) (Nat.le_of_ble_eq_true rfl) (Nat.le_of_ble_eq_true rfl) ?_
            replace hP : va_P D vwCl [(hm, .inr (12, [.ref ms, .ref mkp, .int (nI 0), .ref mtr, .int (nI 4), .int (nI 2), .int (nI 2), .int (nI 3), .int (nI 2), .int (nI 1), .ref mas, .int (nI 0), .int (nI 0), .int (nI 0), .ref mso, .ref mon, .ref mot, .ref man, .int (nI 0), .int (nI 0), .ref mst, .ref msm, .ref mtb, .ref mti, .ref mfr, .ref mbn, .ref mbs, .ref mde, .int (nI 0), .int (nI 0), .int (nI 0), .int (nI 0), .long 0, .long 1, .ref maa, .ref mab, .ref mba, .ref mbb])), (maa, .inl (cs 1, 9, .inr (.inl (lt4 0 0 1 1)))), (mab, .inl (cs 1, 9, .inr (.inl (lt4 1 1 2 1)))), (mba, .inl (cs 1, 9, .inr (.inl (lt4 0 0 0 0)))), (mbb, .inl (cs 1, 9, .inr (.inl (lt4 1 1 1 1))))] H := hP
            replace hD : va_D A [(hm, .inr (12, [.ref ms, .ref mkp, .int (nI 0), .ref mtr, .int (nI 4), .int (nI 2), .int (nI 2), .int (nI 3), .int (nI 2), .int (nI 1), .ref mas, .int (nI 0), .int (nI 0), .int (nI 0), .ref mso, .ref mon, .ref mot, .ref man, .int (nI 0), .int (nI 0), .ref mst, .ref msm, .ref mtb, .ref mti, .ref mfr, .ref mbn, .ref mbs, .ref mde, .int (nI 0), .int (nI 0), .int (nI 0), .int (nI 0), .long 0, .long 1, .ref maa, .ref mab, .ref mba, .ref mbb])), (maa, .inl (cs 1, 9, .inr (.inl (lt4 0 0 1 1)))), (mab, .inl (cs 1, 9, .inr (.inl (lt4 1 1 2 1)))), (mba, .inl (cs 1, 9, .inr (.inl (lt4 0 0 0 0)))), (mbb, .inl (cs 1, 9, .inr (.inl (lt4 1 1 1 1))))] := hD
            refine lv_aload_n hx hb dX12_chain_62 rfl (lv_at hl 0 rfl) ?_
            refine xget C hP 0 rfl rfl zuX12 31 (by decide) zw6_4 rfl dX12_chain_63 ?_
            refine lv_if_ne (tgt := 103) hx hb dX12_chain_66 (by decide) (fun c => absurd (by decide) c) (fun _ => ?_)
            refine lv_aload_n hx hb dX12_chain_69 rfl (lv_at hl 0 rfl) ?_
            refine lv_iload_n hx hb dX12_chain_70 rfl (lv_at hl 1 rfl) ?_
            refine lv_iload_n hx hb dX12_chain_71 rfl (lv_at hl 2 rfl) ?_
            refine lv_iconst (v := nI 1) hx hb dX12_chain_72 (by decide) ?_
            refine lv_icmp_le (tgt := 80) hx hb dX12_chain_73 (by decide) (fun _ => ?_) (fun c => absurd (by decide) c)
            refine lv_lconst (v := 1) hx hb dX12_chain_80 (by decide) ?_
            refine xv (wr := []) (xV (As := [.int (nI 4), .long 1]) (rest := []) C (c_X12_goesDown_0_4 l D cs hm ms mkp mtr mas mso mon mot man mst msm mtb mti mfr mbn mbs mde maa mab mba mbb 0 1) kX12_306 hP hD [0, 1, 2, 3, 4] rfl (by decide +kernel) 0 rfl rfl rfl ⟨Nat.le_of_ble_eq_true rfl, Nat.le_of_ble_eq_true rfl⟩ rfl hl.1 rfl (Nat.le_of_ble_eq_true rfl) dX12_chain_81 ⟨Nat.le_of_ble_eq_true rfl, Nat.le_of_ble_eq_true rfl⟩) hP hD hS hA [0, 1, 2, 3, 4] [] rfl rfl (by decide +kernel) (by decide +kernel) ?_
            clear hP hD hS
            try clear locs
            try clear H
            intro u_26 H locs hw_r_25 hP hD hS
            refine W.widen (k := 0) (n := 0) (Nat.le_of_ble_eq_true rfl) (Nat.le_of_ble_eq_true rfl) ?_
            replace hP : va_P D vwCl [(hm, .inr (12, [.ref ms, .ref mkp, .int (nI 0), .ref mtr, .int (nI 4), .int (nI 2), .int (nI 2), .int (nI 3), .int (nI 2), .int (nI 1), .ref mas, .int (nI 0), .int (nI 0), .int (nI 0), .ref mso, .ref mon, .ref mot, .ref man, .int (nI 0), .int (nI 0), .ref mst, .ref msm, .ref mtb, .ref mti, .ref mfr, .ref mbn, .ref mbs, .ref mde, .int (nI 0), .int (nI 0), .int (nI 0), .int (nI 0), .long 1, .long 1, .ref maa, .ref mab, .ref mba, .ref mbb])), (maa, .inl (cs 1, 9, .inr (.inl (lt4 0 0 1 1)))), (mab, .inl (cs 1, 9, .inr (.inl (lt4 1 1 2 1)))), (mba, .inl (cs 1, 9, .inr (.inl (lt4 0 0 0 0)))), (mbb, .inl (cs 1, 9, .inr (.inl (lt4 1 1 1 1))))] H := hP
            replace hD : va_D A [(hm, .inr (12, [.ref ms, .ref mkp, .int (nI 0), .ref mtr, .int (nI 4), .int (nI 2), .int (nI 2), .int (nI 3), .int (nI 2), .int (nI 1), .ref mas, .int (nI 0), .int (nI 0), .int (nI 0), .ref mso, .ref mon, .ref mot, .ref man, .int (nI 0), .int (nI 0), .ref mst, .ref msm, .ref mtb, .ref mti, .ref mfr, .ref mbn, .ref mbs, .ref mde, .int (nI 0), .int (nI 0), .int (nI 0), .int (nI 0), .long 1, .long 1, .ref maa, .ref mab, .ref mba, .ref mbb])), (maa, .inl (cs 1, 9, .inr (.inl (lt4 0 0 1 1)))), (mab, .inl (cs 1, 9, .inr (.inl (lt4 1 1 2 1)))), (mba, .inl (cs 1, 9, .inr (.inl (lt4 0 0 0 0)))), (mbb, .inl (cs 1, 9, .inr (.inl (lt4 1 1 1 1))))] := hD
            refine lv_iload_n hx hb dX12_chain_84 rfl (lv_at hl 2 rfl) ?_
            refine lv_iconst (v := nI 1) hx hb dX12_chain_85 (by decide) ?_
            refine lv_icmp_le (tgt := 103) hx hb dX12_chain_86 (by decide) (fun _ => ?_) (fun c => absurd (by decide) c)
            refine lv_aload_n hx hb dX12_chain_103 rfl (lv_at hl 0 rfl) ?_
            refine xget C hP 0 rfl rfl zuX12 31 (by decide) zw6_4 rfl dX12_chain_104 ?_
            refine lv_if_eq (tgt := 114) hx hb dX12_chain_107 (by decide) (fun _ => ?_) (fun c => absurd (by decide) c)
            refine lv_iload_n hx hb dX12_chain_114 rfl (lv_at hl 2 rfl) ?_
            refine lv_iconst (v := nI 2) hx hb dX12_chain_115 (by decide) ?_
            refine lv_irem hx hb dX12_chain_116 (by decide) ?_
            refine lv_topi (nm_r (e' := nI 0) (by decide) ?_)
            refine lv_if_ne (tgt := 127) hx hb dX12_chain_117 (by decide) (fun c => absurd (by decide) c) (fun _ => ?_)
            refine lv_aload_n hx hb dX12_chain_120 rfl (lv_at hl 0 rfl) ?_
            refine xget C hP 0 rfl rfl zuX12 32 (by decide) zw6_5 rfl dX12_chain_121 ?_
            refine lv_goto (tgt := 131) hx hb dX12_chain_124 (by decide) ?_
            exact xretl C () (Or.inl ⟨4, 0, by decide, by decide, rfl, rfl, rfl⟩) (xP_map hP [] rfl) (hD.sub [] (by decide +kernel) rfl) hS (Nat.le_of_ble_eq_true rfl) (Nat.le_of_ble_eq_true rfl) dX12_chain_131
        · -- k = 1
          replace hP : va_P D vwCl [(hm, .inr (12, [.ref ms, .ref mkp, .int (nI 0), .ref mtr, .int (nI 4), .int (nI 2), .int (nI 2), .int (nI 3), .int (nI 2), .int (nI 1), .ref mas, .int (nI 0), .int (nI 0), .int (nI 0), .ref mso, .ref mon, .ref mot, .ref man, .int (nI 0), .int (nI 0), .ref mst, .ref msm, .ref mtb, .ref mti, .ref mfr, .ref mbn, .ref mbs, .ref mde, .int (nI 0), .int (nI 0), .int (nI 0), .int (nI 0), .long 0, .long 0, .ref maa, .ref mab, .ref mba, .ref mbb])), (maa, .inl (cs 1, 9, .inr (.inl (fun _ => 0)))), (mab, .inl (cs 1, 9, .inr (.inl (fun _ => 0)))), (mba, .inl (cs 1, 9, .inr (.inl (fun _ => 0)))), (mbb, .inl (cs 1, 9, .inr (.inl (fun _ => 0))))] H := hP
          replace hD : va_D A [(hm, .inr (12, [.ref ms, .ref mkp, .int (nI 0), .ref mtr, .int (nI 4), .int (nI 2), .int (nI 2), .int (nI 3), .int (nI 2), .int (nI 1), .ref mas, .int (nI 0), .int (nI 0), .int (nI 0), .ref mso, .ref mon, .ref mot, .ref man, .int (nI 0), .int (nI 0), .ref mst, .ref msm, .ref mtb, .ref mti, .ref mfr, .ref mbn, .ref mbs, .ref mde, .int (nI 0), .int (nI 0), .int (nI 0), .int (nI 0), .long 0, .long 0, .ref maa, .ref mab, .ref mba, .ref mbb])), (maa, .inl (cs 1, 9, .inr (.inl (fun _ => 0)))), (mab, .inl (cs 1, 9, .inr (.inl (fun _ => 0)))), (mba, .inl (cs 1, 9, .inr (.inl (fun _ => 0)))), (mbb, .inl (cs 1, 9, .inr (.inl (fun _ => 0))))] := hD
          refine lv_iconst (v := nI 1) hx hb dX12_chain_27 (by decide) ?_
          refine lv_icmp_le (tgt := 43) hx hb dX12_chain_28 (by decide) (fun _ => ?_) (fun c => absurd (by decide) c)
          rcases (show j = 0 ∨ j = 1 ∨ j = 2 ∨ j = 3 ∨ j = 4 from (by omega)) with rfl | rfl | rfl | rfl | rfl
          · -- split
            replace hP : va_P D vwCl [(hm, .inr (12, [.ref ms, .ref mkp, .int (nI 0), .ref mtr, .int (nI 4), .int (nI 2), .int (nI 2), .int (nI 3), .int (nI 2), .int (nI 1), .ref mas, .int (nI 0), .int (nI 0), .int (nI 0), .ref mso, .ref mon, .ref mot, .ref man, .int (nI 0), .int (nI 0), .ref mst, .ref msm, .ref mtb, .ref mti, .ref mfr, .ref mbn, .ref mbs, .ref mde, .int (nI 0), .int (nI 0), .int (nI 0), .int (nI 0), .long 0, .long 0, .ref maa, .ref mab, .ref mba, .ref mbb])), (maa, .inl (cs 1, 9, .inr (.inl (fun _ => 0)))), (mab, .inl (cs 1, 9, .inr (.inl (fun _ => 0)))), (mba, .inl (cs 1, 9, .inr (.inl (fun _ => 0)))), (mbb, .inl (cs 1, 9, .inr (.inl (fun _ => 0))))] H := hP
            replace hD : va_D A [(hm, .inr (12, [.ref ms, .ref mkp, .int (nI 0), .ref mtr, .int (nI 4), .int (nI 2), .int (nI 2), .int (nI 3), .int (nI 2), .int (nI 1), .ref mas, .int (nI 0), .int (nI 0), .int (nI 0), .ref mso, .ref mon, .ref mot, .ref man, .int (nI 0), .int (nI 0), .ref mst, .ref msm, .ref mtb, .ref mti, .ref mfr, .ref mbn, .ref mbs, .ref mde, .int (nI 0), .int (nI 0), .int (nI 0), .int (nI 0), .long 0, .long 0, .ref maa, .ref mab, .ref mba, .ref mbb])), (maa, .inl (cs 1, 9, .inr (.inl (fun _ => 0)))), (mab, .inl (cs 1, 9, .inr (.inl (fun _ => 0)))), (mba, .inl (cs 1, 9, .inr (.inl (fun _ => 0)))), (mbb, .inl (cs 1, 9, .inr (.inl (fun _ => 0))))] := hD
            refine lv_aload_n hx hb dX12_chain_43 rfl (lv_at hl 0 rfl) ?_
            refine lv_iconst (v := nI 0) hx hb dX12_chain_44 (by decide) ?_
            refine xput C hP hD hS 0 rfl rfl zuX12 tyX12 tyX12_ok nmX12 31 (by decide) zw6_4 rfl rfl rfl (Nat.le_of_ble_eq_true rfl) dX12_chain_45 ?_
            clear hP hD hS
            try clear locs
            try clear H
            intro H locs hP hD hS
            replace hP : va_P D vwCl [(hm, .inr (12, [.ref ms, .ref mkp, .int (nI 0), .ref mtr, .int (nI 4), .int (nI 2), .int (nI 2), .int (nI 3), .int (nI 2), .int (nI 1), .ref mas, .int (nI 0), .int (nI 0), .int (nI 0), .ref mso, .ref mon, .ref mot, .ref man, .int (nI 0), .int (nI 0), .ref mst, .ref msm, .ref mtb, .ref mti, .ref mfr, .ref mbn, .ref mbs, .ref mde, .int (nI 0), .int (nI 0), .int (nI 0), .int (nI 0), .long 0, .long 0, .ref maa, .ref mab, .ref mba, .ref mbb])), (maa, .inl (cs 1, 9, .inr (.inl (fun _ => 0)))), (mab, .inl (cs 1, 9, .inr (.inl (fun _ => 0)))), (mba, .inl (cs 1, 9, .inr (.inl (fun _ => 0)))), (mbb, .inl (cs 1, 9, .inr (.inl (fun _ => 0))))] H := hP
            replace hD : va_D A [(hm, .inr (12, [.ref ms, .ref mkp, .int (nI 0), .ref mtr, .int (nI 4), .int (nI 2), .int (nI 2), .int (nI 3), .int (nI 2), .int (nI 1), .ref mas, .int (nI 0), .int (nI 0), .int (nI 0), .ref mso, .ref mon, .ref mot, .ref man, .int (nI 0), .int (nI 0), .ref mst, .ref msm, .ref mtb, .ref mti, .ref mfr, .ref mbn, .ref mbs, .ref mde, .int (nI 0), .int (nI 0), .int (nI 0), .int (nI 0), .long 0, .long 0, .ref maa, .ref mab, .ref mba, .ref mbb])), (maa, .inl (cs 1, 9, .inr (.inl (fun _ => 0)))), (mab, .inl (cs 1, 9, .inr (.inl (fun _ => 0)))), (mba, .inl (cs 1, 9, .inr (.inl (fun _ => 0)))), (mbb, .inl (cs 1, 9, .inr (.inl (fun _ => 0))))] := hD
            refine lv_aload_n hx hb dX12_chain_48 rfl (lv_at hl 0 rfl) ?_
            refine lv_iload_n hx hb dX12_chain_49 rfl (lv_at hl 2 rfl) ?_
            refine lv_iconst (v := nI 1) hx hb dX12_chain_50 (by decide) ?_
            refine lv_icmp_le (tgt := 58) hx hb dX12_chain_51 (by decide) (fun _ => ?_) (fun c => absurd (by decide) c)
            refine lv_iconst (v := nI 0) hx hb dX12_chain_58 (by decide) ?_
            refine xv (wr := []) (xV (As := [.int (nI 0)]) (rest := []) C (c_X12_laysSteps_0 l D cs hm ms mkp mtr mas mso mon mot man mst msm mtb mti mfr mbn mbs mde maa mab mba mbb 0 0) kX12_302 hP hD [0, 1, 2, 3, 4] rfl (by decide +kernel) 0 rfl rfl rfl ⟨Nat.le_of_ble_eq_true rfl, Nat.le_of_ble_eq_true rfl⟩ rfl hl.1 rfl (Nat.le_of_ble_eq_true rfl) dX12_chain_59 ⟨Nat.le_of_ble_eq_true rfl, Nat.le_of_ble_eq_true rfl⟩) hP hD hS hA [0, 1, 2, 3, 4] [] rfl rfl (by decide +kernel) (by decide +kernel) ?_
            clear hP hD hS
            try clear locs
            try clear H
            intro u_28 H locs hw_r_27 hP hD hS
            refine W.widen (k := 0) (n := 0) (Nat.le_of_ble_eq_true rfl) (Nat.le_of_ble_eq_true rfl) ?_
            replace hP : va_P D vwCl [(hm, .inr (12, [.ref ms, .ref mkp, .int (nI 0), .ref mtr, .int (nI 4), .int (nI 2), .int (nI 2), .int (nI 3), .int (nI 2), .int (nI 1), .ref mas, .int (nI 0), .int (nI 0), .int (nI 0), .ref mso, .ref mon, .ref mot, .ref man, .int (nI 0), .int (nI 0), .ref mst, .ref msm, .ref mtb, .ref mti, .ref mfr, .ref mbn, .ref mbs, .ref mde, .int (nI 0), .int (nI 0), .int (nI 0), .int (nI 0), .long 0, .long 1, .ref maa, .ref mab, .ref mba, .ref mbb])), (maa, .inl (cs 1, 9, .inr (.inl (lt4 0 0 1 1)))), (mab, .inl (cs 1, 9, .inr (.inl (lt4 1 1 2 1)))), (mba, .inl (cs 1, 9, .inr (.inl (lt4 0 0 0 0)))), (mbb, .inl (cs 1, 9, .inr (.inl (lt4 1 1 1 1))))] H := hP
            replace hD : va_D A [(hm, .inr (12, [.ref ms, .ref mkp, .int (nI 0), .ref mtr, .int (nI 4), .int (nI 2), .int (nI 2), .int (nI 3), .int (nI 2), .int (nI 1), .ref mas, .int (nI 0), .int (nI 0), .int (nI 0), .ref mso, .ref mon, .ref mot, .ref man, .int (nI 0), .int (nI 0), .ref mst, .ref msm, .ref mtb, .ref mti, .ref mfr, .ref mbn, .ref mbs, .ref mde, .int (nI 0), .int (nI 0), .int (nI 0), .int (nI 0), .long 0, .long 1, .ref maa, .ref mab, .ref mba, .ref mbb])), (maa, .inl (cs 1, 9, .inr (.inl (lt4 0 0 1 1)))), (mab, .inl (cs 1, 9, .inr (.inl (lt4 1 1 2 1)))), (mba, .inl (cs 1, 9, .inr (.inl (lt4 0 0 0 0)))), (mbb, .inl (cs 1, 9, .inr (.inl (lt4 1 1 1 1))))] := hD
            refine lv_aload_n hx hb dX12_chain_62 rfl (lv_at hl 0 rfl) ?_
            refine xget C hP 0 rfl rfl zuX12 31 (by decide) zw6_4 rfl dX12_chain_63 ?_
            refine lv_if_ne (tgt := 103) hx hb dX12_chain_66 (by decide) (fun c => absurd (by decide) c) (fun _ => ?_)
            refine lv_aload_n hx hb dX12_chain_69 rfl (lv_at hl 0 rfl) ?_
            refine lv_iload_n hx hb dX12_chain_70 rfl (lv_at hl 1 rfl) ?_
            refine lv_iload_n hx hb dX12_chain_71 rfl (lv_at hl 2 rfl) ?_
            refine lv_iconst (v := nI 1) hx hb dX12_chain_72 (by decide) ?_
            refine lv_icmp_le (tgt := 80) hx hb dX12_chain_73 (by decide) (fun _ => ?_) (fun c => absurd (by decide) c)
            refine lv_lconst (v := 1) hx hb dX12_chain_80 (by decide) ?_
            refine xv (wr := []) (xV (As := [.int (nI 0), .long 1]) (rest := []) C (c_X12_goesDown_0_0 l D cs hm ms mkp mtr mas mso mon mot man mst msm mtb mti mfr mbn mbs mde maa mab mba mbb 0 1) kX12_306 hP hD [0, 1, 2, 3, 4] rfl (by decide +kernel) 0 rfl rfl rfl ⟨Nat.le_of_ble_eq_true rfl, Nat.le_of_ble_eq_true rfl⟩ rfl hl.1 rfl (Nat.le_of_ble_eq_true rfl) dX12_chain_81 ⟨Nat.le_of_ble_eq_true rfl, Nat.le_of_ble_eq_true rfl⟩) hP hD hS hA [0, 1, 2, 3, 4] [] rfl rfl (by decide +kernel) (by decide +kernel) ?_
            clear hP hD hS
            try clear locs
            try clear H
            intro u_30 H locs hw_r_29 hP hD hS
            refine W.widen (k := 0) (n := 0) (Nat.le_of_ble_eq_true rfl) (Nat.le_of_ble_eq_true rfl) ?_
            replace hP : va_P D vwCl [(hm, .inr (12, [.ref ms, .ref mkp, .int (nI 0), .ref mtr, .int (nI 4), .int (nI 2), .int (nI 2), .int (nI 3), .int (nI 2), .int (nI 1), .ref mas, .int (nI 0), .int (nI 0), .int (nI 0), .ref mso, .ref mon, .ref mot, .ref man, .int (nI 0), .int (nI 0), .ref mst, .ref msm, .ref mtb, .ref mti, .ref mfr, .ref mbn, .ref mbs, .ref mde, .int (nI 0), .int (nI 0), .int (nI 0), .int (nI 0), .long 0, .long 1, .ref maa, .ref mab, .ref mba, .ref mbb])), (maa, .inl (cs 1, 9, .inr (.inl (lt4 0 0 1 1)))), (mab, .inl (cs 1, 9, .inr (.inl (lt4 1 1 2 1)))), (mba, .inl (cs 1, 9, .inr (.inl (lt4 0 0 0 0)))), (mbb, .inl (cs 1, 9, .inr (.inl (lt4 1 1 1 1))))] H := hP
            replace hD : va_D A [(hm, .inr (12, [.ref ms, .ref mkp, .int (nI 0), .ref mtr, .int (nI 4), .int (nI 2), .int (nI 2), .int (nI 3), .int (nI 2), .int (nI 1), .ref mas, .int (nI 0), .int (nI 0), .int (nI 0), .ref mso, .ref mon, .ref mot, .ref man, .int (nI 0), .int (nI 0), .ref mst, .ref msm, .ref mtb, .ref mti, .ref mfr, .ref mbn, .ref mbs, .ref mde, .int (nI 0), .int (nI 0), .int (nI 0), .int (nI 0), .long 0, .long 1, .ref maa, .ref mab, .ref mba, .ref mbb])), (maa, .inl (cs 1, 9, .inr (.inl (lt4 0 0 1 1)))), (mab, .inl (cs 1, 9, .inr (.inl (lt4 1 1 2 1)))), (mba, .inl (cs 1, 9, .inr (.inl (lt4 0 0 0 0)))), (mbb, .inl (cs 1, 9, .inr (.inl (lt4 1 1 1 1))))] := hD
            refine lv_iload_n hx hb dX12_chain_84 rfl (lv_at hl 2 rfl) ?_
            refine lv_iconst (v := nI 1) hx hb dX12_chain_85 (by decide) ?_
            refine lv_icmp_le (tgt := 103) hx hb dX12_chain_86 (by decide) (fun _ => ?_) (fun c => absurd (by decide) c)
            refine lv_aload_n hx hb dX12_chain_103 rfl (lv_at hl 0 rfl) ?_
            refine xget C hP 0 rfl rfl zuX12 31 (by decide) zw6_4 rfl dX12_chain_104 ?_
            refine lv_if_eq (tgt := 114) hx hb dX12_chain_107 (by decide) (fun _ => ?_) (fun c => absurd (by decide) c)
            refine lv_iload_n hx hb dX12_chain_114 rfl (lv_at hl 2 rfl) ?_
            refine lv_iconst (v := nI 2) hx hb dX12_chain_115 (by decide) ?_
            refine lv_irem hx hb dX12_chain_116 (by decide) ?_
            refine lv_topi (nm_r (e' := nI 1) (by decide) ?_)
            refine lv_if_ne (tgt := 127) hx hb dX12_chain_117 (by decide) (fun _ => ?_) (fun c => absurd c (by decide))
            refine lv_aload_n hx hb dX12_chain_127 rfl (lv_at hl 0 rfl) ?_
            refine xget C hP 0 rfl rfl zuX12 33 (by decide) zw6_6 rfl dX12_chain_128 ?_
            exact xretl C () (Or.inl ⟨0, 1, by decide, by decide, rfl, rfl, rfl⟩) (xP_map hP [] rfl) (hD.sub [] (by decide +kernel) rfl) hS (Nat.le_of_ble_eq_true rfl) (Nat.le_of_ble_eq_true rfl) dX12_chain_131
          · -- split
            replace hP : va_P D vwCl [(hm, .inr (12, [.ref ms, .ref mkp, .int (nI 0), .ref mtr, .int (nI 4), .int (nI 2), .int (nI 2), .int (nI 3), .int (nI 2), .int (nI 1), .ref mas, .int (nI 0), .int (nI 0), .int (nI 0), .ref mso, .ref mon, .ref mot, .ref man, .int (nI 0), .int (nI 0), .ref mst, .ref msm, .ref mtb, .ref mti, .ref mfr, .ref mbn, .ref mbs, .ref mde, .int (nI 0), .int (nI 0), .int (nI 0), .int (nI 0), .long 0, .long 0, .ref maa, .ref mab, .ref mba, .ref mbb])), (maa, .inl (cs 1, 9, .inr (.inl (fun _ => 0)))), (mab, .inl (cs 1, 9, .inr (.inl (fun _ => 0)))), (mba, .inl (cs 1, 9, .inr (.inl (fun _ => 0)))), (mbb, .inl (cs 1, 9, .inr (.inl (fun _ => 0))))] H := hP
            replace hD : va_D A [(hm, .inr (12, [.ref ms, .ref mkp, .int (nI 0), .ref mtr, .int (nI 4), .int (nI 2), .int (nI 2), .int (nI 3), .int (nI 2), .int (nI 1), .ref mas, .int (nI 0), .int (nI 0), .int (nI 0), .ref mso, .ref mon, .ref mot, .ref man, .int (nI 0), .int (nI 0), .ref mst, .ref msm, .ref mtb, .ref mti, .ref mfr, .ref mbn, .ref mbs, .ref mde, .int (nI 0), .int (nI 0), .int (nI 0), .int (nI 0), .long 0, .long 0, .ref maa, .ref mab, .ref mba, .ref mbb])), (maa, .inl (cs 1, 9, .inr (.inl (fun _ => 0)))), (mab, .inl (cs 1, 9, .inr (.inl (fun _ => 0)))), (mba, .inl (cs 1, 9, .inr (.inl (fun _ => 0)))), (mbb, .inl (cs 1, 9, .inr (.inl (fun _ => 0))))] := hD
            refine lv_aload_n hx hb dX12_chain_43 rfl (lv_at hl 0 rfl) ?_
            refine lv_iconst (v := nI 0) hx hb dX12_chain_44 (by decide) ?_
            refine xput C hP hD hS 0 rfl rfl zuX12 tyX12 tyX12_ok nmX12 31 (by decide) zw6_4 rfl rfl rfl (Nat.le_of_ble_eq_true rfl) dX12_chain_45 ?_
            clear hP hD hS
            try clear locs
            try clear H
            intro H locs hP hD hS
            replace hP : va_P D vwCl [(hm, .inr (12, [.ref ms, .ref mkp, .int (nI 0), .ref mtr, .int (nI 4), .int (nI 2), .int (nI 2), .int (nI 3), .int (nI 2), .int (nI 1), .ref mas, .int (nI 0), .int (nI 0), .int (nI 0), .ref mso, .ref mon, .ref mot, .ref man, .int (nI 0), .int (nI 0), .ref mst, .ref msm, .ref mtb, .ref mti, .ref mfr, .ref mbn, .ref mbs, .ref mde, .int (nI 0), .int (nI 0), .int (nI 0), .int (nI 0), .long 0, .long 0, .ref maa, .ref mab, .ref mba, .ref mbb])), (maa, .inl (cs 1, 9, .inr (.inl (fun _ => 0)))), (mab, .inl (cs 1, 9, .inr (.inl (fun _ => 0)))), (mba, .inl (cs 1, 9, .inr (.inl (fun _ => 0)))), (mbb, .inl (cs 1, 9, .inr (.inl (fun _ => 0))))] H := hP
            replace hD : va_D A [(hm, .inr (12, [.ref ms, .ref mkp, .int (nI 0), .ref mtr, .int (nI 4), .int (nI 2), .int (nI 2), .int (nI 3), .int (nI 2), .int (nI 1), .ref mas, .int (nI 0), .int (nI 0), .int (nI 0), .ref mso, .ref mon, .ref mot, .ref man, .int (nI 0), .int (nI 0), .ref mst, .ref msm, .ref mtb, .ref mti, .ref mfr, .ref mbn, .ref mbs, .ref mde, .int (nI 0), .int (nI 0), .int (nI 0), .int (nI 0), .long 0, .long 0, .ref maa, .ref mab, .ref mba, .ref mbb])), (maa, .inl (cs 1, 9, .inr (.inl (fun _ => 0)))), (mab, .inl (cs 1, 9, .inr (.inl (fun _ => 0)))), (mba, .inl (cs 1, 9, .inr (.inl (fun _ => 0)))), (mbb, .inl (cs 1, 9, .inr (.inl (fun _ => 0))))] := hD
            refine lv_aload_n hx hb dX12_chain_48 rfl (lv_at hl 0 rfl) ?_
            refine lv_iload_n hx hb dX12_chain_49 rfl (lv_at hl 2 rfl) ?_
            refine lv_iconst (v := nI 1) hx hb dX12_chain_50 (by decide) ?_
            refine lv_icmp_le (tgt := 58) hx hb dX12_chain_51 (by decide) (fun _ => ?_) (fun c => absurd (by decide) c)
            refine lv_iconst (v := nI 0) hx hb dX12_chain_58 (by decide) ?_
            refine xv (wr := []) (xV (As := [.int (nI 0)]) (rest := []) C (c_X12_laysSteps_0 l D cs hm ms mkp mtr mas mso mon mot man mst msm mtb mti mfr mbn mbs mde maa mab mba mbb 0 0) kX12_302 hP hD [0, 1, 2, 3, 4] rfl (by decide +kernel) 0 rfl rfl rfl ⟨Nat.le_of_ble_eq_true rfl, Nat.le_of_ble_eq_true rfl⟩ rfl hl.1 rfl (Nat.le_of_ble_eq_true rfl) dX12_chain_59 ⟨Nat.le_of_ble_eq_true rfl, Nat.le_of_ble_eq_true rfl⟩) hP hD hS hA [0, 1, 2, 3, 4] [] rfl rfl (by decide +kernel) (by decide +kernel) ?_
            clear hP hD hS
            try clear locs
            try clear H
            intro u_32 H locs hw_r_31 hP hD hS
            refine W.widen (k := 0) (n := 0) (Nat.le_of_ble_eq_true rfl) (Nat.le_of_ble_eq_true rfl) ?_
            replace hP : va_P D vwCl [(hm, .inr (12, [.ref ms, .ref mkp, .int (nI 0), .ref mtr, .int (nI 4), .int (nI 2), .int (nI 2), .int (nI 3), .int (nI 2), .int (nI 1), .ref mas, .int (nI 0), .int (nI 0), .int (nI 0), .ref mso, .ref mon, .ref mot, .ref man, .int (nI 0), .int (nI 0), .ref mst, .ref msm, .ref mtb, .ref mti, .ref mfr, .ref mbn, .ref mbs, .ref mde, .int (nI 0), .int (nI 0), .int (nI 0), .int (nI 0), .long 0, .long 1, .ref maa, .ref mab, .ref mba, .ref mbb])), (maa, .inl (cs 1, 9, .inr (.inl (lt4 0 0 1 1)))), (mab, .inl (cs 1, 9, .inr (.inl (lt4 1 1 2 1)))), (mba, .inl (cs 1, 9, .inr (.inl (lt4 0 0 0 0)))), (mbb, .inl (cs 1, 9, .inr (.inl (lt4 1 1 1 1))))] H := hP
            replace hD : va_D A [(hm, .inr (12, [.ref ms, .ref mkp, .int (nI 0), .ref mtr, .int (nI 4), .int (nI 2), .int (nI 2), .int (nI 3), .int (nI 2), .int (nI 1), .ref mas, .int (nI 0), .int (nI 0), .int (nI 0), .ref mso, .ref mon, .ref mot, .ref man, .int (nI 0), .int (nI 0), .ref mst, .ref msm, .ref mtb, .ref mti, .ref mfr, .ref mbn, .ref mbs, .ref mde, .int (nI 0), .int (nI 0), .int (nI 0), .int (nI 0), .long 0, .long 1, .ref maa, .ref mab, .ref mba, .ref mbb])), (maa, .inl (cs 1, 9, .inr (.inl (lt4 0 0 1 1)))), (mab, .inl (cs 1, 9, .inr (.inl (lt4 1 1 2 1)))), (mba, .inl (cs 1, 9, .inr (.inl (lt4 0 0 0 0)))), (mbb, .inl (cs 1, 9, .inr (.inl (lt4 1 1 1 1))))] := hD
            refine lv_aload_n hx hb dX12_chain_62 rfl (lv_at hl 0 rfl) ?_
            refine xget C hP 0 rfl rfl zuX12 31 (by decide) zw6_4 rfl dX12_chain_63 ?_
            refine lv_if_ne (tgt := 103) hx hb dX12_chain_66 (by decide) (fun c => absurd (by decide) c) (fun _ => ?_)
            refine lv_aload_n hx hb dX12_chain_69 rfl (lv_at hl 0 rfl) ?_
            refine lv_iload_n hx hb dX12_chain_70 rfl (lv_at hl 1 rfl) ?_
            refine lv_iload_n hx hb dX12_chain_71 rfl (lv_at hl 2 rfl) ?_
            refine lv_iconst (v := nI 1) hx hb dX12_chain_72 (by decide) ?_
            refine lv_icmp_le (tgt := 80) hx hb dX12_chain_73 (by decide) (fun _ => ?_) (fun c => absurd (by decide) c)
            refine lv_lconst (v := 1) hx hb dX12_chain_80 (by decide) ?_
            refine xv (wr := []) (xV (As := [.int (nI 1), .long 1]) (rest := []) C (c_X12_goesDown_0_1 l D cs hm ms mkp mtr mas mso mon mot man mst msm mtb mti mfr mbn mbs mde maa mab mba mbb 0 1) kX12_306 hP hD [0, 1, 2, 3, 4] rfl (by decide +kernel) 0 rfl rfl rfl ⟨Nat.le_of_ble_eq_true rfl, Nat.le_of_ble_eq_true rfl⟩ rfl hl.1 rfl (Nat.le_of_ble_eq_true rfl) dX12_chain_81 ⟨Nat.le_of_ble_eq_true rfl, Nat.le_of_ble_eq_true rfl⟩) hP hD hS hA [0, 1, 2, 3, 4] [] rfl rfl (by decide +kernel) (by decide +kernel) ?_
            clear hP hD hS
            try clear locs
            try clear H
            intro u_34 H locs hw_r_33 hP hD hS
            refine W.widen (k := 0) (n := 0) (Nat.le_of_ble_eq_true rfl) (Nat.le_of_ble_eq_true rfl) ?_
            replace hP : va_P D vwCl [(hm, .inr (12, [.ref ms, .ref mkp, .int (nI 0), .ref mtr, .int (nI 4), .int (nI 2), .int (nI 2), .int (nI 3), .int (nI 2), .int (nI 1), .ref mas, .int (nI 0), .int (nI 0), .int (nI 0), .ref mso, .ref mon, .ref mot, .ref man, .int (nI 0), .int (nI 0), .ref mst, .ref msm, .ref mtb, .ref mti, .ref mfr, .ref mbn, .ref mbs, .ref mde, .int (nI 0), .int (nI 0), .int (nI 0), .int (nI 0), .long 0, .long 1, .ref maa, .ref mab, .ref mba, .ref mbb])), (maa, .inl (cs 1, 9, .inr (.inl (lt4 0 0 1 1)))), (mab, .inl (cs 1, 9, .inr (.inl (lt4 1 1 2 1)))), (mba, .inl (cs 1, 9, .inr (.inl (lt4 0 0 0 0)))), (mbb, .inl (cs 1, 9, .inr (.inl (lt4 1 1 1 1))))] H := hP
            replace hD : va_D A [(hm, .inr (12, [.ref ms, .ref mkp, .int (nI 0), .ref mtr, .int (nI 4), .int (nI 2), .int (nI 2), .int (nI 3), .int (nI 2), .int (nI 1), .ref mas, .int (nI 0), .int (nI 0), .int (nI 0), .ref mso, .ref mon, .ref mot, .ref man, .int (nI 0), .int (nI 0), .ref mst, .ref msm, .ref mtb, .ref mti, .ref mfr, .ref mbn, .ref mbs, .ref mde, .int (nI 0), .int (nI 0), .int (nI 0), .int (nI 0), .long 0, .long 1, .ref maa, .ref mab, .ref mba, .ref mbb])), (maa, .inl (cs 1, 9, .inr (.inl (lt4 0 0 1 1)))), (mab, .inl (cs 1, 9, .inr (.inl (lt4 1 1 2 1)))), (mba, .inl (cs 1, 9, .inr (.inl (lt4 0 0 0 0)))), (mbb, .inl (cs 1, 9, .inr (.inl (lt4 1 1 1 1))))] := hD
            refine lv_iload_n hx hb dX12_chain_84 rfl (lv_at hl 2 rfl) ?_
            refine lv_iconst (v := nI 1) hx hb dX12_chain_85 (by decide) ?_
            refine lv_icmp_le (tgt := 103) hx hb dX12_chain_86 (by decide) (fun _ => ?_) (fun c => absurd (by decide) c)
            refine lv_aload_n hx hb dX12_chain_103 rfl (lv_at hl 0 rfl) ?_
            refine xget C hP 0 rfl rfl zuX12 31 (by decide) zw6_4 rfl dX12_chain_104 ?_
            refine lv_if_eq (tgt := 114) hx hb dX12_chain_107 (by decide) (fun _ => ?_) (fun c => absurd (by decide) c)
            refine lv_iload_n hx hb dX12_chain_114 rfl (lv_at hl 2 rfl) ?_
            refine lv_iconst (v := nI 2) hx hb dX12_chain_115 (by decide) ?_
            refine lv_irem hx hb dX12_chain_116 (by decide) ?_
            refine lv_topi (nm_r (e' := nI 1) (by decide) ?_)
            refine lv_if_ne (tgt := 127) hx hb dX12_chain_117 (by decide) (fun _ => ?_) (fun c => absurd c (by decide))
            refine lv_aload_n hx hb dX12_chain_127 rfl (lv_at hl 0 rfl) ?_
            refine xget C hP 0 rfl rfl zuX12 33 (by decide) zw6_6 rfl dX12_chain_128 ?_
            exact xretl C () (Or.inl ⟨1, 1, by decide, by decide, rfl, rfl, rfl⟩) (xP_map hP [] rfl) (hD.sub [] (by decide +kernel) rfl) hS (Nat.le_of_ble_eq_true rfl) (Nat.le_of_ble_eq_true rfl) dX12_chain_131
          · -- split
            replace hP : va_P D vwCl [(hm, .inr (12, [.ref ms, .ref mkp, .int (nI 0), .ref mtr, .int (nI 4), .int (nI 2), .int (nI 2), .int (nI 3), .int (nI 2), .int (nI 1), .ref mas, .int (nI 0), .int (nI 0), .int (nI 0), .ref mso, .ref mon, .ref mot, .ref man, .int (nI 0), .int (nI 0), .ref mst, .ref msm, .ref mtb, .ref mti, .ref mfr, .ref mbn, .ref mbs, .ref mde, .int (nI 0), .int (nI 0), .int (nI 0), .int (nI 0), .long 0, .long 0, .ref maa, .ref mab, .ref mba, .ref mbb])), (maa, .inl (cs 1, 9, .inr (.inl (fun _ => 0)))), (mab, .inl (cs 1, 9, .inr (.inl (fun _ => 0)))), (mba, .inl (cs 1, 9, .inr (.inl (fun _ => 0)))), (mbb, .inl (cs 1, 9, .inr (.inl (fun _ => 0))))] H := hP
            replace hD : va_D A [(hm, .inr (12, [.ref ms, .ref mkp, .int (nI 0), .ref mtr, .int (nI 4), .int (nI 2), .int (nI 2), .int (nI 3), .int (nI 2), .int (nI 1), .ref mas, .int (nI 0), .int (nI 0), .int (nI 0), .ref mso, .ref mon, .ref mot, .ref man, .int (nI 0), .int (nI 0), .ref mst, .ref msm, .ref mtb, .ref mti, .ref mfr, .ref mbn, .ref mbs, .ref mde, .int (nI 0), .int (nI 0), .int (nI 0), .int (nI 0), .long 0, .long 0, .ref maa, .ref mab, .ref mba, .ref mbb])), (maa, .inl (cs 1, 9, .inr (.inl (fun _ => 0)))), (mab, .inl (cs 1, 9, .inr (.inl (fun _ => 0)))), (mba, .inl (cs 1, 9, .inr (.inl (fun _ => 0)))), (mbb, .inl (cs 1, 9, .inr (.inl (fun _ => 0))))] := hD
            refine lv_aload_n hx hb dX12_chain_43 rfl (lv_at hl 0 rfl) ?_
            refine lv_iconst (v := nI 0) hx hb dX12_chain_44 (by decide) ?_
            refine xput C hP hD hS 0 rfl rfl zuX12 tyX12 tyX12_ok nmX12 31 (by decide) zw6_4 rfl rfl rfl (Nat.le_of_ble_eq_true rfl) dX12_chain_45 ?_
            clear hP hD hS
            try clear locs
            try clear H
            intro H locs hP hD hS
            replace hP : va_P D vwCl [(hm, .inr (12, [.ref ms, .ref mkp, .int (nI 0), .ref mtr, .int (nI 4), .int (nI 2), .int (nI 2), .int (nI 3), .int (nI 2), .int (nI 1), .ref mas, .int (nI 0), .int (nI 0), .int (nI 0), .ref mso, .ref mon, .ref mot, .ref man, .int (nI 0), .int (nI 0), .ref mst, .ref msm, .ref mtb, .ref mti, .ref mfr, .ref mbn, .ref mbs, .ref mde, .int (nI 0), .int (nI 0), .int (nI 0), .int (nI 0), .long 0, .long 0, .ref maa, .ref mab, .ref mba, .ref mbb])), (maa, .inl (cs 1, 9, .inr (.inl (fun _ => 0)))), (mab, .inl (cs 1, 9, .inr (.inl (fun _ => 0)))), (mba, .inl (cs 1, 9, .inr (.inl (fun _ => 0)))), (mbb, .inl (cs 1, 9, .inr (.inl (fun _ => 0))))] H := hP
            replace hD : va_D A [(hm, .inr (12, [.ref ms, .ref mkp, .int (nI 0), .ref mtr, .int (nI 4), .int (nI 2), .int (nI 2), .int (nI 3), .int (nI 2), .int (nI 1), .ref mas, .int (nI 0), .int (nI 0), .int (nI 0), .ref mso, .ref mon, .ref mot, .ref man, .int (nI 0), .int (nI 0), .ref mst, .ref msm, .ref mtb, .ref mti, .ref mfr, .ref mbn, .ref mbs, .ref mde, .int (nI 0), .int (nI 0), .int (nI 0), .int (nI 0), .long 0, .long 0, .ref maa, .ref mab, .ref mba, .ref mbb])), (maa, .inl (cs 1, 9, .inr (.inl (fun _ => 0)))), (mab, .inl (cs 1, 9, .inr (.inl (fun _ => 0)))), (mba, .inl (cs 1, 9, .inr (.inl (fun _ => 0)))), (mbb, .inl (cs 1, 9, .inr (.inl (fun _ => 0))))] := hD
            refine lv_aload_n hx hb dX12_chain_48 rfl (lv_at hl 0 rfl) ?_
            refine lv_iload_n hx hb dX12_chain_49 rfl (lv_at hl 2 rfl) ?_
            refine lv_iconst (v := nI 1) hx hb dX12_chain_50 (by decide) ?_
            refine lv_icmp_le (tgt := 58) hx hb dX12_chain_51 (by decide) (fun _ => ?_) (fun c => absurd (by decide) c)
            refine lv_iconst (v := nI 0) hx hb dX12_chain_58 (by decide) ?_
            refine xv (wr := []) (xV (As := [.int (nI 0)]) (rest := []) C (c_X12_laysSteps_0 l D cs hm ms mkp mtr mas mso mon mot man mst msm mtb mti mfr mbn mbs mde maa mab mba mbb 0 0) kX12_302 hP hD [0, 1, 2, 3, 4] rfl (by decide +kernel) 0 rfl rfl rfl ⟨Nat.le_of_ble_eq_true rfl, Nat.le_of_ble_eq_true rfl⟩ rfl hl.1 rfl (Nat.le_of_ble_eq_true rfl) dX12_chain_59 ⟨Nat.le_of_ble_eq_true rfl, Nat.le_of_ble_eq_true rfl⟩) hP hD hS hA [0, 1, 2, 3, 4] [] rfl rfl (by decide +kernel) (by decide +kernel) ?_
            clear hP hD hS
            try clear locs
            try clear H
            intro u_36 H locs hw_r_35 hP hD hS
            refine W.widen (k := 0) (n := 0) (Nat.le_of_ble_eq_true rfl) (Nat.le_of_ble_eq_true rfl) ?_
            replace hP : va_P D vwCl [(hm, .inr (12, [.ref ms, .ref mkp, .int (nI 0), .ref mtr, .int (nI 4), .int (nI 2), .int (nI 2), .int (nI 3), .int (nI 2), .int (nI 1), .ref mas, .int (nI 0), .int (nI 0), .int (nI 0), .ref mso, .ref mon, .ref mot, .ref man, .int (nI 0), .int (nI 0), .ref mst, .ref msm, .ref mtb, .ref mti, .ref mfr, .ref mbn, .ref mbs, .ref mde, .int (nI 0), .int (nI 0), .int (nI 0), .int (nI 0), .long 0, .long 1, .ref maa, .ref mab, .ref mba, .ref mbb])), (maa, .inl (cs 1, 9, .inr (.inl (lt4 0 0 1 1)))), (mab, .inl (cs 1, 9, .inr (.inl (lt4 1 1 2 1)))), (mba, .inl (cs 1, 9, .inr (.inl (lt4 0 0 0 0)))), (mbb, .inl (cs 1, 9, .inr (.inl (lt4 1 1 1 1))))] H := hP
            replace hD : va_D A [(hm, .inr (12, [.ref ms, .ref mkp, .int (nI 0), .ref mtr, .int (nI 4), .int (nI 2), .int (nI 2), .int (nI 3), .int (nI 2), .int (nI 1), .ref mas, .int (nI 0), .int (nI 0), .int (nI 0), .ref mso, .ref mon, .ref mot, .ref man, .int (nI 0), .int (nI 0), .ref mst, .ref msm, .ref mtb, .ref mti, .ref mfr, .ref mbn, .ref mbs, .ref mde, .int (nI 0), .int (nI 0), .int (nI 0), .int (nI 0), .long 0, .long 1, .ref maa, .ref mab, .ref mba, .ref mbb])), (maa, .inl (cs 1, 9, .inr (.inl (lt4 0 0 1 1)))), (mab, .inl (cs 1, 9, .inr (.inl (lt4 1 1 2 1)))), (mba, .inl (cs 1, 9, .inr (.inl (lt4 0 0 0 0)))), (mbb, .inl (cs 1, 9, .inr (.inl (lt4 1 1 1 1))))] := hD
            refine lv_aload_n hx hb dX12_chain_62 rfl (lv_at hl 0 rfl) ?_
            refine xget C hP 0 rfl rfl zuX12 31 (by decide) zw6_4 rfl dX12_chain_63 ?_
            refine lv_if_ne (tgt := 103) hx hb dX12_chain_66 (by decide) (fun c => absurd (by decide) c) (fun _ => ?_)
            refine lv_aload_n hx hb dX12_chain_69 rfl (lv_at hl 0 rfl) ?_
            refine lv_iload_n hx hb dX12_chain_70 rfl (lv_at hl 1 rfl) ?_
            refine lv_iload_n hx hb dX12_chain_71 rfl (lv_at hl 2 rfl) ?_
            refine lv_iconst (v := nI 1) hx hb dX12_chain_72 (by decide) ?_
            refine lv_icmp_le (tgt := 80) hx hb dX12_chain_73 (by decide) (fun _ => ?_) (fun c => absurd (by decide) c)
            refine lv_lconst (v := 1) hx hb dX12_chain_80 (by decide) ?_
            refine xv (wr := []) (xV (As := [.int (nI 2), .long 1]) (rest := []) C (c_X12_goesDown_0_2 l D cs hm ms mkp mtr mas mso mon mot man mst msm mtb mti mfr mbn mbs mde maa mab mba mbb 0 1) kX12_306 hP hD [0, 1, 2, 3, 4] rfl (by decide +kernel) 0 rfl rfl rfl ⟨Nat.le_of_ble_eq_true rfl, Nat.le_of_ble_eq_true rfl⟩ rfl hl.1 rfl (Nat.le_of_ble_eq_true rfl) dX12_chain_81 ⟨Nat.le_of_ble_eq_true rfl, Nat.le_of_ble_eq_true rfl⟩) hP hD hS hA [0, 1, 2, 3, 4] [] rfl rfl (by decide +kernel) (by decide +kernel) ?_
            clear hP hD hS
            try clear locs
            try clear H
            intro u_38 H locs hw_r_37 hP hD hS
            refine W.widen (k := 0) (n := 0) (Nat.le_of_ble_eq_true rfl) (Nat.le_of_ble_eq_true rfl) ?_
            replace hP : va_P D vwCl [(hm, .inr (12, [.ref ms, .ref mkp, .int (nI 0), .ref mtr, .int (nI 4), .int (nI 2), .int (nI 2), .int (nI 3), .int (nI 2), .int (nI 1), .ref mas, .int (nI 0), .int (nI 0), .int (nI 0), .ref mso, .ref mon, .ref mot, .ref man, .int (nI 0), .int (nI 0), .ref mst, .ref msm, .ref mtb, .ref mti, .ref mfr, .ref mbn, .ref mbs, .ref mde, .int (nI 0), .int (nI 0), .int (nI 0), .int (nI 0), .long 1, .long 2, .ref maa, .ref mab, .ref mba, .ref mbb])), (maa, .inl (cs 1, 9, .inr (.inl (lt4 0 0 1 1)))), (mab, .inl (cs 1, 9, .inr (.inl (lt4 1 1 2 1)))), (mba, .inl (cs 1, 9, .inr (.inl (lt4 0 0 0 0)))), (mbb, .inl (cs 1, 9, .inr (.inl (lt4 1 1 1 1))))] H := hP
            replace hD : va_D A [(hm, .inr (12, [.ref ms, .ref mkp, .int (nI 0), .ref mtr, .int (nI 4), .int (nI 2), .int (nI 2), .int (nI 3), .int (nI 2), .int (nI 1), .ref mas, .int (nI 0), .int (nI 0), .int (nI 0), .ref mso, .ref mon, .ref mot, .ref man, .int (nI 0), .int (nI 0), .ref mst, .ref msm, .ref mtb, .ref mti, .ref mfr, .ref mbn, .ref mbs, .ref mde, .int (nI 0), .int (nI 0), .int (nI 0), .int (nI 0), .long 1, .long 2, .ref maa, .ref mab, .ref mba, .ref mbb])), (maa, .inl (cs 1, 9, .inr (.inl (lt4 0 0 1 1)))), (mab, .inl (cs 1, 9, .inr (.inl (lt4 1 1 2 1)))), (mba, .inl (cs 1, 9, .inr (.inl (lt4 0 0 0 0)))), (mbb, .inl (cs 1, 9, .inr (.inl (lt4 1 1 1 1))))] := hD
            refine lv_iload_n hx hb dX12_chain_84 rfl (lv_at hl 2 rfl) ?_
            refine lv_iconst (v := nI 1) hx hb dX12_chain_85 (by decide) ?_
            refine lv_icmp_le (tgt := 103) hx hb dX12_chain_86 (by decide) (fun _ => ?_) (fun c => absurd (by decide) c)
            refine lv_aload_n hx hb dX12_chain_103 rfl (lv_at hl 0 rfl) ?_
            refine xget C hP 0 rfl rfl zuX12 31 (by decide) zw6_4 rfl dX12_chain_104 ?_
            refine lv_if_eq (tgt := 114) hx hb dX12_chain_107 (by decide) (fun _ => ?_) (fun c => absurd (by decide) c)
            refine lv_iload_n hx hb dX12_chain_114 rfl (lv_at hl 2 rfl) ?_
            refine lv_iconst (v := nI 2) hx hb dX12_chain_115 (by decide) ?_
            refine lv_irem hx hb dX12_chain_116 (by decide) ?_
            refine lv_topi (nm_r (e' := nI 1) (by decide) ?_)
            refine lv_if_ne (tgt := 127) hx hb dX12_chain_117 (by decide) (fun _ => ?_) (fun c => absurd c (by decide))
            refine lv_aload_n hx hb dX12_chain_127 rfl (lv_at hl 0 rfl) ?_
            refine xget C hP 0 rfl rfl zuX12 33 (by decide) zw6_6 rfl dX12_chain_128 ?_
            exact xretl C () (Or.inl ⟨2, 1, by decide, by decide, rfl, rfl, rfl⟩) (xP_map hP [] rfl) (hD.sub [] (by decide +kernel) rfl) hS (Nat.le_of_ble_eq_true rfl) (Nat.le_of_ble_eq_true rfl) dX12_chain_131
          · -- split
            replace hP : va_P D vwCl [(hm, .inr (12, [.ref ms, .ref mkp, .int (nI 0), .ref mtr, .int (nI 4), .int (nI 2), .int (nI 2), .int (nI 3), .int (nI 2), .int (nI 1), .ref mas, .int (nI 0), .int (nI 0), .int (nI 0), .ref mso, .ref mon, .ref mot, .ref man, .int (nI 0), .int (nI 0), .ref mst, .ref msm, .ref mtb, .ref mti, .ref mfr, .ref mbn, .ref mbs, .ref mde, .int (nI 0), .int (nI 0), .int (nI 0), .int (nI 0), .long 0, .long 0, .ref maa, .ref mab, .ref mba, .ref mbb])), (maa, .inl (cs 1, 9, .inr (.inl (fun _ => 0)))), (mab, .inl (cs 1, 9, .inr (.inl (fun _ => 0)))), (mba, .inl (cs 1, 9, .inr (.inl (fun _ => 0)))), (mbb, .inl (cs 1, 9, .inr (.inl (fun _ => 0))))] H := hP
            replace hD : va_D A [(hm, .inr (12, [.ref ms, .ref mkp, .int (nI 0), .ref mtr, .int (nI 4), .int (nI 2), .int (nI 2), .int (nI 3), .int (nI 2), .int (nI 1), .ref mas, .int (nI 0), .int (nI 0), .int (nI 0), .ref mso, .ref mon, .ref mot, .ref man, .int (nI 0), .int (nI 0), .ref mst, .ref msm, .ref mtb, .ref mti, .ref mfr, .ref mbn, .ref mbs, .ref mde, .int (nI 0), .int (nI 0), .int (nI 0), .int (nI 0), .long 0, .long 0, .ref maa, .ref mab, .ref mba, .ref mbb])), (maa, .inl (cs 1, 9, .inr (.inl (fun _ => 0)))), (mab, .inl (cs 1, 9, .inr (.inl (fun _ => 0)))), (mba, .inl (cs 1, 9, .inr (.inl (fun _ => 0)))), (mbb, .inl (cs 1, 9, .inr (.inl (fun _ => 0))))] := hD
            refine lv_aload_n hx hb dX12_chain_43 rfl (lv_at hl 0 rfl) ?_
            refine lv_iconst (v := nI 0) hx hb dX12_chain_44 (by decide) ?_
            refine xput C hP hD hS 0 rfl rfl zuX12 tyX12 tyX12_ok nmX12 31 (by decide) zw6_4 rfl rfl rfl (Nat.le_of_ble_eq_true rfl) dX12_chain_45 ?_
            clear hP hD hS
            try clear locs
            try clear H
            intro H locs hP hD hS
            replace hP : va_P D vwCl [(hm, .inr (12, [.ref ms, .ref mkp, .int (nI 0), .ref mtr, .int (nI 4), .int (nI 2), .int (nI 2), .int (nI 3), .int (nI 2), .int (nI 1), .ref mas, .int (nI 0), .int (nI 0), .int (nI 0), .ref mso, .ref mon, .ref mot, .ref man, .int (nI 0), .int (nI 0), .ref mst, .ref msm, .ref mtb, .ref mti, .ref mfr, .ref mbn, .ref mbs, .ref mde, .int (nI 0), .int (nI 0), .int (nI 0), .int (nI 0), .long 0, .long 0, .ref maa, .ref mab, .ref mba, .ref mbb])), (maa, .inl (cs 1, 9, .inr (.inl (fun _ => 0)))), (mab, .inl (cs 1, 9, .inr (.inl (fun _ => 0)))), (mba, .inl (cs 1, 9, .inr (.inl (fun _ => 0)))), (mbb, .inl (cs 1, 9, .inr (.inl (fun _ => 0))))] H := hP
            replace hD : va_D A [(hm, .inr (12, [.ref ms, .ref mkp, .int (nI 0), .ref mtr, .int (nI 4), .int (nI 2), .int (nI 2), .int (nI 3), .int (nI 2), .int (nI 1), .ref mas, .int (nI 0), .int (nI 0), .int (nI 0), .ref mso, .ref mon, .ref mot, .ref man, .int (nI 0), .int (nI 0), .ref mst, .ref msm, .ref mtb, .ref mti, .ref mfr, .ref mbn, .ref mbs, .ref mde, .int (nI 0), .int (nI 0), .int (nI 0), .int (nI 0), .long 0, .long 0, .ref maa, .ref mab, .ref mba, .ref mbb])), (maa, .inl (cs 1, 9, .inr (.inl (fun _ => 0)))), (mab, .inl (cs 1, 9, .inr (.inl (fun _ => 0)))), (mba, .inl (cs 1, 9, .inr (.inl (fun _ => 0)))), (mbb, .inl (cs 1, 9, .inr (.inl (fun _ => 0))))] := hD
            refine lv_aload_n hx hb dX12_chain_48 rfl (lv_at hl 0 rfl) ?_
            refine lv_iload_n hx hb dX12_chain_49 rfl (lv_at hl 2 rfl) ?_
            refine lv_iconst (v := nI 1) hx hb dX12_chain_50 (by decide) ?_
            refine lv_icmp_le (tgt := 58) hx hb dX12_chain_51 (by decide) (fun _ => ?_) (fun c => absurd (by decide) c)
            refine lv_iconst (v := nI 0) hx hb dX12_chain_58 (by decide) ?_
            refine xv (wr := []) (xV (As := [.int (nI 0)]) (rest := []) C (c_X12_laysSteps_0 l D cs hm ms mkp mtr mas mso mon mot man mst msm mtb mti mfr mbn mbs mde maa mab mba mbb 0 0) kX12_302 hP hD [0, 1, 2, 3, 4] rfl (by decide +kernel) 0 rfl rfl rfl ⟨Nat.le_of_ble_eq_true rfl, Nat.le_of_ble_eq_true rfl⟩ rfl hl.1 rfl (Nat.le_of_ble_eq_true rfl) dX12_chain_59 ⟨Nat.le_of_ble_eq_true rfl, Nat.le_of_ble_eq_true rfl⟩) hP hD hS hA [0, 1, 2, 3, 4] [] rfl rfl (by decide +kernel) (by decide +kernel) ?_
            clear hP hD hS
            try clear locs
            try clear H
            intro u_40 H locs hw_r_39 hP hD hS
            refine W.widen (k := 0) (n := 0) (Nat.le_of_ble_eq_true rfl) (Nat.le_of_ble_eq_true rfl) ?_
            replace hP : va_P D vwCl [(hm, .inr (12, [.ref ms, .ref mkp, .int (nI 0), .ref mtr, .int (nI 4), .int (nI 2), .int (nI 2), .int (nI 3), .int (nI 2), .int (nI 1), .ref mas, .int (nI 0), .int (nI 0), .int (nI 0), .ref mso, .ref mon, .ref mot, .ref man, .int (nI 0), .int (nI 0), .ref mst, .ref msm, .ref mtb, .ref mti, .ref mfr, .ref mbn, .ref mbs, .ref mde, .int (nI 0), .int (nI 0), .int (nI 0), .int (nI 0), .long 0, .long 1, .ref maa, .ref mab, .ref mba, .ref mbb])), (maa, .inl (cs 1, 9, .inr (.inl (lt4 0 0 1 1)))), (mab, .inl (cs 1, 9, .inr (.inl (lt4 1 1 2 1)))), (mba, .inl (cs 1, 9, .inr (.inl (lt4 0 0 0 0)))), (mbb, .inl (cs 1, 9, .inr (.inl (lt4 1 1 1 1))))] H := hP
            replace hD : va_D A [(hm, .inr (12, [.ref ms, .ref mkp, .int (nI 0), .ref mtr, .int (nI 4), .int (nI 2), .int (nI 2), .int (nI 3), .int (nI 2), .int (nI 1), .ref mas, .int (nI 0), .int (nI 0), .int (nI 0), .ref mso, .ref mon, .ref mot, .ref man, .int (nI 0), .int (nI 0), .ref mst, .ref msm, .ref mtb, .ref mti, .ref mfr, .ref mbn, .ref mbs, .ref mde, .int (nI 0), .int (nI 0), .int (nI 0), .int (nI 0), .long 0, .long 1, .ref maa, .ref mab, .ref mba, .ref mbb])), (maa, .inl (cs 1, 9, .inr (.inl (lt4 0 0 1 1)))), (mab, .inl (cs 1, 9, .inr (.inl (lt4 1 1 2 1)))), (mba, .inl (cs 1, 9, .inr (.inl (lt4 0 0 0 0)))), (mbb, .inl (cs 1, 9, .inr (.inl (lt4 1 1 1 1))))] := hD
            refine lv_aload_n hx hb dX12_chain_62 rfl (lv_at hl 0 rfl) ?_
            refine xget C hP 0 rfl rfl zuX12 31 (by decide) zw6_4 rfl dX12_chain_63 ?_
            refine lv_if_ne (tgt := 103) hx hb dX12_chain_66 (by decide) (fun c => absurd (by decide) c) (fun _ => ?_)
            refine lv_aload_n hx hb dX12_chain_69 rfl (lv_at hl 0 rfl) ?_
            refine lv_iload_n hx hb dX12_chain_70 rfl (lv_at hl 1 rfl) ?_
            refine lv_iload_n hx hb dX12_chain_71 rfl (lv_at hl 2 rfl) ?_
            refine lv_iconst (v := nI 1) hx hb dX12_chain_72 (by decide) ?_
            refine lv_icmp_le (tgt := 80) hx hb dX12_chain_73 (by decide) (fun _ => ?_) (fun c => absurd (by decide) c)
            refine lv_lconst (v := 1) hx hb dX12_chain_80 (by decide) ?_
            refine xv (wr := []) (xV (As := [.int (nI 3), .long 1]) (rest := []) C (c_X12_goesDown_0_3 l D cs hm ms mkp mtr mas mso mon mot man mst msm mtb mti mfr mbn mbs mde maa mab mba mbb 0 1) kX12_306 hP hD [0, 1, 2, 3, 4] rfl (by decide +kernel) 0 rfl rfl rfl ⟨Nat.le_of_ble_eq_true rfl, Nat.le_of_ble_eq_true rfl⟩ rfl hl.1 rfl (Nat.le_of_ble_eq_true rfl) dX12_chain_81 ⟨Nat.le_of_ble_eq_true rfl, Nat.le_of_ble_eq_true rfl⟩) hP hD hS hA [0, 1, 2, 3, 4] [] rfl rfl (by decide +kernel) (by decide +kernel) ?_
            clear hP hD hS
            try clear locs
            try clear H
            intro u_42 H locs hw_r_41 hP hD hS
            refine W.widen (k := 0) (n := 0) (Nat.le_of_ble_eq_true rfl) (Nat.le_of_ble_eq_true rfl) ?_
            replace hP : va_P D vwCl [(hm, .inr (12, [.ref ms, .ref mkp, .int (nI 0), .ref mtr, .int (nI 4), .int (nI 2), .int (nI 2), .int (nI 3), .int (nI 2), .int (nI 1), .ref mas, .int (nI 0), .int (nI 0), .int (nI 0), .ref mso, .ref mon, .ref mot, .ref man, .int (nI 0), .int (nI 0), .ref mst, .ref msm, .ref mtb, .ref mti, .ref mfr, .ref mbn, .ref mbs, .ref mde, .int (nI 0), .int (nI 0), .int (nI 0), .int (nI 0), .long 1, .long 1, .ref maa, .ref mab, .ref mba, .ref mbb])), (maa, .inl (cs 1, 9, .inr (.inl (lt4 0 0 1 1)))), (mab, .inl (cs 1, 9, .inr (.inl (lt4 1 1 2 1)))), (mba, .inl (cs 1, 9, .inr (.inl (lt4 0 0 0 0)))), (mbb, .inl (cs 1, 9, .inr (.inl (lt4 1 1 1 1))))] H := hP
            replace hD : va_D A [(hm, .inr (12, [.ref ms, .ref mkp, .int (nI 0), .ref mtr, .int (nI 4), .int (nI 2), .int (nI 2), .int (nI 3), .int (nI 2), .int (nI 1), .ref mas, .int (nI 0), .int (nI 0), .int (nI 0), .ref mso, .ref mon, .ref mot, .ref man, .int (nI 0), .int (nI 0), .ref mst, .ref msm, .ref mtb, .ref mti, .ref mfr, .ref mbn, .ref mbs, .ref mde, .int (nI 0), .int (nI 0), .int (nI 0), .int (nI 0), .long 1, .long 1, .ref maa, .ref mab, .ref mba, .ref mbb])), (maa, .inl (cs 1, 9, .inr (.inl (lt4 0 0 1 1)))), (mab, .inl (cs 1, 9, .inr (.inl (lt4 1 1 2 1)))), (mba, .inl (cs 1, 9, .inr (.inl (lt4 0 0 0 0)))), (mbb, .inl (cs 1, 9, .inr (.inl (lt4 1 1 1 1))))] := hD
            refine lv_iload_n hx hb dX12_chain_84 rfl (lv_at hl 2 rfl) ?_
            refine lv_iconst (v := nI 1) hx hb dX12_chain_85 (by decide) ?_
            refine lv_icmp_le (tgt := 103) hx hb dX12_chain_86 (by decide) (fun _ => ?_) (fun c => absurd (by decide) c)
            refine lv_aload_n hx hb dX12_chain_103 rfl (lv_at hl 0 rfl) ?_
            refine xget C hP 0 rfl rfl zuX12 31 (by decide) zw6_4 rfl dX12_chain_104 ?_
            refine lv_if_eq (tgt := 114) hx hb dX12_chain_107 (by decide) (fun _ => ?_) (fun c => absurd (by decide) c)
            refine lv_iload_n hx hb dX12_chain_114 rfl (lv_at hl 2 rfl) ?_
            refine lv_iconst (v := nI 2) hx hb dX12_chain_115 (by decide) ?_
            refine lv_irem hx hb dX12_chain_116 (by decide) ?_
            refine lv_topi (nm_r (e' := nI 1) (by decide) ?_)
            refine lv_if_ne (tgt := 127) hx hb dX12_chain_117 (by decide) (fun _ => ?_) (fun c => absurd c (by decide))
            refine lv_aload_n hx hb dX12_chain_127 rfl (lv_at hl 0 rfl) ?_
            refine xget C hP 0 rfl rfl zuX12 33 (by decide) zw6_6 rfl dX12_chain_128 ?_
            exact xretl C () (Or.inl ⟨3, 1, by decide, by decide, rfl, rfl, rfl⟩) (xP_map hP [] rfl) (hD.sub [] (by decide +kernel) rfl) hS (Nat.le_of_ble_eq_true rfl) (Nat.le_of_ble_eq_true rfl) dX12_chain_131
          · -- split
            replace hP : va_P D vwCl [(hm, .inr (12, [.ref ms, .ref mkp, .int (nI 0), .ref mtr, .int (nI 4), .int (nI 2), .int (nI 2), .int (nI 3), .int (nI 2), .int (nI 1), .ref mas, .int (nI 0), .int (nI 0), .int (nI 0), .ref mso, .ref mon, .ref mot, .ref man, .int (nI 0), .int (nI 0), .ref mst, .ref msm, .ref mtb, .ref mti, .ref mfr, .ref mbn, .ref mbs, .ref mde, .int (nI 0), .int (nI 0), .int (nI 0), .int (nI 0), .long 0, .long 0, .ref maa, .ref mab, .ref mba, .ref mbb])), (maa, .inl (cs 1, 9, .inr (.inl (fun _ => 0)))), (mab, .inl (cs 1, 9, .inr (.inl (fun _ => 0)))), (mba, .inl (cs 1, 9, .inr (.inl (fun _ => 0)))), (mbb, .inl (cs 1, 9, .inr (.inl (fun _ => 0))))] H := hP
            replace hD : va_D A [(hm, .inr (12, [.ref ms, .ref mkp, .int (nI 0), .ref mtr, .int (nI 4), .int (nI 2), .int (nI 2), .int (nI 3), .int (nI 2), .int (nI 1), .ref mas, .int (nI 0), .int (nI 0), .int (nI 0), .ref mso, .ref mon, .ref mot, .ref man, .int (nI 0), .int (nI 0), .ref mst, .ref msm, .ref mtb, .ref mti, .ref mfr, .ref mbn, .ref mbs, .ref mde, .int (nI 0), .int (nI 0), .int (nI 0), .int (nI 0), .long 0, .long 0, .ref maa, .ref mab, .ref mba, .ref mbb])), (maa, .inl (cs 1, 9, .inr (.inl (fun _ => 0)))), (mab, .inl (cs 1, 9, .inr (.inl (fun _ => 0)))), (mba, .inl (cs 1, 9, .inr (.inl (fun _ => 0)))), (mbb, .inl (cs 1, 9, .inr (.inl (fun _ => 0))))] := hD
            refine lv_aload_n hx hb dX12_chain_43 rfl (lv_at hl 0 rfl) ?_
            refine lv_iconst (v := nI 0) hx hb dX12_chain_44 (by decide) ?_
            refine xput C hP hD hS 0 rfl rfl zuX12 tyX12 tyX12_ok nmX12 31 (by decide) zw6_4 rfl rfl rfl (Nat.le_of_ble_eq_true rfl) dX12_chain_45 ?_
            clear hP hD hS
            try clear locs
            try clear H
            intro H locs hP hD hS
            replace hP : va_P D vwCl [(hm, .inr (12, [.ref ms, .ref mkp, .int (nI 0), .ref mtr, .int (nI 4), .int (nI 2), .int (nI 2), .int (nI 3), .int (nI 2), .int (nI 1), .ref mas, .int (nI 0), .int (nI 0), .int (nI 0), .ref mso, .ref mon, .ref mot, .ref man, .int (nI 0), .int (nI 0), .ref mst, .ref msm, .ref mtb, .ref mti, .ref mfr, .ref mbn, .ref mbs, .ref mde, .int (nI 0), .int (nI 0), .int (nI 0), .int (nI 0), .long 0, .long 0, .ref maa, .ref mab, .ref mba, .ref mbb])), (maa, .inl (cs 1, 9, .inr (.inl (fun _ => 0)))), (mab, .inl (cs 1, 9, .inr (.inl (fun _ => 0)))), (mba, .inl (cs 1, 9, .inr (.inl (fun _ => 0)))), (mbb, .inl (cs 1, 9, .inr (.inl (fun _ => 0))))] H := hP
            replace hD : va_D A [(hm, .inr (12, [.ref ms, .ref mkp, .int (nI 0), .ref mtr, .int (nI 4), .int (nI 2), .int (nI 2), .int (nI 3), .int (nI 2), .int (nI 1), .ref mas, .int (nI 0), .int (nI 0), .int (nI 0), .ref mso, .ref mon, .ref mot, .ref man, .int (nI 0), .int (nI 0), .ref mst, .ref msm, .ref mtb, .ref mti, .ref mfr, .ref mbn, .ref mbs, .ref mde, .int (nI 0), .int (nI 0), .int (nI 0), .int (nI 0), .long 0, .long 0, .ref maa, .ref mab, .ref mba, .ref mbb])), (maa, .inl (cs 1, 9, .inr (.inl (fun _ => 0)))), (mab, .inl (cs 1, 9, .inr (.inl (fun _ => 0)))), (mba, .inl (cs 1, 9, .inr (.inl (fun _ => 0)))), (mbb, .inl (cs 1, 9, .inr (.inl (fun _ => 0))))] := hD
            refine lv_aload_n hx hb dX12_chain_48 rfl (lv_at hl 0 rfl) ?_
            refine lv_iload_n hx hb dX12_chain_49 rfl (lv_at hl 2 rfl) ?_
            refine lv_iconst (v := nI 1) hx hb dX12_chain_50 (by decide) ?_
            refine lv_icmp_le (tgt := 58) hx hb dX12_chain_51 (by decide) (fun _ => ?_) (fun c => absurd (by decide) c)
            refine lv_iconst (v := nI 0) hx hb dX12_chain_58 (by decide) ?_
            refine xv (wr := []) (xV (As := [.int (nI 0)]) (rest := []) C (c_X12_laysSteps_0 l D cs hm ms mkp mtr mas mso mon mot man mst msm mtb mti mfr mbn mbs mde maa mab mba mbb 0 0) kX12_302 hP hD [0, 1, 2, 3, 4] rfl (by decide +kernel) 0 rfl rfl rfl ⟨Nat.le_of_ble_eq_true rfl, Nat.le_of_ble_eq_true rfl⟩ rfl hl.1 rfl (Nat.le_of_ble_eq_true rfl) dX12_chain_59 ⟨Nat.le_of_ble_eq_true rfl, Nat.le_of_ble_eq_true rfl⟩) hP hD hS hA [0, 1, 2, 3, 4] [] rfl rfl (by decide +kernel) (by decide +kernel) ?_
            clear hP hD hS
            try clear locs
            try clear H
            intro u_44 H locs hw_r_43 hP hD hS
            refine W.widen (k := 0) (n := 0) (Nat.le_of_ble_eq_true rfl) (Nat.le_of_ble_eq_true rfl) ?_
            replace hP : va_P D vwCl [(hm, .inr (12, [.ref ms, .ref mkp, .int (nI 0), .ref mtr, .int (nI 4), .int (nI 2), .int (nI 2), .int (nI 3), .int (nI 2), .int (nI 1), .ref mas, .int (nI 0), .int (nI 0), .int (nI 0), .ref mso, .ref mon, .ref mot, .ref man, .int (nI 0), .int (nI 0), .ref mst, .ref msm, .ref mtb, .ref mti, .ref mfr, .ref mbn, .ref mbs, .ref mde, .int (nI 0), .int (nI 0), .int (nI 0), .int (nI 0), .long 0, .long 1, .ref maa, .ref mab, .ref mba, .ref mbb])), (maa, .inl (cs 1, 9, .inr (.inl (lt4 0 0 1 1)))), (mab, .inl (cs 1, 9, .inr (.inl (lt4 1 1 2 1)))), (mba, .inl (cs 1, 9, .inr (.inl (lt4 0 0 0 0)))), (mbb, .inl (cs 1, 9, .inr (.inl (lt4 1 1 1 1))))] H := hP
            replace hD : va_D A [(hm, .inr (12, [.ref ms, .ref mkp, .int (nI 0), .ref mtr, .int (nI 4), .int (nI 2), .int (nI 2), .int (nI 3), .int (nI 2), .int (nI 1), .ref mas, .int (nI 0), .int (nI 0), .int (nI 0), .ref mso, .ref mon, .ref mot, .ref man, .int (nI 0), .int (nI 0), .ref mst, .ref msm, .ref mtb, .ref mti, .ref mfr, .ref mbn, .ref mbs, .ref mde, .int (nI 0), .int (nI 0), .int (nI 0), .int (nI 0), .long 0, .long 1, .ref maa, .ref mab, .ref mba, .ref mbb])), (maa, .inl (cs 1, 9, .inr (.inl (lt4 0 0 1 1)))), (mab, .inl (cs 1, 9, .inr (.inl (lt4 1 1 2 1)))), (mba, .inl (cs 1, 9, .inr (.inl (lt4 0 0 0 0)))), (mbb, .inl (cs 1, 9, .inr (.inl (lt4 1 1 1 1))))] := hD
            refine lv_aload_n hx hb dX12_chain_62 rfl (lv_at hl 0 rfl) ?_
            refine xget C hP 0 rfl rfl zuX12 31 (by decide) zw6_4 rfl dX12_chain_63 ?_
            refine lv_if_ne (tgt := 103) hx hb dX12_chain_66 (by decide) (fun c => absurd (by decide) c) (fun _ => ?_)
            refine lv_aload_n hx hb dX12_chain_69 rfl (lv_at hl 0 rfl) ?_
            refine lv_iload_n hx hb dX12_chain_70 rfl (lv_at hl 1 rfl) ?_
            refine lv_iload_n hx hb dX12_chain_71 rfl (lv_at hl 2 rfl) ?_
            refine lv_iconst (v := nI 1) hx hb dX12_chain_72 (by decide) ?_
            refine lv_icmp_le (tgt := 80) hx hb dX12_chain_73 (by decide) (fun _ => ?_) (fun c => absurd (by decide) c)
            refine lv_lconst (v := 1) hx hb dX12_chain_80 (by decide) ?_
            refine xv (wr := []) (xV (As := [.int (nI 4), .long 1]) (rest := []) C (c_X12_goesDown_0_4 l D cs hm ms mkp mtr mas mso mon mot man mst msm mtb mti mfr mbn mbs mde maa mab mba mbb 0 1) kX12_306 hP hD [0, 1, 2, 3, 4] rfl (by decide +kernel) 0 rfl rfl rfl ⟨Nat.le_of_ble_eq_true rfl, Nat.le_of_ble_eq_true rfl⟩ rfl hl.1 rfl (Nat.le_of_ble_eq_true rfl) dX12_chain_81 ⟨Nat.le_of_ble_eq_true rfl, Nat.le_of_ble_eq_true rfl⟩) hP hD hS hA [0, 1, 2, 3, 4] [] rfl rfl (by decide +kernel) (by decide +kernel) ?_
            clear hP hD hS
            try clear locs
            try clear H
            intro u_46 H locs hw_r_45 hP hD hS
            refine W.widen (k := 0) (n := 0) (Nat.le_of_ble_eq_true rfl) (Nat.le_of_ble_eq_true rfl) ?_
            replace hP : va_P D vwCl [(hm, .inr (12, [.ref ms, .ref mkp, .int (nI 0), .ref mtr, .int (nI 4), .int (nI 2), .int (nI 2), .int (nI 3), .int (nI 2), .int (nI 1), .ref mas, .int (nI 0), .int (nI 0), .int (nI 0), .ref mso, .ref mon, .ref mot, .ref man, .int (nI 0), .int (nI 0), .ref mst, .ref msm, .ref mtb, .ref mti, .ref mfr, .ref mbn, .ref mbs, .ref mde, .int (nI 0), .int (nI 0), .int (nI 0), .int (nI 0), .long 1, .long 1, .ref maa, .ref mab, .ref mba, .ref mbb])), (maa, .inl (cs 1, 9, .inr (.inl (lt4 0 0 1 1)))), (mab, .inl (cs 1, 9, .inr (.inl (lt4 1 1 2 1)))), (mba, .inl (cs 1, 9, .inr (.inl (lt4 0 0 0 0)))), (mbb, .inl (cs 1, 9, .inr (.inl (lt4 1 1 1 1))))] H := hP
            replace hD : va_D A [(hm, .inr (12, [.ref ms, .ref mkp, .int (nI 0), .ref mtr, .int (nI 4), .int (nI 2), .int (nI 2), .int (nI 3), .int (nI 2), .int (nI 1), .ref mas, .int (nI 0), .int (nI 0), .int (nI 0), .ref mso, .ref mon, .ref mot, .ref man, .int (nI 0), .int (nI 0), .ref mst, .ref msm, .ref mtb, .ref mti, .ref mfr, .ref mbn, .ref mbs, .ref mde, .int (nI 0), .int (nI 0), .int (nI 0), .int (nI 0), .long 1, .long 1, .ref maa, .ref mab, .ref mba, .ref mbb])), (maa, .inl (cs 1, 9, .inr (.inl (lt4 0 0 1 1)))), (mab, .inl (cs 1, 9, .inr (.inl (lt4 1 1 2 1)))), (mba, .inl (cs 1, 9, .inr (.inl (lt4 0 0 0 0)))), (mbb, .inl (cs 1, 9, .inr (.inl (lt4 1 1 1 1))))] := hD
            refine lv_iload_n hx hb dX12_chain_84 rfl (lv_at hl 2 rfl) ?_
            refine lv_iconst (v := nI 1) hx hb dX12_chain_85 (by decide) ?_
            refine lv_icmp_le (tgt := 103) hx hb dX12_chain_86 (by decide) (fun _ => ?_) (fun c => absurd (by decide) c)
            refine lv_aload_n hx hb dX12_chain_103 rfl (lv_at hl 0 rfl) ?_
            refine xget C hP 0 rfl rfl zuX12 31 (by decide) zw6_4 rfl dX12_chain_104 ?_
            refine lv_if_eq (tgt := 114) hx hb dX12_chain_107 (by decide) (fun _ => ?_) (fun c => absurd (by decide) c)
            refine lv_iload_n hx hb dX12_chain_114 rfl (lv_at hl 2 rfl) ?_
            refine lv_iconst (v := nI 2) hx hb dX12_chain_115 (by decide) ?_
            refine lv_irem hx hb dX12_chain_116 (by decide) ?_
            refine lv_topi (nm_r (e' := nI 1) (by decide) ?_)
            refine lv_if_ne (tgt := 127) hx hb dX12_chain_117 (by decide) (fun _ => ?_) (fun c => absurd c (by decide))
            refine lv_aload_n hx hb dX12_chain_127 rfl (lv_at hl 0 rfl) ?_
            refine xget C hP 0 rfl rfl zuX12 33 (by decide) zw6_6 rfl dX12_chain_128 ?_
            exact xretl C () (Or.inl ⟨4, 1, by decide, by decide, rfl, rfl, rfl⟩) (xP_map hP [] rfl) (hD.sub [] (by decide +kernel) rfl) hS (Nat.le_of_ble_eq_true rfl) (Nat.le_of_ble_eq_true rfl) dX12_chain_131
        · -- k = 2
          replace hP : va_P D vwCl [(hm, .inr (12, [.ref ms, .ref mkp, .int (nI 0), .ref mtr, .int (nI 4), .int (nI 2), .int (nI 2), .int (nI 3), .int (nI 2), .int (nI 1), .ref mas, .int (nI 0), .int (nI 0), .int (nI 0), .ref mso, .ref mon, .ref mot, .ref man, .int (nI 0), .int (nI 0), .ref mst, .ref msm, .ref mtb, .ref mti, .ref mfr, .ref mbn, .ref mbs, .ref mde, .int (nI 0), .int (nI 0), .int (nI 0), .int (nI 0), .long 0, .long 0, .ref maa, .ref mab, .ref mba, .ref mbb])), (maa, .inl (cs 1, 9, .inr (.inl (fun _ => 0)))), (mab, .inl (cs 1, 9, .inr (.inl (fun _ => 0)))), (mba, .inl (cs 1, 9, .inr (.inl (fun _ => 0)))), (mbb, .inl (cs 1, 9, .inr (.inl (fun _ => 0))))] H := hP
          replace hD : va_D A [(hm, .inr (12, [.ref ms, .ref mkp, .int (nI 0), .ref mtr, .int (nI 4), .int (nI 2), .int (nI 2), .int (nI 3), .int (nI 2), .int (nI 1), .ref mas, .int (nI 0), .int (nI 0), .int (nI 0), .ref mso, .ref mon, .ref mot, .ref man, .int (nI 0), .int (nI 0), .ref mst, .ref msm, .ref mtb, .ref mti, .ref mfr, .ref mbn, .ref mbs, .ref mde, .int (nI 0), .int (nI 0), .int (nI 0), .int (nI 0), .long 0, .long 0, .ref maa, .ref mab, .ref mba, .ref mbb])), (maa, .inl (cs 1, 9, .inr (.inl (fun _ => 0)))), (mab, .inl (cs 1, 9, .inr (.inl (fun _ => 0)))), (mba, .inl (cs 1, 9, .inr (.inl (fun _ => 0)))), (mbb, .inl (cs 1, 9, .inr (.inl (fun _ => 0))))] := hD
          refine lv_iconst (v := nI 1) hx hb dX12_chain_27 (by decide) ?_
          refine lv_icmp_le (tgt := 43) hx hb dX12_chain_28 (by decide) (fun c => absurd c (by decide)) (fun _ => ?_)
          refine lv_aload_n hx hb dX12_chain_31 rfl (lv_at hl 0 rfl) ?_
          refine lv_iload_n hx hb dX12_chain_32 rfl (lv_at hl 1 rfl) ?_
          rcases (show j = 0 ∨ j = 1 ∨ j = 2 ∨ j = 3 ∨ j = 4 by omega) with rfl | rfl | rfl | rfl | rfl
          · -- split
            replace hP : va_P D vwCl [(hm, .inr (12, [.ref ms, .ref mkp, .int (nI 0), .ref mtr, .int (nI 4), .int (nI 2), .int (nI 2), .int (nI 3), .int (nI 2), .int (nI 1), .ref mas, .int (nI 0), .int (nI 0), .int (nI 0), .ref mso, .ref mon, .ref mot, .ref man, .int (nI 0), .int (nI 0), .ref mst, .ref msm, .ref mtb, .ref mti, .ref mfr, .ref mbn, .ref mbs, .ref mde, .int (nI 0), .int (nI 0), .int (nI 0), .int (nI 0), .long 0, .long 0, .ref maa, .ref mab, .ref mba, .ref mbb])), (maa, .inl (cs 1, 9, .inr (.inl (fun _ => 0)))), (mab, .inl (cs 1, 9, .inr (.inl (fun _ => 0)))), (mba, .inl (cs 1, 9, .inr (.inl (fun _ => 0)))), (mbb, .inl (cs 1, 9, .inr (.inl (fun _ => 0))))] H := hP
            replace hD : va_D A [(hm, .inr (12, [.ref ms, .ref mkp, .int (nI 0), .ref mtr, .int (nI 4), .int (nI 2), .int (nI 2), .int (nI 3), .int (nI 2), .int (nI 1), .ref mas, .int (nI 0), .int (nI 0), .int (nI 0), .ref mso, .ref mon, .ref mot, .ref man, .int (nI 0), .int (nI 0), .ref mst, .ref msm, .ref mtb, .ref mti, .ref mfr, .ref mbn, .ref mbs, .ref mde, .int (nI 0), .int (nI 0), .int (nI 0), .int (nI 0), .long 0, .long 0, .ref maa, .ref mab, .ref mba, .ref mbb])), (maa, .inl (cs 1, 9, .inr (.inl (fun _ => 0)))), (mab, .inl (cs 1, 9, .inr (.inl (fun _ => 0)))), (mba, .inl (cs 1, 9, .inr (.inl (fun _ => 0)))), (mbb, .inl (cs 1, 9, .inr (.inl (fun _ => 0))))] := hD
            refine xi (wr := [(maa, .inl (cs 1, 9, .inr (.inl (fun _ => 0)))), (mab, .inl (cs 1, 9, .inr (.inl (fun _ => 0)))), (mba, .inl (cs 1, 9, .inr (.inl (fun _ => 0)))), (mbb, .inl (cs 1, 9, .inr (.inl (fun _ => 0))))]) (xV (As := [.int (nI 0)]) (rest := []) C (c_X12_mayStay_0 l D cs hm ms mkp mtr mas mso mon mot man mst msm mtb mti mfr mbn mbs mde maa mab mba mbb 0 0) kX12_299 hP hD [0] rfl (by decide +kernel) 0 rfl rfl rfl ⟨Nat.le_of_ble_eq_true rfl, Nat.le_of_ble_eq_true rfl⟩ rfl hl.1 rfl (Nat.le_of_ble_eq_true rfl) dX12_chain_33 ⟨Nat.le_of_ble_eq_true rfl, Nat.le_of_ble_eq_true rfl⟩) hP hD hS hA [0] [1, 2, 3, 4] rfl rfl (by decide +kernel) (by decide +kernel) ?_
            clear hP hD hS
            try clear locs
            try clear H
            intro r_47 u_48 H locs hw_r_47 hP hD hS
            have hw_r_47 : r_47 = nI 0 := hw_r_47
            refine W.widen (k := 0) (n := 0) (Nat.le_of_ble_eq_true rfl) (Nat.le_of_ble_eq_true rfl) ?_
            replace hP : va_P D vwCl [(maa, .inl (cs 1, 9, .inr (.inl (fun _ => 0)))), (mab, .inl (cs 1, 9, .inr (.inl (fun _ => 0)))), (mba, .inl (cs 1, 9, .inr (.inl (fun _ => 0)))), (mbb, .inl (cs 1, 9, .inr (.inl (fun _ => 0)))), (hm, .inr (12, [.ref ms, .ref mkp, .int (nI 0), .ref mtr, .int (nI 4), .int (nI 2), .int (nI 2), .int (nI 3), .int (nI 2), .int (nI 1), .ref mas, .int (nI 0), .int (nI 0), .int (nI 0), .ref mso, .ref mon, .ref mot, .ref man, .int (nI 0), .int (nI 0), .ref mst, .ref msm, .ref mtb, .ref mti, .ref mfr, .ref mbn, .ref mbs, .ref mde, .int (nI 0), .int (nI 0), .int (nI 0), .int (nI 0), .long 0, .long 0, .ref maa, .ref mab, .ref mba, .ref mbb]))] H := hP
            replace hD : va_D A [(maa, .inl (cs 1, 9, .inr (.inl (fun _ => 0)))), (mab, .inl (cs 1, 9, .inr (.inl (fun _ => 0)))), (mba, .inl (cs 1, 9, .inr (.inl (fun _ => 0)))), (mbb, .inl (cs 1, 9, .inr (.inl (fun _ => 0)))), (hm, .inr (12, [.ref ms, .ref mkp, .int (nI 0), .ref mtr, .int (nI 4), .int (nI 2), .int (nI 2), .int (nI 3), .int (nI 2), .int (nI 1), .ref mas, .int (nI 0), .int (nI 0), .int (nI 0), .ref mso, .ref mon, .ref mot, .ref man, .int (nI 0), .int (nI 0), .ref mst, .ref msm, .ref mtb, .ref mti, .ref mfr, .ref mbn, .ref mbs, .ref mde, .int (nI 0), .int (nI 0), .int (nI 0), .int (nI 0), .long 0, .long 0, .ref maa, .ref mab, .ref mba, .ref mbb]))] := hD
            subst hw_r_47
            refine lv_if_eq (tgt := 43) hx hb dX12_chain_36 (by decide) (fun _ => ?_) (fun c => absurd (by decide) c)
            rcases (show True from trivial) with _
            · -- split
              refine lv_aload_n hx hb dX12_chain_43 rfl (lv_at hl 0 rfl) ?_
              refine lv_iconst (v := nI 0) hx hb dX12_chain_44 (by decide) ?_
              refine xput C hP hD hS 4 rfl rfl zuX12 tyX12 tyX12_ok nmX12 31 (by decide) zw6_4 rfl rfl rfl (Nat.le_of_ble_eq_true rfl) dX12_chain_45 ?_
              clear hP hD hS
              try clear locs
              try clear H
              intro H locs hP hD hS
              replace hP : va_P D vwCl [(maa, .inl (cs 1, 9, .inr (.inl (fun _ => 0)))), (mab, .inl (cs 1, 9, .inr (.inl (fun _ => 0)))), (mba, .inl (cs 1, 9, .inr (.inl (fun _ => 0)))), (mbb, .inl (cs 1, 9, .inr (.inl (fun _ => 0)))), (hm, .inr (12, [.ref ms, .ref mkp, .int (nI 0), .ref mtr, .int (nI 4), .int (nI 2), .int (nI 2), .int (nI 3), .int (nI 2), .int (nI 1), .ref mas, .int (nI 0), .int (nI 0), .int (nI 0), .ref mso, .ref mon, .ref mot, .ref man, .int (nI 0), .int (nI 0), .ref mst, .ref msm, .ref mtb, .ref mti, .ref mfr, .ref mbn, .ref mbs, .ref mde, .int (nI 0), .int (nI 0), .int (nI 0), .int (nI 0), .long 0, .long 0, .ref maa, .ref mab, .ref mba, .ref mbb]))] H := hP
              replace hD : va_D A [(maa, .inl (cs 1, 9, .inr (.inl (fun _ => 0)))), (mab, .inl (cs 1, 9, .inr (.inl (fun _ => 0)))), (mba, .inl (cs 1, 9, .inr (.inl (fun _ => 0)))), (mbb, .inl (cs 1, 9, .inr (.inl (fun _ => 0)))), (hm, .inr (12, [.ref ms, .ref mkp, .int (nI 0), .ref mtr, .int (nI 4), .int (nI 2), .int (nI 2), .int (nI 3), .int (nI 2), .int (nI 1), .ref mas, .int (nI 0), .int (nI 0), .int (nI 0), .ref mso, .ref mon, .ref mot, .ref man, .int (nI 0), .int (nI 0), .ref mst, .ref msm, .ref mtb, .ref mti, .ref mfr, .ref mbn, .ref mbs, .ref mde, .int (nI 0), .int (nI 0), .int (nI 0), .int (nI 0), .long 0, .long 0, .ref maa, .ref mab, .ref mba, .ref mbb]))] := hD
              refine lv_aload_n hx hb dX12_chain_48 rfl (lv_at hl 0 rfl) ?_
              refine lv_iload_n hx hb dX12_chain_49 rfl (lv_at hl 2 rfl) ?_
              refine lv_iconst (v := nI 1) hx hb dX12_chain_50 (by decide) ?_
              refine lv_icmp_le (tgt := 58) hx hb dX12_chain_51 (by decide) (fun c => absurd c (by decide)) (fun _ => ?_)
              refine lv_iconst (v := nI 1) hx hb dX12_chain_54 (by decide) ?_
              refine lv_goto (tgt := 59) hx hb dX12_chain_55 (by decide) ?_
              refine xv (wr := []) (xV (As := [.int (nI 1)]) (rest := []) C (c_X12_laysSteps_1 l D cs hm ms mkp mtr mas mso mon mot man mst msm mtb mti mfr mbn mbs mde maa mab mba mbb 0 0) kX12_302 hP hD [4, 0, 1, 2, 3] rfl (by decide +kernel) 0 rfl rfl rfl ⟨Nat.le_of_ble_eq_true rfl, Nat.le_of_ble_eq_true rfl⟩ rfl hl.1 rfl (Nat.le_of_ble_eq_true rfl) dX12_chain_59 ⟨Nat.le_of_ble_eq_true rfl, Nat.le_of_ble_eq_true rfl⟩) hP hD hS hA [4, 0, 1, 2, 3] [] rfl rfl (by decide +kernel) (by decide +kernel) ?_
              clear hP hD hS
              try clear locs
              try clear H
              intro u_50 H locs hw_r_49 hP hD hS
              refine W.widen (k := 0) (n := 0) (Nat.le_of_ble_eq_true rfl) (Nat.le_of_ble_eq_true rfl) ?_
              replace hP : va_P D vwCl [(hm, .inr (12, [.ref ms, .ref mkp, .int (nI 0), .ref mtr, .int (nI 4), .int (nI 2), .int (nI 2), .int (nI 3), .int (nI 2), .int (nI 1), .ref mas, .int (nI 0), .int (nI 0), .int (nI 0), .ref mso, .ref mon, .ref mot, .ref man, .int (nI 0), .int (nI 0), .ref mst, .ref msm, .ref mtb, .ref mti, .ref mfr, .ref mbn, .ref mbs, .ref mde, .int (nI 0), .int (nI 0), .int (nI 0), .int (nI 0), .long 4, .long 1, .ref maa, .ref mab, .ref mba, .ref mbb])), (maa, .inl (cs 1, 9, .inr (.inl (lt4 0 0 1 1)))), (mab, .inl (cs 1, 9, .inr (.inl (lt4 1 1 2 1)))), (mba, .inl (cs 1, 9, .inr (.inl (lt4 0 4 5 4)))), (mbb, .inl (cs 1, 9, .inr (.inl (lt4 1 1 1 1))))] H := hP
              replace hD : va_D A [(hm, .inr (12, [.ref ms, .ref mkp, .int (nI 0), .ref mtr, .int (nI 4), .int (nI 2), .int (nI 2), .int (nI 3), .int (nI 2), .int (nI 1), .ref mas, .int (nI 0), .int (nI 0), .int (nI 0), .ref mso, .ref mon, .ref mot, .ref man, .int (nI 0), .int (nI 0), .ref mst, .ref msm, .ref mtb, .ref mti, .ref mfr, .ref mbn, .ref mbs, .ref mde, .int (nI 0), .int (nI 0), .int (nI 0), .int (nI 0), .long 4, .long 1, .ref maa, .ref mab, .ref mba, .ref mbb])), (maa, .inl (cs 1, 9, .inr (.inl (lt4 0 0 1 1)))), (mab, .inl (cs 1, 9, .inr (.inl (lt4 1 1 2 1)))), (mba, .inl (cs 1, 9, .inr (.inl (lt4 0 4 5 4)))), (mbb, .inl (cs 1, 9, .inr (.inl (lt4 1 1 1 1))))] := hD
              refine lv_aload_n hx hb dX12_chain_62 rfl (lv_at hl 0 rfl) ?_
              refine xget C hP 0 rfl rfl zuX12 31 (by decide) zw6_4 rfl dX12_chain_63 ?_
              refine lv_if_ne (tgt := 103) hx hb dX12_chain_66 (by decide) (fun c => absurd (by decide) c) (fun _ => ?_)
              refine lv_aload_n hx hb dX12_chain_69 rfl (lv_at hl 0 rfl) ?_
              refine lv_iload_n hx hb dX12_chain_70 rfl (lv_at hl 1 rfl) ?_
              refine lv_iload_n hx hb dX12_chain_71 rfl (lv_at hl 2 rfl) ?_
              refine lv_iconst (v := nI 1) hx hb dX12_chain_72 (by decide) ?_
              refine lv_icmp_le (tgt := 80) hx hb dX12_chain_73 (by decide) (fun c => absurd c (by decide)) (fun _ => ?_)
              refine lv_lconst (v := 0) hx hb dX12_chain_76 (by decide) ?_
              refine lv_goto (tgt := 81) hx hb dX12_chain_77 (by decide) ?_
              refine xv (wr := []) (xV (As := [.int (nI 0), .long 0]) (rest := []) C (c_X12_goesDown_1_0 l D cs hm ms mkp mtr mas mso mon mot man mst msm mtb mti mfr mbn mbs mde maa mab mba mbb 4 1) kX12_306 hP hD [0, 1, 2, 3, 4] rfl (by decide +kernel) 0 rfl rfl rfl ⟨Nat.le_of_ble_eq_true rfl, Nat.le_of_ble_eq_true rfl⟩ rfl hl.1 rfl (Nat.le_of_ble_eq_true rfl) dX12_chain_81 ⟨Nat.le_of_ble_eq_true rfl, Nat.le_of_ble_eq_true rfl⟩) hP hD hS hA [0, 1, 2, 3, 4] [] rfl rfl (by decide +kernel) (by decide +kernel) ?_
              clear hP hD hS
              try clear locs
              try clear H
              intro u_52 H locs hw_r_51 hP hD hS
              refine W.widen (k := 0) (n := 0) (Nat.le_of_ble_eq_true rfl) (Nat.le_of_ble_eq_true rfl) ?_
              replace hP : va_P D vwCl [(hm, .inr (12, [.ref ms, .ref mkp, .int (nI 0), .ref mtr, .int (nI 4), .int (nI 2), .int (nI 2), .int (nI 3), .int (nI 2), .int (nI 1), .ref mas, .int (nI 0), .int (nI 0), .int (nI 0), .ref mso, .ref mon, .ref mot, .ref man, .int (nI 0), .int (nI 0), .ref mst, .ref msm, .ref mtb, .ref mti, .ref mfr, .ref mbn, .ref mbs, .ref mde, .int (nI 0), .int (nI 0), .int (nI 0), .int (nI 0), .long 0, .long 1, .ref maa, .ref mab, .ref mba, .ref mbb])), (maa, .inl (cs 1, 9, .inr (.inl (lt4 0 0 1 1)))), (mab, .inl (cs 1, 9, .inr (.inl (lt4 1 1 2 1)))), (mba, .inl (cs 1, 9, .inr (.inl (lt4 0 4 5 4)))), (mbb, .inl (cs 1, 9, .inr (.inl (lt4 1 1 1 1))))] H := hP
              replace hD : va_D A [(hm, .inr (12, [.ref ms, .ref mkp, .int (nI 0), .ref mtr, .int (nI 4), .int (nI 2), .int (nI 2), .int (nI 3), .int (nI 2), .int (nI 1), .ref mas, .int (nI 0), .int (nI 0), .int (nI 0), .ref mso, .ref mon, .ref mot, .ref man, .int (nI 0), .int (nI 0), .ref mst, .ref msm, .ref mtb, .ref mti, .ref mfr, .ref mbn, .ref mbs, .ref mde, .int (nI 0), .int (nI 0), .int (nI 0), .int (nI 0), .long 0, .long 1, .ref maa, .ref mab, .ref mba, .ref mbb])), (maa, .inl (cs 1, 9, .inr (.inl (lt4 0 0 1 1)))), (mab, .inl (cs 1, 9, .inr (.inl (lt4 1 1 2 1)))), (mba, .inl (cs 1, 9, .inr (.inl (lt4 0 4 5 4)))), (mbb, .inl (cs 1, 9, .inr (.inl (lt4 1 1 1 1))))] := hD
              refine lv_iload_n hx hb dX12_chain_84 rfl (lv_at hl 2 rfl) ?_
              refine lv_iconst (v := nI 1) hx hb dX12_chain_85 (by decide) ?_
              refine lv_icmp_le (tgt := 103) hx hb dX12_chain_86 (by decide) (fun c => absurd c (by decide)) (fun _ => ?_)
              refine lv_iload_n hx hb dX12_chain_89 rfl (lv_at hl 1 rfl) ?_
              refine lv_if_ne (tgt := 103) hx hb dX12_chain_90 (by decide) (fun c => absurd (by decide) c) (fun _ => ?_)
              refine lv_aload_n hx hb dX12_chain_93 rfl (lv_at hl 0 rfl) ?_
              refine lv_lconst (v := 0) hx hb dX12_chain_94 (by decide) ?_
              refine xput C hP hD hS 0 rfl rfl zuX12 tyX12 tyX12_ok nmX12 32 (by decide) zw6_5 rfl rfl rfl (Nat.le_of_ble_eq_true rfl) dX12_chain_95 ?_
              clear hP hD hS
              try clear locs
              try clear H
              intro H locs hP hD hS
              replace hP : va_P D vwCl [(hm, .inr (12, [.ref ms, .ref mkp, .int (nI 0), .ref mtr, .int (nI 4), .int (nI 2), .int (nI 2), .int (nI 3), .int (nI 2), .int (nI 1), .ref mas, .int (nI 0), .int (nI 0), .int (nI 0), .ref mso, .ref mon, .ref mot, .ref man, .int (nI 0), .int (nI 0), .ref mst, .ref msm, .ref mtb, .ref mti, .ref mfr, .ref mbn, .ref mbs, .ref mde, .int (nI 0), .int (nI 0), .int (nI 0), .int (nI 0), .long 0, .long 1, .ref maa, .ref mab, .ref mba, .ref mbb])), (maa, .inl (cs 1, 9, .inr (.inl (lt4 0 0 1 1)))), (mab, .inl (cs 1, 9, .inr (.inl (lt4 1 1 2 1)))), (mba, .inl (cs 1, 9, .inr (.inl (lt4 0 4 5 4)))), (mbb, .inl (cs 1, 9, .inr (.inl (lt4 1 1 1 1))))] H := hP
              replace hD : va_D A [(hm, .inr (12, [.ref ms, .ref mkp, .int (nI 0), .ref mtr, .int (nI 4), .int (nI 2), .int (nI 2), .int (nI 3), .int (nI 2), .int (nI 1), .ref mas, .int (nI 0), .int (nI 0), .int (nI 0), .ref mso, .ref mon, .ref mot, .ref man, .int (nI 0), .int (nI 0), .ref mst, .ref msm, .ref mtb, .ref mti, .ref mfr, .ref mbn, .ref mbs, .ref mde, .int (nI 0), .int (nI 0), .int (nI 0), .int (nI 0), .long 0, .long 1, .ref maa, .ref mab, .ref mba, .ref mbb])), (maa, .inl (cs 1, 9, .inr (.inl (lt4 0 0 1 1)))), (mab, .inl (cs 1, 9, .inr (.inl (lt4 1 1 2 1)))), (mba, .inl (cs 1, 9, .inr (.inl (lt4 0 4 5 4)))), (mbb, .inl (cs 1, 9, .inr (.inl (lt4 1 1 1 1))))] := hD
              refine lv_aload_n hx hb dX12_chain_98 rfl (lv_at hl 0 rfl) ?_
              refine lv_lconst (v := 1) hx hb dX12_chain_99 (by decide) ?_
              refine xput C hP hD hS 0 rfl rfl zuX12 tyX12 tyX12_ok nmX12 33 (by decide) zw6_6 rfl rfl rfl (Nat.le_of_ble_eq_true rfl) dX12_chain_100 ?_
              clear hP hD hS
              try clear locs
              try clear H
              intro H locs hP hD hS
              replace hP : va_P D vwCl [(hm, .inr (12, [.ref ms, .ref mkp, .int (nI 0), .ref mtr, .int (nI 4), .int (nI 2), .int (nI 2), .int (nI 3), .int (nI 2), .int (nI 1), .ref mas, .int (nI 0), .int (nI 0), .int (nI 0), .ref mso, .ref mon, .ref mot, .ref man, .int (nI 0), .int (nI 0), .ref mst, .ref msm, .ref mtb, .ref mti, .ref mfr, .ref mbn, .ref mbs, .ref mde, .int (nI 0), .int (nI 0), .int (nI 0), .int (nI 0), .long 0, .long 1, .ref maa, .ref mab, .ref mba, .ref mbb])), (maa, .inl (cs 1, 9, .inr (.inl (lt4 0 0 1 1)))), (mab, .inl (cs 1, 9, .inr (.inl (lt4 1 1 2 1)))), (mba, .inl (cs 1, 9, .inr (.inl (lt4 0 4 5 4)))), (mbb, .inl (cs 1, 9, .inr (.inl (lt4 1 1 1 1))))] H := hP
              replace hD : va_D A [(hm, .inr (12, [.ref ms, .ref mkp, .int (nI 0), .ref mtr, .int (nI 4), .int (nI 2), .int (nI 2), .int (nI 3), .int (nI 2), .int (nI 1), .ref mas, .int (nI 0), .int (nI 0), .int (nI 0), .ref mso, .ref mon, .ref mot, .ref man, .int (nI 0), .int (nI 0), .ref mst, .ref msm, .ref mtb, .ref mti, .ref mfr, .ref mbn, .ref mbs, .ref mde, .int (nI 0), .int (nI 0), .int (nI 0), .int (nI 0), .long 0, .long 1, .ref maa, .ref mab, .ref mba, .ref mbb])), (maa, .inl (cs 1, 9, .inr (.inl (lt4 0 0 1 1)))), (mab, .inl (cs 1, 9, .inr (.inl (lt4 1 1 2 1)))), (mba, .inl (cs 1, 9, .inr (.inl (lt4 0 4 5 4)))), (mbb, .inl (cs 1, 9, .inr (.inl (lt4 1 1 1 1))))] := hD
              refine lv_aload_n hx hb dX12_chain_103 rfl (lv_at hl 0 rfl) ?_
              refine xget C hP 0 rfl rfl zuX12 31 (by decide) zw6_4 rfl dX12_chain_104 ?_
              refine lv_if_eq (tgt := 114) hx hb dX12_chain_107 (by decide) (fun _ => ?_) (fun c => absurd (by decide) c)
              refine lv_iload_n hx hb dX12_chain_114 rfl (lv_at hl 2 rfl) ?_
              refine lv_iconst (v := nI 2) hx hb dX12_chain_115 (by decide) ?_
              refine lv_irem hx hb dX12_chain_116 (by decide) ?_
              refine lv_topi (nm_r (e' := nI 0) (by decide) ?_)
              refine lv_if_ne (tgt := 127) hx hb dX12_chain_117 (by decide) (fun c => absurd (by decide) c) (fun _ => ?_)
              refine lv_aload_n hx hb dX12_chain_120 rfl (lv_at hl 0 rfl) ?_
              refine xget C hP 0 rfl rfl zuX12 32 (by decide) zw6_5 rfl dX12_chain_121 ?_
              refine lv_goto (tgt := 131) hx hb dX12_chain_124 (by decide) ?_
              exact xretl C () (Or.inl ⟨0, 2, by decide, by decide, rfl, rfl, rfl⟩) (xP_map hP [] rfl) (hD.sub [] (by decide +kernel) rfl) hS (Nat.le_of_ble_eq_true rfl) (Nat.le_of_ble_eq_true rfl) dX12_chain_131
          · -- split
            replace hP : va_P D vwCl [(hm, .inr (12, [.ref ms, .ref mkp, .int (nI 0), .ref mtr, .int (nI 4), .int (nI 2), .int (nI 2), .int (nI 3), .int (nI 2), .int (nI 1), .ref mas, .int (nI 0), .int (nI 0), .int (nI 0), .ref mso, .ref mon, .ref mot, .ref man, .int (nI 0), .int (nI 0), .ref mst, .ref msm, .ref mtb, .ref mti, .ref mfr, .ref mbn, .ref mbs, .ref mde, .int (nI 0), .int (nI 0), .int (nI 0), .int (nI 0), .long 0, .long 0, .ref maa, .ref mab, .ref mba, .ref mbb])), (maa, .inl (cs 1, 9, .inr (.inl (fun _ => 0)))), (mab, .inl (cs 1, 9, .inr (.inl (fun _ => 0)))), (mba, .inl (cs 1, 9, .inr (.inl (fun _ => 0)))), (mbb, .inl (cs 1, 9, .inr (.inl (fun _ => 0))))] H := hP
            replace hD : va_D A [(hm, .inr (12, [.ref ms, .ref mkp, .int (nI 0), .ref mtr, .int (nI 4), .int (nI 2), .int (nI 2), .int (nI 3), .int (nI 2), .int (nI 1), .ref mas, .int (nI 0), .int (nI 0), .int (nI 0), .ref mso, .ref mon, .ref mot, .ref man, .int (nI 0), .int (nI 0), .ref mst, .ref msm, .ref mtb, .ref mti, .ref mfr, .ref mbn, .ref mbs, .ref mde, .int (nI 0), .int (nI 0), .int (nI 0), .int (nI 0), .long 0, .long 0, .ref maa, .ref mab, .ref mba, .ref mbb])), (maa, .inl (cs 1, 9, .inr (.inl (fun _ => 0)))), (mab, .inl (cs 1, 9, .inr (.inl (fun _ => 0)))), (mba, .inl (cs 1, 9, .inr (.inl (fun _ => 0)))), (mbb, .inl (cs 1, 9, .inr (.inl (fun _ => 0))))] := hD
            refine xi (wr := [(maa, .inl (cs 1, 9, .inr (.inl (fun _ => 0)))), (mab, .inl (cs 1, 9, .inr (.inl (fun _ => 0)))), (mba, .inl (cs 1, 9, .inr (.inl (fun _ => 0)))), (mbb, .inl (cs 1, 9, .inr (.inl (fun _ => 0))))]) (xV (As := [.int (nI 1)]) (rest := []) C (c_X12_mayStay_1 l D cs hm ms mkp mtr mas mso mon mot man mst msm mtb mti mfr mbn mbs mde maa mab mba mbb 0 0) kX12_299 hP hD [0] rfl (by decide +kernel) 0 rfl rfl rfl ⟨Nat.le_of_ble_eq_true rfl, Nat.le_of_ble_eq_true rfl⟩ rfl hl.1 rfl (Nat.le_of_ble_eq_true rfl) dX12_chain_33 ⟨Nat.le_of_ble_eq_true rfl, Nat.le_of_ble_eq_true rfl⟩) hP hD hS hA [0] [1, 2, 3, 4] rfl rfl (by decide +kernel) (by decide +kernel) ?_
            clear hP hD hS
            try clear locs
            try clear H
            intro r_53 u_54 H locs hw_r_53 hP hD hS
            have hw_r_53 : r_53 = nI 0 := hw_r_53
            refine W.widen (k := 0) (n := 0) (Nat.le_of_ble_eq_true rfl) (Nat.le_of_ble_eq_true rfl) ?_
            replace hP : va_P D vwCl [(maa, .inl (cs 1, 9, .inr (.inl (fun _ => 0)))), (mab, .inl (cs 1, 9, .inr (.inl (fun _ => 0)))), (mba, .inl (cs 1, 9, .inr (.inl (fun _ => 0)))), (mbb, .inl (cs 1, 9, .inr (.inl (fun _ => 0)))), (hm, .inr (12, [.ref ms, .ref mkp, .int (nI 0), .ref mtr, .int (nI 4), .int (nI 2), .int (nI 2), .int (nI 3), .int (nI 2), .int (nI 1), .ref mas, .int (nI 0), .int (nI 0), .int (nI 0), .ref mso, .ref mon, .ref mot, .ref man, .int (nI 0), .int (nI 0), .ref mst, .ref msm, .ref mtb, .ref mti, .ref mfr, .ref mbn, .ref mbs, .ref mde, .int (nI 0), .int (nI 0), .int (nI 0), .int (nI 0), .long 0, .long 0, .ref maa, .ref mab, .ref mba, .ref mbb]))] H := hP
            replace hD : va_D A [(maa, .inl (cs 1, 9, .inr (.inl (fun _ => 0)))), (mab, .inl (cs 1, 9, .inr (.inl (fun _ => 0)))), (mba, .inl (cs 1, 9, .inr (.inl (fun _ => 0)))), (mbb, .inl (cs 1, 9, .inr (.inl (fun _ => 0)))), (hm, .inr (12, [.ref ms, .ref mkp, .int (nI 0), .ref mtr, .int (nI 4), .int (nI 2), .int (nI 2), .int (nI 3), .int (nI 2), .int (nI 1), .ref mas, .int (nI 0), .int (nI 0), .int (nI 0), .ref mso, .ref mon, .ref mot, .ref man, .int (nI 0), .int (nI 0), .ref mst, .ref msm, .ref mtb, .ref mti, .ref mfr, .ref mbn, .ref mbs, .ref mde, .int (nI 0), .int (nI 0), .int (nI 0), .int (nI 0), .long 0, .long 0, .ref maa, .ref mab, .ref mba, .ref mbb]))] := hD
            subst hw_r_53
            refine lv_if_eq (tgt := 43) hx hb dX12_chain_36 (by decide) (fun _ => ?_) (fun c => absurd (by decide) c)
            rcases (show True from trivial) with _
            · -- split
              refine lv_aload_n hx hb dX12_chain_43 rfl (lv_at hl 0 rfl) ?_
              refine lv_iconst (v := nI 0) hx hb dX12_chain_44 (by decide) ?_
              refine xput C hP hD hS 4 rfl rfl zuX12 tyX12 tyX12_ok nmX12 31 (by decide) zw6_4 rfl rfl rfl (Nat.le_of_ble_eq_true rfl) dX12_chain_45 ?_
              clear hP hD hS
              try clear locs
              try clear H
              intro H locs hP hD hS
              replace hP : va_P D vwCl [(maa, .inl (cs 1, 9, .inr (.inl (fun _ => 0)))), (mab, .inl (cs 1, 9, .inr (.inl (fun _ => 0)))), (mba, .inl (cs 1, 9, .inr (.inl (fun _ => 0)))), (mbb, .inl (cs 1, 9, .inr (.inl (fun _ => 0)))), (hm, .inr (12, [.ref ms, .ref mkp, .int (nI 0), .ref mtr, .int (nI 4), .int (nI 2), .int (nI 2), .int (nI 3), .int (nI 2), .int (nI 1), .ref mas, .int (nI 0), .int (nI 0), .int (nI 0), .ref mso, .ref mon, .ref mot, .ref man, .int (nI 0), .int (nI 0), .ref mst, .ref msm, .ref mtb, .ref mti, .ref mfr, .ref mbn, .ref mbs, .ref mde, .int (nI 0), .int (nI 0), .int (nI 0), .int (nI 0), .long 0, .long 0, .ref maa, .ref mab, .ref mba, .ref mbb]))] H := hP
              replace hD : va_D A [(maa, .inl (cs 1, 9, .inr (.inl (fun _ => 0)))), (mab, .inl (cs 1, 9, .inr (.inl (fun _ => 0)))), (mba, .inl (cs 1, 9, .inr (.inl (fun _ => 0)))), (mbb, .inl (cs 1, 9, .inr (.inl (fun _ => 0)))), (hm, .inr (12, [.ref ms, .ref mkp, .int (nI 0), .ref mtr, .int (nI 4), .int (nI 2), .int (nI 2), .int (nI 3), .int (nI 2), .int (nI 1), .ref mas, .int (nI 0), .int (nI 0), .int (nI 0), .ref mso, .ref mon, .ref mot, .ref man, .int (nI 0), .int (nI 0), .ref mst, .ref msm, .ref mtb, .ref mti, .ref mfr, .ref mbn, .ref mbs, .ref mde, .int (nI 0), .int (nI 0), .int (nI 0), .int (nI 0), .long 0, .long 0, .ref maa, .ref mab, .ref mba, .ref mbb]))] := hD
              refine lv_aload_n hx hb dX12_chain_48 rfl (lv_at hl 0 rfl) ?_
              refine lv_iload_n hx hb dX12_chain_49 rfl (lv_at hl 2 rfl) ?_
              refine lv_iconst (v := nI 1) hx hb dX12_chain_50 (by decide) ?_
              refine lv_icmp_le (tgt := 58) hx hb dX12_chain_51 (by decide) (fun c => absurd c (by decide)) (fun _ => ?_)
              refine lv_iconst (v := nI 1) hx hb dX12_chain_54 (by decide) ?_
              refine lv_goto (tgt := 59) hx hb dX12_chain_55 (by decide) ?_
              refine xv (wr := []) (xV (As := [.int (nI 1)]) (rest := []) C (c_X12_laysSteps_1 l D cs hm ms mkp mtr mas mso mon mot man mst msm mtb mti mfr mbn mbs mde maa mab mba mbb 0 0) kX12_302 hP hD [4, 0, 1, 2, 3] rfl (by decide +kernel) 0 rfl rfl rfl ⟨Nat.le_of_ble_eq_true rfl, Nat.le_of_ble_eq_true rfl⟩ rfl hl.1 rfl (Nat.le_of_ble_eq_true rfl) dX12_chain_59 ⟨Nat.le_of_ble_eq_true rfl, Nat.le_of_ble_eq_true rfl⟩) hP hD hS hA [4, 0, 1, 2, 3] [] rfl rfl (by decide +kernel) (by decide +kernel) ?_
              clear hP hD hS
              try clear locs
              try clear H
              intro u_56 H locs hw_r_55 hP hD hS
              refine W.widen (k := 0) (n := 0) (Nat.le_of_ble_eq_true rfl) (Nat.le_of_ble_eq_true rfl) ?_
              replace hP : va_P D vwCl [(hm, .inr (12, [.ref ms, .ref mkp, .int (nI 0), .ref mtr, .int (nI 4), .int (nI 2), .int (nI 2), .int (nI 3), .int (nI 2), .int (nI 1), .ref mas, .int (nI 0), .int (nI 0), .int (nI 0), .ref mso, .ref mon, .ref mot, .ref man, .int (nI 0), .int (nI 0), .ref mst, .ref msm, .ref mtb, .ref mti, .ref mfr, .ref mbn, .ref mbs, .ref mde, .int (nI 0), .int (nI 0), .int (nI 0), .int (nI 0), .long 4, .long 1, .ref maa, .ref mab, .ref mba, .ref mbb])), (maa, .inl (cs 1, 9, .inr (.inl (lt4 0 0 1 1)))), (mab, .inl (cs 1, 9, .inr (.inl (lt4 1 1 2 1)))), (mba, .inl (cs 1, 9, .inr (.inl (lt4 0 4 5 4)))), (mbb, .inl (cs 1, 9, .inr (.inl (lt4 1 1 1 1))))] H := hP
              replace hD : va_D A [(hm, .inr (12, [.ref ms, .ref mkp, .int (nI 0), .ref mtr, .int (nI 4), .int (nI 2), .int (nI 2), .int (nI 3), .int (nI 2), .int (nI 1), .ref mas, .int (nI 0), .int (nI 0), .int (nI 0), .ref mso, .ref mon, .ref mot, .ref man, .int (nI 0), .int (nI 0), .ref mst, .ref msm, .ref mtb, .ref mti, .ref mfr, .ref mbn, .ref mbs, .ref mde, .int (nI 0), .int (nI 0), .int (nI 0), .int (nI 0), .long 4, .long 1, .ref maa, .ref mab, .ref mba, .ref mbb])), (maa, .inl (cs 1, 9, .inr (.inl (lt4 0 0 1 1)))), (mab, .inl (cs 1, 9, .inr (.inl (lt4 1 1 2 1)))), (mba, .inl (cs 1, 9, .inr (.inl (lt4 0 4 5 4)))), (mbb, .inl (cs 1, 9, .inr (.inl (lt4 1 1 1 1))))] := hD
              refine lv_aload_n hx hb dX12_chain_62 rfl (lv_at hl 0 rfl) ?_
              refine xget C hP 0 rfl rfl zuX12 31 (by decide) zw6_4 rfl dX12_chain_63 ?_
              refine lv_if_ne (tgt := 103) hx hb dX12_chain_66 (by decide) (fun c => absurd (by decide) c) (fun _ => ?_)
              refine lv_aload_n hx hb dX12_chain_69 rfl (lv_at hl 0 rfl) ?_
              refine lv_iload_n hx hb dX12_chain_70 rfl (lv_at hl 1 rfl) ?_
              refine lv_iload_n hx hb dX12_chain_71 rfl (lv_at hl 2 rfl) ?_
              refine lv_iconst (v := nI 1) hx hb dX12_chain_72 (by decide) ?_
              refine lv_icmp_le (tgt := 80) hx hb dX12_chain_73 (by decide) (fun c => absurd c (by decide)) (fun _ => ?_)
              refine lv_lconst (v := 0) hx hb dX12_chain_76 (by decide) ?_
              refine lv_goto (tgt := 81) hx hb dX12_chain_77 (by decide) ?_
              refine xv (wr := []) (xV (As := [.int (nI 1), .long 0]) (rest := []) C (c_X12_goesDown_1_1 l D cs hm ms mkp mtr mas mso mon mot man mst msm mtb mti mfr mbn mbs mde maa mab mba mbb 4 1) kX12_306 hP hD [0, 1, 2, 3, 4] rfl (by decide +kernel) 0 rfl rfl rfl ⟨Nat.le_of_ble_eq_true rfl, Nat.le_of_ble_eq_true rfl⟩ rfl hl.1 rfl (Nat.le_of_ble_eq_true rfl) dX12_chain_81 ⟨Nat.le_of_ble_eq_true rfl, Nat.le_of_ble_eq_true rfl⟩) hP hD hS hA [0, 1, 2, 3, 4] [] rfl rfl (by decide +kernel) (by decide +kernel) ?_
              clear hP hD hS
              try clear locs
              try clear H
              intro u_58 H locs hw_r_57 hP hD hS
              refine W.widen (k := 0) (n := 0) (Nat.le_of_ble_eq_true rfl) (Nat.le_of_ble_eq_true rfl) ?_
              replace hP : va_P D vwCl [(hm, .inr (12, [.ref ms, .ref mkp, .int (nI 0), .ref mtr, .int (nI 4), .int (nI 2), .int (nI 2), .int (nI 3), .int (nI 2), .int (nI 1), .ref mas, .int (nI 0), .int (nI 0), .int (nI 0), .ref mso, .ref mon, .ref mot, .ref man, .int (nI 0), .int (nI 0), .ref mst, .ref msm, .ref mtb, .ref mti, .ref mfr, .ref mbn, .ref mbs, .ref mde, .int (nI 0), .int (nI 0), .int (nI 0), .int (nI 0), .long 4, .long 1, .ref maa, .ref mab, .ref mba, .ref mbb])), (maa, .inl (cs 1, 9, .inr (.inl (lt4 0 0 1 1)))), (mab, .inl (cs 1, 9, .inr (.inl (lt4 1 1 2 1)))), (mba, .inl (cs 1, 9, .inr (.inl (lt4 0 4 5 4)))), (mbb, .inl (cs 1, 9, .inr (.inl (lt4 1 1 1 1))))] H := hP
              replace hD : va_D A [(hm, .inr (12, [.ref ms, .ref mkp, .int (nI 0), .ref mtr, .int (nI 4), .int (nI 2), .int (nI 2), .int (nI 3), .int (nI 2), .int (nI 1), .ref mas, .int (nI 0), .int (nI 0), .int (nI 0), .ref mso, .ref mon, .ref mot, .ref man, .int (nI 0), .int (nI 0), .ref mst, .ref msm, .ref mtb, .ref mti, .ref mfr, .ref mbn, .ref mbs, .ref mde, .int (nI 0), .int (nI 0), .int (nI 0), .int (nI 0), .long 4, .long 1, .ref maa, .ref mab, .ref mba, .ref mbb])), (maa, .inl (cs 1, 9, .inr (.inl (lt4 0 0 1 1)))), (mab, .inl (cs 1, 9, .inr (.inl (lt4 1 1 2 1)))), (mba, .inl (cs 1, 9, .inr (.inl (lt4 0 4 5 4)))), (mbb, .inl (cs 1, 9, .inr (.inl (lt4 1 1 1 1))))] := hD
              refine lv_iload_n hx hb dX12_chain_84 rfl (lv_at hl 2 rfl) ?_
              refine lv_iconst (v := nI 1) hx hb dX12_chain_85 (by decide) ?_
              refine lv_icmp_le (tgt := 103) hx hb dX12_chain_86 (by decide) (fun c => absurd c (by decide)) (fun _ => ?_)
              refine lv_iload_n hx hb dX12_chain_89 rfl (lv_at hl 1 rfl) ?_
              refine lv_if_ne (tgt := 103) hx hb dX12_chain_90 (by decide) (fun _ => ?_) (fun c => absurd c (by decide))
              refine lv_aload_n hx hb dX12_chain_103 rfl (lv_at hl 0 rfl) ?_
              refine xget C hP 0 rfl rfl zuX12 31 (by decide) zw6_4 rfl dX12_chain_104 ?_
              refine lv_if_eq (tgt := 114) hx hb dX12_chain_107 (by decide) (fun _ => ?_) (fun c => absurd (by decide) c)
              refine lv_iload_n hx hb dX12_chain_114 rfl (lv_at hl 2 rfl) ?_
              refine lv_iconst (v := nI 2) hx hb dX12_chain_115 (by decide) ?_
              refine lv_irem hx hb dX12_chain_116 (by decide) ?_
              refine lv_topi (nm_r (e' := nI 0) (by decide) ?_)
              refine lv_if_ne (tgt := 127) hx hb dX12_chain_117 (by decide) (fun c => absurd (by decide) c) (fun _ => ?_)
              refine lv_aload_n hx hb dX12_chain_120 rfl (lv_at hl 0 rfl) ?_
              refine xget C hP 0 rfl rfl zuX12 32 (by decide) zw6_5 rfl dX12_chain_121 ?_
              refine lv_goto (tgt := 131) hx hb dX12_chain_124 (by decide) ?_
              exact xretl C () (Or.inl ⟨1, 2, by decide, by decide, rfl, rfl, rfl⟩) (xP_map hP [] rfl) (hD.sub [] (by decide +kernel) rfl) hS (Nat.le_of_ble_eq_true rfl) (Nat.le_of_ble_eq_true rfl) dX12_chain_131
          · -- split
            replace hP : va_P D vwCl [(hm, .inr (12, [.ref ms, .ref mkp, .int (nI 0), .ref mtr, .int (nI 4), .int (nI 2), .int (nI 2), .int (nI 3), .int (nI 2), .int (nI 1), .ref mas, .int (nI 0), .int (nI 0), .int (nI 0), .ref mso, .ref mon, .ref mot, .ref man, .int (nI 0), .int (nI 0), .ref mst, .ref msm, .ref mtb, .ref mti, .ref mfr, .ref mbn, .ref mbs, .ref mde, .int (nI 0), .int (nI 0), .int (nI 0), .int (nI 0), .long 0, .long 0, .ref maa, .ref mab, .ref mba, .ref mbb])), (maa, .inl (cs 1, 9, .inr (.inl (fun _ => 0)))), (mab, .inl (cs 1, 9, .inr (.inl (fun _ => 0)))), (mba, .inl (cs 1, 9, .inr (.inl (fun _ => 0)))), (mbb, .inl (cs 1, 9, .inr (.inl (fun _ => 0))))] H := hP
            replace hD : va_D A [(hm, .inr (12, [.ref ms, .ref mkp, .int (nI 0), .ref mtr, .int (nI 4), .int (nI 2), .int (nI 2), .int (nI 3), .int (nI 2), .int (nI 1), .ref mas, .int (nI 0), .int (nI 0), .int (nI 0), .ref mso, .ref mon, .ref mot, .ref man, .int (nI 0), .int (nI 0), .ref mst, .ref msm, .ref mtb, .ref mti, .ref mfr, .ref mbn, .ref mbs, .ref mde, .int (nI 0), .int (nI 0), .int (nI 0), .int (nI 0), .long 0, .long 0, .ref maa, .ref mab, .ref mba, .ref mbb])), (maa, .inl (cs 1, 9, .inr (.inl (fun _ => 0)))), (mab, .inl (cs 1, 9, .inr (.inl (fun _ => 0)))), (mba, .inl (cs 1, 9, .inr (.inl (fun _ => 0)))), (mbb, .inl (cs 1, 9, .inr (.inl (fun _ => 0))))] := hD
            refine xi (wr := [(maa, .inl (cs 1, 9, .inr (.inl (fun _ => 0)))), (mab, .inl (cs 1, 9, .inr (.inl (fun _ => 0)))), (mba, .inl (cs 1, 9, .inr (.inl (fun _ => 0)))), (mbb, .inl (cs 1, 9, .inr (.inl (fun _ => 0))))]) (xV (As := [.int (nI 2)]) (rest := []) C (c_X12_mayStay_2 l D cs hm ms mkp mtr mas mso mon mot man mst msm mtb mti mfr mbn mbs mde maa mab mba mbb 0 0) kX12_299 hP hD [0] rfl (by decide +kernel) 0 rfl rfl rfl ⟨Nat.le_of_ble_eq_true rfl, Nat.le_of_ble_eq_true rfl⟩ rfl hl.1 rfl (Nat.le_of_ble_eq_true rfl) dX12_chain_33 ⟨Nat.le_of_ble_eq_true rfl, Nat.le_of_ble_eq_true rfl⟩) hP hD hS hA [0] [1, 2, 3, 4] rfl rfl (by decide +kernel) (by decide +kernel) ?_
            clear hP hD hS
            try clear locs
            try clear H
            intro r_59 u_60 H locs hw_r_59 hP hD hS
            have hw_r_59 : r_59 = nI 0 := hw_r_59
            refine W.widen (k := 0) (n := 0) (Nat.le_of_ble_eq_true rfl) (Nat.le_of_ble_eq_true rfl) ?_
            replace hP : va_P D vwCl [(maa, .inl (cs 1, 9, .inr (.inl (fun _ => 0)))), (mab, .inl (cs 1, 9, .inr (.inl (fun _ => 0)))), (mba, .inl (cs 1, 9, .inr (.inl (fun _ => 0)))), (mbb, .inl (cs 1, 9, .inr (.inl (fun _ => 0)))), (hm, .inr (12, [.ref ms, .ref mkp, .int (nI 0), .ref mtr, .int (nI 4), .int (nI 2), .int (nI 2), .int (nI 3), .int (nI 2), .int (nI 1), .ref mas, .int (nI 0), .int (nI 0), .int (nI 0), .ref mso, .ref mon, .ref mot, .ref man, .int (nI 0), .int (nI 0), .ref mst, .ref msm, .ref mtb, .ref mti, .ref mfr, .ref mbn, .ref mbs, .ref mde, .int (nI 0), .int (nI 0), .int (nI 0), .int (nI 0), .long 0, .long 0, .ref maa, .ref mab, .ref mba, .ref mbb]))] H := hP
            replace hD : va_D A [(maa, .inl (cs 1, 9, .inr (.inl (fun _ => 0)))), (mab, .inl (cs 1, 9, .inr (.inl (fun _ => 0)))), (mba, .inl (cs 1, 9, .inr (.inl (fun _ => 0)))), (mbb, .inl (cs 1, 9, .inr (.inl (fun _ => 0)))), (hm, .inr (12, [.ref ms, .ref mkp, .int (nI 0), .ref mtr, .int (nI 4), .int (nI 2), .int (nI 2), .int (nI 3), .int (nI 2), .int (nI 1), .ref mas, .int (nI 0), .int (nI 0), .int (nI 0), .ref mso, .ref mon, .ref mot, .ref man, .int (nI 0), .int (nI 0), .ref mst, .ref msm, .ref mtb, .ref mti, .ref mfr, .ref mbn, .ref mbs, .ref mde, .int (nI 0), .int (nI 0), .int (nI 0), .int (nI 0), .long 0, .long 0, .ref maa, .ref mab, .ref mba, .ref mbb]))] := hD
            subst hw_r_59
            refine lv_if_eq (tgt := 43) hx hb dX12_chain_36 (by decide) (fun _ => ?_) (fun c => absurd (by decide) c)
            rcases (show True from trivial) with _
            · -- split
              refine lv_aload_n hx hb dX12_chain_43 rfl (lv_at hl 0 rfl) ?_
              refine lv_iconst (v := nI 0) hx hb dX12_chain_44 (by decide) ?_
              refine xput C hP hD hS 4 rfl rfl zuX12 tyX12 tyX12_ok nmX12 31 (by decide) zw6_4 rfl rfl rfl (Nat.le_of_ble_eq_true rfl) dX12_chain_45 ?_
              clear hP hD hS
              try clear locs
              try clear H
              intro H locs hP hD hS
              replace hP : va_P D vwCl [(maa, .inl (cs 1, 9, .inr (.inl (fun _ => 0)))), (mab, .inl (cs 1, 9, .inr (.inl (fun _ => 0)))), (mba, .inl (cs 1, 9, .inr (.inl (fun _ => 0)))), (mbb, .inl (cs 1, 9, .inr (.inl (fun _ => 0)))), (hm, .inr (12, [.ref ms, .ref mkp, .int (nI 0), .ref mtr, .int (nI 4), .int (nI 2), .int (nI 2), .int (nI 3), .int (nI 2), .int (nI 1), .ref mas, .int (nI 0), .int (nI 0), .int (nI 0), .ref mso, .ref mon, .ref mot, .ref man, .int (nI 0), .int (nI 0), .ref mst, .ref msm, .ref mtb, .ref mti, .ref mfr, .ref mbn, .ref mbs, .ref mde, .int (nI 0), .int (nI 0), .int (nI 0), .int (nI 0), .long 0, .long 0, .ref maa, .ref mab, .ref mba, .ref mbb]))] H := hP
              replace hD : va_D A [(maa, .inl (cs 1, 9, .inr (.inl (fun _ => 0)))), (mab, .inl (cs 1, 9, .inr (.inl (fun _ => 0)))), (mba, .inl (cs 1, 9, .inr (.inl (fun _ => 0)))), (mbb, .inl (cs 1, 9, .inr (.inl (fun _ => 0)))), (hm, .inr (12, [.ref ms, .ref mkp, .int (nI 0), .ref mtr, .int (nI 4), .int (nI 2), .int (nI 2), .int (nI 3), .int (nI 2), .int (nI 1), .ref mas, .int (nI 0), .int (nI 0), .int (nI 0), .ref mso, .ref mon, .ref mot, .ref man, .int (nI 0), .int (nI 0), .ref mst, .ref msm, .ref mtb, .ref mti, .ref mfr, .ref mbn, .ref mbs, .ref mde, .int (nI 0), .int (nI 0), .int (nI 0), .int (nI 0), .long 0, .long 0, .ref maa, .ref mab, .ref mba, .ref mbb]))] := hD
              refine lv_aload_n hx hb dX12_chain_48 rfl (lv_at hl 0 rfl) ?_
              refine lv_iload_n hx hb dX12_chain_49 rfl (lv_at hl 2 rfl) ?_
              refine lv_iconst (v := nI 1) hx hb dX12_chain_50 (by decide) ?_
              refine lv_icmp_le (tgt := 58) hx hb dX12_chain_51 (by decide) (fun c => absurd c (by decide)) (fun _ => ?_)
              refine lv_iconst (v := nI 1) hx hb dX12_chain_54 (by decide) ?_
              refine lv_goto (tgt := 59) hx hb dX12_chain_55 (by decide) ?_
              refine xv (wr := []) (xV (As := [.int (nI 1)]) (rest := []) C (c_X12_laysSteps_1 l D cs hm ms mkp mtr mas mso mon mot man mst msm mtb mti mfr mbn mbs mde maa mab mba mbb 0 0) kX12_302 hP hD [4, 0, 1, 2, 3] rfl (by decide +kernel) 0 rfl rfl rfl ⟨Nat.le_of_ble_eq_true rfl, Nat.le_of_ble_eq_true rfl⟩ rfl hl.1 rfl (Nat.le_of_ble_eq_true rfl) dX12_chain_59 ⟨Nat.le_of_ble_eq_true rfl, Nat.le_of_ble_eq_true rfl⟩) hP hD hS hA [4, 0, 1, 2, 3] [] rfl rfl (by decide +kernel) (by decide +kernel) ?_
              clear hP hD hS
              try clear locs
              try clear H
              intro u_62 H locs hw_r_61 hP hD hS
              refine W.widen (k := 0) (n := 0) (Nat.le_of_ble_eq_true rfl) (Nat.le_of_ble_eq_true rfl) ?_
              replace hP : va_P D vwCl [(hm, .inr (12, [.ref ms, .ref mkp, .int (nI 0), .ref mtr, .int (nI 4), .int (nI 2), .int (nI 2), .int (nI 3), .int (nI 2), .int (nI 1), .ref mas, .int (nI 0), .int (nI 0), .int (nI 0), .ref mso, .ref mon, .ref mot, .ref man, .int (nI 0), .int (nI 0), .ref mst, .ref msm, .ref mtb, .ref mti, .ref mfr, .ref mbn, .ref mbs, .ref mde, .int (nI 0), .int (nI 0), .int (nI 0), .int (nI 0), .long 4, .long 1, .ref maa, .ref mab, .ref mba, .ref mbb])), (maa, .inl (cs 1, 9, .inr (.inl (lt4 0 0 1 1)))), (mab, .inl (cs 1, 9, .inr (.inl (lt4 1 1 2 1)))), (mba, .inl (cs 1, 9, .inr (.inl (lt4 0 4 5 4)))), (mbb, .inl (cs 1, 9, .inr (.inl (lt4 1 1 1 1))))] H := hP
              replace hD : va_D A [(hm, .inr (12, [.ref ms, .ref mkp, .int (nI 0), .ref mtr, .int (nI 4), .int (nI 2), .int (nI 2), .int (nI 3), .int (nI 2), .int (nI 1), .ref mas, .int (nI 0), .int (nI 0), .int (nI 0), .ref mso, .ref mon, .ref mot, .ref man, .int (nI 0), .int (nI 0), .ref mst, .ref msm, .ref mtb, .ref mti, .ref mfr, .ref mbn, .ref mbs, .ref mde, .int (nI 0), .int (nI 0), .int (nI 0), .int (nI 0), .long 4, .long 1, .ref maa, .ref mab, .ref mba, .ref mbb])), (maa, .inl (cs 1, 9, .inr (.inl (lt4 0 0 1 1)))), (mab, .inl (cs 1, 9, .inr (.inl (lt4 1 1 2 1)))), (mba, .inl (cs 1, 9, .inr (.inl (lt4 0 4 5 4)))), (mbb, .inl (cs 1, 9, .inr (.inl (lt4 1 1 1 1))))] := hD
              refine lv_aload_n hx hb dX12_chain_62 rfl (lv_at hl 0 rfl) ?_
              refine xget C hP 0 rfl rfl zuX12 31 (by decide) zw6_4 rfl dX12_chain_63 ?_
              refine lv_if_ne (tgt := 103) hx hb dX12_chain_66 (by decide) (fun c => absurd (by decide) c) (fun _ => ?_)
              refine lv_aload_n hx hb dX12_chain_69 rfl (lv_at hl 0 rfl) ?_
              refine lv_iload_n hx hb dX12_chain_70 rfl (lv_at hl 1 rfl) ?_
              refine lv_iload_n hx hb dX12_chain_71 rfl (lv_at hl 2 rfl) ?_
              refine lv_iconst (v := nI 1) hx hb dX12_chain_72 (by decide) ?_
              refine lv_icmp_le (tgt := 80) hx hb dX12_chain_73 (by decide) (fun c => absurd c (by decide)) (fun _ => ?_)
              refine lv_lconst (v := 0) hx hb dX12_chain_76 (by decide) ?_
              refine lv_goto (tgt := 81) hx hb dX12_chain_77 (by decide) ?_
              refine xv (wr := []) (xV (As := [.int (nI 2), .long 0]) (rest := []) C (c_X12_goesDown_1_2 l D cs hm ms mkp mtr mas mso mon mot man mst msm mtb mti mfr mbn mbs mde maa mab mba mbb 4 1) kX12_306 hP hD [0, 1, 2, 3, 4] rfl (by decide +kernel) 0 rfl rfl rfl ⟨Nat.le_of_ble_eq_true rfl, Nat.le_of_ble_eq_true rfl⟩ rfl hl.1 rfl (Nat.le_of_ble_eq_true rfl) dX12_chain_81 ⟨Nat.le_of_ble_eq_true rfl, Nat.le_of_ble_eq_true rfl⟩) hP hD hS hA [0, 1, 2, 3, 4] [] rfl rfl (by decide +kernel) (by decide +kernel) ?_
              clear hP hD hS
              try clear locs
              try clear H
              intro u_64 H locs hw_r_63 hP hD hS
              refine W.widen (k := 0) (n := 0) (Nat.le_of_ble_eq_true rfl) (Nat.le_of_ble_eq_true rfl) ?_
              replace hP : va_P D vwCl [(hm, .inr (12, [.ref ms, .ref mkp, .int (nI 0), .ref mtr, .int (nI 4), .int (nI 2), .int (nI 2), .int (nI 3), .int (nI 2), .int (nI 1), .ref mas, .int (nI 0), .int (nI 0), .int (nI 0), .ref mso, .ref mon, .ref mot, .ref man, .int (nI 0), .int (nI 0), .ref mst, .ref msm, .ref mtb, .ref mti, .ref mfr, .ref mbn, .ref mbs, .ref mde, .int (nI 0), .int (nI 0), .int (nI 0), .int (nI 0), .long 7, .long 1, .ref maa, .ref mab, .ref mba, .ref mbb])), (maa, .inl (cs 1, 9, .inr (.inl (lt4 0 0 1 1)))), (mab, .inl (cs 1, 9, .inr (.inl (lt4 1 1 2 1)))), (mba, .inl (cs 1, 9, .inr (.inl (lt4 0 4 5 4)))), (mbb, .inl (cs 1, 9, .inr (.inl (lt4 1 1 1 1))))] H := hP
              replace hD : va_D A [(hm, .inr (12, [.ref ms, .ref mkp, .int (nI 0), .ref mtr, .int (nI 4), .int (nI 2), .int (nI 2), .int (nI 3), .int (nI 2), .int (nI 1), .ref mas, .int (nI 0), .int (nI 0), .int (nI 0), .ref mso, .ref mon, .ref mot, .ref man, .int (nI 0), .int (nI 0), .ref mst, .ref msm, .ref mtb, .ref mti, .ref mfr, .ref mbn, .ref mbs, .ref mde, .int (nI 0), .int (nI 0), .int (nI 0), .int (nI 0), .long 7, .long 1, .ref maa, .ref mab, .ref mba, .ref mbb])), (maa, .inl (cs 1, 9, .inr (.inl (lt4 0 0 1 1)))), (mab, .inl (cs 1, 9, .inr (.inl (lt4 1 1 2 1)))), (mba, .inl (cs 1, 9, .inr (.inl (lt4 0 4 5 4)))), (mbb, .inl (cs 1, 9, .inr (.inl (lt4 1 1 1 1))))] := hD
              refine lv_iload_n hx hb dX12_chain_84 rfl (lv_at hl 2 rfl) ?_
              refine lv_iconst (v := nI 1) hx hb dX12_chain_85 (by decide) ?_
              refine lv_icmp_le (tgt := 103) hx hb dX12_chain_86 (by decide) (fun c => absurd c (by decide)) (fun _ => ?_)
              refine lv_iload_n hx hb dX12_chain_89 rfl (lv_at hl 1 rfl) ?_
              refine lv_if_ne (tgt := 103) hx hb dX12_chain_90 (by decide) (fun _ => ?_) (fun c => absurd c (by decide))
              refine lv_aload_n hx hb dX12_chain_103 rfl (lv_at hl 0 rfl) ?_
              refine xget C hP 0 rfl rfl zuX12 31 (by decide) zw6_4 rfl dX12_chain_104 ?_
              refine lv_if_eq (tgt := 114) hx hb dX12_chain_107 (by decide) (fun _ => ?_) (fun c => absurd (by decide) c)
              refine lv_iload_n hx hb dX12_chain_114 rfl (lv_at hl 2 rfl) ?_
              refine lv_iconst (v := nI 2) hx hb dX12_chain_115 (by decide) ?_
              refine lv_irem hx hb dX12_chain_116 (by decide) ?_
              refine lv_topi (nm_r (e' := nI 0) (by decide) ?_)
              refine lv_if_ne (tgt := 127) hx hb dX12_chain_117 (by decide) (fun c => absurd (by decide) c) (fun _ => ?_)
              refine lv_aload_n hx hb dX12_chain_120 rfl (lv_at hl 0 rfl) ?_
              refine xget C hP 0 rfl rfl zuX12 32 (by decide) zw6_5 rfl dX12_chain_121 ?_
              refine lv_goto (tgt := 131) hx hb dX12_chain_124 (by decide) ?_
              exact xretl C () (Or.inl ⟨2, 2, by decide, by decide, rfl, rfl, rfl⟩) (xP_map hP [] rfl) (hD.sub [] (by decide +kernel) rfl) hS (Nat.le_of_ble_eq_true rfl) (Nat.le_of_ble_eq_true rfl) dX12_chain_131
          · -- split
            replace hP : va_P D vwCl [(hm, .inr (12, [.ref ms, .ref mkp, .int (nI 0), .ref mtr, .int (nI 4), .int (nI 2), .int (nI 2), .int (nI 3), .int (nI 2), .int (nI 1), .ref mas, .int (nI 0), .int (nI 0), .int (nI 0), .ref mso, .ref mon, .ref mot, .ref man, .int (nI 0), .int (nI 0), .ref mst, .ref msm, .ref mtb, .ref mti, .ref mfr, .ref mbn, .ref mbs, .ref mde, .int (nI 0), .int (nI 0), .int (nI 0), .int (nI 0), .long 0, .long 0, .ref maa, .ref mab, .ref mba, .ref mbb])), (maa, .inl (cs 1, 9, .inr (.inl (fun _ => 0)))), (mab, .inl (cs 1, 9, .inr (.inl (fun _ => 0)))), (mba, .inl (cs 1, 9, .inr (.inl (fun _ => 0)))), (mbb, .inl (cs 1, 9, .inr (.inl (fun _ => 0))))] H := hP
            replace hD : va_D A [(hm, .inr (12, [.ref ms, .ref mkp, .int (nI 0), .ref mtr, .int (nI 4), .int (nI 2), .int (nI 2), .int (nI 3), .int (nI 2), .int (nI 1), .ref mas, .int (nI 0), .int (nI 0), .int (nI 0), .ref mso, .ref mon, .ref mot, .ref man, .int (nI 0), .int (nI 0), .ref mst, .ref msm, .ref mtb, .ref mti, .ref mfr, .ref mbn, .ref mbs, .ref mde, .int (nI 0), .int (nI 0), .int (nI 0), .int (nI 0), .long 0, .long 0, .ref maa, .ref mab, .ref mba, .ref mbb])), (maa, .inl (cs 1, 9, .inr (.inl (fun _ => 0)))), (mab, .inl (cs 1, 9, .inr (.inl (fun _ => 0)))), (mba, .inl (cs 1, 9, .inr (.inl (fun _ => 0)))), (mbb, .inl (cs 1, 9, .inr (.inl (fun _ => 0))))] := hD
            refine xi (wr := [(maa, .inl (cs 1, 9, .inr (.inl (fun _ => 0)))), (mab, .inl (cs 1, 9, .inr (.inl (fun _ => 0)))), (mba, .inl (cs 1, 9, .inr (.inl (fun _ => 0)))), (mbb, .inl (cs 1, 9, .inr (.inl (fun _ => 0))))]) (xV (As := [.int (nI 3)]) (rest := []) C (c_X12_mayStay_3 l D cs hm ms mkp mtr mas mso mon mot man mst msm mtb mti mfr mbn mbs mde maa mab mba mbb 0 0) kX12_299 hP hD [0] rfl (by decide +kernel) 0 rfl rfl rfl ⟨Nat.le_of_ble_eq_true rfl, Nat.le_of_ble_eq_true rfl⟩ rfl hl.1 rfl (Nat.le_of_ble_eq_true rfl) dX12_chain_33 ⟨Nat.le_of_ble_eq_true rfl, Nat.le_of_ble_eq_true rfl⟩) hP hD hS hA [0] [1, 2, 3, 4] rfl rfl (by decide +kernel) (by decide +kernel) ?_
            clear hP hD hS
            try clear locs
            try clear H
            intro r_65 u_66 H locs hw_r_65 hP hD hS
            have hw_r_65 : r_65 = nI 0 := hw_r_65
            refine W.widen (k := 0) (n := 0) (Nat.le_of_ble_eq_true rfl) (Nat.le_of_ble_eq_true rfl) ?_
            replace hP : va_P D vwCl [(maa, .inl (cs 1, 9, .inr (.inl (fun _ => 0)))), (mab, .inl (cs 1, 9, .inr (.inl (fun _ => 0)))), (mba, .inl (cs 1, 9, .inr (.inl (fun _ => 0)))), (mbb, .inl (cs 1, 9, .inr (.inl (fun _ => 0)))), (hm, .inr (12, [.ref ms, .ref mkp, .int (nI 0), .ref mtr, .int (nI 4), .int (nI 2), .int (nI 2), .int (nI 3), .int (nI 2), .int (nI 1), .ref mas, .int (nI 0), .int (nI 0), .int (nI 0), .ref mso, .ref mon, .ref mot, .ref man, .int (nI 0), .int (nI 0), .ref mst, .ref msm, .ref mtb, .ref mti, .ref mfr, .ref mbn, .ref mbs, .ref mde, .int (nI 0), .int (nI 0), .int (nI 0), .int (nI 0), .long 0, .long 0, .ref maa, .ref mab, .ref mba, .ref mbb]))] H := hP
            replace hD : va_D A [(maa, .inl (cs 1, 9, .inr (.inl (fun _ => 0)))), (mab, .inl (cs 1, 9, .inr (.inl (fun _ => 0)))), (mba, .inl (cs 1, 9, .inr (.inl (fun _ => 0)))), (mbb, .inl (cs 1, 9, .inr (.inl (fun _ => 0)))), (hm, .inr (12, [.ref ms, .ref mkp, .int (nI 0), .ref mtr, .int (nI 4), .int (nI 2), .int (nI 2), .int (nI 3), .int (nI 2), .int (nI 1), .ref mas, .int (nI 0), .int (nI 0), .int (nI 0), .ref mso, .ref mon, .ref mot, .ref man, .int (nI 0), .int (nI 0), .ref mst, .ref msm, .ref mtb, .ref mti, .ref mfr, .ref mbn, .ref mbs, .ref mde, .int (nI 0), .int (nI 0), .int (nI 0), .int (nI 0), .long 0, .long 0, .ref maa, .ref mab, .ref mba, .ref mbb]))] := hD
            subst hw_r_65
            refine lv_if_eq (tgt := 43) hx hb dX12_chain_36 (by decide) (fun _ => ?_) (fun c => absurd (by decide) c)
            rcases (show True from trivial) with _
            · -- split
              refine lv_aload_n hx hb dX12_chain_43 rfl (lv_at hl 0 rfl) ?_
              refine lv_iconst (v := nI 0) hx hb dX12_chain_44 (by decide) ?_
              refine xput C hP hD hS 4 rfl rfl zuX12 tyX12 tyX12_ok nmX12 31 (by decide) zw6_4 rfl rfl rfl (Nat.le_of_ble_eq_true rfl) dX12_chain_45 ?_
              clear hP hD hS
              try clear locs
              try clear H
              intro H locs hP hD hS
              replace hP : va_P D vwCl [(maa, .inl (cs 1, 9, .inr (.inl (fun _ => 0)))), (mab, .inl (cs 1, 9, .inr (.inl (fun _ => 0)))), (mba, .inl (cs 1, 9, .inr (.inl (fun _ => 0)))), (mbb, .inl (cs 1, 9, .inr (.inl (fun _ => 0)))), (hm, .inr (12, [.ref ms, .ref mkp, .int (nI 0), .ref mtr, .int (nI 4), .int (nI 2), .int (nI 2), .int (nI 3), .int (nI 2), .int (nI 1), .ref mas, .int (nI 0), .int (nI 0), .int (nI 0), .ref mso, .ref mon, .ref mot, .ref man, .int (nI 0), .int (nI 0), .ref mst, .ref msm, .ref mtb, .ref mti, .ref mfr, .ref mbn, .ref mbs, .ref mde, .int (nI 0), .int (nI 0), .int (nI 0), .int (nI 0), .long 0, .long 0, .ref maa, .ref mab, .ref mba, .ref mbb]))] H := hP
              replace hD : va_D A [(maa, .inl (cs 1, 9, .inr (.inl (fun _ => 0)))), (mab, .inl (cs 1, 9, .inr (.inl (fun _ => 0)))), (mba, .inl (cs 1, 9, .inr (.inl (fun _ => 0)))), (mbb, .inl (cs 1, 9, .inr (.inl (fun _ => 0)))), (hm, .inr (12, [.ref ms, .ref mkp, .int (nI 0), .ref mtr, .int (nI 4), .int (nI 2), .int (nI 2), .int (nI 3), .int (nI 2), .int (nI 1), .ref mas, .int (nI 0), .int (nI 0), .int (nI 0), .ref mso, .ref mon, .ref mot, .ref man, .int (nI 0), .int (nI 0), .ref mst, .ref msm, .ref mtb, .ref mti, .ref mfr, .ref mbn, .ref mbs, .ref mde, .int (nI 0), .int (nI 0), .int (nI 0), .int (nI 0), .long 0, .long 0, .ref maa, .ref mab, .ref mba, .ref mbb]))] := hD
              refine lv_aload_n hx hb dX12_chain_48 rfl (lv_at hl 0 rfl) ?_
              refine lv_iload_n hx hb dX12_chain_49 rfl (lv_at hl 2 rfl) ?_
              refine lv_iconst (v := nI 1) hx hb dX12_chain_50 (by decide) ?_
              refine lv_icmp_le (tgt := 58) hx hb dX12_chain_51 (by decide) (fun c => absurd c (by decide)) (fun _ => ?_)
              refine lv_iconst (v := nI 1) hx hb dX12_chain_54 (by decide) ?_
              refine lv_goto (tgt := 59) hx hb dX12_chain_55 (by decide) ?_
              refine xv (wr := []) (xV (As := [.int (nI 1)]) (rest := []) C (c_X12_laysSteps_1 l D cs hm ms mkp mtr mas mso mon mot man mst msm mtb mti mfr mbn mbs mde maa mab mba mbb 0 0) kX12_302 hP hD [4, 0, 1, 2, 3] rfl (by decide +kernel) 0 rfl rfl rfl ⟨Nat.le_of_ble_eq_true rfl, Nat.le_of_ble_eq_true rfl⟩ rfl hl.1 rfl (Nat.le_of_ble_eq_true rfl) dX12_chain_59 ⟨Nat.le_of_ble_eq_true rfl, Nat.le_of_ble_eq_true rfl⟩) hP hD hS hA [4, 0, 1, 2, 3] [] rfl rfl (by decide +kernel) (by decide +kernel) ?_
              clear hP hD hS
              try clear locs
              try clear H
              intro u_68 H locs hw_r_67 hP hD hS
              refine W.widen (k := 0) (n := 0) (Nat.le_of_ble_eq_true rfl) (Nat.le_of_ble_eq_true rfl) ?_
              replace hP : va_P D vwCl [(hm, .inr (12, [.ref ms, .ref mkp, .int (nI 0), .ref mtr, .int (nI 4), .int (nI 2), .int (nI 2), .int (nI 3), .int (nI 2), .int (nI 1), .ref mas, .int (nI 0), .int (nI 0), .int (nI 0), .ref mso, .ref mon, .ref mot, .ref man, .int (nI 0), .int (nI 0), .ref mst, .ref msm, .ref mtb, .ref mti, .ref mfr, .ref mbn, .ref mbs, .ref mde, .int (nI 0), .int (nI 0), .int (nI 0), .int (nI 0), .long 4, .long 1, .ref maa, .ref mab, .ref mba, .ref mbb])), (maa, .inl (cs 1, 9, .inr (.inl (lt4 0 0 1 1)))), (mab, .inl (cs 1, 9, .inr (.inl (lt4 1 1 2 1)))), (mba, .inl (cs 1, 9, .inr (.inl (lt4 0 4 5 4)))), (mbb, .inl (cs 1, 9, .inr (.inl (lt4 1 1 1 1))))] H := hP
              replace hD : va_D A [(hm, .inr (12, [.ref ms, .ref mkp, .int (nI 0), .ref mtr, .int (nI 4), .int (nI 2), .int (nI 2), .int (nI 3), .int (nI 2), .int (nI 1), .ref mas, .int (nI 0), .int (nI 0), .int (nI 0), .ref mso, .ref mon, .ref mot, .ref man, .int (nI 0), .int (nI 0), .ref mst, .ref msm, .ref mtb, .ref mti, .ref mfr, .ref mbn, .ref mbs, .ref mde, .int (nI 0), .int (nI 0), .int (nI 0), .int (nI 0), .long 4, .long 1, .ref maa, .ref mab, .ref mba, .ref mbb])), (maa, .inl (cs 1, 9, .inr (.inl (lt4 0 0 1 1)))), (mab, .inl (cs 1, 9, .inr (.inl (lt4 1 1 2 1)))), (mba, .inl (cs 1, 9, .inr (.inl (lt4 0 4 5 4)))), (mbb, .inl (cs 1, 9, .inr (.inl (lt4 1 1 1 1))))] := hD
              refine lv_aload_n hx hb dX12_chain_62 rfl (lv_at hl 0 rfl) ?_
              refine xget C hP 0 rfl rfl zuX12 31 (by decide) zw6_4 rfl dX12_chain_63 ?_
              refine lv_if_ne (tgt := 103) hx hb dX12_chain_66 (by decide) (fun c => absurd (by decide) c) (fun _ => ?_)
              refine lv_aload_n hx hb dX12_chain_69 rfl (lv_at hl 0 rfl) ?_
              refine lv_iload_n hx hb dX12_chain_70 rfl (lv_at hl 1 rfl) ?_
              refine lv_iload_n hx hb dX12_chain_71 rfl (lv_at hl 2 rfl) ?_
              refine lv_iconst (v := nI 1) hx hb dX12_chain_72 (by decide) ?_
              refine lv_icmp_le (tgt := 80) hx hb dX12_chain_73 (by decide) (fun c => absurd c (by decide)) (fun _ => ?_)
              refine lv_lconst (v := 0) hx hb dX12_chain_76 (by decide) ?_
              refine lv_goto (tgt := 81) hx hb dX12_chain_77 (by decide) ?_
              refine xv (wr := []) (xV (As := [.int (nI 3), .long 0]) (rest := []) C (c_X12_goesDown_1_3 l D cs hm ms mkp mtr mas mso mon mot man mst msm mtb mti mfr mbn mbs mde maa mab mba mbb 4 1) kX12_306 hP hD [0, 1, 2, 3, 4] rfl (by decide +kernel) 0 rfl rfl rfl ⟨Nat.le_of_ble_eq_true rfl, Nat.le_of_ble_eq_true rfl⟩ rfl hl.1 rfl (Nat.le_of_ble_eq_true rfl) dX12_chain_81 ⟨Nat.le_of_ble_eq_true rfl, Nat.le_of_ble_eq_true rfl⟩) hP hD hS hA [0, 1, 2, 3, 4] [] rfl rfl (by decide +kernel) (by decide +kernel) ?_
              clear hP hD hS
              try clear locs
              try clear H
              intro u_70 H locs hw_r_69 hP hD hS
              refine W.widen (k := 0) (n := 0) (Nat.le_of_ble_eq_true rfl) (Nat.le_of_ble_eq_true rfl) ?_
              replace hP : va_P D vwCl [(hm, .inr (12, [.ref ms, .ref mkp, .int (nI 0), .ref mtr, .int (nI 4), .int (nI 2), .int (nI 2), .int (nI 3), .int (nI 2), .int (nI 1), .ref mas, .int (nI 0), .int (nI 0), .int (nI 0), .ref mso, .ref mon, .ref mot, .ref man, .int (nI 0), .int (nI 0), .ref mst, .ref msm, .ref mtb, .ref mti, .ref mfr, .ref mbn, .ref mbs, .ref mde, .int (nI 0), .int (nI 0), .int (nI 0), .int (nI 0), .long 4, .long 1, .ref maa, .ref mab, .ref mba, .ref mbb])), (maa, .inl (cs 1, 9, .inr (.inl (lt4 0 0 1 1)))), (mab, .inl (cs 1, 9, .inr (.inl (lt4 1 1 2 1)))), (mba, .inl (cs 1, 9, .inr (.inl (lt4 0 4 5 4)))), (mbb, .inl (cs 1, 9, .inr (.inl (lt4 1 1 1 1))))] H := hP
              replace hD : va_D A [(hm, .inr (12, [.ref ms, .ref mkp, .int (nI 0), .ref mtr, .int (nI 4), .int (nI 2), .int (nI 2), .int (nI 3), .int (nI 2), .int (nI 1), .ref mas, .int (nI 0), .int (nI 0), .int (nI 0), .ref mso, .ref mon, .ref mot, .ref man, .int (nI 0), .int (nI 0), .ref mst, .ref msm, .ref mtb, .ref mti, .ref mfr, .ref mbn, .ref mbs, .ref mde, .int (nI 0), .int (nI 0), .int (nI 0), .int (nI 0), .long 4, .long 1, .ref maa, .ref mab, .ref mba, .ref mbb])), (maa, .inl (cs 1, 9, .inr (.inl (lt4 0 0 1 1)))), (mab, .inl (cs 1, 9, .inr (.inl (lt4 1 1 2 1)))), (mba, .inl (cs 1, 9, .inr (.inl (lt4 0 4 5 4)))), (mbb, .inl (cs 1, 9, .inr (.inl (lt4 1 1 1 1))))] := hD
              refine lv_iload_n hx hb dX12_chain_84 rfl (lv_at hl 2 rfl) ?_
              refine lv_iconst (v := nI 1) hx hb dX12_chain_85 (by decide) ?_
              refine lv_icmp_le (tgt := 103) hx hb dX12_chain_86 (by decide) (fun c => absurd c (by decide)) (fun _ => ?_)
              refine lv_iload_n hx hb dX12_chain_89 rfl (lv_at hl 1 rfl) ?_
              refine lv_if_ne (tgt := 103) hx hb dX12_chain_90 (by decide) (fun _ => ?_) (fun c => absurd c (by decide))
              refine lv_aload_n hx hb dX12_chain_103 rfl (lv_at hl 0 rfl) ?_
              refine xget C hP 0 rfl rfl zuX12 31 (by decide) zw6_4 rfl dX12_chain_104 ?_
              refine lv_if_eq (tgt := 114) hx hb dX12_chain_107 (by decide) (fun _ => ?_) (fun c => absurd (by decide) c)
              refine lv_iload_n hx hb dX12_chain_114 rfl (lv_at hl 2 rfl) ?_
              refine lv_iconst (v := nI 2) hx hb dX12_chain_115 (by decide) ?_
              refine lv_irem hx hb dX12_chain_116 (by decide) ?_
              refine lv_topi (nm_r (e' := nI 0) (by decide) ?_)
              refine lv_if_ne (tgt := 127) hx hb dX12_chain_117 (by decide) (fun c => absurd (by decide) c) (fun _ => ?_)
              refine lv_aload_n hx hb dX12_chain_120 rfl (lv_at hl 0 rfl) ?_
              refine xget C hP 0 rfl rfl zuX12 32 (by decide) zw6_5 rfl dX12_chain_121 ?_
              refine lv_goto (tgt := 131) hx hb dX12_chain_124 (by decide) ?_
              exact xretl C () (Or.inl ⟨3, 2, by decide, by decide, rfl, rfl, rfl⟩) (xP_map hP [] rfl) (hD.sub [] (by decide +kernel) rfl) hS (Nat.le_of_ble_eq_true rfl) (Nat.le_of_ble_eq_true rfl) dX12_chain_131
          · -- split
            replace hP : va_P D vwCl [(hm, .inr (12, [.ref ms, .ref mkp, .int (nI 0), .ref mtr, .int (nI 4), .int (nI 2), .int (nI 2), .int (nI 3), .int (nI 2), .int (nI 1), .ref mas, .int (nI 0), .int (nI 0), .int (nI 0), .ref mso, .ref mon, .ref mot, .ref man, .int (nI 0), .int (nI 0), .ref mst, .ref msm, .ref mtb, .ref mti, .ref mfr, .ref mbn, .ref mbs, .ref mde, .int (nI 0), .int (nI 0), .int (nI 0), .int (nI 0), .long 0, .long 0, .ref maa, .ref mab, .ref mba, .ref mbb])), (maa, .inl (cs 1, 9, .inr (.inl (fun _ => 0)))), (mab, .inl (cs 1, 9, .inr (.inl (fun _ => 0)))), (mba, .inl (cs 1, 9, .inr (.inl (fun _ => 0)))), (mbb, .inl (cs 1, 9, .inr (.inl (fun _ => 0))))] H := hP
            replace hD : va_D A [(hm, .inr (12, [.ref ms, .ref mkp, .int (nI 0), .ref mtr, .int (nI 4), .int (nI 2), .int (nI 2), .int (nI 3), .int (nI 2), .int (nI 1), .ref mas, .int (nI 0), .int (nI 0), .int (nI 0), .ref mso, .ref mon, .ref mot, .ref man, .int (nI 0), .int (nI 0), .ref mst, .ref msm, .ref mtb, .ref mti, .ref mfr, .ref mbn, .ref mbs, .ref mde, .int (nI 0), .int (nI 0), .int (nI 0), .int (nI 0), .long 0, .long 0, .ref maa, .ref mab, .ref mba, .ref mbb])), (maa, .inl (cs 1, 9, .inr (.inl (fun _ => 0)))), (mab, .inl (cs 1, 9, .inr (.inl (fun _ => 0)))), (mba, .inl (cs 1, 9, .inr (.inl (fun _ => 0)))), (mbb, .inl (cs 1, 9, .inr (.inl (fun _ => 0))))] := hD
            refine xi (wr := [(maa, .inl (cs 1, 9, .inr (.inl (fun _ => 0)))), (mab, .inl (cs 1, 9, .inr (.inl (fun _ => 0)))), (mba, .inl (cs 1, 9, .inr (.inl (fun _ => 0)))), (mbb, .inl (cs 1, 9, .inr (.inl (fun _ => 0))))]) (xV (As := [.int (nI 4)]) (rest := []) C (c_X12_mayStay_4 l D cs hm ms mkp mtr mas mso mon mot man mst msm mtb mti mfr mbn mbs mde maa mab mba mbb 0 0) kX12_299 hP hD [0] rfl (by decide +kernel) 0 rfl rfl rfl ⟨Nat.le_of_ble_eq_true rfl, Nat.le_of_ble_eq_true rfl⟩ rfl hl.1 rfl (Nat.le_of_ble_eq_true rfl) dX12_chain_33 ⟨Nat.le_of_ble_eq_true rfl, Nat.le_of_ble_eq_true rfl⟩) hP hD hS hA [0] [1, 2, 3, 4] rfl rfl (by decide +kernel) (by decide +kernel) ?_
            clear hP hD hS
            try clear locs
            try clear H
            intro r_71 u_72 H locs hw_r_71 hP hD hS
            have hw_r_71 : r_71 = nI 0 := hw_r_71
            refine W.widen (k := 0) (n := 0) (Nat.le_of_ble_eq_true rfl) (Nat.le_of_ble_eq_true rfl) ?_
            replace hP : va_P D vwCl [(maa, .inl (cs 1, 9, .inr (.inl (fun _ => 0)))), (mab, .inl (cs 1, 9, .inr (.inl (fun _ => 0)))), (mba, .inl (cs 1, 9, .inr (.inl (fun _ => 0)))), (mbb, .inl (cs 1, 9, .inr (.inl (fun _ => 0)))), (hm, .inr (12, [.ref ms, .ref mkp, .int (nI 0), .ref mtr, .int (nI 4), .int (nI 2), .int (nI 2), .int (nI 3), .int (nI 2), .int (nI 1), .ref mas, .int (nI 0), .int (nI 0), .int (nI 0), .ref mso, .ref mon, .ref mot, .ref man, .int (nI 0), .int (nI 0), .ref mst, .ref msm, .ref mtb, .ref mti, .ref mfr, .ref mbn, .ref mbs, .ref mde, .int (nI 0), .int (nI 0), .int (nI 0), .int (nI 0), .long 0, .long 0, .ref maa, .ref mab, .ref mba, .ref mbb]))] H := hP
            replace hD : va_D A [(maa, .inl (cs 1, 9, .inr (.inl (fun _ => 0)))), (mab, .inl (cs 1, 9, .inr (.inl (fun _ => 0)))), (mba, .inl (cs 1, 9, .inr (.inl (fun _ => 0)))), (mbb, .inl (cs 1, 9, .inr (.inl (fun _ => 0)))), (hm, .inr (12, [.ref ms, .ref mkp, .int (nI 0), .ref mtr, .int (nI 4), .int (nI 2), .int (nI 2), .int (nI 3), .int (nI 2), .int (nI 1), .ref mas, .int (nI 0), .int (nI 0), .int (nI 0), .ref mso, .ref mon, .ref mot, .ref man, .int (nI 0), .int (nI 0), .ref mst, .ref msm, .ref mtb, .ref mti, .ref mfr, .ref mbn, .ref mbs, .ref mde, .int (nI 0), .int (nI 0), .int (nI 0), .int (nI 0), .long 0, .long 0, .ref maa, .ref mab, .ref mba, .ref mbb]))] := hD
            subst hw_r_71
            refine lv_if_eq (tgt := 43) hx hb dX12_chain_36 (by decide) (fun _ => ?_) (fun c => absurd (by decide) c)
            rcases (show True from trivial) with _
            · -- split
              refine lv_aload_n hx hb dX12_chain_43 rfl (lv_at hl 0 rfl) ?_
              refine lv_iconst (v := nI 0) hx hb dX12_chain_44 (by decide) ?_
              refine xput C hP hD hS 4 rfl rfl zuX12 tyX12 tyX12_ok nmX12 31 (by decide) zw6_4 rfl rfl rfl (Nat.le_of_ble_eq_true rfl) dX12_chain_45 ?_
              clear hP hD hS
              try clear locs
              try clear H
              intro H locs hP hD hS
              replace hP : va_P D vwCl [(maa, .inl (cs 1, 9, .inr (.inl (fun _ => 0)))), (mab, .inl (cs 1, 9, .inr (.inl (fun _ => 0)))), (mba, .inl (cs 1, 9, .inr (.inl (fun _ => 0)))), (mbb, .inl (cs 1, 9, .inr (.inl (fun _ => 0)))), (hm, .inr (12, [.ref ms, .ref mkp, .int (nI 0), .ref mtr, .int (nI 4), .int (nI 2), .int (nI 2), .int (nI 3), .int (nI 2), .int (nI 1), .ref mas, .int (nI 0), .int (nI 0), .int (nI 0), .ref mso, .ref mon, .ref mot, .ref man, .int (nI 0), .int (nI 0), .ref mst, .ref msm, .ref mtb, .ref mti, .ref mfr, .ref mbn, .ref mbs, .ref mde, .int (nI 0), .int (nI 0), .int (nI 0), .int (nI 0), .long 0, .long 0, .ref maa, .ref mab, .ref mba, .ref mbb]))] H := hP
              replace hD : va_D A [(maa, .inl (cs 1, 9, .inr (.inl (fun _ => 0)))), (mab, .inl (cs 1, 9, .inr (.inl (fun _ => 0)))), (mba, .inl (cs 1, 9, .inr (.inl (fun _ => 0)))), (mbb, .inl (cs 1, 9, .inr (.inl (fun _ => 0)))), (hm, .inr (12, [.ref ms, .ref mkp, .int (nI 0), .ref mtr, .int (nI 4), .int (nI 2), .int (nI 2), .int (nI 3), .int (nI 2), .int (nI 1), .ref mas, .int (nI 0), .int (nI 0), .int (nI 0), .ref mso, .ref mon, .ref mot, .ref man, .int (nI 0), .int (nI 0), .ref mst, .ref msm, .ref mtb, .ref mti, .ref mfr, .ref mbn, .ref mbs, .ref mde, .int (nI 0), .int (nI 0), .int (nI 0), .int (nI 0), .long 0, .long 0, .ref maa, .ref mab, .ref mba, .ref mbb]))] := hD
              refine lv_aload_n hx hb dX12_chain_48 rfl (lv_at hl 0 rfl) ?_
              refine lv_iload_n hx hb dX12_chain_49 rfl (lv_at hl 2 rfl) ?_
              refine lv_iconst (v := nI 1) hx hb dX12_chain_50 (by decide) ?_
              refine lv_icmp_le (tgt := 58) hx hb dX12_chain_51 (by decide) (fun c => absurd c (by decide)) (fun _ => ?_)
              refine lv_iconst (v := nI 1) hx hb dX12_chain_54 (by decide) ?_
              refine lv_goto (tgt := 59) hx hb dX12_chain_55 (by decide) ?_
              refine xv (wr := []) (xV (As := [.int (nI 1)]) (rest := []) C (c_X12_laysSteps_1 l D cs hm ms mkp mtr mas mso mon mot man mst msm mtb mti mfr mbn mbs mde maa mab mba mbb 0 0) kX12_302 hP hD [4, 0, 1, 2, 3] rfl (by decide +kernel) 0 rfl rfl rfl ⟨Nat.le_of_ble_eq_true rfl, Nat.le_of_ble_eq_true rfl⟩ rfl hl.1 rfl (Nat.le_of_ble_eq_true rfl) dX12_chain_59 ⟨Nat.le_of_ble_eq_true rfl, Nat.le_of_ble_eq_true rfl⟩) hP hD hS hA [4, 0, 1, 2, 3] [] rfl rfl (by decide +kernel) (by decide +kernel) ?_
              clear hP hD hS
              try clear locs
              try clear H
              intro u_74 H locs hw_r_73 hP hD hS
              refine W.widen (k := 0) (n := 0) (Nat.le_of_ble_eq_true rfl) (Nat.le_of_ble_eq_true rfl) ?_
              replace hP : va_P D vwCl [(hm, .inr (12, [.ref ms, .ref mkp, .int (nI 0), .ref mtr, .int (nI 4), .int (nI 2), .int (nI 2), .int (nI 3), .int (nI 2), .int (nI 1), .ref mas, .int (nI 0), .int (nI 0), .int (nI 0), .ref mso, .ref mon, .ref mot, .ref man, .int (nI 0), .int (nI 0), .ref mst, .ref msm, .ref mtb, .ref mti, .ref mfr, .ref mbn, .ref mbs, .ref mde, .int (nI 0), .int (nI 0), .int (nI 0), .int (nI 0), .long 4, .long 1, .ref maa, .ref mab, .ref mba, .ref mbb])), (maa, .inl (cs 1, 9, .inr (.inl (lt4 0 0 1 1)))), (mab, .inl (cs 1, 9, .inr (.inl (lt4 1 1 2 1)))), (mba, .inl (cs 1, 9, .inr (.inl (lt4 0 4 5 4)))), (mbb, .inl (cs 1, 9, .inr (.inl (lt4 1 1 1 1))))] H := hP
              replace hD : va_D A [(hm, .inr (12, [.ref ms, .ref mkp, .int (nI 0), .ref mtr, .int (nI 4), .int (nI 2), .int (nI 2), .int (nI 3), .int (nI 2), .int (nI 1), .ref mas, .int (nI 0), .int (nI 0), .int (nI 0), .ref mso, .ref mon, .ref mot, .ref man, .int (nI 0), .int (nI 0), .ref mst, .ref msm, .ref mtb, .ref mti, .ref mfr, .ref mbn, .ref mbs, .ref mde, .int (nI 0), .int (nI 0), .int (nI 0), .int (nI 0), .long 4, .long 1, .ref maa, .ref mab, .ref mba, .ref mbb])), (maa, .inl (cs 1, 9, .inr (.inl (lt4 0 0 1 1)))), (mab, .inl (cs 1, 9, .inr (.inl (lt4 1 1 2 1)))), (mba, .inl (cs 1, 9, .inr (.inl (lt4 0 4 5 4)))), (mbb, .inl (cs 1, 9, .inr (.inl (lt4 1 1 1 1))))] := hD
              refine lv_aload_n hx hb dX12_chain_62 rfl (lv_at hl 0 rfl) ?_
              refine xget C hP 0 rfl rfl zuX12 31 (by decide) zw6_4 rfl dX12_chain_63 ?_
              refine lv_if_ne (tgt := 103) hx hb dX12_chain_66 (by decide) (fun c => absurd (by decide) c) (fun _ => ?_)
              refine lv_aload_n hx hb dX12_chain_69 rfl (lv_at hl 0 rfl) ?_
              refine lv_iload_n hx hb dX12_chain_70 rfl (lv_at hl 1 rfl) ?_
              refine lv_iload_n hx hb dX12_chain_71 rfl (lv_at hl 2 rfl) ?_
              refine lv_iconst (v := nI 1) hx hb dX12_chain_72 (by decide) ?_
              refine lv_icmp_le (tgt := 80) hx hb dX12_chain_73 (by decide) (fun c => absurd c (by decide)) (fun _ => ?_)
              refine lv_lconst (v := 0) hx hb dX12_chain_76 (by decide) ?_
              refine lv_goto (tgt := 81) hx hb dX12_chain_77 (by decide) ?_
              refine xv (wr := []) (xV (As := [.int (nI 4), .long 0]) (rest := []) C (c_X12_goesDown_1_4 l D cs hm ms mkp mtr mas mso mon mot man mst msm mtb mti mfr mbn mbs mde maa mab mba mbb 4 1) kX12_306 hP hD [0, 1, 2, 3, 4] rfl (by decide +kernel) 0 rfl rfl rfl ⟨Nat.le_of_ble_eq_true rfl, Nat.le_of_ble_eq_true rfl⟩ rfl hl.1 rfl (Nat.le_of_ble_eq_true rfl) dX12_chain_81 ⟨Nat.le_of_ble_eq_true rfl, Nat.le_of_ble_eq_true rfl⟩) hP hD hS hA [0, 1, 2, 3, 4] [] rfl rfl (by decide +kernel) (by decide +kernel) ?_
              clear hP hD hS
              try clear locs
              try clear H
              intro u_76 H locs hw_r_75 hP hD hS
              refine W.widen (k := 0) (n := 0) (Nat.le_of_ble_eq_true rfl) (Nat.le_of_ble_eq_true rfl) ?_
              replace hP : va_P D vwCl [(hm, .inr (12, [.ref ms, .ref mkp, .int (nI 0), .ref mtr, .int (nI 4), .int (nI 2), .int (nI 2), .int (nI 3), .int (nI 2), .int (nI 1), .ref mas, .int (nI 0), .int (nI 0), .int (nI 0), .ref mso, .ref mon, .ref mot, .ref man, .int (nI 0), .int (nI 0), .ref mst, .ref msm, .ref mtb, .ref mti, .ref mfr, .ref mbn, .ref mbs, .ref mde, .int (nI 0), .int (nI 0), .int (nI 0), .int (nI 0), .long 0, .long 1, .ref maa, .ref mab, .ref mba, .ref mbb])), (maa, .inl (cs 1, 9, .inr (.inl (lt4 0 0 1 1)))), (mab, .inl (cs 1, 9, .inr (.inl (lt4 1 1 2 1)))), (mba, .inl (cs 1, 9, .inr (.inl (lt4 0 4 5 4)))), (mbb, .inl (cs 1, 9, .inr (.inl (lt4 1 1 1 1))))] H := hP
              replace hD : va_D A [(hm, .inr (12, [.ref ms, .ref mkp, .int (nI 0), .ref mtr, .int (nI 4), .int (nI 2), .int (nI 2), .int (nI 3), .int (nI 2), .int (nI 1), .ref mas, .int (nI 0), .int (nI 0), .int (nI 0), .ref mso, .ref mon, .ref mot, .ref man, .int (nI 0), .int (nI 0), .ref mst, .ref msm, .ref mtb, .ref mti, .ref mfr, .ref mbn, .ref mbs, .ref mde, .int (nI 0), .int (nI 0), .int (nI 0), .int (nI 0), .long 0, .long 1, .ref maa, .ref mab, .ref mba, .ref mbb])), (maa, .inl (cs 1, 9, .inr (.inl (lt4 0 0 1 1)))), (mab, .inl (cs 1, 9, .inr (.inl (lt4 1 1 2 1)))), (mba, .inl (cs 1, 9, .inr (.inl (lt4 0 4 5 4)))), (mbb, .inl (cs 1, 9, .inr (.inl (lt4 1 1 1 1))))] := hD
              refine lv_iload_n hx hb dX12_chain_84 rfl (lv_at hl 2 rfl) ?_
              refine lv_iconst (v := nI 1) hx hb dX12_chain_85 (by decide) ?_
              refine lv_icmp_le (tgt := 103) hx hb dX12_chain_86 (by decide) (fun c => absurd c (by decide)) (fun _ => ?_)
              refine lv_iload_n hx hb dX12_chain_89 rfl (lv_at hl 1 rfl) ?_
              refine lv_if_ne (tgt := 103) hx hb dX12_chain_90 (by decide) (fun _ => ?_) (fun c => absurd c (by decide))
              refine lv_aload_n hx hb dX12_chain_103 rfl (lv_at hl 0 rfl) ?_
              refine xget C hP 0 rfl rfl zuX12 31 (by decide) zw6_4 rfl dX12_chain_104 ?_
              refine lv_if_eq (tgt := 114) hx hb dX12_chain_107 (by decide) (fun _ => ?_) (fun c => absurd (by decide) c)
              refine lv_iload_n hx hb dX12_chain_114 rfl (lv_at hl 2 rfl) ?_
              refine lv_iconst (v := nI 2) hx hb dX12_chain_115 (by decide) ?_
              refine lv_irem hx hb dX12_chain_116 (by decide) ?_
              refine lv_topi (nm_r (e' := nI 0) (by decide) ?_)
              refine lv_if_ne (tgt := 127) hx hb dX12_chain_117 (by decide) (fun c => absurd (by decide) c) (fun _ => ?_)
              refine lv_aload_n hx hb dX12_chain_120 rfl (lv_at hl 0 rfl) ?_
              refine xget C hP 0 rfl rfl zuX12 32 (by decide) zw6_5 rfl dX12_chain_121 ?_
              refine lv_goto (tgt := 131) hx hb dX12_chain_124 (by decide) ?_
              exact xretl C () (Or.inl ⟨4, 2, by decide, by decide, rfl, rfl, rfl⟩) (xP_map hP [] rfl) (hD.sub [] (by decide +kernel) rfl) hS (Nat.le_of_ble_eq_true rfl) (Nat.le_of_ble_eq_true rfl) dX12_chain_131
        · -- k = 3
          replace hP : va_P D vwCl [(hm, .inr (12, [.ref ms, .ref mkp, .int (nI 0), .ref mtr, .int (nI 4), .int (nI 2), .int (nI 2), .int (nI 3), .int (nI 2), .int (nI 1), .ref mas, .int (nI 0), .int (nI 0), .int (nI 0), .ref mso, .ref mon, .ref mot, .ref man, .int (nI 0), .int (nI 0), .ref mst, .ref msm, .ref mtb, .ref mti, .ref mfr, .ref mbn, .ref mbs, .ref mde, .int (nI 0), .int (nI 0), .int (nI 0), .int (nI 0), .long 0, .long 0, .ref maa, .ref mab, .ref mba, .ref mbb])), (maa, .inl (cs 1, 9, .inr (.inl (fun _ => 0)))), (mab, .inl (cs 1, 9, .inr (.inl (fun _ => 0)))), (mba, .inl (cs 1, 9, .inr (.inl (fun _ => 0)))), (mbb, .inl (cs 1, 9, .inr (.inl (fun _ => 0))))] H := hP
          replace hD : va_D A [(hm, .inr (12, [.ref ms, .ref mkp, .int (nI 0), .ref mtr, .int (nI 4), .int (nI 2), .int (nI 2), .int (nI 3), .int (nI 2), .int (nI 1), .ref mas, .int (nI 0), .int (nI 0), .int (nI 0), .ref mso, .ref mon, .ref mot, .ref man, .int (nI 0), .int (nI 0), .ref mst, .ref msm, .ref mtb, .ref mti, .ref mfr, .ref mbn, .ref mbs, .ref mde, .int (nI 0), .int (nI 0), .int (nI 0), .int (nI 0), .long 0, .long 0, .ref maa, .ref mab, .ref mba, .ref mbb])), (maa, .inl (cs 1, 9, .inr (.inl (fun _ => 0)))), (mab, .inl (cs 1, 9, .inr (.inl (fun _ => 0)))), (mba, .inl (cs 1, 9, .inr (.inl (fun _ => 0)))), (mbb, .inl (cs 1, 9, .inr (.inl (fun _ => 0))))] := hD
          refine lv_iconst (v := nI 1) hx hb dX12_chain_27 (by decide) ?_
          refine lv_icmp_le (tgt := 43) hx hb dX12_chain_28 (by decide) (fun c => absurd c (by decide)) (fun _ => ?_)
          refine lv_aload_n hx hb dX12_chain_31 rfl (lv_at hl 0 rfl) ?_
          refine lv_iload_n hx hb dX12_chain_32 rfl (lv_at hl 1 rfl) ?_
          rcases (show j = 0 ∨ j = 1 ∨ j = 2 ∨ j = 3 ∨ j = 4 by omega) with rfl | rfl | rfl | rfl | rfl
          · -- split
            replace hP : va_P D vwCl [(hm, .inr (12, [.ref ms, .ref mkp, .int (nI 0), .ref mtr, .int (nI 4), .int (nI 2), .int (nI 2), .int (nI 3), .int (nI 2), .int (nI 1), .ref mas, .int (nI 0), .int (nI 0), .int (nI 0), .ref mso, .ref mon, .ref mot, .ref man, .int (nI 0), .int (nI 0), .ref mst, .ref msm, .ref mtb, .ref mti, .ref mfr, .ref mbn, .ref mbs, .ref mde, .int (nI 0), .int (nI 0), .int (nI 0), .int (nI 0), .long 0, .long 0, .ref maa, .ref mab, .ref mba, .ref mbb])), (maa, .inl (cs 1, 9, .inr (.inl (fun _ => 0)))), (mab, .inl (cs 1, 9, .inr (.inl (fun _ => 0)))), (mba, .inl (cs 1, 9, .inr (.inl (fun _ => 0)))), (mbb, .inl (cs 1, 9, .inr (.inl (fun _ => 0))))] H := hP
            replace hD : va_D A [(hm, .inr (12, [.ref ms, .ref mkp, .int (nI 0), .ref mtr, .int (nI 4), .int (nI 2), .int (nI 2), .int (nI 3), .int (nI 2), .int (nI 1), .ref mas, .int (nI 0), .int (nI 0), .int (nI 0), .ref mso, .ref mon, .ref mot, .ref man, .int (nI 0), .int (nI 0), .ref mst, .ref msm, .ref mtb, .ref mti, .ref mfr, .ref mbn, .ref mbs, .ref mde, .int (nI 0), .int (nI 0), .int (nI 0), .int (nI 0), .long 0, .long 0, .ref maa, .ref mab, .ref mba, .ref mbb])), (maa, .inl (cs 1, 9, .inr (.inl (fun _ => 0)))), (mab, .inl (cs 1, 9, .inr (.inl (fun _ => 0)))), (mba, .inl (cs 1, 9, .inr (.inl (fun _ => 0)))), (mbb, .inl (cs 1, 9, .inr (.inl (fun _ => 0))))] := hD
            refine xi (wr := [(maa, .inl (cs 1, 9, .inr (.inl (fun _ => 0)))), (mab, .inl (cs 1, 9, .inr (.inl (fun _ => 0)))), (mba, .inl (cs 1, 9, .inr (.inl (fun _ => 0)))), (mbb, .inl (cs 1, 9, .inr (.inl (fun _ => 0))))]) (xV (As := [.int (nI 0)]) (rest := []) C (c_X12_mayStay_0 l D cs hm ms mkp mtr mas mso mon mot man mst msm mtb mti mfr mbn mbs mde maa mab mba mbb 0 0) kX12_299 hP hD [0] rfl (by decide +kernel) 0 rfl rfl rfl ⟨Nat.le_of_ble_eq_true rfl, Nat.le_of_ble_eq_true rfl⟩ rfl hl.1 rfl (Nat.le_of_ble_eq_true rfl) dX12_chain_33 ⟨Nat.le_of_ble_eq_true rfl, Nat.le_of_ble_eq_true rfl⟩) hP hD hS hA [0] [1, 2, 3, 4] rfl rfl (by decide +kernel) (by decide +kernel) ?_
            clear hP hD hS
            try clear locs
            try clear H
            intro r_77 u_78 H locs hw_r_77 hP hD hS
            have hw_r_77 : r_77 = nI 0 := hw_r_77
            refine W.widen (k := 0) (n := 0) (Nat.le_of_ble_eq_true rfl) (Nat.le_of_ble_eq_true rfl) ?_
            replace hP : va_P D vwCl [(maa, .inl (cs 1, 9, .inr (.inl (fun _ => 0)))), (mab, .inl (cs 1, 9, .inr (.inl (fun _ => 0)))), (mba, .inl (cs 1, 9, .inr (.inl (fun _ => 0)))), (mbb, .inl (cs 1, 9, .inr (.inl (fun _ => 0)))), (hm, .inr (12, [.ref ms, .ref mkp, .int (nI 0), .ref mtr, .int (nI 4), .int (nI 2), .int (nI 2), .int (nI 3), .int (nI 2), .int (nI 1), .ref mas, .int (nI 0), .int (nI 0), .int (nI 0), .ref mso, .ref mon, .ref mot, .ref man, .int (nI 0), .int (nI 0), .ref mst, .ref msm, .ref mtb, .ref mti, .ref mfr, .ref mbn, .ref mbs, .ref mde, .int (nI 0), .int (nI 0), .int (nI 0), .int (nI 0), .long 0, .long 0, .ref maa, .ref mab, .ref mba, .ref mbb]))] H := hP
            replace hD : va_D A [(maa, .inl (cs 1, 9, .inr (.inl (fun _ => 0)))), (mab, .inl (cs 1, 9, .inr (.inl (fun _ => 0)))), (mba, .inl (cs 1, 9, .inr (.inl (fun _ => 0)))), (mbb, .inl (cs 1, 9, .inr (.inl (fun _ => 0)))), (hm, .inr (12, [.ref ms, .ref mkp, .int (nI 0), .ref mtr, .int (nI 4), .int (nI 2), .int (nI 2), .int (nI 3), .int (nI 2), .int (nI 1), .ref mas, .int (nI 0), .int (nI 0), .int (nI 0), .ref mso, .ref mon, .ref mot, .ref man, .int (nI 0), .int (nI 0), .ref mst, .ref msm, .ref mtb, .ref mti, .ref mfr, .ref mbn, .ref mbs, .ref mde, .int (nI 0), .int (nI 0), .int (nI 0), .int (nI 0), .long 0, .long 0, .ref maa, .ref mab, .ref mba, .ref mbb]))] := hD
            subst hw_r_77
            refine lv_if_eq (tgt := 43) hx hb dX12_chain_36 (by decide) (fun _ => ?_) (fun c => absurd (by decide) c)
            rcases (show True from trivial) with _
            · -- split
              refine lv_aload_n hx hb dX12_chain_43 rfl (lv_at hl 0 rfl) ?_
              refine lv_iconst (v := nI 0) hx hb dX12_chain_44 (by decide) ?_
              refine xput C hP hD hS 4 rfl rfl zuX12 tyX12 tyX12_ok nmX12 31 (by decide) zw6_4 rfl rfl rfl (Nat.le_of_ble_eq_true rfl) dX12_chain_45 ?_
              clear hP hD hS
              try clear locs
              try clear H
              intro H locs hP hD hS
              replace hP : va_P D vwCl [(maa, .inl (cs 1, 9, .inr (.inl (fun _ => 0)))), (mab, .inl (cs 1, 9, .inr (.inl (fun _ => 0)))), (mba, .inl (cs 1, 9, .inr (.inl (fun _ => 0)))), (mbb, .inl (cs 1, 9, .inr (.inl (fun _ => 0)))), (hm, .inr (12, [.ref ms, .ref mkp, .int (nI 0), .ref mtr, .int (nI 4), .int (nI 2), .int (nI 2), .int (nI 3), .int (nI 2), .int (nI 1), .ref mas, .int (nI 0), .int (nI 0), .int (nI 0), .ref mso, .ref mon, .ref mot, .ref man, .int (nI 0), .int (nI 0), .ref mst, .ref msm, .ref mtb, .ref mti, .ref mfr, .ref mbn, .ref mbs, .ref mde, .int (nI 0), .int (nI 0), .int (nI 0), .int (nI 0), .long 0, .long 0, .ref maa, .ref mab, .ref mba, .ref mbb]))] H := hP
              replace hD : va_D A [(maa, .inl (cs 1, 9, .inr (.inl (fun _ => 0)))), (mab, .inl (cs 1, 9, .inr (.inl (fun _ => 0)))), (mba, .inl (cs 1, 9, .inr (.inl (fun _ => 0)))), (mbb, .inl (cs 1, 9, .inr (.inl (fun _ => 0)))), (hm, .inr (12, [.ref ms, .ref mkp, .int (nI 0), .ref mtr, .int (nI 4), .int (nI 2), .int (nI 2), .int (nI 3), .int (nI 2), .int (nI 1), .ref mas, .int (nI 0), .int (nI 0), .int (nI 0), .ref mso, .ref mon, .ref mot, .ref man, .int (nI 0), .int (nI 0), .ref mst, .ref msm, .ref mtb, .ref mti, .ref mfr, .ref mbn, .ref mbs, .ref mde, .int (nI 0), .int (nI 0), .int (nI 0), .int (nI 0), .long 0, .long 0, .ref maa, .ref mab, .ref mba, .ref mbb]))] := hD
              refine lv_aload_n hx hb dX12_chain_48 rfl (lv_at hl 0 rfl) ?_
              refine lv_iload_n hx hb dX12_chain_49 rfl (lv_at hl 2 rfl) ?_
              refine lv_iconst (v := nI 1) hx hb dX12_chain_50 (by decide) ?_
              refine lv_icmp_le (tgt := 58) hx hb dX12_chain_51 (by decide) (fun c => absurd c (by decide)) (fun _ => ?_)
              refine lv_iconst (v := nI 1) hx hb dX12_chain_54 (by decide) ?_
              refine lv_goto (tgt := 59) hx hb dX12_chain_55 (by decide) ?_
              refine xv (wr := []) (xV (As := [.int (nI 1)]) (rest := []) C (c_X12_laysSteps_1 l D cs hm ms mkp mtr mas mso mon mot man mst msm mtb mti mfr mbn mbs mde maa mab mba mbb 0 0) kX12_302 hP hD [4, 0, 1, 2, 3] rfl (by decide +kernel) 0 rfl rfl rfl ⟨Nat.le_of_ble_eq_true rfl, Nat.le_of_ble_eq_true rfl⟩ rfl hl.1 rfl (Nat.le_of_ble_eq_true rfl) dX12_chain_59 ⟨Nat.le_of_ble_eq_true rfl, Nat.le_of_ble_eq_true rfl⟩) hP hD hS hA [4, 0, 1, 2, 3] [] rfl rfl (by decide +kernel) (by decide +kernel) ?_
              clear hP hD hS
              try clear locs
              try clear H
              intro u_80 H locs hw_r_79 hP hD hS
              refine W.widen (k := 0) (n := 0) (Nat.le_of_ble_eq_true rfl) (Nat.le_of_ble_eq_true rfl) ?_
              replace hP : va_P D vwCl [(hm, .inr (12, [.ref ms, .ref mkp, .int (nI 0), .ref mtr, .int (nI 4), .int (nI 2), .int (nI 2), .int (nI 3), .int (nI 2), .int (nI 1), .ref mas, .int (nI 0), .int (nI 0), .int (nI 0), .ref mso, .ref mon, .ref mot, .ref man, .int (nI 0), .int (nI 0), .ref mst, .ref msm, .ref mtb, .ref mti, .ref mfr, .ref mbn, .ref mbs, .ref mde, .int (nI 0), .int (nI 0), .int (nI 0), .int (nI 0), .long 4, .long 1, .ref maa, .ref mab, .ref mba, .ref mbb])), (maa, .inl (cs 1, 9, .inr (.inl (lt4 0 0 1 1)))), (mab, .inl (cs 1, 9, .inr (.inl (lt4 1 1 2 1)))), (mba, .inl (cs 1, 9, .inr (.inl (lt4 0 4 5 4)))), (mbb, .inl (cs 1, 9, .inr (.inl (lt4 1 1 1 1))))] H := hP
              replace hD : va_D A [(hm, .inr (12, [.ref ms, .ref mkp, .int (nI 0), .ref mtr, .int (nI 4), .int (nI 2), .int (nI 2), .int (nI 3), .int (nI 2), .int (nI 1), .ref mas, .int (nI 0), .int (nI 0), .int (nI 0), .ref mso, .ref mon, .ref mot, .ref man, .int (nI 0), .int (nI 0), .ref mst, .ref msm, .ref mtb, .ref mti, .ref mfr, .ref mbn, .ref mbs, .ref mde, .int (nI 0), .int (nI 0), .int (nI 0), .int (nI 0), .long 4, .long 1, .ref maa, .ref mab, .ref mba, .ref mbb])), (maa, .inl (cs 1, 9, .inr (.inl (lt4 0 0 1 1)))), (mab, .inl (cs 1, 9, .inr (.inl (lt4 1 1 2 1)))), (mba, .inl (cs 1, 9, .inr (.inl (lt4 0 4 5 4)))), (mbb, .inl (cs 1, 9, .inr (.inl (lt4 1 1 1 1))))] := hD
              refine lv_aload_n hx hb dX12_chain_62 rfl (lv_at hl 0 rfl) ?_
              refine xget C hP 0 rfl rfl zuX12 31 (by decide) zw6_4 rfl dX12_chain_63 ?_
              refine lv_if_ne (tgt := 103) hx hb dX12_chain_66 (by decide) (fun c => absurd (by decide) c) (fun _ => ?_)
              refine lv_aload_n hx hb dX12_chain_69 rfl (lv_at hl 0 rfl) ?_
              refine lv_iload_n hx hb dX12_chain_70 rfl (lv_at hl 1 rfl) ?_
              refine lv_iload_n hx hb dX12_chain_71 rfl (lv_at hl 2 rfl) ?_
              refine lv_iconst (v := nI 1) hx hb dX12_chain_72 (by decide) ?_
              refine lv_icmp_le (tgt := 80) hx hb dX12_chain_73 (by decide) (fun c => absurd c (by decide)) (fun _ => ?_)
              refine lv_lconst (v := 0) hx hb dX12_chain_76 (by decide) ?_
              refine lv_goto (tgt := 81) hx hb dX12_chain_77 (by decide) ?_
              refine xv (wr := []) (xV (As := [.int (nI 0), .long 0]) (rest := []) C (c_X12_goesDown_1_0 l D cs hm ms mkp mtr mas mso mon mot man mst msm mtb mti mfr mbn mbs mde maa mab mba mbb 4 1) kX12_306 hP hD [0, 1, 2, 3, 4] rfl (by decide +kernel) 0 rfl rfl rfl ⟨Nat.le_of_ble_eq_true rfl, Nat.le_of_ble_eq_true rfl⟩ rfl hl.1 rfl (Nat.le_of_ble_eq_true rfl) dX12_chain_81 ⟨Nat.le_of_ble_eq_true rfl, Nat.le_of_ble_eq_true rfl⟩) hP hD hS hA [0, 1, 2, 3, 4] [] rfl rfl (by decide +kernel) (by decide +kernel) ?_
              clear hP hD hS
              try clear locs
              try clear H
              intro u_82 H locs hw_r_81 hP hD hS
              refine W.widen (k := 0) (n := 0) (Nat.le_of_ble_eq_true rfl) (Nat.le_of_ble_eq_true rfl) ?_
              replace hP : va_P D vwCl [(hm, .inr (12, [.ref ms, .ref mkp, .int (nI 0), .ref mtr, .int (nI 4), .int (nI 2), .int (nI 2), .int (nI 3), .int (nI 2), .int (nI 1), .ref mas, .int (nI 0), .int (nI 0), .int (nI 0), .ref mso, .ref mon, .ref mot, .ref man, .int (nI 0), .int (nI 0), .ref mst, .ref msm, .ref mtb, .ref mti, .ref mfr, .ref mbn, .ref mbs, .ref mde, .int (nI 0), .int (nI 0), .int (nI 0), .int (nI 0), .long 0, .long 1, .ref maa, .ref mab, .ref mba, .ref mbb])), (maa, .inl (cs 1, 9, .inr (.inl (lt4 0 0 1 1)))), (mab, .inl (cs 1, 9, .inr (.inl (lt4 1 1 2 1)))), (mba, .inl (cs 1, 9, .inr (.inl (lt4 0 4 5 4)))), (mbb, .inl (cs 1, 9, .inr (.inl (lt4 1 1 1 1))))] H := hP
              replace hD : va_D A [(hm, .inr (12, [.ref ms, .ref mkp, .int (nI 0), .ref mtr, .int (nI 4), .int (nI 2), .int (nI 2), .int (nI 3), .int (nI 2), .int (nI 1), .ref mas, .int (nI 0), .int (nI 0), .int (nI 0), .ref mso, .ref mon, .ref mot, .ref man, .int (nI 0), .int (nI 0), .ref mst, .ref msm, .ref mtb, .ref mti, .ref mfr, .ref mbn, .ref mbs, .ref mde, .int (nI 0), .int (nI 0), .int (nI 0), .int (nI 0), .long 0, .long 1, .ref maa, .ref mab, .ref mba, .ref mbb])), (maa, .inl (cs 1, 9, .inr (.inl (lt4 0 0 1 1)))), (mab, .inl (cs 1, 9, .inr (.inl (lt4 1 1 2 1)))), (mba, .inl (cs 1, 9, .inr (.inl (lt4 0 4 5 4)))), (mbb, .inl (cs 1, 9, .inr (.inl (lt4 1 1 1 1))))] := hD
              refine lv_iload_n hx hb dX12_chain_84 rfl (lv_at hl 2 rfl) ?_
              refine lv_iconst (v := nI 1) hx hb dX12_chain_85 (by decide) ?_
              refine lv_icmp_le (tgt := 103) hx hb dX12_chain_86 (by decide) (fun c => absurd c (by decide)) (fun _ => ?_)
              refine lv_iload_n hx hb dX12_chain_89 rfl (lv_at hl 1 rfl) ?_
              refine lv_if_ne (tgt := 103) hx hb dX12_chain_90 (by decide) (fun c => absurd (by decide) c) (fun _ => ?_)
              refine lv_aload_n hx hb dX12_chain_93 rfl (lv_at hl 0 rfl) ?_
              refine lv_lconst (v := 0) hx hb dX12_chain_94 (by decide) ?_
              refine xput C hP hD hS 0 rfl rfl zuX12 tyX12 tyX12_ok nmX12 32 (by decide) zw6_5 rfl rfl rfl (Nat.le_of_ble_eq_true rfl) dX12_chain_95 ?_
              clear hP hD hS
              try clear locs
              try clear H
              intro H locs hP hD hS
              replace hP : va_P D vwCl [(hm, .inr (12, [.ref ms, .ref mkp, .int (nI 0), .ref mtr, .int (nI 4), .int (nI 2), .int (nI 2), .int (nI 3), .int (nI 2), .int (nI 1), .ref mas, .int (nI 0), .int (nI 0), .int (nI 0), .ref mso, .ref mon, .ref mot, .ref man, .int (nI 0), .int (nI 0), .ref mst, .ref msm, .ref mtb, .ref mti, .ref mfr, .ref mbn, .ref mbs, .ref mde, .int (nI 0), .int (nI 0), .int (nI 0), .int (nI 0), .long 0, .long 1, .ref maa, .ref mab, .ref mba, .ref mbb])), (maa, .inl (cs 1, 9, .inr (.inl (lt4 0 0 1 1)))), (mab, .inl (cs 1, 9, .inr (.inl (lt4 1 1 2 1)))), (mba, .inl (cs 1, 9, .inr (.inl (lt4 0 4 5 4)))), (mbb, .inl (cs 1, 9, .inr (.inl (lt4 1 1 1 1))))] H := hP
              replace hD : va_D A [(hm, .inr (12, [.ref ms, .ref mkp, .int (nI 0), .ref mtr, .int (nI 4), .int (nI 2), .int (nI 2), .int (nI 3), .int (nI 2), .int (nI 1), .ref mas, .int (nI 0), .int (nI 0), .int (nI 0), .ref mso, .ref mon, .ref mot, .ref man, .int (nI 0), .int (nI 0), .ref mst, .ref msm, .ref mtb, .ref mti, .ref mfr, .ref mbn, .ref mbs, .ref mde, .int (nI 0), .int (nI 0), .int (nI 0), .int (nI 0), .long 0, .long 1, .ref maa, .ref mab, .ref mba, .ref mbb])), (maa, .inl (cs 1, 9, .inr (.inl (lt4 0 0 1 1)))), (mab, .inl (cs 1, 9, .inr (.inl (lt4 1 1 2 1)))), (mba, .inl (cs 1, 9, .inr (.inl (lt4 0 4 5 4)))), (mbb, .inl (cs 1, 9, .inr (.inl (lt4 1 1 1 1))))] := hD
              refine lv_aload_n hx hb dX12_chain_98 rfl (lv_at hl 0 rfl) ?_
              refine lv_lconst (v := 1) hx hb dX12_chain_99 (by decide) ?_
              refine xput C hP hD hS 0 rfl rfl zuX12 tyX12 tyX12_ok nmX12 33 (by decide) zw6_6 rfl rfl rfl (Nat.le_of_ble_eq_true rfl) dX12_chain_100 ?_
              clear hP hD hS
              try clear locs
              try clear H
              intro H locs hP hD hS
              replace hP : va_P D vwCl [(hm, .inr (12, [.ref ms, .ref mkp, .int (nI 0), .ref mtr, .int (nI 4), .int (nI 2), .int (nI 2), .int (nI 3), .int (nI 2), .int (nI 1), .ref mas, .int (nI 0), .int (nI 0), .int (nI 0), .ref mso, .ref mon, .ref mot, .ref man, .int (nI 0), .int (nI 0), .ref mst, .ref msm, .ref mtb, .ref mti, .ref mfr, .ref mbn, .ref mbs, .ref mde, .int (nI 0), .int (nI 0), .int (nI 0), .int (nI 0), .long 0, .long 1, .ref maa, .ref mab, .ref mba, .ref mbb])), (maa, .inl (cs 1, 9, .inr (.inl (lt4 0 0 1 1)))), (mab, .inl (cs 1, 9, .inr (.inl (lt4 1 1 2 1)))), (mba, .inl (cs 1, 9, .inr (.inl (lt4 0 4 5 4)))), (mbb, .inl (cs 1, 9, .inr (.inl (lt4 1 1 1 1))))] H := hP
              replace hD : va_D A [(hm, .inr (12, [.ref ms, .ref mkp, .int (nI 0), .ref mtr, .int (nI 4), .int (nI 2), .int (nI 2), .int (nI 3), .int (nI 2), .int (nI 1), .ref mas, .int (nI 0), .int (nI 0), .int (nI 0), .ref mso, .ref mon, .ref mot, .ref man, .int (nI 0), .int (nI 0), .ref mst, .ref msm, .ref mtb, .ref mti, .ref mfr, .ref mbn, .ref mbs, .ref mde, .int (nI 0), .int (nI 0), .int (nI 0), .int (nI 0), .long 0, .long 1, .ref maa, .ref mab, .ref mba, .ref mbb])), (maa, .inl (cs 1, 9, .inr (.inl (lt4 0 0 1 1)))), (mab, .inl (cs 1, 9, .inr (.inl (lt4 1 1 2 1)))), (mba, .inl (cs 1, 9, .inr (.inl (lt4 0 4 5 4)))), (mbb, .inl (cs 1, 9, .inr (.inl (lt4 1 1 1 1))))] := hD
              refine lv_aload_n hx hb dX12_chain_103 rfl (lv_at hl 0 rfl) ?_
              refine xget C hP 0 rfl rfl zuX12 31 (by decide) zw6_4 rfl dX12_chain_104 ?_
              refine lv_if_eq (tgt := 114) hx hb dX12_chain_107 (by decide) (fun _ => ?_) (fun c => absurd (by decide) c)
              refine lv_iload_n hx hb dX12_chain_114 rfl (lv_at hl 2 rfl) ?_
              refine lv_iconst (v := nI 2) hx hb dX12_chain_115 (by decide) ?_
              refine lv_irem hx hb dX12_chain_116 (by decide) ?_
              refine lv_topi (nm_r (e' := nI 1) (by decide) ?_)
              refine lv_if_ne (tgt := 127) hx hb dX12_chain_117 (by decide) (fun _ => ?_) (fun c => absurd c (by decide))
              refine lv_aload_n hx hb dX12_chain_127 rfl (lv_at hl 0 rfl) ?_
              refine xget C hP 0 rfl rfl zuX12 33 (by decide) zw6_6 rfl dX12_chain_128 ?_
              exact xretl C () (Or.inl ⟨0, 3, by decide, by decide, rfl, rfl, rfl⟩) (xP_map hP [] rfl) (hD.sub [] (by decide +kernel) rfl) hS (Nat.le_of_ble_eq_true rfl) (Nat.le_of_ble_eq_true rfl) dX12_chain_131
          · -- split
            replace hP : va_P D vwCl [(hm, .inr (12, [.ref ms, .ref mkp, .int (nI 0), .ref mtr, .int (nI 4), .int (nI 2), .int (nI 2), .int (nI 3), .int (nI 2), .int (nI 1), .ref mas, .int (nI 0), .int (nI 0), .int (nI 0), .ref mso, .ref mon, .ref mot, .ref man, .int (nI 0), .int (nI 0), .ref mst, .ref msm, .ref mtb, .ref mti, .ref mfr, .ref mbn, .ref mbs, .ref mde, .int (nI 0), .int (nI 0), .int (nI 0), .int (nI 0), .long 0, .long 0, .ref maa, .ref mab, .ref mba, .ref mbb])), (maa, .inl (cs 1, 9, .inr (.inl (fun _ => 0)))), (mab, .inl (cs 1, 9, .inr (.inl (fun _ => 0)))), (mba, .inl (cs 1, 9, .inr (.inl (fun _ => 0)))), (mbb, .inl (cs 1, 9, .inr (.inl (fun _ => 0))))] H := hP
            replace hD : va_D A [(hm, .inr (12, [.ref ms, .ref mkp, .int (nI 0), .ref mtr, .int (nI 4), .int (nI 2), .int (nI 2), .int (nI 3), .int (nI 2), .int (nI 1), .ref mas, .int (nI 0), .int (nI 0), .int (nI 0), .ref mso, .ref mon, .ref mot, .ref man, .int (nI 0), .int (nI 0), .ref mst, .ref msm, .ref mtb, .ref mti, .ref mfr, .ref mbn, .ref mbs, .ref mde, .int (nI 0), .int (nI 0), .int (nI 0), .int (nI 0), .long 0, .long 0, .ref maa, .ref mab, .ref mba, .ref mbb])), (maa, .inl (cs 1, 9, .inr (.inl (fun _ => 0)))), (mab, .inl (cs 1, 9, .inr (.inl (fun _ => 0)))), (mba, .inl (cs 1, 9, .inr (.inl (fun _ => 0)))), (mbb, .inl (cs 1, 9, .inr (.inl (fun _ => 0))))] := hD
            refine xi (wr := [(maa, .inl (cs 1, 9, .inr (.inl (fun _ => 0)))), (mab, .inl (cs 1, 9, .inr (.inl (fun _ => 0)))), (mba, .inl (cs 1, 9, .inr (.inl (fun _ => 0)))), (mbb, .inl (cs 1, 9, .inr (.inl (fun _ => 0))))]) (xV (As := [.int (nI 1)]) (rest := []) C (c_X12_mayStay_1 l D cs hm ms mkp mtr mas mso mon mot man mst msm mtb mti mfr mbn mbs mde maa mab mba mbb 0 0) kX12_299 hP hD [0] rfl (by decide +kernel) 0 rfl rfl rfl ⟨Nat.le_of_ble_eq_true rfl, Nat.le_of_ble_eq_true rfl⟩ rfl hl.1 rfl (Nat.le_of_ble_eq_true rfl) dX12_chain_33 ⟨Nat.le_of_ble_eq_true rfl, Nat.le_of_ble_eq_true rfl⟩) hP hD hS hA [0] [1, 2, 3, 4] rfl rfl (by decide +kernel) (by decide +kernel) ?_
            clear hP hD hS
            try clear locs
            try clear H
            intro r_83 u_84 H locs hw_r_83 hP hD hS
            have hw_r_83 : r_83 = nI 0 := hw_r_83
            refine W.widen (k := 0) (n := 0) (Nat.le_of_ble_eq_true rfl) (Nat.le_of_ble_eq_true rfl) ?_
            replace hP : va_P D vwCl [(maa, .inl (cs 1, 9, .inr (.inl (fun _ => 0)))), (mab, .inl (cs 1, 9, .inr (.inl (fun _ => 0)))), (mba, .inl (cs 1, 9, .inr (.inl (fun _ => 0)))), (mbb, .inl (cs 1, 9, .inr (.inl (fun _ => 0)))), (hm, .inr (12, [.ref ms, .ref mkp, .int (nI 0), .ref mtr, .int (nI 4), .int (nI 2), .int (nI 2), .int (nI 3), .int (nI 2), .int (nI 1), .ref mas, .int (nI 0), .int (nI 0), .int (nI 0), .ref mso, .ref mon, .ref mot, .ref man, .int (nI 0), .int (nI 0), .ref mst, .ref msm, .ref mtb, .ref mti, .ref mfr, .ref mbn, .ref mbs, .ref mde, .int (nI 0), .int (nI 0), .int (nI 0), .int (nI 0), .long 0, .long 0, .ref maa, .ref mab, .ref mba, .ref mbb]))] H := hP
            replace hD : va_D A [(maa, .inl (cs 1, 9, .inr (.inl (fun _ => 0)))), (mab, .inl (cs 1, 9, .inr (.inl (fun _ => 0)))), (mba, .inl (cs 1, 9, .inr (.inl (fun _ => 0)))), (mbb, .inl (cs 1, 9, .inr (.inl (fun _ => 0)))), (hm, .inr (12, [.ref ms, .ref mkp, .int (nI 0), .ref mtr, .int (nI 4), .int (nI 2), .int (nI 2), .int (nI 3), .int (nI 2), .int (nI 1), .ref mas, .int (nI 0), .int (nI 0), .int (nI 0), .ref mso, .ref mon, .ref mot, .ref man, .int (nI 0), .int (nI 0), .ref mst, .ref msm, .ref mtb, .ref mti, .ref mfr, .ref mbn, .ref mbs, .ref mde, .int (nI 0), .int (nI 0), .int (nI 0), .int (nI 0), .long 0, .long 0, .ref maa, .ref mab, .ref mba, .ref mbb]))] := hD
            subst hw_r_83
            refine lv_if_eq (tgt := 43) hx hb dX12_chain_36 (by decide) (fun _ => ?_) (fun c => absurd (by decide) c)
            rcases (show True from trivial) with _
            · -- split
              refine lv_aload_n hx hb dX12_chain_43 rfl (lv_at hl 0 rfl) ?_
              refine lv_iconst (v := nI 0) hx hb dX12_chain_44 (by decide) ?_
              refine xput C hP hD hS 4 rfl rfl zuX12 tyX12 tyX12_ok nmX12 31 (by decide) zw6_4 rfl rfl rfl (Nat.le_of_ble_eq_true rfl) dX12_chain_45 ?_
              clear hP hD hS
              try clear locs
              try clear H
              intro H locs hP hD hS
              replace hP : va_P D vwCl [(maa, .inl (cs 1, 9, .inr (.inl (fun _ => 0)))), (mab, .inl (cs 1, 9, .inr (.inl (fun _ => 0)))), (mba, .inl (cs 1, 9, .inr (.inl (fun _ => 0)))), (mbb, .inl (cs 1, 9, .inr (.inl (fun _ => 0)))), (hm, .inr (12, [.ref ms, .ref mkp, .int (nI 0), .ref mtr, .int (nI 4), .int (nI 2), .int (nI 2), .int (nI 3), .int (nI 2), .int (nI 1), .ref mas, .int (nI 0), .int (nI 0), .int (nI 0), .ref mso, .ref mon, .ref mot, .ref man, .int (nI 0), .int (nI 0), .ref mst, .ref msm, .ref mtb, .ref mti, .ref mfr, .ref mbn, .ref mbs, .ref mde, .int (nI 0), .int (nI 0), .int (nI 0), .int (nI 0), .long 0, .long 0, .ref maa, .ref mab, .ref mba, .ref mbb]))] H := hP
              replace hD : va_D A [(maa, .inl (cs 1, 9, .inr (.inl (fun _ => 0)))), (mab, .inl (cs 1, 9, .inr (.inl (fun _ => 0)))), (mba, .inl (cs 1, 9, .inr (.inl (fun _ => 0)))), (mbb, .inl (cs 1, 9, .inr (.inl (fun _ => 0)))), (hm, .inr (12, [.ref ms, .ref mkp, .int (nI 0), .ref mtr, .int (nI 4), .int (nI 2), .int (nI 2), .int (nI 3), .int (nI 2), .int (nI 1), .ref mas, .int (nI 0), .int (nI 0), .int (nI 0), .ref mso, .ref mon, .ref mot, .ref man, .int (nI 0), .int (nI 0), .ref mst, .ref msm, .ref mtb, .ref mti, .ref mfr, .ref mbn, .ref mbs, .ref mde, .int (nI 0), .int (nI 0), .int (nI 0), .int (nI 0), .long 0, .long 0, .ref maa, .ref mab, .ref mba, .ref mbb]))] := hD
              refine lv_aload_n hx hb dX12_chain_48 rfl (lv_at hl 0 rfl) ?_
              refine lv_iload_n hx hb dX12_chain_49 rfl (lv_at hl 2 rfl) ?_
              refine lv_iconst (v := nI 1) hx hb dX12_chain_50 (by decide) ?_
              refine lv_icmp_le (tgt := 58) hx hb dX12_chain_51 (by decide) (fun c => absurd c (by decide)) (fun _ => ?_)
              refine lv_iconst (v := nI 1) hx hb dX12_chain_54 (by decide) ?_
              refine lv_goto (tgt := 59) hx hb dX12_chain_55 (by decide) ?_
              refine xv (wr := []) (xV (As := [.int (nI 1)]) (rest := []) C (c_X12_laysSteps_1 l D cs hm ms mkp mtr mas mso mon mot man mst msm mtb mti mfr mbn mbs mde maa mab mba mbb 0 0) kX12_302 hP hD [4, 0, 1, 2, 3] rfl (by decide +kernel) 0 rfl rfl rfl ⟨Nat.le_of_ble_eq_true rfl, Nat.le_of_ble_eq_true rfl⟩ rfl hl.1 rfl (Nat.le_of_ble_eq_true rfl) dX12_chain_59 ⟨Nat.le_of_ble_eq_true rfl, Nat.le_of_ble_eq_true rfl⟩) hP hD hS hA [4, 0, 1, 2, 3] [] rfl rfl (by decide +kernel) (by decide +kernel) ?_
              clear hP hD hS
              try clear locs
              try clear H
              intro u_86 H locs hw_r_85 hP hD hS
              refine W.widen (k := 0) (n := 0) (Nat.le_of_ble_eq_true rfl) (Nat.le_of_ble_eq_true rfl) ?_
              replace hP : va_P D vwCl [(hm, .inr (12, [.ref ms, .ref mkp, .int (nI 0), .ref mtr, .int (nI 4), .int (nI 2), .int (nI 2), .int (nI 3), .int (nI 2), .int (nI 1), .ref mas, .int (nI 0), .int (nI 0), .int (nI 0), .ref mso, .ref mon, .ref mot, .ref man, .int (nI 0), .int (nI 0), .ref mst, .ref msm, .ref mtb, .ref mti, .ref mfr, .ref mbn, .ref mbs, .ref mde, .int (nI 0), .int (nI 0), .int (nI 0), .int (nI 0), .long 4, .long 1, .ref maa, .ref mab, .ref mba, .ref mbb])), (maa, .inl (cs 1, 9, .inr (.inl (lt4 0 0 1 1)))), (mab, .inl (cs 1, 9, .inr (.inl (lt4 1 1 2 1)))), (mba, .inl (cs 1, 9, .inr (.inl (lt4 0 4 5 4)))), (mbb, .inl (cs 1, 9, .inr (.inl (lt4 1 1 1 1))))] H := hP
              replace hD : va_D A [(hm, .inr (12, [.ref ms, .ref mkp, .int (nI 0), .ref mtr, .int (nI 4), .int (nI 2), .int (nI 2), .int (nI 3), .int (nI 2), .int (nI 1), .ref mas, .int (nI 0), .int (nI 0), .int (nI 0), .ref mso, .ref mon, .ref mot, .ref man, .int (nI 0), .int (nI 0), .ref mst, .ref msm, .ref mtb, .ref mti, .ref mfr, .ref mbn, .ref mbs, .ref mde, .int (nI 0), .int (nI 0), .int (nI 0), .int (nI 0), .long 4, .long 1, .ref maa, .ref mab, .ref mba, .ref mbb])), (maa, .inl (cs 1, 9, .inr (.inl (lt4 0 0 1 1)))), (mab, .inl (cs 1, 9, .inr (.inl (lt4 1 1 2 1)))), (mba, .inl (cs 1, 9, .inr (.inl (lt4 0 4 5 4)))), (mbb, .inl (cs 1, 9, .inr (.inl (lt4 1 1 1 1))))] := hD
              refine lv_aload_n hx hb dX12_chain_62 rfl (lv_at hl 0 rfl) ?_
              refine xget C hP 0 rfl rfl zuX12 31 (by decide) zw6_4 rfl dX12_chain_63 ?_
              refine lv_if_ne (tgt := 103) hx hb dX12_chain_66 (by decide) (fun c => absurd (by decide) c) (fun _ => ?_)
              refine lv_aload_n hx hb dX12_chain_69 rfl (lv_at hl 0 rfl) ?_
              refine lv_iload_n hx hb dX12_chain_70 rfl (lv_at hl 1 rfl) ?_
              refine lv_iload_n hx hb dX12_chain_71 rfl (lv_at hl 2 rfl) ?_
              refine lv_iconst (v := nI 1) hx hb dX12_chain_72 (by decide) ?_
              refine lv_icmp_le (tgt := 80) hx hb dX12_chain_73 (by decide) (fun c => absurd c (by decide)) (fun _ => ?_)
              refine lv_lconst (v := 0) hx hb dX12_chain_76 (by decide) ?_
              refine lv_goto (tgt := 81) hx hb dX12_chain_77 (by decide) ?_
              refine xv (wr := []) (xV (As := [.int (nI 1), .long 0]) (rest := []) C (c_X12_goesDown_1_1 l D cs hm ms mkp mtr mas mso mon mot man mst msm mtb mti mfr mbn mbs mde maa mab mba mbb 4 1) kX12_306 hP hD [0, 1, 2, 3, 4] rfl (by decide +kernel) 0 rfl rfl rfl ⟨Nat.le_of_ble_eq_true rfl, Nat.le_of_ble_eq_true rfl⟩ rfl hl.1 rfl (Nat.le_of_ble_eq_true rfl) dX12_chain_81 ⟨Nat.le_of_ble_eq_true rfl, Nat.le_of_ble_eq_true rfl⟩) hP hD hS hA [0, 1, 2, 3, 4] [] rfl rfl (by decide +kernel) (by decide +kernel) ?_
              clear hP hD hS
              try clear locs
              try clear H
              intro u_88 H locs hw_r_87 hP hD hS
              refine W.widen (k := 0) (n := 0) (Nat.le_of_ble_eq_true rfl) (Nat.le_of_ble_eq_true rfl) ?_
              replace hP : va_P D vwCl [(hm, .inr (12, [.ref ms, .ref mkp, .int (nI 0), .ref mtr, .int (nI 4), .int (nI 2), .int (nI 2), .int (nI 3), .int (nI 2), .int (nI 1), .ref mas, .int (nI 0), .int (nI 0), .int (nI 0), .ref mso, .ref mon, .ref mot, .ref man, .int (nI 0), .int (nI 0), .ref mst, .ref msm, .ref mtb, .ref mti, .ref mfr, .ref mbn, .ref mbs, .ref mde, .int (nI 0), .int (nI 0), .int (nI 0), .int (nI 0), .long 4, .long 1, .ref maa, .ref mab, .ref mba, .ref mbb])), (maa, .inl (cs 1, 9, .inr (.inl (lt4 0 0 1 1)))), (mab, .inl (cs 1, 9, .inr (.inl (lt4 1 1 2 1)))), (mba, .inl (cs 1, 9, .inr (.inl (lt4 0 4 5 4)))), (mbb, .inl (cs 1, 9, .inr (.inl (lt4 1 1 1 1))))] H := hP
              replace hD : va_D A [(hm, .inr (12, [.ref ms, .ref mkp, .int (nI 0), .ref mtr, .int (nI 4), .int (nI 2), .int (nI 2), .int (nI 3), .int (nI 2), .int (nI 1), .ref mas, .int (nI 0), .int (nI 0), .int (nI 0), .ref mso, .ref mon, .ref mot, .ref man, .int (nI 0), .int (nI 0), .ref mst, .ref msm, .ref mtb, .ref mti, .ref mfr, .ref mbn, .ref mbs, .ref mde, .int (nI 0), .int (nI 0), .int (nI 0), .int (nI 0), .long 4, .long 1, .ref maa, .ref mab, .ref mba, .ref mbb])), (maa, .inl (cs 1, 9, .inr (.inl (lt4 0 0 1 1)))), (mab, .inl (cs 1, 9, .inr (.inl (lt4 1 1 2 1)))), (mba, .inl (cs 1, 9, .inr (.inl (lt4 0 4 5 4)))), (mbb, .inl (cs 1, 9, .inr (.inl (lt4 1 1 1 1))))] := hD
              refine lv_iload_n hx hb dX12_chain_84 rfl (lv_at hl 2 rfl) ?_
              refine lv_iconst (v := nI 1) hx hb dX12_chain_85 (by decide) ?_
              refine lv_icmp_le (tgt := 103) hx hb dX12_chain_86 (by decide) (fun c => absurd c (by decide)) (fun _ => ?_)
              refine lv_iload_n hx hb dX12_chain_89 rfl (lv_at hl 1 rfl) ?_
              refine lv_if_ne (tgt := 103) hx hb dX12_chain_90 (by decide) (fun _ => ?_) (fun c => absurd c (by decide))
              refine lv_aload_n hx hb dX12_chain_103 rfl (lv_at hl 0 rfl) ?_
              refine xget C hP 0 rfl rfl zuX12 31 (by decide) zw6_4 rfl dX12_chain_104 ?_
              refine lv_if_eq (tgt := 114) hx hb dX12_chain_107 (by decide) (fun _ => ?_) (fun c => absurd (by decide) c)
              refine lv_iload_n hx hb dX12_chain_114 rfl (lv_at hl 2 rfl) ?_
              refine lv_iconst (v := nI 2) hx hb dX12_chain_115 (by decide) ?_
              refine lv_irem hx hb dX12_chain_116 (by decide) ?_
              refine lv_topi (nm_r (e' := nI 1) (by decide) ?_)
              refine lv_if_ne (tgt := 127) hx hb dX12_chain_117 (by decide) (fun _ => ?_) (fun c => absurd c (by decide))
              refine lv_aload_n hx hb dX12_chain_127 rfl (lv_at hl 0 rfl) ?_
              refine xget C hP 0 rfl rfl zuX12 33 (by decide) zw6_6 rfl dX12_chain_128 ?_
              exact xretl C () (Or.inl ⟨1, 3, by decide, by decide, rfl, rfl, rfl⟩) (xP_map hP [] rfl) (hD.sub [] (by decide +kernel) rfl) hS (Nat.le_of_ble_eq_true rfl) (Nat.le_of_ble_eq_true rfl) dX12_chain_131
          · -- split
            replace hP : va_P D vwCl [(hm, .inr (12, [.ref ms, .ref mkp, .int (nI 0), .ref mtr, .int (nI 4), .int (nI 2), .int (nI 2), .int (nI 3), .int (nI 2), .int (nI 1), .ref mas, .int (nI 0), .int (nI 0), .int (nI 0), .ref mso, .ref mon, .ref mot, .ref man, .int (nI 0), .int (nI 0), .ref mst, .ref msm, .ref mtb, .ref mti, .ref mfr, .ref mbn, .ref mbs, .ref mde, .int (nI 0), .int (nI 0), .int (nI 0), .int (nI 0), .long 0, .long 0, .ref maa, .ref mab, .ref mba, .ref mbb])), (maa, .inl (cs 1, 9, .inr (.inl (fun _ => 0)))), (mab, .inl (cs 1, 9, .inr (.inl (fun _ => 0)))), (mba, .inl (cs 1, 9, .inr (.inl (fun _ => 0)))), (mbb, .inl (cs 1, 9, .inr (.inl (fun _ => 0))))] H := hP
            replace hD : va_D A [(hm, .inr (12, [.ref ms, .ref mkp, .int (nI 0), .ref mtr, .int (nI 4), .int (nI 2), .int (nI 2), .int (nI 3), .int (nI 2), .int (nI 1), .ref mas, .int (nI 0), .int (nI 0), .int (nI 0), .ref mso, .ref mon, .ref mot, .ref man, .int (nI 0), .int (nI 0), .ref mst, .ref msm, .ref mtb, .ref mti, .ref mfr, .ref mbn, .ref mbs, .ref mde, .int (nI 0), .int (nI 0), .int (nI 0), .int (nI 0), .long 0, .long 0, .ref maa, .ref mab, .ref mba, .ref mbb])), (maa, .inl (cs 1, 9, .inr (.inl (fun _ => 0)))), (mab, .inl (cs 1, 9, .inr (.inl (fun _ => 0)))), (mba, .inl (cs 1, 9, .inr (.inl (fun _ => 0)))), (mbb, .inl (cs 1, 9, .inr (.inl (fun _ => 0))))] := hD
            refine xi (wr := [(maa, .inl (cs 1, 9, .inr (.inl (fun _ => 0)))), (mab, .inl (cs 1, 9, .inr (.inl (fun _ => 0)))), (mba, .inl (cs 1, 9, .inr (.inl (fun _ => 0)))), (mbb, .inl (cs 1, 9, .inr (.inl (fun _ => 0))))]) (xV (As := [.int (nI 2)]) (rest := []) C (c_X12_mayStay_2 l D cs hm ms mkp mtr mas mso mon mot man mst msm mtb mti mfr mbn mbs mde maa mab mba mbb 0 0) kX12_299 hP hD [0] rfl (by decide +kernel) 0 rfl rfl rfl ⟨Nat.le_of_ble_eq_true rfl, Nat.le_of_ble_eq_true rfl⟩ rfl hl.1 rfl (Nat.le_of_ble_eq_true rfl) dX12_chain_33 ⟨Nat.le_of_ble_eq_true rfl, Nat.le_of_ble_eq_true rfl⟩) hP hD hS hA [0] [1, 2, 3, 4] rfl rfl (by decide +kernel) (by decide +kernel) ?_
            clear hP hD hS
            try clear locs
            try clear H
            intro r_89 u_90 H locs hw_r_89 hP hD hS
            have hw_r_89 : r_89 = nI 0 := hw_r_89
            refine W.widen (k := 0) (n := 0) (Nat.le_of_ble_eq_true rfl) (Nat.le_of_ble_eq_true rfl) ?_
            replace hP : va_P D vwCl [(maa, .inl (cs 1, 9, .inr (.inl (fun _ => 0)))), (mab, .inl (cs 1, 9, .inr (.inl (fun _ => 0)))), (mba, .inl (cs 1, 9, .inr (.inl (fun _ => 0)))), (mbb, .inl (cs 1, 9, .inr (.inl (fun _ => 0)))), (hm, .inr (12, [.ref ms, .ref mkp, .int (nI 0), .ref mtr, .int (nI 4), .int (nI 2), .int (nI 2), .int (nI 3), .int (nI 2), .int (nI 1), .ref mas, .int (nI 0), .int (nI 0), .int (nI 0), .ref mso, .ref mon, .ref mot, .ref man, .int (nI 0), .int (nI 0), .ref mst, .ref msm, .ref mtb, .ref mti, .ref mfr, .ref mbn, .ref mbs, .ref mde, .int (nI 0), .int (nI 0), .int (nI 0), .int (nI 0), .long 0, .long 0, .ref maa, .ref mab, .ref mba, .ref mbb]))] H := hP
            replace hD : va_D A [(maa, .inl (cs 1, 9, .inr (.inl (fun _ => 0)))), (mab, .inl (cs 1, 9, .inr (.inl (fun _ => 0)))), (mba, .inl (cs 1, 9, .inr (.inl (fun _ => 0)))), (mbb, .inl (cs 1, 9, .inr (.inl (fun _ => 0)))), (hm, .inr (12, [.ref ms, .ref mkp, .int (nI 0), .ref mtr, .int (nI 4), .int (nI 2), .int (nI 2), .int (nI 3), .int (nI 2), .int (nI 1), .ref mas, .int (nI 0), .int (nI 0), .int (nI 0), .ref mso, .ref mon, .ref mot, .ref man, .int (nI 0), .int (nI 0), .ref mst, .ref msm, .ref mtb, .ref mti, .ref mfr, .ref mbn, .ref mbs, .ref mde, .int (nI 0), .int (nI 0), .int (nI 0), .int (nI 0), .long 0, .long 0, .ref maa, .ref mab, .ref mba, .ref mbb]))] := hD
            subst hw_r_89
            refine lv_if_eq (tgt := 43) hx hb dX12_chain_36 (by decide) (fun _ => ?_) (fun c => absurd (by decide) c)
            rcases (show True from trivial) with _
            · -- split
              refine lv_aload_n hx hb dX12_chain_43 rfl (lv_at hl 0 rfl) ?_
              refine lv_iconst (v := nI 0) hx hb dX12_chain_44 (by decide) ?_
              refine xput C hP hD hS 4 rfl rfl zuX12 tyX12 tyX12_ok nmX12 31 (by decide) zw6_4 rfl rfl rfl (Nat.le_of_ble_eq_true rfl) dX12_chain_45 ?_
              clear hP hD hS
              try clear locs
              try clear H
              intro H locs hP hD hS
              replace hP : va_P D vwCl [(maa, .inl (cs 1, 9, .inr (.inl (fun _ => 0)))), (mab, .inl (cs 1, 9, .inr (.inl (fun _ => 0)))), (mba, .inl (cs 1, 9, .inr (.inl (fun _ => 0)))), (mbb, .inl (cs 1, 9, .inr (.inl (fun _ => 0)))), (hm, .inr (12, [.ref ms, .ref mkp, .int (nI 0), .ref mtr, .int (nI 4), .int (nI 2), .int (nI 2), .int (nI 3), .int (nI 2), .int (nI 1), .ref mas, .int (nI 0), .int (nI 0), .int (nI 0), .ref mso, .ref mon, .ref mot, .ref man, .int (nI 0), .int (nI 0), .ref mst, .ref msm, .ref mtb, .ref mti, .ref mfr, .ref mbn, .ref mbs, .ref mde, .int (nI 0), .int (nI 0), .int (nI 0), .int (nI 0), .long 0, .long 0, .ref maa, .ref mab, .ref mba, .ref mbb]))] H := hP
              replace hD : va_D A [(maa, .inl (cs 1, 9, .inr (.inl (fun _ => 0)))), (mab, .inl (cs 1, 9, .inr (.inl (fun _ => 0)))), (mba, .inl (cs 1, 9, .inr (.inl (fun _ => 0)))), (mbb, .inl (cs 1, 9, .inr (.inl (fun _ => 0)))), (hm, .inr (12, [.ref ms, .ref mkp, .int (nI 0), .ref mtr, .int (nI 4), .int (nI 2), .int (nI 2), .int (nI 3), .int (nI 2), .int (nI 1), .ref mas, .int (nI 0), .int (nI 0), .int (nI 0), .ref mso, .ref mon, .ref mot, .ref man, .int (nI 0), .int (nI 0), .ref mst, .ref msm, .ref mtb, .ref mti, .ref mfr, .ref mbn, .ref mbs, .ref mde, .int (nI 0), .int (nI 0), .int (nI 0), .int (nI 0), .long 0, .long 0, .ref maa, .ref mab, .ref mba, .ref mbb]))] := hD
              refine lv_aload_n hx hb dX12_chain_48 rfl (lv_at hl 0 rfl) ?_
              refine lv_iload_n hx hb dX12_chain_49 rfl (lv_at hl 2 rfl) ?_
              refine lv_iconst (v := nI 1) hx hb dX12_chain_50 (by decide) ?_
              refine lv_icmp_le (tgt := 58) hx hb dX12_chain_51 (by decide) (fun c => absurd c (by decide)) (fun _ => ?_)
              refine lv_iconst (v := nI 1) hx hb dX12_chain_54 (by decide) ?_
              refine lv_goto (tgt := 59) hx hb dX12_chain_55 (by decide) ?_
              refine xv (wr := []) (xV (As := [.int (nI 1)]) (rest := []) C (c_X12_laysSteps_1 l D cs hm ms mkp mtr mas mso mon mot man mst msm mtb mti mfr mbn mbs mde maa mab mba mbb 0 0) kX12_302 hP hD [4, 0, 1, 2, 3] rfl (by decide +kernel) 0 rfl rfl rfl ⟨Nat.le_of_ble_eq_true rfl, Nat.le_of_ble_eq_true rfl⟩ rfl hl.1 rfl (Nat.le_of_ble_eq_true rfl) dX12_chain_59 ⟨Nat.le_of_ble_eq_true rfl, Nat.le_of_ble_eq_true rfl⟩) hP hD hS hA [4, 0, 1, 2, 3] [] rfl rfl (by decide +kernel) (by decide +kernel) ?_
              clear hP hD hS
              try clear locs
              try clear H
              intro u_92 H locs hw_r_91 hP hD hS
              refine W.widen (k := 0) (n := 0) (Nat.le_of_ble_eq_true rfl) (Nat.le_of_ble_eq_true rfl) ?_
              replace hP : va_P D vwCl [(hm, .inr (12, [.ref ms, .ref mkp, .int (nI 0), .ref mtr, .int (nI 4), .int (nI 2), .int (nI 2), .int (nI 3), .int (nI 2), .int (nI 1), .ref mas, .int (nI 0), .int (nI 0), .int (nI 0), .ref mso, .ref mon, .ref mot, .ref man, .int (nI 0), .int (nI 0), .ref mst, .ref msm, .ref mtb, .ref mti, .ref mfr, .ref mbn, .ref mbs, .ref mde, .int (nI 0), .int (nI 0), .int (nI 0), .int (nI 0), .long 4, .long 1, .ref maa, .ref mab, .ref mba, .ref mbb])), (maa, .inl (cs 1, 9, .inr (.inl (lt4 0 0 1 1)))), (mab, .inl (cs 1, 9, .inr (.inl (lt4 1 1 2 1)))), (mba, .inl (cs 1, 9, .inr (.inl (lt4 0 4 5 4)))), (mbb, .inl (cs 1, 9, .inr (.inl (lt4 1 1 1 1))))] H := hP
              replace hD : va_D A [(hm, .inr (12, [.ref ms, .ref mkp, .int (nI 0), .ref mtr, .int (nI 4), .int (nI 2), .int (nI 2), .int (nI 3), .int (nI 2), .int (nI 1), .ref mas, .int (nI 0), .int (nI 0), .int (nI 0), .ref mso, .ref mon, .ref mot, .ref man, .int (nI 0), .int (nI 0), .ref mst, .ref msm, .ref mtb, .ref mti, .ref mfr, .ref mbn, .ref mbs, .ref mde, .int (nI 0), .int (nI 0), .int (nI 0), .int (nI 0), .long 4, .long 1, .ref maa, .ref mab, .ref mba, .ref mbb])), (maa, .inl (cs 1, 9, .inr (.inl (lt4 0 0 1 1)))), (mab, .inl (cs 1, 9, .inr (.inl (lt4 1 1 2 1)))), (mba, .inl (cs 1, 9, .inr (.inl (lt4 0 4 5 4)))), (mbb, .inl (cs 1, 9, .inr (.inl (lt4 1 1 1 1))))] := hD
              refine lv_aload_n hx hb dX12_chain_62 rfl (lv_at hl 0 rfl) ?_
              refine xget C hP 0 rfl rfl zuX12 31 (by decide) zw6_4 rfl dX12_chain_63 ?_
              refine lv_if_ne (tgt := 103) hx hb dX12_chain_66 (by decide) (fun c => absurd (by decide) c) (fun _ => ?_)
              refine lv_aload_n hx hb dX12_chain_69 rfl (lv_at hl 0 rfl) ?_
              refine lv_iload_n hx hb dX12_chain_70 rfl (lv_at hl 1 rfl) ?_
              refine lv_iload_n hx hb dX12_chain_71 rfl (lv_at hl 2 rfl) ?_
              refine lv_iconst (v := nI 1) hx hb dX12_chain_72 (by decide) ?_
              refine lv_icmp_le (tgt := 80) hx hb dX12_chain_73 (by decide) (fun c => absurd c (by decide)) (fun _ => ?_)
              refine lv_lconst (v := 0) hx hb dX12_chain_76 (by decide) ?_
              refine lv_goto (tgt := 81) hx hb dX12_chain_77 (by decide) ?_
              refine xv (wr := []) (xV (As := [.int (nI 2), .long 0]) (rest := []) C (c_X12_goesDown_1_2 l D cs hm ms mkp mtr mas mso mon mot man mst msm mtb mti mfr mbn mbs mde maa mab mba mbb 4 1) kX12_306 hP hD [0, 1, 2, 3, 4] rfl (by decide +kernel) 0 rfl rfl rfl ⟨Nat.le_of_ble_eq_true rfl, Nat.le_of_ble_eq_true rfl⟩ rfl hl.1 rfl (Nat.le_of_ble_eq_true rfl) dX12_chain_81 ⟨Nat.le_of_ble_eq_true rfl, Nat.le_of_ble_eq_true rfl⟩) hP hD hS hA [0, 1, 2, 3, 4] [] rfl rfl (by decide +kernel) (by decide +kernel) ?_
              clear hP hD hS
              try clear locs
              try clear H
              intro u_94 H locs hw_r_93 hP hD hS
              refine W.widen (k := 0) (n := 0) (Nat.le_of_ble_eq_true rfl) (Nat.le_of_ble_eq_true rfl) ?_
              replace hP : va_P D vwCl [(hm, .inr (12, [.ref ms, .ref mkp, .int (nI 0), .ref mtr, .int (nI 4), .int (nI 2), .int (nI 2), .int (nI 3), .int (nI 2), .int (nI 1), .ref mas, .int (nI 0), .int (nI 0), .int (nI 0), .ref mso, .ref mon, .ref mot, .ref man, .int (nI 0), .int (nI 0), .ref mst, .ref msm, .ref mtb, .ref mti, .ref mfr, .ref mbn, .ref mbs, .ref mde, .int (nI 0), .int (nI 0), .int (nI 0), .int (nI 0), .long 7, .long 1, .ref maa, .ref mab, .ref mba, .ref mbb])), (maa, .inl (cs 1, 9, .inr (.inl (lt4 0 0 1 1)))), (mab, .inl (cs 1, 9, .inr (.inl (lt4 1 1 2 1)))), (mba, .inl (cs 1, 9, .inr (.inl (lt4 0 4 5 4)))), (mbb, .inl (cs 1, 9, .inr (.inl (lt4 1 1 1 1))))] H := hP
              replace hD : va_D A [(hm, .inr (12, [.ref ms, .ref mkp, .int (nI 0), .ref mtr, .int (nI 4), .int (nI 2), .int (nI 2), .int (nI 3), .int (nI 2), .int (nI 1), .ref mas, .int (nI 0), .int (nI 0), .int (nI 0), .ref mso, .ref mon, .ref mot, .ref man, .int (nI 0), .int (nI 0), .ref mst, .ref msm, .ref mtb, .ref mti, .ref mfr, .ref mbn, .ref mbs, .ref mde, .int (nI 0), .int (nI 0), .int (nI 0), .int (nI 0), .long 7, .long 1, .ref maa, .ref mab, .ref mba, .ref mbb])), (maa, .inl (cs 1, 9, .inr (.inl (lt4 0 0 1 1)))), (mab, .inl (cs 1, 9, .inr (.inl (lt4 1 1 2 1)))), (mba, .inl (cs 1, 9, .inr (.inl (lt4 0 4 5 4)))), (mbb, .inl (cs 1, 9, .inr (.inl (lt4 1 1 1 1))))] := hD
              refine lv_iload_n hx hb dX12_chain_84 rfl (lv_at hl 2 rfl) ?_
              refine lv_iconst (v := nI 1) hx hb dX12_chain_85 (by decide) ?_
              refine lv_icmp_le (tgt := 103) hx hb dX12_chain_86 (by decide) (fun c => absurd c (by decide)) (fun _ => ?_)
              refine lv_iload_n hx hb dX12_chain_89 rfl (lv_at hl 1 rfl) ?_
              refine lv_if_ne (tgt := 103) hx hb dX12_chain_90 (by decide) (fun _ => ?_) (fun c => absurd c (by decide))
              refine lv_aload_n hx hb dX12_chain_103 rfl (lv_at hl 0 rfl) ?_
              refine xget C hP 0 rfl rfl zuX12 31 (by decide) zw6_4 rfl dX12_chain_104 ?_
              refine lv_if_eq (tgt := 114) hx hb dX12_chain_107 (by decide) (fun _ => ?_) (fun c => absurd (by decide) c)
              refine lv_iload_n hx hb dX12_chain_114 rfl (lv_at hl 2 rfl) ?_
              refine lv_iconst (v := nI 2) hx hb dX12_chain_115 (by decide) ?_
              refine lv_irem hx hb dX12_chain_116 (by decide) ?_
              refine lv_topi (nm_r (e' := nI 1) (by decide) ?_)
              refine lv_if_ne (tgt := 127) hx hb dX12_chain_117 (by decide) (fun _ => ?_) (fun c => absurd c (by decide))
              refine lv_aload_n hx hb dX12_chain_127 rfl (lv_at hl 0 rfl) ?_
              refine xget C hP 0 rfl rfl zuX12 33 (by decide) zw6_6 rfl dX12_chain_128 ?_
              exact xretl C () (Or.inl ⟨2, 3, by decide, by decide, rfl, rfl, rfl⟩) (xP_map hP [] rfl) (hD.sub [] (by decide +kernel) rfl) hS (Nat.le_of_ble_eq_true rfl) (Nat.le_of_ble_eq_true rfl) dX12_chain_131
          · -- split
            replace hP : va_P D vwCl [(hm, .inr (12, [.ref ms, .ref mkp, .int (nI 0), .ref mtr, .int (nI 4), .int (nI 2), .int (nI 2), .int (nI 3), .int (nI 2), .int (nI 1), .ref mas, .int (nI 0), .int (nI 0), .int (nI 0), .ref mso, .ref mon, .ref mot, .ref man, .int (nI 0), .int (nI 0), .ref mst, .ref msm, .ref mtb, .ref mti, .ref mfr, .ref mbn, .ref mbs, .ref mde, .int (nI 0), .int (nI 0), .int (nI 0), .int (nI 0), .long 0, .long 0, .ref maa, .ref mab, .ref mba, .ref mbb])), (maa, .inl (cs 1, 9, .inr (.inl (fun _ => 0)))), (mab, .inl (cs 1, 9, .inr (.inl (fun _ => 0)))), (mba, .inl (cs 1, 9, .inr (.inl (fun _ => 0)))), (mbb, .inl (cs 1, 9, .inr (.inl (fun _ => 0))))] H := hP
            replace hD : va_D A [(hm, .inr (12, [.ref ms, .ref mkp, .int (nI 0), .ref mtr, .int (nI 4), .int (nI 2), .int (nI 2), .int (nI 3), .int (nI 2), .int (nI 1), .ref mas, .int (nI 0), .int (nI 0), .int (nI 0), .ref mso, .ref mon, .ref mot, .ref man, .int (nI 0), .int (nI 0), .ref mst, .ref msm, .ref mtb, .ref mti, .ref mfr, .ref mbn, .ref mbs, .ref mde, .int (nI 0), .int (nI 0), .int (nI 0), .int (nI 0), .long 0, .long 0, .ref maa, .ref mab, .ref mba, .ref mbb])), (maa, .inl (cs 1, 9, .inr (.inl (fun _ => 0)))), (mab, .inl (cs 1, 9, .inr (.inl (fun _ => 0)))), (mba, .inl (cs 1, 9, .inr (.inl (fun _ => 0)))), (mbb, .inl (cs 1, 9, .inr (.inl (fun _ => 0))))] := hD
            refine xi (wr := [(maa, .inl (cs 1, 9, .inr (.inl (fun _ => 0)))), (mab, .inl (cs 1, 9, .inr (.inl (fun _ => 0)))), (mba, .inl (cs 1, 9, .inr (.inl (fun _ => 0)))), (mbb, .inl (cs 1, 9, .inr (.inl (fun _ => 0))))]) (xV (As := [.int (nI 3)]) (rest := []) C (c_X12_mayStay_3 l D cs hm ms mkp mtr mas mso mon mot man mst msm mtb mti mfr mbn mbs mde maa mab mba mbb 0 0) kX12_299 hP hD [0] rfl (by decide +kernel) 0 rfl rfl rfl ⟨Nat.le_of_ble_eq_true rfl, Nat.le_of_ble_eq_true rfl⟩ rfl hl.1 rfl (Nat.le_of_ble_eq_true rfl) dX12_chain_33 ⟨Nat.le_of_ble_eq_true rfl, Nat.le_of_ble_eq_true rfl⟩) hP hD hS hA [0] [1, 2, 3, 4] rfl rfl (by decide +kernel) (by decide +kernel) ?_
            clear hP hD hS
            try clear locs
            try clear H
            intro r_95 u_96 H locs hw_r_95 hP hD hS
            have hw_r_95 : r_95 = nI 0 := hw_r_95
            refine W.widen (k := 0) (n := 0) (Nat.le_of_ble_eq_true rfl) (Nat.le_of_ble_eq_true rfl) ?_
            replace hP : va_P D vwCl [(maa, .inl (cs 1, 9, .inr (.inl (fun _ => 0)))), (mab, .inl (cs 1, 9, .inr (.inl (fun _ => 0)))), (mba, .inl (cs 1, 9, .inr (.inl (fun _ => 0)))), (mbb, .inl (cs 1, 9, .inr (.inl (fun _ => 0)))), (hm, .inr (12, [.ref ms, .ref mkp, .int (nI 0), .ref mtr, .int (nI 4), .int (nI 2), .int (nI 2), .int (nI 3), .int (nI 2), .int (nI 1), .ref mas, .int (nI 0), .int (nI 0), .int (nI 0), .ref mso, .ref mon, .ref mot, .ref man, .int (nI 0), .int (nI 0), .ref mst, .ref msm, .ref mtb, .ref mti, .ref mfr, .ref mbn, .ref mbs, .ref mde, .int (nI 0), .int (nI 0), .int (nI 0), .int (nI 0), .long 0, .long 0, .ref maa, .ref mab, .ref mba, .ref mbb]))] H := hP
            replace hD : va_D A [(maa, .inl (cs 1, 9, .inr (.inl (fun _ => 0)))), (mab, .inl (cs 1, 9, .inr (.inl (fun _ => 0)))), (mba, .inl (cs 1, 9, .inr (.inl (fun _ => 0)))), (mbb, .inl (cs 1, 9, .inr (.inl (fun _ => 0)))), (hm, .inr (12, [.ref ms, .ref mkp, .int (nI 0), .ref mtr, .int (nI 4), .int (nI 2), .int (nI 2), .int (nI 3), .int (nI 2), .int (nI 1), .ref mas, .int (nI 0), .int (nI 0), .int (nI 0), .ref mso, .ref mon, .ref mot, .ref man, .int (nI 0), .int (nI 0), .ref mst, .ref msm, .ref mtb, .ref mti, .ref mfr, .ref mbn, .ref mbs, .ref mde, .int (nI 0), .int (nI 0), .int (nI 0), .int (nI 0), .long 0, .long 0, .ref maa, .ref mab, .ref mba, .ref mbb]))] := hD
            subst hw_r_95
            refine lv_if_eq (tgt := 43) hx hb dX12_chain_36 (by decide) (fun _ => ?_) (fun c => absurd (by decide) c)
            rcases (show True from trivial) with _
            · -- split
              refine lv_aload_n hx hb dX12_chain_43 rfl (lv_at hl 0 rfl) ?_
              refine lv_iconst (v := nI 0) hx hb dX12_chain_44 (by decide) ?_
              refine xput C hP hD hS 4 rfl rfl zuX12 tyX12 tyX12_ok nmX12 31 (by decide) zw6_4 rfl rfl rfl (Nat.le_of_ble_eq_true rfl) dX12_chain_45 ?_
              clear hP hD hS
              try clear locs
              try clear H
              intro H locs hP hD hS
              replace hP : va_P D vwCl [(maa, .inl (cs 1, 9, .inr (.inl (fun _ => 0)))), (mab, .inl (cs 1, 9, .inr (.inl (fun _ => 0)))), (mba, .inl (cs 1, 9, .inr (.inl (fun _ => 0)))), (mbb, .inl (cs 1, 9, .inr (.inl (fun _ => 0)))), (hm, .inr (12, [.ref ms, .ref mkp, .int (nI 0), .ref mtr, .int (nI 4), .int (nI 2), .int (nI 2), .int (nI 3), .int (nI 2), .int (nI 1), .ref mas, .int (nI 0), .int (nI 0), .int (nI 0), .ref mso, .ref mon, .ref mot, .ref man, .int (nI 0), .int (nI 0), .ref mst, .ref msm, .ref mtb, .ref mti, .ref mfr, .ref mbn, .ref mbs, .ref mde, .int (nI 0), .int (nI 0), .int (nI 0), .int (nI 0), .long 0, .long 0, .ref maa, .ref mab, .ref mba, .ref mbb]))] H := hP
              replace hD : va_D A [(maa, .inl (cs 1, 9, .inr (.inl (fun _ => 0)))), (mab, .inl (cs 1, 9, .inr (.inl (fun _ => 0)))), (mba, .inl (cs 1, 9, .inr (.inl (fun _ => 0)))), (mbb, .inl (cs 1, 9, .inr (.inl (fun _ => 0)))), (hm, .inr (12, [.ref ms, .ref mkp, .int (nI 0), .ref mtr, .int (nI 4), .int (nI 2), .int (nI 2), .int (nI 3), .int (nI 2), .int (nI 1), .ref mas, .int (nI 0), .int (nI 0), .int (nI 0), .ref mso, .ref mon, .ref mot, .ref man, .int (nI 0), .int (nI 0), .ref mst, .ref msm, .ref mtb, .ref mti, .ref mfr, .ref mbn, .ref mbs, .ref mde, .int (nI 0), .int (nI 0), .int (nI 0), .int (nI 0), .long 0, .long 0, .ref maa, .ref mab, .ref mba, .ref mbb]))] := hD
              refine lv_aload_n hx hb dX12_chain_48 rfl (lv_at hl 0 rfl) ?_
              refine lv_iload_n hx hb dX12_chain_49 rfl (lv_at hl 2 rfl) ?_
              refine lv_iconst (v := nI 1) hx hb dX12_chain_50 (by decide) ?_
              refine lv_icmp_le (tgt := 58) hx hb dX12_chain_51 (by decide) (fun c => absurd c (by decide)) (fun _ => ?_)
              refine lv_iconst (v := nI 1) hx hb dX12_chain_54 (by decide) ?_
              refine lv_goto (tgt := 59) hx hb dX12_chain_55 (by decide) ?_
              refine xv (wr := []) (xV (As := [.int (nI 1)]) (rest := []) C (c_X12_laysSteps_1 l D cs hm ms mkp mtr mas mso mon mot man mst msm mtb mti mfr mbn mbs mde maa mab mba mbb 0 0) kX12_302 hP hD [4, 0, 1, 2, 3] rfl (by decide +kernel) 0 rfl rfl rfl ⟨Nat.le_of_ble_eq_true rfl, Nat.le_of_ble_eq_true rfl⟩ rfl hl.1 rfl (Nat.le_of_ble_eq_true rfl) dX12_chain_59 ⟨Nat.le_of_ble_eq_true rfl, Nat.le_of_ble_eq_true rfl⟩) hP hD hS hA [4, 0, 1, 2, 3] [] rfl rfl (by decide +kernel) (by decide +kernel) ?_
              clear hP hD hS
              try clear locs
              try clear H
              intro u_98 H locs hw_r_97 hP hD hS
              refine W.widen (k := 0) (n := 0) (Nat.le_of_ble_eq_true rfl) (Nat.le_of_ble_eq_true rfl) ?_
              replace hP : va_P D vwCl [(hm, .inr (12, [.ref ms, .ref mkp, .int (nI 0), .ref mtr, .int (nI 4), .int (nI 2), .int (nI 2), .int (nI 3), .int (nI 2), .int (nI 1), .ref mas, .int (nI 0), .int (nI 0), .int (nI 0), .ref mso, .ref mon, .ref mot, .ref man, .int (nI 0), .int (nI 0), .ref mst, .ref msm, .ref mtb, .ref mti, .ref mfr, .ref mbn, .ref mbs, .ref mde, .int (nI 0), .int (nI 0), .int (nI 0), .int (nI 0), .long 4, .long 1, .ref maa, .ref mab, .ref mba, .ref mbb])), (maa, .inl (cs 1, 9, .inr (.inl (lt4 0 0 1 1)))), (mab, .inl (cs 1, 9, .inr (.inl (lt4 1 1 2 1)))), (mba, .inl (cs 1, 9, .inr (.inl (lt4 0 4 5 4)))), (mbb, .inl (cs 1, 9, .inr (.inl (lt4 1 1 1 1))))] H := hP
              replace hD : va_D A [(hm, .inr (12, [.ref ms, .ref mkp, .int (nI 0), .ref mtr, .int (nI 4), .int (nI 2), .int (nI 2), .int (nI 3), .int (nI 2), .int (nI 1), .ref mas, .int (nI 0), .int (nI 0), .int (nI 0), .ref mso, .ref mon, .ref mot, .ref man, .int (nI 0), .int (nI 0), .ref mst, .ref msm, .ref mtb, .ref mti, .ref mfr, .ref mbn, .ref mbs, .ref mde, .int (nI 0), .int (nI 0), .int (nI 0), .int (nI 0), .long 4, .long 1, .ref maa, .ref mab, .ref mba, .ref mbb])), (maa, .inl (cs 1, 9, .inr (.inl (lt4 0 0 1 1)))), (mab, .inl (cs 1, 9, .inr (.inl (lt4 1 1 2 1)))), (mba, .inl (cs 1, 9, .inr (.inl (lt4 0 4 5 4)))), (mbb, .inl (cs 1, 9, .inr (.inl (lt4 1 1 1 1))))] := hD
              refine lv_aload_n hx hb dX12_chain_62 rfl (lv_at hl 0 rfl) ?_
              refine xget C hP 0 rfl rfl zuX12 31 (by decide) zw6_4 rfl dX12_chain_63 ?_
              refine lv_if_ne (tgt := 103) hx hb dX12_chain_66 (by decide) (fun c => absurd (by decide) c) (fun _ => ?_)
              refine lv_aload_n hx hb dX12_chain_69 rfl (lv_at hl 0 rfl) ?_
              refine lv_iload_n hx hb dX12_chain_70 rfl (lv_at hl 1 rfl) ?_
              refine lv_iload_n hx hb dX12_chain_71 rfl (lv_at hl 2 rfl) ?_
              refine lv_iconst (v := nI 1) hx hb dX12_chain_72 (by decide) ?_
              refine lv_icmp_le (tgt := 80) hx hb dX12_chain_73 (by decide) (fun c => absurd c (by decide)) (fun _ => ?_)
              refine lv_lconst (v := 0) hx hb dX12_chain_76 (by decide) ?_
              refine lv_goto (tgt := 81) hx hb dX12_chain_77 (by decide) ?_
              refine xv (wr := []) (xV (As := [.int (nI 3), .long 0]) (rest := []) C (c_X12_goesDown_1_3 l D cs hm ms mkp mtr mas mso mon mot man mst msm mtb mti mfr mbn mbs mde maa mab mba mbb 4 1) kX12_306 hP hD [0, 1, 2, 3, 4] rfl (by decide +kernel) 0 rfl rfl rfl ⟨Nat.le_of_ble_eq_true rfl, Nat.le_of_ble_eq_true rfl⟩ rfl hl.1 rfl (Nat.le_of_ble_eq_true rfl) dX12_chain_81 ⟨Nat.le_of_ble_eq_true rfl, Nat.le_of_ble_eq_true rfl⟩) hP hD hS hA [0, 1, 2, 3, 4] [] rfl rfl (by decide +kernel) (by decide +kernel) ?_
              clear hP hD hS
              try clear locs
              try clear H
              intro u_100 H locs hw_r_99 hP hD hS
              refine W.widen (k := 0) (n := 0) (Nat.le_of_ble_eq_true rfl) (Nat.le_of_ble_eq_true rfl) ?_
              replace hP : va_P D vwCl [(hm, .inr (12, [.ref ms, .ref mkp, .int (nI 0), .ref mtr, .int (nI 4), .int (nI 2), .int (nI 2), .int (nI 3), .int (nI 2), .int (nI 1), .ref mas, .int (nI 0), .int (nI 0), .int (nI 0), .ref mso, .ref mon, .ref mot, .ref man, .int (nI 0), .int (nI 0), .ref mst, .ref msm, .ref mtb, .ref mti, .ref mfr, .ref mbn, .ref mbs, .ref mde, .int (nI 0), .int (nI 0), .int (nI 0), .int (nI 0), .long 4, .long 1, .ref maa, .ref mab, .ref mba, .ref mbb])), (maa, .inl (cs 1, 9, .inr (.inl (lt4 0 0 1 1)))), (mab, .inl (cs 1, 9, .inr (.inl (lt4 1 1 2 1)))), (mba, .inl (cs 1, 9, .inr (.inl (lt4 0 4 5 4)))), (mbb, .inl (cs 1, 9, .inr (.inl (lt4 1 1 1 1))))] H := hP
              replace hD : va_D A [(hm, .inr (12, [.ref ms, .ref mkp, .int (nI 0), .ref mtr, .int (nI 4), .int (nI 2), .int (nI 2), .int (nI 3), .int (nI 2), .int (nI 1), .ref mas, .int (nI 0), .int (nI 0), .int (nI 0), .ref mso, .ref mon, .ref mot, .ref man, .int (nI 0), .int (nI 0), .ref mst, .ref msm, .ref mtb, .ref mti, .ref mfr, .ref mbn, .ref mbs, .ref mde, .int (nI 0), .int (nI 0), .int (nI 0), .int (nI 0), .long 4, .long 1, .ref maa, .ref mab, .ref mba, .ref mbb])), (maa, .inl (cs 1, 9, .inr (.inl (lt4 0 0 1 1)))), (mab, .inl (cs 1, 9, .inr (.inl (lt4 1 1 2 1)))), (mba, .inl (cs 1, 9, .inr (.inl (lt4 0 4 5 4)))), (mbb, .inl (cs 1, 9, .inr (.inl (lt4 1 1 1 1))))] := hD
              refine lv_iload_n hx hb dX12_chain_84 rfl (lv_at hl 2 rfl) ?_
              refine lv_iconst (v := nI 1) hx hb dX12_chain_85 (by decide) ?_
              refine lv_icmp_le (tgt := 103) hx hb dX12_chain_86 (by decide) (fun c => absurd c (by decide)) (fun _ => ?_)
              refine lv_iload_n hx hb dX12_chain_89 rfl (lv_at hl 1 rfl) ?_
              refine lv_if_ne (tgt := 103) hx hb dX12_chain_90 (by decide) (fun _ => ?_) (fun c => absurd c (by decide))
              refine lv_aload_n hx hb dX12_chain_103 rfl (lv_at hl 0 rfl) ?_
              refine xget C hP 0 rfl rfl zuX12 31 (by decide) zw6_4 rfl dX12_chain_104 ?_
              refine lv_if_eq (tgt := 114) hx hb dX12_chain_107 (by decide) (fun _ => ?_) (fun c => absurd (by decide) c)
              refine lv_iload_n hx hb dX12_chain_114 rfl (lv_at hl 2 rfl) ?_
              refine lv_iconst (v := nI 2) hx hb dX12_chain_115 (by decide) ?_
              refine lv_irem hx hb dX12_chain_116 (by decide) ?_
              refine lv_topi (nm_r (e' := nI 1) (by decide) ?_)
              refine lv_if_ne (tgt := 127) hx hb dX12_chain_117 (by decide) (fun _ => ?_) (fun c => absurd c (by decide))
              refine lv_aload_n hx hb dX12_chain_127 rfl (lv_at hl 0 rfl) ?_
              refine xget C hP 0 rfl rfl zuX12 33 (by decide) zw6_6 rfl dX12_chain_128 ?_
              exact xretl C () (Or.inl ⟨3, 3, by decide, by decide, rfl, rfl, rfl⟩) (xP_map hP [] rfl) (hD.sub [] (by decide +kernel) rfl) hS (Nat.le_of_ble_eq_true rfl) (Nat.le_of_ble_eq_true rfl) dX12_chain_131
          · -- split
            replace hP : va_P D vwCl [(hm, .inr (12, [.ref ms, .ref mkp, .int (nI 0), .ref mtr, .int (nI 4), .int (nI 2), .int (nI 2), .int (nI 3), .int (nI 2), .int (nI 1), .ref mas, .int (nI 0), .int (nI 0), .int (nI 0), .ref mso, .ref mon, .ref mot, .ref man, .int (nI 0), .int (nI 0), .ref mst, .ref msm, .ref mtb, .ref mti, .ref mfr, .ref mbn, .ref mbs, .ref mde, .int (nI 0), .int (nI 0), .int (nI 0), .int (nI 0), .long 0, .long 0, .ref maa, .ref mab, .ref mba, .ref mbb])), (maa, .inl (cs 1, 9, .inr (.inl (fun _ => 0)))), (mab, .inl (cs 1, 9, .inr (.inl (fun _ => 0)))), (mba, .inl (cs 1, 9, .inr (.inl (fun _ => 0)))), (mbb, .inl (cs 1, 9, .inr (.inl (fun _ => 0))))] H := hP
            replace hD : va_D A [(hm, .inr (12, [.ref ms, .ref mkp, .int (nI 0), .ref mtr, .int (nI 4), .int (nI 2), .int (nI 2), .int (nI 3), .int (nI 2), .int (nI 1), .ref mas, .int (nI 0), .int (nI 0), .int (nI 0), .ref mso, .ref mon, .ref mot, .ref man, .int (nI 0), .int (nI 0), .ref mst, .ref msm, .ref mtb, .ref mti, .ref mfr, .ref mbn, .ref mbs, .ref mde, .int (nI 0), .int (nI 0), .int (nI 0), .int (nI 0), .long 0, .long 0, .ref maa, .ref mab, .ref mba, .ref mbb])), (maa, .inl (cs 1, 9, .inr (.inl (fun _ => 0)))), (mab, .inl (cs 1, 9, .inr (.inl (fun _ => 0)))), (mba, .inl (cs 1, 9, .inr (.inl (fun _ => 0)))), (mbb, .inl (cs 1, 9, .inr (.inl (fun _ => 0))))] := hD
            refine xi (wr := [(maa, .inl (cs 1, 9, .inr (.inl (fun _ => 0)))), (mab, .inl (cs 1, 9, .inr (.inl (fun _ => 0)))), (mba, .inl (cs 1, 9, .inr (.inl (fun _ => 0)))), (mbb, .inl (cs 1, 9, .inr (.inl (fun _ => 0))))]) (xV (As := [.int (nI 4)]) (rest := []) C (c_X12_mayStay_4 l D cs hm ms mkp mtr mas mso mon mot man mst msm mtb mti mfr mbn mbs mde maa mab mba mbb 0 0) kX12_299 hP hD [0] rfl (by decide +kernel) 0 rfl rfl rfl ⟨Nat.le_of_ble_eq_true rfl, Nat.le_of_ble_eq_true rfl⟩ rfl hl.1 rfl (Nat.le_of_ble_eq_true rfl) dX12_chain_33 ⟨Nat.le_of_ble_eq_true rfl, Nat.le_of_ble_eq_true rfl⟩) hP hD hS hA [0] [1, 2, 3, 4] rfl rfl (by decide +kernel) (by decide +kernel) ?_
            clear hP hD hS
            try clear locs
            try clear H
            intro r_101 u_102 H locs hw_r_101 hP hD hS
            have hw_r_101 : r_101 = nI 0 := hw_r_101
            refine W.widen (k := 0) (n := 0) (Nat.le_of_ble_eq_true rfl) (Nat.le_of_ble_eq_true rfl) ?_
            replace hP : va_P D vwCl [(maa, .inl (cs 1, 9, .inr (.inl (fun _ => 0)))), (mab, .inl (cs 1, 9, .inr (.inl (fun _ => 0)))), (mba, .inl (cs 1, 9, .inr (.inl (fun _ => 0)))), (mbb, .inl (cs 1, 9, .inr (.inl (fun _ => 0)))), (hm, .inr (12, [.ref ms, .ref mkp, .int (nI 0), .ref mtr, .int (nI 4), .int (nI 2), .int (nI 2), .int (nI 3), .int (nI 2), .int (nI 1), .ref mas, .int (nI 0), .int (nI 0), .int (nI 0), .ref mso, .ref mon, .ref mot, .ref man, .int (nI 0), .int (nI 0), .ref mst, .ref msm, .ref mtb, .ref mti, .ref mfr, .ref mbn, .ref mbs, .ref mde, .int (nI 0), .int (nI 0), .int (nI 0), .int (nI 0), .long 0, .long 0, .ref maa, .ref mab, .ref mba, .ref mbb]))] H := hP
            replace hD : va_D A [(maa, .inl (cs 1, 9, .inr (.inl (fun _ => 0)))), (mab, .inl (cs 1, 9, .inr (.inl (fun _ => 0)))), (mba, .inl (cs 1, 9, .inr (.inl (fun _ => 0)))), (mbb, .inl (cs 1, 9, .inr (.inl (fun _ => 0)))), (hm, .inr (12, [.ref ms, .ref mkp, .int (nI 0), .ref mtr, .int (nI 4), .int (nI 2), .int (nI 2), .int (nI 3), .int (nI 2), .int (nI 1), .ref mas, .int (nI 0), .int (nI 0), .int (nI 0), .ref mso, .ref mon, .ref mot, .ref man, .int (nI 0), .int (nI 0), .ref mst, .ref msm, .ref mtb, .ref mti, .ref mfr, .ref mbn, .ref mbs, .ref mde, .int (nI 0), .int (nI 0), .int (nI 0), .int (nI 0), .long 0, .long 0, .ref maa, .ref mab, .ref mba, .ref mbb]))] := hD
            subst hw_r_101
            refine lv_if_eq (tgt := 43) hx hb dX12_chain_36 (by decide) (fun _ => ?_) (fun c => absurd (by decide) c)
            rcases (show True from trivial) with _
            · -- split
              refine lv_aload_n hx hb dX12_chain_43 rfl (lv_at hl 0 rfl) ?_
              refine lv_iconst (v := nI 0) hx hb dX12_chain_44 (by decide) ?_
              refine xput C hP hD hS 4 rfl rfl zuX12 tyX12 tyX12_ok nmX12 31 (by decide) zw6_4 rfl rfl rfl (Nat.le_of_ble_eq_true rfl) dX12_chain_45 ?_
              clear hP hD hS
              try clear locs
              try clear H
              intro H locs hP hD hS
              replace hP : va_P D vwCl [(maa, .inl (cs 1, 9, .inr (.inl (fun _ => 0)))), (mab, .inl (cs 1, 9, .inr (.inl (fun _ => 0)))), (mba, .inl (cs 1, 9, .inr (.inl (fun _ => 0)))), (mbb, .inl (cs 1, 9, .inr (.inl (fun _ => 0)))), (hm, .inr (12, [.ref ms, .ref mkp, .int (nI 0), .ref mtr, .int (nI 4), .int (nI 2), .int (nI 2), .int (nI 3), .int (nI 2), .int (nI 1), .ref mas, .int (nI 0), .int (nI 0), .int (nI 0), .ref mso, .ref mon, .ref mot, .ref man, .int (nI 0), .int (nI 0), .ref mst, .ref msm, .ref mtb, .ref mti, .ref mfr, .ref mbn, .ref mbs, .ref mde, .int (nI 0), .int (nI 0), .int (nI 0), .int (nI 0), .long 0, .long 0, .ref maa, .ref mab, .ref mba, .ref mbb]))] H := hP
              replace hD : va_D A [(maa, .inl (cs 1, 9, .inr (.inl (fun _ => 0)))), (mab, .inl (cs 1, 9, .inr (.inl (fun _ => 0)))), (mba, .inl (cs 1, 9, .inr (.inl (fun _ => 0)))), (mbb, .inl (cs 1, 9, .inr (.inl (fun _ => 0)))), (hm, .inr (12, [.ref ms, .ref mkp, .int (nI 0), .ref mtr, .int (nI 4), .int (nI 2), .int (nI 2), .int (nI 3), .int (nI 2), .int (nI 1), .ref mas, .int (nI 0), .int (nI 0), .int (nI 0), .ref mso, .ref mon, .ref mot, .ref man, .int (nI 0), .int (nI 0), .ref mst, .ref msm, .ref mtb, .ref mti, .ref mfr, .ref mbn, .ref mbs, .ref mde, .int (nI 0), .int (nI 0), .int (nI 0), .int (nI 0), .long 0, .long 0, .ref maa, .ref mab, .ref mba, .ref mbb]))] := hD
              refine lv_aload_n hx hb dX12_chain_48 rfl (lv_at hl 0 rfl) ?_
              refine lv_iload_n hx hb dX12_chain_49 rfl (lv_at hl 2 rfl) ?_
              refine lv_iconst (v := nI 1) hx hb dX12_chain_50 (by decide) ?_
              refine lv_icmp_le (tgt := 58) hx hb dX12_chain_51 (by decide) (fun c => absurd c (by decide)) (fun _ => ?_)
              refine lv_iconst (v := nI 1) hx hb dX12_chain_54 (by decide) ?_
              refine lv_goto (tgt := 59) hx hb dX12_chain_55 (by decide) ?_
              refine xv (wr := []) (xV (As := [.int (nI 1)]) (rest := []) C (c_X12_laysSteps_1 l D cs hm ms mkp mtr mas mso mon mot man mst msm mtb mti mfr mbn mbs mde maa mab mba mbb 0 0) kX12_302 hP hD [4, 0, 1, 2, 3] rfl (by decide +kernel) 0 rfl rfl rfl ⟨Nat.le_of_ble_eq_true rfl, Nat.le_of_ble_eq_true rfl⟩ rfl hl.1 rfl (Nat.le_of_ble_eq_true rfl) dX12_chain_59 ⟨Nat.le_of_ble_eq_true rfl, Nat.le_of_ble_eq_true rfl⟩) hP hD hS hA [4, 0, 1, 2, 3] [] rfl rfl (by decide +kernel) (by decide +kernel) ?_
              clear hP hD hS
              try clear locs
              try clear H
              intro u_104 H locs hw_r_103 hP hD hS
              refine W.widen (k := 0) (n := 0) (Nat.le_of_ble_eq_true rfl) (Nat.le_of_ble_eq_true rfl) ?_
              replace hP : va_P D vwCl [(hm, .inr (12, [.ref ms, .ref mkp, .int (nI 0), .ref mtr, .int (nI 4), .int (nI 2), .int (nI 2), .int (nI 3), .int (nI 2), .int (nI 1), .ref mas, .int (nI 0), .int (nI 0), .int (nI 0), .ref mso, .ref mon, .ref mot, .ref man, .int (nI 0), .int (nI 0), .ref mst, .ref msm, .ref mtb, .ref mti, .ref mfr, .ref mbn, .ref mbs, .ref mde, .int (nI 0), .int (nI 0), .int (nI 0), .int (nI 0), .long 4, .long 1, .ref maa, .ref mab, .ref mba, .ref mbb])), (maa, .inl (cs 1, 9, .inr (.inl (lt4 0 0 1 1)))), (mab, .inl (cs 1, 9, .inr (.inl (lt4 1 1 2 1)))), (mba, .inl (cs 1, 9, .inr (.inl (lt4 0 4 5 4)))), (mbb, .inl (cs 1, 9, .inr (.inl (lt4 1 1 1 1))))] H := hP
              replace hD : va_D A [(hm, .inr (12, [.ref ms, .ref mkp, .int (nI 0), .ref mtr, .int (nI 4), .int (nI 2), .int (nI 2), .int (nI 3), .int (nI 2), .int (nI 1), .ref mas, .int (nI 0), .int (nI 0), .int (nI 0), .ref mso, .ref mon, .ref mot, .ref man, .int (nI 0), .int (nI 0), .ref mst, .ref msm, .ref mtb, .ref mti, .ref mfr, .ref mbn, .ref mbs, .ref mde, .int (nI 0), .int (nI 0), .int (nI 0), .int (nI 0), .long 4, .long 1, .ref maa, .ref mab, .ref mba, .ref mbb])), (maa, .inl (cs 1, 9, .inr (.inl (lt4 0 0 1 1)))), (mab, .inl (cs 1, 9, .inr (.inl (lt4 1 1 2 1)))), (mba, .inl (cs 1, 9, .inr (.inl (lt4 0 4 5 4)))), (mbb, .inl (cs 1, 9, .inr (.inl (lt4 1 1 1 1))))] := hD
              refine lv_aload_n hx hb dX12_chain_62 rfl (lv_at hl 0 rfl) ?_
              refine xget C hP 0 rfl rfl zuX12 31 (by decide) zw6_4 rfl dX12_chain_63 ?_
              refine lv_if_ne (tgt := 103) hx hb dX12_chain_66 (by decide) (fun c => absurd (by decide) c) (fun _ => ?_)
              refine lv_aload_n hx hb dX12_chain_69 rfl (lv_at hl 0 rfl) ?_
              refine lv_iload_n hx hb dX12_chain_70 rfl (lv_at hl 1 rfl) ?_
              refine lv_iload_n hx hb dX12_chain_71 rfl (lv_at hl 2 rfl) ?_
              refine lv_iconst (v := nI 1) hx hb dX12_chain_72 (by decide) ?_
              refine lv_icmp_le (tgt := 80) hx hb dX12_chain_73 (by decide) (fun c => absurd c (by decide)) (fun _ => ?_)
              refine lv_lconst (v := 0) hx hb dX12_chain_76 (by decide) ?_
              refine lv_goto (tgt := 81) hx hb dX12_chain_77 (by decide) ?_
              refine xv (wr := []) (xV (As := [.int (nI 4), .long 0]) (rest := []) C (c_X12_goesDown_1_4 l D cs hm ms mkp mtr mas mso mon mot man mst msm mtb mti mfr mbn mbs mde maa mab mba mbb 4 1) kX12_306 hP hD [0, 1, 2, 3, 4] rfl (by decide +kernel) 0 rfl rfl rfl ⟨Nat.le_of_ble_eq_true rfl, Nat.le_of_ble_eq_true rfl⟩ rfl hl.1 rfl (Nat.le_of_ble_eq_true rfl) dX12_chain_81 ⟨Nat.le_of_ble_eq_true rfl, Nat.le_of_ble_eq_true rfl⟩) hP hD hS hA [0, 1, 2, 3, 4] [] rfl rfl (by decide +kernel) (by decide +kernel) ?_
              clear hP hD hS
              try clear locs
              try clear H
              intro u_106 H locs hw_r_105 hP hD hS
              refine W.widen (k := 0) (n := 0) (Nat.le_of_ble_eq_true rfl) (Nat.le_of_ble_eq_true rfl) ?_
              replace hP : va_P D vwCl [(hm, .inr (12, [.ref ms, .ref mkp, .int (nI 0), .ref mtr, .int (nI 4), .int (nI 2), .int (nI 2), .int (nI 3), .int (nI 2), .int (nI 1), .ref mas, .int (nI 0), .int (nI 0), .int (nI 0), .ref mso, .ref mon, .ref mot, .ref man, .int (nI 0), .int (nI 0), .ref mst, .ref msm, .ref mtb, .ref mti, .ref mfr, .ref mbn, .ref mbs, .ref mde, .int (nI 0), .int (nI 0), .int (nI 0), .int (nI 0), .long 0, .long 1, .ref maa, .ref mab, .ref mba, .ref mbb])), (maa, .inl (cs 1, 9, .inr (.inl (lt4 0 0 1 1)))), (mab, .inl (cs 1, 9, .inr (.inl (lt4 1 1 2 1)))), (mba, .inl (cs 1, 9, .inr (.inl (lt4 0 4 5 4)))), (mbb, .inl (cs 1, 9, .inr (.inl (lt4 1 1 1 1))))] H := hP
              replace hD : va_D A [(hm, .inr (12, [.ref ms, .ref mkp, .int (nI 0), .ref mtr, .int (nI 4), .int (nI 2), .int (nI 2), .int (nI 3), .int (nI 2), .int (nI 1), .ref mas, .int (nI 0), .int (nI 0), .int (nI 0), .ref mso, .ref mon, .ref mot, .ref man, .int (nI 0), .int (nI 0), .ref mst, .ref msm, .ref mtb, .ref mti, .ref mfr, .ref mbn, .ref mbs, .ref mde, .int (nI 0), .int (nI 0), .int (nI 0), .int (nI 0), .long 0, .long 1, .ref maa, .ref mab, .ref mba, .ref mbb])), (maa, .inl (cs 1, 9, .inr (.inl (lt4 0 0 1 1)))), (mab, .inl (cs 1, 9, .inr (.inl (lt4 1 1 2 1)))), (mba, .inl (cs 1, 9, .inr (.inl (lt4 0 4 5 4)))), (mbb, .inl (cs 1, 9, .inr (.inl (lt4 1 1 1 1))))] := hD
              refine lv_iload_n hx hb dX12_chain_84 rfl (lv_at hl 2 rfl) ?_
              refine lv_iconst (v := nI 1) hx hb dX12_chain_85 (by decide) ?_
              refine lv_icmp_le (tgt := 103) hx hb dX12_chain_86 (by decide) (fun c => absurd c (by decide)) (fun _ => ?_)
              refine lv_iload_n hx hb dX12_chain_89 rfl (lv_at hl 1 rfl) ?_
              refine lv_if_ne (tgt := 103) hx hb dX12_chain_90 (by decide) (fun _ => ?_) (fun c => absurd c (by decide))
              refine lv_aload_n hx hb dX12_chain_103 rfl (lv_at hl 0 rfl) ?_
              refine xget C hP 0 rfl rfl zuX12 31 (by decide) zw6_4 rfl dX12_chain_104 ?_
              refine lv_if_eq (tgt := 114) hx hb dX12_chain_107 (by decide) (fun _ => ?_) (fun c => absurd (by decide) c)
              refine lv_iload_n hx hb dX12_chain_114 rfl (lv_at hl 2 rfl) ?_
              refine lv_iconst (v := nI 2) hx hb dX12_chain_115 (by decide) ?_
              refine lv_irem hx hb dX12_chain_116 (by decide) ?_
              refine lv_topi (nm_r (e' := nI 1) (by decide) ?_)
              refine lv_if_ne (tgt := 127) hx hb dX12_chain_117 (by decide) (fun _ => ?_) (fun c => absurd c (by decide))
              refine lv_aload_n hx hb dX12_chain_127 rfl (lv_at hl 0 rfl) ?_
              refine xget C hP 0 rfl rfl zuX12 33 (by decide) zw6_6 rfl dX12_chain_128 ?_
              exact xretl C () (Or.inl ⟨4, 3, by decide, by decide, rfl, rfl, rfl⟩) (xP_map hP [] rfl) (hD.sub [] (by decide +kernel) rfl) hS (Nat.le_of_ble_eq_true rfl) (Nat.le_of_ble_eq_true rfl) dX12_chain_131
