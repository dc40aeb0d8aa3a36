theorem drw (x : Int32) {m : Nat} (h0 : 0 < m) (hm : m < 2 ^ 31) : ∃ j, j < m ∧ (x.toUInt32 >>> ((nI 8).toUInt32 &&& Int32.toUInt32 31)).toInt32 - (x.toUInt32 >>> ((nI 8).toUInt32 &&& Int32.toUInt32 31)).toInt32 / nI m * nI m = nI j := by
  obtain ⟨n, hn, rfl⟩ : ∃ n : Nat, n < 2 ^ 32 ∧ x = nI n := ⟨x.toBitVec.toNat, x.toBitVec.isLt, Int32.toBitVec_inj.mp (BitVec.eq_of_toNat_eq (pk_tn x.toBitVec.isLt).symm)⟩
  rw [pk_ushrN hn (nI 8) 8 (by decide), pk_rem (by omega) h0 hm]
  exact ⟨_, Nat.mod_lt _ h0, rfl⟩
theorem dr3 {r : Int32} (h : ∃ j, j < 3 ∧ r = nI j) : r = nI 0 ∨ r = nI 1 ∨ r = nI 2 := by
  obtain ⟨j, hj, rfl⟩ := h
  rcases (show j = 0 ∨ j = 1 ∨ j = 2 by omega) with rfl | rfl | rfl
  · exact Or.inl rfl
  · exact Or.inr (Or.inl rfl)
  · exact Or.inr (Or.inr rfl)
theorem dr2 {r : Int32} (h : ∃ j, j < 2 ∧ r = nI j) : r = nI 0 ∨ r = nI 1 := by
  obtain ⟨j, hj, rfl⟩ := h
  rcases (show j = 0 ∨ j = 1 by omega) with rfl | rfl
  · exact Or.inl rfl
  · exact Or.inr rfl

set_option maxHeartbeats 4000000 in
set_option maxRecDepth 100000 in
theorem c_X12_draw (l : Launch) (D : va_G) (cs : Nat → ClassId) (hm ms mkp mtr mas mso mon mot man mst msm mtb mti mfr mbn mbs mde maa mab mba mbb : Nat) (km xx : Int32) (m0 : Nat) (h0 : 0 < m0) (hm0 : m0 < 2 ^ 31) : xMet l D cs yX12_draw cX12_draw 2 (some .int) ({ frames := 0, cells := 0, slots := 0, locals := 0 } : Room) [.ref hm, .int (nI m0)] [(hm, .inr (12, [.ref ms, .ref mkp, .int km, .ref mtr, .int (nI 4), .int (nI 2), .int (nI 2), .int (nI 3), .int (nI 2), .int (nI 1), .ref mas, .int (nI 0), .int (nI 0), .int (nI 0), .ref mso, .ref mon, .ref mot, .ref man, .int (nI 0), .int xx, .ref mst, .ref msm, .ref mtb, .ref mti, .ref mfr, .ref mbn, .ref mbs, .ref mde, .int (nI 0), .int (nI 0), .int (nI 0), .int (nI 0), .long 0, .long 0, .ref maa, .ref mab, .ref mba, .ref mbb]))] (xQi D (fun (r : Int32) (x2 : Int32) => ∃ j, j < m0 ∧ r = nI j) (fun (x2 : Int32) => [(hm, .inr (12, [.ref ms, .ref mkp, .int km, .ref mtr, .int (nI 4), .int (nI 2), .int (nI 2), .int (nI 3), .int (nI 2), .int (nI 1), .ref mas, .int (nI 0), .int (nI 0), .int (nI 0), .ref mso, .ref mon, .ref mot, .ref man, .int (nI 0), .int x2, .ref mst, .ref msm, .ref mtb, .ref mti, .ref mfr, .ref mbn, .ref mbs, .ref mde, .int (nI 0), .int (nI 0), .int (nI 0), .int (nI 0), .long 0, .long 0, .ref maa, .ref mab, .ref mba, .ref mbb]))])) := by
  refine xMet.intro (by decide) (Nat.le_of_ble_eq_true rfl) ?_
  intro p e s m args below meth c A ls C hP hD hS hl
  have hx := C.1
  have hb := C.2.1
  have hz := C.2.2.2.2.1
  have hown := C.2.2.2.1
  have hA := C.2.2.2.2.2.2.2.2.2
  have hAO := C.2.2.2.2.2.2.2.2.1.2.2
  replace hl : lv_has ls 2 [(0, .ref hm), (1, .int (nI m0))] := hl
  obtain ⟨H, hH⟩ : ∃ H, H = s.heap := ⟨_, rfl⟩
  replace hP : va_P D vwCl [(hm, .inr (12, [.ref ms, .ref mkp, .int km, .ref mtr, .int (nI 4), .int (nI 2), .int (nI 2), .int (nI 3), .int (nI 2), .int (nI 1), .ref mas, .int (nI 0), .int (nI 0), .int (nI 0), .ref mso, .ref mon, .ref mot, .ref man, .int (nI 0), .int xx, .ref mst, .ref msm, .ref mtb, .ref mti, .ref mfr, .ref mbn, .ref mbs, .ref mde, .int (nI 0), .int (nI 0), .int (nI 0), .int (nI 0), .long 0, .long 0, .ref maa, .ref mab, .ref mba, .ref mbb]))] H := by rw [hH]; exact hP
  replace hS : va_S A s.heap H [] := by rw [hH]; exact hS
  obtain ⟨locs, hlocs⟩ : ∃ z : List Loc, z = [] := ⟨_, rfl⟩
  rw [← hlocs] at hS
  suffices hW : W p l e ({ frames := 0, cells := 0, slots := 0, locals := 0 } : Room) s m args below meth c H locs 0 0 (MQ below ((xQi D (fun (r : Int32) (x2 : Int32) => ∃ j, j < m0 ∧ r = nI j) (fun (x2 : Int32) => [(hm, .inr (12, [.ref ms, .ref mkp, .int km, .ref mtr, .int (nI 4), .int (nI 2), .int (nI 2), .int (nI 3), .int (nI 2), .int (nI 1), .ref mas, .int (nI 0), .int (nI 0), .int (nI 0), .ref mso, .ref mon, .ref mot, .ref man, .int (nI 0), .int x2, .ref mst, .ref msm, .ref mtb, .ref mti, .ref mfr, .ref mbn, .ref mbs, .ref mde, .int (nI 0), .int (nI 0), .int (nI 0), .int (nI 0), .long 0, .long 0, .ref maa, .ref mab, .ref mba, .ref mbb]))])) A) args s 0 0 A) (F0 m 0 ls []) by rw [hlocs, hH] at hW; exact hW
  clear hH hlocs
  refine lv_aload_n hx hb dX12_draw_0 rfl (lv_at hl 0 rfl) ?_
  refine lv_aload_n hx hb dX12_draw_1 rfl (lv_at hl 0 rfl) ?_
  refine xget C hP 0 rfl rfl zuX12 19 (by decide) zw5_232 rfl dX12_draw_2 ?_
  refine lv_ldc (v := nI 1103515245) hx hb hown (hz _ zw6_177) dX12_draw_5 ?_
  refine lv_imul hx hb dX12_draw_7 ?_
  refine lv_sipush (v := nI 12345) hx hb dX12_draw_8 (by decide) ?_
  refine lv_iadd hx hb dX12_draw_11 ?_
  refine xput C hP hD hS 0 rfl rfl zuX12 tyX12 tyX12_ok nmX12 19 (by decide) zw5_232 rfl rfl rfl (Nat.le_of_ble_eq_true rfl) dX12_draw_12 ?_
  clear hP hD hS
  try clear locs
  try clear H
  intro H locs hP hD hS
  replace hP : va_P D vwCl [(hm, .inr (12, [.ref ms, .ref mkp, .int km, .ref mtr, .int (nI 4), .int (nI 2), .int (nI 2), .int (nI 3), .int (nI 2), .int (nI 1), .ref mas, .int (nI 0), .int (nI 0), .int (nI 0), .ref mso, .ref mon, .ref mot, .ref man, .int (nI 0), .int ((xx * (nI 1103515245)) + (nI 12345)), .ref mst, .ref msm, .ref mtb, .ref mti, .ref mfr, .ref mbn, .ref mbs, .ref mde, .int (nI 0), .int (nI 0), .int (nI 0), .int (nI 0), .long 0, .long 0, .ref maa, .ref mab, .ref mba, .ref mbb]))] H := hP
  replace hD : va_D A [(hm, .inr (12, [.ref ms, .ref mkp, .int km, .ref mtr, .int (nI 4), .int (nI 2), .int (nI 2), .int (nI 3), .int (nI 2), .int (nI 1), .ref mas, .int (nI 0), .int (nI 0), .int (nI 0), .ref mso, .ref mon, .ref mot, .ref man, .int (nI 0), .int ((xx * (nI 1103515245)) + (nI 12345)), .ref mst, .ref msm, .ref mtb, .ref mti, .ref mfr, .ref mbn, .ref mbs, .ref mde, .int (nI 0), .int (nI 0), .int (nI 0), .int (nI 0), .long 0, .long 0, .ref maa, .ref mab, .ref mba, .ref mbb]))] := hD
  refine lv_aload_n hx hb dX12_draw_15 rfl (lv_at hl 0 rfl) ?_
  refine xget C hP 0 rfl rfl zuX12 19 (by decide) zw5_232 rfl dX12_draw_16 ?_
  refine lv_topi (fun d1 _ => ?_)
  refine lv_bipush (v := nI 8) hx hb dX12_draw_19 (by decide) ?_
  refine lv_iushr hx hb dX12_draw_21 rfl ?_
  refine lv_iload_n hx hb dX12_draw_22 rfl (lv_at hl 1 rfl) ?_
  refine lv_irem hx hb dX12_draw_23 (nI_ne0 h0 hm0) ?_
  exact xreti C ((xx * (nI 1103515245)) + (nI 12345)) (drw d1 h0 hm0) hP hD hS (Nat.le_of_ble_eq_true rfl) (Nat.le_of_ble_eq_true rfl) rfl dX12_draw_24

set_option maxHeartbeats 4000000 in
set_option maxRecDepth 100000 in
theorem c_X12_nth_3_0 (l : Launch) (D : va_G) (cs : Nat → ClassId) (u9 : Nat) : xMet l D cs yX12_nth cX12_nth 4 (some .int) ({ frames := 1, cells := 0, slots := 0, locals := 21 } : Room) [.int (nI 3), .int (nI 0)] [] (xQi D (fun (r : Int32) (_u : Unit) => r = nI 0) (fun (_u : Unit) => [])) := by
  refine xMet.intro (by decide) (Nat.le_of_ble_eq_true rfl) ?_
  intro p e s m args below meth c A ls C hP hD hS hl
  have hx := C.1
  have hb := C.2.1
  have hz := C.2.2.2.2.1
  have hown := C.2.2.2.1
  have hA := C.2.2.2.2.2.2.2.2.2
  have hAO := C.2.2.2.2.2.2.2.2.1.2.2
  replace hl : lv_has ls 4 [(0, .int (nI 3)), (1, .int (nI 0))] := hl
  obtain ⟨H, hH⟩ : ∃ H, H = s.heap := ⟨_, rfl⟩
  replace hP : va_P D vwCl [] H := by rw [hH]; exact hP
  replace hS : va_S A s.heap H [] := by rw [hH]; exact hS
  obtain ⟨locs, hlocs⟩ : ∃ z : List Loc, z = [] := ⟨_, rfl⟩
  rw [← hlocs] at hS
  suffices hW : W p l e ({ frames := 1, cells := 0, slots := 0, locals := 21 } : Room) s m args below meth c H locs 0 0 (MQ below ((xQi D (fun (r : Int32) (_u : Unit) => r = nI 0) (fun (_u : Unit) => [])) A) args s 0 0 A) (F0 m 0 ls []) by rw [hlocs, hH] at hW; exact hW
  clear hH hlocs
  refine lv_iload_n hx hb dX12_nth_0 rfl (lv_at hl 1 rfl) ?_
  refine lv_istore_n (lv' := [(2, .int (nI 0)), (0, .int (nI 3)), (1, .int (nI 0))]) hx hb dX12_nth_1 rfl hl (by decide) rfl ?_
  clear hl
  try clear ls
  intro ls hl
  refine lv_iconst (v := nI 0) hx hb dX12_nth_2 (by decide) ?_
  refine lv_istore_n (lv' := [(3, .int (nI 0)), (2, .int (nI 0)), (0, .int (nI 3)), (1, .int (nI 0))]) hx hb dX12_nth_3 rfl hl (by decide) rfl ?_
  clear hl
  try clear ls
  intro ls hl
  refine lv_iload_n hx hb dX12_nth_4 rfl (lv_at hl 2 rfl) ?_
  refine lv_iload_n hx hb dX12_nth_5 rfl (lv_at hl 0 rfl) ?_
  refine xi (wr := []) (xS (As := [.int (nI 3), .int (nI 0)]) (rest := []) C (c_X12_has l D cs (nI 3) (nI 0)) kX12_100 hP hD [] rfl (by decide +kernel) ⟨Nat.le_of_ble_eq_true rfl, Nat.le_of_ble_eq_true rfl⟩ rfl hl.1 rfl (Nat.le_of_ble_eq_true rfl) dX12_nth_6 ⟨Nat.le_of_ble_eq_true rfl, Nat.le_of_ble_eq_true rfl⟩) hP hD hS hA [] [] rfl rfl (by decide +kernel) (by decide +kernel) ?_
  clear hP hD hS
  try clear locs
  try clear H
  intro r_1 u_2 H locs hw_r_1 hP hD hS
  have hw_r_1 : PQ (((nI 3) >>> ((nI 0) &&& 31)) &&& nI 1 = nI 1) r_1 (nI 1) (nI 0) := hw_r_1
  refine W.widen (k := 0) (n := 0) (Nat.le_of_ble_eq_true rfl) (Nat.le_of_ble_eq_true rfl) ?_
  replace hP : va_P D vwCl [] H := hP
  replace hD : va_D A [] := hD
  obtain rfl : r_1 = nI 1 := by rcases hw_r_1 with ⟨_, e⟩ | ⟨q, _⟩; exact e; exact absurd (by decide) q
  refine lv_if_ne (tgt := 15) hx hb dX12_nth_9 (by decide) (fun _ => ?_) (fun c => absurd c (by decide))
  refine lv_iload_n hx hb dX12_nth_15 rfl (lv_at hl 1 rfl) ?_
  refine lv_if_ne (tgt := 21) hx hb dX12_nth_16 (by decide) (fun c => absurd (by decide) c) (fun _ => ?_)
  refine lv_iload_n hx hb dX12_nth_19 rfl (lv_at hl 0 rfl) ?_
  exact xreti C () rfl hP hD hS (Nat.le_of_ble_eq_true rfl) (Nat.le_of_ble_eq_true rfl) rfl dX12_nth_20

set_option maxHeartbeats 4000000 in
set_option maxRecDepth 100000 in
theorem c_X12_nth_3_1 (l : Launch) (D : va_G) (cs : Nat → ClassId) (u9 : Nat) : xMet l D cs yX12_nth cX12_nth 4 (some .int) ({ frames := 1, cells := 0, slots := 0, locals := 21 } : Room) [.int (nI 3), .int (nI 1)] [] (xQi D (fun (r : Int32) (_u : Unit) => r = nI 1) (fun (_u : Unit) => [])) := by
  refine xMet.intro (by decide) (Nat.le_of_ble_eq_true rfl) ?_
  intro p e s m args below meth c A ls C hP hD hS hl
  have hx := C.1
  have hb := C.2.1
  have hz := C.2.2.2.2.1
  have hown := C.2.2.2.1
  have hA := C.2.2.2.2.2.2.2.2.2
  have hAO := C.2.2.2.2.2.2.2.2.1.2.2
  replace hl : lv_has ls 4 [(0, .int (nI 3)), (1, .int (nI 1))] := hl
  obtain ⟨H, hH⟩ : ∃ H, H = s.heap := ⟨_, rfl⟩
  replace hP : va_P D vwCl [] H := by rw [hH]; exact hP
  replace hS : va_S A s.heap H [] := by rw [hH]; exact hS
  obtain ⟨locs, hlocs⟩ : ∃ z : List Loc, z = [] := ⟨_, rfl⟩
  rw [← hlocs] at hS
  suffices hW : W p l e ({ frames := 1, cells := 0, slots := 0, locals := 21 } : Room) s m args below meth c H locs 0 0 (MQ below ((xQi D (fun (r : Int32) (_u : Unit) => r = nI 1) (fun (_u : Unit) => [])) A) args s 0 0 A) (F0 m 0 ls []) by rw [hlocs, hH] at hW; exact hW
  clear hH hlocs
  refine lv_iload_n hx hb dX12_nth_0 rfl (lv_at hl 1 rfl) ?_
  refine lv_istore_n (lv' := [(2, .int (nI 1)), (0, .int (nI 3)), (1, .int (nI 1))]) hx hb dX12_nth_1 rfl hl (by decide) rfl ?_
  clear hl
  try clear ls
  intro ls hl
  refine lv_iconst (v := nI 0) hx hb dX12_nth_2 (by decide) ?_
  refine lv_istore_n (lv' := [(3, .int (nI 0)), (2, .int (nI 1)), (0, .int (nI 3)), (1, .int (nI 1))]) hx hb dX12_nth_3 rfl hl (by decide) rfl ?_
  clear hl
  try clear ls
  intro ls hl
  refine lv_iload_n hx hb dX12_nth_4 rfl (lv_at hl 2 rfl) ?_
  refine lv_iload_n hx hb dX12_nth_5 rfl (lv_at hl 0 rfl) ?_
  refine xi (wr := []) (xS (As := [.int (nI 3), .int (nI 0)]) (rest := []) C (c_X12_has l D cs (nI 3) (nI 0)) kX12_100 hP hD [] rfl (by decide +kernel) ⟨Nat.le_of_ble_eq_true rfl, Nat.le_of_ble_eq_true rfl⟩ rfl hl.1 rfl (Nat.le_of_ble_eq_true rfl) dX12_nth_6 ⟨Nat.le_of_ble_eq_true rfl, Nat.le_of_ble_eq_true rfl⟩) hP hD hS hA [] [] rfl rfl (by decide +kernel) (by decide +kernel) ?_
  clear hP hD hS
  try clear locs
  try clear H
  intro r_1 u_2 H locs hw_r_1 hP hD hS
  have hw_r_1 : PQ (((nI 3) >>> ((nI 0) &&& 31)) &&& nI 1 = nI 1) r_1 (nI 1) (nI 0) := hw_r_1
  refine W.widen (k := 0) (n := 0) (Nat.le_of_ble_eq_true rfl) (Nat.le_of_ble_eq_true rfl) ?_
  replace hP : va_P D vwCl [] H := hP
  replace hD : va_D A [] := hD
  obtain rfl : r_1 = nI 1 := by rcases hw_r_1 with ⟨_, e⟩ | ⟨q, _⟩; exact e; exact absurd (by decide) q
  refine lv_if_ne (tgt := 15) hx hb dX12_nth_9 (by decide) (fun _ => ?_) (fun c => absurd c (by decide))
  refine lv_iload_n hx hb dX12_nth_15 rfl (lv_at hl 1 rfl) ?_
  refine lv_if_ne (tgt := 21) hx hb dX12_nth_16 (by decide) (fun _ => ?_) (fun c => absurd c (by decide))
  refine lv_iinc (v := nI 0) (lv' := [(2, .int (nI 0)), (3, .int (nI 0)), (0, .int (nI 3)), (1, .int (nI 1))]) hx hb dX12_nth_21 hl (k := 1) rfl (by decide) (by decide) rfl ?_
  clear hl
  try clear ls
  intro ls hl
  refine lv_iinc (v := nI 1) (lv' := [(3, .int (nI 1)), (2, .int (nI 0)), (0, .int (nI 3)), (1, .int (nI 1))]) hx hb dX12_nth_24 hl (k := 1) rfl (by decide) (by decide) rfl ?_
  clear hl
  try clear ls
  intro ls hl
  refine lv_goto (tgt := 4) hx hb dX12_nth_27 (by decide) ?_
  refine lv_iload_n hx hb dX12_nth_4 rfl (lv_at hl 2 rfl) ?_
  refine lv_iload_n hx hb dX12_nth_5 rfl (lv_at hl 0 rfl) ?_
  refine xi (wr := []) (xS (As := [.int (nI 3), .int (nI 1)]) (rest := []) C (c_X12_has l D cs (nI 3) (nI 1)) kX12_100 hP hD [] rfl (by decide +kernel) ⟨Nat.le_of_ble_eq_true rfl, Nat.le_of_ble_eq_true rfl⟩ rfl hl.1 rfl (Nat.le_of_ble_eq_true rfl) dX12_nth_6 ⟨Nat.le_of_ble_eq_true rfl, Nat.le_of_ble_eq_true rfl⟩) hP hD hS hA [] [] rfl rfl (by decide +kernel) (by decide +kernel) ?_
  clear hP hD hS
  try clear locs
  try clear H
  intro r_3 u_4 H locs hw_r_3 hP hD hS
  have hw_r_3 : PQ (((nI 3) >>> ((nI 1) &&& 31)) &&& nI 1 = nI 1) r_3 (nI 1) (nI 0) := hw_r_3
  refine W.widen (k := 0) (n := 0) (Nat.le_of_ble_eq_true rfl) (Nat.le_of_ble_eq_true rfl) ?_
  replace hP : va_P D vwCl [] H := hP
  replace hD : va_D A [] := hD
  obtain rfl : r_3 = nI 1 := by rcases hw_r_3 with ⟨_, e⟩ | ⟨q, _⟩; exact e; exact absurd (by decide) q
  refine lv_if_ne (tgt := 15) hx hb dX12_nth_9 (by decide) (fun _ => ?_) (fun c => absurd c (by decide))
  refine lv_iload_n hx hb dX12_nth_15 rfl (lv_at hl 1 rfl) ?_
  refine lv_if_ne (tgt := 21) hx hb dX12_nth_16 (by decide) (fun c => absurd (by decide) c) (fun _ => ?_)
  refine lv_iload_n hx hb dX12_nth_19 rfl (lv_at hl 0 rfl) ?_
  exact xreti C () rfl hP hD hS (Nat.le_of_ble_eq_true rfl) (Nat.le_of_ble_eq_true rfl) rfl dX12_nth_20

set_option maxHeartbeats 4000000 in
set_option maxRecDepth 100000 in
theorem c_X12_nth_5_0 (l : Launch) (D : va_G) (cs : Nat → ClassId) (u9 : Nat) : xMet l D cs yX12_nth cX12_nth 4 (some .int) ({ frames := 1, cells := 0, slots := 0, locals := 21 } : Room) [.int (nI 5), .int (nI 0)] [] (xQi D (fun (r : Int32) (_u : Unit) => r = nI 0) (fun (_u : Unit) => [])) := by
  refine xMet.intro (by decide) (Nat.le_of_ble_eq_true rfl) ?_
  intro p e s m args below meth c A ls C hP hD hS hl
  have hx := C.1
  have hb := C.2.1
  have hz := C.2.2.2.2.1
  have hown := C.2.2.2.1
  have hA := C.2.2.2.2.2.2.2.2.2
  have hAO := C.2.2.2.2.2.2.2.2.1.2.2
  replace hl : lv_has ls 4 [(0, .int (nI 5)), (1, .int (nI 0))] := hl
  obtain ⟨H, hH⟩ : ∃ H, H = s.heap := ⟨_, rfl⟩
  replace hP : va_P D vwCl [] H := by rw [hH]; exact hP
  replace hS : va_S A s.heap H [] := by rw [hH]; exact hS
  obtain ⟨locs, hlocs⟩ : ∃ z : List Loc, z = [] := ⟨_, rfl⟩
  rw [← hlocs] at hS
  suffices hW : W p l e ({ frames := 1, cells := 0, slots := 0, locals := 21 } : Room) s m args below meth c H locs 0 0 (MQ below ((xQi D (fun (r : Int32) (_u : Unit) => r = nI 0) (fun (_u : Unit) => [])) A) args s 0 0 A) (F0 m 0 ls []) by rw [hlocs, hH] at hW; exact hW
  clear hH hlocs
  refine lv_iload_n hx hb dX12_nth_0 rfl (lv_at hl 1 rfl) ?_
  refine lv_istore_n (lv' := [(2, .int (nI 0)), (0, .int (nI 5)), (1, .int (nI 0))]) hx hb dX12_nth_1 rfl hl (by decide) rfl ?_
  clear hl
  try clear ls
  intro ls hl
  refine lv_iconst (v := nI 0) hx hb dX12_nth_2 (by decide) ?_
  refine lv_istore_n (lv' := [(3, .int (nI 0)), (2, .int (nI 0)), (0, .int (nI 5)), (1, .int (nI 0))]) hx hb dX12_nth_3 rfl hl (by decide) rfl ?_
  clear hl
  try clear ls
  intro ls hl
  refine lv_iload_n hx hb dX12_nth_4 rfl (lv_at hl 2 rfl) ?_
  refine lv_iload_n hx hb dX12_nth_5 rfl (lv_at hl 0 rfl) ?_
  refine xi (wr := []) (xS (As := [.int (nI 5), .int (nI 0)]) (rest := []) C (c_X12_has l D cs (nI 5) (nI 0)) kX12_100 hP hD [] rfl (by decide +kernel) ⟨Nat.le_of_ble_eq_true rfl, Nat.le_of_ble_eq_true rfl⟩ rfl hl.1 rfl (Nat.le_of_ble_eq_true rfl) dX12_nth_6 ⟨Nat.le_of_ble_eq_true rfl, Nat.le_of_ble_eq_true rfl⟩) hP hD hS hA [] [] rfl rfl (by decide +kernel) (by decide +kernel) ?_
  clear hP hD hS
  try clear locs
  try clear H
  intro r_1 u_2 H locs hw_r_1 hP hD hS
  have hw_r_1 : PQ (((nI 5) >>> ((nI 0) &&& 31)) &&& nI 1 = nI 1) r_1 (nI 1) (nI 0) := hw_r_1
  refine W.widen (k := 0) (n := 0) (Nat.le_of_ble_eq_true rfl) (Nat.le_of_ble_eq_true rfl) ?_
  replace hP : va_P D vwCl [] H := hP
  replace hD : va_D A [] := hD
  obtain rfl : r_1 = nI 1 := by rcases hw_r_1 with ⟨_, e⟩ | ⟨q, _⟩; exact e; exact absurd (by decide) q
  refine lv_if_ne (tgt := 15) hx hb dX12_nth_9 (by decide) (fun _ => ?_) (fun c => absurd c (by decide))
  refine lv_iload_n hx hb dX12_nth_15 rfl (lv_at hl 1 rfl) ?_
  refine lv_if_ne (tgt := 21) hx hb dX12_nth_16 (by decide) (fun c => absurd (by decide) c) (fun _ => ?_)
  refine lv_iload_n hx hb dX12_nth_19 rfl (lv_at hl 0 rfl) ?_
  exact xreti C () rfl hP hD hS (Nat.le_of_ble_eq_true rfl) (Nat.le_of_ble_eq_true rfl) rfl dX12_nth_20

set_option maxHeartbeats 4000000 in
set_option maxRecDepth 100000 in
theorem c_X12_nth_5_1 (l : Launch) (D : va_G) (cs : Nat → ClassId) (u9 : Nat) : xMet l D cs yX12_nth cX12_nth 4 (some .int) ({ frames := 1, cells := 0, slots := 0, locals := 21 } : Room) [.int (nI 5), .int (nI 1)] [] (xQi D (fun (r : Int32) (_u : Unit) => r = nI 2) (fun (_u : Unit) => [])) := by
  refine xMet.intro (by decide) (Nat.le_of_ble_eq_true rfl) ?_
  intro p e s m args below meth c A ls C hP hD hS hl
  have hx := C.1
  have hb := C.2.1
  have hz := C.2.2.2.2.1
  have hown := C.2.2.2.1
  have hA := C.2.2.2.2.2.2.2.2.2
  have hAO := C.2.2.2.2.2.2.2.2.1.2.2
  replace hl : lv_has ls 4 [(0, .int (nI 5)), (1, .int (nI 1))] := hl
  obtain ⟨H, hH⟩ : ∃ H, H = s.heap := ⟨_, rfl⟩
  replace hP : va_P D vwCl [] H := by rw [hH]; exact hP
  replace hS : va_S A s.heap H [] := by rw [hH]; exact hS
  obtain ⟨locs, hlocs⟩ : ∃ z : List Loc, z = [] := ⟨_, rfl⟩
  rw [← hlocs] at hS
  suffices hW : W p l e ({ frames := 1, cells := 0, slots := 0, locals := 21 } : Room) s m args below meth c H locs 0 0 (MQ below ((xQi D (fun (r : Int32) (_u : Unit) => r = nI 2) (fun (_u : Unit) => [])) A) args s 0 0 A) (F0 m 0 ls []) by rw [hlocs, hH] at hW; exact hW
  clear hH hlocs
  refine lv_iload_n hx hb dX12_nth_0 rfl (lv_at hl 1 rfl) ?_
  refine lv_istore_n (lv' := [(2, .int (nI 1)), (0, .int (nI 5)), (1, .int (nI 1))]) hx hb dX12_nth_1 rfl hl (by decide) rfl ?_
  clear hl
  try clear ls
  intro ls hl
  refine lv_iconst (v := nI 0) hx hb dX12_nth_2 (by decide) ?_
  refine lv_istore_n (lv' := [(3, .int (nI 0)), (2, .int (nI 1)), (0, .int (nI 5)), (1, .int (nI 1))]) hx hb dX12_nth_3 rfl hl (by decide) rfl ?_
  clear hl
  try clear ls
  intro ls hl
  refine lv_iload_n hx hb dX12_nth_4 rfl (lv_at hl 2 rfl) ?_
  refine lv_iload_n hx hb dX12_nth_5 rfl (lv_at hl 0 rfl) ?_
  refine xi (wr := []) (xS (As := [.int (nI 5), .int (nI 0)]) (rest := []) C (c_X12_has l D cs (nI 5) (nI 0)) kX12_100 hP hD [] rfl (by decide +kernel) ⟨Nat.le_of_ble_eq_true rfl, Nat.le_of_ble_eq_true rfl⟩ rfl hl.1 rfl (Nat.le_of_ble_eq_true rfl) dX12_nth_6 ⟨Nat.le_of_ble_eq_true rfl, Nat.le_of_ble_eq_true rfl⟩) hP hD hS hA [] [] rfl rfl (by decide +kernel) (by decide +kernel) ?_
  clear hP hD hS
  try clear locs
  try clear H
  intro r_1 u_2 H locs hw_r_1 hP hD hS
  have hw_r_1 : PQ (((nI 5) >>> ((nI 0) &&& 31)) &&& nI 1 = nI 1) r_1 (nI 1) (nI 0) := hw_r_1
  refine W.widen (k := 0) (n := 0) (Nat.le_of_ble_eq_true rfl) (Nat.le_of_ble_eq_true rfl) ?_
  replace hP : va_P D vwCl [] H := hP
  replace hD : va_D A [] := hD
  obtain rfl : r_1 = nI 1 := by rcases hw_r_1 with ⟨_, e⟩ | ⟨q, _⟩; exact e; exact absurd (by decide) q
  refine lv_if_ne (tgt := 15) hx hb dX12_nth_9 (by decide) (fun _ => ?_) (fun c => absurd c (by decide))
  refine lv_iload_n hx hb dX12_nth_15 rfl (lv_at hl 1 rfl) ?_
  refine lv_if_ne (tgt := 21) hx hb dX12_nth_16 (by decide) (fun _ => ?_) (fun c => absurd c (by decide))
  refine lv_iinc (v := nI 0) (lv' := [(2, .int (nI 0)), (3, .int (nI 0)), (0, .int (nI 5)), (1, .int (nI 1))]) hx hb dX12_nth_21 hl (k := 1) rfl (by decide) (by decide) rfl ?_
  clear hl
  try clear ls
  intro ls hl
  refine lv_iinc (v := nI 1) (lv' := [(3, .int (nI 1)), (2, .int (nI 0)), (0, .int (nI 5)), (1, .int (nI 1))]) hx hb dX12_nth_24 hl (k := 1) rfl (by decide) (by decide) rfl ?_
  clear hl
  try clear ls
  intro ls hl
  refine lv_goto (tgt := 4) hx hb dX12_nth_27 (by decide) ?_
  refine lv_iload_n hx hb dX12_nth_4 rfl (lv_at hl 2 rfl) ?_
  refine lv_iload_n hx hb dX12_nth_5 rfl (lv_at hl 0 rfl) ?_
  refine xi (wr := []) (xS (As := [.int (nI 5), .int (nI 1)]) (rest := []) C (c_X12_has l D cs (nI 5) (nI 1)) kX12_100 hP hD [] rfl (by decide +kernel) ⟨Nat.le_of_ble_eq_true rfl, Nat.le_of_ble_eq_true rfl⟩ rfl hl.1 rfl (Nat.le_of_ble_eq_true rfl) dX12_nth_6 ⟨Nat.le_of_ble_eq_true rfl, Nat.le_of_ble_eq_true rfl⟩) hP hD hS hA [] [] rfl rfl (by decide +kernel) (by decide +kernel) ?_
  clear hP hD hS
  try clear locs
  try clear H
  intro r_3 u_4 H locs hw_r_3 hP hD hS
  have hw_r_3 : PQ (((nI 5) >>> ((nI 1) &&& 31)) &&& nI 1 = nI 1) r_3 (nI 1) (nI 0) := hw_r_3
  refine W.widen (k := 0) (n := 0) (Nat.le_of_ble_eq_true rfl) (Nat.le_of_ble_eq_true rfl) ?_
  replace hP : va_P D vwCl [] H := hP
  replace hD : va_D A [] := hD
  obtain rfl : r_3 = nI 0 := by rcases hw_r_3 with ⟨q, _⟩ | ⟨_, e⟩; exact absurd q (by decide); exact e
  refine lv_if_ne (tgt := 15) hx hb dX12_nth_9 (by decide) (fun c => absurd (by decide) c) (fun _ => ?_)
  refine lv_goto (tgt := 24) hx hb dX12_nth_12 (by decide) ?_
  refine lv_iinc (v := nI 2) (lv' := [(3, .int (nI 2)), (2, .int (nI 0)), (0, .int (nI 5)), (1, .int (nI 1))]) hx hb dX12_nth_24 hl (k := 0) rfl (by decide) (by decide) rfl ?_
  clear hl
  try clear ls
  intro ls hl
  refine lv_goto (tgt := 4) hx hb dX12_nth_27 (by decide) ?_
  refine lv_iload_n hx hb dX12_nth_4 rfl (lv_at hl 2 rfl) ?_
  refine lv_iload_n hx hb dX12_nth_5 rfl (lv_at hl 0 rfl) ?_
  refine xi (wr := []) (xS (As := [.int (nI 5), .int (nI 2)]) (rest := []) C (c_X12_has l D cs (nI 5) (nI 2)) kX12_100 hP hD [] rfl (by decide +kernel) ⟨Nat.le_of_ble_eq_true rfl, Nat.le_of_ble_eq_true rfl⟩ rfl hl.1 rfl (Nat.le_of_ble_eq_true rfl) dX12_nth_6 ⟨Nat.le_of_ble_eq_true rfl, Nat.le_of_ble_eq_true rfl⟩) hP hD hS hA [] [] rfl rfl (by decide +kernel) (by decide +kernel) ?_
  clear hP hD hS
  try clear locs
  try clear H
  intro r_5 u_6 H locs hw_r_5 hP hD hS
  have hw_r_5 : PQ (((nI 5) >>> ((nI 2) &&& 31)) &&& nI 1 = nI 1) r_5 (nI 1) (nI 0) := hw_r_5
  refine W.widen (k := 0) (n := 0) (Nat.le_of_ble_eq_true rfl) (Nat.le_of_ble_eq_true rfl) ?_
  replace hP : va_P D vwCl [] H := hP
  replace hD : va_D A [] := hD
  obtain rfl : r_5 = nI 1 := by rcases hw_r_5 with ⟨_, e⟩ | ⟨q, _⟩; exact e; exact absurd (by decide) q
  refine lv_if_ne (tgt := 15) hx hb dX12_nth_9 (by decide) (fun _ => ?_) (fun c => absurd c (by decide))
  refine lv_iload_n hx hb dX12_nth_15 rfl (lv_at hl 1 rfl) ?_
  refine lv_if_ne (tgt := 21) hx hb dX12_nth_16 (by decide) (fun c => absurd (by decide) c) (fun _ => ?_)
  refine lv_iload_n hx hb dX12_nth_19 rfl (lv_at hl 0 rfl) ?_
  exact xreti C () rfl hP hD hS (Nat.le_of_ble_eq_true rfl) (Nat.le_of_ble_eq_true rfl) rfl dX12_nth_20

set_option maxHeartbeats 4000000 in
set_option maxRecDepth 100000 in
theorem c_X12_nth_6_0 (l : Launch) (D : va_G) (cs : Nat → ClassId) (u9 : Nat) : xMet l D cs yX12_nth cX12_nth 4 (some .int) ({ frames := 1, cells := 0, slots := 0, locals := 21 } : Room) [.int (nI 6), .int (nI 0)] [] (xQi D (fun (r : Int32) (_u : Unit) => r = nI 1) (fun (_u : Unit) => [])) := by
  refine xMet.intro (by decide) (Nat.le_of_ble_eq_true rfl) ?_
  intro p e s m args below meth c A ls C hP hD hS hl
  have hx := C.1
  have hb := C.2.1
  have hz := C.2.2.2.2.1
  have hown := C.2.2.2.1
  have hA := C.2.2.2.2.2.2.2.2.2
  have hAO := C.2.2.2.2.2.2.2.2.1.2.2
  replace hl : lv_has ls 4 [(0, .int (nI 6)), (1, .int (nI 0))] := hl
  obtain ⟨H, hH⟩ : ∃ H, H = s.heap := ⟨_, rfl⟩
  replace hP : va_P D vwCl [] H := by rw [hH]; exact hP
  replace hS : va_S A s.heap H [] := by rw [hH]; exact hS
  obtain ⟨locs, hlocs⟩ : ∃ z : List Loc, z = [] := ⟨_, rfl⟩
  rw [← hlocs] at hS
  suffices hW : W p l e ({ frames := 1, cells := 0, slots := 0, locals := 21 } : Room) s m args below meth c H locs 0 0 (MQ below ((xQi D (fun (r : Int32) (_u : Unit) => r = nI 1) (fun (_u : Unit) => [])) A) args s 0 0 A) (F0 m 0 ls []) by rw [hlocs, hH] at hW; exact hW
  clear hH hlocs
  refine lv_iload_n hx hb dX12_nth_0 rfl (lv_at hl 1 rfl) ?_
  refine lv_istore_n (lv' := [(2, .int (nI 0)), (0, .int (nI 6)), (1, .int (nI 0))]) hx hb dX12_nth_1 rfl hl (by decide) rfl ?_
  clear hl
  try clear ls
  intro ls hl
  refine lv_iconst (v := nI 0) hx hb dX12_nth_2 (by decide) ?_
  refine lv_istore_n (lv' := [(3, .int (nI 0)), (2, .int (nI 0)), (0, .int (nI 6)), (1, .int (nI 0))]) hx hb dX12_nth_3 rfl hl (by decide) rfl ?_
  clear hl
  try clear ls
  intro ls hl
  refine lv_iload_n hx hb dX12_nth_4 rfl (lv_at hl 2 rfl) ?_
  refine lv_iload_n hx hb dX12_nth_5 rfl (lv_at hl 0 rfl) ?_
  refine xi (wr := []) (xS (As := [.int (nI 6), .int (nI 0)]) (rest := []) C (c_X12_has l D cs (nI 6) (nI 0)) kX12_100 hP hD [] rfl (by decide +kernel) ⟨Nat.le_of_ble_eq_true rfl, Nat.le_of_ble_eq_true rfl⟩ rfl hl.1 rfl (Nat.le_of_ble_eq_true rfl) dX12_nth_6 ⟨Nat.le_of_ble_eq_true rfl, Nat.le_of_ble_eq_true rfl⟩) hP hD hS hA [] [] rfl rfl (by decide +kernel) (by decide +kernel) ?_
  clear hP hD hS
  try clear locs
  try clear H
  intro r_1 u_2 H locs hw_r_1 hP hD hS
  have hw_r_1 : PQ (((nI 6) >>> ((nI 0) &&& 31)) &&& nI 1 = nI 1) r_1 (nI 1) (nI 0) := hw_r_1
  refine W.widen (k := 0) (n := 0) (Nat.le_of_ble_eq_true rfl) (Nat.le_of_ble_eq_true rfl) ?_
  replace hP : va_P D vwCl [] H := hP
  replace hD : va_D A [] := hD
  obtain rfl : r_1 = nI 0 := by rcases hw_r_1 with ⟨q, _⟩ | ⟨_, e⟩; exact absurd q (by decide); exact e
  refine lv_if_ne (tgt := 15) hx hb dX12_nth_9 (by decide) (fun c => absurd (by decide) c) (fun _ => ?_)
  refine lv_goto (tgt := 24) hx hb dX12_nth_12 (by decide) ?_
  refine lv_iinc (v := nI 1) (lv' := [(3, .int (nI 1)), (2, .int (nI 0)), (0, .int (nI 6)), (1, .int (nI 0))]) hx hb dX12_nth_24 hl (k := 0) rfl (by decide) (by decide) rfl ?_
  clear hl
  try clear ls
  intro ls hl
  refine lv_goto (tgt := 4) hx hb dX12_nth_27 (by decide) ?_
  refine lv_iload_n hx hb dX12_nth_4 rfl (lv_at hl 2 rfl) ?_
  refine lv_iload_n hx hb dX12_nth_5 rfl (lv_at hl 0 rfl) ?_
  refine xi (wr := []) (xS (As := [.int (nI 6), .int (nI 1)]) (rest := []) C (c_X12_has l D cs (nI 6) (nI 1)) kX12_100 hP hD [] rfl (by decide +kernel) ⟨Nat.le_of_ble_eq_true rfl, Nat.le_of_ble_eq_true rfl⟩ rfl hl.1 rfl (Nat.le_of_ble_eq_true rfl) dX12_nth_6 ⟨Nat.le_of_ble_eq_true rfl, Nat.le_of_ble_eq_true rfl⟩) hP hD hS hA [] [] rfl rfl (by decide +kernel) (by decide +kernel) ?_
  clear hP hD hS
  try clear locs
  try clear H
  intro r_3 u_4 H locs hw_r_3 hP hD hS
  have hw_r_3 : PQ (((nI 6) >>> ((nI 1) &&& 31)) &&& nI 1 = nI 1) r_3 (nI 1) (nI 0) := hw_r_3
  refine W.widen (k := 0) (n := 0) (Nat.le_of_ble_eq_true rfl) (Nat.le_of_ble_eq_true rfl) ?_
  replace hP : va_P D vwCl [] H := hP
  replace hD : va_D A [] := hD
  obtain rfl : r_3 = nI 1 := by rcases hw_r_3 with ⟨_, e⟩ | ⟨q, _⟩; exact e; exact absurd (by decide) q
  refine lv_if_ne (tgt := 15) hx hb dX12_nth_9 (by decide) (fun _ => ?_) (fun c => absurd c (by decide))
  refine lv_iload_n hx hb dX12_nth_15 rfl (lv_at hl 1 rfl) ?_
  refine lv_if_ne (tgt := 21) hx hb dX12_nth_16 (by decide) (fun c => absurd (by decide) c) (fun _ => ?_)
  refine lv_iload_n hx hb dX12_nth_19 rfl (lv_at hl 0 rfl) ?_
  exact xreti C () rfl hP hD hS (Nat.le_of_ble_eq_true rfl) (Nat.le_of_ble_eq_true rfl) rfl dX12_nth_20

set_option maxHeartbeats 4000000 in
set_option maxRecDepth 100000 in
theorem c_X12_nth_6_1 (l : Launch) (D : va_G) (cs : Nat → ClassId) (u9 : Nat) : xMet l D cs yX12_nth cX12_nth 4 (some .int) ({ frames := 1, cells := 0, slots := 0, locals := 21 } : Room) [.int (nI 6), .int (nI 1)] [] (xQi D (fun (r : Int32) (_u : Unit) => r = nI 2) (fun (_u : Unit) => [])) := by
  refine xMet.intro (by decide) (Nat.le_of_ble_eq_true rfl) ?_
  intro p e s m args below meth c A ls C hP hD hS hl
  have hx := C.1
  have hb := C.2.1
  have hz := C.2.2.2.2.1
  have hown := C.2.2.2.1
  have hA := C.2.2.2.2.2.2.2.2.2
  have hAO := C.2.2.2.2.2.2.2.2.1.2.2
  replace hl : lv_has ls 4 [(0, .int (nI 6)), (1, .int (nI 1))] := hl
  obtain ⟨H, hH⟩ : ∃ H, H = s.heap := ⟨_, rfl⟩
  replace hP : va_P D vwCl [] H := by rw [hH]; exact hP
  replace hS : va_S A s.heap H [] := by rw [hH]; exact hS
  obtain ⟨locs, hlocs⟩ : ∃ z : List Loc, z = [] := ⟨_, rfl⟩
  rw [← hlocs] at hS
  suffices hW : W p l e ({ frames := 1, cells := 0, slots := 0, locals := 21 } : Room) s m args below meth c H locs 0 0 (MQ below ((xQi D (fun (r : Int32) (_u : Unit) => r = nI 2) (fun (_u : Unit) => [])) A) args s 0 0 A) (F0 m 0 ls []) by rw [hlocs, hH] at hW; exact hW
  clear hH hlocs
  refine lv_iload_n hx hb dX12_nth_0 rfl (lv_at hl 1 rfl) ?_
  refine lv_istore_n (lv' := [(2, .int (nI 1)), (0, .int (nI 6)), (1, .int (nI 1))]) hx hb dX12_nth_1 rfl hl (by decide) rfl ?_
  clear hl
  try clear ls
  intro ls hl
  refine lv_iconst (v := nI 0) hx hb dX12_nth_2 (by decide) ?_
  refine lv_istore_n (lv' := [(3, .int (nI 0)), (2, .int (nI 1)), (0, .int (nI 6)), (1, .int (nI 1))]) hx hb dX12_nth_3 rfl hl (by decide) rfl ?_
  clear hl
  try clear ls
  intro ls hl
  refine lv_iload_n hx hb dX12_nth_4 rfl (lv_at hl 2 rfl) ?_
  refine lv_iload_n hx hb dX12_nth_5 rfl (lv_at hl 0 rfl) ?_
  refine xi (wr := []) (xS (As := [.int (nI 6), .int (nI 0)]) (rest := []) C (c_X12_has l D cs (nI 6) (nI 0)) kX12_100 hP hD [] rfl (by decide +kernel) ⟨Nat.le_of_ble_eq_true rfl, Nat.le_of_ble_eq_true rfl⟩ rfl hl.1 rfl (Nat.le_of_ble_eq_true rfl) dX12_nth_6 ⟨Nat.le_of_ble_eq_true rfl, Nat.le_of_ble_eq_true rfl⟩) hP hD hS hA [] [] rfl rfl (by decide +kernel) (by decide +kernel) ?_
  clear hP hD hS
  try clear locs
  try clear H
  intro r_1 u_2 H locs hw_r_1 hP hD hS
  have hw_r_1 : PQ (((nI 6) >>> ((nI 0) &&& 31)) &&& nI 1 = nI 1) r_1 (nI 1) (nI 0) := hw_r_1
  refine W.widen (k := 0) (n := 0) (Nat.le_of_ble_eq_true rfl) (Nat.le_of_ble_eq_true rfl) ?_
  replace hP : va_P D vwCl [] H := hP
  replace hD : va_D A [] := hD
  obtain rfl : r_1 = nI 0 := by rcases hw_r_1 with ⟨q, _⟩ | ⟨_, e⟩; exact absurd q (by decide); exact e
  refine lv_if_ne (tgt := 15) hx hb dX12_nth_9 (by decide) (fun c => absurd (by decide) c) (fun _ => ?_)
  refine lv_goto (tgt := 24) hx hb dX12_nth_12 (by decide) ?_
  refine lv_iinc (v := nI 1) (lv' := [(3, .int (nI 1)), (2, .int (nI 1)), (0, .int (nI 6)), (1, .int (nI 1))]) hx hb dX12_nth_24 hl (k := 0) rfl (by decide) (by decide) rfl ?_
  clear hl
  try clear ls
  intro ls hl
  refine lv_goto (tgt := 4) hx hb dX12_nth_27 (by decide) ?_
  refine lv_iload_n hx hb dX12_nth_4 rfl (lv_at hl 2 rfl) ?_
  refine lv_iload_n hx hb dX12_nth_5 rfl (lv_at hl 0 rfl) ?_
  refine xi (wr := []) (xS (As := [.int (nI 6), .int (nI 1)]) (rest := []) C (c_X12_has l D cs (nI 6) (nI 1)) kX12_100 hP hD [] rfl (by decide +kernel) ⟨Nat.le_of_ble_eq_true rfl, Nat.le_of_ble_eq_true rfl⟩ rfl hl.1 rfl (Nat.le_of_ble_eq_true rfl) dX12_nth_6 ⟨Nat.le_of_ble_eq_true rfl, Nat.le_of_ble_eq_true rfl⟩) hP hD hS hA [] [] rfl rfl (by decide +kernel) (by decide +kernel) ?_
  clear hP hD hS
  try clear locs
  try clear H
  intro r_3 u_4 H locs hw_r_3 hP hD hS
  have hw_r_3 : PQ (((nI 6) >>> ((nI 1) &&& 31)) &&& nI 1 = nI 1) r_3 (nI 1) (nI 0) := hw_r_3
  refine W.widen (k := 0) (n := 0) (Nat.le_of_ble_eq_true rfl) (Nat.le_of_ble_eq_true rfl) ?_
  replace hP : va_P D vwCl [] H := hP
  replace hD : va_D A [] := hD
  obtain rfl : r_3 = nI 1 := by rcases hw_r_3 with ⟨_, e⟩ | ⟨q, _⟩; exact e; exact absurd (by decide) q
  refine lv_if_ne (tgt := 15) hx hb dX12_nth_9 (by decide) (fun _ => ?_) (fun c => absurd c (by decide))
  refine lv_iload_n hx hb dX12_nth_15 rfl (lv_at hl 1 rfl) ?_
  refine lv_if_ne (tgt := 21) hx hb dX12_nth_16 (by decide) (fun _ => ?_) (fun c => absurd c (by decide))
  refine lv_iinc (v := nI 0) (lv' := [(2, .int (nI 0)), (3, .int (nI 1)), (0, .int (nI 6)), (1, .int (nI 1))]) hx hb dX12_nth_21 hl (k := 1) rfl (by decide) (by decide) rfl ?_
  clear hl
  try clear ls
  intro ls hl
  refine lv_iinc (v := nI 2) (lv' := [(3, .int (nI 2)), (2, .int (nI 0)), (0, .int (nI 6)), (1, .int (nI 1))]) hx hb dX12_nth_24 hl (k := 1) rfl (by decide) (by decide) rfl ?_
  clear hl
  try clear ls
  intro ls hl
  refine lv_goto (tgt := 4) hx hb dX12_nth_27 (by decide) ?_
  refine lv_iload_n hx hb dX12_nth_4 rfl (lv_at hl 2 rfl) ?_
  refine lv_iload_n hx hb dX12_nth_5 rfl (lv_at hl 0 rfl) ?_
  refine xi (wr := []) (xS (As := [.int (nI 6), .int (nI 2)]) (rest := []) C (c_X12_has l D cs (nI 6) (nI 2)) kX12_100 hP hD [] rfl (by decide +kernel) ⟨Nat.le_of_ble_eq_true rfl, Nat.le_of_ble_eq_true rfl⟩ rfl hl.1 rfl (Nat.le_of_ble_eq_true rfl) dX12_nth_6 ⟨Nat.le_of_ble_eq_true rfl, Nat.le_of_ble_eq_true rfl⟩) hP hD hS hA [] [] rfl rfl (by decide +kernel) (by decide +kernel) ?_
  clear hP hD hS
  try clear locs
  try clear H
  intro r_5 u_6 H locs hw_r_5 hP hD hS
  have hw_r_5 : PQ (((nI 6) >>> ((nI 2) &&& 31)) &&& nI 1 = nI 1) r_5 (nI 1) (nI 0) := hw_r_5
  refine W.widen (k := 0) (n := 0) (Nat.le_of_ble_eq_true rfl) (Nat.le_of_ble_eq_true rfl) ?_
  replace hP : va_P D vwCl [] H := hP
  replace hD : va_D A [] := hD
  obtain rfl : r_5 = nI 1 := by rcases hw_r_5 with ⟨_, e⟩ | ⟨q, _⟩; exact e; exact absurd (by decide) q
  refine lv_if_ne (tgt := 15) hx hb dX12_nth_9 (by decide) (fun _ => ?_) (fun c => absurd c (by decide))
  refine lv_iload_n hx hb dX12_nth_15 rfl (lv_at hl 1 rfl) ?_
  refine lv_if_ne (tgt := 21) hx hb dX12_nth_16 (by decide) (fun c => absurd (by decide) c) (fun _ => ?_)
  refine lv_iload_n hx hb dX12_nth_19 rfl (lv_at hl 0 rfl) ?_
  exact xreti C () rfl hP hD hS (Nat.le_of_ble_eq_true rfl) (Nat.le_of_ble_eq_true rfl) rfl dX12_nth_20

set_option maxHeartbeats 4000000 in
set_option maxRecDepth 100000 in
theorem c_X12_nth_7_0 (l : Launch) (D : va_G) (cs : Nat → ClassId) (u9 : Nat) : xMet l D cs yX12_nth cX12_nth 4 (some .int) ({ frames := 1, cells := 0, slots := 0, locals := 21 } : Room) [.int (nI 7), .int (nI 0)] [] (xQi D (fun (r : Int32) (_u : Unit) => r = nI 0) (fun (_u : Unit) => [])) := by
  refine xMet.intro (by decide) (Nat.le_of_ble_eq_true rfl) ?_
  intro p e s m args below meth c A ls C hP hD hS hl
  have hx := C.1
  have hb := C.2.1
  have hz := C.2.2.2.2.1
  have hown := C.2.2.2.1
  have hA := C.2.2.2.2.2.2.2.2.2
  have hAO := C.2.2.2.2.2.2.2.2.1.2.2
  replace hl : lv_has ls 4 [(0, .int (nI 7)), (1, .int (nI 0))] := hl
  obtain ⟨H, hH⟩ : ∃ H, H = s.heap := ⟨_, rfl⟩
  replace hP : va_P D vwCl [] H := by rw [hH]; exact hP
  replace hS : va_S A s.heap H [] := by rw [hH]; exact hS
  obtain ⟨locs, hlocs⟩ : ∃ z : List Loc, z = [] := ⟨_, rfl⟩
  rw [← hlocs] at hS
  suffices hW : W p l e ({ frames := 1, cells := 0, slots := 0, locals := 21 } : Room) s m args below meth c H locs 0 0 (MQ below ((xQi D (fun (r : Int32) (_u : Unit) => r = nI 0) (fun (_u : Unit) => [])) A) args s 0 0 A) (F0 m 0 ls []) by rw [hlocs, hH] at hW; exact hW
  clear hH hlocs
  refine lv_iload_n hx hb dX12_nth_0 rfl (lv_at hl 1 rfl) ?_
  refine lv_istore_n (lv' := [(2, .int (nI 0)), (0, .int (nI 7)), (1, .int (nI 0))]) hx hb dX12_nth_1 rfl hl (by decide) rfl ?_
  clear hl
  try clear ls
  intro ls hl
  refine lv_iconst (v := nI 0) hx hb dX12_nth_2 (by decide) ?_
  refine lv_istore_n (lv' := [(3, .int (nI 0)), (2, .int (nI 0)), (0, .int (nI 7)), (1, .int (nI 0))]) hx hb dX12_nth_3 rfl hl (by decide) rfl ?_
  clear hl
  try clear ls
  intro ls hl
  refine lv_iload_n hx hb dX12_nth_4 rfl (lv_at hl 2 rfl) ?_
  refine lv_iload_n hx hb dX12_nth_5 rfl (lv_at hl 0 rfl) ?_
  refine xi (wr := []) (xS (As := [.int (nI 7), .int (nI 0)]) (rest := []) C (c_X12_has l D cs (nI 7) (nI 0)) kX12_100 hP hD [] rfl (by decide +kernel) ⟨Nat.le_of_ble_eq_true rfl, Nat.le_of_ble_eq_true rfl⟩ rfl hl.1 rfl (Nat.le_of_ble_eq_true rfl) dX12_nth_6 ⟨Nat.le_of_ble_eq_true rfl, Nat.le_of_ble_eq_true rfl⟩) hP hD hS hA [] [] rfl rfl (by decide +kernel) (by decide +kernel) ?_
  clear hP hD hS
  try clear locs
  try clear H
  intro r_1 u_2 H locs hw_r_1 hP hD hS
  have hw_r_1 : PQ (((nI 7) >>> ((nI 0) &&& 31)) &&& nI 1 = nI 1) r_1 (nI 1) (nI 0) := hw_r_1
  refine W.widen (k := 0) (n := 0) (Nat.le_of_ble_eq_true rfl) (Nat.le_of_ble_eq_true rfl) ?_
  replace hP : va_P D vwCl [] H := hP
  replace hD : va_D A [] := hD
  obtain rfl : r_1 = nI 1 := by rcases hw_r_1 with ⟨_, e⟩ | ⟨q, _⟩; exact e; exact absurd (by decide) q
  refine lv_if_ne (tgt := 15) hx hb dX12_nth_9 (by decide) (fun _ => ?_) (fun c => absurd c (by decide))
  refine lv_iload_n hx hb dX12_nth_15 rfl (lv_at hl 1 rfl) ?_
  refine lv_if_ne (tgt := 21) hx hb dX12_nth_16 (by decide) (fun c => absurd (by decide) c) (fun _ => ?_)
  refine lv_iload_n hx hb dX12_nth_19 rfl (lv_at hl 0 rfl) ?_
  exact xreti C () rfl hP hD hS (Nat.le_of_ble_eq_true rfl) (Nat.le_of_ble_eq_true rfl) rfl dX12_nth_20

set_option maxHeartbeats 4000000 in
set_option maxRecDepth 100000 in
theorem c_X12_nth_7_1 (l : Launch) (D : va_G) (cs : Nat → ClassId) (u9 : Nat) : xMet l D cs yX12_nth cX12_nth 4 (some .int) ({ frames := 1, cells := 0, slots := 0, locals := 21 } : Room) [.int (nI 7), .int (nI 1)] [] (xQi D (fun (r : Int32) (_u : Unit) => r = nI 1) (fun (_u : Unit) => [])) := by
  refine xMet.intro (by decide) (Nat.le_of_ble_eq_true rfl) ?_
  intro p e s m args below meth c A ls C hP hD hS hl
  have hx := C.1
  have hb := C.2.1
  have hz := C.2.2.2.2.1
  have hown := C.2.2.2.1
  have hA := C.2.2.2.2.2.2.2.2.2
  have hAO := C.2.2.2.2.2.2.2.2.1.2.2
  replace hl : lv_has ls 4 [(0, .int (nI 7)), (1, .int (nI 1))] := hl
  obtain ⟨H, hH⟩ : ∃ H, H = s.heap := ⟨_, rfl⟩
  replace hP : va_P D vwCl [] H := by rw [hH]; exact hP
  replace hS : va_S A s.heap H [] := by rw [hH]; exact hS
  obtain ⟨locs, hlocs⟩ : ∃ z : List Loc, z = [] := ⟨_, rfl⟩
  rw [← hlocs] at hS
  suffices hW : W p l e ({ frames := 1, cells := 0, slots := 0, locals := 21 } : Room) s m args below meth c H locs 0 0 (MQ below ((xQi D (fun (r : Int32) (_u : Unit) => r = nI 1) (fun (_u : Unit) => [])) A) args s 0 0 A) (F0 m 0 ls []) by rw [hlocs, hH] at hW; exact hW
  clear hH hlocs
  refine lv_iload_n hx hb dX12_nth_0 rfl (lv_at hl 1 rfl) ?_
  refine lv_istore_n (lv' := [(2, .int (nI 1)), (0, .int (nI 7)), (1, .int (nI 1))]) hx hb dX12_nth_1 rfl hl (by decide) rfl ?_
  clear hl
  try clear ls
  intro ls hl
  refine lv_iconst (v := nI 0) hx hb dX12_nth_2 (by decide) ?_
  refine lv_istore_n (lv' := [(3, .int (nI 0)), (2, .int (nI 1)), (0, .int (nI 7)), (1, .int (nI 1))]) hx hb dX12_nth_3 rfl hl (by decide) rfl ?_
  clear hl
  try clear ls
  intro ls hl
  refine lv_iload_n hx hb dX12_nth_4 rfl (lv_at hl 2 rfl) ?_
  refine lv_iload_n hx hb dX12_nth_5 rfl (lv_at hl 0 rfl) ?_
  refine xi (wr := []) (xS (As := [.int (nI 7), .int (nI 0)]) (rest := []) C (c_X12_has l D cs (nI 7) (nI 0)) kX12_100 hP hD [] rfl (by decide +kernel) ⟨Nat.le_of_ble_eq_true rfl, Nat.le_of_ble_eq_true rfl⟩ rfl hl.1 rfl (Nat.le_of_ble_eq_true rfl) dX12_nth_6 ⟨Nat.le_of_ble_eq_true rfl, Nat.le_of_ble_eq_true rfl⟩) hP hD hS hA [] [] rfl rfl (by decide +kernel) (by decide +kernel) ?_
  clear hP hD hS
  try clear locs
  try clear H
  intro r_1 u_2 H locs hw_r_1 hP hD hS
  have hw_r_1 : PQ (((nI 7) >>> ((nI 0) &&& 31)) &&& nI 1 = nI 1) r_1 (nI 1) (nI 0) := hw_r_1
  refine W.widen (k := 0) (n := 0) (Nat.le_of_ble_eq_true rfl) (Nat.le_of_ble_eq_true rfl) ?_
  replace hP : va_P D vwCl [] H := hP
  replace hD : va_D A [] := hD
  obtain rfl : r_1 = nI 1 := by rcases hw_r_1 with ⟨_, e⟩ | ⟨q, _⟩; exact e; exact absurd (by decide) q
  refine lv_if_ne (tgt := 15) hx hb dX12_nth_9 (by decide) (fun _ => ?_) (fun c => absurd c (by decide))
  refine lv_iload_n hx hb dX12_nth_15 rfl (lv_at hl 1 rfl) ?_
  refine lv_if_ne (tgt := 21) hx hb dX12_nth_16 (by decide) (fun _ => ?_) (fun c => absurd c (by decide))
  refine lv_iinc (v := nI 0) (lv' := [(2, .int (nI 0)), (3, .int (nI 0)), (0, .int (nI 7)), (1, .int (nI 1))]) hx hb dX12_nth_21 hl (k := 1) rfl (by decide) (by decide) rfl ?_
  clear hl
  try clear ls
  intro ls hl
  refine lv_iinc (v := nI 1) (lv' := [(3, .int (nI 1)), (2, .int (nI 0)), (0, .int (nI 7)), (1, .int (nI 1))]) hx hb dX12_nth_24 hl (k := 1) rfl (by decide) (by decide) rfl ?_
  clear hl
  try clear ls
  intro ls hl
  refine lv_goto (tgt := 4) hx hb dX12_nth_27 (by decide) ?_
  refine lv_iload_n hx hb dX12_nth_4 rfl (lv_at hl 2 rfl) ?_
  refine lv_iload_n hx hb dX12_nth_5 rfl (lv_at hl 0 rfl) ?_
  refine xi (wr := []) (xS (As := [.int (nI 7), .int (nI 1)]) (rest := []) C (c_X12_has l D cs (nI 7) (nI 1)) kX12_100 hP hD [] rfl (by decide +kernel) ⟨Nat.le_of_ble_eq_true rfl, Nat.le_of_ble_eq_true rfl⟩ rfl hl.1 rfl (Nat.le_of_ble_eq_true rfl) dX12_nth_6 ⟨Nat.le_of_ble_eq_true rfl, Nat.le_of_ble_eq_true rfl⟩) hP hD hS hA [] [] rfl rfl (by decide +kernel) (by decide +kernel) ?_
  clear hP hD hS
  try clear locs
  try clear H
  intro r_3 u_4 H locs hw_r_3 hP hD hS
  have hw_r_3 : PQ (((nI 7) >>> ((nI 1) &&& 31)) &&& nI 1 = nI 1) r_3 (nI 1) (nI 0) := hw_r_3
  refine W.widen (k := 0) (n := 0) (Nat.le_of_ble_eq_true rfl) (Nat.le_of_ble_eq_true rfl) ?_
  replace hP : va_P D vwCl [] H := hP
  replace hD : va_D A [] := hD
  obtain rfl : r_3 = nI 1 := by rcases hw_r_3 with ⟨_, e⟩ | ⟨q, _⟩; exact e; exact absurd (by decide) q
  refine lv_if_ne (tgt := 15) hx hb dX12_nth_9 (by decide) (fun _ => ?_) (fun c => absurd c (by decide))
  refine lv_iload_n hx hb dX12_nth_15 rfl (lv_at hl 1 rfl) ?_
  refine lv_if_ne (tgt := 21) hx hb dX12_nth_16 (by decide) (fun c => absurd (by decide) c) (fun _ => ?_)
  refine lv_iload_n hx hb dX12_nth_19 rfl (lv_at hl 0 rfl) ?_
  exact xreti C () rfl hP hD hS (Nat.le_of_ble_eq_true rfl) (Nat.le_of_ble_eq_true rfl) rfl dX12_nth_20

set_option maxHeartbeats 4000000 in
set_option maxRecDepth 100000 in
theorem c_X12_nth_7_2 (l : Launch) (D : va_G) (cs : Nat → ClassId) (u9 : Nat) : xMet l D cs yX12_nth cX12_nth 4 (some .int) ({ frames := 1, cells := 0, slots := 0, locals := 21 } : Room) [.int (nI 7), .int (nI 2)] [] (xQi D (fun (r : Int32) (_u : Unit) => r = nI 2) (fun (_u : Unit) => [])) := by
  refine xMet.intro (by decide) (Nat.le_of_ble_eq_true rfl) ?_
  intro p e s m args below meth c A ls C hP hD hS hl
  have hx := C.1
  have hb := C.2.1
  have hz := C.2.2.2.2.1
  have hown := C.2.2.2.1
  have hA := C.2.2.2.2.2.2.2.2.2
  have hAO := C.2.2.2.2.2.2.2.2.1.2.2
  replace hl : lv_has ls 4 [(0, .int (nI 7)), (1, .int (nI 2))] := hl
  obtain ⟨H, hH⟩ : ∃ H, H = s.heap := ⟨_, rfl⟩
  replace hP : va_P D vwCl [] H := by rw [hH]; exact hP
  replace hS : va_S A s.heap H [] := by rw [hH]; exact hS
  obtain ⟨locs, hlocs⟩ : ∃ z : List Loc, z = [] := ⟨_, rfl⟩
  rw [← hlocs] at hS
  suffices hW : W p l e ({ frames := 1, cells := 0, slots := 0, locals := 21 } : Room) s m args below meth c H locs 0 0 (MQ below ((xQi D (fun (r : Int32) (_u : Unit) => r = nI 2) (fun (_u : Unit) => [])) A) args s 0 0 A) (F0 m 0 ls []) by rw [hlocs, hH] at hW; exact hW
  clear hH hlocs
  refine lv_iload_n hx hb dX12_nth_0 rfl (lv_at hl 1 rfl) ?_
  refine lv_istore_n (lv' := [(2, .int (nI 2)), (0, .int (nI 7)), (1, .int (nI 2))]) hx hb dX12_nth_1 rfl hl (by decide) rfl ?_
  clear hl
  try clear ls
  intro ls hl
  refine lv_iconst (v := nI 0) hx hb dX12_nth_2 (by decide) ?_
  refine lv_istore_n (lv' := [(3, .int (nI 0)), (2, .int (nI 2)), (0, .int (nI 7)), (1, .int (nI 2))]) hx hb dX12_nth_3 rfl hl (by decide) rfl ?_
  clear hl
  try clear ls
  intro ls hl
  refine lv_iload_n hx hb dX12_nth_4 rfl (lv_at hl 2 rfl) ?_
  refine lv_iload_n hx hb dX12_nth_5 rfl (lv_at hl 0 rfl) ?_
  refine xi (wr := []) (xS (As := [.int (nI 7), .int (nI 0)]) (rest := []) C (c_X12_has l D cs (nI 7) (nI 0)) kX12_100 hP hD [] rfl (by decide +kernel) ⟨Nat.le_of_ble_eq_true rfl, Nat.le_of_ble_eq_true rfl⟩ rfl hl.1 rfl (Nat.le_of_ble_eq_true rfl) dX12_nth_6 ⟨Nat.le_of_ble_eq_true rfl, Nat.le_of_ble_eq_true rfl⟩) hP hD hS hA [] [] rfl rfl (by decide +kernel) (by decide +kernel) ?_
  clear hP hD hS
  try clear locs
  try clear H
  intro r_1 u_2 H locs hw_r_1 hP hD hS
  have hw_r_1 : PQ (((nI 7) >>> ((nI 0) &&& 31)) &&& nI 1 = nI 1) r_1 (nI 1) (nI 0) := hw_r_1
  refine W.widen (k := 0) (n := 0) (Nat.le_of_ble_eq_true rfl) (Nat.le_of_ble_eq_true rfl) ?_
  replace hP : va_P D vwCl [] H := hP
  replace hD : va_D A [] := hD
  obtain rfl : r_1 = nI 1 := by rcases hw_r_1 with ⟨_, e⟩ | ⟨q, _⟩; exact e; exact absurd (by decide) q
  refine lv_if_ne (tgt := 15) hx hb dX12_nth_9 (by decide) (fun _ => ?_) (fun c => absurd c (by decide))
  refine lv_iload_n hx hb dX12_nth_15 rfl (lv_at hl 1 rfl) ?_
  refine lv_if_ne (tgt := 21) hx hb dX12_nth_16 (by decide) (fun _ => ?_) (fun c => absurd c (by decide))
  refine lv_iinc (v := nI 1) (lv' := [(2, .int (nI 1)), (3, .int (nI 0)), (0, .int (nI 7)), (1, .int (nI 2))]) hx hb dX12_nth_21 hl (k := 1) rfl (by decide) (by decide) rfl ?_
  clear hl
  try clear ls
  intro ls hl
  refine lv_iinc (v := nI 1) (lv' := [(3, .int (nI 1)), (2, .int (nI 1)), (0, .int (nI 7)), (1, .int (nI 2))]) hx hb dX12_nth_24 hl (k := 1) rfl (by decide) (by decide) rfl ?_
  clear hl
  try clear ls
  intro ls hl
  refine lv_goto (tgt := 4) hx hb dX12_nth_27 (by decide) ?_
  refine lv_iload_n hx hb dX12_nth_4 rfl (lv_at hl 2 rfl) ?_
  refine lv_iload_n hx hb dX12_nth_5 rfl (lv_at hl 0 rfl) ?_
  refine xi (wr := []) (xS (As := [.int (nI 7), .int (nI 1)]) (rest := []) C (c_X12_has l D cs (nI 7) (nI 1)) kX12_100 hP hD [] rfl (by decide +kernel) ⟨Nat.le_of_ble_eq_true rfl, Nat.le_of_ble_eq_true rfl⟩ rfl hl.1 rfl (Nat.le_of_ble_eq_true rfl) dX12_nth_6 ⟨Nat.le_of_ble_eq_true rfl, Nat.le_of_ble_eq_true rfl⟩) hP hD hS hA [] [] rfl rfl (by decide +kernel) (by decide +kernel) ?_
  clear hP hD hS
  try clear locs
  try clear H
  intro r_3 u_4 H locs hw_r_3 hP hD hS
  have hw_r_3 : PQ (((nI 7) >>> ((nI 1) &&& 31)) &&& nI 1 = nI 1) r_3 (nI 1) (nI 0) := hw_r_3
  refine W.widen (k := 0) (n := 0) (Nat.le_of_ble_eq_true rfl) (Nat.le_of_ble_eq_true rfl) ?_
  replace hP : va_P D vwCl [] H := hP
  replace hD : va_D A [] := hD
  obtain rfl : r_3 = nI 1 := by rcases hw_r_3 with ⟨_, e⟩ | ⟨q, _⟩; exact e; exact absurd (by decide) q
  refine lv_if_ne (tgt := 15) hx hb dX12_nth_9 (by decide) (fun _ => ?_) (fun c => absurd c (by decide))
  refine lv_iload_n hx hb dX12_nth_15 rfl (lv_at hl 1 rfl) ?_
  refine lv_if_ne (tgt := 21) hx hb dX12_nth_16 (by decide) (fun _ => ?_) (fun c => absurd c (by decide))
  refine lv_iinc (v := nI 0) (lv' := [(2, .int (nI 0)), (3, .int (nI 1)), (0, .int (nI 7)), (1, .int (nI 2))]) hx hb dX12_nth_21 hl (k := 1) rfl (by decide) (by decide) rfl ?_
  clear hl
  try clear ls
  intro ls hl
  refine lv_iinc (v := nI 2) (lv' := [(3, .int (nI 2)), (2, .int (nI 0)), (0, .int (nI 7)), (1, .int (nI 2))]) hx hb dX12_nth_24 hl (k := 1) rfl (by decide) (by decide) rfl ?_
  clear hl
  try clear ls
  intro ls hl
  refine lv_goto (tgt := 4) hx hb dX12_nth_27 (by decide) ?_
  refine lv_iload_n hx hb dX12_nth_4 rfl (lv_at hl 2 rfl) ?_
  refine lv_iload_n hx hb dX12_nth_5 rfl (lv_at hl 0 rfl) ?_
  refine xi (wr := []) (xS (As := [.int (nI 7), .int (nI 2)]) (rest := []) C (c_X12_has l D cs (nI 7) (nI 2)) kX12_100 hP hD [] rfl (by decide +kernel) ⟨Nat.le_of_ble_eq_true rfl, Nat.le_of_ble_eq_true rfl⟩ rfl hl.1 rfl (Nat.le_of_ble_eq_true rfl) dX12_nth_6 ⟨Nat.le_of_ble_eq_true rfl, Nat.le_of_ble_eq_true rfl⟩) hP hD hS hA [] [] rfl rfl (by decide +kernel) (by decide +kernel) ?_
  clear hP hD hS
  try clear locs
  try clear H
  intro r_5 u_6 H locs hw_r_5 hP hD hS
  have hw_r_5 : PQ (((nI 7) >>> ((nI 2) &&& 31)) &&& nI 1 = nI 1) r_5 (nI 1) (nI 0) := hw_r_5
  refine W.widen (k := 0) (n := 0) (Nat.le_of_ble_eq_true rfl) (Nat.le_of_ble_eq_true rfl) ?_
  replace hP : va_P D vwCl [] H := hP
  replace hD : va_D A [] := hD
  obtain rfl : r_5 = nI 1 := by rcases hw_r_5 with ⟨_, e⟩ | ⟨q, _⟩; exact e; exact absurd (by decide) q
  refine lv_if_ne (tgt := 15) hx hb dX12_nth_9 (by decide) (fun _ => ?_) (fun c => absurd c (by decide))
  refine lv_iload_n hx hb dX12_nth_15 rfl (lv_at hl 1 rfl) ?_
  refine lv_if_ne (tgt := 21) hx hb dX12_nth_16 (by decide) (fun c => absurd (by decide) c) (fun _ => ?_)
  refine lv_iload_n hx hb dX12_nth_19 rfl (lv_at hl 0 rfl) ?_
  exact xreti C () rfl hP hD hS (Nat.le_of_ble_eq_true rfl) (Nat.le_of_ble_eq_true rfl) rfl dX12_nth_20

set_option maxHeartbeats 4000000 in
set_option maxRecDepth 100000 in
theorem c_X12_nth_9_0 (l : Launch) (D : va_G) (cs : Nat → ClassId) (u9 : Nat) : xMet l D cs yX12_nth cX12_nth 4 (some .int) ({ frames := 1, cells := 0, slots := 0, locals := 21 } : Room) [.int (nI 9), .int (nI 0)] [] (xQi D (fun (r : Int32) (_u : Unit) => r = nI 0) (fun (_u : Unit) => [])) := by
  refine xMet.intro (by decide) (Nat.le_of_ble_eq_true rfl) ?_
  intro p e s m args below meth c A ls C hP hD hS hl
  have hx := C.1
  have hb := C.2.1
  have hz := C.2.2.2.2.1
  have hown := C.2.2.2.1
  have hA := C.2.2.2.2.2.2.2.2.2
  have hAO := C.2.2.2.2.2.2.2.2.1.2.2
  replace hl : lv_has ls 4 [(0, .int (nI 9)), (1, .int (nI 0))] := hl
  obtain ⟨H, hH⟩ : ∃ H, H = s.heap := ⟨_, rfl⟩
  replace hP : va_P D vwCl [] H := by rw [hH]; exact hP
  replace hS : va_S A s.heap H [] := by rw [hH]; exact hS
  obtain ⟨locs, hlocs⟩ : ∃ z : List Loc, z = [] := ⟨_, rfl⟩
  rw [← hlocs] at hS
  suffices hW : W p l e ({ frames := 1, cells := 0, slots := 0, locals := 21 } : Room) s m args below meth c H locs 0 0 (MQ below ((xQi D (fun (r : Int32) (_u : Unit) => r = nI 0) (fun (_u : Unit) => [])) A) args s 0 0 A) (F0 m 0 ls []) by rw [hlocs, hH] at hW; exact hW
  clear hH hlocs
  refine lv_iload_n hx hb dX12_nth_0 rfl (lv_at hl 1 rfl) ?_
  refine lv_istore_n (lv' := [(2, .int (nI 0)), (0, .int (nI 9)), (1, .int (nI 0))]) hx hb dX12_nth_1 rfl hl (by decide) rfl ?_
  clear hl
  try clear ls
  intro ls hl
  refine lv_iconst (v := nI 0) hx hb dX12_nth_2 (by decide) ?_
  refine lv_istore_n (lv' := [(3, .int (nI 0)), (2, .int (nI 0)), (0, .int (nI 9)), (1, .int (nI 0))]) hx hb dX12_nth_3 rfl hl (by decide) rfl ?_
  clear hl
  try clear ls
  intro ls hl
  refine lv_iload_n hx hb dX12_nth_4 rfl (lv_at hl 2 rfl) ?_
  refine lv_iload_n hx hb dX12_nth_5 rfl (lv_at hl 0 rfl) ?_
  refine xi (wr := []) (xS (As := [.int (nI 9), .int (nI 0)]) (rest := []) C (c_X12_has l D cs (nI 9) (nI 0)) kX12_100 hP hD [] rfl (by decide +kernel) ⟨Nat.le_of_ble_eq_true rfl, Nat.le_of_ble_eq_true rfl⟩ rfl hl.1 rfl (Nat.le_of_ble_eq_true rfl) dX12_nth_6 ⟨Nat.le_of_ble_eq_true rfl, Nat.le_of_ble_eq_true rfl⟩) hP hD hS hA [] [] rfl rfl (by decide +kernel) (by decide +kernel) ?_
  clear hP hD hS
  try clear locs
  try clear H
  intro r_1 u_2 H locs hw_r_1 hP hD hS
  have hw_r_1 : PQ (((nI 9) >>> ((nI 0) &&& 31)) &&& nI 1 = nI 1) r_1 (nI 1) (nI 0) := hw_r_1
  refine W.widen (k := 0) (n := 0) (Nat.le_of_ble_eq_true rfl) (Nat.le_of_ble_eq_true rfl) ?_
  replace hP : va_P D vwCl [] H := hP
  replace hD : va_D A [] := hD
  obtain rfl : r_1 = nI 1 := by rcases hw_r_1 with ⟨_, e⟩ | ⟨q, _⟩; exact e; exact absurd (by decide) q
  refine lv_if_ne (tgt := 15) hx hb dX12_nth_9 (by decide) (fun _ => ?_) (fun c => absurd c (by decide))
  refine lv_iload_n hx hb dX12_nth_15 rfl (lv_at hl 1 rfl) ?_
  refine lv_if_ne (tgt := 21) hx hb dX12_nth_16 (by decide) (fun c => absurd (by decide) c) (fun _ => ?_)
  refine lv_iload_n hx hb dX12_nth_19 rfl (lv_at hl 0 rfl) ?_
  exact xreti C () rfl hP hD hS (Nat.le_of_ble_eq_true rfl) (Nat.le_of_ble_eq_true rfl) rfl dX12_nth_20

set_option maxHeartbeats 4000000 in
set_option maxRecDepth 100000 in
theorem c_X12_nth_9_1 (l : Launch) (D : va_G) (cs : Nat → ClassId) (u9 : Nat) : xMet l D cs yX12_nth cX12_nth 4 (some .int) ({ frames := 1, cells := 0, slots := 0, locals := 21 } : Room) [.int (nI 9), .int (nI 1)] [] (xQi D (fun (r : Int32) (_u : Unit) => r = nI 3) (fun (_u : Unit) => [])) := by
  refine xMet.intro (by decide) (Nat.le_of_ble_eq_true rfl) ?_
  intro p e s m args below meth c A ls C hP hD hS hl
  have hx := C.1
  have hb := C.2.1
  have hz := C.2.2.2.2.1
  have hown := C.2.2.2.1
  have hA := C.2.2.2.2.2.2.2.2.2
  have hAO := C.2.2.2.2.2.2.2.2.1.2.2
  replace hl : lv_has ls 4 [(0, .int (nI 9)), (1, .int (nI 1))] := hl
  obtain ⟨H, hH⟩ : ∃ H, H = s.heap := ⟨_, rfl⟩
  replace hP : va_P D vwCl [] H := by rw [hH]; exact hP
  replace hS : va_S A s.heap H [] := by rw [hH]; exact hS
  obtain ⟨locs, hlocs⟩ : ∃ z : List Loc, z = [] := ⟨_, rfl⟩
  rw [← hlocs] at hS
  suffices hW : W p l e ({ frames := 1, cells := 0, slots := 0, locals := 21 } : Room) s m args below meth c H locs 0 0 (MQ below ((xQi D (fun (r : Int32) (_u : Unit) => r = nI 3) (fun (_u : Unit) => [])) A) args s 0 0 A) (F0 m 0 ls []) by rw [hlocs, hH] at hW; exact hW
  clear hH hlocs
  refine lv_iload_n hx hb dX12_nth_0 rfl (lv_at hl 1 rfl) ?_
  refine lv_istore_n (lv' := [(2, .int (nI 1)), (0, .int (nI 9)), (1, .int (nI 1))]) hx hb dX12_nth_1 rfl hl (by decide) rfl ?_
  clear hl
  try clear ls
  intro ls hl
  refine lv_iconst (v := nI 0) hx hb dX12_nth_2 (by decide) ?_
  refine lv_istore_n (lv' := [(3, .int (nI 0)), (2, .int (nI 1)), (0, .int (nI 9)), (1, .int (nI 1))]) hx hb dX12_nth_3 rfl hl (by decide) rfl ?_
  clear hl
  try clear ls
  intro ls hl
  refine lv_iload_n hx hb dX12_nth_4 rfl (lv_at hl 2 rfl) ?_
  refine lv_iload_n hx hb dX12_nth_5 rfl (lv_at hl 0 rfl) ?_
  refine xi (wr := []) (xS (As := [.int (nI 9), .int (nI 0)]) (rest := []) C (c_X12_has l D cs (nI 9) (nI 0)) kX12_100 hP hD [] rfl (by decide +kernel) ⟨Nat.le_of_ble_eq_true rfl, Nat.le_of_ble_eq_true rfl⟩ rfl hl.1 rfl (Nat.le_of_ble_eq_true rfl) dX12_nth_6 ⟨Nat.le_of_ble_eq_true rfl, Nat.le_of_ble_eq_true rfl⟩) hP hD hS hA [] [] rfl rfl (by decide +kernel) (by decide +kernel) ?_
  clear hP hD hS
  try clear locs
  try clear H
  intro r_1 u_2 H locs hw_r_1 hP hD hS
  have hw_r_1 : PQ (((nI 9) >>> ((nI 0) &&& 31)) &&& nI 1 = nI 1) r_1 (nI 1) (nI 0) := hw_r_1
  refine W.widen (k := 0) (n := 0) (Nat.le_of_ble_eq_true rfl) (Nat.le_of_ble_eq_true rfl) ?_
  replace hP : va_P D vwCl [] H := hP
  replace hD : va_D A [] := hD
  obtain rfl : r_1 = nI 1 := by rcases hw_r_1 with ⟨_, e⟩ | ⟨q, _⟩; exact e; exact absurd (by decide) q
  refine lv_if_ne (tgt := 15) hx hb dX12_nth_9 (by decide) (fun _ => ?_) (fun c => absurd c (by decide))
  refine lv_iload_n hx hb dX12_nth_15 rfl (lv_at hl 1 rfl) ?_
  refine lv_if_ne (tgt := 21) hx hb dX12_nth_16 (by decide) (fun _ => ?_) (fun c => absurd c (by decide))
  refine lv_iinc (v := nI 0) (lv' := [(2, .int (nI 0)), (3, .int (nI 0)), (0, .int (nI 9)), (1, .int (nI 1))]) hx hb dX12_nth_21 hl (k := 1) rfl (by decide) (by decide) rfl ?_
  clear hl
  try clear ls
  intro ls hl
  refine lv_iinc (v := nI 1) (lv' := [(3, .int (nI 1)), (2, .int (nI 0)), (0, .int (nI 9)), (1, .int (nI 1))]) hx hb dX12_nth_24 hl (k := 1) rfl (by decide) (by decide) rfl ?_
  clear hl
  try clear ls
  intro ls hl
  refine lv_goto (tgt := 4) hx hb dX12_nth_27 (by decide) ?_
  refine lv_iload_n hx hb dX12_nth_4 rfl (lv_at hl 2 rfl) ?_
  refine lv_iload_n hx hb dX12_nth_5 rfl (lv_at hl 0 rfl) ?_
  refine xi (wr := []) (xS (As := [.int (nI 9), .int (nI 1)]) (rest := []) C (c_X12_has l D cs (nI 9) (nI 1)) kX12_100 hP hD [] rfl (by decide +kernel) ⟨Nat.le_of_ble_eq_true rfl, Nat.le_of_ble_eq_true rfl⟩ rfl hl.1 rfl (Nat.le_of_ble_eq_true rfl) dX12_nth_6 ⟨Nat.le_of_ble_eq_true rfl, Nat.le_of_ble_eq_true rfl⟩) hP hD hS hA [] [] rfl rfl (by decide +kernel) (by decide +kernel) ?_
  clear hP hD hS
  try clear locs
  try clear H
  intro r_3 u_4 H locs hw_r_3 hP hD hS
  have hw_r_3 : PQ (((nI 9) >>> ((nI 1) &&& 31)) &&& nI 1 = nI 1) r_3 (nI 1) (nI 0) := hw_r_3
  refine W.widen (k := 0) (n := 0) (Nat.le_of_ble_eq_true rfl) (Nat.le_of_ble_eq_true rfl) ?_
  replace hP : va_P D vwCl [] H := hP
  replace hD : va_D A [] := hD
  obtain rfl : r_3 = nI 0 := by rcases hw_r_3 with ⟨q, _⟩ | ⟨_, e⟩; exact absurd q (by decide); exact e
  refine lv_if_ne (tgt := 15) hx hb dX12_nth_9 (by decide) (fun c => absurd (by decide) c) (fun _ => ?_)
  refine lv_goto (tgt := 24) hx hb dX12_nth_12 (by decide) ?_
  refine lv_iinc (v := nI 2) (lv' := [(3, .int (nI 2)), (2, .int (nI 0)), (0, .int (nI 9)), (1, .int (nI 1))]) hx hb dX12_nth_24 hl (k := 0) rfl (by decide) (by decide) rfl ?_
  clear hl
  try clear ls
  intro ls hl
  refine lv_goto (tgt := 4) hx hb dX12_nth_27 (by decide) ?_
  refine lv_iload_n hx hb dX12_nth_4 rfl (lv_at hl 2 rfl) ?_
  refine lv_iload_n hx hb dX12_nth_5 rfl (lv_at hl 0 rfl) ?_
  refine xi (wr := []) (xS (As := [.int (nI 9), .int (nI 2)]) (rest := []) C (c_X12_has l D cs (nI 9) (nI 2)) kX12_100 hP hD [] rfl (by decide +kernel) ⟨Nat.le_of_ble_eq_true rfl, Nat.le_of_ble_eq_true rfl⟩ rfl hl.1 rfl (Nat.le_of_ble_eq_true rfl) dX12_nth_6 ⟨Nat.le_of_ble_eq_true rfl, Nat.le_of_ble_eq_true rfl⟩) hP hD hS hA [] [] rfl rfl (by decide +kernel) (by decide +kernel) ?_
  clear hP hD hS
  try clear locs
  try clear H
  intro r_5 u_6 H locs hw_r_5 hP hD hS
  have hw_r_5 : PQ (((nI 9) >>> ((nI 2) &&& 31)) &&& nI 1 = nI 1) r_5 (nI 1) (nI 0) := hw_r_5
  refine W.widen (k := 0) (n := 0) (Nat.le_of_ble_eq_true rfl) (Nat.le_of_ble_eq_true rfl) ?_
  replace hP : va_P D vwCl [] H := hP
  replace hD : va_D A [] := hD
  obtain rfl : r_5 = nI 0 := by rcases hw_r_5 with ⟨q, _⟩ | ⟨_, e⟩; exact absurd q (by decide); exact e
  refine lv_if_ne (tgt := 15) hx hb dX12_nth_9 (by decide) (fun c => absurd (by decide) c) (fun _ => ?_)
  refine lv_goto (tgt := 24) hx hb dX12_nth_12 (by decide) ?_
  refine lv_iinc (v := nI 3) (lv' := [(3, .int (nI 3)), (2, .int (nI 0)), (0, .int (nI 9)), (1, .int (nI 1))]) hx hb dX12_nth_24 hl (k := 0) rfl (by decide) (by decide) rfl ?_
  clear hl
  try clear ls
  intro ls hl
  refine lv_goto (tgt := 4) hx hb dX12_nth_27 (by decide) ?_
  refine lv_iload_n hx hb dX12_nth_4 rfl (lv_at hl 2 rfl) ?_
  refine lv_iload_n hx hb dX12_nth_5 rfl (lv_at hl 0 rfl) ?_
  refine xi (wr := []) (xS (As := [.int (nI 9), .int (nI 3)]) (rest := []) C (c_X12_has l D cs (nI 9) (nI 3)) kX12_100 hP hD [] rfl (by decide +kernel) ⟨Nat.le_of_ble_eq_true rfl, Nat.le_of_ble_eq_true rfl⟩ rfl hl.1 rfl (Nat.le_of_ble_eq_true rfl) dX12_nth_6 ⟨Nat.le_of_ble_eq_true rfl, Nat.le_of_ble_eq_true rfl⟩) hP hD hS hA [] [] rfl rfl (by decide +kernel) (by decide +kernel) ?_
  clear hP hD hS
  try clear locs
  try clear H
  intro r_7 u_8 H locs hw_r_7 hP hD hS
  have hw_r_7 : PQ (((nI 9) >>> ((nI 3) &&& 31)) &&& nI 1 = nI 1) r_7 (nI 1) (nI 0) := hw_r_7
  refine W.widen (k := 0) (n := 0) (Nat.le_of_ble_eq_true rfl) (Nat.le_of_ble_eq_true rfl) ?_
  replace hP : va_P D vwCl [] H := hP
  replace hD : va_D A [] := hD
  obtain rfl : r_7 = nI 1 := by rcases hw_r_7 with ⟨_, e⟩ | ⟨q, _⟩; exact e; exact absurd (by decide) q
  refine lv_if_ne (tgt := 15) hx hb dX12_nth_9 (by decide) (fun _ => ?_) (fun c => absurd c (by decide))
  refine lv_iload_n hx hb dX12_nth_15 rfl (lv_at hl 1 rfl) ?_
  refine lv_if_ne (tgt := 21) hx hb dX12_nth_16 (by decide) (fun c => absurd (by decide) c) (fun _ => ?_)
  refine lv_iload_n hx hb dX12_nth_19 rfl (lv_at hl 0 rfl) ?_
  exact xreti C () rfl hP hD hS (Nat.le_of_ble_eq_true rfl) (Nat.le_of_ble_eq_true rfl) rfl dX12_nth_20

set_option maxHeartbeats 4000000 in
set_option maxRecDepth 100000 in
theorem c_X12_nth_10_0 (l : Launch) (D : va_G) (cs : Nat → ClassId) (u9 : Nat) : xMet l D cs yX12_nth cX12_nth 4 (some .int) ({ frames := 1, cells := 0, slots := 0, locals := 21 } : Room) [.int (nI 10), .int (nI 0)] [] (xQi D (fun (r : Int32) (_u : Unit) => r = nI 1) (fun (_u : Unit) => [])) := by
  refine xMet.intro (by decide) (Nat.le_of_ble_eq_true rfl) ?_
  intro p e s m args below meth c A ls C hP hD hS hl
  have hx := C.1
  have hb := C.2.1
  have hz := C.2.2.2.2.1
  have hown := C.2.2.2.1
  have hA := C.2.2.2.2.2.2.2.2.2
  have hAO := C.2.2.2.2.2.2.2.2.1.2.2
  replace hl : lv_has ls 4 [(0, .int (nI 10)), (1, .int (nI 0))] := hl
  obtain ⟨H, hH⟩ : ∃ H, H = s.heap := ⟨_, rfl⟩
  replace hP : va_P D vwCl [] H := by rw [hH]; exact hP
  replace hS : va_S A s.heap H [] := by rw [hH]; exact hS
  obtain ⟨locs, hlocs⟩ : ∃ z : List Loc, z = [] := ⟨_, rfl⟩
  rw [← hlocs] at hS
  suffices hW : W p l e ({ frames := 1, cells := 0, slots := 0, locals := 21 } : Room) s m args below meth c H locs 0 0 (MQ below ((xQi D (fun (r : Int32) (_u : Unit) => r = nI 1) (fun (_u : Unit) => [])) A) args s 0 0 A) (F0 m 0 ls []) by rw [hlocs, hH] at hW; exact hW
  clear hH hlocs
  refine lv_iload_n hx hb dX12_nth_0 rfl (lv_at hl 1 rfl) ?_
  refine lv_istore_n (lv' := [(2, .int (nI 0)), (0, .int (nI 10)), (1, .int (nI 0))]) hx hb dX12_nth_1 rfl hl (by decide) rfl ?_
  clear hl
  try clear ls
  intro ls hl
  refine lv_iconst (v := nI 0) hx hb dX12_nth_2 (by decide) ?_
  refine lv_istore_n (lv' := [(3, .int (nI 0)), (2, .int (nI 0)), (0, .int (nI 10)), (1, .int (nI 0))]) hx hb dX12_nth_3 rfl hl (by decide) rfl ?_
  clear hl
  try clear ls
  intro ls hl
  refine lv_iload_n hx hb dX12_nth_4 rfl (lv_at hl 2 rfl) ?_
  refine lv_iload_n hx hb dX12_nth_5 rfl (lv_at hl 0 rfl) ?_
  refine xi (wr := []) (xS (As := [.int (nI 10), .int (nI 0)]) (rest := []) C (c_X12_has l D cs (nI 10) (nI 0)) kX12_100 hP hD [] rfl (by decide +kernel) ⟨Nat.le_of_ble_eq_true rfl, Nat.le_of_ble_eq_true rfl⟩ rfl hl.1 rfl (Nat.le_of_ble_eq_true rfl) dX12_nth_6 ⟨Nat.le_of_ble_eq_true rfl, Nat.le_of_ble_eq_true rfl⟩) hP hD hS hA [] [] rfl rfl (by decide +kernel) (by decide +kernel) ?_
  clear hP hD hS
  try clear locs
  try clear H
  intro r_1 u_2 H locs hw_r_1 hP hD hS
  have hw_r_1 : PQ (((nI 10) >>> ((nI 0) &&& 31)) &&& nI 1 = nI 1) r_1 (nI 1) (nI 0) := hw_r_1
  refine W.widen (k := 0) (n := 0) (Nat.le_of_ble_eq_true rfl) (Nat.le_of_ble_eq_true rfl) ?_
  replace hP : va_P D vwCl [] H := hP
  replace hD : va_D A [] := hD
  obtain rfl : r_1 = nI 0 := by rcases hw_r_1 with ⟨q, _⟩ | ⟨_, e⟩; exact absurd q (by decide); exact e
  refine lv_if_ne (tgt := 15) hx hb dX12_nth_9 (by decide) (fun c => absurd (by decide) c) (fun _ => ?_)
  refine lv_goto (tgt := 24) hx hb dX12_nth_12 (by decide) ?_
  refine lv_iinc (v := nI 1) (lv' := [(3, .int (nI 1)), (2, .int (nI 0)), (0, .int (nI 10)), (1, .int (nI 0))]) hx hb dX12_nth_24 hl (k := 0) rfl (by decide) (by decide) rfl ?_
  clear hl
  try clear ls
  intro ls hl
  refine lv_goto (tgt := 4) hx hb dX12_nth_27 (by decide) ?_
  refine lv_iload_n hx hb dX12_nth_4 rfl (lv_at hl 2 rfl) ?_
  refine lv_iload_n hx hb dX12_nth_5 rfl (lv_at hl 0 rfl) ?_
  refine xi (wr := []) (xS (As := [.int (nI 10), .int (nI 1)]) (rest := []) C (c_X12_has l D cs (nI 10) (nI 1)) kX12_100 hP hD [] rfl (by decide +kernel) ⟨Nat.le_of_ble_eq_true rfl, Nat.le_of_ble_eq_true rfl⟩ rfl hl.1 rfl (Nat.le_of_ble_eq_true rfl) dX12_nth_6 ⟨Nat.le_of_ble_eq_true rfl, Nat.le_of_ble_eq_true rfl⟩) hP hD hS hA [] [] rfl rfl (by decide +kernel) (by decide +kernel) ?_
  clear hP hD hS
  try clear locs
  try clear H
  intro r_3 u_4 H locs hw_r_3 hP hD hS
  have hw_r_3 : PQ (((nI 10) >>> ((nI 1) &&& 31)) &&& nI 1 = nI 1) r_3 (nI 1) (nI 0) := hw_r_3
  refine W.widen (k := 0) (n := 0) (Nat.le_of_ble_eq_true rfl) (Nat.le_of_ble_eq_true rfl) ?_
  replace hP : va_P D vwCl [] H := hP
  replace hD : va_D A [] := hD
  obtain rfl : r_3 = nI 1 := by rcases hw_r_3 with ⟨_, e⟩ | ⟨q, _⟩; exact e; exact absurd (by decide) q
  refine lv_if_ne (tgt := 15) hx hb dX12_nth_9 (by decide) (fun _ => ?_) (fun c => absurd c (by decide))
  refine lv_iload_n hx hb dX12_nth_15 rfl (lv_at hl 1 rfl) ?_
  refine lv_if_ne (tgt := 21) hx hb dX12_nth_16 (by decide) (fun c => absurd (by decide) c) (fun _ => ?_)
  refine lv_iload_n hx hb dX12_nth_19 rfl (lv_at hl 0 rfl) ?_
  exact xreti C () rfl hP hD hS (Nat.le_of_ble_eq_true rfl) (Nat.le_of_ble_eq_true rfl) rfl dX12_nth_20

set_option maxHeartbeats 4000000 in
set_option maxRecDepth 100000 in
theorem c_X12_nth_10_1 (l : Launch) (D : va_G) (cs : Nat → ClassId) (u9 : Nat) : xMet l D cs yX12_nth cX12_nth 4 (some .int) ({ frames := 1, cells := 0, slots := 0, locals := 21 } : Room) [.int (nI 10), .int (nI 1)] [] (xQi D (fun (r : Int32) (_u : Unit) => r = nI 3) (fun (_u : Unit) => [])) := by
  refine xMet.intro (by decide) (Nat.le_of_ble_eq_true rfl) ?_
  intro p e s m args below meth c A ls C hP hD hS hl
  have hx := C.1
  have hb := C.2.1
  have hz := C.2.2.2.2.1
  have hown := C.2.2.2.1
  have hA := C.2.2.2.2.2.2.2.2.2
  have hAO := C.2.2.2.2.2.2.2.2.1.2.2
  replace hl : lv_has ls 4 [(0, .int (nI 10)), (1, .int (nI 1))] := hl
  obtain ⟨H, hH⟩ : ∃ H, H = s.heap := ⟨_, rfl⟩
  replace hP : va_P D vwCl [] H := by rw [hH]; exact hP
  replace hS : va_S A s.heap H [] := by rw [hH]; exact hS
  obtain ⟨locs, hlocs⟩ : ∃ z : List Loc, z = [] := ⟨_, rfl⟩
  rw [← hlocs] at hS
  suffices hW : W p l e ({ frames := 1, cells := 0, slots := 0, locals := 21 } : Room) s m args below meth c H locs 0 0 (MQ below ((xQi D (fun (r : Int32) (_u : Unit) => r = nI 3) (fun (_u : Unit) => [])) A) args s 0 0 A) (F0 m 0 ls []) by rw [hlocs, hH] at hW; exact hW
  clear hH hlocs
  refine lv_iload_n hx hb dX12_nth_0 rfl (lv_at hl 1 rfl) ?_
  refine lv_istore_n (lv' := [(2, .int (nI 1)), (0, .int (nI 10)), (1, .int (nI 1))]) hx hb dX12_nth_1 rfl hl (by decide) rfl ?_
  clear hl
  try clear ls
  intro ls hl
  refine lv_iconst (v := nI 0) hx hb dX12_nth_2 (by decide) ?_
  refine lv_istore_n (lv' := [(3, .int (nI 0)), (2, .int (nI 1)), (0, .int (nI 10)), (1, .int (nI 1))]) hx hb dX12_nth_3 rfl hl (by decide) rfl ?_
  clear hl
  try clear ls
  intro ls hl
  refine lv_iload_n hx hb dX12_nth_4 rfl (lv_at hl 2 rfl) ?_
  refine lv_iload_n hx hb dX12_nth_5 rfl (lv_at hl 0 rfl) ?_
  refine xi (wr := []) (xS (As := [.int (nI 10), .int (nI 0)]) (rest := []) C (c_X12_has l D cs (nI 10) (nI 0)) kX12_100 hP hD [] rfl (by decide +kernel) ⟨Nat.le_of_ble_eq_true rfl, Nat.le_of_ble_eq_true rfl⟩ rfl hl.1 rfl (Nat.le_of_ble_eq_true rfl) dX12_nth_6 ⟨Nat.le_of_ble_eq_true rfl, Nat.le_of_ble_eq_true rfl⟩) hP hD hS hA [] [] rfl rfl (by decide +kernel) (by decide +kernel) ?_
  clear hP hD hS
  try clear locs
  try clear H
  intro r_1 u_2 H locs hw_r_1 hP hD hS
  have hw_r_1 : PQ (((nI 10) >>> ((nI 0) &&& 31)) &&& nI 1 = nI 1) r_1 (nI 1) (nI 0) := hw_r_1
  refine W.widen (k := 0) (n := 0) (Nat.le_of_ble_eq_true rfl) (Nat.le_of_ble_eq_true rfl) ?_
  replace hP : va_P D vwCl [] H := hP
  replace hD : va_D A [] := hD
  obtain rfl : r_1 = nI 0 := by rcases hw_r_1 with ⟨q, _⟩ | ⟨_, e⟩; exact absurd q (by decide); exact e
  refine lv_if_ne (tgt := 15) hx hb dX12_nth_9 (by decide) (fun c => absurd (by decide) c) (fun _ => ?_)
  refine lv_goto (tgt := 24) hx hb dX12_nth_12 (by decide) ?_
  refine lv_iinc (v := nI 1) (lv' := [(3, .int (nI 1)), (2, .int (nI 1)), (0, .int (nI 10)), (1, .int (nI 1))]) hx hb dX12_nth_24 hl (k := 0) rfl (by decide) (by decide) rfl ?_
  clear hl
  try clear ls
  intro ls hl
  refine lv_goto (tgt := 4) hx hb dX12_nth_27 (by decide) ?_
  refine lv_iload_n hx hb dX12_nth_4 rfl (lv_at hl 2 rfl) ?_
  refine lv_iload_n hx hb dX12_nth_5 rfl (lv_at hl 0 rfl) ?_
  refine xi (wr := []) (xS (As := [.int (nI 10), .int (nI 1)]) (rest := []) C (c_X12_has l D cs (nI 10) (nI 1)) kX12_100 hP hD [] rfl (by decide +kernel) ⟨Nat.le_of_ble_eq_true rfl, Nat.le_of_ble_eq_true rfl⟩ rfl hl.1 rfl (Nat.le_of_ble_eq_true rfl) dX12_nth_6 ⟨Nat.le_of_ble_eq_true rfl, Nat.le_of_ble_eq_true rfl⟩) hP hD hS hA [] [] rfl rfl (by decide +kernel) (by decide +kernel) ?_
  clear hP hD hS
  try clear locs
  try clear H
  intro r_3 u_4 H locs hw_r_3 hP hD hS
  have hw_r_3 : PQ (((nI 10) >>> ((nI 1) &&& 31)) &&& nI 1 = nI 1) r_3 (nI 1) (nI 0) := hw_r_3
  refine W.widen (k := 0) (n := 0) (Nat.le_of_ble_eq_true rfl) (Nat.le_of_ble_eq_true rfl) ?_
  replace hP : va_P D vwCl [] H := hP
  replace hD : va_D A [] := hD
  obtain rfl : r_3 = nI 1 := by rcases hw_r_3 with ⟨_, e⟩ | ⟨q, _⟩; exact e; exact absurd (by decide) q
  refine lv_if_ne (tgt := 15) hx hb dX12_nth_9 (by decide) (fun _ => ?_) (fun c => absurd c (by decide))
  refine lv_iload_n hx hb dX12_nth_15 rfl (lv_at hl 1 rfl) ?_
  refine lv_if_ne (tgt := 21) hx hb dX12_nth_16 (by decide) (fun _ => ?_) (fun c => absurd c (by decide))
  refine lv_iinc (v := nI 0) (lv' := [(2, .int (nI 0)), (3, .int (nI 1)), (0, .int (nI 10)), (1, .int (nI 1))]) hx hb dX12_nth_21 hl (k := 1) rfl (by decide) (by decide) rfl ?_
  clear hl
  try clear ls
  intro ls hl
  refine lv_iinc (v := nI 2) (lv' := [(3, .int (nI 2)), (2, .int (nI 0)), (0, .int (nI 10)), (1, .int (nI 1))]) hx hb dX12_nth_24 hl (k := 1) rfl (by decide) (by decide) rfl ?_
  clear hl
  try clear ls
  intro ls hl
  refine lv_goto (tgt := 4) hx hb dX12_nth_27 (by decide) ?_
  refine lv_iload_n hx hb dX12_nth_4 rfl (lv_at hl 2 rfl) ?_
  refine lv_iload_n hx hb dX12_nth_5 rfl (lv_at hl 0 rfl) ?_
  refine xi (wr := []) (xS (As := [.int (nI 10), .int (nI 2)]) (rest := []) C (c_X12_has l D cs (nI 10) (nI 2)) kX12_100 hP hD [] rfl (by decide +kernel) ⟨Nat.le_of_ble_eq_true rfl, Nat.le_of_ble_eq_true rfl⟩ rfl hl.1 rfl (Nat.le_of_ble_eq_true rfl) dX12_nth_6 ⟨Nat.le_of_ble_eq_true rfl, Nat.le_of_ble_eq_true rfl⟩) hP hD hS hA [] [] rfl rfl (by decide +kernel) (by decide +kernel) ?_
  clear hP hD hS
  try clear locs
  try clear H
  intro r_5 u_6 H locs hw_r_5 hP hD hS
  have hw_r_5 : PQ (((nI 10) >>> ((nI 2) &&& 31)) &&& nI 1 = nI 1) r_5 (nI 1) (nI 0) := hw_r_5
  refine W.widen (k := 0) (n := 0) (Nat.le_of_ble_eq_true rfl) (Nat.le_of_ble_eq_true rfl) ?_
  replace hP : va_P D vwCl [] H := hP
  replace hD : va_D A [] := hD
  obtain rfl : r_5 = nI 0 := by rcases hw_r_5 with ⟨q, _⟩ | ⟨_, e⟩; exact absurd q (by decide); exact e
  refine lv_if_ne (tgt := 15) hx hb dX12_nth_9 (by decide) (fun c => absurd (by decide) c) (fun _ => ?_)
  refine lv_goto (tgt := 24) hx hb dX12_nth_12 (by decide) ?_
  refine lv_iinc (v := nI 3) (lv' := [(3, .int (nI 3)), (2, .int (nI 0)), (0, .int (nI 10)), (1, .int (nI 1))]) hx hb dX12_nth_24 hl (k := 0) rfl (by decide) (by decide) rfl ?_
  clear hl
  try clear ls
  intro ls hl
  refine lv_goto (tgt := 4) hx hb dX12_nth_27 (by decide) ?_
  refine lv_iload_n hx hb dX12_nth_4 rfl (lv_at hl 2 rfl) ?_
  refine lv_iload_n hx hb dX12_nth_5 rfl (lv_at hl 0 rfl) ?_
  refine xi (wr := []) (xS (As := [.int (nI 10), .int (nI 3)]) (rest := []) C (c_X12_has l D cs (nI 10) (nI 3)) kX12_100 hP hD [] rfl (by decide +kernel) ⟨Nat.le_of_ble_eq_true rfl, Nat.le_of_ble_eq_true rfl⟩ rfl hl.1 rfl (Nat.le_of_ble_eq_true rfl) dX12_nth_6 ⟨Nat.le_of_ble_eq_true rfl, Nat.le_of_ble_eq_true rfl⟩) hP hD hS hA [] [] rfl rfl (by decide +kernel) (by decide +kernel) ?_
  clear hP hD hS
  try clear locs
  try clear H
  intro r_7 u_8 H locs hw_r_7 hP hD hS
  have hw_r_7 : PQ (((nI 10) >>> ((nI 3) &&& 31)) &&& nI 1 = nI 1) r_7 (nI 1) (nI 0) := hw_r_7
  refine W.widen (k := 0) (n := 0) (Nat.le_of_ble_eq_true rfl) (Nat.le_of_ble_eq_true rfl) ?_
  replace hP : va_P D vwCl [] H := hP
  replace hD : va_D A [] := hD
  obtain rfl : r_7 = nI 1 := by rcases hw_r_7 with ⟨_, e⟩ | ⟨q, _⟩; exact e; exact absurd (by decide) q
  refine lv_if_ne (tgt := 15) hx hb dX12_nth_9 (by decide) (fun _ => ?_) (fun c => absurd c (by decide))
  refine lv_iload_n hx hb dX12_nth_15 rfl (lv_at hl 1 rfl) ?_
  refine lv_if_ne (tgt := 21) hx hb dX12_nth_16 (by decide) (fun c => absurd (by decide) c) (fun _ => ?_)
  refine lv_iload_n hx hb dX12_nth_19 rfl (lv_at hl 0 rfl) ?_
  exact xreti C () rfl hP hD hS (Nat.le_of_ble_eq_true rfl) (Nat.le_of_ble_eq_true rfl) rfl dX12_nth_20

set_option maxHeartbeats 4000000 in
set_option maxRecDepth 100000 in
theorem c_X12_nth_11_0 (l : Launch) (D : va_G) (cs : Nat → ClassId) (u9 : Nat) : xMet l D cs yX12_nth cX12_nth 4 (some .int) ({ frames := 1, cells := 0, slots := 0, locals := 21 } : Room) [.int (nI 11), .int (nI 0)] [] (xQi D (fun (r : Int32) (_u : Unit) => r = nI 0) (fun (_u : Unit) => [])) := by
  refine xMet.intro (by decide) (Nat.le_of_ble_eq_true rfl) ?_
  intro p e s m args below meth c A ls C hP hD hS hl
  have hx := C.1
  have hb := C.2.1
  have hz := C.2.2.2.2.1
  have hown := C.2.2.2.1
  have hA := C.2.2.2.2.2.2.2.2.2
  have hAO := C.2.2.2.2.2.2.2.2.1.2.2
  replace hl : lv_has ls 4 [(0, .int (nI 11)), (1, .int (nI 0))] := hl
  obtain ⟨H, hH⟩ : ∃ H, H = s.heap := ⟨_, rfl⟩
  replace hP : va_P D vwCl [] H := by rw [hH]; exact hP
  replace hS : va_S A s.heap H [] := by rw [hH]; exact hS
  obtain ⟨locs, hlocs⟩ : ∃ z : List Loc, z = [] := ⟨_, rfl⟩
  rw [← hlocs] at hS
  suffices hW : W p l e ({ frames := 1, cells := 0, slots := 0, locals := 21 } : Room) s m args below meth c H locs 0 0 (MQ below ((xQi D (fun (r : Int32) (_u : Unit) => r = nI 0) (fun (_u : Unit) => [])) A) args s 0 0 A) (F0 m 0 ls []) by rw [hlocs, hH] at hW; exact hW
  clear hH hlocs
  refine lv_iload_n hx hb dX12_nth_0 rfl (lv_at hl 1 rfl) ?_
  refine lv_istore_n (lv' := [(2, .int (nI 0)), (0, .int (nI 11)), (1, .int (nI 0))]) hx hb dX12_nth_1 rfl hl (by decide) rfl ?_
  clear hl
  try clear ls
  intro ls hl
  refine lv_iconst (v := nI 0) hx hb dX12_nth_2 (by decide) ?_
  refine lv_istore_n (lv' := [(3, .int (nI 0)), (2, .int (nI 0)), (0, .int (nI 11)), (1, .int (nI 0))]) hx hb dX12_nth_3 rfl hl (by decide) rfl ?_
  clear hl
  try clear ls
  intro ls hl
  refine lv_iload_n hx hb dX12_nth_4 rfl (lv_at hl 2 rfl) ?_
  refine lv_iload_n hx hb dX12_nth_5 rfl (lv_at hl 0 rfl) ?_
  refine xi (wr := []) (xS (As := [.int (nI 11), .int (nI 0)]) (rest := []) C (c_X12_has l D cs (nI 11) (nI 0)) kX12_100 hP hD [] rfl (by decide +kernel) ⟨Nat.le_of_ble_eq_true rfl, Nat.le_of_ble_eq_true rfl⟩ rfl hl.1 rfl (Nat.le_of_ble_eq_true rfl) dX12_nth_6 ⟨Nat.le_of_ble_eq_true rfl, Nat.le_of_ble_eq_true rfl⟩) hP hD hS hA [] [] rfl rfl (by decide +kernel) (by decide +kernel) ?_
  clear hP hD hS
  try clear locs
  try clear H
  intro r_1 u_2 H locs hw_r_1 hP hD hS
  have hw_r_1 : PQ (((nI 11) >>> ((nI 0) &&& 31)) &&& nI 1 = nI 1) r_1 (nI 1) (nI 0) := hw_r_1
  refine W.widen (k := 0) (n := 0) (Nat.le_of_ble_eq_true rfl) (Nat.le_of_ble_eq_true rfl) ?_
  replace hP : va_P D vwCl [] H := hP
  replace hD : va_D A [] := hD
  obtain rfl : r_1 = nI 1 := by rcases hw_r_1 with ⟨_, e⟩ | ⟨q, _⟩; exact e; exact absurd (by decide) q
  refine lv_if_ne (tgt := 15) hx hb dX12_nth_9 (by decide) (fun _ => ?_) (fun c => absurd c (by decide))
  refine lv_iload_n hx hb dX12_nth_15 rfl (lv_at hl 1 rfl) ?_
  refine lv_if_ne (tgt := 21) hx hb dX12_nth_16 (by decide) (fun c => absurd (by decide) c) (fun _ => ?_)
  refine lv_iload_n hx hb dX12_nth_19 rfl (lv_at hl 0 rfl) ?_
  exact xreti C () rfl hP hD hS (Nat.le_of_ble_eq_true rfl) (Nat.le_of_ble_eq_true rfl) rfl dX12_nth_20

set_option maxHeartbeats 4000000 in
set_option maxRecDepth 100000 in
theorem c_X12_nth_11_1 (l : Launch) (D : va_G) (cs : Nat → ClassId) (u9 : Nat) : xMet l D cs yX12_nth cX12_nth 4 (some .int) ({ frames := 1, cells := 0, slots := 0, locals := 21 } : Room) [.int (nI 11), .int (nI 1)] [] (xQi D (fun (r : Int32) (_u : Unit) => r = nI 1) (fun (_u : Unit) => [])) := by
  refine xMet.intro (by decide) (Nat.le_of_ble_eq_true rfl) ?_
  intro p e s m args below meth c A ls C hP hD hS hl
  have hx := C.1
  have hb := C.2.1
  have hz := C.2.2.2.2.1
  have hown := C.2.2.2.1
  have hA := C.2.2.2.2.2.2.2.2.2
  have hAO := C.2.2.2.2.2.2.2.2.1.2.2
  replace hl : lv_has ls 4 [(0, .int (nI 11)), (1, .int (nI 1))] := hl
  obtain ⟨H, hH⟩ : ∃ H, H = s.heap := ⟨_, rfl⟩
  replace hP : va_P D vwCl [] H := by rw [hH]; exact hP
  replace hS : va_S A s.heap H [] := by rw [hH]; exact hS
  obtain ⟨locs, hlocs⟩ : ∃ z : List Loc, z = [] := ⟨_, rfl⟩
  rw [← hlocs] at hS
  suffices hW : W p l e ({ frames := 1, cells := 0, slots := 0, locals := 21 } : Room) s m args below meth c H locs 0 0 (MQ below ((xQi D (fun (r : Int32) (_u : Unit) => r = nI 1) (fun (_u : Unit) => [])) A) args s 0 0 A) (F0 m 0 ls []) by rw [hlocs, hH] at hW; exact hW
  clear hH hlocs
  refine lv_iload_n hx hb dX12_nth_0 rfl (lv_at hl 1 rfl) ?_
  refine lv_istore_n (lv' := [(2, .int (nI 1)), (0, .int (nI 11)), (1, .int (nI 1))]) hx hb dX12_nth_1 rfl hl (by decide) rfl ?_
  clear hl
  try clear ls
  intro ls hl
  refine lv_iconst (v := nI 0) hx hb dX12_nth_2 (by decide) ?_
  refine lv_istore_n (lv' := [(3, .int (nI 0)), (2, .int (nI 1)), (0, .int (nI 11)), (1, .int (nI 1))]) hx hb dX12_nth_3 rfl hl (by decide) rfl ?_
  clear hl
  try clear ls
  intro ls hl
  refine lv_iload_n hx hb dX12_nth_4 rfl (lv_at hl 2 rfl) ?_
  refine lv_iload_n hx hb dX12_nth_5 rfl (lv_at hl 0 rfl) ?_
  refine xi (wr := []) (xS (As := [.int (nI 11), .int (nI 0)]) (rest := []) C (c_X12_has l D cs (nI 11) (nI 0)) kX12_100 hP hD [] rfl (by decide +kernel) ⟨Nat.le_of_ble_eq_true rfl, Nat.le_of_ble_eq_true rfl⟩ rfl hl.1 rfl (Nat.le_of_ble_eq_true rfl) dX12_nth_6 ⟨Nat.le_of_ble_eq_true rfl, Nat.le_of_ble_eq_true rfl⟩) hP hD hS hA [] [] rfl rfl (by decide +kernel) (by decide +kernel) ?_
  clear hP hD hS
  try clear locs
  try clear H
  intro r_1 u_2 H locs hw_r_1 hP hD hS
  have hw_r_1 : PQ (((nI 11) >>> ((nI 0) &&& 31)) &&& nI 1 = nI 1) r_1 (nI 1) (nI 0) := hw_r_1
  refine W.widen (k := 0) (n := 0) (Nat.le_of_ble_eq_true rfl) (Nat.le_of_ble_eq_true rfl) ?_
  replace hP : va_P D vwCl [] H := hP
  replace hD : va_D A [] := hD
  obtain rfl : r_1 = nI 1 := by rcases hw_r_1 with ⟨_, e⟩ | ⟨q, _⟩; exact e; exact absurd (by decide) q
  refine lv_if_ne (tgt := 15) hx hb dX12_nth_9 (by decide) (fun _ => ?_) (fun c => absurd c (by decide))
  refine lv_iload_n hx hb dX12_nth_15 rfl (lv_at hl 1 rfl) ?_
  refine lv_if_ne (tgt := 21) hx hb dX12_nth_16 (by decide) (fun _ => ?_) (fun c => absurd c (by decide))
  refine lv_iinc (v := nI 0) (lv' := [(2, .int (nI 0)), (3, .int (nI 0)), (0, .int (nI 11)), (1, .int (nI 1))]) hx hb dX12_nth_21 hl (k := 1) rfl (by decide) (by decide) rfl ?_
  clear hl
  try clear ls
  intro ls hl
  refine lv_iinc (v := nI 1) (lv' := [(3, .int (nI 1)), (2, .int (nI 0)), (0, .int (nI 11)), (1, .int (nI 1))]) hx hb dX12_nth_24 hl (k := 1) rfl (by decide) (by decide) rfl ?_
  clear hl
  try clear ls
  intro ls hl
  refine lv_goto (tgt := 4) hx hb dX12_nth_27 (by decide) ?_
  refine lv_iload_n hx hb dX12_nth_4 rfl (lv_at hl 2 rfl) ?_
  refine lv_iload_n hx hb dX12_nth_5 rfl (lv_at hl 0 rfl) ?_
  refine xi (wr := []) (xS (As := [.int (nI 11), .int (nI 1)]) (rest := []) C (c_X12_has l D cs (nI 11) (nI 1)) kX12_100 hP hD [] rfl (by decide +kernel) ⟨Nat.le_of_ble_eq_true rfl, Nat.le_of_ble_eq_true rfl⟩ rfl hl.1 rfl (Nat.le_of_ble_eq_true rfl) dX12_nth_6 ⟨Nat.le_of_ble_eq_true rfl, Nat.le_of_ble_eq_true rfl⟩) hP hD hS hA [] [] rfl rfl (by decide +kernel) (by decide +kernel) ?_
  clear hP hD hS
  try clear locs
  try clear H
  intro r_3 u_4 H locs hw_r_3 hP hD hS
  have hw_r_3 : PQ (((nI 11) >>> ((nI 1) &&& 31)) &&& nI 1 = nI 1) r_3 (nI 1) (nI 0) := hw_r_3
  refine W.widen (k := 0) (n := 0) (Nat.le_of_ble_eq_true rfl) (Nat.le_of_ble_eq_true rfl) ?_
  replace hP : va_P D vwCl [] H := hP
  replace hD : va_D A [] := hD
  obtain rfl : r_3 = nI 1 := by rcases hw_r_3 with ⟨_, e⟩ | ⟨q, _⟩; exact e; exact absurd (by decide) q
  refine lv_if_ne (tgt := 15) hx hb dX12_nth_9 (by decide) (fun _ => ?_) (fun c => absurd c (by decide))
  refine lv_iload_n hx hb dX12_nth_15 rfl (lv_at hl 1 rfl) ?_
  refine lv_if_ne (tgt := 21) hx hb dX12_nth_16 (by decide) (fun c => absurd (by decide) c) (fun _ => ?_)
  refine lv_iload_n hx hb dX12_nth_19 rfl (lv_at hl 0 rfl) ?_
  exact xreti C () rfl hP hD hS (Nat.le_of_ble_eq_true rfl) (Nat.le_of_ble_eq_true rfl) rfl dX12_nth_20

set_option maxHeartbeats 4000000 in
set_option maxRecDepth 100000 in
theorem c_X12_nth_11_2 (l : Launch) (D : va_G) (cs : Nat → ClassId) (u9 : Nat) : xMet l D cs yX12_nth cX12_nth 4 (some .int) ({ frames := 1, cells := 0, slots := 0, locals := 21 } : Room) [.int (nI 11), .int (nI 2)] [] (xQi D (fun (r : Int32) (_u : Unit) => r = nI 3) (fun (_u : Unit) => [])) := by
  refine xMet.intro (by decide) (Nat.le_of_ble_eq_true rfl) ?_
  intro p e s m args below meth c A ls C hP hD hS hl
  have hx := C.1
  have hb := C.2.1
  have hz := C.2.2.2.2.1
  have hown := C.2.2.2.1
  have hA := C.2.2.2.2.2.2.2.2.2
  have hAO := C.2.2.2.2.2.2.2.2.1.2.2
  replace hl : lv_has ls 4 [(0, .int (nI 11)), (1, .int (nI 2))] := hl
  obtain ⟨H, hH⟩ : ∃ H, H = s.heap := ⟨_, rfl⟩
  replace hP : va_P D vwCl [] H := by rw [hH]; exact hP
  replace hS : va_S A s.heap H [] := by rw [hH]; exact hS
  obtain ⟨locs, hlocs⟩ : ∃ z : List Loc, z = [] := ⟨_, rfl⟩
  rw [← hlocs] at hS
  suffices hW : W p l e ({ frames := 1, cells := 0, slots := 0, locals := 21 } : Room) s m args below meth c H locs 0 0 (MQ below ((xQi D (fun (r : Int32) (_u : Unit) => r = nI 3) (fun (_u : Unit) => [])) A) args s 0 0 A) (F0 m 0 ls []) by rw [hlocs, hH] at hW; exact hW
  clear hH hlocs
  refine lv_iload_n hx hb dX12_nth_0 rfl (lv_at hl 1 rfl) ?_
  refine lv_istore_n (lv' := [(2, .int (nI 2)), (0, .int (nI 11)), (1, .int (nI 2))]) hx hb dX12_nth_1 rfl hl (by decide) rfl ?_
  clear hl
  try clear ls
  intro ls hl
  refine lv_iconst (v := nI 0) hx hb dX12_nth_2 (by decide) ?_
  refine lv_istore_n (lv' := [(3, .int (nI 0)), (2, .int (nI 2)), (0, .int (nI 11)), (1, .int (nI 2))]) hx hb dX12_nth_3 rfl hl (by decide) rfl ?_
  clear hl
  try clear ls
  intro ls hl
  refine lv_iload_n hx hb dX12_nth_4 rfl (lv_at hl 2 rfl) ?_
  refine lv_iload_n hx hb dX12_nth_5 rfl (lv_at hl 0 rfl) ?_
  refine xi (wr := []) (xS (As := [.int (nI 11), .int (nI 0)]) (rest := []) C (c_X12_has l D cs (nI 11) (nI 0)) kX12_100 hP hD [] rfl (by decide +kernel) ⟨Nat.le_of_ble_eq_true rfl, Nat.le_of_ble_eq_true rfl⟩ rfl hl.1 rfl (Nat.le_of_ble_eq_true rfl) dX12_nth_6 ⟨Nat.le_of_ble_eq_true rfl, Nat.le_of_ble_eq_true rfl⟩) hP hD hS hA [] [] rfl rfl (by decide +kernel) (by decide +kernel) ?_
  clear hP hD hS
  try clear locs
  try clear H
  intro r_1 u_2 H locs hw_r_1 hP hD hS
  have hw_r_1 : PQ (((nI 11) >>> ((nI 0) &&& 31)) &&& nI 1 = nI 1) r_1 (nI 1) (nI 0) := hw_r_1
  refine W.widen (k := 0) (n := 0) (Nat.le_of_ble_eq_true rfl) (Nat.le_of_ble_eq_true rfl) ?_
  replace hP : va_P D vwCl [] H := hP
  replace hD : va_D A [] := hD
  obtain rfl : r_1 = nI 1 := by rcases hw_r_1 with ⟨_, e⟩ | ⟨q, _⟩; exact e; exact absurd (by decide) q
  refine lv_if_ne (tgt := 15) hx hb dX12_nth_9 (by decide) (fun _ => ?_) (fun c => absurd c (by decide))
  refine lv_iload_n hx hb dX12_nth_15 rfl (lv_at hl 1 rfl) ?_
  refine lv_if_ne (tgt := 21) hx hb dX12_nth_16 (by decide) (fun _ => ?_) (fun c => absurd c (by decide))
  refine lv_iinc (v := nI 1) (lv' := [(2, .int (nI 1)), (3, .int (nI 0)), (0, .int (nI 11)), (1, .int (nI 2))]) hx hb dX12_nth_21 hl (k := 1) rfl (by decide) (by decide) rfl ?_
  clear hl
  try clear ls
  intro ls hl
  refine lv_iinc (v := nI 1) (lv' := [(3, .int (nI 1)), (2, .int (nI 1)), (0, .int (nI 11)), (1, .int (nI 2))]) hx hb dX12_nth_24 hl (k := 1) rfl (by decide) (by decide) rfl ?_
  clear hl
  try clear ls
  intro ls hl
  refine lv_goto (tgt := 4) hx hb dX12_nth_27 (by decide) ?_
  refine lv_iload_n hx hb dX12_nth_4 rfl (lv_at hl 2 rfl) ?_
  refine lv_iload_n hx hb dX12_nth_5 rfl (lv_at hl 0 rfl) ?_
  refine xi (wr := []) (xS (As := [.int (nI 11), .int (nI 1)]) (rest := []) C (c_X12_has l D cs (nI 11) (nI 1)) kX12_100 hP hD [] rfl (by decide +kernel) ⟨Nat.le_of_ble_eq_true rfl, Nat.le_of_ble_eq_true rfl⟩ rfl hl.1 rfl (Nat.le_of_ble_eq_true rfl) dX12_nth_6 ⟨Nat.le_of_ble_eq_true rfl, Nat.le_of_ble_eq_true rfl⟩) hP hD hS hA [] [] rfl rfl (by decide +kernel) (by decide +kernel) ?_
  clear hP hD hS
  try clear locs
  try clear H
  intro r_3 u_4 H locs hw_r_3 hP hD hS
  have hw_r_3 : PQ (((nI 11) >>> ((nI 1) &&& 31)) &&& nI 1 = nI 1) r_3 (nI 1) (nI 0) := hw_r_3
  refine W.widen (k := 0) (n := 0) (Nat.le_of_ble_eq_true rfl) (Nat.le_of_ble_eq_true rfl) ?_
  replace hP : va_P D vwCl [] H := hP
  replace hD : va_D A [] := hD
  obtain rfl : r_3 = nI 1 := by rcases hw_r_3 with ⟨_, e⟩ | ⟨q, _⟩; exact e; exact absurd (by decide) q
  refine lv_if_ne (tgt := 15) hx hb dX12_nth_9 (by decide) (fun _ => ?_) (fun c => absurd c (by decide))
  refine lv_iload_n hx hb dX12_nth_15 rfl (lv_at hl 1 rfl) ?_
  refine lv_if_ne (tgt := 21) hx hb dX12_nth_16 (by decide) (fun _ => ?_) (fun c => absurd c (by decide))
  refine lv_iinc (v := nI 0) (lv' := [(2, .int (nI 0)), (3, .int (nI 1)), (0, .int (nI 11)), (1, .int (nI 2))]) hx hb dX12_nth_21 hl (k := 1) rfl (by decide) (by decide) rfl ?_
  clear hl
  try clear ls
  intro ls hl
  refine lv_iinc (v := nI 2) (lv' := [(3, .int (nI 2)), (2, .int (nI 0)), (0, .int (nI 11)), (1, .int (nI 2))]) hx hb dX12_nth_24 hl (k := 1) rfl (by decide) (by decide) rfl ?_
  clear hl
  try clear ls
  intro ls hl
  refine lv_goto (tgt := 4) hx hb dX12_nth_27 (by decide) ?_
  refine lv_iload_n hx hb dX12_nth_4 rfl (lv_at hl 2 rfl) ?_
  refine lv_iload_n hx hb dX12_nth_5 rfl (lv_at hl 0 rfl) ?_
  refine xi (wr := []) (xS (As := [.int (nI 11), .int (nI 2)]) (rest := []) C (c_X12_has l D cs (nI 11) (nI 2)) kX12_100 hP hD [] rfl (by decide +kernel) ⟨Nat.le_of_ble_eq_true rfl, Nat.le_of_ble_eq_true rfl⟩ rfl hl.1 rfl (Nat.le_of_ble_eq_true rfl) dX12_nth_6 ⟨Nat.le_of_ble_eq_true rfl, Nat.le_of_ble_eq_true rfl⟩) hP hD hS hA [] [] rfl rfl (by decide +kernel) (by decide +kernel) ?_
  clear hP hD hS
  try clear locs
  try clear H
  intro r_5 u_6 H locs hw_r_5 hP hD hS
  have hw_r_5 : PQ (((nI 11) >>> ((nI 2) &&& 31)) &&& nI 1 = nI 1) r_5 (nI 1) (nI 0) := hw_r_5
  refine W.widen (k := 0) (n := 0) (Nat.le_of_ble_eq_true rfl) (Nat.le_of_ble_eq_true rfl) ?_
  replace hP : va_P D vwCl [] H := hP
  replace hD : va_D A [] := hD
  obtain rfl : r_5 = nI 0 := by rcases hw_r_5 with ⟨q, _⟩ | ⟨_, e⟩; exact absurd q (by decide); exact e
  refine lv_if_ne (tgt := 15) hx hb dX12_nth_9 (by decide) (fun c => absurd (by decide) c) (fun _ => ?_)
  refine lv_goto (tgt := 24) hx hb dX12_nth_12 (by decide) ?_
  refine lv_iinc (v := nI 3) (lv' := [(3, .int (nI 3)), (2, .int (nI 0)), (0, .int (nI 11)), (1, .int (nI 2))]) hx hb dX12_nth_24 hl (k := 0) rfl (by decide) (by decide) rfl ?_
  clear hl
  try clear ls
  intro ls hl
  refine lv_goto (tgt := 4) hx hb dX12_nth_27 (by decide) ?_
  refine lv_iload_n hx hb dX12_nth_4 rfl (lv_at hl 2 rfl) ?_
  refine lv_iload_n hx hb dX12_nth_5 rfl (lv_at hl 0 rfl) ?_
  refine xi (wr := []) (xS (As := [.int (nI 11), .int (nI 3)]) (rest := []) C (c_X12_has l D cs (nI 11) (nI 3)) kX12_100 hP hD [] rfl (by decide +kernel) ⟨Nat.le_of_ble_eq_true rfl, Nat.le_of_ble_eq_true rfl⟩ rfl hl.1 rfl (Nat.le_of_ble_eq_true rfl) dX12_nth_6 ⟨Nat.le_of_ble_eq_true rfl, Nat.le_of_ble_eq_true rfl⟩) hP hD hS hA [] [] rfl rfl (by decide +kernel) (by decide +kernel) ?_
  clear hP hD hS
  try clear locs
  try clear H
  intro r_7 u_8 H locs hw_r_7 hP hD hS
  have hw_r_7 : PQ (((nI 11) >>> ((nI 3) &&& 31)) &&& nI 1 = nI 1) r_7 (nI 1) (nI 0) := hw_r_7
  refine W.widen (k := 0) (n := 0) (Nat.le_of_ble_eq_true rfl) (Nat.le_of_ble_eq_true rfl) ?_
  replace hP : va_P D vwCl [] H := hP
  replace hD : va_D A [] := hD
  obtain rfl : r_7 = nI 1 := by rcases hw_r_7 with ⟨_, e⟩ | ⟨q, _⟩; exact e; exact absurd (by decide) q
  refine lv_if_ne (tgt := 15) hx hb dX12_nth_9 (by decide) (fun _ => ?_) (fun c => absurd c (by decide))
  refine lv_iload_n hx hb dX12_nth_15 rfl (lv_at hl 1 rfl) ?_
  refine lv_if_ne (tgt := 21) hx hb dX12_nth_16 (by decide) (fun c => absurd (by decide) c) (fun _ => ?_)
  refine lv_iload_n hx hb dX12_nth_19 rfl (lv_at hl 0 rfl) ?_
  exact xreti C () rfl hP hD hS (Nat.le_of_ble_eq_true rfl) (Nat.le_of_ble_eq_true rfl) rfl dX12_nth_20

set_option maxHeartbeats 4000000 in
set_option maxRecDepth 100000 in
theorem c_X12_nth_12_0 (l : Launch) (D : va_G) (cs : Nat → ClassId) (u9 : Nat) : xMet l D cs yX12_nth cX12_nth 4 (some .int) ({ frames := 1, cells := 0, slots := 0, locals := 21 } : Room) [.int (nI 12), .int (nI 0)] [] (xQi D (fun (r : Int32) (_u : Unit) => r = nI 2) (fun (_u : Unit) => [])) := by
  refine xMet.intro (by decide) (Nat.le_of_ble_eq_true rfl) ?_
  intro p e s m args below meth c A ls C hP hD hS hl
  have hx := C.1
  have hb := C.2.1
  have hz := C.2.2.2.2.1
  have hown := C.2.2.2.1
  have hA := C.2.2.2.2.2.2.2.2.2
  have hAO := C.2.2.2.2.2.2.2.2.1.2.2
  replace hl : lv_has ls 4 [(0, .int (nI 12)), (1, .int (nI 0))] := hl
  obtain ⟨H, hH⟩ : ∃ H, H = s.heap := ⟨_, rfl⟩
  replace hP : va_P D vwCl [] H := by rw [hH]; exact hP
  replace hS : va_S A s.heap H [] := by rw [hH]; exact hS
  obtain ⟨locs, hlocs⟩ : ∃ z : List Loc, z = [] := ⟨_, rfl⟩
  rw [← hlocs] at hS
  suffices hW : W p l e ({ frames := 1, cells := 0, slots := 0, locals := 21 } : Room) s m args below meth c H locs 0 0 (MQ below ((xQi D (fun (r : Int32) (_u : Unit) => r = nI 2) (fun (_u : Unit) => [])) A) args s 0 0 A) (F0 m 0 ls []) by rw [hlocs, hH] at hW; exact hW
  clear hH hlocs
  refine lv_iload_n hx hb dX12_nth_0 rfl (lv_at hl 1 rfl) ?_
  refine lv_istore_n (lv' := [(2, .int (nI 0)), (0, .int (nI 12)), (1, .int (nI 0))]) hx hb dX12_nth_1 rfl hl (by decide) rfl ?_
  clear hl
  try clear ls
  intro ls hl
  refine lv_iconst (v := nI 0) hx hb dX12_nth_2 (by decide) ?_
  refine lv_istore_n (lv' := [(3, .int (nI 0)), (2, .int (nI 0)), (0, .int (nI 12)), (1, .int (nI 0))]) hx hb dX12_nth_3 rfl hl (by decide) rfl ?_
  clear hl
  try clear ls
  intro ls hl
  refine lv_iload_n hx hb dX12_nth_4 rfl (lv_at hl 2 rfl) ?_
  refine lv_iload_n hx hb dX12_nth_5 rfl (lv_at hl 0 rfl) ?_
  refine xi (wr := []) (xS (As := [.int (nI 12), .int (nI 0)]) (rest := []) C (c_X12_has l D cs (nI 12) (nI 0)) kX12_100 hP hD [] rfl (by decide +kernel) ⟨Nat.le_of_ble_eq_true rfl, Nat.le_of_ble_eq_true rfl⟩ rfl hl.1 rfl (Nat.le_of_ble_eq_true rfl) dX12_nth_6 ⟨Nat.le_of_ble_eq_true rfl, Nat.le_of_ble_eq_true rfl⟩) hP hD hS hA [] [] rfl rfl (by decide +kernel) (by decide +kernel) ?_
  clear hP hD hS
  try clear locs
  try clear H
  intro r_1 u_2 H locs hw_r_1 hP hD hS
  have hw_r_1 : PQ (((nI 12) >>> ((nI 0) &&& 31)) &&& nI 1 = nI 1) r_1 (nI 1) (nI 0) := hw_r_1
  refine W.widen (k := 0) (n := 0) (Nat.le_of_ble_eq_true rfl) (Nat.le_of_ble_eq_true rfl) ?_
  replace hP : va_P D vwCl [] H := hP
  replace hD : va_D A [] := hD
  obtain rfl : r_1 = nI 0 := by rcases hw_r_1 with ⟨q, _⟩ | ⟨_, e⟩; exact absurd q (by decide); exact e
  refine lv_if_ne (tgt := 15) hx hb dX12_nth_9 (by decide) (fun c => absurd (by decide) c) (fun _ => ?_)
  refine lv_goto (tgt := 24) hx hb dX12_nth_12 (by decide) ?_
  refine lv_iinc (v := nI 1) (lv' := [(3, .int (nI 1)), (2, .int (nI 0)), (0, .int (nI 12)), (1, .int (nI 0))]) hx hb dX12_nth_24 hl (k := 0) rfl (by decide) (by decide) rfl ?_
  clear hl
  try clear ls
  intro ls hl
  refine lv_goto (tgt := 4) hx hb dX12_nth_27 (by decide) ?_
  refine lv_iload_n hx hb dX12_nth_4 rfl (lv_at hl 2 rfl) ?_
  refine lv_iload_n hx hb dX12_nth_5 rfl (lv_at hl 0 rfl) ?_
  refine xi (wr := []) (xS (As := [.int (nI 12), .int (nI 1)]) (rest := []) C (c_X12_has l D cs (nI 12) (nI 1)) kX12_100 hP hD [] rfl (by decide +kernel) ⟨Nat.le_of_ble_eq_true rfl, Nat.le_of_ble_eq_true rfl⟩ rfl hl.1 rfl (Nat.le_of_ble_eq_true rfl) dX12_nth_6 ⟨Nat.le_of_ble_eq_true rfl, Nat.le_of_ble_eq_true rfl⟩) hP hD hS hA [] [] rfl rfl (by decide +kernel) (by decide +kernel) ?_
  clear hP hD hS
  try clear locs
  try clear H
  intro r_3 u_4 H locs hw_r_3 hP hD hS
  have hw_r_3 : PQ (((nI 12) >>> ((nI 1) &&& 31)) &&& nI 1 = nI 1) r_3 (nI 1) (nI 0) := hw_r_3
  refine W.widen (k := 0) (n := 0) (Nat.le_of_ble_eq_true rfl) (Nat.le_of_ble_eq_true rfl) ?_
  replace hP : va_P D vwCl [] H := hP
  replace hD : va_D A [] := hD
  obtain rfl : r_3 = nI 0 := by rcases hw_r_3 with ⟨q, _⟩ | ⟨_, e⟩; exact absurd q (by decide); exact e
  refine lv_if_ne (tgt := 15) hx hb dX12_nth_9 (by decide) (fun c => absurd (by decide) c) (fun _ => ?_)
  refine lv_goto (tgt := 24) hx hb dX12_nth_12 (by decide) ?_
  refine lv_iinc (v := nI 2) (lv' := [(3, .int (nI 2)), (2, .int (nI 0)), (0, .int (nI 12)), (1, .int (nI 0))]) hx hb dX12_nth_24 hl (k := 0) rfl (by decide) (by decide) rfl ?_
  clear hl
  try clear ls
  intro ls hl
  refine lv_goto (tgt := 4) hx hb dX12_nth_27 (by decide) ?_
  refine lv_iload_n hx hb dX12_nth_4 rfl (lv_at hl 2 rfl) ?_
  refine lv_iload_n hx hb dX12_nth_5 rfl (lv_at hl 0 rfl) ?_
  refine xi (wr := []) (xS (As := [.int (nI 12), .int (nI 2)]) (rest := []) C (c_X12_has l D cs (nI 12) (nI 2)) kX12_100 hP hD [] rfl (by decide +kernel) ⟨Nat.le_of_ble_eq_true rfl, Nat.le_of_ble_eq_true rfl⟩ rfl hl.1 rfl (Nat.le_of_ble_eq_true rfl) dX12_nth_6 ⟨Nat.le_of_ble_eq_true rfl, Nat.le_of_ble_eq_true rfl⟩) hP hD hS hA [] [] rfl rfl (by decide +kernel) (by decide +kernel) ?_
  clear hP hD hS
  try clear locs
  try clear H
  intro r_5 u_6 H locs hw_r_5 hP hD hS
  have hw_r_5 : PQ (((nI 12) >>> ((nI 2) &&& 31)) &&& nI 1 = nI 1) r_5 (nI 1) (nI 0) := hw_r_5
  refine W.widen (k := 0) (n := 0) (Nat.le_of_ble_eq_true rfl) (Nat.le_of_ble_eq_true rfl) ?_
  replace hP : va_P D vwCl [] H := hP
  replace hD : va_D A [] := hD
  obtain rfl : r_5 = nI 1 := by rcases hw_r_5 with ⟨_, e⟩ | ⟨q, _⟩; exact e; exact absurd (by decide) q
  refine lv_if_ne (tgt := 15) hx hb dX12_nth_9 (by decide) (fun _ => ?_) (fun c => absurd c (by decide))
  refine lv_iload_n hx hb dX12_nth_15 rfl (lv_at hl 1 rfl) ?_
  refine lv_if_ne (tgt := 21) hx hb dX12_nth_16 (by decide) (fun c => absurd (by decide) c) (fun _ => ?_)
  refine lv_iload_n hx hb dX12_nth_19 rfl (lv_at hl 0 rfl) ?_
  exact xreti C () rfl hP hD hS (Nat.le_of_ble_eq_true rfl) (Nat.le_of_ble_eq_true rfl) rfl dX12_nth_20

set_option maxHeartbeats 4000000 in
set_option maxRecDepth 100000 in
theorem c_X12_nth_12_1 (l : Launch) (D : va_G) (cs : Nat → ClassId) (u9 : Nat) : xMet l D cs yX12_nth cX12_nth 4 (some .int) ({ frames := 1, cells := 0, slots := 0, locals := 21 } : Room) [.int (nI 12), .int (nI 1)] [] (xQi D (fun (r : Int32) (_u : Unit) => r = nI 3) (fun (_u : Unit) => [])) := by
  refine xMet.intro (by decide) (Nat.le_of_ble_eq_true rfl) ?_
  intro p e s m args below meth c A ls C hP hD hS hl
  have hx := C.1
  have hb := C.2.1
  have hz := C.2.2.2.2.1
  have hown := C.2.2.2.1
  have hA := C.2.2.2.2.2.2.2.2.2
  have hAO := C.2.2.2.2.2.2.2.2.1.2.2
  replace hl : lv_has ls 4 [(0, .int (nI 12)), (1, .int (nI 1))] := hl
  obtain ⟨H, hH⟩ : ∃ H, H = s.heap := ⟨_, rfl⟩
  replace hP : va_P D vwCl [] H := by rw [hH]; exact hP
  replace hS : va_S A s.heap H [] := by rw [hH]; exact hS
  obtain ⟨locs, hlocs⟩ : ∃ z : List Loc, z = [] := ⟨_, rfl⟩
  rw [← hlocs] at hS
  suffices hW : W p l e ({ frames := 1, cells := 0, slots := 0, locals := 21 } : Room) s m args below meth c H locs 0 0 (MQ below ((xQi D (fun (r : Int32) (_u : Unit) => r = nI 3) (fun (_u : Unit) => [])) A) args s 0 0 A) (F0 m 0 ls []) by rw [hlocs, hH] at hW; exact hW
  clear hH hlocs
  refine lv_iload_n hx hb dX12_nth_0 rfl (lv_at hl 1 rfl) ?_
  refine lv_istore_n (lv' := [(2, .int (nI 1)), (0, .int (nI 12)), (1, .int (nI 1))]) hx hb dX12_nth_1 rfl hl (by decide) rfl ?_
  clear hl
  try clear ls
  intro ls hl
  refine lv_iconst (v := nI 0) hx hb dX12_nth_2 (by decide) ?_
  refine lv_istore_n (lv' := [(3, .int (nI 0)), (2, .int (nI 1)), (0, .int (nI 12)), (1, .int (nI 1))]) hx hb dX12_nth_3 rfl hl (by decide) rfl ?_
  clear hl
  try clear ls
  intro ls hl
  refine lv_iload_n hx hb dX12_nth_4 rfl (lv_at hl 2 rfl) ?_
  refine lv_iload_n hx hb dX12_nth_5 rfl (lv_at hl 0 rfl) ?_
  refine xi (wr := []) (xS (As := [.int (nI 12), .int (nI 0)]) (rest := []) C (c_X12_has l D cs (nI 12) (nI 0)) kX12_100 hP hD [] rfl (by decide +kernel) ⟨Nat.le_of_ble_eq_true rfl, Nat.le_of_ble_eq_true rfl⟩ rfl hl.1 rfl (Nat.le_of_ble_eq_true rfl) dX12_nth_6 ⟨Nat.le_of_ble_eq_true rfl, Nat.le_of_ble_eq_true rfl⟩) hP hD hS hA [] [] rfl rfl (by decide +kernel) (by decide +kernel) ?_
  clear hP hD hS
  try clear locs
  try clear H
  intro r_1 u_2 H locs hw_r_1 hP hD hS
  have hw_r_1 : PQ (((nI 12) >>> ((nI 0) &&& 31)) &&& nI 1 = nI 1) r_1 (nI 1) (nI 0) := hw_r_1
  refine W.widen (k := 0) (n := 0) (Nat.le_of_ble_eq_true rfl) (Nat.le_of_ble_eq_true rfl) ?_
  replace hP : va_P D vwCl [] H := hP
  replace hD : va_D A [] := hD
  obtain rfl : r_1 = nI 0 := by rcases hw_r_1 with ⟨q, _⟩ | ⟨_, e⟩; exact absurd q (by decide); exact e
  refine lv_if_ne (tgt := 15) hx hb dX12_nth_9 (by decide) (fun c => absurd (by decide) c) (fun _ => ?_)
  refine lv_goto (tgt := 24) hx hb dX12_nth_12 (by decide) ?_
  refine lv_iinc (v := nI 1) (lv' := [(3, .int (nI 1)), (2, .int (nI 1)), (0, .int (nI 12)), (1, .int (nI 1))]) hx hb dX12_nth_24 hl (k := 0) rfl (by decide) (by decide) rfl ?_
  clear hl
  try clear ls
  intro ls hl
  refine lv_goto (tgt := 4) hx hb dX12_nth_27 (by decide) ?_
  refine lv_iload_n hx hb dX12_nth_4 rfl (lv_at hl 2 rfl) ?_
  refine lv_iload_n hx hb dX12_nth_5 rfl (lv_at hl 0 rfl) ?_
  refine xi (wr := []) (xS (As := [.int (nI 12), .int (nI 1)]) (rest := []) C (c_X12_has l D cs (nI 12) (nI 1)) kX12_100 hP hD [] rfl (by decide +kernel) ⟨Nat.le_of_ble_eq_true rfl, Nat.le_of_ble_eq_true rfl⟩ rfl hl.1 rfl (Nat.le_of_ble_eq_true rfl) dX12_nth_6 ⟨Nat.le_of_ble_eq_true rfl, Nat.le_of_ble_eq_true rfl⟩) hP hD hS hA [] [] rfl rfl (by decide +kernel) (by decide +kernel) ?_
  clear hP hD hS
  try clear locs
  try clear H
  intro r_3 u_4 H locs hw_r_3 hP hD hS
  have hw_r_3 : PQ (((nI 12) >>> ((nI 1) &&& 31)) &&& nI 1 = nI 1) r_3 (nI 1) (nI 0) := hw_r_3
  refine W.widen (k := 0) (n := 0) (Nat.le_of_ble_eq_true rfl) (Nat.le_of_ble_eq_true rfl) ?_
  replace hP : va_P D vwCl [] H := hP
  replace hD : va_D A [] := hD
  obtain rfl : r_3 = nI 0 := by rcases hw_r_3 with ⟨q, _⟩ | ⟨_, e⟩; exact absurd q (by decide); exact e
  refine lv_if_ne (tgt := 15) hx hb dX12_nth_9 (by decide) (fun c => absurd (by decide) c) (fun _ => ?_)
  refine lv_goto (tgt := 24) hx hb dX12_nth_12 (by decide) ?_
  refine lv_iinc (v := nI 2) (lv' := [(3, .int (nI 2)), (2, .int (nI 1)), (0, .int (nI 12)), (1, .int (nI 1))]) hx hb dX12_nth_24 hl (k := 0) rfl (by decide) (by decide) rfl ?_
  clear hl
  try clear ls
  intro ls hl
  refine lv_goto (tgt := 4) hx hb dX12_nth_27 (by decide) ?_
  refine lv_iload_n hx hb dX12_nth_4 rfl (lv_at hl 2 rfl) ?_
  refine lv_iload_n hx hb dX12_nth_5 rfl (lv_at hl 0 rfl) ?_
  refine xi (wr := []) (xS (As := [.int (nI 12), .int (nI 2)]) (rest := []) C (c_X12_has l D cs (nI 12) (nI 2)) kX12_100 hP hD [] rfl (by decide +kernel) ⟨Nat.le_of_ble_eq_true rfl, Nat.le_of_ble_eq_true rfl⟩ rfl hl.1 rfl (Nat.le_of_ble_eq_true rfl) dX12_nth_6 ⟨Nat.le_of_ble_eq_true rfl, Nat.le_of_ble_eq_true rfl⟩) hP hD hS hA [] [] rfl rfl (by decide +kernel) (by decide +kernel) ?_
  clear hP hD hS
  try clear locs
  try clear H
  intro r_5 u_6 H locs hw_r_5 hP hD hS
  have hw_r_5 : PQ (((nI 12) >>> ((nI 2) &&& 31)) &&& nI 1 = nI 1) r_5 (nI 1) (nI 0) := hw_r_5
  refine W.widen (k := 0) (n := 0) (Nat.le_of_ble_eq_true rfl) (Nat.le_of_ble_eq_true rfl) ?_
  replace hP : va_P D vwCl [] H := hP
  replace hD : va_D A [] := hD
  obtain rfl : r_5 = nI 1 := by rcases hw_r_5 with ⟨_, e⟩ | ⟨q, _⟩; exact e; exact absurd (by decide) q
  refine lv_if_ne (tgt := 15) hx hb dX12_nth_9 (by decide) (fun _ => ?_) (fun c => absurd c (by decide))
  refine lv_iload_n hx hb dX12_nth_15 rfl (lv_at hl 1 rfl) ?_
  refine lv_if_ne (tgt := 21) hx hb dX12_nth_16 (by decide) (fun _ => ?_) (fun c => absurd c (by decide))
  refine lv_iinc (v := nI 0) (lv' := [(2, .int (nI 0)), (3, .int (nI 2)), (0, .int (nI 12)), (1, .int (nI 1))]) hx hb dX12_nth_21 hl (k := 1) rfl (by decide) (by decide) rfl ?_
  clear hl
  try clear ls
  intro ls hl
  refine lv_iinc (v := nI 3) (lv' := [(3, .int (nI 3)), (2, .int (nI 0)), (0, .int (nI 12)), (1, .int (nI 1))]) hx hb dX12_nth_24 hl (k := 1) rfl (by decide) (by decide) rfl ?_
  clear hl
  try clear ls
  intro ls hl
  refine lv_goto (tgt := 4) hx hb dX12_nth_27 (by decide) ?_
  refine lv_iload_n hx hb dX12_nth_4 rfl (lv_at hl 2 rfl) ?_
  refine lv_iload_n hx hb dX12_nth_5 rfl (lv_at hl 0 rfl) ?_
  refine xi (wr := []) (xS (As := [.int (nI 12), .int (nI 3)]) (rest := []) C (c_X12_has l D cs (nI 12) (nI 3)) kX12_100 hP hD [] rfl (by decide +kernel) ⟨Nat.le_of_ble_eq_true rfl, Nat.le_of_ble_eq_true rfl⟩ rfl hl.1 rfl (Nat.le_of_ble_eq_true rfl) dX12_nth_6 ⟨Nat.le_of_ble_eq_true rfl, Nat.le_of_ble_eq_true rfl⟩) hP hD hS hA [] [] rfl rfl (by decide +kernel) (by decide +kernel) ?_
  clear hP hD hS
  try clear locs
  try clear H
  intro r_7 u_8 H locs hw_r_7 hP hD hS
  have hw_r_7 : PQ (((nI 12) >>> ((nI 3) &&& 31)) &&& nI 1 = nI 1) r_7 (nI 1) (nI 0) := hw_r_7
  refine W.widen (k := 0) (n := 0) (Nat.le_of_ble_eq_true rfl) (Nat.le_of_ble_eq_true rfl) ?_
  replace hP : va_P D vwCl [] H := hP
  replace hD : va_D A [] := hD
  obtain rfl : r_7 = nI 1 := by rcases hw_r_7 with ⟨_, e⟩ | ⟨q, _⟩; exact e; exact absurd (by decide) q
  refine lv_if_ne (tgt := 15) hx hb dX12_nth_9 (by decide) (fun _ => ?_) (fun c => absurd c (by decide))
  refine lv_iload_n hx hb dX12_nth_15 rfl (lv_at hl 1 rfl) ?_
  refine lv_if_ne (tgt := 21) hx hb dX12_nth_16 (by decide) (fun c => absurd (by decide) c) (fun _ => ?_)
  refine lv_iload_n hx hb dX12_nth_19 rfl (lv_at hl 0 rfl) ?_
  exact xreti C () rfl hP hD hS (Nat.le_of_ble_eq_true rfl) (Nat.le_of_ble_eq_true rfl) rfl dX12_nth_20

set_option maxHeartbeats 4000000 in
set_option maxRecDepth 100000 in
theorem c_X12_nth_13_0 (l : Launch) (D : va_G) (cs : Nat → ClassId) (u9 : Nat) : xMet l D cs yX12_nth cX12_nth 4 (some .int) ({ frames := 1, cells := 0, slots := 0, locals := 21 } : Room) [.int (nI 13), .int (nI 0)] [] (xQi D (fun (r : Int32) (_u : Unit) => r = nI 0) (fun (_u : Unit) => [])) := by
  refine xMet.intro (by decide) (Nat.le_of_ble_eq_true rfl) ?_
  intro p e s m args below meth c A ls C hP hD hS hl
  have hx := C.1
  have hb := C.2.1
  have hz := C.2.2.2.2.1
  have hown := C.2.2.2.1
  have hA := C.2.2.2.2.2.2.2.2.2
  have hAO := C.2.2.2.2.2.2.2.2.1.2.2
  replace hl : lv_has ls 4 [(0, .int (nI 13)), (1, .int (nI 0))] := hl
  obtain ⟨H, hH⟩ : ∃ H, H = s.heap := ⟨_, rfl⟩
  replace hP : va_P D vwCl [] H := by rw [hH]; exact hP
  replace hS : va_S A s.heap H [] := by rw [hH]; exact hS
  obtain ⟨locs, hlocs⟩ : ∃ z : List Loc, z = [] := ⟨_, rfl⟩
  rw [← hlocs] at hS
  suffices hW : W p l e ({ frames := 1, cells := 0, slots := 0, locals := 21 } : Room) s m args below meth c H locs 0 0 (MQ below ((xQi D (fun (r : Int32) (_u : Unit) => r = nI 0) (fun (_u : Unit) => [])) A) args s 0 0 A) (F0 m 0 ls []) by rw [hlocs, hH] at hW; exact hW
  clear hH hlocs
  refine lv_iload_n hx hb dX12_nth_0 rfl (lv_at hl 1 rfl) ?_
  refine lv_istore_n (lv' := [(2, .int (nI 0)), (0, .int (nI 13)), (1, .int (nI 0))]) hx hb dX12_nth_1 rfl hl (by decide) rfl ?_
  clear hl
  try clear ls
  intro ls hl
  refine lv_iconst (v := nI 0) hx hb dX12_nth_2 (by decide) ?_
  refine lv_istore_n (lv' := [(3, .int (nI 0)), (2, .int (nI 0)), (0, .int (nI 13)), (1, .int (nI 0))]) hx hb dX12_nth_3 rfl hl (by decide) rfl ?_
  clear hl
  try clear ls
  intro ls hl
  refine lv_iload_n hx hb dX12_nth_4 rfl (lv_at hl 2 rfl) ?_
  refine lv_iload_n hx hb dX12_nth_5 rfl (lv_at hl 0 rfl) ?_
  refine xi (wr := []) (xS (As := [.int (nI 13), .int (nI 0)]) (rest := []) C (c_X12_has l D cs (nI 13) (nI 0)) kX12_100 hP hD [] rfl (by decide +kernel) ⟨Nat.le_of_ble_eq_true rfl, Nat.le_of_ble_eq_true rfl⟩ rfl hl.1 rfl (Nat.le_of_ble_eq_true rfl) dX12_nth_6 ⟨Nat.le_of_ble_eq_true rfl, Nat.le_of_ble_eq_true rfl⟩) hP hD hS hA [] [] rfl rfl (by decide +kernel) (by decide +kernel) ?_
  clear hP hD hS
  try clear locs
  try clear H
  intro r_1 u_2 H locs hw_r_1 hP hD hS
  have hw_r_1 : PQ (((nI 13) >>> ((nI 0) &&& 31)) &&& nI 1 = nI 1) r_1 (nI 1) (nI 0) := hw_r_1
  refine W.widen (k := 0) (n := 0) (Nat.le_of_ble_eq_true rfl) (Nat.le_of_ble_eq_true rfl) ?_
  replace hP : va_P D vwCl [] H := hP
  replace hD : va_D A [] := hD
  obtain rfl : r_1 = nI 1 := by rcases hw_r_1 with ⟨_, e⟩ | ⟨q, _⟩; exact e; exact absurd (by decide) q
  refine lv_if_ne (tgt := 15) hx hb dX12_nth_9 (by decide) (fun _ => ?_) (fun c => absurd c (by decide))
  refine lv_iload_n hx hb dX12_nth_15 rfl (lv_at hl 1 rfl) ?_
  refine lv_if_ne (tgt := 21) hx hb dX12_nth_16 (by decide) (fun c => absurd (by decide) c) (fun _ => ?_)
  refine lv_iload_n hx hb dX12_nth_19 rfl (lv_at hl 0 rfl) ?_
  exact xreti C () rfl hP hD hS (Nat.le_of_ble_eq_true rfl) (Nat.le_of_ble_eq_true rfl) rfl dX12_nth_20

set_option maxHeartbeats 4000000 in
set_option maxRecDepth 100000 in
theorem c_X12_nth_13_1 (l : Launch) (D : va_G) (cs : Nat → ClassId) (u9 : Nat) : xMet l D cs yX12_nth cX12_nth 4 (some .int) ({ frames := 1, cells := 0, slots := 0, locals := 21 } : Room) [.int (nI 13), .int (nI 1)] [] (xQi D (fun (r : Int32) (_u : Unit) => r = nI 2) (fun (_u : Unit) => [])) := by
  refine xMet.intro (by decide) (Nat.le_of_ble_eq_true rfl) ?_
  intro p e s m args below meth c A ls C hP hD hS hl
  have hx := C.1
  have hb := C.2.1
  have hz := C.2.2.2.2.1
  have hown := C.2.2.2.1
  have hA := C.2.2.2.2.2.2.2.2.2
  have hAO := C.2.2.2.2.2.2.2.2.1.2.2
  replace hl : lv_has ls 4 [(0, .int (nI 13)), (1, .int (nI 1))] := hl
  obtain ⟨H, hH⟩ : ∃ H, H = s.heap := ⟨_, rfl⟩
  replace hP : va_P D vwCl [] H := by rw [hH]; exact hP
  replace hS : va_S A s.heap H [] := by rw [hH]; exact hS
  obtain ⟨locs, hlocs⟩ : ∃ z : List Loc, z = [] := ⟨_, rfl⟩
  rw [← hlocs] at hS
  suffices hW : W p l e ({ frames := 1, cells := 0, slots := 0, locals := 21 } : Room) s m args below meth c H locs 0 0 (MQ below ((xQi D (fun (r : Int32) (_u : Unit) => r = nI 2) (fun (_u : Unit) => [])) A) args s 0 0 A) (F0 m 0 ls []) by rw [hlocs, hH] at hW; exact hW
  clear hH hlocs
  refine lv_iload_n hx hb dX12_nth_0 rfl (lv_at hl 1 rfl) ?_
  refine lv_istore_n (lv' := [(2, .int (nI 1)), (0, .int (nI 13)), (1, .int (nI 1))]) hx hb dX12_nth_1 rfl hl (by decide) rfl ?_
  clear hl
  try clear ls
  intro ls hl
  refine lv_iconst (v := nI 0) hx hb dX12_nth_2 (by decide) ?_
  refine lv_istore_n (lv' := [(3, .int (nI 0)), (2, .int (nI 1)), (0, .int (nI 13)), (1, .int (nI 1))]) hx hb dX12_nth_3 rfl hl (by decide) rfl ?_
  clear hl
  try clear ls
  intro ls hl
  refine lv_iload_n hx hb dX12_nth_4 rfl (lv_at hl 2 rfl) ?_
  refine lv_iload_n hx hb dX12_nth_5 rfl (lv_at hl 0 rfl) ?_
  refine xi (wr := []) (xS (As := [.int (nI 13), .int (nI 0)]) (rest := []) C (c_X12_has l D cs (nI 13) (nI 0)) kX12_100 hP hD [] rfl (by decide +kernel) ⟨Nat.le_of_ble_eq_true rfl, Nat.le_of_ble_eq_true rfl⟩ rfl hl.1 rfl (Nat.le_of_ble_eq_true rfl) dX12_nth_6 ⟨Nat.le_of_ble_eq_true rfl, Nat.le_of_ble_eq_true rfl⟩) hP hD hS hA [] [] rfl rfl (by decide +kernel) (by decide +kernel) ?_
  clear hP hD hS
  try clear locs
  try clear H
  intro r_1 u_2 H locs hw_r_1 hP hD hS
  have hw_r_1 : PQ (((nI 13) >>> ((nI 0) &&& 31)) &&& nI 1 = nI 1) r_1 (nI 1) (nI 0) := hw_r_1
  refine W.widen (k := 0) (n := 0) (Nat.le_of_ble_eq_true rfl) (Nat.le_of_ble_eq_true rfl) ?_
  replace hP : va_P D vwCl [] H := hP
  replace hD : va_D A [] := hD
  obtain rfl : r_1 = nI 1 := by rcases hw_r_1 with ⟨_, e⟩ | ⟨q, _⟩; exact e; exact absurd (by decide) q
  refine lv_if_ne (tgt := 15) hx hb dX12_nth_9 (by decide) (fun _ => ?_) (fun c => absurd c (by decide))
  refine lv_iload_n hx hb dX12_nth_15 rfl (lv_at hl 1 rfl) ?_
  refine lv_if_ne (tgt := 21) hx hb dX12_nth_16 (by decide) (fun _ => ?_) (fun c => absurd c (by decide))
  refine lv_iinc (v := nI 0) (lv' := [(2, .int (nI 0)), (3, .int (nI 0)), (0, .int (nI 13)), (1, .int (nI 1))]) hx hb dX12_nth_21 hl (k := 1) rfl (by decide) (by decide) rfl ?_
  clear hl
  try clear ls
  intro ls hl
  refine lv_iinc (v := nI 1) (lv' := [(3, .int (nI 1)), (2, .int (nI 0)), (0, .int (nI 13)), (1, .int (nI 1))]) hx hb dX12_nth_24 hl (k := 1) rfl (by decide) (by decide) rfl ?_
  clear hl
  try clear ls
  intro ls hl
  refine lv_goto (tgt := 4) hx hb dX12_nth_27 (by decide) ?_
  refine lv_iload_n hx hb dX12_nth_4 rfl (lv_at hl 2 rfl) ?_
  refine lv_iload_n hx hb dX12_nth_5 rfl (lv_at hl 0 rfl) ?_
  refine xi (wr := []) (xS (As := [.int (nI 13), .int (nI 1)]) (rest := []) C (c_X12_has l D cs (nI 13) (nI 1)) kX12_100 hP hD [] rfl (by decide +kernel) ⟨Nat.le_of_ble_eq_true rfl, Nat.le_of_ble_eq_true rfl⟩ rfl hl.1 rfl (Nat.le_of_ble_eq_true rfl) dX12_nth_6 ⟨Nat.le_of_ble_eq_true rfl, Nat.le_of_ble_eq_true rfl⟩) hP hD hS hA [] [] rfl rfl (by decide +kernel) (by decide +kernel) ?_
  clear hP hD hS
  try clear locs
  try clear H
  intro r_3 u_4 H locs hw_r_3 hP hD hS
  have hw_r_3 : PQ (((nI 13) >>> ((nI 1) &&& 31)) &&& nI 1 = nI 1) r_3 (nI 1) (nI 0) := hw_r_3
  refine W.widen (k := 0) (n := 0) (Nat.le_of_ble_eq_true rfl) (Nat.le_of_ble_eq_true rfl) ?_
  replace hP : va_P D vwCl [] H := hP
  replace hD : va_D A [] := hD
  obtain rfl : r_3 = nI 0 := by rcases hw_r_3 with ⟨q, _⟩ | ⟨_, e⟩; exact absurd q (by decide); exact e
  refine lv_if_ne (tgt := 15) hx hb dX12_nth_9 (by decide) (fun c => absurd (by decide) c) (fun _ => ?_)
  refine lv_goto (tgt := 24) hx hb dX12_nth_12 (by decide) ?_
  refine lv_iinc (v := nI 2) (lv' := [(3, .int (nI 2)), (2, .int (nI 0)), (0, .int (nI 13)), (1, .int (nI 1))]) hx hb dX12_nth_24 hl (k := 0) rfl (by decide) (by decide) rfl ?_
  clear hl
  try clear ls
  intro ls hl
  refine lv_goto (tgt := 4) hx hb dX12_nth_27 (by decide) ?_
  refine lv_iload_n hx hb dX12_nth_4 rfl (lv_at hl 2 rfl) ?_
  refine lv_iload_n hx hb dX12_nth_5 rfl (lv_at hl 0 rfl) ?_
  refine xi (wr := []) (xS (As := [.int (nI 13), .int (nI 2)]) (rest := []) C (c_X12_has l D cs (nI 13) (nI 2)) kX12_100 hP hD [] rfl (by decide +kernel) ⟨Nat.le_of_ble_eq_true rfl, Nat.le_of_ble_eq_true rfl⟩ rfl hl.1 rfl (Nat.le_of_ble_eq_true rfl) dX12_nth_6 ⟨Nat.le_of_ble_eq_true rfl, Nat.le_of_ble_eq_true rfl⟩) hP hD hS hA [] [] rfl rfl (by decide +kernel) (by decide +kernel) ?_
  clear hP hD hS
  try clear locs
  try clear H
  intro r_5 u_6 H locs hw_r_5 hP hD hS
  have hw_r_5 : PQ (((nI 13) >>> ((nI 2) &&& 31)) &&& nI 1 = nI 1) r_5 (nI 1) (nI 0) := hw_r_5
  refine W.widen (k := 0) (n := 0) (Nat.le_of_ble_eq_true rfl) (Nat.le_of_ble_eq_true rfl) ?_
  replace hP : va_P D vwCl [] H := hP
  replace hD : va_D A [] := hD
  obtain rfl : r_5 = nI 1 := by rcases hw_r_5 with ⟨_, e⟩ | ⟨q, _⟩; exact e; exact absurd (by decide) q
  refine lv_if_ne (tgt := 15) hx hb dX12_nth_9 (by decide) (fun _ => ?_) (fun c => absurd c (by decide))
  refine lv_iload_n hx hb dX12_nth_15 rfl (lv_at hl 1 rfl) ?_
  refine lv_if_ne (tgt := 21) hx hb dX12_nth_16 (by decide) (fun c => absurd (by decide) c) (fun _ => ?_)
  refine lv_iload_n hx hb dX12_nth_19 rfl (lv_at hl 0 rfl) ?_
  exact xreti C () rfl hP hD hS (Nat.le_of_ble_eq_true rfl) (Nat.le_of_ble_eq_true rfl) rfl dX12_nth_20

set_option maxHeartbeats 4000000 in
set_option maxRecDepth 100000 in
theorem c_X12_nth_13_2 (l : Launch) (D : va_G) (cs : Nat → ClassId) (u9 : Nat) : xMet l D cs yX12_nth cX12_nth 4 (some .int) ({ frames := 1, cells := 0, slots := 0, locals := 21 } : Room) [.int (nI 13), .int (nI 2)] [] (xQi D (fun (r : Int32) (_u : Unit) => r = nI 3) (fun (_u : Unit) => [])) := by
  refine xMet.intro (by decide) (Nat.le_of_ble_eq_true rfl) ?_
  intro p e s m args below meth c A ls C hP hD hS hl
  have hx := C.1
  have hb := C.2.1
  have hz := C.2.2.2.2.1
  have hown := C.2.2.2.1
  have hA := C.2.2.2.2.2.2.2.2.2
  have hAO := C.2.2.2.2.2.2.2.2.1.2.2
  replace hl : lv_has ls 4 [(0, .int (nI 13)), (1, .int (nI 2))] := hl
  obtain ⟨H, hH⟩ : ∃ H, H = s.heap := ⟨_, rfl⟩
  replace hP : va_P D vwCl [] H := by rw [hH]; exact hP
  replace hS : va_S A s.heap H [] := by rw [hH]; exact hS
  obtain ⟨locs, hlocs⟩ : ∃ z : List Loc, z = [] := ⟨_, rfl⟩
  rw [← hlocs] at hS
  suffices hW : W p l e ({ frames := 1, cells := 0, slots := 0, locals := 21 } : Room) s m args below meth c H locs 0 0 (MQ below ((xQi D (fun (r : Int32) (_u : Unit) => r = nI 3) (fun (_u : Unit) => [])) A) args s 0 0 A) (F0 m 0 ls []) by rw [hlocs, hH] at hW; exact hW
  clear hH hlocs
  refine lv_iload_n hx hb dX12_nth_0 rfl (lv_at hl 1 rfl) ?_
  refine lv_istore_n (lv' := [(2, .int (nI 2)), (0, .int (nI 13)), (1, .int (nI 2))]) hx hb dX12_nth_1 rfl hl (by decide) rfl ?_
  clear hl
  try clear ls
  intro ls hl
  refine lv_iconst (v := nI 0) hx hb dX12_nth_2 (by decide) ?_
  refine lv_istore_n (lv' := [(3, .int (nI 0)), (2, .int (nI 2)), (0, .int (nI 13)), (1, .int (nI 2))]) hx hb dX12_nth_3 rfl hl (by decide) rfl ?_
  clear hl
  try clear ls
  intro ls hl
  refine lv_iload_n hx hb dX12_nth_4 rfl (lv_at hl 2 rfl) ?_
  refine lv_iload_n hx hb dX12_nth_5 rfl (lv_at hl 0 rfl) ?_
  refine xi (wr := []) (xS (As := [.int (nI 13), .int (nI 0)]) (rest := []) C (c_X12_has l D cs (nI 13) (nI 0)) kX12_100 hP hD [] rfl (by decide +kernel) ⟨Nat.le_of_ble_eq_true rfl, Nat.le_of_ble_eq_true rfl⟩ rfl hl.1 rfl (Nat.le_of_ble_eq_true rfl) dX12_nth_6 ⟨Nat.le_of_ble_eq_true rfl, Nat.le_of_ble_eq_true rfl⟩) hP hD hS hA [] [] rfl rfl (by decide +kernel) (by decide +kernel) ?_
  clear hP hD hS
  try clear locs
  try clear H
  intro r_1 u_2 H locs hw_r_1 hP hD hS
  have hw_r_1 : PQ (((nI 13) >>> ((nI 0) &&& 31)) &&& nI 1 = nI 1) r_1 (nI 1) (nI 0) := hw_r_1
  refine W.widen (k := 0) (n := 0) (Nat.le_of_ble_eq_true rfl) (Nat.le_of_ble_eq_true rfl) ?_
  replace hP : va_P D vwCl [] H := hP
  replace hD : va_D A [] := hD
  obtain rfl : r_1 = nI 1 := by rcases hw_r_1 with ⟨_, e⟩ | ⟨q, _⟩; exact e; exact absurd (by decide) q
  refine lv_if_ne (tgt := 15) hx hb dX12_nth_9 (by decide) (fun _ => ?_) (fun c => absurd c (by decide))
  refine lv_iload_n hx hb dX12_nth_15 rfl (lv_at hl 1 rfl) ?_
  refine lv_if_ne (tgt := 21) hx hb dX12_nth_16 (by decide) (fun _ => ?_) (fun c => absurd c (by decide))
  refine lv_iinc (v := nI 1) (lv' := [(2, .int (nI 1)), (3, .int (nI 0)), (0, .int (nI 13)), (1, .int (nI 2))]) hx hb dX12_nth_21 hl (k := 1) rfl (by decide) (by decide) rfl ?_
  clear hl
  try clear ls
  intro ls hl
  refine lv_iinc (v := nI 1) (lv' := [(3, .int (nI 1)), (2, .int (nI 1)), (0, .int (nI 13)), (1, .int (nI 2))]) hx hb dX12_nth_24 hl (k := 1) rfl (by decide) (by decide) rfl ?_
  clear hl
  try clear ls
  intro ls hl
  refine lv_goto (tgt := 4) hx hb dX12_nth_27 (by decide) ?_
  refine lv_iload_n hx hb dX12_nth_4 rfl (lv_at hl 2 rfl) ?_
  refine lv_iload_n hx hb dX12_nth_5 rfl (lv_at hl 0 rfl) ?_
  refine xi (wr := []) (xS (As := [.int (nI 13), .int (nI 1)]) (rest := []) C (c_X12_has l D cs (nI 13) (nI 1)) kX12_100 hP hD [] rfl (by decide +kernel) ⟨Nat.le_of_ble_eq_true rfl, Nat.le_of_ble_eq_true rfl⟩ rfl hl.1 rfl (Nat.le_of_ble_eq_true rfl) dX12_nth_6 ⟨Nat.le_of_ble_eq_true rfl, Nat.le_of_ble_eq_true rfl⟩) hP hD hS hA [] [] rfl rfl (by decide +kernel) (by decide +kernel) ?_
  clear hP hD hS
  try clear locs
  try clear H
  intro r_3 u_4 H locs hw_r_3 hP hD hS
  have hw_r_3 : PQ (((nI 13) >>> ((nI 1) &&& 31)) &&& nI 1 = nI 1) r_3 (nI 1) (nI 0) := hw_r_3
  refine W.widen (k := 0) (n := 0) (Nat.le_of_ble_eq_true rfl) (Nat.le_of_ble_eq_true rfl) ?_
  replace hP : va_P D vwCl [] H := hP
  replace hD : va_D A [] := hD
  obtain rfl : r_3 = nI 0 := by rcases hw_r_3 with ⟨q, _⟩ | ⟨_, e⟩; exact absurd q (by decide); exact e
  refine lv_if_ne (tgt := 15) hx hb dX12_nth_9 (by decide) (fun c => absurd (by decide) c) (fun _ => ?_)
  refine lv_goto (tgt := 24) hx hb dX12_nth_12 (by decide) ?_
  refine lv_iinc (v := nI 2) (lv' := [(3, .int (nI 2)), (2, .int (nI 1)), (0, .int (nI 13)), (1, .int (nI 2))]) hx hb dX12_nth_24 hl (k := 0) rfl (by decide) (by decide) rfl ?_
  clear hl
  try clear ls
  intro ls hl
  refine lv_goto (tgt := 4) hx hb dX12_nth_27 (by decide) ?_
  refine lv_iload_n hx hb dX12_nth_4 rfl (lv_at hl 2 rfl) ?_
  refine lv_iload_n hx hb dX12_nth_5 rfl (lv_at hl 0 rfl) ?_
  refine xi (wr := []) (xS (As := [.int (nI 13), .int (nI 2)]) (rest := []) C (c_X12_has l D cs (nI 13) (nI 2)) kX12_100 hP hD [] rfl (by decide +kernel) ⟨Nat.le_of_ble_eq_true rfl, Nat.le_of_ble_eq_true rfl⟩ rfl hl.1 rfl (Nat.le_of_ble_eq_true rfl) dX12_nth_6 ⟨Nat.le_of_ble_eq_true rfl, Nat.le_of_ble_eq_true rfl⟩) hP hD hS hA [] [] rfl rfl (by decide +kernel) (by decide +kernel) ?_
  clear hP hD hS
  try clear locs
  try clear H
  intro r_5 u_6 H locs hw_r_5 hP hD hS
  have hw_r_5 : PQ (((nI 13) >>> ((nI 2) &&& 31)) &&& nI 1 = nI 1) r_5 (nI 1) (nI 0) := hw_r_5
  refine W.widen (k := 0) (n := 0) (Nat.le_of_ble_eq_true rfl) (Nat.le_of_ble_eq_true rfl) ?_
  replace hP : va_P D vwCl [] H := hP
  replace hD : va_D A [] := hD
  obtain rfl : r_5 = nI 1 := by rcases hw_r_5 with ⟨_, e⟩ | ⟨q, _⟩; exact e; exact absurd (by decide) q
  refine lv_if_ne (tgt := 15) hx hb dX12_nth_9 (by decide) (fun _ => ?_) (fun c => absurd c (by decide))
  refine lv_iload_n hx hb dX12_nth_15 rfl (lv_at hl 1 rfl) ?_
  refine lv_if_ne (tgt := 21) hx hb dX12_nth_16 (by decide) (fun _ => ?_) (fun c => absurd c (by decide))
  refine lv_iinc (v := nI 0) (lv' := [(2, .int (nI 0)), (3, .int (nI 2)), (0, .int (nI 13)), (1, .int (nI 2))]) hx hb dX12_nth_21 hl (k := 1) rfl (by decide) (by decide) rfl ?_
  clear hl
  try clear ls
  intro ls hl
  refine lv_iinc (v := nI 3) (lv' := [(3, .int (nI 3)), (2, .int (nI 0)), (0, .int (nI 13)), (1, .int (nI 2))]) hx hb dX12_nth_24 hl (k := 1) rfl (by decide) (by decide) rfl ?_
  clear hl
  try clear ls
  intro ls hl
  refine lv_goto (tgt := 4) hx hb dX12_nth_27 (by decide) ?_
  refine lv_iload_n hx hb dX12_nth_4 rfl (lv_at hl 2 rfl) ?_
  refine lv_iload_n hx hb dX12_nth_5 rfl (lv_at hl 0 rfl) ?_
  refine xi (wr := []) (xS (As := [.int (nI 13), .int (nI 3)]) (rest := []) C (c_X12_has l D cs (nI 13) (nI 3)) kX12_100 hP hD [] rfl (by decide +kernel) ⟨Nat.le_of_ble_eq_true rfl, Nat.le_of_ble_eq_true rfl⟩ rfl hl.1 rfl (Nat.le_of_ble_eq_true rfl) dX12_nth_6 ⟨Nat.le_of_ble_eq_true rfl, Nat.le_of_ble_eq_true rfl⟩) hP hD hS hA [] [] rfl rfl (by decide +kernel) (by decide +kernel) ?_
  clear hP hD hS
  try clear locs
  try clear H
  intro r_7 u_8 H locs hw_r_7 hP hD hS
  have hw_r_7 : PQ (((nI 13) >>> ((nI 3) &&& 31)) &&& nI 1 = nI 1) r_7 (nI 1) (nI 0) := hw_r_7
  refine W.widen (k := 0) (n := 0) (Nat.le_of_ble_eq_true rfl) (Nat.le_of_ble_eq_true rfl) ?_
  replace hP : va_P D vwCl [] H := hP
  replace hD : va_D A [] := hD
  obtain rfl : r_7 = nI 1 := by rcases hw_r_7 with ⟨_, e⟩ | ⟨q, _⟩; exact e; exact absurd (by decide) q
  refine lv_if_ne (tgt := 15) hx hb dX12_nth_9 (by decide) (fun _ => ?_) (fun c => absurd c (by decide))
  refine lv_iload_n hx hb dX12_nth_15 rfl (lv_at hl 1 rfl) ?_
  refine lv_if_ne (tgt := 21) hx hb dX12_nth_16 (by decide) (fun c => absurd (by decide) c) (fun _ => ?_)
  refine lv_iload_n hx hb dX12_nth_19 rfl (lv_at hl 0 rfl) ?_
  exact xreti C () rfl hP hD hS (Nat.le_of_ble_eq_true rfl) (Nat.le_of_ble_eq_true rfl) rfl dX12_nth_20

set_option maxHeartbeats 4000000 in
set_option maxRecDepth 100000 in
theorem c_X12_nth_14_0 (l : Launch) (D : va_G) (cs : Nat → ClassId) (u9 : Nat) : xMet l D cs yX12_nth cX12_nth 4 (some .int) ({ frames := 1, cells := 0, slots := 0, locals := 21 } : Room) [.int (nI 14), .int (nI 0)] [] (xQi D (fun (r : Int32) (_u : Unit) => r = nI 1) (fun (_u : Unit) => [])) := by
  refine xMet.intro (by decide) (Nat.le_of_ble_eq_true rfl) ?_
  intro p e s m args below meth c A ls C hP hD hS hl
  have hx := C.1
  have hb := C.2.1
  have hz := C.2.2.2.2.1
  have hown := C.2.2.2.1
  have hA := C.2.2.2.2.2.2.2.2.2
  have hAO := C.2.2.2.2.2.2.2.2.1.2.2
  replace hl : lv_has ls 4 [(0, .int (nI 14)), (1, .int (nI 0))] := hl
  obtain ⟨H, hH⟩ : ∃ H, H = s.heap := ⟨_, rfl⟩
  replace hP : va_P D vwCl [] H := by rw [hH]; exact hP
  replace hS : va_S A s.heap H [] := by rw [hH]; exact hS
  obtain ⟨locs, hlocs⟩ : ∃ z : List Loc, z = [] := ⟨_, rfl⟩
  rw [← hlocs] at hS
  suffices hW : W p l e ({ frames := 1, cells := 0, slots := 0, locals := 21 } : Room) s m args below meth c H locs 0 0 (MQ below ((xQi D (fun (r : Int32) (_u : Unit) => r = nI 1) (fun (_u : Unit) => [])) A) args s 0 0 A) (F0 m 0 ls []) by rw [hlocs, hH] at hW; exact hW
  clear hH hlocs
  refine lv_iload_n hx hb dX12_nth_0 rfl (lv_at hl 1 rfl) ?_
  refine lv_istore_n (lv' := [(2, .int (nI 0)), (0, .int (nI 14)), (1, .int (nI 0))]) hx hb dX12_nth_1 rfl hl (by decide) rfl ?_
  clear hl
  try clear ls
  intro ls hl
  refine lv_iconst (v := nI 0) hx hb dX12_nth_2 (by decide) ?_
  refine lv_istore_n (lv' := [(3, .int (nI 0)), (2, .int (nI 0)), (0, .int (nI 14)), (1, .int (nI 0))]) hx hb dX12_nth_3 rfl hl (by decide) rfl ?_
  clear hl
  try clear ls
  intro ls hl
  refine lv_iload_n hx hb dX12_nth_4 rfl (lv_at hl 2 rfl) ?_
  refine lv_iload_n hx hb dX12_nth_5 rfl (lv_at hl 0 rfl) ?_
  refine xi (wr := []) (xS (As := [.int (nI 14), .int (nI 0)]) (rest := []) C (c_X12_has l D cs (nI 14) (nI 0)) kX12_100 hP hD [] rfl (by decide +kernel) ⟨Nat.le_of_ble_eq_true rfl, Nat.le_of_ble_eq_true rfl⟩ rfl hl.1 rfl (Nat.le_of_ble_eq_true rfl) dX12_nth_6 ⟨Nat.le_of_ble_eq_true rfl, Nat.le_of_ble_eq_true rfl⟩) hP hD hS hA [] [] rfl rfl (by decide +kernel) (by decide +kernel) ?_
  clear hP hD hS
  try clear locs
  try clear H
  intro r_1 u_2 H locs hw_r_1 hP hD hS
  have hw_r_1 : PQ (((nI 14) >>> ((nI 0) &&& 31)) &&& nI 1 = nI 1) r_1 (nI 1) (nI 0) := hw_r_1
  refine W.widen (k := 0) (n := 0) (Nat.le_of_ble_eq_true rfl) (Nat.le_of_ble_eq_true rfl) ?_
  replace hP : va_P D vwCl [] H := hP
  replace hD : va_D A [] := hD
  obtain rfl : r_1 = nI 0 := by rcases hw_r_1 with ⟨q, _⟩ | ⟨_, e⟩; exact absurd q (by decide); exact e
  refine lv_if_ne (tgt := 15) hx hb dX12_nth_9 (by decide) (fun c => absurd (by decide) c) (fun _ => ?_)
  refine lv_goto (tgt := 24) hx hb dX12_nth_12 (by decide) ?_
  refine lv_iinc (v := nI 1) (lv' := [(3, .int (nI 1)), (2, .int (nI 0)), (0, .int (nI 14)), (1, .int (nI 0))]) hx hb dX12_nth_24 hl (k := 0) rfl (by decide) (by decide) rfl ?_
  clear hl
  try clear ls
  intro ls hl
  refine lv_goto (tgt := 4) hx hb dX12_nth_27 (by decide) ?_
  refine lv_iload_n hx hb dX12_nth_4 rfl (lv_at hl 2 rfl) ?_
  refine lv_iload_n hx hb dX12_nth_5 rfl (lv_at hl 0 rfl) ?_
  refine xi (wr := []) (xS (As := [.int (nI 14), .int (nI 1)]) (rest := []) C (c_X12_has l D cs (nI 14) (nI 1)) kX12_100 hP hD [] rfl (by decide +kernel) ⟨Nat.le_of_ble_eq_true rfl, Nat.le_of_ble_eq_true rfl⟩ rfl hl.1 rfl (Nat.le_of_ble_eq_true rfl) dX12_nth_6 ⟨Nat.le_of_ble_eq_true rfl, Nat.le_of_ble_eq_true rfl⟩) hP hD hS hA [] [] rfl rfl (by decide +kernel) (by decide +kernel) ?_
  clear hP hD hS
  try clear locs
  try clear H
  intro r_3 u_4 H locs hw_r_3 hP hD hS
  have hw_r_3 : PQ (((nI 14) >>> ((nI 1) &&& 31)) &&& nI 1 = nI 1) r_3 (nI 1) (nI 0) := hw_r_3
  refine W.widen (k := 0) (n := 0) (Nat.le_of_ble_eq_true rfl) (Nat.le_of_ble_eq_true rfl) ?_
  replace hP : va_P D vwCl [] H := hP
  replace hD : va_D A [] := hD
  obtain rfl : r_3 = nI 1 := by rcases hw_r_3 with ⟨_, e⟩ | ⟨q, _⟩; exact e; exact absurd (by decide) q
  refine lv_if_ne (tgt := 15) hx hb dX12_nth_9 (by decide) (fun _ => ?_) (fun c => absurd c (by decide))
  refine lv_iload_n hx hb dX12_nth_15 rfl (lv_at hl 1 rfl) ?_
  refine lv_if_ne (tgt := 21) hx hb dX12_nth_16 (by decide) (fun c => absurd (by decide) c) (fun _ => ?_)
  refine lv_iload_n hx hb dX12_nth_19 rfl (lv_at hl 0 rfl) ?_
  exact xreti C () rfl hP hD hS (Nat.le_of_ble_eq_true rfl) (Nat.le_of_ble_eq_true rfl) rfl dX12_nth_20

set_option maxHeartbeats 4000000 in
set_option maxRecDepth 100000 in
theorem c_X12_nth_14_1 (l : Launch) (D : va_G) (cs : Nat → ClassId) (u9 : Nat) : xMet l D cs yX12_nth cX12_nth 4 (some .int) ({ frames := 1, cells := 0, slots := 0, locals := 21 } : Room) [.int (nI 14), .int (nI 1)] [] (xQi D (fun (r : Int32) (_u : Unit) => r = nI 2) (fun (_u : Unit) => [])) := by
  refine xMet.intro (by decide) (Nat.le_of_ble_eq_true rfl) ?_
  intro p e s m args below meth c A ls C hP hD hS hl
  have hx := C.1
  have hb := C.2.1
  have hz := C.2.2.2.2.1
  have hown := C.2.2.2.1
  have hA := C.2.2.2.2.2.2.2.2.2
  have hAO := C.2.2.2.2.2.2.2.2.1.2.2
  replace hl : lv_has ls 4 [(0, .int (nI 14)), (1, .int (nI 1))] := hl
  obtain ⟨H, hH⟩ : ∃ H, H = s.heap := ⟨_, rfl⟩
  replace hP : va_P D vwCl [] H := by rw [hH]; exact hP
  replace hS : va_S A s.heap H [] := by rw [hH]; exact hS
  obtain ⟨locs, hlocs⟩ : ∃ z : List Loc, z = [] := ⟨_, rfl⟩
  rw [← hlocs] at hS
  suffices hW : W p l e ({ frames := 1, cells := 0, slots := 0, locals := 21 } : Room) s m args below meth c H locs 0 0 (MQ below ((xQi D (fun (r : Int32) (_u : Unit) => r = nI 2) (fun (_u : Unit) => [])) A) args s 0 0 A) (F0 m 0 ls []) by rw [hlocs, hH] at hW; exact hW
  clear hH hlocs
  refine lv_iload_n hx hb dX12_nth_0 rfl (lv_at hl 1 rfl) ?_
  refine lv_istore_n (lv' := [(2, .int (nI 1)), (0, .int (nI 14)), (1, .int (nI 1))]) hx hb dX12_nth_1 rfl hl (by decide) rfl ?_
  clear hl
  try clear ls
  intro ls hl
  refine lv_iconst (v := nI 0) hx hb dX12_nth_2 (by decide) ?_
  refine lv_istore_n (lv' := [(3, .int (nI 0)), (2, .int (nI 1)), (0, .int (nI 14)), (1, .int (nI 1))]) hx hb dX12_nth_3 rfl hl (by decide) rfl ?_
  clear hl
  try clear ls
  intro ls hl
  refine lv_iload_n hx hb dX12_nth_4 rfl (lv_at hl 2 rfl) ?_
  refine lv_iload_n hx hb dX12_nth_5 rfl (lv_at hl 0 rfl) ?_
  refine xi (wr := []) (xS (As := [.int (nI 14), .int (nI 0)]) (rest := []) C (c_X12_has l D cs (nI 14) (nI 0)) kX12_100 hP hD [] rfl (by decide +kernel) ⟨Nat.le_of_ble_eq_true rfl, Nat.le_of_ble_eq_true rfl⟩ rfl hl.1 rfl (Nat.le_of_ble_eq_true rfl) dX12_nth_6 ⟨Nat.le_of_ble_eq_true rfl, Nat.le_of_ble_eq_true rfl⟩) hP hD hS hA [] [] rfl rfl (by decide +kernel) (by decide +kernel) ?_
  clear hP hD hS
  try clear locs
  try clear H
  intro r_1 u_2 H locs hw_r_1 hP hD hS
  have hw_r_1 : PQ (((nI 14) >>> ((nI 0) &&& 31)) &&& nI 1 = nI 1) r_1 (nI 1) (nI 0) := hw_r_1
  refine W.widen (k := 0) (n := 0) (Nat.le_of_ble_eq_true rfl) (Nat.le_of_ble_eq_true rfl) ?_
  replace hP : va_P D vwCl [] H := hP
  replace hD : va_D A [] := hD
  obtain rfl : r_1 = nI 0 := by rcases hw_r_1 with ⟨q, _⟩ | ⟨_, e⟩; exact absurd q (by decide); exact e
  refine lv_if_ne (tgt := 15) hx hb dX12_nth_9 (by decide) (fun c => absurd (by decide) c) (fun _ => ?_)
  refine lv_goto (tgt := 24) hx hb dX12_nth_12 (by decide) ?_
  refine lv_iinc (v := nI 1) (lv' := [(3, .int (nI 1)), (2, .int (nI 1)), (0, .int (nI 14)), (1, .int (nI 1))]) hx hb dX12_nth_24 hl (k := 0) rfl (by decide) (by decide) rfl ?_
  clear hl
  try clear ls
  intro ls hl
  refine lv_goto (tgt := 4) hx hb dX12_nth_27 (by decide) ?_
  refine lv_iload_n hx hb dX12_nth_4 rfl (lv_at hl 2 rfl) ?_
  refine lv_iload_n hx hb dX12_nth_5 rfl (lv_at hl 0 rfl) ?_
  refine xi (wr := []) (xS (As := [.int (nI 14), .int (nI 1)]) (rest := []) C (c_X12_has l D cs (nI 14) (nI 1)) kX12_100 hP hD [] rfl (by decide +kernel) ⟨Nat.le_of_ble_eq_true rfl, Nat.le_of_ble_eq_true rfl⟩ rfl hl.1 rfl (Nat.le_of_ble_eq_true rfl) dX12_nth_6 ⟨Nat.le_of_ble_eq_true rfl, Nat.le_of_ble_eq_true rfl⟩) hP hD hS hA [] [] rfl rfl (by decide +kernel) (by decide +kernel) ?_
  clear hP hD hS
  try clear locs
  try clear H
  intro r_3 u_4 H locs hw_r_3 hP hD hS
  have hw_r_3 : PQ (((nI 14) >>> ((nI 1) &&& 31)) &&& nI 1 = nI 1) r_3 (nI 1) (nI 0) := hw_r_3
  refine W.widen (k := 0) (n := 0) (Nat.le_of_ble_eq_true rfl) (Nat.le_of_ble_eq_true rfl) ?_
  replace hP : va_P D vwCl [] H := hP
  replace hD : va_D A [] := hD
  obtain rfl : r_3 = nI 1 := by rcases hw_r_3 with ⟨_, e⟩ | ⟨q, _⟩; exact e; exact absurd (by decide) q
  refine lv_if_ne (tgt := 15) hx hb dX12_nth_9 (by decide) (fun _ => ?_) (fun c => absurd c (by decide))
  refine lv_iload_n hx hb dX12_nth_15 rfl (lv_at hl 1 rfl) ?_
  refine lv_if_ne (tgt := 21) hx hb dX12_nth_16 (by decide) (fun _ => ?_) (fun c => absurd c (by decide))
  refine lv_iinc (v := nI 0) (lv' := [(2, .int (nI 0)), (3, .int (nI 1)), (0, .int (nI 14)), (1, .int (nI 1))]) hx hb dX12_nth_21 hl (k := 1) rfl (by decide) (by decide) rfl ?_
  clear hl
  try clear ls
  intro ls hl
  refine lv_iinc (v := nI 2) (lv' := [(3, .int (nI 2)), (2, .int (nI 0)), (0, .int (nI 14)), (1, .int (nI 1))]) hx hb dX12_nth_24 hl (k := 1) rfl (by decide) (by decide) rfl ?_
  clear hl
  try clear ls
  intro ls hl
  refine lv_goto (tgt := 4) hx hb dX12_nth_27 (by decide) ?_
  refine lv_iload_n hx hb dX12_nth_4 rfl (lv_at hl 2 rfl) ?_
  refine lv_iload_n hx hb dX12_nth_5 rfl (lv_at hl 0 rfl) ?_
  refine xi (wr := []) (xS (As := [.int (nI 14), .int (nI 2)]) (rest := []) C (c_X12_has l D cs (nI 14) (nI 2)) kX12_100 hP hD [] rfl (by decide +kernel) ⟨Nat.le_of_ble_eq_true rfl, Nat.le_of_ble_eq_true rfl⟩ rfl hl.1 rfl (Nat.le_of_ble_eq_true rfl) dX12_nth_6 ⟨Nat.le_of_ble_eq_true rfl, Nat.le_of_ble_eq_true rfl⟩) hP hD hS hA [] [] rfl rfl (by decide +kernel) (by decide +kernel) ?_
  clear hP hD hS
  try clear locs
  try clear H
  intro r_5 u_6 H locs hw_r_5 hP hD hS
  have hw_r_5 : PQ (((nI 14) >>> ((nI 2) &&& 31)) &&& nI 1 = nI 1) r_5 (nI 1) (nI 0) := hw_r_5
  refine W.widen (k := 0) (n := 0) (Nat.le_of_ble_eq_true rfl) (Nat.le_of_ble_eq_true rfl) ?_
  replace hP : va_P D vwCl [] H := hP
  replace hD : va_D A [] := hD
  obtain rfl : r_5 = nI 1 := by rcases hw_r_5 with ⟨_, e⟩ | ⟨q, _⟩; exact e; exact absurd (by decide) q
  refine lv_if_ne (tgt := 15) hx hb dX12_nth_9 (by decide) (fun _ => ?_) (fun c => absurd c (by decide))
  refine lv_iload_n hx hb dX12_nth_15 rfl (lv_at hl 1 rfl) ?_
  refine lv_if_ne (tgt := 21) hx hb dX12_nth_16 (by decide) (fun c => absurd (by decide) c) (fun _ => ?_)
  refine lv_iload_n hx hb dX12_nth_19 rfl (lv_at hl 0 rfl) ?_
  exact xreti C () rfl hP hD hS (Nat.le_of_ble_eq_true rfl) (Nat.le_of_ble_eq_true rfl) rfl dX12_nth_20

set_option maxHeartbeats 4000000 in
set_option maxRecDepth 100000 in
theorem c_X12_nth_14_2 (l : Launch) (D : va_G) (cs : Nat → ClassId) (u9 : Nat) : xMet l D cs yX12_nth cX12_nth 4 (some .int) ({ frames := 1, cells := 0, slots := 0, locals := 21 } : Room) [.int (nI 14), .int (nI 2)] [] (xQi D (fun (r : Int32) (_u : Unit) => r = nI 3) (fun (_u : Unit) => [])) := by
  refine xMet.intro (by decide) (Nat.le_of_ble_eq_true rfl) ?_
  intro p e s m args below meth c A ls C hP hD hS hl
  have hx := C.1
  have hb := C.2.1
  have hz := C.2.2.2.2.1
  have hown := C.2.2.2.1
  have hA := C.2.2.2.2.2.2.2.2.2
  have hAO := C.2.2.2.2.2.2.2.2.1.2.2
  replace hl : lv_has ls 4 [(0, .int (nI 14)), (1, .int (nI 2))] := hl
  obtain ⟨H, hH⟩ : ∃ H, H = s.heap := ⟨_, rfl⟩
  replace hP : va_P D vwCl [] H := by rw [hH]; exact hP
  replace hS : va_S A s.heap H [] := by rw [hH]; exact hS
  obtain ⟨locs, hlocs⟩ : ∃ z : List Loc, z = [] := ⟨_, rfl⟩
  rw [← hlocs] at hS
  suffices hW : W p l e ({ frames := 1, cells := 0, slots := 0, locals := 21 } : Room) s m args below meth c H locs 0 0 (MQ below ((xQi D (fun (r : Int32) (_u : Unit) => r = nI 3) (fun (_u : Unit) => [])) A) args s 0 0 A) (F0 m 0 ls []) by rw [hlocs, hH] at hW; exact hW
  clear hH hlocs
  refine lv_iload_n hx hb dX12_nth_0 rfl (lv_at hl 1 rfl) ?_
  refine lv_istore_n (lv' := [(2, .int (nI 2)), (0, .int (nI 14)), (1, .int (nI 2))]) hx hb dX12_nth_1 rfl hl (by decide) rfl ?_
  clear hl
  try clear ls
  intro ls hl
  refine lv_iconst (v := nI 0) hx hb dX12_nth_2 (by decide) ?_
  refine lv_istore_n (lv' := [(3, .int (nI 0)), (2, .int (nI 2)), (0, .int (nI 14)), (1, .int (nI 2))]) hx hb dX12_nth_3 rfl hl (by decide) rfl ?_
  clear hl
  try clear ls
  intro ls hl
  refine lv_iload_n hx hb dX12_nth_4 rfl (lv_at hl 2 rfl) ?_
  refine lv_iload_n hx hb dX12_nth_5 rfl (lv_at hl 0 rfl) ?_
  refine xi (wr := []) (xS (As := [.int (nI 14), .int (nI 0)]) (rest := []) C (c_X12_has l D cs (nI 14) (nI 0)) kX12_100 hP hD [] rfl (by decide +kernel) ⟨Nat.le_of_ble_eq_true rfl, Nat.le_of_ble_eq_true rfl⟩ rfl hl.1 rfl (Nat.le_of_ble_eq_true rfl) dX12_nth_6 ⟨Nat.le_of_ble_eq_true rfl, Nat.le_of_ble_eq_true rfl⟩) hP hD hS hA [] [] rfl rfl (by decide +kernel) (by decide +kernel) ?_
  clear hP hD hS
  try clear locs
  try clear H
  intro r_1 u_2 H locs hw_r_1 hP hD hS
  have hw_r_1 : PQ (((nI 14) >>> ((nI 0) &&& 31)) &&& nI 1 = nI 1) r_1 (nI 1) (nI 0) := hw_r_1
  refine W.widen (k := 0) (n := 0) (Nat.le_of_ble_eq_true rfl) (Nat.le_of_ble_eq_true rfl) ?_
  replace hP : va_P D vwCl [] H := hP
  replace hD : va_D A [] := hD
  obtain rfl : r_1 = nI 0 := by rcases hw_r_1 with ⟨q, _⟩ | ⟨_, e⟩; exact absurd q (by decide); exact e
  refine lv_if_ne (tgt := 15) hx hb dX12_nth_9 (by decide) (fun c => absurd (by decide) c) (fun _ => ?_)
  refine lv_goto (tgt := 24) hx hb dX12_nth_12 (by decide) ?_
  refine lv_iinc (v := nI 1) (lv' := [(3, .int (nI 1)), (2, .int (nI 2)), (0, .int (nI 14)), (1, .int (nI 2))]) hx hb dX12_nth_24 hl (k := 0) rfl (by decide) (by decide) rfl ?_
  clear hl
  try clear ls
  intro ls hl
  refine lv_goto (tgt := 4) hx hb dX12_nth_27 (by decide) ?_
  refine lv_iload_n hx hb dX12_nth_4 rfl (lv_at hl 2 rfl) ?_
  refine lv_iload_n hx hb dX12_nth_5 rfl (lv_at hl 0 rfl) ?_
  refine xi (wr := []) (xS (As := [.int (nI 14), .int (nI 1)]) (rest := []) C (c_X12_has l D cs (nI 14) (nI 1)) kX12_100 hP hD [] rfl (by decide +kernel) ⟨Nat.le_of_ble_eq_true rfl, Nat.le_of_ble_eq_true rfl⟩ rfl hl.1 rfl (Nat.le_of_ble_eq_true rfl) dX12_nth_6 ⟨Nat.le_of_ble_eq_true rfl, Nat.le_of_ble_eq_true rfl⟩) hP hD hS hA [] [] rfl rfl (by decide +kernel) (by decide +kernel) ?_
  clear hP hD hS
  try clear locs
  try clear H
  intro r_3 u_4 H locs hw_r_3 hP hD hS
  have hw_r_3 : PQ (((nI 14) >>> ((nI 1) &&& 31)) &&& nI 1 = nI 1) r_3 (nI 1) (nI 0) := hw_r_3
  refine W.widen (k := 0) (n := 0) (Nat.le_of_ble_eq_true rfl) (Nat.le_of_ble_eq_true rfl) ?_
  replace hP : va_P D vwCl [] H := hP
  replace hD : va_D A [] := hD
  obtain rfl : r_3 = nI 1 := by rcases hw_r_3 with ⟨_, e⟩ | ⟨q, _⟩; exact e; exact absurd (by decide) q
  refine lv_if_ne (tgt := 15) hx hb dX12_nth_9 (by decide) (fun _ => ?_) (fun c => absurd c (by decide))
  refine lv_iload_n hx hb dX12_nth_15 rfl (lv_at hl 1 rfl) ?_
  refine lv_if_ne (tgt := 21) hx hb dX12_nth_16 (by decide) (fun _ => ?_) (fun c => absurd c (by decide))
  refine lv_iinc (v := nI 1) (lv' := [(2, .int (nI 1)), (3, .int (nI 1)), (0, .int (nI 14)), (1, .int (nI 2))]) hx hb dX12_nth_21 hl (k := 1) rfl (by decide) (by decide) rfl ?_
  clear hl
  try clear ls
  intro ls hl
  refine lv_iinc (v := nI 2) (lv' := [(3, .int (nI 2)), (2, .int (nI 1)), (0, .int (nI 14)), (1, .int (nI 2))]) hx hb dX12_nth_24 hl (k := 1) rfl (by decide) (by decide) rfl ?_
  clear hl
  try clear ls
  intro ls hl
  refine lv_goto (tgt := 4) hx hb dX12_nth_27 (by decide) ?_
  refine lv_iload_n hx hb dX12_nth_4 rfl (lv_at hl 2 rfl) ?_
  refine lv_iload_n hx hb dX12_nth_5 rfl (lv_at hl 0 rfl) ?_
  refine xi (wr := []) (xS (As := [.int (nI 14), .int (nI 2)]) (rest := []) C (c_X12_has l D cs (nI 14) (nI 2)) kX12_100 hP hD [] rfl (by decide +kernel) ⟨Nat.le_of_ble_eq_true rfl, Nat.le_of_ble_eq_true rfl⟩ rfl hl.1 rfl (Nat.le_of_ble_eq_true rfl) dX12_nth_6 ⟨Nat.le_of_ble_eq_true rfl, Nat.le_of_ble_eq_true rfl⟩) hP hD hS hA [] [] rfl rfl (by decide +kernel) (by decide +kernel) ?_
  clear hP hD hS
  try clear locs
  try clear H
  intro r_5 u_6 H locs hw_r_5 hP hD hS
  have hw_r_5 : PQ (((nI 14) >>> ((nI 2) &&& 31)) &&& nI 1 = nI 1) r_5 (nI 1) (nI 0) := hw_r_5
  refine W.widen (k := 0) (n := 0) (Nat.le_of_ble_eq_true rfl) (Nat.le_of_ble_eq_true rfl) ?_
  replace hP : va_P D vwCl [] H := hP
  replace hD : va_D A [] := hD
  obtain rfl : r_5 = nI 1 := by rcases hw_r_5 with ⟨_, e⟩ | ⟨q, _⟩; exact e; exact absurd (by decide) q
  refine lv_if_ne (tgt := 15) hx hb dX12_nth_9 (by decide) (fun _ => ?_) (fun c => absurd c (by decide))
  refine lv_iload_n hx hb dX12_nth_15 rfl (lv_at hl 1 rfl) ?_
  refine lv_if_ne (tgt := 21) hx hb dX12_nth_16 (by decide) (fun _ => ?_) (fun c => absurd c (by decide))
  refine lv_iinc (v := nI 0) (lv' := [(2, .int (nI 0)), (3, .int (nI 2)), (0, .int (nI 14)), (1, .int (nI 2))]) hx hb dX12_nth_21 hl (k := 1) rfl (by decide) (by decide) rfl ?_
  clear hl
  try clear ls
  intro ls hl
  refine lv_iinc (v := nI 3) (lv' := [(3, .int (nI 3)), (2, .int (nI 0)), (0, .int (nI 14)), (1, .int (nI 2))]) hx hb dX12_nth_24 hl (k := 1) rfl (by decide) (by decide) rfl ?_
  clear hl
  try clear ls
  intro ls hl
  refine lv_goto (tgt := 4) hx hb dX12_nth_27 (by decide) ?_
  refine lv_iload_n hx hb dX12_nth_4 rfl (lv_at hl 2 rfl) ?_
  refine lv_iload_n hx hb dX12_nth_5 rfl (lv_at hl 0 rfl) ?_
  refine xi (wr := []) (xS (As := [.int (nI 14), .int (nI 3)]) (rest := []) C (c_X12_has l D cs (nI 14) (nI 3)) kX12_100 hP hD [] rfl (by decide +kernel) ⟨Nat.le_of_ble_eq_true rfl, Nat.le_of_ble_eq_true rfl⟩ rfl hl.1 rfl (Nat.le_of_ble_eq_true rfl) dX12_nth_6 ⟨Nat.le_of_ble_eq_true rfl, Nat.le_of_ble_eq_true rfl⟩) hP hD hS hA [] [] rfl rfl (by decide +kernel) (by decide +kernel) ?_
  clear hP hD hS
  try clear locs
  try clear H
  intro r_7 u_8 H locs hw_r_7 hP hD hS
  have hw_r_7 : PQ (((nI 14) >>> ((nI 3) &&& 31)) &&& nI 1 = nI 1) r_7 (nI 1) (nI 0) := hw_r_7
  refine W.widen (k := 0) (n := 0) (Nat.le_of_ble_eq_true rfl) (Nat.le_of_ble_eq_true rfl) ?_
  replace hP : va_P D vwCl [] H := hP
  replace hD : va_D A [] := hD
  obtain rfl : r_7 = nI 1 := by rcases hw_r_7 with ⟨_, e⟩ | ⟨q, _⟩; exact e; exact absurd (by decide) q
  refine lv_if_ne (tgt := 15) hx hb dX12_nth_9 (by decide) (fun _ => ?_) (fun c => absurd c (by decide))
  refine lv_iload_n hx hb dX12_nth_15 rfl (lv_at hl 1 rfl) ?_
  refine lv_if_ne (tgt := 21) hx hb dX12_nth_16 (by decide) (fun c => absurd (by decide) c) (fun _ => ?_)
  refine lv_iload_n hx hb dX12_nth_19 rfl (lv_at hl 0 rfl) ?_
  exact xreti C () rfl hP hD hS (Nat.le_of_ble_eq_true rfl) (Nat.le_of_ble_eq_true rfl) rfl dX12_nth_20
