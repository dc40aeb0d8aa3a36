set_option maxHeartbeats 4000000 in
set_option maxRecDepth 100000 in
theorem c_X12_isNode (l : Launch) (D : va_G) (cs : Nat → ClassId) (hm ms mkp mtr mas mso mon mot man mst msm mtb mti mfr mbn mbs mde maa mab mba mbb : Nat) (n k al be km en : Nat) (ea pr nq po th xd sF sN sS ig : Int32) (xa xb : Int64) (x : Int32) (hn : 2 ≤ n ∧ n ≤ 8) : xMet l D cs yX12_isNode cX12_isNode 2 (some .boolean) ({ frames := 1, cells := 0, slots := 0, locals := 22 } : Room) [.ref hm, .int x] [(hm, .inr (12, [.ref ms, .ref mkp, .int (nI km), .ref mtr, .int (nI n), .int (nI k), .int (nI al), .int (nI be), .int ea, .int pr, .ref mas, .int nq, .int po, .int (nI en), .ref mso, .ref mon, .ref mot, .ref man, .int th, .int xd, .ref mst, .ref msm, .ref mtb, .ref mti, .ref mfr, .ref mbn, .ref mbs, .ref mde, .int sF, .int sN, .int sS, .int ig, .long xa, .long xb, .ref maa, .ref mab, .ref mba, .ref mbb]))] (xQi D (fun (r : Int32) (_u : Unit) => PQ (okN n x) r (nI 1) (nI 0)) (fun (_u : Unit) => [(hm, .inr (12, [.ref ms, .ref mkp, .int (nI km), .ref mtr, .int (nI n), .int (nI k), .int (nI al), .int (nI be), .int ea, .int pr, .ref mas, .int nq, .int po, .int (nI en), .ref mso, .ref mon, .ref mot, .ref man, .int th, .int xd, .ref mst, .ref msm, .ref mtb, .ref mti, .ref mfr, .ref mbn, .ref mbs, .ref mde, .int sF, .int sN, .int sS, .int ig, .long xa, .long xb, .ref maa, .ref mab, .ref mba, .ref mbb]))])) := by
  refine xMet.intro (by decide) (Nat.le_of_ble_eq_true rfl) ?_
  intro p e s m args below meth c A ls C hP hD hS hl
  have hx := C.1
  have hb := C.2.1
  have hz := C.2.2.2.2.1
  have hown := C.2.2.2.1
  have hA := C.2.2.2.2.2.2.2.2.2
  have hAO := C.2.2.2.2.2.2.2.2.1.2.2
  replace hl : lv_has ls 2 [(0, .ref hm), (1, .int x)] := hl
  obtain ⟨H, hH⟩ : ∃ H, H = s.heap := ⟨_, rfl⟩
  replace hP : va_P D vwCl [(hm, .inr (12, [.ref ms, .ref mkp, .int (nI km), .ref mtr, .int (nI n), .int (nI k), .int (nI al), .int (nI be), .int ea, .int pr, .ref mas, .int nq, .int po, .int (nI en), .ref mso, .ref mon, .ref mot, .ref man, .int th, .int xd, .ref mst, .ref msm, .ref mtb, .ref mti, .ref mfr, .ref mbn, .ref mbs, .ref mde, .int sF, .int sN, .int sS, .int ig, .long xa, .long xb, .ref maa, .ref mab, .ref mba, .ref mbb]))] H := by rw [hH]; exact hP
  replace hS : va_S A s.heap H [] := by rw [hH]; exact hS
  obtain ⟨locs, hlocs⟩ : ∃ z : List Loc, z = [] := ⟨_, rfl⟩
  rw [← hlocs] at hS
  suffices hW : W p l e ({ frames := 1, cells := 0, slots := 0, locals := 22 } : Room) s m args below meth c H locs 0 0 (MQ below ((xQi D (fun (r : Int32) (_u : Unit) => PQ (okN n x) r (nI 1) (nI 0)) (fun (_u : Unit) => [(hm, .inr (12, [.ref ms, .ref mkp, .int (nI km), .ref mtr, .int (nI n), .int (nI k), .int (nI al), .int (nI be), .int ea, .int pr, .ref mas, .int nq, .int po, .int (nI en), .ref mso, .ref mon, .ref mot, .ref man, .int th, .int xd, .ref mst, .ref msm, .ref mtb, .ref mti, .ref mfr, .ref mbn, .ref mbs, .ref mde, .int sF, .int sN, .int sS, .int ig, .long xa, .long xb, .ref maa, .ref mab, .ref mba, .ref mbb]))])) A) args s 0 0 A) (F0 m 0 ls []) by rw [hlocs, hH] at hW; exact hW
  clear hH hlocs
  refine lv_iload_n hx hb dX12_isNode_0 rfl (lv_at hl 1 rfl) ?_
  refine lv_iconst (v := nI 0) hx hb dX12_isNode_1 (by decide) ?_
  refine lv_aload_n hx hb dX12_isNode_2 rfl (lv_at hl 0 rfl) ?_
  refine xget C hP 0 rfl rfl zuX12 4 (by decide) zw5_217 rfl dX12_isNode_3 ?_
  refine lv_iconst (v := nI 1) hx hb dX12_isNode_6 (by decide) ?_
  refine lv_isub hx hb dX12_isNode_7 ?_
  refine xi (wr := [(hm, .inr (12, [.ref ms, .ref mkp, .int (nI km), .ref mtr, .int (nI n), .int (nI k), .int (nI al), .int (nI be), .int ea, .int pr, .ref mas, .int nq, .int po, .int (nI en), .ref mso, .ref mon, .ref mot, .ref man, .int th, .int xd, .ref mst, .ref msm, .ref mtb, .ref mti, .ref mfr, .ref mbn, .ref mbs, .ref mde, .int sF, .int sN, .int sS, .int ig, .long xa, .long xb, .ref maa, .ref mab, .ref mba, .ref mbb]))]) (xS (As := [.int x, .int (nI 0), .int ((nI n) - (nI 1))]) (rest := []) C (c_X12_within l D cs x (nI 0) ((nI n) - (nI 1))) kX12_116 hP hD [] rfl (by decide +kernel) ⟨Nat.le_of_ble_eq_true rfl, Nat.le_of_ble_eq_true rfl⟩ rfl hl.1 rfl (Nat.le_of_ble_eq_true rfl) dX12_isNode_8 ⟨Nat.le_of_ble_eq_true rfl, Nat.le_of_ble_eq_true rfl⟩) hP hD hS hA [] [0] rfl rfl (by decide +kernel) (by decide +kernel) ?_
  clear hP hD hS
  try clear locs
  try clear H
  intro r_1 u_2 H locs hw_r_1 hP hD hS
  have hw_r_1 : PQ (¬ x < (nI 0) ∧ x ≤ ((nI n) - (nI 1))) r_1 (nI 1) (nI 0) := hw_r_1
  refine W.widen (k := 0) (n := 0) (Nat.le_of_ble_eq_true rfl) (Nat.le_of_ble_eq_true rfl) ?_
  replace hP : va_P D vwCl [(hm, .inr (12, [.ref ms, .ref mkp, .int (nI km), .ref mtr, .int (nI n), .int (nI k), .int (nI al), .int (nI be), .int ea, .int pr, .ref mas, .int nq, .int po, .int (nI en), .ref mso, .ref mon, .ref mot, .ref man, .int th, .int xd, .ref mst, .ref msm, .ref mtb, .ref mti, .ref mfr, .ref mbn, .ref mbs, .ref mde, .int sF, .int sN, .int sS, .int ig, .long xa, .long xb, .ref maa, .ref mab, .ref mba, .ref mbb]))] H := hP
  replace hD : va_D A [(hm, .inr (12, [.ref ms, .ref mkp, .int (nI km), .ref mtr, .int (nI n), .int (nI k), .int (nI al), .int (nI be), .int ea, .int pr, .ref mas, .int nq, .int po, .int (nI en), .ref mso, .ref mon, .ref mot, .ref man, .int th, .int xd, .ref mst, .ref msm, .ref mtb, .ref mti, .ref mfr, .ref mbn, .ref mbs, .ref mde, .int sF, .int sN, .int sS, .int ig, .long xa, .long xb, .ref maa, .ref mab, .ref mba, .ref mbb]))] := hD
  exact xreti C () (PQ.iff (okN_w (by omega)).symm hw_r_1) hP hD hS (Nat.le_of_ble_eq_true rfl) (Nat.le_of_ble_eq_true rfl) (nb_of (PQ.b01 hw_r_1)) dX12_isNode_11

set_option maxHeartbeats 4000000 in
set_option maxRecDepth 100000 in
theorem c_X12_isEntry (l : Launch) (D : va_G) (cs : Nat → ClassId) (hm ms mkp mtr mas mso mon mot man mst msm mtb mti mfr mbn mbs mde maa mab mba mbb : Nat) (n k al be km en : Nat) (ea pr nq po th xd sF sN sS ig : Int32) (xa xb : Int64) (x : Int32) (hen : en ≤ 16) : xMet l D cs yX12_isEntry cX12_isEntry 2 (some .boolean) ({ frames := 1, cells := 0, slots := 0, locals := 22 } : Room) [.ref hm, .int x] [(hm, .inr (12, [.ref ms, .ref mkp, .int (nI km), .ref mtr, .int (nI n), .int (nI k), .int (nI al), .int (nI be), .int ea, .int pr, .ref mas, .int nq, .int po, .int (nI en), .ref mso, .ref mon, .ref mot, .ref man, .int th, .int xd, .ref mst, .ref msm, .ref mtb, .ref mti, .ref mfr, .ref mbn, .ref mbs, .ref mde, .int sF, .int sN, .int sS, .int ig, .long xa, .long xb, .ref maa, .ref mab, .ref mba, .ref mbb]))] (xQi D (fun (r : Int32) (_u : Unit) => PQ (okN en x) r (nI 1) (nI 0)) (fun (_u : Unit) => [(hm, .inr (12, [.ref ms, .ref mkp, .int (nI km), .ref mtr, .int (nI n), .int (nI k), .int (nI al), .int (nI be), .int ea, .int pr, .ref mas, .int nq, .int po, .int (nI en), .ref mso, .ref mon, .ref mot, .ref man, .int th, .int xd, .ref mst, .ref msm, .ref mtb, .ref mti, .ref mfr, .ref mbn, .ref mbs, .ref mde, .int sF, .int sN, .int sS, .int ig, .long xa, .long xb, .ref maa, .ref mab, .ref mba, .ref mbb]))])) := by
  refine xMet.intro (by decide) (Nat.le_of_ble_eq_true rfl) ?_
  intro p e s m args below meth c A ls C hP hD hS hl
  have hx := C.1
  have hb := C.2.1
  have hz := C.2.2.2.2.1
  have hown := C.2.2.2.1
  have hA := C.2.2.2.2.2.2.2.2.2
  have hAO := C.2.2.2.2.2.2.2.2.1.2.2
  replace hl : lv_has ls 2 [(0, .ref hm), (1, .int x)] := hl
  obtain ⟨H, hH⟩ : ∃ H, H = s.heap := ⟨_, rfl⟩
  replace hP : va_P D vwCl [(hm, .inr (12, [.ref ms, .ref mkp, .int (nI km), .ref mtr, .int (nI n), .int (nI k), .int (nI al), .int (nI be), .int ea, .int pr, .ref mas, .int nq, .int po, .int (nI en), .ref mso, .ref mon, .ref mot, .ref man, .int th, .int xd, .ref mst, .ref msm, .ref mtb, .ref mti, .ref mfr, .ref mbn, .ref mbs, .ref mde, .int sF, .int sN, .int sS, .int ig, .long xa, .long xb, .ref maa, .ref mab, .ref mba, .ref mbb]))] H := by rw [hH]; exact hP
  replace hS : va_S A s.heap H [] := by rw [hH]; exact hS
  obtain ⟨locs, hlocs⟩ : ∃ z : List Loc, z = [] := ⟨_, rfl⟩
  rw [← hlocs] at hS
  suffices hW : W p l e ({ frames := 1, cells := 0, slots := 0, locals := 22 } : Room) s m args below meth c H locs 0 0 (MQ below ((xQi D (fun (r : Int32) (_u : Unit) => PQ (okN en x) r (nI 1) (nI 0)) (fun (_u : Unit) => [(hm, .inr (12, [.ref ms, .ref mkp, .int (nI km), .ref mtr, .int (nI n), .int (nI k), .int (nI al), .int (nI be), .int ea, .int pr, .ref mas, .int nq, .int po, .int (nI en), .ref mso, .ref mon, .ref mot, .ref man, .int th, .int xd, .ref mst, .ref msm, .ref mtb, .ref mti, .ref mfr, .ref mbn, .ref mbs, .ref mde, .int sF, .int sN, .int sS, .int ig, .long xa, .long xb, .ref maa, .ref mab, .ref mba, .ref mbb]))])) A) args s 0 0 A) (F0 m 0 ls []) by rw [hlocs, hH] at hW; exact hW
  clear hH hlocs
  refine lv_iload_n hx hb dX12_isEntry_0 rfl (lv_at hl 1 rfl) ?_
  refine lv_iconst (v := nI 0) hx hb dX12_isEntry_1 (by decide) ?_
  refine lv_aload_n hx hb dX12_isEntry_2 rfl (lv_at hl 0 rfl) ?_
  refine xget C hP 0 rfl rfl zuX12 13 (by decide) zw5_226 rfl dX12_isEntry_3 ?_
  refine lv_iconst (v := nI 1) hx hb dX12_isEntry_6 (by decide) ?_
  refine lv_isub hx hb dX12_isEntry_7 ?_
  refine xi (wr := [(hm, .inr (12, [.ref ms, .ref mkp, .int (nI km), .ref mtr, .int (nI n), .int (nI k), .int (nI al), .int (nI be), .int ea, .int pr, .ref mas, .int nq, .int po, .int (nI en), .ref mso, .ref mon, .ref mot, .ref man, .int th, .int xd, .ref mst, .ref msm, .ref mtb, .ref mti, .ref mfr, .ref mbn, .ref mbs, .ref mde, .int sF, .int sN, .int sS, .int ig, .long xa, .long xb, .ref maa, .ref mab, .ref mba, .ref mbb]))]) (xS (As := [.int x, .int (nI 0), .int ((nI en) - (nI 1))]) (rest := []) C (c_X12_within l D cs x (nI 0) ((nI en) - (nI 1))) kX12_116 hP hD [] rfl (by decide +kernel) ⟨Nat.le_of_ble_eq_true rfl, Nat.le_of_ble_eq_true rfl⟩ rfl hl.1 rfl (Nat.le_of_ble_eq_true rfl) dX12_isEntry_8 ⟨Nat.le_of_ble_eq_true rfl, Nat.le_of_ble_eq_true rfl⟩) hP hD hS hA [] [0] rfl rfl (by decide +kernel) (by decide +kernel) ?_
  clear hP hD hS
  try clear locs
  try clear H
  intro r_1 u_2 H locs hw_r_1 hP hD hS
  have hw_r_1 : PQ (¬ x < (nI 0) ∧ x ≤ ((nI en) - (nI 1))) r_1 (nI 1) (nI 0) := hw_r_1
  refine W.widen (k := 0) (n := 0) (Nat.le_of_ble_eq_true rfl) (Nat.le_of_ble_eq_true rfl) ?_
  replace hP : va_P D vwCl [(hm, .inr (12, [.ref ms, .ref mkp, .int (nI km), .ref mtr, .int (nI n), .int (nI k), .int (nI al), .int (nI be), .int ea, .int pr, .ref mas, .int nq, .int po, .int (nI en), .ref mso, .ref mon, .ref mot, .ref man, .int th, .int xd, .ref mst, .ref msm, .ref mtb, .ref mti, .ref mfr, .ref mbn, .ref mbs, .ref mde, .int sF, .int sN, .int sS, .int ig, .long xa, .long xb, .ref maa, .ref mab, .ref mba, .ref mbb]))] H := hP
  replace hD : va_D A [(hm, .inr (12, [.ref ms, .ref mkp, .int (nI km), .ref mtr, .int (nI n), .int (nI k), .int (nI al), .int (nI be), .int ea, .int pr, .ref mas, .int nq, .int po, .int (nI en), .ref mso, .ref mon, .ref mot, .ref man, .int th, .int xd, .ref mst, .ref msm, .ref mtb, .ref mti, .ref mfr, .ref mbn, .ref mbs, .ref mde, .int sF, .int sN, .int sS, .int ig, .long xa, .long xb, .ref maa, .ref mab, .ref mba, .ref mbb]))] := hD
  exact xreti C () (PQ.iff (okN_w hen).symm hw_r_1) hP hD hS (Nat.le_of_ble_eq_true rfl) (Nat.le_of_ble_eq_true rfl) (nb_of (PQ.b01 hw_r_1)) dX12_isEntry_11

set_option maxHeartbeats 4000000 in
set_option maxRecDepth 100000 in
theorem c_X12_protocol (l : Launch) (D : va_G) (cs : Nat → ClassId) (hm ms mkp mtr mas mso mon mot man mst msm mtb mti mfr mbn mbs mde maa mab mba mbb : Nat) (n k al be km en : Nat) (ea pr nq po th xd sF sN sS ig : Int32) (xa xb : Int64) (x : Int32) : xMet l D cs yX12_protocol cX12_protocol 3 (some .int) ({ frames := 1, cells := 0, slots := 0, locals := 22 } : Room) [.ref hm, .int x] [(hm, .inr (12, [.ref ms, .ref mkp, .int (nI km), .ref mtr, .int (nI n), .int (nI k), .int (nI al), .int (nI be), .int ea, .int pr, .ref mas, .int nq, .int po, .int (nI en), .ref mso, .ref mon, .ref mot, .ref man, .int th, .int xd, .ref mst, .ref msm, .ref mtb, .ref mti, .ref mfr, .ref mbn, .ref mbs, .ref mde, .int sF, .int sN, .int sS, .int ig, .long xa, .long xb, .ref maa, .ref mab, .ref mba, .ref mbb]))] (xQi D (fun (r : Int32) (prz : Int32) => PQ (¬ x < nI 0 ∧ x ≤ nI 2) r pr (-1) ∧ (¬ x < nI 0 ∧ x ≤ nI 2 → prz = x) ∧ (¬ (¬ x < nI 0 ∧ x ≤ nI 2) → prz = pr)) (fun (prz : Int32) => [(hm, .inr (12, [.ref ms, .ref mkp, .int (nI km), .ref mtr, .int (nI n), .int (nI k), .int (nI al), .int (nI be), .int ea, .int prz, .ref mas, .int nq, .int po, .int (nI en), .ref mso, .ref mon, .ref mot, .ref man, .int (nI 0), .int xd, .ref mst, .ref msm, .ref mtb, .ref mti, .ref mfr, .ref mbn, .ref mbs, .ref mde, .int sF, .int sN, .int sS, .int ig, .long xa, .long xb, .ref maa, .ref mab, .ref mba, .ref mbb]))])) := by
  refine xMet.intro (by decide) (Nat.le_of_ble_eq_true rfl) ?_
  intro p e s m args below meth c A ls C hP hD hS hl
  have hx := C.1
  have hb := C.2.1
  have hz := C.2.2.2.2.1
  have hown := C.2.2.2.1
  have hA := C.2.2.2.2.2.2.2.2.2
  have hAO := C.2.2.2.2.2.2.2.2.1.2.2
  replace hl : lv_has ls 3 [(0, .ref hm), (1, .int x)] := hl
  obtain ⟨H, hH⟩ : ∃ H, H = s.heap := ⟨_, rfl⟩
  replace hP : va_P D vwCl [(hm, .inr (12, [.ref ms, .ref mkp, .int (nI km), .ref mtr, .int (nI n), .int (nI k), .int (nI al), .int (nI be), .int ea, .int pr, .ref mas, .int nq, .int po, .int (nI en), .ref mso, .ref mon, .ref mot, .ref man, .int th, .int xd, .ref mst, .ref msm, .ref mtb, .ref mti, .ref mfr, .ref mbn, .ref mbs, .ref mde, .int sF, .int sN, .int sS, .int ig, .long xa, .long xb, .ref maa, .ref mab, .ref mba, .ref mbb]))] H := by rw [hH]; exact hP
  replace hS : va_S A s.heap H [] := by rw [hH]; exact hS
  obtain ⟨locs, hlocs⟩ : ∃ z : List Loc, z = [] := ⟨_, rfl⟩
  rw [← hlocs] at hS
  suffices hW : W p l e ({ frames := 1, cells := 0, slots := 0, locals := 22 } : Room) s m args below meth c H locs 0 0 (MQ below ((xQi D (fun (r : Int32) (prz : Int32) => PQ (¬ x < nI 0 ∧ x ≤ nI 2) r pr (-1) ∧ (¬ x < nI 0 ∧ x ≤ nI 2 → prz = x) ∧ (¬ (¬ x < nI 0 ∧ x ≤ nI 2) → prz = pr)) (fun (prz : Int32) => [(hm, .inr (12, [.ref ms, .ref mkp, .int (nI km), .ref mtr, .int (nI n), .int (nI k), .int (nI al), .int (nI be), .int ea, .int prz, .ref mas, .int nq, .int po, .int (nI en), .ref mso, .ref mon, .ref mot, .ref man, .int (nI 0), .int xd, .ref mst, .ref msm, .ref mtb, .ref mti, .ref mfr, .ref mbn, .ref mbs, .ref mde, .int sF, .int sN, .int sS, .int ig, .long xa, .long xb, .ref maa, .ref mab, .ref mba, .ref mbb]))])) A) args s 0 0 A) (F0 m 0 ls []) by rw [hlocs, hH] at hW; exact hW
  clear hH hlocs
  refine lv_aload_n hx hb dX12_protocol_0 rfl (lv_at hl 0 rfl) ?_
  refine lv_iconst (v := nI 0) hx hb dX12_protocol_1 (by decide) ?_
  refine xput C hP hD hS 0 rfl rfl zuX12 tyX12 tyX12_ok nmX12 18 (by decide) zw5_231 rfl rfl rfl (Nat.le_of_ble_eq_true rfl) dX12_protocol_2 ?_
  clear hP hD hS
  try clear locs
  try clear H
  intro H locs hP hD hS
  replace hP : va_P D vwCl [(hm, .inr (12, [.ref ms, .ref mkp, .int (nI km), .ref mtr, .int (nI n), .int (nI k), .int (nI al), .int (nI be), .int ea, .int pr, .ref mas, .int nq, .int po, .int (nI en), .ref mso, .ref mon, .ref mot, .ref man, .int (nI 0), .int xd, .ref mst, .ref msm, .ref mtb, .ref mti, .ref mfr, .ref mbn, .ref mbs, .ref mde, .int sF, .int sN, .int sS, .int ig, .long xa, .long xb, .ref maa, .ref mab, .ref mba, .ref mbb]))] H := hP
  replace hD : va_D A [(hm, .inr (12, [.ref ms, .ref mkp, .int (nI km), .ref mtr, .int (nI n), .int (nI k), .int (nI al), .int (nI be), .int ea, .int pr, .ref mas, .int nq, .int po, .int (nI en), .ref mso, .ref mon, .ref mot, .ref man, .int (nI 0), .int xd, .ref mst, .ref msm, .ref mtb, .ref mti, .ref mfr, .ref mbn, .ref mbs, .ref mde, .int sF, .int sN, .int sS, .int ig, .long xa, .long xb, .ref maa, .ref mab, .ref mba, .ref mbb]))] := hD
  refine lv_iload_n hx hb dX12_protocol_5 rfl (lv_at hl 1 rfl) ?_
  refine lv_iconst (v := nI 0) hx hb dX12_protocol_6 (by decide) ?_
  refine lv_iconst (v := nI 2) hx hb dX12_protocol_7 (by decide) ?_
  refine xi (wr := [(hm, .inr (12, [.ref ms, .ref mkp, .int (nI km), .ref mtr, .int (nI n), .int (nI k), .int (nI al), .int (nI be), .int ea, .int pr, .ref mas, .int nq, .int po, .int (nI en), .ref mso, .ref mon, .ref mot, .ref man, .int (nI 0), .int xd, .ref mst, .ref msm, .ref mtb, .ref mti, .ref mfr, .ref mbn, .ref mbs, .ref mde, .int sF, .int sN, .int sS, .int ig, .long xa, .long xb, .ref maa, .ref mab, .ref mba, .ref mbb]))]) (xS (As := [.int x, .int (nI 0), .int (nI 2)]) (rest := []) C (c_X12_within l D cs x (nI 0) (nI 2)) kX12_116 hP hD [] rfl (by decide +kernel) ⟨Nat.le_of_ble_eq_true rfl, Nat.le_of_ble_eq_true rfl⟩ rfl hl.1 rfl (Nat.le_of_ble_eq_true rfl) dX12_protocol_8 ⟨Nat.le_of_ble_eq_true rfl, Nat.le_of_ble_eq_true rfl⟩) hP hD hS hA [] [0] rfl rfl (by decide +kernel) (by decide +kernel) ?_
  clear hP hD hS
  try clear locs
  try clear H
  intro r_1 u_2 H locs hw_r_1 hP hD hS
  have hw_r_1 : PQ (¬ x < (nI 0) ∧ x ≤ (nI 2)) r_1 (nI 1) (nI 0) := hw_r_1
  refine W.widen (k := 0) (n := 0) (Nat.le_of_ble_eq_true rfl) (Nat.le_of_ble_eq_true rfl) ?_
  replace hP : va_P D vwCl [(hm, .inr (12, [.ref ms, .ref mkp, .int (nI km), .ref mtr, .int (nI n), .int (nI k), .int (nI al), .int (nI be), .int ea, .int pr, .ref mas, .int nq, .int po, .int (nI en), .ref mso, .ref mon, .ref mot, .ref man, .int (nI 0), .int xd, .ref mst, .ref msm, .ref mtb, .ref mti, .ref mfr, .ref mbn, .ref mbs, .ref mde, .int sF, .int sN, .int sS, .int ig, .long xa, .long xb, .ref maa, .ref mab, .ref mba, .ref mbb]))] H := hP
  replace hD : va_D A [(hm, .inr (12, [.ref ms, .ref mkp, .int (nI km), .ref mtr, .int (nI n), .int (nI k), .int (nI al), .int (nI be), .int ea, .int pr, .ref mas, .int nq, .int po, .int (nI en), .ref mso, .ref mon, .ref mot, .ref man, .int (nI 0), .int xd, .ref mst, .ref msm, .ref mtb, .ref mti, .ref mfr, .ref mbn, .ref mbs, .ref mde, .int sF, .int sN, .int sS, .int ig, .long xa, .long xb, .ref maa, .ref mab, .ref mba, .ref mbb]))] := hD
  refine lv_if_ne (tgt := 16) hx hb dX12_protocol_11 (by decide) (fun c_3 => ?_) (fun c_3 => ?_)
  · -- 11 t
    refine lv_aload_n hx hb dX12_protocol_16 rfl (lv_at hl 0 rfl) ?_
    refine xget C hP 0 rfl rfl zuX12 9 (by decide) zw5_222 rfl dX12_protocol_17 ?_
    refine lv_istore_n (lv' := [(2, .int pr), (0, .ref hm), (1, .int x)]) hx hb dX12_protocol_20 rfl hl (by decide) rfl ?_
    clear hl
    try clear ls
    intro ls hl
    refine lv_aload_n hx hb dX12_protocol_21 rfl (lv_at hl 1 rfl) ?_
    refine lv_iload_n hx hb dX12_protocol_22 rfl (lv_at hl 2 rfl) ?_
    refine xput C hP hD hS 0 rfl rfl zuX12 tyX12 tyX12_ok nmX12 9 (by decide) zw5_222 rfl rfl rfl (Nat.le_of_ble_eq_true rfl) dX12_protocol_23 ?_
    clear hP hD hS
    try clear locs
    try clear H
    intro H locs hP hD hS
    replace hP : va_P D vwCl [(hm, .inr (12, [.ref ms, .ref mkp, .int (nI km), .ref mtr, .int (nI n), .int (nI k), .int (nI al), .int (nI be), .int ea, .int x, .ref mas, .int nq, .int po, .int (nI en), .ref mso, .ref mon, .ref mot, .ref man, .int (nI 0), .int xd, .ref mst, .ref msm, .ref mtb, .ref mti, .ref mfr, .ref mbn, .ref mbs, .ref mde, .int sF, .int sN, .int sS, .int ig, .long xa, .long xb, .ref maa, .ref mab, .ref mba, .ref mbb]))] H := hP
    replace hD : va_D A [(hm, .inr (12, [.ref ms, .ref mkp, .int (nI km), .ref mtr, .int (nI n), .int (nI k), .int (nI al), .int (nI be), .int ea, .int x, .ref mas, .int nq, .int po, .int (nI en), .ref mso, .ref mon, .ref mot, .ref man, .int (nI 0), .int xd, .ref mst, .ref msm, .ref mtb, .ref mti, .ref mfr, .ref mbn, .ref mbs, .ref mde, .int sF, .int sN, .int sS, .int ig, .long xa, .long xb, .ref maa, .ref mab, .ref mba, .ref mbb]))] := hD
    refine lv_iload_n hx hb dX12_protocol_26 rfl (lv_at hl 0 rfl) ?_
    exact xreti C x (⟨Or.inl ⟨PQ.yes hw_r_1 c_3, rfl⟩, fun _ => rfl, fun q => absurd (PQ.yes hw_r_1 c_3) q⟩) hP hD hS (Nat.le_of_ble_eq_true rfl) (Nat.le_of_ble_eq_true rfl) rfl dX12_protocol_27
  · -- 11 f
    refine lv_iconst (v := (-1)) hx hb dX12_protocol_14 (by decide) ?_
    exact xreti C pr (⟨Or.inr ⟨PQ.no hw_r_1 c_3 (by decide), rfl⟩, fun q => absurd q (PQ.no hw_r_1 c_3 (by decide)), fun _ => rfl⟩) hP hD hS (Nat.le_of_ble_eq_true rfl) (Nat.le_of_ble_eq_true rfl) rfl dX12_protocol_15

set_option maxHeartbeats 4000000 in
set_option maxRecDepth 100000 in
theorem c_X12_early (l : Launch) (D : va_G) (cs : Nat → ClassId) (hm ms mkp mtr mas mso mon mot man mst msm mtb mti mfr mbn mbs mde maa mab mba mbb : Nat) (n k al be km en : Nat) (ea pr nq po th xd sF sN sS ig : Int32) (xa xb : Int64) (x : Int32) : xMet l D cs yX12_early cX12_early 3 (some .int) ({ frames := 1, cells := 0, slots := 0, locals := 22 } : Room) [.ref hm, .int x] [(hm, .inr (12, [.ref ms, .ref mkp, .int (nI km), .ref mtr, .int (nI n), .int (nI k), .int (nI al), .int (nI be), .int ea, .int pr, .ref mas, .int nq, .int po, .int (nI en), .ref mso, .ref mon, .ref mot, .ref man, .int th, .int xd, .ref mst, .ref msm, .ref mtb, .ref mti, .ref mfr, .ref mbn, .ref mbs, .ref mde, .int sF, .int sN, .int sS, .int ig, .long xa, .long xb, .ref maa, .ref mab, .ref mba, .ref mbb]))] (xQi D (fun (r : Int32) (eaz : Int32) => PQ (¬ x < nI 1 ∧ x ≤ nI be) r ea (-1) ∧ (¬ x < nI 1 ∧ x ≤ nI be → eaz = x) ∧ (¬ (¬ x < nI 1 ∧ x ≤ nI be) → eaz = ea)) (fun (eaz : Int32) => [(hm, .inr (12, [.ref ms, .ref mkp, .int (nI km), .ref mtr, .int (nI n), .int (nI k), .int (nI al), .int (nI be), .int eaz, .int pr, .ref mas, .int nq, .int po, .int (nI en), .ref mso, .ref mon, .ref mot, .ref man, .int (nI 0), .int xd, .ref mst, .ref msm, .ref mtb, .ref mti, .ref mfr, .ref mbn, .ref mbs, .ref mde, .int sF, .int sN, .int sS, .int ig, .long xa, .long xb, .ref maa, .ref mab, .ref mba, .ref mbb]))])) := by
  refine xMet.intro (by decide) (Nat.le_of_ble_eq_true rfl) ?_
  intro p e s m args below meth c A ls C hP hD hS hl
  have hx := C.1
  have hb := C.2.1
  have hz := C.2.2.2.2.1
  have hown := C.2.2.2.1
  have hA := C.2.2.2.2.2.2.2.2.2
  have hAO := C.2.2.2.2.2.2.2.2.1.2.2
  replace hl : lv_has ls 3 [(0, .ref hm), (1, .int x)] := hl
  obtain ⟨H, hH⟩ : ∃ H, H = s.heap := ⟨_, rfl⟩
  replace hP : va_P D vwCl [(hm, .inr (12, [.ref ms, .ref mkp, .int (nI km), .ref mtr, .int (nI n), .int (nI k), .int (nI al), .int (nI be), .int ea, .int pr, .ref mas, .int nq, .int po, .int (nI en), .ref mso, .ref mon, .ref mot, .ref man, .int th, .int xd, .ref mst, .ref msm, .ref mtb, .ref mti, .ref mfr, .ref mbn, .ref mbs, .ref mde, .int sF, .int sN, .int sS, .int ig, .long xa, .long xb, .ref maa, .ref mab, .ref mba, .ref mbb]))] H := by rw [hH]; exact hP
  replace hS : va_S A s.heap H [] := by rw [hH]; exact hS
  obtain ⟨locs, hlocs⟩ : ∃ z : List Loc, z = [] := ⟨_, rfl⟩
  rw [← hlocs] at hS
  suffices hW : W p l e ({ frames := 1, cells := 0, slots := 0, locals := 22 } : Room) s m args below meth c H locs 0 0 (MQ below ((xQi D (fun (r : Int32) (eaz : Int32) => PQ (¬ x < nI 1 ∧ x ≤ nI be) r ea (-1) ∧ (¬ x < nI 1 ∧ x ≤ nI be → eaz = x) ∧ (¬ (¬ x < nI 1 ∧ x ≤ nI be) → eaz = ea)) (fun (eaz : Int32) => [(hm, .inr (12, [.ref ms, .ref mkp, .int (nI km), .ref mtr, .int (nI n), .int (nI k), .int (nI al), .int (nI be), .int eaz, .int pr, .ref mas, .int nq, .int po, .int (nI en), .ref mso, .ref mon, .ref mot, .ref man, .int (nI 0), .int xd, .ref mst, .ref msm, .ref mtb, .ref mti, .ref mfr, .ref mbn, .ref mbs, .ref mde, .int sF, .int sN, .int sS, .int ig, .long xa, .long xb, .ref maa, .ref mab, .ref mba, .ref mbb]))])) A) args s 0 0 A) (F0 m 0 ls []) by rw [hlocs, hH] at hW; exact hW
  clear hH hlocs
  refine lv_aload_n hx hb dX12_early_0 rfl (lv_at hl 0 rfl) ?_
  refine lv_iconst (v := nI 0) hx hb dX12_early_1 (by decide) ?_
  refine xput C hP hD hS 0 rfl rfl zuX12 tyX12 tyX12_ok nmX12 18 (by decide) zw5_231 rfl rfl rfl (Nat.le_of_ble_eq_true rfl) dX12_early_2 ?_
  clear hP hD hS
  try clear locs
  try clear H
  intro H locs hP hD hS
  replace hP : va_P D vwCl [(hm, .inr (12, [.ref ms, .ref mkp, .int (nI km), .ref mtr, .int (nI n), .int (nI k), .int (nI al), .int (nI be), .int ea, .int pr, .ref mas, .int nq, .int po, .int (nI en), .ref mso, .ref mon, .ref mot, .ref man, .int (nI 0), .int xd, .ref mst, .ref msm, .ref mtb, .ref mti, .ref mfr, .ref mbn, .ref mbs, .ref mde, .int sF, .int sN, .int sS, .int ig, .long xa, .long xb, .ref maa, .ref mab, .ref mba, .ref mbb]))] H := hP
  replace hD : va_D A [(hm, .inr (12, [.ref ms, .ref mkp, .int (nI km), .ref mtr, .int (nI n), .int (nI k), .int (nI al), .int (nI be), .int ea, .int pr, .ref mas, .int nq, .int po, .int (nI en), .ref mso, .ref mon, .ref mot, .ref man, .int (nI 0), .int xd, .ref mst, .ref msm, .ref mtb, .ref mti, .ref mfr, .ref mbn, .ref mbs, .ref mde, .int sF, .int sN, .int sS, .int ig, .long xa, .long xb, .ref maa, .ref mab, .ref mba, .ref mbb]))] := hD
  refine lv_iload_n hx hb dX12_early_5 rfl (lv_at hl 1 rfl) ?_
  refine lv_iconst (v := nI 1) hx hb dX12_early_6 (by decide) ?_
  refine lv_aload_n hx hb dX12_early_7 rfl (lv_at hl 0 rfl) ?_
  refine xget C hP 0 rfl rfl zuX12 7 (by decide) zw5_220 rfl dX12_early_8 ?_
  refine xi (wr := [(hm, .inr (12, [.ref ms, .ref mkp, .int (nI km), .ref mtr, .int (nI n), .int (nI k), .int (nI al), .int (nI be), .int ea, .int pr, .ref mas, .int nq, .int po, .int (nI en), .ref mso, .ref mon, .ref mot, .ref man, .int (nI 0), .int xd, .ref mst, .ref msm, .ref mtb, .ref mti, .ref mfr, .ref mbn, .ref mbs, .ref mde, .int sF, .int sN, .int sS, .int ig, .long xa, .long xb, .ref maa, .ref mab, .ref mba, .ref mbb]))]) (xS (As := [.int x, .int (nI 1), .int (nI be)]) (rest := []) C (c_X12_within l D cs x (nI 1) (nI be)) kX12_116 hP hD [] rfl (by decide +kernel) ⟨Nat.le_of_ble_eq_true rfl, Nat.le_of_ble_eq_true rfl⟩ rfl hl.1 rfl (Nat.le_of_ble_eq_true rfl) dX12_early_11 ⟨Nat.le_of_ble_eq_true rfl, Nat.le_of_ble_eq_true rfl⟩) hP hD hS hA [] [0] rfl rfl (by decide +kernel) (by decide +kernel) ?_
  clear hP hD hS
  try clear locs
  try clear H
  intro r_1 u_2 H locs hw_r_1 hP hD hS
  have hw_r_1 : PQ (¬ x < (nI 1) ∧ x ≤ (nI be)) r_1 (nI 1) (nI 0) := hw_r_1
  refine W.widen (k := 0) (n := 0) (Nat.le_of_ble_eq_true rfl) (Nat.le_of_ble_eq_true rfl) ?_
  replace hP : va_P D vwCl [(hm, .inr (12, [.ref ms, .ref mkp, .int (nI km), .ref mtr, .int (nI n), .int (nI k), .int (nI al), .int (nI be), .int ea, .int pr, .ref mas, .int nq, .int po, .int (nI en), .ref mso, .ref mon, .ref mot, .ref man, .int (nI 0), .int xd, .ref mst, .ref msm, .ref mtb, .ref mti, .ref mfr, .ref mbn, .ref mbs, .ref mde, .int sF, .int sN, .int sS, .int ig, .long xa, .long xb, .ref maa, .ref mab, .ref mba, .ref mbb]))] H := hP
  replace hD : va_D A [(hm, .inr (12, [.ref ms, .ref mkp, .int (nI km), .ref mtr, .int (nI n), .int (nI k), .int (nI al), .int (nI be), .int ea, .int pr, .ref mas, .int nq, .int po, .int (nI en), .ref mso, .ref mon, .ref mot, .ref man, .int (nI 0), .int xd, .ref mst, .ref msm, .ref mtb, .ref mti, .ref mfr, .ref mbn, .ref mbs, .ref mde, .int sF, .int sN, .int sS, .int ig, .long xa, .long xb, .ref maa, .ref mab, .ref mba, .ref mbb]))] := hD
  refine lv_if_ne (tgt := 19) hx hb dX12_early_14 (by decide) (fun c_3 => ?_) (fun c_3 => ?_)
  · -- 14 t
    refine lv_aload_n hx hb dX12_early_19 rfl (lv_at hl 0 rfl) ?_
    refine xget C hP 0 rfl rfl zuX12 8 (by decide) zw5_221 rfl dX12_early_20 ?_
    refine lv_istore_n (lv' := [(2, .int ea), (0, .ref hm), (1, .int x)]) hx hb dX12_early_23 rfl hl (by decide) rfl ?_
    clear hl
    try clear ls
    intro ls hl
    refine lv_aload_n hx hb dX12_early_24 rfl (lv_at hl 1 rfl) ?_
    refine lv_iload_n hx hb dX12_early_25 rfl (lv_at hl 2 rfl) ?_
    refine xput C hP hD hS 0 rfl rfl zuX12 tyX12 tyX12_ok nmX12 8 (by decide) zw5_221 rfl rfl rfl (Nat.le_of_ble_eq_true rfl) dX12_early_26 ?_
    clear hP hD hS
    try clear locs
    try clear H
    intro H locs hP hD hS
    replace hP : va_P D vwCl [(hm, .inr (12, [.ref ms, .ref mkp, .int (nI km), .ref mtr, .int (nI n), .int (nI k), .int (nI al), .int (nI be), .int x, .int pr, .ref mas, .int nq, .int po, .int (nI en), .ref mso, .ref mon, .ref mot, .ref man, .int (nI 0), .int xd, .ref mst, .ref msm, .ref mtb, .ref mti, .ref mfr, .ref mbn, .ref mbs, .ref mde, .int sF, .int sN, .int sS, .int ig, .long xa, .long xb, .ref maa, .ref mab, .ref mba, .ref mbb]))] H := hP
    replace hD : va_D A [(hm, .inr (12, [.ref ms, .ref mkp, .int (nI km), .ref mtr, .int (nI n), .int (nI k), .int (nI al), .int (nI be), .int x, .int pr, .ref mas, .int nq, .int po, .int (nI en), .ref mso, .ref mon, .ref mot, .ref man, .int (nI 0), .int xd, .ref mst, .ref msm, .ref mtb, .ref mti, .ref mfr, .ref mbn, .ref mbs, .ref mde, .int sF, .int sN, .int sS, .int ig, .long xa, .long xb, .ref maa, .ref mab, .ref mba, .ref mbb]))] := hD
    refine lv_iload_n hx hb dX12_early_29 rfl (lv_at hl 0 rfl) ?_
    exact xreti C x (⟨Or.inl ⟨PQ.yes hw_r_1 c_3, rfl⟩, fun _ => rfl, fun q => absurd (PQ.yes hw_r_1 c_3) q⟩) hP hD hS (Nat.le_of_ble_eq_true rfl) (Nat.le_of_ble_eq_true rfl) rfl dX12_early_30
  · -- 14 f
    refine lv_iconst (v := (-1)) hx hb dX12_early_17 (by decide) ?_
    exact xreti C ea (⟨Or.inr ⟨PQ.no hw_r_1 c_3 (by decide), rfl⟩, fun q => absurd q (PQ.no hw_r_1 c_3 (by decide)), fun _ => rfl⟩) hP hD hS (Nat.le_of_ble_eq_true rfl) (Nat.le_of_ble_eq_true rfl) rfl dX12_early_18

theorem keptP_shift {g h : Nat → Int32} (hk : keptP g) (hh : ∀ j, j < 2304 → h j = if j < 2016 then g (j + 288) else g j) : keptP h := fun r hr a ha => by
  rw [hh _ (by omega)]
  by_cases q : 288 * r + a < 2016
  · rw [if_pos q, show 288 * r + a + 288 = 288 * (r + 1) + a by omega]
    exact hk (r + 1) (by omega) a ha
  · rw [if_neg q]; exact hk r hr a ha
theorem keptP_row {g h f : Nat → Int32} {m : Nat} (hm : m < 8) (hk : keptP g) (hs : colP f) (hh : ∀ j, j < 2304 → h j = if 288 * m ≤ j ∧ j < 288 * m + 288 then f (j - 288 * m) else g j) : keptP h := fun r hr a ha => by
  rw [hh _ (by omega)]
  by_cases q : r = m
  · subst q
    rw [if_pos (by omega), show 288 * r + a - 288 * r = a by omega]
    exact hs a ha
  · rw [if_neg (by omega)]; exact hk r hr a ha

set_option maxHeartbeats 4000000 in
set_option maxRecDepth 100000 in
theorem c_X12_keeps (l : Launch) (D : va_G) (cs : Nat → ClassId) (hm ms mkp mtr mas mso mon mot man mst msm mtb mti mfr mbn mbs mde maa mab mba mbb : Nat) (n k al be km en : Nat) (ea pr nq po th xd sF sN sS ig : Int32) (xa xb : Int64) (f : Nat → Int32) (g : Nat → Int32) (hs : colP f) (hk : keptP g) (hkm : km ≤ 8) : xMet l D cs yX12_keeps cX12_keeps 2 none ({ frames := 0, cells := 0, slots := 0, locals := 0 } : Room) [.ref hm] [(hm, .inr (12, [.ref ms, .ref mkp, .int (nI km), .ref mtr, .int (nI n), .int (nI k), .int (nI al), .int (nI be), .int ea, .int pr, .ref mas, .int nq, .int po, .int (nI en), .ref mso, .ref mon, .ref mot, .ref man, .int th, .int xd, .ref mst, .ref msm, .ref mtb, .ref mti, .ref mfr, .ref mbn, .ref mbs, .ref mde, .int sF, .int sN, .int sS, .int ig, .long xa, .long xb, .ref maa, .ref mab, .ref mba, .ref mbb])), (ms, .inl (cs 0, 288, .inl f)), (mkp, .inl (cs 0, 2304, .inl g))] (xQv D (fun (u : Nat × (Nat → Int32)) => match u with | (kmz, gz) => keptP gz ∧ kmz ≤ 8) (fun (u : Nat × (Nat → Int32)) => match u with | (kmz, gz) => [(hm, .inr (12, [.ref ms, .ref mkp, .int (nI kmz), .ref mtr, .int (nI n), .int (nI k), .int (nI al), .int (nI be), .int ea, .int pr, .ref mas, .int nq, .int po, .int (nI en), .ref mso, .ref mon, .ref mot, .ref man, .int th, .int xd, .ref mst, .ref msm, .ref mtb, .ref mti, .ref mfr, .ref mbn, .ref mbs, .ref mde, .int sF, .int sN, .int sS, .int ig, .long xa, .long xb, .ref maa, .ref mab, .ref mba, .ref mbb])), (ms, .inl (cs 0, 288, .inl f)), (mkp, .inl (cs 0, 2304, .inl gz))])) := by
  refine xMet.intro (by decide) (Nat.le_of_ble_eq_true rfl) ?_
  intro p e s m args below meth c A ls C hP hD hS hl
  have hx := C.1
  have hb := C.2.1
  have hz := C.2.2.2.2.1
  have hown := C.2.2.2.1
  have hA := C.2.2.2.2.2.2.2.2.2
  have hAO := C.2.2.2.2.2.2.2.2.1.2.2
  replace hl : lv_has ls 2 [(0, .ref hm)] := hl
  obtain ⟨H, hH⟩ : ∃ H, H = s.heap := ⟨_, rfl⟩
  replace hP : va_P D vwCl [(hm, .inr (12, [.ref ms, .ref mkp, .int (nI km), .ref mtr, .int (nI n), .int (nI k), .int (nI al), .int (nI be), .int ea, .int pr, .ref mas, .int nq, .int po, .int (nI en), .ref mso, .ref mon, .ref mot, .ref man, .int th, .int xd, .ref mst, .ref msm, .ref mtb, .ref mti, .ref mfr, .ref mbn, .ref mbs, .ref mde, .int sF, .int sN, .int sS, .int ig, .long xa, .long xb, .ref maa, .ref mab, .ref mba, .ref mbb])), (ms, .inl (cs 0, 288, .inl f)), (mkp, .inl (cs 0, 2304, .inl g))] H := by rw [hH]; exact hP
  replace hS : va_S A s.heap H [] := by rw [hH]; exact hS
  obtain ⟨locs, hlocs⟩ : ∃ z : List Loc, z = [] := ⟨_, rfl⟩
  rw [← hlocs] at hS
  suffices hW : W p l e ({ frames := 0, cells := 0, slots := 0, locals := 0 } : Room) s m args below meth c H locs 0 0 (MQ below ((xQv D (fun (u : Nat × (Nat → Int32)) => match u with | (kmz, gz) => keptP gz ∧ kmz ≤ 8) (fun (u : Nat × (Nat → Int32)) => match u with | (kmz, gz) => [(hm, .inr (12, [.ref ms, .ref mkp, .int (nI kmz), .ref mtr, .int (nI n), .int (nI k), .int (nI al), .int (nI be), .int ea, .int pr, .ref mas, .int nq, .int po, .int (nI en), .ref mso, .ref mon, .ref mot, .ref man, .int th, .int xd, .ref mst, .ref msm, .ref mtb, .ref mti, .ref mfr, .ref mbn, .ref mbs, .ref mde, .int sF, .int sN, .int sS, .int ig, .long xa, .long xb, .ref maa, .ref mab, .ref mba, .ref mbb])), (ms, .inl (cs 0, 288, .inl f)), (mkp, .inl (cs 0, 2304, .inl gz))])) A) args s 0 0 A) (F0 m 0 ls []) by rw [hlocs, hH] at hW; exact hW
  clear hH hlocs
  refine lv_aload_n hx hb dX12_keeps_0 rfl (lv_at hl 0 rfl) ?_
  refine xget C hP 0 rfl rfl zuX12 2 (by decide) zw5_215 rfl dX12_keeps_1 ?_
  refine lv_bipush (v := nI 8) hx hb dX12_keeps_4 (by decide) ?_
  refine lv_icmp_ne (tgt := 50) hx hb dX12_keeps_6 (by decide) (fun c_1 => ?_) (fun c_1 => ?_)
  · -- 6 t
    have fc_1 : km ≠ 8 := nf_ne (by omega) (by omega) c_1
    have hk5 := hk
    have hm8 : km < 8 := by omega
    refine lv_iconst (v := nI 0) hx hb dX12_keeps_50 (by decide) ?_
    refine lv_istore_n (lv' := [(1, .int (nI 0)), (0, .ref hm)]) hx hb dX12_keeps_51 rfl hl (by decide) rfl ?_
    clear hl
    try clear ls
    intro ls hl
    have loop_2 : ∀ (n_loop_2 : Nat) (i2 : Nat) (g8 : Nat → Int32), (i2 ≤ 288) → (∀ j, j < 2304 → g8 j = if 288 * km ≤ j ∧ j < 288 * km + i2 then f (j - 288 * km) else g j) → 288 - i2 < n_loop_2 → ∀ (H : Heap) (locs : List Loc) (ls : Array Slot), va_P D vwCl [(hm, .inr (12, [.ref ms, .ref mkp, .int (nI km), .ref mtr, .int (nI n), .int (nI k), .int (nI al), .int (nI be), .int ea, .int pr, .ref mas, .int nq, .int po, .int (nI en), .ref mso, .ref mon, .ref mot, .ref man, .int th, .int xd, .ref mst, .ref msm, .ref mtb, .ref mti, .ref mfr, .ref mbn, .ref mbs, .ref mde, .int sF, .int sN, .int sS, .int ig, .long xa, .long xb, .ref maa, .ref mab, .ref mba, .ref mbb])), (ms, .inl (cs 0, 288, .inl f)), (mkp, .inl (cs 0, 2304, .inl g8))] H → va_D A [(hm, .inr (12, [.ref ms, .ref mkp, .int (nI km), .ref mtr, .int (nI n), .int (nI k), .int (nI al), .int (nI be), .int ea, .int pr, .ref mas, .int nq, .int po, .int (nI en), .ref mso, .ref mon, .ref mot, .ref man, .int th, .int xd, .ref mst, .ref msm, .ref mtb, .ref mti, .ref mfr, .ref mbn, .ref mbs, .ref mde, .int sF, .int sN, .int sS, .int ig, .long xa, .long xb, .ref maa, .ref mab, .ref mba, .ref mbb])), (ms, .inl (cs 0, 288, .inl f)), (mkp, .inl (cs 0, 2304, .inl g8))] → va_S A s.heap H locs → lv_has ls 2 [(1, .int (nI i2)), (0, .ref hm)] → W p l e ({ frames := 0, cells := 0, slots := 0, locals := 0 } : Room) s m args below meth c H locs 0 0 (MQ below ((xQv D (fun (u : Nat × (Nat → Int32)) => match u with | (kmz, gz) => keptP gz ∧ kmz ≤ 8) (fun (u : Nat × (Nat → Int32)) => match u with | (kmz, gz) => [(hm, .inr (12, [.ref ms, .ref mkp, .int (nI kmz), .ref mtr, .int (nI n), .int (nI k), .int (nI al), .int (nI be), .int ea, .int pr, .ref mas, .int nq, .int po, .int (nI en), .ref mso, .ref mon, .ref mot, .ref man, .int th, .int xd, .ref mst, .ref msm, .ref mtb, .ref mti, .ref mfr, .ref mbn, .ref mbs, .ref mde, .int sF, .int sN, .int sS, .int ig, .long xa, .long xb, .ref maa, .ref mab, .ref mba, .ref mbb])), (ms, .inl (cs 0, 288, .inl f)), (mkp, .inl (cs 0, 2304, .inl gz))])) A) args s 0 0 A) (F0 m 52 ls []) := by
      intro n_loop_2
      induction n_loop_2 with
      | zero => intro i2 g8 h_i2 hg8 hlt H locs ls hP hD hS hl; exact absurd hlt (Nat.not_lt_zero _)
      | succ n_loop_2 ih_loop_2 =>
        intro i2 g8 h_i2 hg8 hlt_loop_2 H locs ls hP hD hS hl
        refine lv_iload_n hx hb dX12_keeps_52 rfl (lv_at hl 0 rfl) ?_
        refine lv_sipush (v := nI 288) hx hb dX12_keeps_53 (by decide) ?_
        refine lv_icmp_ge (tgt := 86) hx hb dX12_keeps_56 (by decide) (fun c_3 => ?_) (fun c_3 => ?_)
        · -- 56 t
          have fc_3 : 288 ≤ i2 := nf_le (by omega) (by omega) c_3
          refine lv_aload_n hx hb dX12_keeps_86 rfl (lv_at hl 1 rfl) ?_
          refine lv_dup hx hb dX12_keeps_87 rfl ?_
          refine xget C hP 0 rfl rfl zuX12 2 (by decide) zw5_215 rfl dX12_keeps_88 ?_
          refine lv_iconst (v := nI 1) hx hb dX12_keeps_91 (by decide) ?_
          refine lv_iadd hx hb dX12_keeps_92 ?_
          refine lv_topi (nm_r (e' := nI (km + 1)) (nI_add _ _) ?_)
          refine xput C hP hD hS 0 rfl rfl zuX12 tyX12 tyX12_ok nmX12 2 (by decide) zw5_215 rfl rfl rfl (Nat.le_of_ble_eq_true rfl) dX12_keeps_93 ?_
          clear hP hD hS
          try clear locs
          try clear H
          intro H locs hP hD hS
          replace hP : va_P D vwCl [(hm, .inr (12, [.ref ms, .ref mkp, .int (nI (km + 1)), .ref mtr, .int (nI n), .int (nI k), .int (nI al), .int (nI be), .int ea, .int pr, .ref mas, .int nq, .int po, .int (nI en), .ref mso, .ref mon, .ref mot, .ref man, .int th, .int xd, .ref mst, .ref msm, .ref mtb, .ref mti, .ref mfr, .ref mbn, .ref mbs, .ref mde, .int sF, .int sN, .int sS, .int ig, .long xa, .long xb, .ref maa, .ref mab, .ref mba, .ref mbb])), (ms, .inl (cs 0, 288, .inl f)), (mkp, .inl (cs 0, 2304, .inl g8))] H := hP
          replace hD : va_D A [(hm, .inr (12, [.ref ms, .ref mkp, .int (nI (km + 1)), .ref mtr, .int (nI n), .int (nI k), .int (nI al), .int (nI be), .int ea, .int pr, .ref mas, .int nq, .int po, .int (nI en), .ref mso, .ref mon, .ref mot, .ref man, .int th, .int xd, .ref mst, .ref msm, .ref mtb, .ref mti, .ref mfr, .ref mbn, .ref mbs, .ref mde, .int sF, .int sN, .int sS, .int ig, .long xa, .long xb, .ref maa, .ref mab, .ref mba, .ref mbb])), (ms, .inl (cs 0, 288, .inl f)), (mkp, .inl (cs 0, 2304, .inl g8))] := hD
          exact xretv C (⟨(km + 1), g8⟩) (⟨keptP_row hm8 hk5 hs (fun j hj => by have qq : i2 = 288 := (by omega); subst qq; exact hg8 j hj), by omega⟩) hP hD hS (Nat.le_of_ble_eq_true rfl) (Nat.le_of_ble_eq_true rfl) dX12_keeps_96
        · -- 56 f
          have fc_3 : i2 < 288 := nf_nle (by omega) (by omega) c_3
          refine lv_aload_n hx hb dX12_keeps_59 rfl (lv_at hl 1 rfl) ?_
          refine xget C hP 0 rfl rfl zuX12 1 (by decide) zw5_214 rfl dX12_keeps_60 ?_
          refine lv_sipush (v := nI 288) hx hb dX12_keeps_63 (by decide) ?_
          refine lv_aload_n hx hb dX12_keeps_66 rfl (lv_at hl 1 rfl) ?_
          refine xget C hP 0 rfl rfl zuX12 2 (by decide) zw5_215 rfl dX12_keeps_67 ?_
          refine lv_imul hx hb dX12_keeps_70 ?_
          refine lv_topi (nm_r (e' := nI (288 * km)) (pk_mul _ _) ?_)
          refine lv_iload_n hx hb dX12_keeps_71 rfl (lv_at hl 0 rfl) ?_
          refine lv_iadd hx hb dX12_keeps_72 ?_
          refine lv_topi (nm_r (e' := nI ((288 * km) + i2)) (nI_add _ _) ?_)
          refine lv_aload_n hx hb dX12_keeps_73 rfl (lv_at hl 1 rfl) ?_
          refine xget C hP 0 rfl rfl zuX12 0 (by decide) zw5_213 rfl dX12_keeps_74 ?_
          refine lv_iload_n hx hb dX12_keeps_77 rfl (lv_at hl 0 rfl) ?_
          refine xiald C hP 1 rfl i2 rfl (by omega) (by decide) dX12_keeps_78 ?_
          refine xiast C hP hD hS 2 rfl ((288 * km) + i2) rfl (by omega) (by decide) dX12_keeps_79 ?_
          clear hP hD hS
          try clear locs
          try clear H
          intro H locs hP hD hS
          replace hP : va_P D vwCl [(hm, .inr (12, [.ref ms, .ref mkp, .int (nI km), .ref mtr, .int (nI n), .int (nI k), .int (nI al), .int (nI be), .int ea, .int pr, .ref mas, .int nq, .int po, .int (nI en), .ref mso, .ref mon, .ref mot, .ref man, .int th, .int xd, .ref mst, .ref msm, .ref mtb, .ref mti, .ref mfr, .ref mbn, .ref mbs, .ref mde, .int sF, .int sN, .int sS, .int ig, .long xa, .long xb, .ref maa, .ref mab, .ref mba, .ref mbb])), (ms, .inl (cs 0, 288, .inl f)), (mkp, .inl (cs 0, 2304, .inl (upd g8 ((288 * km) + i2) (f i2))))] H := hP
          replace hD : va_D A [(hm, .inr (12, [.ref ms, .ref mkp, .int (nI km), .ref mtr, .int (nI n), .int (nI k), .int (nI al), .int (nI be), .int ea, .int pr, .ref mas, .int nq, .int po, .int (nI en), .ref mso, .ref mon, .ref mot, .ref man, .int th, .int xd, .ref mst, .ref msm, .ref mtb, .ref mti, .ref mfr, .ref mbn, .ref mbs, .ref mde, .int sF, .int sN, .int sS, .int ig, .long xa, .long xb, .ref maa, .ref mab, .ref mba, .ref mbb])), (ms, .inl (cs 0, 288, .inl f)), (mkp, .inl (cs 0, 2304, .inl (upd g8 ((288 * km) + i2) (f i2))))] := hD
          refine lv_iinc (v := nI (i2 + 1)) (lv' := [(1, .int (nI (i2 + 1))), (0, .ref hm)]) hx hb dX12_keeps_80 hl (k := 0) rfl (nI_add i2 1) (by decide) rfl ?_
          clear hl
          try clear ls
          intro ls hl
          refine lv_goto (tgt := 52) hx hb dX12_keeps_83 (by decide) ?_
          exact ih_loop_2 (i2 + 1) (upd g8 ((288 * km) + i2) (f i2)) (by omega) (fun j hj => by unfold upd; by_cases q : j = 288 * km + i2; subst q; rw [if_pos rfl, if_pos (by omega), show 288 * km + i2 - 288 * km = i2 by omega]; rw [if_neg q, hg8 j hj]; by_cases z : 288 * km ≤ j ∧ j < 288 * km + i2; rw [if_pos z, if_pos (by omega)]; rw [if_neg z, if_neg (by omega)]) (by omega) H locs ls hP hD hS (lv_sub hl [0, 1] rfl)
    exact loop_2 _ 0 g (by omega) (fun j hj => (if_neg (by omega)).symm) (Nat.lt_succ_self _) H locs ls hP hD hS (lv_sub hl [0, 1] rfl)
  · -- 6 f
    have fc_1 : km = 8 := nf_eq (by omega) (by omega) c_1
    refine lv_iconst (v := nI 0) hx hb dX12_keeps_9 (by decide) ?_
    refine lv_istore_n (lv' := [(1, .int (nI 0)), (0, .ref hm)]) hx hb dX12_keeps_10 rfl hl (by decide) rfl ?_
    clear hl
    try clear ls
    intro ls hl
    have loop_4 : ∀ (n_loop_4 : Nat) (i : Nat) (g9 : Nat → Int32), (i ≤ 2016) → (∀ j, j < 2304 → g9 j = if j < i then g (j + 288) else g j) → 2016 - i < n_loop_4 → ∀ (H : Heap) (locs : List Loc) (ls : Array Slot), va_P D vwCl [(hm, .inr (12, [.ref ms, .ref mkp, .int (nI km), .ref mtr, .int (nI n), .int (nI k), .int (nI al), .int (nI be), .int ea, .int pr, .ref mas, .int nq, .int po, .int (nI en), .ref mso, .ref mon, .ref mot, .ref man, .int th, .int xd, .ref mst, .ref msm, .ref mtb, .ref mti, .ref mfr, .ref mbn, .ref mbs, .ref mde, .int sF, .int sN, .int sS, .int ig, .long xa, .long xb, .ref maa, .ref mab, .ref mba, .ref mbb])), (ms, .inl (cs 0, 288, .inl f)), (mkp, .inl (cs 0, 2304, .inl g9))] H → va_D A [(hm, .inr (12, [.ref ms, .ref mkp, .int (nI km), .ref mtr, .int (nI n), .int (nI k), .int (nI al), .int (nI be), .int ea, .int pr, .ref mas, .int nq, .int po, .int (nI en), .ref mso, .ref mon, .ref mot, .ref man, .int th, .int xd, .ref mst, .ref msm, .ref mtb, .ref mti, .ref mfr, .ref mbn, .ref mbs, .ref mde, .int sF, .int sN, .int sS, .int ig, .long xa, .long xb, .ref maa, .ref mab, .ref mba, .ref mbb])), (ms, .inl (cs 0, 288, .inl f)), (mkp, .inl (cs 0, 2304, .inl g9))] → va_S A s.heap H locs → lv_has ls 2 [(1, .int (nI i)), (0, .ref hm)] → W p l e ({ frames := 0, cells := 0, slots := 0, locals := 0 } : Room) s m args below meth c H locs 0 0 (MQ below ((xQv D (fun (u : Nat × (Nat → Int32)) => match u with | (kmz, gz) => keptP gz ∧ kmz ≤ 8) (fun (u : Nat × (Nat → Int32)) => match u with | (kmz, gz) => [(hm, .inr (12, [.ref ms, .ref mkp, .int (nI kmz), .ref mtr, .int (nI n), .int (nI k), .int (nI al), .int (nI be), .int ea, .int pr, .ref mas, .int nq, .int po, .int (nI en), .ref mso, .ref mon, .ref mot, .ref man, .int th, .int xd, .ref mst, .ref msm, .ref mtb, .ref mti, .ref mfr, .ref mbn, .ref mbs, .ref mde, .int sF, .int sN, .int sS, .int ig, .long xa, .long xb, .ref maa, .ref mab, .ref mba, .ref mbb])), (ms, .inl (cs 0, 288, .inl f)), (mkp, .inl (cs 0, 2304, .inl gz))])) A) args s 0 0 A) (F0 m 11 ls []) := by
      intro n_loop_4
      induction n_loop_4 with
      | zero => intro i g9 h_i hg9 hlt H locs ls hP hD hS hl; exact absurd hlt (Nat.not_lt_zero _)
      | succ n_loop_4 ih_loop_4 =>
        intro i g9 h_i hg9 hlt_loop_4 H locs ls hP hD hS hl
        refine lv_iload_n hx hb dX12_keeps_11 rfl (lv_at hl 0 rfl) ?_
        refine lv_sipush (v := nI 2016) hx hb dX12_keeps_12 (by decide) ?_
        refine lv_icmp_ge (tgt := 40) hx hb dX12_keeps_15 (by decide) (fun c_5 => ?_) (fun c_5 => ?_)
        · -- 15 t
          have fc_5 : 2016 ≤ i := nf_le (by omega) (by omega) c_5
          refine lv_aload_n hx hb dX12_keeps_40 rfl (lv_at hl 1 rfl) ?_
          refine lv_dup hx hb dX12_keeps_41 rfl ?_
          refine xget C hP 0 rfl rfl zuX12 2 (by decide) zw5_215 rfl dX12_keeps_42 ?_
          refine lv_iconst (v := nI 1) hx hb dX12_keeps_45 (by decide) ?_
          refine lv_isub hx hb dX12_keeps_46 ?_
          refine lv_topi (nm_r (e' := nI (km - 1)) (pk_sub (by omega)) ?_)
          refine xput C hP hD hS 0 rfl rfl zuX12 tyX12 tyX12_ok nmX12 2 (by decide) zw5_215 rfl rfl rfl (Nat.le_of_ble_eq_true rfl) dX12_keeps_47 ?_
          clear hP hD hS
          try clear locs
          try clear H
          intro H locs hP hD hS
          replace hP : va_P D vwCl [(hm, .inr (12, [.ref ms, .ref mkp, .int (nI (km - 1)), .ref mtr, .int (nI n), .int (nI k), .int (nI al), .int (nI be), .int ea, .int pr, .ref mas, .int nq, .int po, .int (nI en), .ref mso, .ref mon, .ref mot, .ref man, .int th, .int xd, .ref mst, .ref msm, .ref mtb, .ref mti, .ref mfr, .ref mbn, .ref mbs, .ref mde, .int sF, .int sN, .int sS, .int ig, .long xa, .long xb, .ref maa, .ref mab, .ref mba, .ref mbb])), (ms, .inl (cs 0, 288, .inl f)), (mkp, .inl (cs 0, 2304, .inl g9))] H := hP
          replace hD : va_D A [(hm, .inr (12, [.ref ms, .ref mkp, .int (nI (km - 1)), .ref mtr, .int (nI n), .int (nI k), .int (nI al), .int (nI be), .int ea, .int pr, .ref mas, .int nq, .int po, .int (nI en), .ref mso, .ref mon, .ref mot, .ref man, .int th, .int xd, .ref mst, .ref msm, .ref mtb, .ref mti, .ref mfr, .ref mbn, .ref mbs, .ref mde, .int sF, .int sN, .int sS, .int ig, .long xa, .long xb, .ref maa, .ref mab, .ref mba, .ref mbb])), (ms, .inl (cs 0, 288, .inl f)), (mkp, .inl (cs 0, 2304, .inl g9))] := hD
          have hk5 : keptP g9 := keptP_shift hk (fun j hj => by have qq : i = 2016 := (by omega); subst qq; exact hg9 j hj)
          have hm8 : (km - 1) < 8 := by omega
          refine lv_iconst (v := nI 0) hx hb dX12_keeps_50 (by decide) ?_
          refine lv_istore_n (lv' := [(1, .int (nI 0)), (0, .ref hm)]) hx hb dX12_keeps_51 rfl hl (by decide) rfl ?_
          clear hl
          try clear ls
          intro ls hl
          have loop_6 : ∀ (n_loop_6 : Nat) (i2 : Nat) (g8 : Nat → Int32), (i2 ≤ 288) → (∀ j, j < 2304 → g8 j = if 288 * (km - 1) ≤ j ∧ j < 288 * (km - 1) + i2 then f (j - 288 * (km - 1)) else g9 j) → 288 - i2 < n_loop_6 → ∀ (H : Heap) (locs : List Loc) (ls : Array Slot), va_P D vwCl [(hm, .inr (12, [.ref ms, .ref mkp, .int (nI (km - 1)), .ref mtr, .int (nI n), .int (nI k), .int (nI al), .int (nI be), .int ea, .int pr, .ref mas, .int nq, .int po, .int (nI en), .ref mso, .ref mon, .ref mot, .ref man, .int th, .int xd, .ref mst, .ref msm, .ref mtb, .ref mti, .ref mfr, .ref mbn, .ref mbs, .ref mde, .int sF, .int sN, .int sS, .int ig, .long xa, .long xb, .ref maa, .ref mab, .ref mba, .ref mbb])), (ms, .inl (cs 0, 288, .inl f)), (mkp, .inl (cs 0, 2304, .inl g8))] H → va_D A [(hm, .inr (12, [.ref ms, .ref mkp, .int (nI (km - 1)), .ref mtr, .int (nI n), .int (nI k), .int (nI al), .int (nI be), .int ea, .int pr, .ref mas, .int nq, .int po, .int (nI en), .ref mso, .ref mon, .ref mot, .ref man, .int th, .int xd, .ref mst, .ref msm, .ref mtb, .ref mti, .ref mfr, .ref mbn, .ref mbs, .ref mde, .int sF, .int sN, .int sS, .int ig, .long xa, .long xb, .ref maa, .ref mab, .ref mba, .ref mbb])), (ms, .inl (cs 0, 288, .inl f)), (mkp, .inl (cs 0, 2304, .inl g8))] → va_S A s.heap H locs → lv_has ls 2 [(1, .int (nI i2)), (0, .ref hm)] → W p l e ({ frames := 0, cells := 0, slots := 0, locals := 0 } : Room) s m args below meth c H locs 0 0 (MQ below ((xQv D (fun (u : Nat × (Nat → Int32)) => match u with | (kmz, gz) => keptP gz ∧ kmz ≤ 8) (fun (u : Nat × (Nat → Int32)) => match u with | (kmz, gz) => [(hm, .inr (12, [.ref ms, .ref mkp, .int (nI kmz), .ref mtr, .int (nI n), .int (nI k), .int (nI al), .int (nI be), .int ea, .int pr, .ref mas, .int nq, .int po, .int (nI en), .ref mso, .ref mon, .ref mot, .ref man, .int th, .int xd, .ref mst, .ref msm, .ref mtb, .ref mti, .ref mfr, .ref mbn, .ref mbs, .ref mde, .int sF, .int sN, .int sS, .int ig, .long xa, .long xb, .ref maa, .ref mab, .ref mba, .ref mbb])), (ms, .inl (cs 0, 288, .inl f)), (mkp, .inl (cs 0, 2304, .inl gz))])) A) args s 0 0 A) (F0 m 52 ls []) := by
            intro n_loop_6
            induction n_loop_6 with
            | zero => intro i2 g8 h_i2 hg8 hlt H locs ls hP hD hS hl; exact absurd hlt (Nat.not_lt_zero _)
            | succ n_loop_6 ih_loop_6 =>
              intro i2 g8 h_i2 hg8 hlt_loop_6 H locs ls hP hD hS hl
              refine lv_iload_n hx hb dX12_keeps_52 rfl (lv_at hl 0 rfl) ?_
              refine lv_sipush (v := nI 288) hx hb dX12_keeps_53 (by decide) ?_
              refine lv_icmp_ge (tgt := 86) hx hb dX12_keeps_56 (by decide) (fun c_7 => ?_) (fun c_7 => ?_)
              · -- 56 t
                have fc_7 : 288 ≤ i2 := nf_le (by omega) (by omega) c_7
                refine lv_aload_n hx hb dX12_keeps_86 rfl (lv_at hl 1 rfl) ?_
                refine lv_dup hx hb dX12_keeps_87 rfl ?_
                refine xget C hP 0 rfl rfl zuX12 2 (by decide) zw5_215 rfl dX12_keeps_88 ?_
                refine lv_iconst (v := nI 1) hx hb dX12_keeps_91 (by decide) ?_
                refine lv_iadd hx hb dX12_keeps_92 ?_
                refine lv_topi (nm_r (e' := nI ((km - 1) + 1)) (nI_add _ _) ?_)
                refine xput C hP hD hS 0 rfl rfl zuX12 tyX12 tyX12_ok nmX12 2 (by decide) zw5_215 rfl rfl rfl (Nat.le_of_ble_eq_true rfl) dX12_keeps_93 ?_
                clear hP hD hS
                try clear locs
                try clear H
                intro H locs hP hD hS
                replace hP : va_P D vwCl [(hm, .inr (12, [.ref ms, .ref mkp, .int (nI ((km - 1) + 1)), .ref mtr, .int (nI n), .int (nI k), .int (nI al), .int (nI be), .int ea, .int pr, .ref mas, .int nq, .int po, .int (nI en), .ref mso, .ref mon, .ref mot, .ref man, .int th, .int xd, .ref mst, .ref msm, .ref mtb, .ref mti, .ref mfr, .ref mbn, .ref mbs, .ref mde, .int sF, .int sN, .int sS, .int ig, .long xa, .long xb, .ref maa, .ref mab, .ref mba, .ref mbb])), (ms, .inl (cs 0, 288, .inl f)), (mkp, .inl (cs 0, 2304, .inl g8))] H := hP
                replace hD : va_D A [(hm, .inr (12, [.ref ms, .ref mkp, .int (nI ((km - 1) + 1)), .ref mtr, .int (nI n), .int (nI k), .int (nI al), .int (nI be), .int ea, .int pr, .ref mas, .int nq, .int po, .int (nI en), .ref mso, .ref mon, .ref mot, .ref man, .int th, .int xd, .ref mst, .ref msm, .ref mtb, .ref mti, .ref mfr, .ref mbn, .ref mbs, .ref mde, .int sF, .int sN, .int sS, .int ig, .long xa, .long xb, .ref maa, .ref mab, .ref mba, .ref mbb])), (ms, .inl (cs 0, 288, .inl f)), (mkp, .inl (cs 0, 2304, .inl g8))] := hD
                exact xretv C (⟨((km - 1) + 1), g8⟩) (⟨keptP_row hm8 hk5 hs (fun j hj => by have qq : i2 = 288 := (by omega); subst qq; exact hg8 j hj), by omega⟩) hP hD hS (Nat.le_of_ble_eq_true rfl) (Nat.le_of_ble_eq_true rfl) dX12_keeps_96
              · -- 56 f
                have fc_7 : i2 < 288 := nf_nle (by omega) (by omega) c_7
                refine lv_aload_n hx hb dX12_keeps_59 rfl (lv_at hl 1 rfl) ?_
                refine xget C hP 0 rfl rfl zuX12 1 (by decide) zw5_214 rfl dX12_keeps_60 ?_
                refine lv_sipush (v := nI 288) hx hb dX12_keeps_63 (by decide) ?_
                refine lv_aload_n hx hb dX12_keeps_66 rfl (lv_at hl 1 rfl) ?_
                refine xget C hP 0 rfl rfl zuX12 2 (by decide) zw5_215 rfl dX12_keeps_67 ?_
                refine lv_imul hx hb dX12_keeps_70 ?_
                refine lv_topi (nm_r (e' := nI (288 * (km - 1))) (pk_mul _ _) ?_)
                refine lv_iload_n hx hb dX12_keeps_71 rfl (lv_at hl 0 rfl) ?_
                refine lv_iadd hx hb dX12_keeps_72 ?_
                refine lv_topi (nm_r (e' := nI ((288 * (km - 1)) + i2)) (nI_add _ _) ?_)
                refine lv_aload_n hx hb dX12_keeps_73 rfl (lv_at hl 1 rfl) ?_
                refine xget C hP 0 rfl rfl zuX12 0 (by decide) zw5_213 rfl dX12_keeps_74 ?_
                refine lv_iload_n hx hb dX12_keeps_77 rfl (lv_at hl 0 rfl) ?_
                refine xiald C hP 1 rfl i2 rfl (by omega) (by decide) dX12_keeps_78 ?_
                refine xiast C hP hD hS 2 rfl ((288 * (km - 1)) + i2) rfl (by omega) (by decide) dX12_keeps_79 ?_
                clear hP hD hS
                try clear locs
                try clear H
                intro H locs hP hD hS
                replace hP : va_P D vwCl [(hm, .inr (12, [.ref ms, .ref mkp, .int (nI (km - 1)), .ref mtr, .int (nI n), .int (nI k), .int (nI al), .int (nI be), .int ea, .int pr, .ref mas, .int nq, .int po, .int (nI en), .ref mso, .ref mon, .ref mot, .ref man, .int th, .int xd, .ref mst, .ref msm, .ref mtb, .ref mti, .ref mfr, .ref mbn, .ref mbs, .ref mde, .int sF, .int sN, .int sS, .int ig, .long xa, .long xb, .ref maa, .ref mab, .ref mba, .ref mbb])), (ms, .inl (cs 0, 288, .inl f)), (mkp, .inl (cs 0, 2304, .inl (upd g8 ((288 * (km - 1)) + i2) (f i2))))] H := hP
                replace hD : va_D A [(hm, .inr (12, [.ref ms, .ref mkp, .int (nI (km - 1)), .ref mtr, .int (nI n), .int (nI k), .int (nI al), .int (nI be), .int ea, .int pr, .ref mas, .int nq, .int po, .int (nI en), .ref mso, .ref mon, .ref mot, .ref man, .int th, .int xd, .ref mst, .ref msm, .ref mtb, .ref mti, .ref mfr, .ref mbn, .ref mbs, .ref mde, .int sF, .int sN, .int sS, .int ig, .long xa, .long xb, .ref maa, .ref mab, .ref mba, .ref mbb])), (ms, .inl (cs 0, 288, .inl f)), (mkp, .inl (cs 0, 2304, .inl (upd g8 ((288 * (km - 1)) + i2) (f i2))))] := hD
                refine lv_iinc (v := nI (i2 + 1)) (lv' := [(1, .int (nI (i2 + 1))), (0, .ref hm)]) hx hb dX12_keeps_80 hl (k := 0) rfl (nI_add i2 1) (by decide) rfl ?_
                clear hl
                try clear ls
                intro ls hl
                refine lv_goto (tgt := 52) hx hb dX12_keeps_83 (by decide) ?_
                exact ih_loop_6 (i2 + 1) (upd g8 ((288 * (km - 1)) + i2) (f i2)) (by omega) (fun j hj => by unfold upd; by_cases q : j = 288 * (km - 1) + i2; subst q; rw [if_pos rfl, if_pos (by omega), show 288 * (km - 1) + i2 - 288 * (km - 1) = i2 by omega]; rw [if_neg q, hg8 j hj]; by_cases z : 288 * (km - 1) ≤ j ∧ j < 288 * (km - 1) + i2; rw [if_pos z, if_pos (by omega)]; rw [if_neg z, if_neg (by omega)]) (by omega) H locs ls hP hD hS (lv_sub hl [0, 1] rfl)
          exact loop_6 _ 0 g9 (by omega) (fun j hj => (if_neg (by omega)).symm) (Nat.lt_succ_self _) H locs ls hP hD hS (lv_sub hl [0, 1] rfl)
        · -- 15 f
          have fc_5 : i < 2016 := nf_nle (by omega) (by omega) c_5
          refine lv_aload_n hx hb dX12_keeps_18 rfl (lv_at hl 1 rfl) ?_
          refine xget C hP 0 rfl rfl zuX12 1 (by decide) zw5_214 rfl dX12_keeps_19 ?_
          refine lv_iload_n hx hb dX12_keeps_22 rfl (lv_at hl 0 rfl) ?_
          refine lv_aload_n hx hb dX12_keeps_23 rfl (lv_at hl 1 rfl) ?_
          refine xget C hP 0 rfl rfl zuX12 1 (by decide) zw5_214 rfl dX12_keeps_24 ?_
          refine lv_iload_n hx hb dX12_keeps_27 rfl (lv_at hl 0 rfl) ?_
          refine lv_sipush (v := nI 288) hx hb dX12_keeps_28 (by decide) ?_
          refine lv_iadd hx hb dX12_keeps_31 ?_
          refine lv_topi (nm_r (e' := nI (i + 288)) (nI_add _ _) ?_)
          refine xiald C hP 2 rfl (i + 288) rfl (by omega) (by decide) dX12_keeps_32 ?_
          refine xiast C hP hD hS 2 rfl i rfl (by omega) (by decide) dX12_keeps_33 ?_
          clear hP hD hS
          try clear locs
          try clear H
          intro H locs hP hD hS
          replace hP : va_P D vwCl [(hm, .inr (12, [.ref ms, .ref mkp, .int (nI km), .ref mtr, .int (nI n), .int (nI k), .int (nI al), .int (nI be), .int ea, .int pr, .ref mas, .int nq, .int po, .int (nI en), .ref mso, .ref mon, .ref mot, .ref man, .int th, .int xd, .ref mst, .ref msm, .ref mtb, .ref mti, .ref mfr, .ref mbn, .ref mbs, .ref mde, .int sF, .int sN, .int sS, .int ig, .long xa, .long xb, .ref maa, .ref mab, .ref mba, .ref mbb])), (ms, .inl (cs 0, 288, .inl f)), (mkp, .inl (cs 0, 2304, .inl (upd g9 i (g9 (i + 288)))))] H := hP
          replace hD : va_D A [(hm, .inr (12, [.ref ms, .ref mkp, .int (nI km), .ref mtr, .int (nI n), .int (nI k), .int (nI al), .int (nI be), .int ea, .int pr, .ref mas, .int nq, .int po, .int (nI en), .ref mso, .ref mon, .ref mot, .ref man, .int th, .int xd, .ref mst, .ref msm, .ref mtb, .ref mti, .ref mfr, .ref mbn, .ref mbs, .ref mde, .int sF, .int sN, .int sS, .int ig, .long xa, .long xb, .ref maa, .ref mab, .ref mba, .ref mbb])), (ms, .inl (cs 0, 288, .inl f)), (mkp, .inl (cs 0, 2304, .inl (upd g9 i (g9 (i + 288)))))] := hD
          refine lv_iinc (v := nI (i + 1)) (lv' := [(1, .int (nI (i + 1))), (0, .ref hm)]) hx hb dX12_keeps_34 hl (k := 0) rfl (nI_add i 1) (by decide) rfl ?_
          clear hl
          try clear ls
          intro ls hl
          refine lv_goto (tgt := 11) hx hb dX12_keeps_37 (by decide) ?_
          exact ih_loop_4 (i + 1) (upd g9 i (g9 (i + 288))) (by omega) (fun j hj => by unfold upd; by_cases q : j = i; subst q; rw [if_pos rfl, if_pos (by omega), hg9 (j + 288) (by omega), if_neg (by omega)]; rw [if_neg q, hg9 j hj]; by_cases z : j < i; rw [if_pos z, if_pos (by omega)]; rw [if_neg z, if_neg (by omega)]) (by omega) H locs ls hP hD hS (lv_sub hl [0, 1] rfl)
    exact loop_4 _ 0 g (by omega) (fun j hj => (if_neg (by omega)).symm) (Nat.lt_succ_self _) H locs ls hP hD hS (lv_sub hl [0, 1] rfl)
