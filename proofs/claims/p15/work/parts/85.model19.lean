set_option maxHeartbeats 4000000 in
set_option maxRecDepth 100000 in
theorem c_X12_laysStep (l : Launch) (D : va_G) (cs : Nat → ClassId) (hm ms mkp mtr mas mso mon mot man mst msm mtb mti mfr mbn mbs mde maa mab mba mbb : Nat) (n k al be km en : Nat) (ea pr nq po th xd sF sN sS ig : Int32) (xa xb : Int64) (aaf abf baf bbf : Nat → Int64) (i : Nat) (x : Int32) (hn : 2 ≤ n ∧ n ≤ 8) (hkn : 1 ≤ k ∧ k < n) (hal : 1 ≤ al ∧ al ≤ k) (hi : 1 ≤ i ∧ i < n) (hI : gr ig ∨ ∀ j, j < i → ¬ abf j = 0 ∧ ¬ bbf j = 0) : xMet l D cs yX12_laysStep cX12_laysStep 11 none ({ frames := 3, cells := 0, slots := 0, locals := 69 } : Room) [.ref hm, .int (nI i), .int x] [(hm, .inr (12, [.ref ms, .ref mkp, .int (nI km), .ref mtr, .int (nI n), .int (nI k), .int (nI al), .int (nI be), .int ea, .int pr, .ref mas, .int nq, .int po, .int (nI en), .ref mso, .ref mon, .ref mot, .ref man, .int th, .int xd, .ref mst, .ref msm, .ref mtb, .ref mti, .ref mfr, .ref mbn, .ref mbs, .ref mde, .int sF, .int sN, .int sS, .int ig, .long xa, .long xb, .ref maa, .ref mab, .ref mba, .ref mbb])), (maa, .inl (cs 1, 9, .inr (.inl aaf))), (mab, .inl (cs 1, 9, .inr (.inl abf))), (mba, .inl (cs 1, 9, .inr (.inl baf))), (mbb, .inl (cs 1, 9, .inr (.inl bbf)))] (xQv D (fun (u : Int32 × Int64 × Int64 × (Nat → Int64) × (Nat → Int64) × (Nat → Int64) × (Nat → Int64)) => match u with | (igz, xaz, xbz, aaz, abz, baz, bbz) => gr igz ∨ ∀ j, j < (i + 1) → ¬ abz j = 0 ∧ ¬ bbz j = 0) (fun (u : Int32 × Int64 × Int64 × (Nat → Int64) × (Nat → Int64) × (Nat → Int64) × (Nat → Int64)) => match u with | (igz, xaz, xbz, aaz, abz, baz, bbz) => [(hm, .inr (12, [.ref ms, .ref mkp, .int (nI km), .ref mtr, .int (nI n), .int (nI k), .int (nI al), .int (nI be), .int ea, .int pr, .ref mas, .int nq, .int po, .int (nI en), .ref mso, .ref mon, .ref mot, .ref man, .int th, .int xd, .ref mst, .ref msm, .ref mtb, .ref mti, .ref mfr, .ref mbn, .ref mbs, .ref mde, .int sF, .int sN, .int sS, .int igz, .long xaz, .long xbz, .ref maa, .ref mab, .ref mba, .ref mbb])), (maa, .inl (cs 1, 9, .inr (.inl aaz))), (mab, .inl (cs 1, 9, .inr (.inl abz))), (mba, .inl (cs 1, 9, .inr (.inl baz))), (mbb, .inl (cs 1, 9, .inr (.inl bbz)))])) := by
  refine xMet.intro (by decide) (Nat.le_of_ble_eq_true rfl) ?_
  intro p e s m args below meth c A ls C hP hD hS hl
  have hx := C.1
  have hb := C.2.1
  have hz := C.2.2.2.2.1
  have hown := C.2.2.2.1
  have hA := C.2.2.2.2.2.2.2.2.2
  have hAO := C.2.2.2.2.2.2.2.2.1.2.2
  replace hl : lv_has ls 11 [(0, .ref hm), (1, .int (nI i)), (2, .int x)] := hl
  obtain ⟨H, hH⟩ : ∃ H, H = s.heap := ⟨_, rfl⟩
  replace hP : va_P D vwCl [(hm, .inr (12, [.ref ms, .ref mkp, .int (nI km), .ref mtr, .int (nI n), .int (nI k), .int (nI al), .int (nI be), .int ea, .int pr, .ref mas, .int nq, .int po, .int (nI en), .ref mso, .ref mon, .ref mot, .ref man, .int th, .int xd, .ref mst, .ref msm, .ref mtb, .ref mti, .ref mfr, .ref mbn, .ref mbs, .ref mde, .int sF, .int sN, .int sS, .int ig, .long xa, .long xb, .ref maa, .ref mab, .ref mba, .ref mbb])), (maa, .inl (cs 1, 9, .inr (.inl aaf))), (mab, .inl (cs 1, 9, .inr (.inl abf))), (mba, .inl (cs 1, 9, .inr (.inl baf))), (mbb, .inl (cs 1, 9, .inr (.inl bbf)))] H := by rw [hH]; exact hP
  replace hS : va_S A s.heap H [] := by rw [hH]; exact hS
  obtain ⟨locs, hlocs⟩ : ∃ z : List Loc, z = [] := ⟨_, rfl⟩
  rw [← hlocs] at hS
  suffices hW : W p l e ({ frames := 3, cells := 0, slots := 0, locals := 69 } : Room) s m args below meth c H locs 0 0 (MQ below ((xQv D (fun (u : Int32 × Int64 × Int64 × (Nat → Int64) × (Nat → Int64) × (Nat → Int64) × (Nat → Int64)) => match u with | (igz, xaz, xbz, aaz, abz, baz, bbz) => gr igz ∨ ∀ j, j < (i + 1) → ¬ abz j = 0 ∧ ¬ bbz j = 0) (fun (u : Int32 × Int64 × Int64 × (Nat → Int64) × (Nat → Int64) × (Nat → Int64) × (Nat → Int64)) => match u with | (igz, xaz, xbz, aaz, abz, baz, bbz) => [(hm, .inr (12, [.ref ms, .ref mkp, .int (nI km), .ref mtr, .int (nI n), .int (nI k), .int (nI al), .int (nI be), .int ea, .int pr, .ref mas, .int nq, .int po, .int (nI en), .ref mso, .ref mon, .ref mot, .ref man, .int th, .int xd, .ref mst, .ref msm, .ref mtb, .ref mti, .ref mfr, .ref mbn, .ref mbs, .ref mde, .int sF, .int sN, .int sS, .int igz, .long xaz, .long xbz, .ref maa, .ref mab, .ref mba, .ref mbb])), (maa, .inl (cs 1, 9, .inr (.inl aaz))), (mab, .inl (cs 1, 9, .inr (.inl abz))), (mba, .inl (cs 1, 9, .inr (.inl baz))), (mbb, .inl (cs 1, 9, .inr (.inl bbz)))])) A) args s 0 0 A) (F0 m 0 ls []) by rw [hlocs, hH] at hW; exact hW
  clear hH hlocs
  refine lv_aload_n hx hb dX12_laysStep_0 rfl (lv_at hl 0 rfl) ?_
  refine lv_iload_n hx hb dX12_laysStep_1 rfl (lv_at hl 1 rfl) ?_
  refine xl (wr := [(maa, .inl (cs 1, 9, .inr (.inl aaf))), (mab, .inl (cs 1, 9, .inr (.inl abf))), (mba, .inl (cs 1, 9, .inr (.inl baf))), (mbb, .inl (cs 1, 9, .inr (.inl bbf)))]) (xV (As := [.int (nI i)]) (rest := []) C (c_X12_up l D cs hm ms mkp mtr mas mso mon mot man mst msm mtb mti mfr mbn mbs mde maa mab mba mbb n k al be km en ea pr nq po th xd sF sN sS ig xa xb (nI i) hn hkn hal) kX12_280 hP hD [0] rfl (by decide +kernel) 0 rfl rfl rfl ⟨Nat.le_of_ble_eq_true rfl, Nat.le_of_ble_eq_true rfl⟩ rfl hl.1 rfl (Nat.le_of_ble_eq_true rfl) dX12_laysStep_2 ⟨Nat.le_of_ble_eq_true rfl, Nat.le_of_ble_eq_true rfl⟩) hP hD hS hA [0] [1, 2, 3, 4] rfl rfl (by decide +kernel) (by decide +kernel) ?_
  clear hP hD hS
  try clear locs
  try clear H
  intro r_1 u_2 H locs hw_r_1 hP hD hS
  refine W.widen (k := 0) (n := 0) (Nat.le_of_ble_eq_true rfl) (Nat.le_of_ble_eq_true rfl) ?_
  replace hP : va_P D vwCl [(maa, .inl (cs 1, 9, .inr (.inl aaf))), (mab, .inl (cs 1, 9, .inr (.inl abf))), (mba, .inl (cs 1, 9, .inr (.inl baf))), (mbb, .inl (cs 1, 9, .inr (.inl bbf))), (hm, .inr (12, [.ref ms, .ref mkp, .int (nI km), .ref mtr, .int (nI n), .int (nI k), .int (nI al), .int (nI be), .int ea, .int pr, .ref mas, .int nq, .int po, .int (nI en), .ref mso, .ref mon, .ref mot, .ref man, .int th, .int xd, .ref mst, .ref msm, .ref mtb, .ref mti, .ref mfr, .ref mbn, .ref mbs, .ref mde, .int sF, .int sN, .int sS, .int ig, .long xa, .long xb, .ref maa, .ref mab, .ref mba, .ref mbb]))] H := hP
  replace hD : va_D A [(maa, .inl (cs 1, 9, .inr (.inl aaf))), (mab, .inl (cs 1, 9, .inr (.inl abf))), (mba, .inl (cs 1, 9, .inr (.inl baf))), (mbb, .inl (cs 1, 9, .inr (.inl bbf))), (hm, .inr (12, [.ref ms, .ref mkp, .int (nI km), .ref mtr, .int (nI n), .int (nI k), .int (nI al), .int (nI be), .int ea, .int pr, .ref mas, .int nq, .int po, .int (nI en), .ref mso, .ref mon, .ref mot, .ref man, .int th, .int xd, .ref mst, .ref msm, .ref mtb, .ref mti, .ref mfr, .ref mbn, .ref mbs, .ref mde, .int sF, .int sN, .int sS, .int ig, .long xa, .long xb, .ref maa, .ref mab, .ref mba, .ref mbb]))] := hD
  refine lv_lstore_n (lv' := [(3, .long r_1), (0, .ref hm), (1, .int (nI i)), (2, .int x)]) hx hb dX12_laysStep_5 rfl hl (by decide) rfl ?_
  clear hl
  try clear ls
  intro ls hl
  refine lv_aload_n hx hb dX12_laysStep_6 rfl (lv_at hl 1 rfl) ?_
  refine lv_iload_n hx hb dX12_laysStep_7 rfl (lv_at hl 2 rfl) ?_
  refine xl (wr := [(maa, .inl (cs 1, 9, .inr (.inl aaf))), (mab, .inl (cs 1, 9, .inr (.inl abf))), (mba, .inl (cs 1, 9, .inr (.inl baf))), (mbb, .inl (cs 1, 9, .inr (.inl bbf)))]) (xV (As := [.int (nI i)]) (rest := []) C (c_X12_down l D cs hm ms mkp mtr mas mso mon mot man mst msm mtb mti mfr mbn mbs mde maa mab mba mbb n k al be km en ea pr nq po th xd sF sN sS ig xa xb (nI i) hn hkn hal) kX12_283 hP hD [4] rfl (by decide +kernel) 0 rfl rfl rfl ⟨Nat.le_of_ble_eq_true rfl, Nat.le_of_ble_eq_true rfl⟩ rfl hl.1 rfl (Nat.le_of_ble_eq_true rfl) dX12_laysStep_8 ⟨Nat.le_of_ble_eq_true rfl, Nat.le_of_ble_eq_true rfl⟩) hP hD hS hA [4] [0, 1, 2, 3] rfl rfl (by decide +kernel) (by decide +kernel) ?_
  clear hP hD hS
  try clear locs
  try clear H
  intro r_3 u_4 H locs hw_r_3 hP hD hS
  refine W.widen (k := 0) (n := 0) (Nat.le_of_ble_eq_true rfl) (Nat.le_of_ble_eq_true rfl) ?_
  replace hP : va_P D vwCl [(maa, .inl (cs 1, 9, .inr (.inl aaf))), (mab, .inl (cs 1, 9, .inr (.inl abf))), (mba, .inl (cs 1, 9, .inr (.inl baf))), (mbb, .inl (cs 1, 9, .inr (.inl bbf))), (hm, .inr (12, [.ref ms, .ref mkp, .int (nI km), .ref mtr, .int (nI n), .int (nI k), .int (nI al), .int (nI be), .int ea, .int pr, .ref mas, .int nq, .int po, .int (nI en), .ref mso, .ref mon, .ref mot, .ref man, .int th, .int xd, .ref mst, .ref msm, .ref mtb, .ref mti, .ref mfr, .ref mbn, .ref mbs, .ref mde, .int sF, .int sN, .int sS, .int ig, .long xa, .long xb, .ref maa, .ref mab, .ref mba, .ref mbb]))] H := hP
  replace hD : va_D A [(maa, .inl (cs 1, 9, .inr (.inl aaf))), (mab, .inl (cs 1, 9, .inr (.inl abf))), (mba, .inl (cs 1, 9, .inr (.inl baf))), (mbb, .inl (cs 1, 9, .inr (.inl bbf))), (hm, .inr (12, [.ref ms, .ref mkp, .int (nI km), .ref mtr, .int (nI n), .int (nI k), .int (nI al), .int (nI be), .int ea, .int pr, .ref mas, .int nq, .int po, .int (nI en), .ref mso, .ref mon, .ref mot, .ref man, .int th, .int xd, .ref mst, .ref msm, .ref mtb, .ref mti, .ref mfr, .ref mbn, .ref mbs, .ref mde, .int sF, .int sN, .int sS, .int ig, .long xa, .long xb, .ref maa, .ref mab, .ref mba, .ref mbb]))] := hD
  refine lv_lstore (lv' := [(5, .long r_3), (3, .long r_1), (0, .ref hm), (1, .int (nI i)), (2, .int x)]) hx hb dX12_laysStep_11 hl (by decide) rfl ?_
  clear hl
  try clear ls
  intro ls hl
  refine lv_aload_n hx hb dX12_laysStep_13 rfl (lv_at hl 2 rfl) ?_
  refine xget C hP 4 rfl rfl zuX12 34 (by decide) zw6_7 rfl dX12_laysStep_14 ?_
  refine lv_iload_n hx hb dX12_laysStep_17 rfl (lv_at hl 3 rfl) ?_
  refine lv_lconst (v := 0) hx hb dX12_laysStep_18 (by decide) ?_
  refine xlast C hP hD hS 0 rfl i rfl (by omega) (by decide) dX12_laysStep_19 ?_
  clear hP hD hS
  try clear locs
  try clear H
  intro H locs hP hD hS
  replace hP : va_P D vwCl [(maa, .inl (cs 1, 9, .inr (.inl (vp_updL aaf i 0)))), (mab, .inl (cs 1, 9, .inr (.inl abf))), (mba, .inl (cs 1, 9, .inr (.inl baf))), (mbb, .inl (cs 1, 9, .inr (.inl bbf))), (hm, .inr (12, [.ref ms, .ref mkp, .int (nI km), .ref mtr, .int (nI n), .int (nI k), .int (nI al), .int (nI be), .int ea, .int pr, .ref mas, .int nq, .int po, .int (nI en), .ref mso, .ref mon, .ref mot, .ref man, .int th, .int xd, .ref mst, .ref msm, .ref mtb, .ref mti, .ref mfr, .ref mbn, .ref mbs, .ref mde, .int sF, .int sN, .int sS, .int ig, .long xa, .long xb, .ref maa, .ref mab, .ref mba, .ref mbb]))] H := hP
  replace hD : va_D A [(maa, .inl (cs 1, 9, .inr (.inl (vp_updL aaf i 0)))), (mab, .inl (cs 1, 9, .inr (.inl abf))), (mba, .inl (cs 1, 9, .inr (.inl baf))), (mbb, .inl (cs 1, 9, .inr (.inl bbf))), (hm, .inr (12, [.ref ms, .ref mkp, .int (nI km), .ref mtr, .int (nI n), .int (nI k), .int (nI al), .int (nI be), .int ea, .int pr, .ref mas, .int nq, .int po, .int (nI en), .ref mso, .ref mon, .ref mot, .ref man, .int th, .int xd, .ref mst, .ref msm, .ref mtb, .ref mti, .ref mfr, .ref mbn, .ref mbs, .ref mde, .int sF, .int sN, .int sS, .int ig, .long xa, .long xb, .ref maa, .ref mab, .ref mba, .ref mbb]))] := hD
  refine lv_aload_n hx hb dX12_laysStep_20 rfl (lv_at hl 2 rfl) ?_
  refine xget C hP 4 rfl rfl zuX12 35 (by decide) zw6_8 rfl dX12_laysStep_21 ?_
  refine lv_iload_n hx hb dX12_laysStep_24 rfl (lv_at hl 3 rfl) ?_
  refine lv_lconst (v := 1) hx hb dX12_laysStep_25 (by decide) ?_
  refine xlast C hP hD hS 1 rfl i rfl (by omega) (by decide) dX12_laysStep_26 ?_
  clear hP hD hS
  try clear locs
  try clear H
  intro H locs hP hD hS
  replace hP : va_P D vwCl [(maa, .inl (cs 1, 9, .inr (.inl (vp_updL aaf i 0)))), (mab, .inl (cs 1, 9, .inr (.inl (vp_updL abf i 1)))), (mba, .inl (cs 1, 9, .inr (.inl baf))), (mbb, .inl (cs 1, 9, .inr (.inl bbf))), (hm, .inr (12, [.ref ms, .ref mkp, .int (nI km), .ref mtr, .int (nI n), .int (nI k), .int (nI al), .int (nI be), .int ea, .int pr, .ref mas, .int nq, .int po, .int (nI en), .ref mso, .ref mon, .ref mot, .ref man, .int th, .int xd, .ref mst, .ref msm, .ref mtb, .ref mti, .ref mfr, .ref mbn, .ref mbs, .ref mde, .int sF, .int sN, .int sS, .int ig, .long xa, .long xb, .ref maa, .ref mab, .ref mba, .ref mbb]))] H := hP
  replace hD : va_D A [(maa, .inl (cs 1, 9, .inr (.inl (vp_updL aaf i 0)))), (mab, .inl (cs 1, 9, .inr (.inl (vp_updL abf i 1)))), (mba, .inl (cs 1, 9, .inr (.inl baf))), (mbb, .inl (cs 1, 9, .inr (.inl bbf))), (hm, .inr (12, [.ref ms, .ref mkp, .int (nI km), .ref mtr, .int (nI n), .int (nI k), .int (nI al), .int (nI be), .int ea, .int pr, .ref mas, .int nq, .int po, .int (nI en), .ref mso, .ref mon, .ref mot, .ref man, .int th, .int xd, .ref mst, .ref msm, .ref mtb, .ref mti, .ref mfr, .ref mbn, .ref mbs, .ref mde, .int sF, .int sN, .int sS, .int ig, .long xa, .long xb, .ref maa, .ref mab, .ref mba, .ref mbb]))] := hD
  refine lv_aload_n hx hb dX12_laysStep_27 rfl (lv_at hl 2 rfl) ?_
  refine xget C hP 4 rfl rfl zuX12 36 (by decide) zw6_9 rfl dX12_laysStep_28 ?_
  refine lv_iload_n hx hb dX12_laysStep_31 rfl (lv_at hl 3 rfl) ?_
  refine lv_lconst (v := 0) hx hb dX12_laysStep_32 (by decide) ?_
  refine xlast C hP hD hS 2 rfl i rfl (by omega) (by decide) dX12_laysStep_33 ?_
  clear hP hD hS
  try clear locs
  try clear H
  intro H locs hP hD hS
  replace hP : va_P D vwCl [(maa, .inl (cs 1, 9, .inr (.inl (vp_updL aaf i 0)))), (mab, .inl (cs 1, 9, .inr (.inl (vp_updL abf i 1)))), (mba, .inl (cs 1, 9, .inr (.inl (vp_updL baf i 0)))), (mbb, .inl (cs 1, 9, .inr (.inl bbf))), (hm, .inr (12, [.ref ms, .ref mkp, .int (nI km), .ref mtr, .int (nI n), .int (nI k), .int (nI al), .int (nI be), .int ea, .int pr, .ref mas, .int nq, .int po, .int (nI en), .ref mso, .ref mon, .ref mot, .ref man, .int th, .int xd, .ref mst, .ref msm, .ref mtb, .ref mti, .ref mfr, .ref mbn, .ref mbs, .ref mde, .int sF, .int sN, .int sS, .int ig, .long xa, .long xb, .ref maa, .ref mab, .ref mba, .ref mbb]))] H := hP
  replace hD : va_D A [(maa, .inl (cs 1, 9, .inr (.inl (vp_updL aaf i 0)))), (mab, .inl (cs 1, 9, .inr (.inl (vp_updL abf i 1)))), (mba, .inl (cs 1, 9, .inr (.inl (vp_updL baf i 0)))), (mbb, .inl (cs 1, 9, .inr (.inl bbf))), (hm, .inr (12, [.ref ms, .ref mkp, .int (nI km), .ref mtr, .int (nI n), .int (nI k), .int (nI al), .int (nI be), .int ea, .int pr, .ref mas, .int nq, .int po, .int (nI en), .ref mso, .ref mon, .ref mot, .ref man, .int th, .int xd, .ref mst, .ref msm, .ref mtb, .ref mti, .ref mfr, .ref mbn, .ref mbs, .ref mde, .int sF, .int sN, .int sS, .int ig, .long xa, .long xb, .ref maa, .ref mab, .ref mba, .ref mbb]))] := hD
  refine lv_aload_n hx hb dX12_laysStep_34 rfl (lv_at hl 2 rfl) ?_
  refine xget C hP 4 rfl rfl zuX12 37 (by decide) zw6_10 rfl dX12_laysStep_35 ?_
  refine lv_iload_n hx hb dX12_laysStep_38 rfl (lv_at hl 3 rfl) ?_
  refine lv_lconst (v := 1) hx hb dX12_laysStep_39 (by decide) ?_
  refine xlast C hP hD hS 3 rfl i rfl (by omega) (by decide) dX12_laysStep_40 ?_
  clear hP hD hS
  try clear locs
  try clear H
  intro H locs hP hD hS
  replace hP : va_P D vwCl [(maa, .inl (cs 1, 9, .inr (.inl (vp_updL aaf i 0)))), (mab, .inl (cs 1, 9, .inr (.inl (vp_updL abf i 1)))), (mba, .inl (cs 1, 9, .inr (.inl (vp_updL baf i 0)))), (mbb, .inl (cs 1, 9, .inr (.inl (vp_updL bbf i 1)))), (hm, .inr (12, [.ref ms, .ref mkp, .int (nI km), .ref mtr, .int (nI n), .int (nI k), .int (nI al), .int (nI be), .int ea, .int pr, .ref mas, .int nq, .int po, .int (nI en), .ref mso, .ref mon, .ref mot, .ref man, .int th, .int xd, .ref mst, .ref msm, .ref mtb, .ref mti, .ref mfr, .ref mbn, .ref mbs, .ref mde, .int sF, .int sN, .int sS, .int ig, .long xa, .long xb, .ref maa, .ref mab, .ref mba, .ref mbb]))] H := hP
  replace hD : va_D A [(maa, .inl (cs 1, 9, .inr (.inl (vp_updL aaf i 0)))), (mab, .inl (cs 1, 9, .inr (.inl (vp_updL abf i 1)))), (mba, .inl (cs 1, 9, .inr (.inl (vp_updL baf i 0)))), (mbb, .inl (cs 1, 9, .inr (.inl (vp_updL bbf i 1)))), (hm, .inr (12, [.ref ms, .ref mkp, .int (nI km), .ref mtr, .int (nI n), .int (nI k), .int (nI al), .int (nI be), .int ea, .int pr, .ref mas, .int nq, .int po, .int (nI en), .ref mso, .ref mon, .ref mot, .ref man, .int th, .int xd, .ref mst, .ref msm, .ref mtb, .ref mti, .ref mfr, .ref mbn, .ref mbs, .ref mde, .int sF, .int sN, .int sS, .int ig, .long xa, .long xb, .ref maa, .ref mab, .ref mba, .ref mbb]))] := hD
  refine lv_lload_n hx hb dX12_laysStep_41 rfl (lv_at hl 1 rfl) ?_
  refine lv_lconst (v := 0) hx hb dX12_laysStep_42 (by decide) ?_
  refine W.lcmp hx hb dX12_laysStep_43 ?_
  refine lv_if_ne (tgt := 55) hx hb dX12_laysStep_44 (by decide) (fun c_5 => ?_) (fun c_5 => ?_)
  · -- 44 t
    refine lv_aload_n hx hb dX12_laysStep_55 rfl (lv_at hl 2 rfl) ?_
    refine lv_lload hx hb dX12_laysStep_56 (lv_at hl 0 rfl) ?_
    refine lv_lconst (v := 1) hx hb dX12_laysStep_58 (by decide) ?_
    refine lv_aload_n hx hb dX12_laysStep_59 rfl (lv_at hl 2 rfl) ?_
    refine xget C hP 4 rfl rfl zuX12 34 (by decide) zw6_7 rfl dX12_laysStep_60 ?_
    refine lv_iload_n hx hb dX12_laysStep_63 rfl (lv_at hl 3 rfl) ?_
    refine lv_iconst (v := nI 1) hx hb dX12_laysStep_64 (by decide) ?_
    refine lv_isub hx hb dX12_laysStep_65 ?_
    refine lv_topi (nm_r (e' := nI (i - 1)) (pk_sub (by omega)) ?_)
    refine xlald C hP 0 rfl (i - 1) rfl (by omega) (by decide) dX12_laysStep_66 ?_
    refine lv_aload_n hx hb dX12_laysStep_67 rfl (lv_at hl 2 rfl) ?_
    refine xget C hP 4 rfl rfl zuX12 35 (by decide) zw6_8 rfl dX12_laysStep_68 ?_
    refine lv_iload_n hx hb dX12_laysStep_71 rfl (lv_at hl 3 rfl) ?_
    refine lv_iconst (v := nI 1) hx hb dX12_laysStep_72 (by decide) ?_
    refine lv_isub hx hb dX12_laysStep_73 ?_
    refine lv_topi (nm_r (e' := nI (i - 1)) (pk_sub (by omega)) ?_)
    refine xlald C hP 1 rfl (i - 1) rfl (by omega) (by decide) dX12_laysStep_74 ?_
    refine xv (wr := [(maa, .inl (cs 1, 9, .inr (.inl (vp_updL aaf i 0)))), (mab, .inl (cs 1, 9, .inr (.inl (vp_updL abf i 1)))), (mba, .inl (cs 1, 9, .inr (.inl (vp_updL baf i 0)))), (mbb, .inl (cs 1, 9, .inr (.inl (vp_updL bbf i 1))))]) (xV (As := [.long r_3, .long 1, .long ((vp_updL aaf i 0) (i - 1)), .long ((vp_updL abf i 1) (i - 1))]) (rest := []) C (c_X12_multiplies l D cs hm ms mkp mtr mas mso mon mot man mst msm mtb mti mfr mbn mbs mde maa mab mba mbb n k al be km en ea pr nq po th xd sF sN sS ig xa xb r_3 1 ((vp_updL aaf i 0) (i - 1)) ((vp_updL abf i 1) (i - 1)) (hI.elim (fun g => Or.inl ((fun h => h) g)) (fun z => Or.inr ⟨by decide, by rw [updL_ne (by omega)]; exact (z (i - 1) (by omega)).1⟩))) kX12_286 hP hD [4] rfl (by decide +kernel) 0 rfl rfl rfl ⟨Nat.le_of_ble_eq_true rfl, Nat.le_of_ble_eq_true rfl⟩ rfl hl.1 rfl (Nat.le_of_ble_eq_true rfl) dX12_laysStep_75 ⟨Nat.le_of_ble_eq_true rfl, Nat.le_of_ble_eq_true rfl⟩) hP hD hS hA [4] [0, 1, 2, 3] rfl rfl (by decide +kernel) (by decide +kernel) ?_
    clear hP hD hS
    try clear locs
    try clear H
    intro u_7 H locs hw_r_6 hP hD hS
    obtain ⟨igz_8, xaz_9, xbz_10⟩ := u_7
    have hw_r_6 : (gr ig → gr igz_8) ∧ ¬ xbz_10 = 0 := hw_r_6
    refine W.widen (k := 0) (n := 0) (Nat.le_of_ble_eq_true rfl) (Nat.le_of_ble_eq_true rfl) ?_
    replace hP : va_P D vwCl [(maa, .inl (cs 1, 9, .inr (.inl (vp_updL aaf i 0)))), (mab, .inl (cs 1, 9, .inr (.inl (vp_updL abf i 1)))), (mba, .inl (cs 1, 9, .inr (.inl (vp_updL baf i 0)))), (mbb, .inl (cs 1, 9, .inr (.inl (vp_updL bbf i 1)))), (hm, .inr (12, [.ref ms, .ref mkp, .int (nI km), .ref mtr, .int (nI n), .int (nI k), .int (nI al), .int (nI be), .int ea, .int pr, .ref mas, .int nq, .int po, .int (nI en), .ref mso, .ref mon, .ref mot, .ref man, .int th, .int xd, .ref mst, .ref msm, .ref mtb, .ref mti, .ref mfr, .ref mbn, .ref mbs, .ref mde, .int sF, .int sN, .int sS, .int igz_8, .long xaz_9, .long xbz_10, .ref maa, .ref mab, .ref mba, .ref mbb]))] H := hP
    replace hD : va_D A [(maa, .inl (cs 1, 9, .inr (.inl (vp_updL aaf i 0)))), (mab, .inl (cs 1, 9, .inr (.inl (vp_updL abf i 1)))), (mba, .inl (cs 1, 9, .inr (.inl (vp_updL baf i 0)))), (mbb, .inl (cs 1, 9, .inr (.inl (vp_updL bbf i 1)))), (hm, .inr (12, [.ref ms, .ref mkp, .int (nI km), .ref mtr, .int (nI n), .int (nI k), .int (nI al), .int (nI be), .int ea, .int pr, .ref mas, .int nq, .int po, .int (nI en), .ref mso, .ref mon, .ref mot, .ref man, .int th, .int xd, .ref mst, .ref msm, .ref mtb, .ref mti, .ref mfr, .ref mbn, .ref mbs, .ref mde, .int sF, .int sN, .int sS, .int igz_8, .long xaz_9, .long xbz_10, .ref maa, .ref mab, .ref mba, .ref mbb]))] := hD
    refine lv_aload_n hx hb dX12_laysStep_78 rfl (lv_at hl 2 rfl) ?_
    refine lv_lload_n hx hb dX12_laysStep_79 rfl (lv_at hl 1 rfl) ?_
    refine lv_lload hx hb dX12_laysStep_80 (lv_at hl 0 rfl) ?_
    refine lv_ladd hx hb dX12_laysStep_82 ?_
    refine lv_lconst (v := 1) hx hb dX12_laysStep_83 (by decide) ?_
    refine lv_aload_n hx hb dX12_laysStep_84 rfl (lv_at hl 2 rfl) ?_
    refine xget C hP 4 rfl rfl zuX12 32 (by decide) zw6_5 rfl dX12_laysStep_85 ?_
    refine lv_aload_n hx hb dX12_laysStep_88 rfl (lv_at hl 2 rfl) ?_
    refine xget C hP 4 rfl rfl zuX12 33 (by decide) zw6_6 rfl dX12_laysStep_89 ?_
    refine xv (wr := [(maa, .inl (cs 1, 9, .inr (.inl (vp_updL aaf i 0)))), (mab, .inl (cs 1, 9, .inr (.inl (vp_updL abf i 1)))), (mba, .inl (cs 1, 9, .inr (.inl (vp_updL baf i 0)))), (mbb, .inl (cs 1, 9, .inr (.inl (vp_updL bbf i 1))))]) (xV (As := [.long (r_1 + r_3), .long 1, .long xaz_9, .long xbz_10]) (rest := []) C (c_X12_lessens l D cs hm ms mkp mtr mas mso mon mot man mst msm mtb mti mfr mbn mbs mde maa mab mba mbb n k al be km en ea pr nq po th xd sF sN sS igz_8 xaz_9 xbz_10 (r_1 + r_3) 1 xaz_9 xbz_10 (Or.inr ⟨by decide, hw_r_6.2⟩)) kX12_290 hP hD [4] rfl (by decide +kernel) 0 rfl rfl rfl ⟨Nat.le_of_ble_eq_true rfl, Nat.le_of_ble_eq_true rfl⟩ rfl hl.1 rfl (Nat.le_of_ble_eq_true rfl) dX12_laysStep_92 ⟨Nat.le_of_ble_eq_true rfl, Nat.le_of_ble_eq_true rfl⟩) hP hD hS hA [4] [0, 1, 2, 3] rfl rfl (by decide +kernel) (by decide +kernel) ?_
    clear hP hD hS
    try clear locs
    try clear H
    intro u_12 H locs hw_r_11 hP hD hS
    obtain ⟨igz_13, xaz_14, xbz_15⟩ := u_12
    have hw_r_11 : (gr igz_8 → gr igz_13) ∧ ¬ xbz_15 = 0 := hw_r_11
    refine W.widen (k := 0) (n := 0) (Nat.le_of_ble_eq_true rfl) (Nat.le_of_ble_eq_true rfl) ?_
    replace hP : va_P D vwCl [(maa, .inl (cs 1, 9, .inr (.inl (vp_updL aaf i 0)))), (mab, .inl (cs 1, 9, .inr (.inl (vp_updL abf i 1)))), (mba, .inl (cs 1, 9, .inr (.inl (vp_updL baf i 0)))), (mbb, .inl (cs 1, 9, .inr (.inl (vp_updL bbf i 1)))), (hm, .inr (12, [.ref ms, .ref mkp, .int (nI km), .ref mtr, .int (nI n), .int (nI k), .int (nI al), .int (nI be), .int ea, .int pr, .ref mas, .int nq, .int po, .int (nI en), .ref mso, .ref mon, .ref mot, .ref man, .int th, .int xd, .ref mst, .ref msm, .ref mtb, .ref mti, .ref mfr, .ref mbn, .ref mbs, .ref mde, .int sF, .int sN, .int sS, .int igz_13, .long xaz_14, .long xbz_15, .ref maa, .ref mab, .ref mba, .ref mbb]))] H := hP
    replace hD : va_D A [(maa, .inl (cs 1, 9, .inr (.inl (vp_updL aaf i 0)))), (mab, .inl (cs 1, 9, .inr (.inl (vp_updL abf i 1)))), (mba, .inl (cs 1, 9, .inr (.inl (vp_updL baf i 0)))), (mbb, .inl (cs 1, 9, .inr (.inl (vp_updL bbf i 1)))), (hm, .inr (12, [.ref ms, .ref mkp, .int (nI km), .ref mtr, .int (nI n), .int (nI k), .int (nI al), .int (nI be), .int ea, .int pr, .ref mas, .int nq, .int po, .int (nI en), .ref mso, .ref mon, .ref mot, .ref man, .int th, .int xd, .ref mst, .ref msm, .ref mtb, .ref mti, .ref mfr, .ref mbn, .ref mbs, .ref mde, .int sF, .int sN, .int sS, .int igz_13, .long xaz_14, .long xbz_15, .ref maa, .ref mab, .ref mba, .ref mbb]))] := hD
    refine lv_aload_n hx hb dX12_laysStep_95 rfl (lv_at hl 2 rfl) ?_
    refine xget C hP 4 rfl rfl zuX12 32 (by decide) zw6_5 rfl dX12_laysStep_96 ?_
    refine lv_lstore (lv' := [(7, .long xaz_14), (5, .long r_3), (3, .long r_1), (0, .ref hm), (1, .int (nI i)), (2, .int x)]) hx hb dX12_laysStep_99 hl (by decide) rfl ?_
    clear hl
    try clear ls
    intro ls hl
    refine lv_aload_n hx hb dX12_laysStep_101 rfl (lv_at hl 3 rfl) ?_
    refine xget C hP 4 rfl rfl zuX12 33 (by decide) zw6_6 rfl dX12_laysStep_102 ?_
    refine lv_lstore (lv' := [(9, .long xbz_15), (7, .long xaz_14), (5, .long r_3), (3, .long r_1), (0, .ref hm), (1, .int (nI i)), (2, .int x)]) hx hb dX12_laysStep_105 hl (by decide) rfl ?_
    clear hl
    try clear ls
    intro ls hl
    refine lv_lload hx hb dX12_laysStep_107 (lv_at hl 1 rfl) ?_
    refine lv_lconst (v := 0) hx hb dX12_laysStep_109 (by decide) ?_
    refine W.lcmp hx hb dX12_laysStep_110 ?_
    refine lv_if_eq (tgt := 121) hx hb dX12_laysStep_111 (by decide) (fun c_16 => ?_) (fun c_16 => ?_)
    · -- 111 t
      exact xretv C (⟨igz_13, xaz_14, xbz_15, (vp_updL aaf i 0), (vp_updL abf i 1), (vp_updL baf i 0), (vp_updL bbf i 1)⟩) (hI.elim (fun g => Or.inl ((fun h => hw_r_11.1 ((fun h => hw_r_6.1 ((fun h => h) h)) h)) g)) (fun z => Or.inr (fun j hj => by by_cases qj : j = i; (subst qj; exact ⟨by rw [updL_at]; exact (by decide), by rw [updL_at]; exact (by decide)⟩); exact ⟨by simp only [updL_ne qj]; exact (z j (by omega)).1, by simp only [updL_ne qj]; exact (z j (by omega)).2⟩))) (xP_map hP [4, 0, 1, 2, 3] rfl) (hD.sub [4, 0, 1, 2, 3] (by decide +kernel) rfl) hS (Nat.le_of_ble_eq_true rfl) (Nat.le_of_ble_eq_true rfl) dX12_laysStep_121
    · -- 111 f
      refine lv_aload_n hx hb dX12_laysStep_114 rfl (lv_at hl 4 rfl) ?_
      refine xget C hP 4 rfl rfl zuX12 31 (by decide) zw6_4 rfl dX12_laysStep_115 ?_
      refine lv_if_eq (tgt := 122) hx hb dX12_laysStep_118 (by decide) (fun c_17 => ?_) (fun c_17 => ?_)
      · -- 118 t
        refine lv_aload_n hx hb dX12_laysStep_122 rfl (lv_at hl 4 rfl) ?_
        refine lv_lload_n hx hb dX12_laysStep_123 rfl (lv_at hl 3 rfl) ?_
        refine lv_lconst (v := 1) hx hb dX12_laysStep_124 (by decide) ?_
        refine lv_lload hx hb dX12_laysStep_125 (lv_at hl 1 rfl) ?_
        refine lv_lload hx hb dX12_laysStep_127 (lv_at hl 0 rfl) ?_
        refine xv (wr := [(maa, .inl (cs 1, 9, .inr (.inl (vp_updL aaf i 0)))), (mab, .inl (cs 1, 9, .inr (.inl (vp_updL abf i 1)))), (mba, .inl (cs 1, 9, .inr (.inl (vp_updL baf i 0)))), (mbb, .inl (cs 1, 9, .inr (.inl (vp_updL bbf i 1))))]) (xV (As := [.long r_1, .long 1, .long xaz_14, .long xbz_15]) (rest := []) C (c_X12_divides l D cs hm ms mkp mtr mas mso mon mot man mst msm mtb mti mfr mbn mbs mde maa mab mba mbb n k al be km en ea pr nq po th xd sF sN sS igz_13 xaz_14 xbz_15 r_1 1 xaz_14 xbz_15 (Or.inr ⟨by decide, (l_ne c_16)⟩)) kX12_293 hP hD [4] rfl (by decide +kernel) 0 rfl rfl rfl ⟨Nat.le_of_ble_eq_true rfl, Nat.le_of_ble_eq_true rfl⟩ rfl hl.1 rfl (Nat.le_of_ble_eq_true rfl) dX12_laysStep_129 ⟨Nat.le_of_ble_eq_true rfl, Nat.le_of_ble_eq_true rfl⟩) hP hD hS hA [4] [0, 1, 2, 3] rfl rfl (by decide +kernel) (by decide +kernel) ?_
        clear hP hD hS
        try clear locs
        try clear H
        intro u_19 H locs hw_r_18 hP hD hS
        obtain ⟨igz_20, xaz_21, xbz_22⟩ := u_19
        have hw_r_18 : (gr igz_13 → gr igz_20) ∧ ¬ xbz_22 = 0 := hw_r_18
        refine W.widen (k := 0) (n := 0) (Nat.le_of_ble_eq_true rfl) (Nat.le_of_ble_eq_true rfl) ?_
        replace hP : va_P D vwCl [(maa, .inl (cs 1, 9, .inr (.inl (vp_updL aaf i 0)))), (mab, .inl (cs 1, 9, .inr (.inl (vp_updL abf i 1)))), (mba, .inl (cs 1, 9, .inr (.inl (vp_updL baf i 0)))), (mbb, .inl (cs 1, 9, .inr (.inl (vp_updL bbf i 1)))), (hm, .inr (12, [.ref ms, .ref mkp, .int (nI km), .ref mtr, .int (nI n), .int (nI k), .int (nI al), .int (nI be), .int ea, .int pr, .ref mas, .int nq, .int po, .int (nI en), .ref mso, .ref mon, .ref mot, .ref man, .int th, .int xd, .ref mst, .ref msm, .ref mtb, .ref mti, .ref mfr, .ref mbn, .ref mbs, .ref mde, .int sF, .int sN, .int sS, .int igz_20, .long xaz_21, .long xbz_22, .ref maa, .ref mab, .ref mba, .ref mbb]))] H := hP
        replace hD : va_D A [(maa, .inl (cs 1, 9, .inr (.inl (vp_updL aaf i 0)))), (mab, .inl (cs 1, 9, .inr (.inl (vp_updL abf i 1)))), (mba, .inl (cs 1, 9, .inr (.inl (vp_updL baf i 0)))), (mbb, .inl (cs 1, 9, .inr (.inl (vp_updL bbf i 1)))), (hm, .inr (12, [.ref ms, .ref mkp, .int (nI km), .ref mtr, .int (nI n), .int (nI k), .int (nI al), .int (nI be), .int ea, .int pr, .ref mas, .int nq, .int po, .int (nI en), .ref mso, .ref mon, .ref mot, .ref man, .int th, .int xd, .ref mst, .ref msm, .ref mtb, .ref mti, .ref mfr, .ref mbn, .ref mbs, .ref mde, .int sF, .int sN, .int sS, .int igz_20, .long xaz_21, .long xbz_22, .ref maa, .ref mab, .ref mba, .ref mbb]))] := hD
        refine lv_aload_n hx hb dX12_laysStep_132 rfl (lv_at hl 4 rfl) ?_
        refine xget C hP 4 rfl rfl zuX12 34 (by decide) zw6_7 rfl dX12_laysStep_133 ?_
        refine lv_iload_n hx hb dX12_laysStep_136 rfl (lv_at hl 5 rfl) ?_
        refine lv_aload_n hx hb dX12_laysStep_137 rfl (lv_at hl 4 rfl) ?_
        refine xget C hP 4 rfl rfl zuX12 32 (by decide) zw6_5 rfl dX12_laysStep_138 ?_
        refine xlast C hP hD hS 0 rfl i rfl (by omega) (by decide) dX12_laysStep_141 ?_
        clear hP hD hS
        try clear locs
        try clear H
        intro H locs hP hD hS
        replace hP : va_P D vwCl [(maa, .inl (cs 1, 9, .inr (.inl (vp_updL (vp_updL aaf i 0) i xaz_21)))), (mab, .inl (cs 1, 9, .inr (.inl (vp_updL abf i 1)))), (mba, .inl (cs 1, 9, .inr (.inl (vp_updL baf i 0)))), (mbb, .inl (cs 1, 9, .inr (.inl (vp_updL bbf i 1)))), (hm, .inr (12, [.ref ms, .ref mkp, .int (nI km), .ref mtr, .int (nI n), .int (nI k), .int (nI al), .int (nI be), .int ea, .int pr, .ref mas, .int nq, .int po, .int (nI en), .ref mso, .ref mon, .ref mot, .ref man, .int th, .int xd, .ref mst, .ref msm, .ref mtb, .ref mti, .ref mfr, .ref mbn, .ref mbs, .ref mde, .int sF, .int sN, .int sS, .int igz_20, .long xaz_21, .long xbz_22, .ref maa, .ref mab, .ref mba, .ref mbb]))] H := hP
        replace hD : va_D A [(maa, .inl (cs 1, 9, .inr (.inl (vp_updL (vp_updL aaf i 0) i xaz_21)))), (mab, .inl (cs 1, 9, .inr (.inl (vp_updL abf i 1)))), (mba, .inl (cs 1, 9, .inr (.inl (vp_updL baf i 0)))), (mbb, .inl (cs 1, 9, .inr (.inl (vp_updL bbf i 1)))), (hm, .inr (12, [.ref ms, .ref mkp, .int (nI km), .ref mtr, .int (nI n), .int (nI k), .int (nI al), .int (nI be), .int ea, .int pr, .ref mas, .int nq, .int po, .int (nI en), .ref mso, .ref mon, .ref mot, .ref man, .int th, .int xd, .ref mst, .ref msm, .ref mtb, .ref mti, .ref mfr, .ref mbn, .ref mbs, .ref mde, .int sF, .int sN, .int sS, .int igz_20, .long xaz_21, .long xbz_22, .ref maa, .ref mab, .ref mba, .ref mbb]))] := hD
        refine lv_aload_n hx hb dX12_laysStep_142 rfl (lv_at hl 4 rfl) ?_
        refine xget C hP 4 rfl rfl zuX12 35 (by decide) zw6_8 rfl dX12_laysStep_143 ?_
        refine lv_iload_n hx hb dX12_laysStep_146 rfl (lv_at hl 5 rfl) ?_
        refine lv_aload_n hx hb dX12_laysStep_147 rfl (lv_at hl 4 rfl) ?_
        refine xget C hP 4 rfl rfl zuX12 33 (by decide) zw6_6 rfl dX12_laysStep_148 ?_
        refine xlast C hP hD hS 1 rfl i rfl (by omega) (by decide) dX12_laysStep_151 ?_
        clear hP hD hS
        try clear locs
        try clear H
        intro H locs hP hD hS
        replace hP : va_P D vwCl [(maa, .inl (cs 1, 9, .inr (.inl (vp_updL (vp_updL aaf i 0) i xaz_21)))), (mab, .inl (cs 1, 9, .inr (.inl (vp_updL (vp_updL abf i 1) i xbz_22)))), (mba, .inl (cs 1, 9, .inr (.inl (vp_updL baf i 0)))), (mbb, .inl (cs 1, 9, .inr (.inl (vp_updL bbf i 1)))), (hm, .inr (12, [.ref ms, .ref mkp, .int (nI km), .ref mtr, .int (nI n), .int (nI k), .int (nI al), .int (nI be), .int ea, .int pr, .ref mas, .int nq, .int po, .int (nI en), .ref mso, .ref mon, .ref mot, .ref man, .int th, .int xd, .ref mst, .ref msm, .ref mtb, .ref mti, .ref mfr, .ref mbn, .ref mbs, .ref mde, .int sF, .int sN, .int sS, .int igz_20, .long xaz_21, .long xbz_22, .ref maa, .ref mab, .ref mba, .ref mbb]))] H := hP
        replace hD : va_D A [(maa, .inl (cs 1, 9, .inr (.inl (vp_updL (vp_updL aaf i 0) i xaz_21)))), (mab, .inl (cs 1, 9, .inr (.inl (vp_updL (vp_updL abf i 1) i xbz_22)))), (mba, .inl (cs 1, 9, .inr (.inl (vp_updL baf i 0)))), (mbb, .inl (cs 1, 9, .inr (.inl (vp_updL bbf i 1)))), (hm, .inr (12, [.ref ms, .ref mkp, .int (nI km), .ref mtr, .int (nI n), .int (nI k), .int (nI al), .int (nI be), .int ea, .int pr, .ref mas, .int nq, .int po, .int (nI en), .ref mso, .ref mon, .ref mot, .ref man, .int th, .int xd, .ref mst, .ref msm, .ref mtb, .ref mti, .ref mfr, .ref mbn, .ref mbs, .ref mde, .int sF, .int sN, .int sS, .int igz_20, .long xaz_21, .long xbz_22, .ref maa, .ref mab, .ref mba, .ref mbb]))] := hD
        refine lv_aload_n hx hb dX12_laysStep_152 rfl (lv_at hl 4 rfl) ?_
        refine lv_lload hx hb dX12_laysStep_153 (lv_at hl 2 rfl) ?_
        refine lv_lconst (v := 1) hx hb dX12_laysStep_155 (by decide) ?_
        refine lv_aload_n hx hb dX12_laysStep_156 rfl (lv_at hl 4 rfl) ?_
        refine xget C hP 4 rfl rfl zuX12 36 (by decide) zw6_9 rfl dX12_laysStep_157 ?_
        refine lv_iload_n hx hb dX12_laysStep_160 rfl (lv_at hl 5 rfl) ?_
        refine lv_iconst (v := nI 1) hx hb dX12_laysStep_161 (by decide) ?_
        refine lv_isub hx hb dX12_laysStep_162 ?_
        refine lv_topi (nm_r (e' := nI (i - 1)) (pk_sub (by omega)) ?_)
        refine xlald C hP 2 rfl (i - 1) rfl (by omega) (by decide) dX12_laysStep_163 ?_
        refine lv_aload_n hx hb dX12_laysStep_164 rfl (lv_at hl 4 rfl) ?_
        refine xget C hP 4 rfl rfl zuX12 37 (by decide) zw6_10 rfl dX12_laysStep_165 ?_
        refine lv_iload_n hx hb dX12_laysStep_168 rfl (lv_at hl 5 rfl) ?_
        refine lv_iconst (v := nI 1) hx hb dX12_laysStep_169 (by decide) ?_
        refine lv_isub hx hb dX12_laysStep_170 ?_
        refine lv_topi (nm_r (e' := nI (i - 1)) (pk_sub (by omega)) ?_)
        refine xlald C hP 3 rfl (i - 1) rfl (by omega) (by decide) dX12_laysStep_171 ?_
        refine xv (wr := [(maa, .inl (cs 1, 9, .inr (.inl (vp_updL (vp_updL aaf i 0) i xaz_21)))), (mab, .inl (cs 1, 9, .inr (.inl (vp_updL (vp_updL abf i 1) i xbz_22)))), (mba, .inl (cs 1, 9, .inr (.inl (vp_updL baf i 0)))), (mbb, .inl (cs 1, 9, .inr (.inl (vp_updL bbf i 1))))]) (xV (As := [.long r_3, .long 1, .long ((vp_updL baf i 0) (i - 1)), .long ((vp_updL bbf i 1) (i - 1))]) (rest := []) C (c_X12_multiplies l D cs hm ms mkp mtr mas mso mon mot man mst msm mtb mti mfr mbn mbs mde maa mab mba mbb n k al be km en ea pr nq po th xd sF sN sS igz_20 xaz_21 xbz_22 r_3 1 ((vp_updL baf i 0) (i - 1)) ((vp_updL bbf i 1) (i - 1)) (hI.elim (fun g => Or.inl ((fun h => hw_r_18.1 ((fun h => hw_r_11.1 ((fun h => hw_r_6.1 ((fun h => h) h)) h)) h)) g)) (fun z => Or.inr ⟨by decide, by rw [updL_ne (by omega)]; exact (z (i - 1) (by omega)).2⟩))) kX12_286 hP hD [4] rfl (by decide +kernel) 0 rfl rfl rfl ⟨Nat.le_of_ble_eq_true rfl, Nat.le_of_ble_eq_true rfl⟩ rfl hl.1 rfl (Nat.le_of_ble_eq_true rfl) dX12_laysStep_172 ⟨Nat.le_of_ble_eq_true rfl, Nat.le_of_ble_eq_true rfl⟩) hP hD hS hA [4] [0, 1, 2, 3] rfl rfl (by decide +kernel) (by decide +kernel) ?_
        clear hP hD hS
        try clear locs
        try clear H
        intro u_24 H locs hw_r_23 hP hD hS
        obtain ⟨igz_25, xaz_26, xbz_27⟩ := u_24
        have hw_r_23 : (gr igz_20 → gr igz_25) ∧ ¬ xbz_27 = 0 := hw_r_23
        refine W.widen (k := 0) (n := 0) (Nat.le_of_ble_eq_true rfl) (Nat.le_of_ble_eq_true rfl) ?_
        replace hP : va_P D vwCl [(maa, .inl (cs 1, 9, .inr (.inl (vp_updL (vp_updL aaf i 0) i xaz_21)))), (mab, .inl (cs 1, 9, .inr (.inl (vp_updL (vp_updL abf i 1) i xbz_22)))), (mba, .inl (cs 1, 9, .inr (.inl (vp_updL baf i 0)))), (mbb, .inl (cs 1, 9, .inr (.inl (vp_updL bbf i 1)))), (hm, .inr (12, [.ref ms, .ref mkp, .int (nI km), .ref mtr, .int (nI n), .int (nI k), .int (nI al), .int (nI be), .int ea, .int pr, .ref mas, .int nq, .int po, .int (nI en), .ref mso, .ref mon, .ref mot, .ref man, .int th, .int xd, .ref mst, .ref msm, .ref mtb, .ref mti, .ref mfr, .ref mbn, .ref mbs, .ref mde, .int sF, .int sN, .int sS, .int igz_25, .long xaz_26, .long xbz_27, .ref maa, .ref mab, .ref mba, .ref mbb]))] H := hP
        replace hD : va_D A [(maa, .inl (cs 1, 9, .inr (.inl (vp_updL (vp_updL aaf i 0) i xaz_21)))), (mab, .inl (cs 1, 9, .inr (.inl (vp_updL (vp_updL abf i 1) i xbz_22)))), (mba, .inl (cs 1, 9, .inr (.inl (vp_updL baf i 0)))), (mbb, .inl (cs 1, 9, .inr (.inl (vp_updL bbf i 1)))), (hm, .inr (12, [.ref ms, .ref mkp, .int (nI km), .ref mtr, .int (nI n), .int (nI k), .int (nI al), .int (nI be), .int ea, .int pr, .ref mas, .int nq, .int po, .int (nI en), .ref mso, .ref mon, .ref mot, .ref man, .int th, .int xd, .ref mst, .ref msm, .ref mtb, .ref mti, .ref mfr, .ref mbn, .ref mbs, .ref mde, .int sF, .int sN, .int sS, .int igz_25, .long xaz_26, .long xbz_27, .ref maa, .ref mab, .ref mba, .ref mbb]))] := hD
        refine lv_iload_n hx hb dX12_laysStep_175 rfl (lv_at hl 6 rfl) ?_
        refine lv_if_eq (tgt := 202) hx hb dX12_laysStep_176 (by decide) (fun c_28 => ?_) (fun c_28 => ?_)
        · -- 176 t
          refine lv_aload_n hx hb dX12_laysStep_202 rfl (lv_at hl 4 rfl) ?_
          refine lv_aload_n hx hb dX12_laysStep_203 rfl (lv_at hl 4 rfl) ?_
          refine xget C hP 4 rfl rfl zuX12 32 (by decide) zw6_5 rfl dX12_laysStep_204 ?_
          refine lv_aload_n hx hb dX12_laysStep_207 rfl (lv_at hl 4 rfl) ?_
          refine xget C hP 4 rfl rfl zuX12 33 (by decide) zw6_6 rfl dX12_laysStep_208 ?_
          refine lv_lload hx hb dX12_laysStep_211 (lv_at hl 1 rfl) ?_
          refine lv_lload hx hb dX12_laysStep_213 (lv_at hl 0 rfl) ?_
          refine xv (wr := [(maa, .inl (cs 1, 9, .inr (.inl (vp_updL (vp_updL aaf i 0) i xaz_21)))), (mab, .inl (cs 1, 9, .inr (.inl (vp_updL (vp_updL abf i 1) i xbz_22)))), (mba, .inl (cs 1, 9, .inr (.inl (vp_updL baf i 0)))), (mbb, .inl (cs 1, 9, .inr (.inl (vp_updL bbf i 1))))]) (xV (As := [.long xaz_26, .long xbz_27, .long xaz_14, .long xbz_15]) (rest := []) C (c_X12_divides l D cs hm ms mkp mtr mas mso mon mot man mst msm mtb mti mfr mbn mbs mde maa mab mba mbb n k al be km en ea pr nq po th xd sF sN sS igz_25 xaz_26 xbz_27 xaz_26 xbz_27 xaz_14 xbz_15 (Or.inr ⟨hw_r_23.2, (l_ne c_16)⟩)) kX12_293 hP hD [4] rfl (by decide +kernel) 0 rfl rfl rfl ⟨Nat.le_of_ble_eq_true rfl, Nat.le_of_ble_eq_true rfl⟩ rfl hl.1 rfl (Nat.le_of_ble_eq_true rfl) dX12_laysStep_215 ⟨Nat.le_of_ble_eq_true rfl, Nat.le_of_ble_eq_true rfl⟩) hP hD hS hA [4] [0, 1, 2, 3] rfl rfl (by decide +kernel) (by decide +kernel) ?_
          clear hP hD hS
          try clear locs
          try clear H
          intro u_30 H locs hw_r_29 hP hD hS
          obtain ⟨igz_31, xaz_32, xbz_33⟩ := u_30
          have hw_r_29 : (gr igz_25 → gr igz_31) ∧ ¬ xbz_33 = 0 := hw_r_29
          refine W.widen (k := 0) (n := 0) (Nat.le_of_ble_eq_true rfl) (Nat.le_of_ble_eq_true rfl) ?_
          replace hP : va_P D vwCl [(maa, .inl (cs 1, 9, .inr (.inl (vp_updL (vp_updL aaf i 0) i xaz_21)))), (mab, .inl (cs 1, 9, .inr (.inl (vp_updL (vp_updL abf i 1) i xbz_22)))), (mba, .inl (cs 1, 9, .inr (.inl (vp_updL baf i 0)))), (mbb, .inl (cs 1, 9, .inr (.inl (vp_updL bbf i 1)))), (hm, .inr (12, [.ref ms, .ref mkp, .int (nI km), .ref mtr, .int (nI n), .int (nI k), .int (nI al), .int (nI be), .int ea, .int pr, .ref mas, .int nq, .int po, .int (nI en), .ref mso, .ref mon, .ref mot, .ref man, .int th, .int xd, .ref mst, .ref msm, .ref mtb, .ref mti, .ref mfr, .ref mbn, .ref mbs, .ref mde, .int sF, .int sN, .int sS, .int igz_31, .long xaz_32, .long xbz_33, .ref maa, .ref mab, .ref mba, .ref mbb]))] H := hP
          replace hD : va_D A [(maa, .inl (cs 1, 9, .inr (.inl (vp_updL (vp_updL aaf i 0) i xaz_21)))), (mab, .inl (cs 1, 9, .inr (.inl (vp_updL (vp_updL abf i 1) i xbz_22)))), (mba, .inl (cs 1, 9, .inr (.inl (vp_updL baf i 0)))), (mbb, .inl (cs 1, 9, .inr (.inl (vp_updL bbf i 1)))), (hm, .inr (12, [.ref ms, .ref mkp, .int (nI km), .ref mtr, .int (nI n), .int (nI k), .int (nI al), .int (nI be), .int ea, .int pr, .ref mas, .int nq, .int po, .int (nI en), .ref mso, .ref mon, .ref mot, .ref man, .int th, .int xd, .ref mst, .ref msm, .ref mtb, .ref mti, .ref mfr, .ref mbn, .ref mbs, .ref mde, .int sF, .int sN, .int sS, .int igz_31, .long xaz_32, .long xbz_33, .ref maa, .ref mab, .ref mba, .ref mbb]))] := hD
          refine lv_aload_n hx hb dX12_laysStep_218 rfl (lv_at hl 4 rfl) ?_
          refine xget C hP 4 rfl rfl zuX12 36 (by decide) zw6_9 rfl dX12_laysStep_219 ?_
          refine lv_iload_n hx hb dX12_laysStep_222 rfl (lv_at hl 5 rfl) ?_
          refine lv_aload_n hx hb dX12_laysStep_223 rfl (lv_at hl 4 rfl) ?_
          refine xget C hP 4 rfl rfl zuX12 32 (by decide) zw6_5 rfl dX12_laysStep_224 ?_
          refine xlast C hP hD hS 2 rfl i rfl (by omega) (by decide) dX12_laysStep_227 ?_
          clear hP hD hS
          try clear locs
          try clear H
          intro H locs hP hD hS
          replace hP : va_P D vwCl [(maa, .inl (cs 1, 9, .inr (.inl (vp_updL (vp_updL aaf i 0) i xaz_21)))), (mab, .inl (cs 1, 9, .inr (.inl (vp_updL (vp_updL abf i 1) i xbz_22)))), (mba, .inl (cs 1, 9, .inr (.inl (vp_updL (vp_updL baf i 0) i xaz_32)))), (mbb, .inl (cs 1, 9, .inr (.inl (vp_updL bbf i 1)))), (hm, .inr (12, [.ref ms, .ref mkp, .int (nI km), .ref mtr, .int (nI n), .int (nI k), .int (nI al), .int (nI be), .int ea, .int pr, .ref mas, .int nq, .int po, .int (nI en), .ref mso, .ref mon, .ref mot, .ref man, .int th, .int xd, .ref mst, .ref msm, .ref mtb, .ref mti, .ref mfr, .ref mbn, .ref mbs, .ref mde, .int sF, .int sN, .int sS, .int igz_31, .long xaz_32, .long xbz_33, .ref maa, .ref mab, .ref mba, .ref mbb]))] H := hP
          replace hD : va_D A [(maa, .inl (cs 1, 9, .inr (.inl (vp_updL (vp_updL aaf i 0) i xaz_21)))), (mab, .inl (cs 1, 9, .inr (.inl (vp_updL (vp_updL abf i 1) i xbz_22)))), (mba, .inl (cs 1, 9, .inr (.inl (vp_updL (vp_updL baf i 0) i xaz_32)))), (mbb, .inl (cs 1, 9, .inr (.inl (vp_updL bbf i 1)))), (hm, .inr (12, [.ref ms, .ref mkp, .int (nI km), .ref mtr, .int (nI n), .int (nI k), .int (nI al), .int (nI be), .int ea, .int pr, .ref mas, .int nq, .int po, .int (nI en), .ref mso, .ref mon, .ref mot, .ref man, .int th, .int xd, .ref mst, .ref msm, .ref mtb, .ref mti, .ref mfr, .ref mbn, .ref mbs, .ref mde, .int sF, .int sN, .int sS, .int igz_31, .long xaz_32, .long xbz_33, .ref maa, .ref mab, .ref mba, .ref mbb]))] := hD
          refine lv_aload_n hx hb dX12_laysStep_228 rfl (lv_at hl 4 rfl) ?_
          refine xget C hP 4 rfl rfl zuX12 37 (by decide) zw6_10 rfl dX12_laysStep_229 ?_
          refine lv_iload_n hx hb dX12_laysStep_232 rfl (lv_at hl 5 rfl) ?_
          refine lv_aload_n hx hb dX12_laysStep_233 rfl (lv_at hl 4 rfl) ?_
          refine xget C hP 4 rfl rfl zuX12 33 (by decide) zw6_6 rfl dX12_laysStep_234 ?_
          refine xlast C hP hD hS 3 rfl i rfl (by omega) (by decide) dX12_laysStep_237 ?_
          clear hP hD hS
          try clear locs
          try clear H
          intro H locs hP hD hS
          replace hP : va_P D vwCl [(maa, .inl (cs 1, 9, .inr (.inl (vp_updL (vp_updL aaf i 0) i xaz_21)))), (mab, .inl (cs 1, 9, .inr (.inl (vp_updL (vp_updL abf i 1) i xbz_22)))), (mba, .inl (cs 1, 9, .inr (.inl (vp_updL (vp_updL baf i 0) i xaz_32)))), (mbb, .inl (cs 1, 9, .inr (.inl (vp_updL (vp_updL bbf i 1) i xbz_33)))), (hm, .inr (12, [.ref ms, .ref mkp, .int (nI km), .ref mtr, .int (nI n), .int (nI k), .int (nI al), .int (nI be), .int ea, .int pr, .ref mas, .int nq, .int po, .int (nI en), .ref mso, .ref mon, .ref mot, .ref man, .int th, .int xd, .ref mst, .ref msm, .ref mtb, .ref mti, .ref mfr, .ref mbn, .ref mbs, .ref mde, .int sF, .int sN, .int sS, .int igz_31, .long xaz_32, .long xbz_33, .ref maa, .ref mab, .ref mba, .ref mbb]))] H := hP
          replace hD : va_D A [(maa, .inl (cs 1, 9, .inr (.inl (vp_updL (vp_updL aaf i 0) i xaz_21)))), (mab, .inl (cs 1, 9, .inr (.inl (vp_updL (vp_updL abf i 1) i xbz_22)))), (mba, .inl (cs 1, 9, .inr (.inl (vp_updL (vp_updL baf i 0) i xaz_32)))), (mbb, .inl (cs 1, 9, .inr (.inl (vp_updL (vp_updL bbf i 1) i xbz_33)))), (hm, .inr (12, [.ref ms, .ref mkp, .int (nI km), .ref mtr, .int (nI n), .int (nI k), .int (nI al), .int (nI be), .int ea, .int pr, .ref mas, .int nq, .int po, .int (nI en), .ref mso, .ref mon, .ref mot, .ref man, .int th, .int xd, .ref mst, .ref msm, .ref mtb, .ref mti, .ref mfr, .ref mbn, .ref mbs, .ref mde, .int sF, .int sN, .int sS, .int igz_31, .long xaz_32, .long xbz_33, .ref maa, .ref mab, .ref mba, .ref mbb]))] := hD
          exact xretv C (⟨igz_31, xaz_32, xbz_33, (vp_updL (vp_updL aaf i 0) i xaz_21), (vp_updL (vp_updL abf i 1) i xbz_22), (vp_updL (vp_updL baf i 0) i xaz_32), (vp_updL (vp_updL bbf i 1) i xbz_33)⟩) (hI.elim (fun g => Or.inl ((fun h => hw_r_29.1 ((fun h => hw_r_23.1 ((fun h => hw_r_18.1 ((fun h => hw_r_11.1 ((fun h => hw_r_6.1 ((fun h => h) h)) h)) h)) h)) h)) g)) (fun z => Or.inr (fun j hj => by by_cases qj : j = i; (subst qj; exact ⟨by rw [updL_at]; exact hw_r_18.2, by rw [updL_at]; exact hw_r_29.2⟩); exact ⟨by simp only [updL_ne qj]; exact (z j (by omega)).1, by simp only [updL_ne qj]; exact (z j (by omega)).2⟩))) (xP_map hP [4, 0, 1, 2, 3] rfl) (hD.sub [4, 0, 1, 2, 3] (by decide +kernel) rfl) hS (Nat.le_of_ble_eq_true rfl) (Nat.le_of_ble_eq_true rfl) dX12_laysStep_238
        · -- 176 f
          refine lv_aload_n hx hb dX12_laysStep_179 rfl (lv_at hl 4 rfl) ?_
          refine lv_aload_n hx hb dX12_laysStep_180 rfl (lv_at hl 4 rfl) ?_
          refine xget C hP 4 rfl rfl zuX12 4 (by decide) zw5_217 rfl dX12_laysStep_181 ?_
          refine lv_i2l hx hb dX12_laysStep_184 rfl ?_
          refine lv_aload_n hx hb dX12_laysStep_185 rfl (lv_at hl 4 rfl) ?_
          refine xl (wr := [(maa, .inl (cs 1, 9, .inr (.inl (vp_updL (vp_updL aaf i 0) i xaz_21)))), (mab, .inl (cs 1, 9, .inr (.inl (vp_updL (vp_updL abf i 1) i xbz_22)))), (mba, .inl (cs 1, 9, .inr (.inl (vp_updL baf i 0)))), (mbb, .inl (cs 1, 9, .inr (.inl (vp_updL bbf i 1))))]) (xV (As := []) (rest := [.long ((nI n).toInt64), .ref hm]) C (c_X12_samples l D cs hm ms mkp mtr mas mso mon mot man mst msm mtb mti mfr mbn mbs mde maa mab mba mbb n k al be km en ea pr nq po th xd sF sN sS igz_25 xaz_26 xbz_27 hn hkn) kX12_180 hP hD [4] rfl (by decide +kernel) 0 rfl rfl rfl ⟨Nat.le_of_ble_eq_true rfl, Nat.le_of_ble_eq_true rfl⟩ rfl hl.1 rfl (Nat.le_of_ble_eq_true rfl) dX12_laysStep_186 ⟨Nat.le_of_ble_eq_true rfl, Nat.le_of_ble_eq_true rfl⟩) hP hD hS hA [4] [0, 1, 2, 3] rfl rfl (by decide +kernel) (by decide +kernel) ?_
          clear hP hD hS
          try clear locs
          try clear H
          intro r_34 u_35 H locs hw_r_34 hP hD hS
          have hw_r_34 : r_34 = smV n k := hw_r_34
          refine W.widen (k := 0) (n := 0) (Nat.le_of_ble_eq_true rfl) (Nat.le_of_ble_eq_true rfl) ?_
          replace hP : va_P D vwCl [(maa, .inl (cs 1, 9, .inr (.inl (vp_updL (vp_updL aaf i 0) i xaz_21)))), (mab, .inl (cs 1, 9, .inr (.inl (vp_updL (vp_updL abf i 1) i xbz_22)))), (mba, .inl (cs 1, 9, .inr (.inl (vp_updL baf i 0)))), (mbb, .inl (cs 1, 9, .inr (.inl (vp_updL bbf i 1)))), (hm, .inr (12, [.ref ms, .ref mkp, .int (nI km), .ref mtr, .int (nI n), .int (nI k), .int (nI al), .int (nI be), .int ea, .int pr, .ref mas, .int nq, .int po, .int (nI en), .ref mso, .ref mon, .ref mot, .ref man, .int th, .int xd, .ref mst, .ref msm, .ref mtb, .ref mti, .ref mfr, .ref mbn, .ref mbs, .ref mde, .int sF, .int sN, .int sS, .int igz_25, .long xaz_26, .long xbz_27, .ref maa, .ref mab, .ref mba, .ref mbb]))] H := hP
          replace hD : va_D A [(maa, .inl (cs 1, 9, .inr (.inl (vp_updL (vp_updL aaf i 0) i xaz_21)))), (mab, .inl (cs 1, 9, .inr (.inl (vp_updL (vp_updL abf i 1) i xbz_22)))), (mba, .inl (cs 1, 9, .inr (.inl (vp_updL baf i 0)))), (mbb, .inl (cs 1, 9, .inr (.inl (vp_updL bbf i 1)))), (hm, .inr (12, [.ref ms, .ref mkp, .int (nI km), .ref mtr, .int (nI n), .int (nI k), .int (nI al), .int (nI be), .int ea, .int pr, .ref mas, .int nq, .int po, .int (nI en), .ref mso, .ref mon, .ref mot, .ref man, .int th, .int xd, .ref mst, .ref msm, .ref mtb, .ref mti, .ref mfr, .ref mbn, .ref mbs, .ref mde, .int sF, .int sN, .int sS, .int igz_25, .long xaz_26, .long xbz_27, .ref maa, .ref mab, .ref mba, .ref mbb]))] := hD
          refine lv_lmul hx hb dX12_laysStep_189 ?_
          refine lv_lconst (v := 1) hx hb dX12_laysStep_190 (by decide) ?_
          refine lv_aload_n hx hb dX12_laysStep_191 rfl (lv_at hl 4 rfl) ?_
          refine xget C hP 4 rfl rfl zuX12 32 (by decide) zw6_5 rfl dX12_laysStep_192 ?_
          refine lv_aload_n hx hb dX12_laysStep_195 rfl (lv_at hl 4 rfl) ?_
          refine xget C hP 4 rfl rfl zuX12 33 (by decide) zw6_6 rfl dX12_laysStep_196 ?_
          refine xv (wr := [(maa, .inl (cs 1, 9, .inr (.inl (vp_updL (vp_updL aaf i 0) i xaz_21)))), (mab, .inl (cs 1, 9, .inr (.inl (vp_updL (vp_updL abf i 1) i xbz_22)))), (mba, .inl (cs 1, 9, .inr (.inl (vp_updL baf i 0)))), (mbb, .inl (cs 1, 9, .inr (.inl (vp_updL bbf i 1))))]) (xV (As := [.long (((nI n).toInt64) * r_34), .long 1, .long xaz_26, .long xbz_27]) (rest := []) C (c_X12_adds l D cs hm ms mkp mtr mas mso mon mot man mst msm mtb mti mfr mbn mbs mde maa mab mba mbb n k al be km en ea pr nq po th xd sF sN sS igz_25 xaz_26 xbz_27 (((nI n).toInt64) * r_34) 1 xaz_26 xbz_27 (Or.inr ⟨by decide, hw_r_23.2⟩)) kX12_296 hP hD [4] rfl (by decide +kernel) 0 rfl rfl rfl ⟨Nat.le_of_ble_eq_true rfl, Nat.le_of_ble_eq_true rfl⟩ rfl hl.1 rfl (Nat.le_of_ble_eq_true rfl) dX12_laysStep_199 ⟨Nat.le_of_ble_eq_true rfl, Nat.le_of_ble_eq_true rfl⟩) hP hD hS hA [4] [0, 1, 2, 3] rfl rfl (by decide +kernel) (by decide +kernel) ?_
          clear hP hD hS
          try clear locs
          try clear H
          intro u_37 H locs hw_r_36 hP hD hS
          obtain ⟨igz_38, xaz_39, xbz_40⟩ := u_37
          have hw_r_36 : (gr igz_25 → gr igz_38) ∧ ¬ xbz_40 = 0 := hw_r_36
          refine W.widen (k := 0) (n := 0) (Nat.le_of_ble_eq_true rfl) (Nat.le_of_ble_eq_true rfl) ?_
          replace hP : va_P D vwCl [(maa, .inl (cs 1, 9, .inr (.inl (vp_updL (vp_updL aaf i 0) i xaz_21)))), (mab, .inl (cs 1, 9, .inr (.inl (vp_updL (vp_updL abf i 1) i xbz_22)))), (mba, .inl (cs 1, 9, .inr (.inl (vp_updL baf i 0)))), (mbb, .inl (cs 1, 9, .inr (.inl (vp_updL bbf i 1)))), (hm, .inr (12, [.ref ms, .ref mkp, .int (nI km), .ref mtr, .int (nI n), .int (nI k), .int (nI al), .int (nI be), .int ea, .int pr, .ref mas, .int nq, .int po, .int (nI en), .ref mso, .ref mon, .ref mot, .ref man, .int th, .int xd, .ref mst, .ref msm, .ref mtb, .ref mti, .ref mfr, .ref mbn, .ref mbs, .ref mde, .int sF, .int sN, .int sS, .int igz_38, .long xaz_39, .long xbz_40, .ref maa, .ref mab, .ref mba, .ref mbb]))] H := hP
          replace hD : va_D A [(maa, .inl (cs 1, 9, .inr (.inl (vp_updL (vp_updL aaf i 0) i xaz_21)))), (mab, .inl (cs 1, 9, .inr (.inl (vp_updL (vp_updL abf i 1) i xbz_22)))), (mba, .inl (cs 1, 9, .inr (.inl (vp_updL baf i 0)))), (mbb, .inl (cs 1, 9, .inr (.inl (vp_updL bbf i 1)))), (hm, .inr (12, [.ref ms, .ref mkp, .int (nI km), .ref mtr, .int (nI n), .int (nI k), .int (nI al), .int (nI be), .int ea, .int pr, .ref mas, .int nq, .int po, .int (nI en), .ref mso, .ref mon, .ref mot, .ref man, .int th, .int xd, .ref mst, .ref msm, .ref mtb, .ref mti, .ref mfr, .ref mbn, .ref mbs, .ref mde, .int sF, .int sN, .int sS, .int igz_38, .long xaz_39, .long xbz_40, .ref maa, .ref mab, .ref mba, .ref mbb]))] := hD
          refine lv_aload_n hx hb dX12_laysStep_202 rfl (lv_at hl 4 rfl) ?_
          refine lv_aload_n hx hb dX12_laysStep_203 rfl (lv_at hl 4 rfl) ?_
          refine xget C hP 4 rfl rfl zuX12 32 (by decide) zw6_5 rfl dX12_laysStep_204 ?_
          refine lv_aload_n hx hb dX12_laysStep_207 rfl (lv_at hl 4 rfl) ?_
          refine xget C hP 4 rfl rfl zuX12 33 (by decide) zw6_6 rfl dX12_laysStep_208 ?_
          refine lv_lload hx hb dX12_laysStep_211 (lv_at hl 1 rfl) ?_
          refine lv_lload hx hb dX12_laysStep_213 (lv_at hl 0 rfl) ?_
          refine xv (wr := [(maa, .inl (cs 1, 9, .inr (.inl (vp_updL (vp_updL aaf i 0) i xaz_21)))), (mab, .inl (cs 1, 9, .inr (.inl (vp_updL (vp_updL abf i 1) i xbz_22)))), (mba, .inl (cs 1, 9, .inr (.inl (vp_updL baf i 0)))), (mbb, .inl (cs 1, 9, .inr (.inl (vp_updL bbf i 1))))]) (xV (As := [.long xaz_39, .long xbz_40, .long xaz_14, .long xbz_15]) (rest := []) C (c_X12_divides l D cs hm ms mkp mtr mas mso mon mot man mst msm mtb mti mfr mbn mbs mde maa mab mba mbb n k al be km en ea pr nq po th xd sF sN sS igz_38 xaz_39 xbz_40 xaz_39 xbz_40 xaz_14 xbz_15 (Or.inr ⟨hw_r_36.2, (l_ne c_16)⟩)) kX12_293 hP hD [4] rfl (by decide +kernel) 0 rfl rfl rfl ⟨Nat.le_of_ble_eq_true rfl, Nat.le_of_ble_eq_true rfl⟩ rfl hl.1 rfl (Nat.le_of_ble_eq_true rfl) dX12_laysStep_215 ⟨Nat.le_of_ble_eq_true rfl, Nat.le_of_ble_eq_true rfl⟩) hP hD hS hA [4] [0, 1, 2, 3] rfl rfl (by decide +kernel) (by decide +kernel) ?_
          clear hP hD hS
          try clear locs
          try clear H
          intro u_42 H locs hw_r_41 hP hD hS
          obtain ⟨igz_43, xaz_44, xbz_45⟩ := u_42
          have hw_r_41 : (gr igz_38 → gr igz_43) ∧ ¬ xbz_45 = 0 := hw_r_41
          refine W.widen (k := 0) (n := 0) (Nat.le_of_ble_eq_true rfl) (Nat.le_of_ble_eq_true rfl) ?_
          replace hP : va_P D vwCl [(maa, .inl (cs 1, 9, .inr (.inl (vp_updL (vp_updL aaf i 0) i xaz_21)))), (mab, .inl (cs 1, 9, .inr (.inl (vp_updL (vp_updL abf i 1) i xbz_22)))), (mba, .inl (cs 1, 9, .inr (.inl (vp_updL baf i 0)))), (mbb, .inl (cs 1, 9, .inr (.inl (vp_updL bbf i 1)))), (hm, .inr (12, [.ref ms, .ref mkp, .int (nI km), .ref mtr, .int (nI n), .int (nI k), .int (nI al), .int (nI be), .int ea, .int pr, .ref mas, .int nq, .int po, .int (nI en), .ref mso, .ref mon, .ref mot, .ref man, .int th, .int xd, .ref mst, .ref msm, .ref mtb, .ref mti, .ref mfr, .ref mbn, .ref mbs, .ref mde, .int sF, .int sN, .int sS, .int igz_43, .long xaz_44, .long xbz_45, .ref maa, .ref mab, .ref mba, .ref mbb]))] H := hP
          replace hD : va_D A [(maa, .inl (cs 1, 9, .inr (.inl (vp_updL (vp_updL aaf i 0) i xaz_21)))), (mab, .inl (cs 1, 9, .inr (.inl (vp_updL (vp_updL abf i 1) i xbz_22)))), (mba, .inl (cs 1, 9, .inr (.inl (vp_updL baf i 0)))), (mbb, .inl (cs 1, 9, .inr (.inl (vp_updL bbf i 1)))), (hm, .inr (12, [.ref ms, .ref mkp, .int (nI km), .ref mtr, .int (nI n), .int (nI k), .int (nI al), .int (nI be), .int ea, .int pr, .ref mas, .int nq, .int po, .int (nI en), .ref mso, .ref mon, .ref mot, .ref man, .int th, .int xd, .ref mst, .ref msm, .ref mtb, .ref mti, .ref mfr, .ref mbn, .ref mbs, .ref mde, .int sF, .int sN, .int sS, .int igz_43, .long xaz_44, .long xbz_45, .ref maa, .ref mab, .ref mba, .ref mbb]))] := hD
          refine lv_aload_n hx hb dX12_laysStep_218 rfl (lv_at hl 4 rfl) ?_
          refine xget C hP 4 rfl rfl zuX12 36 (by decide) zw6_9 rfl dX12_laysStep_219 ?_
          refine lv_iload_n hx hb dX12_laysStep_222 rfl (lv_at hl 5 rfl) ?_
          refine lv_aload_n hx hb dX12_laysStep_223 rfl (lv_at hl 4 rfl) ?_
          refine xget C hP 4 rfl rfl zuX12 32 (by decide) zw6_5 rfl dX12_laysStep_224 ?_
          refine xlast C hP hD hS 2 rfl i rfl (by omega) (by decide) dX12_laysStep_227 ?_
          clear hP hD hS
          try clear locs
          try clear H
          intro H locs hP hD hS
          replace hP : va_P D vwCl [(maa, .inl (cs 1, 9, .inr (.inl (vp_updL (vp_updL aaf i 0) i xaz_21)))), (mab, .inl (cs 1, 9, .inr (.inl (vp_updL (vp_updL abf i 1) i xbz_22)))), (mba, .inl (cs 1, 9, .inr (.inl (vp_updL (vp_updL baf i 0) i xaz_44)))), (mbb, .inl (cs 1, 9, .inr (.inl (vp_updL bbf i 1)))), (hm, .inr (12, [.ref ms, .ref mkp, .int (nI km), .ref mtr, .int (nI n), .int (nI k), .int (nI al), .int (nI be), .int ea, .int pr, .ref mas, .int nq, .int po, .int (nI en), .ref mso, .ref mon, .ref mot, .ref man, .int th, .int xd, .ref mst, .ref msm, .ref mtb, .ref mti, .ref mfr, .ref mbn, .ref mbs, .ref mde, .int sF, .int sN, .int sS, .int igz_43, .long xaz_44, .long xbz_45, .ref maa, .ref mab, .ref mba, .ref mbb]))] H := hP
          replace hD : va_D A [(maa, .inl (cs 1, 9, .inr (.inl (vp_updL (vp_updL aaf i 0) i xaz_21)))), (mab, .inl (cs 1, 9, .inr (.inl (vp_updL (vp_updL abf i 1) i xbz_22)))), (mba, .inl (cs 1, 9, .inr (.inl (vp_updL (vp_updL baf i 0) i xaz_44)))), (mbb, .inl (cs 1, 9, .inr (.inl (vp_updL bbf i 1)))), (hm, .inr (12, [.ref ms, .ref mkp, .int (nI km), .ref mtr, .int (nI n), .int (nI k), .int (nI al), .int (nI be), .int ea, .int pr, .ref mas, .int nq, .int po, .int (nI en), .ref mso, .ref mon, .ref mot, .ref man, .int th, .int xd, .ref mst, .ref msm, .ref mtb, .ref mti, .ref mfr, .ref mbn, .ref mbs, .ref mde, .int sF, .int sN, .int sS, .int igz_43, .long xaz_44, .long xbz_45, .ref maa, .ref mab, .ref mba, .ref mbb]))] := hD
          refine lv_aload_n hx hb dX12_laysStep_228 rfl (lv_at hl 4 rfl) ?_
          refine xget C hP 4 rfl rfl zuX12 37 (by decide) zw6_10 rfl dX12_laysStep_229 ?_
          refine lv_iload_n hx hb dX12_laysStep_232 rfl (lv_at hl 5 rfl) ?_
          refine lv_aload_n hx hb dX12_laysStep_233 rfl (lv_at hl 4 rfl) ?_
          refine xget C hP 4 rfl rfl zuX12 33 (by decide) zw6_6 rfl dX12_laysStep_234 ?_
          refine xlast C hP hD hS 3 rfl i rfl (by omega) (by decide) dX12_laysStep_237 ?_
          clear hP hD hS
          try clear locs
          try clear H
          intro H locs hP hD hS
          replace hP : va_P D vwCl [(maa, .inl (cs 1, 9, .inr (.inl (vp_updL (vp_updL aaf i 0) i xaz_21)))), (mab, .inl (cs 1, 9, .inr (.inl (vp_updL (vp_updL abf i 1) i xbz_22)))), (mba, .inl (cs 1, 9, .inr (.inl (vp_updL (vp_updL baf i 0) i xaz_44)))), (mbb, .inl (cs 1, 9, .inr (.inl (vp_updL (vp_updL bbf i 1) i xbz_45)))), (hm, .inr (12, [.ref ms, .ref mkp, .int (nI km), .ref mtr, .int (nI n), .int (nI k), .int (nI al), .int (nI be), .int ea, .int pr, .ref mas, .int nq, .int po, .int (nI en), .ref mso, .ref mon, .ref mot, .ref man, .int th, .int xd, .ref mst, .ref msm, .ref mtb, .ref mti, .ref mfr, .ref mbn, .ref mbs, .ref mde, .int sF, .int sN, .int sS, .int igz_43, .long xaz_44, .long xbz_45, .ref maa, .ref mab, .ref mba, .ref mbb]))] H := hP
          replace hD : va_D A [(maa, .inl (cs 1, 9, .inr (.inl (vp_updL (vp_updL aaf i 0) i xaz_21)))), (mab, .inl (cs 1, 9, .inr (.inl (vp_updL (vp_updL abf i 1) i xbz_22)))), (mba, .inl (cs 1, 9, .inr (.inl (vp_updL (vp_updL baf i 0) i xaz_44)))), (mbb, .inl (cs 1, 9, .inr (.inl (vp_updL (vp_updL bbf i 1) i xbz_45)))), (hm, .inr (12, [.ref ms, .ref mkp, .int (nI km), .ref mtr, .int (nI n), .int (nI k), .int (nI al), .int (nI be), .int ea, .int pr, .ref mas, .int nq, .int po, .int (nI en), .ref mso, .ref mon, .ref mot, .ref man, .int th, .int xd, .ref mst, .ref msm, .ref mtb, .ref mti, .ref mfr, .ref mbn, .ref mbs, .ref mde, .int sF, .int sN, .int sS, .int igz_43, .long xaz_44, .long xbz_45, .ref maa, .ref mab, .ref mba, .ref mbb]))] := hD
          exact xretv C (⟨igz_43, xaz_44, xbz_45, (vp_updL (vp_updL aaf i 0) i xaz_21), (vp_updL (vp_updL abf i 1) i xbz_22), (vp_updL (vp_updL baf i 0) i xaz_44), (vp_updL (vp_updL bbf i 1) i xbz_45)⟩) (hI.elim (fun g => Or.inl ((fun h => hw_r_41.1 ((fun h => hw_r_36.1 ((fun h => hw_r_23.1 ((fun h => hw_r_18.1 ((fun h => hw_r_11.1 ((fun h => hw_r_6.1 ((fun h => h) h)) h)) h)) h)) h)) h)) g)) (fun z => Or.inr (fun j hj => by by_cases qj : j = i; (subst qj; exact ⟨by rw [updL_at]; exact hw_r_18.2, by rw [updL_at]; exact hw_r_41.2⟩); exact ⟨by simp only [updL_ne qj]; exact (z j (by omega)).1, by simp only [updL_ne qj]; exact (z j (by omega)).2⟩))) (xP_map hP [4, 0, 1, 2, 3] rfl) (hD.sub [4, 0, 1, 2, 3] (by decide +kernel) rfl) hS (Nat.le_of_ble_eq_true rfl) (Nat.le_of_ble_eq_true rfl) dX12_laysStep_238
      · -- 118 f
        exact xretv C (⟨igz_13, xaz_14, xbz_15, (vp_updL aaf i 0), (vp_updL abf i 1), (vp_updL baf i 0), (vp_updL bbf i 1)⟩) (hI.elim (fun g => Or.inl ((fun h => hw_r_11.1 ((fun h => hw_r_6.1 ((fun h => h) h)) h)) g)) (fun z => Or.inr (fun j hj => by by_cases qj : j = i; (subst qj; exact ⟨by rw [updL_at]; exact (by decide), by rw [updL_at]; exact (by decide)⟩); exact ⟨by simp only [updL_ne qj]; exact (z j (by omega)).1, by simp only [updL_ne qj]; exact (z j (by omega)).2⟩))) (xP_map hP [4, 0, 1, 2, 3] rfl) (hD.sub [4, 0, 1, 2, 3] (by decide +kernel) rfl) hS (Nat.le_of_ble_eq_true rfl) (Nat.le_of_ble_eq_true rfl) dX12_laysStep_121
  · -- 44 f
    refine lv_lload hx hb dX12_laysStep_47 (lv_at hl 0 rfl) ?_
    refine lv_lconst (v := 0) hx hb dX12_laysStep_49 (by decide) ?_
    refine W.lcmp hx hb dX12_laysStep_50 ?_
    refine lv_if_ne (tgt := 55) hx hb dX12_laysStep_51 (by decide) (fun c_46 => ?_) (fun c_46 => ?_)
    · -- 51 t
      refine lv_aload_n hx hb dX12_laysStep_55 rfl (lv_at hl 2 rfl) ?_
      refine lv_lload hx hb dX12_laysStep_56 (lv_at hl 0 rfl) ?_
      refine lv_lconst (v := 1) hx hb dX12_laysStep_58 (by decide) ?_
      refine lv_aload_n hx hb dX12_laysStep_59 rfl (lv_at hl 2 rfl) ?_
      refine xget C hP 4 rfl rfl zuX12 34 (by decide) zw6_7 rfl dX12_laysStep_60 ?_
      refine lv_iload_n hx hb dX12_laysStep_63 rfl (lv_at hl 3 rfl) ?_
      refine lv_iconst (v := nI 1) hx hb dX12_laysStep_64 (by decide) ?_
      refine lv_isub hx hb dX12_laysStep_65 ?_
      refine lv_topi (nm_r (e' := nI (i - 1)) (pk_sub (by omega)) ?_)
      refine xlald C hP 0 rfl (i - 1) rfl (by omega) (by decide) dX12_laysStep_66 ?_
      refine lv_aload_n hx hb dX12_laysStep_67 rfl (lv_at hl 2 rfl) ?_
      refine xget C hP 4 rfl rfl zuX12 35 (by decide) zw6_8 rfl dX12_laysStep_68 ?_
      refine lv_iload_n hx hb dX12_laysStep_71 rfl (lv_at hl 3 rfl) ?_
      refine lv_iconst (v := nI 1) hx hb dX12_laysStep_72 (by decide) ?_
      refine lv_isub hx hb dX12_laysStep_73 ?_
      refine lv_topi (nm_r (e' := nI (i - 1)) (pk_sub (by omega)) ?_)
      refine xlald C hP 1 rfl (i - 1) rfl (by omega) (by decide) dX12_laysStep_74 ?_
      refine xv (wr := [(maa, .inl (cs 1, 9, .inr (.inl (vp_updL aaf i 0)))), (mab, .inl (cs 1, 9, .inr (.inl (vp_updL abf i 1)))), (mba, .inl (cs 1, 9, .inr (.inl (vp_updL baf i 0)))), (mbb, .inl (cs 1, 9, .inr (.inl (vp_updL bbf i 1))))]) (xV (As := [.long r_3, .long 1, .long ((vp_updL aaf i 0) (i - 1)), .long ((vp_updL abf i 1) (i - 1))]) (rest := []) C (c_X12_multiplies l D cs hm ms mkp mtr mas mso mon mot man mst msm mtb mti mfr mbn mbs mde maa mab mba mbb n k al be km en ea pr nq po th xd sF sN sS ig xa xb r_3 1 ((vp_updL aaf i 0) (i - 1)) ((vp_updL abf i 1) (i - 1)) (hI.elim (fun g => Or.inl ((fun h => h) g)) (fun z => Or.inr ⟨by decide, by rw [updL_ne (by omega)]; exact (z (i - 1) (by omega)).1⟩))) kX12_286 hP hD [4] rfl (by decide +kernel) 0 rfl rfl rfl ⟨Nat.le_of_ble_eq_true rfl, Nat.le_of_ble_eq_true rfl⟩ rfl hl.1 rfl (Nat.le_of_ble_eq_true rfl) dX12_laysStep_75 ⟨Nat.le_of_ble_eq_true rfl, Nat.le_of_ble_eq_true rfl⟩) hP hD hS hA [4] [0, 1, 2, 3] rfl rfl (by decide +kernel) (by decide +kernel) ?_
      clear hP hD hS
      try clear locs
      try clear H
      intro u_48 H locs hw_r_47 hP hD hS
      obtain ⟨igz_49, xaz_50, xbz_51⟩ := u_48
      have hw_r_47 : (gr ig → gr igz_49) ∧ ¬ xbz_51 = 0 := hw_r_47
      refine W.widen (k := 0) (n := 0) (Nat.le_of_ble_eq_true rfl) (Nat.le_of_ble_eq_true rfl) ?_
      replace hP : va_P D vwCl [(maa, .inl (cs 1, 9, .inr (.inl (vp_updL aaf i 0)))), (mab, .inl (cs 1, 9, .inr (.inl (vp_updL abf i 1)))), (mba, .inl (cs 1, 9, .inr (.inl (vp_updL baf i 0)))), (mbb, .inl (cs 1, 9, .inr (.inl (vp_updL bbf i 1)))), (hm, .inr (12, [.ref ms, .ref mkp, .int (nI km), .ref mtr, .int (nI n), .int (nI k), .int (nI al), .int (nI be), .int ea, .int pr, .ref mas, .int nq, .int po, .int (nI en), .ref mso, .ref mon, .ref mot, .ref man, .int th, .int xd, .ref mst, .ref msm, .ref mtb, .ref mti, .ref mfr, .ref mbn, .ref mbs, .ref mde, .int sF, .int sN, .int sS, .int igz_49, .long xaz_50, .long xbz_51, .ref maa, .ref mab, .ref mba, .ref mbb]))] H := hP
      replace hD : va_D A [(maa, .inl (cs 1, 9, .inr (.inl (vp_updL aaf i 0)))), (mab, .inl (cs 1, 9, .inr (.inl (vp_updL abf i 1)))), (mba, .inl (cs 1, 9, .inr (.inl (vp_updL baf i 0)))), (mbb, .inl (cs 1, 9, .inr (.inl (vp_updL bbf i 1)))), (hm, .inr (12, [.ref ms, .ref mkp, .int (nI km), .ref mtr, .int (nI n), .int (nI k), .int (nI al), .int (nI be), .int ea, .int pr, .ref mas, .int nq, .int po, .int (nI en), .ref mso, .ref mon, .ref mot, .ref man, .int th, .int xd, .ref mst, .ref msm, .ref mtb, .ref mti, .ref mfr, .ref mbn, .ref mbs, .ref mde, .int sF, .int sN, .int sS, .int igz_49, .long xaz_50, .long xbz_51, .ref maa, .ref mab, .ref mba, .ref mbb]))] := hD
      refine lv_aload_n hx hb dX12_laysStep_78 rfl (lv_at hl 2 rfl) ?_
      refine lv_lload_n hx hb dX12_laysStep_79 rfl (lv_at hl 1 rfl) ?_
      refine lv_lload hx hb dX12_laysStep_80 (lv_at hl 0 rfl) ?_
      refine lv_ladd hx hb dX12_laysStep_82 ?_
      refine lv_lconst (v := 1) hx hb dX12_laysStep_83 (by decide) ?_
      refine lv_aload_n hx hb dX12_laysStep_84 rfl (lv_at hl 2 rfl) ?_
      refine xget C hP 4 rfl rfl zuX12 32 (by decide) zw6_5 rfl dX12_laysStep_85 ?_
      refine lv_aload_n hx hb dX12_laysStep_88 rfl (lv_at hl 2 rfl) ?_
      refine xget C hP 4 rfl rfl zuX12 33 (by decide) zw6_6 rfl dX12_laysStep_89 ?_
      refine xv (wr := [(maa, .inl (cs 1, 9, .inr (.inl (vp_updL aaf i 0)))), (mab, .inl (cs 1, 9, .inr (.inl (vp_updL abf i 1)))), (mba, .inl (cs 1, 9, .inr (.inl (vp_updL baf i 0)))), (mbb, .inl (cs 1, 9, .inr (.inl (vp_updL bbf i 1))))]) (xV (As := [.long (r_1 + r_3), .long 1, .long xaz_50, .long xbz_51]) (rest := []) C (c_X12_lessens l D cs hm ms mkp mtr mas mso mon mot man mst msm mtb mti mfr mbn mbs mde maa mab mba mbb n k al be km en ea pr nq po th xd sF sN sS igz_49 xaz_50 xbz_51 (r_1 + r_3) 1 xaz_50 xbz_51 (Or.inr ⟨by decide, hw_r_47.2⟩)) kX12_290 hP hD [4] rfl (by decide +kernel) 0 rfl rfl rfl ⟨Nat.le_of_ble_eq_true rfl, Nat.le_of_ble_eq_true rfl⟩ rfl hl.1 rfl (Nat.le_of_ble_eq_true rfl) dX12_laysStep_92 ⟨Nat.le_of_ble_eq_true rfl, Nat.le_of_ble_eq_true rfl⟩) hP hD hS hA [4] [0, 1, 2, 3] rfl rfl (by decide +kernel) (by decide +kernel) ?_
      clear hP hD hS
      try clear locs
      try clear H
      intro u_53 H locs hw_r_52 hP hD hS
      obtain ⟨igz_54, xaz_55, xbz_56⟩ := u_53
      have hw_r_52 : (gr igz_49 → gr igz_54) ∧ ¬ xbz_56 = 0 := hw_r_52
      refine W.widen (k := 0) (n := 0) (Nat.le_of_ble_eq_true rfl) (Nat.le_of_ble_eq_true rfl) ?_
      replace hP : va_P D vwCl [(maa, .inl (cs 1, 9, .inr (.inl (vp_updL aaf i 0)))), (mab, .inl (cs 1, 9, .inr (.inl (vp_updL abf i 1)))), (mba, .inl (cs 1, 9, .inr (.inl (vp_updL baf i 0)))), (mbb, .inl (cs 1, 9, .inr (.inl (vp_updL bbf i 1)))), (hm, .inr (12, [.ref ms, .ref mkp, .int (nI km), .ref mtr, .int (nI n), .int (nI k), .int (nI al), .int (nI be), .int ea, .int pr, .ref mas, .int nq, .int po, .int (nI en), .ref mso, .ref mon, .ref mot, .ref man, .int th, .int xd, .ref mst, .ref msm, .ref mtb, .ref mti, .ref mfr, .ref mbn, .ref mbs, .ref mde, .int sF, .int sN, .int sS, .int igz_54, .long xaz_55, .long xbz_56, .ref maa, .ref mab, .ref mba, .ref mbb]))] H := hP
      replace hD : va_D A [(maa, .inl (cs 1, 9, .inr (.inl (vp_updL aaf i 0)))), (mab, .inl (cs 1, 9, .inr (.inl (vp_updL abf i 1)))), (mba, .inl (cs 1, 9, .inr (.inl (vp_updL baf i 0)))), (mbb, .inl (cs 1, 9, .inr (.inl (vp_updL bbf i 1)))), (hm, .inr (12, [.ref ms, .ref mkp, .int (nI km), .ref mtr, .int (nI n), .int (nI k), .int (nI al), .int (nI be), .int ea, .int pr, .ref mas, .int nq, .int po, .int (nI en), .ref mso, .ref mon, .ref mot, .ref man, .int th, .int xd, .ref mst, .ref msm, .ref mtb, .ref mti, .ref mfr, .ref mbn, .ref mbs, .ref mde, .int sF, .int sN, .int sS, .int igz_54, .long xaz_55, .long xbz_56, .ref maa, .ref mab, .ref mba, .ref mbb]))] := hD
      refine lv_aload_n hx hb dX12_laysStep_95 rfl (lv_at hl 2 rfl) ?_
      refine xget C hP 4 rfl rfl zuX12 32 (by decide) zw6_5 rfl dX12_laysStep_96 ?_
      refine lv_lstore (lv' := [(7, .long xaz_55), (5, .long r_3), (3, .long r_1), (0, .ref hm), (1, .int (nI i)), (2, .int x)]) hx hb dX12_laysStep_99 hl (by decide) rfl ?_
      clear hl
      try clear ls
      intro ls hl
      refine lv_aload_n hx hb dX12_laysStep_101 rfl (lv_at hl 3 rfl) ?_
      refine xget C hP 4 rfl rfl zuX12 33 (by decide) zw6_6 rfl dX12_laysStep_102 ?_
      refine lv_lstore (lv' := [(9, .long xbz_56), (7, .long xaz_55), (5, .long r_3), (3, .long r_1), (0, .ref hm), (1, .int (nI i)), (2, .int x)]) hx hb dX12_laysStep_105 hl (by decide) rfl ?_
      clear hl
      try clear ls
      intro ls hl
      refine lv_lload hx hb dX12_laysStep_107 (lv_at hl 1 rfl) ?_
      refine lv_lconst (v := 0) hx hb dX12_laysStep_109 (by decide) ?_
      refine W.lcmp hx hb dX12_laysStep_110 ?_
      refine lv_if_eq (tgt := 121) hx hb dX12_laysStep_111 (by decide) (fun c_57 => ?_) (fun c_57 => ?_)
      · -- 111 t
        exact xretv C (⟨igz_54, xaz_55, xbz_56, (vp_updL aaf i 0), (vp_updL abf i 1), (vp_updL baf i 0), (vp_updL bbf i 1)⟩) (hI.elim (fun g => Or.inl ((fun h => hw_r_52.1 ((fun h => hw_r_47.1 ((fun h => h) h)) h)) g)) (fun z => Or.inr (fun j hj => by by_cases qj : j = i; (subst qj; exact ⟨by rw [updL_at]; exact (by decide), by rw [updL_at]; exact (by decide)⟩); exact ⟨by simp only [updL_ne qj]; exact (z j (by omega)).1, by simp only [updL_ne qj]; exact (z j (by omega)).2⟩))) (xP_map hP [4, 0, 1, 2, 3] rfl) (hD.sub [4, 0, 1, 2, 3] (by decide +kernel) rfl) hS (Nat.le_of_ble_eq_true rfl) (Nat.le_of_ble_eq_true rfl) dX12_laysStep_121
      · -- 111 f
        refine lv_aload_n hx hb dX12_laysStep_114 rfl (lv_at hl 4 rfl) ?_
        refine xget C hP 4 rfl rfl zuX12 31 (by decide) zw6_4 rfl dX12_laysStep_115 ?_
        refine lv_if_eq (tgt := 122) hx hb dX12_laysStep_118 (by decide) (fun c_58 => ?_) (fun c_58 => ?_)
        · -- 118 t
          refine lv_aload_n hx hb dX12_laysStep_122 rfl (lv_at hl 4 rfl) ?_
          refine lv_lload_n hx hb dX12_laysStep_123 rfl (lv_at hl 3 rfl) ?_
          refine lv_lconst (v := 1) hx hb dX12_laysStep_124 (by decide) ?_
          refine lv_lload hx hb dX12_laysStep_125 (lv_at hl 1 rfl) ?_
          refine lv_lload hx hb dX12_laysStep_127 (lv_at hl 0 rfl) ?_
          refine xv (wr := [(maa, .inl (cs 1, 9, .inr (.inl (vp_updL aaf i 0)))), (mab, .inl (cs 1, 9, .inr (.inl (vp_updL abf i 1)))), (mba, .inl (cs 1, 9, .inr (.inl (vp_updL baf i 0)))), (mbb, .inl (cs 1, 9, .inr (.inl (vp_updL bbf i 1))))]) (xV (As := [.long r_1, .long 1, .long xaz_55, .long xbz_56]) (rest := []) C (c_X12_divides l D cs hm ms mkp mtr mas mso mon mot man mst msm mtb mti mfr mbn mbs mde maa mab mba mbb n k al be km en ea pr nq po th xd sF sN sS igz_54 xaz_55 xbz_56 r_1 1 xaz_55 xbz_56 (Or.inr ⟨by decide, (l_ne c_57)⟩)) kX12_293 hP hD [4] rfl (by decide +kernel) 0 rfl rfl rfl ⟨Nat.le_of_ble_eq_true rfl, Nat.le_of_ble_eq_true rfl⟩ rfl hl.1 rfl (Nat.le_of_ble_eq_true rfl) dX12_laysStep_129 ⟨Nat.le_of_ble_eq_true rfl, Nat.le_of_ble_eq_true rfl⟩) hP hD hS hA [4] [0, 1, 2, 3] rfl rfl (by decide +kernel) (by decide +kernel) ?_
          clear hP hD hS
          try clear locs
          try clear H
          intro u_60 H locs hw_r_59 hP hD hS
          obtain ⟨igz_61, xaz_62, xbz_63⟩ := u_60
          have hw_r_59 : (gr igz_54 → gr igz_61) ∧ ¬ xbz_63 = 0 := hw_r_59
          refine W.widen (k := 0) (n := 0) (Nat.le_of_ble_eq_true rfl) (Nat.le_of_ble_eq_true rfl) ?_
          replace hP : va_P D vwCl [(maa, .inl (cs 1, 9, .inr (.inl (vp_updL aaf i 0)))), (mab, .inl (cs 1, 9, .inr (.inl (vp_updL abf i 1)))), (mba, .inl (cs 1, 9, .inr (.inl (vp_updL baf i 0)))), (mbb, .inl (cs 1, 9, .inr (.inl (vp_updL bbf i 1)))), (hm, .inr (12, [.ref ms, .ref mkp, .int (nI km), .ref mtr, .int (nI n), .int (nI k), .int (nI al), .int (nI be), .int ea, .int pr, .ref mas, .int nq, .int po, .int (nI en), .ref mso, .ref mon, .ref mot, .ref man, .int th, .int xd, .ref mst, .ref msm, .ref mtb, .ref mti, .ref mfr, .ref mbn, .ref mbs, .ref mde, .int sF, .int sN, .int sS, .int igz_61, .long xaz_62, .long xbz_63, .ref maa, .ref mab, .ref mba, .ref mbb]))] H := hP
          replace hD : va_D A [(maa, .inl (cs 1, 9, .inr (.inl (vp_updL aaf i 0)))), (mab, .inl (cs 1, 9, .inr (.inl (vp_updL abf i 1)))), (mba, .inl (cs 1, 9, .inr (.inl (vp_updL baf i 0)))), (mbb, .inl (cs 1, 9, .inr (.inl (vp_updL bbf i 1)))), (hm, .inr (12, [.ref ms, .ref mkp, .int (nI km), .ref mtr, .int (nI n), .int (nI k), .int (nI al), .int (nI be), .int ea, .int pr, .ref mas, .int nq, .int po, .int (nI en), .ref mso, .ref mon, .ref mot, .ref man, .int th, .int xd, .ref mst, .ref msm, .ref mtb, .ref mti, .ref mfr, .ref mbn, .ref mbs, .ref mde, .int sF, .int sN, .int sS, .int igz_61, .long xaz_62, .long xbz_63, .ref maa, .ref mab, .ref mba, .ref mbb]))] := hD
          refine lv_aload_n hx hb dX12_laysStep_132 rfl (lv_at hl 4 rfl) ?_
          refine xget C hP 4 rfl rfl zuX12 34 (by decide) zw6_7 rfl dX12_laysStep_133 ?_
          refine lv_iload_n hx hb dX12_laysStep_136 rfl (lv_at hl 5 rfl) ?_
          refine lv_aload_n hx hb dX12_laysStep_137 rfl (lv_at hl 4 rfl) ?_
          refine xget C hP 4 rfl rfl zuX12 32 (by decide) zw6_5 rfl dX12_laysStep_138 ?_
          refine xlast C hP hD hS 0 rfl i rfl (by omega) (by decide) dX12_laysStep_141 ?_
          clear hP hD hS
          try clear locs
          try clear H
          intro H locs hP hD hS
          replace hP : va_P D vwCl [(maa, .inl (cs 1, 9, .inr (.inl (vp_updL (vp_updL aaf i 0) i xaz_62)))), (mab, .inl (cs 1, 9, .inr (.inl (vp_updL abf i 1)))), (mba, .inl (cs 1, 9, .inr (.inl (vp_updL baf i 0)))), (mbb, .inl (cs 1, 9, .inr (.inl (vp_updL bbf i 1)))), (hm, .inr (12, [.ref ms, .ref mkp, .int (nI km), .ref mtr, .int (nI n), .int (nI k), .int (nI al), .int (nI be), .int ea, .int pr, .ref mas, .int nq, .int po, .int (nI en), .ref mso, .ref mon, .ref mot, .ref man, .int th, .int xd, .ref mst, .ref msm, .ref mtb, .ref mti, .ref mfr, .ref mbn, .ref mbs, .ref mde, .int sF, .int sN, .int sS, .int igz_61, .long xaz_62, .long xbz_63, .ref maa, .ref mab, .ref mba, .ref mbb]))] H := hP
          replace hD : va_D A [(maa, .inl (cs 1, 9, .inr (.inl (vp_updL (vp_updL aaf i 0) i xaz_62)))), (mab, .inl (cs 1, 9, .inr (.inl (vp_updL abf i 1)))), (mba, .inl (cs 1, 9, .inr (.inl (vp_updL baf i 0)))), (mbb, .inl (cs 1, 9, .inr (.inl (vp_updL bbf i 1)))), (hm, .inr (12, [.ref ms, .ref mkp, .int (nI km), .ref mtr, .int (nI n), .int (nI k), .int (nI al), .int (nI be), .int ea, .int pr, .ref mas, .int nq, .int po, .int (nI en), .ref mso, .ref mon, .ref mot, .ref man, .int th, .int xd, .ref mst, .ref msm, .ref mtb, .ref mti, .ref mfr, .ref mbn, .ref mbs, .ref mde, .int sF, .int sN, .int sS, .int igz_61, .long xaz_62, .long xbz_63, .ref maa, .ref mab, .ref mba, .ref mbb]))] := hD
          refine lv_aload_n hx hb dX12_laysStep_142 rfl (lv_at hl 4 rfl) ?_
          refine xget C hP 4 rfl rfl zuX12 35 (by decide) zw6_8 rfl dX12_laysStep_143 ?_
          refine lv_iload_n hx hb dX12_laysStep_146 rfl (lv_at hl 5 rfl) ?_
          refine lv_aload_n hx hb dX12_laysStep_147 rfl (lv_at hl 4 rfl) ?_
          refine xget C hP 4 rfl rfl zuX12 33 (by decide) zw6_6 rfl dX12_laysStep_148 ?_
          refine xlast C hP hD hS 1 rfl i rfl (by omega) (by decide) dX12_laysStep_151 ?_
          clear hP hD hS
          try clear locs
          try clear H
          intro H locs hP hD hS
          replace hP : va_P D vwCl [(maa, .inl (cs 1, 9, .inr (.inl (vp_updL (vp_updL aaf i 0) i xaz_62)))), (mab, .inl (cs 1, 9, .inr (.inl (vp_updL (vp_updL abf i 1) i xbz_63)))), (mba, .inl (cs 1, 9, .inr (.inl (vp_updL baf i 0)))), (mbb, .inl (cs 1, 9, .inr (.inl (vp_updL bbf i 1)))), (hm, .inr (12, [.ref ms, .ref mkp, .int (nI km), .ref mtr, .int (nI n), .int (nI k), .int (nI al), .int (nI be), .int ea, .int pr, .ref mas, .int nq, .int po, .int (nI en), .ref mso, .ref mon, .ref mot, .ref man, .int th, .int xd, .ref mst, .ref msm, .ref mtb, .ref mti, .ref mfr, .ref mbn, .ref mbs, .ref mde, .int sF, .int sN, .int sS, .int igz_61, .long xaz_62, .long xbz_63, .ref maa, .ref mab, .ref mba, .ref mbb]))] H := hP
          replace hD : va_D A [(maa, .inl (cs 1, 9, .inr (.inl (vp_updL (vp_updL aaf i 0) i xaz_62)))), (mab, .inl (cs 1, 9, .inr (.inl (vp_updL (vp_updL abf i 1) i xbz_63)))), (mba, .inl (cs 1, 9, .inr (.inl (vp_updL baf i 0)))), (mbb, .inl (cs 1, 9, .inr (.inl (vp_updL bbf i 1)))), (hm, .inr (12, [.ref ms, .ref mkp, .int (nI km), .ref mtr, .int (nI n), .int (nI k), .int (nI al), .int (nI be), .int ea, .int pr, .ref mas, .int nq, .int po, .int (nI en), .ref mso, .ref mon, .ref mot, .ref man, .int th, .int xd, .ref mst, .ref msm, .ref mtb, .ref mti, .ref mfr, .ref mbn, .ref mbs, .ref mde, .int sF, .int sN, .int sS, .int igz_61, .long xaz_62, .long xbz_63, .ref maa, .ref mab, .ref mba, .ref mbb]))] := hD
          refine lv_aload_n hx hb dX12_laysStep_152 rfl (lv_at hl 4 rfl) ?_
          refine lv_lload hx hb dX12_laysStep_153 (lv_at hl 2 rfl) ?_
          refine lv_lconst (v := 1) hx hb dX12_laysStep_155 (by decide) ?_
          refine lv_aload_n hx hb dX12_laysStep_156 rfl (lv_at hl 4 rfl) ?_
          refine xget C hP 4 rfl rfl zuX12 36 (by decide) zw6_9 rfl dX12_laysStep_157 ?_
          refine lv_iload_n hx hb dX12_laysStep_160 rfl (lv_at hl 5 rfl) ?_
          refine lv_iconst (v := nI 1) hx hb dX12_laysStep_161 (by decide) ?_
          refine lv_isub hx hb dX12_laysStep_162 ?_
          refine lv_topi (nm_r (e' := nI (i - 1)) (pk_sub (by omega)) ?_)
          refine xlald C hP 2 rfl (i - 1) rfl (by omega) (by decide) dX12_laysStep_163 ?_
          refine lv_aload_n hx hb dX12_laysStep_164 rfl (lv_at hl 4 rfl) ?_
          refine xget C hP 4 rfl rfl zuX12 37 (by decide) zw6_10 rfl dX12_laysStep_165 ?_
          refine lv_iload_n hx hb dX12_laysStep_168 rfl (lv_at hl 5 rfl) ?_
          refine lv_iconst (v := nI 1) hx hb dX12_laysStep_169 (by decide) ?_
          refine lv_isub hx hb dX12_laysStep_170 ?_
          refine lv_topi (nm_r (e' := nI (i - 1)) (pk_sub (by omega)) ?_)
          refine xlald C hP 3 rfl (i - 1) rfl (by omega) (by decide) dX12_laysStep_171 ?_
          refine xv (wr := [(maa, .inl (cs 1, 9, .inr (.inl (vp_updL (vp_updL aaf i 0) i xaz_62)))), (mab, .inl (cs 1, 9, .inr (.inl (vp_updL (vp_updL abf i 1) i xbz_63)))), (mba, .inl (cs 1, 9, .inr (.inl (vp_updL baf i 0)))), (mbb, .inl (cs 1, 9, .inr (.inl (vp_updL bbf i 1))))]) (xV (As := [.long r_3, .long 1, .long ((vp_updL baf i 0) (i - 1)), .long ((vp_updL bbf i 1) (i - 1))]) (rest := []) C (c_X12_multiplies l D cs hm ms mkp mtr mas mso mon mot man mst msm mtb mti mfr mbn mbs mde maa mab mba mbb n k al be km en ea pr nq po th xd sF sN sS igz_61 xaz_62 xbz_63 r_3 1 ((vp_updL baf i 0) (i - 1)) ((vp_updL bbf i 1) (i - 1)) (hI.elim (fun g => Or.inl ((fun h => hw_r_59.1 ((fun h => hw_r_52.1 ((fun h => hw_r_47.1 ((fun h => h) h)) h)) h)) g)) (fun z => Or.inr ⟨by decide, by rw [updL_ne (by omega)]; exact (z (i - 1) (by omega)).2⟩))) kX12_286 hP hD [4] rfl (by decide +kernel) 0 rfl rfl rfl ⟨Nat.le_of_ble_eq_true rfl, Nat.le_of_ble_eq_true rfl⟩ rfl hl.1 rfl (Nat.le_of_ble_eq_true rfl) dX12_laysStep_172 ⟨Nat.le_of_ble_eq_true rfl, Nat.le_of_ble_eq_true rfl⟩) hP hD hS hA [4] [0, 1, 2, 3] rfl rfl (by decide +kernel) (by decide +kernel) ?_
          clear hP hD hS
          try clear locs
          try clear H
          intro u_65 H locs hw_r_64 hP hD hS
          obtain ⟨igz_66, xaz_67, xbz_68⟩ := u_65
          have hw_r_64 : (gr igz_61 → gr igz_66) ∧ ¬ xbz_68 = 0 := hw_r_64
          refine W.widen (k := 0) (n := 0) (Nat.le_of_ble_eq_true rfl) (Nat.le_of_ble_eq_true rfl) ?_
          replace hP : va_P D vwCl [(maa, .inl (cs 1, 9, .inr (.inl (vp_updL (vp_updL aaf i 0) i xaz_62)))), (mab, .inl (cs 1, 9, .inr (.inl (vp_updL (vp_updL abf i 1) i xbz_63)))), (mba, .inl (cs 1, 9, .inr (.inl (vp_updL baf i 0)))), (mbb, .inl (cs 1, 9, .inr (.inl (vp_updL bbf i 1)))), (hm, .inr (12, [.ref ms, .ref mkp, .int (nI km), .ref mtr, .int (nI n), .int (nI k), .int (nI al), .int (nI be), .int ea, .int pr, .ref mas, .int nq, .int po, .int (nI en), .ref mso, .ref mon, .ref mot, .ref man, .int th, .int xd, .ref mst, .ref msm, .ref mtb, .ref mti, .ref mfr, .ref mbn, .ref mbs, .ref mde, .int sF, .int sN, .int sS, .int igz_66, .long xaz_67, .long xbz_68, .ref maa, .ref mab, .ref mba, .ref mbb]))] H := hP
          replace hD : va_D A [(maa, .inl (cs 1, 9, .inr (.inl (vp_updL (vp_updL aaf i 0) i xaz_62)))), (mab, .inl (cs 1, 9, .inr (.inl (vp_updL (vp_updL abf i 1) i xbz_63)))), (mba, .inl (cs 1, 9, .inr (.inl (vp_updL baf i 0)))), (mbb, .inl (cs 1, 9, .inr (.inl (vp_updL bbf i 1)))), (hm, .inr (12, [.ref ms, .ref mkp, .int (nI km), .ref mtr, .int (nI n), .int (nI k), .int (nI al), .int (nI be), .int ea, .int pr, .ref mas, .int nq, .int po, .int (nI en), .ref mso, .ref mon, .ref mot, .ref man, .int th, .int xd, .ref mst, .ref msm, .ref mtb, .ref mti, .ref mfr, .ref mbn, .ref mbs, .ref mde, .int sF, .int sN, .int sS, .int igz_66, .long xaz_67, .long xbz_68, .ref maa, .ref mab, .ref mba, .ref mbb]))] := hD
          refine lv_iload_n hx hb dX12_laysStep_175 rfl (lv_at hl 6 rfl) ?_
          refine lv_if_eq (tgt := 202) hx hb dX12_laysStep_176 (by decide) (fun c_69 => ?_) (fun c_69 => ?_)
          · -- 176 t
            refine lv_aload_n hx hb dX12_laysStep_202 rfl (lv_at hl 4 rfl) ?_
            refine lv_aload_n hx hb dX12_laysStep_203 rfl (lv_at hl 4 rfl) ?_
            refine xget C hP 4 rfl rfl zuX12 32 (by decide) zw6_5 rfl dX12_laysStep_204 ?_
            refine lv_aload_n hx hb dX12_laysStep_207 rfl (lv_at hl 4 rfl) ?_
            refine xget C hP 4 rfl rfl zuX12 33 (by decide) zw6_6 rfl dX12_laysStep_208 ?_
            refine lv_lload hx hb dX12_laysStep_211 (lv_at hl 1 rfl) ?_
            refine lv_lload hx hb dX12_laysStep_213 (lv_at hl 0 rfl) ?_
            refine xv (wr := [(maa, .inl (cs 1, 9, .inr (.inl (vp_updL (vp_updL aaf i 0) i xaz_62)))), (mab, .inl (cs 1, 9, .inr (.inl (vp_updL (vp_updL abf i 1) i xbz_63)))), (mba, .inl (cs 1, 9, .inr (.inl (vp_updL baf i 0)))), (mbb, .inl (cs 1, 9, .inr (.inl (vp_updL bbf i 1))))]) (xV (As := [.long xaz_67, .long xbz_68, .long xaz_55, .long xbz_56]) (rest := []) C (c_X12_divides l D cs hm ms mkp mtr mas mso mon mot man mst msm mtb mti mfr mbn mbs mde maa mab mba mbb n k al be km en ea pr nq po th xd sF sN sS igz_66 xaz_67 xbz_68 xaz_67 xbz_68 xaz_55 xbz_56 (Or.inr ⟨hw_r_64.2, (l_ne c_57)⟩)) kX12_293 hP hD [4] rfl (by decide +kernel) 0 rfl rfl rfl ⟨Nat.le_of_ble_eq_true rfl, Nat.le_of_ble_eq_true rfl⟩ rfl hl.1 rfl (Nat.le_of_ble_eq_true rfl) dX12_laysStep_215 ⟨Nat.le_of_ble_eq_true rfl, Nat.le_of_ble_eq_true rfl⟩) hP hD hS hA [4] [0, 1, 2, 3] rfl rfl (by decide +kernel) (by decide +kernel) ?_
            clear hP hD hS
            try clear locs
            try clear H
            intro u_71 H locs hw_r_70 hP hD hS
            obtain ⟨igz_72, xaz_73, xbz_74⟩ := u_71
            have hw_r_70 : (gr igz_66 → gr igz_72) ∧ ¬ xbz_74 = 0 := hw_r_70
            refine W.widen (k := 0) (n := 0) (Nat.le_of_ble_eq_true rfl) (Nat.le_of_ble_eq_true rfl) ?_
            replace hP : va_P D vwCl [(maa, .inl (cs 1, 9, .inr (.inl (vp_updL (vp_updL aaf i 0) i xaz_62)))), (mab, .inl (cs 1, 9, .inr (.inl (vp_updL (vp_updL abf i 1) i xbz_63)))), (mba, .inl (cs 1, 9, .inr (.inl (vp_updL baf i 0)))), (mbb, .inl (cs 1, 9, .inr (.inl (vp_updL bbf i 1)))), (hm, .inr (12, [.ref ms, .ref mkp, .int (nI km), .ref mtr, .int (nI n), .int (nI k), .int (nI al), .int (nI be), .int ea, .int pr, .ref mas, .int nq, .int po, .int (nI en), .ref mso, .ref mon, .ref mot, .ref man, .int th, .int xd, .ref mst, .ref msm, .ref mtb, .ref mti, .ref mfr, .ref mbn, .ref mbs, .ref mde, .int sF, .int sN, .int sS, .int igz_72, .long xaz_73, .long xbz_74, .ref maa, .ref mab, .ref mba, .ref mbb]))] H := hP
            replace hD : va_D A [(maa, .inl (cs 1, 9, .inr (.inl (vp_updL (vp_updL aaf i 0) i xaz_62)))), (mab, .inl (cs 1, 9, .inr (.inl (vp_updL (vp_updL abf i 1) i xbz_63)))), (mba, .inl (cs 1, 9, .inr (.inl (vp_updL baf i 0)))), (mbb, .inl (cs 1, 9, .inr (.inl (vp_updL bbf i 1)))), (hm, .inr (12, [.ref ms, .ref mkp, .int (nI km), .ref mtr, .int (nI n), .int (nI k), .int (nI al), .int (nI be), .int ea, .int pr, .ref mas, .int nq, .int po, .int (nI en), .ref mso, .ref mon, .ref mot, .ref man, .int th, .int xd, .ref mst, .ref msm, .ref mtb, .ref mti, .ref mfr, .ref mbn, .ref mbs, .ref mde, .int sF, .int sN, .int sS, .int igz_72, .long xaz_73, .long xbz_74, .ref maa, .ref mab, .ref mba, .ref mbb]))] := hD
            refine lv_aload_n hx hb dX12_laysStep_218 rfl (lv_at hl 4 rfl) ?_
            refine xget C hP 4 rfl rfl zuX12 36 (by decide) zw6_9 rfl dX12_laysStep_219 ?_
            refine lv_iload_n hx hb dX12_laysStep_222 rfl (lv_at hl 5 rfl) ?_
            refine lv_aload_n hx hb dX12_laysStep_223 rfl (lv_at hl 4 rfl) ?_
            refine xget C hP 4 rfl rfl zuX12 32 (by decide) zw6_5 rfl dX12_laysStep_224 ?_
            refine xlast C hP hD hS 2 rfl i rfl (by omega) (by decide) dX12_laysStep_227 ?_
            clear hP hD hS
            try clear locs
            try clear H
            intro H locs hP hD hS
            replace hP : va_P D vwCl [(maa, .inl (cs 1, 9, .inr (.inl (vp_updL (vp_updL aaf i 0) i xaz_62)))), (mab, .inl (cs 1, 9, .inr (.inl (vp_updL (vp_updL abf i 1) i xbz_63)))), (mba, .inl (cs 1, 9, .inr (.inl (vp_updL (vp_updL baf i 0) i xaz_73)))), (mbb, .inl (cs 1, 9, .inr (.inl (vp_updL bbf i 1)))), (hm, .inr (12, [.ref ms, .ref mkp, .int (nI km), .ref mtr, .int (nI n), .int (nI k), .int (nI al), .int (nI be), .int ea, .int pr, .ref mas, .int nq, .int po, .int (nI en), .ref mso, .ref mon, .ref mot, .ref man, .int th, .int xd, .ref mst, .ref msm, .ref mtb, .ref mti, .ref mfr, .ref mbn, .ref mbs, .ref mde, .int sF, .int sN, .int sS, .int igz_72, .long xaz_73, .long xbz_74, .ref maa, .ref mab, .ref mba, .ref mbb]))] H := hP
            replace hD : va_D A [(maa, .inl (cs 1, 9, .inr (.inl (vp_updL (vp_updL aaf i 0) i xaz_62)))), (mab, .inl (cs 1, 9, .inr (.inl (vp_updL (vp_updL abf i 1) i xbz_63)))), (mba, .inl (cs 1, 9, .inr (.inl (vp_updL (vp_updL baf i 0) i xaz_73)))), (mbb, .inl (cs 1, 9, .inr (.inl (vp_updL bbf i 1)))), (hm, .inr (12, [.ref ms, .ref mkp, .int (nI km), .ref mtr, .int (nI n), .int (nI k), .int (nI al), .int (nI be), .int ea, .int pr, .ref mas, .int nq, .int po, .int (nI en), .ref mso, .ref mon, .ref mot, .ref man, .int th, .int xd, .ref mst, .ref msm, .ref mtb, .ref mti, .ref mfr, .ref mbn, .ref mbs, .ref mde, .int sF, .int sN, .int sS, .int igz_72, .long xaz_73, .long xbz_74, .ref maa, .ref mab, .ref mba, .ref mbb]))] := hD
            refine lv_aload_n hx hb dX12_laysStep_228 rfl (lv_at hl 4 rfl) ?_
            refine xget C hP 4 rfl rfl zuX12 37 (by decide) zw6_10 rfl dX12_laysStep_229 ?_
            refine lv_iload_n hx hb dX12_laysStep_232 rfl (lv_at hl 5 rfl) ?_
            refine lv_aload_n hx hb dX12_laysStep_233 rfl (lv_at hl 4 rfl) ?_
            refine xget C hP 4 rfl rfl zuX12 33 (by decide) zw6_6 rfl dX12_laysStep_234 ?_
            refine xlast C hP hD hS 3 rfl i rfl (by omega) (by decide) dX12_laysStep_237 ?_
            clear hP hD hS
            try clear locs
            try clear H
            intro H locs hP hD hS
            replace hP : va_P D vwCl [(maa, .inl (cs 1, 9, .inr (.inl (vp_updL (vp_updL aaf i 0) i xaz_62)))), (mab, .inl (cs 1, 9, .inr (.inl (vp_updL (vp_updL abf i 1) i xbz_63)))), (mba, .inl (cs 1, 9, .inr (.inl (vp_updL (vp_updL baf i 0) i xaz_73)))), (mbb, .inl (cs 1, 9, .inr (.inl (vp_updL (vp_updL bbf i 1) i xbz_74)))), (hm, .inr (12, [.ref ms, .ref mkp, .int (nI km), .ref mtr, .int (nI n), .int (nI k), .int (nI al), .int (nI be), .int ea, .int pr, .ref mas, .int nq, .int po, .int (nI en), .ref mso, .ref mon, .ref mot, .ref man, .int th, .int xd, .ref mst, .ref msm, .ref mtb, .ref mti, .ref mfr, .ref mbn, .ref mbs, .ref mde, .int sF, .int sN, .int sS, .int igz_72, .long xaz_73, .long xbz_74, .ref maa, .ref mab, .ref mba, .ref mbb]))] H := hP
            replace hD : va_D A [(maa, .inl (cs 1, 9, .inr (.inl (vp_updL (vp_updL aaf i 0) i xaz_62)))), (mab, .inl (cs 1, 9, .inr (.inl (vp_updL (vp_updL abf i 1) i xbz_63)))), (mba, .inl (cs 1, 9, .inr (.inl (vp_updL (vp_updL baf i 0) i xaz_73)))), (mbb, .inl (cs 1, 9, .inr (.inl (vp_updL (vp_updL bbf i 1) i xbz_74)))), (hm, .inr (12, [.ref ms, .ref mkp, .int (nI km), .ref mtr, .int (nI n), .int (nI k), .int (nI al), .int (nI be), .int ea, .int pr, .ref mas, .int nq, .int po, .int (nI en), .ref mso, .ref mon, .ref mot, .ref man, .int th, .int xd, .ref mst, .ref msm, .ref mtb, .ref mti, .ref mfr, .ref mbn, .ref mbs, .ref mde, .int sF, .int sN, .int sS, .int igz_72, .long xaz_73, .long xbz_74, .ref maa, .ref mab, .ref mba, .ref mbb]))] := hD
            exact xretv C (⟨igz_72, xaz_73, xbz_74, (vp_updL (vp_updL aaf i 0) i xaz_62), (vp_updL (vp_updL abf i 1) i xbz_63), (vp_updL (vp_updL baf i 0) i xaz_73), (vp_updL (vp_updL bbf i 1) i xbz_74)⟩) (hI.elim (fun g => Or.inl ((fun h => hw_r_70.1 ((fun h => hw_r_64.1 ((fun h => hw_r_59.1 ((fun h => hw_r_52.1 ((fun h => hw_r_47.1 ((fun h => h) h)) h)) h)) h)) h)) g)) (fun z => Or.inr (fun j hj => by by_cases qj : j = i; (subst qj; exact ⟨by rw [updL_at]; exact hw_r_59.2, by rw [updL_at]; exact hw_r_70.2⟩); exact ⟨by simp only [updL_ne qj]; exact (z j (by omega)).1, by simp only [updL_ne qj]; exact (z j (by omega)).2⟩))) (xP_map hP [4, 0, 1, 2, 3] rfl) (hD.sub [4, 0, 1, 2, 3] (by decide +kernel) rfl) hS (Nat.le_of_ble_eq_true rfl) (Nat.le_of_ble_eq_true rfl) dX12_laysStep_238
          · -- 176 f
            refine lv_aload_n hx hb dX12_laysStep_179 rfl (lv_at hl 4 rfl) ?_
            refine lv_aload_n hx hb dX12_laysStep_180 rfl (lv_at hl 4 rfl) ?_
            refine xget C hP 4 rfl rfl zuX12 4 (by decide) zw5_217 rfl dX12_laysStep_181 ?_
            refine lv_i2l hx hb dX12_laysStep_184 rfl ?_
            refine lv_aload_n hx hb dX12_laysStep_185 rfl (lv_at hl 4 rfl) ?_
            refine xl (wr := [(maa, .inl (cs 1, 9, .inr (.inl (vp_updL (vp_updL aaf i 0) i xaz_62)))), (mab, .inl (cs 1, 9, .inr (.inl (vp_updL (vp_updL abf i 1) i xbz_63)))), (mba, .inl (cs 1, 9, .inr (.inl (vp_updL baf i 0)))), (mbb, .inl (cs 1, 9, .inr (.inl (vp_updL bbf i 1))))]) (xV (As := []) (rest := [.long ((nI n).toInt64), .ref hm]) C (c_X12_samples l D cs hm ms mkp mtr mas mso mon mot man mst msm mtb mti mfr mbn mbs mde maa mab mba mbb n k al be km en ea pr nq po th xd sF sN sS igz_66 xaz_67 xbz_68 hn hkn) kX12_180 hP hD [4] rfl (by decide +kernel) 0 rfl rfl rfl ⟨Nat.le_of_ble_eq_true rfl, Nat.le_of_ble_eq_true rfl⟩ rfl hl.1 rfl (Nat.le_of_ble_eq_true rfl) dX12_laysStep_186 ⟨Nat.le_of_ble_eq_true rfl, Nat.le_of_ble_eq_true rfl⟩) hP hD hS hA [4] [0, 1, 2, 3] rfl rfl (by decide +kernel) (by decide +kernel) ?_
            clear hP hD hS
            try clear locs
            try clear H
            intro r_75 u_76 H locs hw_r_75 hP hD hS
            have hw_r_75 : r_75 = smV n k := hw_r_75
            refine W.widen (k := 0) (n := 0) (Nat.le_of_ble_eq_true rfl) (Nat.le_of_ble_eq_true rfl) ?_
            replace hP : va_P D vwCl [(maa, .inl (cs 1, 9, .inr (.inl (vp_updL (vp_updL aaf i 0) i xaz_62)))), (mab, .inl (cs 1, 9, .inr (.inl (vp_updL (vp_updL abf i 1) i xbz_63)))), (mba, .inl (cs 1, 9, .inr (.inl (vp_updL baf i 0)))), (mbb, .inl (cs 1, 9, .inr (.inl (vp_updL bbf i 1)))), (hm, .inr (12, [.ref ms, .ref mkp, .int (nI km), .ref mtr, .int (nI n), .int (nI k), .int (nI al), .int (nI be), .int ea, .int pr, .ref mas, .int nq, .int po, .int (nI en), .ref mso, .ref mon, .ref mot, .ref man, .int th, .int xd, .ref mst, .ref msm, .ref mtb, .ref mti, .ref mfr, .ref mbn, .ref mbs, .ref mde, .int sF, .int sN, .int sS, .int igz_66, .long xaz_67, .long xbz_68, .ref maa, .ref mab, .ref mba, .ref mbb]))] H := hP
            replace hD : va_D A [(maa, .inl (cs 1, 9, .inr (.inl (vp_updL (vp_updL aaf i 0) i xaz_62)))), (mab, .inl (cs 1, 9, .inr (.inl (vp_updL (vp_updL abf i 1) i xbz_63)))), (mba, .inl (cs 1, 9, .inr (.inl (vp_updL baf i 0)))), (mbb, .inl (cs 1, 9, .inr (.inl (vp_updL bbf i 1)))), (hm, .inr (12, [.ref ms, .ref mkp, .int (nI km), .ref mtr, .int (nI n), .int (nI k), .int (nI al), .int (nI be), .int ea, .int pr, .ref mas, .int nq, .int po, .int (nI en), .ref mso, .ref mon, .ref mot, .ref man, .int th, .int xd, .ref mst, .ref msm, .ref mtb, .ref mti, .ref mfr, .ref mbn, .ref mbs, .ref mde, .int sF, .int sN, .int sS, .int igz_66, .long xaz_67, .long xbz_68, .ref maa, .ref mab, .ref mba, .ref mbb]))] := hD
            refine lv_lmul hx hb dX12_laysStep_189 ?_
            refine lv_lconst (v := 1) hx hb dX12_laysStep_190 (by decide) ?_
            refine lv_aload_n hx hb dX12_laysStep_191 rfl (lv_at hl 4 rfl) ?_
            refine xget C hP 4 rfl rfl zuX12 32 (by decide) zw6_5 rfl dX12_laysStep_192 ?_
            refine lv_aload_n hx hb dX12_laysStep_195 rfl (lv_at hl 4 rfl) ?_
            refine xget C hP 4 rfl rfl zuX12 33 (by decide) zw6_6 rfl dX12_laysStep_196 ?_
            refine xv (wr := [(maa, .inl (cs 1, 9, .inr (.inl (vp_updL (vp_updL aaf i 0) i xaz_62)))), (mab, .inl (cs 1, 9, .inr (.inl (vp_updL (vp_updL abf i 1) i xbz_63)))), (mba, .inl (cs 1, 9, .inr (.inl (vp_updL baf i 0)))), (mbb, .inl (cs 1, 9, .inr (.inl (vp_updL bbf i 1))))]) (xV (As := [.long (((nI n).toInt64) * r_75), .long 1, .long xaz_67, .long xbz_68]) (rest := []) C (c_X12_adds l D cs hm ms mkp mtr mas mso mon mot man mst msm mtb mti mfr mbn mbs mde maa mab mba mbb n k al be km en ea pr nq po th xd sF sN sS igz_66 xaz_67 xbz_68 (((nI n).toInt64) * r_75) 1 xaz_67 xbz_68 (Or.inr ⟨by decide, hw_r_64.2⟩)) kX12_296 hP hD [4] rfl (by decide +kernel) 0 rfl rfl rfl ⟨Nat.le_of_ble_eq_true rfl, Nat.le_of_ble_eq_true rfl⟩ rfl hl.1 rfl (Nat.le_of_ble_eq_true rfl) dX12_laysStep_199 ⟨Nat.le_of_ble_eq_true rfl, Nat.le_of_ble_eq_true rfl⟩) hP hD hS hA [4] [0, 1, 2, 3] rfl rfl (by decide +kernel) (by decide +kernel) ?_
            clear hP hD hS
            try clear locs
            try clear H
            intro u_78 H locs hw_r_77 hP hD hS
            obtain ⟨igz_79, xaz_80, xbz_81⟩ := u_78
            have hw_r_77 : (gr igz_66 → gr igz_79) ∧ ¬ xbz_81 = 0 := hw_r_77
            refine W.widen (k := 0) (n := 0) (Nat.le_of_ble_eq_true rfl) (Nat.le_of_ble_eq_true rfl) ?_
            replace hP : va_P D vwCl [(maa, .inl (cs 1, 9, .inr (.inl (vp_updL (vp_updL aaf i 0) i xaz_62)))), (mab, .inl (cs 1, 9, .inr (.inl (vp_updL (vp_updL abf i 1) i xbz_63)))), (mba, .inl (cs 1, 9, .inr (.inl (vp_updL baf i 0)))), (mbb, .inl (cs 1, 9, .inr (.inl (vp_updL bbf i 1)))), (hm, .inr (12, [.ref ms, .ref mkp, .int (nI km), .ref mtr, .int (nI n), .int (nI k), .int (nI al), .int (nI be), .int ea, .int pr, .ref mas, .int nq, .int po, .int (nI en), .ref mso, .ref mon, .ref mot, .ref man, .int th, .int xd, .ref mst, .ref msm, .ref mtb, .ref mti, .ref mfr, .ref mbn, .ref mbs, .ref mde, .int sF, .int sN, .int sS, .int igz_79, .long xaz_80, .long xbz_81, .ref maa, .ref mab, .ref mba, .ref mbb]))] H := hP
            replace hD : va_D A [(maa, .inl (cs 1, 9, .inr (.inl (vp_updL (vp_updL aaf i 0) i xaz_62)))), (mab, .inl (cs 1, 9, .inr (.inl (vp_updL (vp_updL abf i 1) i xbz_63)))), (mba, .inl (cs 1, 9, .inr (.inl (vp_updL baf i 0)))), (mbb, .inl (cs 1, 9, .inr (.inl (vp_updL bbf i 1)))), (hm, .inr (12, [.ref ms, .ref mkp, .int (nI km), .ref mtr, .int (nI n), .int (nI k), .int (nI al), .int (nI be), .int ea, .int pr, .ref mas, .int nq, .int po, .int (nI en), .ref mso, .ref mon, .ref mot, .ref man, .int th, .int xd, .ref mst, .ref msm, .ref mtb, .ref mti, .ref mfr, .ref mbn, .ref mbs, .ref mde, .int sF, .int sN, .int sS, .int igz_79, .long xaz_80, .long xbz_81, .ref maa, .ref mab, .ref mba, .ref mbb]))] := hD
            refine lv_aload_n hx hb dX12_laysStep_202 rfl (lv_at hl 4 rfl) ?_
            refine lv_aload_n hx hb dX12_laysStep_203 rfl (lv_at hl 4 rfl) ?_
            refine xget C hP 4 rfl rfl zuX12 32 (by decide) zw6_5 rfl dX12_laysStep_204 ?_
            refine lv_aload_n hx hb dX12_laysStep_207 rfl (lv_at hl 4 rfl) ?_
            refine xget C hP 4 rfl rfl zuX12 33 (by decide) zw6_6 rfl dX12_laysStep_208 ?_
            refine lv_lload hx hb dX12_laysStep_211 (lv_at hl 1 rfl) ?_
            refine lv_lload hx hb dX12_laysStep_213 (lv_at hl 0 rfl) ?_
            refine xv (wr := [(maa, .inl (cs 1, 9, .inr (.inl (vp_updL (vp_updL aaf i 0) i xaz_62)))), (mab, .inl (cs 1, 9, .inr (.inl (vp_updL (vp_updL abf i 1) i xbz_63)))), (mba, .inl (cs 1, 9, .inr (.inl (vp_updL baf i 0)))), (mbb, .inl (cs 1, 9, .inr (.inl (vp_updL bbf i 1))))]) (xV (As := [.long xaz_80, .long xbz_81, .long xaz_55, .long xbz_56]) (rest := []) C (c_X12_divides l D cs hm ms mkp mtr mas mso mon mot man mst msm mtb mti mfr mbn mbs mde maa mab mba mbb n k al be km en ea pr nq po th xd sF sN sS igz_79 xaz_80 xbz_81 xaz_80 xbz_81 xaz_55 xbz_56 (Or.inr ⟨hw_r_77.2, (l_ne c_57)⟩)) kX12_293 hP hD [4] rfl (by decide +kernel) 0 rfl rfl rfl ⟨Nat.le_of_ble_eq_true rfl, Nat.le_of_ble_eq_true rfl⟩ rfl hl.1 rfl (Nat.le_of_ble_eq_true rfl) dX12_laysStep_215 ⟨Nat.le_of_ble_eq_true rfl, Nat.le_of_ble_eq_true rfl⟩) hP hD hS hA [4] [0, 1, 2, 3] rfl rfl (by decide +kernel) (by decide +kernel) ?_
            clear hP hD hS
            try clear locs
            try clear H
            intro u_83 H locs hw_r_82 hP hD hS
            obtain ⟨igz_84, xaz_85, xbz_86⟩ := u_83
            have hw_r_82 : (gr igz_79 → gr igz_84) ∧ ¬ xbz_86 = 0 := hw_r_82
            refine W.widen (k := 0) (n := 0) (Nat.le_of_ble_eq_true rfl) (Nat.le_of_ble_eq_true rfl) ?_
            replace hP : va_P D vwCl [(maa, .inl (cs 1, 9, .inr (.inl (vp_updL (vp_updL aaf i 0) i xaz_62)))), (mab, .inl (cs 1, 9, .inr (.inl (vp_updL (vp_updL abf i 1) i xbz_63)))), (mba, .inl (cs 1, 9, .inr (.inl (vp_updL baf i 0)))), (mbb, .inl (cs 1, 9, .inr (.inl (vp_updL bbf i 1)))), (hm, .inr (12, [.ref ms, .ref mkp, .int (nI km), .ref mtr, .int (nI n), .int (nI k), .int (nI al), .int (nI be), .int ea, .int pr, .ref mas, .int nq, .int po, .int (nI en), .ref mso, .ref mon, .ref mot, .ref man, .int th, .int xd, .ref mst, .ref msm, .ref mtb, .ref mti, .ref mfr, .ref mbn, .ref mbs, .ref mde, .int sF, .int sN, .int sS, .int igz_84, .long xaz_85, .long xbz_86, .ref maa, .ref mab, .ref mba, .ref mbb]))] H := hP
            replace hD : va_D A [(maa, .inl (cs 1, 9, .inr (.inl (vp_updL (vp_updL aaf i 0) i xaz_62)))), (mab, .inl (cs 1, 9, .inr (.inl (vp_updL (vp_updL abf i 1) i xbz_63)))), (mba, .inl (cs 1, 9, .inr (.inl (vp_updL baf i 0)))), (mbb, .inl (cs 1, 9, .inr (.inl (vp_updL bbf i 1)))), (hm, .inr (12, [.ref ms, .ref mkp, .int (nI km), .ref mtr, .int (nI n), .int (nI k), .int (nI al), .int (nI be), .int ea, .int pr, .ref mas, .int nq, .int po, .int (nI en), .ref mso, .ref mon, .ref mot, .ref man, .int th, .int xd, .ref mst, .ref msm, .ref mtb, .ref mti, .ref mfr, .ref mbn, .ref mbs, .ref mde, .int sF, .int sN, .int sS, .int igz_84, .long xaz_85, .long xbz_86, .ref maa, .ref mab, .ref mba, .ref mbb]))] := hD
            refine lv_aload_n hx hb dX12_laysStep_218 rfl (lv_at hl 4 rfl) ?_
            refine xget C hP 4 rfl rfl zuX12 36 (by decide) zw6_9 rfl dX12_laysStep_219 ?_
            refine lv_iload_n hx hb dX12_laysStep_222 rfl (lv_at hl 5 rfl) ?_
            refine lv_aload_n hx hb dX12_laysStep_223 rfl (lv_at hl 4 rfl) ?_
            refine xget C hP 4 rfl rfl zuX12 32 (by decide) zw6_5 rfl dX12_laysStep_224 ?_
            refine xlast C hP hD hS 2 rfl i rfl (by omega) (by decide) dX12_laysStep_227 ?_
            clear hP hD hS
            try clear locs
            try clear H
            intro H locs hP hD hS
            replace hP : va_P D vwCl [(maa, .inl (cs 1, 9, .inr (.inl (vp_updL (vp_updL aaf i 0) i xaz_62)))), (mab, .inl (cs 1, 9, .inr (.inl (vp_updL (vp_updL abf i 1) i xbz_63)))), (mba, .inl (cs 1, 9, .inr (.inl (vp_updL (vp_updL baf i 0) i xaz_85)))), (mbb, .inl (cs 1, 9, .inr (.inl (vp_updL bbf i 1)))), (hm, .inr (12, [.ref ms, .ref mkp, .int (nI km), .ref mtr, .int (nI n), .int (nI k), .int (nI al), .int (nI be), .int ea, .int pr, .ref mas, .int nq, .int po, .int (nI en), .ref mso, .ref mon, .ref mot, .ref man, .int th, .int xd, .ref mst, .ref msm, .ref mtb, .ref mti, .ref mfr, .ref mbn, .ref mbs, .ref mde, .int sF, .int sN, .int sS, .int igz_84, .long xaz_85, .long xbz_86, .ref maa, .ref mab, .ref mba, .ref mbb]))] H := hP
            replace hD : va_D A [(maa, .inl (cs 1, 9, .inr (.inl (vp_updL (vp_updL aaf i 0) i xaz_62)))), (mab, .inl (cs 1, 9, .inr (.inl (vp_updL (vp_updL abf i 1) i xbz_63)))), (mba, .inl (cs 1, 9, .inr (.inl (vp_updL (vp_updL baf i 0) i xaz_85)))), (mbb, .inl (cs 1, 9, .inr (.inl (vp_updL bbf i 1)))), (hm, .inr (12, [.ref ms, .ref mkp, .int (nI km), .ref mtr, .int (nI n), .int (nI k), .int (nI al), .int (nI be), .int ea, .int pr, .ref mas, .int nq, .int po, .int (nI en), .ref mso, .ref mon, .ref mot, .ref man, .int th, .int xd, .ref mst, .ref msm, .ref mtb, .ref mti, .ref mfr, .ref mbn, .ref mbs, .ref mde, .int sF, .int sN, .int sS, .int igz_84, .long xaz_85, .long xbz_86, .ref maa, .ref mab, .ref mba, .ref mbb]))] := hD
            refine lv_aload_n hx hb dX12_laysStep_228 rfl (lv_at hl 4 rfl) ?_
            refine xget C hP 4 rfl rfl zuX12 37 (by decide) zw6_10 rfl dX12_laysStep_229 ?_
            refine lv_iload_n hx hb dX12_laysStep_232 rfl (lv_at hl 5 rfl) ?_
            refine lv_aload_n hx hb dX12_laysStep_233 rfl (lv_at hl 4 rfl) ?_
            refine xget C hP 4 rfl rfl zuX12 33 (by decide) zw6_6 rfl dX12_laysStep_234 ?_
            refine xlast C hP hD hS 3 rfl i rfl (by omega) (by decide) dX12_laysStep_237 ?_
            clear hP hD hS
            try clear locs
            try clear H
            intro H locs hP hD hS
            replace hP : va_P D vwCl [(maa, .inl (cs 1, 9, .inr (.inl (vp_updL (vp_updL aaf i 0) i xaz_62)))), (mab, .inl (cs 1, 9, .inr (.inl (vp_updL (vp_updL abf i 1) i xbz_63)))), (mba, .inl (cs 1, 9, .inr (.inl (vp_updL (vp_updL baf i 0) i xaz_85)))), (mbb, .inl (cs 1, 9, .inr (.inl (vp_updL (vp_updL bbf i 1) i xbz_86)))), (hm, .inr (12, [.ref ms, .ref mkp, .int (nI km), .ref mtr, .int (nI n), .int (nI k), .int (nI al), .int (nI be), .int ea, .int pr, .ref mas, .int nq, .int po, .int (nI en), .ref mso, .ref mon, .ref mot, .ref man, .int th, .int xd, .ref mst, .ref msm, .ref mtb, .ref mti, .ref mfr, .ref mbn, .ref mbs, .ref mde, .int sF, .int sN, .int sS, .int igz_84, .long xaz_85, .long xbz_86, .ref maa, .ref mab, .ref mba, .ref mbb]))] H := hP
            replace hD : va_D A [(maa, .inl (cs 1, 9, .inr (.inl (vp_updL (vp_updL aaf i 0) i xaz_62)))), (mab, .inl (cs 1, 9, .inr (.inl (vp_updL (vp_updL abf i 1) i xbz_63)))), (mba, .inl (cs 1, 9, .inr (.inl (vp_updL (vp_updL baf i 0) i xaz_85)))), (mbb, .inl (cs 1, 9, .inr (.inl (vp_updL (vp_updL bbf i 1) i xbz_86)))), (hm, .inr (12, [.ref ms, .ref mkp, .int (nI km), .ref mtr, .int (nI n), .int (nI k), .int (nI al), .int (nI be), .int ea, .int pr, .ref mas, .int nq, .int po, .int (nI en), .ref mso, .ref mon, .ref mot, .ref man, .int th, .int xd, .ref mst, .ref msm, .ref mtb, .ref mti, .ref mfr, .ref mbn, .ref mbs, .ref mde, .int sF, .int sN, .int sS, .int igz_84, .long xaz_85, .long xbz_86, .ref maa, .ref mab, .ref mba, .ref mbb]))] := hD
            exact xretv C (⟨igz_84, xaz_85, xbz_86, (vp_updL (vp_updL aaf i 0) i xaz_62), (vp_updL (vp_updL abf i 1) i xbz_63), (vp_updL (vp_updL baf i 0) i xaz_85), (vp_updL (vp_updL bbf i 1) i xbz_86)⟩) (hI.elim (fun g => Or.inl ((fun h => hw_r_82.1 ((fun h => hw_r_77.1 ((fun h => hw_r_64.1 ((fun h => hw_r_59.1 ((fun h => hw_r_52.1 ((fun h => hw_r_47.1 ((fun h => h) h)) h)) h)) h)) h)) h)) g)) (fun z => Or.inr (fun j hj => by by_cases qj : j = i; (subst qj; exact ⟨by rw [updL_at]; exact hw_r_59.2, by rw [updL_at]; exact hw_r_82.2⟩); exact ⟨by simp only [updL_ne qj]; exact (z j (by omega)).1, by simp only [updL_ne qj]; exact (z j (by omega)).2⟩))) (xP_map hP [4, 0, 1, 2, 3] rfl) (hD.sub [4, 0, 1, 2, 3] (by decide +kernel) rfl) hS (Nat.le_of_ble_eq_true rfl) (Nat.le_of_ble_eq_true rfl) dX12_laysStep_238
        · -- 118 f
          exact xretv C (⟨igz_54, xaz_55, xbz_56, (vp_updL aaf i 0), (vp_updL abf i 1), (vp_updL baf i 0), (vp_updL bbf i 1)⟩) (hI.elim (fun g => Or.inl ((fun h => hw_r_52.1 ((fun h => hw_r_47.1 ((fun h => h) h)) h)) g)) (fun z => Or.inr (fun j hj => by by_cases qj : j = i; (subst qj; exact ⟨by rw [updL_at]; exact (by decide), by rw [updL_at]; exact (by decide)⟩); exact ⟨by simp only [updL_ne qj]; exact (z j (by omega)).1, by simp only [updL_ne qj]; exact (z j (by omega)).2⟩))) (xP_map hP [4, 0, 1, 2, 3] rfl) (hD.sub [4, 0, 1, 2, 3] (by decide +kernel) rfl) hS (Nat.le_of_ble_eq_true rfl) (Nat.le_of_ble_eq_true rfl) dX12_laysStep_121
    · -- 51 f
      exact xretv C (⟨ig, xa, xb, (vp_updL aaf i 0), (vp_updL abf i 1), (vp_updL baf i 0), (vp_updL bbf i 1)⟩) (hI.elim (fun g => Or.inl ((fun h => h) g)) (fun z => Or.inr (fun j hj => by by_cases qj : j = i; (subst qj; exact ⟨by rw [updL_at]; exact (by decide), by rw [updL_at]; exact (by decide)⟩); exact ⟨by simp only [updL_ne qj]; exact (z j (by omega)).1, by simp only [updL_ne qj]; exact (z j (by omega)).2⟩))) (xP_map hP [4, 0, 1, 2, 3] rfl) (hD.sub [4, 0, 1, 2, 3] (by decide +kernel) rfl) hS (Nat.le_of_ble_eq_true rfl) (Nat.le_of_ble_eq_true rfl) dX12_laysStep_54
