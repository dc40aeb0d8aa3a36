set_option maxHeartbeats 4000000 in
set_option maxRecDepth 100000 in
theorem c_X12_adds (l : Launch) (D : va_G) (cs : Nat → ClassId) (hm ms mkp mtr mas mso mon mot man mst msm mtb mti mfr mbn mbs mde maa mab mba mbb : Nat) (n k al be km en : Nat) (ea pr nq po th xd sF sN sS ig : Int32) (xa xb : Int64) (p9 q9 r9 t9 : Int64) (hq : gr ig ∨ (¬ q9 = 0 ∧ ¬ t9 = 0)) : xMet l D cs yX12_adds cX12_adds 9 none ({ frames := 1, cells := 0, slots := 0, locals := 30 } : Room) [.ref hm, .long p9, .long q9, .long r9, .long t9] [(hm, .inr (12, [.ref ms, .ref mkp, .int (nI km), .ref mtr, .int (nI n), .int (nI k), .int (nI al), .int (nI be), .int ea, .int pr, .ref mas, .int nq, .int po, .int (nI en), .ref mso, .ref mon, .ref mot, .ref man, .int th, .int xd, .ref mst, .ref msm, .ref mtb, .ref mti, .ref mfr, .ref mbn, .ref mbs, .ref mde, .int sF, .int sN, .int sS, .int ig, .long xa, .long xb, .ref maa, .ref mab, .ref mba, .ref mbb]))] (xQv D (fun (u : Int32 × Int64 × Int64) => match u with | (igz, xaz, xbz) => (gr ig → gr igz) ∧ ¬ xbz = 0) (fun (u : Int32 × Int64 × Int64) => match u with | (igz, xaz, xbz) => [(hm, .inr (12, [.ref ms, .ref mkp, .int (nI km), .ref mtr, .int (nI n), .int (nI k), .int (nI al), .int (nI be), .int ea, .int pr, .ref mas, .int nq, .int po, .int (nI en), .ref mso, .ref mon, .ref mot, .ref man, .int th, .int xd, .ref mst, .ref msm, .ref mtb, .ref mti, .ref mfr, .ref mbn, .ref mbs, .ref mde, .int sF, .int sN, .int sS, .int igz, .long xaz, .long xbz, .ref maa, .ref mab, .ref mba, .ref mbb]))])) := by
  refine xMet.intro (by decide) (Nat.le_of_ble_eq_true rfl) ?_
  intro p e s m args below meth c A ls C hP hD hS hl
  have hx := C.1
  have hb := C.2.1
  have hz := C.2.2.2.2.1
  have hown := C.2.2.2.1
  have hA := C.2.2.2.2.2.2.2.2.2
  have hAO := C.2.2.2.2.2.2.2.2.1.2.2
  replace hl : lv_has ls 9 [(0, .ref hm), (1, .long p9), (3, .long q9), (5, .long r9), (7, .long t9)] := hl
  obtain ⟨H, hH⟩ : ∃ H, H = s.heap := ⟨_, rfl⟩
  replace hP : va_P D vwCl [(hm, .inr (12, [.ref ms, .ref mkp, .int (nI km), .ref mtr, .int (nI n), .int (nI k), .int (nI al), .int (nI be), .int ea, .int pr, .ref mas, .int nq, .int po, .int (nI en), .ref mso, .ref mon, .ref mot, .ref man, .int th, .int xd, .ref mst, .ref msm, .ref mtb, .ref mti, .ref mfr, .ref mbn, .ref mbs, .ref mde, .int sF, .int sN, .int sS, .int ig, .long xa, .long xb, .ref maa, .ref mab, .ref mba, .ref mbb]))] H := by rw [hH]; exact hP
  replace hS : va_S A s.heap H [] := by rw [hH]; exact hS
  obtain ⟨locs, hlocs⟩ : ∃ z : List Loc, z = [] := ⟨_, rfl⟩
  rw [← hlocs] at hS
  suffices hW : W p l e ({ frames := 1, cells := 0, slots := 0, locals := 30 } : Room) s m args below meth c H locs 0 0 (MQ below ((xQv D (fun (u : Int32 × Int64 × Int64) => match u with | (igz, xaz, xbz) => (gr ig → gr igz) ∧ ¬ xbz = 0) (fun (u : Int32 × Int64 × Int64) => match u with | (igz, xaz, xbz) => [(hm, .inr (12, [.ref ms, .ref mkp, .int (nI km), .ref mtr, .int (nI n), .int (nI k), .int (nI al), .int (nI be), .int ea, .int pr, .ref mas, .int nq, .int po, .int (nI en), .ref mso, .ref mon, .ref mot, .ref man, .int th, .int xd, .ref mst, .ref msm, .ref mtb, .ref mti, .ref mfr, .ref mbn, .ref mbs, .ref mde, .int sF, .int sN, .int sS, .int igz, .long xaz, .long xbz, .ref maa, .ref mab, .ref mba, .ref mbb]))])) A) args s 0 0 A) (F0 m 0 ls []) by rw [hlocs, hH] at hW; exact hW
  clear hH hlocs
  refine lv_aload_n hx hb dX12_adds_0 rfl (lv_at hl 0 rfl) ?_
  refine lv_aload_n hx hb dX12_adds_1 rfl (lv_at hl 0 rfl) ?_
  refine lv_aload_n hx hb dX12_adds_2 rfl (lv_at hl 0 rfl) ?_
  refine lv_lload_n hx hb dX12_adds_3 rfl (lv_at hl 1 rfl) ?_
  refine lv_lload hx hb dX12_adds_4 (lv_at hl 4 rfl) ?_
  refine xl (wr := []) (xV (As := [.long p9, .long t9]) (rest := [.ref hm, .ref hm]) C (c_X12_times l D cs hm ms mkp mtr mas mso mon mot man mst msm mtb mti mfr mbn mbs mde maa mab mba mbb n k al be km en ea pr nq po th xd sF sN sS ig xa xb p9 t9) kX12_263 hP hD [0] rfl (by decide +kernel) 0 rfl rfl rfl ⟨Nat.le_of_ble_eq_true rfl, Nat.le_of_ble_eq_true rfl⟩ rfl hl.1 rfl (Nat.le_of_ble_eq_true rfl) dX12_adds_6 ⟨Nat.le_of_ble_eq_true rfl, Nat.le_of_ble_eq_true rfl⟩) hP hD hS hA [0] [] rfl rfl (by decide +kernel) (by decide +kernel) ?_
  clear hP hD hS
  try clear locs
  try clear H
  intro r_1 u_2 H locs hw_r_1 hP hD hS
  have hw_r_1 : (gr ig → gr u_2) ∧ (¬ p9 = 0 → ¬ t9 = 0 → gr u_2 ∨ ¬ r_1 = 0) := hw_r_1
  refine W.widen (k := 0) (n := 0) (Nat.le_of_ble_eq_true rfl) (Nat.le_of_ble_eq_true rfl) ?_
  replace hP : va_P D vwCl [(hm, .inr (12, [.ref ms, .ref mkp, .int (nI km), .ref mtr, .int (nI n), .int (nI k), .int (nI al), .int (nI be), .int ea, .int pr, .ref mas, .int nq, .int po, .int (nI en), .ref mso, .ref mon, .ref mot, .ref man, .int th, .int xd, .ref mst, .ref msm, .ref mtb, .ref mti, .ref mfr, .ref mbn, .ref mbs, .ref mde, .int sF, .int sN, .int sS, .int u_2, .long xa, .long xb, .ref maa, .ref mab, .ref mba, .ref mbb]))] H := hP
  replace hD : va_D A [(hm, .inr (12, [.ref ms, .ref mkp, .int (nI km), .ref mtr, .int (nI n), .int (nI k), .int (nI al), .int (nI be), .int ea, .int pr, .ref mas, .int nq, .int po, .int (nI en), .ref mso, .ref mon, .ref mot, .ref man, .int th, .int xd, .ref mst, .ref msm, .ref mtb, .ref mti, .ref mfr, .ref mbn, .ref mbs, .ref mde, .int sF, .int sN, .int sS, .int u_2, .long xa, .long xb, .ref maa, .ref mab, .ref mba, .ref mbb]))] := hD
  refine lv_aload_n hx hb dX12_adds_9 rfl (lv_at hl 0 rfl) ?_
  refine lv_lload hx hb dX12_adds_10 (lv_at hl 3 rfl) ?_
  refine lv_lload_n hx hb dX12_adds_12 rfl (lv_at hl 2 rfl) ?_
  refine xl (wr := []) (xV (As := [.long r9, .long q9]) (rest := [.long r_1, .ref hm, .ref hm]) C (c_X12_times l D cs hm ms mkp mtr mas mso mon mot man mst msm mtb mti mfr mbn mbs mde maa mab mba mbb n k al be km en ea pr nq po th xd sF sN sS u_2 xa xb r9 q9) kX12_263 hP hD [0] rfl (by decide +kernel) 0 rfl rfl rfl ⟨Nat.le_of_ble_eq_true rfl, Nat.le_of_ble_eq_true rfl⟩ rfl hl.1 rfl (Nat.le_of_ble_eq_true rfl) dX12_adds_13 ⟨Nat.le_of_ble_eq_true rfl, Nat.le_of_ble_eq_true rfl⟩) hP hD hS hA [0] [] rfl rfl (by decide +kernel) (by decide +kernel) ?_
  clear hP hD hS
  try clear locs
  try clear H
  intro r_3 u_4 H locs hw_r_3 hP hD hS
  have hw_r_3 : (gr u_2 → gr u_4) ∧ (¬ r9 = 0 → ¬ q9 = 0 → gr u_4 ∨ ¬ r_3 = 0) := hw_r_3
  refine W.widen (k := 0) (n := 0) (Nat.le_of_ble_eq_true rfl) (Nat.le_of_ble_eq_true rfl) ?_
  replace hP : va_P D vwCl [(hm, .inr (12, [.ref ms, .ref mkp, .int (nI km), .ref mtr, .int (nI n), .int (nI k), .int (nI al), .int (nI be), .int ea, .int pr, .ref mas, .int nq, .int po, .int (nI en), .ref mso, .ref mon, .ref mot, .ref man, .int th, .int xd, .ref mst, .ref msm, .ref mtb, .ref mti, .ref mfr, .ref mbn, .ref mbs, .ref mde, .int sF, .int sN, .int sS, .int u_4, .long xa, .long xb, .ref maa, .ref mab, .ref mba, .ref mbb]))] H := hP
  replace hD : va_D A [(hm, .inr (12, [.ref ms, .ref mkp, .int (nI km), .ref mtr, .int (nI n), .int (nI k), .int (nI al), .int (nI be), .int ea, .int pr, .ref mas, .int nq, .int po, .int (nI en), .ref mso, .ref mon, .ref mot, .ref man, .int th, .int xd, .ref mst, .ref msm, .ref mtb, .ref mti, .ref mfr, .ref mbn, .ref mbs, .ref mde, .int sF, .int sN, .int sS, .int u_4, .long xa, .long xb, .ref maa, .ref mab, .ref mba, .ref mbb]))] := hD
  refine xl (wr := []) (xV (As := [.long r_1, .long r_3]) (rest := [.ref hm]) C (c_X12_plus l D cs hm ms mkp mtr mas mso mon mot man mst msm mtb mti mfr mbn mbs mde maa mab mba mbb n k al be km en ea pr nq po th xd sF sN sS u_4 xa xb r_1 r_3) kX12_266 hP hD [0] rfl (by decide +kernel) 0 rfl rfl rfl ⟨Nat.le_of_ble_eq_true rfl, Nat.le_of_ble_eq_true rfl⟩ rfl hl.1 rfl (Nat.le_of_ble_eq_true rfl) dX12_adds_16 ⟨Nat.le_of_ble_eq_true rfl, Nat.le_of_ble_eq_true rfl⟩) hP hD hS hA [0] [] rfl rfl (by decide +kernel) (by decide +kernel) ?_
  clear hP hD hS
  try clear locs
  try clear H
  intro r_5 u_6 H locs hw_r_5 hP hD hS
  have hw_r_5 : gr u_4 → gr u_6 := hw_r_5
  refine W.widen (k := 0) (n := 0) (Nat.le_of_ble_eq_true rfl) (Nat.le_of_ble_eq_true rfl) ?_
  replace hP : va_P D vwCl [(hm, .inr (12, [.ref ms, .ref mkp, .int (nI km), .ref mtr, .int (nI n), .int (nI k), .int (nI al), .int (nI be), .int ea, .int pr, .ref mas, .int nq, .int po, .int (nI en), .ref mso, .ref mon, .ref mot, .ref man, .int th, .int xd, .ref mst, .ref msm, .ref mtb, .ref mti, .ref mfr, .ref mbn, .ref mbs, .ref mde, .int sF, .int sN, .int sS, .int u_6, .long xa, .long xb, .ref maa, .ref mab, .ref mba, .ref mbb]))] H := hP
  replace hD : va_D A [(hm, .inr (12, [.ref ms, .ref mkp, .int (nI km), .ref mtr, .int (nI n), .int (nI k), .int (nI al), .int (nI be), .int ea, .int pr, .ref mas, .int nq, .int po, .int (nI en), .ref mso, .ref mon, .ref mot, .ref man, .int th, .int xd, .ref mst, .ref msm, .ref mtb, .ref mti, .ref mfr, .ref mbn, .ref mbs, .ref mde, .int sF, .int sN, .int sS, .int u_6, .long xa, .long xb, .ref maa, .ref mab, .ref mba, .ref mbb]))] := hD
  refine lv_aload_n hx hb dX12_adds_19 rfl (lv_at hl 0 rfl) ?_
  refine lv_lload_n hx hb dX12_adds_20 rfl (lv_at hl 2 rfl) ?_
  refine lv_lload hx hb dX12_adds_21 (lv_at hl 4 rfl) ?_
  refine xl (wr := []) (xV (As := [.long q9, .long t9]) (rest := [.long r_5, .ref hm]) C (c_X12_times l D cs hm ms mkp mtr mas mso mon mot man mst msm mtb mti mfr mbn mbs mde maa mab mba mbb n k al be km en ea pr nq po th xd sF sN sS u_6 xa xb q9 t9) kX12_263 hP hD [0] rfl (by decide +kernel) 0 rfl rfl rfl ⟨Nat.le_of_ble_eq_true rfl, Nat.le_of_ble_eq_true rfl⟩ rfl hl.1 rfl (Nat.le_of_ble_eq_true rfl) dX12_adds_23 ⟨Nat.le_of_ble_eq_true rfl, Nat.le_of_ble_eq_true rfl⟩) hP hD hS hA [0] [] rfl rfl (by decide +kernel) (by decide +kernel) ?_
  clear hP hD hS
  try clear locs
  try clear H
  intro r_7 u_8 H locs hw_r_7 hP hD hS
  have hw_r_7 : (gr u_6 → gr u_8) ∧ (¬ q9 = 0 → ¬ t9 = 0 → gr u_8 ∨ ¬ r_7 = 0) := hw_r_7
  refine W.widen (k := 0) (n := 0) (Nat.le_of_ble_eq_true rfl) (Nat.le_of_ble_eq_true rfl) ?_
  replace hP : va_P D vwCl [(hm, .inr (12, [.ref ms, .ref mkp, .int (nI km), .ref mtr, .int (nI n), .int (nI k), .int (nI al), .int (nI be), .int ea, .int pr, .ref mas, .int nq, .int po, .int (nI en), .ref mso, .ref mon, .ref mot, .ref man, .int th, .int xd, .ref mst, .ref msm, .ref mtb, .ref mti, .ref mfr, .ref mbn, .ref mbs, .ref mde, .int sF, .int sN, .int sS, .int u_8, .long xa, .long xb, .ref maa, .ref mab, .ref mba, .ref mbb]))] H := hP
  replace hD : va_D A [(hm, .inr (12, [.ref ms, .ref mkp, .int (nI km), .ref mtr, .int (nI n), .int (nI k), .int (nI al), .int (nI be), .int ea, .int pr, .ref mas, .int nq, .int po, .int (nI en), .ref mso, .ref mon, .ref mot, .ref man, .int th, .int xd, .ref mst, .ref msm, .ref mtb, .ref mti, .ref mfr, .ref mbn, .ref mbs, .ref mde, .int sF, .int sN, .int sS, .int u_8, .long xa, .long xb, .ref maa, .ref mab, .ref mba, .ref mbb]))] := hD
  refine xv (wr := []) (xV (As := [.long r_5, .long r_7]) (rest := []) C (c_X12_settles l D cs hm ms mkp mtr mas mso mon mot man mst msm mtb mti mfr mbn mbs mde maa mab mba mbb n k al be km en ea pr nq po th xd sF sN sS u_8 xa xb r_5 r_7 (hq.elim (fun g => Or.inl ((fun h => hw_r_7.1 ((fun h => hw_r_5 ((fun h => hw_r_3.1 ((fun h => hw_r_1.1 ((fun h => h) h)) h)) h)) h)) g)) (fun z => hw_r_7.2 z.1 z.2))) kX12_269 hP hD [0] rfl (by decide +kernel) 0 rfl rfl rfl ⟨Nat.le_of_ble_eq_true rfl, Nat.le_of_ble_eq_true rfl⟩ rfl hl.1 rfl (Nat.le_of_ble_eq_true rfl) dX12_adds_26 ⟨Nat.le_of_ble_eq_true rfl, Nat.le_of_ble_eq_true rfl⟩) hP hD hS hA [0] [] rfl rfl (by decide +kernel) (by decide +kernel) ?_
  clear hP hD hS
  try clear locs
  try clear H
  intro u_10 H locs hw_r_9 hP hD hS
  obtain ⟨xaz_11, xbz_12⟩ := u_10
  have hw_r_9 : ¬ xbz_12 = 0 := hw_r_9
  refine W.widen (k := 0) (n := 0) (Nat.le_of_ble_eq_true rfl) (Nat.le_of_ble_eq_true rfl) ?_
  replace hP : va_P D vwCl [(hm, .inr (12, [.ref ms, .ref mkp, .int (nI km), .ref mtr, .int (nI n), .int (nI k), .int (nI al), .int (nI be), .int ea, .int pr, .ref mas, .int nq, .int po, .int (nI en), .ref mso, .ref mon, .ref mot, .ref man, .int th, .int xd, .ref mst, .ref msm, .ref mtb, .ref mti, .ref mfr, .ref mbn, .ref mbs, .ref mde, .int sF, .int sN, .int sS, .int u_8, .long xaz_11, .long xbz_12, .ref maa, .ref mab, .ref mba, .ref mbb]))] H := hP
  replace hD : va_D A [(hm, .inr (12, [.ref ms, .ref mkp, .int (nI km), .ref mtr, .int (nI n), .int (nI k), .int (nI al), .int (nI be), .int ea, .int pr, .ref mas, .int nq, .int po, .int (nI en), .ref mso, .ref mon, .ref mot, .ref man, .int th, .int xd, .ref mst, .ref msm, .ref mtb, .ref mti, .ref mfr, .ref mbn, .ref mbs, .ref mde, .int sF, .int sN, .int sS, .int u_8, .long xaz_11, .long xbz_12, .ref maa, .ref mab, .ref mba, .ref mbb]))] := hD
  exact xretv C (⟨u_8, xaz_11, xbz_12⟩) (⟨(fun h => hw_r_7.1 ((fun h => hw_r_5 ((fun h => hw_r_3.1 ((fun h => hw_r_1.1 ((fun h => h) h)) h)) h)) h)), hw_r_9⟩) hP hD hS (Nat.le_of_ble_eq_true rfl) (Nat.le_of_ble_eq_true rfl) dX12_adds_29

set_option maxHeartbeats 4000000 in
set_option maxRecDepth 100000 in
theorem c_X12_lessens (l : Launch) (D : va_G) (cs : Nat → ClassId) (hm ms mkp mtr mas mso mon mot man mst msm mtb mti mfr mbn mbs mde maa mab mba mbb : Nat) (n k al be km en : Nat) (ea pr nq po th xd sF sN sS ig : Int32) (xa xb : Int64) (p9 q9 r9 t9 : Int64) (hq : gr ig ∨ (¬ q9 = 0 ∧ ¬ t9 = 0)) : xMet l D cs yX12_lessens cX12_lessens 9 none ({ frames := 1, cells := 0, slots := 0, locals := 30 } : Room) [.ref hm, .long p9, .long q9, .long r9, .long t9] [(hm, .inr (12, [.ref ms, .ref mkp, .int (nI km), .ref mtr, .int (nI n), .int (nI k), .int (nI al), .int (nI be), .int ea, .int pr, .ref mas, .int nq, .int po, .int (nI en), .ref mso, .ref mon, .ref mot, .ref man, .int th, .int xd, .ref mst, .ref msm, .ref mtb, .ref mti, .ref mfr, .ref mbn, .ref mbs, .ref mde, .int sF, .int sN, .int sS, .int ig, .long xa, .long xb, .ref maa, .ref mab, .ref mba, .ref mbb]))] (xQv D (fun (u : Int32 × Int64 × Int64) => match u with | (igz, xaz, xbz) => (gr ig → gr igz) ∧ ¬ xbz = 0) (fun (u : Int32 × Int64 × Int64) => match u with | (igz, xaz, xbz) => [(hm, .inr (12, [.ref ms, .ref mkp, .int (nI km), .ref mtr, .int (nI n), .int (nI k), .int (nI al), .int (nI be), .int ea, .int pr, .ref mas, .int nq, .int po, .int (nI en), .ref mso, .ref mon, .ref mot, .ref man, .int th, .int xd, .ref mst, .ref msm, .ref mtb, .ref mti, .ref mfr, .ref mbn, .ref mbs, .ref mde, .int sF, .int sN, .int sS, .int igz, .long xaz, .long xbz, .ref maa, .ref mab, .ref mba, .ref mbb]))])) := by
  refine xMet.intro (by decide) (Nat.le_of_ble_eq_true rfl) ?_
  intro p e s m args below meth c A ls C hP hD hS hl
  have hx := C.1
  have hb := C.2.1
  have hz := C.2.2.2.2.1
  have hown := C.2.2.2.1
  have hA := C.2.2.2.2.2.2.2.2.2
  have hAO := C.2.2.2.2.2.2.2.2.1.2.2
  replace hl : lv_has ls 9 [(0, .ref hm), (1, .long p9), (3, .long q9), (5, .long r9), (7, .long t9)] := hl
  obtain ⟨H, hH⟩ : ∃ H, H = s.heap := ⟨_, rfl⟩
  replace hP : va_P D vwCl [(hm, .inr (12, [.ref ms, .ref mkp, .int (nI km), .ref mtr, .int (nI n), .int (nI k), .int (nI al), .int (nI be), .int ea, .int pr, .ref mas, .int nq, .int po, .int (nI en), .ref mso, .ref mon, .ref mot, .ref man, .int th, .int xd, .ref mst, .ref msm, .ref mtb, .ref mti, .ref mfr, .ref mbn, .ref mbs, .ref mde, .int sF, .int sN, .int sS, .int ig, .long xa, .long xb, .ref maa, .ref mab, .ref mba, .ref mbb]))] H := by rw [hH]; exact hP
  replace hS : va_S A s.heap H [] := by rw [hH]; exact hS
  obtain ⟨locs, hlocs⟩ : ∃ z : List Loc, z = [] := ⟨_, rfl⟩
  rw [← hlocs] at hS
  suffices hW : W p l e ({ frames := 1, cells := 0, slots := 0, locals := 30 } : Room) s m args below meth c H locs 0 0 (MQ below ((xQv D (fun (u : Int32 × Int64 × Int64) => match u with | (igz, xaz, xbz) => (gr ig → gr igz) ∧ ¬ xbz = 0) (fun (u : Int32 × Int64 × Int64) => match u with | (igz, xaz, xbz) => [(hm, .inr (12, [.ref ms, .ref mkp, .int (nI km), .ref mtr, .int (nI n), .int (nI k), .int (nI al), .int (nI be), .int ea, .int pr, .ref mas, .int nq, .int po, .int (nI en), .ref mso, .ref mon, .ref mot, .ref man, .int th, .int xd, .ref mst, .ref msm, .ref mtb, .ref mti, .ref mfr, .ref mbn, .ref mbs, .ref mde, .int sF, .int sN, .int sS, .int igz, .long xaz, .long xbz, .ref maa, .ref mab, .ref mba, .ref mbb]))])) A) args s 0 0 A) (F0 m 0 ls []) by rw [hlocs, hH] at hW; exact hW
  clear hH hlocs
  refine lv_aload_n hx hb dX12_lessens_0 rfl (lv_at hl 0 rfl) ?_
  refine lv_aload_n hx hb dX12_lessens_1 rfl (lv_at hl 0 rfl) ?_
  refine lv_aload_n hx hb dX12_lessens_2 rfl (lv_at hl 0 rfl) ?_
  refine lv_lload_n hx hb dX12_lessens_3 rfl (lv_at hl 1 rfl) ?_
  refine lv_lload hx hb dX12_lessens_4 (lv_at hl 4 rfl) ?_
  refine xl (wr := []) (xV (As := [.long p9, .long t9]) (rest := [.ref hm, .ref hm]) C (c_X12_times l D cs hm ms mkp mtr mas mso mon mot man mst msm mtb mti mfr mbn mbs mde maa mab mba mbb n k al be km en ea pr nq po th xd sF sN sS ig xa xb p9 t9) kX12_263 hP hD [0] rfl (by decide +kernel) 0 rfl rfl rfl ⟨Nat.le_of_ble_eq_true rfl, Nat.le_of_ble_eq_true rfl⟩ rfl hl.1 rfl (Nat.le_of_ble_eq_true rfl) dX12_lessens_6 ⟨Nat.le_of_ble_eq_true rfl, Nat.le_of_ble_eq_true rfl⟩) hP hD hS hA [0] [] rfl rfl (by decide +kernel) (by decide +kernel) ?_
  clear hP hD hS
  try clear locs
  try clear H
  intro r_1 u_2 H locs hw_r_1 hP hD hS
  have hw_r_1 : (gr ig → gr u_2) ∧ (¬ p9 = 0 → ¬ t9 = 0 → gr u_2 ∨ ¬ r_1 = 0) := hw_r_1
  refine W.widen (k := 0) (n := 0) (Nat.le_of_ble_eq_true rfl) (Nat.le_of_ble_eq_true rfl) ?_
  replace hP : va_P D vwCl [(hm, .inr (12, [.ref ms, .ref mkp, .int (nI km), .ref mtr, .int (nI n), .int (nI k), .int (nI al), .int (nI be), .int ea, .int pr, .ref mas, .int nq, .int po, .int (nI en), .ref mso, .ref mon, .ref mot, .ref man, .int th, .int xd, .ref mst, .ref msm, .ref mtb, .ref mti, .ref mfr, .ref mbn, .ref mbs, .ref mde, .int sF, .int sN, .int sS, .int u_2, .long xa, .long xb, .ref maa, .ref mab, .ref mba, .ref mbb]))] H := hP
  replace hD : va_D A [(hm, .inr (12, [.ref ms, .ref mkp, .int (nI km), .ref mtr, .int (nI n), .int (nI k), .int (nI al), .int (nI be), .int ea, .int pr, .ref mas, .int nq, .int po, .int (nI en), .ref mso, .ref mon, .ref mot, .ref man, .int th, .int xd, .ref mst, .ref msm, .ref mtb, .ref mti, .ref mfr, .ref mbn, .ref mbs, .ref mde, .int sF, .int sN, .int sS, .int u_2, .long xa, .long xb, .ref maa, .ref mab, .ref mba, .ref mbb]))] := hD
  refine lv_aload_n hx hb dX12_lessens_9 rfl (lv_at hl 0 rfl) ?_
  refine lv_lload hx hb dX12_lessens_10 (lv_at hl 3 rfl) ?_
  refine lv_lload_n hx hb dX12_lessens_12 rfl (lv_at hl 2 rfl) ?_
  refine xl (wr := []) (xV (As := [.long r9, .long q9]) (rest := [.long r_1, .ref hm, .ref hm]) C (c_X12_times l D cs hm ms mkp mtr mas mso mon mot man mst msm mtb mti mfr mbn mbs mde maa mab mba mbb n k al be km en ea pr nq po th xd sF sN sS u_2 xa xb r9 q9) kX12_263 hP hD [0] rfl (by decide +kernel) 0 rfl rfl rfl ⟨Nat.le_of_ble_eq_true rfl, Nat.le_of_ble_eq_true rfl⟩ rfl hl.1 rfl (Nat.le_of_ble_eq_true rfl) dX12_lessens_13 ⟨Nat.le_of_ble_eq_true rfl, Nat.le_of_ble_eq_true rfl⟩) hP hD hS hA [0] [] rfl rfl (by decide +kernel) (by decide +kernel) ?_
  clear hP hD hS
  try clear locs
  try clear H
  intro r_3 u_4 H locs hw_r_3 hP hD hS
  have hw_r_3 : (gr u_2 → gr u_4) ∧ (¬ r9 = 0 → ¬ q9 = 0 → gr u_4 ∨ ¬ r_3 = 0) := hw_r_3
  refine W.widen (k := 0) (n := 0) (Nat.le_of_ble_eq_true rfl) (Nat.le_of_ble_eq_true rfl) ?_
  replace hP : va_P D vwCl [(hm, .inr (12, [.ref ms, .ref mkp, .int (nI km), .ref mtr, .int (nI n), .int (nI k), .int (nI al), .int (nI be), .int ea, .int pr, .ref mas, .int nq, .int po, .int (nI en), .ref mso, .ref mon, .ref mot, .ref man, .int th, .int xd, .ref mst, .ref msm, .ref mtb, .ref mti, .ref mfr, .ref mbn, .ref mbs, .ref mde, .int sF, .int sN, .int sS, .int u_4, .long xa, .long xb, .ref maa, .ref mab, .ref mba, .ref mbb]))] H := hP
  replace hD : va_D A [(hm, .inr (12, [.ref ms, .ref mkp, .int (nI km), .ref mtr, .int (nI n), .int (nI k), .int (nI al), .int (nI be), .int ea, .int pr, .ref mas, .int nq, .int po, .int (nI en), .ref mso, .ref mon, .ref mot, .ref man, .int th, .int xd, .ref mst, .ref msm, .ref mtb, .ref mti, .ref mfr, .ref mbn, .ref mbs, .ref mde, .int sF, .int sN, .int sS, .int u_4, .long xa, .long xb, .ref maa, .ref mab, .ref mba, .ref mbb]))] := hD
  refine lv_lneg hx hb dX12_lessens_16 ?_
  refine xl (wr := []) (xV (As := [.long r_1, .long (-r_3)]) (rest := [.ref hm]) C (c_X12_plus l D cs hm ms mkp mtr mas mso mon mot man mst msm mtb mti mfr mbn mbs mde maa mab mba mbb n k al be km en ea pr nq po th xd sF sN sS u_4 xa xb r_1 (-r_3)) kX12_266 hP hD [0] rfl (by decide +kernel) 0 rfl rfl rfl ⟨Nat.le_of_ble_eq_true rfl, Nat.le_of_ble_eq_true rfl⟩ rfl hl.1 rfl (Nat.le_of_ble_eq_true rfl) dX12_lessens_17 ⟨Nat.le_of_ble_eq_true rfl, Nat.le_of_ble_eq_true rfl⟩) hP hD hS hA [0] [] rfl rfl (by decide +kernel) (by decide +kernel) ?_
  clear hP hD hS
  try clear locs
  try clear H
  intro r_5 u_6 H locs hw_r_5 hP hD hS
  have hw_r_5 : gr u_4 → gr u_6 := hw_r_5
  refine W.widen (k := 0) (n := 0) (Nat.le_of_ble_eq_true rfl) (Nat.le_of_ble_eq_true rfl) ?_
  replace hP : va_P D vwCl [(hm, .inr (12, [.ref ms, .ref mkp, .int (nI km), .ref mtr, .int (nI n), .int (nI k), .int (nI al), .int (nI be), .int ea, .int pr, .ref mas, .int nq, .int po, .int (nI en), .ref mso, .ref mon, .ref mot, .ref man, .int th, .int xd, .ref mst, .ref msm, .ref mtb, .ref mti, .ref mfr, .ref mbn, .ref mbs, .ref mde, .int sF, .int sN, .int sS, .int u_6, .long xa, .long xb, .ref maa, .ref mab, .ref mba, .ref mbb]))] H := hP
  replace hD : va_D A [(hm, .inr (12, [.ref ms, .ref mkp, .int (nI km), .ref mtr, .int (nI n), .int (nI k), .int (nI al), .int (nI be), .int ea, .int pr, .ref mas, .int nq, .int po, .int (nI en), .ref mso, .ref mon, .ref mot, .ref man, .int th, .int xd, .ref mst, .ref msm, .ref mtb, .ref mti, .ref mfr, .ref mbn, .ref mbs, .ref mde, .int sF, .int sN, .int sS, .int u_6, .long xa, .long xb, .ref maa, .ref mab, .ref mba, .ref mbb]))] := hD
  refine lv_aload_n hx hb dX12_lessens_20 rfl (lv_at hl 0 rfl) ?_
  refine lv_lload_n hx hb dX12_lessens_21 rfl (lv_at hl 2 rfl) ?_
  refine lv_lload hx hb dX12_lessens_22 (lv_at hl 4 rfl) ?_
  refine xl (wr := []) (xV (As := [.long q9, .long t9]) (rest := [.long r_5, .ref hm]) C (c_X12_times l D cs hm ms mkp mtr mas mso mon mot man mst msm mtb mti mfr mbn mbs mde maa mab mba mbb n k al be km en ea pr nq po th xd sF sN sS u_6 xa xb q9 t9) kX12_263 hP hD [0] rfl (by decide +kernel) 0 rfl rfl rfl ⟨Nat.le_of_ble_eq_true rfl, Nat.le_of_ble_eq_true rfl⟩ rfl hl.1 rfl (Nat.le_of_ble_eq_true rfl) dX12_lessens_24 ⟨Nat.le_of_ble_eq_true rfl, Nat.le_of_ble_eq_true rfl⟩) hP hD hS hA [0] [] rfl rfl (by decide +kernel) (by decide +kernel) ?_
  clear hP hD hS
  try clear locs
  try clear H
  intro r_7 u_8 H locs hw_r_7 hP hD hS
  have hw_r_7 : (gr u_6 → gr u_8) ∧ (¬ q9 = 0 → ¬ t9 = 0 → gr u_8 ∨ ¬ r_7 = 0) := hw_r_7
  refine W.widen (k := 0) (n := 0) (Nat.le_of_ble_eq_true rfl) (Nat.le_of_ble_eq_true rfl) ?_
  replace hP : va_P D vwCl [(hm, .inr (12, [.ref ms, .ref mkp, .int (nI km), .ref mtr, .int (nI n), .int (nI k), .int (nI al), .int (nI be), .int ea, .int pr, .ref mas, .int nq, .int po, .int (nI en), .ref mso, .ref mon, .ref mot, .ref man, .int th, .int xd, .ref mst, .ref msm, .ref mtb, .ref mti, .ref mfr, .ref mbn, .ref mbs, .ref mde, .int sF, .int sN, .int sS, .int u_8, .long xa, .long xb, .ref maa, .ref mab, .ref mba, .ref mbb]))] H := hP
  replace hD : va_D A [(hm, .inr (12, [.ref ms, .ref mkp, .int (nI km), .ref mtr, .int (nI n), .int (nI k), .int (nI al), .int (nI be), .int ea, .int pr, .ref mas, .int nq, .int po, .int (nI en), .ref mso, .ref mon, .ref mot, .ref man, .int th, .int xd, .ref mst, .ref msm, .ref mtb, .ref mti, .ref mfr, .ref mbn, .ref mbs, .ref mde, .int sF, .int sN, .int sS, .int u_8, .long xa, .long xb, .ref maa, .ref mab, .ref mba, .ref mbb]))] := hD
  refine xv (wr := []) (xV (As := [.long r_5, .long r_7]) (rest := []) C (c_X12_settles l D cs hm ms mkp mtr mas mso mon mot man mst msm mtb mti mfr mbn mbs mde maa mab mba mbb n k al be km en ea pr nq po th xd sF sN sS u_8 xa xb r_5 r_7 (hq.elim (fun g => Or.inl ((fun h => hw_r_7.1 ((fun h => hw_r_5 ((fun h => hw_r_3.1 ((fun h => hw_r_1.1 ((fun h => h) h)) h)) h)) h)) g)) (fun z => hw_r_7.2 z.1 z.2))) kX12_269 hP hD [0] rfl (by decide +kernel) 0 rfl rfl rfl ⟨Nat.le_of_ble_eq_true rfl, Nat.le_of_ble_eq_true rfl⟩ rfl hl.1 rfl (Nat.le_of_ble_eq_true rfl) dX12_lessens_27 ⟨Nat.le_of_ble_eq_true rfl, Nat.le_of_ble_eq_true rfl⟩) hP hD hS hA [0] [] rfl rfl (by decide +kernel) (by decide +kernel) ?_
  clear hP hD hS
  try clear locs
  try clear H
  intro u_10 H locs hw_r_9 hP hD hS
  obtain ⟨xaz_11, xbz_12⟩ := u_10
  have hw_r_9 : ¬ xbz_12 = 0 := hw_r_9
  refine W.widen (k := 0) (n := 0) (Nat.le_of_ble_eq_true rfl) (Nat.le_of_ble_eq_true rfl) ?_
  replace hP : va_P D vwCl [(hm, .inr (12, [.ref ms, .ref mkp, .int (nI km), .ref mtr, .int (nI n), .int (nI k), .int (nI al), .int (nI be), .int ea, .int pr, .ref mas, .int nq, .int po, .int (nI en), .ref mso, .ref mon, .ref mot, .ref man, .int th, .int xd, .ref mst, .ref msm, .ref mtb, .ref mti, .ref mfr, .ref mbn, .ref mbs, .ref mde, .int sF, .int sN, .int sS, .int u_8, .long xaz_11, .long xbz_12, .ref maa, .ref mab, .ref mba, .ref mbb]))] H := hP
  replace hD : va_D A [(hm, .inr (12, [.ref ms, .ref mkp, .int (nI km), .ref mtr, .int (nI n), .int (nI k), .int (nI al), .int (nI be), .int ea, .int pr, .ref mas, .int nq, .int po, .int (nI en), .ref mso, .ref mon, .ref mot, .ref man, .int th, .int xd, .ref mst, .ref msm, .ref mtb, .ref mti, .ref mfr, .ref mbn, .ref mbs, .ref mde, .int sF, .int sN, .int sS, .int u_8, .long xaz_11, .long xbz_12, .ref maa, .ref mab, .ref mba, .ref mbb]))] := hD
  exact xretv C (⟨u_8, xaz_11, xbz_12⟩) (⟨(fun h => hw_r_7.1 ((fun h => hw_r_5 ((fun h => hw_r_3.1 ((fun h => hw_r_1.1 ((fun h => h) h)) h)) h)) h)), hw_r_9⟩) hP hD hS (Nat.le_of_ble_eq_true rfl) (Nat.le_of_ble_eq_true rfl) dX12_lessens_30

set_option maxHeartbeats 4000000 in
set_option maxRecDepth 100000 in
theorem c_X12_multiplies (l : Launch) (D : va_G) (cs : Nat → ClassId) (hm ms mkp mtr mas mso mon mot man mst msm mtb mti mfr mbn mbs mde maa mab mba mbb : Nat) (n k al be km en : Nat) (ea pr nq po th xd sF sN sS ig : Int32) (xa xb : Int64) (p9 q9 r9 t9 : Int64) (hq : gr ig ∨ (¬ q9 = 0 ∧ ¬ t9 = 0)) : xMet l D cs yX12_multiplies cX12_multiplies 9 none ({ frames := 1, cells := 0, slots := 0, locals := 30 } : Room) [.ref hm, .long p9, .long q9, .long r9, .long t9] [(hm, .inr (12, [.ref ms, .ref mkp, .int (nI km), .ref mtr, .int (nI n), .int (nI k), .int (nI al), .int (nI be), .int ea, .int pr, .ref mas, .int nq, .int po, .int (nI en), .ref mso, .ref mon, .ref mot, .ref man, .int th, .int xd, .ref mst, .ref msm, .ref mtb, .ref mti, .ref mfr, .ref mbn, .ref mbs, .ref mde, .int sF, .int sN, .int sS, .int ig, .long xa, .long xb, .ref maa, .ref mab, .ref mba, .ref mbb]))] (xQv D (fun (u : Int32 × Int64 × Int64) => match u with | (igz, xaz, xbz) => (gr ig → gr igz) ∧ ¬ xbz = 0) (fun (u : Int32 × Int64 × Int64) => match u with | (igz, xaz, xbz) => [(hm, .inr (12, [.ref ms, .ref mkp, .int (nI km), .ref mtr, .int (nI n), .int (nI k), .int (nI al), .int (nI be), .int ea, .int pr, .ref mas, .int nq, .int po, .int (nI en), .ref mso, .ref mon, .ref mot, .ref man, .int th, .int xd, .ref mst, .ref msm, .ref mtb, .ref mti, .ref mfr, .ref mbn, .ref mbs, .ref mde, .int sF, .int sN, .int sS, .int igz, .long xaz, .long xbz, .ref maa, .ref mab, .ref mba, .ref mbb]))])) := by
  refine xMet.intro (by decide) (Nat.le_of_ble_eq_true rfl) ?_
  intro p e s m args below meth c A ls C hP hD hS hl
  have hx := C.1
  have hb := C.2.1
  have hz := C.2.2.2.2.1
  have hown := C.2.2.2.1
  have hA := C.2.2.2.2.2.2.2.2.2
  have hAO := C.2.2.2.2.2.2.2.2.1.2.2
  replace hl : lv_has ls 9 [(0, .ref hm), (1, .long p9), (3, .long q9), (5, .long r9), (7, .long t9)] := hl
  obtain ⟨H, hH⟩ : ∃ H, H = s.heap := ⟨_, rfl⟩
  replace hP : va_P D vwCl [(hm, .inr (12, [.ref ms, .ref mkp, .int (nI km), .ref mtr, .int (nI n), .int (nI k), .int (nI al), .int (nI be), .int ea, .int pr, .ref mas, .int nq, .int po, .int (nI en), .ref mso, .ref mon, .ref mot, .ref man, .int th, .int xd, .ref mst, .ref msm, .ref mtb, .ref mti, .ref mfr, .ref mbn, .ref mbs, .ref mde, .int sF, .int sN, .int sS, .int ig, .long xa, .long xb, .ref maa, .ref mab, .ref mba, .ref mbb]))] H := by rw [hH]; exact hP
  replace hS : va_S A s.heap H [] := by rw [hH]; exact hS
  obtain ⟨locs, hlocs⟩ : ∃ z : List Loc, z = [] := ⟨_, rfl⟩
  rw [← hlocs] at hS
  suffices hW : W p l e ({ frames := 1, cells := 0, slots := 0, locals := 30 } : Room) s m args below meth c H locs 0 0 (MQ below ((xQv D (fun (u : Int32 × Int64 × Int64) => match u with | (igz, xaz, xbz) => (gr ig → gr igz) ∧ ¬ xbz = 0) (fun (u : Int32 × Int64 × Int64) => match u with | (igz, xaz, xbz) => [(hm, .inr (12, [.ref ms, .ref mkp, .int (nI km), .ref mtr, .int (nI n), .int (nI k), .int (nI al), .int (nI be), .int ea, .int pr, .ref mas, .int nq, .int po, .int (nI en), .ref mso, .ref mon, .ref mot, .ref man, .int th, .int xd, .ref mst, .ref msm, .ref mtb, .ref mti, .ref mfr, .ref mbn, .ref mbs, .ref mde, .int sF, .int sN, .int sS, .int igz, .long xaz, .long xbz, .ref maa, .ref mab, .ref mba, .ref mbb]))])) A) args s 0 0 A) (F0 m 0 ls []) by rw [hlocs, hH] at hW; exact hW
  clear hH hlocs
  refine lv_aload_n hx hb dX12_multiplies_0 rfl (lv_at hl 0 rfl) ?_
  refine lv_aload_n hx hb dX12_multiplies_1 rfl (lv_at hl 0 rfl) ?_
  refine lv_lload_n hx hb dX12_multiplies_2 rfl (lv_at hl 1 rfl) ?_
  refine lv_lload hx hb dX12_multiplies_3 (lv_at hl 3 rfl) ?_
  refine xl (wr := []) (xV (As := [.long p9, .long r9]) (rest := [.ref hm]) C (c_X12_times l D cs hm ms mkp mtr mas mso mon mot man mst msm mtb mti mfr mbn mbs mde maa mab mba mbb n k al be km en ea pr nq po th xd sF sN sS ig xa xb p9 r9) kX12_263 hP hD [0] rfl (by decide +kernel) 0 rfl rfl rfl ⟨Nat.le_of_ble_eq_true rfl, Nat.le_of_ble_eq_true rfl⟩ rfl hl.1 rfl (Nat.le_of_ble_eq_true rfl) dX12_multiplies_5 ⟨Nat.le_of_ble_eq_true rfl, Nat.le_of_ble_eq_true rfl⟩) hP hD hS hA [0] [] rfl rfl (by decide +kernel) (by decide +kernel) ?_
  clear hP hD hS
  try clear locs
  try clear H
  intro r_1 u_2 H locs hw_r_1 hP hD hS
  have hw_r_1 : (gr ig → gr u_2) ∧ (¬ p9 = 0 → ¬ r9 = 0 → gr u_2 ∨ ¬ r_1 = 0) := hw_r_1
  refine W.widen (k := 0) (n := 0) (Nat.le_of_ble_eq_true rfl) (Nat.le_of_ble_eq_true rfl) ?_
  replace hP : va_P D vwCl [(hm, .inr (12, [.ref ms, .ref mkp, .int (nI km), .ref mtr, .int (nI n), .int (nI k), .int (nI al), .int (nI be), .int ea, .int pr, .ref mas, .int nq, .int po, .int (nI en), .ref mso, .ref mon, .ref mot, .ref man, .int th, .int xd, .ref mst, .ref msm, .ref mtb, .ref mti, .ref mfr, .ref mbn, .ref mbs, .ref mde, .int sF, .int sN, .int sS, .int u_2, .long xa, .long xb, .ref maa, .ref mab, .ref mba, .ref mbb]))] H := hP
  replace hD : va_D A [(hm, .inr (12, [.ref ms, .ref mkp, .int (nI km), .ref mtr, .int (nI n), .int (nI k), .int (nI al), .int (nI be), .int ea, .int pr, .ref mas, .int nq, .int po, .int (nI en), .ref mso, .ref mon, .ref mot, .ref man, .int th, .int xd, .ref mst, .ref msm, .ref mtb, .ref mti, .ref mfr, .ref mbn, .ref mbs, .ref mde, .int sF, .int sN, .int sS, .int u_2, .long xa, .long xb, .ref maa, .ref mab, .ref mba, .ref mbb]))] := hD
  refine lv_aload_n hx hb dX12_multiplies_8 rfl (lv_at hl 0 rfl) ?_
  refine lv_lload_n hx hb dX12_multiplies_9 rfl (lv_at hl 2 rfl) ?_
  refine lv_lload hx hb dX12_multiplies_10 (lv_at hl 4 rfl) ?_
  refine xl (wr := []) (xV (As := [.long q9, .long t9]) (rest := [.long r_1, .ref hm]) C (c_X12_times l D cs hm ms mkp mtr mas mso mon mot man mst msm mtb mti mfr mbn mbs mde maa mab mba mbb n k al be km en ea pr nq po th xd sF sN sS u_2 xa xb q9 t9) kX12_263 hP hD [0] rfl (by decide +kernel) 0 rfl rfl rfl ⟨Nat.le_of_ble_eq_true rfl, Nat.le_of_ble_eq_true rfl⟩ rfl hl.1 rfl (Nat.le_of_ble_eq_true rfl) dX12_multiplies_12 ⟨Nat.le_of_ble_eq_true rfl, Nat.le_of_ble_eq_true rfl⟩) hP hD hS hA [0] [] rfl rfl (by decide +kernel) (by decide +kernel) ?_
  clear hP hD hS
  try clear locs
  try clear H
  intro r_3 u_4 H locs hw_r_3 hP hD hS
  have hw_r_3 : (gr u_2 → gr u_4) ∧ (¬ q9 = 0 → ¬ t9 = 0 → gr u_4 ∨ ¬ r_3 = 0) := hw_r_3
  refine W.widen (k := 0) (n := 0) (Nat.le_of_ble_eq_true rfl) (Nat.le_of_ble_eq_true rfl) ?_
  replace hP : va_P D vwCl [(hm, .inr (12, [.ref ms, .ref mkp, .int (nI km), .ref mtr, .int (nI n), .int (nI k), .int (nI al), .int (nI be), .int ea, .int pr, .ref mas, .int nq, .int po, .int (nI en), .ref mso, .ref mon, .ref mot, .ref man, .int th, .int xd, .ref mst, .ref msm, .ref mtb, .ref mti, .ref mfr, .ref mbn, .ref mbs, .ref mde, .int sF, .int sN, .int sS, .int u_4, .long xa, .long xb, .ref maa, .ref mab, .ref mba, .ref mbb]))] H := hP
  replace hD : va_D A [(hm, .inr (12, [.ref ms, .ref mkp, .int (nI km), .ref mtr, .int (nI n), .int (nI k), .int (nI al), .int (nI be), .int ea, .int pr, .ref mas, .int nq, .int po, .int (nI en), .ref mso, .ref mon, .ref mot, .ref man, .int th, .int xd, .ref mst, .ref msm, .ref mtb, .ref mti, .ref mfr, .ref mbn, .ref mbs, .ref mde, .int sF, .int sN, .int sS, .int u_4, .long xa, .long xb, .ref maa, .ref mab, .ref mba, .ref mbb]))] := hD
  refine xv (wr := []) (xV (As := [.long r_1, .long r_3]) (rest := []) C (c_X12_settles l D cs hm ms mkp mtr mas mso mon mot man mst msm mtb mti mfr mbn mbs mde maa mab mba mbb n k al be km en ea pr nq po th xd sF sN sS u_4 xa xb r_1 r_3 (hq.elim (fun g => Or.inl ((fun h => hw_r_3.1 ((fun h => hw_r_1.1 ((fun h => h) h)) h)) g)) (fun z => hw_r_3.2 z.1 z.2))) kX12_269 hP hD [0] rfl (by decide +kernel) 0 rfl rfl rfl ⟨Nat.le_of_ble_eq_true rfl, Nat.le_of_ble_eq_true rfl⟩ rfl hl.1 rfl (Nat.le_of_ble_eq_true rfl) dX12_multiplies_15 ⟨Nat.le_of_ble_eq_true rfl, Nat.le_of_ble_eq_true rfl⟩) hP hD hS hA [0] [] rfl rfl (by decide +kernel) (by decide +kernel) ?_
  clear hP hD hS
  try clear locs
  try clear H
  intro u_6 H locs hw_r_5 hP hD hS
  obtain ⟨xaz_7, xbz_8⟩ := u_6
  have hw_r_5 : ¬ xbz_8 = 0 := hw_r_5
  refine W.widen (k := 0) (n := 0) (Nat.le_of_ble_eq_true rfl) (Nat.le_of_ble_eq_true rfl) ?_
  replace hP : va_P D vwCl [(hm, .inr (12, [.ref ms, .ref mkp, .int (nI km), .ref mtr, .int (nI n), .int (nI k), .int (nI al), .int (nI be), .int ea, .int pr, .ref mas, .int nq, .int po, .int (nI en), .ref mso, .ref mon, .ref mot, .ref man, .int th, .int xd, .ref mst, .ref msm, .ref mtb, .ref mti, .ref mfr, .ref mbn, .ref mbs, .ref mde, .int sF, .int sN, .int sS, .int u_4, .long xaz_7, .long xbz_8, .ref maa, .ref mab, .ref mba, .ref mbb]))] H := hP
  replace hD : va_D A [(hm, .inr (12, [.ref ms, .ref mkp, .int (nI km), .ref mtr, .int (nI n), .int (nI k), .int (nI al), .int (nI be), .int ea, .int pr, .ref mas, .int nq, .int po, .int (nI en), .ref mso, .ref mon, .ref mot, .ref man, .int th, .int xd, .ref mst, .ref msm, .ref mtb, .ref mti, .ref mfr, .ref mbn, .ref mbs, .ref mde, .int sF, .int sN, .int sS, .int u_4, .long xaz_7, .long xbz_8, .ref maa, .ref mab, .ref mba, .ref mbb]))] := hD
  exact xretv C (⟨u_4, xaz_7, xbz_8⟩) (⟨(fun h => hw_r_3.1 ((fun h => hw_r_1.1 ((fun h => h) h)) h)), hw_r_5⟩) hP hD hS (Nat.le_of_ble_eq_true rfl) (Nat.le_of_ble_eq_true rfl) dX12_multiplies_18

set_option maxHeartbeats 4000000 in
set_option maxRecDepth 100000 in
theorem c_X12_divides (l : Launch) (D : va_G) (cs : Nat → ClassId) (hm ms mkp mtr mas mso mon mot man mst msm mtb mti mfr mbn mbs mde maa mab mba mbb : Nat) (n k al be km en : Nat) (ea pr nq po th xd sF sN sS ig : Int32) (xa xb : Int64) (p9 q9 r9 t9 : Int64) (hq : gr ig ∨ (¬ q9 = 0 ∧ ¬ r9 = 0)) : xMet l D cs yX12_divides cX12_divides 9 none ({ frames := 1, cells := 0, slots := 0, locals := 30 } : Room) [.ref hm, .long p9, .long q9, .long r9, .long t9] [(hm, .inr (12, [.ref ms, .ref mkp, .int (nI km), .ref mtr, .int (nI n), .int (nI k), .int (nI al), .int (nI be), .int ea, .int pr, .ref mas, .int nq, .int po, .int (nI en), .ref mso, .ref mon, .ref mot, .ref man, .int th, .int xd, .ref mst, .ref msm, .ref mtb, .ref mti, .ref mfr, .ref mbn, .ref mbs, .ref mde, .int sF, .int sN, .int sS, .int ig, .long xa, .long xb, .ref maa, .ref mab, .ref mba, .ref mbb]))] (xQv D (fun (u : Int32 × Int64 × Int64) => match u with | (igz, xaz, xbz) => (gr ig → gr igz) ∧ ¬ xbz = 0) (fun (u : Int32 × Int64 × Int64) => match u with | (igz, xaz, xbz) => [(hm, .inr (12, [.ref ms, .ref mkp, .int (nI km), .ref mtr, .int (nI n), .int (nI k), .int (nI al), .int (nI be), .int ea, .int pr, .ref mas, .int nq, .int po, .int (nI en), .ref mso, .ref mon, .ref mot, .ref man, .int th, .int xd, .ref mst, .ref msm, .ref mtb, .ref mti, .ref mfr, .ref mbn, .ref mbs, .ref mde, .int sF, .int sN, .int sS, .int igz, .long xaz, .long xbz, .ref maa, .ref mab, .ref mba, .ref mbb]))])) := by
  refine xMet.intro (by decide) (Nat.le_of_ble_eq_true rfl) ?_
  intro p e s m args below meth c A ls C hP hD hS hl
  have hx := C.1
  have hb := C.2.1
  have hz := C.2.2.2.2.1
  have hown := C.2.2.2.1
  have hA := C.2.2.2.2.2.2.2.2.2
  have hAO := C.2.2.2.2.2.2.2.2.1.2.2
  replace hl : lv_has ls 9 [(0, .ref hm), (1, .long p9), (3, .long q9), (5, .long r9), (7, .long t9)] := hl
  obtain ⟨H, hH⟩ : ∃ H, H = s.heap := ⟨_, rfl⟩
  replace hP : va_P D vwCl [(hm, .inr (12, [.ref ms, .ref mkp, .int (nI km), .ref mtr, .int (nI n), .int (nI k), .int (nI al), .int (nI be), .int ea, .int pr, .ref mas, .int nq, .int po, .int (nI en), .ref mso, .ref mon, .ref mot, .ref man, .int th, .int xd, .ref mst, .ref msm, .ref mtb, .ref mti, .ref mfr, .ref mbn, .ref mbs, .ref mde, .int sF, .int sN, .int sS, .int ig, .long xa, .long xb, .ref maa, .ref mab, .ref mba, .ref mbb]))] H := by rw [hH]; exact hP
  replace hS : va_S A s.heap H [] := by rw [hH]; exact hS
  obtain ⟨locs, hlocs⟩ : ∃ z : List Loc, z = [] := ⟨_, rfl⟩
  rw [← hlocs] at hS
  suffices hW : W p l e ({ frames := 1, cells := 0, slots := 0, locals := 30 } : Room) s m args below meth c H locs 0 0 (MQ below ((xQv D (fun (u : Int32 × Int64 × Int64) => match u with | (igz, xaz, xbz) => (gr ig → gr igz) ∧ ¬ xbz = 0) (fun (u : Int32 × Int64 × Int64) => match u with | (igz, xaz, xbz) => [(hm, .inr (12, [.ref ms, .ref mkp, .int (nI km), .ref mtr, .int (nI n), .int (nI k), .int (nI al), .int (nI be), .int ea, .int pr, .ref mas, .int nq, .int po, .int (nI en), .ref mso, .ref mon, .ref mot, .ref man, .int th, .int xd, .ref mst, .ref msm, .ref mtb, .ref mti, .ref mfr, .ref mbn, .ref mbs, .ref mde, .int sF, .int sN, .int sS, .int igz, .long xaz, .long xbz, .ref maa, .ref mab, .ref mba, .ref mbb]))])) A) args s 0 0 A) (F0 m 0 ls []) by rw [hlocs, hH] at hW; exact hW
  clear hH hlocs
  refine lv_aload_n hx hb dX12_divides_0 rfl (lv_at hl 0 rfl) ?_
  refine lv_aload_n hx hb dX12_divides_1 rfl (lv_at hl 0 rfl) ?_
  refine lv_lload_n hx hb dX12_divides_2 rfl (lv_at hl 1 rfl) ?_
  refine lv_lload hx hb dX12_divides_3 (lv_at hl 4 rfl) ?_
  refine xl (wr := []) (xV (As := [.long p9, .long t9]) (rest := [.ref hm]) C (c_X12_times l D cs hm ms mkp mtr mas mso mon mot man mst msm mtb mti mfr mbn mbs mde maa mab mba mbb n k al be km en ea pr nq po th xd sF sN sS ig xa xb p9 t9) kX12_263 hP hD [0] rfl (by decide +kernel) 0 rfl rfl rfl ⟨Nat.le_of_ble_eq_true rfl, Nat.le_of_ble_eq_true rfl⟩ rfl hl.1 rfl (Nat.le_of_ble_eq_true rfl) dX12_divides_5 ⟨Nat.le_of_ble_eq_true rfl, Nat.le_of_ble_eq_true rfl⟩) hP hD hS hA [0] [] rfl rfl (by decide +kernel) (by decide +kernel) ?_
  clear hP hD hS
  try clear locs
  try clear H
  intro r_1 u_2 H locs hw_r_1 hP hD hS
  have hw_r_1 : (gr ig → gr u_2) ∧ (¬ p9 = 0 → ¬ t9 = 0 → gr u_2 ∨ ¬ r_1 = 0) := hw_r_1
  refine W.widen (k := 0) (n := 0) (Nat.le_of_ble_eq_true rfl) (Nat.le_of_ble_eq_true rfl) ?_
  replace hP : va_P D vwCl [(hm, .inr (12, [.ref ms, .ref mkp, .int (nI km), .ref mtr, .int (nI n), .int (nI k), .int (nI al), .int (nI be), .int ea, .int pr, .ref mas, .int nq, .int po, .int (nI en), .ref mso, .ref mon, .ref mot, .ref man, .int th, .int xd, .ref mst, .ref msm, .ref mtb, .ref mti, .ref mfr, .ref mbn, .ref mbs, .ref mde, .int sF, .int sN, .int sS, .int u_2, .long xa, .long xb, .ref maa, .ref mab, .ref mba, .ref mbb]))] H := hP
  replace hD : va_D A [(hm, .inr (12, [.ref ms, .ref mkp, .int (nI km), .ref mtr, .int (nI n), .int (nI k), .int (nI al), .int (nI be), .int ea, .int pr, .ref mas, .int nq, .int po, .int (nI en), .ref mso, .ref mon, .ref mot, .ref man, .int th, .int xd, .ref mst, .ref msm, .ref mtb, .ref mti, .ref mfr, .ref mbn, .ref mbs, .ref mde, .int sF, .int sN, .int sS, .int u_2, .long xa, .long xb, .ref maa, .ref mab, .ref mba, .ref mbb]))] := hD
  refine lv_aload_n hx hb dX12_divides_8 rfl (lv_at hl 0 rfl) ?_
  refine lv_lload_n hx hb dX12_divides_9 rfl (lv_at hl 2 rfl) ?_
  refine lv_lload hx hb dX12_divides_10 (lv_at hl 3 rfl) ?_
  refine xl (wr := []) (xV (As := [.long q9, .long r9]) (rest := [.long r_1, .ref hm]) C (c_X12_times l D cs hm ms mkp mtr mas mso mon mot man mst msm mtb mti mfr mbn mbs mde maa mab mba mbb n k al be km en ea pr nq po th xd sF sN sS u_2 xa xb q9 r9) kX12_263 hP hD [0] rfl (by decide +kernel) 0 rfl rfl rfl ⟨Nat.le_of_ble_eq_true rfl, Nat.le_of_ble_eq_true rfl⟩ rfl hl.1 rfl (Nat.le_of_ble_eq_true rfl) dX12_divides_12 ⟨Nat.le_of_ble_eq_true rfl, Nat.le_of_ble_eq_true rfl⟩) hP hD hS hA [0] [] rfl rfl (by decide +kernel) (by decide +kernel) ?_
  clear hP hD hS
  try clear locs
  try clear H
  intro r_3 u_4 H locs hw_r_3 hP hD hS
  have hw_r_3 : (gr u_2 → gr u_4) ∧ (¬ q9 = 0 → ¬ r9 = 0 → gr u_4 ∨ ¬ r_3 = 0) := hw_r_3
  refine W.widen (k := 0) (n := 0) (Nat.le_of_ble_eq_true rfl) (Nat.le_of_ble_eq_true rfl) ?_
  replace hP : va_P D vwCl [(hm, .inr (12, [.ref ms, .ref mkp, .int (nI km), .ref mtr, .int (nI n), .int (nI k), .int (nI al), .int (nI be), .int ea, .int pr, .ref mas, .int nq, .int po, .int (nI en), .ref mso, .ref mon, .ref mot, .ref man, .int th, .int xd, .ref mst, .ref msm, .ref mtb, .ref mti, .ref mfr, .ref mbn, .ref mbs, .ref mde, .int sF, .int sN, .int sS, .int u_4, .long xa, .long xb, .ref maa, .ref mab, .ref mba, .ref mbb]))] H := hP
  replace hD : va_D A [(hm, .inr (12, [.ref ms, .ref mkp, .int (nI km), .ref mtr, .int (nI n), .int (nI k), .int (nI al), .int (nI be), .int ea, .int pr, .ref mas, .int nq, .int po, .int (nI en), .ref mso, .ref mon, .ref mot, .ref man, .int th, .int xd, .ref mst, .ref msm, .ref mtb, .ref mti, .ref mfr, .ref mbn, .ref mbs, .ref mde, .int sF, .int sN, .int sS, .int u_4, .long xa, .long xb, .ref maa, .ref mab, .ref mba, .ref mbb]))] := hD
  refine xv (wr := []) (xV (As := [.long r_1, .long r_3]) (rest := []) C (c_X12_settles l D cs hm ms mkp mtr mas mso mon mot man mst msm mtb mti mfr mbn mbs mde maa mab mba mbb n k al be km en ea pr nq po th xd sF sN sS u_4 xa xb r_1 r_3 (hq.elim (fun g => Or.inl ((fun h => hw_r_3.1 ((fun h => hw_r_1.1 ((fun h => h) h)) h)) g)) (fun z => hw_r_3.2 z.1 z.2))) kX12_269 hP hD [0] rfl (by decide +kernel) 0 rfl rfl rfl ⟨Nat.le_of_ble_eq_true rfl, Nat.le_of_ble_eq_true rfl⟩ rfl hl.1 rfl (Nat.le_of_ble_eq_true rfl) dX12_divides_15 ⟨Nat.le_of_ble_eq_true rfl, Nat.le_of_ble_eq_true rfl⟩) hP hD hS hA [0] [] rfl rfl (by decide +kernel) (by decide +kernel) ?_
  clear hP hD hS
  try clear locs
  try clear H
  intro u_6 H locs hw_r_5 hP hD hS
  obtain ⟨xaz_7, xbz_8⟩ := u_6
  have hw_r_5 : ¬ xbz_8 = 0 := hw_r_5
  refine W.widen (k := 0) (n := 0) (Nat.le_of_ble_eq_true rfl) (Nat.le_of_ble_eq_true rfl) ?_
  replace hP : va_P D vwCl [(hm, .inr (12, [.ref ms, .ref mkp, .int (nI km), .ref mtr, .int (nI n), .int (nI k), .int (nI al), .int (nI be), .int ea, .int pr, .ref mas, .int nq, .int po, .int (nI en), .ref mso, .ref mon, .ref mot, .ref man, .int th, .int xd, .ref mst, .ref msm, .ref mtb, .ref mti, .ref mfr, .ref mbn, .ref mbs, .ref mde, .int sF, .int sN, .int sS, .int u_4, .long xaz_7, .long xbz_8, .ref maa, .ref mab, .ref mba, .ref mbb]))] H := hP
  replace hD : va_D A [(hm, .inr (12, [.ref ms, .ref mkp, .int (nI km), .ref mtr, .int (nI n), .int (nI k), .int (nI al), .int (nI be), .int ea, .int pr, .ref mas, .int nq, .int po, .int (nI en), .ref mso, .ref mon, .ref mot, .ref man, .int th, .int xd, .ref mst, .ref msm, .ref mtb, .ref mti, .ref mfr, .ref mbn, .ref mbs, .ref mde, .int sF, .int sN, .int sS, .int u_4, .long xaz_7, .long xbz_8, .ref maa, .ref mab, .ref mba, .ref mbb]))] := hD
  exact xretv C (⟨u_4, xaz_7, xbz_8⟩) (⟨(fun h => hw_r_3.1 ((fun h => hw_r_1.1 ((fun h => h) h)) h)), hw_r_5⟩) hP hD hS (Nat.le_of_ble_eq_true rfl) (Nat.le_of_ble_eq_true rfl) dX12_divides_18

set_option maxHeartbeats 4000000 in
set_option maxRecDepth 100000 in
theorem c_X12_enough (l : Launch) (D : va_G) (cs : Nat → ClassId) (hm ms mkp mtr mas mso mon mot man mst msm mtb mti mfr mbn mbs mde maa mab mba mbb : Nat) (n k al be km en : Nat) (ea pr nq po th xd sF sN sS ig : Int32) (xa xb : Int64) (x : Int32) (hn : 2 ≤ n ∧ n ≤ 8) (hkn : 1 ≤ k ∧ k < n) (hal : 1 ≤ al ∧ al ≤ k) : xMet l D cs yX12_enough cX12_enough 5 (some .long) ({ frames := 1, cells := 0, slots := 0, locals := 24 } : Room) [.ref hm, .int x] [(hm, .inr (12, [.ref ms, .ref mkp, .int (nI km), .ref mtr, .int (nI n), .int (nI k), .int (nI al), .int (nI be), .int ea, .int pr, .ref mas, .int nq, .int po, .int (nI en), .ref mso, .ref mon, .ref mot, .ref man, .int th, .int xd, .ref mst, .ref msm, .ref mtb, .ref mti, .ref mfr, .ref mbn, .ref mbs, .ref mde, .int sF, .int sN, .int sS, .int ig, .long xa, .long xb, .ref maa, .ref mab, .ref mba, .ref mbb]))] (xQl D (fun (r : Int64) (_u : Unit) => True) (fun (_u : Unit) => [(hm, .inr (12, [.ref ms, .ref mkp, .int (nI km), .ref mtr, .int (nI n), .int (nI k), .int (nI al), .int (nI be), .int ea, .int pr, .ref mas, .int nq, .int po, .int (nI en), .ref mso, .ref mon, .ref mot, .ref man, .int th, .int xd, .ref mst, .ref msm, .ref mtb, .ref mti, .ref mfr, .ref mbn, .ref mbs, .ref mde, .int sF, .int sN, .int sS, .int ig, .long xa, .long xb, .ref maa, .ref mab, .ref mba, .ref mbb]))])) := by
  refine xMet.intro (by decide) (Nat.le_of_ble_eq_true rfl) ?_
  intro p e s m args below meth c A ls C hP hD hS hl
  have hx := C.1
  have hb := C.2.1
  have hz := C.2.2.2.2.1
  have hown := C.2.2.2.1
  have hA := C.2.2.2.2.2.2.2.2.2
  have hAO := C.2.2.2.2.2.2.2.2.1.2.2
  replace hl : lv_has ls 5 [(0, .ref hm), (1, .int x)] := hl
  obtain ⟨H, hH⟩ : ∃ H, H = s.heap := ⟨_, rfl⟩
  replace hP : va_P D vwCl [(hm, .inr (12, [.ref ms, .ref mkp, .int (nI km), .ref mtr, .int (nI n), .int (nI k), .int (nI al), .int (nI be), .int ea, .int pr, .ref mas, .int nq, .int po, .int (nI en), .ref mso, .ref mon, .ref mot, .ref man, .int th, .int xd, .ref mst, .ref msm, .ref mtb, .ref mti, .ref mfr, .ref mbn, .ref mbs, .ref mde, .int sF, .int sN, .int sS, .int ig, .long xa, .long xb, .ref maa, .ref mab, .ref mba, .ref mbb]))] H := by rw [hH]; exact hP
  replace hS : va_S A s.heap H [] := by rw [hH]; exact hS
  obtain ⟨locs, hlocs⟩ : ∃ z : List Loc, z = [] := ⟨_, rfl⟩
  rw [← hlocs] at hS
  suffices hW : W p l e ({ frames := 1, cells := 0, slots := 0, locals := 24 } : Room) s m args below meth c H locs 0 0 (MQ below ((xQl D (fun (r : Int64) (_u : Unit) => True) (fun (_u : Unit) => [(hm, .inr (12, [.ref ms, .ref mkp, .int (nI km), .ref mtr, .int (nI n), .int (nI k), .int (nI al), .int (nI be), .int ea, .int pr, .ref mas, .int nq, .int po, .int (nI en), .ref mso, .ref mon, .ref mot, .ref man, .int th, .int xd, .ref mst, .ref msm, .ref mtb, .ref mti, .ref mfr, .ref mbn, .ref mbs, .ref mde, .int sF, .int sN, .int sS, .int ig, .long xa, .long xb, .ref maa, .ref mab, .ref mba, .ref mbb]))])) A) args s 0 0 A) (F0 m 0 ls []) by rw [hlocs, hH] at hW; exact hW
  clear hH hlocs
  refine lv_lconst (v := 0) hx hb dX12_enough_0 (by decide) ?_
  refine lv_lstore_n (lv' := [(2, .long 0), (0, .ref hm), (1, .int x)]) hx hb dX12_enough_1 rfl hl (by decide) rfl ?_
  clear hl
  try clear ls
  intro ls hl
  refine lv_aload_n hx hb dX12_enough_2 rfl (lv_at hl 1 rfl) ?_
  refine xget C hP 0 rfl rfl zuX12 6 (by decide) zw5_219 rfl dX12_enough_3 ?_
  refine lv_istore (lv' := [(4, .int (nI al)), (2, .long 0), (0, .ref hm), (1, .int x)]) hx hb dX12_enough_6 hl (by decide) rfl ?_
  clear hl
  try clear ls
  intro ls hl
  have loop_1 : ∀ (n_loop_1 : Nat) (o : Nat) (v9 : Int64), (o ≤ k + 1) → k + 1 - o < n_loop_1 → ∀ (H : Heap) (locs : List Loc) (ls : Array Slot), va_P D vwCl [(hm, .inr (12, [.ref ms, .ref mkp, .int (nI km), .ref mtr, .int (nI n), .int (nI k), .int (nI al), .int (nI be), .int ea, .int pr, .ref mas, .int nq, .int po, .int (nI en), .ref mso, .ref mon, .ref mot, .ref man, .int th, .int xd, .ref mst, .ref msm, .ref mtb, .ref mti, .ref mfr, .ref mbn, .ref mbs, .ref mde, .int sF, .int sN, .int sS, .int ig, .long xa, .long xb, .ref maa, .ref mab, .ref mba, .ref mbb]))] H → va_D A [(hm, .inr (12, [.ref ms, .ref mkp, .int (nI km), .ref mtr, .int (nI n), .int (nI k), .int (nI al), .int (nI be), .int ea, .int pr, .ref mas, .int nq, .int po, .int (nI en), .ref mso, .ref mon, .ref mot, .ref man, .int th, .int xd, .ref mst, .ref msm, .ref mtb, .ref mti, .ref mfr, .ref mbn, .ref mbs, .ref mde, .int sF, .int sN, .int sS, .int ig, .long xa, .long xb, .ref maa, .ref mab, .ref mba, .ref mbb]))] → va_S A s.heap H locs → lv_has ls 5 [(4, .int (nI o)), (2, .long v9), (0, .ref hm), (1, .int x)] → W p l e ({ frames := 1, cells := 0, slots := 0, locals := 24 } : Room) s m args below meth c H locs 0 0 (MQ below ((xQl D (fun (r : Int64) (_u : Unit) => True) (fun (_u : Unit) => [(hm, .inr (12, [.ref ms, .ref mkp, .int (nI km), .ref mtr, .int (nI n), .int (nI k), .int (nI al), .int (nI be), .int ea, .int pr, .ref mas, .int nq, .int po, .int (nI en), .ref mso, .ref mon, .ref mot, .ref man, .int th, .int xd, .ref mst, .ref msm, .ref mtb, .ref mti, .ref mfr, .ref mbn, .ref mbs, .ref mde, .int sF, .int sN, .int sS, .int ig, .long xa, .long xb, .ref maa, .ref mab, .ref mba, .ref mbb]))])) A) args s 0 0 A) (F0 m 8 ls []) := by
    intro n_loop_1
    induction n_loop_1 with
    | zero => intro o v9 h_o hlt H locs ls hP hD hS hl; exact absurd hlt (Nat.not_lt_zero _)
    | succ n_loop_1 ih_loop_1 =>
      intro o v9 h_o hlt_loop_1 H locs ls hP hD hS hl
      refine lv_iload hx hb dX12_enough_8 (lv_at hl 0 rfl) ?_
      refine lv_aload_n hx hb dX12_enough_10 rfl (lv_at hl 2 rfl) ?_
      refine xget C hP 0 rfl rfl zuX12 5 (by decide) zw5_218 rfl dX12_enough_11 ?_
      refine lv_icmp_gt (tgt := 51) hx hb dX12_enough_14 (by decide) (fun c_2 => ?_) (fun c_2 => ?_)
      · -- 14 t
        have fc_2 : k < o := nf_lt (by omega) (by omega) c_2
        refine lv_lload_n hx hb dX12_enough_51 rfl (lv_at hl 1 rfl) ?_
        exact xretl C () trivial hP hD hS (Nat.le_of_ble_eq_true rfl) (Nat.le_of_ble_eq_true rfl) dX12_enough_52
      · -- 14 f
        have fc_2 : o ≤ k := nf_nlt (by omega) (by omega) c_2
        refine lv_lload_n hx hb dX12_enough_17 rfl (lv_at hl 1 rfl) ?_
        refine lv_iload_n hx hb dX12_enough_18 rfl (lv_at hl 3 rfl) ?_
        refine lv_iload hx hb dX12_enough_19 (lv_at hl 0 rfl) ?_
        refine xl (wr := [(hm, .inr (12, [.ref ms, .ref mkp, .int (nI km), .ref mtr, .int (nI n), .int (nI k), .int (nI al), .int (nI be), .int ea, .int pr, .ref mas, .int nq, .int po, .int (nI en), .ref mso, .ref mon, .ref mot, .ref man, .int th, .int xd, .ref mst, .ref msm, .ref mtb, .ref mti, .ref mfr, .ref mbn, .ref mbs, .ref mde, .int sF, .int sN, .int sS, .int ig, .long xa, .long xb, .ref maa, .ref mab, .ref mba, .ref mbb]))]) (xS (As := [.int x, .int (nI o)]) (rest := [.long v9]) C (c_X12_choose l D cs x o (by omega)) kX12_176 hP hD [] rfl (by decide +kernel) ⟨Nat.le_of_ble_eq_true rfl, Nat.le_of_ble_eq_true rfl⟩ rfl hl.1 rfl (Nat.le_of_ble_eq_true rfl) dX12_enough_21 ⟨Nat.le_of_ble_eq_true rfl, Nat.le_of_ble_eq_true rfl⟩) hP hD hS hA [] [0] rfl rfl (by decide +kernel) (by decide +kernel) ?_
        clear hP hD hS
        try clear locs
        try clear H
        intro r_3 u_4 H locs hw_r_3 hP hD hS
        have hw_r_3 : r_3 = chV x o := hw_r_3
        refine W.widen (k := 0) (n := 0) (Nat.le_of_ble_eq_true rfl) (Nat.le_of_ble_eq_true rfl) ?_
        replace hP : va_P D vwCl [(hm, .inr (12, [.ref ms, .ref mkp, .int (nI km), .ref mtr, .int (nI n), .int (nI k), .int (nI al), .int (nI be), .int ea, .int pr, .ref mas, .int nq, .int po, .int (nI en), .ref mso, .ref mon, .ref mot, .ref man, .int th, .int xd, .ref mst, .ref msm, .ref mtb, .ref mti, .ref mfr, .ref mbn, .ref mbs, .ref mde, .int sF, .int sN, .int sS, .int ig, .long xa, .long xb, .ref maa, .ref mab, .ref mba, .ref mbb]))] H := hP
        replace hD : va_D A [(hm, .inr (12, [.ref ms, .ref mkp, .int (nI km), .ref mtr, .int (nI n), .int (nI k), .int (nI al), .int (nI be), .int ea, .int pr, .ref mas, .int nq, .int po, .int (nI en), .ref mso, .ref mon, .ref mot, .ref man, .int th, .int xd, .ref mst, .ref msm, .ref mtb, .ref mti, .ref mfr, .ref mbn, .ref mbs, .ref mde, .int sF, .int sN, .int sS, .int ig, .long xa, .long xb, .ref maa, .ref mab, .ref mba, .ref mbb]))] := hD
        refine lv_aload_n hx hb dX12_enough_24 rfl (lv_at hl 2 rfl) ?_
        refine xget C hP 0 rfl rfl zuX12 4 (by decide) zw5_217 rfl dX12_enough_25 ?_
        refine lv_iconst (v := nI 1) hx hb dX12_enough_28 (by decide) ?_
        refine lv_isub hx hb dX12_enough_29 ?_
        refine lv_iload_n hx hb dX12_enough_30 rfl (lv_at hl 3 rfl) ?_
        refine lv_isub hx hb dX12_enough_31 ?_
        refine lv_aload_n hx hb dX12_enough_32 rfl (lv_at hl 2 rfl) ?_
        refine xget C hP 0 rfl rfl zuX12 5 (by decide) zw5_218 rfl dX12_enough_33 ?_
        refine lv_iload hx hb dX12_enough_36 (lv_at hl 0 rfl) ?_
        refine lv_isub hx hb dX12_enough_38 ?_
        refine lv_topi (nm_r (e' := nI (k - o)) (pk_sub (by omega)) ?_)
        refine xl (wr := [(hm, .inr (12, [.ref ms, .ref mkp, .int (nI km), .ref mtr, .int (nI n), .int (nI k), .int (nI al), .int (nI be), .int ea, .int pr, .ref mas, .int nq, .int po, .int (nI en), .ref mso, .ref mon, .ref mot, .ref man, .int th, .int xd, .ref mst, .ref msm, .ref mtb, .ref mti, .ref mfr, .ref mbn, .ref mbs, .ref mde, .int sF, .int sN, .int sS, .int ig, .long xa, .long xb, .ref maa, .ref mab, .ref mba, .ref mbb]))]) (xS (As := [.int (((nI n) - (nI 1)) - x), .int (nI (k - o))]) (rest := [.long r_3, .long v9]) C (c_X12_choose l D cs (((nI n) - (nI 1)) - x) (k - o) (by omega)) kX12_176 hP hD [] rfl (by decide +kernel) ⟨Nat.le_of_ble_eq_true rfl, Nat.le_of_ble_eq_true rfl⟩ rfl hl.1 rfl (Nat.le_of_ble_eq_true rfl) dX12_enough_39 ⟨Nat.le_of_ble_eq_true rfl, Nat.le_of_ble_eq_true rfl⟩) hP hD hS hA [] [0] rfl rfl (by decide +kernel) (by decide +kernel) ?_
        clear hP hD hS
        try clear locs
        try clear H
        intro r_5 u_6 H locs hw_r_5 hP hD hS
        have hw_r_5 : r_5 = chV (((nI n) - (nI 1)) - x) (k - o) := hw_r_5
        refine W.widen (k := 0) (n := 0) (Nat.le_of_ble_eq_true rfl) (Nat.le_of_ble_eq_true rfl) ?_
        replace hP : va_P D vwCl [(hm, .inr (12, [.ref ms, .ref mkp, .int (nI km), .ref mtr, .int (nI n), .int (nI k), .int (nI al), .int (nI be), .int ea, .int pr, .ref mas, .int nq, .int po, .int (nI en), .ref mso, .ref mon, .ref mot, .ref man, .int th, .int xd, .ref mst, .ref msm, .ref mtb, .ref mti, .ref mfr, .ref mbn, .ref mbs, .ref mde, .int sF, .int sN, .int sS, .int ig, .long xa, .long xb, .ref maa, .ref mab, .ref mba, .ref mbb]))] H := hP
        replace hD : va_D A [(hm, .inr (12, [.ref ms, .ref mkp, .int (nI km), .ref mtr, .int (nI n), .int (nI k), .int (nI al), .int (nI be), .int ea, .int pr, .ref mas, .int nq, .int po, .int (nI en), .ref mso, .ref mon, .ref mot, .ref man, .int th, .int xd, .ref mst, .ref msm, .ref mtb, .ref mti, .ref mfr, .ref mbn, .ref mbs, .ref mde, .int sF, .int sN, .int sS, .int ig, .long xa, .long xb, .ref maa, .ref mab, .ref mba, .ref mbb]))] := hD
        refine lv_lmul hx hb dX12_enough_42 ?_
        refine lv_ladd hx hb dX12_enough_43 ?_
        refine lv_lstore_n (lv' := [(2, .long (v9 + (r_3 * r_5))), (4, .int (nI o)), (0, .ref hm), (1, .int x)]) hx hb dX12_enough_44 rfl hl (by decide) rfl ?_
        clear hl
        try clear ls
        intro ls hl
        refine lv_iinc (v := nI (o + 1)) (lv' := [(4, .int (nI (o + 1))), (2, .long (v9 + (r_3 * r_5))), (0, .ref hm), (1, .int x)]) hx hb dX12_enough_45 hl (k := 1) rfl (nI_add o 1) (by decide) rfl ?_
        clear hl
        try clear ls
        intro ls hl
        refine lv_goto (tgt := 8) hx hb dX12_enough_48 (by decide) ?_
        exact ih_loop_1 (o + 1) (v9 + (r_3 * r_5)) (by omega) (by omega) H locs ls hP hD hS (lv_sub hl [0, 1, 2, 3] rfl)
  exact loop_1 _ al 0 (by omega) (Nat.lt_succ_self _) H locs ls hP hD hS (lv_sub hl [0, 1, 2, 3] rfl)

set_option maxHeartbeats 4000000 in
set_option maxRecDepth 100000 in
theorem c_X12_up (l : Launch) (D : va_G) (cs : Nat → ClassId) (hm ms mkp mtr mas mso mon mot man mst msm mtb mti mfr mbn mbs mde maa mab mba mbb : Nat) (n k al be km en : Nat) (ea pr nq po th xd sF sN sS ig : Int32) (xa xb : Int64) (x : Int32) (hn : 2 ≤ n ∧ n ≤ 8) (hkn : 1 ≤ k ∧ k < n) (hal : 1 ≤ al ∧ al ≤ k) : xMet l D cs yX12_up cX12_up 2 (some .long) ({ frames := 2, cells := 0, slots := 0, locals := 48 } : Room) [.ref hm, .int x] [(hm, .inr (12, [.ref ms, .ref mkp, .int (nI km), .ref mtr, .int (nI n), .int (nI k), .int (nI al), .int (nI be), .int ea, .int pr, .ref mas, .int nq, .int po, .int (nI en), .ref mso, .ref mon, .ref mot, .ref man, .int th, .int xd, .ref mst, .ref msm, .ref mtb, .ref mti, .ref mfr, .ref mbn, .ref mbs, .ref mde, .int sF, .int sN, .int sS, .int ig, .long xa, .long xb, .ref maa, .ref mab, .ref mba, .ref mbb]))] (xQl D (fun (r : Int64) (_u : Unit) => True) (fun (_u : Unit) => [(hm, .inr (12, [.ref ms, .ref mkp, .int (nI km), .ref mtr, .int (nI n), .int (nI k), .int (nI al), .int (nI be), .int ea, .int pr, .ref mas, .int nq, .int po, .int (nI en), .ref mso, .ref mon, .ref mot, .ref man, .int th, .int xd, .ref mst, .ref msm, .ref mtb, .ref mti, .ref mfr, .ref mbn, .ref mbs, .ref mde, .int sF, .int sN, .int sS, .int ig, .long xa, .long xb, .ref maa, .ref mab, .ref mba, .ref mbb]))])) := by
  refine xMet.intro (by decide) (Nat.le_of_ble_eq_true rfl) ?_
  intro p e s m args below meth c A ls C hP hD hS hl
  have hx := C.1
  have hb := C.2.1
  have hz := C.2.2.2.2.1
  have hown := C.2.2.2.1
  have hA := C.2.2.2.2.2.2.2.2.2
  have hAO := C.2.2.2.2.2.2.2.2.1.2.2
  replace hl : lv_has ls 2 [(0, .ref hm), (1, .int x)] := hl
  obtain ⟨H, hH⟩ : ∃ H, H = s.heap := ⟨_, rfl⟩
  replace hP : va_P D vwCl [(hm, .inr (12, [.ref ms, .ref mkp, .int (nI km), .ref mtr, .int (nI n), .int (nI k), .int (nI al), .int (nI be), .int ea, .int pr, .ref mas, .int nq, .int po, .int (nI en), .ref mso, .ref mon, .ref mot, .ref man, .int th, .int xd, .ref mst, .ref msm, .ref mtb, .ref mti, .ref mfr, .ref mbn, .ref mbs, .ref mde, .int sF, .int sN, .int sS, .int ig, .long xa, .long xb, .ref maa, .ref mab, .ref mba, .ref mbb]))] H := by rw [hH]; exact hP
  replace hS : va_S A s.heap H [] := by rw [hH]; exact hS
  obtain ⟨locs, hlocs⟩ : ∃ z : List Loc, z = [] := ⟨_, rfl⟩
  rw [← hlocs] at hS
  suffices hW : W p l e ({ frames := 2, cells := 0, slots := 0, locals := 48 } : Room) s m args below meth c H locs 0 0 (MQ below ((xQl D (fun (r : Int64) (_u : Unit) => True) (fun (_u : Unit) => [(hm, .inr (12, [.ref ms, .ref mkp, .int (nI km), .ref mtr, .int (nI n), .int (nI k), .int (nI al), .int (nI be), .int ea, .int pr, .ref mas, .int nq, .int po, .int (nI en), .ref mso, .ref mon, .ref mot, .ref man, .int th, .int xd, .ref mst, .ref msm, .ref mtb, .ref mti, .ref mfr, .ref mbn, .ref mbs, .ref mde, .int sF, .int sN, .int sS, .int ig, .long xa, .long xb, .ref maa, .ref mab, .ref mba, .ref mbb]))])) A) args s 0 0 A) (F0 m 0 ls []) by rw [hlocs, hH] at hW; exact hW
  clear hH hlocs
  refine lv_aload_n hx hb dX12_up_0 rfl (lv_at hl 0 rfl) ?_
  refine xget C hP 0 rfl rfl zuX12 4 (by decide) zw5_217 rfl dX12_up_1 ?_
  refine lv_iload_n hx hb dX12_up_4 rfl (lv_at hl 1 rfl) ?_
  refine lv_isub hx hb dX12_up_5 ?_
  refine lv_i2l hx hb dX12_up_6 rfl ?_
  refine lv_aload_n hx hb dX12_up_7 rfl (lv_at hl 0 rfl) ?_
  refine lv_iload_n hx hb dX12_up_8 rfl (lv_at hl 1 rfl) ?_
  refine xl (wr := []) (xV (As := [.int x]) (rest := [.long (((nI n) - x).toInt64)]) C (c_X12_enough l D cs hm ms mkp mtr mas mso mon mot man mst msm mtb mti mfr mbn mbs mde maa mab mba mbb n k al be km en ea pr nq po th xd sF sN sS ig xa xb x hn hkn hal) kX12_273 hP hD [0] rfl (by decide +kernel) 0 rfl rfl rfl ⟨Nat.le_of_ble_eq_true rfl, Nat.le_of_ble_eq_true rfl⟩ rfl hl.1 rfl (Nat.le_of_ble_eq_true rfl) dX12_up_9 ⟨Nat.le_of_ble_eq_true rfl, Nat.le_of_ble_eq_true rfl⟩) hP hD hS hA [0] [] rfl rfl (by decide +kernel) (by decide +kernel) ?_
  clear hP hD hS
  try clear locs
  try clear H
  intro r_1 u_2 H locs hw_r_1 hP hD hS
  refine W.widen (k := 0) (n := 0) (Nat.le_of_ble_eq_true rfl) (Nat.le_of_ble_eq_true rfl) ?_
  replace hP : va_P D vwCl [(hm, .inr (12, [.ref ms, .ref mkp, .int (nI km), .ref mtr, .int (nI n), .int (nI k), .int (nI al), .int (nI be), .int ea, .int pr, .ref mas, .int nq, .int po, .int (nI en), .ref mso, .ref mon, .ref mot, .ref man, .int th, .int xd, .ref mst, .ref msm, .ref mtb, .ref mti, .ref mfr, .ref mbn, .ref mbs, .ref mde, .int sF, .int sN, .int sS, .int ig, .long xa, .long xb, .ref maa, .ref mab, .ref mba, .ref mbb]))] H := hP
  replace hD : va_D A [(hm, .inr (12, [.ref ms, .ref mkp, .int (nI km), .ref mtr, .int (nI n), .int (nI k), .int (nI al), .int (nI be), .int ea, .int pr, .ref mas, .int nq, .int po, .int (nI en), .ref mso, .ref mon, .ref mot, .ref man, .int th, .int xd, .ref mst, .ref msm, .ref mtb, .ref mti, .ref mfr, .ref mbn, .ref mbs, .ref mde, .int sF, .int sN, .int sS, .int ig, .long xa, .long xb, .ref maa, .ref mab, .ref mba, .ref mbb]))] := hD
  refine lv_lmul hx hb dX12_up_12 ?_
  exact xretl C () trivial hP hD hS (Nat.le_of_ble_eq_true rfl) (Nat.le_of_ble_eq_true rfl) dX12_up_13

set_option maxHeartbeats 4000000 in
set_option maxRecDepth 100000 in
theorem c_X12_down (l : Launch) (D : va_G) (cs : Nat → ClassId) (hm ms mkp mtr mas mso mon mot man mst msm mtb mti mfr mbn mbs mde maa mab mba mbb : Nat) (n k al be km en : Nat) (ea pr nq po th xd sF sN sS ig : Int32) (xa xb : Int64) (x : Int32) (hn : 2 ≤ n ∧ n ≤ 8) (hkn : 1 ≤ k ∧ k < n) (hal : 1 ≤ al ∧ al ≤ k) : xMet l D cs yX12_down cX12_down 2 (some .long) ({ frames := 2, cells := 0, slots := 0, locals := 48 } : Room) [.ref hm, .int x] [(hm, .inr (12, [.ref ms, .ref mkp, .int (nI km), .ref mtr, .int (nI n), .int (nI k), .int (nI al), .int (nI be), .int ea, .int pr, .ref mas, .int nq, .int po, .int (nI en), .ref mso, .ref mon, .ref mot, .ref man, .int th, .int xd, .ref mst, .ref msm, .ref mtb, .ref mti, .ref mfr, .ref mbn, .ref mbs, .ref mde, .int sF, .int sN, .int sS, .int ig, .long xa, .long xb, .ref maa, .ref mab, .ref mba, .ref mbb]))] (xQl D (fun (r : Int64) (_u : Unit) => True) (fun (_u : Unit) => [(hm, .inr (12, [.ref ms, .ref mkp, .int (nI km), .ref mtr, .int (nI n), .int (nI k), .int (nI al), .int (nI be), .int ea, .int pr, .ref mas, .int nq, .int po, .int (nI en), .ref mso, .ref mon, .ref mot, .ref man, .int th, .int xd, .ref mst, .ref msm, .ref mtb, .ref mti, .ref mfr, .ref mbn, .ref mbs, .ref mde, .int sF, .int sN, .int sS, .int ig, .long xa, .long xb, .ref maa, .ref mab, .ref mba, .ref mbb]))])) := by
  refine xMet.intro (by decide) (Nat.le_of_ble_eq_true rfl) ?_
  intro p e s m args below meth c A ls C hP hD hS hl
  have hx := C.1
  have hb := C.2.1
  have hz := C.2.2.2.2.1
  have hown := C.2.2.2.1
  have hA := C.2.2.2.2.2.2.2.2.2
  have hAO := C.2.2.2.2.2.2.2.2.1.2.2
  replace hl : lv_has ls 2 [(0, .ref hm), (1, .int x)] := hl
  obtain ⟨H, hH⟩ : ∃ H, H = s.heap := ⟨_, rfl⟩
  replace hP : va_P D vwCl [(hm, .inr (12, [.ref ms, .ref mkp, .int (nI km), .ref mtr, .int (nI n), .int (nI k), .int (nI al), .int (nI be), .int ea, .int pr, .ref mas, .int nq, .int po, .int (nI en), .ref mso, .ref mon, .ref mot, .ref man, .int th, .int xd, .ref mst, .ref msm, .ref mtb, .ref mti, .ref mfr, .ref mbn, .ref mbs, .ref mde, .int sF, .int sN, .int sS, .int ig, .long xa, .long xb, .ref maa, .ref mab, .ref mba, .ref mbb]))] H := by rw [hH]; exact hP
  replace hS : va_S A s.heap H [] := by rw [hH]; exact hS
  obtain ⟨locs, hlocs⟩ : ∃ z : List Loc, z = [] := ⟨_, rfl⟩
  rw [← hlocs] at hS
  suffices hW : W p l e ({ frames := 2, cells := 0, slots := 0, locals := 48 } : Room) s m args below meth c H locs 0 0 (MQ below ((xQl D (fun (r : Int64) (_u : Unit) => True) (fun (_u : Unit) => [(hm, .inr (12, [.ref ms, .ref mkp, .int (nI km), .ref mtr, .int (nI n), .int (nI k), .int (nI al), .int (nI be), .int ea, .int pr, .ref mas, .int nq, .int po, .int (nI en), .ref mso, .ref mon, .ref mot, .ref man, .int th, .int xd, .ref mst, .ref msm, .ref mtb, .ref mti, .ref mfr, .ref mbn, .ref mbs, .ref mde, .int sF, .int sN, .int sS, .int ig, .long xa, .long xb, .ref maa, .ref mab, .ref mba, .ref mbb]))])) A) args s 0 0 A) (F0 m 0 ls []) by rw [hlocs, hH] at hW; exact hW
  clear hH hlocs
  refine lv_iload_n hx hb dX12_down_0 rfl (lv_at hl 1 rfl) ?_
  refine lv_i2l hx hb dX12_down_1 rfl ?_
  refine lv_aload_n hx hb dX12_down_2 rfl (lv_at hl 0 rfl) ?_
  refine lv_aload_n hx hb dX12_down_3 rfl (lv_at hl 0 rfl) ?_
  refine xget C hP 0 rfl rfl zuX12 4 (by decide) zw5_217 rfl dX12_down_4 ?_
  refine lv_iload_n hx hb dX12_down_7 rfl (lv_at hl 1 rfl) ?_
  refine lv_isub hx hb dX12_down_8 ?_
  refine xl (wr := []) (xV (As := [.int ((nI n) - x)]) (rest := [.long x.toInt64]) C (c_X12_enough l D cs hm ms mkp mtr mas mso mon mot man mst msm mtb mti mfr mbn mbs mde maa mab mba mbb n k al be km en ea pr nq po th xd sF sN sS ig xa xb ((nI n) - x) hn hkn hal) kX12_273 hP hD [0] rfl (by decide +kernel) 0 rfl rfl rfl ⟨Nat.le_of_ble_eq_true rfl, Nat.le_of_ble_eq_true rfl⟩ rfl hl.1 rfl (Nat.le_of_ble_eq_true rfl) dX12_down_9 ⟨Nat.le_of_ble_eq_true rfl, Nat.le_of_ble_eq_true rfl⟩) hP hD hS hA [0] [] rfl rfl (by decide +kernel) (by decide +kernel) ?_
  clear hP hD hS
  try clear locs
  try clear H
  intro r_1 u_2 H locs hw_r_1 hP hD hS
  refine W.widen (k := 0) (n := 0) (Nat.le_of_ble_eq_true rfl) (Nat.le_of_ble_eq_true rfl) ?_
  replace hP : va_P D vwCl [(hm, .inr (12, [.ref ms, .ref mkp, .int (nI km), .ref mtr, .int (nI n), .int (nI k), .int (nI al), .int (nI be), .int ea, .int pr, .ref mas, .int nq, .int po, .int (nI en), .ref mso, .ref mon, .ref mot, .ref man, .int th, .int xd, .ref mst, .ref msm, .ref mtb, .ref mti, .ref mfr, .ref mbn, .ref mbs, .ref mde, .int sF, .int sN, .int sS, .int ig, .long xa, .long xb, .ref maa, .ref mab, .ref mba, .ref mbb]))] H := hP
  replace hD : va_D A [(hm, .inr (12, [.ref ms, .ref mkp, .int (nI km), .ref mtr, .int (nI n), .int (nI k), .int (nI al), .int (nI be), .int ea, .int pr, .ref mas, .int nq, .int po, .int (nI en), .ref mso, .ref mon, .ref mot, .ref man, .int th, .int xd, .ref mst, .ref msm, .ref mtb, .ref mti, .ref mfr, .ref mbn, .ref mbs, .ref mde, .int sF, .int sN, .int sS, .int ig, .long xa, .long xb, .ref maa, .ref mab, .ref mba, .ref mbb]))] := hD
  refine lv_lmul hx hb dX12_down_12 ?_
  exact xretl C () trivial hP hD hS (Nat.le_of_ble_eq_true rfl) (Nat.le_of_ble_eq_true rfl) dX12_down_13

set_option maxHeartbeats 4000000 in
set_option maxRecDepth 100000 in
theorem c_X12_mayStay (l : Launch) (D : va_G) (cs : Nat → ClassId) (hm ms mkp mtr mas mso mon mot man mst msm mtb mti mfr mbn mbs mde maa mab mba mbb : Nat) (n k al be km en : Nat) (ea pr nq po th xd sF sN sS ig : Int32) (xa xb : Int64) (j : Nat) (hn : 2 ≤ n ∧ n ≤ 8) (hkn : 1 ≤ k ∧ k < n) (hal : 1 ≤ al ∧ al ≤ k) (hj : j ≤ n) : xMet l D cs yX12_mayStay cX12_mayStay 5 (some .boolean) ({ frames := 3, cells := 0, slots := 0, locals := 69 } : Room) [.ref hm, .int (nI j)] [(hm, .inr (12, [.ref ms, .ref mkp, .int (nI km), .ref mtr, .int (nI n), .int (nI k), .int (nI al), .int (nI be), .int ea, .int pr, .ref mas, .int nq, .int po, .int (nI en), .ref mso, .ref mon, .ref mot, .ref man, .int th, .int xd, .ref mst, .ref msm, .ref mtb, .ref mti, .ref mfr, .ref mbn, .ref mbs, .ref mde, .int sF, .int sN, .int sS, .int ig, .long xa, .long xb, .ref maa, .ref mab, .ref mba, .ref mbb]))] (xQi D (fun (r : Int32) (_u : Unit) => (r = nI 0 ∨ r = nI 1)) (fun (_u : Unit) => [(hm, .inr (12, [.ref ms, .ref mkp, .int (nI km), .ref mtr, .int (nI n), .int (nI k), .int (nI al), .int (nI be), .int ea, .int pr, .ref mas, .int nq, .int po, .int (nI en), .ref mso, .ref mon, .ref mot, .ref man, .int th, .int xd, .ref mst, .ref msm, .ref mtb, .ref mti, .ref mfr, .ref mbn, .ref mbs, .ref mde, .int sF, .int sN, .int sS, .int ig, .long xa, .long xb, .ref maa, .ref mab, .ref mba, .ref mbb]))])) := by
  refine xMet.intro (by decide) (Nat.le_of_ble_eq_true rfl) ?_
  intro p e s m args below meth c A ls C hP hD hS hl
  have hx := C.1
  have hb := C.2.1
  have hz := C.2.2.2.2.1
  have hown := C.2.2.2.1
  have hA := C.2.2.2.2.2.2.2.2.2
  have hAO := C.2.2.2.2.2.2.2.2.1.2.2
  replace hl : lv_has ls 5 [(0, .ref hm), (1, .int (nI j))] := hl
  obtain ⟨H, hH⟩ : ∃ H, H = s.heap := ⟨_, rfl⟩
  replace hP : va_P D vwCl [(hm, .inr (12, [.ref ms, .ref mkp, .int (nI km), .ref mtr, .int (nI n), .int (nI k), .int (nI al), .int (nI be), .int ea, .int pr, .ref mas, .int nq, .int po, .int (nI en), .ref mso, .ref mon, .ref mot, .ref man, .int th, .int xd, .ref mst, .ref msm, .ref mtb, .ref mti, .ref mfr, .ref mbn, .ref mbs, .ref mde, .int sF, .int sN, .int sS, .int ig, .long xa, .long xb, .ref maa, .ref mab, .ref mba, .ref mbb]))] H := by rw [hH]; exact hP
  replace hS : va_S A s.heap H [] := by rw [hH]; exact hS
  obtain ⟨locs, hlocs⟩ : ∃ z : List Loc, z = [] := ⟨_, rfl⟩
  rw [← hlocs] at hS
  suffices hW : W p l e ({ frames := 3, cells := 0, slots := 0, locals := 69 } : Room) s m args below meth c H locs 0 0 (MQ below ((xQi D (fun (r : Int32) (_u : Unit) => (r = nI 0 ∨ r = nI 1)) (fun (_u : Unit) => [(hm, .inr (12, [.ref ms, .ref mkp, .int (nI km), .ref mtr, .int (nI n), .int (nI k), .int (nI al), .int (nI be), .int ea, .int pr, .ref mas, .int nq, .int po, .int (nI en), .ref mso, .ref mon, .ref mot, .ref man, .int th, .int xd, .ref mst, .ref msm, .ref mtb, .ref mti, .ref mfr, .ref mbn, .ref mbs, .ref mde, .int sF, .int sN, .int sS, .int ig, .long xa, .long xb, .ref maa, .ref mab, .ref mba, .ref mbb]))])) A) args s 0 0 A) (F0 m 0 ls []) by rw [hlocs, hH] at hW; exact hW
  clear hH hlocs
  refine lv_iload_n hx hb dX12_mayStay_0 rfl (lv_at hl 1 rfl) ?_
  refine lv_if_eq (tgt := 12) hx hb dX12_mayStay_1 (by decide) (fun c_1 => ?_) (fun c_1 => ?_)
  · -- 1 t
    have fc_1 : j = 0 := nf_eq (by omega) (by omega) c_1
    refine lv_iconst (v := nI 0) hx hb dX12_mayStay_12 (by decide) ?_
    exact xreti C () (by decide) hP hD hS (Nat.le_of_ble_eq_true rfl) (Nat.le_of_ble_eq_true rfl) (by decide) dX12_mayStay_13
  · -- 1 f
    have fc_1 : j ≠ 0 := nf_ne (by omega) (by omega) c_1
    refine lv_iload_n hx hb dX12_mayStay_4 rfl (lv_at hl 1 rfl) ?_
    refine lv_aload_n hx hb dX12_mayStay_5 rfl (lv_at hl 0 rfl) ?_
    refine xget C hP 0 rfl rfl zuX12 4 (by decide) zw5_217 rfl dX12_mayStay_6 ?_
    refine lv_icmp_ne (tgt := 14) hx hb dX12_mayStay_9 (by decide) (fun c_2 => ?_) (fun c_2 => ?_)
    · -- 9 t
      have fc_2 : j ≠ n := nf_ne (by omega) (by omega) c_2
      refine lv_iload_n hx hb dX12_mayStay_14 rfl (lv_at hl 1 rfl) ?_
      refine lv_istore_n (lv' := [(2, .int (nI j)), (0, .ref hm), (1, .int (nI j))]) hx hb dX12_mayStay_15 rfl hl (by decide) rfl ?_
      clear hl
      try clear ls
      intro ls hl
      have loop_3 : ∀ (n_loop_3 : Nat) (lo : Nat), (lo ≤ 8) → lo < n_loop_3 → ∀ (H : Heap) (locs : List Loc) (ls : Array Slot), va_P D vwCl [(hm, .inr (12, [.ref ms, .ref mkp, .int (nI km), .ref mtr, .int (nI n), .int (nI k), .int (nI al), .int (nI be), .int ea, .int pr, .ref mas, .int nq, .int po, .int (nI en), .ref mso, .ref mon, .ref mot, .ref man, .int th, .int xd, .ref mst, .ref msm, .ref mtb, .ref mti, .ref mfr, .ref mbn, .ref mbs, .ref mde, .int sF, .int sN, .int sS, .int ig, .long xa, .long xb, .ref maa, .ref mab, .ref mba, .ref mbb]))] H → va_D A [(hm, .inr (12, [.ref ms, .ref mkp, .int (nI km), .ref mtr, .int (nI n), .int (nI k), .int (nI al), .int (nI be), .int ea, .int pr, .ref mas, .int nq, .int po, .int (nI en), .ref mso, .ref mon, .ref mot, .ref man, .int th, .int xd, .ref mst, .ref msm, .ref mtb, .ref mti, .ref mfr, .ref mbn, .ref mbs, .ref mde, .int sF, .int sN, .int sS, .int ig, .long xa, .long xb, .ref maa, .ref mab, .ref mba, .ref mbb]))] → va_S A s.heap H locs → lv_has ls 5 [(2, .int (nI lo)), (0, .ref hm), (1, .int (nI j))] → W p l e ({ frames := 3, cells := 0, slots := 0, locals := 69 } : Room) s m args below meth c H locs 0 0 (MQ below ((xQi D (fun (r : Int32) (_u : Unit) => (r = nI 0 ∨ r = nI 1)) (fun (_u : Unit) => [(hm, .inr (12, [.ref ms, .ref mkp, .int (nI km), .ref mtr, .int (nI n), .int (nI k), .int (nI al), .int (nI be), .int ea, .int pr, .ref mas, .int nq, .int po, .int (nI en), .ref mso, .ref mon, .ref mot, .ref man, .int th, .int xd, .ref mst, .ref msm, .ref mtb, .ref mti, .ref mfr, .ref mbn, .ref mbs, .ref mde, .int sF, .int sN, .int sS, .int ig, .long xa, .long xb, .ref maa, .ref mab, .ref mba, .ref mbb]))])) A) args s 0 0 A) (F0 m 16 ls []) := by
        intro n_loop_3
        induction n_loop_3 with
        | zero => intro lo hlo hlt H locs ls hP hD hS hl; exact absurd hlt (Nat.not_lt_zero _)
        | succ n_loop_3 ih_loop_3 =>
          intro lo hlo hlt_loop_3 H locs ls hP hD hS hl
          refine lv_iload_n hx hb dX12_mayStay_16 rfl (lv_at hl 0 rfl) ?_
          refine lv_if_le (tgt := 36) hx hb dX12_mayStay_17 (by decide) (fun c_4 => ?_) (fun c_4 => ?_)
          · -- 17 t
            have fc_4 : lo ≤ 0 := nf_le (by omega) (by omega) c_4
            refine lv_iload_n hx hb dX12_mayStay_36 rfl (lv_at hl 2 rfl) ?_
            refine lv_istore_n (lv' := [(3, .int (nI j)), (2, .int (nI lo)), (0, .ref hm), (1, .int (nI j))]) hx hb dX12_mayStay_37 rfl hl (by decide) rfl ?_
            clear hl
            try clear ls
            intro ls hl
            have loop_5 : ∀ (n_loop_5 : Nat) (hi : Nat), (hi ≤ n) → n - hi < n_loop_5 → ∀ (H : Heap) (locs : List Loc) (ls : Array Slot), va_P D vwCl [(hm, .inr (12, [.ref ms, .ref mkp, .int (nI km), .ref mtr, .int (nI n), .int (nI k), .int (nI al), .int (nI be), .int ea, .int pr, .ref mas, .int nq, .int po, .int (nI en), .ref mso, .ref mon, .ref mot, .ref man, .int th, .int xd, .ref mst, .ref msm, .ref mtb, .ref mti, .ref mfr, .ref mbn, .ref mbs, .ref mde, .int sF, .int sN, .int sS, .int ig, .long xa, .long xb, .ref maa, .ref mab, .ref mba, .ref mbb]))] H → va_D A [(hm, .inr (12, [.ref ms, .ref mkp, .int (nI km), .ref mtr, .int (nI n), .int (nI k), .int (nI al), .int (nI be), .int ea, .int pr, .ref mas, .int nq, .int po, .int (nI en), .ref mso, .ref mon, .ref mot, .ref man, .int th, .int xd, .ref mst, .ref msm, .ref mtb, .ref mti, .ref mfr, .ref mbn, .ref mbs, .ref mde, .int sF, .int sN, .int sS, .int ig, .long xa, .long xb, .ref maa, .ref mab, .ref mba, .ref mbb]))] → va_S A s.heap H locs → lv_has ls 5 [(3, .int (nI hi)), (2, .int (nI lo)), (0, .ref hm), (1, .int (nI j))] → W p l e ({ frames := 3, cells := 0, slots := 0, locals := 69 } : Room) s m args below meth c H locs 0 0 (MQ below ((xQi D (fun (r : Int32) (_u : Unit) => (r = nI 0 ∨ r = nI 1)) (fun (_u : Unit) => [(hm, .inr (12, [.ref ms, .ref mkp, .int (nI km), .ref mtr, .int (nI n), .int (nI k), .int (nI al), .int (nI be), .int ea, .int pr, .ref mas, .int nq, .int po, .int (nI en), .ref mso, .ref mon, .ref mot, .ref man, .int th, .int xd, .ref mst, .ref msm, .ref mtb, .ref mti, .ref mfr, .ref mbn, .ref mbs, .ref mde, .int sF, .int sN, .int sS, .int ig, .long xa, .long xb, .ref maa, .ref mab, .ref mba, .ref mbb]))])) A) args s 0 0 A) (F0 m 38 ls []) := by
              intro n_loop_5
              induction n_loop_5 with
              | zero => intro hi h_hi hlt H locs ls hP hD hS hl; exact absurd hlt (Nat.not_lt_zero _)
              | succ n_loop_5 ih_loop_5 =>
                intro hi h_hi hlt_loop_5 H locs ls hP hD hS hl
                refine lv_iload_n hx hb dX12_mayStay_38 rfl (lv_at hl 0 rfl) ?_
                refine lv_aload_n hx hb dX12_mayStay_39 rfl (lv_at hl 2 rfl) ?_
                refine xget C hP 0 rfl rfl zuX12 4 (by decide) zw5_217 rfl dX12_mayStay_40 ?_
                refine lv_icmp_ge (tgt := 62) hx hb dX12_mayStay_43 (by decide) (fun c_6 => ?_) (fun c_6 => ?_)
                · -- 43 t
                  have fc_6 : n ≤ hi := nf_le (by omega) (by omega) c_6
                  refine lv_iload_n hx hb dX12_mayStay_62 rfl (lv_at hl 1 rfl) ?_
                  refine lv_iconst (v := nI 1) hx hb dX12_mayStay_63 (by decide) ?_
                  refine lv_icmp_le (tgt := 71) hx hb dX12_mayStay_64 (by decide) (fun c_7 => ?_) (fun c_7 => ?_)
                  · -- 64 t
                    have fc_7 : lo ≤ 1 := nf_le (by omega) (by omega) c_7
                    refine lv_iconst (v := nI 1) hx hb dX12_mayStay_71 (by decide) ?_
                    refine lv_istore (lv' := [(4, .int (nI 1)), (3, .int (nI hi)), (2, .int (nI lo)), (0, .ref hm), (1, .int (nI j))]) hx hb dX12_mayStay_72 hl (by decide) rfl ?_
                    clear hl
                    try clear ls
                    intro ls hl
                    have loop_8 : ∀ (n_loop_8 : Nat) (o : Nat), (o ≤ 9) → 9 - o < n_loop_8 → ∀ (H : Heap) (locs : List Loc) (ls : Array Slot), va_P D vwCl [(hm, .inr (12, [.ref ms, .ref mkp, .int (nI km), .ref mtr, .int (nI n), .int (nI k), .int (nI al), .int (nI be), .int ea, .int pr, .ref mas, .int nq, .int po, .int (nI en), .ref mso, .ref mon, .ref mot, .ref man, .int th, .int xd, .ref mst, .ref msm, .ref mtb, .ref mti, .ref mfr, .ref mbn, .ref mbs, .ref mde, .int sF, .int sN, .int sS, .int ig, .long xa, .long xb, .ref maa, .ref mab, .ref mba, .ref mbb]))] H → va_D A [(hm, .inr (12, [.ref ms, .ref mkp, .int (nI km), .ref mtr, .int (nI n), .int (nI k), .int (nI al), .int (nI be), .int ea, .int pr, .ref mas, .int nq, .int po, .int (nI en), .ref mso, .ref mon, .ref mot, .ref man, .int th, .int xd, .ref mst, .ref msm, .ref mtb, .ref mti, .ref mfr, .ref mbn, .ref mbs, .ref mde, .int sF, .int sN, .int sS, .int ig, .long xa, .long xb, .ref maa, .ref mab, .ref mba, .ref mbb]))] → va_S A s.heap H locs → lv_has ls 5 [(4, .int (nI o)), (3, .int (nI hi)), (2, .int (nI lo)), (0, .ref hm), (1, .int (nI j))] → W p l e ({ frames := 3, cells := 0, slots := 0, locals := 69 } : Room) s m args below meth c H locs 0 0 (MQ below ((xQi D (fun (r : Int32) (_u : Unit) => (r = nI 0 ∨ r = nI 1)) (fun (_u : Unit) => [(hm, .inr (12, [.ref ms, .ref mkp, .int (nI km), .ref mtr, .int (nI n), .int (nI k), .int (nI al), .int (nI be), .int ea, .int pr, .ref mas, .int nq, .int po, .int (nI en), .ref mso, .ref mon, .ref mot, .ref man, .int th, .int xd, .ref mst, .ref msm, .ref mtb, .ref mti, .ref mfr, .ref mbn, .ref mbs, .ref mde, .int sF, .int sN, .int sS, .int ig, .long xa, .long xb, .ref maa, .ref mab, .ref mba, .ref mbb]))])) A) args s 0 0 A) (F0 m 74 ls []) := by
                      intro n_loop_8
                      induction n_loop_8 with
                      | zero => intro o h_o hlt H locs ls hP hD hS hl; exact absurd hlt (Nat.not_lt_zero _)
                      | succ n_loop_8 ih_loop_8 =>
                        intro o h_o hlt_loop_8 H locs ls hP hD hS hl
                        refine lv_iload hx hb dX12_mayStay_74 (lv_at hl 0 rfl) ?_
                        refine lv_iload_n hx hb dX12_mayStay_76 rfl (lv_at hl 1 rfl) ?_
                        refine lv_icmp_gt (tgt := 119) hx hb dX12_mayStay_77 (by decide) (fun c_9 => ?_) (fun c_9 => ?_)
                        · -- 77 t
                          have fc_9 : hi < o := nf_lt (by omega) (by omega) c_9
                          refine lv_iconst (v := nI 0) hx hb dX12_mayStay_119 (by decide) ?_
                          exact xreti C () (by decide) hP hD hS (Nat.le_of_ble_eq_true rfl) (Nat.le_of_ble_eq_true rfl) (by decide) dX12_mayStay_120
                        · -- 77 f
                          have fc_9 : o ≤ hi := nf_nlt (by omega) (by omega) c_9
                          refine lv_iload hx hb dX12_mayStay_80 (lv_at hl 0 rfl) ?_
                          refine lv_aload_n hx hb dX12_mayStay_82 rfl (lv_at hl 3 rfl) ?_
                          refine xget C hP 0 rfl rfl zuX12 4 (by decide) zw5_217 rfl dX12_mayStay_83 ?_
                          refine lv_icmp_ge (tgt := 119) hx hb dX12_mayStay_86 (by decide) (fun c_10 => ?_) (fun c_10 => ?_)
                          · -- 86 t
                            have fc_10 : n ≤ o := nf_le (by omega) (by omega) c_10
                            refine lv_iconst (v := nI 0) hx hb dX12_mayStay_119 (by decide) ?_
                            exact xreti C () (by decide) hP hD hS (Nat.le_of_ble_eq_true rfl) (Nat.le_of_ble_eq_true rfl) (by decide) dX12_mayStay_120
                          · -- 86 f
                            have fc_10 : o < n := nf_nle (by omega) (by omega) c_10
                            refine lv_aload_n hx hb dX12_mayStay_89 rfl (lv_at hl 3 rfl) ?_
                            refine lv_iload hx hb dX12_mayStay_90 (lv_at hl 0 rfl) ?_
                            refine xl (wr := []) (xV (As := [.int (nI o)]) (rest := []) C (c_X12_up l D cs hm ms mkp mtr mas mso mon mot man mst msm mtb mti mfr mbn mbs mde maa mab mba mbb n k al be km en ea pr nq po th xd sF sN sS ig xa xb (nI o) hn hkn hal) kX12_280 hP hD [0] rfl (by decide +kernel) 0 rfl rfl rfl ⟨Nat.le_of_ble_eq_true rfl, Nat.le_of_ble_eq_true rfl⟩ rfl hl.1 rfl (Nat.le_of_ble_eq_true rfl) dX12_mayStay_92 ⟨Nat.le_of_ble_eq_true rfl, Nat.le_of_ble_eq_true rfl⟩) hP hD hS hA [0] [] rfl rfl (by decide +kernel) (by decide +kernel) ?_
                            clear hP hD hS
                            try clear locs
                            try clear H
                            intro r_11 u_12 H locs hw_r_11 hP hD hS
                            refine W.widen (k := 0) (n := 0) (Nat.le_of_ble_eq_true rfl) (Nat.le_of_ble_eq_true rfl) ?_
                            replace hP : va_P D vwCl [(hm, .inr (12, [.ref ms, .ref mkp, .int (nI km), .ref mtr, .int (nI n), .int (nI k), .int (nI al), .int (nI be), .int ea, .int pr, .ref mas, .int nq, .int po, .int (nI en), .ref mso, .ref mon, .ref mot, .ref man, .int th, .int xd, .ref mst, .ref msm, .ref mtb, .ref mti, .ref mfr, .ref mbn, .ref mbs, .ref mde, .int sF, .int sN, .int sS, .int ig, .long xa, .long xb, .ref maa, .ref mab, .ref mba, .ref mbb]))] H := hP
                            replace hD : va_D A [(hm, .inr (12, [.ref ms, .ref mkp, .int (nI km), .ref mtr, .int (nI n), .int (nI k), .int (nI al), .int (nI be), .int ea, .int pr, .ref mas, .int nq, .int po, .int (nI en), .ref mso, .ref mon, .ref mot, .ref man, .int th, .int xd, .ref mst, .ref msm, .ref mtb, .ref mti, .ref mfr, .ref mbn, .ref mbs, .ref mde, .int sF, .int sN, .int sS, .int ig, .long xa, .long xb, .ref maa, .ref mab, .ref mba, .ref mbb]))] := hD
                            refine lv_lconst (v := 0) hx hb dX12_mayStay_95 (by decide) ?_
                            refine W.lcmp hx hb dX12_mayStay_96 ?_
                            refine lv_if_ne (tgt := 113) hx hb dX12_mayStay_97 (by decide) (fun c_13 => ?_) (fun c_13 => ?_)
                            · -- 97 t
                              refine lv_iinc (v := nI (o + 1)) (lv' := [(4, .int (nI (o + 1))), (3, .int (nI hi)), (2, .int (nI lo)), (0, .ref hm), (1, .int (nI j))]) hx hb dX12_mayStay_113 hl (k := 0) rfl (nI_add o 1) (by decide) rfl ?_
                              clear hl
                              try clear ls
                              intro ls hl
                              refine lv_goto (tgt := 74) hx hb dX12_mayStay_116 (by decide) ?_
                              exact ih_loop_8 (o + 1) (by omega) (by omega) H locs ls hP hD hS (lv_sub hl [0, 1, 2, 3, 4] rfl)
                            · -- 97 f
                              refine lv_aload_n hx hb dX12_mayStay_100 rfl (lv_at hl 3 rfl) ?_
                              refine lv_iload hx hb dX12_mayStay_101 (lv_at hl 0 rfl) ?_
                              refine xl (wr := []) (xV (As := [.int (nI o)]) (rest := []) C (c_X12_down l D cs hm ms mkp mtr mas mso mon mot man mst msm mtb mti mfr mbn mbs mde maa mab mba mbb n k al be km en ea pr nq po th xd sF sN sS ig xa xb (nI o) hn hkn hal) kX12_283 hP hD [0] rfl (by decide +kernel) 0 rfl rfl rfl ⟨Nat.le_of_ble_eq_true rfl, Nat.le_of_ble_eq_true rfl⟩ rfl hl.1 rfl (Nat.le_of_ble_eq_true rfl) dX12_mayStay_103 ⟨Nat.le_of_ble_eq_true rfl, Nat.le_of_ble_eq_true rfl⟩) hP hD hS hA [0] [] rfl rfl (by decide +kernel) (by decide +kernel) ?_
                              clear hP hD hS
                              try clear locs
                              try clear H
                              intro r_14 u_15 H locs hw_r_14 hP hD hS
                              refine W.widen (k := 0) (n := 0) (Nat.le_of_ble_eq_true rfl) (Nat.le_of_ble_eq_true rfl) ?_
                              replace hP : va_P D vwCl [(hm, .inr (12, [.ref ms, .ref mkp, .int (nI km), .ref mtr, .int (nI n), .int (nI k), .int (nI al), .int (nI be), .int ea, .int pr, .ref mas, .int nq, .int po, .int (nI en), .ref mso, .ref mon, .ref mot, .ref man, .int th, .int xd, .ref mst, .ref msm, .ref mtb, .ref mti, .ref mfr, .ref mbn, .ref mbs, .ref mde, .int sF, .int sN, .int sS, .int ig, .long xa, .long xb, .ref maa, .ref mab, .ref mba, .ref mbb]))] H := hP
                              replace hD : va_D A [(hm, .inr (12, [.ref ms, .ref mkp, .int (nI km), .ref mtr, .int (nI n), .int (nI k), .int (nI al), .int (nI be), .int ea, .int pr, .ref mas, .int nq, .int po, .int (nI en), .ref mso, .ref mon, .ref mot, .ref man, .int th, .int xd, .ref mst, .ref msm, .ref mtb, .ref mti, .ref mfr, .ref mbn, .ref mbs, .ref mde, .int sF, .int sN, .int sS, .int ig, .long xa, .long xb, .ref maa, .ref mab, .ref mba, .ref mbb]))] := hD
                              refine lv_lconst (v := 0) hx hb dX12_mayStay_106 (by decide) ?_
                              refine W.lcmp hx hb dX12_mayStay_107 ?_
                              refine lv_if_ne (tgt := 113) hx hb dX12_mayStay_108 (by decide) (fun c_16 => ?_) (fun c_16 => ?_)
                              · -- 108 t
                                refine lv_iinc (v := nI (o + 1)) (lv' := [(4, .int (nI (o + 1))), (3, .int (nI hi)), (2, .int (nI lo)), (0, .ref hm), (1, .int (nI j))]) hx hb dX12_mayStay_113 hl (k := 0) rfl (nI_add o 1) (by decide) rfl ?_
                                clear hl
                                try clear ls
                                intro ls hl
                                refine lv_goto (tgt := 74) hx hb dX12_mayStay_116 (by decide) ?_
                                exact ih_loop_8 (o + 1) (by omega) (by omega) H locs ls hP hD hS (lv_sub hl [0, 1, 2, 3, 4] rfl)
                              · -- 108 f
                                refine lv_iconst (v := nI 1) hx hb dX12_mayStay_111 (by decide) ?_
                                exact xreti C () (by decide) hP hD hS (Nat.le_of_ble_eq_true rfl) (Nat.le_of_ble_eq_true rfl) (by decide) dX12_mayStay_112
                    exact loop_8 _ 1 (by omega) (Nat.lt_succ_self _) H locs ls hP hD hS (lv_sub hl [0, 1, 2, 3, 4] rfl)
                  · -- 64 f
                    have fc_7 : 1 < lo := nf_nle (by omega) (by omega) c_7
                    refine lv_iload_n hx hb dX12_mayStay_67 rfl (lv_at hl 1 rfl) ?_
                    refine lv_goto (tgt := 72) hx hb dX12_mayStay_68 (by decide) ?_
                    refine lv_istore (lv' := [(4, .int (nI lo)), (3, .int (nI hi)), (2, .int (nI lo)), (0, .ref hm), (1, .int (nI j))]) hx hb dX12_mayStay_72 hl (by decide) rfl ?_
                    clear hl
                    try clear ls
                    intro ls hl
                    have loop_17 : ∀ (n_loop_17 : Nat) (o : Nat), (o ≤ 9) → 9 - o < n_loop_17 → ∀ (H : Heap) (locs : List Loc) (ls : Array Slot), va_P D vwCl [(hm, .inr (12, [.ref ms, .ref mkp, .int (nI km), .ref mtr, .int (nI n), .int (nI k), .int (nI al), .int (nI be), .int ea, .int pr, .ref mas, .int nq, .int po, .int (nI en), .ref mso, .ref mon, .ref mot, .ref man, .int th, .int xd, .ref mst, .ref msm, .ref mtb, .ref mti, .ref mfr, .ref mbn, .ref mbs, .ref mde, .int sF, .int sN, .int sS, .int ig, .long xa, .long xb, .ref maa, .ref mab, .ref mba, .ref mbb]))] H → va_D A [(hm, .inr (12, [.ref ms, .ref mkp, .int (nI km), .ref mtr, .int (nI n), .int (nI k), .int (nI al), .int (nI be), .int ea, .int pr, .ref mas, .int nq, .int po, .int (nI en), .ref mso, .ref mon, .ref mot, .ref man, .int th, .int xd, .ref mst, .ref msm, .ref mtb, .ref mti, .ref mfr, .ref mbn, .ref mbs, .ref mde, .int sF, .int sN, .int sS, .int ig, .long xa, .long xb, .ref maa, .ref mab, .ref mba, .ref mbb]))] → va_S A s.heap H locs → lv_has ls 5 [(4, .int (nI o)), (3, .int (nI hi)), (2, .int (nI lo)), (0, .ref hm), (1, .int (nI j))] → W p l e ({ frames := 3, cells := 0, slots := 0, locals := 69 } : Room) s m args below meth c H locs 0 0 (MQ below ((xQi D (fun (r : Int32) (_u : Unit) => (r = nI 0 ∨ r = nI 1)) (fun (_u : Unit) => [(hm, .inr (12, [.ref ms, .ref mkp, .int (nI km), .ref mtr, .int (nI n), .int (nI k), .int (nI al), .int (nI be), .int ea, .int pr, .ref mas, .int nq, .int po, .int (nI en), .ref mso, .ref mon, .ref mot, .ref man, .int th, .int xd, .ref mst, .ref msm, .ref mtb, .ref mti, .ref mfr, .ref mbn, .ref mbs, .ref mde, .int sF, .int sN, .int sS, .int ig, .long xa, .long xb, .ref maa, .ref mab, .ref mba, .ref mbb]))])) A) args s 0 0 A) (F0 m 74 ls []) := by
                      intro n_loop_17
                      induction n_loop_17 with
                      | zero => intro o h_o hlt H locs ls hP hD hS hl; exact absurd hlt (Nat.not_lt_zero _)
                      | succ n_loop_17 ih_loop_17 =>
                        intro o h_o hlt_loop_17 H locs ls hP hD hS hl
                        refine lv_iload hx hb dX12_mayStay_74 (lv_at hl 0 rfl) ?_
                        refine lv_iload_n hx hb dX12_mayStay_76 rfl (lv_at hl 1 rfl) ?_
                        refine lv_icmp_gt (tgt := 119) hx hb dX12_mayStay_77 (by decide) (fun c_18 => ?_) (fun c_18 => ?_)
                        · -- 77 t
                          have fc_18 : hi < o := nf_lt (by omega) (by omega) c_18
                          refine lv_iconst (v := nI 0) hx hb dX12_mayStay_119 (by decide) ?_
                          exact xreti C () (by decide) hP hD hS (Nat.le_of_ble_eq_true rfl) (Nat.le_of_ble_eq_true rfl) (by decide) dX12_mayStay_120
                        · -- 77 f
                          have fc_18 : o ≤ hi := nf_nlt (by omega) (by omega) c_18
                          refine lv_iload hx hb dX12_mayStay_80 (lv_at hl 0 rfl) ?_
                          refine lv_aload_n hx hb dX12_mayStay_82 rfl (lv_at hl 3 rfl) ?_
                          refine xget C hP 0 rfl rfl zuX12 4 (by decide) zw5_217 rfl dX12_mayStay_83 ?_
                          refine lv_icmp_ge (tgt := 119) hx hb dX12_mayStay_86 (by decide) (fun c_19 => ?_) (fun c_19 => ?_)
                          · -- 86 t
                            have fc_19 : n ≤ o := nf_le (by omega) (by omega) c_19
                            refine lv_iconst (v := nI 0) hx hb dX12_mayStay_119 (by decide) ?_
                            exact xreti C () (by decide) hP hD hS (Nat.le_of_ble_eq_true rfl) (Nat.le_of_ble_eq_true rfl) (by decide) dX12_mayStay_120
                          · -- 86 f
                            have fc_19 : o < n := nf_nle (by omega) (by omega) c_19
                            refine lv_aload_n hx hb dX12_mayStay_89 rfl (lv_at hl 3 rfl) ?_
                            refine lv_iload hx hb dX12_mayStay_90 (lv_at hl 0 rfl) ?_
                            refine xl (wr := []) (xV (As := [.int (nI o)]) (rest := []) C (c_X12_up l D cs hm ms mkp mtr mas mso mon mot man mst msm mtb mti mfr mbn mbs mde maa mab mba mbb n k al be km en ea pr nq po th xd sF sN sS ig xa xb (nI o) hn hkn hal) kX12_280 hP hD [0] rfl (by decide +kernel) 0 rfl rfl rfl ⟨Nat.le_of_ble_eq_true rfl, Nat.le_of_ble_eq_true rfl⟩ rfl hl.1 rfl (Nat.le_of_ble_eq_true rfl) dX12_mayStay_92 ⟨Nat.le_of_ble_eq_true rfl, Nat.le_of_ble_eq_true rfl⟩) hP hD hS hA [0] [] rfl rfl (by decide +kernel) (by decide +kernel) ?_
                            clear hP hD hS
                            try clear locs
                            try clear H
                            intro r_20 u_21 H locs hw_r_20 hP hD hS
                            refine W.widen (k := 0) (n := 0) (Nat.le_of_ble_eq_true rfl) (Nat.le_of_ble_eq_true rfl) ?_
                            replace hP : va_P D vwCl [(hm, .inr (12, [.ref ms, .ref mkp, .int (nI km), .ref mtr, .int (nI n), .int (nI k), .int (nI al), .int (nI be), .int ea, .int pr, .ref mas, .int nq, .int po, .int (nI en), .ref mso, .ref mon, .ref mot, .ref man, .int th, .int xd, .ref mst, .ref msm, .ref mtb, .ref mti, .ref mfr, .ref mbn, .ref mbs, .ref mde, .int sF, .int sN, .int sS, .int ig, .long xa, .long xb, .ref maa, .ref mab, .ref mba, .ref mbb]))] H := hP
                            replace hD : va_D A [(hm, .inr (12, [.ref ms, .ref mkp, .int (nI km), .ref mtr, .int (nI n), .int (nI k), .int (nI al), .int (nI be), .int ea, .int pr, .ref mas, .int nq, .int po, .int (nI en), .ref mso, .ref mon, .ref mot, .ref man, .int th, .int xd, .ref mst, .ref msm, .ref mtb, .ref mti, .ref mfr, .ref mbn, .ref mbs, .ref mde, .int sF, .int sN, .int sS, .int ig, .long xa, .long xb, .ref maa, .ref mab, .ref mba, .ref mbb]))] := hD
                            refine lv_lconst (v := 0) hx hb dX12_mayStay_95 (by decide) ?_
                            refine W.lcmp hx hb dX12_mayStay_96 ?_
                            refine lv_if_ne (tgt := 113) hx hb dX12_mayStay_97 (by decide) (fun c_22 => ?_) (fun c_22 => ?_)
                            · -- 97 t
                              refine lv_iinc (v := nI (o + 1)) (lv' := [(4, .int (nI (o + 1))), (3, .int (nI hi)), (2, .int (nI lo)), (0, .ref hm), (1, .int (nI j))]) hx hb dX12_mayStay_113 hl (k := 0) rfl (nI_add o 1) (by decide) rfl ?_
                              clear hl
                              try clear ls
                              intro ls hl
                              refine lv_goto (tgt := 74) hx hb dX12_mayStay_116 (by decide) ?_
                              exact ih_loop_17 (o + 1) (by omega) (by omega) H locs ls hP hD hS (lv_sub hl [0, 1, 2, 3, 4] rfl)
                            · -- 97 f
                              refine lv_aload_n hx hb dX12_mayStay_100 rfl (lv_at hl 3 rfl) ?_
                              refine lv_iload hx hb dX12_mayStay_101 (lv_at hl 0 rfl) ?_
                              refine xl (wr := []) (xV (As := [.int (nI o)]) (rest := []) C (c_X12_down l D cs hm ms mkp mtr mas mso mon mot man mst msm mtb mti mfr mbn mbs mde maa mab mba mbb n k al be km en ea pr nq po th xd sF sN sS ig xa xb (nI o) hn hkn hal) kX12_283 hP hD [0] rfl (by decide +kernel) 0 rfl rfl rfl ⟨Nat.le_of_ble_eq_true rfl, Nat.le_of_ble_eq_true rfl⟩ rfl hl.1 rfl (Nat.le_of_ble_eq_true rfl) dX12_mayStay_103 ⟨Nat.le_of_ble_eq_true rfl, Nat.le_of_ble_eq_true rfl⟩) hP hD hS hA [0] [] rfl rfl (by decide +kernel) (by decide +kernel) ?_
                              clear hP hD hS
                              try clear locs
                              try clear H
                              intro r_23 u_24 H locs hw_r_23 hP hD hS
                              refine W.widen (k := 0) (n := 0) (Nat.le_of_ble_eq_true rfl) (Nat.le_of_ble_eq_true rfl) ?_
                              replace hP : va_P D vwCl [(hm, .inr (12, [.ref ms, .ref mkp, .int (nI km), .ref mtr, .int (nI n), .int (nI k), .int (nI al), .int (nI be), .int ea, .int pr, .ref mas, .int nq, .int po, .int (nI en), .ref mso, .ref mon, .ref mot, .ref man, .int th, .int xd, .ref mst, .ref msm, .ref mtb, .ref mti, .ref mfr, .ref mbn, .ref mbs, .ref mde, .int sF, .int sN, .int sS, .int ig, .long xa, .long xb, .ref maa, .ref mab, .ref mba, .ref mbb]))] H := hP
                              replace hD : va_D A [(hm, .inr (12, [.ref ms, .ref mkp, .int (nI km), .ref mtr, .int (nI n), .int (nI k), .int (nI al), .int (nI be), .int ea, .int pr, .ref mas, .int nq, .int po, .int (nI en), .ref mso, .ref mon, .ref mot, .ref man, .int th, .int xd, .ref mst, .ref msm, .ref mtb, .ref mti, .ref mfr, .ref mbn, .ref mbs, .ref mde, .int sF, .int sN, .int sS, .int ig, .long xa, .long xb, .ref maa, .ref mab, .ref mba, .ref mbb]))] := hD
                              refine lv_lconst (v := 0) hx hb dX12_mayStay_106 (by decide) ?_
                              refine W.lcmp hx hb dX12_mayStay_107 ?_
                              refine lv_if_ne (tgt := 113) hx hb dX12_mayStay_108 (by decide) (fun c_25 => ?_) (fun c_25 => ?_)
                              · -- 108 t
                                refine lv_iinc (v := nI (o + 1)) (lv' := [(4, .int (nI (o + 1))), (3, .int (nI hi)), (2, .int (nI lo)), (0, .ref hm), (1, .int (nI j))]) hx hb dX12_mayStay_113 hl (k := 0) rfl (nI_add o 1) (by decide) rfl ?_
                                clear hl
                                try clear ls
                                intro ls hl
                                refine lv_goto (tgt := 74) hx hb dX12_mayStay_116 (by decide) ?_
                                exact ih_loop_17 (o + 1) (by omega) (by omega) H locs ls hP hD hS (lv_sub hl [0, 1, 2, 3, 4] rfl)
                              · -- 108 f
                                refine lv_iconst (v := nI 1) hx hb dX12_mayStay_111 (by decide) ?_
                                exact xreti C () (by decide) hP hD hS (Nat.le_of_ble_eq_true rfl) (Nat.le_of_ble_eq_true rfl) (by decide) dX12_mayStay_112
                    exact loop_17 _ lo (by omega) (Nat.lt_succ_self _) H locs ls hP hD hS (lv_sub hl [0, 1, 2, 3, 4] rfl)
                · -- 43 f
                  have fc_6 : hi < n := nf_nle (by omega) (by omega) c_6
                  refine lv_aload_n hx hb dX12_mayStay_46 rfl (lv_at hl 2 rfl) ?_
                  refine lv_iload_n hx hb dX12_mayStay_47 rfl (lv_at hl 0 rfl) ?_
                  refine xl (wr := []) (xV (As := [.int (nI hi)]) (rest := []) C (c_X12_up l D cs hm ms mkp mtr mas mso mon mot man mst msm mtb mti mfr mbn mbs mde maa mab mba mbb n k al be km en ea pr nq po th xd sF sN sS ig xa xb (nI hi) hn hkn hal) kX12_280 hP hD [0] rfl (by decide +kernel) 0 rfl rfl rfl ⟨Nat.le_of_ble_eq_true rfl, Nat.le_of_ble_eq_true rfl⟩ rfl hl.1 rfl (Nat.le_of_ble_eq_true rfl) dX12_mayStay_48 ⟨Nat.le_of_ble_eq_true rfl, Nat.le_of_ble_eq_true rfl⟩) hP hD hS hA [0] [] rfl rfl (by decide +kernel) (by decide +kernel) ?_
                  clear hP hD hS
                  try clear locs
                  try clear H
                  intro r_26 u_27 H locs hw_r_26 hP hD hS
                  refine W.widen (k := 0) (n := 0) (Nat.le_of_ble_eq_true rfl) (Nat.le_of_ble_eq_true rfl) ?_
                  replace hP : va_P D vwCl [(hm, .inr (12, [.ref ms, .ref mkp, .int (nI km), .ref mtr, .int (nI n), .int (nI k), .int (nI al), .int (nI be), .int ea, .int pr, .ref mas, .int nq, .int po, .int (nI en), .ref mso, .ref mon, .ref mot, .ref man, .int th, .int xd, .ref mst, .ref msm, .ref mtb, .ref mti, .ref mfr, .ref mbn, .ref mbs, .ref mde, .int sF, .int sN, .int sS, .int ig, .long xa, .long xb, .ref maa, .ref mab, .ref mba, .ref mbb]))] H := hP
                  replace hD : va_D A [(hm, .inr (12, [.ref ms, .ref mkp, .int (nI km), .ref mtr, .int (nI n), .int (nI k), .int (nI al), .int (nI be), .int ea, .int pr, .ref mas, .int nq, .int po, .int (nI en), .ref mso, .ref mon, .ref mot, .ref man, .int th, .int xd, .ref mst, .ref msm, .ref mtb, .ref mti, .ref mfr, .ref mbn, .ref mbs, .ref mde, .int sF, .int sN, .int sS, .int ig, .long xa, .long xb, .ref maa, .ref mab, .ref mba, .ref mbb]))] := hD
                  refine lv_lconst (v := 0) hx hb dX12_mayStay_51 (by decide) ?_
                  refine W.lcmp hx hb dX12_mayStay_52 ?_
                  refine lv_if_le (tgt := 62) hx hb dX12_mayStay_53 (by decide) (fun c_28 => ?_) (fun c_28 => ?_)
                  · -- 53 t
                    refine lv_iload_n hx hb dX12_mayStay_62 rfl (lv_at hl 1 rfl) ?_
                    refine lv_iconst (v := nI 1) hx hb dX12_mayStay_63 (by decide) ?_
                    refine lv_icmp_le (tgt := 71) hx hb dX12_mayStay_64 (by decide) (fun c_29 => ?_) (fun c_29 => ?_)
                    · -- 64 t
                      have fc_29 : lo ≤ 1 := nf_le (by omega) (by omega) c_29
                      refine lv_iconst (v := nI 1) hx hb dX12_mayStay_71 (by decide) ?_
                      refine lv_istore (lv' := [(4, .int (nI 1)), (3, .int (nI hi)), (2, .int (nI lo)), (0, .ref hm), (1, .int (nI j))]) hx hb dX12_mayStay_72 hl (by decide) rfl ?_
                      clear hl
                      try clear ls
                      intro ls hl
                      have loop_30 : ∀ (n_loop_30 : Nat) (o : Nat), (o ≤ 9) → 9 - o < n_loop_30 → ∀ (H : Heap) (locs : List Loc) (ls : Array Slot), va_P D vwCl [(hm, .inr (12, [.ref ms, .ref mkp, .int (nI km), .ref mtr, .int (nI n), .int (nI k), .int (nI al), .int (nI be), .int ea, .int pr, .ref mas, .int nq, .int po, .int (nI en), .ref mso, .ref mon, .ref mot, .ref man, .int th, .int xd, .ref mst, .ref msm, .ref mtb, .ref mti, .ref mfr, .ref mbn, .ref mbs, .ref mde, .int sF, .int sN, .int sS, .int ig, .long xa, .long xb, .ref maa, .ref mab, .ref mba, .ref mbb]))] H → va_D A [(hm, .inr (12, [.ref ms, .ref mkp, .int (nI km), .ref mtr, .int (nI n), .int (nI k), .int (nI al), .int (nI be), .int ea, .int pr, .ref mas, .int nq, .int po, .int (nI en), .ref mso, .ref mon, .ref mot, .ref man, .int th, .int xd, .ref mst, .ref msm, .ref mtb, .ref mti, .ref mfr, .ref mbn, .ref mbs, .ref mde, .int sF, .int sN, .int sS, .int ig, .long xa, .long xb, .ref maa, .ref mab, .ref mba, .ref mbb]))] → va_S A s.heap H locs → lv_has ls 5 [(4, .int (nI o)), (3, .int (nI hi)), (2, .int (nI lo)), (0, .ref hm), (1, .int (nI j))] → W p l e ({ frames := 3, cells := 0, slots := 0, locals := 69 } : Room) s m args below meth c H locs 0 0 (MQ below ((xQi D (fun (r : Int32) (_u : Unit) => (r = nI 0 ∨ r = nI 1)) (fun (_u : Unit) => [(hm, .inr (12, [.ref ms, .ref mkp, .int (nI km), .ref mtr, .int (nI n), .int (nI k), .int (nI al), .int (nI be), .int ea, .int pr, .ref mas, .int nq, .int po, .int (nI en), .ref mso, .ref mon, .ref mot, .ref man, .int th, .int xd, .ref mst, .ref msm, .ref mtb, .ref mti, .ref mfr, .ref mbn, .ref mbs, .ref mde, .int sF, .int sN, .int sS, .int ig, .long xa, .long xb, .ref maa, .ref mab, .ref mba, .ref mbb]))])) A) args s 0 0 A) (F0 m 74 ls []) := by
                        intro n_loop_30
                        induction n_loop_30 with
                        | zero => intro o h_o hlt H locs ls hP hD hS hl; exact absurd hlt (Nat.not_lt_zero _)
                        | succ n_loop_30 ih_loop_30 =>
                          intro o h_o hlt_loop_30 H locs ls hP hD hS hl
                          refine lv_iload hx hb dX12_mayStay_74 (lv_at hl 0 rfl) ?_
                          refine lv_iload_n hx hb dX12_mayStay_76 rfl (lv_at hl 1 rfl) ?_
                          refine lv_icmp_gt (tgt := 119) hx hb dX12_mayStay_77 (by decide) (fun c_31 => ?_) (fun c_31 => ?_)
                          · -- 77 t
                            have fc_31 : hi < o := nf_lt (by omega) (by omega) c_31
                            refine lv_iconst (v := nI 0) hx hb dX12_mayStay_119 (by decide) ?_
                            exact xreti C () (by decide) hP hD hS (Nat.le_of_ble_eq_true rfl) (Nat.le_of_ble_eq_true rfl) (by decide) dX12_mayStay_120
                          · -- 77 f
                            have fc_31 : o ≤ hi := nf_nlt (by omega) (by omega) c_31
                            refine lv_iload hx hb dX12_mayStay_80 (lv_at hl 0 rfl) ?_
                            refine lv_aload_n hx hb dX12_mayStay_82 rfl (lv_at hl 3 rfl) ?_
                            refine xget C hP 0 rfl rfl zuX12 4 (by decide) zw5_217 rfl dX12_mayStay_83 ?_
                            refine lv_icmp_ge (tgt := 119) hx hb dX12_mayStay_86 (by decide) (fun c_32 => ?_) (fun c_32 => ?_)
                            · -- 86 t
                              have fc_32 : n ≤ o := nf_le (by omega) (by omega) c_32
                              refine lv_iconst (v := nI 0) hx hb dX12_mayStay_119 (by decide) ?_
                              exact xreti C () (by decide) hP hD hS (Nat.le_of_ble_eq_true rfl) (Nat.le_of_ble_eq_true rfl) (by decide) dX12_mayStay_120
                            · -- 86 f
                              have fc_32 : o < n := nf_nle (by omega) (by omega) c_32
                              refine lv_aload_n hx hb dX12_mayStay_89 rfl (lv_at hl 3 rfl) ?_
                              refine lv_iload hx hb dX12_mayStay_90 (lv_at hl 0 rfl) ?_
                              refine xl (wr := []) (xV (As := [.int (nI o)]) (rest := []) C (c_X12_up l D cs hm ms mkp mtr mas mso mon mot man mst msm mtb mti mfr mbn mbs mde maa mab mba mbb n k al be km en ea pr nq po th xd sF sN sS ig xa xb (nI o) hn hkn hal) kX12_280 hP hD [0] rfl (by decide +kernel) 0 rfl rfl rfl ⟨Nat.le_of_ble_eq_true rfl, Nat.le_of_ble_eq_true rfl⟩ rfl hl.1 rfl (Nat.le_of_ble_eq_true rfl) dX12_mayStay_92 ⟨Nat.le_of_ble_eq_true rfl, Nat.le_of_ble_eq_true rfl⟩) hP hD hS hA [0] [] rfl rfl (by decide +kernel) (by decide +kernel) ?_
                              clear hP hD hS
                              try clear locs
                              try clear H
                              intro r_33 u_34 H locs hw_r_33 hP hD hS
                              refine W.widen (k := 0) (n := 0) (Nat.le_of_ble_eq_true rfl) (Nat.le_of_ble_eq_true rfl) ?_
                              replace hP : va_P D vwCl [(hm, .inr (12, [.ref ms, .ref mkp, .int (nI km), .ref mtr, .int (nI n), .int (nI k), .int (nI al), .int (nI be), .int ea, .int pr, .ref mas, .int nq, .int po, .int (nI en), .ref mso, .ref mon, .ref mot, .ref man, .int th, .int xd, .ref mst, .ref msm, .ref mtb, .ref mti, .ref mfr, .ref mbn, .ref mbs, .ref mde, .int sF, .int sN, .int sS, .int ig, .long xa, .long xb, .ref maa, .ref mab, .ref mba, .ref mbb]))] H := hP
                              replace hD : va_D A [(hm, .inr (12, [.ref ms, .ref mkp, .int (nI km), .ref mtr, .int (nI n), .int (nI k), .int (nI al), .int (nI be), .int ea, .int pr, .ref mas, .int nq, .int po, .int (nI en), .ref mso, .ref mon, .ref mot, .ref man, .int th, .int xd, .ref mst, .ref msm, .ref mtb, .ref mti, .ref mfr, .ref mbn, .ref mbs, .ref mde, .int sF, .int sN, .int sS, .int ig, .long xa, .long xb, .ref maa, .ref mab, .ref mba, .ref mbb]))] := hD
                              refine lv_lconst (v := 0) hx hb dX12_mayStay_95 (by decide) ?_
                              refine W.lcmp hx hb dX12_mayStay_96 ?_
                              refine lv_if_ne (tgt := 113) hx hb dX12_mayStay_97 (by decide) (fun c_35 => ?_) (fun c_35 => ?_)
                              · -- 97 t
                                refine lv_iinc (v := nI (o + 1)) (lv' := [(4, .int (nI (o + 1))), (3, .int (nI hi)), (2, .int (nI lo)), (0, .ref hm), (1, .int (nI j))]) hx hb dX12_mayStay_113 hl (k := 0) rfl (nI_add o 1) (by decide) rfl ?_
                                clear hl
                                try clear ls
                                intro ls hl
                                refine lv_goto (tgt := 74) hx hb dX12_mayStay_116 (by decide) ?_
                                exact ih_loop_30 (o + 1) (by omega) (by omega) H locs ls hP hD hS (lv_sub hl [0, 1, 2, 3, 4] rfl)
                              · -- 97 f
                                refine lv_aload_n hx hb dX12_mayStay_100 rfl (lv_at hl 3 rfl) ?_
                                refine lv_iload hx hb dX12_mayStay_101 (lv_at hl 0 rfl) ?_
                                refine xl (wr := []) (xV (As := [.int (nI o)]) (rest := []) C (c_X12_down l D cs hm ms mkp mtr mas mso mon mot man mst msm mtb mti mfr mbn mbs mde maa mab mba mbb n k al be km en ea pr nq po th xd sF sN sS ig xa xb (nI o) hn hkn hal) kX12_283 hP hD [0] rfl (by decide +kernel) 0 rfl rfl rfl ⟨Nat.le_of_ble_eq_true rfl, Nat.le_of_ble_eq_true rfl⟩ rfl hl.1 rfl (Nat.le_of_ble_eq_true rfl) dX12_mayStay_103 ⟨Nat.le_of_ble_eq_true rfl, Nat.le_of_ble_eq_true rfl⟩) hP hD hS hA [0] [] rfl rfl (by decide +kernel) (by decide +kernel) ?_
                                clear hP hD hS
                                try clear locs
                                try clear H
                                intro r_36 u_37 H locs hw_r_36 hP hD hS
                                refine W.widen (k := 0) (n := 0) (Nat.le_of_ble_eq_true rfl) (Nat.le_of_ble_eq_true rfl) ?_
                                replace hP : va_P D vwCl [(hm, .inr (12, [.ref ms, .ref mkp, .int (nI km), .ref mtr, .int (nI n), .int (nI k), .int (nI al), .int (nI be), .int ea, .int pr, .ref mas, .int nq, .int po, .int (nI en), .ref mso, .ref mon, .ref mot, .ref man, .int th, .int xd, .ref mst, .ref msm, .ref mtb, .ref mti, .ref mfr, .ref mbn, .ref mbs, .ref mde, .int sF, .int sN, .int sS, .int ig, .long xa, .long xb, .ref maa, .ref mab, .ref mba, .ref mbb]))] H := hP
                                replace hD : va_D A [(hm, .inr (12, [.ref ms, .ref mkp, .int (nI km), .ref mtr, .int (nI n), .int (nI k), .int (nI al), .int (nI be), .int ea, .int pr, .ref mas, .int nq, .int po, .int (nI en), .ref mso, .ref mon, .ref mot, .ref man, .int th, .int xd, .ref mst, .ref msm, .ref mtb, .ref mti, .ref mfr, .ref mbn, .ref mbs, .ref mde, .int sF, .int sN, .int sS, .int ig, .long xa, .long xb, .ref maa, .ref mab, .ref mba, .ref mbb]))] := hD
                                refine lv_lconst (v := 0) hx hb dX12_mayStay_106 (by decide) ?_
                                refine W.lcmp hx hb dX12_mayStay_107 ?_
                                refine lv_if_ne (tgt := 113) hx hb dX12_mayStay_108 (by decide) (fun c_38 => ?_) (fun c_38 => ?_)
                                · -- 108 t
                                  refine lv_iinc (v := nI (o + 1)) (lv' := [(4, .int (nI (o + 1))), (3, .int (nI hi)), (2, .int (nI lo)), (0, .ref hm), (1, .int (nI j))]) hx hb dX12_mayStay_113 hl (k := 0) rfl (nI_add o 1) (by decide) rfl ?_
                                  clear hl
                                  try clear ls
                                  intro ls hl
                                  refine lv_goto (tgt := 74) hx hb dX12_mayStay_116 (by decide) ?_
                                  exact ih_loop_30 (o + 1) (by omega) (by omega) H locs ls hP hD hS (lv_sub hl [0, 1, 2, 3, 4] rfl)
                                · -- 108 f
                                  refine lv_iconst (v := nI 1) hx hb dX12_mayStay_111 (by decide) ?_
                                  exact xreti C () (by decide) hP hD hS (Nat.le_of_ble_eq_true rfl) (Nat.le_of_ble_eq_true rfl) (by decide) dX12_mayStay_112
                      exact loop_30 _ 1 (by omega) (Nat.lt_succ_self _) H locs ls hP hD hS (lv_sub hl [0, 1, 2, 3, 4] rfl)
                    · -- 64 f
                      have fc_29 : 1 < lo := nf_nle (by omega) (by omega) c_29
                      refine lv_iload_n hx hb dX12_mayStay_67 rfl (lv_at hl 1 rfl) ?_
                      refine lv_goto (tgt := 72) hx hb dX12_mayStay_68 (by decide) ?_
                      refine lv_istore (lv' := [(4, .int (nI lo)), (3, .int (nI hi)), (2, .int (nI lo)), (0, .ref hm), (1, .int (nI j))]) hx hb dX12_mayStay_72 hl (by decide) rfl ?_
                      clear hl
                      try clear ls
                      intro ls hl
                      have loop_39 : ∀ (n_loop_39 : Nat) (o : Nat), (o ≤ 9) → 9 - o < n_loop_39 → ∀ (H : Heap) (locs : List Loc) (ls : Array Slot), va_P D vwCl [(hm, .inr (12, [.ref ms, .ref mkp, .int (nI km), .ref mtr, .int (nI n), .int (nI k), .int (nI al), .int (nI be), .int ea, .int pr, .ref mas, .int nq, .int po, .int (nI en), .ref mso, .ref mon, .ref mot, .ref man, .int th, .int xd, .ref mst, .ref msm, .ref mtb, .ref mti, .ref mfr, .ref mbn, .ref mbs, .ref mde, .int sF, .int sN, .int sS, .int ig, .long xa, .long xb, .ref maa, .ref mab, .ref mba, .ref mbb]))] H → va_D A [(hm, .inr (12, [.ref ms, .ref mkp, .int (nI km), .ref mtr, .int (nI n), .int (nI k), .int (nI al), .int (nI be), .int ea, .int pr, .ref mas, .int nq, .int po, .int (nI en), .ref mso, .ref mon, .ref mot, .ref man, .int th, .int xd, .ref mst, .ref msm, .ref mtb, .ref mti, .ref mfr, .ref mbn, .ref mbs, .ref mde, .int sF, .int sN, .int sS, .int ig, .long xa, .long xb, .ref maa, .ref mab, .ref mba, .ref mbb]))] → va_S A s.heap H locs → lv_has ls 5 [(4, .int (nI o)), (3, .int (nI hi)), (2, .int (nI lo)), (0, .ref hm), (1, .int (nI j))] → W p l e ({ frames := 3, cells := 0, slots := 0, locals := 69 } : Room) s m args below meth c H locs 0 0 (MQ below ((xQi D (fun (r : Int32) (_u : Unit) => (r = nI 0 ∨ r = nI 1)) (fun (_u : Unit) => [(hm, .inr (12, [.ref ms, .ref mkp, .int (nI km), .ref mtr, .int (nI n), .int (nI k), .int (nI al), .int (nI be), .int ea, .int pr, .ref mas, .int nq, .int po, .int (nI en), .ref mso, .ref mon, .ref mot, .ref man, .int th, .int xd, .ref mst, .ref msm, .ref mtb, .ref mti, .ref mfr, .ref mbn, .ref mbs, .ref mde, .int sF, .int sN, .int sS, .int ig, .long xa, .long xb, .ref maa, .ref mab, .ref mba, .ref mbb]))])) A) args s 0 0 A) (F0 m 74 ls []) := by
                        intro n_loop_39
                        induction n_loop_39 with
                        | zero => intro o h_o hlt H locs ls hP hD hS hl; exact absurd hlt (Nat.not_lt_zero _)
                        | succ n_loop_39 ih_loop_39 =>
                          intro o h_o hlt_loop_39 H locs ls hP hD hS hl
                          refine lv_iload hx hb dX12_mayStay_74 (lv_at hl 0 rfl) ?_
                          refine lv_iload_n hx hb dX12_mayStay_76 rfl (lv_at hl 1 rfl) ?_
                          refine lv_icmp_gt (tgt := 119) hx hb dX12_mayStay_77 (by decide) (fun c_40 => ?_) (fun c_40 => ?_)
                          · -- 77 t
                            have fc_40 : hi < o := nf_lt (by omega) (by omega) c_40
                            refine lv_iconst (v := nI 0) hx hb dX12_mayStay_119 (by decide) ?_
                            exact xreti C () (by decide) hP hD hS (Nat.le_of_ble_eq_true rfl) (Nat.le_of_ble_eq_true rfl) (by decide) dX12_mayStay_120
                          · -- 77 f
                            have fc_40 : o ≤ hi := nf_nlt (by omega) (by omega) c_40
                            refine lv_iload hx hb dX12_mayStay_80 (lv_at hl 0 rfl) ?_
                            refine lv_aload_n hx hb dX12_mayStay_82 rfl (lv_at hl 3 rfl) ?_
                            refine xget C hP 0 rfl rfl zuX12 4 (by decide) zw5_217 rfl dX12_mayStay_83 ?_
                            refine lv_icmp_ge (tgt := 119) hx hb dX12_mayStay_86 (by decide) (fun c_41 => ?_) (fun c_41 => ?_)
                            · -- 86 t
                              have fc_41 : n ≤ o := nf_le (by omega) (by omega) c_41
                              refine lv_iconst (v := nI 0) hx hb dX12_mayStay_119 (by decide) ?_
                              exact xreti C () (by decide) hP hD hS (Nat.le_of_ble_eq_true rfl) (Nat.le_of_ble_eq_true rfl) (by decide) dX12_mayStay_120
                            · -- 86 f
                              have fc_41 : o < n := nf_nle (by omega) (by omega) c_41
                              refine lv_aload_n hx hb dX12_mayStay_89 rfl (lv_at hl 3 rfl) ?_
                              refine lv_iload hx hb dX12_mayStay_90 (lv_at hl 0 rfl) ?_
                              refine xl (wr := []) (xV (As := [.int (nI o)]) (rest := []) C (c_X12_up l D cs hm ms mkp mtr mas mso mon mot man mst msm mtb mti mfr mbn mbs mde maa mab mba mbb n k al be km en ea pr nq po th xd sF sN sS ig xa xb (nI o) hn hkn hal) kX12_280 hP hD [0] rfl (by decide +kernel) 0 rfl rfl rfl ⟨Nat.le_of_ble_eq_true rfl, Nat.le_of_ble_eq_true rfl⟩ rfl hl.1 rfl (Nat.le_of_ble_eq_true rfl) dX12_mayStay_92 ⟨Nat.le_of_ble_eq_true rfl, Nat.le_of_ble_eq_true rfl⟩) hP hD hS hA [0] [] rfl rfl (by decide +kernel) (by decide +kernel) ?_
                              clear hP hD hS
                              try clear locs
                              try clear H
                              intro r_42 u_43 H locs hw_r_42 hP hD hS
                              refine W.widen (k := 0) (n := 0) (Nat.le_of_ble_eq_true rfl) (Nat.le_of_ble_eq_true rfl) ?_
                              replace hP : va_P D vwCl [(hm, .inr (12, [.ref ms, .ref mkp, .int (nI km), .ref mtr, .int (nI n), .int (nI k), .int (nI al), .int (nI be), .int ea, .int pr, .ref mas, .int nq, .int po, .int (nI en), .ref mso, .ref mon, .ref mot, .ref man, .int th, .int xd, .ref mst, .ref msm, .ref mtb, .ref mti, .ref mfr, .ref mbn, .ref mbs, .ref mde, .int sF, .int sN, .int sS, .int ig, .long xa, .long xb, .ref maa, .ref mab, .ref mba, .ref mbb]))] H := hP
                              replace hD : va_D A [(hm, .inr (12, [.ref ms, .ref mkp, .int (nI km), .ref mtr, .int (nI n), .int (nI k), .int (nI al), .int (nI be), .int ea, .int pr, .ref mas, .int nq, .int po, .int (nI en), .ref mso, .ref mon, .ref mot, .ref man, .int th, .int xd, .ref mst, .ref msm, .ref mtb, .ref mti, .ref mfr, .ref mbn, .ref mbs, .ref mde, .int sF, .int sN, .int sS, .int ig, .long xa, .long xb, .ref maa, .ref mab, .ref mba, .ref mbb]))] := hD
                              refine lv_lconst (v := 0) hx hb dX12_mayStay_95 (by decide) ?_
                              refine W.lcmp hx hb dX12_mayStay_96 ?_
                              refine lv_if_ne (tgt := 113) hx hb dX12_mayStay_97 (by decide) (fun c_44 => ?_) (fun c_44 => ?_)
                              · -- 97 t
                                refine lv_iinc (v := nI (o + 1)) (lv' := [(4, .int (nI (o + 1))), (3, .int (nI hi)), (2, .int (nI lo)), (0, .ref hm), (1, .int (nI j))]) hx hb dX12_mayStay_113 hl (k := 0) rfl (nI_add o 1) (by decide) rfl ?_
                                clear hl
                                try clear ls
                                intro ls hl
                                refine lv_goto (tgt := 74) hx hb dX12_mayStay_116 (by decide) ?_
                                exact ih_loop_39 (o + 1) (by omega) (by omega) H locs ls hP hD hS (lv_sub hl [0, 1, 2, 3, 4] rfl)
                              · -- 97 f
                                refine lv_aload_n hx hb dX12_mayStay_100 rfl (lv_at hl 3 rfl) ?_
                                refine lv_iload hx hb dX12_mayStay_101 (lv_at hl 0 rfl) ?_
                                refine xl (wr := []) (xV (As := [.int (nI o)]) (rest := []) C (c_X12_down l D cs hm ms mkp mtr mas mso mon mot man mst msm mtb mti mfr mbn mbs mde maa mab mba mbb n k al be km en ea pr nq po th xd sF sN sS ig xa xb (nI o) hn hkn hal) kX12_283 hP hD [0] rfl (by decide +kernel) 0 rfl rfl rfl ⟨Nat.le_of_ble_eq_true rfl, Nat.le_of_ble_eq_true rfl⟩ rfl hl.1 rfl (Nat.le_of_ble_eq_true rfl) dX12_mayStay_103 ⟨Nat.le_of_ble_eq_true rfl, Nat.le_of_ble_eq_true rfl⟩) hP hD hS hA [0] [] rfl rfl (by decide +kernel) (by decide +kernel) ?_
                                clear hP hD hS
                                try clear locs
                                try clear H
                                intro r_45 u_46 H locs hw_r_45 hP hD hS
                                refine W.widen (k := 0) (n := 0) (Nat.le_of_ble_eq_true rfl) (Nat.le_of_ble_eq_true rfl) ?_
                                replace hP : va_P D vwCl [(hm, .inr (12, [.ref ms, .ref mkp, .int (nI km), .ref mtr, .int (nI n), .int (nI k), .int (nI al), .int (nI be), .int ea, .int pr, .ref mas, .int nq, .int po, .int (nI en), .ref mso, .ref mon, .ref mot, .ref man, .int th, .int xd, .ref mst, .ref msm, .ref mtb, .ref mti, .ref mfr, .ref mbn, .ref mbs, .ref mde, .int sF, .int sN, .int sS, .int ig, .long xa, .long xb, .ref maa, .ref mab, .ref mba, .ref mbb]))] H := hP
                                replace hD : va_D A [(hm, .inr (12, [.ref ms, .ref mkp, .int (nI km), .ref mtr, .int (nI n), .int (nI k), .int (nI al), .int (nI be), .int ea, .int pr, .ref mas, .int nq, .int po, .int (nI en), .ref mso, .ref mon, .ref mot, .ref man, .int th, .int xd, .ref mst, .ref msm, .ref mtb, .ref mti, .ref mfr, .ref mbn, .ref mbs, .ref mde, .int sF, .int sN, .int sS, .int ig, .long xa, .long xb, .ref maa, .ref mab, .ref mba, .ref mbb]))] := hD
                                refine lv_lconst (v := 0) hx hb dX12_mayStay_106 (by decide) ?_
                                refine W.lcmp hx hb dX12_mayStay_107 ?_
                                refine lv_if_ne (tgt := 113) hx hb dX12_mayStay_108 (by decide) (fun c_47 => ?_) (fun c_47 => ?_)
                                · -- 108 t
                                  refine lv_iinc (v := nI (o + 1)) (lv' := [(4, .int (nI (o + 1))), (3, .int (nI hi)), (2, .int (nI lo)), (0, .ref hm), (1, .int (nI j))]) hx hb dX12_mayStay_113 hl (k := 0) rfl (nI_add o 1) (by decide) rfl ?_
                                  clear hl
                                  try clear ls
                                  intro ls hl
                                  refine lv_goto (tgt := 74) hx hb dX12_mayStay_116 (by decide) ?_
                                  exact ih_loop_39 (o + 1) (by omega) (by omega) H locs ls hP hD hS (lv_sub hl [0, 1, 2, 3, 4] rfl)
                                · -- 108 f
                                  refine lv_iconst (v := nI 1) hx hb dX12_mayStay_111 (by decide) ?_
                                  exact xreti C () (by decide) hP hD hS (Nat.le_of_ble_eq_true rfl) (Nat.le_of_ble_eq_true rfl) (by decide) dX12_mayStay_112
                      exact loop_39 _ lo (by omega) (Nat.lt_succ_self _) H locs ls hP hD hS (lv_sub hl [0, 1, 2, 3, 4] rfl)
                  · -- 53 f
                    refine lv_iinc (v := nI (hi + 1)) (lv' := [(3, .int (nI (hi + 1))), (2, .int (nI lo)), (0, .ref hm), (1, .int (nI j))]) hx hb dX12_mayStay_56 hl (k := 0) rfl (nI_add hi 1) (by decide) rfl ?_
                    clear hl
                    try clear ls
                    intro ls hl
                    refine lv_goto (tgt := 38) hx hb dX12_mayStay_59 (by decide) ?_
                    exact ih_loop_5 (hi + 1) (by omega) (by omega) H locs ls hP hD hS (lv_sub hl [0, 1, 2, 3] rfl)
            exact loop_5 _ j (by omega) (Nat.lt_succ_self _) H locs ls hP hD hS (lv_sub hl [0, 1, 2, 3] rfl)
          · -- 17 f
            have fc_4 : 0 < lo := nf_nle (by omega) (by omega) c_4
            refine lv_aload_n hx hb dX12_mayStay_20 rfl (lv_at hl 1 rfl) ?_
            refine lv_iload_n hx hb dX12_mayStay_21 rfl (lv_at hl 0 rfl) ?_
            refine xl (wr := []) (xV (As := [.int (nI lo)]) (rest := []) C (c_X12_down l D cs hm ms mkp mtr mas mso mon mot man mst msm mtb mti mfr mbn mbs mde maa mab mba mbb n k al be km en ea pr nq po th xd sF sN sS ig xa xb (nI lo) hn hkn hal) kX12_283 hP hD [0] rfl (by decide +kernel) 0 rfl rfl rfl ⟨Nat.le_of_ble_eq_true rfl, Nat.le_of_ble_eq_true rfl⟩ rfl hl.1 rfl (Nat.le_of_ble_eq_true rfl) dX12_mayStay_22 ⟨Nat.le_of_ble_eq_true rfl, Nat.le_of_ble_eq_true rfl⟩) hP hD hS hA [0] [] rfl rfl (by decide +kernel) (by decide +kernel) ?_
            clear hP hD hS
            try clear locs
            try clear H
            intro r_48 u_49 H locs hw_r_48 hP hD hS
            refine W.widen (k := 0) (n := 0) (Nat.le_of_ble_eq_true rfl) (Nat.le_of_ble_eq_true rfl) ?_
            replace hP : va_P D vwCl [(hm, .inr (12, [.ref ms, .ref mkp, .int (nI km), .ref mtr, .int (nI n), .int (nI k), .int (nI al), .int (nI be), .int ea, .int pr, .ref mas, .int nq, .int po, .int (nI en), .ref mso, .ref mon, .ref mot, .ref man, .int th, .int xd, .ref mst, .ref msm, .ref mtb, .ref mti, .ref mfr, .ref mbn, .ref mbs, .ref mde, .int sF, .int sN, .int sS, .int ig, .long xa, .long xb, .ref maa, .ref mab, .ref mba, .ref mbb]))] H := hP
            replace hD : va_D A [(hm, .inr (12, [.ref ms, .ref mkp, .int (nI km), .ref mtr, .int (nI n), .int (nI k), .int (nI al), .int (nI be), .int ea, .int pr, .ref mas, .int nq, .int po, .int (nI en), .ref mso, .ref mon, .ref mot, .ref man, .int th, .int xd, .ref mst, .ref msm, .ref mtb, .ref mti, .ref mfr, .ref mbn, .ref mbs, .ref mde, .int sF, .int sN, .int sS, .int ig, .long xa, .long xb, .ref maa, .ref mab, .ref mba, .ref mbb]))] := hD
            refine lv_lconst (v := 0) hx hb dX12_mayStay_25 (by decide) ?_
            refine W.lcmp hx hb dX12_mayStay_26 ?_
            refine lv_if_le (tgt := 36) hx hb dX12_mayStay_27 (by decide) (fun c_50 => ?_) (fun c_50 => ?_)
            · -- 27 t
              refine lv_iload_n hx hb dX12_mayStay_36 rfl (lv_at hl 2 rfl) ?_
              refine lv_istore_n (lv' := [(3, .int (nI j)), (2, .int (nI lo)), (0, .ref hm), (1, .int (nI j))]) hx hb dX12_mayStay_37 rfl hl (by decide) rfl ?_
              clear hl
              try clear ls
              intro ls hl
              have loop_51 : ∀ (n_loop_51 : Nat) (hi : Nat), (hi ≤ n) → n - hi < n_loop_51 → ∀ (H : Heap) (locs : List Loc) (ls : Array Slot), va_P D vwCl [(hm, .inr (12, [.ref ms, .ref mkp, .int (nI km), .ref mtr, .int (nI n), .int (nI k), .int (nI al), .int (nI be), .int ea, .int pr, .ref mas, .int nq, .int po, .int (nI en), .ref mso, .ref mon, .ref mot, .ref man, .int th, .int xd, .ref mst, .ref msm, .ref mtb, .ref mti, .ref mfr, .ref mbn, .ref mbs, .ref mde, .int sF, .int sN, .int sS, .int ig, .long xa, .long xb, .ref maa, .ref mab, .ref mba, .ref mbb]))] H → va_D A [(hm, .inr (12, [.ref ms, .ref mkp, .int (nI km), .ref mtr, .int (nI n), .int (nI k), .int (nI al), .int (nI be), .int ea, .int pr, .ref mas, .int nq, .int po, .int (nI en), .ref mso, .ref mon, .ref mot, .ref man, .int th, .int xd, .ref mst, .ref msm, .ref mtb, .ref mti, .ref mfr, .ref mbn, .ref mbs, .ref mde, .int sF, .int sN, .int sS, .int ig, .long xa, .long xb, .ref maa, .ref mab, .ref mba, .ref mbb]))] → va_S A s.heap H locs → lv_has ls 5 [(3, .int (nI hi)), (2, .int (nI lo)), (0, .ref hm), (1, .int (nI j))] → W p l e ({ frames := 3, cells := 0, slots := 0, locals := 69 } : Room) s m args below meth c H locs 0 0 (MQ below ((xQi D (fun (r : Int32) (_u : Unit) => (r = nI 0 ∨ r = nI 1)) (fun (_u : Unit) => [(hm, .inr (12, [.ref ms, .ref mkp, .int (nI km), .ref mtr, .int (nI n), .int (nI k), .int (nI al), .int (nI be), .int ea, .int pr, .ref mas, .int nq, .int po, .int (nI en), .ref mso, .ref mon, .ref mot, .ref man, .int th, .int xd, .ref mst, .ref msm, .ref mtb, .ref mti, .ref mfr, .ref mbn, .ref mbs, .ref mde, .int sF, .int sN, .int sS, .int ig, .long xa, .long xb, .ref maa, .ref mab, .ref mba, .ref mbb]))])) A) args s 0 0 A) (F0 m 38 ls []) := by
                intro n_loop_51
                induction n_loop_51 with
                | zero => intro hi h_hi hlt H locs ls hP hD hS hl; exact absurd hlt (Nat.not_lt_zero _)
                | succ n_loop_51 ih_loop_51 =>
                  intro hi h_hi hlt_loop_51 H locs ls hP hD hS hl
                  refine lv_iload_n hx hb dX12_mayStay_38 rfl (lv_at hl 0 rfl) ?_
                  refine lv_aload_n hx hb dX12_mayStay_39 rfl (lv_at hl 2 rfl) ?_
                  refine xget C hP 0 rfl rfl zuX12 4 (by decide) zw5_217 rfl dX12_mayStay_40 ?_
                  refine lv_icmp_ge (tgt := 62) hx hb dX12_mayStay_43 (by decide) (fun c_52 => ?_) (fun c_52 => ?_)
                  · -- 43 t
                    have fc_52 : n ≤ hi := nf_le (by omega) (by omega) c_52
                    refine lv_iload_n hx hb dX12_mayStay_62 rfl (lv_at hl 1 rfl) ?_
                    refine lv_iconst (v := nI 1) hx hb dX12_mayStay_63 (by decide) ?_
                    refine lv_icmp_le (tgt := 71) hx hb dX12_mayStay_64 (by decide) (fun c_53 => ?_) (fun c_53 => ?_)
                    · -- 64 t
                      have fc_53 : lo ≤ 1 := nf_le (by omega) (by omega) c_53
                      refine lv_iconst (v := nI 1) hx hb dX12_mayStay_71 (by decide) ?_
                      refine lv_istore (lv' := [(4, .int (nI 1)), (3, .int (nI hi)), (2, .int (nI lo)), (0, .ref hm), (1, .int (nI j))]) hx hb dX12_mayStay_72 hl (by decide) rfl ?_
                      clear hl
                      try clear ls
                      intro ls hl
                      have loop_54 : ∀ (n_loop_54 : Nat) (o : Nat), (o ≤ 9) → 9 - o < n_loop_54 → ∀ (H : Heap) (locs : List Loc) (ls : Array Slot), va_P D vwCl [(hm, .inr (12, [.ref ms, .ref mkp, .int (nI km), .ref mtr, .int (nI n), .int (nI k), .int (nI al), .int (nI be), .int ea, .int pr, .ref mas, .int nq, .int po, .int (nI en), .ref mso, .ref mon, .ref mot, .ref man, .int th, .int xd, .ref mst, .ref msm, .ref mtb, .ref mti, .ref mfr, .ref mbn, .ref mbs, .ref mde, .int sF, .int sN, .int sS, .int ig, .long xa, .long xb, .ref maa, .ref mab, .ref mba, .ref mbb]))] H → va_D A [(hm, .inr (12, [.ref ms, .ref mkp, .int (nI km), .ref mtr, .int (nI n), .int (nI k), .int (nI al), .int (nI be), .int ea, .int pr, .ref mas, .int nq, .int po, .int (nI en), .ref mso, .ref mon, .ref mot, .ref man, .int th, .int xd, .ref mst, .ref msm, .ref mtb, .ref mti, .ref mfr, .ref mbn, .ref mbs, .ref mde, .int sF, .int sN, .int sS, .int ig, .long xa, .long xb, .ref maa, .ref mab, .ref mba, .ref mbb]))] → va_S A s.heap H locs → lv_has ls 5 [(4, .int (nI o)), (3, .int (nI hi)), (2, .int (nI lo)), (0, .ref hm), (1, .int (nI j))] → W p l e ({ frames := 3, cells := 0, slots := 0, locals := 69 } : Room) s m args below meth c H locs 0 0 (MQ below ((xQi D (fun (r : Int32) (_u : Unit) => (r = nI 0 ∨ r = nI 1)) (fun (_u : Unit) => [(hm, .inr (12, [.ref ms, .ref mkp, .int (nI km), .ref mtr, .int (nI n), .int (nI k), .int (nI al), .int (nI be), .int ea, .int pr, .ref mas, .int nq, .int po, .int (nI en), .ref mso, .ref mon, .ref mot, .ref man, .int th, .int xd, .ref mst, .ref msm, .ref mtb, .ref mti, .ref mfr, .ref mbn, .ref mbs, .ref mde, .int sF, .int sN, .int sS, .int ig, .long xa, .long xb, .ref maa, .ref mab, .ref mba, .ref mbb]))])) A) args s 0 0 A) (F0 m 74 ls []) := by
                        intro n_loop_54
                        induction n_loop_54 with
                        | zero => intro o h_o hlt H locs ls hP hD hS hl; exact absurd hlt (Nat.not_lt_zero _)
                        | succ n_loop_54 ih_loop_54 =>
                          intro o h_o hlt_loop_54 H locs ls hP hD hS hl
                          refine lv_iload hx hb dX12_mayStay_74 (lv_at hl 0 rfl) ?_
                          refine lv_iload_n hx hb dX12_mayStay_76 rfl (lv_at hl 1 rfl) ?_
                          refine lv_icmp_gt (tgt := 119) hx hb dX12_mayStay_77 (by decide) (fun c_55 => ?_) (fun c_55 => ?_)
                          · -- 77 t
                            have fc_55 : hi < o := nf_lt (by omega) (by omega) c_55
                            refine lv_iconst (v := nI 0) hx hb dX12_mayStay_119 (by decide) ?_
                            exact xreti C () (by decide) hP hD hS (Nat.le_of_ble_eq_true rfl) (Nat.le_of_ble_eq_true rfl) (by decide) dX12_mayStay_120
                          · -- 77 f
                            have fc_55 : o ≤ hi := nf_nlt (by omega) (by omega) c_55
                            refine lv_iload hx hb dX12_mayStay_80 (lv_at hl 0 rfl) ?_
                            refine lv_aload_n hx hb dX12_mayStay_82 rfl (lv_at hl 3 rfl) ?_
                            refine xget C hP 0 rfl rfl zuX12 4 (by decide) zw5_217 rfl dX12_mayStay_83 ?_
                            refine lv_icmp_ge (tgt := 119) hx hb dX12_mayStay_86 (by decide) (fun c_56 => ?_) (fun c_56 => ?_)
                            · -- 86 t
                              have fc_56 : n ≤ o := nf_le (by omega) (by omega) c_56
                              refine lv_iconst (v := nI 0) hx hb dX12_mayStay_119 (by decide) ?_
                              exact xreti C () (by decide) hP hD hS (Nat.le_of_ble_eq_true rfl) (Nat.le_of_ble_eq_true rfl) (by decide) dX12_mayStay_120
                            · -- 86 f
                              have fc_56 : o < n := nf_nle (by omega) (by omega) c_56
                              refine lv_aload_n hx hb dX12_mayStay_89 rfl (lv_at hl 3 rfl) ?_
                              refine lv_iload hx hb dX12_mayStay_90 (lv_at hl 0 rfl) ?_
                              refine xl (wr := []) (xV (As := [.int (nI o)]) (rest := []) C (c_X12_up l D cs hm ms mkp mtr mas mso mon mot man mst msm mtb mti mfr mbn mbs mde maa mab mba mbb n k al be km en ea pr nq po th xd sF sN sS ig xa xb (nI o) hn hkn hal) kX12_280 hP hD [0] rfl (by decide +kernel) 0 rfl rfl rfl ⟨Nat.le_of_ble_eq_true rfl, Nat.le_of_ble_eq_true rfl⟩ rfl hl.1 rfl (Nat.le_of_ble_eq_true rfl) dX12_mayStay_92 ⟨Nat.le_of_ble_eq_true rfl, Nat.le_of_ble_eq_true rfl⟩) hP hD hS hA [0] [] rfl rfl (by decide +kernel) (by decide +kernel) ?_
                              clear hP hD hS
                              try clear locs
                              try clear H
                              intro r_57 u_58 H locs hw_r_57 hP hD hS
                              refine W.widen (k := 0) (n := 0) (Nat.le_of_ble_eq_true rfl) (Nat.le_of_ble_eq_true rfl) ?_
                              replace hP : va_P D vwCl [(hm, .inr (12, [.ref ms, .ref mkp, .int (nI km), .ref mtr, .int (nI n), .int (nI k), .int (nI al), .int (nI be), .int ea, .int pr, .ref mas, .int nq, .int po, .int (nI en), .ref mso, .ref mon, .ref mot, .ref man, .int th, .int xd, .ref mst, .ref msm, .ref mtb, .ref mti, .ref mfr, .ref mbn, .ref mbs, .ref mde, .int sF, .int sN, .int sS, .int ig, .long xa, .long xb, .ref maa, .ref mab, .ref mba, .ref mbb]))] H := hP
                              replace hD : va_D A [(hm, .inr (12, [.ref ms, .ref mkp, .int (nI km), .ref mtr, .int (nI n), .int (nI k), .int (nI al), .int (nI be), .int ea, .int pr, .ref mas, .int nq, .int po, .int (nI en), .ref mso, .ref mon, .ref mot, .ref man, .int th, .int xd, .ref mst, .ref msm, .ref mtb, .ref mti, .ref mfr, .ref mbn, .ref mbs, .ref mde, .int sF, .int sN, .int sS, .int ig, .long xa, .long xb, .ref maa, .ref mab, .ref mba, .ref mbb]))] := hD
                              refine lv_lconst (v := 0) hx hb dX12_mayStay_95 (by decide) ?_
                              refine W.lcmp hx hb dX12_mayStay_96 ?_
                              refine lv_if_ne (tgt := 113) hx hb dX12_mayStay_97 (by decide) (fun c_59 => ?_) (fun c_59 => ?_)
                              · -- 97 t
                                refine lv_iinc (v := nI (o + 1)) (lv' := [(4, .int (nI (o + 1))), (3, .int (nI hi)), (2, .int (nI lo)), (0, .ref hm), (1, .int (nI j))]) hx hb dX12_mayStay_113 hl (k := 0) rfl (nI_add o 1) (by decide) rfl ?_
                                clear hl
                                try clear ls
                                intro ls hl
                                refine lv_goto (tgt := 74) hx hb dX12_mayStay_116 (by decide) ?_
                                exact ih_loop_54 (o + 1) (by omega) (by omega) H locs ls hP hD hS (lv_sub hl [0, 1, 2, 3, 4] rfl)
                              · -- 97 f
                                refine lv_aload_n hx hb dX12_mayStay_100 rfl (lv_at hl 3 rfl) ?_
                                refine lv_iload hx hb dX12_mayStay_101 (lv_at hl 0 rfl) ?_
                                refine xl (wr := []) (xV (As := [.int (nI o)]) (rest := []) C (c_X12_down l D cs hm ms mkp mtr mas mso mon mot man mst msm mtb mti mfr mbn mbs mde maa mab mba mbb n k al be km en ea pr nq po th xd sF sN sS ig xa xb (nI o) hn hkn hal) kX12_283 hP hD [0] rfl (by decide +kernel) 0 rfl rfl rfl ⟨Nat.le_of_ble_eq_true rfl, Nat.le_of_ble_eq_true rfl⟩ rfl hl.1 rfl (Nat.le_of_ble_eq_true rfl) dX12_mayStay_103 ⟨Nat.le_of_ble_eq_true rfl, Nat.le_of_ble_eq_true rfl⟩) hP hD hS hA [0] [] rfl rfl (by decide +kernel) (by decide +kernel) ?_
                                clear hP hD hS
                                try clear locs
                                try clear H
                                intro r_60 u_61 H locs hw_r_60 hP hD hS
                                refine W.widen (k := 0) (n := 0) (Nat.le_of_ble_eq_true rfl) (Nat.le_of_ble_eq_true rfl) ?_
                                replace hP : va_P D vwCl [(hm, .inr (12, [.ref ms, .ref mkp, .int (nI km), .ref mtr, .int (nI n), .int (nI k), .int (nI al), .int (nI be), .int ea, .int pr, .ref mas, .int nq, .int po, .int (nI en), .ref mso, .ref mon, .ref mot, .ref man, .int th, .int xd, .ref mst, .ref msm, .ref mtb, .ref mti, .ref mfr, .ref mbn, .ref mbs, .ref mde, .int sF, .int sN, .int sS, .int ig, .long xa, .long xb, .ref maa, .ref mab, .ref mba, .ref mbb]))] H := hP
                                replace hD : va_D A [(hm, .inr (12, [.ref ms, .ref mkp, .int (nI km), .ref mtr, .int (nI n), .int (nI k), .int (nI al), .int (nI be), .int ea, .int pr, .ref mas, .int nq, .int po, .int (nI en), .ref mso, .ref mon, .ref mot, .ref man, .int th, .int xd, .ref mst, .ref msm, .ref mtb, .ref mti, .ref mfr, .ref mbn, .ref mbs, .ref mde, .int sF, .int sN, .int sS, .int ig, .long xa, .long xb, .ref maa, .ref mab, .ref mba, .ref mbb]))] := hD
                                refine lv_lconst (v := 0) hx hb dX12_mayStay_106 (by decide) ?_
                                refine W.lcmp hx hb dX12_mayStay_107 ?_
                                refine lv_if_ne (tgt := 113) hx hb dX12_mayStay_108 (by decide) (fun c_62 => ?_) (fun c_62 => ?_)
                                · -- 108 t
                                  refine lv_iinc (v := nI (o + 1)) (lv' := [(4, .int (nI (o + 1))), (3, .int (nI hi)), (2, .int (nI lo)), (0, .ref hm), (1, .int (nI j))]) hx hb dX12_mayStay_113 hl (k := 0) rfl (nI_add o 1) (by decide) rfl ?_
                                  clear hl
                                  try clear ls
                                  intro ls hl
                                  refine lv_goto (tgt := 74) hx hb dX12_mayStay_116 (by decide) ?_
                                  exact ih_loop_54 (o + 1) (by omega) (by omega) H locs ls hP hD hS (lv_sub hl [0, 1, 2, 3, 4] rfl)
                                · -- 108 f
                                  refine lv_iconst (v := nI 1) hx hb dX12_mayStay_111 (by decide) ?_
                                  exact xreti C () (by decide) hP hD hS (Nat.le_of_ble_eq_true rfl) (Nat.le_of_ble_eq_true rfl) (by decide) dX12_mayStay_112
                      exact loop_54 _ 1 (by omega) (Nat.lt_succ_self _) H locs ls hP hD hS (lv_sub hl [0, 1, 2, 3, 4] rfl)
                    · -- 64 f
                      have fc_53 : 1 < lo := nf_nle (by omega) (by omega) c_53
                      refine lv_iload_n hx hb dX12_mayStay_67 rfl (lv_at hl 1 rfl) ?_
                      refine lv_goto (tgt := 72) hx hb dX12_mayStay_68 (by decide) ?_
                      refine lv_istore (lv' := [(4, .int (nI lo)), (3, .int (nI hi)), (2, .int (nI lo)), (0, .ref hm), (1, .int (nI j))]) hx hb dX12_mayStay_72 hl (by decide) rfl ?_
                      clear hl
                      try clear ls
                      intro ls hl
                      have loop_63 : ∀ (n_loop_63 : Nat) (o : Nat), (o ≤ 9) → 9 - o < n_loop_63 → ∀ (H : Heap) (locs : List Loc) (ls : Array Slot), va_P D vwCl [(hm, .inr (12, [.ref ms, .ref mkp, .int (nI km), .ref mtr, .int (nI n), .int (nI k), .int (nI al), .int (nI be), .int ea, .int pr, .ref mas, .int nq, .int po, .int (nI en), .ref mso, .ref mon, .ref mot, .ref man, .int th, .int xd, .ref mst, .ref msm, .ref mtb, .ref mti, .ref mfr, .ref mbn, .ref mbs, .ref mde, .int sF, .int sN, .int sS, .int ig, .long xa, .long xb, .ref maa, .ref mab, .ref mba, .ref mbb]))] H → va_D A [(hm, .inr (12, [.ref ms, .ref mkp, .int (nI km), .ref mtr, .int (nI n), .int (nI k), .int (nI al), .int (nI be), .int ea, .int pr, .ref mas, .int nq, .int po, .int (nI en), .ref mso, .ref mon, .ref mot, .ref man, .int th, .int xd, .ref mst, .ref msm, .ref mtb, .ref mti, .ref mfr, .ref mbn, .ref mbs, .ref mde, .int sF, .int sN, .int sS, .int ig, .long xa, .long xb, .ref maa, .ref mab, .ref mba, .ref mbb]))] → va_S A s.heap H locs → lv_has ls 5 [(4, .int (nI o)), (3, .int (nI hi)), (2, .int (nI lo)), (0, .ref hm), (1, .int (nI j))] → W p l e ({ frames := 3, cells := 0, slots := 0, locals := 69 } : Room) s m args below meth c H locs 0 0 (MQ below ((xQi D (fun (r : Int32) (_u : Unit) => (r = nI 0 ∨ r = nI 1)) (fun (_u : Unit) => [(hm, .inr (12, [.ref ms, .ref mkp, .int (nI km), .ref mtr, .int (nI n), .int (nI k), .int (nI al), .int (nI be), .int ea, .int pr, .ref mas, .int nq, .int po, .int (nI en), .ref mso, .ref mon, .ref mot, .ref man, .int th, .int xd, .ref mst, .ref msm, .ref mtb, .ref mti, .ref mfr, .ref mbn, .ref mbs, .ref mde, .int sF, .int sN, .int sS, .int ig, .long xa, .long xb, .ref maa, .ref mab, .ref mba, .ref mbb]))])) A) args s 0 0 A) (F0 m 74 ls []) := by
                        intro n_loop_63
                        induction n_loop_63 with
                        | zero => intro o h_o hlt H locs ls hP hD hS hl; exact absurd hlt (Nat.not_lt_zero _)
                        | succ n_loop_63 ih_loop_63 =>
                          intro o h_o hlt_loop_63 H locs ls hP hD hS hl
                          refine lv_iload hx hb dX12_mayStay_74 (lv_at hl 0 rfl) ?_
                          refine lv_iload_n hx hb dX12_mayStay_76 rfl (lv_at hl 1 rfl) ?_
                          refine lv_icmp_gt (tgt := 119) hx hb dX12_mayStay_77 (by decide) (fun c_64 => ?_) (fun c_64 => ?_)
                          · -- 77 t
                            have fc_64 : hi < o := nf_lt (by omega) (by omega) c_64
                            refine lv_iconst (v := nI 0) hx hb dX12_mayStay_119 (by decide) ?_
                            exact xreti C () (by decide) hP hD hS (Nat.le_of_ble_eq_true rfl) (Nat.le_of_ble_eq_true rfl) (by decide) dX12_mayStay_120
                          · -- 77 f
                            have fc_64 : o ≤ hi := nf_nlt (by omega) (by omega) c_64
                            refine lv_iload hx hb dX12_mayStay_80 (lv_at hl 0 rfl) ?_
                            refine lv_aload_n hx hb dX12_mayStay_82 rfl (lv_at hl 3 rfl) ?_
                            refine xget C hP 0 rfl rfl zuX12 4 (by decide) zw5_217 rfl dX12_mayStay_83 ?_
                            refine lv_icmp_ge (tgt := 119) hx hb dX12_mayStay_86 (by decide) (fun c_65 => ?_) (fun c_65 => ?_)
                            · -- 86 t
                              have fc_65 : n ≤ o := nf_le (by omega) (by omega) c_65
                              refine lv_iconst (v := nI 0) hx hb dX12_mayStay_119 (by decide) ?_
                              exact xreti C () (by decide) hP hD hS (Nat.le_of_ble_eq_true rfl) (Nat.le_of_ble_eq_true rfl) (by decide) dX12_mayStay_120
                            · -- 86 f
                              have fc_65 : o < n := nf_nle (by omega) (by omega) c_65
                              refine lv_aload_n hx hb dX12_mayStay_89 rfl (lv_at hl 3 rfl) ?_
                              refine lv_iload hx hb dX12_mayStay_90 (lv_at hl 0 rfl) ?_
                              refine xl (wr := []) (xV (As := [.int (nI o)]) (rest := []) C (c_X12_up l D cs hm ms mkp mtr mas mso mon mot man mst msm mtb mti mfr mbn mbs mde maa mab mba mbb n k al be km en ea pr nq po th xd sF sN sS ig xa xb (nI o) hn hkn hal) kX12_280 hP hD [0] rfl (by decide +kernel) 0 rfl rfl rfl ⟨Nat.le_of_ble_eq_true rfl, Nat.le_of_ble_eq_true rfl⟩ rfl hl.1 rfl (Nat.le_of_ble_eq_true rfl) dX12_mayStay_92 ⟨Nat.le_of_ble_eq_true rfl, Nat.le_of_ble_eq_true rfl⟩) hP hD hS hA [0] [] rfl rfl (by decide +kernel) (by decide +kernel) ?_
                              clear hP hD hS
                              try clear locs
                              try clear H
                              intro r_66 u_67 H locs hw_r_66 hP hD hS
                              refine W.widen (k := 0) (n := 0) (Nat.le_of_ble_eq_true rfl) (Nat.le_of_ble_eq_true rfl) ?_
                              replace hP : va_P D vwCl [(hm, .inr (12, [.ref ms, .ref mkp, .int (nI km), .ref mtr, .int (nI n), .int (nI k), .int (nI al), .int (nI be), .int ea, .int pr, .ref mas, .int nq, .int po, .int (nI en), .ref mso, .ref mon, .ref mot, .ref man, .int th, .int xd, .ref mst, .ref msm, .ref mtb, .ref mti, .ref mfr, .ref mbn, .ref mbs, .ref mde, .int sF, .int sN, .int sS, .int ig, .long xa, .long xb, .ref maa, .ref mab, .ref mba, .ref mbb]))] H := hP
                              replace hD : va_D A [(hm, .inr (12, [.ref ms, .ref mkp, .int (nI km), .ref mtr, .int (nI n), .int (nI k), .int (nI al), .int (nI be), .int ea, .int pr, .ref mas, .int nq, .int po, .int (nI en), .ref mso, .ref mon, .ref mot, .ref man, .int th, .int xd, .ref mst, .ref msm, .ref mtb, .ref mti, .ref mfr, .ref mbn, .ref mbs, .ref mde, .int sF, .int sN, .int sS, .int ig, .long xa, .long xb, .ref maa, .ref mab, .ref mba, .ref mbb]))] := hD
                              refine lv_lconst (v := 0) hx hb dX12_mayStay_95 (by decide) ?_
                              refine W.lcmp hx hb dX12_mayStay_96 ?_
                              refine lv_if_ne (tgt := 113) hx hb dX12_mayStay_97 (by decide) (fun c_68 => ?_) (fun c_68 => ?_)
                              · -- 97 t
                                refine lv_iinc (v := nI (o + 1)) (lv' := [(4, .int (nI (o + 1))), (3, .int (nI hi)), (2, .int (nI lo)), (0, .ref hm), (1, .int (nI j))]) hx hb dX12_mayStay_113 hl (k := 0) rfl (nI_add o 1) (by decide) rfl ?_
                                clear hl
                                try clear ls
                                intro ls hl
                                refine lv_goto (tgt := 74) hx hb dX12_mayStay_116 (by decide) ?_
                                exact ih_loop_63 (o + 1) (by omega) (by omega) H locs ls hP hD hS (lv_sub hl [0, 1, 2, 3, 4] rfl)
                              · -- 97 f
                                refine lv_aload_n hx hb dX12_mayStay_100 rfl (lv_at hl 3 rfl) ?_
                                refine lv_iload hx hb dX12_mayStay_101 (lv_at hl 0 rfl) ?_
                                refine xl (wr := []) (xV (As := [.int (nI o)]) (rest := []) C (c_X12_down l D cs hm ms mkp mtr mas mso mon mot man mst msm mtb mti mfr mbn mbs mde maa mab mba mbb n k al be km en ea pr nq po th xd sF sN sS ig xa xb (nI o) hn hkn hal) kX12_283 hP hD [0] rfl (by decide +kernel) 0 rfl rfl rfl ⟨Nat.le_of_ble_eq_true rfl, Nat.le_of_ble_eq_true rfl⟩ rfl hl.1 rfl (Nat.le_of_ble_eq_true rfl) dX12_mayStay_103 ⟨Nat.le_of_ble_eq_true rfl, Nat.le_of_ble_eq_true rfl⟩) hP hD hS hA [0] [] rfl rfl (by decide +kernel) (by decide +kernel) ?_
                                clear hP hD hS
                                try clear locs
                                try clear H
                                intro r_69 u_70 H locs hw_r_69 hP hD hS
                                refine W.widen (k := 0) (n := 0) (Nat.le_of_ble_eq_true rfl) (Nat.le_of_ble_eq_true rfl) ?_
                                replace hP : va_P D vwCl [(hm, .inr (12, [.ref ms, .ref mkp, .int (nI km), .ref mtr, .int (nI n), .int (nI k), .int (nI al), .int (nI be), .int ea, .int pr, .ref mas, .int nq, .int po, .int (nI en), .ref mso, .ref mon, .ref mot, .ref man, .int th, .int xd, .ref mst, .ref msm, .ref mtb, .ref mti, .ref mfr, .ref mbn, .ref mbs, .ref mde, .int sF, .int sN, .int sS, .int ig, .long xa, .long xb, .ref maa, .ref mab, .ref mba, .ref mbb]))] H := hP
                                replace hD : va_D A [(hm, .inr (12, [.ref ms, .ref mkp, .int (nI km), .ref mtr, .int (nI n), .int (nI k), .int (nI al), .int (nI be), .int ea, .int pr, .ref mas, .int nq, .int po, .int (nI en), .ref mso, .ref mon, .ref mot, .ref man, .int th, .int xd, .ref mst, .ref msm, .ref mtb, .ref mti, .ref mfr, .ref mbn, .ref mbs, .ref mde, .int sF, .int sN, .int sS, .int ig, .long xa, .long xb, .ref maa, .ref mab, .ref mba, .ref mbb]))] := hD
                                refine lv_lconst (v := 0) hx hb dX12_mayStay_106 (by decide) ?_
                                refine W.lcmp hx hb dX12_mayStay_107 ?_
                                refine lv_if_ne (tgt := 113) hx hb dX12_mayStay_108 (by decide) (fun c_71 => ?_) (fun c_71 => ?_)
                                · -- 108 t
                                  refine lv_iinc (v := nI (o + 1)) (lv' := [(4, .int (nI (o + 1))), (3, .int (nI hi)), (2, .int (nI lo)), (0, .ref hm), (1, .int (nI j))]) hx hb dX12_mayStay_113 hl (k := 0) rfl (nI_add o 1) (by decide) rfl ?_
                                  clear hl
                                  try clear ls
                                  intro ls hl
                                  refine lv_goto (tgt := 74) hx hb dX12_mayStay_116 (by decide) ?_
                                  exact ih_loop_63 (o + 1) (by omega) (by omega) H locs ls hP hD hS (lv_sub hl [0, 1, 2, 3, 4] rfl)
                                · -- 108 f
                                  refine lv_iconst (v := nI 1) hx hb dX12_mayStay_111 (by decide) ?_
                                  exact xreti C () (by decide) hP hD hS (Nat.le_of_ble_eq_true rfl) (Nat.le_of_ble_eq_true rfl) (by decide) dX12_mayStay_112
                      exact loop_63 _ lo (by omega) (Nat.lt_succ_self _) H locs ls hP hD hS (lv_sub hl [0, 1, 2, 3, 4] rfl)
                  · -- 43 f
                    have fc_52 : hi < n := nf_nle (by omega) (by omega) c_52
                    refine lv_aload_n hx hb dX12_mayStay_46 rfl (lv_at hl 2 rfl) ?_
                    refine lv_iload_n hx hb dX12_mayStay_47 rfl (lv_at hl 0 rfl) ?_
                    refine xl (wr := []) (xV (As := [.int (nI hi)]) (rest := []) C (c_X12_up l D cs hm ms mkp mtr mas mso mon mot man mst msm mtb mti mfr mbn mbs mde maa mab mba mbb n k al be km en ea pr nq po th xd sF sN sS ig xa xb (nI hi) hn hkn hal) kX12_280 hP hD [0] rfl (by decide +kernel) 0 rfl rfl rfl ⟨Nat.le_of_ble_eq_true rfl, Nat.le_of_ble_eq_true rfl⟩ rfl hl.1 rfl (Nat.le_of_ble_eq_true rfl) dX12_mayStay_48 ⟨Nat.le_of_ble_eq_true rfl, Nat.le_of_ble_eq_true rfl⟩) hP hD hS hA [0] [] rfl rfl (by decide +kernel) (by decide +kernel) ?_
                    clear hP hD hS
                    try clear locs
                    try clear H
                    intro r_72 u_73 H locs hw_r_72 hP hD hS
                    refine W.widen (k := 0) (n := 0) (Nat.le_of_ble_eq_true rfl) (Nat.le_of_ble_eq_true rfl) ?_
                    replace hP : va_P D vwCl [(hm, .inr (12, [.ref ms, .ref mkp, .int (nI km), .ref mtr, .int (nI n), .int (nI k), .int (nI al), .int (nI be), .int ea, .int pr, .ref mas, .int nq, .int po, .int (nI en), .ref mso, .ref mon, .ref mot, .ref man, .int th, .int xd, .ref mst, .ref msm, .ref mtb, .ref mti, .ref mfr, .ref mbn, .ref mbs, .ref mde, .int sF, .int sN, .int sS, .int ig, .long xa, .long xb, .ref maa, .ref mab, .ref mba, .ref mbb]))] H := hP
                    replace hD : va_D A [(hm, .inr (12, [.ref ms, .ref mkp, .int (nI km), .ref mtr, .int (nI n), .int (nI k), .int (nI al), .int (nI be), .int ea, .int pr, .ref mas, .int nq, .int po, .int (nI en), .ref mso, .ref mon, .ref mot, .ref man, .int th, .int xd, .ref mst, .ref msm, .ref mtb, .ref mti, .ref mfr, .ref mbn, .ref mbs, .ref mde, .int sF, .int sN, .int sS, .int ig, .long xa, .long xb, .ref maa, .ref mab, .ref mba, .ref mbb]))] := hD
                    refine lv_lconst (v := 0) hx hb dX12_mayStay_51 (by decide) ?_
                    refine W.lcmp hx hb dX12_mayStay_52 ?_
                    refine lv_if_le (tgt := 62) hx hb dX12_mayStay_53 (by decide) (fun c_74 => ?_) (fun c_74 => ?_)
                    · -- 53 t
                      refine lv_iload_n hx hb dX12_mayStay_62 rfl (lv_at hl 1 rfl) ?_
                      refine lv_iconst (v := nI 1) hx hb dX12_mayStay_63 (by decide) ?_
                      refine lv_icmp_le (tgt := 71) hx hb dX12_mayStay_64 (by decide) (fun c_75 => ?_) (fun c_75 => ?_)
                      · -- 64 t
                        have fc_75 : lo ≤ 1 := nf_le (by omega) (by omega) c_75
                        refine lv_iconst (v := nI 1) hx hb dX12_mayStay_71 (by decide) ?_
                        refine lv_istore (lv' := [(4, .int (nI 1)), (3, .int (nI hi)), (2, .int (nI lo)), (0, .ref hm), (1, .int (nI j))]) hx hb dX12_mayStay_72 hl (by decide) rfl ?_
                        clear hl
                        try clear ls
                        intro ls hl
                        have loop_76 : ∀ (n_loop_76 : Nat) (o : Nat), (o ≤ 9) → 9 - o < n_loop_76 → ∀ (H : Heap) (locs : List Loc) (ls : Array Slot), va_P D vwCl [(hm, .inr (12, [.ref ms, .ref mkp, .int (nI km), .ref mtr, .int (nI n), .int (nI k), .int (nI al), .int (nI be), .int ea, .int pr, .ref mas, .int nq, .int po, .int (nI en), .ref mso, .ref mon, .ref mot, .ref man, .int th, .int xd, .ref mst, .ref msm, .ref mtb, .ref mti, .ref mfr, .ref mbn, .ref mbs, .ref mde, .int sF, .int sN, .int sS, .int ig, .long xa, .long xb, .ref maa, .ref mab, .ref mba, .ref mbb]))] H → va_D A [(hm, .inr (12, [.ref ms, .ref mkp, .int (nI km), .ref mtr, .int (nI n), .int (nI k), .int (nI al), .int (nI be), .int ea, .int pr, .ref mas, .int nq, .int po, .int (nI en), .ref mso, .ref mon, .ref mot, .ref man, .int th, .int xd, .ref mst, .ref msm, .ref mtb, .ref mti, .ref mfr, .ref mbn, .ref mbs, .ref mde, .int sF, .int sN, .int sS, .int ig, .long xa, .long xb, .ref maa, .ref mab, .ref mba, .ref mbb]))] → va_S A s.heap H locs → lv_has ls 5 [(4, .int (nI o)), (3, .int (nI hi)), (2, .int (nI lo)), (0, .ref hm), (1, .int (nI j))] → W p l e ({ frames := 3, cells := 0, slots := 0, locals := 69 } : Room) s m args below meth c H locs 0 0 (MQ below ((xQi D (fun (r : Int32) (_u : Unit) => (r = nI 0 ∨ r = nI 1)) (fun (_u : Unit) => [(hm, .inr (12, [.ref ms, .ref mkp, .int (nI km), .ref mtr, .int (nI n), .int (nI k), .int (nI al), .int (nI be), .int ea, .int pr, .ref mas, .int nq, .int po, .int (nI en), .ref mso, .ref mon, .ref mot, .ref man, .int th, .int xd, .ref mst, .ref msm, .ref mtb, .ref mti, .ref mfr, .ref mbn, .ref mbs, .ref mde, .int sF, .int sN, .int sS, .int ig, .long xa, .long xb, .ref maa, .ref mab, .ref mba, .ref mbb]))])) A) args s 0 0 A) (F0 m 74 ls []) := by
                          intro n_loop_76
                          induction n_loop_76 with
                          | zero => intro o h_o hlt H locs ls hP hD hS hl; exact absurd hlt (Nat.not_lt_zero _)
                          | succ n_loop_76 ih_loop_76 =>
                            intro o h_o hlt_loop_76 H locs ls hP hD hS hl
                            refine lv_iload hx hb dX12_mayStay_74 (lv_at hl 0 rfl) ?_
                            refine lv_iload_n hx hb dX12_mayStay_76 rfl (lv_at hl 1 rfl) ?_
                            refine lv_icmp_gt (tgt := 119) hx hb dX12_mayStay_77 (by decide) (fun c_77 => ?_) (fun c_77 => ?_)
                            · -- 77 t
                              have fc_77 : hi < o := nf_lt (by omega) (by omega) c_77
                              refine lv_iconst (v := nI 0) hx hb dX12_mayStay_119 (by decide) ?_
                              exact xreti C () (by decide) hP hD hS (Nat.le_of_ble_eq_true rfl) (Nat.le_of_ble_eq_true rfl) (by decide) dX12_mayStay_120
                            · -- 77 f
                              have fc_77 : o ≤ hi := nf_nlt (by omega) (by omega) c_77
                              refine lv_iload hx hb dX12_mayStay_80 (lv_at hl 0 rfl) ?_
                              refine lv_aload_n hx hb dX12_mayStay_82 rfl (lv_at hl 3 rfl) ?_
                              refine xget C hP 0 rfl rfl zuX12 4 (by decide) zw5_217 rfl dX12_mayStay_83 ?_
                              refine lv_icmp_ge (tgt := 119) hx hb dX12_mayStay_86 (by decide) (fun c_78 => ?_) (fun c_78 => ?_)
                              · -- 86 t
                                have fc_78 : n ≤ o := nf_le (by omega) (by omega) c_78
                                refine lv_iconst (v := nI 0) hx hb dX12_mayStay_119 (by decide) ?_
                                exact xreti C () (by decide) hP hD hS (Nat.le_of_ble_eq_true rfl) (Nat.le_of_ble_eq_true rfl) (by decide) dX12_mayStay_120
                              · -- 86 f
                                have fc_78 : o < n := nf_nle (by omega) (by omega) c_78
                                refine lv_aload_n hx hb dX12_mayStay_89 rfl (lv_at hl 3 rfl) ?_
                                refine lv_iload hx hb dX12_mayStay_90 (lv_at hl 0 rfl) ?_
                                refine xl (wr := []) (xV (As := [.int (nI o)]) (rest := []) C (c_X12_up l D cs hm ms mkp mtr mas mso mon mot man mst msm mtb mti mfr mbn mbs mde maa mab mba mbb n k al be km en ea pr nq po th xd sF sN sS ig xa xb (nI o) hn hkn hal) kX12_280 hP hD [0] rfl (by decide +kernel) 0 rfl rfl rfl ⟨Nat.le_of_ble_eq_true rfl, Nat.le_of_ble_eq_true rfl⟩ rfl hl.1 rfl (Nat.le_of_ble_eq_true rfl) dX12_mayStay_92 ⟨Nat.le_of_ble_eq_true rfl, Nat.le_of_ble_eq_true rfl⟩) hP hD hS hA [0] [] rfl rfl (by decide +kernel) (by decide +kernel) ?_
                                clear hP hD hS
                                try clear locs
                                try clear H
                                intro r_79 u_80 H locs hw_r_79 hP hD hS
                                refine W.widen (k := 0) (n := 0) (Nat.le_of_ble_eq_true rfl) (Nat.le_of_ble_eq_true rfl) ?_
                                replace hP : va_P D vwCl [(hm, .inr (12, [.ref ms, .ref mkp, .int (nI km), .ref mtr, .int (nI n), .int (nI k), .int (nI al), .int (nI be), .int ea, .int pr, .ref mas, .int nq, .int po, .int (nI en), .ref mso, .ref mon, .ref mot, .ref man, .int th, .int xd, .ref mst, .ref msm, .ref mtb, .ref mti, .ref mfr, .ref mbn, .ref mbs, .ref mde, .int sF, .int sN, .int sS, .int ig, .long xa, .long xb, .ref maa, .ref mab, .ref mba, .ref mbb]))] H := hP
                                replace hD : va_D A [(hm, .inr (12, [.ref ms, .ref mkp, .int (nI km), .ref mtr, .int (nI n), .int (nI k), .int (nI al), .int (nI be), .int ea, .int pr, .ref mas, .int nq, .int po, .int (nI en), .ref mso, .ref mon, .ref mot, .ref man, .int th, .int xd, .ref mst, .ref msm, .ref mtb, .ref mti, .ref mfr, .ref mbn, .ref mbs, .ref mde, .int sF, .int sN, .int sS, .int ig, .long xa, .long xb, .ref maa, .ref mab, .ref mba, .ref mbb]))] := hD
                                refine lv_lconst (v := 0) hx hb dX12_mayStay_95 (by decide) ?_
                                refine W.lcmp hx hb dX12_mayStay_96 ?_
                                refine lv_if_ne (tgt := 113) hx hb dX12_mayStay_97 (by decide) (fun c_81 => ?_) (fun c_81 => ?_)
                                · -- 97 t
                                  refine lv_iinc (v := nI (o + 1)) (lv' := [(4, .int (nI (o + 1))), (3, .int (nI hi)), (2, .int (nI lo)), (0, .ref hm), (1, .int (nI j))]) hx hb dX12_mayStay_113 hl (k := 0) rfl (nI_add o 1) (by decide) rfl ?_
                                  clear hl
                                  try clear ls
                                  intro ls hl
                                  refine lv_goto (tgt := 74) hx hb dX12_mayStay_116 (by decide) ?_
                                  exact ih_loop_76 (o + 1) (by omega) (by omega) H locs ls hP hD hS (lv_sub hl [0, 1, 2, 3, 4] rfl)
                                · -- 97 f
                                  refine lv_aload_n hx hb dX12_mayStay_100 rfl (lv_at hl 3 rfl) ?_
                                  refine lv_iload hx hb dX12_mayStay_101 (lv_at hl 0 rfl) ?_
                                  refine xl (wr := []) (xV (As := [.int (nI o)]) (rest := []) C (c_X12_down l D cs hm ms mkp mtr mas mso mon mot man mst msm mtb mti mfr mbn mbs mde maa mab mba mbb n k al be km en ea pr nq po th xd sF sN sS ig xa xb (nI o) hn hkn hal) kX12_283 hP hD [0] rfl (by decide +kernel) 0 rfl rfl rfl ⟨Nat.le_of_ble_eq_true rfl, Nat.le_of_ble_eq_true rfl⟩ rfl hl.1 rfl (Nat.le_of_ble_eq_true rfl) dX12_mayStay_103 ⟨Nat.le_of_ble_eq_true rfl, Nat.le_of_ble_eq_true rfl⟩) hP hD hS hA [0] [] rfl rfl (by decide +kernel) (by decide +kernel) ?_
                                  clear hP hD hS
                                  try clear locs
                                  try clear H
                                  intro r_82 u_83 H locs hw_r_82 hP hD hS
                                  refine W.widen (k := 0) (n := 0) (Nat.le_of_ble_eq_true rfl) (Nat.le_of_ble_eq_true rfl) ?_
                                  replace hP : va_P D vwCl [(hm, .inr (12, [.ref ms, .ref mkp, .int (nI km), .ref mtr, .int (nI n), .int (nI k), .int (nI al), .int (nI be), .int ea, .int pr, .ref mas, .int nq, .int po, .int (nI en), .ref mso, .ref mon, .ref mot, .ref man, .int th, .int xd, .ref mst, .ref msm, .ref mtb, .ref mti, .ref mfr, .ref mbn, .ref mbs, .ref mde, .int sF, .int sN, .int sS, .int ig, .long xa, .long xb, .ref maa, .ref mab, .ref mba, .ref mbb]))] H := hP
                                  replace hD : va_D A [(hm, .inr (12, [.ref ms, .ref mkp, .int (nI km), .ref mtr, .int (nI n), .int (nI k), .int (nI al), .int (nI be), .int ea, .int pr, .ref mas, .int nq, .int po, .int (nI en), .ref mso, .ref mon, .ref mot, .ref man, .int th, .int xd, .ref mst, .ref msm, .ref mtb, .ref mti, .ref mfr, .ref mbn, .ref mbs, .ref mde, .int sF, .int sN, .int sS, .int ig, .long xa, .long xb, .ref maa, .ref mab, .ref mba, .ref mbb]))] := hD
                                  refine lv_lconst (v := 0) hx hb dX12_mayStay_106 (by decide) ?_
                                  refine W.lcmp hx hb dX12_mayStay_107 ?_
                                  refine lv_if_ne (tgt := 113) hx hb dX12_mayStay_108 (by decide) (fun c_84 => ?_) (fun c_84 => ?_)
                                  · -- 108 t
                                    refine lv_iinc (v := nI (o + 1)) (lv' := [(4, .int (nI (o + 1))), (3, .int (nI hi)), (2, .int (nI lo)), (0, .ref hm), (1, .int (nI j))]) hx hb dX12_mayStay_113 hl (k := 0) rfl (nI_add o 1) (by decide) rfl ?_
                                    clear hl
                                    try clear ls
                                    intro ls hl
                                    refine lv_goto (tgt := 74) hx hb dX12_mayStay_116 (by decide) ?_
                                    exact ih_loop_76 (o + 1) (by omega) (by omega) H locs ls hP hD hS (lv_sub hl [0, 1, 2, 3, 4] rfl)
                                  · -- 108 f
                                    refine lv_iconst (v := nI 1) hx hb dX12_mayStay_111 (by decide) ?_
                                    exact xreti C () (by decide) hP hD hS (Nat.le_of_ble_eq_true rfl) (Nat.le_of_ble_eq_true rfl) (by decide) dX12_mayStay_112
                        exact loop_76 _ 1 (by omega) (Nat.lt_succ_self _) H locs ls hP hD hS (lv_sub hl [0, 1, 2, 3, 4] rfl)
                      · -- 64 f
                        have fc_75 : 1 < lo := nf_nle (by omega) (by omega) c_75
                        refine lv_iload_n hx hb dX12_mayStay_67 rfl (lv_at hl 1 rfl) ?_
                        refine lv_goto (tgt := 72) hx hb dX12_mayStay_68 (by decide) ?_
                        refine lv_istore (lv' := [(4, .int (nI lo)), (3, .int (nI hi)), (2, .int (nI lo)), (0, .ref hm), (1, .int (nI j))]) hx hb dX12_mayStay_72 hl (by decide) rfl ?_
                        clear hl
                        try clear ls
                        intro ls hl
                        have loop_85 : ∀ (n_loop_85 : Nat) (o : Nat), (o ≤ 9) → 9 - o < n_loop_85 → ∀ (H : Heap) (locs : List Loc) (ls : Array Slot), va_P D vwCl [(hm, .inr (12, [.ref ms, .ref mkp, .int (nI km), .ref mtr, .int (nI n), .int (nI k), .int (nI al), .int (nI be), .int ea, .int pr, .ref mas, .int nq, .int po, .int (nI en), .ref mso, .ref mon, .ref mot, .ref man, .int th, .int xd, .ref mst, .ref msm, .ref mtb, .ref mti, .ref mfr, .ref mbn, .ref mbs, .ref mde, .int sF, .int sN, .int sS, .int ig, .long xa, .long xb, .ref maa, .ref mab, .ref mba, .ref mbb]))] H → va_D A [(hm, .inr (12, [.ref ms, .ref mkp, .int (nI km), .ref mtr, .int (nI n), .int (nI k), .int (nI al), .int (nI be), .int ea, .int pr, .ref mas, .int nq, .int po, .int (nI en), .ref mso, .ref mon, .ref mot, .ref man, .int th, .int xd, .ref mst, .ref msm, .ref mtb, .ref mti, .ref mfr, .ref mbn, .ref mbs, .ref mde, .int sF, .int sN, .int sS, .int ig, .long xa, .long xb, .ref maa, .ref mab, .ref mba, .ref mbb]))] → va_S A s.heap H locs → lv_has ls 5 [(4, .int (nI o)), (3, .int (nI hi)), (2, .int (nI lo)), (0, .ref hm), (1, .int (nI j))] → W p l e ({ frames := 3, cells := 0, slots := 0, locals := 69 } : Room) s m args below meth c H locs 0 0 (MQ below ((xQi D (fun (r : Int32) (_u : Unit) => (r = nI 0 ∨ r = nI 1)) (fun (_u : Unit) => [(hm, .inr (12, [.ref ms, .ref mkp, .int (nI km), .ref mtr, .int (nI n), .int (nI k), .int (nI al), .int (nI be), .int ea, .int pr, .ref mas, .int nq, .int po, .int (nI en), .ref mso, .ref mon, .ref mot, .ref man, .int th, .int xd, .ref mst, .ref msm, .ref mtb, .ref mti, .ref mfr, .ref mbn, .ref mbs, .ref mde, .int sF, .int sN, .int sS, .int ig, .long xa, .long xb, .ref maa, .ref mab, .ref mba, .ref mbb]))])) A) args s 0 0 A) (F0 m 74 ls []) := by
                          intro n_loop_85
                          induction n_loop_85 with
                          | zero => intro o h_o hlt H locs ls hP hD hS hl; exact absurd hlt (Nat.not_lt_zero _)
                          | succ n_loop_85 ih_loop_85 =>
                            intro o h_o hlt_loop_85 H locs ls hP hD hS hl
                            refine lv_iload hx hb dX12_mayStay_74 (lv_at hl 0 rfl) ?_
                            refine lv_iload_n hx hb dX12_mayStay_76 rfl (lv_at hl 1 rfl) ?_
                            refine lv_icmp_gt (tgt := 119) hx hb dX12_mayStay_77 (by decide) (fun c_86 => ?_) (fun c_86 => ?_)
                            · -- 77 t
                              have fc_86 : hi < o := nf_lt (by omega) (by omega) c_86
                              refine lv_iconst (v := nI 0) hx hb dX12_mayStay_119 (by decide) ?_
                              exact xreti C () (by decide) hP hD hS (Nat.le_of_ble_eq_true rfl) (Nat.le_of_ble_eq_true rfl) (by decide) dX12_mayStay_120
                            · -- 77 f
                              have fc_86 : o ≤ hi := nf_nlt (by omega) (by omega) c_86
                              refine lv_iload hx hb dX12_mayStay_80 (lv_at hl 0 rfl) ?_
                              refine lv_aload_n hx hb dX12_mayStay_82 rfl (lv_at hl 3 rfl) ?_
                              refine xget C hP 0 rfl rfl zuX12 4 (by decide) zw5_217 rfl dX12_mayStay_83 ?_
                              refine lv_icmp_ge (tgt := 119) hx hb dX12_mayStay_86 (by decide) (fun c_87 => ?_) (fun c_87 => ?_)
                              · -- 86 t
                                have fc_87 : n ≤ o := nf_le (by omega) (by omega) c_87
                                refine lv_iconst (v := nI 0) hx hb dX12_mayStay_119 (by decide) ?_
                                exact xreti C () (by decide) hP hD hS (Nat.le_of_ble_eq_true rfl) (Nat.le_of_ble_eq_true rfl) (by decide) dX12_mayStay_120
                              · -- 86 f
                                have fc_87 : o < n := nf_nle (by omega) (by omega) c_87
                                refine lv_aload_n hx hb dX12_mayStay_89 rfl (lv_at hl 3 rfl) ?_
                                refine lv_iload hx hb dX12_mayStay_90 (lv_at hl 0 rfl) ?_
                                refine xl (wr := []) (xV (As := [.int (nI o)]) (rest := []) C (c_X12_up l D cs hm ms mkp mtr mas mso mon mot man mst msm mtb mti mfr mbn mbs mde maa mab mba mbb n k al be km en ea pr nq po th xd sF sN sS ig xa xb (nI o) hn hkn hal) kX12_280 hP hD [0] rfl (by decide +kernel) 0 rfl rfl rfl ⟨Nat.le_of_ble_eq_true rfl, Nat.le_of_ble_eq_true rfl⟩ rfl hl.1 rfl (Nat.le_of_ble_eq_true rfl) dX12_mayStay_92 ⟨Nat.le_of_ble_eq_true rfl, Nat.le_of_ble_eq_true rfl⟩) hP hD hS hA [0] [] rfl rfl (by decide +kernel) (by decide +kernel) ?_
                                clear hP hD hS
                                try clear locs
                                try clear H
                                intro r_88 u_89 H locs hw_r_88 hP hD hS
                                refine W.widen (k := 0) (n := 0) (Nat.le_of_ble_eq_true rfl) (Nat.le_of_ble_eq_true rfl) ?_
                                replace hP : va_P D vwCl [(hm, .inr (12, [.ref ms, .ref mkp, .int (nI km), .ref mtr, .int (nI n), .int (nI k), .int (nI al), .int (nI be), .int ea, .int pr, .ref mas, .int nq, .int po, .int (nI en), .ref mso, .ref mon, .ref mot, .ref man, .int th, .int xd, .ref mst, .ref msm, .ref mtb, .ref mti, .ref mfr, .ref mbn, .ref mbs, .ref mde, .int sF, .int sN, .int sS, .int ig, .long xa, .long xb, .ref maa, .ref mab, .ref mba, .ref mbb]))] H := hP
                                replace hD : va_D A [(hm, .inr (12, [.ref ms, .ref mkp, .int (nI km), .ref mtr, .int (nI n), .int (nI k), .int (nI al), .int (nI be), .int ea, .int pr, .ref mas, .int nq, .int po, .int (nI en), .ref mso, .ref mon, .ref mot, .ref man, .int th, .int xd, .ref mst, .ref msm, .ref mtb, .ref mti, .ref mfr, .ref mbn, .ref mbs, .ref mde, .int sF, .int sN, .int sS, .int ig, .long xa, .long xb, .ref maa, .ref mab, .ref mba, .ref mbb]))] := hD
                                refine lv_lconst (v := 0) hx hb dX12_mayStay_95 (by decide) ?_
                                refine W.lcmp hx hb dX12_mayStay_96 ?_
                                refine lv_if_ne (tgt := 113) hx hb dX12_mayStay_97 (by decide) (fun c_90 => ?_) (fun c_90 => ?_)
                                · -- 97 t
                                  refine lv_iinc (v := nI (o + 1)) (lv' := [(4, .int (nI (o + 1))), (3, .int (nI hi)), (2, .int (nI lo)), (0, .ref hm), (1, .int (nI j))]) hx hb dX12_mayStay_113 hl (k := 0) rfl (nI_add o 1) (by decide) rfl ?_
                                  clear hl
                                  try clear ls
                                  intro ls hl
                                  refine lv_goto (tgt := 74) hx hb dX12_mayStay_116 (by decide) ?_
                                  exact ih_loop_85 (o + 1) (by omega) (by omega) H locs ls hP hD hS (lv_sub hl [0, 1, 2, 3, 4] rfl)
                                · -- 97 f
                                  refine lv_aload_n hx hb dX12_mayStay_100 rfl (lv_at hl 3 rfl) ?_
                                  refine lv_iload hx hb dX12_mayStay_101 (lv_at hl 0 rfl) ?_
                                  refine xl (wr := []) (xV (As := [.int (nI o)]) (rest := []) C (c_X12_down l D cs hm ms mkp mtr mas mso mon mot man mst msm mtb mti mfr mbn mbs mde maa mab mba mbb n k al be km en ea pr nq po th xd sF sN sS ig xa xb (nI o) hn hkn hal) kX12_283 hP hD [0] rfl (by decide +kernel) 0 rfl rfl rfl ⟨Nat.le_of_ble_eq_true rfl, Nat.le_of_ble_eq_true rfl⟩ rfl hl.1 rfl (Nat.le_of_ble_eq_true rfl) dX12_mayStay_103 ⟨Nat.le_of_ble_eq_true rfl, Nat.le_of_ble_eq_true rfl⟩) hP hD hS hA [0] [] rfl rfl (by decide +kernel) (by decide +kernel) ?_
                                  clear hP hD hS
                                  try clear locs
                                  try clear H
                                  intro r_91 u_92 H locs hw_r_91 hP hD hS
                                  refine W.widen (k := 0) (n := 0) (Nat.le_of_ble_eq_true rfl) (Nat.le_of_ble_eq_true rfl) ?_
                                  replace hP : va_P D vwCl [(hm, .inr (12, [.ref ms, .ref mkp, .int (nI km), .ref mtr, .int (nI n), .int (nI k), .int (nI al), .int (nI be), .int ea, .int pr, .ref mas, .int nq, .int po, .int (nI en), .ref mso, .ref mon, .ref mot, .ref man, .int th, .int xd, .ref mst, .ref msm, .ref mtb, .ref mti, .ref mfr, .ref mbn, .ref mbs, .ref mde, .int sF, .int sN, .int sS, .int ig, .long xa, .long xb, .ref maa, .ref mab, .ref mba, .ref mbb]))] H := hP
                                  replace hD : va_D A [(hm, .inr (12, [.ref ms, .ref mkp, .int (nI km), .ref mtr, .int (nI n), .int (nI k), .int (nI al), .int (nI be), .int ea, .int pr, .ref mas, .int nq, .int po, .int (nI en), .ref mso, .ref mon, .ref mot, .ref man, .int th, .int xd, .ref mst, .ref msm, .ref mtb, .ref mti, .ref mfr, .ref mbn, .ref mbs, .ref mde, .int sF, .int sN, .int sS, .int ig, .long xa, .long xb, .ref maa, .ref mab, .ref mba, .ref mbb]))] := hD
                                  refine lv_lconst (v := 0) hx hb dX12_mayStay_106 (by decide) ?_
                                  refine W.lcmp hx hb dX12_mayStay_107 ?_
                                  refine lv_if_ne (tgt := 113) hx hb dX12_mayStay_108 (by decide) (fun c_93 => ?_) (fun c_93 => ?_)
                                  · -- 108 t
                                    refine lv_iinc (v := nI (o + 1)) (lv' := [(4, .int (nI (o + 1))), (3, .int (nI hi)), (2, .int (nI lo)), (0, .ref hm), (1, .int (nI j))]) hx hb dX12_mayStay_113 hl (k := 0) rfl (nI_add o 1) (by decide) rfl ?_
                                    clear hl
                                    try clear ls
                                    intro ls hl
                                    refine lv_goto (tgt := 74) hx hb dX12_mayStay_116 (by decide) ?_
                                    exact ih_loop_85 (o + 1) (by omega) (by omega) H locs ls hP hD hS (lv_sub hl [0, 1, 2, 3, 4] rfl)
                                  · -- 108 f
                                    refine lv_iconst (v := nI 1) hx hb dX12_mayStay_111 (by decide) ?_
                                    exact xreti C () (by decide) hP hD hS (Nat.le_of_ble_eq_true rfl) (Nat.le_of_ble_eq_true rfl) (by decide) dX12_mayStay_112
                        exact loop_85 _ lo (by omega) (Nat.lt_succ_self _) H locs ls hP hD hS (lv_sub hl [0, 1, 2, 3, 4] rfl)
                    · -- 53 f
                      refine lv_iinc (v := nI (hi + 1)) (lv' := [(3, .int (nI (hi + 1))), (2, .int (nI lo)), (0, .ref hm), (1, .int (nI j))]) hx hb dX12_mayStay_56 hl (k := 0) rfl (nI_add hi 1) (by decide) rfl ?_
                      clear hl
                      try clear ls
                      intro ls hl
                      refine lv_goto (tgt := 38) hx hb dX12_mayStay_59 (by decide) ?_
                      exact ih_loop_51 (hi + 1) (by omega) (by omega) H locs ls hP hD hS (lv_sub hl [0, 1, 2, 3] rfl)
              exact loop_51 _ j (by omega) (Nat.lt_succ_self _) H locs ls hP hD hS (lv_sub hl [0, 1, 2, 3] rfl)
            · -- 27 f
              refine lv_iinc (v := nI (lo - 1)) (lv' := [(2, .int (nI (lo - 1))), (0, .ref hm), (1, .int (nI j))]) hx hb dX12_mayStay_30 hl (k := 0) rfl (nI_dec (by omega)) (by decide) rfl ?_
              clear hl
              try clear ls
              intro ls hl
              refine lv_goto (tgt := 16) hx hb dX12_mayStay_33 (by decide) ?_
              exact ih_loop_3 (lo - 1) (by omega) (by omega) H locs ls hP hD hS (lv_sub hl [0, 1, 2] rfl)
      exact loop_3 _ j (by omega) (Nat.lt_succ_self _) H locs ls hP hD hS (lv_sub hl [0, 1, 2] rfl)
    · -- 9 f
      have fc_2 : j = n := nf_eq (by omega) (by omega) c_2
      refine lv_iconst (v := nI 0) hx hb dX12_mayStay_12 (by decide) ?_
      exact xreti C () (by decide) hP hD hS (Nat.le_of_ble_eq_true rfl) (Nat.le_of_ble_eq_true rfl) (by decide) dX12_mayStay_13
