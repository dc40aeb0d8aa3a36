set_option maxHeartbeats 4000000 in
set_option maxRecDepth 100000 in
theorem c_X12_entry_b (l : Launch) (D : va_G) (cs : Nat → ClassId) (hm ms mkp mtr mas mso mon mot man mst msm mtb mti mfr mbn mbs mde maa mab mba mbb : Nat) (n k al be km en : Nat) (ea pr nq po th xd sF sN sS ig : Int32) (xa xb : Int64) (f : Nat → Int32) (sof onf otf anf : Nat → Int32) (x y z : Int32) (hn : 2 ≤ n ∧ n ≤ 8) (hen : en ≤ 16) (hso : inP 16 8 sof) (hon : parF en onf) (hot : parF en otf) (hs : colP f) (hkm : km ≤ 8) : xMet l D cs yX12_entry cX12_entry 6 (some .int) ({ frames := 2, cells := 0, slots := 0, locals := 44 } : Room) [.ref hm, .int x, .int y, .int z] [(hm, .inr (12, [.ref ms, .ref mkp, .int (nI km), .ref mtr, .int (nI n), .int (nI k), .int (nI al), .int (nI be), .int ea, .int pr, .ref mas, .int nq, .int po, .int (nI en), .ref mso, .ref mon, .ref mot, .ref man, .int th, .int xd, .ref mst, .ref msm, .ref mtb, .ref mti, .ref mfr, .ref mbn, .ref mbs, .ref mde, .int sF, .int sN, .int sS, .int ig, .long xa, .long xb, .ref maa, .ref mab, .ref mba, .ref mbb])), (ms, .inl (cs 0, 288, .inl f)), (mso, .inl (cs 0, 16, .inl sof)), (mon, .inl (cs 0, 16, .inl onf)), (mot, .inl (cs 0, 16, .inl otf)), (man, .inl (cs 0, 16, .inl anf))] (xQi D (fun (r : Int32) (u : Nat × Nat × (Nat → Int32) × (Nat → Int32) × (Nat → Int32) × (Nat → Int32) × (Nat → Int32)) => match u with | (enz, kmz, fz, soz, onz, otz, anz) => (PQ (entP en x y z) r (nI en) (-1)) ∧ (colP fz ∧ enz ≤ 16 ∧ kmz ≤ 8 ∧ inP 16 8 soz ∧ parF enz onz ∧ parF enz otz) ∧ ((entP en x y z ∧ enz = en + 1 ∧ kmz = 0 ∧ ∃ t, t < 8 ∧ x = nI t ∧ soz = upd sof en (nI t) ∧ onz = upd onf en y ∧ otz = upd otf en z ∧ anz en = linF anf y ||| linF anf z ∧ (∀ j, ¬ j = en → anz j = anf j) ∧ entV en (upd sof en (nI t)) t 8 f fz) ∨ (¬ entP en x y z ∧ enz = en ∧ kmz = km ∧ soz = sof ∧ onz = onf ∧ otz = otf ∧ anz = anf ∧ fz = f))) (fun (u : Nat × Nat × (Nat → Int32) × (Nat → Int32) × (Nat → Int32) × (Nat → Int32) × (Nat → Int32)) => match u with | (enz, kmz, fz, soz, onz, otz, anz) => [(hm, .inr (12, [.ref ms, .ref mkp, .int (nI kmz), .ref mtr, .int (nI n), .int (nI k), .int (nI al), .int (nI be), .int ea, .int pr, .ref mas, .int nq, .int po, .int (nI enz), .ref mso, .ref mon, .ref mot, .ref man, .int (nI 0), .int xd, .ref mst, .ref msm, .ref mtb, .ref mti, .ref mfr, .ref mbn, .ref mbs, .ref mde, .int sF, .int sN, .int sS, .int ig, .long xa, .long xb, .ref maa, .ref mab, .ref mba, .ref mbb])), (ms, .inl (cs 0, 288, .inl fz)), (mso, .inl (cs 0, 16, .inl soz)), (mon, .inl (cs 0, 16, .inl onz)), (mot, .inl (cs 0, 16, .inl otz)), (man, .inl (cs 0, 16, .inl anz))])) := by
  refine xMet.intro (by decide) (Nat.le_of_ble_eq_true rfl) ?_
  intro p e s m args below meth c A ls C hP hD hS hl
  have hx := C.1
  have hb := C.2.1
  have hz := C.2.2.2.2.1
  have hown := C.2.2.2.1
  have hA := C.2.2.2.2.2.2.2.2.2
  have hAO := C.2.2.2.2.2.2.2.2.1.2.2
  replace hl : lv_has ls 6 [(0, .ref hm), (1, .int x), (2, .int y), (3, .int z)] := hl
  obtain ⟨H, hH⟩ : ∃ H, H = s.heap := ⟨_, rfl⟩
  replace hP : va_P D vwCl [(hm, .inr (12, [.ref ms, .ref mkp, .int (nI km), .ref mtr, .int (nI n), .int (nI k), .int (nI al), .int (nI be), .int ea, .int pr, .ref mas, .int nq, .int po, .int (nI en), .ref mso, .ref mon, .ref mot, .ref man, .int th, .int xd, .ref mst, .ref msm, .ref mtb, .ref mti, .ref mfr, .ref mbn, .ref mbs, .ref mde, .int sF, .int sN, .int sS, .int ig, .long xa, .long xb, .ref maa, .ref mab, .ref mba, .ref mbb])), (ms, .inl (cs 0, 288, .inl f)), (mso, .inl (cs 0, 16, .inl sof)), (mon, .inl (cs 0, 16, .inl onf)), (mot, .inl (cs 0, 16, .inl otf)), (man, .inl (cs 0, 16, .inl anf))] H := by rw [hH]; exact hP
  replace hS : va_S A s.heap H [] := by rw [hH]; exact hS
  obtain ⟨locs, hlocs⟩ : ∃ z : List Loc, z = [] := ⟨_, rfl⟩
  rw [← hlocs] at hS
  suffices hW : W p l e ({ frames := 2, cells := 0, slots := 0, locals := 44 } : Room) s m args below meth c H locs 0 0 (MQ below ((xQi D (fun (r : Int32) (u : Nat × Nat × (Nat → Int32) × (Nat → Int32) × (Nat → Int32) × (Nat → Int32) × (Nat → Int32)) => match u with | (enz, kmz, fz, soz, onz, otz, anz) => (PQ (entP en x y z) r (nI en) (-1)) ∧ (colP fz ∧ enz ≤ 16 ∧ kmz ≤ 8 ∧ inP 16 8 soz ∧ parF enz onz ∧ parF enz otz) ∧ ((entP en x y z ∧ enz = en + 1 ∧ kmz = 0 ∧ ∃ t, t < 8 ∧ x = nI t ∧ soz = upd sof en (nI t) ∧ onz = upd onf en y ∧ otz = upd otf en z ∧ anz en = linF anf y ||| linF anf z ∧ (∀ j, ¬ j = en → anz j = anf j) ∧ entV en (upd sof en (nI t)) t 8 f fz) ∨ (¬ entP en x y z ∧ enz = en ∧ kmz = km ∧ soz = sof ∧ onz = onf ∧ otz = otf ∧ anz = anf ∧ fz = f))) (fun (u : Nat × Nat × (Nat → Int32) × (Nat → Int32) × (Nat → Int32) × (Nat → Int32) × (Nat → Int32)) => match u with | (enz, kmz, fz, soz, onz, otz, anz) => [(hm, .inr (12, [.ref ms, .ref mkp, .int (nI kmz), .ref mtr, .int (nI n), .int (nI k), .int (nI al), .int (nI be), .int ea, .int pr, .ref mas, .int nq, .int po, .int (nI enz), .ref mso, .ref mon, .ref mot, .ref man, .int (nI 0), .int xd, .ref mst, .ref msm, .ref mtb, .ref mti, .ref mfr, .ref mbn, .ref mbs, .ref mde, .int sF, .int sN, .int sS, .int ig, .long xa, .long xb, .ref maa, .ref mab, .ref mba, .ref mbb])), (ms, .inl (cs 0, 288, .inl fz)), (mso, .inl (cs 0, 16, .inl soz)), (mon, .inl (cs 0, 16, .inl onz)), (mot, .inl (cs 0, 16, .inl otz)), (man, .inl (cs 0, 16, .inl anz))])) A) args s 0 0 A) (F0 m 0 ls []) by rw [hlocs, hH] at hW; exact hW
  clear hH hlocs
  refine lv_aload_n hx hb dX12_entry_0 rfl (lv_at hl 0 rfl) ?_
  refine lv_iconst (v := nI 0) hx hb dX12_entry_1 (by decide) ?_
  refine xput C hP hD hS 0 rfl rfl zuX12 tyX12 tyX12_ok nmX12 18 (by decide) zw5_231 rfl rfl rfl (Nat.le_of_ble_eq_true rfl) dX12_entry_2 ?_
  clear hP hD hS
  try clear locs
  try clear H
  intro H locs hP hD hS
  replace hP : va_P D vwCl [(hm, .inr (12, [.ref ms, .ref mkp, .int (nI km), .ref mtr, .int (nI n), .int (nI k), .int (nI al), .int (nI be), .int ea, .int pr, .ref mas, .int nq, .int po, .int (nI en), .ref mso, .ref mon, .ref mot, .ref man, .int (nI 0), .int xd, .ref mst, .ref msm, .ref mtb, .ref mti, .ref mfr, .ref mbn, .ref mbs, .ref mde, .int sF, .int sN, .int sS, .int ig, .long xa, .long xb, .ref maa, .ref mab, .ref mba, .ref mbb])), (ms, .inl (cs 0, 288, .inl f)), (mso, .inl (cs 0, 16, .inl sof)), (mon, .inl (cs 0, 16, .inl onf)), (mot, .inl (cs 0, 16, .inl otf)), (man, .inl (cs 0, 16, .inl anf))] H := hP
  replace hD : va_D A [(hm, .inr (12, [.ref ms, .ref mkp, .int (nI km), .ref mtr, .int (nI n), .int (nI k), .int (nI al), .int (nI be), .int ea, .int pr, .ref mas, .int nq, .int po, .int (nI en), .ref mso, .ref mon, .ref mot, .ref man, .int (nI 0), .int xd, .ref mst, .ref msm, .ref mtb, .ref mti, .ref mfr, .ref mbn, .ref mbs, .ref mde, .int sF, .int sN, .int sS, .int ig, .long xa, .long xb, .ref maa, .ref mab, .ref mba, .ref mbb])), (ms, .inl (cs 0, 288, .inl f)), (mso, .inl (cs 0, 16, .inl sof)), (mon, .inl (cs 0, 16, .inl onf)), (mot, .inl (cs 0, 16, .inl otf)), (man, .inl (cs 0, 16, .inl anf))] := hD
  refine lv_iload_n hx hb dX12_entry_5 rfl (lv_at hl 1 rfl) ?_
  refine lv_iconst (v := nI 0) hx hb dX12_entry_6 (by decide) ?_
  refine lv_bipush (v := nI 7) hx hb dX12_entry_7 (by decide) ?_
  refine xi (wr := [(hm, .inr (12, [.ref ms, .ref mkp, .int (nI km), .ref mtr, .int (nI n), .int (nI k), .int (nI al), .int (nI be), .int ea, .int pr, .ref mas, .int nq, .int po, .int (nI en), .ref mso, .ref mon, .ref mot, .ref man, .int (nI 0), .int xd, .ref mst, .ref msm, .ref mtb, .ref mti, .ref mfr, .ref mbn, .ref mbs, .ref mde, .int sF, .int sN, .int sS, .int ig, .long xa, .long xb, .ref maa, .ref mab, .ref mba, .ref mbb])), (ms, .inl (cs 0, 288, .inl f)), (mso, .inl (cs 0, 16, .inl sof)), (mon, .inl (cs 0, 16, .inl onf)), (mot, .inl (cs 0, 16, .inl otf)), (man, .inl (cs 0, 16, .inl anf))]) (xS (As := [.int x, .int (nI 0), .int (nI 7)]) (rest := []) C (c_X12_within l D cs x (nI 0) (nI 7)) kX12_116 hP hD [] rfl (by decide) ⟨Nat.le_of_ble_eq_true rfl, Nat.le_of_ble_eq_true rfl⟩ rfl hl.1 rfl (Nat.le_of_ble_eq_true rfl) dX12_entry_9 ⟨Nat.le_of_ble_eq_true rfl, Nat.le_of_ble_eq_true rfl⟩) hP hD hS hA [] [0, 1, 2, 3, 4, 5] rfl rfl (by decide) (by decide) ?_
  clear hP hD hS
  try clear locs
  try clear H
  intro r_1 u_2 H locs hw_r_1 hP hD hS
  have hw_r_1 : PQ (¬ x < (nI 0) ∧ x ≤ (nI 7)) r_1 (nI 1) (nI 0) := hw_r_1
  refine W.widen (k := 0) (n := 0) (Nat.le_of_ble_eq_true rfl) (Nat.le_of_ble_eq_true rfl) ?_
  replace hP : va_P D vwCl [(hm, .inr (12, [.ref ms, .ref mkp, .int (nI km), .ref mtr, .int (nI n), .int (nI k), .int (nI al), .int (nI be), .int ea, .int pr, .ref mas, .int nq, .int po, .int (nI en), .ref mso, .ref mon, .ref mot, .ref man, .int (nI 0), .int xd, .ref mst, .ref msm, .ref mtb, .ref mti, .ref mfr, .ref mbn, .ref mbs, .ref mde, .int sF, .int sN, .int sS, .int ig, .long xa, .long xb, .ref maa, .ref mab, .ref mba, .ref mbb])), (ms, .inl (cs 0, 288, .inl f)), (mso, .inl (cs 0, 16, .inl sof)), (mon, .inl (cs 0, 16, .inl onf)), (mot, .inl (cs 0, 16, .inl otf)), (man, .inl (cs 0, 16, .inl anf))] H := hP
  replace hD : va_D A [(hm, .inr (12, [.ref ms, .ref mkp, .int (nI km), .ref mtr, .int (nI n), .int (nI k), .int (nI al), .int (nI be), .int ea, .int pr, .ref mas, .int nq, .int po, .int (nI en), .ref mso, .ref mon, .ref mot, .ref man, .int (nI 0), .int xd, .ref mst, .ref msm, .ref mtb, .ref mti, .ref mfr, .ref mbn, .ref mbs, .ref mde, .int sF, .int sN, .int sS, .int ig, .long xa, .long xb, .ref maa, .ref mab, .ref mba, .ref mbb])), (ms, .inl (cs 0, 288, .inl f)), (mso, .inl (cs 0, 16, .inl sof)), (mon, .inl (cs 0, 16, .inl onf)), (mot, .inl (cs 0, 16, .inl otf)), (man, .inl (cs 0, 16, .inl anf))] := hD
  refine lv_if_eq (tgt := 61) hx hb dX12_entry_12 (by decide) (fun c_3 => ?_) (fun c_3 => ?_)
  · -- 12 t
    have no_hxx := PQ.no hw_r_1 c_3 (by decide)
    refine lv_iconst (v := (-1)) hx hb dX12_entry_61 (by decide) ?_
    exact xreti C (⟨en, km, f, sof, onf, otf, anf⟩) (⟨Or.inr ⟨fun q => no_hxx (okN_7 q.1), rfl⟩, ⟨hs, hen, hkm, hso, hon, hot⟩, Or.inr ⟨fun q => no_hxx (okN_7 q.1), rfl, rfl, rfl, rfl, rfl, rfl, rfl⟩⟩) hP hD hS (Nat.le_of_ble_eq_true rfl) (Nat.le_of_ble_eq_true rfl) rfl dX12_entry_62
  · -- 12 f
    have hxx := PQ.yes hw_r_1 c_3
    obtain ⟨x0, h_x0, rfl⟩ : ∃ j : Nat, j ≤ 7 ∧ x = nI j := nI_of2 (M := nI 7) (by decide) hxx.1 hxx.2
    replace hP : va_P D vwCl [(hm, .inr (12, [.ref ms, .ref mkp, .int (nI km), .ref mtr, .int (nI n), .int (nI k), .int (nI al), .int (nI be), .int ea, .int pr, .ref mas, .int nq, .int po, .int (nI en), .ref mso, .ref mon, .ref mot, .ref man, .int (nI 0), .int xd, .ref mst, .ref msm, .ref mtb, .ref mti, .ref mfr, .ref mbn, .ref mbs, .ref mde, .int sF, .int sN, .int sS, .int ig, .long xa, .long xb, .ref maa, .ref mab, .ref mba, .ref mbb])), (ms, .inl (cs 0, 288, .inl f)), (mso, .inl (cs 0, 16, .inl sof)), (mon, .inl (cs 0, 16, .inl onf)), (mot, .inl (cs 0, 16, .inl otf)), (man, .inl (cs 0, 16, .inl anf))] H := hP
    replace hD : va_D A [(hm, .inr (12, [.ref ms, .ref mkp, .int (nI km), .ref mtr, .int (nI n), .int (nI k), .int (nI al), .int (nI be), .int ea, .int pr, .ref mas, .int nq, .int po, .int (nI en), .ref mso, .ref mon, .ref mot, .ref man, .int (nI 0), .int xd, .ref mst, .ref msm, .ref mtb, .ref mti, .ref mfr, .ref mbn, .ref mbs, .ref mde, .int sF, .int sN, .int sS, .int ig, .long xa, .long xb, .ref maa, .ref mab, .ref mba, .ref mbb])), (ms, .inl (cs 0, 288, .inl f)), (mso, .inl (cs 0, 16, .inl sof)), (mon, .inl (cs 0, 16, .inl onf)), (mot, .inl (cs 0, 16, .inl otf)), (man, .inl (cs 0, 16, .inl anf))] := hD
    refine lv_iload_n hx hb dX12_entry_15 rfl (lv_at hl 2 rfl) ?_
    refine lv_iconst (v := (-1)) hx hb dX12_entry_16 (by decide) ?_
    refine lv_aload_n hx hb dX12_entry_17 rfl (lv_at hl 0 rfl) ?_
    refine xget C hP 0 rfl rfl zuX12 13 (by decide) zw5_226 rfl dX12_entry_18 ?_
    refine lv_iconst (v := nI 1) hx hb dX12_entry_21 (by decide) ?_
    refine lv_isub hx hb dX12_entry_22 ?_
    refine xi (wr := [(hm, .inr (12, [.ref ms, .ref mkp, .int (nI km), .ref mtr, .int (nI n), .int (nI k), .int (nI al), .int (nI be), .int ea, .int pr, .ref mas, .int nq, .int po, .int (nI en), .ref mso, .ref mon, .ref mot, .ref man, .int (nI 0), .int xd, .ref mst, .ref msm, .ref mtb, .ref mti, .ref mfr, .ref mbn, .ref mbs, .ref mde, .int sF, .int sN, .int sS, .int ig, .long xa, .long xb, .ref maa, .ref mab, .ref mba, .ref mbb])), (ms, .inl (cs 0, 288, .inl f)), (mso, .inl (cs 0, 16, .inl sof)), (mon, .inl (cs 0, 16, .inl onf)), (mot, .inl (cs 0, 16, .inl otf)), (man, .inl (cs 0, 16, .inl anf))]) (xS (As := [.int y, .int (-1), .int ((nI en) - (nI 1))]) (rest := []) C (c_X12_within l D cs y (-1) ((nI en) - (nI 1))) kX12_116 hP hD [] rfl (by decide) ⟨Nat.le_of_ble_eq_true rfl, Nat.le_of_ble_eq_true rfl⟩ rfl hl.1 rfl (Nat.le_of_ble_eq_true rfl) dX12_entry_23 ⟨Nat.le_of_ble_eq_true rfl, Nat.le_of_ble_eq_true rfl⟩) hP hD hS hA [] [0, 1, 2, 3, 4, 5] rfl rfl (by decide) (by decide) ?_
    clear hP hD hS
    try clear locs
    try clear H
    intro r_4 u_5 H locs hw_r_4 hP hD hS
    have hw_r_4 : PQ (¬ y < (-1) ∧ y ≤ ((nI en) - (nI 1))) r_4 (nI 1) (nI 0) := hw_r_4
    refine W.widen (k := 0) (n := 0) (Nat.le_of_ble_eq_true rfl) (Nat.le_of_ble_eq_true rfl) ?_
    replace hP : va_P D vwCl [(hm, .inr (12, [.ref ms, .ref mkp, .int (nI km), .ref mtr, .int (nI n), .int (nI k), .int (nI al), .int (nI be), .int ea, .int pr, .ref mas, .int nq, .int po, .int (nI en), .ref mso, .ref mon, .ref mot, .ref man, .int (nI 0), .int xd, .ref mst, .ref msm, .ref mtb, .ref mti, .ref mfr, .ref mbn, .ref mbs, .ref mde, .int sF, .int sN, .int sS, .int ig, .long xa, .long xb, .ref maa, .ref mab, .ref mba, .ref mbb])), (ms, .inl (cs 0, 288, .inl f)), (mso, .inl (cs 0, 16, .inl sof)), (mon, .inl (cs 0, 16, .inl onf)), (mot, .inl (cs 0, 16, .inl otf)), (man, .inl (cs 0, 16, .inl anf))] H := hP
    replace hD : va_D A [(hm, .inr (12, [.ref ms, .ref mkp, .int (nI km), .ref mtr, .int (nI n), .int (nI k), .int (nI al), .int (nI be), .int ea, .int pr, .ref mas, .int nq, .int po, .int (nI en), .ref mso, .ref mon, .ref mot, .ref man, .int (nI 0), .int xd, .ref mst, .ref msm, .ref mtb, .ref mti, .ref mfr, .ref mbn, .ref mbs, .ref mde, .int sF, .int sN, .int sS, .int ig, .long xa, .long xb, .ref maa, .ref mab, .ref mba, .ref mbb])), (ms, .inl (cs 0, 288, .inl f)), (mso, .inl (cs 0, 16, .inl sof)), (mon, .inl (cs 0, 16, .inl onf)), (mot, .inl (cs 0, 16, .inl otf)), (man, .inl (cs 0, 16, .inl anf))] := hD
    refine lv_if_eq (tgt := 61) hx hb dX12_entry_26 (by decide) (fun c_6 => ?_) (fun c_6 => ?_)
    · -- 26 t
      have no_hyy := PQ.no hw_r_4 c_6 (by decide)
      refine lv_iconst (v := (-1)) hx hb dX12_entry_61 (by decide) ?_
      exact xreti C (⟨en, km, f, sof, onf, otf, anf⟩) (⟨Or.inr ⟨fun q => no_hyy (par_to hen q.2.1), rfl⟩, ⟨hs, hen, hkm, hso, hon, hot⟩, Or.inr ⟨fun q => no_hyy (par_to hen q.2.1), rfl, rfl, rfl, rfl, rfl, rfl, rfl⟩⟩) hP hD hS (Nat.le_of_ble_eq_true rfl) (Nat.le_of_ble_eq_true rfl) rfl dX12_entry_62
    · -- 26 f
      have hyy := PQ.yes hw_r_4 c_6
      refine lv_iload_n hx hb dX12_entry_29 rfl (lv_at hl 3 rfl) ?_
      refine lv_iconst (v := (-1)) hx hb dX12_entry_30 (by decide) ?_
      refine lv_aload_n hx hb dX12_entry_31 rfl (lv_at hl 0 rfl) ?_
      refine xget C hP 0 rfl rfl zuX12 13 (by decide) zw5_226 rfl dX12_entry_32 ?_
      refine lv_iconst (v := nI 1) hx hb dX12_entry_35 (by decide) ?_
      refine lv_isub hx hb dX12_entry_36 ?_
      refine xi (wr := [(hm, .inr (12, [.ref ms, .ref mkp, .int (nI km), .ref mtr, .int (nI n), .int (nI k), .int (nI al), .int (nI be), .int ea, .int pr, .ref mas, .int nq, .int po, .int (nI en), .ref mso, .ref mon, .ref mot, .ref man, .int (nI 0), .int xd, .ref mst, .ref msm, .ref mtb, .ref mti, .ref mfr, .ref mbn, .ref mbs, .ref mde, .int sF, .int sN, .int sS, .int ig, .long xa, .long xb, .ref maa, .ref mab, .ref mba, .ref mbb])), (ms, .inl (cs 0, 288, .inl f)), (mso, .inl (cs 0, 16, .inl sof)), (mon, .inl (cs 0, 16, .inl onf)), (mot, .inl (cs 0, 16, .inl otf)), (man, .inl (cs 0, 16, .inl anf))]) (xS (As := [.int z, .int (-1), .int ((nI en) - (nI 1))]) (rest := []) C (c_X12_within l D cs z (-1) ((nI en) - (nI 1))) kX12_116 hP hD [] rfl (by decide) ⟨Nat.le_of_ble_eq_true rfl, Nat.le_of_ble_eq_true rfl⟩ rfl hl.1 rfl (Nat.le_of_ble_eq_true rfl) dX12_entry_37 ⟨Nat.le_of_ble_eq_true rfl, Nat.le_of_ble_eq_true rfl⟩) hP hD hS hA [] [0, 1, 2, 3, 4, 5] rfl rfl (by decide) (by decide) ?_
      clear hP hD hS
      try clear locs
      try clear H
      intro r_7 u_8 H locs hw_r_7 hP hD hS
      have hw_r_7 : PQ (¬ z < (-1) ∧ z ≤ ((nI en) - (nI 1))) r_7 (nI 1) (nI 0) := hw_r_7
      refine W.widen (k := 0) (n := 0) (Nat.le_of_ble_eq_true rfl) (Nat.le_of_ble_eq_true rfl) ?_
      replace hP : va_P D vwCl [(hm, .inr (12, [.ref ms, .ref mkp, .int (nI km), .ref mtr, .int (nI n), .int (nI k), .int (nI al), .int (nI be), .int ea, .int pr, .ref mas, .int nq, .int po, .int (nI en), .ref mso, .ref mon, .ref mot, .ref man, .int (nI 0), .int xd, .ref mst, .ref msm, .ref mtb, .ref mti, .ref mfr, .ref mbn, .ref mbs, .ref mde, .int sF, .int sN, .int sS, .int ig, .long xa, .long xb, .ref maa, .ref mab, .ref mba, .ref mbb])), (ms, .inl (cs 0, 288, .inl f)), (mso, .inl (cs 0, 16, .inl sof)), (mon, .inl (cs 0, 16, .inl onf)), (mot, .inl (cs 0, 16, .inl otf)), (man, .inl (cs 0, 16, .inl anf))] H := hP
      replace hD : va_D A [(hm, .inr (12, [.ref ms, .ref mkp, .int (nI km), .ref mtr, .int (nI n), .int (nI k), .int (nI al), .int (nI be), .int ea, .int pr, .ref mas, .int nq, .int po, .int (nI en), .ref mso, .ref mon, .ref mot, .ref man, .int (nI 0), .int xd, .ref mst, .ref msm, .ref mtb, .ref mti, .ref mfr, .ref mbn, .ref mbs, .ref mde, .int sF, .int sN, .int sS, .int ig, .long xa, .long xb, .ref maa, .ref mab, .ref mba, .ref mbb])), (ms, .inl (cs 0, 288, .inl f)), (mso, .inl (cs 0, 16, .inl sof)), (mon, .inl (cs 0, 16, .inl onf)), (mot, .inl (cs 0, 16, .inl otf)), (man, .inl (cs 0, 16, .inl anf))] := hD
      refine lv_if_eq (tgt := 61) hx hb dX12_entry_40 (by decide) (fun c_9 => ?_) (fun c_9 => ?_)
      · -- 40 t
        have no_hzz := PQ.no hw_r_7 c_9 (by decide)
        refine lv_iconst (v := (-1)) hx hb dX12_entry_61 (by decide) ?_
        exact xreti C (⟨en, km, f, sof, onf, otf, anf⟩) (⟨Or.inr ⟨fun q => no_hzz (par_to hen q.2.2.1), rfl⟩, ⟨hs, hen, hkm, hso, hon, hot⟩, Or.inr ⟨fun q => no_hzz (par_to hen q.2.2.1), rfl, rfl, rfl, rfl, rfl, rfl, rfl⟩⟩) hP hD hS (Nat.le_of_ble_eq_true rfl) (Nat.le_of_ble_eq_true rfl) rfl dX12_entry_62
      · -- 40 f
        have hzz := PQ.yes hw_r_7 c_9
        rcases (par2 (par_of hen hyy) (par_of hen hzz)) with ⟨rfl, rfl⟩ | ⟨rfl, jz, h_jz, rfl⟩ | ⟨⟨jy, h_jy, rfl⟩, rfl⟩ | ⟨⟨jy, h_jy, rfl⟩, jz, h_jz, rfl⟩
        · -- split
          replace hP : va_P D vwCl [(hm, .inr (12, [.ref ms, .ref mkp, .int (nI km), .ref mtr, .int (nI n), .int (nI k), .int (nI al), .int (nI be), .int ea, .int pr, .ref mas, .int nq, .int po, .int (nI en), .ref mso, .ref mon, .ref mot, .ref man, .int (nI 0), .int xd, .ref mst, .ref msm, .ref mtb, .ref mti, .ref mfr, .ref mbn, .ref mbs, .ref mde, .int sF, .int sN, .int sS, .int ig, .long xa, .long xb, .ref maa, .ref mab, .ref mba, .ref mbb])), (ms, .inl (cs 0, 288, .inl f)), (mso, .inl (cs 0, 16, .inl sof)), (mon, .inl (cs 0, 16, .inl onf)), (mot, .inl (cs 0, 16, .inl otf)), (man, .inl (cs 0, 16, .inl anf))] H := hP
          replace hD : va_D A [(hm, .inr (12, [.ref ms, .ref mkp, .int (nI km), .ref mtr, .int (nI n), .int (nI k), .int (nI al), .int (nI be), .int ea, .int pr, .ref mas, .int nq, .int po, .int (nI en), .ref mso, .ref mon, .ref mot, .ref man, .int (nI 0), .int xd, .ref mst, .ref msm, .ref mtb, .ref mti, .ref mfr, .ref mbn, .ref mbs, .ref mde, .int sF, .int sN, .int sS, .int ig, .long xa, .long xb, .ref maa, .ref mab, .ref mba, .ref mbb])), (ms, .inl (cs 0, 288, .inl f)), (mso, .inl (cs 0, 16, .inl sof)), (mon, .inl (cs 0, 16, .inl onf)), (mot, .inl (cs 0, 16, .inl otf)), (man, .inl (cs 0, 16, .inl anf))] := hD
          refine lv_iload_n hx hb dX12_entry_43 rfl (lv_at hl 2 rfl) ?_
          refine lv_if_lt (tgt := 52) hx hb dX12_entry_44 (by decide) (fun _ => ?_) (fun c => absurd (by decide) c)
          refine lv_aload_n hx hb dX12_entry_52 rfl (lv_at hl 0 rfl) ?_
          refine xget C hP 0 rfl rfl zuX12 13 (by decide) zw5_226 rfl dX12_entry_53 ?_
          refine lv_bipush (v := nI 16) hx hb dX12_entry_56 (by decide) ?_
          refine lv_icmp_ne (tgt := 63) hx hb dX12_entry_58 (by decide) (fun c_10 => ?_) (fun c_10 => ?_)
          · -- 58 t
            have fc_10 : en ≠ 16 := nf_ne (by omega) (by omega) c_10
            refine lv_aload_n hx hb dX12_entry_63 rfl (lv_at hl 0 rfl) ?_
            refine xget C hP 0 rfl rfl zuX12 13 (by decide) zw5_226 rfl dX12_entry_64 ?_
            refine lv_istore (lv' := [(4, .int (nI en)), (0, .ref hm), (1, .int (nI x0)), (2, .int (-1)), (3, .int (-1))]) hx hb dX12_entry_67 hl (by decide) rfl ?_
            clear hl
            try clear ls
            intro ls hl
            refine lv_aload_n hx hb dX12_entry_69 rfl (lv_at hl 1 rfl) ?_
            refine xget C hP 0 rfl rfl zuX12 14 (by decide) zw5_227 rfl dX12_entry_70 ?_
            refine lv_iload hx hb dX12_entry_73 (lv_at hl 0 rfl) ?_
            refine lv_iload_n hx hb dX12_entry_75 rfl (lv_at hl 2 rfl) ?_
            refine xiast C hP hD hS 2 rfl en rfl (by omega) (by decide) dX12_entry_76 ?_
            clear hP hD hS
            try clear locs
            try clear H
            intro H locs hP hD hS
            replace hP : va_P D vwCl [(hm, .inr (12, [.ref ms, .ref mkp, .int (nI km), .ref mtr, .int (nI n), .int (nI k), .int (nI al), .int (nI be), .int ea, .int pr, .ref mas, .int nq, .int po, .int (nI en), .ref mso, .ref mon, .ref mot, .ref man, .int (nI 0), .int xd, .ref mst, .ref msm, .ref mtb, .ref mti, .ref mfr, .ref mbn, .ref mbs, .ref mde, .int sF, .int sN, .int sS, .int ig, .long xa, .long xb, .ref maa, .ref mab, .ref mba, .ref mbb])), (ms, .inl (cs 0, 288, .inl f)), (mso, .inl (cs 0, 16, .inl (upd sof en (nI x0)))), (mon, .inl (cs 0, 16, .inl onf)), (mot, .inl (cs 0, 16, .inl otf)), (man, .inl (cs 0, 16, .inl anf))] H := hP
            replace hD : va_D A [(hm, .inr (12, [.ref ms, .ref mkp, .int (nI km), .ref mtr, .int (nI n), .int (nI k), .int (nI al), .int (nI be), .int ea, .int pr, .ref mas, .int nq, .int po, .int (nI en), .ref mso, .ref mon, .ref mot, .ref man, .int (nI 0), .int xd, .ref mst, .ref msm, .ref mtb, .ref mti, .ref mfr, .ref mbn, .ref mbs, .ref mde, .int sF, .int sN, .int sS, .int ig, .long xa, .long xb, .ref maa, .ref mab, .ref mba, .ref mbb])), (ms, .inl (cs 0, 288, .inl f)), (mso, .inl (cs 0, 16, .inl (upd sof en (nI x0)))), (mon, .inl (cs 0, 16, .inl onf)), (mot, .inl (cs 0, 16, .inl otf)), (man, .inl (cs 0, 16, .inl anf))] := hD
            refine lv_aload_n hx hb dX12_entry_77 rfl (lv_at hl 1 rfl) ?_
            refine xget C hP 0 rfl rfl zuX12 15 (by decide) zw5_228 rfl dX12_entry_78 ?_
            refine lv_iload hx hb dX12_entry_81 (lv_at hl 0 rfl) ?_
            refine lv_iload_n hx hb dX12_entry_83 rfl (lv_at hl 3 rfl) ?_
            refine xiast C hP hD hS 3 rfl en rfl (by omega) (by decide) dX12_entry_84 ?_
            clear hP hD hS
            try clear locs
            try clear H
            intro H locs hP hD hS
            replace hP : va_P D vwCl [(hm, .inr (12, [.ref ms, .ref mkp, .int (nI km), .ref mtr, .int (nI n), .int (nI k), .int (nI al), .int (nI be), .int ea, .int pr, .ref mas, .int nq, .int po, .int (nI en), .ref mso, .ref mon, .ref mot, .ref man, .int (nI 0), .int xd, .ref mst, .ref msm, .ref mtb, .ref mti, .ref mfr, .ref mbn, .ref mbs, .ref mde, .int sF, .int sN, .int sS, .int ig, .long xa, .long xb, .ref maa, .ref mab, .ref mba, .ref mbb])), (ms, .inl (cs 0, 288, .inl f)), (mso, .inl (cs 0, 16, .inl (upd sof en (nI x0)))), (mon, .inl (cs 0, 16, .inl (upd onf en (-1)))), (mot, .inl (cs 0, 16, .inl otf)), (man, .inl (cs 0, 16, .inl anf))] H := hP
            replace hD : va_D A [(hm, .inr (12, [.ref ms, .ref mkp, .int (nI km), .ref mtr, .int (nI n), .int (nI k), .int (nI al), .int (nI be), .int ea, .int pr, .ref mas, .int nq, .int po, .int (nI en), .ref mso, .ref mon, .ref mot, .ref man, .int (nI 0), .int xd, .ref mst, .ref msm, .ref mtb, .ref mti, .ref mfr, .ref mbn, .ref mbs, .ref mde, .int sF, .int sN, .int sS, .int ig, .long xa, .long xb, .ref maa, .ref mab, .ref mba, .ref mbb])), (ms, .inl (cs 0, 288, .inl f)), (mso, .inl (cs 0, 16, .inl (upd sof en (nI x0)))), (mon, .inl (cs 0, 16, .inl (upd onf en (-1)))), (mot, .inl (cs 0, 16, .inl otf)), (man, .inl (cs 0, 16, .inl anf))] := hD
            refine lv_aload_n hx hb dX12_entry_85 rfl (lv_at hl 1 rfl) ?_
            refine xget C hP 0 rfl rfl zuX12 16 (by decide) zw5_229 rfl dX12_entry_86 ?_
            refine lv_iload hx hb dX12_entry_89 (lv_at hl 0 rfl) ?_
            refine lv_iload_n hx hb dX12_entry_91 rfl (lv_at hl 4 rfl) ?_
            refine xiast C hP hD hS 4 rfl en rfl (by omega) (by decide) dX12_entry_92 ?_
            clear hP hD hS
            try clear locs
            try clear H
            intro H locs hP hD hS
            replace hP : va_P D vwCl [(hm, .inr (12, [.ref ms, .ref mkp, .int (nI km), .ref mtr, .int (nI n), .int (nI k), .int (nI al), .int (nI be), .int ea, .int pr, .ref mas, .int nq, .int po, .int (nI en), .ref mso, .ref mon, .ref mot, .ref man, .int (nI 0), .int xd, .ref mst, .ref msm, .ref mtb, .ref mti, .ref mfr, .ref mbn, .ref mbs, .ref mde, .int sF, .int sN, .int sS, .int ig, .long xa, .long xb, .ref maa, .ref mab, .ref mba, .ref mbb])), (ms, .inl (cs 0, 288, .inl f)), (mso, .inl (cs 0, 16, .inl (upd sof en (nI x0)))), (mon, .inl (cs 0, 16, .inl (upd onf en (-1)))), (mot, .inl (cs 0, 16, .inl (upd otf en (-1)))), (man, .inl (cs 0, 16, .inl anf))] H := hP
            replace hD : va_D A [(hm, .inr (12, [.ref ms, .ref mkp, .int (nI km), .ref mtr, .int (nI n), .int (nI k), .int (nI al), .int (nI be), .int ea, .int pr, .ref mas, .int nq, .int po, .int (nI en), .ref mso, .ref mon, .ref mot, .ref man, .int (nI 0), .int xd, .ref mst, .ref msm, .ref mtb, .ref mti, .ref mfr, .ref mbn, .ref mbs, .ref mde, .int sF, .int sN, .int sS, .int ig, .long xa, .long xb, .ref maa, .ref mab, .ref mba, .ref mbb])), (ms, .inl (cs 0, 288, .inl f)), (mso, .inl (cs 0, 16, .inl (upd sof en (nI x0)))), (mon, .inl (cs 0, 16, .inl (upd onf en (-1)))), (mot, .inl (cs 0, 16, .inl (upd otf en (-1)))), (man, .inl (cs 0, 16, .inl anf))] := hD
            refine lv_aload_n hx hb dX12_entry_93 rfl (lv_at hl 1 rfl) ?_
            refine xget C hP 0 rfl rfl zuX12 17 (by decide) zw5_230 rfl dX12_entry_94 ?_
            refine lv_iload hx hb dX12_entry_97 (lv_at hl 0 rfl) ?_
            refine lv_iconst (v := nI 0) hx hb dX12_entry_99 (by decide) ?_
            refine xiast C hP hD hS 5 rfl en rfl (by omega) (by decide) dX12_entry_100 ?_
            clear hP hD hS
            try clear locs
            try clear H
            intro H locs hP hD hS
            replace hP : va_P D vwCl [(hm, .inr (12, [.ref ms, .ref mkp, .int (nI km), .ref mtr, .int (nI n), .int (nI k), .int (nI al), .int (nI be), .int ea, .int pr, .ref mas, .int nq, .int po, .int (nI en), .ref mso, .ref mon, .ref mot, .ref man, .int (nI 0), .int xd, .ref mst, .ref msm, .ref mtb, .ref mti, .ref mfr, .ref mbn, .ref mbs, .ref mde, .int sF, .int sN, .int sS, .int ig, .long xa, .long xb, .ref maa, .ref mab, .ref mba, .ref mbb])), (ms, .inl (cs 0, 288, .inl f)), (mso, .inl (cs 0, 16, .inl (upd sof en (nI x0)))), (mon, .inl (cs 0, 16, .inl (upd onf en (-1)))), (mot, .inl (cs 0, 16, .inl (upd otf en (-1)))), (man, .inl (cs 0, 16, .inl (upd anf en (nI 0))))] H := hP
            replace hD : va_D A [(hm, .inr (12, [.ref ms, .ref mkp, .int (nI km), .ref mtr, .int (nI n), .int (nI k), .int (nI al), .int (nI be), .int ea, .int pr, .ref mas, .int nq, .int po, .int (nI en), .ref mso, .ref mon, .ref mot, .ref man, .int (nI 0), .int xd, .ref mst, .ref msm, .ref mtb, .ref mti, .ref mfr, .ref mbn, .ref mbs, .ref mde, .int sF, .int sN, .int sS, .int ig, .long xa, .long xb, .ref maa, .ref mab, .ref mba, .ref mbb])), (ms, .inl (cs 0, 288, .inl f)), (mso, .inl (cs 0, 16, .inl (upd sof en (nI x0)))), (mon, .inl (cs 0, 16, .inl (upd onf en (-1)))), (mot, .inl (cs 0, 16, .inl (upd otf en (-1)))), (man, .inl (cs 0, 16, .inl (upd anf en (nI 0))))] := hD
            refine lv_iload_n hx hb dX12_entry_101 rfl (lv_at hl 3 rfl) ?_
            refine lv_if_lt (tgt := 125) hx hb dX12_entry_102 (by decide) (fun _ => ?_) (fun c => absurd (by decide) c)
            refine lv_iload_n hx hb dX12_entry_125 rfl (lv_at hl 4 rfl) ?_
            refine lv_if_lt (tgt := 149) hx hb dX12_entry_126 (by decide) (fun _ => ?_) (fun c => absurd (by decide) c)
            refine lv_aload_n hx hb dX12_entry_149 rfl (lv_at hl 1 rfl) ?_
            refine lv_dup hx hb dX12_entry_150 rfl ?_
            refine xget C hP 0 rfl rfl zuX12 13 (by decide) zw5_226 rfl dX12_entry_151 ?_
            refine lv_iconst (v := nI 1) hx hb dX12_entry_154 (by decide) ?_
            refine lv_iadd hx hb dX12_entry_155 ?_
            refine lv_topi (nm_r (e' := nI (en + 1)) (nI_add _ _) ?_)
            refine xput C hP hD hS 0 rfl rfl zuX12 tyX12 tyX12_ok nmX12 13 (by decide) zw5_226 rfl rfl rfl (Nat.le_of_ble_eq_true rfl) dX12_entry_156 ?_
            clear hP hD hS
            try clear locs
            try clear H
            intro H locs hP hD hS
            replace hP : va_P D vwCl [(hm, .inr (12, [.ref ms, .ref mkp, .int (nI km), .ref mtr, .int (nI n), .int (nI k), .int (nI al), .int (nI be), .int ea, .int pr, .ref mas, .int nq, .int po, .int (nI (en + 1)), .ref mso, .ref mon, .ref mot, .ref man, .int (nI 0), .int xd, .ref mst, .ref msm, .ref mtb, .ref mti, .ref mfr, .ref mbn, .ref mbs, .ref mde, .int sF, .int sN, .int sS, .int ig, .long xa, .long xb, .ref maa, .ref mab, .ref mba, .ref mbb])), (ms, .inl (cs 0, 288, .inl f)), (mso, .inl (cs 0, 16, .inl (upd sof en (nI x0)))), (mon, .inl (cs 0, 16, .inl (upd onf en (-1)))), (mot, .inl (cs 0, 16, .inl (upd otf en (-1)))), (man, .inl (cs 0, 16, .inl (upd anf en (nI 0))))] H := hP
            replace hD : va_D A [(hm, .inr (12, [.ref ms, .ref mkp, .int (nI km), .ref mtr, .int (nI n), .int (nI k), .int (nI al), .int (nI be), .int ea, .int pr, .ref mas, .int nq, .int po, .int (nI (en + 1)), .ref mso, .ref mon, .ref mot, .ref man, .int (nI 0), .int xd, .ref mst, .ref msm, .ref mtb, .ref mti, .ref mfr, .ref mbn, .ref mbs, .ref mde, .int sF, .int sN, .int sS, .int ig, .long xa, .long xb, .ref maa, .ref mab, .ref mba, .ref mbb])), (ms, .inl (cs 0, 288, .inl f)), (mso, .inl (cs 0, 16, .inl (upd sof en (nI x0)))), (mon, .inl (cs 0, 16, .inl (upd onf en (-1)))), (mot, .inl (cs 0, 16, .inl (upd otf en (-1)))), (man, .inl (cs 0, 16, .inl (upd anf en (nI 0))))] := hD
            refine lv_iconst (v := nI 0) hx hb dX12_entry_159 (by decide) ?_
            refine lv_istore (lv' := [(5, .int (nI 0)), (4, .int (nI en)), (0, .ref hm), (1, .int (nI x0)), (2, .int (-1)), (3, .int (-1))]) hx hb dX12_entry_160 hl (by decide) rfl ?_
            clear hl
            try clear ls
            intro ls hl
            have loop_11 : ∀ (n_loop_11 : Nat) (o : Nat) (f9 : Nat → Int32), (o ≤ 8) → (colP f9) → (entV en (upd sof en (nI x0)) x0 o f f9) → 8 - o < n_loop_11 → ∀ (H : Heap) (locs : List Loc) (ls : Array Slot), va_P D vwCl [(hm, .inr (12, [.ref ms, .ref mkp, .int (nI km), .ref mtr, .int (nI n), .int (nI k), .int (nI al), .int (nI be), .int ea, .int pr, .ref mas, .int nq, .int po, .int (nI (en + 1)), .ref mso, .ref mon, .ref mot, .ref man, .int (nI 0), .int xd, .ref mst, .ref msm, .ref mtb, .ref mti, .ref mfr, .ref mbn, .ref mbs, .ref mde, .int sF, .int sN, .int sS, .int ig, .long xa, .long xb, .ref maa, .ref mab, .ref mba, .ref mbb])), (ms, .inl (cs 0, 288, .inl f9)), (mso, .inl (cs 0, 16, .inl (upd sof en (nI x0)))), (mon, .inl (cs 0, 16, .inl (upd onf en (-1)))), (mot, .inl (cs 0, 16, .inl (upd otf en (-1)))), (man, .inl (cs 0, 16, .inl (upd anf en (nI 0))))] H → va_D A [(hm, .inr (12, [.ref ms, .ref mkp, .int (nI km), .ref mtr, .int (nI n), .int (nI k), .int (nI al), .int (nI be), .int ea, .int pr, .ref mas, .int nq, .int po, .int (nI (en + 1)), .ref mso, .ref mon, .ref mot, .ref man, .int (nI 0), .int xd, .ref mst, .ref msm, .ref mtb, .ref mti, .ref mfr, .ref mbn, .ref mbs, .ref mde, .int sF, .int sN, .int sS, .int ig, .long xa, .long xb, .ref maa, .ref mab, .ref mba, .ref mbb])), (ms, .inl (cs 0, 288, .inl f9)), (mso, .inl (cs 0, 16, .inl (upd sof en (nI x0)))), (mon, .inl (cs 0, 16, .inl (upd onf en (-1)))), (mot, .inl (cs 0, 16, .inl (upd otf en (-1)))), (man, .inl (cs 0, 16, .inl (upd anf en (nI 0))))] → va_S A s.heap H locs → lv_has ls 6 [(5, .int (nI o)), (4, .int (nI en)), (0, .ref hm), (1, .int (nI x0)), (2, .int (-1)), (3, .int (-1))] → W p l e ({ frames := 2, cells := 0, slots := 0, locals := 44 } : Room) s m args below meth c H locs 0 0 (MQ below ((xQi D (fun (r : Int32) (u : Nat × Nat × (Nat → Int32) × (Nat → Int32) × (Nat → Int32) × (Nat → Int32) × (Nat → Int32)) => match u with | (enz, kmz, fz, soz, onz, otz, anz) => (PQ (entP en (nI x0) (-1) (-1)) r (nI en) (-1)) ∧ (colP fz ∧ enz ≤ 16 ∧ kmz ≤ 8 ∧ inP 16 8 soz ∧ parF enz onz ∧ parF enz otz) ∧ ((entP en (nI x0) (-1) (-1) ∧ enz = en + 1 ∧ kmz = 0 ∧ ∃ t, t < 8 ∧ (nI x0) = nI t ∧ soz = upd sof en (nI t) ∧ onz = upd onf en (-1) ∧ otz = upd otf en (-1) ∧ anz en = linF anf (-1) ||| linF anf (-1) ∧ (∀ j, ¬ j = en → anz j = anf j) ∧ entV en (upd sof en (nI t)) t 8 f fz) ∨ (¬ entP en (nI x0) (-1) (-1) ∧ enz = en ∧ kmz = km ∧ soz = sof ∧ onz = onf ∧ otz = otf ∧ anz = anf ∧ fz = f))) (fun (u : Nat × Nat × (Nat → Int32) × (Nat → Int32) × (Nat → Int32) × (Nat → Int32) × (Nat → Int32)) => match u with | (enz, kmz, fz, soz, onz, otz, anz) => [(hm, .inr (12, [.ref ms, .ref mkp, .int (nI kmz), .ref mtr, .int (nI n), .int (nI k), .int (nI al), .int (nI be), .int ea, .int pr, .ref mas, .int nq, .int po, .int (nI enz), .ref mso, .ref mon, .ref mot, .ref man, .int (nI 0), .int xd, .ref mst, .ref msm, .ref mtb, .ref mti, .ref mfr, .ref mbn, .ref mbs, .ref mde, .int sF, .int sN, .int sS, .int ig, .long xa, .long xb, .ref maa, .ref mab, .ref mba, .ref mbb])), (ms, .inl (cs 0, 288, .inl fz)), (mso, .inl (cs 0, 16, .inl soz)), (mon, .inl (cs 0, 16, .inl onz)), (mot, .inl (cs 0, 16, .inl otz)), (man, .inl (cs 0, 16, .inl anz))])) A) args s 0 0 A) (F0 m 162 ls []) := by
              intro n_loop_11
              induction n_loop_11 with
              | zero => intro o f9 h_o hs9 hv9 hlt H locs ls hP hD hS hl; exact absurd hlt (Nat.not_lt_zero _)
              | succ n_loop_11 ih_loop_11 =>
                intro o f9 h_o hs9 hv9 hlt_loop_11 H locs ls hP hD hS hl
                refine lv_iload hx hb dX12_entry_162 (lv_at hl 0 rfl) ?_
                refine lv_bipush (v := nI 8) hx hb dX12_entry_164 (by decide) ?_
                refine lv_icmp_ge (tgt := 237) hx hb dX12_entry_166 (by decide) (fun c_12 => ?_) (fun c_12 => ?_)
                · -- 166 t
                  have fc_12 : 8 ≤ o := nf_le (by omega) (by omega) c_12
                  refine lv_aload_n hx hb dX12_entry_237 rfl (lv_at hl 2 rfl) ?_
                  refine lv_iconst (v := nI 0) hx hb dX12_entry_238 (by decide) ?_
                  refine xput C hP hD hS 0 rfl rfl zuX12 tyX12 tyX12_ok nmX12 2 (by decide) zw5_215 rfl rfl rfl (Nat.le_of_ble_eq_true rfl) dX12_entry_239 ?_
                  clear hP hD hS
                  try clear locs
                  try clear H
                  intro H locs hP hD hS
                  replace hP : va_P D vwCl [(hm, .inr (12, [.ref ms, .ref mkp, .int (nI 0), .ref mtr, .int (nI n), .int (nI k), .int (nI al), .int (nI be), .int ea, .int pr, .ref mas, .int nq, .int po, .int (nI (en + 1)), .ref mso, .ref mon, .ref mot, .ref man, .int (nI 0), .int xd, .ref mst, .ref msm, .ref mtb, .ref mti, .ref mfr, .ref mbn, .ref mbs, .ref mde, .int sF, .int sN, .int sS, .int ig, .long xa, .long xb, .ref maa, .ref mab, .ref mba, .ref mbb])), (ms, .inl (cs 0, 288, .inl f9)), (mso, .inl (cs 0, 16, .inl (upd sof en (nI x0)))), (mon, .inl (cs 0, 16, .inl (upd onf en (-1)))), (mot, .inl (cs 0, 16, .inl (upd otf en (-1)))), (man, .inl (cs 0, 16, .inl (upd anf en (nI 0))))] H := hP
                  replace hD : va_D A [(hm, .inr (12, [.ref ms, .ref mkp, .int (nI 0), .ref mtr, .int (nI n), .int (nI k), .int (nI al), .int (nI be), .int ea, .int pr, .ref mas, .int nq, .int po, .int (nI (en + 1)), .ref mso, .ref mon, .ref mot, .ref man, .int (nI 0), .int xd, .ref mst, .ref msm, .ref mtb, .ref mti, .ref mfr, .ref mbn, .ref mbs, .ref mde, .int sF, .int sN, .int sS, .int ig, .long xa, .long xb, .ref maa, .ref mab, .ref mba, .ref mbb])), (ms, .inl (cs 0, 288, .inl f9)), (mso, .inl (cs 0, 16, .inl (upd sof en (nI x0)))), (mon, .inl (cs 0, 16, .inl (upd onf en (-1)))), (mot, .inl (cs 0, 16, .inl (upd otf en (-1)))), (man, .inl (cs 0, 16, .inl (upd anf en (nI 0))))] := hD
                  refine lv_iload hx hb dX12_entry_242 (lv_at hl 1 rfl) ?_
                  exact xreti C (⟨(en + 1), 0, f9, (upd sof en (nI x0)), (upd onf en (-1)), (upd otf en (-1)), (upd anf en (nI 0))⟩) (⟨Or.inl ⟨⟨okN_nI (by omega) (by decide), (Or.inl rfl), (Or.inl rfl), Or.inr rfl, by omega⟩, rfl⟩, ⟨hs9, by omega, by decide, inP_up hso _ _ (by omega), parF_next hon (Or.inl rfl), parF_next hot (Or.inl rfl)⟩, Or.inl ⟨⟨okN_nI (by omega) (by decide), (Or.inl rfl), (Or.inl rfl), Or.inr rfl, by omega⟩, rfl, rfl, x0, by omega, rfl, rfl, rfl, rfl, (by simp only [(show linF anf (-1) = nI 0 from if_pos rfl), (show linF anf (-1) = nI 0 from if_pos rfl), upd, eq_self, if_true, or_0l, or_0]; try rfl), (fun j hj => by simp only [upd, if_neg hj]), by have q7 : o = 8 := (by omega); rw [← q7]; exact hv9⟩⟩) hP hD hS (Nat.le_of_ble_eq_true rfl) (Nat.le_of_ble_eq_true rfl) rfl dX12_entry_244
                · -- 166 f
                  have fc_12 : o < 8 := nf_nle (by omega) (by omega) c_12
                  refine lv_aload_n hx hb dX12_entry_169 rfl (lv_at hl 2 rfl) ?_
                  refine xget C hP 0 rfl rfl zuX12 0 (by decide) zw5_213 rfl dX12_entry_170 ?_
                  refine lv_bipush (v := nI 96) hx hb dX12_entry_173 (by decide) ?_
                  refine lv_bipush (v := nI 8) hx hb dX12_entry_175 (by decide) ?_
                  refine lv_iload hx hb dX12_entry_177 (lv_at hl 0 rfl) ?_
                  refine lv_imul hx hb dX12_entry_179 ?_
                  refine lv_topi (nm_r (e' := nI (8 * o)) (pk_mul _ _) ?_)
                  refine lv_iadd hx hb dX12_entry_180 ?_
                  refine lv_topi (nm_r (e' := nI (96 + (8 * o))) (nI_add _ _) ?_)
                  refine lv_iload_n hx hb dX12_entry_181 rfl (lv_at hl 3 rfl) ?_
                  refine lv_iadd hx hb dX12_entry_182 ?_
                  refine lv_topi (nm_r (e' := nI ((96 + (8 * o)) + x0)) (nI_add _ _) ?_)
                  refine xiald C hP 1 rfl ((96 + (8 * o)) + x0) rfl (by omega) (by decide) dX12_entry_183 ?_
                  refine lv_if_ge (tgt := 204) hx hb dX12_entry_184 (by decide) (fun c_13 => ?_) (fun c_13 => ?_)
                  · -- 184 t
                    refine lv_aload_n hx hb dX12_entry_204 rfl (lv_at hl 2 rfl) ?_
                    refine lv_iload hx hb dX12_entry_205 (lv_at hl 0 rfl) ?_
                    refine lv_iload_n hx hb dX12_entry_207 rfl (lv_at hl 3 rfl) ?_
                    refine xi (wr := [(mon, .inl (cs 0, 16, .inl (upd onf en (-1)))), (mot, .inl (cs 0, 16, .inl (upd otf en (-1)))), (man, .inl (cs 0, 16, .inl (upd anf en (nI 0))))]) (xV (As := [.int (nI o), .int (nI x0)]) (rest := []) C (c_X12_acceptedOf_f l D cs hm ms mkp mtr mas mso mon mot man mst msm mtb mti mfr mbn mbs mde maa mab mba mbb n k al be km (en + 1) ea pr nq po (nI 0) xd sF sN sS ig xa xb f9 o (nI x0) (upd sof en (nI x0)) (by omega) (by omega)) kX12_310 hP hD [0, 1, 2] rfl (by decide) 0 rfl rfl rfl ⟨Nat.le_of_ble_eq_true rfl, Nat.le_of_ble_eq_true rfl⟩ rfl hl.1 rfl (Nat.le_of_ble_eq_true rfl) dX12_entry_208 ⟨Nat.le_of_ble_eq_true rfl, Nat.le_of_ble_eq_true rfl⟩) hP hD hS hA [0, 1, 2] [3, 4, 5] rfl rfl (by decide) (by decide) ?_
                    clear hP hD hS
                    try clear locs
                    try clear H
                    intro r_14 u_15 H locs hw_r_14 hP hD hS
                    have hw_r_14 : accM (en + 1) (upd sof en (nI x0)) f9 o (nI x0) r_14 := hw_r_14
                    refine W.widen (k := 0) (n := 0) (Nat.le_of_ble_eq_true rfl) (Nat.le_of_ble_eq_true rfl) ?_
                    replace hP : va_P D vwCl [(mon, .inl (cs 0, 16, .inl (upd onf en (-1)))), (mot, .inl (cs 0, 16, .inl (upd otf en (-1)))), (man, .inl (cs 0, 16, .inl (upd anf en (nI 0)))), (hm, .inr (12, [.ref ms, .ref mkp, .int (nI km), .ref mtr, .int (nI n), .int (nI k), .int (nI al), .int (nI be), .int ea, .int pr, .ref mas, .int nq, .int po, .int (nI (en + 1)), .ref mso, .ref mon, .ref mot, .ref man, .int (nI 0), .int xd, .ref mst, .ref msm, .ref mtb, .ref mti, .ref mfr, .ref mbn, .ref mbs, .ref mde, .int sF, .int sN, .int sS, .int ig, .long xa, .long xb, .ref maa, .ref mab, .ref mba, .ref mbb])), (ms, .inl (cs 0, 288, .inl f9)), (mso, .inl (cs 0, 16, .inl (upd sof en (nI x0))))] H := hP
                    replace hD : va_D A [(mon, .inl (cs 0, 16, .inl (upd onf en (-1)))), (mot, .inl (cs 0, 16, .inl (upd otf en (-1)))), (man, .inl (cs 0, 16, .inl (upd anf en (nI 0)))), (hm, .inr (12, [.ref ms, .ref mkp, .int (nI km), .ref mtr, .int (nI n), .int (nI k), .int (nI al), .int (nI be), .int ea, .int pr, .ref mas, .int nq, .int po, .int (nI (en + 1)), .ref mso, .ref mon, .ref mot, .ref man, .int (nI 0), .int xd, .ref mst, .ref msm, .ref mtb, .ref mti, .ref mfr, .ref mbn, .ref mbs, .ref mde, .int sF, .int sN, .int sS, .int ig, .long xa, .long xb, .ref maa, .ref mab, .ref mba, .ref mbb])), (ms, .inl (cs 0, 288, .inl f9)), (mso, .inl (cs 0, 16, .inl (upd sof en (nI x0))))] := hD
                    refine lv_if_lt (tgt := 231) hx hb dX12_entry_211 (by decide) (fun c_16 => ?_) (fun c_16 => ?_)
                    · -- 211 t
                      refine lv_iinc (v := nI (o + 1)) (lv' := [(5, .int (nI (o + 1))), (4, .int (nI en)), (0, .ref hm), (1, .int (nI x0)), (2, .int (-1)), (3, .int (-1))]) hx hb dX12_entry_231 hl (k := 0) rfl (nI_add o 1) (by decide) rfl ?_
                      clear hl
                      try clear ls
                      intro ls hl
                      refine lv_goto (tgt := 162) hx hb dX12_entry_234 (by decide) ?_
                      exact ih_loop_11 (o + 1) f9 (by omega) hs9 (entV_s (by omega) (by omega) (by omega) hv9 (Or.inr ⟨(Int32.not_lt.mpr c_13), rfl⟩) hw_r_14 (Or.inl ⟨c_16, rfl⟩)) (by omega) H locs ls (xP_map hP [3, 4, 5, 0, 1, 2] rfl) (hD.sub [3, 4, 5, 0, 1, 2] (by decide) rfl) hS (lv_sub hl [0, 1, 2, 3, 4, 5] rfl)
                    · -- 211 f
                      refine lv_aload_n hx hb dX12_entry_214 rfl (lv_at hl 2 rfl) ?_
                      refine xget C hP 3 rfl rfl zuX12 0 (by decide) zw5_213 rfl dX12_entry_215 ?_
                      refine lv_bipush (v := nI 88) hx hb dX12_entry_218 (by decide) ?_
                      refine lv_iload hx hb dX12_entry_220 (lv_at hl 0 rfl) ?_
                      refine lv_iadd hx hb dX12_entry_222 ?_
                      refine lv_topi (nm_r (e' := nI (88 + o)) (nI_add _ _) ?_)
                      refine lv_dup2_11 hx hb dX12_entry_223 rfl rfl ?_
                      refine xiald C hP 4 rfl (88 + o) rfl (by omega) (by decide) dX12_entry_224 ?_
                      refine lv_iconst (v := nI 1) hx hb dX12_entry_225 (by decide) ?_
                      refine lv_iload hx hb dX12_entry_226 (lv_at hl 1 rfl) ?_
                      refine lv_ishl hx hb dX12_entry_228 ?_
                      refine lv_ior hx hb dX12_entry_229 ?_
                      refine xiast C hP hD hS 4 rfl (88 + o) rfl (by omega) (by decide) dX12_entry_230 ?_
                      clear hP hD hS
                      try clear locs
                      try clear H
                      intro H locs hP hD hS
                      replace hP : va_P D vwCl [(mon, .inl (cs 0, 16, .inl (upd onf en (-1)))), (mot, .inl (cs 0, 16, .inl (upd otf en (-1)))), (man, .inl (cs 0, 16, .inl (upd anf en (nI 0)))), (hm, .inr (12, [.ref ms, .ref mkp, .int (nI km), .ref mtr, .int (nI n), .int (nI k), .int (nI al), .int (nI be), .int ea, .int pr, .ref mas, .int nq, .int po, .int (nI (en + 1)), .ref mso, .ref mon, .ref mot, .ref man, .int (nI 0), .int xd, .ref mst, .ref msm, .ref mtb, .ref mti, .ref mfr, .ref mbn, .ref mbs, .ref mde, .int sF, .int sN, .int sS, .int ig, .long xa, .long xb, .ref maa, .ref mab, .ref mba, .ref mbb])), (ms, .inl (cs 0, 288, .inl (upd f9 (88 + o) ((f9 (88 + o)) ||| ((nI 1) <<< ((nI en) &&& 31)))))), (mso, .inl (cs 0, 16, .inl (upd sof en (nI x0))))] H := hP
                      replace hD : va_D A [(mon, .inl (cs 0, 16, .inl (upd onf en (-1)))), (mot, .inl (cs 0, 16, .inl (upd otf en (-1)))), (man, .inl (cs 0, 16, .inl (upd anf en (nI 0)))), (hm, .inr (12, [.ref ms, .ref mkp, .int (nI km), .ref mtr, .int (nI n), .int (nI k), .int (nI al), .int (nI be), .int ea, .int pr, .ref mas, .int nq, .int po, .int (nI (en + 1)), .ref mso, .ref mon, .ref mot, .ref man, .int (nI 0), .int xd, .ref mst, .ref msm, .ref mtb, .ref mti, .ref mfr, .ref mbn, .ref mbs, .ref mde, .int sF, .int sN, .int sS, .int ig, .long xa, .long xb, .ref maa, .ref mab, .ref mba, .ref mbb])), (ms, .inl (cs 0, 288, .inl (upd f9 (88 + o) ((f9 (88 + o)) ||| ((nI 1) <<< ((nI en) &&& 31)))))), (mso, .inl (cs 0, 16, .inl (upd sof en (nI x0))))] := hD
                      refine lv_iinc (v := nI (o + 1)) (lv' := [(5, .int (nI (o + 1))), (4, .int (nI en)), (0, .ref hm), (1, .int (nI x0)), (2, .int (-1)), (3, .int (-1))]) hx hb dX12_entry_231 hl (k := 0) rfl (nI_add o 1) (by decide) rfl ?_
                      clear hl
                      try clear ls
                      intro ls hl
                      refine lv_goto (tgt := 162) hx hb dX12_entry_234 (by decide) ?_
                      exact ih_loop_11 (o + 1) (upd f9 (88 + o) ((f9 (88 + o)) ||| ((nI 1) <<< ((nI en) &&& 31)))) (by omega) (colP_hi (i := 88 + o) hs9 ((f9 (88 + o)) ||| ((nI 1) <<< ((nI en) &&& 31))) (by omega)) (entV_s (by omega) (by omega) (by omega) hv9 (Or.inr ⟨(Int32.not_lt.mpr c_13), rfl⟩) hw_r_14 (Or.inr ⟨c_16, rfl⟩)) (by omega) H locs ls (xP_map hP [3, 4, 5, 0, 1, 2] rfl) (hD.sub [3, 4, 5, 0, 1, 2] (by decide) rfl) hS (lv_sub hl [0, 1, 2, 3, 4, 5] rfl)
                  · -- 184 f
                    refine lv_aload_n hx hb dX12_entry_187 rfl (lv_at hl 2 rfl) ?_
                    refine xget C hP 0 rfl rfl zuX12 0 (by decide) zw5_213 rfl dX12_entry_188 ?_
                    refine lv_bipush (v := nI 96) hx hb dX12_entry_191 (by decide) ?_
                    refine lv_bipush (v := nI 8) hx hb dX12_entry_193 (by decide) ?_
                    refine lv_iload hx hb dX12_entry_195 (lv_at hl 0 rfl) ?_
                    refine lv_imul hx hb dX12_entry_197 ?_
                    refine lv_topi (nm_r (e' := nI (8 * o)) (pk_mul _ _) ?_)
                    refine lv_iadd hx hb dX12_entry_198 ?_
                    refine lv_topi (nm_r (e' := nI (96 + (8 * o))) (nI_add _ _) ?_)
                    refine lv_iload_n hx hb dX12_entry_199 rfl (lv_at hl 3 rfl) ?_
                    refine lv_iadd hx hb dX12_entry_200 ?_
                    refine lv_topi (nm_r (e' := nI ((96 + (8 * o)) + x0)) (nI_add _ _) ?_)
                    refine lv_iload hx hb dX12_entry_201 (lv_at hl 1 rfl) ?_
                    refine xiast C hP hD hS 1 rfl ((96 + (8 * o)) + x0) rfl (by omega) (by decide) dX12_entry_203 ?_
                    clear hP hD hS
                    try clear locs
                    try clear H
                    intro H locs hP hD hS
                    replace hP : va_P D vwCl [(hm, .inr (12, [.ref ms, .ref mkp, .int (nI km), .ref mtr, .int (nI n), .int (nI k), .int (nI al), .int (nI be), .int ea, .int pr, .ref mas, .int nq, .int po, .int (nI (en + 1)), .ref mso, .ref mon, .ref mot, .ref man, .int (nI 0), .int xd, .ref mst, .ref msm, .ref mtb, .ref mti, .ref mfr, .ref mbn, .ref mbs, .ref mde, .int sF, .int sN, .int sS, .int ig, .long xa, .long xb, .ref maa, .ref mab, .ref mba, .ref mbb])), (ms, .inl (cs 0, 288, .inl (upd f9 ((96 + (8 * o)) + x0) (nI en)))), (mso, .inl (cs 0, 16, .inl (upd sof en (nI x0)))), (mon, .inl (cs 0, 16, .inl (upd onf en (-1)))), (mot, .inl (cs 0, 16, .inl (upd otf en (-1)))), (man, .inl (cs 0, 16, .inl (upd anf en (nI 0))))] H := hP
                    replace hD : va_D A [(hm, .inr (12, [.ref ms, .ref mkp, .int (nI km), .ref mtr, .int (nI n), .int (nI k), .int (nI al), .int (nI be), .int ea, .int pr, .ref mas, .int nq, .int po, .int (nI (en + 1)), .ref mso, .ref mon, .ref mot, .ref man, .int (nI 0), .int xd, .ref mst, .ref msm, .ref mtb, .ref mti, .ref mfr, .ref mbn, .ref mbs, .ref mde, .int sF, .int sN, .int sS, .int ig, .long xa, .long xb, .ref maa, .ref mab, .ref mba, .ref mbb])), (ms, .inl (cs 0, 288, .inl (upd f9 ((96 + (8 * o)) + x0) (nI en)))), (mso, .inl (cs 0, 16, .inl (upd sof en (nI x0)))), (mon, .inl (cs 0, 16, .inl (upd onf en (-1)))), (mot, .inl (cs 0, 16, .inl (upd otf en (-1)))), (man, .inl (cs 0, 16, .inl (upd anf en (nI 0))))] := hD
                    refine lv_aload_n hx hb dX12_entry_204 rfl (lv_at hl 2 rfl) ?_
                    refine lv_iload hx hb dX12_entry_205 (lv_at hl 0 rfl) ?_
                    refine lv_iload_n hx hb dX12_entry_207 rfl (lv_at hl 3 rfl) ?_
                    refine xi (wr := [(mon, .inl (cs 0, 16, .inl (upd onf en (-1)))), (mot, .inl (cs 0, 16, .inl (upd otf en (-1)))), (man, .inl (cs 0, 16, .inl (upd anf en (nI 0))))]) (xV (As := [.int (nI o), .int (nI x0)]) (rest := []) C (c_X12_acceptedOf_f l D cs hm ms mkp mtr mas mso mon mot man mst msm mtb mti mfr mbn mbs mde maa mab mba mbb n k al be km (en + 1) ea pr nq po (nI 0) xd sF sN sS ig xa xb (upd f9 ((96 + (8 * o)) + x0) (nI en)) o (nI x0) (upd sof en (nI x0)) (by omega) (by omega)) kX12_310 hP hD [0, 1, 2] rfl (by decide) 0 rfl rfl rfl ⟨Nat.le_of_ble_eq_true rfl, Nat.le_of_ble_eq_true rfl⟩ rfl hl.1 rfl (Nat.le_of_ble_eq_true rfl) dX12_entry_208 ⟨Nat.le_of_ble_eq_true rfl, Nat.le_of_ble_eq_true rfl⟩) hP hD hS hA [0, 1, 2] [3, 4, 5] rfl rfl (by decide) (by decide) ?_
                    clear hP hD hS
                    try clear locs
                    try clear H
                    intro r_17 u_18 H locs hw_r_17 hP hD hS
                    have hw_r_17 : accM (en + 1) (upd sof en (nI x0)) (upd f9 ((96 + (8 * o)) + x0) (nI en)) o (nI x0) r_17 := hw_r_17
                    refine W.widen (k := 0) (n := 0) (Nat.le_of_ble_eq_true rfl) (Nat.le_of_ble_eq_true rfl) ?_
                    replace hP : va_P D vwCl [(mon, .inl (cs 0, 16, .inl (upd onf en (-1)))), (mot, .inl (cs 0, 16, .inl (upd otf en (-1)))), (man, .inl (cs 0, 16, .inl (upd anf en (nI 0)))), (hm, .inr (12, [.ref ms, .ref mkp, .int (nI km), .ref mtr, .int (nI n), .int (nI k), .int (nI al), .int (nI be), .int ea, .int pr, .ref mas, .int nq, .int po, .int (nI (en + 1)), .ref mso, .ref mon, .ref mot, .ref man, .int (nI 0), .int xd, .ref mst, .ref msm, .ref mtb, .ref mti, .ref mfr, .ref mbn, .ref mbs, .ref mde, .int sF, .int sN, .int sS, .int ig, .long xa, .long xb, .ref maa, .ref mab, .ref mba, .ref mbb])), (ms, .inl (cs 0, 288, .inl (upd f9 ((96 + (8 * o)) + x0) (nI en)))), (mso, .inl (cs 0, 16, .inl (upd sof en (nI x0))))] H := hP
                    replace hD : va_D A [(mon, .inl (cs 0, 16, .inl (upd onf en (-1)))), (mot, .inl (cs 0, 16, .inl (upd otf en (-1)))), (man, .inl (cs 0, 16, .inl (upd anf en (nI 0)))), (hm, .inr (12, [.ref ms, .ref mkp, .int (nI km), .ref mtr, .int (nI n), .int (nI k), .int (nI al), .int (nI be), .int ea, .int pr, .ref mas, .int nq, .int po, .int (nI (en + 1)), .ref mso, .ref mon, .ref mot, .ref man, .int (nI 0), .int xd, .ref mst, .ref msm, .ref mtb, .ref mti, .ref mfr, .ref mbn, .ref mbs, .ref mde, .int sF, .int sN, .int sS, .int ig, .long xa, .long xb, .ref maa, .ref mab, .ref mba, .ref mbb])), (ms, .inl (cs 0, 288, .inl (upd f9 ((96 + (8 * o)) + x0) (nI en)))), (mso, .inl (cs 0, 16, .inl (upd sof en (nI x0))))] := hD
                    refine lv_if_lt (tgt := 231) hx hb dX12_entry_211 (by decide) (fun c_19 => ?_) (fun c_19 => ?_)
                    · -- 211 t
                      refine lv_iinc (v := nI (o + 1)) (lv' := [(5, .int (nI (o + 1))), (4, .int (nI en)), (0, .ref hm), (1, .int (nI x0)), (2, .int (-1)), (3, .int (-1))]) hx hb dX12_entry_231 hl (k := 0) rfl (nI_add o 1) (by decide) rfl ?_
                      clear hl
                      try clear ls
                      intro ls hl
                      refine lv_goto (tgt := 162) hx hb dX12_entry_234 (by decide) ?_
                      exact ih_loop_11 (o + 1) (upd f9 ((96 + (8 * o)) + x0) (nI en)) (by omega) (colP_hi (i := (96 + (8 * o)) + x0) hs9 (nI en) (by omega)) (entV_s (by omega) (by omega) (by omega) hv9 (Or.inl ⟨Int32.not_le.mp c_13, rfl⟩) hw_r_17 (Or.inl ⟨c_19, rfl⟩)) (by omega) H locs ls (xP_map hP [3, 4, 5, 0, 1, 2] rfl) (hD.sub [3, 4, 5, 0, 1, 2] (by decide) rfl) hS (lv_sub hl [0, 1, 2, 3, 4, 5] rfl)
                    · -- 211 f
                      refine lv_aload_n hx hb dX12_entry_214 rfl (lv_at hl 2 rfl) ?_
                      refine xget C hP 3 rfl rfl zuX12 0 (by decide) zw5_213 rfl dX12_entry_215 ?_
                      refine lv_bipush (v := nI 88) hx hb dX12_entry_218 (by decide) ?_
                      refine lv_iload hx hb dX12_entry_220 (lv_at hl 0 rfl) ?_
                      refine lv_iadd hx hb dX12_entry_222 ?_
                      refine lv_topi (nm_r (e' := nI (88 + o)) (nI_add _ _) ?_)
                      refine lv_dup2_11 hx hb dX12_entry_223 rfl rfl ?_
                      refine xiald C hP 4 rfl (88 + o) rfl (by omega) (by decide) dX12_entry_224 ?_
                      refine lv_iconst (v := nI 1) hx hb dX12_entry_225 (by decide) ?_
                      refine lv_iload hx hb dX12_entry_226 (lv_at hl 1 rfl) ?_
                      refine lv_ishl hx hb dX12_entry_228 ?_
                      refine lv_ior hx hb dX12_entry_229 ?_
                      refine xiast C hP hD hS 4 rfl (88 + o) rfl (by omega) (by decide) dX12_entry_230 ?_
                      clear hP hD hS
                      try clear locs
                      try clear H
                      intro H locs hP hD hS
                      replace hP : va_P D vwCl [(mon, .inl (cs 0, 16, .inl (upd onf en (-1)))), (mot, .inl (cs 0, 16, .inl (upd otf en (-1)))), (man, .inl (cs 0, 16, .inl (upd anf en (nI 0)))), (hm, .inr (12, [.ref ms, .ref mkp, .int (nI km), .ref mtr, .int (nI n), .int (nI k), .int (nI al), .int (nI be), .int ea, .int pr, .ref mas, .int nq, .int po, .int (nI (en + 1)), .ref mso, .ref mon, .ref mot, .ref man, .int (nI 0), .int xd, .ref mst, .ref msm, .ref mtb, .ref mti, .ref mfr, .ref mbn, .ref mbs, .ref mde, .int sF, .int sN, .int sS, .int ig, .long xa, .long xb, .ref maa, .ref mab, .ref mba, .ref mbb])), (ms, .inl (cs 0, 288, .inl (upd (upd f9 ((96 + (8 * o)) + x0) (nI en)) (88 + o) (((upd f9 ((96 + (8 * o)) + x0) (nI en)) (88 + o)) ||| ((nI 1) <<< ((nI en) &&& 31)))))), (mso, .inl (cs 0, 16, .inl (upd sof en (nI x0))))] H := hP
                      replace hD : va_D A [(mon, .inl (cs 0, 16, .inl (upd onf en (-1)))), (mot, .inl (cs 0, 16, .inl (upd otf en (-1)))), (man, .inl (cs 0, 16, .inl (upd anf en (nI 0)))), (hm, .inr (12, [.ref ms, .ref mkp, .int (nI km), .ref mtr, .int (nI n), .int (nI k), .int (nI al), .int (nI be), .int ea, .int pr, .ref mas, .int nq, .int po, .int (nI (en + 1)), .ref mso, .ref mon, .ref mot, .ref man, .int (nI 0), .int xd, .ref mst, .ref msm, .ref mtb, .ref mti, .ref mfr, .ref mbn, .ref mbs, .ref mde, .int sF, .int sN, .int sS, .int ig, .long xa, .long xb, .ref maa, .ref mab, .ref mba, .ref mbb])), (ms, .inl (cs 0, 288, .inl (upd (upd f9 ((96 + (8 * o)) + x0) (nI en)) (88 + o) (((upd f9 ((96 + (8 * o)) + x0) (nI en)) (88 + o)) ||| ((nI 1) <<< ((nI en) &&& 31)))))), (mso, .inl (cs 0, 16, .inl (upd sof en (nI x0))))] := hD
                      refine lv_iinc (v := nI (o + 1)) (lv' := [(5, .int (nI (o + 1))), (4, .int (nI en)), (0, .ref hm), (1, .int (nI x0)), (2, .int (-1)), (3, .int (-1))]) hx hb dX12_entry_231 hl (k := 0) rfl (nI_add o 1) (by decide) rfl ?_
                      clear hl
                      try clear ls
                      intro ls hl
                      refine lv_goto (tgt := 162) hx hb dX12_entry_234 (by decide) ?_
                      exact ih_loop_11 (o + 1) (upd (upd f9 ((96 + (8 * o)) + x0) (nI en)) (88 + o) (((upd f9 ((96 + (8 * o)) + x0) (nI en)) (88 + o)) ||| ((nI 1) <<< ((nI en) &&& 31)))) (by omega) (colP_hi (i := 88 + o) (colP_hi (i := (96 + (8 * o)) + x0) hs9 (nI en) (by omega)) (((upd f9 ((96 + (8 * o)) + x0) (nI en)) (88 + o)) ||| ((nI 1) <<< ((nI en) &&& 31))) (by omega)) (entV_s (by omega) (by omega) (by omega) hv9 (Or.inl ⟨Int32.not_le.mp c_13, rfl⟩) hw_r_17 (Or.inr ⟨c_19, rfl⟩)) (by omega) H locs ls (xP_map hP [3, 4, 5, 0, 1, 2] rfl) (hD.sub [3, 4, 5, 0, 1, 2] (by decide) rfl) hS (lv_sub hl [0, 1, 2, 3, 4, 5] rfl)
            exact loop_11 _ 0 f (by omega) hs (entV_0 _ _ _ _) (Nat.lt_succ_self _) H locs ls hP hD hS (lv_sub hl [0, 1, 2, 3, 4, 5] rfl)
          · -- 58 f
            have fc_10 : en = 16 := nf_eq (by omega) (by omega) c_10
            refine lv_iconst (v := (-1)) hx hb dX12_entry_61 (by decide) ?_
            exact xreti C (⟨en, km, f, sof, onf, otf, anf⟩) (⟨Or.inr ⟨fun q => by have z := q.2.2.2.2; omega, rfl⟩, ⟨hs, hen, hkm, hso, hon, hot⟩, Or.inr ⟨fun q => by have z := q.2.2.2.2; omega, rfl, rfl, rfl, rfl, rfl, rfl, rfl⟩⟩) hP hD hS (Nat.le_of_ble_eq_true rfl) (Nat.le_of_ble_eq_true rfl) rfl dX12_entry_62
        · -- split
          replace hP : va_P D vwCl [(hm, .inr (12, [.ref ms, .ref mkp, .int (nI km), .ref mtr, .int (nI n), .int (nI k), .int (nI al), .int (nI be), .int ea, .int pr, .ref mas, .int nq, .int po, .int (nI en), .ref mso, .ref mon, .ref mot, .ref man, .int (nI 0), .int xd, .ref mst, .ref msm, .ref mtb, .ref mti, .ref mfr, .ref mbn, .ref mbs, .ref mde, .int sF, .int sN, .int sS, .int ig, .long xa, .long xb, .ref maa, .ref mab, .ref mba, .ref mbb])), (ms, .inl (cs 0, 288, .inl f)), (mso, .inl (cs 0, 16, .inl sof)), (mon, .inl (cs 0, 16, .inl onf)), (mot, .inl (cs 0, 16, .inl otf)), (man, .inl (cs 0, 16, .inl anf))] H := hP
          replace hD : va_D A [(hm, .inr (12, [.ref ms, .ref mkp, .int (nI km), .ref mtr, .int (nI n), .int (nI k), .int (nI al), .int (nI be), .int ea, .int pr, .ref mas, .int nq, .int po, .int (nI en), .ref mso, .ref mon, .ref mot, .ref man, .int (nI 0), .int xd, .ref mst, .ref msm, .ref mtb, .ref mti, .ref mfr, .ref mbn, .ref mbs, .ref mde, .int sF, .int sN, .int sS, .int ig, .long xa, .long xb, .ref maa, .ref mab, .ref mba, .ref mbb])), (ms, .inl (cs 0, 288, .inl f)), (mso, .inl (cs 0, 16, .inl sof)), (mon, .inl (cs 0, 16, .inl onf)), (mot, .inl (cs 0, 16, .inl otf)), (man, .inl (cs 0, 16, .inl anf))] := hD
          refine lv_iload_n hx hb dX12_entry_43 rfl (lv_at hl 2 rfl) ?_
          refine lv_if_lt (tgt := 52) hx hb dX12_entry_44 (by decide) (fun _ => ?_) (fun c => absurd (by decide) c)
          refine lv_aload_n hx hb dX12_entry_52 rfl (lv_at hl 0 rfl) ?_
          refine xget C hP 0 rfl rfl zuX12 13 (by decide) zw5_226 rfl dX12_entry_53 ?_
          refine lv_bipush (v := nI 16) hx hb dX12_entry_56 (by decide) ?_
          refine lv_icmp_ne (tgt := 63) hx hb dX12_entry_58 (by decide) (fun c_20 => ?_) (fun c_20 => ?_)
          · -- 58 t
            have fc_20 : en ≠ 16 := nf_ne (by omega) (by omega) c_20
            refine lv_aload_n hx hb dX12_entry_63 rfl (lv_at hl 0 rfl) ?_
            refine xget C hP 0 rfl rfl zuX12 13 (by decide) zw5_226 rfl dX12_entry_64 ?_
            refine lv_istore (lv' := [(4, .int (nI en)), (0, .ref hm), (1, .int (nI x0)), (2, .int (-1)), (3, .int (nI jz))]) hx hb dX12_entry_67 hl (by decide) rfl ?_
            clear hl
            try clear ls
            intro ls hl
            refine lv_aload_n hx hb dX12_entry_69 rfl (lv_at hl 1 rfl) ?_
            refine xget C hP 0 rfl rfl zuX12 14 (by decide) zw5_227 rfl dX12_entry_70 ?_
            refine lv_iload hx hb dX12_entry_73 (lv_at hl 0 rfl) ?_
            refine lv_iload_n hx hb dX12_entry_75 rfl (lv_at hl 2 rfl) ?_
            refine xiast C hP hD hS 2 rfl en rfl (by omega) (by decide) dX12_entry_76 ?_
            clear hP hD hS
            try clear locs
            try clear H
            intro H locs hP hD hS
            replace hP : va_P D vwCl [(hm, .inr (12, [.ref ms, .ref mkp, .int (nI km), .ref mtr, .int (nI n), .int (nI k), .int (nI al), .int (nI be), .int ea, .int pr, .ref mas, .int nq, .int po, .int (nI en), .ref mso, .ref mon, .ref mot, .ref man, .int (nI 0), .int xd, .ref mst, .ref msm, .ref mtb, .ref mti, .ref mfr, .ref mbn, .ref mbs, .ref mde, .int sF, .int sN, .int sS, .int ig, .long xa, .long xb, .ref maa, .ref mab, .ref mba, .ref mbb])), (ms, .inl (cs 0, 288, .inl f)), (mso, .inl (cs 0, 16, .inl (upd sof en (nI x0)))), (mon, .inl (cs 0, 16, .inl onf)), (mot, .inl (cs 0, 16, .inl otf)), (man, .inl (cs 0, 16, .inl anf))] H := hP
            replace hD : va_D A [(hm, .inr (12, [.ref ms, .ref mkp, .int (nI km), .ref mtr, .int (nI n), .int (nI k), .int (nI al), .int (nI be), .int ea, .int pr, .ref mas, .int nq, .int po, .int (nI en), .ref mso, .ref mon, .ref mot, .ref man, .int (nI 0), .int xd, .ref mst, .ref msm, .ref mtb, .ref mti, .ref mfr, .ref mbn, .ref mbs, .ref mde, .int sF, .int sN, .int sS, .int ig, .long xa, .long xb, .ref maa, .ref mab, .ref mba, .ref mbb])), (ms, .inl (cs 0, 288, .inl f)), (mso, .inl (cs 0, 16, .inl (upd sof en (nI x0)))), (mon, .inl (cs 0, 16, .inl onf)), (mot, .inl (cs 0, 16, .inl otf)), (man, .inl (cs 0, 16, .inl anf))] := hD
            refine lv_aload_n hx hb dX12_entry_77 rfl (lv_at hl 1 rfl) ?_
            refine xget C hP 0 rfl rfl zuX12 15 (by decide) zw5_228 rfl dX12_entry_78 ?_
            refine lv_iload hx hb dX12_entry_81 (lv_at hl 0 rfl) ?_
            refine lv_iload_n hx hb dX12_entry_83 rfl (lv_at hl 3 rfl) ?_
            refine xiast C hP hD hS 3 rfl en rfl (by omega) (by decide) dX12_entry_84 ?_
            clear hP hD hS
            try clear locs
            try clear H
            intro H locs hP hD hS
            replace hP : va_P D vwCl [(hm, .inr (12, [.ref ms, .ref mkp, .int (nI km), .ref mtr, .int (nI n), .int (nI k), .int (nI al), .int (nI be), .int ea, .int pr, .ref mas, .int nq, .int po, .int (nI en), .ref mso, .ref mon, .ref mot, .ref man, .int (nI 0), .int xd, .ref mst, .ref msm, .ref mtb, .ref mti, .ref mfr, .ref mbn, .ref mbs, .ref mde, .int sF, .int sN, .int sS, .int ig, .long xa, .long xb, .ref maa, .ref mab, .ref mba, .ref mbb])), (ms, .inl (cs 0, 288, .inl f)), (mso, .inl (cs 0, 16, .inl (upd sof en (nI x0)))), (mon, .inl (cs 0, 16, .inl (upd onf en (-1)))), (mot, .inl (cs 0, 16, .inl otf)), (man, .inl (cs 0, 16, .inl anf))] H := hP
            replace hD : va_D A [(hm, .inr (12, [.ref ms, .ref mkp, .int (nI km), .ref mtr, .int (nI n), .int (nI k), .int (nI al), .int (nI be), .int ea, .int pr, .ref mas, .int nq, .int po, .int (nI en), .ref mso, .ref mon, .ref mot, .ref man, .int (nI 0), .int xd, .ref mst, .ref msm, .ref mtb, .ref mti, .ref mfr, .ref mbn, .ref mbs, .ref mde, .int sF, .int sN, .int sS, .int ig, .long xa, .long xb, .ref maa, .ref mab, .ref mba, .ref mbb])), (ms, .inl (cs 0, 288, .inl f)), (mso, .inl (cs 0, 16, .inl (upd sof en (nI x0)))), (mon, .inl (cs 0, 16, .inl (upd onf en (-1)))), (mot, .inl (cs 0, 16, .inl otf)), (man, .inl (cs 0, 16, .inl anf))] := hD
            refine lv_aload_n hx hb dX12_entry_85 rfl (lv_at hl 1 rfl) ?_
            refine xget C hP 0 rfl rfl zuX12 16 (by decide) zw5_229 rfl dX12_entry_86 ?_
            refine lv_iload hx hb dX12_entry_89 (lv_at hl 0 rfl) ?_
            refine lv_iload_n hx hb dX12_entry_91 rfl (lv_at hl 4 rfl) ?_
            refine xiast C hP hD hS 4 rfl en rfl (by omega) (by decide) dX12_entry_92 ?_
            clear hP hD hS
            try clear locs
            try clear H
            intro H locs hP hD hS
            replace hP : va_P D vwCl [(hm, .inr (12, [.ref ms, .ref mkp, .int (nI km), .ref mtr, .int (nI n), .int (nI k), .int (nI al), .int (nI be), .int ea, .int pr, .ref mas, .int nq, .int po, .int (nI en), .ref mso, .ref mon, .ref mot, .ref man, .int (nI 0), .int xd, .ref mst, .ref msm, .ref mtb, .ref mti, .ref mfr, .ref mbn, .ref mbs, .ref mde, .int sF, .int sN, .int sS, .int ig, .long xa, .long xb, .ref maa, .ref mab, .ref mba, .ref mbb])), (ms, .inl (cs 0, 288, .inl f)), (mso, .inl (cs 0, 16, .inl (upd sof en (nI x0)))), (mon, .inl (cs 0, 16, .inl (upd onf en (-1)))), (mot, .inl (cs 0, 16, .inl (upd otf en (nI jz)))), (man, .inl (cs 0, 16, .inl anf))] H := hP
            replace hD : va_D A [(hm, .inr (12, [.ref ms, .ref mkp, .int (nI km), .ref mtr, .int (nI n), .int (nI k), .int (nI al), .int (nI be), .int ea, .int pr, .ref mas, .int nq, .int po, .int (nI en), .ref mso, .ref mon, .ref mot, .ref man, .int (nI 0), .int xd, .ref mst, .ref msm, .ref mtb, .ref mti, .ref mfr, .ref mbn, .ref mbs, .ref mde, .int sF, .int sN, .int sS, .int ig, .long xa, .long xb, .ref maa, .ref mab, .ref mba, .ref mbb])), (ms, .inl (cs 0, 288, .inl f)), (mso, .inl (cs 0, 16, .inl (upd sof en (nI x0)))), (mon, .inl (cs 0, 16, .inl (upd onf en (-1)))), (mot, .inl (cs 0, 16, .inl (upd otf en (nI jz)))), (man, .inl (cs 0, 16, .inl anf))] := hD
            refine lv_aload_n hx hb dX12_entry_93 rfl (lv_at hl 1 rfl) ?_
            refine xget C hP 0 rfl rfl zuX12 17 (by decide) zw5_230 rfl dX12_entry_94 ?_
            refine lv_iload hx hb dX12_entry_97 (lv_at hl 0 rfl) ?_
            refine lv_iconst (v := nI 0) hx hb dX12_entry_99 (by decide) ?_
            refine xiast C hP hD hS 5 rfl en rfl (by omega) (by decide) dX12_entry_100 ?_
            clear hP hD hS
            try clear locs
            try clear H
            intro H locs hP hD hS
            replace hP : va_P D vwCl [(hm, .inr (12, [.ref ms, .ref mkp, .int (nI km), .ref mtr, .int (nI n), .int (nI k), .int (nI al), .int (nI be), .int ea, .int pr, .ref mas, .int nq, .int po, .int (nI en), .ref mso, .ref mon, .ref mot, .ref man, .int (nI 0), .int xd, .ref mst, .ref msm, .ref mtb, .ref mti, .ref mfr, .ref mbn, .ref mbs, .ref mde, .int sF, .int sN, .int sS, .int ig, .long xa, .long xb, .ref maa, .ref mab, .ref mba, .ref mbb])), (ms, .inl (cs 0, 288, .inl f)), (mso, .inl (cs 0, 16, .inl (upd sof en (nI x0)))), (mon, .inl (cs 0, 16, .inl (upd onf en (-1)))), (mot, .inl (cs 0, 16, .inl (upd otf en (nI jz)))), (man, .inl (cs 0, 16, .inl (upd anf en (nI 0))))] H := hP
            replace hD : va_D A [(hm, .inr (12, [.ref ms, .ref mkp, .int (nI km), .ref mtr, .int (nI n), .int (nI k), .int (nI al), .int (nI be), .int ea, .int pr, .ref mas, .int nq, .int po, .int (nI en), .ref mso, .ref mon, .ref mot, .ref man, .int (nI 0), .int xd, .ref mst, .ref msm, .ref mtb, .ref mti, .ref mfr, .ref mbn, .ref mbs, .ref mde, .int sF, .int sN, .int sS, .int ig, .long xa, .long xb, .ref maa, .ref mab, .ref mba, .ref mbb])), (ms, .inl (cs 0, 288, .inl f)), (mso, .inl (cs 0, 16, .inl (upd sof en (nI x0)))), (mon, .inl (cs 0, 16, .inl (upd onf en (-1)))), (mot, .inl (cs 0, 16, .inl (upd otf en (nI jz)))), (man, .inl (cs 0, 16, .inl (upd anf en (nI 0))))] := hD
            refine lv_iload_n hx hb dX12_entry_101 rfl (lv_at hl 3 rfl) ?_
            refine lv_if_lt (tgt := 125) hx hb dX12_entry_102 (by decide) (fun _ => ?_) (fun c => absurd (by decide) c)
            refine lv_iload_n hx hb dX12_entry_125 rfl (lv_at hl 4 rfl) ?_
            refine lv_if_lt (tgt := 149) hx hb dX12_entry_126 (by decide) (fun c => absurd c (nI_pos (by omega))) (fun _ => ?_)
            refine lv_aload_n hx hb dX12_entry_129 rfl (lv_at hl 1 rfl) ?_
            refine xget C hP 0 rfl rfl zuX12 17 (by decide) zw5_230 rfl dX12_entry_130 ?_
            refine lv_iload hx hb dX12_entry_133 (lv_at hl 0 rfl) ?_
            refine lv_dup2_11 hx hb dX12_entry_135 rfl rfl ?_
            refine xiald C hP 5 rfl en rfl (by omega) (by decide) dX12_entry_136 ?_
            refine lv_aload_n hx hb dX12_entry_137 rfl (lv_at hl 1 rfl) ?_
            refine xget C hP 0 rfl rfl zuX12 17 (by decide) zw5_230 rfl dX12_entry_138 ?_
            refine lv_iload_n hx hb dX12_entry_141 rfl (lv_at hl 4 rfl) ?_
            refine xiald C hP 5 rfl jz rfl (by omega) (by decide) dX12_entry_142 ?_
            refine lv_iconst (v := nI 1) hx hb dX12_entry_143 (by decide) ?_
            refine lv_iload_n hx hb dX12_entry_144 rfl (lv_at hl 4 rfl) ?_
            refine lv_ishl hx hb dX12_entry_145 ?_
            refine lv_ior hx hb dX12_entry_146 ?_
            refine lv_ior hx hb dX12_entry_147 ?_
            refine xiast C hP hD hS 5 rfl en rfl (by omega) (by decide) dX12_entry_148 ?_
            clear hP hD hS
            try clear locs
            try clear H
            intro H locs hP hD hS
            replace hP : va_P D vwCl [(hm, .inr (12, [.ref ms, .ref mkp, .int (nI km), .ref mtr, .int (nI n), .int (nI k), .int (nI al), .int (nI be), .int ea, .int pr, .ref mas, .int nq, .int po, .int (nI en), .ref mso, .ref mon, .ref mot, .ref man, .int (nI 0), .int xd, .ref mst, .ref msm, .ref mtb, .ref mti, .ref mfr, .ref mbn, .ref mbs, .ref mde, .int sF, .int sN, .int sS, .int ig, .long xa, .long xb, .ref maa, .ref mab, .ref mba, .ref mbb])), (ms, .inl (cs 0, 288, .inl f)), (mso, .inl (cs 0, 16, .inl (upd sof en (nI x0)))), (mon, .inl (cs 0, 16, .inl (upd onf en (-1)))), (mot, .inl (cs 0, 16, .inl (upd otf en (nI jz)))), (man, .inl (cs 0, 16, .inl (upd (upd anf en (nI 0)) en (((upd anf en (nI 0)) en) ||| (((upd anf en (nI 0)) jz) ||| ((nI 1) <<< ((nI jz) &&& 31)))))))] H := hP
            replace hD : va_D A [(hm, .inr (12, [.ref ms, .ref mkp, .int (nI km), .ref mtr, .int (nI n), .int (nI k), .int (nI al), .int (nI be), .int ea, .int pr, .ref mas, .int nq, .int po, .int (nI en), .ref mso, .ref mon, .ref mot, .ref man, .int (nI 0), .int xd, .ref mst, .ref msm, .ref mtb, .ref mti, .ref mfr, .ref mbn, .ref mbs, .ref mde, .int sF, .int sN, .int sS, .int ig, .long xa, .long xb, .ref maa, .ref mab, .ref mba, .ref mbb])), (ms, .inl (cs 0, 288, .inl f)), (mso, .inl (cs 0, 16, .inl (upd sof en (nI x0)))), (mon, .inl (cs 0, 16, .inl (upd onf en (-1)))), (mot, .inl (cs 0, 16, .inl (upd otf en (nI jz)))), (man, .inl (cs 0, 16, .inl (upd (upd anf en (nI 0)) en (((upd anf en (nI 0)) en) ||| (((upd anf en (nI 0)) jz) ||| ((nI 1) <<< ((nI jz) &&& 31)))))))] := hD
            refine lv_aload_n hx hb dX12_entry_149 rfl (lv_at hl 1 rfl) ?_
            refine lv_dup hx hb dX12_entry_150 rfl ?_
            refine xget C hP 0 rfl rfl zuX12 13 (by decide) zw5_226 rfl dX12_entry_151 ?_
            refine lv_iconst (v := nI 1) hx hb dX12_entry_154 (by decide) ?_
            refine lv_iadd hx hb dX12_entry_155 ?_
            refine lv_topi (nm_r (e' := nI (en + 1)) (nI_add _ _) ?_)
            refine xput C hP hD hS 0 rfl rfl zuX12 tyX12 tyX12_ok nmX12 13 (by decide) zw5_226 rfl rfl rfl (Nat.le_of_ble_eq_true rfl) dX12_entry_156 ?_
            clear hP hD hS
            try clear locs
            try clear H
            intro H locs hP hD hS
            replace hP : va_P D vwCl [(hm, .inr (12, [.ref ms, .ref mkp, .int (nI km), .ref mtr, .int (nI n), .int (nI k), .int (nI al), .int (nI be), .int ea, .int pr, .ref mas, .int nq, .int po, .int (nI (en + 1)), .ref mso, .ref mon, .ref mot, .ref man, .int (nI 0), .int xd, .ref mst, .ref msm, .ref mtb, .ref mti, .ref mfr, .ref mbn, .ref mbs, .ref mde, .int sF, .int sN, .int sS, .int ig, .long xa, .long xb, .ref maa, .ref mab, .ref mba, .ref mbb])), (ms, .inl (cs 0, 288, .inl f)), (mso, .inl (cs 0, 16, .inl (upd sof en (nI x0)))), (mon, .inl (cs 0, 16, .inl (upd onf en (-1)))), (mot, .inl (cs 0, 16, .inl (upd otf en (nI jz)))), (man, .inl (cs 0, 16, .inl (upd (upd anf en (nI 0)) en (((upd anf en (nI 0)) en) ||| (((upd anf en (nI 0)) jz) ||| ((nI 1) <<< ((nI jz) &&& 31)))))))] H := hP
            replace hD : va_D A [(hm, .inr (12, [.ref ms, .ref mkp, .int (nI km), .ref mtr, .int (nI n), .int (nI k), .int (nI al), .int (nI be), .int ea, .int pr, .ref mas, .int nq, .int po, .int (nI (en + 1)), .ref mso, .ref mon, .ref mot, .ref man, .int (nI 0), .int xd, .ref mst, .ref msm, .ref mtb, .ref mti, .ref mfr, .ref mbn, .ref mbs, .ref mde, .int sF, .int sN, .int sS, .int ig, .long xa, .long xb, .ref maa, .ref mab, .ref mba, .ref mbb])), (ms, .inl (cs 0, 288, .inl f)), (mso, .inl (cs 0, 16, .inl (upd sof en (nI x0)))), (mon, .inl (cs 0, 16, .inl (upd onf en (-1)))), (mot, .inl (cs 0, 16, .inl (upd otf en (nI jz)))), (man, .inl (cs 0, 16, .inl (upd (upd anf en (nI 0)) en (((upd anf en (nI 0)) en) ||| (((upd anf en (nI 0)) jz) ||| ((nI 1) <<< ((nI jz) &&& 31)))))))] := hD
            refine lv_iconst (v := nI 0) hx hb dX12_entry_159 (by decide) ?_
            refine lv_istore (lv' := [(5, .int (nI 0)), (4, .int (nI en)), (0, .ref hm), (1, .int (nI x0)), (2, .int (-1)), (3, .int (nI jz))]) hx hb dX12_entry_160 hl (by decide) rfl ?_
            clear hl
            try clear ls
            intro ls hl
            have loop_21 : ∀ (n_loop_21 : Nat) (o : Nat) (f9 : Nat → Int32), (o ≤ 8) → (colP f9) → (entV en (upd sof en (nI x0)) x0 o f f9) → 8 - o < n_loop_21 → ∀ (H : Heap) (locs : List Loc) (ls : Array Slot), va_P D vwCl [(hm, .inr (12, [.ref ms, .ref mkp, .int (nI km), .ref mtr, .int (nI n), .int (nI k), .int (nI al), .int (nI be), .int ea, .int pr, .ref mas, .int nq, .int po, .int (nI (en + 1)), .ref mso, .ref mon, .ref mot, .ref man, .int (nI 0), .int xd, .ref mst, .ref msm, .ref mtb, .ref mti, .ref mfr, .ref mbn, .ref mbs, .ref mde, .int sF, .int sN, .int sS, .int ig, .long xa, .long xb, .ref maa, .ref mab, .ref mba, .ref mbb])), (ms, .inl (cs 0, 288, .inl f9)), (mso, .inl (cs 0, 16, .inl (upd sof en (nI x0)))), (mon, .inl (cs 0, 16, .inl (upd onf en (-1)))), (mot, .inl (cs 0, 16, .inl (upd otf en (nI jz)))), (man, .inl (cs 0, 16, .inl (upd (upd anf en (nI 0)) en (((upd anf en (nI 0)) en) ||| (((upd anf en (nI 0)) jz) ||| ((nI 1) <<< ((nI jz) &&& 31)))))))] H → va_D A [(hm, .inr (12, [.ref ms, .ref mkp, .int (nI km), .ref mtr, .int (nI n), .int (nI k), .int (nI al), .int (nI be), .int ea, .int pr, .ref mas, .int nq, .int po, .int (nI (en + 1)), .ref mso, .ref mon, .ref mot, .ref man, .int (nI 0), .int xd, .ref mst, .ref msm, .ref mtb, .ref mti, .ref mfr, .ref mbn, .ref mbs, .ref mde, .int sF, .int sN, .int sS, .int ig, .long xa, .long xb, .ref maa, .ref mab, .ref mba, .ref mbb])), (ms, .inl (cs 0, 288, .inl f9)), (mso, .inl (cs 0, 16, .inl (upd sof en (nI x0)))), (mon, .inl (cs 0, 16, .inl (upd onf en (-1)))), (mot, .inl (cs 0, 16, .inl (upd otf en (nI jz)))), (man, .inl (cs 0, 16, .inl (upd (upd anf en (nI 0)) en (((upd anf en (nI 0)) en) ||| (((upd anf en (nI 0)) jz) ||| ((nI 1) <<< ((nI jz) &&& 31)))))))] → va_S A s.heap H locs → lv_has ls 6 [(5, .int (nI o)), (4, .int (nI en)), (0, .ref hm), (1, .int (nI x0)), (2, .int (-1)), (3, .int (nI jz))] → W p l e ({ frames := 2, cells := 0, slots := 0, locals := 44 } : Room) s m args below meth c H locs 0 0 (MQ below ((xQi D (fun (r : Int32) (u : Nat × Nat × (Nat → Int32) × (Nat → Int32) × (Nat → Int32) × (Nat → Int32) × (Nat → Int32)) => match u with | (enz, kmz, fz, soz, onz, otz, anz) => (PQ (entP en (nI x0) (-1) (nI jz)) r (nI en) (-1)) ∧ (colP fz ∧ enz ≤ 16 ∧ kmz ≤ 8 ∧ inP 16 8 soz ∧ parF enz onz ∧ parF enz otz) ∧ ((entP en (nI x0) (-1) (nI jz) ∧ enz = en + 1 ∧ kmz = 0 ∧ ∃ t, t < 8 ∧ (nI x0) = nI t ∧ soz = upd sof en (nI t) ∧ onz = upd onf en (-1) ∧ otz = upd otf en (nI jz) ∧ anz en = linF anf (-1) ||| linF anf (nI jz) ∧ (∀ j, ¬ j = en → anz j = anf j) ∧ entV en (upd sof en (nI t)) t 8 f fz) ∨ (¬ entP en (nI x0) (-1) (nI jz) ∧ enz = en ∧ kmz = km ∧ soz = sof ∧ onz = onf ∧ otz = otf ∧ anz = anf ∧ fz = f))) (fun (u : Nat × Nat × (Nat → Int32) × (Nat → Int32) × (Nat → Int32) × (Nat → Int32) × (Nat → Int32)) => match u with | (enz, kmz, fz, soz, onz, otz, anz) => [(hm, .inr (12, [.ref ms, .ref mkp, .int (nI kmz), .ref mtr, .int (nI n), .int (nI k), .int (nI al), .int (nI be), .int ea, .int pr, .ref mas, .int nq, .int po, .int (nI enz), .ref mso, .ref mon, .ref mot, .ref man, .int (nI 0), .int xd, .ref mst, .ref msm, .ref mtb, .ref mti, .ref mfr, .ref mbn, .ref mbs, .ref mde, .int sF, .int sN, .int sS, .int ig, .long xa, .long xb, .ref maa, .ref mab, .ref mba, .ref mbb])), (ms, .inl (cs 0, 288, .inl fz)), (mso, .inl (cs 0, 16, .inl soz)), (mon, .inl (cs 0, 16, .inl onz)), (mot, .inl (cs 0, 16, .inl otz)), (man, .inl (cs 0, 16, .inl anz))])) A) args s 0 0 A) (F0 m 162 ls []) := by
              intro n_loop_21
              induction n_loop_21 with
              | zero => intro o f9 h_o hs9 hv9 hlt H locs ls hP hD hS hl; exact absurd hlt (Nat.not_lt_zero _)
              | succ n_loop_21 ih_loop_21 =>
                intro o f9 h_o hs9 hv9 hlt_loop_21 H locs ls hP hD hS hl
                refine lv_iload hx hb dX12_entry_162 (lv_at hl 0 rfl) ?_
                refine lv_bipush (v := nI 8) hx hb dX12_entry_164 (by decide) ?_
                refine lv_icmp_ge (tgt := 237) hx hb dX12_entry_166 (by decide) (fun c_22 => ?_) (fun c_22 => ?_)
                · -- 166 t
                  have fc_22 : 8 ≤ o := nf_le (by omega) (by omega) c_22
                  refine lv_aload_n hx hb dX12_entry_237 rfl (lv_at hl 2 rfl) ?_
                  refine lv_iconst (v := nI 0) hx hb dX12_entry_238 (by decide) ?_
                  refine xput C hP hD hS 0 rfl rfl zuX12 tyX12 tyX12_ok nmX12 2 (by decide) zw5_215 rfl rfl rfl (Nat.le_of_ble_eq_true rfl) dX12_entry_239 ?_
                  clear hP hD hS
                  try clear locs
                  try clear H
                  intro H locs hP hD hS
                  replace hP : va_P D vwCl [(hm, .inr (12, [.ref ms, .ref mkp, .int (nI 0), .ref mtr, .int (nI n), .int (nI k), .int (nI al), .int (nI be), .int ea, .int pr, .ref mas, .int nq, .int po, .int (nI (en + 1)), .ref mso, .ref mon, .ref mot, .ref man, .int (nI 0), .int xd, .ref mst, .ref msm, .ref mtb, .ref mti, .ref mfr, .ref mbn, .ref mbs, .ref mde, .int sF, .int sN, .int sS, .int ig, .long xa, .long xb, .ref maa, .ref mab, .ref mba, .ref mbb])), (ms, .inl (cs 0, 288, .inl f9)), (mso, .inl (cs 0, 16, .inl (upd sof en (nI x0)))), (mon, .inl (cs 0, 16, .inl (upd onf en (-1)))), (mot, .inl (cs 0, 16, .inl (upd otf en (nI jz)))), (man, .inl (cs 0, 16, .inl (upd (upd anf en (nI 0)) en (((upd anf en (nI 0)) en) ||| (((upd anf en (nI 0)) jz) ||| ((nI 1) <<< ((nI jz) &&& 31)))))))] H := hP
                  replace hD : va_D A [(hm, .inr (12, [.ref ms, .ref mkp, .int (nI 0), .ref mtr, .int (nI n), .int (nI k), .int (nI al), .int (nI be), .int ea, .int pr, .ref mas, .int nq, .int po, .int (nI (en + 1)), .ref mso, .ref mon, .ref mot, .ref man, .int (nI 0), .int xd, .ref mst, .ref msm, .ref mtb, .ref mti, .ref mfr, .ref mbn, .ref mbs, .ref mde, .int sF, .int sN, .int sS, .int ig, .long xa, .long xb, .ref maa, .ref mab, .ref mba, .ref mbb])), (ms, .inl (cs 0, 288, .inl f9)), (mso, .inl (cs 0, 16, .inl (upd sof en (nI x0)))), (mon, .inl (cs 0, 16, .inl (upd onf en (-1)))), (mot, .inl (cs 0, 16, .inl (upd otf en (nI jz)))), (man, .inl (cs 0, 16, .inl (upd (upd anf en (nI 0)) en (((upd anf en (nI 0)) en) ||| (((upd anf en (nI 0)) jz) ||| ((nI 1) <<< ((nI jz) &&& 31)))))))] := hD
                  refine lv_iload hx hb dX12_entry_242 (lv_at hl 1 rfl) ?_
                  exact xreti C (⟨(en + 1), 0, f9, (upd sof en (nI x0)), (upd onf en (-1)), (upd otf en (nI jz)), (upd (upd anf en (nI 0)) en (((upd anf en (nI 0)) en) ||| (((upd anf en (nI 0)) jz) ||| ((nI 1) <<< ((nI jz) &&& 31)))))⟩) (⟨Or.inl ⟨⟨okN_nI (by omega) (by decide), (Or.inl rfl), (Or.inr (okN_nI h_jz (by omega))), Or.inr rfl, by omega⟩, rfl⟩, ⟨hs9, by omega, by decide, inP_up hso _ _ (by omega), parF_next hon (Or.inl rfl), parF_next hot (Or.inr ⟨jz, h_jz, rfl⟩)⟩, Or.inl ⟨⟨okN_nI (by omega) (by decide), (Or.inl rfl), (Or.inr (okN_nI h_jz (by omega))), Or.inr rfl, by omega⟩, rfl, rfl, x0, by omega, rfl, rfl, rfl, rfl, (by simp only [(show linF anf (-1) = nI 0 from if_pos rfl), (show linF anf (nI jz) = anf jz ||| bitI jz from by unfold linF; rw [if_neg (nI_ne_m1 (by omega)), nI_clamp (by omega)]), upd, eq_self, if_true, if_neg (show ¬ jz = en by omega), or_0l, or_0]; try rfl), (fun j hj => by simp only [upd, if_neg hj]), by have q7 : o = 8 := (by omega); rw [← q7]; exact hv9⟩⟩) hP hD hS (Nat.le_of_ble_eq_true rfl) (Nat.le_of_ble_eq_true rfl) rfl dX12_entry_244
                · -- 166 f
                  have fc_22 : o < 8 := nf_nle (by omega) (by omega) c_22
                  refine lv_aload_n hx hb dX12_entry_169 rfl (lv_at hl 2 rfl) ?_
                  refine xget C hP 0 rfl rfl zuX12 0 (by decide) zw5_213 rfl dX12_entry_170 ?_
                  refine lv_bipush (v := nI 96) hx hb dX12_entry_173 (by decide) ?_
                  refine lv_bipush (v := nI 8) hx hb dX12_entry_175 (by decide) ?_
                  refine lv_iload hx hb dX12_entry_177 (lv_at hl 0 rfl) ?_
                  refine lv_imul hx hb dX12_entry_179 ?_
                  refine lv_topi (nm_r (e' := nI (8 * o)) (pk_mul _ _) ?_)
                  refine lv_iadd hx hb dX12_entry_180 ?_
                  refine lv_topi (nm_r (e' := nI (96 + (8 * o))) (nI_add _ _) ?_)
                  refine lv_iload_n hx hb dX12_entry_181 rfl (lv_at hl 3 rfl) ?_
                  refine lv_iadd hx hb dX12_entry_182 ?_
                  refine lv_topi (nm_r (e' := nI ((96 + (8 * o)) + x0)) (nI_add _ _) ?_)
                  refine xiald C hP 1 rfl ((96 + (8 * o)) + x0) rfl (by omega) (by decide) dX12_entry_183 ?_
                  refine lv_if_ge (tgt := 204) hx hb dX12_entry_184 (by decide) (fun c_23 => ?_) (fun c_23 => ?_)
                  · -- 184 t
                    refine lv_aload_n hx hb dX12_entry_204 rfl (lv_at hl 2 rfl) ?_
                    refine lv_iload hx hb dX12_entry_205 (lv_at hl 0 rfl) ?_
                    refine lv_iload_n hx hb dX12_entry_207 rfl (lv_at hl 3 rfl) ?_
                    refine xi (wr := [(mon, .inl (cs 0, 16, .inl (upd onf en (-1)))), (mot, .inl (cs 0, 16, .inl (upd otf en (nI jz)))), (man, .inl (cs 0, 16, .inl (upd (upd anf en (nI 0)) en (((upd anf en (nI 0)) en) ||| (((upd anf en (nI 0)) jz) ||| ((nI 1) <<< ((nI jz) &&& 31)))))))]) (xV (As := [.int (nI o), .int (nI x0)]) (rest := []) C (c_X12_acceptedOf_f l D cs hm ms mkp mtr mas mso mon mot man mst msm mtb mti mfr mbn mbs mde maa mab mba mbb n k al be km (en + 1) ea pr nq po (nI 0) xd sF sN sS ig xa xb f9 o (nI x0) (upd sof en (nI x0)) (by omega) (by omega)) kX12_310 hP hD [0, 1, 2] rfl (by decide) 0 rfl rfl rfl ⟨Nat.le_of_ble_eq_true rfl, Nat.le_of_ble_eq_true rfl⟩ rfl hl.1 rfl (Nat.le_of_ble_eq_true rfl) dX12_entry_208 ⟨Nat.le_of_ble_eq_true rfl, Nat.le_of_ble_eq_true rfl⟩) hP hD hS hA [0, 1, 2] [3, 4, 5] rfl rfl (by decide) (by decide) ?_
                    clear hP hD hS
                    try clear locs
                    try clear H
                    intro r_24 u_25 H locs hw_r_24 hP hD hS
                    have hw_r_24 : accM (en + 1) (upd sof en (nI x0)) f9 o (nI x0) r_24 := hw_r_24
                    refine W.widen (k := 0) (n := 0) (Nat.le_of_ble_eq_true rfl) (Nat.le_of_ble_eq_true rfl) ?_
                    replace hP : va_P D vwCl [(mon, .inl (cs 0, 16, .inl (upd onf en (-1)))), (mot, .inl (cs 0, 16, .inl (upd otf en (nI jz)))), (man, .inl (cs 0, 16, .inl (upd (upd anf en (nI 0)) en (((upd anf en (nI 0)) en) ||| (((upd anf en (nI 0)) jz) ||| ((nI 1) <<< ((nI jz) &&& 31))))))), (hm, .inr (12, [.ref ms, .ref mkp, .int (nI km), .ref mtr, .int (nI n), .int (nI k), .int (nI al), .int (nI be), .int ea, .int pr, .ref mas, .int nq, .int po, .int (nI (en + 1)), .ref mso, .ref mon, .ref mot, .ref man, .int (nI 0), .int xd, .ref mst, .ref msm, .ref mtb, .ref mti, .ref mfr, .ref mbn, .ref mbs, .ref mde, .int sF, .int sN, .int sS, .int ig, .long xa, .long xb, .ref maa, .ref mab, .ref mba, .ref mbb])), (ms, .inl (cs 0, 288, .inl f9)), (mso, .inl (cs 0, 16, .inl (upd sof en (nI x0))))] H := hP
                    replace hD : va_D A [(mon, .inl (cs 0, 16, .inl (upd onf en (-1)))), (mot, .inl (cs 0, 16, .inl (upd otf en (nI jz)))), (man, .inl (cs 0, 16, .inl (upd (upd anf en (nI 0)) en (((upd anf en (nI 0)) en) ||| (((upd anf en (nI 0)) jz) ||| ((nI 1) <<< ((nI jz) &&& 31))))))), (hm, .inr (12, [.ref ms, .ref mkp, .int (nI km), .ref mtr, .int (nI n), .int (nI k), .int (nI al), .int (nI be), .int ea, .int pr, .ref mas, .int nq, .int po, .int (nI (en + 1)), .ref mso, .ref mon, .ref mot, .ref man, .int (nI 0), .int xd, .ref mst, .ref msm, .ref mtb, .ref mti, .ref mfr, .ref mbn, .ref mbs, .ref mde, .int sF, .int sN, .int sS, .int ig, .long xa, .long xb, .ref maa, .ref mab, .ref mba, .ref mbb])), (ms, .inl (cs 0, 288, .inl f9)), (mso, .inl (cs 0, 16, .inl (upd sof en (nI x0))))] := hD
                    refine lv_if_lt (tgt := 231) hx hb dX12_entry_211 (by decide) (fun c_26 => ?_) (fun c_26 => ?_)
                    · -- 211 t
                      refine lv_iinc (v := nI (o + 1)) (lv' := [(5, .int (nI (o + 1))), (4, .int (nI en)), (0, .ref hm), (1, .int (nI x0)), (2, .int (-1)), (3, .int (nI jz))]) hx hb dX12_entry_231 hl (k := 0) rfl (nI_add o 1) (by decide) rfl ?_
                      clear hl
                      try clear ls
                      intro ls hl
                      refine lv_goto (tgt := 162) hx hb dX12_entry_234 (by decide) ?_
                      exact ih_loop_21 (o + 1) f9 (by omega) hs9 (entV_s (by omega) (by omega) (by omega) hv9 (Or.inr ⟨(Int32.not_lt.mpr c_23), rfl⟩) hw_r_24 (Or.inl ⟨c_26, rfl⟩)) (by omega) H locs ls (xP_map hP [3, 4, 5, 0, 1, 2] rfl) (hD.sub [3, 4, 5, 0, 1, 2] (by decide) rfl) hS (lv_sub hl [0, 1, 2, 3, 4, 5] rfl)
                    · -- 211 f
                      refine lv_aload_n hx hb dX12_entry_214 rfl (lv_at hl 2 rfl) ?_
                      refine xget C hP 3 rfl rfl zuX12 0 (by decide) zw5_213 rfl dX12_entry_215 ?_
                      refine lv_bipush (v := nI 88) hx hb dX12_entry_218 (by decide) ?_
                      refine lv_iload hx hb dX12_entry_220 (lv_at hl 0 rfl) ?_
                      refine lv_iadd hx hb dX12_entry_222 ?_
                      refine lv_topi (nm_r (e' := nI (88 + o)) (nI_add _ _) ?_)
                      refine lv_dup2_11 hx hb dX12_entry_223 rfl rfl ?_
                      refine xiald C hP 4 rfl (88 + o) rfl (by omega) (by decide) dX12_entry_224 ?_
                      refine lv_iconst (v := nI 1) hx hb dX12_entry_225 (by decide) ?_
                      refine lv_iload hx hb dX12_entry_226 (lv_at hl 1 rfl) ?_
                      refine lv_ishl hx hb dX12_entry_228 ?_
                      refine lv_ior hx hb dX12_entry_229 ?_
                      refine xiast C hP hD hS 4 rfl (88 + o) rfl (by omega) (by decide) dX12_entry_230 ?_
                      clear hP hD hS
                      try clear locs
                      try clear H
                      intro H locs hP hD hS
                      replace hP : va_P D vwCl [(mon, .inl (cs 0, 16, .inl (upd onf en (-1)))), (mot, .inl (cs 0, 16, .inl (upd otf en (nI jz)))), (man, .inl (cs 0, 16, .inl (upd (upd anf en (nI 0)) en (((upd anf en (nI 0)) en) ||| (((upd anf en (nI 0)) jz) ||| ((nI 1) <<< ((nI jz) &&& 31))))))), (hm, .inr (12, [.ref ms, .ref mkp, .int (nI km), .ref mtr, .int (nI n), .int (nI k), .int (nI al), .int (nI be), .int ea, .int pr, .ref mas, .int nq, .int po, .int (nI (en + 1)), .ref mso, .ref mon, .ref mot, .ref man, .int (nI 0), .int xd, .ref mst, .ref msm, .ref mtb, .ref mti, .ref mfr, .ref mbn, .ref mbs, .ref mde, .int sF, .int sN, .int sS, .int ig, .long xa, .long xb, .ref maa, .ref mab, .ref mba, .ref mbb])), (ms, .inl (cs 0, 288, .inl (upd f9 (88 + o) ((f9 (88 + o)) ||| ((nI 1) <<< ((nI en) &&& 31)))))), (mso, .inl (cs 0, 16, .inl (upd sof en (nI x0))))] H := hP
                      replace hD : va_D A [(mon, .inl (cs 0, 16, .inl (upd onf en (-1)))), (mot, .inl (cs 0, 16, .inl (upd otf en (nI jz)))), (man, .inl (cs 0, 16, .inl (upd (upd anf en (nI 0)) en (((upd anf en (nI 0)) en) ||| (((upd anf en (nI 0)) jz) ||| ((nI 1) <<< ((nI jz) &&& 31))))))), (hm, .inr (12, [.ref ms, .ref mkp, .int (nI km), .ref mtr, .int (nI n), .int (nI k), .int (nI al), .int (nI be), .int ea, .int pr, .ref mas, .int nq, .int po, .int (nI (en + 1)), .ref mso, .ref mon, .ref mot, .ref man, .int (nI 0), .int xd, .ref mst, .ref msm, .ref mtb, .ref mti, .ref mfr, .ref mbn, .ref mbs, .ref mde, .int sF, .int sN, .int sS, .int ig, .long xa, .long xb, .ref maa, .ref mab, .ref mba, .ref mbb])), (ms, .inl (cs 0, 288, .inl (upd f9 (88 + o) ((f9 (88 + o)) ||| ((nI 1) <<< ((nI en) &&& 31)))))), (mso, .inl (cs 0, 16, .inl (upd sof en (nI x0))))] := hD
                      refine lv_iinc (v := nI (o + 1)) (lv' := [(5, .int (nI (o + 1))), (4, .int (nI en)), (0, .ref hm), (1, .int (nI x0)), (2, .int (-1)), (3, .int (nI jz))]) hx hb dX12_entry_231 hl (k := 0) rfl (nI_add o 1) (by decide) rfl ?_
                      clear hl
                      try clear ls
                      intro ls hl
                      refine lv_goto (tgt := 162) hx hb dX12_entry_234 (by decide) ?_
                      exact ih_loop_21 (o + 1) (upd f9 (88 + o) ((f9 (88 + o)) ||| ((nI 1) <<< ((nI en) &&& 31)))) (by omega) (colP_hi (i := 88 + o) hs9 ((f9 (88 + o)) ||| ((nI 1) <<< ((nI en) &&& 31))) (by omega)) (entV_s (by omega) (by omega) (by omega) hv9 (Or.inr ⟨(Int32.not_lt.mpr c_23), rfl⟩) hw_r_24 (Or.inr ⟨c_26, rfl⟩)) (by omega) H locs ls (xP_map hP [3, 4, 5, 0, 1, 2] rfl) (hD.sub [3, 4, 5, 0, 1, 2] (by decide) rfl) hS (lv_sub hl [0, 1, 2, 3, 4, 5] rfl)
                  · -- 184 f
                    refine lv_aload_n hx hb dX12_entry_187 rfl (lv_at hl 2 rfl) ?_
                    refine xget C hP 0 rfl rfl zuX12 0 (by decide) zw5_213 rfl dX12_entry_188 ?_
                    refine lv_bipush (v := nI 96) hx hb dX12_entry_191 (by decide) ?_
                    refine lv_bipush (v := nI 8) hx hb dX12_entry_193 (by decide) ?_
                    refine lv_iload hx hb dX12_entry_195 (lv_at hl 0 rfl) ?_
                    refine lv_imul hx hb dX12_entry_197 ?_
                    refine lv_topi (nm_r (e' := nI (8 * o)) (pk_mul _ _) ?_)
                    refine lv_iadd hx hb dX12_entry_198 ?_
                    refine lv_topi (nm_r (e' := nI (96 + (8 * o))) (nI_add _ _) ?_)
                    refine lv_iload_n hx hb dX12_entry_199 rfl (lv_at hl 3 rfl) ?_
                    refine lv_iadd hx hb dX12_entry_200 ?_
                    refine lv_topi (nm_r (e' := nI ((96 + (8 * o)) + x0)) (nI_add _ _) ?_)
                    refine lv_iload hx hb dX12_entry_201 (lv_at hl 1 rfl) ?_
                    refine xiast C hP hD hS 1 rfl ((96 + (8 * o)) + x0) rfl (by omega) (by decide) dX12_entry_203 ?_
                    clear hP hD hS
                    try clear locs
                    try clear H
                    intro H locs hP hD hS
                    replace hP : va_P D vwCl [(hm, .inr (12, [.ref ms, .ref mkp, .int (nI km), .ref mtr, .int (nI n), .int (nI k), .int (nI al), .int (nI be), .int ea, .int pr, .ref mas, .int nq, .int po, .int (nI (en + 1)), .ref mso, .ref mon, .ref mot, .ref man, .int (nI 0), .int xd, .ref mst, .ref msm, .ref mtb, .ref mti, .ref mfr, .ref mbn, .ref mbs, .ref mde, .int sF, .int sN, .int sS, .int ig, .long xa, .long xb, .ref maa, .ref mab, .ref mba, .ref mbb])), (ms, .inl (cs 0, 288, .inl (upd f9 ((96 + (8 * o)) + x0) (nI en)))), (mso, .inl (cs 0, 16, .inl (upd sof en (nI x0)))), (mon, .inl (cs 0, 16, .inl (upd onf en (-1)))), (mot, .inl (cs 0, 16, .inl (upd otf en (nI jz)))), (man, .inl (cs 0, 16, .inl (upd (upd anf en (nI 0)) en (((upd anf en (nI 0)) en) ||| (((upd anf en (nI 0)) jz) ||| ((nI 1) <<< ((nI jz) &&& 31)))))))] H := hP
                    replace hD : va_D A [(hm, .inr (12, [.ref ms, .ref mkp, .int (nI km), .ref mtr, .int (nI n), .int (nI k), .int (nI al), .int (nI be), .int ea, .int pr, .ref mas, .int nq, .int po, .int (nI (en + 1)), .ref mso, .ref mon, .ref mot, .ref man, .int (nI 0), .int xd, .ref mst, .ref msm, .ref mtb, .ref mti, .ref mfr, .ref mbn, .ref mbs, .ref mde, .int sF, .int sN, .int sS, .int ig, .long xa, .long xb, .ref maa, .ref mab, .ref mba, .ref mbb])), (ms, .inl (cs 0, 288, .inl (upd f9 ((96 + (8 * o)) + x0) (nI en)))), (mso, .inl (cs 0, 16, .inl (upd sof en (nI x0)))), (mon, .inl (cs 0, 16, .inl (upd onf en (-1)))), (mot, .inl (cs 0, 16, .inl (upd otf en (nI jz)))), (man, .inl (cs 0, 16, .inl (upd (upd anf en (nI 0)) en (((upd anf en (nI 0)) en) ||| (((upd anf en (nI 0)) jz) ||| ((nI 1) <<< ((nI jz) &&& 31)))))))] := hD
                    refine lv_aload_n hx hb dX12_entry_204 rfl (lv_at hl 2 rfl) ?_
                    refine lv_iload hx hb dX12_entry_205 (lv_at hl 0 rfl) ?_
                    refine lv_iload_n hx hb dX12_entry_207 rfl (lv_at hl 3 rfl) ?_
                    refine xi (wr := [(mon, .inl (cs 0, 16, .inl (upd onf en (-1)))), (mot, .inl (cs 0, 16, .inl (upd otf en (nI jz)))), (man, .inl (cs 0, 16, .inl (upd (upd anf en (nI 0)) en (((upd anf en (nI 0)) en) ||| (((upd anf en (nI 0)) jz) ||| ((nI 1) <<< ((nI jz) &&& 31)))))))]) (xV (As := [.int (nI o), .int (nI x0)]) (rest := []) C (c_X12_acceptedOf_f l D cs hm ms mkp mtr mas mso mon mot man mst msm mtb mti mfr mbn mbs mde maa mab mba mbb n k al be km (en + 1) ea pr nq po (nI 0) xd sF sN sS ig xa xb (upd f9 ((96 + (8 * o)) + x0) (nI en)) o (nI x0) (upd sof en (nI x0)) (by omega) (by omega)) kX12_310 hP hD [0, 1, 2] rfl (by decide) 0 rfl rfl rfl ⟨Nat.le_of_ble_eq_true rfl, Nat.le_of_ble_eq_true rfl⟩ rfl hl.1 rfl (Nat.le_of_ble_eq_true rfl) dX12_entry_208 ⟨Nat.le_of_ble_eq_true rfl, Nat.le_of_ble_eq_true rfl⟩) hP hD hS hA [0, 1, 2] [3, 4, 5] rfl rfl (by decide) (by decide) ?_
                    clear hP hD hS
                    try clear locs
                    try clear H
                    intro r_27 u_28 H locs hw_r_27 hP hD hS
                    have hw_r_27 : accM (en + 1) (upd sof en (nI x0)) (upd f9 ((96 + (8 * o)) + x0) (nI en)) o (nI x0) r_27 := hw_r_27
                    refine W.widen (k := 0) (n := 0) (Nat.le_of_ble_eq_true rfl) (Nat.le_of_ble_eq_true rfl) ?_
                    replace hP : va_P D vwCl [(mon, .inl (cs 0, 16, .inl (upd onf en (-1)))), (mot, .inl (cs 0, 16, .inl (upd otf en (nI jz)))), (man, .inl (cs 0, 16, .inl (upd (upd anf en (nI 0)) en (((upd anf en (nI 0)) en) ||| (((upd anf en (nI 0)) jz) ||| ((nI 1) <<< ((nI jz) &&& 31))))))), (hm, .inr (12, [.ref ms, .ref mkp, .int (nI km), .ref mtr, .int (nI n), .int (nI k), .int (nI al), .int (nI be), .int ea, .int pr, .ref mas, .int nq, .int po, .int (nI (en + 1)), .ref mso, .ref mon, .ref mot, .ref man, .int (nI 0), .int xd, .ref mst, .ref msm, .ref mtb, .ref mti, .ref mfr, .ref mbn, .ref mbs, .ref mde, .int sF, .int sN, .int sS, .int ig, .long xa, .long xb, .ref maa, .ref mab, .ref mba, .ref mbb])), (ms, .inl (cs 0, 288, .inl (upd f9 ((96 + (8 * o)) + x0) (nI en)))), (mso, .inl (cs 0, 16, .inl (upd sof en (nI x0))))] H := hP
                    replace hD : va_D A [(mon, .inl (cs 0, 16, .inl (upd onf en (-1)))), (mot, .inl (cs 0, 16, .inl (upd otf en (nI jz)))), (man, .inl (cs 0, 16, .inl (upd (upd anf en (nI 0)) en (((upd anf en (nI 0)) en) ||| (((upd anf en (nI 0)) jz) ||| ((nI 1) <<< ((nI jz) &&& 31))))))), (hm, .inr (12, [.ref ms, .ref mkp, .int (nI km), .ref mtr, .int (nI n), .int (nI k), .int (nI al), .int (nI be), .int ea, .int pr, .ref mas, .int nq, .int po, .int (nI (en + 1)), .ref mso, .ref mon, .ref mot, .ref man, .int (nI 0), .int xd, .ref mst, .ref msm, .ref mtb, .ref mti, .ref mfr, .ref mbn, .ref mbs, .ref mde, .int sF, .int sN, .int sS, .int ig, .long xa, .long xb, .ref maa, .ref mab, .ref mba, .ref mbb])), (ms, .inl (cs 0, 288, .inl (upd f9 ((96 + (8 * o)) + x0) (nI en)))), (mso, .inl (cs 0, 16, .inl (upd sof en (nI x0))))] := hD
                    refine lv_if_lt (tgt := 231) hx hb dX12_entry_211 (by decide) (fun c_29 => ?_) (fun c_29 => ?_)
                    · -- 211 t
                      refine lv_iinc (v := nI (o + 1)) (lv' := [(5, .int (nI (o + 1))), (4, .int (nI en)), (0, .ref hm), (1, .int (nI x0)), (2, .int (-1)), (3, .int (nI jz))]) hx hb dX12_entry_231 hl (k := 0) rfl (nI_add o 1) (by decide) rfl ?_
                      clear hl
                      try clear ls
                      intro ls hl
                      refine lv_goto (tgt := 162) hx hb dX12_entry_234 (by decide) ?_
                      exact ih_loop_21 (o + 1) (upd f9 ((96 + (8 * o)) + x0) (nI en)) (by omega) (colP_hi (i := (96 + (8 * o)) + x0) hs9 (nI en) (by omega)) (entV_s (by omega) (by omega) (by omega) hv9 (Or.inl ⟨Int32.not_le.mp c_23, rfl⟩) hw_r_27 (Or.inl ⟨c_29, rfl⟩)) (by omega) H locs ls (xP_map hP [3, 4, 5, 0, 1, 2] rfl) (hD.sub [3, 4, 5, 0, 1, 2] (by decide) rfl) hS (lv_sub hl [0, 1, 2, 3, 4, 5] rfl)
                    · -- 211 f
                      refine lv_aload_n hx hb dX12_entry_214 rfl (lv_at hl 2 rfl) ?_
                      refine xget C hP 3 rfl rfl zuX12 0 (by decide) zw5_213 rfl dX12_entry_215 ?_
                      refine lv_bipush (v := nI 88) hx hb dX12_entry_218 (by decide) ?_
                      refine lv_iload hx hb dX12_entry_220 (lv_at hl 0 rfl) ?_
                      refine lv_iadd hx hb dX12_entry_222 ?_
                      refine lv_topi (nm_r (e' := nI (88 + o)) (nI_add _ _) ?_)
                      refine lv_dup2_11 hx hb dX12_entry_223 rfl rfl ?_
                      refine xiald C hP 4 rfl (88 + o) rfl (by omega) (by decide) dX12_entry_224 ?_
                      refine lv_iconst (v := nI 1) hx hb dX12_entry_225 (by decide) ?_
                      refine lv_iload hx hb dX12_entry_226 (lv_at hl 1 rfl) ?_
                      refine lv_ishl hx hb dX12_entry_228 ?_
                      refine lv_ior hx hb dX12_entry_229 ?_
                      refine xiast C hP hD hS 4 rfl (88 + o) rfl (by omega) (by decide) dX12_entry_230 ?_
                      clear hP hD hS
                      try clear locs
                      try clear H
                      intro H locs hP hD hS
                      replace hP : va_P D vwCl [(mon, .inl (cs 0, 16, .inl (upd onf en (-1)))), (mot, .inl (cs 0, 16, .inl (upd otf en (nI jz)))), (man, .inl (cs 0, 16, .inl (upd (upd anf en (nI 0)) en (((upd anf en (nI 0)) en) ||| (((upd anf en (nI 0)) jz) ||| ((nI 1) <<< ((nI jz) &&& 31))))))), (hm, .inr (12, [.ref ms, .ref mkp, .int (nI km), .ref mtr, .int (nI n), .int (nI k), .int (nI al), .int (nI be), .int ea, .int pr, .ref mas, .int nq, .int po, .int (nI (en + 1)), .ref mso, .ref mon, .ref mot, .ref man, .int (nI 0), .int xd, .ref mst, .ref msm, .ref mtb, .ref mti, .ref mfr, .ref mbn, .ref mbs, .ref mde, .int sF, .int sN, .int sS, .int ig, .long xa, .long xb, .ref maa, .ref mab, .ref mba, .ref mbb])), (ms, .inl (cs 0, 288, .inl (upd (upd f9 ((96 + (8 * o)) + x0) (nI en)) (88 + o) (((upd f9 ((96 + (8 * o)) + x0) (nI en)) (88 + o)) ||| ((nI 1) <<< ((nI en) &&& 31)))))), (mso, .inl (cs 0, 16, .inl (upd sof en (nI x0))))] H := hP
                      replace hD : va_D A [(mon, .inl (cs 0, 16, .inl (upd onf en (-1)))), (mot, .inl (cs 0, 16, .inl (upd otf en (nI jz)))), (man, .inl (cs 0, 16, .inl (upd (upd anf en (nI 0)) en (((upd anf en (nI 0)) en) ||| (((upd anf en (nI 0)) jz) ||| ((nI 1) <<< ((nI jz) &&& 31))))))), (hm, .inr (12, [.ref ms, .ref mkp, .int (nI km), .ref mtr, .int (nI n), .int (nI k), .int (nI al), .int (nI be), .int ea, .int pr, .ref mas, .int nq, .int po, .int (nI (en + 1)), .ref mso, .ref mon, .ref mot, .ref man, .int (nI 0), .int xd, .ref mst, .ref msm, .ref mtb, .ref mti, .ref mfr, .ref mbn, .ref mbs, .ref mde, .int sF, .int sN, .int sS, .int ig, .long xa, .long xb, .ref maa, .ref mab, .ref mba, .ref mbb])), (ms, .inl (cs 0, 288, .inl (upd (upd f9 ((96 + (8 * o)) + x0) (nI en)) (88 + o) (((upd f9 ((96 + (8 * o)) + x0) (nI en)) (88 + o)) ||| ((nI 1) <<< ((nI en) &&& 31)))))), (mso, .inl (cs 0, 16, .inl (upd sof en (nI x0))))] := hD
                      refine lv_iinc (v := nI (o + 1)) (lv' := [(5, .int (nI (o + 1))), (4, .int (nI en)), (0, .ref hm), (1, .int (nI x0)), (2, .int (-1)), (3, .int (nI jz))]) hx hb dX12_entry_231 hl (k := 0) rfl (nI_add o 1) (by decide) rfl ?_
                      clear hl
                      try clear ls
                      intro ls hl
                      refine lv_goto (tgt := 162) hx hb dX12_entry_234 (by decide) ?_
                      exact ih_loop_21 (o + 1) (upd (upd f9 ((96 + (8 * o)) + x0) (nI en)) (88 + o) (((upd f9 ((96 + (8 * o)) + x0) (nI en)) (88 + o)) ||| ((nI 1) <<< ((nI en) &&& 31)))) (by omega) (colP_hi (i := 88 + o) (colP_hi (i := (96 + (8 * o)) + x0) hs9 (nI en) (by omega)) (((upd f9 ((96 + (8 * o)) + x0) (nI en)) (88 + o)) ||| ((nI 1) <<< ((nI en) &&& 31))) (by omega)) (entV_s (by omega) (by omega) (by omega) hv9 (Or.inl ⟨Int32.not_le.mp c_23, rfl⟩) hw_r_27 (Or.inr ⟨c_29, rfl⟩)) (by omega) H locs ls (xP_map hP [3, 4, 5, 0, 1, 2] rfl) (hD.sub [3, 4, 5, 0, 1, 2] (by decide) rfl) hS (lv_sub hl [0, 1, 2, 3, 4, 5] rfl)
            exact loop_21 _ 0 f (by omega) hs (entV_0 _ _ _ _) (Nat.lt_succ_self _) H locs ls hP hD hS (lv_sub hl [0, 1, 2, 3, 4, 5] rfl)
          · -- 58 f
            have fc_20 : en = 16 := nf_eq (by omega) (by omega) c_20
            refine lv_iconst (v := (-1)) hx hb dX12_entry_61 (by decide) ?_
            exact xreti C (⟨en, km, f, sof, onf, otf, anf⟩) (⟨Or.inr ⟨fun q => by have z := q.2.2.2.2; omega, rfl⟩, ⟨hs, hen, hkm, hso, hon, hot⟩, Or.inr ⟨fun q => by have z := q.2.2.2.2; omega, rfl, rfl, rfl, rfl, rfl, rfl, rfl⟩⟩) hP hD hS (Nat.le_of_ble_eq_true rfl) (Nat.le_of_ble_eq_true rfl) rfl dX12_entry_62
        · -- split
          replace hP : va_P D vwCl [(hm, .inr (12, [.ref ms, .ref mkp, .int (nI km), .ref mtr, .int (nI n), .int (nI k), .int (nI al), .int (nI be), .int ea, .int pr, .ref mas, .int nq, .int po, .int (nI en), .ref mso, .ref mon, .ref mot, .ref man, .int (nI 0), .int xd, .ref mst, .ref msm, .ref mtb, .ref mti, .ref mfr, .ref mbn, .ref mbs, .ref mde, .int sF, .int sN, .int sS, .int ig, .long xa, .long xb, .ref maa, .ref mab, .ref mba, .ref mbb])), (ms, .inl (cs 0, 288, .inl f)), (mso, .inl (cs 0, 16, .inl sof)), (mon, .inl (cs 0, 16, .inl onf)), (mot, .inl (cs 0, 16, .inl otf)), (man, .inl (cs 0, 16, .inl anf))] H := hP
          replace hD : va_D A [(hm, .inr (12, [.ref ms, .ref mkp, .int (nI km), .ref mtr, .int (nI n), .int (nI k), .int (nI al), .int (nI be), .int ea, .int pr, .ref mas, .int nq, .int po, .int (nI en), .ref mso, .ref mon, .ref mot, .ref man, .int (nI 0), .int xd, .ref mst, .ref msm, .ref mtb, .ref mti, .ref mfr, .ref mbn, .ref mbs, .ref mde, .int sF, .int sN, .int sS, .int ig, .long xa, .long xb, .ref maa, .ref mab, .ref mba, .ref mbb])), (ms, .inl (cs 0, 288, .inl f)), (mso, .inl (cs 0, 16, .inl sof)), (mon, .inl (cs 0, 16, .inl onf)), (mot, .inl (cs 0, 16, .inl otf)), (man, .inl (cs 0, 16, .inl anf))] := hD
          refine lv_iload_n hx hb dX12_entry_43 rfl (lv_at hl 2 rfl) ?_
          refine lv_if_lt (tgt := 52) hx hb dX12_entry_44 (by decide) (fun c => absurd c (nI_pos (by omega))) (fun _ => ?_)
          refine lv_iload_n hx hb dX12_entry_47 rfl (lv_at hl 2 rfl) ?_
          refine lv_iload_n hx hb dX12_entry_48 rfl (lv_at hl 3 rfl) ?_
          refine lv_icmp_eq (tgt := 61) hx hb dX12_entry_49 (by decide) (fun c_30 => ?_) (fun c_30 => ?_)
          · -- 49 t
            refine lv_iconst (v := (-1)) hx hb dX12_entry_61 (by decide) ?_
            exact xreti C (⟨en, km, f, sof, onf, otf, anf⟩) (⟨Or.inr ⟨fun q => q.2.2.2.1.elim (fun g => g c_30) (fun g => nI_ne_m1 (by omega) g), rfl⟩, ⟨hs, hen, hkm, hso, hon, hot⟩, Or.inr ⟨fun q => q.2.2.2.1.elim (fun g => g c_30) (fun g => nI_ne_m1 (by omega) g), rfl, rfl, rfl, rfl, rfl, rfl, rfl⟩⟩) hP hD hS (Nat.le_of_ble_eq_true rfl) (Nat.le_of_ble_eq_true rfl) rfl dX12_entry_62
          · -- 49 f
            refine lv_aload_n hx hb dX12_entry_52 rfl (lv_at hl 0 rfl) ?_
            refine xget C hP 0 rfl rfl zuX12 13 (by decide) zw5_226 rfl dX12_entry_53 ?_
            refine lv_bipush (v := nI 16) hx hb dX12_entry_56 (by decide) ?_
            refine lv_icmp_ne (tgt := 63) hx hb dX12_entry_58 (by decide) (fun c_31 => ?_) (fun c_31 => ?_)
            · -- 58 t
              have fc_31 : en ≠ 16 := nf_ne (by omega) (by omega) c_31
              refine lv_aload_n hx hb dX12_entry_63 rfl (lv_at hl 0 rfl) ?_
              refine xget C hP 0 rfl rfl zuX12 13 (by decide) zw5_226 rfl dX12_entry_64 ?_
              refine lv_istore (lv' := [(4, .int (nI en)), (0, .ref hm), (1, .int (nI x0)), (2, .int (nI jy)), (3, .int (-1))]) hx hb dX12_entry_67 hl (by decide) rfl ?_
              clear hl
              try clear ls
              intro ls hl
              refine lv_aload_n hx hb dX12_entry_69 rfl (lv_at hl 1 rfl) ?_
              refine xget C hP 0 rfl rfl zuX12 14 (by decide) zw5_227 rfl dX12_entry_70 ?_
              refine lv_iload hx hb dX12_entry_73 (lv_at hl 0 rfl) ?_
              refine lv_iload_n hx hb dX12_entry_75 rfl (lv_at hl 2 rfl) ?_
              refine xiast C hP hD hS 2 rfl en rfl (by omega) (by decide) dX12_entry_76 ?_
              clear hP hD hS
              try clear locs
              try clear H
              intro H locs hP hD hS
              replace hP : va_P D vwCl [(hm, .inr (12, [.ref ms, .ref mkp, .int (nI km), .ref mtr, .int (nI n), .int (nI k), .int (nI al), .int (nI be), .int ea, .int pr, .ref mas, .int nq, .int po, .int (nI en), .ref mso, .ref mon, .ref mot, .ref man, .int (nI 0), .int xd, .ref mst, .ref msm, .ref mtb, .ref mti, .ref mfr, .ref mbn, .ref mbs, .ref mde, .int sF, .int sN, .int sS, .int ig, .long xa, .long xb, .ref maa, .ref mab, .ref mba, .ref mbb])), (ms, .inl (cs 0, 288, .inl f)), (mso, .inl (cs 0, 16, .inl (upd sof en (nI x0)))), (mon, .inl (cs 0, 16, .inl onf)), (mot, .inl (cs 0, 16, .inl otf)), (man, .inl (cs 0, 16, .inl anf))] H := hP
              replace hD : va_D A [(hm, .inr (12, [.ref ms, .ref mkp, .int (nI km), .ref mtr, .int (nI n), .int (nI k), .int (nI al), .int (nI be), .int ea, .int pr, .ref mas, .int nq, .int po, .int (nI en), .ref mso, .ref mon, .ref mot, .ref man, .int (nI 0), .int xd, .ref mst, .ref msm, .ref mtb, .ref mti, .ref mfr, .ref mbn, .ref mbs, .ref mde, .int sF, .int sN, .int sS, .int ig, .long xa, .long xb, .ref maa, .ref mab, .ref mba, .ref mbb])), (ms, .inl (cs 0, 288, .inl f)), (mso, .inl (cs 0, 16, .inl (upd sof en (nI x0)))), (mon, .inl (cs 0, 16, .inl onf)), (mot, .inl (cs 0, 16, .inl otf)), (man, .inl (cs 0, 16, .inl anf))] := hD
              refine lv_aload_n hx hb dX12_entry_77 rfl (lv_at hl 1 rfl) ?_
              refine xget C hP 0 rfl rfl zuX12 15 (by decide) zw5_228 rfl dX12_entry_78 ?_
              refine lv_iload hx hb dX12_entry_81 (lv_at hl 0 rfl) ?_
              refine lv_iload_n hx hb dX12_entry_83 rfl (lv_at hl 3 rfl) ?_
              refine xiast C hP hD hS 3 rfl en rfl (by omega) (by decide) dX12_entry_84 ?_
              clear hP hD hS
              try clear locs
              try clear H
              intro H locs hP hD hS
              replace hP : va_P D vwCl [(hm, .inr (12, [.ref ms, .ref mkp, .int (nI km), .ref mtr, .int (nI n), .int (nI k), .int (nI al), .int (nI be), .int ea, .int pr, .ref mas, .int nq, .int po, .int (nI en), .ref mso, .ref mon, .ref mot, .ref man, .int (nI 0), .int xd, .ref mst, .ref msm, .ref mtb, .ref mti, .ref mfr, .ref mbn, .ref mbs, .ref mde, .int sF, .int sN, .int sS, .int ig, .long xa, .long xb, .ref maa, .ref mab, .ref mba, .ref mbb])), (ms, .inl (cs 0, 288, .inl f)), (mso, .inl (cs 0, 16, .inl (upd sof en (nI x0)))), (mon, .inl (cs 0, 16, .inl (upd onf en (nI jy)))), (mot, .inl (cs 0, 16, .inl otf)), (man, .inl (cs 0, 16, .inl anf))] H := hP
              replace hD : va_D A [(hm, .inr (12, [.ref ms, .ref mkp, .int (nI km), .ref mtr, .int (nI n), .int (nI k), .int (nI al), .int (nI be), .int ea, .int pr, .ref mas, .int nq, .int po, .int (nI en), .ref mso, .ref mon, .ref mot, .ref man, .int (nI 0), .int xd, .ref mst, .ref msm, .ref mtb, .ref mti, .ref mfr, .ref mbn, .ref mbs, .ref mde, .int sF, .int sN, .int sS, .int ig, .long xa, .long xb, .ref maa, .ref mab, .ref mba, .ref mbb])), (ms, .inl (cs 0, 288, .inl f)), (mso, .inl (cs 0, 16, .inl (upd sof en (nI x0)))), (mon, .inl (cs 0, 16, .inl (upd onf en (nI jy)))), (mot, .inl (cs 0, 16, .inl otf)), (man, .inl (cs 0, 16, .inl anf))] := hD
              refine lv_aload_n hx hb dX12_entry_85 rfl (lv_at hl 1 rfl) ?_
              refine xget C hP 0 rfl rfl zuX12 16 (by decide) zw5_229 rfl dX12_entry_86 ?_
              refine lv_iload hx hb dX12_entry_89 (lv_at hl 0 rfl) ?_
              refine lv_iload_n hx hb dX12_entry_91 rfl (lv_at hl 4 rfl) ?_
              refine xiast C hP hD hS 4 rfl en rfl (by omega) (by decide) dX12_entry_92 ?_
              clear hP hD hS
              try clear locs
              try clear H
              intro H locs hP hD hS
              replace hP : va_P D vwCl [(hm, .inr (12, [.ref ms, .ref mkp, .int (nI km), .ref mtr, .int (nI n), .int (nI k), .int (nI al), .int (nI be), .int ea, .int pr, .ref mas, .int nq, .int po, .int (nI en), .ref mso, .ref mon, .ref mot, .ref man, .int (nI 0), .int xd, .ref mst, .ref msm, .ref mtb, .ref mti, .ref mfr, .ref mbn, .ref mbs, .ref mde, .int sF, .int sN, .int sS, .int ig, .long xa, .long xb, .ref maa, .ref mab, .ref mba, .ref mbb])), (ms, .inl (cs 0, 288, .inl f)), (mso, .inl (cs 0, 16, .inl (upd sof en (nI x0)))), (mon, .inl (cs 0, 16, .inl (upd onf en (nI jy)))), (mot, .inl (cs 0, 16, .inl (upd otf en (-1)))), (man, .inl (cs 0, 16, .inl anf))] H := hP
              replace hD : va_D A [(hm, .inr (12, [.ref ms, .ref mkp, .int (nI km), .ref mtr, .int (nI n), .int (nI k), .int (nI al), .int (nI be), .int ea, .int pr, .ref mas, .int nq, .int po, .int (nI en), .ref mso, .ref mon, .ref mot, .ref man, .int (nI 0), .int xd, .ref mst, .ref msm, .ref mtb, .ref mti, .ref mfr, .ref mbn, .ref mbs, .ref mde, .int sF, .int sN, .int sS, .int ig, .long xa, .long xb, .ref maa, .ref mab, .ref mba, .ref mbb])), (ms, .inl (cs 0, 288, .inl f)), (mso, .inl (cs 0, 16, .inl (upd sof en (nI x0)))), (mon, .inl (cs 0, 16, .inl (upd onf en (nI jy)))), (mot, .inl (cs 0, 16, .inl (upd otf en (-1)))), (man, .inl (cs 0, 16, .inl anf))] := hD
              refine lv_aload_n hx hb dX12_entry_93 rfl (lv_at hl 1 rfl) ?_
              refine xget C hP 0 rfl rfl zuX12 17 (by decide) zw5_230 rfl dX12_entry_94 ?_
              refine lv_iload hx hb dX12_entry_97 (lv_at hl 0 rfl) ?_
              refine lv_iconst (v := nI 0) hx hb dX12_entry_99 (by decide) ?_
              refine xiast C hP hD hS 5 rfl en rfl (by omega) (by decide) dX12_entry_100 ?_
              clear hP hD hS
              try clear locs
              try clear H
              intro H locs hP hD hS
              replace hP : va_P D vwCl [(hm, .inr (12, [.ref ms, .ref mkp, .int (nI km), .ref mtr, .int (nI n), .int (nI k), .int (nI al), .int (nI be), .int ea, .int pr, .ref mas, .int nq, .int po, .int (nI en), .ref mso, .ref mon, .ref mot, .ref man, .int (nI 0), .int xd, .ref mst, .ref msm, .ref mtb, .ref mti, .ref mfr, .ref mbn, .ref mbs, .ref mde, .int sF, .int sN, .int sS, .int ig, .long xa, .long xb, .ref maa, .ref mab, .ref mba, .ref mbb])), (ms, .inl (cs 0, 288, .inl f)), (mso, .inl (cs 0, 16, .inl (upd sof en (nI x0)))), (mon, .inl (cs 0, 16, .inl (upd onf en (nI jy)))), (mot, .inl (cs 0, 16, .inl (upd otf en (-1)))), (man, .inl (cs 0, 16, .inl (upd anf en (nI 0))))] H := hP
              replace hD : va_D A [(hm, .inr (12, [.ref ms, .ref mkp, .int (nI km), .ref mtr, .int (nI n), .int (nI k), .int (nI al), .int (nI be), .int ea, .int pr, .ref mas, .int nq, .int po, .int (nI en), .ref mso, .ref mon, .ref mot, .ref man, .int (nI 0), .int xd, .ref mst, .ref msm, .ref mtb, .ref mti, .ref mfr, .ref mbn, .ref mbs, .ref mde, .int sF, .int sN, .int sS, .int ig, .long xa, .long xb, .ref maa, .ref mab, .ref mba, .ref mbb])), (ms, .inl (cs 0, 288, .inl f)), (mso, .inl (cs 0, 16, .inl (upd sof en (nI x0)))), (mon, .inl (cs 0, 16, .inl (upd onf en (nI jy)))), (mot, .inl (cs 0, 16, .inl (upd otf en (-1)))), (man, .inl (cs 0, 16, .inl (upd anf en (nI 0))))] := hD
              refine lv_iload_n hx hb dX12_entry_101 rfl (lv_at hl 3 rfl) ?_
              refine lv_if_lt (tgt := 125) hx hb dX12_entry_102 (by decide) (fun c => absurd c (nI_pos (by omega))) (fun _ => ?_)
              refine lv_aload_n hx hb dX12_entry_105 rfl (lv_at hl 1 rfl) ?_
              refine xget C hP 0 rfl rfl zuX12 17 (by decide) zw5_230 rfl dX12_entry_106 ?_
              refine lv_iload hx hb dX12_entry_109 (lv_at hl 0 rfl) ?_
              refine lv_dup2_11 hx hb dX12_entry_111 rfl rfl ?_
              refine xiald C hP 5 rfl en rfl (by omega) (by decide) dX12_entry_112 ?_
              refine lv_aload_n hx hb dX12_entry_113 rfl (lv_at hl 1 rfl) ?_
              refine xget C hP 0 rfl rfl zuX12 17 (by decide) zw5_230 rfl dX12_entry_114 ?_
              refine lv_iload_n hx hb dX12_entry_117 rfl (lv_at hl 3 rfl) ?_
              refine xiald C hP 5 rfl jy rfl (by omega) (by decide) dX12_entry_118 ?_
              refine lv_iconst (v := nI 1) hx hb dX12_entry_119 (by decide) ?_
              refine lv_iload_n hx hb dX12_entry_120 rfl (lv_at hl 3 rfl) ?_
              refine lv_ishl hx hb dX12_entry_121 ?_
              refine lv_ior hx hb dX12_entry_122 ?_
              refine lv_ior hx hb dX12_entry_123 ?_
              refine xiast C hP hD hS 5 rfl en rfl (by omega) (by decide) dX12_entry_124 ?_
              clear hP hD hS
              try clear locs
              try clear H
              intro H locs hP hD hS
              replace hP : va_P D vwCl [(hm, .inr (12, [.ref ms, .ref mkp, .int (nI km), .ref mtr, .int (nI n), .int (nI k), .int (nI al), .int (nI be), .int ea, .int pr, .ref mas, .int nq, .int po, .int (nI en), .ref mso, .ref mon, .ref mot, .ref man, .int (nI 0), .int xd, .ref mst, .ref msm, .ref mtb, .ref mti, .ref mfr, .ref mbn, .ref mbs, .ref mde, .int sF, .int sN, .int sS, .int ig, .long xa, .long xb, .ref maa, .ref mab, .ref mba, .ref mbb])), (ms, .inl (cs 0, 288, .inl f)), (mso, .inl (cs 0, 16, .inl (upd sof en (nI x0)))), (mon, .inl (cs 0, 16, .inl (upd onf en (nI jy)))), (mot, .inl (cs 0, 16, .inl (upd otf en (-1)))), (man, .inl (cs 0, 16, .inl (upd (upd anf en (nI 0)) en (((upd anf en (nI 0)) en) ||| (((upd anf en (nI 0)) jy) ||| ((nI 1) <<< ((nI jy) &&& 31)))))))] H := hP
              replace hD : va_D A [(hm, .inr (12, [.ref ms, .ref mkp, .int (nI km), .ref mtr, .int (nI n), .int (nI k), .int (nI al), .int (nI be), .int ea, .int pr, .ref mas, .int nq, .int po, .int (nI en), .ref mso, .ref mon, .ref mot, .ref man, .int (nI 0), .int xd, .ref mst, .ref msm, .ref mtb, .ref mti, .ref mfr, .ref mbn, .ref mbs, .ref mde, .int sF, .int sN, .int sS, .int ig, .long xa, .long xb, .ref maa, .ref mab, .ref mba, .ref mbb])), (ms, .inl (cs 0, 288, .inl f)), (mso, .inl (cs 0, 16, .inl (upd sof en (nI x0)))), (mon, .inl (cs 0, 16, .inl (upd onf en (nI jy)))), (mot, .inl (cs 0, 16, .inl (upd otf en (-1)))), (man, .inl (cs 0, 16, .inl (upd (upd anf en (nI 0)) en (((upd anf en (nI 0)) en) ||| (((upd anf en (nI 0)) jy) ||| ((nI 1) <<< ((nI jy) &&& 31)))))))] := hD
              refine lv_iload_n hx hb dX12_entry_125 rfl (lv_at hl 4 rfl) ?_
              refine lv_if_lt (tgt := 149) hx hb dX12_entry_126 (by decide) (fun _ => ?_) (fun c => absurd (by decide) c)
              refine lv_aload_n hx hb dX12_entry_149 rfl (lv_at hl 1 rfl) ?_
              refine lv_dup hx hb dX12_entry_150 rfl ?_
              refine xget C hP 0 rfl rfl zuX12 13 (by decide) zw5_226 rfl dX12_entry_151 ?_
              refine lv_iconst (v := nI 1) hx hb dX12_entry_154 (by decide) ?_
              refine lv_iadd hx hb dX12_entry_155 ?_
              refine lv_topi (nm_r (e' := nI (en + 1)) (nI_add _ _) ?_)
              refine xput C hP hD hS 0 rfl rfl zuX12 tyX12 tyX12_ok nmX12 13 (by decide) zw5_226 rfl rfl rfl (Nat.le_of_ble_eq_true rfl) dX12_entry_156 ?_
              clear hP hD hS
              try clear locs
              try clear H
              intro H locs hP hD hS
              replace hP : va_P D vwCl [(hm, .inr (12, [.ref ms, .ref mkp, .int (nI km), .ref mtr, .int (nI n), .int (nI k), .int (nI al), .int (nI be), .int ea, .int pr, .ref mas, .int nq, .int po, .int (nI (en + 1)), .ref mso, .ref mon, .ref mot, .ref man, .int (nI 0), .int xd, .ref mst, .ref msm, .ref mtb, .ref mti, .ref mfr, .ref mbn, .ref mbs, .ref mde, .int sF, .int sN, .int sS, .int ig, .long xa, .long xb, .ref maa, .ref mab, .ref mba, .ref mbb])), (ms, .inl (cs 0, 288, .inl f)), (mso, .inl (cs 0, 16, .inl (upd sof en (nI x0)))), (mon, .inl (cs 0, 16, .inl (upd onf en (nI jy)))), (mot, .inl (cs 0, 16, .inl (upd otf en (-1)))), (man, .inl (cs 0, 16, .inl (upd (upd anf en (nI 0)) en (((upd anf en (nI 0)) en) ||| (((upd anf en (nI 0)) jy) ||| ((nI 1) <<< ((nI jy) &&& 31)))))))] H := hP
              replace hD : va_D A [(hm, .inr (12, [.ref ms, .ref mkp, .int (nI km), .ref mtr, .int (nI n), .int (nI k), .int (nI al), .int (nI be), .int ea, .int pr, .ref mas, .int nq, .int po, .int (nI (en + 1)), .ref mso, .ref mon, .ref mot, .ref man, .int (nI 0), .int xd, .ref mst, .ref msm, .ref mtb, .ref mti, .ref mfr, .ref mbn, .ref mbs, .ref mde, .int sF, .int sN, .int sS, .int ig, .long xa, .long xb, .ref maa, .ref mab, .ref mba, .ref mbb])), (ms, .inl (cs 0, 288, .inl f)), (mso, .inl (cs 0, 16, .inl (upd sof en (nI x0)))), (mon, .inl (cs 0, 16, .inl (upd onf en (nI jy)))), (mot, .inl (cs 0, 16, .inl (upd otf en (-1)))), (man, .inl (cs 0, 16, .inl (upd (upd anf en (nI 0)) en (((upd anf en (nI 0)) en) ||| (((upd anf en (nI 0)) jy) ||| ((nI 1) <<< ((nI jy) &&& 31)))))))] := hD
              refine lv_iconst (v := nI 0) hx hb dX12_entry_159 (by decide) ?_
              refine lv_istore (lv' := [(5, .int (nI 0)), (4, .int (nI en)), (0, .ref hm), (1, .int (nI x0)), (2, .int (nI jy)), (3, .int (-1))]) hx hb dX12_entry_160 hl (by decide) rfl ?_
              clear hl
              try clear ls
              intro ls hl
              have loop_32 : ∀ (n_loop_32 : Nat) (o : Nat) (f9 : Nat → Int32), (o ≤ 8) → (colP f9) → (entV en (upd sof en (nI x0)) x0 o f f9) → 8 - o < n_loop_32 → ∀ (H : Heap) (locs : List Loc) (ls : Array Slot), va_P D vwCl [(hm, .inr (12, [.ref ms, .ref mkp, .int (nI km), .ref mtr, .int (nI n), .int (nI k), .int (nI al), .int (nI be), .int ea, .int pr, .ref mas, .int nq, .int po, .int (nI (en + 1)), .ref mso, .ref mon, .ref mot, .ref man, .int (nI 0), .int xd, .ref mst, .ref msm, .ref mtb, .ref mti, .ref mfr, .ref mbn, .ref mbs, .ref mde, .int sF, .int sN, .int sS, .int ig, .long xa, .long xb, .ref maa, .ref mab, .ref mba, .ref mbb])), (ms, .inl (cs 0, 288, .inl f9)), (mso, .inl (cs 0, 16, .inl (upd sof en (nI x0)))), (mon, .inl (cs 0, 16, .inl (upd onf en (nI jy)))), (mot, .inl (cs 0, 16, .inl (upd otf en (-1)))), (man, .inl (cs 0, 16, .inl (upd (upd anf en (nI 0)) en (((upd anf en (nI 0)) en) ||| (((upd anf en (nI 0)) jy) ||| ((nI 1) <<< ((nI jy) &&& 31)))))))] H → va_D A [(hm, .inr (12, [.ref ms, .ref mkp, .int (nI km), .ref mtr, .int (nI n), .int (nI k), .int (nI al), .int (nI be), .int ea, .int pr, .ref mas, .int nq, .int po, .int (nI (en + 1)), .ref mso, .ref mon, .ref mot, .ref man, .int (nI 0), .int xd, .ref mst, .ref msm, .ref mtb, .ref mti, .ref mfr, .ref mbn, .ref mbs, .ref mde, .int sF, .int sN, .int sS, .int ig, .long xa, .long xb, .ref maa, .ref mab, .ref mba, .ref mbb])), (ms, .inl (cs 0, 288, .inl f9)), (mso, .inl (cs 0, 16, .inl (upd sof en (nI x0)))), (mon, .inl (cs 0, 16, .inl (upd onf en (nI jy)))), (mot, .inl (cs 0, 16, .inl (upd otf en (-1)))), (man, .inl (cs 0, 16, .inl (upd (upd anf en (nI 0)) en (((upd anf en (nI 0)) en) ||| (((upd anf en (nI 0)) jy) ||| ((nI 1) <<< ((nI jy) &&& 31)))))))] → va_S A s.heap H locs → lv_has ls 6 [(5, .int (nI o)), (4, .int (nI en)), (0, .ref hm), (1, .int (nI x0)), (2, .int (nI jy)), (3, .int (-1))] → W p l e ({ frames := 2, cells := 0, slots := 0, locals := 44 } : Room) s m args below meth c H locs 0 0 (MQ below ((xQi D (fun (r : Int32) (u : Nat × Nat × (Nat → Int32) × (Nat → Int32) × (Nat → Int32) × (Nat → Int32) × (Nat → Int32)) => match u with | (enz, kmz, fz, soz, onz, otz, anz) => (PQ (entP en (nI x0) (nI jy) (-1)) r (nI en) (-1)) ∧ (colP fz ∧ enz ≤ 16 ∧ kmz ≤ 8 ∧ inP 16 8 soz ∧ parF enz onz ∧ parF enz otz) ∧ ((entP en (nI x0) (nI jy) (-1) ∧ enz = en + 1 ∧ kmz = 0 ∧ ∃ t, t < 8 ∧ (nI x0) = nI t ∧ soz = upd sof en (nI t) ∧ onz = upd onf en (nI jy) ∧ otz = upd otf en (-1) ∧ anz en = linF anf (nI jy) ||| linF anf (-1) ∧ (∀ j, ¬ j = en → anz j = anf j) ∧ entV en (upd sof en (nI t)) t 8 f fz) ∨ (¬ entP en (nI x0) (nI jy) (-1) ∧ enz = en ∧ kmz = km ∧ soz = sof ∧ onz = onf ∧ otz = otf ∧ anz = anf ∧ fz = f))) (fun (u : Nat × Nat × (Nat → Int32) × (Nat → Int32) × (Nat → Int32) × (Nat → Int32) × (Nat → Int32)) => match u with | (enz, kmz, fz, soz, onz, otz, anz) => [(hm, .inr (12, [.ref ms, .ref mkp, .int (nI kmz), .ref mtr, .int (nI n), .int (nI k), .int (nI al), .int (nI be), .int ea, .int pr, .ref mas, .int nq, .int po, .int (nI enz), .ref mso, .ref mon, .ref mot, .ref man, .int (nI 0), .int xd, .ref mst, .ref msm, .ref mtb, .ref mti, .ref mfr, .ref mbn, .ref mbs, .ref mde, .int sF, .int sN, .int sS, .int ig, .long xa, .long xb, .ref maa, .ref mab, .ref mba, .ref mbb])), (ms, .inl (cs 0, 288, .inl fz)), (mso, .inl (cs 0, 16, .inl soz)), (mon, .inl (cs 0, 16, .inl onz)), (mot, .inl (cs 0, 16, .inl otz)), (man, .inl (cs 0, 16, .inl anz))])) A) args s 0 0 A) (F0 m 162 ls []) := by
                intro n_loop_32
                induction n_loop_32 with
                | zero => intro o f9 h_o hs9 hv9 hlt H locs ls hP hD hS hl; exact absurd hlt (Nat.not_lt_zero _)
                | succ n_loop_32 ih_loop_32 =>
                  intro o f9 h_o hs9 hv9 hlt_loop_32 H locs ls hP hD hS hl
                  refine lv_iload hx hb dX12_entry_162 (lv_at hl 0 rfl) ?_
                  refine lv_bipush (v := nI 8) hx hb dX12_entry_164 (by decide) ?_
                  refine lv_icmp_ge (tgt := 237) hx hb dX12_entry_166 (by decide) (fun c_33 => ?_) (fun c_33 => ?_)
                  · -- 166 t
                    have fc_33 : 8 ≤ o := nf_le (by omega) (by omega) c_33
                    refine lv_aload_n hx hb dX12_entry_237 rfl (lv_at hl 2 rfl) ?_
                    refine lv_iconst (v := nI 0) hx hb dX12_entry_238 (by decide) ?_
                    refine xput C hP hD hS 0 rfl rfl zuX12 tyX12 tyX12_ok nmX12 2 (by decide) zw5_215 rfl rfl rfl (Nat.le_of_ble_eq_true rfl) dX12_entry_239 ?_
                    clear hP hD hS
                    try clear locs
                    try clear H
                    intro H locs hP hD hS
                    replace hP : va_P D vwCl [(hm, .inr (12, [.ref ms, .ref mkp, .int (nI 0), .ref mtr, .int (nI n), .int (nI k), .int (nI al), .int (nI be), .int ea, .int pr, .ref mas, .int nq, .int po, .int (nI (en + 1)), .ref mso, .ref mon, .ref mot, .ref man, .int (nI 0), .int xd, .ref mst, .ref msm, .ref mtb, .ref mti, .ref mfr, .ref mbn, .ref mbs, .ref mde, .int sF, .int sN, .int sS, .int ig, .long xa, .long xb, .ref maa, .ref mab, .ref mba, .ref mbb])), (ms, .inl (cs 0, 288, .inl f9)), (mso, .inl (cs 0, 16, .inl (upd sof en (nI x0)))), (mon, .inl (cs 0, 16, .inl (upd onf en (nI jy)))), (mot, .inl (cs 0, 16, .inl (upd otf en (-1)))), (man, .inl (cs 0, 16, .inl (upd (upd anf en (nI 0)) en (((upd anf en (nI 0)) en) ||| (((upd anf en (nI 0)) jy) ||| ((nI 1) <<< ((nI jy) &&& 31)))))))] H := hP
                    replace hD : va_D A [(hm, .inr (12, [.ref ms, .ref mkp, .int (nI 0), .ref mtr, .int (nI n), .int (nI k), .int (nI al), .int (nI be), .int ea, .int pr, .ref mas, .int nq, .int po, .int (nI (en + 1)), .ref mso, .ref mon, .ref mot, .ref man, .int (nI 0), .int xd, .ref mst, .ref msm, .ref mtb, .ref mti, .ref mfr, .ref mbn, .ref mbs, .ref mde, .int sF, .int sN, .int sS, .int ig, .long xa, .long xb, .ref maa, .ref mab, .ref mba, .ref mbb])), (ms, .inl (cs 0, 288, .inl f9)), (mso, .inl (cs 0, 16, .inl (upd sof en (nI x0)))), (mon, .inl (cs 0, 16, .inl (upd onf en (nI jy)))), (mot, .inl (cs 0, 16, .inl (upd otf en (-1)))), (man, .inl (cs 0, 16, .inl (upd (upd anf en (nI 0)) en (((upd anf en (nI 0)) en) ||| (((upd anf en (nI 0)) jy) ||| ((nI 1) <<< ((nI jy) &&& 31)))))))] := hD
                    refine lv_iload hx hb dX12_entry_242 (lv_at hl 1 rfl) ?_
                    exact xreti C (⟨(en + 1), 0, f9, (upd sof en (nI x0)), (upd onf en (nI jy)), (upd otf en (-1)), (upd (upd anf en (nI 0)) en (((upd anf en (nI 0)) en) ||| (((upd anf en (nI 0)) jy) ||| ((nI 1) <<< ((nI jy) &&& 31)))))⟩) (⟨Or.inl ⟨⟨okN_nI (by omega) (by decide), (Or.inr (okN_nI h_jy (by omega))), (Or.inl rfl), Or.inl c_30, by omega⟩, rfl⟩, ⟨hs9, by omega, by decide, inP_up hso _ _ (by omega), parF_next hon (Or.inr ⟨jy, h_jy, rfl⟩), parF_next hot (Or.inl rfl)⟩, Or.inl ⟨⟨okN_nI (by omega) (by decide), (Or.inr (okN_nI h_jy (by omega))), (Or.inl rfl), Or.inl c_30, by omega⟩, rfl, rfl, x0, by omega, rfl, rfl, rfl, rfl, (by simp only [(show linF anf (nI jy) = anf jy ||| bitI jy from by unfold linF; rw [if_neg (nI_ne_m1 (by omega)), nI_clamp (by omega)]), (show linF anf (-1) = nI 0 from if_pos rfl), upd, eq_self, if_true, if_neg (show ¬ jy = en by omega), or_0l, or_0]; try rfl), (fun j hj => by simp only [upd, if_neg hj]), by have q7 : o = 8 := (by omega); rw [← q7]; exact hv9⟩⟩) hP hD hS (Nat.le_of_ble_eq_true rfl) (Nat.le_of_ble_eq_true rfl) rfl dX12_entry_244
                  · -- 166 f
                    have fc_33 : o < 8 := nf_nle (by omega) (by omega) c_33
                    refine lv_aload_n hx hb dX12_entry_169 rfl (lv_at hl 2 rfl) ?_
                    refine xget C hP 0 rfl rfl zuX12 0 (by decide) zw5_213 rfl dX12_entry_170 ?_
                    refine lv_bipush (v := nI 96) hx hb dX12_entry_173 (by decide) ?_
                    refine lv_bipush (v := nI 8) hx hb dX12_entry_175 (by decide) ?_
                    refine lv_iload hx hb dX12_entry_177 (lv_at hl 0 rfl) ?_
                    refine lv_imul hx hb dX12_entry_179 ?_
                    refine lv_topi (nm_r (e' := nI (8 * o)) (pk_mul _ _) ?_)
                    refine lv_iadd hx hb dX12_entry_180 ?_
                    refine lv_topi (nm_r (e' := nI (96 + (8 * o))) (nI_add _ _) ?_)
                    refine lv_iload_n hx hb dX12_entry_181 rfl (lv_at hl 3 rfl) ?_
                    refine lv_iadd hx hb dX12_entry_182 ?_
                    refine lv_topi (nm_r (e' := nI ((96 + (8 * o)) + x0)) (nI_add _ _) ?_)
                    refine xiald C hP 1 rfl ((96 + (8 * o)) + x0) rfl (by omega) (by decide) dX12_entry_183 ?_
                    refine lv_if_ge (tgt := 204) hx hb dX12_entry_184 (by decide) (fun c_34 => ?_) (fun c_34 => ?_)
                    · -- 184 t
                      refine lv_aload_n hx hb dX12_entry_204 rfl (lv_at hl 2 rfl) ?_
                      refine lv_iload hx hb dX12_entry_205 (lv_at hl 0 rfl) ?_
                      refine lv_iload_n hx hb dX12_entry_207 rfl (lv_at hl 3 rfl) ?_
                      refine xi (wr := [(mon, .inl (cs 0, 16, .inl (upd onf en (nI jy)))), (mot, .inl (cs 0, 16, .inl (upd otf en (-1)))), (man, .inl (cs 0, 16, .inl (upd (upd anf en (nI 0)) en (((upd anf en (nI 0)) en) ||| (((upd anf en (nI 0)) jy) ||| ((nI 1) <<< ((nI jy) &&& 31)))))))]) (xV (As := [.int (nI o), .int (nI x0)]) (rest := []) C (c_X12_acceptedOf_f l D cs hm ms mkp mtr mas mso mon mot man mst msm mtb mti mfr mbn mbs mde maa mab mba mbb n k al be km (en + 1) ea pr nq po (nI 0) xd sF sN sS ig xa xb f9 o (nI x0) (upd sof en (nI x0)) (by omega) (by omega)) kX12_310 hP hD [0, 1, 2] rfl (by decide) 0 rfl rfl rfl ⟨Nat.le_of_ble_eq_true rfl, Nat.le_of_ble_eq_true rfl⟩ rfl hl.1 rfl (Nat.le_of_ble_eq_true rfl) dX12_entry_208 ⟨Nat.le_of_ble_eq_true rfl, Nat.le_of_ble_eq_true rfl⟩) hP hD hS hA [0, 1, 2] [3, 4, 5] rfl rfl (by decide) (by decide) ?_
                      clear hP hD hS
                      try clear locs
                      try clear H
                      intro r_35 u_36 H locs hw_r_35 hP hD hS
                      have hw_r_35 : accM (en + 1) (upd sof en (nI x0)) f9 o (nI x0) r_35 := hw_r_35
                      refine W.widen (k := 0) (n := 0) (Nat.le_of_ble_eq_true rfl) (Nat.le_of_ble_eq_true rfl) ?_
                      replace hP : va_P D vwCl [(mon, .inl (cs 0, 16, .inl (upd onf en (nI jy)))), (mot, .inl (cs 0, 16, .inl (upd otf en (-1)))), (man, .inl (cs 0, 16, .inl (upd (upd anf en (nI 0)) en (((upd anf en (nI 0)) en) ||| (((upd anf en (nI 0)) jy) ||| ((nI 1) <<< ((nI jy) &&& 31))))))), (hm, .inr (12, [.ref ms, .ref mkp, .int (nI km), .ref mtr, .int (nI n), .int (nI k), .int (nI al), .int (nI be), .int ea, .int pr, .ref mas, .int nq, .int po, .int (nI (en + 1)), .ref mso, .ref mon, .ref mot, .ref man, .int (nI 0), .int xd, .ref mst, .ref msm, .ref mtb, .ref mti, .ref mfr, .ref mbn, .ref mbs, .ref mde, .int sF, .int sN, .int sS, .int ig, .long xa, .long xb, .ref maa, .ref mab, .ref mba, .ref mbb])), (ms, .inl (cs 0, 288, .inl f9)), (mso, .inl (cs 0, 16, .inl (upd sof en (nI x0))))] H := hP
                      replace hD : va_D A [(mon, .inl (cs 0, 16, .inl (upd onf en (nI jy)))), (mot, .inl (cs 0, 16, .inl (upd otf en (-1)))), (man, .inl (cs 0, 16, .inl (upd (upd anf en (nI 0)) en (((upd anf en (nI 0)) en) ||| (((upd anf en (nI 0)) jy) ||| ((nI 1) <<< ((nI jy) &&& 31))))))), (hm, .inr (12, [.ref ms, .ref mkp, .int (nI km), .ref mtr, .int (nI n), .int (nI k), .int (nI al), .int (nI be), .int ea, .int pr, .ref mas, .int nq, .int po, .int (nI (en + 1)), .ref mso, .ref mon, .ref mot, .ref man, .int (nI 0), .int xd, .ref mst, .ref msm, .ref mtb, .ref mti, .ref mfr, .ref mbn, .ref mbs, .ref mde, .int sF, .int sN, .int sS, .int ig, .long xa, .long xb, .ref maa, .ref mab, .ref mba, .ref mbb])), (ms, .inl (cs 0, 288, .inl f9)), (mso, .inl (cs 0, 16, .inl (upd sof en (nI x0))))] := hD
                      refine lv_if_lt (tgt := 231) hx hb dX12_entry_211 (by decide) (fun c_37 => ?_) (fun c_37 => ?_)
                      · -- 211 t
                        refine lv_iinc (v := nI (o + 1)) (lv' := [(5, .int (nI (o + 1))), (4, .int (nI en)), (0, .ref hm), (1, .int (nI x0)), (2, .int (nI jy)), (3, .int (-1))]) hx hb dX12_entry_231 hl (k := 0) rfl (nI_add o 1) (by decide) rfl ?_
                        clear hl
                        try clear ls
                        intro ls hl
                        refine lv_goto (tgt := 162) hx hb dX12_entry_234 (by decide) ?_
                        exact ih_loop_32 (o + 1) f9 (by omega) hs9 (entV_s (by omega) (by omega) (by omega) hv9 (Or.inr ⟨(Int32.not_lt.mpr c_34), rfl⟩) hw_r_35 (Or.inl ⟨c_37, rfl⟩)) (by omega) H locs ls (xP_map hP [3, 4, 5, 0, 1, 2] rfl) (hD.sub [3, 4, 5, 0, 1, 2] (by decide) rfl) hS (lv_sub hl [0, 1, 2, 3, 4, 5] rfl)
                      · -- 211 f
                        refine lv_aload_n hx hb dX12_entry_214 rfl (lv_at hl 2 rfl) ?_
                        refine xget C hP 3 rfl rfl zuX12 0 (by decide) zw5_213 rfl dX12_entry_215 ?_
                        refine lv_bipush (v := nI 88) hx hb dX12_entry_218 (by decide) ?_
                        refine lv_iload hx hb dX12_entry_220 (lv_at hl 0 rfl) ?_
                        refine lv_iadd hx hb dX12_entry_222 ?_
                        refine lv_topi (nm_r (e' := nI (88 + o)) (nI_add _ _) ?_)
                        refine lv_dup2_11 hx hb dX12_entry_223 rfl rfl ?_
                        refine xiald C hP 4 rfl (88 + o) rfl (by omega) (by decide) dX12_entry_224 ?_
                        refine lv_iconst (v := nI 1) hx hb dX12_entry_225 (by decide) ?_
                        refine lv_iload hx hb dX12_entry_226 (lv_at hl 1 rfl) ?_
                        refine lv_ishl hx hb dX12_entry_228 ?_
                        refine lv_ior hx hb dX12_entry_229 ?_
                        refine xiast C hP hD hS 4 rfl (88 + o) rfl (by omega) (by decide) dX12_entry_230 ?_
                        clear hP hD hS
                        try clear locs
                        try clear H
                        intro H locs hP hD hS
                        replace hP : va_P D vwCl [(mon, .inl (cs 0, 16, .inl (upd onf en (nI jy)))), (mot, .inl (cs 0, 16, .inl (upd otf en (-1)))), (man, .inl (cs 0, 16, .inl (upd (upd anf en (nI 0)) en (((upd anf en (nI 0)) en) ||| (((upd anf en (nI 0)) jy) ||| ((nI 1) <<< ((nI jy) &&& 31))))))), (hm, .inr (12, [.ref ms, .ref mkp, .int (nI km), .ref mtr, .int (nI n), .int (nI k), .int (nI al), .int (nI be), .int ea, .int pr, .ref mas, .int nq, .int po, .int (nI (en + 1)), .ref mso, .ref mon, .ref mot, .ref man, .int (nI 0), .int xd, .ref mst, .ref msm, .ref mtb, .ref mti, .ref mfr, .ref mbn, .ref mbs, .ref mde, .int sF, .int sN, .int sS, .int ig, .long xa, .long xb, .ref maa, .ref mab, .ref mba, .ref mbb])), (ms, .inl (cs 0, 288, .inl (upd f9 (88 + o) ((f9 (88 + o)) ||| ((nI 1) <<< ((nI en) &&& 31)))))), (mso, .inl (cs 0, 16, .inl (upd sof en (nI x0))))] H := hP
                        replace hD : va_D A [(mon, .inl (cs 0, 16, .inl (upd onf en (nI jy)))), (mot, .inl (cs 0, 16, .inl (upd otf en (-1)))), (man, .inl (cs 0, 16, .inl (upd (upd anf en (nI 0)) en (((upd anf en (nI 0)) en) ||| (((upd anf en (nI 0)) jy) ||| ((nI 1) <<< ((nI jy) &&& 31))))))), (hm, .inr (12, [.ref ms, .ref mkp, .int (nI km), .ref mtr, .int (nI n), .int (nI k), .int (nI al), .int (nI be), .int ea, .int pr, .ref mas, .int nq, .int po, .int (nI (en + 1)), .ref mso, .ref mon, .ref mot, .ref man, .int (nI 0), .int xd, .ref mst, .ref msm, .ref mtb, .ref mti, .ref mfr, .ref mbn, .ref mbs, .ref mde, .int sF, .int sN, .int sS, .int ig, .long xa, .long xb, .ref maa, .ref mab, .ref mba, .ref mbb])), (ms, .inl (cs 0, 288, .inl (upd f9 (88 + o) ((f9 (88 + o)) ||| ((nI 1) <<< ((nI en) &&& 31)))))), (mso, .inl (cs 0, 16, .inl (upd sof en (nI x0))))] := hD
                        refine lv_iinc (v := nI (o + 1)) (lv' := [(5, .int (nI (o + 1))), (4, .int (nI en)), (0, .ref hm), (1, .int (nI x0)), (2, .int (nI jy)), (3, .int (-1))]) hx hb dX12_entry_231 hl (k := 0) rfl (nI_add o 1) (by decide) rfl ?_
                        clear hl
                        try clear ls
                        intro ls hl
                        refine lv_goto (tgt := 162) hx hb dX12_entry_234 (by decide) ?_
                        exact ih_loop_32 (o + 1) (upd f9 (88 + o) ((f9 (88 + o)) ||| ((nI 1) <<< ((nI en) &&& 31)))) (by omega) (colP_hi (i := 88 + o) hs9 ((f9 (88 + o)) ||| ((nI 1) <<< ((nI en) &&& 31))) (by omega)) (entV_s (by omega) (by omega) (by omega) hv9 (Or.inr ⟨(Int32.not_lt.mpr c_34), rfl⟩) hw_r_35 (Or.inr ⟨c_37, rfl⟩)) (by omega) H locs ls (xP_map hP [3, 4, 5, 0, 1, 2] rfl) (hD.sub [3, 4, 5, 0, 1, 2] (by decide) rfl) hS (lv_sub hl [0, 1, 2, 3, 4, 5] rfl)
                    · -- 184 f
                      refine lv_aload_n hx hb dX12_entry_187 rfl (lv_at hl 2 rfl) ?_
                      refine xget C hP 0 rfl rfl zuX12 0 (by decide) zw5_213 rfl dX12_entry_188 ?_
                      refine lv_bipush (v := nI 96) hx hb dX12_entry_191 (by decide) ?_
                      refine lv_bipush (v := nI 8) hx hb dX12_entry_193 (by decide) ?_
                      refine lv_iload hx hb dX12_entry_195 (lv_at hl 0 rfl) ?_
                      refine lv_imul hx hb dX12_entry_197 ?_
                      refine lv_topi (nm_r (e' := nI (8 * o)) (pk_mul _ _) ?_)
                      refine lv_iadd hx hb dX12_entry_198 ?_
                      refine lv_topi (nm_r (e' := nI (96 + (8 * o))) (nI_add _ _) ?_)
                      refine lv_iload_n hx hb dX12_entry_199 rfl (lv_at hl 3 rfl) ?_
                      refine lv_iadd hx hb dX12_entry_200 ?_
                      refine lv_topi (nm_r (e' := nI ((96 + (8 * o)) + x0)) (nI_add _ _) ?_)
                      refine lv_iload hx hb dX12_entry_201 (lv_at hl 1 rfl) ?_
                      refine xiast C hP hD hS 1 rfl ((96 + (8 * o)) + x0) rfl (by omega) (by decide) dX12_entry_203 ?_
                      clear hP hD hS
                      try clear locs
                      try clear H
                      intro H locs hP hD hS
                      replace hP : va_P D vwCl [(hm, .inr (12, [.ref ms, .ref mkp, .int (nI km), .ref mtr, .int (nI n), .int (nI k), .int (nI al), .int (nI be), .int ea, .int pr, .ref mas, .int nq, .int po, .int (nI (en + 1)), .ref mso, .ref mon, .ref mot, .ref man, .int (nI 0), .int xd, .ref mst, .ref msm, .ref mtb, .ref mti, .ref mfr, .ref mbn, .ref mbs, .ref mde, .int sF, .int sN, .int sS, .int ig, .long xa, .long xb, .ref maa, .ref mab, .ref mba, .ref mbb])), (ms, .inl (cs 0, 288, .inl (upd f9 ((96 + (8 * o)) + x0) (nI en)))), (mso, .inl (cs 0, 16, .inl (upd sof en (nI x0)))), (mon, .inl (cs 0, 16, .inl (upd onf en (nI jy)))), (mot, .inl (cs 0, 16, .inl (upd otf en (-1)))), (man, .inl (cs 0, 16, .inl (upd (upd anf en (nI 0)) en (((upd anf en (nI 0)) en) ||| (((upd anf en (nI 0)) jy) ||| ((nI 1) <<< ((nI jy) &&& 31)))))))] H := hP
                      replace hD : va_D A [(hm, .inr (12, [.ref ms, .ref mkp, .int (nI km), .ref mtr, .int (nI n), .int (nI k), .int (nI al), .int (nI be), .int ea, .int pr, .ref mas, .int nq, .int po, .int (nI (en + 1)), .ref mso, .ref mon, .ref mot, .ref man, .int (nI 0), .int xd, .ref mst, .ref msm, .ref mtb, .ref mti, .ref mfr, .ref mbn, .ref mbs, .ref mde, .int sF, .int sN, .int sS, .int ig, .long xa, .long xb, .ref maa, .ref mab, .ref mba, .ref mbb])), (ms, .inl (cs 0, 288, .inl (upd f9 ((96 + (8 * o)) + x0) (nI en)))), (mso, .inl (cs 0, 16, .inl (upd sof en (nI x0)))), (mon, .inl (cs 0, 16, .inl (upd onf en (nI jy)))), (mot, .inl (cs 0, 16, .inl (upd otf en (-1)))), (man, .inl (cs 0, 16, .inl (upd (upd anf en (nI 0)) en (((upd anf en (nI 0)) en) ||| (((upd anf en (nI 0)) jy) ||| ((nI 1) <<< ((nI jy) &&& 31)))))))] := hD
                      refine lv_aload_n hx hb dX12_entry_204 rfl (lv_at hl 2 rfl) ?_
                      refine lv_iload hx hb dX12_entry_205 (lv_at hl 0 rfl) ?_
                      refine lv_iload_n hx hb dX12_entry_207 rfl (lv_at hl 3 rfl) ?_
                      refine xi (wr := [(mon, .inl (cs 0, 16, .inl (upd onf en (nI jy)))), (mot, .inl (cs 0, 16, .inl (upd otf en (-1)))), (man, .inl (cs 0, 16, .inl (upd (upd anf en (nI 0)) en (((upd anf en (nI 0)) en) ||| (((upd anf en (nI 0)) jy) ||| ((nI 1) <<< ((nI jy) &&& 31)))))))]) (xV (As := [.int (nI o), .int (nI x0)]) (rest := []) C (c_X12_acceptedOf_f l D cs hm ms mkp mtr mas mso mon mot man mst msm mtb mti mfr mbn mbs mde maa mab mba mbb n k al be km (en + 1) ea pr nq po (nI 0) xd sF sN sS ig xa xb (upd f9 ((96 + (8 * o)) + x0) (nI en)) o (nI x0) (upd sof en (nI x0)) (by omega) (by omega)) kX12_310 hP hD [0, 1, 2] rfl (by decide) 0 rfl rfl rfl ⟨Nat.le_of_ble_eq_true rfl, Nat.le_of_ble_eq_true rfl⟩ rfl hl.1 rfl (Nat.le_of_ble_eq_true rfl) dX12_entry_208 ⟨Nat.le_of_ble_eq_true rfl, Nat.le_of_ble_eq_true rfl⟩) hP hD hS hA [0, 1, 2] [3, 4, 5] rfl rfl (by decide) (by decide) ?_
                      clear hP hD hS
                      try clear locs
                      try clear H
                      intro r_38 u_39 H locs hw_r_38 hP hD hS
                      have hw_r_38 : accM (en + 1) (upd sof en (nI x0)) (upd f9 ((96 + (8 * o)) + x0) (nI en)) o (nI x0) r_38 := hw_r_38
                      refine W.widen (k := 0) (n := 0) (Nat.le_of_ble_eq_true rfl) (Nat.le_of_ble_eq_true rfl) ?_
                      replace hP : va_P D vwCl [(mon, .inl (cs 0, 16, .inl (upd onf en (nI jy)))), (mot, .inl (cs 0, 16, .inl (upd otf en (-1)))), (man, .inl (cs 0, 16, .inl (upd (upd anf en (nI 0)) en (((upd anf en (nI 0)) en) ||| (((upd anf en (nI 0)) jy) ||| ((nI 1) <<< ((nI jy) &&& 31))))))), (hm, .inr (12, [.ref ms, .ref mkp, .int (nI km), .ref mtr, .int (nI n), .int (nI k), .int (nI al), .int (nI be), .int ea, .int pr, .ref mas, .int nq, .int po, .int (nI (en + 1)), .ref mso, .ref mon, .ref mot, .ref man, .int (nI 0), .int xd, .ref mst, .ref msm, .ref mtb, .ref mti, .ref mfr, .ref mbn, .ref mbs, .ref mde, .int sF, .int sN, .int sS, .int ig, .long xa, .long xb, .ref maa, .ref mab, .ref mba, .ref mbb])), (ms, .inl (cs 0, 288, .inl (upd f9 ((96 + (8 * o)) + x0) (nI en)))), (mso, .inl (cs 0, 16, .inl (upd sof en (nI x0))))] H := hP
                      replace hD : va_D A [(mon, .inl (cs 0, 16, .inl (upd onf en (nI jy)))), (mot, .inl (cs 0, 16, .inl (upd otf en (-1)))), (man, .inl (cs 0, 16, .inl (upd (upd anf en (nI 0)) en (((upd anf en (nI 0)) en) ||| (((upd anf en (nI 0)) jy) ||| ((nI 1) <<< ((nI jy) &&& 31))))))), (hm, .inr (12, [.ref ms, .ref mkp, .int (nI km), .ref mtr, .int (nI n), .int (nI k), .int (nI al), .int (nI be), .int ea, .int pr, .ref mas, .int nq, .int po, .int (nI (en + 1)), .ref mso, .ref mon, .ref mot, .ref man, .int (nI 0), .int xd, .ref mst, .ref msm, .ref mtb, .ref mti, .ref mfr, .ref mbn, .ref mbs, .ref mde, .int sF, .int sN, .int sS, .int ig, .long xa, .long xb, .ref maa, .ref mab, .ref mba, .ref mbb])), (ms, .inl (cs 0, 288, .inl (upd f9 ((96 + (8 * o)) + x0) (nI en)))), (mso, .inl (cs 0, 16, .inl (upd sof en (nI x0))))] := hD
                      refine lv_if_lt (tgt := 231) hx hb dX12_entry_211 (by decide) (fun c_40 => ?_) (fun c_40 => ?_)
                      · -- 211 t
                        refine lv_iinc (v := nI (o + 1)) (lv' := [(5, .int (nI (o + 1))), (4, .int (nI en)), (0, .ref hm), (1, .int (nI x0)), (2, .int (nI jy)), (3, .int (-1))]) hx hb dX12_entry_231 hl (k := 0) rfl (nI_add o 1) (by decide) rfl ?_
                        clear hl
                        try clear ls
                        intro ls hl
                        refine lv_goto (tgt := 162) hx hb dX12_entry_234 (by decide) ?_
                        exact ih_loop_32 (o + 1) (upd f9 ((96 + (8 * o)) + x0) (nI en)) (by omega) (colP_hi (i := (96 + (8 * o)) + x0) hs9 (nI en) (by omega)) (entV_s (by omega) (by omega) (by omega) hv9 (Or.inl ⟨Int32.not_le.mp c_34, rfl⟩) hw_r_38 (Or.inl ⟨c_40, rfl⟩)) (by omega) H locs ls (xP_map hP [3, 4, 5, 0, 1, 2] rfl) (hD.sub [3, 4, 5, 0, 1, 2] (by decide) rfl) hS (lv_sub hl [0, 1, 2, 3, 4, 5] rfl)
                      · -- 211 f
                        refine lv_aload_n hx hb dX12_entry_214 rfl (lv_at hl 2 rfl) ?_
                        refine xget C hP 3 rfl rfl zuX12 0 (by decide) zw5_213 rfl dX12_entry_215 ?_
                        refine lv_bipush (v := nI 88) hx hb dX12_entry_218 (by decide) ?_
                        refine lv_iload hx hb dX12_entry_220 (lv_at hl 0 rfl) ?_
                        refine lv_iadd hx hb dX12_entry_222 ?_
                        refine lv_topi (nm_r (e' := nI (88 + o)) (nI_add _ _) ?_)
                        refine lv_dup2_11 hx hb dX12_entry_223 rfl rfl ?_
                        refine xiald C hP 4 rfl (88 + o) rfl (by omega) (by decide) dX12_entry_224 ?_
                        refine lv_iconst (v := nI 1) hx hb dX12_entry_225 (by decide) ?_
                        refine lv_iload hx hb dX12_entry_226 (lv_at hl 1 rfl) ?_
                        refine lv_ishl hx hb dX12_entry_228 ?_
                        refine lv_ior hx hb dX12_entry_229 ?_
                        refine xiast C hP hD hS 4 rfl (88 + o) rfl (by omega) (by decide) dX12_entry_230 ?_
                        clear hP hD hS
                        try clear locs
                        try clear H
                        intro H locs hP hD hS
                        replace hP : va_P D vwCl [(mon, .inl (cs 0, 16, .inl (upd onf en (nI jy)))), (mot, .inl (cs 0, 16, .inl (upd otf en (-1)))), (man, .inl (cs 0, 16, .inl (upd (upd anf en (nI 0)) en (((upd anf en (nI 0)) en) ||| (((upd anf en (nI 0)) jy) ||| ((nI 1) <<< ((nI jy) &&& 31))))))), (hm, .inr (12, [.ref ms, .ref mkp, .int (nI km), .ref mtr, .int (nI n), .int (nI k), .int (nI al), .int (nI be), .int ea, .int pr, .ref mas, .int nq, .int po, .int (nI (en + 1)), .ref mso, .ref mon, .ref mot, .ref man, .int (nI 0), .int xd, .ref mst, .ref msm, .ref mtb, .ref mti, .ref mfr, .ref mbn, .ref mbs, .ref mde, .int sF, .int sN, .int sS, .int ig, .long xa, .long xb, .ref maa, .ref mab, .ref mba, .ref mbb])), (ms, .inl (cs 0, 288, .inl (upd (upd f9 ((96 + (8 * o)) + x0) (nI en)) (88 + o) (((upd f9 ((96 + (8 * o)) + x0) (nI en)) (88 + o)) ||| ((nI 1) <<< ((nI en) &&& 31)))))), (mso, .inl (cs 0, 16, .inl (upd sof en (nI x0))))] H := hP
                        replace hD : va_D A [(mon, .inl (cs 0, 16, .inl (upd onf en (nI jy)))), (mot, .inl (cs 0, 16, .inl (upd otf en (-1)))), (man, .inl (cs 0, 16, .inl (upd (upd anf en (nI 0)) en (((upd anf en (nI 0)) en) ||| (((upd anf en (nI 0)) jy) ||| ((nI 1) <<< ((nI jy) &&& 31))))))), (hm, .inr (12, [.ref ms, .ref mkp, .int (nI km), .ref mtr, .int (nI n), .int (nI k), .int (nI al), .int (nI be), .int ea, .int pr, .ref mas, .int nq, .int po, .int (nI (en + 1)), .ref mso, .ref mon, .ref mot, .ref man, .int (nI 0), .int xd, .ref mst, .ref msm, .ref mtb, .ref mti, .ref mfr, .ref mbn, .ref mbs, .ref mde, .int sF, .int sN, .int sS, .int ig, .long xa, .long xb, .ref maa, .ref mab, .ref mba, .ref mbb])), (ms, .inl (cs 0, 288, .inl (upd (upd f9 ((96 + (8 * o)) + x0) (nI en)) (88 + o) (((upd f9 ((96 + (8 * o)) + x0) (nI en)) (88 + o)) ||| ((nI 1) <<< ((nI en) &&& 31)))))), (mso, .inl (cs 0, 16, .inl (upd sof en (nI x0))))] := hD
                        refine lv_iinc (v := nI (o + 1)) (lv' := [(5, .int (nI (o + 1))), (4, .int (nI en)), (0, .ref hm), (1, .int (nI x0)), (2, .int (nI jy)), (3, .int (-1))]) hx hb dX12_entry_231 hl (k := 0) rfl (nI_add o 1) (by decide) rfl ?_
                        clear hl
                        try clear ls
                        intro ls hl
                        refine lv_goto (tgt := 162) hx hb dX12_entry_234 (by decide) ?_
                        exact ih_loop_32 (o + 1) (upd (upd f9 ((96 + (8 * o)) + x0) (nI en)) (88 + o) (((upd f9 ((96 + (8 * o)) + x0) (nI en)) (88 + o)) ||| ((nI 1) <<< ((nI en) &&& 31)))) (by omega) (colP_hi (i := 88 + o) (colP_hi (i := (96 + (8 * o)) + x0) hs9 (nI en) (by omega)) (((upd f9 ((96 + (8 * o)) + x0) (nI en)) (88 + o)) ||| ((nI 1) <<< ((nI en) &&& 31))) (by omega)) (entV_s (by omega) (by omega) (by omega) hv9 (Or.inl ⟨Int32.not_le.mp c_34, rfl⟩) hw_r_38 (Or.inr ⟨c_40, rfl⟩)) (by omega) H locs ls (xP_map hP [3, 4, 5, 0, 1, 2] rfl) (hD.sub [3, 4, 5, 0, 1, 2] (by decide) rfl) hS (lv_sub hl [0, 1, 2, 3, 4, 5] rfl)
              exact loop_32 _ 0 f (by omega) hs (entV_0 _ _ _ _) (Nat.lt_succ_self _) H locs ls hP hD hS (lv_sub hl [0, 1, 2, 3, 4, 5] rfl)
            · -- 58 f
              have fc_31 : en = 16 := nf_eq (by omega) (by omega) c_31
              refine lv_iconst (v := (-1)) hx hb dX12_entry_61 (by decide) ?_
              exact xreti C (⟨en, km, f, sof, onf, otf, anf⟩) (⟨Or.inr ⟨fun q => by have z := q.2.2.2.2; omega, rfl⟩, ⟨hs, hen, hkm, hso, hon, hot⟩, Or.inr ⟨fun q => by have z := q.2.2.2.2; omega, rfl, rfl, rfl, rfl, rfl, rfl, rfl⟩⟩) hP hD hS (Nat.le_of_ble_eq_true rfl) (Nat.le_of_ble_eq_true rfl) rfl dX12_entry_62
        · -- split
          replace hP : va_P D vwCl [(hm, .inr (12, [.ref ms, .ref mkp, .int (nI km), .ref mtr, .int (nI n), .int (nI k), .int (nI al), .int (nI be), .int ea, .int pr, .ref mas, .int nq, .int po, .int (nI en), .ref mso, .ref mon, .ref mot, .ref man, .int (nI 0), .int xd, .ref mst, .ref msm, .ref mtb, .ref mti, .ref mfr, .ref mbn, .ref mbs, .ref mde, .int sF, .int sN, .int sS, .int ig, .long xa, .long xb, .ref maa, .ref mab, .ref mba, .ref mbb])), (ms, .inl (cs 0, 288, .inl f)), (mso, .inl (cs 0, 16, .inl sof)), (mon, .inl (cs 0, 16, .inl onf)), (mot, .inl (cs 0, 16, .inl otf)), (man, .inl (cs 0, 16, .inl anf))] H := hP
          replace hD : va_D A [(hm, .inr (12, [.ref ms, .ref mkp, .int (nI km), .ref mtr, .int (nI n), .int (nI k), .int (nI al), .int (nI be), .int ea, .int pr, .ref mas, .int nq, .int po, .int (nI en), .ref mso, .ref mon, .ref mot, .ref man, .int (nI 0), .int xd, .ref mst, .ref msm, .ref mtb, .ref mti, .ref mfr, .ref mbn, .ref mbs, .ref mde, .int sF, .int sN, .int sS, .int ig, .long xa, .long xb, .ref maa, .ref mab, .ref mba, .ref mbb])), (ms, .inl (cs 0, 288, .inl f)), (mso, .inl (cs 0, 16, .inl sof)), (mon, .inl (cs 0, 16, .inl onf)), (mot, .inl (cs 0, 16, .inl otf)), (man, .inl (cs 0, 16, .inl anf))] := hD
          refine lv_iload_n hx hb dX12_entry_43 rfl (lv_at hl 2 rfl) ?_
          refine lv_if_lt (tgt := 52) hx hb dX12_entry_44 (by decide) (fun c => absurd c (nI_pos (by omega))) (fun _ => ?_)
          refine lv_iload_n hx hb dX12_entry_47 rfl (lv_at hl 2 rfl) ?_
          refine lv_iload_n hx hb dX12_entry_48 rfl (lv_at hl 3 rfl) ?_
          refine lv_icmp_eq (tgt := 61) hx hb dX12_entry_49 (by decide) (fun c_41 => ?_) (fun c_41 => ?_)
          · -- 49 t
            have fc_41 : jy = jz := nf_eq (by omega) (by omega) c_41
            refine lv_iconst (v := (-1)) hx hb dX12_entry_61 (by decide) ?_
            exact xreti C (⟨en, km, f, sof, onf, otf, anf⟩) (⟨Or.inr ⟨fun q => q.2.2.2.1.elim (fun g => g c_41) (fun g => nI_ne_m1 (by omega) g), rfl⟩, ⟨hs, hen, hkm, hso, hon, hot⟩, Or.inr ⟨fun q => q.2.2.2.1.elim (fun g => g c_41) (fun g => nI_ne_m1 (by omega) g), rfl, rfl, rfl, rfl, rfl, rfl, rfl⟩⟩) hP hD hS (Nat.le_of_ble_eq_true rfl) (Nat.le_of_ble_eq_true rfl) rfl dX12_entry_62
          · -- 49 f
            have fc_41 : jy ≠ jz := nf_ne (by omega) (by omega) c_41
            refine lv_aload_n hx hb dX12_entry_52 rfl (lv_at hl 0 rfl) ?_
            refine xget C hP 0 rfl rfl zuX12 13 (by decide) zw5_226 rfl dX12_entry_53 ?_
            refine lv_bipush (v := nI 16) hx hb dX12_entry_56 (by decide) ?_
            refine lv_icmp_ne (tgt := 63) hx hb dX12_entry_58 (by decide) (fun c_42 => ?_) (fun c_42 => ?_)
            · -- 58 t
              have fc_42 : en ≠ 16 := nf_ne (by omega) (by omega) c_42
              refine lv_aload_n hx hb dX12_entry_63 rfl (lv_at hl 0 rfl) ?_
              refine xget C hP 0 rfl rfl zuX12 13 (by decide) zw5_226 rfl dX12_entry_64 ?_
              refine lv_istore (lv' := [(4, .int (nI en)), (0, .ref hm), (1, .int (nI x0)), (2, .int (nI jy)), (3, .int (nI jz))]) hx hb dX12_entry_67 hl (by decide) rfl ?_
              clear hl
              try clear ls
              intro ls hl
              refine lv_aload_n hx hb dX12_entry_69 rfl (lv_at hl 1 rfl) ?_
              refine xget C hP 0 rfl rfl zuX12 14 (by decide) zw5_227 rfl dX12_entry_70 ?_
              refine lv_iload hx hb dX12_entry_73 (lv_at hl 0 rfl) ?_
              refine lv_iload_n hx hb dX12_entry_75 rfl (lv_at hl 2 rfl) ?_
              refine xiast C hP hD hS 2 rfl en rfl (by omega) (by decide) dX12_entry_76 ?_
              clear hP hD hS
              try clear locs
              try clear H
              intro H locs hP hD hS
              replace hP : va_P D vwCl [(hm, .inr (12, [.ref ms, .ref mkp, .int (nI km), .ref mtr, .int (nI n), .int (nI k), .int (nI al), .int (nI be), .int ea, .int pr, .ref mas, .int nq, .int po, .int (nI en), .ref mso, .ref mon, .ref mot, .ref man, .int (nI 0), .int xd, .ref mst, .ref msm, .ref mtb, .ref mti, .ref mfr, .ref mbn, .ref mbs, .ref mde, .int sF, .int sN, .int sS, .int ig, .long xa, .long xb, .ref maa, .ref mab, .ref mba, .ref mbb])), (ms, .inl (cs 0, 288, .inl f)), (mso, .inl (cs 0, 16, .inl (upd sof en (nI x0)))), (mon, .inl (cs 0, 16, .inl onf)), (mot, .inl (cs 0, 16, .inl otf)), (man, .inl (cs 0, 16, .inl anf))] H := hP
              replace hD : va_D A [(hm, .inr (12, [.ref ms, .ref mkp, .int (nI km), .ref mtr, .int (nI n), .int (nI k), .int (nI al), .int (nI be), .int ea, .int pr, .ref mas, .int nq, .int po, .int (nI en), .ref mso, .ref mon, .ref mot, .ref man, .int (nI 0), .int xd, .ref mst, .ref msm, .ref mtb, .ref mti, .ref mfr, .ref mbn, .ref mbs, .ref mde, .int sF, .int sN, .int sS, .int ig, .long xa, .long xb, .ref maa, .ref mab, .ref mba, .ref mbb])), (ms, .inl (cs 0, 288, .inl f)), (mso, .inl (cs 0, 16, .inl (upd sof en (nI x0)))), (mon, .inl (cs 0, 16, .inl onf)), (mot, .inl (cs 0, 16, .inl otf)), (man, .inl (cs 0, 16, .inl anf))] := hD
              refine lv_aload_n hx hb dX12_entry_77 rfl (lv_at hl 1 rfl) ?_
              refine xget C hP 0 rfl rfl zuX12 15 (by decide) zw5_228 rfl dX12_entry_78 ?_
              refine lv_iload hx hb dX12_entry_81 (lv_at hl 0 rfl) ?_
              refine lv_iload_n hx hb dX12_entry_83 rfl (lv_at hl 3 rfl) ?_
              refine xiast C hP hD hS 3 rfl en rfl (by omega) (by decide) dX12_entry_84 ?_
              clear hP hD hS
              try clear locs
              try clear H
              intro H locs hP hD hS
              replace hP : va_P D vwCl [(hm, .inr (12, [.ref ms, .ref mkp, .int (nI km), .ref mtr, .int (nI n), .int (nI k), .int (nI al), .int (nI be), .int ea, .int pr, .ref mas, .int nq, .int po, .int (nI en), .ref mso, .ref mon, .ref mot, .ref man, .int (nI 0), .int xd, .ref mst, .ref msm, .ref mtb, .ref mti, .ref mfr, .ref mbn, .ref mbs, .ref mde, .int sF, .int sN, .int sS, .int ig, .long xa, .long xb, .ref maa, .ref mab, .ref mba, .ref mbb])), (ms, .inl (cs 0, 288, .inl f)), (mso, .inl (cs 0, 16, .inl (upd sof en (nI x0)))), (mon, .inl (cs 0, 16, .inl (upd onf en (nI jy)))), (mot, .inl (cs 0, 16, .inl otf)), (man, .inl (cs 0, 16, .inl anf))] H := hP
              replace hD : va_D A [(hm, .inr (12, [.ref ms, .ref mkp, .int (nI km), .ref mtr, .int (nI n), .int (nI k), .int (nI al), .int (nI be), .int ea, .int pr, .ref mas, .int nq, .int po, .int (nI en), .ref mso, .ref mon, .ref mot, .ref man, .int (nI 0), .int xd, .ref mst, .ref msm, .ref mtb, .ref mti, .ref mfr, .ref mbn, .ref mbs, .ref mde, .int sF, .int sN, .int sS, .int ig, .long xa, .long xb, .ref maa, .ref mab, .ref mba, .ref mbb])), (ms, .inl (cs 0, 288, .inl f)), (mso, .inl (cs 0, 16, .inl (upd sof en (nI x0)))), (mon, .inl (cs 0, 16, .inl (upd onf en (nI jy)))), (mot, .inl (cs 0, 16, .inl otf)), (man, .inl (cs 0, 16, .inl anf))] := hD
              refine lv_aload_n hx hb dX12_entry_85 rfl (lv_at hl 1 rfl) ?_
              refine xget C hP 0 rfl rfl zuX12 16 (by decide) zw5_229 rfl dX12_entry_86 ?_
              refine lv_iload hx hb dX12_entry_89 (lv_at hl 0 rfl) ?_
              refine lv_iload_n hx hb dX12_entry_91 rfl (lv_at hl 4 rfl) ?_
              refine xiast C hP hD hS 4 rfl en rfl (by omega) (by decide) dX12_entry_92 ?_
              clear hP hD hS
              try clear locs
              try clear H
              intro H locs hP hD hS
              replace hP : va_P D vwCl [(hm, .inr (12, [.ref ms, .ref mkp, .int (nI km), .ref mtr, .int (nI n), .int (nI k), .int (nI al), .int (nI be), .int ea, .int pr, .ref mas, .int nq, .int po, .int (nI en), .ref mso, .ref mon, .ref mot, .ref man, .int (nI 0), .int xd, .ref mst, .ref msm, .ref mtb, .ref mti, .ref mfr, .ref mbn, .ref mbs, .ref mde, .int sF, .int sN, .int sS, .int ig, .long xa, .long xb, .ref maa, .ref mab, .ref mba, .ref mbb])), (ms, .inl (cs 0, 288, .inl f)), (mso, .inl (cs 0, 16, .inl (upd sof en (nI x0)))), (mon, .inl (cs 0, 16, .inl (upd onf en (nI jy)))), (mot, .inl (cs 0, 16, .inl (upd otf en (nI jz)))), (man, .inl (cs 0, 16, .inl anf))] H := hP
              replace hD : va_D A [(hm, .inr (12, [.ref ms, .ref mkp, .int (nI km), .ref mtr, .int (nI n), .int (nI k), .int (nI al), .int (nI be), .int ea, .int pr, .ref mas, .int nq, .int po, .int (nI en), .ref mso, .ref mon, .ref mot, .ref man, .int (nI 0), .int xd, .ref mst, .ref msm, .ref mtb, .ref mti, .ref mfr, .ref mbn, .ref mbs, .ref mde, .int sF, .int sN, .int sS, .int ig, .long xa, .long xb, .ref maa, .ref mab, .ref mba, .ref mbb])), (ms, .inl (cs 0, 288, .inl f)), (mso, .inl (cs 0, 16, .inl (upd sof en (nI x0)))), (mon, .inl (cs 0, 16, .inl (upd onf en (nI jy)))), (mot, .inl (cs 0, 16, .inl (upd otf en (nI jz)))), (man, .inl (cs 0, 16, .inl anf))] := hD
              refine lv_aload_n hx hb dX12_entry_93 rfl (lv_at hl 1 rfl) ?_
              refine xget C hP 0 rfl rfl zuX12 17 (by decide) zw5_230 rfl dX12_entry_94 ?_
              refine lv_iload hx hb dX12_entry_97 (lv_at hl 0 rfl) ?_
              refine lv_iconst (v := nI 0) hx hb dX12_entry_99 (by decide) ?_
              refine xiast C hP hD hS 5 rfl en rfl (by omega) (by decide) dX12_entry_100 ?_
              clear hP hD hS
              try clear locs
              try clear H
              intro H locs hP hD hS
              replace hP : va_P D vwCl [(hm, .inr (12, [.ref ms, .ref mkp, .int (nI km), .ref mtr, .int (nI n), .int (nI k), .int (nI al), .int (nI be), .int ea, .int pr, .ref mas, .int nq, .int po, .int (nI en), .ref mso, .ref mon, .ref mot, .ref man, .int (nI 0), .int xd, .ref mst, .ref msm, .ref mtb, .ref mti, .ref mfr, .ref mbn, .ref mbs, .ref mde, .int sF, .int sN, .int sS, .int ig, .long xa, .long xb, .ref maa, .ref mab, .ref mba, .ref mbb])), (ms, .inl (cs 0, 288, .inl f)), (mso, .inl (cs 0, 16, .inl (upd sof en (nI x0)))), (mon, .inl (cs 0, 16, .inl (upd onf en (nI jy)))), (mot, .inl (cs 0, 16, .inl (upd otf en (nI jz)))), (man, .inl (cs 0, 16, .inl (upd anf en (nI 0))))] H := hP
              replace hD : va_D A [(hm, .inr (12, [.ref ms, .ref mkp, .int (nI km), .ref mtr, .int (nI n), .int (nI k), .int (nI al), .int (nI be), .int ea, .int pr, .ref mas, .int nq, .int po, .int (nI en), .ref mso, .ref mon, .ref mot, .ref man, .int (nI 0), .int xd, .ref mst, .ref msm, .ref mtb, .ref mti, .ref mfr, .ref mbn, .ref mbs, .ref mde, .int sF, .int sN, .int sS, .int ig, .long xa, .long xb, .ref maa, .ref mab, .ref mba, .ref mbb])), (ms, .inl (cs 0, 288, .inl f)), (mso, .inl (cs 0, 16, .inl (upd sof en (nI x0)))), (mon, .inl (cs 0, 16, .inl (upd onf en (nI jy)))), (mot, .inl (cs 0, 16, .inl (upd otf en (nI jz)))), (man, .inl (cs 0, 16, .inl (upd anf en (nI 0))))] := hD
              refine lv_iload_n hx hb dX12_entry_101 rfl (lv_at hl 3 rfl) ?_
              refine lv_if_lt (tgt := 125) hx hb dX12_entry_102 (by decide) (fun c => absurd c (nI_pos (by omega))) (fun _ => ?_)
              refine lv_aload_n hx hb dX12_entry_105 rfl (lv_at hl 1 rfl) ?_
              refine xget C hP 0 rfl rfl zuX12 17 (by decide) zw5_230 rfl dX12_entry_106 ?_
              refine lv_iload hx hb dX12_entry_109 (lv_at hl 0 rfl) ?_
              refine lv_dup2_11 hx hb dX12_entry_111 rfl rfl ?_
              refine xiald C hP 5 rfl en rfl (by omega) (by decide) dX12_entry_112 ?_
              refine lv_aload_n hx hb dX12_entry_113 rfl (lv_at hl 1 rfl) ?_
              refine xget C hP 0 rfl rfl zuX12 17 (by decide) zw5_230 rfl dX12_entry_114 ?_
              refine lv_iload_n hx hb dX12_entry_117 rfl (lv_at hl 3 rfl) ?_
              refine xiald C hP 5 rfl jy rfl (by omega) (by decide) dX12_entry_118 ?_
              refine lv_iconst (v := nI 1) hx hb dX12_entry_119 (by decide) ?_
              refine lv_iload_n hx hb dX12_entry_120 rfl (lv_at hl 3 rfl) ?_
              refine lv_ishl hx hb dX12_entry_121 ?_
              refine lv_ior hx hb dX12_entry_122 ?_
              refine lv_ior hx hb dX12_entry_123 ?_
              refine xiast C hP hD hS 5 rfl en rfl (by omega) (by decide) dX12_entry_124 ?_
              clear hP hD hS
              try clear locs
              try clear H
              intro H locs hP hD hS
              replace hP : va_P D vwCl [(hm, .inr (12, [.ref ms, .ref mkp, .int (nI km), .ref mtr, .int (nI n), .int (nI k), .int (nI al), .int (nI be), .int ea, .int pr, .ref mas, .int nq, .int po, .int (nI en), .ref mso, .ref mon, .ref mot, .ref man, .int (nI 0), .int xd, .ref mst, .ref msm, .ref mtb, .ref mti, .ref mfr, .ref mbn, .ref mbs, .ref mde, .int sF, .int sN, .int sS, .int ig, .long xa, .long xb, .ref maa, .ref mab, .ref mba, .ref mbb])), (ms, .inl (cs 0, 288, .inl f)), (mso, .inl (cs 0, 16, .inl (upd sof en (nI x0)))), (mon, .inl (cs 0, 16, .inl (upd onf en (nI jy)))), (mot, .inl (cs 0, 16, .inl (upd otf en (nI jz)))), (man, .inl (cs 0, 16, .inl (upd (upd anf en (nI 0)) en (((upd anf en (nI 0)) en) ||| (((upd anf en (nI 0)) jy) ||| ((nI 1) <<< ((nI jy) &&& 31)))))))] H := hP
              replace hD : va_D A [(hm, .inr (12, [.ref ms, .ref mkp, .int (nI km), .ref mtr, .int (nI n), .int (nI k), .int (nI al), .int (nI be), .int ea, .int pr, .ref mas, .int nq, .int po, .int (nI en), .ref mso, .ref mon, .ref mot, .ref man, .int (nI 0), .int xd, .ref mst, .ref msm, .ref mtb, .ref mti, .ref mfr, .ref mbn, .ref mbs, .ref mde, .int sF, .int sN, .int sS, .int ig, .long xa, .long xb, .ref maa, .ref mab, .ref mba, .ref mbb])), (ms, .inl (cs 0, 288, .inl f)), (mso, .inl (cs 0, 16, .inl (upd sof en (nI x0)))), (mon, .inl (cs 0, 16, .inl (upd onf en (nI jy)))), (mot, .inl (cs 0, 16, .inl (upd otf en (nI jz)))), (man, .inl (cs 0, 16, .inl (upd (upd anf en (nI 0)) en (((upd anf en (nI 0)) en) ||| (((upd anf en (nI 0)) jy) ||| ((nI 1) <<< ((nI jy) &&& 31)))))))] := hD
              refine lv_iload_n hx hb dX12_entry_125 rfl (lv_at hl 4 rfl) ?_
              refine lv_if_lt (tgt := 149) hx hb dX12_entry_126 (by decide) (fun c => absurd c (nI_pos (by omega))) (fun _ => ?_)
              refine lv_aload_n hx hb dX12_entry_129 rfl (lv_at hl 1 rfl) ?_
              refine xget C hP 0 rfl rfl zuX12 17 (by decide) zw5_230 rfl dX12_entry_130 ?_
              refine lv_iload hx hb dX12_entry_133 (lv_at hl 0 rfl) ?_
              refine lv_dup2_11 hx hb dX12_entry_135 rfl rfl ?_
              refine xiald C hP 5 rfl en rfl (by omega) (by decide) dX12_entry_136 ?_
              refine lv_aload_n hx hb dX12_entry_137 rfl (lv_at hl 1 rfl) ?_
              refine xget C hP 0 rfl rfl zuX12 17 (by decide) zw5_230 rfl dX12_entry_138 ?_
              refine lv_iload_n hx hb dX12_entry_141 rfl (lv_at hl 4 rfl) ?_
              refine xiald C hP 5 rfl jz rfl (by omega) (by decide) dX12_entry_142 ?_
              refine lv_iconst (v := nI 1) hx hb dX12_entry_143 (by decide) ?_
              refine lv_iload_n hx hb dX12_entry_144 rfl (lv_at hl 4 rfl) ?_
              refine lv_ishl hx hb dX12_entry_145 ?_
              refine lv_ior hx hb dX12_entry_146 ?_
              refine lv_ior hx hb dX12_entry_147 ?_
              refine xiast C hP hD hS 5 rfl en rfl (by omega) (by decide) dX12_entry_148 ?_
              clear hP hD hS
              try clear locs
              try clear H
              intro H locs hP hD hS
              replace hP : va_P D vwCl [(hm, .inr (12, [.ref ms, .ref mkp, .int (nI km), .ref mtr, .int (nI n), .int (nI k), .int (nI al), .int (nI be), .int ea, .int pr, .ref mas, .int nq, .int po, .int (nI en), .ref mso, .ref mon, .ref mot, .ref man, .int (nI 0), .int xd, .ref mst, .ref msm, .ref mtb, .ref mti, .ref mfr, .ref mbn, .ref mbs, .ref mde, .int sF, .int sN, .int sS, .int ig, .long xa, .long xb, .ref maa, .ref mab, .ref mba, .ref mbb])), (ms, .inl (cs 0, 288, .inl f)), (mso, .inl (cs 0, 16, .inl (upd sof en (nI x0)))), (mon, .inl (cs 0, 16, .inl (upd onf en (nI jy)))), (mot, .inl (cs 0, 16, .inl (upd otf en (nI jz)))), (man, .inl (cs 0, 16, .inl (upd (upd (upd anf en (nI 0)) en (((upd anf en (nI 0)) en) ||| (((upd anf en (nI 0)) jy) ||| ((nI 1) <<< ((nI jy) &&& 31))))) en (((upd (upd anf en (nI 0)) en (((upd anf en (nI 0)) en) ||| (((upd anf en (nI 0)) jy) ||| ((nI 1) <<< ((nI jy) &&& 31))))) en) ||| (((upd (upd anf en (nI 0)) en (((upd anf en (nI 0)) en) ||| (((upd anf en (nI 0)) jy) ||| ((nI 1) <<< ((nI jy) &&& 31))))) jz) ||| ((nI 1) <<< ((nI jz) &&& 31)))))))] H := hP
              replace hD : va_D A [(hm, .inr (12, [.ref ms, .ref mkp, .int (nI km), .ref mtr, .int (nI n), .int (nI k), .int (nI al), .int (nI be), .int ea, .int pr, .ref mas, .int nq, .int po, .int (nI en), .ref mso, .ref mon, .ref mot, .ref man, .int (nI 0), .int xd, .ref mst, .ref msm, .ref mtb, .ref mti, .ref mfr, .ref mbn, .ref mbs, .ref mde, .int sF, .int sN, .int sS, .int ig, .long xa, .long xb, .ref maa, .ref mab, .ref mba, .ref mbb])), (ms, .inl (cs 0, 288, .inl f)), (mso, .inl (cs 0, 16, .inl (upd sof en (nI x0)))), (mon, .inl (cs 0, 16, .inl (upd onf en (nI jy)))), (mot, .inl (cs 0, 16, .inl (upd otf en (nI jz)))), (man, .inl (cs 0, 16, .inl (upd (upd (upd anf en (nI 0)) en (((upd anf en (nI 0)) en) ||| (((upd anf en (nI 0)) jy) ||| ((nI 1) <<< ((nI jy) &&& 31))))) en (((upd (upd anf en (nI 0)) en (((upd anf en (nI 0)) en) ||| (((upd anf en (nI 0)) jy) ||| ((nI 1) <<< ((nI jy) &&& 31))))) en) ||| (((upd (upd anf en (nI 0)) en (((upd anf en (nI 0)) en) ||| (((upd anf en (nI 0)) jy) ||| ((nI 1) <<< ((nI jy) &&& 31))))) jz) ||| ((nI 1) <<< ((nI jz) &&& 31)))))))] := hD
              refine lv_aload_n hx hb dX12_entry_149 rfl (lv_at hl 1 rfl) ?_
              refine lv_dup hx hb dX12_entry_150 rfl ?_
              refine xget C hP 0 rfl rfl zuX12 13 (by decide) zw5_226 rfl dX12_entry_151 ?_
              refine lv_iconst (v := nI 1) hx hb dX12_entry_154 (by decide) ?_
              refine lv_iadd hx hb dX12_entry_155 ?_
              refine lv_topi (nm_r (e' := nI (en + 1)) (nI_add _ _) ?_)
              refine xput C hP hD hS 0 rfl rfl zuX12 tyX12 tyX12_ok nmX12 13 (by decide) zw5_226 rfl rfl rfl (Nat.le_of_ble_eq_true rfl) dX12_entry_156 ?_
              clear hP hD hS
              try clear locs
              try clear H
              intro H locs hP hD hS
              replace hP : va_P D vwCl [(hm, .inr (12, [.ref ms, .ref mkp, .int (nI km), .ref mtr, .int (nI n), .int (nI k), .int (nI al), .int (nI be), .int ea, .int pr, .ref mas, .int nq, .int po, .int (nI (en + 1)), .ref mso, .ref mon, .ref mot, .ref man, .int (nI 0), .int xd, .ref mst, .ref msm, .ref mtb, .ref mti, .ref mfr, .ref mbn, .ref mbs, .ref mde, .int sF, .int sN, .int sS, .int ig, .long xa, .long xb, .ref maa, .ref mab, .ref mba, .ref mbb])), (ms, .inl (cs 0, 288, .inl f)), (mso, .inl (cs 0, 16, .inl (upd sof en (nI x0)))), (mon, .inl (cs 0, 16, .inl (upd onf en (nI jy)))), (mot, .inl (cs 0, 16, .inl (upd otf en (nI jz)))), (man, .inl (cs 0, 16, .inl (upd (upd (upd anf en (nI 0)) en (((upd anf en (nI 0)) en) ||| (((upd anf en (nI 0)) jy) ||| ((nI 1) <<< ((nI jy) &&& 31))))) en (((upd (upd anf en (nI 0)) en (((upd anf en (nI 0)) en) ||| (((upd anf en (nI 0)) jy) ||| ((nI 1) <<< ((nI jy) &&& 31))))) en) ||| (((upd (upd anf en (nI 0)) en (((upd anf en (nI 0)) en) ||| (((upd anf en (nI 0)) jy) ||| ((nI 1) <<< ((nI jy) &&& 31))))) jz) ||| ((nI 1) <<< ((nI jz) &&& 31)))))))] H := hP
              replace hD : va_D A [(hm, .inr (12, [.ref ms, .ref mkp, .int (nI km), .ref mtr, .int (nI n), .int (nI k), .int (nI al), .int (nI be), .int ea, .int pr, .ref mas, .int nq, .int po, .int (nI (en + 1)), .ref mso, .ref mon, .ref mot, .ref man, .int (nI 0), .int xd, .ref mst, .ref msm, .ref mtb, .ref mti, .ref mfr, .ref mbn, .ref mbs, .ref mde, .int sF, .int sN, .int sS, .int ig, .long xa, .long xb, .ref maa, .ref mab, .ref mba, .ref mbb])), (ms, .inl (cs 0, 288, .inl f)), (mso, .inl (cs 0, 16, .inl (upd sof en (nI x0)))), (mon, .inl (cs 0, 16, .inl (upd onf en (nI jy)))), (mot, .inl (cs 0, 16, .inl (upd otf en (nI jz)))), (man, .inl (cs 0, 16, .inl (upd (upd (upd anf en (nI 0)) en (((upd anf en (nI 0)) en) ||| (((upd anf en (nI 0)) jy) ||| ((nI 1) <<< ((nI jy) &&& 31))))) en (((upd (upd anf en (nI 0)) en (((upd anf en (nI 0)) en) ||| (((upd anf en (nI 0)) jy) ||| ((nI 1) <<< ((nI jy) &&& 31))))) en) ||| (((upd (upd anf en (nI 0)) en (((upd anf en (nI 0)) en) ||| (((upd anf en (nI 0)) jy) ||| ((nI 1) <<< ((nI jy) &&& 31))))) jz) ||| ((nI 1) <<< ((nI jz) &&& 31)))))))] := hD
              refine lv_iconst (v := nI 0) hx hb dX12_entry_159 (by decide) ?_
              refine lv_istore (lv' := [(5, .int (nI 0)), (4, .int (nI en)), (0, .ref hm), (1, .int (nI x0)), (2, .int (nI jy)), (3, .int (nI jz))]) hx hb dX12_entry_160 hl (by decide) rfl ?_
              clear hl
              try clear ls
              intro ls hl
              have loop_43 : ∀ (n_loop_43 : Nat) (o : Nat) (f9 : Nat → Int32), (o ≤ 8) → (colP f9) → (entV en (upd sof en (nI x0)) x0 o f f9) → 8 - o < n_loop_43 → ∀ (H : Heap) (locs : List Loc) (ls : Array Slot), va_P D vwCl [(hm, .inr (12, [.ref ms, .ref mkp, .int (nI km), .ref mtr, .int (nI n), .int (nI k), .int (nI al), .int (nI be), .int ea, .int pr, .ref mas, .int nq, .int po, .int (nI (en + 1)), .ref mso, .ref mon, .ref mot, .ref man, .int (nI 0), .int xd, .ref mst, .ref msm, .ref mtb, .ref mti, .ref mfr, .ref mbn, .ref mbs, .ref mde, .int sF, .int sN, .int sS, .int ig, .long xa, .long xb, .ref maa, .ref mab, .ref mba, .ref mbb])), (ms, .inl (cs 0, 288, .inl f9)), (mso, .inl (cs 0, 16, .inl (upd sof en (nI x0)))), (mon, .inl (cs 0, 16, .inl (upd onf en (nI jy)))), (mot, .inl (cs 0, 16, .inl (upd otf en (nI jz)))), (man, .inl (cs 0, 16, .inl (upd (upd (upd anf en (nI 0)) en (((upd anf en (nI 0)) en) ||| (((upd anf en (nI 0)) jy) ||| ((nI 1) <<< ((nI jy) &&& 31))))) en (((upd (upd anf en (nI 0)) en (((upd anf en (nI 0)) en) ||| (((upd anf en (nI 0)) jy) ||| ((nI 1) <<< ((nI jy) &&& 31))))) en) ||| (((upd (upd anf en (nI 0)) en (((upd anf en (nI 0)) en) ||| (((upd anf en (nI 0)) jy) ||| ((nI 1) <<< ((nI jy) &&& 31))))) jz) ||| ((nI 1) <<< ((nI jz) &&& 31)))))))] H → va_D A [(hm, .inr (12, [.ref ms, .ref mkp, .int (nI km), .ref mtr, .int (nI n), .int (nI k), .int (nI al), .int (nI be), .int ea, .int pr, .ref mas, .int nq, .int po, .int (nI (en + 1)), .ref mso, .ref mon, .ref mot, .ref man, .int (nI 0), .int xd, .ref mst, .ref msm, .ref mtb, .ref mti, .ref mfr, .ref mbn, .ref mbs, .ref mde, .int sF, .int sN, .int sS, .int ig, .long xa, .long xb, .ref maa, .ref mab, .ref mba, .ref mbb])), (ms, .inl (cs 0, 288, .inl f9)), (mso, .inl (cs 0, 16, .inl (upd sof en (nI x0)))), (mon, .inl (cs 0, 16, .inl (upd onf en (nI jy)))), (mot, .inl (cs 0, 16, .inl (upd otf en (nI jz)))), (man, .inl (cs 0, 16, .inl (upd (upd (upd anf en (nI 0)) en (((upd anf en (nI 0)) en) ||| (((upd anf en (nI 0)) jy) ||| ((nI 1) <<< ((nI jy) &&& 31))))) en (((upd (upd anf en (nI 0)) en (((upd anf en (nI 0)) en) ||| (((upd anf en (nI 0)) jy) ||| ((nI 1) <<< ((nI jy) &&& 31))))) en) ||| (((upd (upd anf en (nI 0)) en (((upd anf en (nI 0)) en) ||| (((upd anf en (nI 0)) jy) ||| ((nI 1) <<< ((nI jy) &&& 31))))) jz) ||| ((nI 1) <<< ((nI jz) &&& 31)))))))] → va_S A s.heap H locs → lv_has ls 6 [(5, .int (nI o)), (4, .int (nI en)), (0, .ref hm), (1, .int (nI x0)), (2, .int (nI jy)), (3, .int (nI jz))] → W p l e ({ frames := 2, cells := 0, slots := 0, locals := 44 } : Room) s m args below meth c H locs 0 0 (MQ below ((xQi D (fun (r : Int32) (u : Nat × Nat × (Nat → Int32) × (Nat → Int32) × (Nat → Int32) × (Nat → Int32) × (Nat → Int32)) => match u with | (enz, kmz, fz, soz, onz, otz, anz) => (PQ (entP en (nI x0) (nI jy) (nI jz)) r (nI en) (-1)) ∧ (colP fz ∧ enz ≤ 16 ∧ kmz ≤ 8 ∧ inP 16 8 soz ∧ parF enz onz ∧ parF enz otz) ∧ ((entP en (nI x0) (nI jy) (nI jz) ∧ enz = en + 1 ∧ kmz = 0 ∧ ∃ t, t < 8 ∧ (nI x0) = nI t ∧ soz = upd sof en (nI t) ∧ onz = upd onf en (nI jy) ∧ otz = upd otf en (nI jz) ∧ anz en = linF anf (nI jy) ||| linF anf (nI jz) ∧ (∀ j, ¬ j = en → anz j = anf j) ∧ entV en (upd sof en (nI t)) t 8 f fz) ∨ (¬ entP en (nI x0) (nI jy) (nI jz) ∧ enz = en ∧ kmz = km ∧ soz = sof ∧ onz = onf ∧ otz = otf ∧ anz = anf ∧ fz = f))) (fun (u : Nat × Nat × (Nat → Int32) × (Nat → Int32) × (Nat → Int32) × (Nat → Int32) × (Nat → Int32)) => match u with | (enz, kmz, fz, soz, onz, otz, anz) => [(hm, .inr (12, [.ref ms, .ref mkp, .int (nI kmz), .ref mtr, .int (nI n), .int (nI k), .int (nI al), .int (nI be), .int ea, .int pr, .ref mas, .int nq, .int po, .int (nI enz), .ref mso, .ref mon, .ref mot, .ref man, .int (nI 0), .int xd, .ref mst, .ref msm, .ref mtb, .ref mti, .ref mfr, .ref mbn, .ref mbs, .ref mde, .int sF, .int sN, .int sS, .int ig, .long xa, .long xb, .ref maa, .ref mab, .ref mba, .ref mbb])), (ms, .inl (cs 0, 288, .inl fz)), (mso, .inl (cs 0, 16, .inl soz)), (mon, .inl (cs 0, 16, .inl onz)), (mot, .inl (cs 0, 16, .inl otz)), (man, .inl (cs 0, 16, .inl anz))])) A) args s 0 0 A) (F0 m 162 ls []) := by
                intro n_loop_43
                induction n_loop_43 with
                | zero => intro o f9 h_o hs9 hv9 hlt H locs ls hP hD hS hl; exact absurd hlt (Nat.not_lt_zero _)
                | succ n_loop_43 ih_loop_43 =>
                  intro o f9 h_o hs9 hv9 hlt_loop_43 H locs ls hP hD hS hl
                  refine lv_iload hx hb dX12_entry_162 (lv_at hl 0 rfl) ?_
                  refine lv_bipush (v := nI 8) hx hb dX12_entry_164 (by decide) ?_
                  refine lv_icmp_ge (tgt := 237) hx hb dX12_entry_166 (by decide) (fun c_44 => ?_) (fun c_44 => ?_)
                  · -- 166 t
                    have fc_44 : 8 ≤ o := nf_le (by omega) (by omega) c_44
                    refine lv_aload_n hx hb dX12_entry_237 rfl (lv_at hl 2 rfl) ?_
                    refine lv_iconst (v := nI 0) hx hb dX12_entry_238 (by decide) ?_
                    refine xput C hP hD hS 0 rfl rfl zuX12 tyX12 tyX12_ok nmX12 2 (by decide) zw5_215 rfl rfl rfl (Nat.le_of_ble_eq_true rfl) dX12_entry_239 ?_
                    clear hP hD hS
                    try clear locs
                    try clear H
                    intro H locs hP hD hS
                    replace hP : va_P D vwCl [(hm, .inr (12, [.ref ms, .ref mkp, .int (nI 0), .ref mtr, .int (nI n), .int (nI k), .int (nI al), .int (nI be), .int ea, .int pr, .ref mas, .int nq, .int po, .int (nI (en + 1)), .ref mso, .ref mon, .ref mot, .ref man, .int (nI 0), .int xd, .ref mst, .ref msm, .ref mtb, .ref mti, .ref mfr, .ref mbn, .ref mbs, .ref mde, .int sF, .int sN, .int sS, .int ig, .long xa, .long xb, .ref maa, .ref mab, .ref mba, .ref mbb])), (ms, .inl (cs 0, 288, .inl f9)), (mso, .inl (cs 0, 16, .inl (upd sof en (nI x0)))), (mon, .inl (cs 0, 16, .inl (upd onf en (nI jy)))), (mot, .inl (cs 0, 16, .inl (upd otf en (nI jz)))), (man, .inl (cs 0, 16, .inl (upd (upd (upd anf en (nI 0)) en (((upd anf en (nI 0)) en) ||| (((upd anf en (nI 0)) jy) ||| ((nI 1) <<< ((nI jy) &&& 31))))) en (((upd (upd anf en (nI 0)) en (((upd anf en (nI 0)) en) ||| (((upd anf en (nI 0)) jy) ||| ((nI 1) <<< ((nI jy) &&& 31))))) en) ||| (((upd (upd anf en (nI 0)) en (((upd anf en (nI 0)) en) ||| (((upd anf en (nI 0)) jy) ||| ((nI 1) <<< ((nI jy) &&& 31))))) jz) ||| ((nI 1) <<< ((nI jz) &&& 31)))))))] H := hP
                    replace hD : va_D A [(hm, .inr (12, [.ref ms, .ref mkp, .int (nI 0), .ref mtr, .int (nI n), .int (nI k), .int (nI al), .int (nI be), .int ea, .int pr, .ref mas, .int nq, .int po, .int (nI (en + 1)), .ref mso, .ref mon, .ref mot, .ref man, .int (nI 0), .int xd, .ref mst, .ref msm, .ref mtb, .ref mti, .ref mfr, .ref mbn, .ref mbs, .ref mde, .int sF, .int sN, .int sS, .int ig, .long xa, .long xb, .ref maa, .ref mab, .ref mba, .ref mbb])), (ms, .inl (cs 0, 288, .inl f9)), (mso, .inl (cs 0, 16, .inl (upd sof en (nI x0)))), (mon, .inl (cs 0, 16, .inl (upd onf en (nI jy)))), (mot, .inl (cs 0, 16, .inl (upd otf en (nI jz)))), (man, .inl (cs 0, 16, .inl (upd (upd (upd anf en (nI 0)) en (((upd anf en (nI 0)) en) ||| (((upd anf en (nI 0)) jy) ||| ((nI 1) <<< ((nI jy) &&& 31))))) en (((upd (upd anf en (nI 0)) en (((upd anf en (nI 0)) en) ||| (((upd anf en (nI 0)) jy) ||| ((nI 1) <<< ((nI jy) &&& 31))))) en) ||| (((upd (upd anf en (nI 0)) en (((upd anf en (nI 0)) en) ||| (((upd anf en (nI 0)) jy) ||| ((nI 1) <<< ((nI jy) &&& 31))))) jz) ||| ((nI 1) <<< ((nI jz) &&& 31)))))))] := hD
                    refine lv_iload hx hb dX12_entry_242 (lv_at hl 1 rfl) ?_
                    exact xreti C (⟨(en + 1), 0, f9, (upd sof en (nI x0)), (upd onf en (nI jy)), (upd otf en (nI jz)), (upd (upd (upd anf en (nI 0)) en (((upd anf en (nI 0)) en) ||| (((upd anf en (nI 0)) jy) ||| ((nI 1) <<< ((nI jy) &&& 31))))) en (((upd (upd anf en (nI 0)) en (((upd anf en (nI 0)) en) ||| (((upd anf en (nI 0)) jy) ||| ((nI 1) <<< ((nI jy) &&& 31))))) en) ||| (((upd (upd anf en (nI 0)) en (((upd anf en (nI 0)) en) ||| (((upd anf en (nI 0)) jy) ||| ((nI 1) <<< ((nI jy) &&& 31))))) jz) ||| ((nI 1) <<< ((nI jz) &&& 31)))))⟩) (⟨Or.inl ⟨⟨okN_nI (by omega) (by decide), (Or.inr (okN_nI h_jy (by omega))), (Or.inr (okN_nI h_jz (by omega))), Or.inl c_41, by omega⟩, rfl⟩, ⟨hs9, by omega, by decide, inP_up hso _ _ (by omega), parF_next hon (Or.inr ⟨jy, h_jy, rfl⟩), parF_next hot (Or.inr ⟨jz, h_jz, rfl⟩)⟩, Or.inl ⟨⟨okN_nI (by omega) (by decide), (Or.inr (okN_nI h_jy (by omega))), (Or.inr (okN_nI h_jz (by omega))), Or.inl c_41, by omega⟩, rfl, rfl, x0, by omega, rfl, rfl, rfl, rfl, (by simp only [(show linF anf (nI jy) = anf jy ||| bitI jy from by unfold linF; rw [if_neg (nI_ne_m1 (by omega)), nI_clamp (by omega)]), (show linF anf (nI jz) = anf jz ||| bitI jz from by unfold linF; rw [if_neg (nI_ne_m1 (by omega)), nI_clamp (by omega)]), upd, eq_self, if_true, if_neg (show ¬ jy = en by omega), if_neg (show ¬ jz = en by omega), or_0l, or_0]; try rfl), (fun j hj => by simp only [upd, if_neg hj]), by have q7 : o = 8 := (by omega); rw [← q7]; exact hv9⟩⟩) hP hD hS (Nat.le_of_ble_eq_true rfl) (Nat.le_of_ble_eq_true rfl) rfl dX12_entry_244
                  · -- 166 f
                    have fc_44 : o < 8 := nf_nle (by omega) (by omega) c_44
                    refine lv_aload_n hx hb dX12_entry_169 rfl (lv_at hl 2 rfl) ?_
                    refine xget C hP 0 rfl rfl zuX12 0 (by decide) zw5_213 rfl dX12_entry_170 ?_
                    refine lv_bipush (v := nI 96) hx hb dX12_entry_173 (by decide) ?_
                    refine lv_bipush (v := nI 8) hx hb dX12_entry_175 (by decide) ?_
                    refine lv_iload hx hb dX12_entry_177 (lv_at hl 0 rfl) ?_
                    refine lv_imul hx hb dX12_entry_179 ?_
                    refine lv_topi (nm_r (e' := nI (8 * o)) (pk_mul _ _) ?_)
                    refine lv_iadd hx hb dX12_entry_180 ?_
                    refine lv_topi (nm_r (e' := nI (96 + (8 * o))) (nI_add _ _) ?_)
                    refine lv_iload_n hx hb dX12_entry_181 rfl (lv_at hl 3 rfl) ?_
                    refine lv_iadd hx hb dX12_entry_182 ?_
                    refine lv_topi (nm_r (e' := nI ((96 + (8 * o)) + x0)) (nI_add _ _) ?_)
                    refine xiald C hP 1 rfl ((96 + (8 * o)) + x0) rfl (by omega) (by decide) dX12_entry_183 ?_
                    refine lv_if_ge (tgt := 204) hx hb dX12_entry_184 (by decide) (fun c_45 => ?_) (fun c_45 => ?_)
                    · -- 184 t
                      refine lv_aload_n hx hb dX12_entry_204 rfl (lv_at hl 2 rfl) ?_
                      refine lv_iload hx hb dX12_entry_205 (lv_at hl 0 rfl) ?_
                      refine lv_iload_n hx hb dX12_entry_207 rfl (lv_at hl 3 rfl) ?_
                      refine xi (wr := [(mon, .inl (cs 0, 16, .inl (upd onf en (nI jy)))), (mot, .inl (cs 0, 16, .inl (upd otf en (nI jz)))), (man, .inl (cs 0, 16, .inl (upd (upd (upd anf en (nI 0)) en (((upd anf en (nI 0)) en) ||| (((upd anf en (nI 0)) jy) ||| ((nI 1) <<< ((nI jy) &&& 31))))) en (((upd (upd anf en (nI 0)) en (((upd anf en (nI 0)) en) ||| (((upd anf en (nI 0)) jy) ||| ((nI 1) <<< ((nI jy) &&& 31))))) en) ||| (((upd (upd anf en (nI 0)) en (((upd anf en (nI 0)) en) ||| (((upd anf en (nI 0)) jy) ||| ((nI 1) <<< ((nI jy) &&& 31))))) jz) ||| ((nI 1) <<< ((nI jz) &&& 31)))))))]) (xV (As := [.int (nI o), .int (nI x0)]) (rest := []) C (c_X12_acceptedOf_f l D cs hm ms mkp mtr mas mso mon mot man mst msm mtb mti mfr mbn mbs mde maa mab mba mbb n k al be km (en + 1) ea pr nq po (nI 0) xd sF sN sS ig xa xb f9 o (nI x0) (upd sof en (nI x0)) (by omega) (by omega)) kX12_310 hP hD [0, 1, 2] rfl (by decide) 0 rfl rfl rfl ⟨Nat.le_of_ble_eq_true rfl, Nat.le_of_ble_eq_true rfl⟩ rfl hl.1 rfl (Nat.le_of_ble_eq_true rfl) dX12_entry_208 ⟨Nat.le_of_ble_eq_true rfl, Nat.le_of_ble_eq_true rfl⟩) hP hD hS hA [0, 1, 2] [3, 4, 5] rfl rfl (by decide) (by decide) ?_
                      clear hP hD hS
                      try clear locs
                      try clear H
                      intro r_46 u_47 H locs hw_r_46 hP hD hS
                      have hw_r_46 : accM (en + 1) (upd sof en (nI x0)) f9 o (nI x0) r_46 := hw_r_46
                      refine W.widen (k := 0) (n := 0) (Nat.le_of_ble_eq_true rfl) (Nat.le_of_ble_eq_true rfl) ?_
                      replace hP : va_P D vwCl [(mon, .inl (cs 0, 16, .inl (upd onf en (nI jy)))), (mot, .inl (cs 0, 16, .inl (upd otf en (nI jz)))), (man, .inl (cs 0, 16, .inl (upd (upd (upd anf en (nI 0)) en (((upd anf en (nI 0)) en) ||| (((upd anf en (nI 0)) jy) ||| ((nI 1) <<< ((nI jy) &&& 31))))) en (((upd (upd anf en (nI 0)) en (((upd anf en (nI 0)) en) ||| (((upd anf en (nI 0)) jy) ||| ((nI 1) <<< ((nI jy) &&& 31))))) en) ||| (((upd (upd anf en (nI 0)) en (((upd anf en (nI 0)) en) ||| (((upd anf en (nI 0)) jy) ||| ((nI 1) <<< ((nI jy) &&& 31))))) jz) ||| ((nI 1) <<< ((nI jz) &&& 31))))))), (hm, .inr (12, [.ref ms, .ref mkp, .int (nI km), .ref mtr, .int (nI n), .int (nI k), .int (nI al), .int (nI be), .int ea, .int pr, .ref mas, .int nq, .int po, .int (nI (en + 1)), .ref mso, .ref mon, .ref mot, .ref man, .int (nI 0), .int xd, .ref mst, .ref msm, .ref mtb, .ref mti, .ref mfr, .ref mbn, .ref mbs, .ref mde, .int sF, .int sN, .int sS, .int ig, .long xa, .long xb, .ref maa, .ref mab, .ref mba, .ref mbb])), (ms, .inl (cs 0, 288, .inl f9)), (mso, .inl (cs 0, 16, .inl (upd sof en (nI x0))))] H := hP
                      replace hD : va_D A [(mon, .inl (cs 0, 16, .inl (upd onf en (nI jy)))), (mot, .inl (cs 0, 16, .inl (upd otf en (nI jz)))), (man, .inl (cs 0, 16, .inl (upd (upd (upd anf en (nI 0)) en (((upd anf en (nI 0)) en) ||| (((upd anf en (nI 0)) jy) ||| ((nI 1) <<< ((nI jy) &&& 31))))) en (((upd (upd anf en (nI 0)) en (((upd anf en (nI 0)) en) ||| (((upd anf en (nI 0)) jy) ||| ((nI 1) <<< ((nI jy) &&& 31))))) en) ||| (((upd (upd anf en (nI 0)) en (((upd anf en (nI 0)) en) ||| (((upd anf en (nI 0)) jy) ||| ((nI 1) <<< ((nI jy) &&& 31))))) jz) ||| ((nI 1) <<< ((nI jz) &&& 31))))))), (hm, .inr (12, [.ref ms, .ref mkp, .int (nI km), .ref mtr, .int (nI n), .int (nI k), .int (nI al), .int (nI be), .int ea, .int pr, .ref mas, .int nq, .int po, .int (nI (en + 1)), .ref mso, .ref mon, .ref mot, .ref man, .int (nI 0), .int xd, .ref mst, .ref msm, .ref mtb, .ref mti, .ref mfr, .ref mbn, .ref mbs, .ref mde, .int sF, .int sN, .int sS, .int ig, .long xa, .long xb, .ref maa, .ref mab, .ref mba, .ref mbb])), (ms, .inl (cs 0, 288, .inl f9)), (mso, .inl (cs 0, 16, .inl (upd sof en (nI x0))))] := hD
                      refine lv_if_lt (tgt := 231) hx hb dX12_entry_211 (by decide) (fun c_48 => ?_) (fun c_48 => ?_)
                      · -- 211 t
                        refine lv_iinc (v := nI (o + 1)) (lv' := [(5, .int (nI (o + 1))), (4, .int (nI en)), (0, .ref hm), (1, .int (nI x0)), (2, .int (nI jy)), (3, .int (nI jz))]) hx hb dX12_entry_231 hl (k := 0) rfl (nI_add o 1) (by decide) rfl ?_
                        clear hl
                        try clear ls
                        intro ls hl
                        refine lv_goto (tgt := 162) hx hb dX12_entry_234 (by decide) ?_
                        exact ih_loop_43 (o + 1) f9 (by omega) hs9 (entV_s (by omega) (by omega) (by omega) hv9 (Or.inr ⟨(Int32.not_lt.mpr c_45), rfl⟩) hw_r_46 (Or.inl ⟨c_48, rfl⟩)) (by omega) H locs ls (xP_map hP [3, 4, 5, 0, 1, 2] rfl) (hD.sub [3, 4, 5, 0, 1, 2] (by decide) rfl) hS (lv_sub hl [0, 1, 2, 3, 4, 5] rfl)
                      · -- 211 f
                        refine lv_aload_n hx hb dX12_entry_214 rfl (lv_at hl 2 rfl) ?_
                        refine xget C hP 3 rfl rfl zuX12 0 (by decide) zw5_213 rfl dX12_entry_215 ?_
                        refine lv_bipush (v := nI 88) hx hb dX12_entry_218 (by decide) ?_
                        refine lv_iload hx hb dX12_entry_220 (lv_at hl 0 rfl) ?_
                        refine lv_iadd hx hb dX12_entry_222 ?_
                        refine lv_topi (nm_r (e' := nI (88 + o)) (nI_add _ _) ?_)
                        refine lv_dup2_11 hx hb dX12_entry_223 rfl rfl ?_
                        refine xiald C hP 4 rfl (88 + o) rfl (by omega) (by decide) dX12_entry_224 ?_
                        refine lv_iconst (v := nI 1) hx hb dX12_entry_225 (by decide) ?_
                        refine lv_iload hx hb dX12_entry_226 (lv_at hl 1 rfl) ?_
                        refine lv_ishl hx hb dX12_entry_228 ?_
                        refine lv_ior hx hb dX12_entry_229 ?_
                        refine xiast C hP hD hS 4 rfl (88 + o) rfl (by omega) (by decide) dX12_entry_230 ?_
                        clear hP hD hS
                        try clear locs
                        try clear H
                        intro H locs hP hD hS
                        replace hP : va_P D vwCl [(mon, .inl (cs 0, 16, .inl (upd onf en (nI jy)))), (mot, .inl (cs 0, 16, .inl (upd otf en (nI jz)))), (man, .inl (cs 0, 16, .inl (upd (upd (upd anf en (nI 0)) en (((upd anf en (nI 0)) en) ||| (((upd anf en (nI 0)) jy) ||| ((nI 1) <<< ((nI jy) &&& 31))))) en (((upd (upd anf en (nI 0)) en (((upd anf en (nI 0)) en) ||| (((upd anf en (nI 0)) jy) ||| ((nI 1) <<< ((nI jy) &&& 31))))) en) ||| (((upd (upd anf en (nI 0)) en (((upd anf en (nI 0)) en) ||| (((upd anf en (nI 0)) jy) ||| ((nI 1) <<< ((nI jy) &&& 31))))) jz) ||| ((nI 1) <<< ((nI jz) &&& 31))))))), (hm, .inr (12, [.ref ms, .ref mkp, .int (nI km), .ref mtr, .int (nI n), .int (nI k), .int (nI al), .int (nI be), .int ea, .int pr, .ref mas, .int nq, .int po, .int (nI (en + 1)), .ref mso, .ref mon, .ref mot, .ref man, .int (nI 0), .int xd, .ref mst, .ref msm, .ref mtb, .ref mti, .ref mfr, .ref mbn, .ref mbs, .ref mde, .int sF, .int sN, .int sS, .int ig, .long xa, .long xb, .ref maa, .ref mab, .ref mba, .ref mbb])), (ms, .inl (cs 0, 288, .inl (upd f9 (88 + o) ((f9 (88 + o)) ||| ((nI 1) <<< ((nI en) &&& 31)))))), (mso, .inl (cs 0, 16, .inl (upd sof en (nI x0))))] H := hP
                        replace hD : va_D A [(mon, .inl (cs 0, 16, .inl (upd onf en (nI jy)))), (mot, .inl (cs 0, 16, .inl (upd otf en (nI jz)))), (man, .inl (cs 0, 16, .inl (upd (upd (upd anf en (nI 0)) en (((upd anf en (nI 0)) en) ||| (((upd anf en (nI 0)) jy) ||| ((nI 1) <<< ((nI jy) &&& 31))))) en (((upd (upd anf en (nI 0)) en (((upd anf en (nI 0)) en) ||| (((upd anf en (nI 0)) jy) ||| ((nI 1) <<< ((nI jy) &&& 31))))) en) ||| (((upd (upd anf en (nI 0)) en (((upd anf en (nI 0)) en) ||| (((upd anf en (nI 0)) jy) ||| ((nI 1) <<< ((nI jy) &&& 31))))) jz) ||| ((nI 1) <<< ((nI jz) &&& 31))))))), (hm, .inr (12, [.ref ms, .ref mkp, .int (nI km), .ref mtr, .int (nI n), .int (nI k), .int (nI al), .int (nI be), .int ea, .int pr, .ref mas, .int nq, .int po, .int (nI (en + 1)), .ref mso, .ref mon, .ref mot, .ref man, .int (nI 0), .int xd, .ref mst, .ref msm, .ref mtb, .ref mti, .ref mfr, .ref mbn, .ref mbs, .ref mde, .int sF, .int sN, .int sS, .int ig, .long xa, .long xb, .ref maa, .ref mab, .ref mba, .ref mbb])), (ms, .inl (cs 0, 288, .inl (upd f9 (88 + o) ((f9 (88 + o)) ||| ((nI 1) <<< ((nI en) &&& 31)))))), (mso, .inl (cs 0, 16, .inl (upd sof en (nI x0))))] := hD
                        refine lv_iinc (v := nI (o + 1)) (lv' := [(5, .int (nI (o + 1))), (4, .int (nI en)), (0, .ref hm), (1, .int (nI x0)), (2, .int (nI jy)), (3, .int (nI jz))]) hx hb dX12_entry_231 hl (k := 0) rfl (nI_add o 1) (by decide) rfl ?_
                        clear hl
                        try clear ls
                        intro ls hl
                        refine lv_goto (tgt := 162) hx hb dX12_entry_234 (by decide) ?_
                        exact ih_loop_43 (o + 1) (upd f9 (88 + o) ((f9 (88 + o)) ||| ((nI 1) <<< ((nI en) &&& 31)))) (by omega) (colP_hi (i := 88 + o) hs9 ((f9 (88 + o)) ||| ((nI 1) <<< ((nI en) &&& 31))) (by omega)) (entV_s (by omega) (by omega) (by omega) hv9 (Or.inr ⟨(Int32.not_lt.mpr c_45), rfl⟩) hw_r_46 (Or.inr ⟨c_48, rfl⟩)) (by omega) H locs ls (xP_map hP [3, 4, 5, 0, 1, 2] rfl) (hD.sub [3, 4, 5, 0, 1, 2] (by decide) rfl) hS (lv_sub hl [0, 1, 2, 3, 4, 5] rfl)
                    · -- 184 f
                      refine lv_aload_n hx hb dX12_entry_187 rfl (lv_at hl 2 rfl) ?_
                      refine xget C hP 0 rfl rfl zuX12 0 (by decide) zw5_213 rfl dX12_entry_188 ?_
                      refine lv_bipush (v := nI 96) hx hb dX12_entry_191 (by decide) ?_
                      refine lv_bipush (v := nI 8) hx hb dX12_entry_193 (by decide) ?_
                      refine lv_iload hx hb dX12_entry_195 (lv_at hl 0 rfl) ?_
                      refine lv_imul hx hb dX12_entry_197 ?_
                      refine lv_topi (nm_r (e' := nI (8 * o)) (pk_mul _ _) ?_)
                      refine lv_iadd hx hb dX12_entry_198 ?_
                      refine lv_topi (nm_r (e' := nI (96 + (8 * o))) (nI_add _ _) ?_)
                      refine lv_iload_n hx hb dX12_entry_199 rfl (lv_at hl 3 rfl) ?_
                      refine lv_iadd hx hb dX12_entry_200 ?_
                      refine lv_topi (nm_r (e' := nI ((96 + (8 * o)) + x0)) (nI_add _ _) ?_)
                      refine lv_iload hx hb dX12_entry_201 (lv_at hl 1 rfl) ?_
                      refine xiast C hP hD hS 1 rfl ((96 + (8 * o)) + x0) rfl (by omega) (by decide) dX12_entry_203 ?_
                      clear hP hD hS
                      try clear locs
                      try clear H
                      intro H locs hP hD hS
                      replace hP : va_P D vwCl [(hm, .inr (12, [.ref ms, .ref mkp, .int (nI km), .ref mtr, .int (nI n), .int (nI k), .int (nI al), .int (nI be), .int ea, .int pr, .ref mas, .int nq, .int po, .int (nI (en + 1)), .ref mso, .ref mon, .ref mot, .ref man, .int (nI 0), .int xd, .ref mst, .ref msm, .ref mtb, .ref mti, .ref mfr, .ref mbn, .ref mbs, .ref mde, .int sF, .int sN, .int sS, .int ig, .long xa, .long xb, .ref maa, .ref mab, .ref mba, .ref mbb])), (ms, .inl (cs 0, 288, .inl (upd f9 ((96 + (8 * o)) + x0) (nI en)))), (mso, .inl (cs 0, 16, .inl (upd sof en (nI x0)))), (mon, .inl (cs 0, 16, .inl (upd onf en (nI jy)))), (mot, .inl (cs 0, 16, .inl (upd otf en (nI jz)))), (man, .inl (cs 0, 16, .inl (upd (upd (upd anf en (nI 0)) en (((upd anf en (nI 0)) en) ||| (((upd anf en (nI 0)) jy) ||| ((nI 1) <<< ((nI jy) &&& 31))))) en (((upd (upd anf en (nI 0)) en (((upd anf en (nI 0)) en) ||| (((upd anf en (nI 0)) jy) ||| ((nI 1) <<< ((nI jy) &&& 31))))) en) ||| (((upd (upd anf en (nI 0)) en (((upd anf en (nI 0)) en) ||| (((upd anf en (nI 0)) jy) ||| ((nI 1) <<< ((nI jy) &&& 31))))) jz) ||| ((nI 1) <<< ((nI jz) &&& 31)))))))] H := hP
                      replace hD : va_D A [(hm, .inr (12, [.ref ms, .ref mkp, .int (nI km), .ref mtr, .int (nI n), .int (nI k), .int (nI al), .int (nI be), .int ea, .int pr, .ref mas, .int nq, .int po, .int (nI (en + 1)), .ref mso, .ref mon, .ref mot, .ref man, .int (nI 0), .int xd, .ref mst, .ref msm, .ref mtb, .ref mti, .ref mfr, .ref mbn, .ref mbs, .ref mde, .int sF, .int sN, .int sS, .int ig, .long xa, .long xb, .ref maa, .ref mab, .ref mba, .ref mbb])), (ms, .inl (cs 0, 288, .inl (upd f9 ((96 + (8 * o)) + x0) (nI en)))), (mso, .inl (cs 0, 16, .inl (upd sof en (nI x0)))), (mon, .inl (cs 0, 16, .inl (upd onf en (nI jy)))), (mot, .inl (cs 0, 16, .inl (upd otf en (nI jz)))), (man, .inl (cs 0, 16, .inl (upd (upd (upd anf en (nI 0)) en (((upd anf en (nI 0)) en) ||| (((upd anf en (nI 0)) jy) ||| ((nI 1) <<< ((nI jy) &&& 31))))) en (((upd (upd anf en (nI 0)) en (((upd anf en (nI 0)) en) ||| (((upd anf en (nI 0)) jy) ||| ((nI 1) <<< ((nI jy) &&& 31))))) en) ||| (((upd (upd anf en (nI 0)) en (((upd anf en (nI 0)) en) ||| (((upd anf en (nI 0)) jy) ||| ((nI 1) <<< ((nI jy) &&& 31))))) jz) ||| ((nI 1) <<< ((nI jz) &&& 31)))))))] := hD
                      refine lv_aload_n hx hb dX12_entry_204 rfl (lv_at hl 2 rfl) ?_
                      refine lv_iload hx hb dX12_entry_205 (lv_at hl 0 rfl) ?_
                      refine lv_iload_n hx hb dX12_entry_207 rfl (lv_at hl 3 rfl) ?_
                      refine xi (wr := [(mon, .inl (cs 0, 16, .inl (upd onf en (nI jy)))), (mot, .inl (cs 0, 16, .inl (upd otf en (nI jz)))), (man, .inl (cs 0, 16, .inl (upd (upd (upd anf en (nI 0)) en (((upd anf en (nI 0)) en) ||| (((upd anf en (nI 0)) jy) ||| ((nI 1) <<< ((nI jy) &&& 31))))) en (((upd (upd anf en (nI 0)) en (((upd anf en (nI 0)) en) ||| (((upd anf en (nI 0)) jy) ||| ((nI 1) <<< ((nI jy) &&& 31))))) en) ||| (((upd (upd anf en (nI 0)) en (((upd anf en (nI 0)) en) ||| (((upd anf en (nI 0)) jy) ||| ((nI 1) <<< ((nI jy) &&& 31))))) jz) ||| ((nI 1) <<< ((nI jz) &&& 31)))))))]) (xV (As := [.int (nI o), .int (nI x0)]) (rest := []) C (c_X12_acceptedOf_f l D cs hm ms mkp mtr mas mso mon mot man mst msm mtb mti mfr mbn mbs mde maa mab mba mbb n k al be km (en + 1) ea pr nq po (nI 0) xd sF sN sS ig xa xb (upd f9 ((96 + (8 * o)) + x0) (nI en)) o (nI x0) (upd sof en (nI x0)) (by omega) (by omega)) kX12_310 hP hD [0, 1, 2] rfl (by decide) 0 rfl rfl rfl ⟨Nat.le_of_ble_eq_true rfl, Nat.le_of_ble_eq_true rfl⟩ rfl hl.1 rfl (Nat.le_of_ble_eq_true rfl) dX12_entry_208 ⟨Nat.le_of_ble_eq_true rfl, Nat.le_of_ble_eq_true rfl⟩) hP hD hS hA [0, 1, 2] [3, 4, 5] rfl rfl (by decide) (by decide) ?_
                      clear hP hD hS
                      try clear locs
                      try clear H
                      intro r_49 u_50 H locs hw_r_49 hP hD hS
                      have hw_r_49 : accM (en + 1) (upd sof en (nI x0)) (upd f9 ((96 + (8 * o)) + x0) (nI en)) o (nI x0) r_49 := hw_r_49
                      refine W.widen (k := 0) (n := 0) (Nat.le_of_ble_eq_true rfl) (Nat.le_of_ble_eq_true rfl) ?_
                      replace hP : va_P D vwCl [(mon, .inl (cs 0, 16, .inl (upd onf en (nI jy)))), (mot, .inl (cs 0, 16, .inl (upd otf en (nI jz)))), (man, .inl (cs 0, 16, .inl (upd (upd (upd anf en (nI 0)) en (((upd anf en (nI 0)) en) ||| (((upd anf en (nI 0)) jy) ||| ((nI 1) <<< ((nI jy) &&& 31))))) en (((upd (upd anf en (nI 0)) en (((upd anf en (nI 0)) en) ||| (((upd anf en (nI 0)) jy) ||| ((nI 1) <<< ((nI jy) &&& 31))))) en) ||| (((upd (upd anf en (nI 0)) en (((upd anf en (nI 0)) en) ||| (((upd anf en (nI 0)) jy) ||| ((nI 1) <<< ((nI jy) &&& 31))))) jz) ||| ((nI 1) <<< ((nI jz) &&& 31))))))), (hm, .inr (12, [.ref ms, .ref mkp, .int (nI km), .ref mtr, .int (nI n), .int (nI k), .int (nI al), .int (nI be), .int ea, .int pr, .ref mas, .int nq, .int po, .int (nI (en + 1)), .ref mso, .ref mon, .ref mot, .ref man, .int (nI 0), .int xd, .ref mst, .ref msm, .ref mtb, .ref mti, .ref mfr, .ref mbn, .ref mbs, .ref mde, .int sF, .int sN, .int sS, .int ig, .long xa, .long xb, .ref maa, .ref mab, .ref mba, .ref mbb])), (ms, .inl (cs 0, 288, .inl (upd f9 ((96 + (8 * o)) + x0) (nI en)))), (mso, .inl (cs 0, 16, .inl (upd sof en (nI x0))))] H := hP
                      replace hD : va_D A [(mon, .inl (cs 0, 16, .inl (upd onf en (nI jy)))), (mot, .inl (cs 0, 16, .inl (upd otf en (nI jz)))), (man, .inl (cs 0, 16, .inl (upd (upd (upd anf en (nI 0)) en (((upd anf en (nI 0)) en) ||| (((upd anf en (nI 0)) jy) ||| ((nI 1) <<< ((nI jy) &&& 31))))) en (((upd (upd anf en (nI 0)) en (((upd anf en (nI 0)) en) ||| (((upd anf en (nI 0)) jy) ||| ((nI 1) <<< ((nI jy) &&& 31))))) en) ||| (((upd (upd anf en (nI 0)) en (((upd anf en (nI 0)) en) ||| (((upd anf en (nI 0)) jy) ||| ((nI 1) <<< ((nI jy) &&& 31))))) jz) ||| ((nI 1) <<< ((nI jz) &&& 31))))))), (hm, .inr (12, [.ref ms, .ref mkp, .int (nI km), .ref mtr, .int (nI n), .int (nI k), .int (nI al), .int (nI be), .int ea, .int pr, .ref mas, .int nq, .int po, .int (nI (en + 1)), .ref mso, .ref mon, .ref mot, .ref man, .int (nI 0), .int xd, .ref mst, .ref msm, .ref mtb, .ref mti, .ref mfr, .ref mbn, .ref mbs, .ref mde, .int sF, .int sN, .int sS, .int ig, .long xa, .long xb, .ref maa, .ref mab, .ref mba, .ref mbb])), (ms, .inl (cs 0, 288, .inl (upd f9 ((96 + (8 * o)) + x0) (nI en)))), (mso, .inl (cs 0, 16, .inl (upd sof en (nI x0))))] := hD
                      refine lv_if_lt (tgt := 231) hx hb dX12_entry_211 (by decide) (fun c_51 => ?_) (fun c_51 => ?_)
                      · -- 211 t
                        refine lv_iinc (v := nI (o + 1)) (lv' := [(5, .int (nI (o + 1))), (4, .int (nI en)), (0, .ref hm), (1, .int (nI x0)), (2, .int (nI jy)), (3, .int (nI jz))]) hx hb dX12_entry_231 hl (k := 0) rfl (nI_add o 1) (by decide) rfl ?_
                        clear hl
                        try clear ls
                        intro ls hl
                        refine lv_goto (tgt := 162) hx hb dX12_entry_234 (by decide) ?_
                        exact ih_loop_43 (o + 1) (upd f9 ((96 + (8 * o)) + x0) (nI en)) (by omega) (colP_hi (i := (96 + (8 * o)) + x0) hs9 (nI en) (by omega)) (entV_s (by omega) (by omega) (by omega) hv9 (Or.inl ⟨Int32.not_le.mp c_45, rfl⟩) hw_r_49 (Or.inl ⟨c_51, rfl⟩)) (by omega) H locs ls (xP_map hP [3, 4, 5, 0, 1, 2] rfl) (hD.sub [3, 4, 5, 0, 1, 2] (by decide) rfl) hS (lv_sub hl [0, 1, 2, 3, 4, 5] rfl)
                      · -- 211 f
                        refine lv_aload_n hx hb dX12_entry_214 rfl (lv_at hl 2 rfl) ?_
                        refine xget C hP 3 rfl rfl zuX12 0 (by decide) zw5_213 rfl dX12_entry_215 ?_
                        refine lv_bipush (v := nI 88) hx hb dX12_entry_218 (by decide) ?_
                        refine lv_iload hx hb dX12_entry_220 (lv_at hl 0 rfl) ?_
                        refine lv_iadd hx hb dX12_entry_222 ?_
                        refine lv_topi (nm_r (e' := nI (88 + o)) (nI_add _ _) ?_)
                        refine lv_dup2_11 hx hb dX12_entry_223 rfl rfl ?_
                        refine xiald C hP 4 rfl (88 + o) rfl (by omega) (by decide) dX12_entry_224 ?_
                        refine lv_iconst (v := nI 1) hx hb dX12_entry_225 (by decide) ?_
                        refine lv_iload hx hb dX12_entry_226 (lv_at hl 1 rfl) ?_
                        refine lv_ishl hx hb dX12_entry_228 ?_
                        refine lv_ior hx hb dX12_entry_229 ?_
                        refine xiast C hP hD hS 4 rfl (88 + o) rfl (by omega) (by decide) dX12_entry_230 ?_
                        clear hP hD hS
                        try clear locs
                        try clear H
                        intro H locs hP hD hS
                        replace hP : va_P D vwCl [(mon, .inl (cs 0, 16, .inl (upd onf en (nI jy)))), (mot, .inl (cs 0, 16, .inl (upd otf en (nI jz)))), (man, .inl (cs 0, 16, .inl (upd (upd (upd anf en (nI 0)) en (((upd anf en (nI 0)) en) ||| (((upd anf en (nI 0)) jy) ||| ((nI 1) <<< ((nI jy) &&& 31))))) en (((upd (upd anf en (nI 0)) en (((upd anf en (nI 0)) en) ||| (((upd anf en (nI 0)) jy) ||| ((nI 1) <<< ((nI jy) &&& 31))))) en) ||| (((upd (upd anf en (nI 0)) en (((upd anf en (nI 0)) en) ||| (((upd anf en (nI 0)) jy) ||| ((nI 1) <<< ((nI jy) &&& 31))))) jz) ||| ((nI 1) <<< ((nI jz) &&& 31))))))), (hm, .inr (12, [.ref ms, .ref mkp, .int (nI km), .ref mtr, .int (nI n), .int (nI k), .int (nI al), .int (nI be), .int ea, .int pr, .ref mas, .int nq, .int po, .int (nI (en + 1)), .ref mso, .ref mon, .ref mot, .ref man, .int (nI 0), .int xd, .ref mst, .ref msm, .ref mtb, .ref mti, .ref mfr, .ref mbn, .ref mbs, .ref mde, .int sF, .int sN, .int sS, .int ig, .long xa, .long xb, .ref maa, .ref mab, .ref mba, .ref mbb])), (ms, .inl (cs 0, 288, .inl (upd (upd f9 ((96 + (8 * o)) + x0) (nI en)) (88 + o) (((upd f9 ((96 + (8 * o)) + x0) (nI en)) (88 + o)) ||| ((nI 1) <<< ((nI en) &&& 31)))))), (mso, .inl (cs 0, 16, .inl (upd sof en (nI x0))))] H := hP
                        replace hD : va_D A [(mon, .inl (cs 0, 16, .inl (upd onf en (nI jy)))), (mot, .inl (cs 0, 16, .inl (upd otf en (nI jz)))), (man, .inl (cs 0, 16, .inl (upd (upd (upd anf en (nI 0)) en (((upd anf en (nI 0)) en) ||| (((upd anf en (nI 0)) jy) ||| ((nI 1) <<< ((nI jy) &&& 31))))) en (((upd (upd anf en (nI 0)) en (((upd anf en (nI 0)) en) ||| (((upd anf en (nI 0)) jy) ||| ((nI 1) <<< ((nI jy) &&& 31))))) en) ||| (((upd (upd anf en (nI 0)) en (((upd anf en (nI 0)) en) ||| (((upd anf en (nI 0)) jy) ||| ((nI 1) <<< ((nI jy) &&& 31))))) jz) ||| ((nI 1) <<< ((nI jz) &&& 31))))))), (hm, .inr (12, [.ref ms, .ref mkp, .int (nI km), .ref mtr, .int (nI n), .int (nI k), .int (nI al), .int (nI be), .int ea, .int pr, .ref mas, .int nq, .int po, .int (nI (en + 1)), .ref mso, .ref mon, .ref mot, .ref man, .int (nI 0), .int xd, .ref mst, .ref msm, .ref mtb, .ref mti, .ref mfr, .ref mbn, .ref mbs, .ref mde, .int sF, .int sN, .int sS, .int ig, .long xa, .long xb, .ref maa, .ref mab, .ref mba, .ref mbb])), (ms, .inl (cs 0, 288, .inl (upd (upd f9 ((96 + (8 * o)) + x0) (nI en)) (88 + o) (((upd f9 ((96 + (8 * o)) + x0) (nI en)) (88 + o)) ||| ((nI 1) <<< ((nI en) &&& 31)))))), (mso, .inl (cs 0, 16, .inl (upd sof en (nI x0))))] := hD
                        refine lv_iinc (v := nI (o + 1)) (lv' := [(5, .int (nI (o + 1))), (4, .int (nI en)), (0, .ref hm), (1, .int (nI x0)), (2, .int (nI jy)), (3, .int (nI jz))]) hx hb dX12_entry_231 hl (k := 0) rfl (nI_add o 1) (by decide) rfl ?_
                        clear hl
                        try clear ls
                        intro ls hl
                        refine lv_goto (tgt := 162) hx hb dX12_entry_234 (by decide) ?_
                        exact ih_loop_43 (o + 1) (upd (upd f9 ((96 + (8 * o)) + x0) (nI en)) (88 + o) (((upd f9 ((96 + (8 * o)) + x0) (nI en)) (88 + o)) ||| ((nI 1) <<< ((nI en) &&& 31)))) (by omega) (colP_hi (i := 88 + o) (colP_hi (i := (96 + (8 * o)) + x0) hs9 (nI en) (by omega)) (((upd f9 ((96 + (8 * o)) + x0) (nI en)) (88 + o)) ||| ((nI 1) <<< ((nI en) &&& 31))) (by omega)) (entV_s (by omega) (by omega) (by omega) hv9 (Or.inl ⟨Int32.not_le.mp c_45, rfl⟩) hw_r_49 (Or.inr ⟨c_51, rfl⟩)) (by omega) H locs ls (xP_map hP [3, 4, 5, 0, 1, 2] rfl) (hD.sub [3, 4, 5, 0, 1, 2] (by decide) rfl) hS (lv_sub hl [0, 1, 2, 3, 4, 5] rfl)
              exact loop_43 _ 0 f (by omega) hs (entV_0 _ _ _ _) (Nat.lt_succ_self _) H locs ls hP hD hS (lv_sub hl [0, 1, 2, 3, 4, 5] rfl)
            · -- 58 f
              have fc_42 : en = 16 := nf_eq (by omega) (by omega) c_42
              refine lv_iconst (v := (-1)) hx hb dX12_entry_61 (by decide) ?_
              exact xreti C (⟨en, km, f, sof, onf, otf, anf⟩) (⟨Or.inr ⟨fun q => by have z := q.2.2.2.2; omega, rfl⟩, ⟨hs, hen, hkm, hso, hon, hot⟩, Or.inr ⟨fun q => by have z := q.2.2.2.2; omega, rfl, rfl, rfl, rfl, rfl, rfl, rfl⟩⟩) hP hD hS (Nat.le_of_ble_eq_true rfl) (Nat.le_of_ble_eq_true rfl) rfl dX12_entry_62
