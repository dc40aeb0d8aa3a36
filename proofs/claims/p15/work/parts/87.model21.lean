set_option maxHeartbeats 4000000 in
set_option maxRecDepth 100000 in
theorem c_X12_chain (l : Launch) (D : va_G) (cs : Nat → ClassId) (hm ms mkp mtr mas mso mon mot man mst msm mtb mti mfr mbn mbs mde maa mab mba mbb : Nat) (n k al be km en : Nat) (ea pr nq po th xd sF sN sS ig : Int32) (xa xb : Int64) (aaf abf baf bbf : Nat → Int64) (x y : Int32) (hn : 2 ≤ n ∧ n ≤ 8) (hkn : 1 ≤ k ∧ k < n) (hal : 1 ≤ al ∧ al ≤ k) : xMet l D cs yX12_chain cX12_chain 3 (some .long) ({ frames := 5, cells := 0, slots := 0, locals := 121 } : Room) [.ref hm, .int x, .int y] [(hm, .inr (12, [.ref ms, .ref mkp, .int (nI km), .ref mtr, .int (nI n), .int (nI k), .int (nI al), .int (nI be), .int ea, .int pr, .ref mas, .int nq, .int po, .int (nI en), .ref mso, .ref mon, .ref mot, .ref man, .int th, .int xd, .ref mst, .ref msm, .ref mtb, .ref mti, .ref mfr, .ref mbn, .ref mbs, .ref mde, .int sF, .int sN, .int sS, .int ig, .long xa, .long xb, .ref maa, .ref mab, .ref mba, .ref mbb])), (maa, .inl (cs 1, 9, .inr (.inl aaf))), (mab, .inl (cs 1, 9, .inr (.inl abf))), (mba, .inl (cs 1, 9, .inr (.inl baf))), (mbb, .inl (cs 1, 9, .inr (.inl bbf)))] (xQl D (fun (r : Int64) (u : Int32 × Int64 × Int64 × (Nat → Int64) × (Nat → Int64) × (Nat → Int64) × (Nat → Int64)) => match u with | (igz, xaz, xbz, aaz, abz, baz, bbz) => True) (fun (u : Int32 × Int64 × Int64 × (Nat → Int64) × (Nat → Int64) × (Nat → Int64) × (Nat → Int64)) => match u with | (igz, xaz, xbz, aaz, abz, baz, bbz) => [(hm, .inr (12, [.ref ms, .ref mkp, .int (nI km), .ref mtr, .int (nI n), .int (nI k), .int (nI al), .int (nI be), .int ea, .int pr, .ref mas, .int nq, .int po, .int (nI en), .ref mso, .ref mon, .ref mot, .ref man, .int (nI 0), .int xd, .ref mst, .ref msm, .ref mtb, .ref mti, .ref mfr, .ref mbn, .ref mbs, .ref mde, .int sF, .int sN, .int sS, .int igz, .long xaz, .long xbz, .ref maa, .ref mab, .ref mba, .ref mbb])), (maa, .inl (cs 1, 9, .inr (.inl aaz))), (mab, .inl (cs 1, 9, .inr (.inl abz))), (mba, .inl (cs 1, 9, .inr (.inl baz))), (mbb, .inl (cs 1, 9, .inr (.inl bbz)))])) := by
  refine xMet.intro (by decide) (Nat.le_of_ble_eq_true rfl) ?_
  intro p e s m args below meth c A ls C hP hD hS hl
  have hx := C.1
  have hb := C.2.1
  have hz := C.2.2.2.2.1
  have hown := C.2.2.2.1
  have hA := C.2.2.2.2.2.2.2.2.2
  have hAO := C.2.2.2.2.2.2.2.2.1.2.2
  replace hl : lv_has ls 3 [(0, .ref hm), (1, .int x), (2, .int y)] := hl
  obtain ⟨H, hH⟩ : ∃ H, H = s.heap := ⟨_, rfl⟩
  replace hP : va_P D vwCl [(hm, .inr (12, [.ref ms, .ref mkp, .int (nI km), .ref mtr, .int (nI n), .int (nI k), .int (nI al), .int (nI be), .int ea, .int pr, .ref mas, .int nq, .int po, .int (nI en), .ref mso, .ref mon, .ref mot, .ref man, .int th, .int xd, .ref mst, .ref msm, .ref mtb, .ref mti, .ref mfr, .ref mbn, .ref mbs, .ref mde, .int sF, .int sN, .int sS, .int ig, .long xa, .long xb, .ref maa, .ref mab, .ref mba, .ref mbb])), (maa, .inl (cs 1, 9, .inr (.inl aaf))), (mab, .inl (cs 1, 9, .inr (.inl abf))), (mba, .inl (cs 1, 9, .inr (.inl baf))), (mbb, .inl (cs 1, 9, .inr (.inl bbf)))] H := by rw [hH]; exact hP
  replace hS : va_S A s.heap H [] := by rw [hH]; exact hS
  obtain ⟨locs, hlocs⟩ : ∃ z : List Loc, z = [] := ⟨_, rfl⟩
  rw [← hlocs] at hS
  suffices hW : W p l e ({ frames := 5, cells := 0, slots := 0, locals := 121 } : Room) s m args below meth c H locs 0 0 (MQ below ((xQl D (fun (r : Int64) (u : Int32 × Int64 × Int64 × (Nat → Int64) × (Nat → Int64) × (Nat → Int64) × (Nat → Int64)) => match u with | (igz, xaz, xbz, aaz, abz, baz, bbz) => True) (fun (u : Int32 × Int64 × Int64 × (Nat → Int64) × (Nat → Int64) × (Nat → Int64) × (Nat → Int64)) => match u with | (igz, xaz, xbz, aaz, abz, baz, bbz) => [(hm, .inr (12, [.ref ms, .ref mkp, .int (nI km), .ref mtr, .int (nI n), .int (nI k), .int (nI al), .int (nI be), .int ea, .int pr, .ref mas, .int nq, .int po, .int (nI en), .ref mso, .ref mon, .ref mot, .ref man, .int (nI 0), .int xd, .ref mst, .ref msm, .ref mtb, .ref mti, .ref mfr, .ref mbn, .ref mbs, .ref mde, .int sF, .int sN, .int sS, .int igz, .long xaz, .long xbz, .ref maa, .ref mab, .ref mba, .ref mbb])), (maa, .inl (cs 1, 9, .inr (.inl aaz))), (mab, .inl (cs 1, 9, .inr (.inl abz))), (mba, .inl (cs 1, 9, .inr (.inl baz))), (mbb, .inl (cs 1, 9, .inr (.inl bbz)))])) A) args s 0 0 A) (F0 m 0 ls []) by rw [hlocs, hH] at hW; exact hW
  clear hH hlocs
  refine lv_aload_n hx hb dX12_chain_0 rfl (lv_at hl 0 rfl) ?_
  refine lv_iconst (v := nI 0) hx hb dX12_chain_1 (by decide) ?_
  refine xput C hP hD hS 0 rfl rfl zuX12 tyX12 tyX12_ok nmX12 18 (by decide) zw5_231 rfl rfl rfl (Nat.le_of_ble_eq_true rfl) dX12_chain_2 ?_
  clear hP hD hS
  try clear locs
  try clear H
  intro H locs hP hD hS
  replace hP : va_P D vwCl [(hm, .inr (12, [.ref ms, .ref mkp, .int (nI km), .ref mtr, .int (nI n), .int (nI k), .int (nI al), .int (nI be), .int ea, .int pr, .ref mas, .int nq, .int po, .int (nI en), .ref mso, .ref mon, .ref mot, .ref man, .int (nI 0), .int xd, .ref mst, .ref msm, .ref mtb, .ref mti, .ref mfr, .ref mbn, .ref mbs, .ref mde, .int sF, .int sN, .int sS, .int ig, .long xa, .long xb, .ref maa, .ref mab, .ref mba, .ref mbb])), (maa, .inl (cs 1, 9, .inr (.inl aaf))), (mab, .inl (cs 1, 9, .inr (.inl abf))), (mba, .inl (cs 1, 9, .inr (.inl baf))), (mbb, .inl (cs 1, 9, .inr (.inl bbf)))] H := hP
  replace hD : va_D A [(hm, .inr (12, [.ref ms, .ref mkp, .int (nI km), .ref mtr, .int (nI n), .int (nI k), .int (nI al), .int (nI be), .int ea, .int pr, .ref mas, .int nq, .int po, .int (nI en), .ref mso, .ref mon, .ref mot, .ref man, .int (nI 0), .int xd, .ref mst, .ref msm, .ref mtb, .ref mti, .ref mfr, .ref mbn, .ref mbs, .ref mde, .int sF, .int sN, .int sS, .int ig, .long xa, .long xb, .ref maa, .ref mab, .ref mba, .ref mbb])), (maa, .inl (cs 1, 9, .inr (.inl aaf))), (mab, .inl (cs 1, 9, .inr (.inl abf))), (mba, .inl (cs 1, 9, .inr (.inl baf))), (mbb, .inl (cs 1, 9, .inr (.inl bbf)))] := hD
  refine lv_iload_n hx hb dX12_chain_5 rfl (lv_at hl 1 rfl) ?_
  refine lv_iconst (v := nI 0) hx hb dX12_chain_6 (by decide) ?_
  refine lv_aload_n hx hb dX12_chain_7 rfl (lv_at hl 0 rfl) ?_
  refine xget C hP 0 rfl rfl zuX12 4 (by decide) zw5_217 rfl dX12_chain_8 ?_
  refine xi (wr := [(hm, .inr (12, [.ref ms, .ref mkp, .int (nI km), .ref mtr, .int (nI n), .int (nI k), .int (nI al), .int (nI be), .int ea, .int pr, .ref mas, .int nq, .int po, .int (nI en), .ref mso, .ref mon, .ref mot, .ref man, .int (nI 0), .int xd, .ref mst, .ref msm, .ref mtb, .ref mti, .ref mfr, .ref mbn, .ref mbs, .ref mde, .int sF, .int sN, .int sS, .int ig, .long xa, .long xb, .ref maa, .ref mab, .ref mba, .ref mbb])), (maa, .inl (cs 1, 9, .inr (.inl aaf))), (mab, .inl (cs 1, 9, .inr (.inl abf))), (mba, .inl (cs 1, 9, .inr (.inl baf))), (mbb, .inl (cs 1, 9, .inr (.inl bbf)))]) (xS (As := [.int x, .int (nI 0), .int (nI n)]) (rest := []) C (c_X12_within l D cs x (nI 0) (nI n)) kX12_116 hP hD [] rfl (by decide +kernel) ⟨Nat.le_of_ble_eq_true rfl, Nat.le_of_ble_eq_true rfl⟩ rfl hl.1 rfl (Nat.le_of_ble_eq_true rfl) dX12_chain_11 ⟨Nat.le_of_ble_eq_true rfl, Nat.le_of_ble_eq_true rfl⟩) hP hD hS hA [] [0, 1, 2, 3, 4] rfl rfl (by decide +kernel) (by decide +kernel) ?_
  clear hP hD hS
  try clear locs
  try clear H
  intro r_1 u_2 H locs hw_r_1 hP hD hS
  have hw_r_1 : PQ (¬ x < (nI 0) ∧ x ≤ (nI n)) r_1 (nI 1) (nI 0) := hw_r_1
  refine W.widen (k := 0) (n := 0) (Nat.le_of_ble_eq_true rfl) (Nat.le_of_ble_eq_true rfl) ?_
  replace hP : va_P D vwCl [(hm, .inr (12, [.ref ms, .ref mkp, .int (nI km), .ref mtr, .int (nI n), .int (nI k), .int (nI al), .int (nI be), .int ea, .int pr, .ref mas, .int nq, .int po, .int (nI en), .ref mso, .ref mon, .ref mot, .ref man, .int (nI 0), .int xd, .ref mst, .ref msm, .ref mtb, .ref mti, .ref mfr, .ref mbn, .ref mbs, .ref mde, .int sF, .int sN, .int sS, .int ig, .long xa, .long xb, .ref maa, .ref mab, .ref mba, .ref mbb])), (maa, .inl (cs 1, 9, .inr (.inl aaf))), (mab, .inl (cs 1, 9, .inr (.inl abf))), (mba, .inl (cs 1, 9, .inr (.inl baf))), (mbb, .inl (cs 1, 9, .inr (.inl bbf)))] H := hP
  replace hD : va_D A [(hm, .inr (12, [.ref ms, .ref mkp, .int (nI km), .ref mtr, .int (nI n), .int (nI k), .int (nI al), .int (nI be), .int ea, .int pr, .ref mas, .int nq, .int po, .int (nI en), .ref mso, .ref mon, .ref mot, .ref man, .int (nI 0), .int xd, .ref mst, .ref msm, .ref mtb, .ref mti, .ref mfr, .ref mbn, .ref mbs, .ref mde, .int sF, .int sN, .int sS, .int ig, .long xa, .long xb, .ref maa, .ref mab, .ref mba, .ref mbb])), (maa, .inl (cs 1, 9, .inr (.inl aaf))), (mab, .inl (cs 1, 9, .inr (.inl abf))), (mba, .inl (cs 1, 9, .inr (.inl baf))), (mbb, .inl (cs 1, 9, .inr (.inl bbf)))] := hD
  refine lv_if_eq (tgt := 39) hx hb dX12_chain_14 (by decide) (fun c_3 => ?_) (fun c_3 => ?_)
  · -- 14 t
    refine lv_ldc2 (v := (-1)) hx hb hown (hz _ zw6_189) dX12_chain_39 ?_
    exact xretl C (⟨ig, xa, xb, aaf, abf, baf, bbf⟩) trivial hP hD hS (Nat.le_of_ble_eq_true rfl) (Nat.le_of_ble_eq_true rfl) dX12_chain_42
  · -- 14 f
    have hyx := PQ.yes hw_r_1 c_3
    obtain ⟨j, h_j, rfl⟩ : ∃ j : Nat, j ≤ n ∧ x = nI j := nI_of2 (M := nI n) (nI_toInt (by omega)) hyx.1 hyx.2
    replace hP : va_P D vwCl [(hm, .inr (12, [.ref ms, .ref mkp, .int (nI km), .ref mtr, .int (nI n), .int (nI k), .int (nI al), .int (nI be), .int ea, .int pr, .ref mas, .int nq, .int po, .int (nI en), .ref mso, .ref mon, .ref mot, .ref man, .int (nI 0), .int xd, .ref mst, .ref msm, .ref mtb, .ref mti, .ref mfr, .ref mbn, .ref mbs, .ref mde, .int sF, .int sN, .int sS, .int ig, .long xa, .long xb, .ref maa, .ref mab, .ref mba, .ref mbb])), (maa, .inl (cs 1, 9, .inr (.inl aaf))), (mab, .inl (cs 1, 9, .inr (.inl abf))), (mba, .inl (cs 1, 9, .inr (.inl baf))), (mbb, .inl (cs 1, 9, .inr (.inl bbf)))] H := hP
    replace hD : va_D A [(hm, .inr (12, [.ref ms, .ref mkp, .int (nI km), .ref mtr, .int (nI n), .int (nI k), .int (nI al), .int (nI be), .int ea, .int pr, .ref mas, .int nq, .int po, .int (nI en), .ref mso, .ref mon, .ref mot, .ref man, .int (nI 0), .int xd, .ref mst, .ref msm, .ref mtb, .ref mti, .ref mfr, .ref mbn, .ref mbs, .ref mde, .int sF, .int sN, .int sS, .int ig, .long xa, .long xb, .ref maa, .ref mab, .ref mba, .ref mbb])), (maa, .inl (cs 1, 9, .inr (.inl aaf))), (mab, .inl (cs 1, 9, .inr (.inl abf))), (mba, .inl (cs 1, 9, .inr (.inl baf))), (mbb, .inl (cs 1, 9, .inr (.inl bbf)))] := hD
    refine lv_iload_n hx hb dX12_chain_17 rfl (lv_at hl 2 rfl) ?_
    refine lv_iconst (v := nI 0) hx hb dX12_chain_18 (by decide) ?_
    refine lv_iconst (v := nI 3) hx hb dX12_chain_19 (by decide) ?_
    refine xi (wr := [(hm, .inr (12, [.ref ms, .ref mkp, .int (nI km), .ref mtr, .int (nI n), .int (nI k), .int (nI al), .int (nI be), .int ea, .int pr, .ref mas, .int nq, .int po, .int (nI en), .ref mso, .ref mon, .ref mot, .ref man, .int (nI 0), .int xd, .ref mst, .ref msm, .ref mtb, .ref mti, .ref mfr, .ref mbn, .ref mbs, .ref mde, .int sF, .int sN, .int sS, .int ig, .long xa, .long xb, .ref maa, .ref mab, .ref mba, .ref mbb])), (maa, .inl (cs 1, 9, .inr (.inl aaf))), (mab, .inl (cs 1, 9, .inr (.inl abf))), (mba, .inl (cs 1, 9, .inr (.inl baf))), (mbb, .inl (cs 1, 9, .inr (.inl bbf)))]) (xS (As := [.int y, .int (nI 0), .int (nI 3)]) (rest := []) C (c_X12_within l D cs y (nI 0) (nI 3)) kX12_116 hP hD [] rfl (by decide +kernel) ⟨Nat.le_of_ble_eq_true rfl, Nat.le_of_ble_eq_true rfl⟩ rfl hl.1 rfl (Nat.le_of_ble_eq_true rfl) dX12_chain_20 ⟨Nat.le_of_ble_eq_true rfl, Nat.le_of_ble_eq_true rfl⟩) hP hD hS hA [] [0, 1, 2, 3, 4] rfl rfl (by decide +kernel) (by decide +kernel) ?_
    clear hP hD hS
    try clear locs
    try clear H
    intro r_4 u_5 H locs hw_r_4 hP hD hS
    have hw_r_4 : PQ (¬ y < (nI 0) ∧ y ≤ (nI 3)) r_4 (nI 1) (nI 0) := hw_r_4
    refine W.widen (k := 0) (n := 0) (Nat.le_of_ble_eq_true rfl) (Nat.le_of_ble_eq_true rfl) ?_
    replace hP : va_P D vwCl [(hm, .inr (12, [.ref ms, .ref mkp, .int (nI km), .ref mtr, .int (nI n), .int (nI k), .int (nI al), .int (nI be), .int ea, .int pr, .ref mas, .int nq, .int po, .int (nI en), .ref mso, .ref mon, .ref mot, .ref man, .int (nI 0), .int xd, .ref mst, .ref msm, .ref mtb, .ref mti, .ref mfr, .ref mbn, .ref mbs, .ref mde, .int sF, .int sN, .int sS, .int ig, .long xa, .long xb, .ref maa, .ref mab, .ref mba, .ref mbb])), (maa, .inl (cs 1, 9, .inr (.inl aaf))), (mab, .inl (cs 1, 9, .inr (.inl abf))), (mba, .inl (cs 1, 9, .inr (.inl baf))), (mbb, .inl (cs 1, 9, .inr (.inl bbf)))] H := hP
    replace hD : va_D A [(hm, .inr (12, [.ref ms, .ref mkp, .int (nI km), .ref mtr, .int (nI n), .int (nI k), .int (nI al), .int (nI be), .int ea, .int pr, .ref mas, .int nq, .int po, .int (nI en), .ref mso, .ref mon, .ref mot, .ref man, .int (nI 0), .int xd, .ref mst, .ref msm, .ref mtb, .ref mti, .ref mfr, .ref mbn, .ref mbs, .ref mde, .int sF, .int sN, .int sS, .int ig, .long xa, .long xb, .ref maa, .ref mab, .ref mba, .ref mbb])), (maa, .inl (cs 1, 9, .inr (.inl aaf))), (mab, .inl (cs 1, 9, .inr (.inl abf))), (mba, .inl (cs 1, 9, .inr (.inl baf))), (mbb, .inl (cs 1, 9, .inr (.inl bbf)))] := hD
    refine lv_if_eq (tgt := 39) hx hb dX12_chain_23 (by decide) (fun c_6 => ?_) (fun c_6 => ?_)
    · -- 23 t
      refine lv_ldc2 (v := (-1)) hx hb hown (hz _ zw6_189) dX12_chain_39 ?_
      exact xretl C (⟨ig, xa, xb, aaf, abf, baf, bbf⟩) trivial hP hD hS (Nat.le_of_ble_eq_true rfl) (Nat.le_of_ble_eq_true rfl) dX12_chain_42
    · -- 23 f
      refine lv_iload_n hx hb dX12_chain_26 rfl (lv_at hl 2 rfl) ?_
      refine lv_iconst (v := nI 1) hx hb dX12_chain_27 (by decide) ?_
      refine lv_icmp_le (tgt := 43) hx hb dX12_chain_28 (by decide) (fun c_7 => ?_) (fun c_7 => ?_)
      · -- 28 t
        refine lv_aload_n hx hb dX12_chain_43 rfl (lv_at hl 0 rfl) ?_
        refine lv_iconst (v := nI 0) hx hb dX12_chain_44 (by decide) ?_
        refine xput C hP hD hS 0 rfl rfl zuX12 tyX12 tyX12_ok nmX12 31 (by decide) zw6_4 rfl rfl rfl (Nat.le_of_ble_eq_true rfl) dX12_chain_45 ?_
        clear hP hD hS
        try clear locs
        try clear H
        intro H locs hP hD hS
        replace hP : va_P D vwCl [(hm, .inr (12, [.ref ms, .ref mkp, .int (nI km), .ref mtr, .int (nI n), .int (nI k), .int (nI al), .int (nI be), .int ea, .int pr, .ref mas, .int nq, .int po, .int (nI en), .ref mso, .ref mon, .ref mot, .ref man, .int (nI 0), .int xd, .ref mst, .ref msm, .ref mtb, .ref mti, .ref mfr, .ref mbn, .ref mbs, .ref mde, .int sF, .int sN, .int sS, .int (nI 0), .long xa, .long xb, .ref maa, .ref mab, .ref mba, .ref mbb])), (maa, .inl (cs 1, 9, .inr (.inl aaf))), (mab, .inl (cs 1, 9, .inr (.inl abf))), (mba, .inl (cs 1, 9, .inr (.inl baf))), (mbb, .inl (cs 1, 9, .inr (.inl bbf)))] H := hP
        replace hD : va_D A [(hm, .inr (12, [.ref ms, .ref mkp, .int (nI km), .ref mtr, .int (nI n), .int (nI k), .int (nI al), .int (nI be), .int ea, .int pr, .ref mas, .int nq, .int po, .int (nI en), .ref mso, .ref mon, .ref mot, .ref man, .int (nI 0), .int xd, .ref mst, .ref msm, .ref mtb, .ref mti, .ref mfr, .ref mbn, .ref mbs, .ref mde, .int sF, .int sN, .int sS, .int (nI 0), .long xa, .long xb, .ref maa, .ref mab, .ref mba, .ref mbb])), (maa, .inl (cs 1, 9, .inr (.inl aaf))), (mab, .inl (cs 1, 9, .inr (.inl abf))), (mba, .inl (cs 1, 9, .inr (.inl baf))), (mbb, .inl (cs 1, 9, .inr (.inl bbf)))] := hD
        refine lv_aload_n hx hb dX12_chain_48 rfl (lv_at hl 0 rfl) ?_
        refine lv_iload_n hx hb dX12_chain_49 rfl (lv_at hl 2 rfl) ?_
        refine lv_iconst (v := nI 1) hx hb dX12_chain_50 (by decide) ?_
        refine lv_icmp_le (tgt := 58) hx hb dX12_chain_51 (by decide) (fun c_8 => ?_) (fun c_8 => ?_)
        · -- 51 t
          refine lv_iconst (v := nI 0) hx hb dX12_chain_58 (by decide) ?_
          refine xv (wr := []) (xV (As := [.int (nI 0)]) (rest := []) C (c_X12_laysSteps l D cs hm ms mkp mtr mas mso mon mot man mst msm mtb mti mfr mbn mbs mde maa mab mba mbb n k al be km en ea pr nq po (nI 0) xd sF sN sS (nI 0) xa xb aaf abf baf bbf (nI 0) hn hkn hal) kX12_302 hP hD [0, 1, 2, 3, 4] rfl (by decide +kernel) 0 rfl rfl rfl ⟨Nat.le_of_ble_eq_true rfl, Nat.le_of_ble_eq_true rfl⟩ rfl hl.1 rfl (Nat.le_of_ble_eq_true rfl) dX12_chain_59 ⟨Nat.le_of_ble_eq_true rfl, Nat.le_of_ble_eq_true rfl⟩) hP hD hS hA [0, 1, 2, 3, 4] [] rfl rfl (by decide +kernel) (by decide +kernel) ?_
          clear hP hD hS
          try clear locs
          try clear H
          intro u_10 H locs hw_r_9 hP hD hS
          obtain ⟨igz_11, xaz_12, xbz_13, aaz_14, abz_15, baz_16, bbz_17⟩ := u_10
          have hw_r_9 : gr igz_11 ∨ ∀ j, j < n → ¬ abz_15 j = 0 ∧ ¬ bbz_17 j = 0 := hw_r_9
          refine W.widen (k := 0) (n := 0) (Nat.le_of_ble_eq_true rfl) (Nat.le_of_ble_eq_true rfl) ?_
          replace hP : va_P D vwCl [(hm, .inr (12, [.ref ms, .ref mkp, .int (nI km), .ref mtr, .int (nI n), .int (nI k), .int (nI al), .int (nI be), .int ea, .int pr, .ref mas, .int nq, .int po, .int (nI en), .ref mso, .ref mon, .ref mot, .ref man, .int (nI 0), .int xd, .ref mst, .ref msm, .ref mtb, .ref mti, .ref mfr, .ref mbn, .ref mbs, .ref mde, .int sF, .int sN, .int sS, .int igz_11, .long xaz_12, .long xbz_13, .ref maa, .ref mab, .ref mba, .ref mbb])), (maa, .inl (cs 1, 9, .inr (.inl aaz_14))), (mab, .inl (cs 1, 9, .inr (.inl abz_15))), (mba, .inl (cs 1, 9, .inr (.inl baz_16))), (mbb, .inl (cs 1, 9, .inr (.inl bbz_17)))] H := hP
          replace hD : va_D A [(hm, .inr (12, [.ref ms, .ref mkp, .int (nI km), .ref mtr, .int (nI n), .int (nI k), .int (nI al), .int (nI be), .int ea, .int pr, .ref mas, .int nq, .int po, .int (nI en), .ref mso, .ref mon, .ref mot, .ref man, .int (nI 0), .int xd, .ref mst, .ref msm, .ref mtb, .ref mti, .ref mfr, .ref mbn, .ref mbs, .ref mde, .int sF, .int sN, .int sS, .int igz_11, .long xaz_12, .long xbz_13, .ref maa, .ref mab, .ref mba, .ref mbb])), (maa, .inl (cs 1, 9, .inr (.inl aaz_14))), (mab, .inl (cs 1, 9, .inr (.inl abz_15))), (mba, .inl (cs 1, 9, .inr (.inl baz_16))), (mbb, .inl (cs 1, 9, .inr (.inl bbz_17)))] := hD
          refine lv_aload_n hx hb dX12_chain_62 rfl (lv_at hl 0 rfl) ?_
          refine xget C hP 0 rfl rfl zuX12 31 (by decide) zw6_4 rfl dX12_chain_63 ?_
          refine lv_if_ne (tgt := 103) hx hb dX12_chain_66 (by decide) (fun c_18 => ?_) (fun c_18 => ?_)
          · -- 66 t
            refine lv_aload_n hx hb dX12_chain_103 rfl (lv_at hl 0 rfl) ?_
            refine xget C hP 0 rfl rfl zuX12 31 (by decide) zw6_4 rfl dX12_chain_104 ?_
            refine lv_if_eq (tgt := 114) hx hb dX12_chain_107 (by decide) (fun c_19 => ?_) (fun c_19 => ?_)
            · -- 107 t
              refine lv_iload_n hx hb dX12_chain_114 rfl (lv_at hl 2 rfl) ?_
              refine lv_iconst (v := nI 2) hx hb dX12_chain_115 (by decide) ?_
              refine lv_irem hx hb dX12_chain_116 (by decide) ?_
              refine lv_if_ne (tgt := 127) hx hb dX12_chain_117 (by decide) (fun c_20 => ?_) (fun c_20 => ?_)
              · -- 117 t
                refine lv_aload_n hx hb dX12_chain_127 rfl (lv_at hl 0 rfl) ?_
                refine xget C hP 0 rfl rfl zuX12 33 (by decide) zw6_6 rfl dX12_chain_128 ?_
                exact xretl C (⟨igz_11, xaz_12, xbz_13, aaz_14, abz_15, baz_16, bbz_17⟩) trivial hP hD hS (Nat.le_of_ble_eq_true rfl) (Nat.le_of_ble_eq_true rfl) dX12_chain_131
              · -- 117 f
                refine lv_aload_n hx hb dX12_chain_120 rfl (lv_at hl 0 rfl) ?_
                refine xget C hP 0 rfl rfl zuX12 32 (by decide) zw6_5 rfl dX12_chain_121 ?_
                refine lv_goto (tgt := 131) hx hb dX12_chain_124 (by decide) ?_
                exact xretl C (⟨igz_11, xaz_12, xbz_13, aaz_14, abz_15, baz_16, bbz_17⟩) trivial hP hD hS (Nat.le_of_ble_eq_true rfl) (Nat.le_of_ble_eq_true rfl) dX12_chain_131
            · -- 107 f
              refine lv_ldc2 (v := (-2)) hx hb hown (hz _ zw6_202) dX12_chain_110 ?_
              exact xretl C (⟨igz_11, xaz_12, xbz_13, aaz_14, abz_15, baz_16, bbz_17⟩) trivial hP hD hS (Nat.le_of_ble_eq_true rfl) (Nat.le_of_ble_eq_true rfl) dX12_chain_113
          · -- 66 f
            refine lv_aload_n hx hb dX12_chain_69 rfl (lv_at hl 0 rfl) ?_
            refine lv_iload_n hx hb dX12_chain_70 rfl (lv_at hl 1 rfl) ?_
            refine lv_iload_n hx hb dX12_chain_71 rfl (lv_at hl 2 rfl) ?_
            refine lv_iconst (v := nI 1) hx hb dX12_chain_72 (by decide) ?_
            refine lv_icmp_le (tgt := 80) hx hb dX12_chain_73 (by decide) (fun c_21 => ?_) (fun c_21 => ?_)
            · -- 73 t
              refine lv_lconst (v := 1) hx hb dX12_chain_80 (by decide) ?_
              refine xv (wr := []) (xV (As := [.int (nI j), .long 1]) (rest := []) C (c_X12_goesDown l D cs hm ms mkp mtr mas mso mon mot man mst msm mtb mti mfr mbn mbs mde maa mab mba mbb n k al be km en ea pr nq po (nI 0) xd sF sN sS igz_11 xaz_12 xbz_13 aaz_14 abz_15 baz_16 bbz_17 j 1 hn h_j (hw_r_9.resolve_left (fun g => g c_18))) kX12_306 hP hD [0, 1, 2, 3, 4] rfl (by decide +kernel) 0 rfl rfl rfl ⟨Nat.le_of_ble_eq_true rfl, Nat.le_of_ble_eq_true rfl⟩ rfl hl.1 rfl (Nat.le_of_ble_eq_true rfl) dX12_chain_81 ⟨Nat.le_of_ble_eq_true rfl, Nat.le_of_ble_eq_true rfl⟩) hP hD hS hA [0, 1, 2, 3, 4] [] rfl rfl (by decide +kernel) (by decide +kernel) ?_
              clear hP hD hS
              try clear locs
              try clear H
              intro u_23 H locs hw_r_22 hP hD hS
              obtain ⟨igz_24, xaz_25, xbz_26⟩ := u_23
              refine W.widen (k := 0) (n := 0) (Nat.le_of_ble_eq_true rfl) (Nat.le_of_ble_eq_true rfl) ?_
              replace hP : va_P D vwCl [(hm, .inr (12, [.ref ms, .ref mkp, .int (nI km), .ref mtr, .int (nI n), .int (nI k), .int (nI al), .int (nI be), .int ea, .int pr, .ref mas, .int nq, .int po, .int (nI en), .ref mso, .ref mon, .ref mot, .ref man, .int (nI 0), .int xd, .ref mst, .ref msm, .ref mtb, .ref mti, .ref mfr, .ref mbn, .ref mbs, .ref mde, .int sF, .int sN, .int sS, .int igz_24, .long xaz_25, .long xbz_26, .ref maa, .ref mab, .ref mba, .ref mbb])), (maa, .inl (cs 1, 9, .inr (.inl aaz_14))), (mab, .inl (cs 1, 9, .inr (.inl abz_15))), (mba, .inl (cs 1, 9, .inr (.inl baz_16))), (mbb, .inl (cs 1, 9, .inr (.inl bbz_17)))] H := hP
              replace hD : va_D A [(hm, .inr (12, [.ref ms, .ref mkp, .int (nI km), .ref mtr, .int (nI n), .int (nI k), .int (nI al), .int (nI be), .int ea, .int pr, .ref mas, .int nq, .int po, .int (nI en), .ref mso, .ref mon, .ref mot, .ref man, .int (nI 0), .int xd, .ref mst, .ref msm, .ref mtb, .ref mti, .ref mfr, .ref mbn, .ref mbs, .ref mde, .int sF, .int sN, .int sS, .int igz_24, .long xaz_25, .long xbz_26, .ref maa, .ref mab, .ref mba, .ref mbb])), (maa, .inl (cs 1, 9, .inr (.inl aaz_14))), (mab, .inl (cs 1, 9, .inr (.inl abz_15))), (mba, .inl (cs 1, 9, .inr (.inl baz_16))), (mbb, .inl (cs 1, 9, .inr (.inl bbz_17)))] := hD
              refine lv_iload_n hx hb dX12_chain_84 rfl (lv_at hl 2 rfl) ?_
              refine lv_iconst (v := nI 1) hx hb dX12_chain_85 (by decide) ?_
              refine lv_icmp_le (tgt := 103) hx hb dX12_chain_86 (by decide) (fun c_27 => ?_) (fun c_27 => ?_)
              · -- 86 t
                refine lv_aload_n hx hb dX12_chain_103 rfl (lv_at hl 0 rfl) ?_
                refine xget C hP 0 rfl rfl zuX12 31 (by decide) zw6_4 rfl dX12_chain_104 ?_
                refine lv_if_eq (tgt := 114) hx hb dX12_chain_107 (by decide) (fun c_28 => ?_) (fun c_28 => ?_)
                · -- 107 t
                  refine lv_iload_n hx hb dX12_chain_114 rfl (lv_at hl 2 rfl) ?_
                  refine lv_iconst (v := nI 2) hx hb dX12_chain_115 (by decide) ?_
                  refine lv_irem hx hb dX12_chain_116 (by decide) ?_
                  refine lv_if_ne (tgt := 127) hx hb dX12_chain_117 (by decide) (fun c_29 => ?_) (fun c_29 => ?_)
                  · -- 117 t
                    refine lv_aload_n hx hb dX12_chain_127 rfl (lv_at hl 0 rfl) ?_
                    refine xget C hP 0 rfl rfl zuX12 33 (by decide) zw6_6 rfl dX12_chain_128 ?_
                    exact xretl C (⟨igz_24, xaz_25, xbz_26, aaz_14, abz_15, baz_16, bbz_17⟩) trivial hP hD hS (Nat.le_of_ble_eq_true rfl) (Nat.le_of_ble_eq_true rfl) dX12_chain_131
                  · -- 117 f
                    refine lv_aload_n hx hb dX12_chain_120 rfl (lv_at hl 0 rfl) ?_
                    refine xget C hP 0 rfl rfl zuX12 32 (by decide) zw6_5 rfl dX12_chain_121 ?_
                    refine lv_goto (tgt := 131) hx hb dX12_chain_124 (by decide) ?_
                    exact xretl C (⟨igz_24, xaz_25, xbz_26, aaz_14, abz_15, baz_16, bbz_17⟩) trivial hP hD hS (Nat.le_of_ble_eq_true rfl) (Nat.le_of_ble_eq_true rfl) dX12_chain_131
                · -- 107 f
                  refine lv_ldc2 (v := (-2)) hx hb hown (hz _ zw6_202) dX12_chain_110 ?_
                  exact xretl C (⟨igz_24, xaz_25, xbz_26, aaz_14, abz_15, baz_16, bbz_17⟩) trivial hP hD hS (Nat.le_of_ble_eq_true rfl) (Nat.le_of_ble_eq_true rfl) dX12_chain_113
              · -- 86 f
                refine lv_iload_n hx hb dX12_chain_89 rfl (lv_at hl 1 rfl) ?_
                refine lv_if_ne (tgt := 103) hx hb dX12_chain_90 (by decide) (fun c_30 => ?_) (fun c_30 => ?_)
                · -- 90 t
                  have fc_30 : j ≠ 0 := nf_ne (by omega) (by omega) c_30
                  refine lv_aload_n hx hb dX12_chain_103 rfl (lv_at hl 0 rfl) ?_
                  refine xget C hP 0 rfl rfl zuX12 31 (by decide) zw6_4 rfl dX12_chain_104 ?_
                  refine lv_if_eq (tgt := 114) hx hb dX12_chain_107 (by decide) (fun c_31 => ?_) (fun c_31 => ?_)
                  · -- 107 t
                    refine lv_iload_n hx hb dX12_chain_114 rfl (lv_at hl 2 rfl) ?_
                    refine lv_iconst (v := nI 2) hx hb dX12_chain_115 (by decide) ?_
                    refine lv_irem hx hb dX12_chain_116 (by decide) ?_
                    refine lv_if_ne (tgt := 127) hx hb dX12_chain_117 (by decide) (fun c_32 => ?_) (fun c_32 => ?_)
                    · -- 117 t
                      refine lv_aload_n hx hb dX12_chain_127 rfl (lv_at hl 0 rfl) ?_
                      refine xget C hP 0 rfl rfl zuX12 33 (by decide) zw6_6 rfl dX12_chain_128 ?_
                      exact xretl C (⟨igz_24, xaz_25, xbz_26, aaz_14, abz_15, baz_16, bbz_17⟩) trivial hP hD hS (Nat.le_of_ble_eq_true rfl) (Nat.le_of_ble_eq_true rfl) dX12_chain_131
                    · -- 117 f
                      refine lv_aload_n hx hb dX12_chain_120 rfl (lv_at hl 0 rfl) ?_
                      refine xget C hP 0 rfl rfl zuX12 32 (by decide) zw6_5 rfl dX12_chain_121 ?_
                      refine lv_goto (tgt := 131) hx hb dX12_chain_124 (by decide) ?_
                      exact xretl C (⟨igz_24, xaz_25, xbz_26, aaz_14, abz_15, baz_16, bbz_17⟩) trivial hP hD hS (Nat.le_of_ble_eq_true rfl) (Nat.le_of_ble_eq_true rfl) dX12_chain_131
                  · -- 107 f
                    refine lv_ldc2 (v := (-2)) hx hb hown (hz _ zw6_202) dX12_chain_110 ?_
                    exact xretl C (⟨igz_24, xaz_25, xbz_26, aaz_14, abz_15, baz_16, bbz_17⟩) trivial hP hD hS (Nat.le_of_ble_eq_true rfl) (Nat.le_of_ble_eq_true rfl) dX12_chain_113
                · -- 90 f
                  have fc_30 : j = 0 := nf_eq (by omega) (by omega) c_30
                  refine lv_aload_n hx hb dX12_chain_93 rfl (lv_at hl 0 rfl) ?_
                  refine lv_lconst (v := 0) hx hb dX12_chain_94 (by decide) ?_
                  refine xput C hP hD hS 0 rfl rfl zuX12 tyX12 tyX12_ok nmX12 32 (by decide) zw6_5 rfl rfl rfl (Nat.le_of_ble_eq_true rfl) dX12_chain_95 ?_
                  clear hP hD hS
                  try clear locs
                  try clear H
                  intro H locs hP hD hS
                  replace hP : va_P D vwCl [(hm, .inr (12, [.ref ms, .ref mkp, .int (nI km), .ref mtr, .int (nI n), .int (nI k), .int (nI al), .int (nI be), .int ea, .int pr, .ref mas, .int nq, .int po, .int (nI en), .ref mso, .ref mon, .ref mot, .ref man, .int (nI 0), .int xd, .ref mst, .ref msm, .ref mtb, .ref mti, .ref mfr, .ref mbn, .ref mbs, .ref mde, .int sF, .int sN, .int sS, .int igz_24, .long 0, .long xbz_26, .ref maa, .ref mab, .ref mba, .ref mbb])), (maa, .inl (cs 1, 9, .inr (.inl aaz_14))), (mab, .inl (cs 1, 9, .inr (.inl abz_15))), (mba, .inl (cs 1, 9, .inr (.inl baz_16))), (mbb, .inl (cs 1, 9, .inr (.inl bbz_17)))] H := hP
                  replace hD : va_D A [(hm, .inr (12, [.ref ms, .ref mkp, .int (nI km), .ref mtr, .int (nI n), .int (nI k), .int (nI al), .int (nI be), .int ea, .int pr, .ref mas, .int nq, .int po, .int (nI en), .ref mso, .ref mon, .ref mot, .ref man, .int (nI 0), .int xd, .ref mst, .ref msm, .ref mtb, .ref mti, .ref mfr, .ref mbn, .ref mbs, .ref mde, .int sF, .int sN, .int sS, .int igz_24, .long 0, .long xbz_26, .ref maa, .ref mab, .ref mba, .ref mbb])), (maa, .inl (cs 1, 9, .inr (.inl aaz_14))), (mab, .inl (cs 1, 9, .inr (.inl abz_15))), (mba, .inl (cs 1, 9, .inr (.inl baz_16))), (mbb, .inl (cs 1, 9, .inr (.inl bbz_17)))] := hD
                  refine lv_aload_n hx hb dX12_chain_98 rfl (lv_at hl 0 rfl) ?_
                  refine lv_lconst (v := 1) hx hb dX12_chain_99 (by decide) ?_
                  refine xput C hP hD hS 0 rfl rfl zuX12 tyX12 tyX12_ok nmX12 33 (by decide) zw6_6 rfl rfl rfl (Nat.le_of_ble_eq_true rfl) dX12_chain_100 ?_
                  clear hP hD hS
                  try clear locs
                  try clear H
                  intro H locs hP hD hS
                  replace hP : va_P D vwCl [(hm, .inr (12, [.ref ms, .ref mkp, .int (nI km), .ref mtr, .int (nI n), .int (nI k), .int (nI al), .int (nI be), .int ea, .int pr, .ref mas, .int nq, .int po, .int (nI en), .ref mso, .ref mon, .ref mot, .ref man, .int (nI 0), .int xd, .ref mst, .ref msm, .ref mtb, .ref mti, .ref mfr, .ref mbn, .ref mbs, .ref mde, .int sF, .int sN, .int sS, .int igz_24, .long 0, .long 1, .ref maa, .ref mab, .ref mba, .ref mbb])), (maa, .inl (cs 1, 9, .inr (.inl aaz_14))), (mab, .inl (cs 1, 9, .inr (.inl abz_15))), (mba, .inl (cs 1, 9, .inr (.inl baz_16))), (mbb, .inl (cs 1, 9, .inr (.inl bbz_17)))] H := hP
                  replace hD : va_D A [(hm, .inr (12, [.ref ms, .ref mkp, .int (nI km), .ref mtr, .int (nI n), .int (nI k), .int (nI al), .int (nI be), .int ea, .int pr, .ref mas, .int nq, .int po, .int (nI en), .ref mso, .ref mon, .ref mot, .ref man, .int (nI 0), .int xd, .ref mst, .ref msm, .ref mtb, .ref mti, .ref mfr, .ref mbn, .ref mbs, .ref mde, .int sF, .int sN, .int sS, .int igz_24, .long 0, .long 1, .ref maa, .ref mab, .ref mba, .ref mbb])), (maa, .inl (cs 1, 9, .inr (.inl aaz_14))), (mab, .inl (cs 1, 9, .inr (.inl abz_15))), (mba, .inl (cs 1, 9, .inr (.inl baz_16))), (mbb, .inl (cs 1, 9, .inr (.inl bbz_17)))] := hD
                  refine lv_aload_n hx hb dX12_chain_103 rfl (lv_at hl 0 rfl) ?_
                  refine xget C hP 0 rfl rfl zuX12 31 (by decide) zw6_4 rfl dX12_chain_104 ?_
                  refine lv_if_eq (tgt := 114) hx hb dX12_chain_107 (by decide) (fun c_33 => ?_) (fun c_33 => ?_)
                  · -- 107 t
                    refine lv_iload_n hx hb dX12_chain_114 rfl (lv_at hl 2 rfl) ?_
                    refine lv_iconst (v := nI 2) hx hb dX12_chain_115 (by decide) ?_
                    refine lv_irem hx hb dX12_chain_116 (by decide) ?_
                    refine lv_if_ne (tgt := 127) hx hb dX12_chain_117 (by decide) (fun c_34 => ?_) (fun c_34 => ?_)
                    · -- 117 t
                      refine lv_aload_n hx hb dX12_chain_127 rfl (lv_at hl 0 rfl) ?_
                      refine xget C hP 0 rfl rfl zuX12 33 (by decide) zw6_6 rfl dX12_chain_128 ?_
                      exact xretl C (⟨igz_24, 0, 1, aaz_14, abz_15, baz_16, bbz_17⟩) trivial hP hD hS (Nat.le_of_ble_eq_true rfl) (Nat.le_of_ble_eq_true rfl) dX12_chain_131
                    · -- 117 f
                      refine lv_aload_n hx hb dX12_chain_120 rfl (lv_at hl 0 rfl) ?_
                      refine xget C hP 0 rfl rfl zuX12 32 (by decide) zw6_5 rfl dX12_chain_121 ?_
                      refine lv_goto (tgt := 131) hx hb dX12_chain_124 (by decide) ?_
                      exact xretl C (⟨igz_24, 0, 1, aaz_14, abz_15, baz_16, bbz_17⟩) trivial hP hD hS (Nat.le_of_ble_eq_true rfl) (Nat.le_of_ble_eq_true rfl) dX12_chain_131
                  · -- 107 f
                    refine lv_ldc2 (v := (-2)) hx hb hown (hz _ zw6_202) dX12_chain_110 ?_
                    exact xretl C (⟨igz_24, 0, 1, aaz_14, abz_15, baz_16, bbz_17⟩) trivial hP hD hS (Nat.le_of_ble_eq_true rfl) (Nat.le_of_ble_eq_true rfl) dX12_chain_113
            · -- 73 f
              refine lv_lconst (v := 0) hx hb dX12_chain_76 (by decide) ?_
              refine lv_goto (tgt := 81) hx hb dX12_chain_77 (by decide) ?_
              refine xv (wr := []) (xV (As := [.int (nI j), .long 0]) (rest := []) C (c_X12_goesDown l D cs hm ms mkp mtr mas mso mon mot man mst msm mtb mti mfr mbn mbs mde maa mab mba mbb n k al be km en ea pr nq po (nI 0) xd sF sN sS igz_11 xaz_12 xbz_13 aaz_14 abz_15 baz_16 bbz_17 j 0 hn h_j (hw_r_9.resolve_left (fun g => g c_18))) kX12_306 hP hD [0, 1, 2, 3, 4] rfl (by decide +kernel) 0 rfl rfl rfl ⟨Nat.le_of_ble_eq_true rfl, Nat.le_of_ble_eq_true rfl⟩ rfl hl.1 rfl (Nat.le_of_ble_eq_true rfl) dX12_chain_81 ⟨Nat.le_of_ble_eq_true rfl, Nat.le_of_ble_eq_true rfl⟩) hP hD hS hA [0, 1, 2, 3, 4] [] rfl rfl (by decide +kernel) (by decide +kernel) ?_
              clear hP hD hS
              try clear locs
              try clear H
              intro u_36 H locs hw_r_35 hP hD hS
              obtain ⟨igz_37, xaz_38, xbz_39⟩ := u_36
              refine W.widen (k := 0) (n := 0) (Nat.le_of_ble_eq_true rfl) (Nat.le_of_ble_eq_true rfl) ?_
              replace hP : va_P D vwCl [(hm, .inr (12, [.ref ms, .ref mkp, .int (nI km), .ref mtr, .int (nI n), .int (nI k), .int (nI al), .int (nI be), .int ea, .int pr, .ref mas, .int nq, .int po, .int (nI en), .ref mso, .ref mon, .ref mot, .ref man, .int (nI 0), .int xd, .ref mst, .ref msm, .ref mtb, .ref mti, .ref mfr, .ref mbn, .ref mbs, .ref mde, .int sF, .int sN, .int sS, .int igz_37, .long xaz_38, .long xbz_39, .ref maa, .ref mab, .ref mba, .ref mbb])), (maa, .inl (cs 1, 9, .inr (.inl aaz_14))), (mab, .inl (cs 1, 9, .inr (.inl abz_15))), (mba, .inl (cs 1, 9, .inr (.inl baz_16))), (mbb, .inl (cs 1, 9, .inr (.inl bbz_17)))] H := hP
              replace hD : va_D A [(hm, .inr (12, [.ref ms, .ref mkp, .int (nI km), .ref mtr, .int (nI n), .int (nI k), .int (nI al), .int (nI be), .int ea, .int pr, .ref mas, .int nq, .int po, .int (nI en), .ref mso, .ref mon, .ref mot, .ref man, .int (nI 0), .int xd, .ref mst, .ref msm, .ref mtb, .ref mti, .ref mfr, .ref mbn, .ref mbs, .ref mde, .int sF, .int sN, .int sS, .int igz_37, .long xaz_38, .long xbz_39, .ref maa, .ref mab, .ref mba, .ref mbb])), (maa, .inl (cs 1, 9, .inr (.inl aaz_14))), (mab, .inl (cs 1, 9, .inr (.inl abz_15))), (mba, .inl (cs 1, 9, .inr (.inl baz_16))), (mbb, .inl (cs 1, 9, .inr (.inl bbz_17)))] := hD
              refine lv_iload_n hx hb dX12_chain_84 rfl (lv_at hl 2 rfl) ?_
              refine lv_iconst (v := nI 1) hx hb dX12_chain_85 (by decide) ?_
              refine lv_icmp_le (tgt := 103) hx hb dX12_chain_86 (by decide) (fun c_40 => ?_) (fun c_40 => ?_)
              · -- 86 t
                refine lv_aload_n hx hb dX12_chain_103 rfl (lv_at hl 0 rfl) ?_
                refine xget C hP 0 rfl rfl zuX12 31 (by decide) zw6_4 rfl dX12_chain_104 ?_
                refine lv_if_eq (tgt := 114) hx hb dX12_chain_107 (by decide) (fun c_41 => ?_) (fun c_41 => ?_)
                · -- 107 t
                  refine lv_iload_n hx hb dX12_chain_114 rfl (lv_at hl 2 rfl) ?_
                  refine lv_iconst (v := nI 2) hx hb dX12_chain_115 (by decide) ?_
                  refine lv_irem hx hb dX12_chain_116 (by decide) ?_
                  refine lv_if_ne (tgt := 127) hx hb dX12_chain_117 (by decide) (fun c_42 => ?_) (fun c_42 => ?_)
                  · -- 117 t
                    refine lv_aload_n hx hb dX12_chain_127 rfl (lv_at hl 0 rfl) ?_
                    refine xget C hP 0 rfl rfl zuX12 33 (by decide) zw6_6 rfl dX12_chain_128 ?_
                    exact xretl C (⟨igz_37, xaz_38, xbz_39, aaz_14, abz_15, baz_16, bbz_17⟩) trivial hP hD hS (Nat.le_of_ble_eq_true rfl) (Nat.le_of_ble_eq_true rfl) dX12_chain_131
                  · -- 117 f
                    refine lv_aload_n hx hb dX12_chain_120 rfl (lv_at hl 0 rfl) ?_
                    refine xget C hP 0 rfl rfl zuX12 32 (by decide) zw6_5 rfl dX12_chain_121 ?_
                    refine lv_goto (tgt := 131) hx hb dX12_chain_124 (by decide) ?_
                    exact xretl C (⟨igz_37, xaz_38, xbz_39, aaz_14, abz_15, baz_16, bbz_17⟩) trivial hP hD hS (Nat.le_of_ble_eq_true rfl) (Nat.le_of_ble_eq_true rfl) dX12_chain_131
                · -- 107 f
                  refine lv_ldc2 (v := (-2)) hx hb hown (hz _ zw6_202) dX12_chain_110 ?_
                  exact xretl C (⟨igz_37, xaz_38, xbz_39, aaz_14, abz_15, baz_16, bbz_17⟩) trivial hP hD hS (Nat.le_of_ble_eq_true rfl) (Nat.le_of_ble_eq_true rfl) dX12_chain_113
              · -- 86 f
                refine lv_iload_n hx hb dX12_chain_89 rfl (lv_at hl 1 rfl) ?_
                refine lv_if_ne (tgt := 103) hx hb dX12_chain_90 (by decide) (fun c_43 => ?_) (fun c_43 => ?_)
                · -- 90 t
                  have fc_43 : j ≠ 0 := nf_ne (by omega) (by omega) c_43
                  refine lv_aload_n hx hb dX12_chain_103 rfl (lv_at hl 0 rfl) ?_
                  refine xget C hP 0 rfl rfl zuX12 31 (by decide) zw6_4 rfl dX12_chain_104 ?_
                  refine lv_if_eq (tgt := 114) hx hb dX12_chain_107 (by decide) (fun c_44 => ?_) (fun c_44 => ?_)
                  · -- 107 t
                    refine lv_iload_n hx hb dX12_chain_114 rfl (lv_at hl 2 rfl) ?_
                    refine lv_iconst (v := nI 2) hx hb dX12_chain_115 (by decide) ?_
                    refine lv_irem hx hb dX12_chain_116 (by decide) ?_
                    refine lv_if_ne (tgt := 127) hx hb dX12_chain_117 (by decide) (fun c_45 => ?_) (fun c_45 => ?_)
                    · -- 117 t
                      refine lv_aload_n hx hb dX12_chain_127 rfl (lv_at hl 0 rfl) ?_
                      refine xget C hP 0 rfl rfl zuX12 33 (by decide) zw6_6 rfl dX12_chain_128 ?_
                      exact xretl C (⟨igz_37, xaz_38, xbz_39, aaz_14, abz_15, baz_16, bbz_17⟩) trivial hP hD hS (Nat.le_of_ble_eq_true rfl) (Nat.le_of_ble_eq_true rfl) dX12_chain_131
                    · -- 117 f
                      refine lv_aload_n hx hb dX12_chain_120 rfl (lv_at hl 0 rfl) ?_
                      refine xget C hP 0 rfl rfl zuX12 32 (by decide) zw6_5 rfl dX12_chain_121 ?_
                      refine lv_goto (tgt := 131) hx hb dX12_chain_124 (by decide) ?_
                      exact xretl C (⟨igz_37, xaz_38, xbz_39, aaz_14, abz_15, baz_16, bbz_17⟩) trivial hP hD hS (Nat.le_of_ble_eq_true rfl) (Nat.le_of_ble_eq_true rfl) dX12_chain_131
                  · -- 107 f
                    refine lv_ldc2 (v := (-2)) hx hb hown (hz _ zw6_202) dX12_chain_110 ?_
                    exact xretl C (⟨igz_37, xaz_38, xbz_39, aaz_14, abz_15, baz_16, bbz_17⟩) trivial hP hD hS (Nat.le_of_ble_eq_true rfl) (Nat.le_of_ble_eq_true rfl) dX12_chain_113
                · -- 90 f
                  have fc_43 : j = 0 := nf_eq (by omega) (by omega) c_43
                  refine lv_aload_n hx hb dX12_chain_93 rfl (lv_at hl 0 rfl) ?_
                  refine lv_lconst (v := 0) hx hb dX12_chain_94 (by decide) ?_
                  refine xput C hP hD hS 0 rfl rfl zuX12 tyX12 tyX12_ok nmX12 32 (by decide) zw6_5 rfl rfl rfl (Nat.le_of_ble_eq_true rfl) dX12_chain_95 ?_
                  clear hP hD hS
                  try clear locs
                  try clear H
                  intro H locs hP hD hS
                  replace hP : va_P D vwCl [(hm, .inr (12, [.ref ms, .ref mkp, .int (nI km), .ref mtr, .int (nI n), .int (nI k), .int (nI al), .int (nI be), .int ea, .int pr, .ref mas, .int nq, .int po, .int (nI en), .ref mso, .ref mon, .ref mot, .ref man, .int (nI 0), .int xd, .ref mst, .ref msm, .ref mtb, .ref mti, .ref mfr, .ref mbn, .ref mbs, .ref mde, .int sF, .int sN, .int sS, .int igz_37, .long 0, .long xbz_39, .ref maa, .ref mab, .ref mba, .ref mbb])), (maa, .inl (cs 1, 9, .inr (.inl aaz_14))), (mab, .inl (cs 1, 9, .inr (.inl abz_15))), (mba, .inl (cs 1, 9, .inr (.inl baz_16))), (mbb, .inl (cs 1, 9, .inr (.inl bbz_17)))] H := hP
                  replace hD : va_D A [(hm, .inr (12, [.ref ms, .ref mkp, .int (nI km), .ref mtr, .int (nI n), .int (nI k), .int (nI al), .int (nI be), .int ea, .int pr, .ref mas, .int nq, .int po, .int (nI en), .ref mso, .ref mon, .ref mot, .ref man, .int (nI 0), .int xd, .ref mst, .ref msm, .ref mtb, .ref mti, .ref mfr, .ref mbn, .ref mbs, .ref mde, .int sF, .int sN, .int sS, .int igz_37, .long 0, .long xbz_39, .ref maa, .ref mab, .ref mba, .ref mbb])), (maa, .inl (cs 1, 9, .inr (.inl aaz_14))), (mab, .inl (cs 1, 9, .inr (.inl abz_15))), (mba, .inl (cs 1, 9, .inr (.inl baz_16))), (mbb, .inl (cs 1, 9, .inr (.inl bbz_17)))] := hD
                  refine lv_aload_n hx hb dX12_chain_98 rfl (lv_at hl 0 rfl) ?_
                  refine lv_lconst (v := 1) hx hb dX12_chain_99 (by decide) ?_
                  refine xput C hP hD hS 0 rfl rfl zuX12 tyX12 tyX12_ok nmX12 33 (by decide) zw6_6 rfl rfl rfl (Nat.le_of_ble_eq_true rfl) dX12_chain_100 ?_
                  clear hP hD hS
                  try clear locs
                  try clear H
                  intro H locs hP hD hS
                  replace hP : va_P D vwCl [(hm, .inr (12, [.ref ms, .ref mkp, .int (nI km), .ref mtr, .int (nI n), .int (nI k), .int (nI al), .int (nI be), .int ea, .int pr, .ref mas, .int nq, .int po, .int (nI en), .ref mso, .ref mon, .ref mot, .ref man, .int (nI 0), .int xd, .ref mst, .ref msm, .ref mtb, .ref mti, .ref mfr, .ref mbn, .ref mbs, .ref mde, .int sF, .int sN, .int sS, .int igz_37, .long 0, .long 1, .ref maa, .ref mab, .ref mba, .ref mbb])), (maa, .inl (cs 1, 9, .inr (.inl aaz_14))), (mab, .inl (cs 1, 9, .inr (.inl abz_15))), (mba, .inl (cs 1, 9, .inr (.inl baz_16))), (mbb, .inl (cs 1, 9, .inr (.inl bbz_17)))] H := hP
                  replace hD : va_D A [(hm, .inr (12, [.ref ms, .ref mkp, .int (nI km), .ref mtr, .int (nI n), .int (nI k), .int (nI al), .int (nI be), .int ea, .int pr, .ref mas, .int nq, .int po, .int (nI en), .ref mso, .ref mon, .ref mot, .ref man, .int (nI 0), .int xd, .ref mst, .ref msm, .ref mtb, .ref mti, .ref mfr, .ref mbn, .ref mbs, .ref mde, .int sF, .int sN, .int sS, .int igz_37, .long 0, .long 1, .ref maa, .ref mab, .ref mba, .ref mbb])), (maa, .inl (cs 1, 9, .inr (.inl aaz_14))), (mab, .inl (cs 1, 9, .inr (.inl abz_15))), (mba, .inl (cs 1, 9, .inr (.inl baz_16))), (mbb, .inl (cs 1, 9, .inr (.inl bbz_17)))] := hD
                  refine lv_aload_n hx hb dX12_chain_103 rfl (lv_at hl 0 rfl) ?_
                  refine xget C hP 0 rfl rfl zuX12 31 (by decide) zw6_4 rfl dX12_chain_104 ?_
                  refine lv_if_eq (tgt := 114) hx hb dX12_chain_107 (by decide) (fun c_46 => ?_) (fun c_46 => ?_)
                  · -- 107 t
                    refine lv_iload_n hx hb dX12_chain_114 rfl (lv_at hl 2 rfl) ?_
                    refine lv_iconst (v := nI 2) hx hb dX12_chain_115 (by decide) ?_
                    refine lv_irem hx hb dX12_chain_116 (by decide) ?_
                    refine lv_if_ne (tgt := 127) hx hb dX12_chain_117 (by decide) (fun c_47 => ?_) (fun c_47 => ?_)
                    · -- 117 t
                      refine lv_aload_n hx hb dX12_chain_127 rfl (lv_at hl 0 rfl) ?_
                      refine xget C hP 0 rfl rfl zuX12 33 (by decide) zw6_6 rfl dX12_chain_128 ?_
                      exact xretl C (⟨igz_37, 0, 1, aaz_14, abz_15, baz_16, bbz_17⟩) trivial hP hD hS (Nat.le_of_ble_eq_true rfl) (Nat.le_of_ble_eq_true rfl) dX12_chain_131
                    · -- 117 f
                      refine lv_aload_n hx hb dX12_chain_120 rfl (lv_at hl 0 rfl) ?_
                      refine xget C hP 0 rfl rfl zuX12 32 (by decide) zw6_5 rfl dX12_chain_121 ?_
                      refine lv_goto (tgt := 131) hx hb dX12_chain_124 (by decide) ?_
                      exact xretl C (⟨igz_37, 0, 1, aaz_14, abz_15, baz_16, bbz_17⟩) trivial hP hD hS (Nat.le_of_ble_eq_true rfl) (Nat.le_of_ble_eq_true rfl) dX12_chain_131
                  · -- 107 f
                    refine lv_ldc2 (v := (-2)) hx hb hown (hz _ zw6_202) dX12_chain_110 ?_
                    exact xretl C (⟨igz_37, 0, 1, aaz_14, abz_15, baz_16, bbz_17⟩) trivial hP hD hS (Nat.le_of_ble_eq_true rfl) (Nat.le_of_ble_eq_true rfl) dX12_chain_113
        · -- 51 f
          refine lv_iconst (v := nI 1) hx hb dX12_chain_54 (by decide) ?_
          refine lv_goto (tgt := 59) hx hb dX12_chain_55 (by decide) ?_
          refine xv (wr := []) (xV (As := [.int (nI 1)]) (rest := []) C (c_X12_laysSteps l D cs hm ms mkp mtr mas mso mon mot man mst msm mtb mti mfr mbn mbs mde maa mab mba mbb n k al be km en ea pr nq po (nI 0) xd sF sN sS (nI 0) xa xb aaf abf baf bbf (nI 1) hn hkn hal) kX12_302 hP hD [0, 1, 2, 3, 4] rfl (by decide +kernel) 0 rfl rfl rfl ⟨Nat.le_of_ble_eq_true rfl, Nat.le_of_ble_eq_true rfl⟩ rfl hl.1 rfl (Nat.le_of_ble_eq_true rfl) dX12_chain_59 ⟨Nat.le_of_ble_eq_true rfl, Nat.le_of_ble_eq_true rfl⟩) hP hD hS hA [0, 1, 2, 3, 4] [] rfl rfl (by decide +kernel) (by decide +kernel) ?_
          clear hP hD hS
          try clear locs
          try clear H
          intro u_49 H locs hw_r_48 hP hD hS
          obtain ⟨igz_50, xaz_51, xbz_52, aaz_53, abz_54, baz_55, bbz_56⟩ := u_49
          have hw_r_48 : gr igz_50 ∨ ∀ j, j < n → ¬ abz_54 j = 0 ∧ ¬ bbz_56 j = 0 := hw_r_48
          refine W.widen (k := 0) (n := 0) (Nat.le_of_ble_eq_true rfl) (Nat.le_of_ble_eq_true rfl) ?_
          replace hP : va_P D vwCl [(hm, .inr (12, [.ref ms, .ref mkp, .int (nI km), .ref mtr, .int (nI n), .int (nI k), .int (nI al), .int (nI be), .int ea, .int pr, .ref mas, .int nq, .int po, .int (nI en), .ref mso, .ref mon, .ref mot, .ref man, .int (nI 0), .int xd, .ref mst, .ref msm, .ref mtb, .ref mti, .ref mfr, .ref mbn, .ref mbs, .ref mde, .int sF, .int sN, .int sS, .int igz_50, .long xaz_51, .long xbz_52, .ref maa, .ref mab, .ref mba, .ref mbb])), (maa, .inl (cs 1, 9, .inr (.inl aaz_53))), (mab, .inl (cs 1, 9, .inr (.inl abz_54))), (mba, .inl (cs 1, 9, .inr (.inl baz_55))), (mbb, .inl (cs 1, 9, .inr (.inl bbz_56)))] H := hP
          replace hD : va_D A [(hm, .inr (12, [.ref ms, .ref mkp, .int (nI km), .ref mtr, .int (nI n), .int (nI k), .int (nI al), .int (nI be), .int ea, .int pr, .ref mas, .int nq, .int po, .int (nI en), .ref mso, .ref mon, .ref mot, .ref man, .int (nI 0), .int xd, .ref mst, .ref msm, .ref mtb, .ref mti, .ref mfr, .ref mbn, .ref mbs, .ref mde, .int sF, .int sN, .int sS, .int igz_50, .long xaz_51, .long xbz_52, .ref maa, .ref mab, .ref mba, .ref mbb])), (maa, .inl (cs 1, 9, .inr (.inl aaz_53))), (mab, .inl (cs 1, 9, .inr (.inl abz_54))), (mba, .inl (cs 1, 9, .inr (.inl baz_55))), (mbb, .inl (cs 1, 9, .inr (.inl bbz_56)))] := hD
          refine lv_aload_n hx hb dX12_chain_62 rfl (lv_at hl 0 rfl) ?_
          refine xget C hP 0 rfl rfl zuX12 31 (by decide) zw6_4 rfl dX12_chain_63 ?_
          refine lv_if_ne (tgt := 103) hx hb dX12_chain_66 (by decide) (fun c_57 => ?_) (fun c_57 => ?_)
          · -- 66 t
            refine lv_aload_n hx hb dX12_chain_103 rfl (lv_at hl 0 rfl) ?_
            refine xget C hP 0 rfl rfl zuX12 31 (by decide) zw6_4 rfl dX12_chain_104 ?_
            refine lv_if_eq (tgt := 114) hx hb dX12_chain_107 (by decide) (fun c_58 => ?_) (fun c_58 => ?_)
            · -- 107 t
              refine lv_iload_n hx hb dX12_chain_114 rfl (lv_at hl 2 rfl) ?_
              refine lv_iconst (v := nI 2) hx hb dX12_chain_115 (by decide) ?_
              refine lv_irem hx hb dX12_chain_116 (by decide) ?_
              refine lv_if_ne (tgt := 127) hx hb dX12_chain_117 (by decide) (fun c_59 => ?_) (fun c_59 => ?_)
              · -- 117 t
                refine lv_aload_n hx hb dX12_chain_127 rfl (lv_at hl 0 rfl) ?_
                refine xget C hP 0 rfl rfl zuX12 33 (by decide) zw6_6 rfl dX12_chain_128 ?_
                exact xretl C (⟨igz_50, xaz_51, xbz_52, aaz_53, abz_54, baz_55, bbz_56⟩) trivial hP hD hS (Nat.le_of_ble_eq_true rfl) (Nat.le_of_ble_eq_true rfl) dX12_chain_131
              · -- 117 f
                refine lv_aload_n hx hb dX12_chain_120 rfl (lv_at hl 0 rfl) ?_
                refine xget C hP 0 rfl rfl zuX12 32 (by decide) zw6_5 rfl dX12_chain_121 ?_
                refine lv_goto (tgt := 131) hx hb dX12_chain_124 (by decide) ?_
                exact xretl C (⟨igz_50, xaz_51, xbz_52, aaz_53, abz_54, baz_55, bbz_56⟩) trivial hP hD hS (Nat.le_of_ble_eq_true rfl) (Nat.le_of_ble_eq_true rfl) dX12_chain_131
            · -- 107 f
              refine lv_ldc2 (v := (-2)) hx hb hown (hz _ zw6_202) dX12_chain_110 ?_
              exact xretl C (⟨igz_50, xaz_51, xbz_52, aaz_53, abz_54, baz_55, bbz_56⟩) trivial hP hD hS (Nat.le_of_ble_eq_true rfl) (Nat.le_of_ble_eq_true rfl) dX12_chain_113
          · -- 66 f
            refine lv_aload_n hx hb dX12_chain_69 rfl (lv_at hl 0 rfl) ?_
            refine lv_iload_n hx hb dX12_chain_70 rfl (lv_at hl 1 rfl) ?_
            refine lv_iload_n hx hb dX12_chain_71 rfl (lv_at hl 2 rfl) ?_
            refine lv_iconst (v := nI 1) hx hb dX12_chain_72 (by decide) ?_
            refine lv_icmp_le (tgt := 80) hx hb dX12_chain_73 (by decide) (fun c_60 => ?_) (fun c_60 => ?_)
            · -- 73 t
              refine lv_lconst (v := 1) hx hb dX12_chain_80 (by decide) ?_
              refine xv (wr := []) (xV (As := [.int (nI j), .long 1]) (rest := []) C (c_X12_goesDown l D cs hm ms mkp mtr mas mso mon mot man mst msm mtb mti mfr mbn mbs mde maa mab mba mbb n k al be km en ea pr nq po (nI 0) xd sF sN sS igz_50 xaz_51 xbz_52 aaz_53 abz_54 baz_55 bbz_56 j 1 hn h_j (hw_r_48.resolve_left (fun g => g c_57))) kX12_306 hP hD [0, 1, 2, 3, 4] rfl (by decide +kernel) 0 rfl rfl rfl ⟨Nat.le_of_ble_eq_true rfl, Nat.le_of_ble_eq_true rfl⟩ rfl hl.1 rfl (Nat.le_of_ble_eq_true rfl) dX12_chain_81 ⟨Nat.le_of_ble_eq_true rfl, Nat.le_of_ble_eq_true rfl⟩) hP hD hS hA [0, 1, 2, 3, 4] [] rfl rfl (by decide +kernel) (by decide +kernel) ?_
              clear hP hD hS
              try clear locs
              try clear H
              intro u_62 H locs hw_r_61 hP hD hS
              obtain ⟨igz_63, xaz_64, xbz_65⟩ := u_62
              refine W.widen (k := 0) (n := 0) (Nat.le_of_ble_eq_true rfl) (Nat.le_of_ble_eq_true rfl) ?_
              replace hP : va_P D vwCl [(hm, .inr (12, [.ref ms, .ref mkp, .int (nI km), .ref mtr, .int (nI n), .int (nI k), .int (nI al), .int (nI be), .int ea, .int pr, .ref mas, .int nq, .int po, .int (nI en), .ref mso, .ref mon, .ref mot, .ref man, .int (nI 0), .int xd, .ref mst, .ref msm, .ref mtb, .ref mti, .ref mfr, .ref mbn, .ref mbs, .ref mde, .int sF, .int sN, .int sS, .int igz_63, .long xaz_64, .long xbz_65, .ref maa, .ref mab, .ref mba, .ref mbb])), (maa, .inl (cs 1, 9, .inr (.inl aaz_53))), (mab, .inl (cs 1, 9, .inr (.inl abz_54))), (mba, .inl (cs 1, 9, .inr (.inl baz_55))), (mbb, .inl (cs 1, 9, .inr (.inl bbz_56)))] H := hP
              replace hD : va_D A [(hm, .inr (12, [.ref ms, .ref mkp, .int (nI km), .ref mtr, .int (nI n), .int (nI k), .int (nI al), .int (nI be), .int ea, .int pr, .ref mas, .int nq, .int po, .int (nI en), .ref mso, .ref mon, .ref mot, .ref man, .int (nI 0), .int xd, .ref mst, .ref msm, .ref mtb, .ref mti, .ref mfr, .ref mbn, .ref mbs, .ref mde, .int sF, .int sN, .int sS, .int igz_63, .long xaz_64, .long xbz_65, .ref maa, .ref mab, .ref mba, .ref mbb])), (maa, .inl (cs 1, 9, .inr (.inl aaz_53))), (mab, .inl (cs 1, 9, .inr (.inl abz_54))), (mba, .inl (cs 1, 9, .inr (.inl baz_55))), (mbb, .inl (cs 1, 9, .inr (.inl bbz_56)))] := hD
              refine lv_iload_n hx hb dX12_chain_84 rfl (lv_at hl 2 rfl) ?_
              refine lv_iconst (v := nI 1) hx hb dX12_chain_85 (by decide) ?_
              refine lv_icmp_le (tgt := 103) hx hb dX12_chain_86 (by decide) (fun c_66 => ?_) (fun c_66 => ?_)
              · -- 86 t
                refine lv_aload_n hx hb dX12_chain_103 rfl (lv_at hl 0 rfl) ?_
                refine xget C hP 0 rfl rfl zuX12 31 (by decide) zw6_4 rfl dX12_chain_104 ?_
                refine lv_if_eq (tgt := 114) hx hb dX12_chain_107 (by decide) (fun c_67 => ?_) (fun c_67 => ?_)
                · -- 107 t
                  refine lv_iload_n hx hb dX12_chain_114 rfl (lv_at hl 2 rfl) ?_
                  refine lv_iconst (v := nI 2) hx hb dX12_chain_115 (by decide) ?_
                  refine lv_irem hx hb dX12_chain_116 (by decide) ?_
                  refine lv_if_ne (tgt := 127) hx hb dX12_chain_117 (by decide) (fun c_68 => ?_) (fun c_68 => ?_)
                  · -- 117 t
                    refine lv_aload_n hx hb dX12_chain_127 rfl (lv_at hl 0 rfl) ?_
                    refine xget C hP 0 rfl rfl zuX12 33 (by decide) zw6_6 rfl dX12_chain_128 ?_
                    exact xretl C (⟨igz_63, xaz_64, xbz_65, aaz_53, abz_54, baz_55, bbz_56⟩) trivial hP hD hS (Nat.le_of_ble_eq_true rfl) (Nat.le_of_ble_eq_true rfl) dX12_chain_131
                  · -- 117 f
                    refine lv_aload_n hx hb dX12_chain_120 rfl (lv_at hl 0 rfl) ?_
                    refine xget C hP 0 rfl rfl zuX12 32 (by decide) zw6_5 rfl dX12_chain_121 ?_
                    refine lv_goto (tgt := 131) hx hb dX12_chain_124 (by decide) ?_
                    exact xretl C (⟨igz_63, xaz_64, xbz_65, aaz_53, abz_54, baz_55, bbz_56⟩) trivial hP hD hS (Nat.le_of_ble_eq_true rfl) (Nat.le_of_ble_eq_true rfl) dX12_chain_131
                · -- 107 f
                  refine lv_ldc2 (v := (-2)) hx hb hown (hz _ zw6_202) dX12_chain_110 ?_
                  exact xretl C (⟨igz_63, xaz_64, xbz_65, aaz_53, abz_54, baz_55, bbz_56⟩) trivial hP hD hS (Nat.le_of_ble_eq_true rfl) (Nat.le_of_ble_eq_true rfl) dX12_chain_113
              · -- 86 f
                refine lv_iload_n hx hb dX12_chain_89 rfl (lv_at hl 1 rfl) ?_
                refine lv_if_ne (tgt := 103) hx hb dX12_chain_90 (by decide) (fun c_69 => ?_) (fun c_69 => ?_)
                · -- 90 t
                  have fc_69 : j ≠ 0 := nf_ne (by omega) (by omega) c_69
                  refine lv_aload_n hx hb dX12_chain_103 rfl (lv_at hl 0 rfl) ?_
                  refine xget C hP 0 rfl rfl zuX12 31 (by decide) zw6_4 rfl dX12_chain_104 ?_
                  refine lv_if_eq (tgt := 114) hx hb dX12_chain_107 (by decide) (fun c_70 => ?_) (fun c_70 => ?_)
                  · -- 107 t
                    refine lv_iload_n hx hb dX12_chain_114 rfl (lv_at hl 2 rfl) ?_
                    refine lv_iconst (v := nI 2) hx hb dX12_chain_115 (by decide) ?_
                    refine lv_irem hx hb dX12_chain_116 (by decide) ?_
                    refine lv_if_ne (tgt := 127) hx hb dX12_chain_117 (by decide) (fun c_71 => ?_) (fun c_71 => ?_)
                    · -- 117 t
                      refine lv_aload_n hx hb dX12_chain_127 rfl (lv_at hl 0 rfl) ?_
                      refine xget C hP 0 rfl rfl zuX12 33 (by decide) zw6_6 rfl dX12_chain_128 ?_
                      exact xretl C (⟨igz_63, xaz_64, xbz_65, aaz_53, abz_54, baz_55, bbz_56⟩) trivial hP hD hS (Nat.le_of_ble_eq_true rfl) (Nat.le_of_ble_eq_true rfl) dX12_chain_131
                    · -- 117 f
                      refine lv_aload_n hx hb dX12_chain_120 rfl (lv_at hl 0 rfl) ?_
                      refine xget C hP 0 rfl rfl zuX12 32 (by decide) zw6_5 rfl dX12_chain_121 ?_
                      refine lv_goto (tgt := 131) hx hb dX12_chain_124 (by decide) ?_
                      exact xretl C (⟨igz_63, xaz_64, xbz_65, aaz_53, abz_54, baz_55, bbz_56⟩) trivial hP hD hS (Nat.le_of_ble_eq_true rfl) (Nat.le_of_ble_eq_true rfl) dX12_chain_131
                  · -- 107 f
                    refine lv_ldc2 (v := (-2)) hx hb hown (hz _ zw6_202) dX12_chain_110 ?_
                    exact xretl C (⟨igz_63, xaz_64, xbz_65, aaz_53, abz_54, baz_55, bbz_56⟩) trivial hP hD hS (Nat.le_of_ble_eq_true rfl) (Nat.le_of_ble_eq_true rfl) dX12_chain_113
                · -- 90 f
                  have fc_69 : j = 0 := nf_eq (by omega) (by omega) c_69
                  refine lv_aload_n hx hb dX12_chain_93 rfl (lv_at hl 0 rfl) ?_
                  refine lv_lconst (v := 0) hx hb dX12_chain_94 (by decide) ?_
                  refine xput C hP hD hS 0 rfl rfl zuX12 tyX12 tyX12_ok nmX12 32 (by decide) zw6_5 rfl rfl rfl (Nat.le_of_ble_eq_true rfl) dX12_chain_95 ?_
                  clear hP hD hS
                  try clear locs
                  try clear H
                  intro H locs hP hD hS
                  replace hP : va_P D vwCl [(hm, .inr (12, [.ref ms, .ref mkp, .int (nI km), .ref mtr, .int (nI n), .int (nI k), .int (nI al), .int (nI be), .int ea, .int pr, .ref mas, .int nq, .int po, .int (nI en), .ref mso, .ref mon, .ref mot, .ref man, .int (nI 0), .int xd, .ref mst, .ref msm, .ref mtb, .ref mti, .ref mfr, .ref mbn, .ref mbs, .ref mde, .int sF, .int sN, .int sS, .int igz_63, .long 0, .long xbz_65, .ref maa, .ref mab, .ref mba, .ref mbb])), (maa, .inl (cs 1, 9, .inr (.inl aaz_53))), (mab, .inl (cs 1, 9, .inr (.inl abz_54))), (mba, .inl (cs 1, 9, .inr (.inl baz_55))), (mbb, .inl (cs 1, 9, .inr (.inl bbz_56)))] H := hP
                  replace hD : va_D A [(hm, .inr (12, [.ref ms, .ref mkp, .int (nI km), .ref mtr, .int (nI n), .int (nI k), .int (nI al), .int (nI be), .int ea, .int pr, .ref mas, .int nq, .int po, .int (nI en), .ref mso, .ref mon, .ref mot, .ref man, .int (nI 0), .int xd, .ref mst, .ref msm, .ref mtb, .ref mti, .ref mfr, .ref mbn, .ref mbs, .ref mde, .int sF, .int sN, .int sS, .int igz_63, .long 0, .long xbz_65, .ref maa, .ref mab, .ref mba, .ref mbb])), (maa, .inl (cs 1, 9, .inr (.inl aaz_53))), (mab, .inl (cs 1, 9, .inr (.inl abz_54))), (mba, .inl (cs 1, 9, .inr (.inl baz_55))), (mbb, .inl (cs 1, 9, .inr (.inl bbz_56)))] := hD
                  refine lv_aload_n hx hb dX12_chain_98 rfl (lv_at hl 0 rfl) ?_
                  refine lv_lconst (v := 1) hx hb dX12_chain_99 (by decide) ?_
                  refine xput C hP hD hS 0 rfl rfl zuX12 tyX12 tyX12_ok nmX12 33 (by decide) zw6_6 rfl rfl rfl (Nat.le_of_ble_eq_true rfl) dX12_chain_100 ?_
                  clear hP hD hS
                  try clear locs
                  try clear H
                  intro H locs hP hD hS
                  replace hP : va_P D vwCl [(hm, .inr (12, [.ref ms, .ref mkp, .int (nI km), .ref mtr, .int (nI n), .int (nI k), .int (nI al), .int (nI be), .int ea, .int pr, .ref mas, .int nq, .int po, .int (nI en), .ref mso, .ref mon, .ref mot, .ref man, .int (nI 0), .int xd, .ref mst, .ref msm, .ref mtb, .ref mti, .ref mfr, .ref mbn, .ref mbs, .ref mde, .int sF, .int sN, .int sS, .int igz_63, .long 0, .long 1, .ref maa, .ref mab, .ref mba, .ref mbb])), (maa, .inl (cs 1, 9, .inr (.inl aaz_53))), (mab, .inl (cs 1, 9, .inr (.inl abz_54))), (mba, .inl (cs 1, 9, .inr (.inl baz_55))), (mbb, .inl (cs 1, 9, .inr (.inl bbz_56)))] H := hP
                  replace hD : va_D A [(hm, .inr (12, [.ref ms, .ref mkp, .int (nI km), .ref mtr, .int (nI n), .int (nI k), .int (nI al), .int (nI be), .int ea, .int pr, .ref mas, .int nq, .int po, .int (nI en), .ref mso, .ref mon, .ref mot, .ref man, .int (nI 0), .int xd, .ref mst, .ref msm, .ref mtb, .ref mti, .ref mfr, .ref mbn, .ref mbs, .ref mde, .int sF, .int sN, .int sS, .int igz_63, .long 0, .long 1, .ref maa, .ref mab, .ref mba, .ref mbb])), (maa, .inl (cs 1, 9, .inr (.inl aaz_53))), (mab, .inl (cs 1, 9, .inr (.inl abz_54))), (mba, .inl (cs 1, 9, .inr (.inl baz_55))), (mbb, .inl (cs 1, 9, .inr (.inl bbz_56)))] := hD
                  refine lv_aload_n hx hb dX12_chain_103 rfl (lv_at hl 0 rfl) ?_
                  refine xget C hP 0 rfl rfl zuX12 31 (by decide) zw6_4 rfl dX12_chain_104 ?_
                  refine lv_if_eq (tgt := 114) hx hb dX12_chain_107 (by decide) (fun c_72 => ?_) (fun c_72 => ?_)
                  · -- 107 t
                    refine lv_iload_n hx hb dX12_chain_114 rfl (lv_at hl 2 rfl) ?_
                    refine lv_iconst (v := nI 2) hx hb dX12_chain_115 (by decide) ?_
                    refine lv_irem hx hb dX12_chain_116 (by decide) ?_
                    refine lv_if_ne (tgt := 127) hx hb dX12_chain_117 (by decide) (fun c_73 => ?_) (fun c_73 => ?_)
                    · -- 117 t
                      refine lv_aload_n hx hb dX12_chain_127 rfl (lv_at hl 0 rfl) ?_
                      refine xget C hP 0 rfl rfl zuX12 33 (by decide) zw6_6 rfl dX12_chain_128 ?_
                      exact xretl C (⟨igz_63, 0, 1, aaz_53, abz_54, baz_55, bbz_56⟩) trivial hP hD hS (Nat.le_of_ble_eq_true rfl) (Nat.le_of_ble_eq_true rfl) dX12_chain_131
                    · -- 117 f
                      refine lv_aload_n hx hb dX12_chain_120 rfl (lv_at hl 0 rfl) ?_
                      refine xget C hP 0 rfl rfl zuX12 32 (by decide) zw6_5 rfl dX12_chain_121 ?_
                      refine lv_goto (tgt := 131) hx hb dX12_chain_124 (by decide) ?_
                      exact xretl C (⟨igz_63, 0, 1, aaz_53, abz_54, baz_55, bbz_56⟩) trivial hP hD hS (Nat.le_of_ble_eq_true rfl) (Nat.le_of_ble_eq_true rfl) dX12_chain_131
                  · -- 107 f
                    refine lv_ldc2 (v := (-2)) hx hb hown (hz _ zw6_202) dX12_chain_110 ?_
                    exact xretl C (⟨igz_63, 0, 1, aaz_53, abz_54, baz_55, bbz_56⟩) trivial hP hD hS (Nat.le_of_ble_eq_true rfl) (Nat.le_of_ble_eq_true rfl) dX12_chain_113
            · -- 73 f
              refine lv_lconst (v := 0) hx hb dX12_chain_76 (by decide) ?_
              refine lv_goto (tgt := 81) hx hb dX12_chain_77 (by decide) ?_
              refine xv (wr := []) (xV (As := [.int (nI j), .long 0]) (rest := []) C (c_X12_goesDown l D cs hm ms mkp mtr mas mso mon mot man mst msm mtb mti mfr mbn mbs mde maa mab mba mbb n k al be km en ea pr nq po (nI 0) xd sF sN sS igz_50 xaz_51 xbz_52 aaz_53 abz_54 baz_55 bbz_56 j 0 hn h_j (hw_r_48.resolve_left (fun g => g c_57))) kX12_306 hP hD [0, 1, 2, 3, 4] rfl (by decide +kernel) 0 rfl rfl rfl ⟨Nat.le_of_ble_eq_true rfl, Nat.le_of_ble_eq_true rfl⟩ rfl hl.1 rfl (Nat.le_of_ble_eq_true rfl) dX12_chain_81 ⟨Nat.le_of_ble_eq_true rfl, Nat.le_of_ble_eq_true rfl⟩) hP hD hS hA [0, 1, 2, 3, 4] [] rfl rfl (by decide +kernel) (by decide +kernel) ?_
              clear hP hD hS
              try clear locs
              try clear H
              intro u_75 H locs hw_r_74 hP hD hS
              obtain ⟨igz_76, xaz_77, xbz_78⟩ := u_75
              refine W.widen (k := 0) (n := 0) (Nat.le_of_ble_eq_true rfl) (Nat.le_of_ble_eq_true rfl) ?_
              replace hP : va_P D vwCl [(hm, .inr (12, [.ref ms, .ref mkp, .int (nI km), .ref mtr, .int (nI n), .int (nI k), .int (nI al), .int (nI be), .int ea, .int pr, .ref mas, .int nq, .int po, .int (nI en), .ref mso, .ref mon, .ref mot, .ref man, .int (nI 0), .int xd, .ref mst, .ref msm, .ref mtb, .ref mti, .ref mfr, .ref mbn, .ref mbs, .ref mde, .int sF, .int sN, .int sS, .int igz_76, .long xaz_77, .long xbz_78, .ref maa, .ref mab, .ref mba, .ref mbb])), (maa, .inl (cs 1, 9, .inr (.inl aaz_53))), (mab, .inl (cs 1, 9, .inr (.inl abz_54))), (mba, .inl (cs 1, 9, .inr (.inl baz_55))), (mbb, .inl (cs 1, 9, .inr (.inl bbz_56)))] H := hP
              replace hD : va_D A [(hm, .inr (12, [.ref ms, .ref mkp, .int (nI km), .ref mtr, .int (nI n), .int (nI k), .int (nI al), .int (nI be), .int ea, .int pr, .ref mas, .int nq, .int po, .int (nI en), .ref mso, .ref mon, .ref mot, .ref man, .int (nI 0), .int xd, .ref mst, .ref msm, .ref mtb, .ref mti, .ref mfr, .ref mbn, .ref mbs, .ref mde, .int sF, .int sN, .int sS, .int igz_76, .long xaz_77, .long xbz_78, .ref maa, .ref mab, .ref mba, .ref mbb])), (maa, .inl (cs 1, 9, .inr (.inl aaz_53))), (mab, .inl (cs 1, 9, .inr (.inl abz_54))), (mba, .inl (cs 1, 9, .inr (.inl baz_55))), (mbb, .inl (cs 1, 9, .inr (.inl bbz_56)))] := hD
              refine lv_iload_n hx hb dX12_chain_84 rfl (lv_at hl 2 rfl) ?_
              refine lv_iconst (v := nI 1) hx hb dX12_chain_85 (by decide) ?_
              refine lv_icmp_le (tgt := 103) hx hb dX12_chain_86 (by decide) (fun c_79 => ?_) (fun c_79 => ?_)
              · -- 86 t
                refine lv_aload_n hx hb dX12_chain_103 rfl (lv_at hl 0 rfl) ?_
                refine xget C hP 0 rfl rfl zuX12 31 (by decide) zw6_4 rfl dX12_chain_104 ?_
                refine lv_if_eq (tgt := 114) hx hb dX12_chain_107 (by decide) (fun c_80 => ?_) (fun c_80 => ?_)
                · -- 107 t
                  refine lv_iload_n hx hb dX12_chain_114 rfl (lv_at hl 2 rfl) ?_
                  refine lv_iconst (v := nI 2) hx hb dX12_chain_115 (by decide) ?_
                  refine lv_irem hx hb dX12_chain_116 (by decide) ?_
                  refine lv_if_ne (tgt := 127) hx hb dX12_chain_117 (by decide) (fun c_81 => ?_) (fun c_81 => ?_)
                  · -- 117 t
                    refine lv_aload_n hx hb dX12_chain_127 rfl (lv_at hl 0 rfl) ?_
                    refine xget C hP 0 rfl rfl zuX12 33 (by decide) zw6_6 rfl dX12_chain_128 ?_
                    exact xretl C (⟨igz_76, xaz_77, xbz_78, aaz_53, abz_54, baz_55, bbz_56⟩) trivial hP hD hS (Nat.le_of_ble_eq_true rfl) (Nat.le_of_ble_eq_true rfl) dX12_chain_131
                  · -- 117 f
                    refine lv_aload_n hx hb dX12_chain_120 rfl (lv_at hl 0 rfl) ?_
                    refine xget C hP 0 rfl rfl zuX12 32 (by decide) zw6_5 rfl dX12_chain_121 ?_
                    refine lv_goto (tgt := 131) hx hb dX12_chain_124 (by decide) ?_
                    exact xretl C (⟨igz_76, xaz_77, xbz_78, aaz_53, abz_54, baz_55, bbz_56⟩) trivial hP hD hS (Nat.le_of_ble_eq_true rfl) (Nat.le_of_ble_eq_true rfl) dX12_chain_131
                · -- 107 f
                  refine lv_ldc2 (v := (-2)) hx hb hown (hz _ zw6_202) dX12_chain_110 ?_
                  exact xretl C (⟨igz_76, xaz_77, xbz_78, aaz_53, abz_54, baz_55, bbz_56⟩) trivial hP hD hS (Nat.le_of_ble_eq_true rfl) (Nat.le_of_ble_eq_true rfl) dX12_chain_113
              · -- 86 f
                refine lv_iload_n hx hb dX12_chain_89 rfl (lv_at hl 1 rfl) ?_
                refine lv_if_ne (tgt := 103) hx hb dX12_chain_90 (by decide) (fun c_82 => ?_) (fun c_82 => ?_)
                · -- 90 t
                  have fc_82 : j ≠ 0 := nf_ne (by omega) (by omega) c_82
                  refine lv_aload_n hx hb dX12_chain_103 rfl (lv_at hl 0 rfl) ?_
                  refine xget C hP 0 rfl rfl zuX12 31 (by decide) zw6_4 rfl dX12_chain_104 ?_
                  refine lv_if_eq (tgt := 114) hx hb dX12_chain_107 (by decide) (fun c_83 => ?_) (fun c_83 => ?_)
                  · -- 107 t
                    refine lv_iload_n hx hb dX12_chain_114 rfl (lv_at hl 2 rfl) ?_
                    refine lv_iconst (v := nI 2) hx hb dX12_chain_115 (by decide) ?_
                    refine lv_irem hx hb dX12_chain_116 (by decide) ?_
                    refine lv_if_ne (tgt := 127) hx hb dX12_chain_117 (by decide) (fun c_84 => ?_) (fun c_84 => ?_)
                    · -- 117 t
                      refine lv_aload_n hx hb dX12_chain_127 rfl (lv_at hl 0 rfl) ?_
                      refine xget C hP 0 rfl rfl zuX12 33 (by decide) zw6_6 rfl dX12_chain_128 ?_
                      exact xretl C (⟨igz_76, xaz_77, xbz_78, aaz_53, abz_54, baz_55, bbz_56⟩) trivial hP hD hS (Nat.le_of_ble_eq_true rfl) (Nat.le_of_ble_eq_true rfl) dX12_chain_131
                    · -- 117 f
                      refine lv_aload_n hx hb dX12_chain_120 rfl (lv_at hl 0 rfl) ?_
                      refine xget C hP 0 rfl rfl zuX12 32 (by decide) zw6_5 rfl dX12_chain_121 ?_
                      refine lv_goto (tgt := 131) hx hb dX12_chain_124 (by decide) ?_
                      exact xretl C (⟨igz_76, xaz_77, xbz_78, aaz_53, abz_54, baz_55, bbz_56⟩) trivial hP hD hS (Nat.le_of_ble_eq_true rfl) (Nat.le_of_ble_eq_true rfl) dX12_chain_131
                  · -- 107 f
                    refine lv_ldc2 (v := (-2)) hx hb hown (hz _ zw6_202) dX12_chain_110 ?_
                    exact xretl C (⟨igz_76, xaz_77, xbz_78, aaz_53, abz_54, baz_55, bbz_56⟩) trivial hP hD hS (Nat.le_of_ble_eq_true rfl) (Nat.le_of_ble_eq_true rfl) dX12_chain_113
                · -- 90 f
                  have fc_82 : j = 0 := nf_eq (by omega) (by omega) c_82
                  refine lv_aload_n hx hb dX12_chain_93 rfl (lv_at hl 0 rfl) ?_
                  refine lv_lconst (v := 0) hx hb dX12_chain_94 (by decide) ?_
                  refine xput C hP hD hS 0 rfl rfl zuX12 tyX12 tyX12_ok nmX12 32 (by decide) zw6_5 rfl rfl rfl (Nat.le_of_ble_eq_true rfl) dX12_chain_95 ?_
                  clear hP hD hS
                  try clear locs
                  try clear H
                  intro H locs hP hD hS
                  replace hP : va_P D vwCl [(hm, .inr (12, [.ref ms, .ref mkp, .int (nI km), .ref mtr, .int (nI n), .int (nI k), .int (nI al), .int (nI be), .int ea, .int pr, .ref mas, .int nq, .int po, .int (nI en), .ref mso, .ref mon, .ref mot, .ref man, .int (nI 0), .int xd, .ref mst, .ref msm, .ref mtb, .ref mti, .ref mfr, .ref mbn, .ref mbs, .ref mde, .int sF, .int sN, .int sS, .int igz_76, .long 0, .long xbz_78, .ref maa, .ref mab, .ref mba, .ref mbb])), (maa, .inl (cs 1, 9, .inr (.inl aaz_53))), (mab, .inl (cs 1, 9, .inr (.inl abz_54))), (mba, .inl (cs 1, 9, .inr (.inl baz_55))), (mbb, .inl (cs 1, 9, .inr (.inl bbz_56)))] H := hP
                  replace hD : va_D A [(hm, .inr (12, [.ref ms, .ref mkp, .int (nI km), .ref mtr, .int (nI n), .int (nI k), .int (nI al), .int (nI be), .int ea, .int pr, .ref mas, .int nq, .int po, .int (nI en), .ref mso, .ref mon, .ref mot, .ref man, .int (nI 0), .int xd, .ref mst, .ref msm, .ref mtb, .ref mti, .ref mfr, .ref mbn, .ref mbs, .ref mde, .int sF, .int sN, .int sS, .int igz_76, .long 0, .long xbz_78, .ref maa, .ref mab, .ref mba, .ref mbb])), (maa, .inl (cs 1, 9, .inr (.inl aaz_53))), (mab, .inl (cs 1, 9, .inr (.inl abz_54))), (mba, .inl (cs 1, 9, .inr (.inl baz_55))), (mbb, .inl (cs 1, 9, .inr (.inl bbz_56)))] := hD
                  refine lv_aload_n hx hb dX12_chain_98 rfl (lv_at hl 0 rfl) ?_
                  refine lv_lconst (v := 1) hx hb dX12_chain_99 (by decide) ?_
                  refine xput C hP hD hS 0 rfl rfl zuX12 tyX12 tyX12_ok nmX12 33 (by decide) zw6_6 rfl rfl rfl (Nat.le_of_ble_eq_true rfl) dX12_chain_100 ?_
                  clear hP hD hS
                  try clear locs
                  try clear H
                  intro H locs hP hD hS
                  replace hP : va_P D vwCl [(hm, .inr (12, [.ref ms, .ref mkp, .int (nI km), .ref mtr, .int (nI n), .int (nI k), .int (nI al), .int (nI be), .int ea, .int pr, .ref mas, .int nq, .int po, .int (nI en), .ref mso, .ref mon, .ref mot, .ref man, .int (nI 0), .int xd, .ref mst, .ref msm, .ref mtb, .ref mti, .ref mfr, .ref mbn, .ref mbs, .ref mde, .int sF, .int sN, .int sS, .int igz_76, .long 0, .long 1, .ref maa, .ref mab, .ref mba, .ref mbb])), (maa, .inl (cs 1, 9, .inr (.inl aaz_53))), (mab, .inl (cs 1, 9, .inr (.inl abz_54))), (mba, .inl (cs 1, 9, .inr (.inl baz_55))), (mbb, .inl (cs 1, 9, .inr (.inl bbz_56)))] H := hP
                  replace hD : va_D A [(hm, .inr (12, [.ref ms, .ref mkp, .int (nI km), .ref mtr, .int (nI n), .int (nI k), .int (nI al), .int (nI be), .int ea, .int pr, .ref mas, .int nq, .int po, .int (nI en), .ref mso, .ref mon, .ref mot, .ref man, .int (nI 0), .int xd, .ref mst, .ref msm, .ref mtb, .ref mti, .ref mfr, .ref mbn, .ref mbs, .ref mde, .int sF, .int sN, .int sS, .int igz_76, .long 0, .long 1, .ref maa, .ref mab, .ref mba, .ref mbb])), (maa, .inl (cs 1, 9, .inr (.inl aaz_53))), (mab, .inl (cs 1, 9, .inr (.inl abz_54))), (mba, .inl (cs 1, 9, .inr (.inl baz_55))), (mbb, .inl (cs 1, 9, .inr (.inl bbz_56)))] := hD
                  refine lv_aload_n hx hb dX12_chain_103 rfl (lv_at hl 0 rfl) ?_
                  refine xget C hP 0 rfl rfl zuX12 31 (by decide) zw6_4 rfl dX12_chain_104 ?_
                  refine lv_if_eq (tgt := 114) hx hb dX12_chain_107 (by decide) (fun c_85 => ?_) (fun c_85 => ?_)
                  · -- 107 t
                    refine lv_iload_n hx hb dX12_chain_114 rfl (lv_at hl 2 rfl) ?_
                    refine lv_iconst (v := nI 2) hx hb dX12_chain_115 (by decide) ?_
                    refine lv_irem hx hb dX12_chain_116 (by decide) ?_
                    refine lv_if_ne (tgt := 127) hx hb dX12_chain_117 (by decide) (fun c_86 => ?_) (fun c_86 => ?_)
                    · -- 117 t
                      refine lv_aload_n hx hb dX12_chain_127 rfl (lv_at hl 0 rfl) ?_
                      refine xget C hP 0 rfl rfl zuX12 33 (by decide) zw6_6 rfl dX12_chain_128 ?_
                      exact xretl C (⟨igz_76, 0, 1, aaz_53, abz_54, baz_55, bbz_56⟩) trivial hP hD hS (Nat.le_of_ble_eq_true rfl) (Nat.le_of_ble_eq_true rfl) dX12_chain_131
                    · -- 117 f
                      refine lv_aload_n hx hb dX12_chain_120 rfl (lv_at hl 0 rfl) ?_
                      refine xget C hP 0 rfl rfl zuX12 32 (by decide) zw6_5 rfl dX12_chain_121 ?_
                      refine lv_goto (tgt := 131) hx hb dX12_chain_124 (by decide) ?_
                      exact xretl C (⟨igz_76, 0, 1, aaz_53, abz_54, baz_55, bbz_56⟩) trivial hP hD hS (Nat.le_of_ble_eq_true rfl) (Nat.le_of_ble_eq_true rfl) dX12_chain_131
                  · -- 107 f
                    refine lv_ldc2 (v := (-2)) hx hb hown (hz _ zw6_202) dX12_chain_110 ?_
                    exact xretl C (⟨igz_76, 0, 1, aaz_53, abz_54, baz_55, bbz_56⟩) trivial hP hD hS (Nat.le_of_ble_eq_true rfl) (Nat.le_of_ble_eq_true rfl) dX12_chain_113
      · -- 28 f
        refine lv_aload_n hx hb dX12_chain_31 rfl (lv_at hl 0 rfl) ?_
        refine lv_iload_n hx hb dX12_chain_32 rfl (lv_at hl 1 rfl) ?_
        refine xi (wr := [(maa, .inl (cs 1, 9, .inr (.inl aaf))), (mab, .inl (cs 1, 9, .inr (.inl abf))), (mba, .inl (cs 1, 9, .inr (.inl baf))), (mbb, .inl (cs 1, 9, .inr (.inl bbf)))]) (xV (As := [.int (nI j)]) (rest := []) C (c_X12_mayStay l D cs hm ms mkp mtr mas mso mon mot man mst msm mtb mti mfr mbn mbs mde maa mab mba mbb n k al be km en ea pr nq po (nI 0) xd sF sN sS ig xa xb j hn hkn hal h_j) kX12_299 hP hD [0] rfl (by decide +kernel) 0 rfl rfl rfl ⟨Nat.le_of_ble_eq_true rfl, Nat.le_of_ble_eq_true rfl⟩ rfl hl.1 rfl (Nat.le_of_ble_eq_true rfl) dX12_chain_33 ⟨Nat.le_of_ble_eq_true rfl, Nat.le_of_ble_eq_true rfl⟩) hP hD hS hA [0] [1, 2, 3, 4] rfl rfl (by decide +kernel) (by decide +kernel) ?_
        clear hP hD hS
        try clear locs
        try clear H
        intro r_87 u_88 H locs hw_r_87 hP hD hS
        have hw_r_87 : (r_87 = nI 0 ∨ r_87 = nI 1) := hw_r_87
        refine W.widen (k := 0) (n := 0) (Nat.le_of_ble_eq_true rfl) (Nat.le_of_ble_eq_true rfl) ?_
        replace hP : va_P D vwCl [(maa, .inl (cs 1, 9, .inr (.inl aaf))), (mab, .inl (cs 1, 9, .inr (.inl abf))), (mba, .inl (cs 1, 9, .inr (.inl baf))), (mbb, .inl (cs 1, 9, .inr (.inl bbf))), (hm, .inr (12, [.ref ms, .ref mkp, .int (nI km), .ref mtr, .int (nI n), .int (nI k), .int (nI al), .int (nI be), .int ea, .int pr, .ref mas, .int nq, .int po, .int (nI en), .ref mso, .ref mon, .ref mot, .ref man, .int (nI 0), .int xd, .ref mst, .ref msm, .ref mtb, .ref mti, .ref mfr, .ref mbn, .ref mbs, .ref mde, .int sF, .int sN, .int sS, .int ig, .long xa, .long xb, .ref maa, .ref mab, .ref mba, .ref mbb]))] H := hP
        replace hD : va_D A [(maa, .inl (cs 1, 9, .inr (.inl aaf))), (mab, .inl (cs 1, 9, .inr (.inl abf))), (mba, .inl (cs 1, 9, .inr (.inl baf))), (mbb, .inl (cs 1, 9, .inr (.inl bbf))), (hm, .inr (12, [.ref ms, .ref mkp, .int (nI km), .ref mtr, .int (nI n), .int (nI k), .int (nI al), .int (nI be), .int ea, .int pr, .ref mas, .int nq, .int po, .int (nI en), .ref mso, .ref mon, .ref mot, .ref man, .int (nI 0), .int xd, .ref mst, .ref msm, .ref mtb, .ref mti, .ref mfr, .ref mbn, .ref mbs, .ref mde, .int sF, .int sN, .int sS, .int ig, .long xa, .long xb, .ref maa, .ref mab, .ref mba, .ref mbb]))] := hD
        refine lv_if_eq (tgt := 43) hx hb dX12_chain_36 (by decide) (fun c_89 => ?_) (fun c_89 => ?_)
        · -- 36 t
          refine lv_aload_n hx hb dX12_chain_43 rfl (lv_at hl 0 rfl) ?_
          refine lv_iconst (v := nI 0) hx hb dX12_chain_44 (by decide) ?_
          refine xput C hP hD hS 4 rfl rfl zuX12 tyX12 tyX12_ok nmX12 31 (by decide) zw6_4 rfl rfl rfl (Nat.le_of_ble_eq_true rfl) dX12_chain_45 ?_
          clear hP hD hS
          try clear locs
          try clear H
          intro H locs hP hD hS
          replace hP : va_P D vwCl [(maa, .inl (cs 1, 9, .inr (.inl aaf))), (mab, .inl (cs 1, 9, .inr (.inl abf))), (mba, .inl (cs 1, 9, .inr (.inl baf))), (mbb, .inl (cs 1, 9, .inr (.inl bbf))), (hm, .inr (12, [.ref ms, .ref mkp, .int (nI km), .ref mtr, .int (nI n), .int (nI k), .int (nI al), .int (nI be), .int ea, .int pr, .ref mas, .int nq, .int po, .int (nI en), .ref mso, .ref mon, .ref mot, .ref man, .int (nI 0), .int xd, .ref mst, .ref msm, .ref mtb, .ref mti, .ref mfr, .ref mbn, .ref mbs, .ref mde, .int sF, .int sN, .int sS, .int (nI 0), .long xa, .long xb, .ref maa, .ref mab, .ref mba, .ref mbb]))] H := hP
          replace hD : va_D A [(maa, .inl (cs 1, 9, .inr (.inl aaf))), (mab, .inl (cs 1, 9, .inr (.inl abf))), (mba, .inl (cs 1, 9, .inr (.inl baf))), (mbb, .inl (cs 1, 9, .inr (.inl bbf))), (hm, .inr (12, [.ref ms, .ref mkp, .int (nI km), .ref mtr, .int (nI n), .int (nI k), .int (nI al), .int (nI be), .int ea, .int pr, .ref mas, .int nq, .int po, .int (nI en), .ref mso, .ref mon, .ref mot, .ref man, .int (nI 0), .int xd, .ref mst, .ref msm, .ref mtb, .ref mti, .ref mfr, .ref mbn, .ref mbs, .ref mde, .int sF, .int sN, .int sS, .int (nI 0), .long xa, .long xb, .ref maa, .ref mab, .ref mba, .ref mbb]))] := hD
          refine lv_aload_n hx hb dX12_chain_48 rfl (lv_at hl 0 rfl) ?_
          refine lv_iload_n hx hb dX12_chain_49 rfl (lv_at hl 2 rfl) ?_
          refine lv_iconst (v := nI 1) hx hb dX12_chain_50 (by decide) ?_
          refine lv_icmp_le (tgt := 58) hx hb dX12_chain_51 (by decide) (fun c_90 => ?_) (fun c_90 => ?_)
          · -- 51 t
            refine lv_iconst (v := nI 0) hx hb dX12_chain_58 (by decide) ?_
            refine xv (wr := []) (xV (As := [.int (nI 0)]) (rest := []) C (c_X12_laysSteps l D cs hm ms mkp mtr mas mso mon mot man mst msm mtb mti mfr mbn mbs mde maa mab mba mbb n k al be km en ea pr nq po (nI 0) xd sF sN sS (nI 0) xa xb aaf abf baf bbf (nI 0) hn hkn hal) kX12_302 hP hD [4, 0, 1, 2, 3] rfl (by decide +kernel) 0 rfl rfl rfl ⟨Nat.le_of_ble_eq_true rfl, Nat.le_of_ble_eq_true rfl⟩ rfl hl.1 rfl (Nat.le_of_ble_eq_true rfl) dX12_chain_59 ⟨Nat.le_of_ble_eq_true rfl, Nat.le_of_ble_eq_true rfl⟩) hP hD hS hA [4, 0, 1, 2, 3] [] rfl rfl (by decide +kernel) (by decide +kernel) ?_
            clear hP hD hS
            try clear locs
            try clear H
            intro u_92 H locs hw_r_91 hP hD hS
            obtain ⟨igz_93, xaz_94, xbz_95, aaz_96, abz_97, baz_98, bbz_99⟩ := u_92
            have hw_r_91 : gr igz_93 ∨ ∀ j, j < n → ¬ abz_97 j = 0 ∧ ¬ bbz_99 j = 0 := hw_r_91
            refine W.widen (k := 0) (n := 0) (Nat.le_of_ble_eq_true rfl) (Nat.le_of_ble_eq_true rfl) ?_
            replace hP : va_P D vwCl [(hm, .inr (12, [.ref ms, .ref mkp, .int (nI km), .ref mtr, .int (nI n), .int (nI k), .int (nI al), .int (nI be), .int ea, .int pr, .ref mas, .int nq, .int po, .int (nI en), .ref mso, .ref mon, .ref mot, .ref man, .int (nI 0), .int xd, .ref mst, .ref msm, .ref mtb, .ref mti, .ref mfr, .ref mbn, .ref mbs, .ref mde, .int sF, .int sN, .int sS, .int igz_93, .long xaz_94, .long xbz_95, .ref maa, .ref mab, .ref mba, .ref mbb])), (maa, .inl (cs 1, 9, .inr (.inl aaz_96))), (mab, .inl (cs 1, 9, .inr (.inl abz_97))), (mba, .inl (cs 1, 9, .inr (.inl baz_98))), (mbb, .inl (cs 1, 9, .inr (.inl bbz_99)))] H := hP
            replace hD : va_D A [(hm, .inr (12, [.ref ms, .ref mkp, .int (nI km), .ref mtr, .int (nI n), .int (nI k), .int (nI al), .int (nI be), .int ea, .int pr, .ref mas, .int nq, .int po, .int (nI en), .ref mso, .ref mon, .ref mot, .ref man, .int (nI 0), .int xd, .ref mst, .ref msm, .ref mtb, .ref mti, .ref mfr, .ref mbn, .ref mbs, .ref mde, .int sF, .int sN, .int sS, .int igz_93, .long xaz_94, .long xbz_95, .ref maa, .ref mab, .ref mba, .ref mbb])), (maa, .inl (cs 1, 9, .inr (.inl aaz_96))), (mab, .inl (cs 1, 9, .inr (.inl abz_97))), (mba, .inl (cs 1, 9, .inr (.inl baz_98))), (mbb, .inl (cs 1, 9, .inr (.inl bbz_99)))] := hD
            refine lv_aload_n hx hb dX12_chain_62 rfl (lv_at hl 0 rfl) ?_
            refine xget C hP 0 rfl rfl zuX12 31 (by decide) zw6_4 rfl dX12_chain_63 ?_
            refine lv_if_ne (tgt := 103) hx hb dX12_chain_66 (by decide) (fun c_100 => ?_) (fun c_100 => ?_)
            · -- 66 t
              refine lv_aload_n hx hb dX12_chain_103 rfl (lv_at hl 0 rfl) ?_
              refine xget C hP 0 rfl rfl zuX12 31 (by decide) zw6_4 rfl dX12_chain_104 ?_
              refine lv_if_eq (tgt := 114) hx hb dX12_chain_107 (by decide) (fun c_101 => ?_) (fun c_101 => ?_)
              · -- 107 t
                refine lv_iload_n hx hb dX12_chain_114 rfl (lv_at hl 2 rfl) ?_
                refine lv_iconst (v := nI 2) hx hb dX12_chain_115 (by decide) ?_
                refine lv_irem hx hb dX12_chain_116 (by decide) ?_
                refine lv_if_ne (tgt := 127) hx hb dX12_chain_117 (by decide) (fun c_102 => ?_) (fun c_102 => ?_)
                · -- 117 t
                  refine lv_aload_n hx hb dX12_chain_127 rfl (lv_at hl 0 rfl) ?_
                  refine xget C hP 0 rfl rfl zuX12 33 (by decide) zw6_6 rfl dX12_chain_128 ?_
                  exact xretl C (⟨igz_93, xaz_94, xbz_95, aaz_96, abz_97, baz_98, bbz_99⟩) trivial hP hD hS (Nat.le_of_ble_eq_true rfl) (Nat.le_of_ble_eq_true rfl) dX12_chain_131
                · -- 117 f
                  refine lv_aload_n hx hb dX12_chain_120 rfl (lv_at hl 0 rfl) ?_
                  refine xget C hP 0 rfl rfl zuX12 32 (by decide) zw6_5 rfl dX12_chain_121 ?_
                  refine lv_goto (tgt := 131) hx hb dX12_chain_124 (by decide) ?_
                  exact xretl C (⟨igz_93, xaz_94, xbz_95, aaz_96, abz_97, baz_98, bbz_99⟩) trivial hP hD hS (Nat.le_of_ble_eq_true rfl) (Nat.le_of_ble_eq_true rfl) dX12_chain_131
              · -- 107 f
                refine lv_ldc2 (v := (-2)) hx hb hown (hz _ zw6_202) dX12_chain_110 ?_
                exact xretl C (⟨igz_93, xaz_94, xbz_95, aaz_96, abz_97, baz_98, bbz_99⟩) trivial hP hD hS (Nat.le_of_ble_eq_true rfl) (Nat.le_of_ble_eq_true rfl) dX12_chain_113
            · -- 66 f
              refine lv_aload_n hx hb dX12_chain_69 rfl (lv_at hl 0 rfl) ?_
              refine lv_iload_n hx hb dX12_chain_70 rfl (lv_at hl 1 rfl) ?_
              refine lv_iload_n hx hb dX12_chain_71 rfl (lv_at hl 2 rfl) ?_
              refine lv_iconst (v := nI 1) hx hb dX12_chain_72 (by decide) ?_
              refine lv_icmp_le (tgt := 80) hx hb dX12_chain_73 (by decide) (fun c_103 => ?_) (fun c_103 => ?_)
              · -- 73 t
                refine lv_lconst (v := 1) hx hb dX12_chain_80 (by decide) ?_
                refine xv (wr := []) (xV (As := [.int (nI j), .long 1]) (rest := []) C (c_X12_goesDown l D cs hm ms mkp mtr mas mso mon mot man mst msm mtb mti mfr mbn mbs mde maa mab mba mbb n k al be km en ea pr nq po (nI 0) xd sF sN sS igz_93 xaz_94 xbz_95 aaz_96 abz_97 baz_98 bbz_99 j 1 hn h_j (hw_r_91.resolve_left (fun g => g c_100))) kX12_306 hP hD [0, 1, 2, 3, 4] rfl (by decide +kernel) 0 rfl rfl rfl ⟨Nat.le_of_ble_eq_true rfl, Nat.le_of_ble_eq_true rfl⟩ rfl hl.1 rfl (Nat.le_of_ble_eq_true rfl) dX12_chain_81 ⟨Nat.le_of_ble_eq_true rfl, Nat.le_of_ble_eq_true rfl⟩) hP hD hS hA [0, 1, 2, 3, 4] [] rfl rfl (by decide +kernel) (by decide +kernel) ?_
                clear hP hD hS
                try clear locs
                try clear H
                intro u_105 H locs hw_r_104 hP hD hS
                obtain ⟨igz_106, xaz_107, xbz_108⟩ := u_105
                refine W.widen (k := 0) (n := 0) (Nat.le_of_ble_eq_true rfl) (Nat.le_of_ble_eq_true rfl) ?_
                replace hP : va_P D vwCl [(hm, .inr (12, [.ref ms, .ref mkp, .int (nI km), .ref mtr, .int (nI n), .int (nI k), .int (nI al), .int (nI be), .int ea, .int pr, .ref mas, .int nq, .int po, .int (nI en), .ref mso, .ref mon, .ref mot, .ref man, .int (nI 0), .int xd, .ref mst, .ref msm, .ref mtb, .ref mti, .ref mfr, .ref mbn, .ref mbs, .ref mde, .int sF, .int sN, .int sS, .int igz_106, .long xaz_107, .long xbz_108, .ref maa, .ref mab, .ref mba, .ref mbb])), (maa, .inl (cs 1, 9, .inr (.inl aaz_96))), (mab, .inl (cs 1, 9, .inr (.inl abz_97))), (mba, .inl (cs 1, 9, .inr (.inl baz_98))), (mbb, .inl (cs 1, 9, .inr (.inl bbz_99)))] H := hP
                replace hD : va_D A [(hm, .inr (12, [.ref ms, .ref mkp, .int (nI km), .ref mtr, .int (nI n), .int (nI k), .int (nI al), .int (nI be), .int ea, .int pr, .ref mas, .int nq, .int po, .int (nI en), .ref mso, .ref mon, .ref mot, .ref man, .int (nI 0), .int xd, .ref mst, .ref msm, .ref mtb, .ref mti, .ref mfr, .ref mbn, .ref mbs, .ref mde, .int sF, .int sN, .int sS, .int igz_106, .long xaz_107, .long xbz_108, .ref maa, .ref mab, .ref mba, .ref mbb])), (maa, .inl (cs 1, 9, .inr (.inl aaz_96))), (mab, .inl (cs 1, 9, .inr (.inl abz_97))), (mba, .inl (cs 1, 9, .inr (.inl baz_98))), (mbb, .inl (cs 1, 9, .inr (.inl bbz_99)))] := hD
                refine lv_iload_n hx hb dX12_chain_84 rfl (lv_at hl 2 rfl) ?_
                refine lv_iconst (v := nI 1) hx hb dX12_chain_85 (by decide) ?_
                refine lv_icmp_le (tgt := 103) hx hb dX12_chain_86 (by decide) (fun c_109 => ?_) (fun c_109 => ?_)
                · -- 86 t
                  refine lv_aload_n hx hb dX12_chain_103 rfl (lv_at hl 0 rfl) ?_
                  refine xget C hP 0 rfl rfl zuX12 31 (by decide) zw6_4 rfl dX12_chain_104 ?_
                  refine lv_if_eq (tgt := 114) hx hb dX12_chain_107 (by decide) (fun c_110 => ?_) (fun c_110 => ?_)
                  · -- 107 t
                    refine lv_iload_n hx hb dX12_chain_114 rfl (lv_at hl 2 rfl) ?_
                    refine lv_iconst (v := nI 2) hx hb dX12_chain_115 (by decide) ?_
                    refine lv_irem hx hb dX12_chain_116 (by decide) ?_
                    refine lv_if_ne (tgt := 127) hx hb dX12_chain_117 (by decide) (fun c_111 => ?_) (fun c_111 => ?_)
                    · -- 117 t
                      refine lv_aload_n hx hb dX12_chain_127 rfl (lv_at hl 0 rfl) ?_
                      refine xget C hP 0 rfl rfl zuX12 33 (by decide) zw6_6 rfl dX12_chain_128 ?_
                      exact xretl C (⟨igz_106, xaz_107, xbz_108, aaz_96, abz_97, baz_98, bbz_99⟩) trivial hP hD hS (Nat.le_of_ble_eq_true rfl) (Nat.le_of_ble_eq_true rfl) dX12_chain_131
                    · -- 117 f
                      refine lv_aload_n hx hb dX12_chain_120 rfl (lv_at hl 0 rfl) ?_
                      refine xget C hP 0 rfl rfl zuX12 32 (by decide) zw6_5 rfl dX12_chain_121 ?_
                      refine lv_goto (tgt := 131) hx hb dX12_chain_124 (by decide) ?_
                      exact xretl C (⟨igz_106, xaz_107, xbz_108, aaz_96, abz_97, baz_98, bbz_99⟩) trivial hP hD hS (Nat.le_of_ble_eq_true rfl) (Nat.le_of_ble_eq_true rfl) dX12_chain_131
                  · -- 107 f
                    refine lv_ldc2 (v := (-2)) hx hb hown (hz _ zw6_202) dX12_chain_110 ?_
                    exact xretl C (⟨igz_106, xaz_107, xbz_108, aaz_96, abz_97, baz_98, bbz_99⟩) trivial hP hD hS (Nat.le_of_ble_eq_true rfl) (Nat.le_of_ble_eq_true rfl) dX12_chain_113
                · -- 86 f
                  refine lv_iload_n hx hb dX12_chain_89 rfl (lv_at hl 1 rfl) ?_
                  refine lv_if_ne (tgt := 103) hx hb dX12_chain_90 (by decide) (fun c_112 => ?_) (fun c_112 => ?_)
                  · -- 90 t
                    have fc_112 : j ≠ 0 := nf_ne (by omega) (by omega) c_112
                    refine lv_aload_n hx hb dX12_chain_103 rfl (lv_at hl 0 rfl) ?_
                    refine xget C hP 0 rfl rfl zuX12 31 (by decide) zw6_4 rfl dX12_chain_104 ?_
                    refine lv_if_eq (tgt := 114) hx hb dX12_chain_107 (by decide) (fun c_113 => ?_) (fun c_113 => ?_)
                    · -- 107 t
                      refine lv_iload_n hx hb dX12_chain_114 rfl (lv_at hl 2 rfl) ?_
                      refine lv_iconst (v := nI 2) hx hb dX12_chain_115 (by decide) ?_
                      refine lv_irem hx hb dX12_chain_116 (by decide) ?_
                      refine lv_if_ne (tgt := 127) hx hb dX12_chain_117 (by decide) (fun c_114 => ?_) (fun c_114 => ?_)
                      · -- 117 t
                        refine lv_aload_n hx hb dX12_chain_127 rfl (lv_at hl 0 rfl) ?_
                        refine xget C hP 0 rfl rfl zuX12 33 (by decide) zw6_6 rfl dX12_chain_128 ?_
                        exact xretl C (⟨igz_106, xaz_107, xbz_108, aaz_96, abz_97, baz_98, bbz_99⟩) trivial hP hD hS (Nat.le_of_ble_eq_true rfl) (Nat.le_of_ble_eq_true rfl) dX12_chain_131
                      · -- 117 f
                        refine lv_aload_n hx hb dX12_chain_120 rfl (lv_at hl 0 rfl) ?_
                        refine xget C hP 0 rfl rfl zuX12 32 (by decide) zw6_5 rfl dX12_chain_121 ?_
                        refine lv_goto (tgt := 131) hx hb dX12_chain_124 (by decide) ?_
                        exact xretl C (⟨igz_106, xaz_107, xbz_108, aaz_96, abz_97, baz_98, bbz_99⟩) trivial hP hD hS (Nat.le_of_ble_eq_true rfl) (Nat.le_of_ble_eq_true rfl) dX12_chain_131
                    · -- 107 f
                      refine lv_ldc2 (v := (-2)) hx hb hown (hz _ zw6_202) dX12_chain_110 ?_
                      exact xretl C (⟨igz_106, xaz_107, xbz_108, aaz_96, abz_97, baz_98, bbz_99⟩) trivial hP hD hS (Nat.le_of_ble_eq_true rfl) (Nat.le_of_ble_eq_true rfl) dX12_chain_113
                  · -- 90 f
                    have fc_112 : j = 0 := nf_eq (by omega) (by omega) c_112
                    refine lv_aload_n hx hb dX12_chain_93 rfl (lv_at hl 0 rfl) ?_
                    refine lv_lconst (v := 0) hx hb dX12_chain_94 (by decide) ?_
                    refine xput C hP hD hS 0 rfl rfl zuX12 tyX12 tyX12_ok nmX12 32 (by decide) zw6_5 rfl rfl rfl (Nat.le_of_ble_eq_true rfl) dX12_chain_95 ?_
                    clear hP hD hS
                    try clear locs
                    try clear H
                    intro H locs hP hD hS
                    replace hP : va_P D vwCl [(hm, .inr (12, [.ref ms, .ref mkp, .int (nI km), .ref mtr, .int (nI n), .int (nI k), .int (nI al), .int (nI be), .int ea, .int pr, .ref mas, .int nq, .int po, .int (nI en), .ref mso, .ref mon, .ref mot, .ref man, .int (nI 0), .int xd, .ref mst, .ref msm, .ref mtb, .ref mti, .ref mfr, .ref mbn, .ref mbs, .ref mde, .int sF, .int sN, .int sS, .int igz_106, .long 0, .long xbz_108, .ref maa, .ref mab, .ref mba, .ref mbb])), (maa, .inl (cs 1, 9, .inr (.inl aaz_96))), (mab, .inl (cs 1, 9, .inr (.inl abz_97))), (mba, .inl (cs 1, 9, .inr (.inl baz_98))), (mbb, .inl (cs 1, 9, .inr (.inl bbz_99)))] H := hP
                    replace hD : va_D A [(hm, .inr (12, [.ref ms, .ref mkp, .int (nI km), .ref mtr, .int (nI n), .int (nI k), .int (nI al), .int (nI be), .int ea, .int pr, .ref mas, .int nq, .int po, .int (nI en), .ref mso, .ref mon, .ref mot, .ref man, .int (nI 0), .int xd, .ref mst, .ref msm, .ref mtb, .ref mti, .ref mfr, .ref mbn, .ref mbs, .ref mde, .int sF, .int sN, .int sS, .int igz_106, .long 0, .long xbz_108, .ref maa, .ref mab, .ref mba, .ref mbb])), (maa, .inl (cs 1, 9, .inr (.inl aaz_96))), (mab, .inl (cs 1, 9, .inr (.inl abz_97))), (mba, .inl (cs 1, 9, .inr (.inl baz_98))), (mbb, .inl (cs 1, 9, .inr (.inl bbz_99)))] := hD
                    refine lv_aload_n hx hb dX12_chain_98 rfl (lv_at hl 0 rfl) ?_
                    refine lv_lconst (v := 1) hx hb dX12_chain_99 (by decide) ?_
                    refine xput C hP hD hS 0 rfl rfl zuX12 tyX12 tyX12_ok nmX12 33 (by decide) zw6_6 rfl rfl rfl (Nat.le_of_ble_eq_true rfl) dX12_chain_100 ?_
                    clear hP hD hS
                    try clear locs
                    try clear H
                    intro H locs hP hD hS
                    replace hP : va_P D vwCl [(hm, .inr (12, [.ref ms, .ref mkp, .int (nI km), .ref mtr, .int (nI n), .int (nI k), .int (nI al), .int (nI be), .int ea, .int pr, .ref mas, .int nq, .int po, .int (nI en), .ref mso, .ref mon, .ref mot, .ref man, .int (nI 0), .int xd, .ref mst, .ref msm, .ref mtb, .ref mti, .ref mfr, .ref mbn, .ref mbs, .ref mde, .int sF, .int sN, .int sS, .int igz_106, .long 0, .long 1, .ref maa, .ref mab, .ref mba, .ref mbb])), (maa, .inl (cs 1, 9, .inr (.inl aaz_96))), (mab, .inl (cs 1, 9, .inr (.inl abz_97))), (mba, .inl (cs 1, 9, .inr (.inl baz_98))), (mbb, .inl (cs 1, 9, .inr (.inl bbz_99)))] H := hP
                    replace hD : va_D A [(hm, .inr (12, [.ref ms, .ref mkp, .int (nI km), .ref mtr, .int (nI n), .int (nI k), .int (nI al), .int (nI be), .int ea, .int pr, .ref mas, .int nq, .int po, .int (nI en), .ref mso, .ref mon, .ref mot, .ref man, .int (nI 0), .int xd, .ref mst, .ref msm, .ref mtb, .ref mti, .ref mfr, .ref mbn, .ref mbs, .ref mde, .int sF, .int sN, .int sS, .int igz_106, .long 0, .long 1, .ref maa, .ref mab, .ref mba, .ref mbb])), (maa, .inl (cs 1, 9, .inr (.inl aaz_96))), (mab, .inl (cs 1, 9, .inr (.inl abz_97))), (mba, .inl (cs 1, 9, .inr (.inl baz_98))), (mbb, .inl (cs 1, 9, .inr (.inl bbz_99)))] := hD
                    refine lv_aload_n hx hb dX12_chain_103 rfl (lv_at hl 0 rfl) ?_
                    refine xget C hP 0 rfl rfl zuX12 31 (by decide) zw6_4 rfl dX12_chain_104 ?_
                    refine lv_if_eq (tgt := 114) hx hb dX12_chain_107 (by decide) (fun c_115 => ?_) (fun c_115 => ?_)
                    · -- 107 t
                      refine lv_iload_n hx hb dX12_chain_114 rfl (lv_at hl 2 rfl) ?_
                      refine lv_iconst (v := nI 2) hx hb dX12_chain_115 (by decide) ?_
                      refine lv_irem hx hb dX12_chain_116 (by decide) ?_
                      refine lv_if_ne (tgt := 127) hx hb dX12_chain_117 (by decide) (fun c_116 => ?_) (fun c_116 => ?_)
                      · -- 117 t
                        refine lv_aload_n hx hb dX12_chain_127 rfl (lv_at hl 0 rfl) ?_
                        refine xget C hP 0 rfl rfl zuX12 33 (by decide) zw6_6 rfl dX12_chain_128 ?_
                        exact xretl C (⟨igz_106, 0, 1, aaz_96, abz_97, baz_98, bbz_99⟩) trivial hP hD hS (Nat.le_of_ble_eq_true rfl) (Nat.le_of_ble_eq_true rfl) dX12_chain_131
                      · -- 117 f
                        refine lv_aload_n hx hb dX12_chain_120 rfl (lv_at hl 0 rfl) ?_
                        refine xget C hP 0 rfl rfl zuX12 32 (by decide) zw6_5 rfl dX12_chain_121 ?_
                        refine lv_goto (tgt := 131) hx hb dX12_chain_124 (by decide) ?_
                        exact xretl C (⟨igz_106, 0, 1, aaz_96, abz_97, baz_98, bbz_99⟩) trivial hP hD hS (Nat.le_of_ble_eq_true rfl) (Nat.le_of_ble_eq_true rfl) dX12_chain_131
                    · -- 107 f
                      refine lv_ldc2 (v := (-2)) hx hb hown (hz _ zw6_202) dX12_chain_110 ?_
                      exact xretl C (⟨igz_106, 0, 1, aaz_96, abz_97, baz_98, bbz_99⟩) trivial hP hD hS (Nat.le_of_ble_eq_true rfl) (Nat.le_of_ble_eq_true rfl) dX12_chain_113
              · -- 73 f
                refine lv_lconst (v := 0) hx hb dX12_chain_76 (by decide) ?_
                refine lv_goto (tgt := 81) hx hb dX12_chain_77 (by decide) ?_
                refine xv (wr := []) (xV (As := [.int (nI j), .long 0]) (rest := []) C (c_X12_goesDown l D cs hm ms mkp mtr mas mso mon mot man mst msm mtb mti mfr mbn mbs mde maa mab mba mbb n k al be km en ea pr nq po (nI 0) xd sF sN sS igz_93 xaz_94 xbz_95 aaz_96 abz_97 baz_98 bbz_99 j 0 hn h_j (hw_r_91.resolve_left (fun g => g c_100))) kX12_306 hP hD [0, 1, 2, 3, 4] rfl (by decide +kernel) 0 rfl rfl rfl ⟨Nat.le_of_ble_eq_true rfl, Nat.le_of_ble_eq_true rfl⟩ rfl hl.1 rfl (Nat.le_of_ble_eq_true rfl) dX12_chain_81 ⟨Nat.le_of_ble_eq_true rfl, Nat.le_of_ble_eq_true rfl⟩) hP hD hS hA [0, 1, 2, 3, 4] [] rfl rfl (by decide +kernel) (by decide +kernel) ?_
                clear hP hD hS
                try clear locs
                try clear H
                intro u_118 H locs hw_r_117 hP hD hS
                obtain ⟨igz_119, xaz_120, xbz_121⟩ := u_118
                refine W.widen (k := 0) (n := 0) (Nat.le_of_ble_eq_true rfl) (Nat.le_of_ble_eq_true rfl) ?_
                replace hP : va_P D vwCl [(hm, .inr (12, [.ref ms, .ref mkp, .int (nI km), .ref mtr, .int (nI n), .int (nI k), .int (nI al), .int (nI be), .int ea, .int pr, .ref mas, .int nq, .int po, .int (nI en), .ref mso, .ref mon, .ref mot, .ref man, .int (nI 0), .int xd, .ref mst, .ref msm, .ref mtb, .ref mti, .ref mfr, .ref mbn, .ref mbs, .ref mde, .int sF, .int sN, .int sS, .int igz_119, .long xaz_120, .long xbz_121, .ref maa, .ref mab, .ref mba, .ref mbb])), (maa, .inl (cs 1, 9, .inr (.inl aaz_96))), (mab, .inl (cs 1, 9, .inr (.inl abz_97))), (mba, .inl (cs 1, 9, .inr (.inl baz_98))), (mbb, .inl (cs 1, 9, .inr (.inl bbz_99)))] H := hP
                replace hD : va_D A [(hm, .inr (12, [.ref ms, .ref mkp, .int (nI km), .ref mtr, .int (nI n), .int (nI k), .int (nI al), .int (nI be), .int ea, .int pr, .ref mas, .int nq, .int po, .int (nI en), .ref mso, .ref mon, .ref mot, .ref man, .int (nI 0), .int xd, .ref mst, .ref msm, .ref mtb, .ref mti, .ref mfr, .ref mbn, .ref mbs, .ref mde, .int sF, .int sN, .int sS, .int igz_119, .long xaz_120, .long xbz_121, .ref maa, .ref mab, .ref mba, .ref mbb])), (maa, .inl (cs 1, 9, .inr (.inl aaz_96))), (mab, .inl (cs 1, 9, .inr (.inl abz_97))), (mba, .inl (cs 1, 9, .inr (.inl baz_98))), (mbb, .inl (cs 1, 9, .inr (.inl bbz_99)))] := hD
                refine lv_iload_n hx hb dX12_chain_84 rfl (lv_at hl 2 rfl) ?_
                refine lv_iconst (v := nI 1) hx hb dX12_chain_85 (by decide) ?_
                refine lv_icmp_le (tgt := 103) hx hb dX12_chain_86 (by decide) (fun c_122 => ?_) (fun c_122 => ?_)
                · -- 86 t
                  refine lv_aload_n hx hb dX12_chain_103 rfl (lv_at hl 0 rfl) ?_
                  refine xget C hP 0 rfl rfl zuX12 31 (by decide) zw6_4 rfl dX12_chain_104 ?_
                  refine lv_if_eq (tgt := 114) hx hb dX12_chain_107 (by decide) (fun c_123 => ?_) (fun c_123 => ?_)
                  · -- 107 t
                    refine lv_iload_n hx hb dX12_chain_114 rfl (lv_at hl 2 rfl) ?_
                    refine lv_iconst (v := nI 2) hx hb dX12_chain_115 (by decide) ?_
                    refine lv_irem hx hb dX12_chain_116 (by decide) ?_
                    refine lv_if_ne (tgt := 127) hx hb dX12_chain_117 (by decide) (fun c_124 => ?_) (fun c_124 => ?_)
                    · -- 117 t
                      refine lv_aload_n hx hb dX12_chain_127 rfl (lv_at hl 0 rfl) ?_
                      refine xget C hP 0 rfl rfl zuX12 33 (by decide) zw6_6 rfl dX12_chain_128 ?_
                      exact xretl C (⟨igz_119, xaz_120, xbz_121, aaz_96, abz_97, baz_98, bbz_99⟩) trivial hP hD hS (Nat.le_of_ble_eq_true rfl) (Nat.le_of_ble_eq_true rfl) dX12_chain_131
                    · -- 117 f
                      refine lv_aload_n hx hb dX12_chain_120 rfl (lv_at hl 0 rfl) ?_
                      refine xget C hP 0 rfl rfl zuX12 32 (by decide) zw6_5 rfl dX12_chain_121 ?_
                      refine lv_goto (tgt := 131) hx hb dX12_chain_124 (by decide) ?_
                      exact xretl C (⟨igz_119, xaz_120, xbz_121, aaz_96, abz_97, baz_98, bbz_99⟩) trivial hP hD hS (Nat.le_of_ble_eq_true rfl) (Nat.le_of_ble_eq_true rfl) dX12_chain_131
                  · -- 107 f
                    refine lv_ldc2 (v := (-2)) hx hb hown (hz _ zw6_202) dX12_chain_110 ?_
                    exact xretl C (⟨igz_119, xaz_120, xbz_121, aaz_96, abz_97, baz_98, bbz_99⟩) trivial hP hD hS (Nat.le_of_ble_eq_true rfl) (Nat.le_of_ble_eq_true rfl) dX12_chain_113
                · -- 86 f
                  refine lv_iload_n hx hb dX12_chain_89 rfl (lv_at hl 1 rfl) ?_
                  refine lv_if_ne (tgt := 103) hx hb dX12_chain_90 (by decide) (fun c_125 => ?_) (fun c_125 => ?_)
                  · -- 90 t
                    have fc_125 : j ≠ 0 := nf_ne (by omega) (by omega) c_125
                    refine lv_aload_n hx hb dX12_chain_103 rfl (lv_at hl 0 rfl) ?_
                    refine xget C hP 0 rfl rfl zuX12 31 (by decide) zw6_4 rfl dX12_chain_104 ?_
                    refine lv_if_eq (tgt := 114) hx hb dX12_chain_107 (by decide) (fun c_126 => ?_) (fun c_126 => ?_)
                    · -- 107 t
                      refine lv_iload_n hx hb dX12_chain_114 rfl (lv_at hl 2 rfl) ?_
                      refine lv_iconst (v := nI 2) hx hb dX12_chain_115 (by decide) ?_
                      refine lv_irem hx hb dX12_chain_116 (by decide) ?_
                      refine lv_if_ne (tgt := 127) hx hb dX12_chain_117 (by decide) (fun c_127 => ?_) (fun c_127 => ?_)
                      · -- 117 t
                        refine lv_aload_n hx hb dX12_chain_127 rfl (lv_at hl 0 rfl) ?_
                        refine xget C hP 0 rfl rfl zuX12 33 (by decide) zw6_6 rfl dX12_chain_128 ?_
                        exact xretl C (⟨igz_119, xaz_120, xbz_121, aaz_96, abz_97, baz_98, bbz_99⟩) trivial hP hD hS (Nat.le_of_ble_eq_true rfl) (Nat.le_of_ble_eq_true rfl) dX12_chain_131
                      · -- 117 f
                        refine lv_aload_n hx hb dX12_chain_120 rfl (lv_at hl 0 rfl) ?_
                        refine xget C hP 0 rfl rfl zuX12 32 (by decide) zw6_5 rfl dX12_chain_121 ?_
                        refine lv_goto (tgt := 131) hx hb dX12_chain_124 (by decide) ?_
                        exact xretl C (⟨igz_119, xaz_120, xbz_121, aaz_96, abz_97, baz_98, bbz_99⟩) trivial hP hD hS (Nat.le_of_ble_eq_true rfl) (Nat.le_of_ble_eq_true rfl) dX12_chain_131
                    · -- 107 f
                      refine lv_ldc2 (v := (-2)) hx hb hown (hz _ zw6_202) dX12_chain_110 ?_
                      exact xretl C (⟨igz_119, xaz_120, xbz_121, aaz_96, abz_97, baz_98, bbz_99⟩) trivial hP hD hS (Nat.le_of_ble_eq_true rfl) (Nat.le_of_ble_eq_true rfl) dX12_chain_113
                  · -- 90 f
                    have fc_125 : j = 0 := nf_eq (by omega) (by omega) c_125
                    refine lv_aload_n hx hb dX12_chain_93 rfl (lv_at hl 0 rfl) ?_
                    refine lv_lconst (v := 0) hx hb dX12_chain_94 (by decide) ?_
                    refine xput C hP hD hS 0 rfl rfl zuX12 tyX12 tyX12_ok nmX12 32 (by decide) zw6_5 rfl rfl rfl (Nat.le_of_ble_eq_true rfl) dX12_chain_95 ?_
                    clear hP hD hS
                    try clear locs
                    try clear H
                    intro H locs hP hD hS
                    replace hP : va_P D vwCl [(hm, .inr (12, [.ref ms, .ref mkp, .int (nI km), .ref mtr, .int (nI n), .int (nI k), .int (nI al), .int (nI be), .int ea, .int pr, .ref mas, .int nq, .int po, .int (nI en), .ref mso, .ref mon, .ref mot, .ref man, .int (nI 0), .int xd, .ref mst, .ref msm, .ref mtb, .ref mti, .ref mfr, .ref mbn, .ref mbs, .ref mde, .int sF, .int sN, .int sS, .int igz_119, .long 0, .long xbz_121, .ref maa, .ref mab, .ref mba, .ref mbb])), (maa, .inl (cs 1, 9, .inr (.inl aaz_96))), (mab, .inl (cs 1, 9, .inr (.inl abz_97))), (mba, .inl (cs 1, 9, .inr (.inl baz_98))), (mbb, .inl (cs 1, 9, .inr (.inl bbz_99)))] H := hP
                    replace hD : va_D A [(hm, .inr (12, [.ref ms, .ref mkp, .int (nI km), .ref mtr, .int (nI n), .int (nI k), .int (nI al), .int (nI be), .int ea, .int pr, .ref mas, .int nq, .int po, .int (nI en), .ref mso, .ref mon, .ref mot, .ref man, .int (nI 0), .int xd, .ref mst, .ref msm, .ref mtb, .ref mti, .ref mfr, .ref mbn, .ref mbs, .ref mde, .int sF, .int sN, .int sS, .int igz_119, .long 0, .long xbz_121, .ref maa, .ref mab, .ref mba, .ref mbb])), (maa, .inl (cs 1, 9, .inr (.inl aaz_96))), (mab, .inl (cs 1, 9, .inr (.inl abz_97))), (mba, .inl (cs 1, 9, .inr (.inl baz_98))), (mbb, .inl (cs 1, 9, .inr (.inl bbz_99)))] := hD
                    refine lv_aload_n hx hb dX12_chain_98 rfl (lv_at hl 0 rfl) ?_
                    refine lv_lconst (v := 1) hx hb dX12_chain_99 (by decide) ?_
                    refine xput C hP hD hS 0 rfl rfl zuX12 tyX12 tyX12_ok nmX12 33 (by decide) zw6_6 rfl rfl rfl (Nat.le_of_ble_eq_true rfl) dX12_chain_100 ?_
                    clear hP hD hS
                    try clear locs
                    try clear H
                    intro H locs hP hD hS
                    replace hP : va_P D vwCl [(hm, .inr (12, [.ref ms, .ref mkp, .int (nI km), .ref mtr, .int (nI n), .int (nI k), .int (nI al), .int (nI be), .int ea, .int pr, .ref mas, .int nq, .int po, .int (nI en), .ref mso, .ref mon, .ref mot, .ref man, .int (nI 0), .int xd, .ref mst, .ref msm, .ref mtb, .ref mti, .ref mfr, .ref mbn, .ref mbs, .ref mde, .int sF, .int sN, .int sS, .int igz_119, .long 0, .long 1, .ref maa, .ref mab, .ref mba, .ref mbb])), (maa, .inl (cs 1, 9, .inr (.inl aaz_96))), (mab, .inl (cs 1, 9, .inr (.inl abz_97))), (mba, .inl (cs 1, 9, .inr (.inl baz_98))), (mbb, .inl (cs 1, 9, .inr (.inl bbz_99)))] H := hP
                    replace hD : va_D A [(hm, .inr (12, [.ref ms, .ref mkp, .int (nI km), .ref mtr, .int (nI n), .int (nI k), .int (nI al), .int (nI be), .int ea, .int pr, .ref mas, .int nq, .int po, .int (nI en), .ref mso, .ref mon, .ref mot, .ref man, .int (nI 0), .int xd, .ref mst, .ref msm, .ref mtb, .ref mti, .ref mfr, .ref mbn, .ref mbs, .ref mde, .int sF, .int sN, .int sS, .int igz_119, .long 0, .long 1, .ref maa, .ref mab, .ref mba, .ref mbb])), (maa, .inl (cs 1, 9, .inr (.inl aaz_96))), (mab, .inl (cs 1, 9, .inr (.inl abz_97))), (mba, .inl (cs 1, 9, .inr (.inl baz_98))), (mbb, .inl (cs 1, 9, .inr (.inl bbz_99)))] := hD
                    refine lv_aload_n hx hb dX12_chain_103 rfl (lv_at hl 0 rfl) ?_
                    refine xget C hP 0 rfl rfl zuX12 31 (by decide) zw6_4 rfl dX12_chain_104 ?_
                    refine lv_if_eq (tgt := 114) hx hb dX12_chain_107 (by decide) (fun c_128 => ?_) (fun c_128 => ?_)
                    · -- 107 t
                      refine lv_iload_n hx hb dX12_chain_114 rfl (lv_at hl 2 rfl) ?_
                      refine lv_iconst (v := nI 2) hx hb dX12_chain_115 (by decide) ?_
                      refine lv_irem hx hb dX12_chain_116 (by decide) ?_
                      refine lv_if_ne (tgt := 127) hx hb dX12_chain_117 (by decide) (fun c_129 => ?_) (fun c_129 => ?_)
                      · -- 117 t
                        refine lv_aload_n hx hb dX12_chain_127 rfl (lv_at hl 0 rfl) ?_
                        refine xget C hP 0 rfl rfl zuX12 33 (by decide) zw6_6 rfl dX12_chain_128 ?_
                        exact xretl C (⟨igz_119, 0, 1, aaz_96, abz_97, baz_98, bbz_99⟩) trivial hP hD hS (Nat.le_of_ble_eq_true rfl) (Nat.le_of_ble_eq_true rfl) dX12_chain_131
                      · -- 117 f
                        refine lv_aload_n hx hb dX12_chain_120 rfl (lv_at hl 0 rfl) ?_
                        refine xget C hP 0 rfl rfl zuX12 32 (by decide) zw6_5 rfl dX12_chain_121 ?_
                        refine lv_goto (tgt := 131) hx hb dX12_chain_124 (by decide) ?_
                        exact xretl C (⟨igz_119, 0, 1, aaz_96, abz_97, baz_98, bbz_99⟩) trivial hP hD hS (Nat.le_of_ble_eq_true rfl) (Nat.le_of_ble_eq_true rfl) dX12_chain_131
                    · -- 107 f
                      refine lv_ldc2 (v := (-2)) hx hb hown (hz _ zw6_202) dX12_chain_110 ?_
                      exact xretl C (⟨igz_119, 0, 1, aaz_96, abz_97, baz_98, bbz_99⟩) trivial hP hD hS (Nat.le_of_ble_eq_true rfl) (Nat.le_of_ble_eq_true rfl) dX12_chain_113
          · -- 51 f
            refine lv_iconst (v := nI 1) hx hb dX12_chain_54 (by decide) ?_
            refine lv_goto (tgt := 59) hx hb dX12_chain_55 (by decide) ?_
            refine xv (wr := []) (xV (As := [.int (nI 1)]) (rest := []) C (c_X12_laysSteps l D cs hm ms mkp mtr mas mso mon mot man mst msm mtb mti mfr mbn mbs mde maa mab mba mbb n k al be km en ea pr nq po (nI 0) xd sF sN sS (nI 0) xa xb aaf abf baf bbf (nI 1) hn hkn hal) kX12_302 hP hD [4, 0, 1, 2, 3] rfl (by decide +kernel) 0 rfl rfl rfl ⟨Nat.le_of_ble_eq_true rfl, Nat.le_of_ble_eq_true rfl⟩ rfl hl.1 rfl (Nat.le_of_ble_eq_true rfl) dX12_chain_59 ⟨Nat.le_of_ble_eq_true rfl, Nat.le_of_ble_eq_true rfl⟩) hP hD hS hA [4, 0, 1, 2, 3] [] rfl rfl (by decide +kernel) (by decide +kernel) ?_
            clear hP hD hS
            try clear locs
            try clear H
            intro u_131 H locs hw_r_130 hP hD hS
            obtain ⟨igz_132, xaz_133, xbz_134, aaz_135, abz_136, baz_137, bbz_138⟩ := u_131
            have hw_r_130 : gr igz_132 ∨ ∀ j, j < n → ¬ abz_136 j = 0 ∧ ¬ bbz_138 j = 0 := hw_r_130
            refine W.widen (k := 0) (n := 0) (Nat.le_of_ble_eq_true rfl) (Nat.le_of_ble_eq_true rfl) ?_
            replace hP : va_P D vwCl [(hm, .inr (12, [.ref ms, .ref mkp, .int (nI km), .ref mtr, .int (nI n), .int (nI k), .int (nI al), .int (nI be), .int ea, .int pr, .ref mas, .int nq, .int po, .int (nI en), .ref mso, .ref mon, .ref mot, .ref man, .int (nI 0), .int xd, .ref mst, .ref msm, .ref mtb, .ref mti, .ref mfr, .ref mbn, .ref mbs, .ref mde, .int sF, .int sN, .int sS, .int igz_132, .long xaz_133, .long xbz_134, .ref maa, .ref mab, .ref mba, .ref mbb])), (maa, .inl (cs 1, 9, .inr (.inl aaz_135))), (mab, .inl (cs 1, 9, .inr (.inl abz_136))), (mba, .inl (cs 1, 9, .inr (.inl baz_137))), (mbb, .inl (cs 1, 9, .inr (.inl bbz_138)))] H := hP
            replace hD : va_D A [(hm, .inr (12, [.ref ms, .ref mkp, .int (nI km), .ref mtr, .int (nI n), .int (nI k), .int (nI al), .int (nI be), .int ea, .int pr, .ref mas, .int nq, .int po, .int (nI en), .ref mso, .ref mon, .ref mot, .ref man, .int (nI 0), .int xd, .ref mst, .ref msm, .ref mtb, .ref mti, .ref mfr, .ref mbn, .ref mbs, .ref mde, .int sF, .int sN, .int sS, .int igz_132, .long xaz_133, .long xbz_134, .ref maa, .ref mab, .ref mba, .ref mbb])), (maa, .inl (cs 1, 9, .inr (.inl aaz_135))), (mab, .inl (cs 1, 9, .inr (.inl abz_136))), (mba, .inl (cs 1, 9, .inr (.inl baz_137))), (mbb, .inl (cs 1, 9, .inr (.inl bbz_138)))] := hD
            refine lv_aload_n hx hb dX12_chain_62 rfl (lv_at hl 0 rfl) ?_
            refine xget C hP 0 rfl rfl zuX12 31 (by decide) zw6_4 rfl dX12_chain_63 ?_
            refine lv_if_ne (tgt := 103) hx hb dX12_chain_66 (by decide) (fun c_139 => ?_) (fun c_139 => ?_)
            · -- 66 t
              refine lv_aload_n hx hb dX12_chain_103 rfl (lv_at hl 0 rfl) ?_
              refine xget C hP 0 rfl rfl zuX12 31 (by decide) zw6_4 rfl dX12_chain_104 ?_
              refine lv_if_eq (tgt := 114) hx hb dX12_chain_107 (by decide) (fun c_140 => ?_) (fun c_140 => ?_)
              · -- 107 t
                refine lv_iload_n hx hb dX12_chain_114 rfl (lv_at hl 2 rfl) ?_
                refine lv_iconst (v := nI 2) hx hb dX12_chain_115 (by decide) ?_
                refine lv_irem hx hb dX12_chain_116 (by decide) ?_
                refine lv_if_ne (tgt := 127) hx hb dX12_chain_117 (by decide) (fun c_141 => ?_) (fun c_141 => ?_)
                · -- 117 t
                  refine lv_aload_n hx hb dX12_chain_127 rfl (lv_at hl 0 rfl) ?_
                  refine xget C hP 0 rfl rfl zuX12 33 (by decide) zw6_6 rfl dX12_chain_128 ?_
                  exact xretl C (⟨igz_132, xaz_133, xbz_134, aaz_135, abz_136, baz_137, bbz_138⟩) trivial hP hD hS (Nat.le_of_ble_eq_true rfl) (Nat.le_of_ble_eq_true rfl) dX12_chain_131
                · -- 117 f
                  refine lv_aload_n hx hb dX12_chain_120 rfl (lv_at hl 0 rfl) ?_
                  refine xget C hP 0 rfl rfl zuX12 32 (by decide) zw6_5 rfl dX12_chain_121 ?_
                  refine lv_goto (tgt := 131) hx hb dX12_chain_124 (by decide) ?_
                  exact xretl C (⟨igz_132, xaz_133, xbz_134, aaz_135, abz_136, baz_137, bbz_138⟩) trivial hP hD hS (Nat.le_of_ble_eq_true rfl) (Nat.le_of_ble_eq_true rfl) dX12_chain_131
              · -- 107 f
                refine lv_ldc2 (v := (-2)) hx hb hown (hz _ zw6_202) dX12_chain_110 ?_
                exact xretl C (⟨igz_132, xaz_133, xbz_134, aaz_135, abz_136, baz_137, bbz_138⟩) trivial hP hD hS (Nat.le_of_ble_eq_true rfl) (Nat.le_of_ble_eq_true rfl) dX12_chain_113
            · -- 66 f
              refine lv_aload_n hx hb dX12_chain_69 rfl (lv_at hl 0 rfl) ?_
              refine lv_iload_n hx hb dX12_chain_70 rfl (lv_at hl 1 rfl) ?_
              refine lv_iload_n hx hb dX12_chain_71 rfl (lv_at hl 2 rfl) ?_
              refine lv_iconst (v := nI 1) hx hb dX12_chain_72 (by decide) ?_
              refine lv_icmp_le (tgt := 80) hx hb dX12_chain_73 (by decide) (fun c_142 => ?_) (fun c_142 => ?_)
              · -- 73 t
                refine lv_lconst (v := 1) hx hb dX12_chain_80 (by decide) ?_
                refine xv (wr := []) (xV (As := [.int (nI j), .long 1]) (rest := []) C (c_X12_goesDown l D cs hm ms mkp mtr mas mso mon mot man mst msm mtb mti mfr mbn mbs mde maa mab mba mbb n k al be km en ea pr nq po (nI 0) xd sF sN sS igz_132 xaz_133 xbz_134 aaz_135 abz_136 baz_137 bbz_138 j 1 hn h_j (hw_r_130.resolve_left (fun g => g c_139))) kX12_306 hP hD [0, 1, 2, 3, 4] rfl (by decide +kernel) 0 rfl rfl rfl ⟨Nat.le_of_ble_eq_true rfl, Nat.le_of_ble_eq_true rfl⟩ rfl hl.1 rfl (Nat.le_of_ble_eq_true rfl) dX12_chain_81 ⟨Nat.le_of_ble_eq_true rfl, Nat.le_of_ble_eq_true rfl⟩) hP hD hS hA [0, 1, 2, 3, 4] [] rfl rfl (by decide +kernel) (by decide +kernel) ?_
                clear hP hD hS
                try clear locs
                try clear H
                intro u_144 H locs hw_r_143 hP hD hS
                obtain ⟨igz_145, xaz_146, xbz_147⟩ := u_144
                refine W.widen (k := 0) (n := 0) (Nat.le_of_ble_eq_true rfl) (Nat.le_of_ble_eq_true rfl) ?_
                replace hP : va_P D vwCl [(hm, .inr (12, [.ref ms, .ref mkp, .int (nI km), .ref mtr, .int (nI n), .int (nI k), .int (nI al), .int (nI be), .int ea, .int pr, .ref mas, .int nq, .int po, .int (nI en), .ref mso, .ref mon, .ref mot, .ref man, .int (nI 0), .int xd, .ref mst, .ref msm, .ref mtb, .ref mti, .ref mfr, .ref mbn, .ref mbs, .ref mde, .int sF, .int sN, .int sS, .int igz_145, .long xaz_146, .long xbz_147, .ref maa, .ref mab, .ref mba, .ref mbb])), (maa, .inl (cs 1, 9, .inr (.inl aaz_135))), (mab, .inl (cs 1, 9, .inr (.inl abz_136))), (mba, .inl (cs 1, 9, .inr (.inl baz_137))), (mbb, .inl (cs 1, 9, .inr (.inl bbz_138)))] H := hP
                replace hD : va_D A [(hm, .inr (12, [.ref ms, .ref mkp, .int (nI km), .ref mtr, .int (nI n), .int (nI k), .int (nI al), .int (nI be), .int ea, .int pr, .ref mas, .int nq, .int po, .int (nI en), .ref mso, .ref mon, .ref mot, .ref man, .int (nI 0), .int xd, .ref mst, .ref msm, .ref mtb, .ref mti, .ref mfr, .ref mbn, .ref mbs, .ref mde, .int sF, .int sN, .int sS, .int igz_145, .long xaz_146, .long xbz_147, .ref maa, .ref mab, .ref mba, .ref mbb])), (maa, .inl (cs 1, 9, .inr (.inl aaz_135))), (mab, .inl (cs 1, 9, .inr (.inl abz_136))), (mba, .inl (cs 1, 9, .inr (.inl baz_137))), (mbb, .inl (cs 1, 9, .inr (.inl bbz_138)))] := hD
                refine lv_iload_n hx hb dX12_chain_84 rfl (lv_at hl 2 rfl) ?_
                refine lv_iconst (v := nI 1) hx hb dX12_chain_85 (by decide) ?_
                refine lv_icmp_le (tgt := 103) hx hb dX12_chain_86 (by decide) (fun c_148 => ?_) (fun c_148 => ?_)
                · -- 86 t
                  refine lv_aload_n hx hb dX12_chain_103 rfl (lv_at hl 0 rfl) ?_
                  refine xget C hP 0 rfl rfl zuX12 31 (by decide) zw6_4 rfl dX12_chain_104 ?_
                  refine lv_if_eq (tgt := 114) hx hb dX12_chain_107 (by decide) (fun c_149 => ?_) (fun c_149 => ?_)
                  · -- 107 t
                    refine lv_iload_n hx hb dX12_chain_114 rfl (lv_at hl 2 rfl) ?_
                    refine lv_iconst (v := nI 2) hx hb dX12_chain_115 (by decide) ?_
                    refine lv_irem hx hb dX12_chain_116 (by decide) ?_
                    refine lv_if_ne (tgt := 127) hx hb dX12_chain_117 (by decide) (fun c_150 => ?_) (fun c_150 => ?_)
                    · -- 117 t
                      refine lv_aload_n hx hb dX12_chain_127 rfl (lv_at hl 0 rfl) ?_
                      refine xget C hP 0 rfl rfl zuX12 33 (by decide) zw6_6 rfl dX12_chain_128 ?_
                      exact xretl C (⟨igz_145, xaz_146, xbz_147, aaz_135, abz_136, baz_137, bbz_138⟩) trivial hP hD hS (Nat.le_of_ble_eq_true rfl) (Nat.le_of_ble_eq_true rfl) dX12_chain_131
                    · -- 117 f
                      refine lv_aload_n hx hb dX12_chain_120 rfl (lv_at hl 0 rfl) ?_
                      refine xget C hP 0 rfl rfl zuX12 32 (by decide) zw6_5 rfl dX12_chain_121 ?_
                      refine lv_goto (tgt := 131) hx hb dX12_chain_124 (by decide) ?_
                      exact xretl C (⟨igz_145, xaz_146, xbz_147, aaz_135, abz_136, baz_137, bbz_138⟩) trivial hP hD hS (Nat.le_of_ble_eq_true rfl) (Nat.le_of_ble_eq_true rfl) dX12_chain_131
                  · -- 107 f
                    refine lv_ldc2 (v := (-2)) hx hb hown (hz _ zw6_202) dX12_chain_110 ?_
                    exact xretl C (⟨igz_145, xaz_146, xbz_147, aaz_135, abz_136, baz_137, bbz_138⟩) trivial hP hD hS (Nat.le_of_ble_eq_true rfl) (Nat.le_of_ble_eq_true rfl) dX12_chain_113
                · -- 86 f
                  refine lv_iload_n hx hb dX12_chain_89 rfl (lv_at hl 1 rfl) ?_
                  refine lv_if_ne (tgt := 103) hx hb dX12_chain_90 (by decide) (fun c_151 => ?_) (fun c_151 => ?_)
                  · -- 90 t
                    have fc_151 : j ≠ 0 := nf_ne (by omega) (by omega) c_151
                    refine lv_aload_n hx hb dX12_chain_103 rfl (lv_at hl 0 rfl) ?_
                    refine xget C hP 0 rfl rfl zuX12 31 (by decide) zw6_4 rfl dX12_chain_104 ?_
                    refine lv_if_eq (tgt := 114) hx hb dX12_chain_107 (by decide) (fun c_152 => ?_) (fun c_152 => ?_)
                    · -- 107 t
                      refine lv_iload_n hx hb dX12_chain_114 rfl (lv_at hl 2 rfl) ?_
                      refine lv_iconst (v := nI 2) hx hb dX12_chain_115 (by decide) ?_
                      refine lv_irem hx hb dX12_chain_116 (by decide) ?_
                      refine lv_if_ne (tgt := 127) hx hb dX12_chain_117 (by decide) (fun c_153 => ?_) (fun c_153 => ?_)
                      · -- 117 t
                        refine lv_aload_n hx hb dX12_chain_127 rfl (lv_at hl 0 rfl) ?_
                        refine xget C hP 0 rfl rfl zuX12 33 (by decide) zw6_6 rfl dX12_chain_128 ?_
                        exact xretl C (⟨igz_145, xaz_146, xbz_147, aaz_135, abz_136, baz_137, bbz_138⟩) trivial hP hD hS (Nat.le_of_ble_eq_true rfl) (Nat.le_of_ble_eq_true rfl) dX12_chain_131
                      · -- 117 f
                        refine lv_aload_n hx hb dX12_chain_120 rfl (lv_at hl 0 rfl) ?_
                        refine xget C hP 0 rfl rfl zuX12 32 (by decide) zw6_5 rfl dX12_chain_121 ?_
                        refine lv_goto (tgt := 131) hx hb dX12_chain_124 (by decide) ?_
                        exact xretl C (⟨igz_145, xaz_146, xbz_147, aaz_135, abz_136, baz_137, bbz_138⟩) trivial hP hD hS (Nat.le_of_ble_eq_true rfl) (Nat.le_of_ble_eq_true rfl) dX12_chain_131
                    · -- 107 f
                      refine lv_ldc2 (v := (-2)) hx hb hown (hz _ zw6_202) dX12_chain_110 ?_
                      exact xretl C (⟨igz_145, xaz_146, xbz_147, aaz_135, abz_136, baz_137, bbz_138⟩) trivial hP hD hS (Nat.le_of_ble_eq_true rfl) (Nat.le_of_ble_eq_true rfl) dX12_chain_113
                  · -- 90 f
                    have fc_151 : j = 0 := nf_eq (by omega) (by omega) c_151
                    refine lv_aload_n hx hb dX12_chain_93 rfl (lv_at hl 0 rfl) ?_
                    refine lv_lconst (v := 0) hx hb dX12_chain_94 (by decide) ?_
                    refine xput C hP hD hS 0 rfl rfl zuX12 tyX12 tyX12_ok nmX12 32 (by decide) zw6_5 rfl rfl rfl (Nat.le_of_ble_eq_true rfl) dX12_chain_95 ?_
                    clear hP hD hS
                    try clear locs
                    try clear H
                    intro H locs hP hD hS
                    replace hP : va_P D vwCl [(hm, .inr (12, [.ref ms, .ref mkp, .int (nI km), .ref mtr, .int (nI n), .int (nI k), .int (nI al), .int (nI be), .int ea, .int pr, .ref mas, .int nq, .int po, .int (nI en), .ref mso, .ref mon, .ref mot, .ref man, .int (nI 0), .int xd, .ref mst, .ref msm, .ref mtb, .ref mti, .ref mfr, .ref mbn, .ref mbs, .ref mde, .int sF, .int sN, .int sS, .int igz_145, .long 0, .long xbz_147, .ref maa, .ref mab, .ref mba, .ref mbb])), (maa, .inl (cs 1, 9, .inr (.inl aaz_135))), (mab, .inl (cs 1, 9, .inr (.inl abz_136))), (mba, .inl (cs 1, 9, .inr (.inl baz_137))), (mbb, .inl (cs 1, 9, .inr (.inl bbz_138)))] H := hP
                    replace hD : va_D A [(hm, .inr (12, [.ref ms, .ref mkp, .int (nI km), .ref mtr, .int (nI n), .int (nI k), .int (nI al), .int (nI be), .int ea, .int pr, .ref mas, .int nq, .int po, .int (nI en), .ref mso, .ref mon, .ref mot, .ref man, .int (nI 0), .int xd, .ref mst, .ref msm, .ref mtb, .ref mti, .ref mfr, .ref mbn, .ref mbs, .ref mde, .int sF, .int sN, .int sS, .int igz_145, .long 0, .long xbz_147, .ref maa, .ref mab, .ref mba, .ref mbb])), (maa, .inl (cs 1, 9, .inr (.inl aaz_135))), (mab, .inl (cs 1, 9, .inr (.inl abz_136))), (mba, .inl (cs 1, 9, .inr (.inl baz_137))), (mbb, .inl (cs 1, 9, .inr (.inl bbz_138)))] := hD
                    refine lv_aload_n hx hb dX12_chain_98 rfl (lv_at hl 0 rfl) ?_
                    refine lv_lconst (v := 1) hx hb dX12_chain_99 (by decide) ?_
                    refine xput C hP hD hS 0 rfl rfl zuX12 tyX12 tyX12_ok nmX12 33 (by decide) zw6_6 rfl rfl rfl (Nat.le_of_ble_eq_true rfl) dX12_chain_100 ?_
                    clear hP hD hS
                    try clear locs
                    try clear H
                    intro H locs hP hD hS
                    replace hP : va_P D vwCl [(hm, .inr (12, [.ref ms, .ref mkp, .int (nI km), .ref mtr, .int (nI n), .int (nI k), .int (nI al), .int (nI be), .int ea, .int pr, .ref mas, .int nq, .int po, .int (nI en), .ref mso, .ref mon, .ref mot, .ref man, .int (nI 0), .int xd, .ref mst, .ref msm, .ref mtb, .ref mti, .ref mfr, .ref mbn, .ref mbs, .ref mde, .int sF, .int sN, .int sS, .int igz_145, .long 0, .long 1, .ref maa, .ref mab, .ref mba, .ref mbb])), (maa, .inl (cs 1, 9, .inr (.inl aaz_135))), (mab, .inl (cs 1, 9, .inr (.inl abz_136))), (mba, .inl (cs 1, 9, .inr (.inl baz_137))), (mbb, .inl (cs 1, 9, .inr (.inl bbz_138)))] H := hP
                    replace hD : va_D A [(hm, .inr (12, [.ref ms, .ref mkp, .int (nI km), .ref mtr, .int (nI n), .int (nI k), .int (nI al), .int (nI be), .int ea, .int pr, .ref mas, .int nq, .int po, .int (nI en), .ref mso, .ref mon, .ref mot, .ref man, .int (nI 0), .int xd, .ref mst, .ref msm, .ref mtb, .ref mti, .ref mfr, .ref mbn, .ref mbs, .ref mde, .int sF, .int sN, .int sS, .int igz_145, .long 0, .long 1, .ref maa, .ref mab, .ref mba, .ref mbb])), (maa, .inl (cs 1, 9, .inr (.inl aaz_135))), (mab, .inl (cs 1, 9, .inr (.inl abz_136))), (mba, .inl (cs 1, 9, .inr (.inl baz_137))), (mbb, .inl (cs 1, 9, .inr (.inl bbz_138)))] := hD
                    refine lv_aload_n hx hb dX12_chain_103 rfl (lv_at hl 0 rfl) ?_
                    refine xget C hP 0 rfl rfl zuX12 31 (by decide) zw6_4 rfl dX12_chain_104 ?_
                    refine lv_if_eq (tgt := 114) hx hb dX12_chain_107 (by decide) (fun c_154 => ?_) (fun c_154 => ?_)
                    · -- 107 t
                      refine lv_iload_n hx hb dX12_chain_114 rfl (lv_at hl 2 rfl) ?_
                      refine lv_iconst (v := nI 2) hx hb dX12_chain_115 (by decide) ?_
                      refine lv_irem hx hb dX12_chain_116 (by decide) ?_
                      refine lv_if_ne (tgt := 127) hx hb dX12_chain_117 (by decide) (fun c_155 => ?_) (fun c_155 => ?_)
                      · -- 117 t
                        refine lv_aload_n hx hb dX12_chain_127 rfl (lv_at hl 0 rfl) ?_
                        refine xget C hP 0 rfl rfl zuX12 33 (by decide) zw6_6 rfl dX12_chain_128 ?_
                        exact xretl C (⟨igz_145, 0, 1, aaz_135, abz_136, baz_137, bbz_138⟩) trivial hP hD hS (Nat.le_of_ble_eq_true rfl) (Nat.le_of_ble_eq_true rfl) dX12_chain_131
                      · -- 117 f
                        refine lv_aload_n hx hb dX12_chain_120 rfl (lv_at hl 0 rfl) ?_
                        refine xget C hP 0 rfl rfl zuX12 32 (by decide) zw6_5 rfl dX12_chain_121 ?_
                        refine lv_goto (tgt := 131) hx hb dX12_chain_124 (by decide) ?_
                        exact xretl C (⟨igz_145, 0, 1, aaz_135, abz_136, baz_137, bbz_138⟩) trivial hP hD hS (Nat.le_of_ble_eq_true rfl) (Nat.le_of_ble_eq_true rfl) dX12_chain_131
                    · -- 107 f
                      refine lv_ldc2 (v := (-2)) hx hb hown (hz _ zw6_202) dX12_chain_110 ?_
                      exact xretl C (⟨igz_145, 0, 1, aaz_135, abz_136, baz_137, bbz_138⟩) trivial hP hD hS (Nat.le_of_ble_eq_true rfl) (Nat.le_of_ble_eq_true rfl) dX12_chain_113
              · -- 73 f
                refine lv_lconst (v := 0) hx hb dX12_chain_76 (by decide) ?_
                refine lv_goto (tgt := 81) hx hb dX12_chain_77 (by decide) ?_
                refine xv (wr := []) (xV (As := [.int (nI j), .long 0]) (rest := []) C (c_X12_goesDown l D cs hm ms mkp mtr mas mso mon mot man mst msm mtb mti mfr mbn mbs mde maa mab mba mbb n k al be km en ea pr nq po (nI 0) xd sF sN sS igz_132 xaz_133 xbz_134 aaz_135 abz_136 baz_137 bbz_138 j 0 hn h_j (hw_r_130.resolve_left (fun g => g c_139))) kX12_306 hP hD [0, 1, 2, 3, 4] rfl (by decide +kernel) 0 rfl rfl rfl ⟨Nat.le_of_ble_eq_true rfl, Nat.le_of_ble_eq_true rfl⟩ rfl hl.1 rfl (Nat.le_of_ble_eq_true rfl) dX12_chain_81 ⟨Nat.le_of_ble_eq_true rfl, Nat.le_of_ble_eq_true rfl⟩) hP hD hS hA [0, 1, 2, 3, 4] [] rfl rfl (by decide +kernel) (by decide +kernel) ?_
                clear hP hD hS
                try clear locs
                try clear H
                intro u_157 H locs hw_r_156 hP hD hS
                obtain ⟨igz_158, xaz_159, xbz_160⟩ := u_157
                refine W.widen (k := 0) (n := 0) (Nat.le_of_ble_eq_true rfl) (Nat.le_of_ble_eq_true rfl) ?_
                replace hP : va_P D vwCl [(hm, .inr (12, [.ref ms, .ref mkp, .int (nI km), .ref mtr, .int (nI n), .int (nI k), .int (nI al), .int (nI be), .int ea, .int pr, .ref mas, .int nq, .int po, .int (nI en), .ref mso, .ref mon, .ref mot, .ref man, .int (nI 0), .int xd, .ref mst, .ref msm, .ref mtb, .ref mti, .ref mfr, .ref mbn, .ref mbs, .ref mde, .int sF, .int sN, .int sS, .int igz_158, .long xaz_159, .long xbz_160, .ref maa, .ref mab, .ref mba, .ref mbb])), (maa, .inl (cs 1, 9, .inr (.inl aaz_135))), (mab, .inl (cs 1, 9, .inr (.inl abz_136))), (mba, .inl (cs 1, 9, .inr (.inl baz_137))), (mbb, .inl (cs 1, 9, .inr (.inl bbz_138)))] H := hP
                replace hD : va_D A [(hm, .inr (12, [.ref ms, .ref mkp, .int (nI km), .ref mtr, .int (nI n), .int (nI k), .int (nI al), .int (nI be), .int ea, .int pr, .ref mas, .int nq, .int po, .int (nI en), .ref mso, .ref mon, .ref mot, .ref man, .int (nI 0), .int xd, .ref mst, .ref msm, .ref mtb, .ref mti, .ref mfr, .ref mbn, .ref mbs, .ref mde, .int sF, .int sN, .int sS, .int igz_158, .long xaz_159, .long xbz_160, .ref maa, .ref mab, .ref mba, .ref mbb])), (maa, .inl (cs 1, 9, .inr (.inl aaz_135))), (mab, .inl (cs 1, 9, .inr (.inl abz_136))), (mba, .inl (cs 1, 9, .inr (.inl baz_137))), (mbb, .inl (cs 1, 9, .inr (.inl bbz_138)))] := hD
                refine lv_iload_n hx hb dX12_chain_84 rfl (lv_at hl 2 rfl) ?_
                refine lv_iconst (v := nI 1) hx hb dX12_chain_85 (by decide) ?_
                refine lv_icmp_le (tgt := 103) hx hb dX12_chain_86 (by decide) (fun c_161 => ?_) (fun c_161 => ?_)
                · -- 86 t
                  refine lv_aload_n hx hb dX12_chain_103 rfl (lv_at hl 0 rfl) ?_
                  refine xget C hP 0 rfl rfl zuX12 31 (by decide) zw6_4 rfl dX12_chain_104 ?_
                  refine lv_if_eq (tgt := 114) hx hb dX12_chain_107 (by decide) (fun c_162 => ?_) (fun c_162 => ?_)
                  · -- 107 t
                    refine lv_iload_n hx hb dX12_chain_114 rfl (lv_at hl 2 rfl) ?_
                    refine lv_iconst (v := nI 2) hx hb dX12_chain_115 (by decide) ?_
                    refine lv_irem hx hb dX12_chain_116 (by decide) ?_
                    refine lv_if_ne (tgt := 127) hx hb dX12_chain_117 (by decide) (fun c_163 => ?_) (fun c_163 => ?_)
                    · -- 117 t
                      refine lv_aload_n hx hb dX12_chain_127 rfl (lv_at hl 0 rfl) ?_
                      refine xget C hP 0 rfl rfl zuX12 33 (by decide) zw6_6 rfl dX12_chain_128 ?_
                      exact xretl C (⟨igz_158, xaz_159, xbz_160, aaz_135, abz_136, baz_137, bbz_138⟩) trivial hP hD hS (Nat.le_of_ble_eq_true rfl) (Nat.le_of_ble_eq_true rfl) dX12_chain_131
                    · -- 117 f
                      refine lv_aload_n hx hb dX12_chain_120 rfl (lv_at hl 0 rfl) ?_
                      refine xget C hP 0 rfl rfl zuX12 32 (by decide) zw6_5 rfl dX12_chain_121 ?_
                      refine lv_goto (tgt := 131) hx hb dX12_chain_124 (by decide) ?_
                      exact xretl C (⟨igz_158, xaz_159, xbz_160, aaz_135, abz_136, baz_137, bbz_138⟩) trivial hP hD hS (Nat.le_of_ble_eq_true rfl) (Nat.le_of_ble_eq_true rfl) dX12_chain_131
                  · -- 107 f
                    refine lv_ldc2 (v := (-2)) hx hb hown (hz _ zw6_202) dX12_chain_110 ?_
                    exact xretl C (⟨igz_158, xaz_159, xbz_160, aaz_135, abz_136, baz_137, bbz_138⟩) trivial hP hD hS (Nat.le_of_ble_eq_true rfl) (Nat.le_of_ble_eq_true rfl) dX12_chain_113
                · -- 86 f
                  refine lv_iload_n hx hb dX12_chain_89 rfl (lv_at hl 1 rfl) ?_
                  refine lv_if_ne (tgt := 103) hx hb dX12_chain_90 (by decide) (fun c_164 => ?_) (fun c_164 => ?_)
                  · -- 90 t
                    have fc_164 : j ≠ 0 := nf_ne (by omega) (by omega) c_164
                    refine lv_aload_n hx hb dX12_chain_103 rfl (lv_at hl 0 rfl) ?_
                    refine xget C hP 0 rfl rfl zuX12 31 (by decide) zw6_4 rfl dX12_chain_104 ?_
                    refine lv_if_eq (tgt := 114) hx hb dX12_chain_107 (by decide) (fun c_165 => ?_) (fun c_165 => ?_)
                    · -- 107 t
                      refine lv_iload_n hx hb dX12_chain_114 rfl (lv_at hl 2 rfl) ?_
                      refine lv_iconst (v := nI 2) hx hb dX12_chain_115 (by decide) ?_
                      refine lv_irem hx hb dX12_chain_116 (by decide) ?_
                      refine lv_if_ne (tgt := 127) hx hb dX12_chain_117 (by decide) (fun c_166 => ?_) (fun c_166 => ?_)
                      · -- 117 t
                        refine lv_aload_n hx hb dX12_chain_127 rfl (lv_at hl 0 rfl) ?_
                        refine xget C hP 0 rfl rfl zuX12 33 (by decide) zw6_6 rfl dX12_chain_128 ?_
                        exact xretl C (⟨igz_158, xaz_159, xbz_160, aaz_135, abz_136, baz_137, bbz_138⟩) trivial hP hD hS (Nat.le_of_ble_eq_true rfl) (Nat.le_of_ble_eq_true rfl) dX12_chain_131
                      · -- 117 f
                        refine lv_aload_n hx hb dX12_chain_120 rfl (lv_at hl 0 rfl) ?_
                        refine xget C hP 0 rfl rfl zuX12 32 (by decide) zw6_5 rfl dX12_chain_121 ?_
                        refine lv_goto (tgt := 131) hx hb dX12_chain_124 (by decide) ?_
                        exact xretl C (⟨igz_158, xaz_159, xbz_160, aaz_135, abz_136, baz_137, bbz_138⟩) trivial hP hD hS (Nat.le_of_ble_eq_true rfl) (Nat.le_of_ble_eq_true rfl) dX12_chain_131
                    · -- 107 f
                      refine lv_ldc2 (v := (-2)) hx hb hown (hz _ zw6_202) dX12_chain_110 ?_
                      exact xretl C (⟨igz_158, xaz_159, xbz_160, aaz_135, abz_136, baz_137, bbz_138⟩) trivial hP hD hS (Nat.le_of_ble_eq_true rfl) (Nat.le_of_ble_eq_true rfl) dX12_chain_113
                  · -- 90 f
                    have fc_164 : j = 0 := nf_eq (by omega) (by omega) c_164
                    refine lv_aload_n hx hb dX12_chain_93 rfl (lv_at hl 0 rfl) ?_
                    refine lv_lconst (v := 0) hx hb dX12_chain_94 (by decide) ?_
                    refine xput C hP hD hS 0 rfl rfl zuX12 tyX12 tyX12_ok nmX12 32 (by decide) zw6_5 rfl rfl rfl (Nat.le_of_ble_eq_true rfl) dX12_chain_95 ?_
                    clear hP hD hS
                    try clear locs
                    try clear H
                    intro H locs hP hD hS
                    replace hP : va_P D vwCl [(hm, .inr (12, [.ref ms, .ref mkp, .int (nI km), .ref mtr, .int (nI n), .int (nI k), .int (nI al), .int (nI be), .int ea, .int pr, .ref mas, .int nq, .int po, .int (nI en), .ref mso, .ref mon, .ref mot, .ref man, .int (nI 0), .int xd, .ref mst, .ref msm, .ref mtb, .ref mti, .ref mfr, .ref mbn, .ref mbs, .ref mde, .int sF, .int sN, .int sS, .int igz_158, .long 0, .long xbz_160, .ref maa, .ref mab, .ref mba, .ref mbb])), (maa, .inl (cs 1, 9, .inr (.inl aaz_135))), (mab, .inl (cs 1, 9, .inr (.inl abz_136))), (mba, .inl (cs 1, 9, .inr (.inl baz_137))), (mbb, .inl (cs 1, 9, .inr (.inl bbz_138)))] H := hP
                    replace hD : va_D A [(hm, .inr (12, [.ref ms, .ref mkp, .int (nI km), .ref mtr, .int (nI n), .int (nI k), .int (nI al), .int (nI be), .int ea, .int pr, .ref mas, .int nq, .int po, .int (nI en), .ref mso, .ref mon, .ref mot, .ref man, .int (nI 0), .int xd, .ref mst, .ref msm, .ref mtb, .ref mti, .ref mfr, .ref mbn, .ref mbs, .ref mde, .int sF, .int sN, .int sS, .int igz_158, .long 0, .long xbz_160, .ref maa, .ref mab, .ref mba, .ref mbb])), (maa, .inl (cs 1, 9, .inr (.inl aaz_135))), (mab, .inl (cs 1, 9, .inr (.inl abz_136))), (mba, .inl (cs 1, 9, .inr (.inl baz_137))), (mbb, .inl (cs 1, 9, .inr (.inl bbz_138)))] := hD
                    refine lv_aload_n hx hb dX12_chain_98 rfl (lv_at hl 0 rfl) ?_
                    refine lv_lconst (v := 1) hx hb dX12_chain_99 (by decide) ?_
                    refine xput C hP hD hS 0 rfl rfl zuX12 tyX12 tyX12_ok nmX12 33 (by decide) zw6_6 rfl rfl rfl (Nat.le_of_ble_eq_true rfl) dX12_chain_100 ?_
                    clear hP hD hS
                    try clear locs
                    try clear H
                    intro H locs hP hD hS
                    replace hP : va_P D vwCl [(hm, .inr (12, [.ref ms, .ref mkp, .int (nI km), .ref mtr, .int (nI n), .int (nI k), .int (nI al), .int (nI be), .int ea, .int pr, .ref mas, .int nq, .int po, .int (nI en), .ref mso, .ref mon, .ref mot, .ref man, .int (nI 0), .int xd, .ref mst, .ref msm, .ref mtb, .ref mti, .ref mfr, .ref mbn, .ref mbs, .ref mde, .int sF, .int sN, .int sS, .int igz_158, .long 0, .long 1, .ref maa, .ref mab, .ref mba, .ref mbb])), (maa, .inl (cs 1, 9, .inr (.inl aaz_135))), (mab, .inl (cs 1, 9, .inr (.inl abz_136))), (mba, .inl (cs 1, 9, .inr (.inl baz_137))), (mbb, .inl (cs 1, 9, .inr (.inl bbz_138)))] H := hP
                    replace hD : va_D A [(hm, .inr (12, [.ref ms, .ref mkp, .int (nI km), .ref mtr, .int (nI n), .int (nI k), .int (nI al), .int (nI be), .int ea, .int pr, .ref mas, .int nq, .int po, .int (nI en), .ref mso, .ref mon, .ref mot, .ref man, .int (nI 0), .int xd, .ref mst, .ref msm, .ref mtb, .ref mti, .ref mfr, .ref mbn, .ref mbs, .ref mde, .int sF, .int sN, .int sS, .int igz_158, .long 0, .long 1, .ref maa, .ref mab, .ref mba, .ref mbb])), (maa, .inl (cs 1, 9, .inr (.inl aaz_135))), (mab, .inl (cs 1, 9, .inr (.inl abz_136))), (mba, .inl (cs 1, 9, .inr (.inl baz_137))), (mbb, .inl (cs 1, 9, .inr (.inl bbz_138)))] := hD
                    refine lv_aload_n hx hb dX12_chain_103 rfl (lv_at hl 0 rfl) ?_
                    refine xget C hP 0 rfl rfl zuX12 31 (by decide) zw6_4 rfl dX12_chain_104 ?_
                    refine lv_if_eq (tgt := 114) hx hb dX12_chain_107 (by decide) (fun c_167 => ?_) (fun c_167 => ?_)
                    · -- 107 t
                      refine lv_iload_n hx hb dX12_chain_114 rfl (lv_at hl 2 rfl) ?_
                      refine lv_iconst (v := nI 2) hx hb dX12_chain_115 (by decide) ?_
                      refine lv_irem hx hb dX12_chain_116 (by decide) ?_
                      refine lv_if_ne (tgt := 127) hx hb dX12_chain_117 (by decide) (fun c_168 => ?_) (fun c_168 => ?_)
                      · -- 117 t
                        refine lv_aload_n hx hb dX12_chain_127 rfl (lv_at hl 0 rfl) ?_
                        refine xget C hP 0 rfl rfl zuX12 33 (by decide) zw6_6 rfl dX12_chain_128 ?_
                        exact xretl C (⟨igz_158, 0, 1, aaz_135, abz_136, baz_137, bbz_138⟩) trivial hP hD hS (Nat.le_of_ble_eq_true rfl) (Nat.le_of_ble_eq_true rfl) dX12_chain_131
                      · -- 117 f
                        refine lv_aload_n hx hb dX12_chain_120 rfl (lv_at hl 0 rfl) ?_
                        refine xget C hP 0 rfl rfl zuX12 32 (by decide) zw6_5 rfl dX12_chain_121 ?_
                        refine lv_goto (tgt := 131) hx hb dX12_chain_124 (by decide) ?_
                        exact xretl C (⟨igz_158, 0, 1, aaz_135, abz_136, baz_137, bbz_138⟩) trivial hP hD hS (Nat.le_of_ble_eq_true rfl) (Nat.le_of_ble_eq_true rfl) dX12_chain_131
                    · -- 107 f
                      refine lv_ldc2 (v := (-2)) hx hb hown (hz _ zw6_202) dX12_chain_110 ?_
                      exact xretl C (⟨igz_158, 0, 1, aaz_135, abz_136, baz_137, bbz_138⟩) trivial hP hD hS (Nat.le_of_ble_eq_true rfl) (Nat.le_of_ble_eq_true rfl) dX12_chain_113
        · -- 36 f
          refine lv_ldc2 (v := (-1)) hx hb hown (hz _ zw6_189) dX12_chain_39 ?_
          exact xretl C (⟨ig, xa, xb, aaf, abf, baf, bbf⟩) trivial (xP_map hP [4, 0, 1, 2, 3] rfl) (hD.sub [4, 0, 1, 2, 3] (by decide +kernel) rfl) hS (Nat.le_of_ble_eq_true rfl) (Nat.le_of_ble_eq_true rfl) dX12_chain_42
