set_option maxHeartbeats 4000000 in
set_option maxRecDepth 100000 in
theorem c_X12_query (l : Launch) (D : va_G) (cs : Nat → ClassId) (hm ms mkp mtr mas mso mon mot man mst msm mtb mti mfr mbn mbs mde maa mab mba mbb : Nat) (n k al be km en : Nat) (ea pr nq po th xd sF sN sS ig : Int32) (xa xb : Int64) (f : Nat → Int32) (g : Nat → Int32) (qq : Nat → Int32) (x y : Int32) (hn : 2 ≤ n ∧ n ≤ 8) (hs : colP f) (hk : keptP g) (hkm : km ≤ 8) : xMet l D cs yX12_query cX12_query 3 (some .int) ({ frames := 3, cells := 0, slots := 0, locals := 71 } : Room) [.ref hm, .int x, .int y] [(hm, .inr (12, [.ref ms, .ref mkp, .int (nI km), .ref mtr, .int (nI n), .int (nI k), .int (nI al), .int (nI be), .int ea, .int pr, .ref mas, .int nq, .int po, .int (nI en), .ref mso, .ref mon, .ref mot, .ref man, .int th, .int xd, .ref mst, .ref msm, .ref mtb, .ref mti, .ref mfr, .ref mbn, .ref mbs, .ref mde, .int sF, .int sN, .int sS, .int ig, .long xa, .long xb, .ref maa, .ref mab, .ref mba, .ref mbb])), (ms, .inl (cs 0, 288, .inl f)), (mkp, .inl (cs 0, 2304, .inl g)), (mas, .inl (cs 0, 8, .inl qq))] (xQi D (fun (r : Int32) (u : Nat × (Nat → Int32) × (Nat → Int32) × Int32 × (Nat → Int32)) => match u with | (kmz, fz, gz, nqz, qz) => colP fz ∧ keptP gz ∧ kmz ≤ 8) (fun (u : Nat × (Nat → Int32) × (Nat → Int32) × Int32 × (Nat → Int32)) => match u with | (kmz, fz, gz, nqz, qz) => [(hm, .inr (12, [.ref ms, .ref mkp, .int (nI kmz), .ref mtr, .int (nI n), .int (nI k), .int (nI al), .int (nI be), .int ea, .int pr, .ref mas, .int nqz, .int po, .int (nI en), .ref mso, .ref mon, .ref mot, .ref man, .int (nI 0), .int xd, .ref mst, .ref msm, .ref mtb, .ref mti, .ref mfr, .ref mbn, .ref mbs, .ref mde, .int sF, .int sN, .int sS, .int ig, .long xa, .long xb, .ref maa, .ref mab, .ref mba, .ref mbb])), (ms, .inl (cs 0, 288, .inl fz)), (mkp, .inl (cs 0, 2304, .inl gz)), (mas, .inl (cs 0, 8, .inl qz))])) := by
  refine xMet.intro (by decide) (Nat.le_of_ble_eq_true rfl) ?_
  intro p e s m args below meth c A ls C hP hD hS hl
  have hx := C.1
  have hb := C.2.1
  have hz := C.2.2.2.2.1
  have hown := C.2.2.2.1
  have hA := C.2.2.2.2.2.2.2.2.2
  have hAO := C.2.2.2.2.2.2.2.2.1.2.2
  replace hl : lv_has ls 3 [(0, .ref hm), (1, .int x), (2, .int y)] := hl
  obtain ⟨H, hH⟩ : ∃ H, H = s.heap := ⟨_, rfl⟩
  replace hP : va_P D vwCl [(hm, .inr (12, [.ref ms, .ref mkp, .int (nI km), .ref mtr, .int (nI n), .int (nI k), .int (nI al), .int (nI be), .int ea, .int pr, .ref mas, .int nq, .int po, .int (nI en), .ref mso, .ref mon, .ref mot, .ref man, .int th, .int xd, .ref mst, .ref msm, .ref mtb, .ref mti, .ref mfr, .ref mbn, .ref mbs, .ref mde, .int sF, .int sN, .int sS, .int ig, .long xa, .long xb, .ref maa, .ref mab, .ref mba, .ref mbb])), (ms, .inl (cs 0, 288, .inl f)), (mkp, .inl (cs 0, 2304, .inl g)), (mas, .inl (cs 0, 8, .inl qq))] H := by rw [hH]; exact hP
  replace hS : va_S A s.heap H [] := by rw [hH]; exact hS
  obtain ⟨locs, hlocs⟩ : ∃ z : List Loc, z = [] := ⟨_, rfl⟩
  rw [← hlocs] at hS
  suffices hW : W p l e ({ frames := 3, cells := 0, slots := 0, locals := 71 } : Room) s m args below meth c H locs 0 0 (MQ below ((xQi D (fun (r : Int32) (u : Nat × (Nat → Int32) × (Nat → Int32) × Int32 × (Nat → Int32)) => match u with | (kmz, fz, gz, nqz, qz) => colP fz ∧ keptP gz ∧ kmz ≤ 8) (fun (u : Nat × (Nat → Int32) × (Nat → Int32) × Int32 × (Nat → Int32)) => match u with | (kmz, fz, gz, nqz, qz) => [(hm, .inr (12, [.ref ms, .ref mkp, .int (nI kmz), .ref mtr, .int (nI n), .int (nI k), .int (nI al), .int (nI be), .int ea, .int pr, .ref mas, .int nqz, .int po, .int (nI en), .ref mso, .ref mon, .ref mot, .ref man, .int (nI 0), .int xd, .ref mst, .ref msm, .ref mtb, .ref mti, .ref mfr, .ref mbn, .ref mbs, .ref mde, .int sF, .int sN, .int sS, .int ig, .long xa, .long xb, .ref maa, .ref mab, .ref mba, .ref mbb])), (ms, .inl (cs 0, 288, .inl fz)), (mkp, .inl (cs 0, 2304, .inl gz)), (mas, .inl (cs 0, 8, .inl qz))])) A) args s 0 0 A) (F0 m 0 ls []) by rw [hlocs, hH] at hW; exact hW
  clear hH hlocs
  refine lv_aload_n hx hb dX12_query_0 rfl (lv_at hl 0 rfl) ?_
  refine lv_iconst (v := nI 0) hx hb dX12_query_1 (by decide) ?_
  refine xput C hP hD hS 0 rfl rfl zuX12 tyX12 tyX12_ok nmX12 18 (by decide) zw5_231 rfl rfl rfl (Nat.le_of_ble_eq_true rfl) dX12_query_2 ?_
  clear hP hD hS
  try clear locs
  try clear H
  intro H locs hP hD hS
  replace hP : va_P D vwCl [(hm, .inr (12, [.ref ms, .ref mkp, .int (nI km), .ref mtr, .int (nI n), .int (nI k), .int (nI al), .int (nI be), .int ea, .int pr, .ref mas, .int nq, .int po, .int (nI en), .ref mso, .ref mon, .ref mot, .ref man, .int (nI 0), .int xd, .ref mst, .ref msm, .ref mtb, .ref mti, .ref mfr, .ref mbn, .ref mbs, .ref mde, .int sF, .int sN, .int sS, .int ig, .long xa, .long xb, .ref maa, .ref mab, .ref mba, .ref mbb])), (ms, .inl (cs 0, 288, .inl f)), (mkp, .inl (cs 0, 2304, .inl g)), (mas, .inl (cs 0, 8, .inl qq))] H := hP
  replace hD : va_D A [(hm, .inr (12, [.ref ms, .ref mkp, .int (nI km), .ref mtr, .int (nI n), .int (nI k), .int (nI al), .int (nI be), .int ea, .int pr, .ref mas, .int nq, .int po, .int (nI en), .ref mso, .ref mon, .ref mot, .ref man, .int (nI 0), .int xd, .ref mst, .ref msm, .ref mtb, .ref mti, .ref mfr, .ref mbn, .ref mbs, .ref mde, .int sF, .int sN, .int sS, .int ig, .long xa, .long xb, .ref maa, .ref mab, .ref mba, .ref mbb])), (ms, .inl (cs 0, 288, .inl f)), (mkp, .inl (cs 0, 2304, .inl g)), (mas, .inl (cs 0, 8, .inl qq))] := hD
  refine lv_aload_n hx hb dX12_query_5 rfl (lv_at hl 0 rfl) ?_
  refine lv_iload_n hx hb dX12_query_6 rfl (lv_at hl 1 rfl) ?_
  refine xi (wr := [(ms, .inl (cs 0, 288, .inl f)), (mkp, .inl (cs 0, 2304, .inl g)), (mas, .inl (cs 0, 8, .inl qq))]) (xV (As := [.int x]) (rest := []) C (c_X12_isNode l D cs hm ms mkp mtr mas mso mon mot man mst msm mtb mti mfr mbn mbs mde maa mab mba mbb n k al be km en ea pr nq po (nI 0) xd sF sN sS ig xa xb x hn) kX12_120 hP hD [0] rfl (by decide +kernel) 0 rfl rfl rfl ⟨Nat.le_of_ble_eq_true rfl, Nat.le_of_ble_eq_true rfl⟩ rfl hl.1 rfl (Nat.le_of_ble_eq_true rfl) dX12_query_7 ⟨Nat.le_of_ble_eq_true rfl, Nat.le_of_ble_eq_true rfl⟩) hP hD hS hA [0] [1, 2, 3] rfl rfl (by decide +kernel) (by decide +kernel) ?_
  clear hP hD hS
  try clear locs
  try clear H
  intro r_1 u_2 H locs hw_r_1 hP hD hS
  have hw_r_1 : PQ (okN n x) r_1 (nI 1) (nI 0) := hw_r_1
  refine W.widen (k := 0) (n := 0) (Nat.le_of_ble_eq_true rfl) (Nat.le_of_ble_eq_true rfl) ?_
  replace hP : va_P D vwCl [(ms, .inl (cs 0, 288, .inl f)), (mkp, .inl (cs 0, 2304, .inl g)), (mas, .inl (cs 0, 8, .inl qq)), (hm, .inr (12, [.ref ms, .ref mkp, .int (nI km), .ref mtr, .int (nI n), .int (nI k), .int (nI al), .int (nI be), .int ea, .int pr, .ref mas, .int nq, .int po, .int (nI en), .ref mso, .ref mon, .ref mot, .ref man, .int (nI 0), .int xd, .ref mst, .ref msm, .ref mtb, .ref mti, .ref mfr, .ref mbn, .ref mbs, .ref mde, .int sF, .int sN, .int sS, .int ig, .long xa, .long xb, .ref maa, .ref mab, .ref mba, .ref mbb]))] H := hP
  replace hD : va_D A [(ms, .inl (cs 0, 288, .inl f)), (mkp, .inl (cs 0, 2304, .inl g)), (mas, .inl (cs 0, 8, .inl qq)), (hm, .inr (12, [.ref ms, .ref mkp, .int (nI km), .ref mtr, .int (nI n), .int (nI k), .int (nI al), .int (nI be), .int ea, .int pr, .ref mas, .int nq, .int po, .int (nI en), .ref mso, .ref mon, .ref mot, .ref man, .int (nI 0), .int xd, .ref mst, .ref msm, .ref mtb, .ref mti, .ref mfr, .ref mbn, .ref mbs, .ref mde, .int sF, .int sN, .int sS, .int ig, .long xa, .long xb, .ref maa, .ref mab, .ref mba, .ref mbb]))] := hD
  refine lv_if_eq (tgt := 30) hx hb dX12_query_10 (by decide) (fun c_3 => ?_) (fun c_3 => ?_)
  · -- 10 t
    have hbad_j : ¬ okN n x := PQ.no hw_r_1 c_3 (by decide)
    refine lv_iconst (v := (-1)) hx hb dX12_query_30 (by decide) ?_
    exact xreti C (⟨km, f, g, nq, qq⟩) (⟨hs, ⟨hk, hkm⟩⟩) (xP_map hP [3, 0, 1, 2] rfl) (hD.sub [3, 0, 1, 2] (by decide +kernel) rfl) hS (Nat.le_of_ble_eq_true rfl) (Nat.le_of_ble_eq_true rfl) rfl dX12_query_31
  · -- 10 f
    have hok_j : okN n x := PQ.yes hw_r_1 c_3
    obtain ⟨j, h_j, rfl⟩ := okN_of hok_j (by omega)
    replace hP : va_P D vwCl [(ms, .inl (cs 0, 288, .inl f)), (mkp, .inl (cs 0, 2304, .inl g)), (mas, .inl (cs 0, 8, .inl qq)), (hm, .inr (12, [.ref ms, .ref mkp, .int (nI km), .ref mtr, .int (nI n), .int (nI k), .int (nI al), .int (nI be), .int ea, .int pr, .ref mas, .int nq, .int po, .int (nI en), .ref mso, .ref mon, .ref mot, .ref man, .int (nI 0), .int xd, .ref mst, .ref msm, .ref mtb, .ref mti, .ref mfr, .ref mbn, .ref mbs, .ref mde, .int sF, .int sN, .int sS, .int ig, .long xa, .long xb, .ref maa, .ref mab, .ref mba, .ref mbb]))] H := hP
    replace hD : va_D A [(ms, .inl (cs 0, 288, .inl f)), (mkp, .inl (cs 0, 2304, .inl g)), (mas, .inl (cs 0, 8, .inl qq)), (hm, .inr (12, [.ref ms, .ref mkp, .int (nI km), .ref mtr, .int (nI n), .int (nI k), .int (nI al), .int (nI be), .int ea, .int pr, .ref mas, .int nq, .int po, .int (nI en), .ref mso, .ref mon, .ref mot, .ref man, .int (nI 0), .int xd, .ref mst, .ref msm, .ref mtb, .ref mti, .ref mfr, .ref mbn, .ref mbs, .ref mde, .int sF, .int sN, .int sS, .int ig, .long xa, .long xb, .ref maa, .ref mab, .ref mba, .ref mbb]))] := hD
    refine lv_aload_n hx hb dX12_query_13 rfl (lv_at hl 0 rfl) ?_
    refine lv_iload_n hx hb dX12_query_14 rfl (lv_at hl 1 rfl) ?_
    refine lv_iload_n hx hb dX12_query_15 rfl (lv_at hl 2 rfl) ?_
    refine xi (wr := [(ms, .inl (cs 0, 288, .inl f)), (mkp, .inl (cs 0, 2304, .inl g)), (mas, .inl (cs 0, 8, .inl qq))]) (xV (As := [.int (nI j), .int y]) (rest := []) C (c_X12_isSample l D cs hm ms mkp mtr mas mso mon mot man mst msm mtb mti mfr mbn mbs mde maa mab mba mbb n k al be km en ea pr nq po (nI 0) xd sF sN sS ig xa xb j y) kX12_139 hP hD [3] rfl (by decide +kernel) 0 rfl rfl rfl ⟨Nat.le_of_ble_eq_true rfl, Nat.le_of_ble_eq_true rfl⟩ rfl hl.1 rfl (Nat.le_of_ble_eq_true rfl) dX12_query_16 ⟨Nat.le_of_ble_eq_true rfl, Nat.le_of_ble_eq_true rfl⟩) hP hD hS hA [3] [0, 1, 2] rfl rfl (by decide +kernel) (by decide +kernel) ?_
    clear hP hD hS
    try clear locs
    try clear H
    intro r_4 u_5 H locs hw_r_4 hP hD hS
    have hw_r_4 : (r_4 = nI 0 ∨ r_4 = nI 1) := hw_r_4
    refine W.widen (k := 0) (n := 0) (Nat.le_of_ble_eq_true rfl) (Nat.le_of_ble_eq_true rfl) ?_
    replace hP : va_P D vwCl [(ms, .inl (cs 0, 288, .inl f)), (mkp, .inl (cs 0, 2304, .inl g)), (mas, .inl (cs 0, 8, .inl qq)), (hm, .inr (12, [.ref ms, .ref mkp, .int (nI km), .ref mtr, .int (nI n), .int (nI k), .int (nI al), .int (nI be), .int ea, .int pr, .ref mas, .int nq, .int po, .int (nI en), .ref mso, .ref mon, .ref mot, .ref man, .int (nI 0), .int xd, .ref mst, .ref msm, .ref mtb, .ref mti, .ref mfr, .ref mbn, .ref mbs, .ref mde, .int sF, .int sN, .int sS, .int ig, .long xa, .long xb, .ref maa, .ref mab, .ref mba, .ref mbb]))] H := hP
    replace hD : va_D A [(ms, .inl (cs 0, 288, .inl f)), (mkp, .inl (cs 0, 2304, .inl g)), (mas, .inl (cs 0, 8, .inl qq)), (hm, .inr (12, [.ref ms, .ref mkp, .int (nI km), .ref mtr, .int (nI n), .int (nI k), .int (nI al), .int (nI be), .int ea, .int pr, .ref mas, .int nq, .int po, .int (nI en), .ref mso, .ref mon, .ref mot, .ref man, .int (nI 0), .int xd, .ref mst, .ref msm, .ref mtb, .ref mti, .ref mfr, .ref mbn, .ref mbs, .ref mde, .int sF, .int sN, .int sS, .int ig, .long xa, .long xb, .ref maa, .ref mab, .ref mba, .ref mbb]))] := hD
    refine lv_if_eq (tgt := 30) hx hb dX12_query_19 (by decide) (fun c_6 => ?_) (fun c_6 => ?_)
    · -- 19 t
      refine lv_iconst (v := (-1)) hx hb dX12_query_30 (by decide) ?_
      exact xreti C (⟨km, f, g, nq, qq⟩) (⟨hs, ⟨hk, hkm⟩⟩) (xP_map hP [3, 0, 1, 2] rfl) (hD.sub [3, 0, 1, 2] (by decide +kernel) rfl) hS (Nat.le_of_ble_eq_true rfl) (Nat.le_of_ble_eq_true rfl) rfl dX12_query_31
    · -- 19 f
      refine lv_aload_n hx hb dX12_query_22 rfl (lv_at hl 0 rfl) ?_
      refine lv_iload_n hx hb dX12_query_23 rfl (lv_at hl 1 rfl) ?_
      refine xi (wr := [(mkp, .inl (cs 0, 2304, .inl g)), (mas, .inl (cs 0, 8, .inl qq))]) (xV (As := [.int (nI j)]) (rest := []) C (c_X12_canAsk l D cs hm ms mkp mtr mas mso mon mot man mst msm mtb mti mfr mbn mbs mde maa mab mba mbb n k al be km en ea pr nq po (nI 0) xd sF sN sS ig xa xb f j (by omega)) kX12_142 hP hD [3, 0] rfl (by decide +kernel) 0 rfl rfl rfl ⟨Nat.le_of_ble_eq_true rfl, Nat.le_of_ble_eq_true rfl⟩ rfl hl.1 rfl (Nat.le_of_ble_eq_true rfl) dX12_query_24 ⟨Nat.le_of_ble_eq_true rfl, Nat.le_of_ble_eq_true rfl⟩) hP hD hS hA [3, 0] [1, 2] rfl rfl (by decide +kernel) (by decide +kernel) ?_
      clear hP hD hS
      try clear locs
      try clear H
      intro r_7 u_8 H locs hw_r_7 hP hD hS
      have hw_r_7 : (r_7 = nI 0 ∨ r_7 = nI 1) ∧ (r_7 = nI 1 → ¬ f (0 + j) < 0) := hw_r_7
      refine W.widen (k := 0) (n := 0) (Nat.le_of_ble_eq_true rfl) (Nat.le_of_ble_eq_true rfl) ?_
      replace hP : va_P D vwCl [(mkp, .inl (cs 0, 2304, .inl g)), (mas, .inl (cs 0, 8, .inl qq)), (hm, .inr (12, [.ref ms, .ref mkp, .int (nI km), .ref mtr, .int (nI n), .int (nI k), .int (nI al), .int (nI be), .int ea, .int pr, .ref mas, .int nq, .int po, .int (nI en), .ref mso, .ref mon, .ref mot, .ref man, .int (nI 0), .int xd, .ref mst, .ref msm, .ref mtb, .ref mti, .ref mfr, .ref mbn, .ref mbs, .ref mde, .int sF, .int sN, .int sS, .int ig, .long xa, .long xb, .ref maa, .ref mab, .ref mba, .ref mbb])), (ms, .inl (cs 0, 288, .inl f))] H := hP
      replace hD : va_D A [(mkp, .inl (cs 0, 2304, .inl g)), (mas, .inl (cs 0, 8, .inl qq)), (hm, .inr (12, [.ref ms, .ref mkp, .int (nI km), .ref mtr, .int (nI n), .int (nI k), .int (nI al), .int (nI be), .int ea, .int pr, .ref mas, .int nq, .int po, .int (nI en), .ref mso, .ref mon, .ref mot, .ref man, .int (nI 0), .int xd, .ref mst, .ref msm, .ref mtb, .ref mti, .ref mfr, .ref mbn, .ref mbs, .ref mde, .int sF, .int sN, .int sS, .int ig, .long xa, .long xb, .ref maa, .ref mab, .ref mba, .ref mbb])), (ms, .inl (cs 0, 288, .inl f))] := hD
      refine lv_if_ne (tgt := 32) hx hb dX12_query_27 (by decide) (fun c_9 => ?_) (fun c_9 => ?_)
      · -- 27 t
        have hna := hw_r_7.2 (hw_r_7.1.resolve_left c_9)
        refine lv_aload_n hx hb dX12_query_32 rfl (lv_at hl 0 rfl) ?_
        refine xv (wr := [(mas, .inl (cs 0, 8, .inl qq))]) (xV (As := []) (rest := []) C (c_X12_keeps l D cs hm ms mkp mtr mas mso mon mot man mst msm mtb mti mfr mbn mbs mde maa mab mba mbb n k al be km en ea pr nq po (nI 0) xd sF sN sS ig xa xb f g hs hk hkm) kX12_124 hP hD [2, 3, 0] rfl (by decide +kernel) 0 rfl rfl rfl ⟨Nat.le_of_ble_eq_true rfl, Nat.le_of_ble_eq_true rfl⟩ rfl hl.1 rfl (Nat.le_of_ble_eq_true rfl) dX12_query_33 ⟨Nat.le_of_ble_eq_true rfl, Nat.le_of_ble_eq_true rfl⟩) hP hD hS hA [2, 3, 0] [1] rfl rfl (by decide +kernel) (by decide +kernel) ?_
        clear hP hD hS
        try clear locs
        try clear H
        intro u_11 H locs hw_r_10 hP hD hS
        obtain ⟨kmz_12, gz_13⟩ := u_11
        have hw_r_10 : keptP gz_13 ∧ kmz_12 ≤ 8 := hw_r_10
        refine W.widen (k := 0) (n := 0) (Nat.le_of_ble_eq_true rfl) (Nat.le_of_ble_eq_true rfl) ?_
        replace hP : va_P D vwCl [(mas, .inl (cs 0, 8, .inl qq)), (hm, .inr (12, [.ref ms, .ref mkp, .int (nI kmz_12), .ref mtr, .int (nI n), .int (nI k), .int (nI al), .int (nI be), .int ea, .int pr, .ref mas, .int nq, .int po, .int (nI en), .ref mso, .ref mon, .ref mot, .ref man, .int (nI 0), .int xd, .ref mst, .ref msm, .ref mtb, .ref mti, .ref mfr, .ref mbn, .ref mbs, .ref mde, .int sF, .int sN, .int sS, .int ig, .long xa, .long xb, .ref maa, .ref mab, .ref mba, .ref mbb])), (ms, .inl (cs 0, 288, .inl f)), (mkp, .inl (cs 0, 2304, .inl gz_13))] H := hP
        replace hD : va_D A [(mas, .inl (cs 0, 8, .inl qq)), (hm, .inr (12, [.ref ms, .ref mkp, .int (nI kmz_12), .ref mtr, .int (nI n), .int (nI k), .int (nI al), .int (nI be), .int ea, .int pr, .ref mas, .int nq, .int po, .int (nI en), .ref mso, .ref mon, .ref mot, .ref man, .int (nI 0), .int xd, .ref mst, .ref msm, .ref mtb, .ref mti, .ref mfr, .ref mbn, .ref mbs, .ref mde, .int sF, .int sN, .int sS, .int ig, .long xa, .long xb, .ref maa, .ref mab, .ref mba, .ref mbb])), (ms, .inl (cs 0, 288, .inl f)), (mkp, .inl (cs 0, 2304, .inl gz_13))] := hD
        refine lv_aload_n hx hb dX12_query_36 rfl (lv_at hl 0 rfl) ?_
        refine xget C hP 1 rfl rfl zuX12 10 (by decide) zw5_223 rfl dX12_query_37 ?_
        refine lv_iload_n hx hb dX12_query_40 rfl (lv_at hl 1 rfl) ?_
        refine lv_dup2_11 hx hb dX12_query_41 rfl rfl ?_
        refine xiald C hP 0 rfl j rfl (by omega) (by decide) dX12_query_42 ?_
        refine lv_iconst (v := nI 1) hx hb dX12_query_43 (by decide) ?_
        refine lv_iadd hx hb dX12_query_44 ?_
        refine xiast C hP hD hS 0 rfl j rfl (by omega) (by decide) dX12_query_45 ?_
        clear hP hD hS
        try clear locs
        try clear H
        intro H locs hP hD hS
        replace hP : va_P D vwCl [(mas, .inl (cs 0, 8, .inl (upd qq j ((qq j) + (nI 1))))), (hm, .inr (12, [.ref ms, .ref mkp, .int (nI kmz_12), .ref mtr, .int (nI n), .int (nI k), .int (nI al), .int (nI be), .int ea, .int pr, .ref mas, .int nq, .int po, .int (nI en), .ref mso, .ref mon, .ref mot, .ref man, .int (nI 0), .int xd, .ref mst, .ref msm, .ref mtb, .ref mti, .ref mfr, .ref mbn, .ref mbs, .ref mde, .int sF, .int sN, .int sS, .int ig, .long xa, .long xb, .ref maa, .ref mab, .ref mba, .ref mbb])), (ms, .inl (cs 0, 288, .inl f)), (mkp, .inl (cs 0, 2304, .inl gz_13))] H := hP
        replace hD : va_D A [(mas, .inl (cs 0, 8, .inl (upd qq j ((qq j) + (nI 1))))), (hm, .inr (12, [.ref ms, .ref mkp, .int (nI kmz_12), .ref mtr, .int (nI n), .int (nI k), .int (nI al), .int (nI be), .int ea, .int pr, .ref mas, .int nq, .int po, .int (nI en), .ref mso, .ref mon, .ref mot, .ref man, .int (nI 0), .int xd, .ref mst, .ref msm, .ref mtb, .ref mti, .ref mfr, .ref mbn, .ref mbs, .ref mde, .int sF, .int sN, .int sS, .int ig, .long xa, .long xb, .ref maa, .ref mab, .ref mba, .ref mbb])), (ms, .inl (cs 0, 288, .inl f)), (mkp, .inl (cs 0, 2304, .inl gz_13))] := hD
        refine lv_aload_n hx hb dX12_query_46 rfl (lv_at hl 0 rfl) ?_
        refine lv_dup hx hb dX12_query_47 rfl ?_
        refine xget C hP 1 rfl rfl zuX12 11 (by decide) zw5_224 rfl dX12_query_48 ?_
        refine lv_iconst (v := nI 1) hx hb dX12_query_51 (by decide) ?_
        refine lv_iadd hx hb dX12_query_52 ?_
        refine xput C hP hD hS 1 rfl rfl zuX12 tyX12 tyX12_ok nmX12 11 (by decide) zw5_224 rfl rfl rfl (Nat.le_of_ble_eq_true rfl) dX12_query_53 ?_
        clear hP hD hS
        try clear locs
        try clear H
        intro H locs hP hD hS
        replace hP : va_P D vwCl [(mas, .inl (cs 0, 8, .inl (upd qq j ((qq j) + (nI 1))))), (hm, .inr (12, [.ref ms, .ref mkp, .int (nI kmz_12), .ref mtr, .int (nI n), .int (nI k), .int (nI al), .int (nI be), .int ea, .int pr, .ref mas, .int (nq + (nI 1)), .int po, .int (nI en), .ref mso, .ref mon, .ref mot, .ref man, .int (nI 0), .int xd, .ref mst, .ref msm, .ref mtb, .ref mti, .ref mfr, .ref mbn, .ref mbs, .ref mde, .int sF, .int sN, .int sS, .int ig, .long xa, .long xb, .ref maa, .ref mab, .ref mba, .ref mbb])), (ms, .inl (cs 0, 288, .inl f)), (mkp, .inl (cs 0, 2304, .inl gz_13))] H := hP
        replace hD : va_D A [(mas, .inl (cs 0, 8, .inl (upd qq j ((qq j) + (nI 1))))), (hm, .inr (12, [.ref ms, .ref mkp, .int (nI kmz_12), .ref mtr, .int (nI n), .int (nI k), .int (nI al), .int (nI be), .int ea, .int pr, .ref mas, .int (nq + (nI 1)), .int po, .int (nI en), .ref mso, .ref mon, .ref mot, .ref man, .int (nI 0), .int xd, .ref mst, .ref msm, .ref mtb, .ref mti, .ref mfr, .ref mbn, .ref mbs, .ref mde, .int sF, .int sN, .int sS, .int ig, .long xa, .long xb, .ref maa, .ref mab, .ref mba, .ref mbb])), (ms, .inl (cs 0, 288, .inl f)), (mkp, .inl (cs 0, 2304, .inl gz_13))] := hD
        refine lv_aload_n hx hb dX12_query_56 rfl (lv_at hl 0 rfl) ?_
        refine lv_iload_n hx hb dX12_query_57 rfl (lv_at hl 1 rfl) ?_
        refine lv_iload_n hx hb dX12_query_58 rfl (lv_at hl 2 rfl) ?_
        refine xi (wr := [(mas, .inl (cs 0, 8, .inl (upd qq j ((qq j) + (nI 1))))), (mkp, .inl (cs 0, 2304, .inl gz_13))]) (xV (As := [.int (nI j), .int y]) (rest := []) C (c_X12_asks l D cs hm ms mkp mtr mas mso mon mot man mst msm mtb mti mfr mbn mbs mde maa mab mba mbb n k al be kmz_12 en ea pr (nq + (nI 1)) po (nI 0) xd sF sN sS ig xa xb f j y hn (by omega) hs hna) kX12_145 hP hD [1, 2] rfl (by decide +kernel) 0 rfl rfl rfl ⟨Nat.le_of_ble_eq_true rfl, Nat.le_of_ble_eq_true rfl⟩ rfl hl.1 rfl (Nat.le_of_ble_eq_true rfl) dX12_query_59 ⟨Nat.le_of_ble_eq_true rfl, Nat.le_of_ble_eq_true rfl⟩) hP hD hS hA [1, 2] [0, 3] rfl rfl (by decide +kernel) (by decide +kernel) ?_
        clear hP hD hS
        try clear locs
        try clear H
        intro r_14 u_15 H locs hw_r_14 hP hD hS
        have hw_r_14 : colP u_15 ∧ ∃ y, y < 3 ∧ r_14 = nI y := hw_r_14
        refine W.widen (k := 0) (n := 0) (Nat.le_of_ble_eq_true rfl) (Nat.le_of_ble_eq_true rfl) ?_
        replace hP : va_P D vwCl [(mas, .inl (cs 0, 8, .inl (upd qq j ((qq j) + (nI 1))))), (mkp, .inl (cs 0, 2304, .inl gz_13)), (hm, .inr (12, [.ref ms, .ref mkp, .int (nI kmz_12), .ref mtr, .int (nI n), .int (nI k), .int (nI al), .int (nI be), .int ea, .int pr, .ref mas, .int (nq + (nI 1)), .int po, .int (nI en), .ref mso, .ref mon, .ref mot, .ref man, .int (nI 0), .int xd, .ref mst, .ref msm, .ref mtb, .ref mti, .ref mfr, .ref mbn, .ref mbs, .ref mde, .int sF, .int sN, .int sS, .int ig, .long xa, .long xb, .ref maa, .ref mab, .ref mba, .ref mbb])), (ms, .inl (cs 0, 288, .inl u_15))] H := hP
        replace hD : va_D A [(mas, .inl (cs 0, 8, .inl (upd qq j ((qq j) + (nI 1))))), (mkp, .inl (cs 0, 2304, .inl gz_13)), (hm, .inr (12, [.ref ms, .ref mkp, .int (nI kmz_12), .ref mtr, .int (nI n), .int (nI k), .int (nI al), .int (nI be), .int ea, .int pr, .ref mas, .int (nq + (nI 1)), .int po, .int (nI en), .ref mso, .ref mon, .ref mot, .ref man, .int (nI 0), .int xd, .ref mst, .ref msm, .ref mtb, .ref mti, .ref mfr, .ref mbn, .ref mbs, .ref mde, .int sF, .int sN, .int sS, .int ig, .long xa, .long xb, .ref maa, .ref mab, .ref mba, .ref mbb])), (ms, .inl (cs 0, 288, .inl u_15))] := hD
        exact xreti C (⟨kmz_12, u_15, gz_13, (nq + (nI 1)), (upd qq j ((qq j) + (nI 1)))⟩) (⟨(hw_r_14).1, hw_r_10⟩) (xP_map hP [2, 3, 1, 0] rfl) (hD.sub [2, 3, 1, 0] (by decide +kernel) rfl) hS (Nat.le_of_ble_eq_true rfl) (Nat.le_of_ble_eq_true rfl) rfl dX12_query_62
      · -- 27 f
        refine lv_iconst (v := (-1)) hx hb dX12_query_30 (by decide) ?_
        exact xreti C (⟨km, f, g, nq, qq⟩) (⟨hs, ⟨hk, hkm⟩⟩) (xP_map hP [2, 3, 0, 1] rfl) (hD.sub [2, 3, 0, 1] (by decide +kernel) rfl) hS (Nat.le_of_ble_eq_true rfl) (Nat.le_of_ble_eq_true rfl) rfl dX12_query_31

set_option maxHeartbeats 4000000 in
set_option maxRecDepth 100000 in
theorem c_X12_puts (l : Launch) (D : va_G) (cs : Nat → ClassId) (hm ms mkp mtr mas mso mon mot man mst msm mtb mti mfr mbn mbs mde maa mab mba mbb : Nat) (n k al be km en : Nat) (ea pr nq po th xd sF sN sS ig : Int32) (xa xb : Int64) (a1 a2 : Nat) (f1 f2 : Nat → Int32) : xMet l D cs yX12_puts cX12_puts 4 none ({ frames := 0, cells := 0, slots := 0, locals := 0 } : Room) [.ref hm, .ref a1, .ref a2] [(hm, .inr (12, [.ref ms, .ref mkp, .int (nI km), .ref mtr, .int (nI n), .int (nI k), .int (nI al), .int (nI be), .int ea, .int pr, .ref mas, .int nq, .int po, .int (nI en), .ref mso, .ref mon, .ref mot, .ref man, .int th, .int xd, .ref mst, .ref msm, .ref mtb, .ref mti, .ref mfr, .ref mbn, .ref mbs, .ref mde, .int sF, .int sN, .int sS, .int ig, .long xa, .long xb, .ref maa, .ref mab, .ref mba, .ref mbb])), (a1, .inl (cs 0, 288, .inl f1)), (a2, .inl (cs 0, 288, .inl f2))] (xQv D (fun (gz : (Nat → Int32)) => ∀ j, j < 288 → gz j = f1 j) (fun (gz : (Nat → Int32)) => [(hm, .inr (12, [.ref ms, .ref mkp, .int (nI km), .ref mtr, .int (nI n), .int (nI k), .int (nI al), .int (nI be), .int ea, .int pr, .ref mas, .int nq, .int po, .int (nI en), .ref mso, .ref mon, .ref mot, .ref man, .int th, .int xd, .ref mst, .ref msm, .ref mtb, .ref mti, .ref mfr, .ref mbn, .ref mbs, .ref mde, .int sF, .int sN, .int sS, .int ig, .long xa, .long xb, .ref maa, .ref mab, .ref mba, .ref mbb])), (a1, .inl (cs 0, 288, .inl f1)), (a2, .inl (cs 0, 288, .inl gz))])) := by
  refine xMet.intro (by decide) (Nat.le_of_ble_eq_true rfl) ?_
  intro p e s m args below meth c A ls C hP hD hS hl
  have hx := C.1
  have hb := C.2.1
  have hz := C.2.2.2.2.1
  have hown := C.2.2.2.1
  have hA := C.2.2.2.2.2.2.2.2.2
  have hAO := C.2.2.2.2.2.2.2.2.1.2.2
  replace hl : lv_has ls 4 [(0, .ref hm), (1, .ref a1), (2, .ref a2)] := hl
  obtain ⟨H, hH⟩ : ∃ H, H = s.heap := ⟨_, rfl⟩
  replace hP : va_P D vwCl [(hm, .inr (12, [.ref ms, .ref mkp, .int (nI km), .ref mtr, .int (nI n), .int (nI k), .int (nI al), .int (nI be), .int ea, .int pr, .ref mas, .int nq, .int po, .int (nI en), .ref mso, .ref mon, .ref mot, .ref man, .int th, .int xd, .ref mst, .ref msm, .ref mtb, .ref mti, .ref mfr, .ref mbn, .ref mbs, .ref mde, .int sF, .int sN, .int sS, .int ig, .long xa, .long xb, .ref maa, .ref mab, .ref mba, .ref mbb])), (a1, .inl (cs 0, 288, .inl f1)), (a2, .inl (cs 0, 288, .inl f2))] H := by rw [hH]; exact hP
  replace hS : va_S A s.heap H [] := by rw [hH]; exact hS
  obtain ⟨locs, hlocs⟩ : ∃ z : List Loc, z = [] := ⟨_, rfl⟩
  rw [← hlocs] at hS
  suffices hW : W p l e ({ frames := 0, cells := 0, slots := 0, locals := 0 } : Room) s m args below meth c H locs 0 0 (MQ below ((xQv D (fun (gz : (Nat → Int32)) => ∀ j, j < 288 → gz j = f1 j) (fun (gz : (Nat → Int32)) => [(hm, .inr (12, [.ref ms, .ref mkp, .int (nI km), .ref mtr, .int (nI n), .int (nI k), .int (nI al), .int (nI be), .int ea, .int pr, .ref mas, .int nq, .int po, .int (nI en), .ref mso, .ref mon, .ref mot, .ref man, .int th, .int xd, .ref mst, .ref msm, .ref mtb, .ref mti, .ref mfr, .ref mbn, .ref mbs, .ref mde, .int sF, .int sN, .int sS, .int ig, .long xa, .long xb, .ref maa, .ref mab, .ref mba, .ref mbb])), (a1, .inl (cs 0, 288, .inl f1)), (a2, .inl (cs 0, 288, .inl gz))])) A) args s 0 0 A) (F0 m 0 ls []) by rw [hlocs, hH] at hW; exact hW
  clear hH hlocs
  refine lv_iconst (v := nI 0) hx hb dX12_puts_0 (by decide) ?_
  refine lv_istore_n (lv' := [(3, .int (nI 0)), (0, .ref hm), (1, .ref a1), (2, .ref a2)]) hx hb dX12_puts_1 rfl hl (by decide) rfl ?_
  clear hl
  try clear ls
  intro ls hl
  have loop_1 : ∀ (n_loop_1 : Nat) (i : Nat) (g9 : Nat → Int32), (i ≤ 288) → (∀ j, j < i → g9 j = f1 j) → 288 - i < n_loop_1 → ∀ (H : Heap) (locs : List Loc) (ls : Array Slot), va_P D vwCl [(hm, .inr (12, [.ref ms, .ref mkp, .int (nI km), .ref mtr, .int (nI n), .int (nI k), .int (nI al), .int (nI be), .int ea, .int pr, .ref mas, .int nq, .int po, .int (nI en), .ref mso, .ref mon, .ref mot, .ref man, .int th, .int xd, .ref mst, .ref msm, .ref mtb, .ref mti, .ref mfr, .ref mbn, .ref mbs, .ref mde, .int sF, .int sN, .int sS, .int ig, .long xa, .long xb, .ref maa, .ref mab, .ref mba, .ref mbb])), (a1, .inl (cs 0, 288, .inl f1)), (a2, .inl (cs 0, 288, .inl g9))] H → va_D A [(hm, .inr (12, [.ref ms, .ref mkp, .int (nI km), .ref mtr, .int (nI n), .int (nI k), .int (nI al), .int (nI be), .int ea, .int pr, .ref mas, .int nq, .int po, .int (nI en), .ref mso, .ref mon, .ref mot, .ref man, .int th, .int xd, .ref mst, .ref msm, .ref mtb, .ref mti, .ref mfr, .ref mbn, .ref mbs, .ref mde, .int sF, .int sN, .int sS, .int ig, .long xa, .long xb, .ref maa, .ref mab, .ref mba, .ref mbb])), (a1, .inl (cs 0, 288, .inl f1)), (a2, .inl (cs 0, 288, .inl g9))] → va_S A s.heap H locs → lv_has ls 4 [(3, .int (nI i)), (0, .ref hm), (1, .ref a1), (2, .ref a2)] → W p l e ({ frames := 0, cells := 0, slots := 0, locals := 0 } : Room) s m args below meth c H locs 0 0 (MQ below ((xQv D (fun (gz : (Nat → Int32)) => ∀ j, j < 288 → gz j = f1 j) (fun (gz : (Nat → Int32)) => [(hm, .inr (12, [.ref ms, .ref mkp, .int (nI km), .ref mtr, .int (nI n), .int (nI k), .int (nI al), .int (nI be), .int ea, .int pr, .ref mas, .int nq, .int po, .int (nI en), .ref mso, .ref mon, .ref mot, .ref man, .int th, .int xd, .ref mst, .ref msm, .ref mtb, .ref mti, .ref mfr, .ref mbn, .ref mbs, .ref mde, .int sF, .int sN, .int sS, .int ig, .long xa, .long xb, .ref maa, .ref mab, .ref mba, .ref mbb])), (a1, .inl (cs 0, 288, .inl f1)), (a2, .inl (cs 0, 288, .inl gz))])) A) args s 0 0 A) (F0 m 2 ls []) := by
    intro n_loop_1
    induction n_loop_1 with
    | zero => intro i g9 h_i hg9 hlt H locs ls hP hD hS hl; exact absurd hlt (Nat.not_lt_zero _)
    | succ n_loop_1 ih_loop_1 =>
      intro i g9 h_i hg9 hlt_loop_1 H locs ls hP hD hS hl
      refine lv_iload_n hx hb dX12_puts_2 rfl (lv_at hl 0 rfl) ?_
      refine lv_sipush (v := nI 288) hx hb dX12_puts_3 (by decide) ?_
      refine lv_icmp_ge (tgt := 21) hx hb dX12_puts_6 (by decide) (fun c_2 => ?_) (fun c_2 => ?_)
      · -- 6 t
        have fc_2 : 288 ≤ i := nf_le (by omega) (by omega) c_2
        exact xretv C g9 (fun j hj => hg9 j (by omega)) hP hD hS (Nat.le_of_ble_eq_true rfl) (Nat.le_of_ble_eq_true rfl) dX12_puts_21
      · -- 6 f
        have fc_2 : i < 288 := nf_nle (by omega) (by omega) c_2
        refine lv_aload_n hx hb dX12_puts_9 rfl (lv_at hl 3 rfl) ?_
        refine lv_iload_n hx hb dX12_puts_10 rfl (lv_at hl 0 rfl) ?_
        refine lv_aload_n hx hb dX12_puts_11 rfl (lv_at hl 2 rfl) ?_
        refine lv_iload_n hx hb dX12_puts_12 rfl (lv_at hl 0 rfl) ?_
        refine xiald C hP 1 rfl i rfl (by omega) (by decide) dX12_puts_13 ?_
        refine xiast C hP hD hS 2 rfl i rfl (by omega) (by decide) dX12_puts_14 ?_
        clear hP hD hS
        try clear locs
        try clear H
        intro H locs hP hD hS
        replace hP : va_P D vwCl [(hm, .inr (12, [.ref ms, .ref mkp, .int (nI km), .ref mtr, .int (nI n), .int (nI k), .int (nI al), .int (nI be), .int ea, .int pr, .ref mas, .int nq, .int po, .int (nI en), .ref mso, .ref mon, .ref mot, .ref man, .int th, .int xd, .ref mst, .ref msm, .ref mtb, .ref mti, .ref mfr, .ref mbn, .ref mbs, .ref mde, .int sF, .int sN, .int sS, .int ig, .long xa, .long xb, .ref maa, .ref mab, .ref mba, .ref mbb])), (a1, .inl (cs 0, 288, .inl f1)), (a2, .inl (cs 0, 288, .inl (upd g9 i (f1 i))))] H := hP
        replace hD : va_D A [(hm, .inr (12, [.ref ms, .ref mkp, .int (nI km), .ref mtr, .int (nI n), .int (nI k), .int (nI al), .int (nI be), .int ea, .int pr, .ref mas, .int nq, .int po, .int (nI en), .ref mso, .ref mon, .ref mot, .ref man, .int th, .int xd, .ref mst, .ref msm, .ref mtb, .ref mti, .ref mfr, .ref mbn, .ref mbs, .ref mde, .int sF, .int sN, .int sS, .int ig, .long xa, .long xb, .ref maa, .ref mab, .ref mba, .ref mbb])), (a1, .inl (cs 0, 288, .inl f1)), (a2, .inl (cs 0, 288, .inl (upd g9 i (f1 i))))] := hD
        refine lv_iinc (v := nI (i + 1)) (lv' := [(3, .int (nI (i + 1))), (0, .ref hm), (1, .ref a1), (2, .ref a2)]) hx hb dX12_puts_15 hl (k := 0) rfl (nI_add i 1) (by decide) rfl ?_
        clear hl
        try clear ls
        intro ls hl
        refine lv_goto (tgt := 2) hx hb dX12_puts_18 (by decide) ?_
        exact ih_loop_1 (i + 1) (upd g9 i (f1 i)) (by omega) (fun j hj => by unfold upd; by_cases q : j = i; rw [if_pos q, q]; rw [if_neg q]; exact hg9 j (by omega)) (by omega) H locs ls hP hD hS (lv_sub hl [0, 1, 2, 3] rfl)
  exact loop_1 _ 0 f2 (by omega) (fun j hj => absurd hj (Nat.not_lt_zero j)) (Nat.lt_succ_self _) H locs ls hP hD hS (lv_sub hl [0, 1, 2, 3] rfl)

theorem colP_eq {f g : Nat → Int32} (h : colP f) (e : ∀ j, j < 288 → g j = f j) : colP g := fun a ha => by rw [e a (by omega)]; exact h a ha

set_option maxHeartbeats 4000000 in
set_option maxRecDepth 100000 in
theorem c_X12_would (l : Launch) (D : va_G) (cs : Nat → ClassId) (hm ms mkp mtr mas mso mon mot man mst msm mtb mti mfr mbn mbs mde maa mab mba mbb : Nat) (n k al be km en : Nat) (ea pr nq po th xd sF sN sS ig : Int32) (xa xb : Int64) (f : Nat → Int32) (tf : Nat → Int32) (x y : Int32) (hn : 2 ≤ n ∧ n ≤ 8) (hs : colP f) : xMet l D cs yX12_would cX12_would 4 (some .int) ({ frames := 3, cells := 0, slots := 0, locals := 71 } : Room) [.ref hm, .int x, .int y] [(hm, .inr (12, [.ref ms, .ref mkp, .int (nI km), .ref mtr, .int (nI n), .int (nI k), .int (nI al), .int (nI be), .int ea, .int pr, .ref mas, .int nq, .int po, .int (nI en), .ref mso, .ref mon, .ref mot, .ref man, .int th, .int xd, .ref mst, .ref msm, .ref mtb, .ref mti, .ref mfr, .ref mbn, .ref mbs, .ref mde, .int sF, .int sN, .int sS, .int ig, .long xa, .long xb, .ref maa, .ref mab, .ref mba, .ref mbb])), (ms, .inl (cs 0, 288, .inl f)), (mtr, .inl (cs 0, 288, .inl tf))] (xQi D (fun (r : Int32) (u : (Nat → Int32) × (Nat → Int32)) => match u with | (fz, tz) => colP fz ∧ ∀ j, j < 288 → fz j = f j) (fun (u : (Nat → Int32) × (Nat → Int32)) => match u with | (fz, tz) => [(hm, .inr (12, [.ref ms, .ref mkp, .int (nI km), .ref mtr, .int (nI n), .int (nI k), .int (nI al), .int (nI be), .int ea, .int pr, .ref mas, .int nq, .int po, .int (nI en), .ref mso, .ref mon, .ref mot, .ref man, .int (nI 0), .int xd, .ref mst, .ref msm, .ref mtb, .ref mti, .ref mfr, .ref mbn, .ref mbs, .ref mde, .int sF, .int sN, .int sS, .int ig, .long xa, .long xb, .ref maa, .ref mab, .ref mba, .ref mbb])), (ms, .inl (cs 0, 288, .inl fz)), (mtr, .inl (cs 0, 288, .inl tz))])) := by
  refine xMet.intro (by decide) (Nat.le_of_ble_eq_true rfl) ?_
  intro p e s m args below meth c A ls C hP hD hS hl
  have hx := C.1
  have hb := C.2.1
  have hz := C.2.2.2.2.1
  have hown := C.2.2.2.1
  have hA := C.2.2.2.2.2.2.2.2.2
  have hAO := C.2.2.2.2.2.2.2.2.1.2.2
  replace hl : lv_has ls 4 [(0, .ref hm), (1, .int x), (2, .int y)] := hl
  obtain ⟨H, hH⟩ : ∃ H, H = s.heap := ⟨_, rfl⟩
  replace hP : va_P D vwCl [(hm, .inr (12, [.ref ms, .ref mkp, .int (nI km), .ref mtr, .int (nI n), .int (nI k), .int (nI al), .int (nI be), .int ea, .int pr, .ref mas, .int nq, .int po, .int (nI en), .ref mso, .ref mon, .ref mot, .ref man, .int th, .int xd, .ref mst, .ref msm, .ref mtb, .ref mti, .ref mfr, .ref mbn, .ref mbs, .ref mde, .int sF, .int sN, .int sS, .int ig, .long xa, .long xb, .ref maa, .ref mab, .ref mba, .ref mbb])), (ms, .inl (cs 0, 288, .inl f)), (mtr, .inl (cs 0, 288, .inl tf))] H := by rw [hH]; exact hP
  replace hS : va_S A s.heap H [] := by rw [hH]; exact hS
  obtain ⟨locs, hlocs⟩ : ∃ z : List Loc, z = [] := ⟨_, rfl⟩
  rw [← hlocs] at hS
  suffices hW : W p l e ({ frames := 3, cells := 0, slots := 0, locals := 71 } : Room) s m args below meth c H locs 0 0 (MQ below ((xQi D (fun (r : Int32) (u : (Nat → Int32) × (Nat → Int32)) => match u with | (fz, tz) => colP fz ∧ ∀ j, j < 288 → fz j = f j) (fun (u : (Nat → Int32) × (Nat → Int32)) => match u with | (fz, tz) => [(hm, .inr (12, [.ref ms, .ref mkp, .int (nI km), .ref mtr, .int (nI n), .int (nI k), .int (nI al), .int (nI be), .int ea, .int pr, .ref mas, .int nq, .int po, .int (nI en), .ref mso, .ref mon, .ref mot, .ref man, .int (nI 0), .int xd, .ref mst, .ref msm, .ref mtb, .ref mti, .ref mfr, .ref mbn, .ref mbs, .ref mde, .int sF, .int sN, .int sS, .int ig, .long xa, .long xb, .ref maa, .ref mab, .ref mba, .ref mbb])), (ms, .inl (cs 0, 288, .inl fz)), (mtr, .inl (cs 0, 288, .inl tz))])) A) args s 0 0 A) (F0 m 0 ls []) by rw [hlocs, hH] at hW; exact hW
  clear hH hlocs
  refine lv_aload_n hx hb dX12_would_0 rfl (lv_at hl 0 rfl) ?_
  refine lv_iconst (v := nI 0) hx hb dX12_would_1 (by decide) ?_
  refine xput C hP hD hS 0 rfl rfl zuX12 tyX12 tyX12_ok nmX12 18 (by decide) zw5_231 rfl rfl rfl (Nat.le_of_ble_eq_true rfl) dX12_would_2 ?_
  clear hP hD hS
  try clear locs
  try clear H
  intro H locs hP hD hS
  replace hP : va_P D vwCl [(hm, .inr (12, [.ref ms, .ref mkp, .int (nI km), .ref mtr, .int (nI n), .int (nI k), .int (nI al), .int (nI be), .int ea, .int pr, .ref mas, .int nq, .int po, .int (nI en), .ref mso, .ref mon, .ref mot, .ref man, .int (nI 0), .int xd, .ref mst, .ref msm, .ref mtb, .ref mti, .ref mfr, .ref mbn, .ref mbs, .ref mde, .int sF, .int sN, .int sS, .int ig, .long xa, .long xb, .ref maa, .ref mab, .ref mba, .ref mbb])), (ms, .inl (cs 0, 288, .inl f)), (mtr, .inl (cs 0, 288, .inl tf))] H := hP
  replace hD : va_D A [(hm, .inr (12, [.ref ms, .ref mkp, .int (nI km), .ref mtr, .int (nI n), .int (nI k), .int (nI al), .int (nI be), .int ea, .int pr, .ref mas, .int nq, .int po, .int (nI en), .ref mso, .ref mon, .ref mot, .ref man, .int (nI 0), .int xd, .ref mst, .ref msm, .ref mtb, .ref mti, .ref mfr, .ref mbn, .ref mbs, .ref mde, .int sF, .int sN, .int sS, .int ig, .long xa, .long xb, .ref maa, .ref mab, .ref mba, .ref mbb])), (ms, .inl (cs 0, 288, .inl f)), (mtr, .inl (cs 0, 288, .inl tf))] := hD
  refine lv_aload_n hx hb dX12_would_5 rfl (lv_at hl 0 rfl) ?_
  refine lv_iload_n hx hb dX12_would_6 rfl (lv_at hl 1 rfl) ?_
  refine xi (wr := [(ms, .inl (cs 0, 288, .inl f)), (mtr, .inl (cs 0, 288, .inl tf))]) (xV (As := [.int x]) (rest := []) C (c_X12_isNode l D cs hm ms mkp mtr mas mso mon mot man mst msm mtb mti mfr mbn mbs mde maa mab mba mbb n k al be km en ea pr nq po (nI 0) xd sF sN sS ig xa xb x hn) kX12_120 hP hD [0] rfl (by decide +kernel) 0 rfl rfl rfl ⟨Nat.le_of_ble_eq_true rfl, Nat.le_of_ble_eq_true rfl⟩ rfl hl.1 rfl (Nat.le_of_ble_eq_true rfl) dX12_would_7 ⟨Nat.le_of_ble_eq_true rfl, Nat.le_of_ble_eq_true rfl⟩) hP hD hS hA [0] [1, 2] rfl rfl (by decide +kernel) (by decide +kernel) ?_
  clear hP hD hS
  try clear locs
  try clear H
  intro r_1 u_2 H locs hw_r_1 hP hD hS
  have hw_r_1 : PQ (okN n x) r_1 (nI 1) (nI 0) := hw_r_1
  refine W.widen (k := 0) (n := 0) (Nat.le_of_ble_eq_true rfl) (Nat.le_of_ble_eq_true rfl) ?_
  replace hP : va_P D vwCl [(ms, .inl (cs 0, 288, .inl f)), (mtr, .inl (cs 0, 288, .inl tf)), (hm, .inr (12, [.ref ms, .ref mkp, .int (nI km), .ref mtr, .int (nI n), .int (nI k), .int (nI al), .int (nI be), .int ea, .int pr, .ref mas, .int nq, .int po, .int (nI en), .ref mso, .ref mon, .ref mot, .ref man, .int (nI 0), .int xd, .ref mst, .ref msm, .ref mtb, .ref mti, .ref mfr, .ref mbn, .ref mbs, .ref mde, .int sF, .int sN, .int sS, .int ig, .long xa, .long xb, .ref maa, .ref mab, .ref mba, .ref mbb]))] H := hP
  replace hD : va_D A [(ms, .inl (cs 0, 288, .inl f)), (mtr, .inl (cs 0, 288, .inl tf)), (hm, .inr (12, [.ref ms, .ref mkp, .int (nI km), .ref mtr, .int (nI n), .int (nI k), .int (nI al), .int (nI be), .int ea, .int pr, .ref mas, .int nq, .int po, .int (nI en), .ref mso, .ref mon, .ref mot, .ref man, .int (nI 0), .int xd, .ref mst, .ref msm, .ref mtb, .ref mti, .ref mfr, .ref mbn, .ref mbs, .ref mde, .int sF, .int sN, .int sS, .int ig, .long xa, .long xb, .ref maa, .ref mab, .ref mba, .ref mbb]))] := hD
  refine lv_if_eq (tgt := 30) hx hb dX12_would_10 (by decide) (fun c_3 => ?_) (fun c_3 => ?_)
  · -- 10 t
    have hbad_j : ¬ okN n x := PQ.no hw_r_1 c_3 (by decide)
    refine lv_iconst (v := (-1)) hx hb dX12_would_30 (by decide) ?_
    exact xreti C (⟨f, tf⟩) (⟨hs, fun _ _ => rfl⟩) (xP_map hP [2, 0, 1] rfl) (hD.sub [2, 0, 1] (by decide +kernel) rfl) hS (Nat.le_of_ble_eq_true rfl) (Nat.le_of_ble_eq_true rfl) rfl dX12_would_31
  · -- 10 f
    have hok_j : okN n x := PQ.yes hw_r_1 c_3
    obtain ⟨j, h_j, rfl⟩ := okN_of hok_j (by omega)
    replace hP : va_P D vwCl [(ms, .inl (cs 0, 288, .inl f)), (mtr, .inl (cs 0, 288, .inl tf)), (hm, .inr (12, [.ref ms, .ref mkp, .int (nI km), .ref mtr, .int (nI n), .int (nI k), .int (nI al), .int (nI be), .int ea, .int pr, .ref mas, .int nq, .int po, .int (nI en), .ref mso, .ref mon, .ref mot, .ref man, .int (nI 0), .int xd, .ref mst, .ref msm, .ref mtb, .ref mti, .ref mfr, .ref mbn, .ref mbs, .ref mde, .int sF, .int sN, .int sS, .int ig, .long xa, .long xb, .ref maa, .ref mab, .ref mba, .ref mbb]))] H := hP
    replace hD : va_D A [(ms, .inl (cs 0, 288, .inl f)), (mtr, .inl (cs 0, 288, .inl tf)), (hm, .inr (12, [.ref ms, .ref mkp, .int (nI km), .ref mtr, .int (nI n), .int (nI k), .int (nI al), .int (nI be), .int ea, .int pr, .ref mas, .int nq, .int po, .int (nI en), .ref mso, .ref mon, .ref mot, .ref man, .int (nI 0), .int xd, .ref mst, .ref msm, .ref mtb, .ref mti, .ref mfr, .ref mbn, .ref mbs, .ref mde, .int sF, .int sN, .int sS, .int ig, .long xa, .long xb, .ref maa, .ref mab, .ref mba, .ref mbb]))] := hD
    refine lv_aload_n hx hb dX12_would_13 rfl (lv_at hl 0 rfl) ?_
    refine lv_iload_n hx hb dX12_would_14 rfl (lv_at hl 1 rfl) ?_
    refine lv_iload_n hx hb dX12_would_15 rfl (lv_at hl 2 rfl) ?_
    refine xi (wr := [(ms, .inl (cs 0, 288, .inl f)), (mtr, .inl (cs 0, 288, .inl tf))]) (xV (As := [.int (nI j), .int y]) (rest := []) C (c_X12_isSample l D cs hm ms mkp mtr mas mso mon mot man mst msm mtb mti mfr mbn mbs mde maa mab mba mbb n k al be km en ea pr nq po (nI 0) xd sF sN sS ig xa xb j y) kX12_139 hP hD [2] rfl (by decide +kernel) 0 rfl rfl rfl ⟨Nat.le_of_ble_eq_true rfl, Nat.le_of_ble_eq_true rfl⟩ rfl hl.1 rfl (Nat.le_of_ble_eq_true rfl) dX12_would_16 ⟨Nat.le_of_ble_eq_true rfl, Nat.le_of_ble_eq_true rfl⟩) hP hD hS hA [2] [0, 1] rfl rfl (by decide +kernel) (by decide +kernel) ?_
    clear hP hD hS
    try clear locs
    try clear H
    intro r_4 u_5 H locs hw_r_4 hP hD hS
    have hw_r_4 : (r_4 = nI 0 ∨ r_4 = nI 1) := hw_r_4
    refine W.widen (k := 0) (n := 0) (Nat.le_of_ble_eq_true rfl) (Nat.le_of_ble_eq_true rfl) ?_
    replace hP : va_P D vwCl [(ms, .inl (cs 0, 288, .inl f)), (mtr, .inl (cs 0, 288, .inl tf)), (hm, .inr (12, [.ref ms, .ref mkp, .int (nI km), .ref mtr, .int (nI n), .int (nI k), .int (nI al), .int (nI be), .int ea, .int pr, .ref mas, .int nq, .int po, .int (nI en), .ref mso, .ref mon, .ref mot, .ref man, .int (nI 0), .int xd, .ref mst, .ref msm, .ref mtb, .ref mti, .ref mfr, .ref mbn, .ref mbs, .ref mde, .int sF, .int sN, .int sS, .int ig, .long xa, .long xb, .ref maa, .ref mab, .ref mba, .ref mbb]))] H := hP
    replace hD : va_D A [(ms, .inl (cs 0, 288, .inl f)), (mtr, .inl (cs 0, 288, .inl tf)), (hm, .inr (12, [.ref ms, .ref mkp, .int (nI km), .ref mtr, .int (nI n), .int (nI k), .int (nI al), .int (nI be), .int ea, .int pr, .ref mas, .int nq, .int po, .int (nI en), .ref mso, .ref mon, .ref mot, .ref man, .int (nI 0), .int xd, .ref mst, .ref msm, .ref mtb, .ref mti, .ref mfr, .ref mbn, .ref mbs, .ref mde, .int sF, .int sN, .int sS, .int ig, .long xa, .long xb, .ref maa, .ref mab, .ref mba, .ref mbb]))] := hD
    refine lv_if_eq (tgt := 30) hx hb dX12_would_19 (by decide) (fun c_6 => ?_) (fun c_6 => ?_)
    · -- 19 t
      refine lv_iconst (v := (-1)) hx hb dX12_would_30 (by decide) ?_
      exact xreti C (⟨f, tf⟩) (⟨hs, fun _ _ => rfl⟩) (xP_map hP [2, 0, 1] rfl) (hD.sub [2, 0, 1] (by decide +kernel) rfl) hS (Nat.le_of_ble_eq_true rfl) (Nat.le_of_ble_eq_true rfl) rfl dX12_would_31
    · -- 19 f
      refine lv_aload_n hx hb dX12_would_22 rfl (lv_at hl 0 rfl) ?_
      refine lv_iload_n hx hb dX12_would_23 rfl (lv_at hl 1 rfl) ?_
      refine xi (wr := [(mtr, .inl (cs 0, 288, .inl tf))]) (xV (As := [.int (nI j)]) (rest := []) C (c_X12_canAsk l D cs hm ms mkp mtr mas mso mon mot man mst msm mtb mti mfr mbn mbs mde maa mab mba mbb n k al be km en ea pr nq po (nI 0) xd sF sN sS ig xa xb f j (by omega)) kX12_142 hP hD [2, 0] rfl (by decide +kernel) 0 rfl rfl rfl ⟨Nat.le_of_ble_eq_true rfl, Nat.le_of_ble_eq_true rfl⟩ rfl hl.1 rfl (Nat.le_of_ble_eq_true rfl) dX12_would_24 ⟨Nat.le_of_ble_eq_true rfl, Nat.le_of_ble_eq_true rfl⟩) hP hD hS hA [2, 0] [1] rfl rfl (by decide +kernel) (by decide +kernel) ?_
      clear hP hD hS
      try clear locs
      try clear H
      intro r_7 u_8 H locs hw_r_7 hP hD hS
      have hw_r_7 : (r_7 = nI 0 ∨ r_7 = nI 1) ∧ (r_7 = nI 1 → ¬ f (0 + j) < 0) := hw_r_7
      refine W.widen (k := 0) (n := 0) (Nat.le_of_ble_eq_true rfl) (Nat.le_of_ble_eq_true rfl) ?_
      replace hP : va_P D vwCl [(mtr, .inl (cs 0, 288, .inl tf)), (hm, .inr (12, [.ref ms, .ref mkp, .int (nI km), .ref mtr, .int (nI n), .int (nI k), .int (nI al), .int (nI be), .int ea, .int pr, .ref mas, .int nq, .int po, .int (nI en), .ref mso, .ref mon, .ref mot, .ref man, .int (nI 0), .int xd, .ref mst, .ref msm, .ref mtb, .ref mti, .ref mfr, .ref mbn, .ref mbs, .ref mde, .int sF, .int sN, .int sS, .int ig, .long xa, .long xb, .ref maa, .ref mab, .ref mba, .ref mbb])), (ms, .inl (cs 0, 288, .inl f))] H := hP
      replace hD : va_D A [(mtr, .inl (cs 0, 288, .inl tf)), (hm, .inr (12, [.ref ms, .ref mkp, .int (nI km), .ref mtr, .int (nI n), .int (nI k), .int (nI al), .int (nI be), .int ea, .int pr, .ref mas, .int nq, .int po, .int (nI en), .ref mso, .ref mon, .ref mot, .ref man, .int (nI 0), .int xd, .ref mst, .ref msm, .ref mtb, .ref mti, .ref mfr, .ref mbn, .ref mbs, .ref mde, .int sF, .int sN, .int sS, .int ig, .long xa, .long xb, .ref maa, .ref mab, .ref mba, .ref mbb])), (ms, .inl (cs 0, 288, .inl f))] := hD
      refine lv_if_ne (tgt := 32) hx hb dX12_would_27 (by decide) (fun c_9 => ?_) (fun c_9 => ?_)
      · -- 27 t
        have hna := hw_r_7.2 (hw_r_7.1.resolve_left c_9)
        refine lv_aload_n hx hb dX12_would_32 rfl (lv_at hl 0 rfl) ?_
        refine lv_aload_n hx hb dX12_would_33 rfl (lv_at hl 0 rfl) ?_
        refine xget C hP 1 rfl rfl zuX12 0 (by decide) zw5_213 rfl dX12_would_34 ?_
        refine lv_aload_n hx hb dX12_would_37 rfl (lv_at hl 0 rfl) ?_
        refine xget C hP 1 rfl rfl zuX12 3 (by decide) zw5_216 rfl dX12_would_38 ?_
        refine xv (wr := []) (xV (As := [.ref ms, .ref mtr]) (rest := []) C (c_X12_puts l D cs hm ms mkp mtr mas mso mon mot man mst msm mtb mti mfr mbn mbs mde maa mab mba mbb n k al be km en ea pr nq po (nI 0) xd sF sN sS ig xa xb ms mtr f tf) kX12_148 hP hD [1, 2, 0] rfl (by decide +kernel) 0 rfl rfl rfl ⟨Nat.le_of_ble_eq_true rfl, Nat.le_of_ble_eq_true rfl⟩ rfl hl.1 rfl (Nat.le_of_ble_eq_true rfl) dX12_would_41 ⟨Nat.le_of_ble_eq_true rfl, Nat.le_of_ble_eq_true rfl⟩) hP hD hS hA [1, 2, 0] [] rfl rfl (by decide +kernel) (by decide +kernel) ?_
        clear hP hD hS
        try clear locs
        try clear H
        intro u_11 H locs hw_r_10 hP hD hS
        have hw_r_10 : ∀ j, j < 288 → u_11 j = f j := hw_r_10
        refine W.widen (k := 0) (n := 0) (Nat.le_of_ble_eq_true rfl) (Nat.le_of_ble_eq_true rfl) ?_
        replace hP : va_P D vwCl [(hm, .inr (12, [.ref ms, .ref mkp, .int (nI km), .ref mtr, .int (nI n), .int (nI k), .int (nI al), .int (nI be), .int ea, .int pr, .ref mas, .int nq, .int po, .int (nI en), .ref mso, .ref mon, .ref mot, .ref man, .int (nI 0), .int xd, .ref mst, .ref msm, .ref mtb, .ref mti, .ref mfr, .ref mbn, .ref mbs, .ref mde, .int sF, .int sN, .int sS, .int ig, .long xa, .long xb, .ref maa, .ref mab, .ref mba, .ref mbb])), (ms, .inl (cs 0, 288, .inl f)), (mtr, .inl (cs 0, 288, .inl u_11))] H := hP
        replace hD : va_D A [(hm, .inr (12, [.ref ms, .ref mkp, .int (nI km), .ref mtr, .int (nI n), .int (nI k), .int (nI al), .int (nI be), .int ea, .int pr, .ref mas, .int nq, .int po, .int (nI en), .ref mso, .ref mon, .ref mot, .ref man, .int (nI 0), .int xd, .ref mst, .ref msm, .ref mtb, .ref mti, .ref mfr, .ref mbn, .ref mbs, .ref mde, .int sF, .int sN, .int sS, .int ig, .long xa, .long xb, .ref maa, .ref mab, .ref mba, .ref mbb])), (ms, .inl (cs 0, 288, .inl f)), (mtr, .inl (cs 0, 288, .inl u_11))] := hD
        refine lv_aload_n hx hb dX12_would_44 rfl (lv_at hl 0 rfl) ?_
        refine lv_iload_n hx hb dX12_would_45 rfl (lv_at hl 1 rfl) ?_
        refine lv_iload_n hx hb dX12_would_46 rfl (lv_at hl 2 rfl) ?_
        refine xi (wr := [(mtr, .inl (cs 0, 288, .inl u_11))]) (xV (As := [.int (nI j), .int y]) (rest := []) C (c_X12_asks l D cs hm ms mkp mtr mas mso mon mot man mst msm mtb mti mfr mbn mbs mde maa mab mba mbb n k al be km en ea pr nq po (nI 0) xd sF sN sS ig xa xb f j y hn (by omega) hs hna) kX12_145 hP hD [0, 1] rfl (by decide +kernel) 0 rfl rfl rfl ⟨Nat.le_of_ble_eq_true rfl, Nat.le_of_ble_eq_true rfl⟩ rfl hl.1 rfl (Nat.le_of_ble_eq_true rfl) dX12_would_47 ⟨Nat.le_of_ble_eq_true rfl, Nat.le_of_ble_eq_true rfl⟩) hP hD hS hA [0, 1] [2] rfl rfl (by decide +kernel) (by decide +kernel) ?_
        clear hP hD hS
        try clear locs
        try clear H
        intro r_12 u_13 H locs hw_r_12 hP hD hS
        have hw_r_12 : colP u_13 ∧ ∃ y, y < 3 ∧ r_12 = nI y := hw_r_12
        refine W.widen (k := 0) (n := 0) (Nat.le_of_ble_eq_true rfl) (Nat.le_of_ble_eq_true rfl) ?_
        replace hP : va_P D vwCl [(mtr, .inl (cs 0, 288, .inl u_11)), (hm, .inr (12, [.ref ms, .ref mkp, .int (nI km), .ref mtr, .int (nI n), .int (nI k), .int (nI al), .int (nI be), .int ea, .int pr, .ref mas, .int nq, .int po, .int (nI en), .ref mso, .ref mon, .ref mot, .ref man, .int (nI 0), .int xd, .ref mst, .ref msm, .ref mtb, .ref mti, .ref mfr, .ref mbn, .ref mbs, .ref mde, .int sF, .int sN, .int sS, .int ig, .long xa, .long xb, .ref maa, .ref mab, .ref mba, .ref mbb])), (ms, .inl (cs 0, 288, .inl u_13))] H := hP
        replace hD : va_D A [(mtr, .inl (cs 0, 288, .inl u_11)), (hm, .inr (12, [.ref ms, .ref mkp, .int (nI km), .ref mtr, .int (nI n), .int (nI k), .int (nI al), .int (nI be), .int ea, .int pr, .ref mas, .int nq, .int po, .int (nI en), .ref mso, .ref mon, .ref mot, .ref man, .int (nI 0), .int xd, .ref mst, .ref msm, .ref mtb, .ref mti, .ref mfr, .ref mbn, .ref mbs, .ref mde, .int sF, .int sN, .int sS, .int ig, .long xa, .long xb, .ref maa, .ref mab, .ref mba, .ref mbb])), (ms, .inl (cs 0, 288, .inl u_13))] := hD
        refine lv_istore_n (lv' := [(3, .int r_12), (0, .ref hm), (1, .int (nI j)), (2, .int y)]) hx hb dX12_would_50 rfl hl (by decide) rfl ?_
        clear hl
        try clear ls
        intro ls hl
        refine lv_aload_n hx hb dX12_would_51 rfl (lv_at hl 1 rfl) ?_
        refine lv_aload_n hx hb dX12_would_52 rfl (lv_at hl 1 rfl) ?_
        refine xget C hP 1 rfl rfl zuX12 3 (by decide) zw5_216 rfl dX12_would_53 ?_
        refine lv_aload_n hx hb dX12_would_56 rfl (lv_at hl 1 rfl) ?_
        refine xget C hP 1 rfl rfl zuX12 0 (by decide) zw5_213 rfl dX12_would_57 ?_
        refine xv (wr := []) (xV (As := [.ref mtr, .ref ms]) (rest := []) C (c_X12_puts l D cs hm ms mkp mtr mas mso mon mot man mst msm mtb mti mfr mbn mbs mde maa mab mba mbb n k al be km en ea pr nq po (nI 0) xd sF sN sS ig xa xb mtr ms u_11 u_13) kX12_148 hP hD [1, 0, 2] rfl (by decide +kernel) 0 rfl rfl rfl ⟨Nat.le_of_ble_eq_true rfl, Nat.le_of_ble_eq_true rfl⟩ rfl hl.1 rfl (Nat.le_of_ble_eq_true rfl) dX12_would_60 ⟨Nat.le_of_ble_eq_true rfl, Nat.le_of_ble_eq_true rfl⟩) hP hD hS hA [1, 0, 2] [] rfl rfl (by decide +kernel) (by decide +kernel) ?_
        clear hP hD hS
        try clear locs
        try clear H
        intro u_15 H locs hw_r_14 hP hD hS
        have hw_r_14 : ∀ j, j < 288 → u_15 j = u_11 j := hw_r_14
        refine W.widen (k := 0) (n := 0) (Nat.le_of_ble_eq_true rfl) (Nat.le_of_ble_eq_true rfl) ?_
        replace hP : va_P D vwCl [(hm, .inr (12, [.ref ms, .ref mkp, .int (nI km), .ref mtr, .int (nI n), .int (nI k), .int (nI al), .int (nI be), .int ea, .int pr, .ref mas, .int nq, .int po, .int (nI en), .ref mso, .ref mon, .ref mot, .ref man, .int (nI 0), .int xd, .ref mst, .ref msm, .ref mtb, .ref mti, .ref mfr, .ref mbn, .ref mbs, .ref mde, .int sF, .int sN, .int sS, .int ig, .long xa, .long xb, .ref maa, .ref mab, .ref mba, .ref mbb])), (mtr, .inl (cs 0, 288, .inl u_11)), (ms, .inl (cs 0, 288, .inl u_15))] H := hP
        replace hD : va_D A [(hm, .inr (12, [.ref ms, .ref mkp, .int (nI km), .ref mtr, .int (nI n), .int (nI k), .int (nI al), .int (nI be), .int ea, .int pr, .ref mas, .int nq, .int po, .int (nI en), .ref mso, .ref mon, .ref mot, .ref man, .int (nI 0), .int xd, .ref mst, .ref msm, .ref mtb, .ref mti, .ref mfr, .ref mbn, .ref mbs, .ref mde, .int sF, .int sN, .int sS, .int ig, .long xa, .long xb, .ref maa, .ref mab, .ref mba, .ref mbb])), (mtr, .inl (cs 0, 288, .inl u_11)), (ms, .inl (cs 0, 288, .inl u_15))] := hD
        refine lv_iload_n hx hb dX12_would_63 rfl (lv_at hl 0 rfl) ?_
        exact xreti C (⟨u_15, u_11⟩) (⟨colP_eq hs (fun j hj => (hw_r_14 j hj).trans (hw_r_10 j hj)), (fun j hj => (hw_r_14 j hj).trans (hw_r_10 j hj))⟩) (xP_map hP [0, 2, 1] rfl) (hD.sub [0, 2, 1] (by decide +kernel) rfl) hS (Nat.le_of_ble_eq_true rfl) (Nat.le_of_ble_eq_true rfl) rfl dX12_would_64
      · -- 27 f
        refine lv_iconst (v := (-1)) hx hb dX12_would_30 (by decide) ?_
        exact xreti C (⟨f, tf⟩) (⟨hs, fun _ _ => rfl⟩) (xP_map hP [1, 2, 0] rfl) (hD.sub [1, 2, 0] (by decide +kernel) rfl) hS (Nat.le_of_ble_eq_true rfl) (Nat.le_of_ble_eq_true rfl) rfl dX12_would_31

set_option maxHeartbeats 4000000 in
set_option maxRecDepth 100000 in
theorem c_X12_node (l : Launch) (D : va_G) (cs : Nat → ClassId) (hm ms mkp mtr mas mso mon mot man mst msm mtb mti mfr mbn mbs mde maa mab mba mbb : Nat) (n k al be km en : Nat) (ea pr nq po th xd sF sN sS ig : Int32) (xa xb : Int64) (f : Nat → Int32) (qq : Nat → Int32) (x y : Int32) (hn : 2 ≤ n ∧ n ≤ 8) : xMet l D cs yX12_node cX12_node 3 (some .int) ({ frames := 2, cells := 0, slots := 0, locals := 43 } : Room) [.ref hm, .int x, .int y] [(hm, .inr (12, [.ref ms, .ref mkp, .int (nI km), .ref mtr, .int (nI n), .int (nI k), .int (nI al), .int (nI be), .int ea, .int pr, .ref mas, .int nq, .int po, .int (nI en), .ref mso, .ref mon, .ref mot, .ref man, .int th, .int xd, .ref mst, .ref msm, .ref mtb, .ref mti, .ref mfr, .ref mbn, .ref mbs, .ref mde, .int sF, .int sN, .int sS, .int ig, .long xa, .long xb, .ref maa, .ref mab, .ref mba, .ref mbb])), (ms, .inl (cs 0, 288, .inl f)), (mas, .inl (cs 0, 8, .inl qq))] (xQi D (fun (r : Int32) (_u : Unit) => True) (fun (_u : Unit) => [(hm, .inr (12, [.ref ms, .ref mkp, .int (nI km), .ref mtr, .int (nI n), .int (nI k), .int (nI al), .int (nI be), .int ea, .int pr, .ref mas, .int nq, .int po, .int (nI en), .ref mso, .ref mon, .ref mot, .ref man, .int (nI 0), .int xd, .ref mst, .ref msm, .ref mtb, .ref mti, .ref mfr, .ref mbn, .ref mbs, .ref mde, .int sF, .int sN, .int sS, .int ig, .long xa, .long xb, .ref maa, .ref mab, .ref mba, .ref mbb])), (ms, .inl (cs 0, 288, .inl f)), (mas, .inl (cs 0, 8, .inl qq))])) := by
  refine xMet.intro (by decide) (Nat.le_of_ble_eq_true rfl) ?_
  intro p e s m args below meth c A ls C hP hD hS hl
  have hx := C.1
  have hb := C.2.1
  have hz := C.2.2.2.2.1
  have hown := C.2.2.2.1
  have hA := C.2.2.2.2.2.2.2.2.2
  have hAO := C.2.2.2.2.2.2.2.2.1.2.2
  replace hl : lv_has ls 3 [(0, .ref hm), (1, .int x), (2, .int y)] := hl
  obtain ⟨H, hH⟩ : ∃ H, H = s.heap := ⟨_, rfl⟩
  replace hP : va_P D vwCl [(hm, .inr (12, [.ref ms, .ref mkp, .int (nI km), .ref mtr, .int (nI n), .int (nI k), .int (nI al), .int (nI be), .int ea, .int pr, .ref mas, .int nq, .int po, .int (nI en), .ref mso, .ref mon, .ref mot, .ref man, .int th, .int xd, .ref mst, .ref msm, .ref mtb, .ref mti, .ref mfr, .ref mbn, .ref mbs, .ref mde, .int sF, .int sN, .int sS, .int ig, .long xa, .long xb, .ref maa, .ref mab, .ref mba, .ref mbb])), (ms, .inl (cs 0, 288, .inl f)), (mas, .inl (cs 0, 8, .inl qq))] H := by rw [hH]; exact hP
  replace hS : va_S A s.heap H [] := by rw [hH]; exact hS
  obtain ⟨locs, hlocs⟩ : ∃ z : List Loc, z = [] := ⟨_, rfl⟩
  rw [← hlocs] at hS
  suffices hW : W p l e ({ frames := 2, cells := 0, slots := 0, locals := 43 } : Room) s m args below meth c H locs 0 0 (MQ below ((xQi D (fun (r : Int32) (_u : Unit) => True) (fun (_u : Unit) => [(hm, .inr (12, [.ref ms, .ref mkp, .int (nI km), .ref mtr, .int (nI n), .int (nI k), .int (nI al), .int (nI be), .int ea, .int pr, .ref mas, .int nq, .int po, .int (nI en), .ref mso, .ref mon, .ref mot, .ref man, .int (nI 0), .int xd, .ref mst, .ref msm, .ref mtb, .ref mti, .ref mfr, .ref mbn, .ref mbs, .ref mde, .int sF, .int sN, .int sS, .int ig, .long xa, .long xb, .ref maa, .ref mab, .ref mba, .ref mbb])), (ms, .inl (cs 0, 288, .inl f)), (mas, .inl (cs 0, 8, .inl qq))])) A) args s 0 0 A) (F0 m 0 ls []) by rw [hlocs, hH] at hW; exact hW
  clear hH hlocs
  refine lv_aload_n hx hb dX12_node_0 rfl (lv_at hl 0 rfl) ?_
  refine lv_iconst (v := nI 0) hx hb dX12_node_1 (by decide) ?_
  refine xput C hP hD hS 0 rfl rfl zuX12 tyX12 tyX12_ok nmX12 18 (by decide) zw5_231 rfl rfl rfl (Nat.le_of_ble_eq_true rfl) dX12_node_2 ?_
  clear hP hD hS
  try clear locs
  try clear H
  intro H locs hP hD hS
  replace hP : va_P D vwCl [(hm, .inr (12, [.ref ms, .ref mkp, .int (nI km), .ref mtr, .int (nI n), .int (nI k), .int (nI al), .int (nI be), .int ea, .int pr, .ref mas, .int nq, .int po, .int (nI en), .ref mso, .ref mon, .ref mot, .ref man, .int (nI 0), .int xd, .ref mst, .ref msm, .ref mtb, .ref mti, .ref mfr, .ref mbn, .ref mbs, .ref mde, .int sF, .int sN, .int sS, .int ig, .long xa, .long xb, .ref maa, .ref mab, .ref mba, .ref mbb])), (ms, .inl (cs 0, 288, .inl f)), (mas, .inl (cs 0, 8, .inl qq))] H := hP
  replace hD : va_D A [(hm, .inr (12, [.ref ms, .ref mkp, .int (nI km), .ref mtr, .int (nI n), .int (nI k), .int (nI al), .int (nI be), .int ea, .int pr, .ref mas, .int nq, .int po, .int (nI en), .ref mso, .ref mon, .ref mot, .ref man, .int (nI 0), .int xd, .ref mst, .ref msm, .ref mtb, .ref mti, .ref mfr, .ref mbn, .ref mbs, .ref mde, .int sF, .int sN, .int sS, .int ig, .long xa, .long xb, .ref maa, .ref mab, .ref mba, .ref mbb])), (ms, .inl (cs 0, 288, .inl f)), (mas, .inl (cs 0, 8, .inl qq))] := hD
  refine lv_aload_n hx hb dX12_node_5 rfl (lv_at hl 0 rfl) ?_
  refine lv_iload_n hx hb dX12_node_6 rfl (lv_at hl 1 rfl) ?_
  refine xi (wr := [(ms, .inl (cs 0, 288, .inl f)), (mas, .inl (cs 0, 8, .inl qq))]) (xV (As := [.int x]) (rest := []) C (c_X12_isNode l D cs hm ms mkp mtr mas mso mon mot man mst msm mtb mti mfr mbn mbs mde maa mab mba mbb n k al be km en ea pr nq po (nI 0) xd sF sN sS ig xa xb x hn) kX12_120 hP hD [0] rfl (by decide +kernel) 0 rfl rfl rfl ⟨Nat.le_of_ble_eq_true rfl, Nat.le_of_ble_eq_true rfl⟩ rfl hl.1 rfl (Nat.le_of_ble_eq_true rfl) dX12_node_7 ⟨Nat.le_of_ble_eq_true rfl, Nat.le_of_ble_eq_true rfl⟩) hP hD hS hA [0] [1, 2] rfl rfl (by decide +kernel) (by decide +kernel) ?_
  clear hP hD hS
  try clear locs
  try clear H
  intro r_1 u_2 H locs hw_r_1 hP hD hS
  have hw_r_1 : PQ (okN n x) r_1 (nI 1) (nI 0) := hw_r_1
  refine W.widen (k := 0) (n := 0) (Nat.le_of_ble_eq_true rfl) (Nat.le_of_ble_eq_true rfl) ?_
  replace hP : va_P D vwCl [(ms, .inl (cs 0, 288, .inl f)), (mas, .inl (cs 0, 8, .inl qq)), (hm, .inr (12, [.ref ms, .ref mkp, .int (nI km), .ref mtr, .int (nI n), .int (nI k), .int (nI al), .int (nI be), .int ea, .int pr, .ref mas, .int nq, .int po, .int (nI en), .ref mso, .ref mon, .ref mot, .ref man, .int (nI 0), .int xd, .ref mst, .ref msm, .ref mtb, .ref mti, .ref mfr, .ref mbn, .ref mbs, .ref mde, .int sF, .int sN, .int sS, .int ig, .long xa, .long xb, .ref maa, .ref mab, .ref mba, .ref mbb]))] H := hP
  replace hD : va_D A [(ms, .inl (cs 0, 288, .inl f)), (mas, .inl (cs 0, 8, .inl qq)), (hm, .inr (12, [.ref ms, .ref mkp, .int (nI km), .ref mtr, .int (nI n), .int (nI k), .int (nI al), .int (nI be), .int ea, .int pr, .ref mas, .int nq, .int po, .int (nI en), .ref mso, .ref mon, .ref mot, .ref man, .int (nI 0), .int xd, .ref mst, .ref msm, .ref mtb, .ref mti, .ref mfr, .ref mbn, .ref mbs, .ref mde, .int sF, .int sN, .int sS, .int ig, .long xa, .long xb, .ref maa, .ref mab, .ref mba, .ref mbb]))] := hD
  refine lv_if_ne (tgt := 16) hx hb dX12_node_10 (by decide) (fun c_3 => ?_) (fun c_3 => ?_)
  · -- 10 t
    have hok_j : okN n x := PQ.yes hw_r_1 c_3
    obtain ⟨j, h_j, rfl⟩ := okN_of hok_j (by omega)
    replace hP : va_P D vwCl [(ms, .inl (cs 0, 288, .inl f)), (mas, .inl (cs 0, 8, .inl qq)), (hm, .inr (12, [.ref ms, .ref mkp, .int (nI km), .ref mtr, .int (nI n), .int (nI k), .int (nI al), .int (nI be), .int ea, .int pr, .ref mas, .int nq, .int po, .int (nI en), .ref mso, .ref mon, .ref mot, .ref man, .int (nI 0), .int xd, .ref mst, .ref msm, .ref mtb, .ref mti, .ref mfr, .ref mbn, .ref mbs, .ref mde, .int sF, .int sN, .int sS, .int ig, .long xa, .long xb, .ref maa, .ref mab, .ref mba, .ref mbb]))] H := hP
    replace hD : va_D A [(ms, .inl (cs 0, 288, .inl f)), (mas, .inl (cs 0, 8, .inl qq)), (hm, .inr (12, [.ref ms, .ref mkp, .int (nI km), .ref mtr, .int (nI n), .int (nI k), .int (nI al), .int (nI be), .int ea, .int pr, .ref mas, .int nq, .int po, .int (nI en), .ref mso, .ref mon, .ref mot, .ref man, .int (nI 0), .int xd, .ref mst, .ref msm, .ref mtb, .ref mti, .ref mfr, .ref mbn, .ref mbs, .ref mde, .int sF, .int sN, .int sS, .int ig, .long xa, .long xb, .ref maa, .ref mab, .ref mba, .ref mbb]))] := hD
    refine lv_iload_n hx hb dX12_node_16 rfl (lv_at hl 2 rfl) ?_
    rcases (xsw y 8 (by decide)) with ⟨k9, hk9, rfl⟩ | hout
    · -- split
      replace hP : va_P D vwCl [(ms, .inl (cs 0, 288, .inl f)), (mas, .inl (cs 0, 8, .inl qq)), (hm, .inr (12, [.ref ms, .ref mkp, .int (nI km), .ref mtr, .int (nI n), .int (nI k), .int (nI al), .int (nI be), .int ea, .int pr, .ref mas, .int nq, .int po, .int (nI en), .ref mso, .ref mon, .ref mot, .ref man, .int (nI 0), .int xd, .ref mst, .ref msm, .ref mtb, .ref mti, .ref mfr, .ref mbn, .ref mbs, .ref mde, .int sF, .int sN, .int sS, .int ig, .long xa, .long xb, .ref maa, .ref mab, .ref mba, .ref mbb]))] H := hP
      replace hD : va_D A [(ms, .inl (cs 0, 288, .inl f)), (mas, .inl (cs 0, 8, .inl qq)), (hm, .inr (12, [.ref ms, .ref mkp, .int (nI km), .ref mtr, .int (nI n), .int (nI k), .int (nI al), .int (nI be), .int ea, .int pr, .ref mas, .int nq, .int po, .int (nI en), .ref mso, .ref mon, .ref mot, .ref man, .int (nI 0), .int xd, .ref mst, .ref msm, .ref mtb, .ref mti, .ref mfr, .ref mbn, .ref mbs, .ref mde, .int sF, .int sN, .int sS, .int ig, .long xa, .long xb, .ref maa, .ref mab, .ref mba, .ref mbb]))] := hD
      rcases (show k9 = 0 ∨ k9 = 1 ∨ k9 = 2 ∨ k9 = 3 ∨ k9 = 4 ∨ k9 = 5 ∨ k9 = 6 ∨ k9 = 7 by omega) with rfl | rfl | rfl | rfl | rfl | rfl | rfl | rfl
      · -- k9 = 0
        replace hP : va_P D vwCl [(ms, .inl (cs 0, 288, .inl f)), (mas, .inl (cs 0, 8, .inl qq)), (hm, .inr (12, [.ref ms, .ref mkp, .int (nI km), .ref mtr, .int (nI n), .int (nI k), .int (nI al), .int (nI be), .int ea, .int pr, .ref mas, .int nq, .int po, .int (nI en), .ref mso, .ref mon, .ref mot, .ref man, .int (nI 0), .int xd, .ref mst, .ref msm, .ref mtb, .ref mti, .ref mfr, .ref mbn, .ref mbs, .ref mde, .int sF, .int sN, .int sS, .int ig, .long xa, .long xb, .ref maa, .ref mab, .ref mba, .ref mbb]))] H := hP
        replace hD : va_D A [(ms, .inl (cs 0, 288, .inl f)), (mas, .inl (cs 0, 8, .inl qq)), (hm, .inr (12, [.ref ms, .ref mkp, .int (nI km), .ref mtr, .int (nI n), .int (nI k), .int (nI al), .int (nI be), .int ea, .int pr, .ref mas, .int nq, .int po, .int (nI en), .ref mso, .ref mon, .ref mot, .ref man, .int (nI 0), .int xd, .ref mst, .ref msm, .ref mtb, .ref mti, .ref mfr, .ref mbn, .ref mbs, .ref mde, .int sF, .int sN, .int sS, .int ig, .long xa, .long xb, .ref maa, .ref mab, .ref mba, .ref mbb]))] := hD
        refine lv_tableIn (tgt := 64) hx hb dX12_node_17 (by decide) (by decide) rfl (by decide) ?_
        refine lv_aload_n hx hb dX12_node_64 rfl (lv_at hl 0 rfl) ?_
        refine xget C hP 2 rfl rfl zuX12 0 (by decide) zw5_213 rfl dX12_node_65 ?_
        refine lv_iconst (v := nI 0) hx hb dX12_node_68 (by decide) ?_
        refine lv_iload_n hx hb dX12_node_69 rfl (lv_at hl 1 rfl) ?_
        refine lv_iadd hx hb dX12_node_70 ?_
        refine lv_topi (nm_r (e' := nI (0 + j)) (nI_add _ _) ?_)
        refine xiald C hP 0 rfl (0 + j) rfl (by omega) (by decide) dX12_node_71 ?_
        exact xreti C () trivial (xP_map hP [2, 0, 1] rfl) (hD.sub [2, 0, 1] (by decide +kernel) rfl) hS (Nat.le_of_ble_eq_true rfl) (Nat.le_of_ble_eq_true rfl) rfl dX12_node_72
      · -- k9 = 1
        replace hP : va_P D vwCl [(ms, .inl (cs 0, 288, .inl f)), (mas, .inl (cs 0, 8, .inl qq)), (hm, .inr (12, [.ref ms, .ref mkp, .int (nI km), .ref mtr, .int (nI n), .int (nI k), .int (nI al), .int (nI be), .int ea, .int pr, .ref mas, .int nq, .int po, .int (nI en), .ref mso, .ref mon, .ref mot, .ref man, .int (nI 0), .int xd, .ref mst, .ref msm, .ref mtb, .ref mti, .ref mfr, .ref mbn, .ref mbs, .ref mde, .int sF, .int sN, .int sS, .int ig, .long xa, .long xb, .ref maa, .ref mab, .ref mba, .ref mbb]))] H := hP
        replace hD : va_D A [(ms, .inl (cs 0, 288, .inl f)), (mas, .inl (cs 0, 8, .inl qq)), (hm, .inr (12, [.ref ms, .ref mkp, .int (nI km), .ref mtr, .int (nI n), .int (nI k), .int (nI al), .int (nI be), .int ea, .int pr, .ref mas, .int nq, .int po, .int (nI en), .ref mso, .ref mon, .ref mot, .ref man, .int (nI 0), .int xd, .ref mst, .ref msm, .ref mtb, .ref mti, .ref mfr, .ref mbn, .ref mbs, .ref mde, .int sF, .int sN, .int sS, .int ig, .long xa, .long xb, .ref maa, .ref mab, .ref mba, .ref mbb]))] := hD
        refine lv_tableIn (tgt := 73) hx hb dX12_node_17 (by decide) (by decide) rfl (by decide) ?_
        refine lv_aload_n hx hb dX12_node_73 rfl (lv_at hl 0 rfl) ?_
        refine xget C hP 2 rfl rfl zuX12 0 (by decide) zw5_213 rfl dX12_node_74 ?_
        refine lv_bipush (v := nI 8) hx hb dX12_node_77 (by decide) ?_
        refine lv_iload_n hx hb dX12_node_79 rfl (lv_at hl 1 rfl) ?_
        refine lv_iadd hx hb dX12_node_80 ?_
        refine lv_topi (nm_r (e' := nI (8 + j)) (nI_add _ _) ?_)
        refine xiald C hP 0 rfl (8 + j) rfl (by omega) (by decide) dX12_node_81 ?_
        exact xreti C () trivial (xP_map hP [2, 0, 1] rfl) (hD.sub [2, 0, 1] (by decide +kernel) rfl) hS (Nat.le_of_ble_eq_true rfl) (Nat.le_of_ble_eq_true rfl) rfl dX12_node_82
      · -- k9 = 2
        replace hP : va_P D vwCl [(ms, .inl (cs 0, 288, .inl f)), (mas, .inl (cs 0, 8, .inl qq)), (hm, .inr (12, [.ref ms, .ref mkp, .int (nI km), .ref mtr, .int (nI n), .int (nI k), .int (nI al), .int (nI be), .int ea, .int pr, .ref mas, .int nq, .int po, .int (nI en), .ref mso, .ref mon, .ref mot, .ref man, .int (nI 0), .int xd, .ref mst, .ref msm, .ref mtb, .ref mti, .ref mfr, .ref mbn, .ref mbs, .ref mde, .int sF, .int sN, .int sS, .int ig, .long xa, .long xb, .ref maa, .ref mab, .ref mba, .ref mbb]))] H := hP
        replace hD : va_D A [(ms, .inl (cs 0, 288, .inl f)), (mas, .inl (cs 0, 8, .inl qq)), (hm, .inr (12, [.ref ms, .ref mkp, .int (nI km), .ref mtr, .int (nI n), .int (nI k), .int (nI al), .int (nI be), .int ea, .int pr, .ref mas, .int nq, .int po, .int (nI en), .ref mso, .ref mon, .ref mot, .ref man, .int (nI 0), .int xd, .ref mst, .ref msm, .ref mtb, .ref mti, .ref mfr, .ref mbn, .ref mbs, .ref mde, .int sF, .int sN, .int sS, .int ig, .long xa, .long xb, .ref maa, .ref mab, .ref mba, .ref mbb]))] := hD
        refine lv_tableIn (tgt := 83) hx hb dX12_node_17 (by decide) (by decide) rfl (by decide) ?_
        refine lv_aload_n hx hb dX12_node_83 rfl (lv_at hl 0 rfl) ?_
        refine xget C hP 2 rfl rfl zuX12 0 (by decide) zw5_213 rfl dX12_node_84 ?_
        refine lv_bipush (v := nI 16) hx hb dX12_node_87 (by decide) ?_
        refine lv_iload_n hx hb dX12_node_89 rfl (lv_at hl 1 rfl) ?_
        refine lv_iadd hx hb dX12_node_90 ?_
        refine lv_topi (nm_r (e' := nI (16 + j)) (nI_add _ _) ?_)
        refine xiald C hP 0 rfl (16 + j) rfl (by omega) (by decide) dX12_node_91 ?_
        exact xreti C () trivial (xP_map hP [2, 0, 1] rfl) (hD.sub [2, 0, 1] (by decide +kernel) rfl) hS (Nat.le_of_ble_eq_true rfl) (Nat.le_of_ble_eq_true rfl) rfl dX12_node_92
      · -- k9 = 3
        replace hP : va_P D vwCl [(ms, .inl (cs 0, 288, .inl f)), (mas, .inl (cs 0, 8, .inl qq)), (hm, .inr (12, [.ref ms, .ref mkp, .int (nI km), .ref mtr, .int (nI n), .int (nI k), .int (nI al), .int (nI be), .int ea, .int pr, .ref mas, .int nq, .int po, .int (nI en), .ref mso, .ref mon, .ref mot, .ref man, .int (nI 0), .int xd, .ref mst, .ref msm, .ref mtb, .ref mti, .ref mfr, .ref mbn, .ref mbs, .ref mde, .int sF, .int sN, .int sS, .int ig, .long xa, .long xb, .ref maa, .ref mab, .ref mba, .ref mbb]))] H := hP
        replace hD : va_D A [(ms, .inl (cs 0, 288, .inl f)), (mas, .inl (cs 0, 8, .inl qq)), (hm, .inr (12, [.ref ms, .ref mkp, .int (nI km), .ref mtr, .int (nI n), .int (nI k), .int (nI al), .int (nI be), .int ea, .int pr, .ref mas, .int nq, .int po, .int (nI en), .ref mso, .ref mon, .ref mot, .ref man, .int (nI 0), .int xd, .ref mst, .ref msm, .ref mtb, .ref mti, .ref mfr, .ref mbn, .ref mbs, .ref mde, .int sF, .int sN, .int sS, .int ig, .long xa, .long xb, .ref maa, .ref mab, .ref mba, .ref mbb]))] := hD
        refine lv_tableIn (tgt := 93) hx hb dX12_node_17 (by decide) (by decide) rfl (by decide) ?_
        refine lv_aload_n hx hb dX12_node_93 rfl (lv_at hl 0 rfl) ?_
        refine xget C hP 2 rfl rfl zuX12 0 (by decide) zw5_213 rfl dX12_node_94 ?_
        refine lv_bipush (v := nI 24) hx hb dX12_node_97 (by decide) ?_
        refine lv_iload_n hx hb dX12_node_99 rfl (lv_at hl 1 rfl) ?_
        refine lv_iadd hx hb dX12_node_100 ?_
        refine lv_topi (nm_r (e' := nI (24 + j)) (nI_add _ _) ?_)
        refine xiald C hP 0 rfl (24 + j) rfl (by omega) (by decide) dX12_node_101 ?_
        exact xreti C () trivial (xP_map hP [2, 0, 1] rfl) (hD.sub [2, 0, 1] (by decide +kernel) rfl) hS (Nat.le_of_ble_eq_true rfl) (Nat.le_of_ble_eq_true rfl) rfl dX12_node_102
      · -- k9 = 4
        replace hP : va_P D vwCl [(ms, .inl (cs 0, 288, .inl f)), (mas, .inl (cs 0, 8, .inl qq)), (hm, .inr (12, [.ref ms, .ref mkp, .int (nI km), .ref mtr, .int (nI n), .int (nI k), .int (nI al), .int (nI be), .int ea, .int pr, .ref mas, .int nq, .int po, .int (nI en), .ref mso, .ref mon, .ref mot, .ref man, .int (nI 0), .int xd, .ref mst, .ref msm, .ref mtb, .ref mti, .ref mfr, .ref mbn, .ref mbs, .ref mde, .int sF, .int sN, .int sS, .int ig, .long xa, .long xb, .ref maa, .ref mab, .ref mba, .ref mbb]))] H := hP
        replace hD : va_D A [(ms, .inl (cs 0, 288, .inl f)), (mas, .inl (cs 0, 8, .inl qq)), (hm, .inr (12, [.ref ms, .ref mkp, .int (nI km), .ref mtr, .int (nI n), .int (nI k), .int (nI al), .int (nI be), .int ea, .int pr, .ref mas, .int nq, .int po, .int (nI en), .ref mso, .ref mon, .ref mot, .ref man, .int (nI 0), .int xd, .ref mst, .ref msm, .ref mtb, .ref mti, .ref mfr, .ref mbn, .ref mbs, .ref mde, .int sF, .int sN, .int sS, .int ig, .long xa, .long xb, .ref maa, .ref mab, .ref mba, .ref mbb]))] := hD
        refine lv_tableIn (tgt := 103) hx hb dX12_node_17 (by decide) (by decide) rfl (by decide) ?_
        refine lv_aload_n hx hb dX12_node_103 rfl (lv_at hl 0 rfl) ?_
        refine xget C hP 2 rfl rfl zuX12 0 (by decide) zw5_213 rfl dX12_node_104 ?_
        refine lv_bipush (v := nI 32) hx hb dX12_node_107 (by decide) ?_
        refine lv_iload_n hx hb dX12_node_109 rfl (lv_at hl 1 rfl) ?_
        refine lv_iadd hx hb dX12_node_110 ?_
        refine lv_topi (nm_r (e' := nI (32 + j)) (nI_add _ _) ?_)
        refine xiald C hP 0 rfl (32 + j) rfl (by omega) (by decide) dX12_node_111 ?_
        exact xreti C () trivial (xP_map hP [2, 0, 1] rfl) (hD.sub [2, 0, 1] (by decide +kernel) rfl) hS (Nat.le_of_ble_eq_true rfl) (Nat.le_of_ble_eq_true rfl) rfl dX12_node_112
      · -- k9 = 5
        replace hP : va_P D vwCl [(ms, .inl (cs 0, 288, .inl f)), (mas, .inl (cs 0, 8, .inl qq)), (hm, .inr (12, [.ref ms, .ref mkp, .int (nI km), .ref mtr, .int (nI n), .int (nI k), .int (nI al), .int (nI be), .int ea, .int pr, .ref mas, .int nq, .int po, .int (nI en), .ref mso, .ref mon, .ref mot, .ref man, .int (nI 0), .int xd, .ref mst, .ref msm, .ref mtb, .ref mti, .ref mfr, .ref mbn, .ref mbs, .ref mde, .int sF, .int sN, .int sS, .int ig, .long xa, .long xb, .ref maa, .ref mab, .ref mba, .ref mbb]))] H := hP
        replace hD : va_D A [(ms, .inl (cs 0, 288, .inl f)), (mas, .inl (cs 0, 8, .inl qq)), (hm, .inr (12, [.ref ms, .ref mkp, .int (nI km), .ref mtr, .int (nI n), .int (nI k), .int (nI al), .int (nI be), .int ea, .int pr, .ref mas, .int nq, .int po, .int (nI en), .ref mso, .ref mon, .ref mot, .ref man, .int (nI 0), .int xd, .ref mst, .ref msm, .ref mtb, .ref mti, .ref mfr, .ref mbn, .ref mbs, .ref mde, .int sF, .int sN, .int sS, .int ig, .long xa, .long xb, .ref maa, .ref mab, .ref mba, .ref mbb]))] := hD
        refine lv_tableIn (tgt := 113) hx hb dX12_node_17 (by decide) (by decide) rfl (by decide) ?_
        refine lv_aload_n hx hb dX12_node_113 rfl (lv_at hl 0 rfl) ?_
        refine xget C hP 2 rfl rfl zuX12 0 (by decide) zw5_213 rfl dX12_node_114 ?_
        refine lv_bipush (v := nI 40) hx hb dX12_node_117 (by decide) ?_
        refine lv_iload_n hx hb dX12_node_119 rfl (lv_at hl 1 rfl) ?_
        refine lv_iadd hx hb dX12_node_120 ?_
        refine lv_topi (nm_r (e' := nI (40 + j)) (nI_add _ _) ?_)
        refine xiald C hP 0 rfl (40 + j) rfl (by omega) (by decide) dX12_node_121 ?_
        exact xreti C () trivial (xP_map hP [2, 0, 1] rfl) (hD.sub [2, 0, 1] (by decide +kernel) rfl) hS (Nat.le_of_ble_eq_true rfl) (Nat.le_of_ble_eq_true rfl) rfl dX12_node_122
      · -- k9 = 6
        replace hP : va_P D vwCl [(ms, .inl (cs 0, 288, .inl f)), (mas, .inl (cs 0, 8, .inl qq)), (hm, .inr (12, [.ref ms, .ref mkp, .int (nI km), .ref mtr, .int (nI n), .int (nI k), .int (nI al), .int (nI be), .int ea, .int pr, .ref mas, .int nq, .int po, .int (nI en), .ref mso, .ref mon, .ref mot, .ref man, .int (nI 0), .int xd, .ref mst, .ref msm, .ref mtb, .ref mti, .ref mfr, .ref mbn, .ref mbs, .ref mde, .int sF, .int sN, .int sS, .int ig, .long xa, .long xb, .ref maa, .ref mab, .ref mba, .ref mbb]))] H := hP
        replace hD : va_D A [(ms, .inl (cs 0, 288, .inl f)), (mas, .inl (cs 0, 8, .inl qq)), (hm, .inr (12, [.ref ms, .ref mkp, .int (nI km), .ref mtr, .int (nI n), .int (nI k), .int (nI al), .int (nI be), .int ea, .int pr, .ref mas, .int nq, .int po, .int (nI en), .ref mso, .ref mon, .ref mot, .ref man, .int (nI 0), .int xd, .ref mst, .ref msm, .ref mtb, .ref mti, .ref mfr, .ref mbn, .ref mbs, .ref mde, .int sF, .int sN, .int sS, .int ig, .long xa, .long xb, .ref maa, .ref mab, .ref mba, .ref mbb]))] := hD
        refine lv_tableIn (tgt := 123) hx hb dX12_node_17 (by decide) (by decide) rfl (by decide) ?_
        refine lv_aload_n hx hb dX12_node_123 rfl (lv_at hl 0 rfl) ?_
        refine xget C hP 2 rfl rfl zuX12 0 (by decide) zw5_213 rfl dX12_node_124 ?_
        refine lv_bipush (v := nI 48) hx hb dX12_node_127 (by decide) ?_
        refine lv_iload_n hx hb dX12_node_129 rfl (lv_at hl 1 rfl) ?_
        refine lv_iadd hx hb dX12_node_130 ?_
        refine lv_topi (nm_r (e' := nI (48 + j)) (nI_add _ _) ?_)
        refine xiald C hP 0 rfl (48 + j) rfl (by omega) (by decide) dX12_node_131 ?_
        exact xreti C () trivial (xP_map hP [2, 0, 1] rfl) (hD.sub [2, 0, 1] (by decide +kernel) rfl) hS (Nat.le_of_ble_eq_true rfl) (Nat.le_of_ble_eq_true rfl) rfl dX12_node_132
      · -- k9 = 7
        replace hP : va_P D vwCl [(ms, .inl (cs 0, 288, .inl f)), (mas, .inl (cs 0, 8, .inl qq)), (hm, .inr (12, [.ref ms, .ref mkp, .int (nI km), .ref mtr, .int (nI n), .int (nI k), .int (nI al), .int (nI be), .int ea, .int pr, .ref mas, .int nq, .int po, .int (nI en), .ref mso, .ref mon, .ref mot, .ref man, .int (nI 0), .int xd, .ref mst, .ref msm, .ref mtb, .ref mti, .ref mfr, .ref mbn, .ref mbs, .ref mde, .int sF, .int sN, .int sS, .int ig, .long xa, .long xb, .ref maa, .ref mab, .ref mba, .ref mbb]))] H := hP
        replace hD : va_D A [(ms, .inl (cs 0, 288, .inl f)), (mas, .inl (cs 0, 8, .inl qq)), (hm, .inr (12, [.ref ms, .ref mkp, .int (nI km), .ref mtr, .int (nI n), .int (nI k), .int (nI al), .int (nI be), .int ea, .int pr, .ref mas, .int nq, .int po, .int (nI en), .ref mso, .ref mon, .ref mot, .ref man, .int (nI 0), .int xd, .ref mst, .ref msm, .ref mtb, .ref mti, .ref mfr, .ref mbn, .ref mbs, .ref mde, .int sF, .int sN, .int sS, .int ig, .long xa, .long xb, .ref maa, .ref mab, .ref mba, .ref mbb]))] := hD
        refine lv_tableIn (tgt := 133) hx hb dX12_node_17 (by decide) (by decide) rfl (by decide) ?_
        refine lv_aload_n hx hb dX12_node_133 rfl (lv_at hl 0 rfl) ?_
        refine xget C hP 2 rfl rfl zuX12 10 (by decide) zw5_223 rfl dX12_node_134 ?_
        refine lv_iload_n hx hb dX12_node_137 rfl (lv_at hl 1 rfl) ?_
        refine xiald C hP 1 rfl j rfl (by omega) (by decide) dX12_node_138 ?_
        exact xreti C () trivial (xP_map hP [2, 0, 1] rfl) (hD.sub [2, 0, 1] (by decide +kernel) rfl) hS (Nat.le_of_ble_eq_true rfl) (Nat.le_of_ble_eq_true rfl) rfl dX12_node_139
    · -- split
      refine lv_tableOut (tgt := 140) hx hb dX12_node_17 hout (by decide) ?_
      refine lv_bipush (v := (-2)) hx hb dX12_node_140 (by decide) ?_
      exact xreti C () trivial (xP_map hP [2, 0, 1] rfl) (hD.sub [2, 0, 1] (by decide +kernel) rfl) hS (Nat.le_of_ble_eq_true rfl) (Nat.le_of_ble_eq_true rfl) rfl dX12_node_142
  · -- 10 f
    have hbad_j : ¬ okN n x := PQ.no hw_r_1 c_3 (by decide)
    refine lv_bipush (v := (-2)) hx hb dX12_node_13 (by decide) ?_
    exact xreti C () trivial (xP_map hP [2, 0, 1] rfl) (hD.sub [2, 0, 1] (by decide +kernel) rfl) hS (Nat.le_of_ble_eq_true rfl) (Nat.le_of_ble_eq_true rfl) rfl dX12_node_15

set_option maxHeartbeats 4000000 in
set_option maxRecDepth 100000 in
theorem c_X12_draw (l : Launch) (D : va_G) (cs : Nat → ClassId) (hm ms mkp mtr mas mso mon mot man mst msm mtb mti mfr mbn mbs mde maa mab mba mbb : Nat) (n k al be km en : Nat) (ea pr nq po th xd sF sN sS ig : Int32) (xa xb : Int64) (md : Nat) (hm0 : 0 < md) (hm1 : md < 2 ^ 31) : xMet l D cs yX12_draw cX12_draw 2 (some .int) ({ frames := 0, cells := 0, slots := 0, locals := 0 } : Room) [.ref hm, .int (nI md)] [(hm, .inr (12, [.ref ms, .ref mkp, .int (nI km), .ref mtr, .int (nI n), .int (nI k), .int (nI al), .int (nI be), .int ea, .int pr, .ref mas, .int nq, .int po, .int (nI en), .ref mso, .ref mon, .ref mot, .ref man, .int th, .int xd, .ref mst, .ref msm, .ref mtb, .ref mti, .ref mfr, .ref mbn, .ref mbs, .ref mde, .int sF, .int sN, .int sS, .int ig, .long xa, .long xb, .ref maa, .ref mab, .ref mba, .ref mbb]))] (xQi D (fun (r : Int32) (dz : Int32) => ∃ j, j < md ∧ r = nI j) (fun (dz : Int32) => [(hm, .inr (12, [.ref ms, .ref mkp, .int (nI km), .ref mtr, .int (nI n), .int (nI k), .int (nI al), .int (nI be), .int ea, .int pr, .ref mas, .int nq, .int po, .int (nI en), .ref mso, .ref mon, .ref mot, .ref man, .int th, .int dz, .ref mst, .ref msm, .ref mtb, .ref mti, .ref mfr, .ref mbn, .ref mbs, .ref mde, .int sF, .int sN, .int sS, .int ig, .long xa, .long xb, .ref maa, .ref mab, .ref mba, .ref mbb]))])) := by
  refine xMet.intro (by decide) (Nat.le_of_ble_eq_true rfl) ?_
  intro p e s m args below meth c A ls C hP hD hS hl
  have hx := C.1
  have hb := C.2.1
  have hz := C.2.2.2.2.1
  have hown := C.2.2.2.1
  have hA := C.2.2.2.2.2.2.2.2.2
  have hAO := C.2.2.2.2.2.2.2.2.1.2.2
  replace hl : lv_has ls 2 [(0, .ref hm), (1, .int (nI md))] := hl
  obtain ⟨H, hH⟩ : ∃ H, H = s.heap := ⟨_, rfl⟩
  replace hP : va_P D vwCl [(hm, .inr (12, [.ref ms, .ref mkp, .int (nI km), .ref mtr, .int (nI n), .int (nI k), .int (nI al), .int (nI be), .int ea, .int pr, .ref mas, .int nq, .int po, .int (nI en), .ref mso, .ref mon, .ref mot, .ref man, .int th, .int xd, .ref mst, .ref msm, .ref mtb, .ref mti, .ref mfr, .ref mbn, .ref mbs, .ref mde, .int sF, .int sN, .int sS, .int ig, .long xa, .long xb, .ref maa, .ref mab, .ref mba, .ref mbb]))] H := by rw [hH]; exact hP
  replace hS : va_S A s.heap H [] := by rw [hH]; exact hS
  obtain ⟨locs, hlocs⟩ : ∃ z : List Loc, z = [] := ⟨_, rfl⟩
  rw [← hlocs] at hS
  suffices hW : W p l e ({ frames := 0, cells := 0, slots := 0, locals := 0 } : Room) s m args below meth c H locs 0 0 (MQ below ((xQi D (fun (r : Int32) (dz : Int32) => ∃ j, j < md ∧ r = nI j) (fun (dz : Int32) => [(hm, .inr (12, [.ref ms, .ref mkp, .int (nI km), .ref mtr, .int (nI n), .int (nI k), .int (nI al), .int (nI be), .int ea, .int pr, .ref mas, .int nq, .int po, .int (nI en), .ref mso, .ref mon, .ref mot, .ref man, .int th, .int dz, .ref mst, .ref msm, .ref mtb, .ref mti, .ref mfr, .ref mbn, .ref mbs, .ref mde, .int sF, .int sN, .int sS, .int ig, .long xa, .long xb, .ref maa, .ref mab, .ref mba, .ref mbb]))])) A) args s 0 0 A) (F0 m 0 ls []) by rw [hlocs, hH] at hW; exact hW
  clear hH hlocs
  refine lv_aload_n hx hb dX12_draw_0 rfl (lv_at hl 0 rfl) ?_
  refine lv_aload_n hx hb dX12_draw_1 rfl (lv_at hl 0 rfl) ?_
  refine xget C hP 0 rfl rfl zuX12 19 (by decide) zw5_232 rfl dX12_draw_2 ?_
  refine lv_ldc (v := nI 1103515245) hx hb hown (hz _ zw6_173) dX12_draw_5 ?_
  refine lv_imul hx hb dX12_draw_7 ?_
  refine lv_sipush (v := nI 12345) hx hb dX12_draw_8 (by decide) ?_
  refine lv_iadd hx hb dX12_draw_11 ?_
  refine xput C hP hD hS 0 rfl rfl zuX12 tyX12 tyX12_ok nmX12 19 (by decide) zw5_232 rfl rfl rfl (Nat.le_of_ble_eq_true rfl) dX12_draw_12 ?_
  clear hP hD hS
  try clear locs
  try clear H
  intro H locs hP hD hS
  replace hP : va_P D vwCl [(hm, .inr (12, [.ref ms, .ref mkp, .int (nI km), .ref mtr, .int (nI n), .int (nI k), .int (nI al), .int (nI be), .int ea, .int pr, .ref mas, .int nq, .int po, .int (nI en), .ref mso, .ref mon, .ref mot, .ref man, .int th, .int ((xd * (nI 1103515245)) + (nI 12345)), .ref mst, .ref msm, .ref mtb, .ref mti, .ref mfr, .ref mbn, .ref mbs, .ref mde, .int sF, .int sN, .int sS, .int ig, .long xa, .long xb, .ref maa, .ref mab, .ref mba, .ref mbb]))] H := hP
  replace hD : va_D A [(hm, .inr (12, [.ref ms, .ref mkp, .int (nI km), .ref mtr, .int (nI n), .int (nI k), .int (nI al), .int (nI be), .int ea, .int pr, .ref mas, .int nq, .int po, .int (nI en), .ref mso, .ref mon, .ref mot, .ref man, .int th, .int ((xd * (nI 1103515245)) + (nI 12345)), .ref mst, .ref msm, .ref mtb, .ref mti, .ref mfr, .ref mbn, .ref mbs, .ref mde, .int sF, .int sN, .int sS, .int ig, .long xa, .long xb, .ref maa, .ref mab, .ref mba, .ref mbb]))] := hD
  refine lv_aload_n hx hb dX12_draw_15 rfl (lv_at hl 0 rfl) ?_
  refine xget C hP 0 rfl rfl zuX12 19 (by decide) zw5_232 rfl dX12_draw_16 ?_
  refine lv_topi (fun d1 _ => ?_)
  refine lv_bipush (v := nI 8) hx hb dX12_draw_19 (by decide) ?_
  refine lv_iushr hx hb dX12_draw_21 rfl ?_
  refine lv_iload_n hx hb dX12_draw_22 rfl (lv_at hl 1 rfl) ?_
  refine lv_irem hx hb dX12_draw_23 (nI_ne0 hm0 hm1) ?_
  exact xreti C ((xd * (nI 1103515245)) + (nI 12345)) (drw d1 hm0 hm1) hP hD hS (Nat.le_of_ble_eq_true rfl) (Nat.le_of_ble_eq_true rfl) rfl dX12_draw_24

set_option maxHeartbeats 4000000 in
set_option maxRecDepth 100000 in
theorem c_X12_drawSample (l : Launch) (D : va_G) (cs : Nat → ClassId) (hm ms mkp mtr mas mso mon mot man mst msm mtb mti mfr mbn mbs mde maa mab mba mbb : Nat) (n k al be km en : Nat) (ea pr nq po th xd sF sN sS ig : Int32) (xa xb : Int64) (a : Nat) (hn : 2 ≤ n ∧ n ≤ 8) (hk : k < n) (ha : a < n) : xMet l D cs yX12_drawSample cX12_drawSample 7 (some .int) ({ frames := 2, cells := 0, slots := 0, locals := 44 } : Room) [.ref hm, .int (nI a)] [(hm, .inr (12, [.ref ms, .ref mkp, .int (nI km), .ref mtr, .int (nI n), .int (nI k), .int (nI al), .int (nI be), .int ea, .int pr, .ref mas, .int nq, .int po, .int (nI en), .ref mso, .ref mon, .ref mot, .ref man, .int th, .int xd, .ref mst, .ref msm, .ref mtb, .ref mti, .ref mfr, .ref mbn, .ref mbs, .ref mde, .int sF, .int sN, .int sS, .int ig, .long xa, .long xb, .ref maa, .ref mab, .ref mba, .ref mbb]))] (xQi D (fun (r : Int32) (dz : Int32) => True) (fun (dz : Int32) => [(hm, .inr (12, [.ref ms, .ref mkp, .int (nI km), .ref mtr, .int (nI n), .int (nI k), .int (nI al), .int (nI be), .int ea, .int pr, .ref mas, .int nq, .int po, .int (nI en), .ref mso, .ref mon, .ref mot, .ref man, .int th, .int dz, .ref mst, .ref msm, .ref mtb, .ref mti, .ref mfr, .ref mbn, .ref mbs, .ref mde, .int sF, .int sN, .int sS, .int ig, .long xa, .long xb, .ref maa, .ref mab, .ref mba, .ref mbb]))])) := by
  refine xMet.intro (by decide) (Nat.le_of_ble_eq_true rfl) ?_
  intro p e s m args below meth c A ls C hP hD hS hl
  have hx := C.1
  have hb := C.2.1
  have hz := C.2.2.2.2.1
  have hown := C.2.2.2.1
  have hA := C.2.2.2.2.2.2.2.2.2
  have hAO := C.2.2.2.2.2.2.2.2.1.2.2
  replace hl : lv_has ls 7 [(0, .ref hm), (1, .int (nI a))] := hl
  obtain ⟨H, hH⟩ : ∃ H, H = s.heap := ⟨_, rfl⟩
  replace hP : va_P D vwCl [(hm, .inr (12, [.ref ms, .ref mkp, .int (nI km), .ref mtr, .int (nI n), .int (nI k), .int (nI al), .int (nI be), .int ea, .int pr, .ref mas, .int nq, .int po, .int (nI en), .ref mso, .ref mon, .ref mot, .ref man, .int th, .int xd, .ref mst, .ref msm, .ref mtb, .ref mti, .ref mfr, .ref mbn, .ref mbs, .ref mde, .int sF, .int sN, .int sS, .int ig, .long xa, .long xb, .ref maa, .ref mab, .ref mba, .ref mbb]))] H := by rw [hH]; exact hP
  replace hS : va_S A s.heap H [] := by rw [hH]; exact hS
  obtain ⟨locs, hlocs⟩ : ∃ z : List Loc, z = [] := ⟨_, rfl⟩
  rw [← hlocs] at hS
  suffices hW : W p l e ({ frames := 2, cells := 0, slots := 0, locals := 44 } : Room) s m args below meth c H locs 0 0 (MQ below ((xQi D (fun (r : Int32) (dz : Int32) => True) (fun (dz : Int32) => [(hm, .inr (12, [.ref ms, .ref mkp, .int (nI km), .ref mtr, .int (nI n), .int (nI k), .int (nI al), .int (nI be), .int ea, .int pr, .ref mas, .int nq, .int po, .int (nI en), .ref mso, .ref mon, .ref mot, .ref man, .int th, .int dz, .ref mst, .ref msm, .ref mtb, .ref mti, .ref mfr, .ref mbn, .ref mbs, .ref mde, .int sF, .int sN, .int sS, .int ig, .long xa, .long xb, .ref maa, .ref mab, .ref mba, .ref mbb]))])) A) args s 0 0 A) (F0 m 0 ls []) by rw [hlocs, hH] at hW; exact hW
  clear hH hlocs
  refine lv_iconst (v := nI 1) hx hb dX12_drawSample_0 (by decide) ?_
  refine lv_aload_n hx hb dX12_drawSample_1 rfl (lv_at hl 0 rfl) ?_
  refine xget C hP 0 rfl rfl zuX12 4 (by decide) zw5_217 rfl dX12_drawSample_2 ?_
  refine lv_ishl hx hb dX12_drawSample_5 ?_
  refine lv_iconst (v := nI 1) hx hb dX12_drawSample_6 (by decide) ?_
  refine lv_isub hx hb dX12_drawSample_7 ?_
  refine lv_iconst (v := nI 1) hx hb dX12_drawSample_8 (by decide) ?_
  refine lv_iload_n hx hb dX12_drawSample_9 rfl (lv_at hl 1 rfl) ?_
  refine lv_ishl hx hb dX12_drawSample_10 ?_
  refine lv_iconst (v := (-1)) hx hb dX12_drawSample_11 (by decide) ?_
  refine lv_ixor hx hb dX12_drawSample_12 ?_
  refine lv_iand hx hb dX12_drawSample_13 ?_
  refine lv_istore_n (lv' := [(2, .int ((((nI 1) <<< ((nI n) &&& 31)) - (nI 1)) &&& (((nI 1) <<< ((nI a) &&& 31)) ^^^ (-1)))), (0, .ref hm), (1, .int (nI a))]) hx hb dX12_drawSample_14 rfl hl (by decide) rfl ?_
  clear hl
  try clear ls
  intro ls hl
  refine lv_iconst (v := nI 0) hx hb dX12_drawSample_15 (by decide) ?_
  refine lv_istore_n (lv' := [(3, .int (nI 0)), (2, .int ((((nI 1) <<< ((nI n) &&& 31)) - (nI 1)) &&& (((nI 1) <<< ((nI a) &&& 31)) ^^^ (-1)))), (0, .ref hm), (1, .int (nI a))]) hx hb dX12_drawSample_16 rfl hl (by decide) rfl ?_
  clear hl
  try clear ls
  intro ls hl
  refine lv_iconst (v := nI 0) hx hb dX12_drawSample_17 (by decide) ?_
  refine lv_istore (lv' := [(4, .int (nI 0)), (3, .int (nI 0)), (2, .int ((((nI 1) <<< ((nI n) &&& 31)) - (nI 1)) &&& (((nI 1) <<< ((nI a) &&& 31)) ^^^ (-1)))), (0, .ref hm), (1, .int (nI a))]) hx hb dX12_drawSample_18 hl (by decide) rfl ?_
  clear hl
  try clear ls
  intro ls hl
  have loop_1 : ∀ (n_loop_1 : Nat) (o : Nat) (d9 : Int32) (l9 : Int32) (s9 : Int32), (o ≤ k) → (cntL l9 16 = n - 1 - o) → k - o < n_loop_1 → ∀ (H : Heap) (locs : List Loc) (ls : Array Slot), va_P D vwCl [(hm, .inr (12, [.ref ms, .ref mkp, .int (nI km), .ref mtr, .int (nI n), .int (nI k), .int (nI al), .int (nI be), .int ea, .int pr, .ref mas, .int nq, .int po, .int (nI en), .ref mso, .ref mon, .ref mot, .ref man, .int th, .int d9, .ref mst, .ref msm, .ref mtb, .ref mti, .ref mfr, .ref mbn, .ref mbs, .ref mde, .int sF, .int sN, .int sS, .int ig, .long xa, .long xb, .ref maa, .ref mab, .ref mba, .ref mbb]))] H → va_D A [(hm, .inr (12, [.ref ms, .ref mkp, .int (nI km), .ref mtr, .int (nI n), .int (nI k), .int (nI al), .int (nI be), .int ea, .int pr, .ref mas, .int nq, .int po, .int (nI en), .ref mso, .ref mon, .ref mot, .ref man, .int th, .int d9, .ref mst, .ref msm, .ref mtb, .ref mti, .ref mfr, .ref mbn, .ref mbs, .ref mde, .int sF, .int sN, .int sS, .int ig, .long xa, .long xb, .ref maa, .ref mab, .ref mba, .ref mbb]))] → va_S A s.heap H locs → lv_has ls 7 [(4, .int (nI o)), (3, .int s9), (2, .int l9), (0, .ref hm), (1, .int (nI a))] → W p l e ({ frames := 2, cells := 0, slots := 0, locals := 44 } : Room) s m args below meth c H locs 0 0 (MQ below ((xQi D (fun (r : Int32) (dz : Int32) => True) (fun (dz : Int32) => [(hm, .inr (12, [.ref ms, .ref mkp, .int (nI km), .ref mtr, .int (nI n), .int (nI k), .int (nI al), .int (nI be), .int ea, .int pr, .ref mas, .int nq, .int po, .int (nI en), .ref mso, .ref mon, .ref mot, .ref man, .int th, .int dz, .ref mst, .ref msm, .ref mtb, .ref mti, .ref mfr, .ref mbn, .ref mbs, .ref mde, .int sF, .int sN, .int sS, .int ig, .long xa, .long xb, .ref maa, .ref mab, .ref mba, .ref mbb]))])) A) args s 0 0 A) (F0 m 20 ls []) := by
    intro n_loop_1
    induction n_loop_1 with
    | zero => intro o d9 l9 s9 h_o hc9 hlt H locs ls hP hD hS hl; exact absurd hlt (Nat.not_lt_zero _)
    | succ n_loop_1 ih_loop_1 =>
      intro o d9 l9 s9 h_o hc9 hlt_loop_1 H locs ls hP hD hS hl
      refine lv_iload hx hb dX12_drawSample_20 (lv_at hl 0 rfl) ?_
      refine lv_aload_n hx hb dX12_drawSample_22 rfl (lv_at hl 3 rfl) ?_
      refine xget C hP 0 rfl rfl zuX12 5 (by decide) zw5_218 rfl dX12_drawSample_23 ?_
      refine lv_icmp_ge (tgt := 69) hx hb dX12_drawSample_26 (by decide) (fun c_2 => ?_) (fun c_2 => ?_)
      · -- 26 t
        have fc_2 : k ≤ o := nf_le (by omega) (by omega) c_2
        refine lv_iload_n hx hb dX12_drawSample_69 rfl (lv_at hl 1 rfl) ?_
        exact xreti C d9 trivial hP hD hS (Nat.le_of_ble_eq_true rfl) (Nat.le_of_ble_eq_true rfl) rfl dX12_drawSample_70
      · -- 26 f
        have fc_2 : o < k := nf_nle (by omega) (by omega) c_2
        refine lv_aload_n hx hb dX12_drawSample_29 rfl (lv_at hl 3 rfl) ?_
        refine lv_iload_n hx hb dX12_drawSample_30 rfl (lv_at hl 2 rfl) ?_
        refine xi (wr := [(hm, .inr (12, [.ref ms, .ref mkp, .int (nI km), .ref mtr, .int (nI n), .int (nI k), .int (nI al), .int (nI be), .int ea, .int pr, .ref mas, .int nq, .int po, .int (nI en), .ref mso, .ref mon, .ref mot, .ref man, .int th, .int d9, .ref mst, .ref msm, .ref mtb, .ref mti, .ref mfr, .ref mbn, .ref mbs, .ref mde, .int sF, .int sN, .int sS, .int ig, .long xa, .long xb, .ref maa, .ref mab, .ref mba, .ref mbb]))]) (xS (As := [.int l9]) (rest := [.ref hm]) C (c_X12_many l D cs l9) kX12_127 hP hD [] rfl (by decide +kernel) ⟨Nat.le_of_ble_eq_true rfl, Nat.le_of_ble_eq_true rfl⟩ rfl hl.1 rfl (Nat.le_of_ble_eq_true rfl) dX12_drawSample_31 ⟨Nat.le_of_ble_eq_true rfl, Nat.le_of_ble_eq_true rfl⟩) hP hD hS hA [] [0] rfl rfl (by decide +kernel) (by decide +kernel) ?_
        clear hP hD hS
        try clear locs
        try clear H
        intro r_3 u_4 H locs hw_r_3 hP hD hS
        have hw_r_3 : r_3 = nI (cntL l9 16) := hw_r_3
        refine W.widen (k := 0) (n := 0) (Nat.le_of_ble_eq_true rfl) (Nat.le_of_ble_eq_true rfl) ?_
        replace hP : va_P D vwCl [(hm, .inr (12, [.ref ms, .ref mkp, .int (nI km), .ref mtr, .int (nI n), .int (nI k), .int (nI al), .int (nI be), .int ea, .int pr, .ref mas, .int nq, .int po, .int (nI en), .ref mso, .ref mon, .ref mot, .ref man, .int th, .int d9, .ref mst, .ref msm, .ref mtb, .ref mti, .ref mfr, .ref mbn, .ref mbs, .ref mde, .int sF, .int sN, .int sS, .int ig, .long xa, .long xb, .ref maa, .ref mab, .ref mba, .ref mbb]))] H := hP
        replace hD : va_D A [(hm, .inr (12, [.ref ms, .ref mkp, .int (nI km), .ref mtr, .int (nI n), .int (nI k), .int (nI al), .int (nI be), .int ea, .int pr, .ref mas, .int nq, .int po, .int (nI en), .ref mso, .ref mon, .ref mot, .ref man, .int th, .int d9, .ref mst, .ref msm, .ref mtb, .ref mti, .ref mfr, .ref mbn, .ref mbs, .ref mde, .int sF, .int sN, .int sS, .int ig, .long xa, .long xb, .ref maa, .ref mab, .ref mba, .ref mbb]))] := hD
        rw [hc9] at hw_r_3
        subst hw_r_3
        replace hP : va_P D vwCl [(hm, .inr (12, [.ref ms, .ref mkp, .int (nI km), .ref mtr, .int (nI n), .int (nI k), .int (nI al), .int (nI be), .int ea, .int pr, .ref mas, .int nq, .int po, .int (nI en), .ref mso, .ref mon, .ref mot, .ref man, .int th, .int d9, .ref mst, .ref msm, .ref mtb, .ref mti, .ref mfr, .ref mbn, .ref mbs, .ref mde, .int sF, .int sN, .int sS, .int ig, .long xa, .long xb, .ref maa, .ref mab, .ref mba, .ref mbb]))] H := hP
        replace hD : va_D A [(hm, .inr (12, [.ref ms, .ref mkp, .int (nI km), .ref mtr, .int (nI n), .int (nI k), .int (nI al), .int (nI be), .int ea, .int pr, .ref mas, .int nq, .int po, .int (nI en), .ref mso, .ref mon, .ref mot, .ref man, .int th, .int d9, .ref mst, .ref msm, .ref mtb, .ref mti, .ref mfr, .ref mbn, .ref mbs, .ref mde, .int sF, .int sN, .int sS, .int ig, .long xa, .long xb, .ref maa, .ref mab, .ref mba, .ref mbb]))] := hD
        refine xi (wr := []) (xV (As := [.int (nI (n - 1 - o))]) (rest := []) C (c_X12_draw l D cs hm ms mkp mtr mas mso mon mot man mst msm mtb mti mfr mbn mbs mde maa mab mba mbb n k al be km en ea pr nq po th d9 sF sN sS ig xa xb (n - 1 - o) (by omega) (by omega)) kX12_156 hP hD [0] rfl (by decide +kernel) 0 rfl rfl rfl ⟨Nat.le_of_ble_eq_true rfl, Nat.le_of_ble_eq_true rfl⟩ rfl hl.1 rfl (Nat.le_of_ble_eq_true rfl) dX12_drawSample_34 ⟨Nat.le_of_ble_eq_true rfl, Nat.le_of_ble_eq_true rfl⟩) hP hD hS hA [0] [] rfl rfl (by decide +kernel) (by decide +kernel) ?_
        clear hP hD hS
        try clear locs
        try clear H
        intro r_5 u_6 H locs hw_r_5 hP hD hS
        have hw_r_5 : ∃ j, j < (n - 1 - o) ∧ r_5 = nI j := hw_r_5
        refine W.widen (k := 0) (n := 0) (Nat.le_of_ble_eq_true rfl) (Nat.le_of_ble_eq_true rfl) ?_
        replace hP : va_P D vwCl [(hm, .inr (12, [.ref ms, .ref mkp, .int (nI km), .ref mtr, .int (nI n), .int (nI k), .int (nI al), .int (nI be), .int ea, .int pr, .ref mas, .int nq, .int po, .int (nI en), .ref mso, .ref mon, .ref mot, .ref man, .int th, .int u_6, .ref mst, .ref msm, .ref mtb, .ref mti, .ref mfr, .ref mbn, .ref mbs, .ref mde, .int sF, .int sN, .int sS, .int ig, .long xa, .long xb, .ref maa, .ref mab, .ref mba, .ref mbb]))] H := hP
        replace hD : va_D A [(hm, .inr (12, [.ref ms, .ref mkp, .int (nI km), .ref mtr, .int (nI n), .int (nI k), .int (nI al), .int (nI be), .int ea, .int pr, .ref mas, .int nq, .int po, .int (nI en), .ref mso, .ref mon, .ref mot, .ref man, .int th, .int u_6, .ref mst, .ref msm, .ref mtb, .ref mti, .ref mfr, .ref mbn, .ref mbs, .ref mde, .int sF, .int sN, .int sS, .int ig, .long xa, .long xb, .ref maa, .ref mab, .ref mba, .ref mbb]))] := hD
        obtain ⟨t_7, h_t_7, e_t_7⟩ := hw_r_5
        refine lv_topi (nm_r (e' := nI t_7) e_t_7 ?_)
        refine lv_istore (lv' := [(5, .int (nI t_7)), (4, .int (nI o)), (3, .int s9), (2, .int l9), (0, .ref hm), (1, .int (nI a))]) hx hb dX12_drawSample_37 hl (by decide) rfl ?_
        clear hl
        try clear ls
        intro ls hl
        refine lv_iload_n hx hb dX12_drawSample_39 rfl (lv_at hl 3 rfl) ?_
        refine lv_iload hx hb dX12_drawSample_40 (lv_at hl 0 rfl) ?_
        refine xi (wr := [(hm, .inr (12, [.ref ms, .ref mkp, .int (nI km), .ref mtr, .int (nI n), .int (nI k), .int (nI al), .int (nI be), .int ea, .int pr, .ref mas, .int nq, .int po, .int (nI en), .ref mso, .ref mon, .ref mot, .ref man, .int th, .int u_6, .ref mst, .ref msm, .ref mtb, .ref mti, .ref mfr, .ref mbn, .ref mbs, .ref mde, .int sF, .int sN, .int sS, .int ig, .long xa, .long xb, .ref maa, .ref mab, .ref mba, .ref mbb]))]) (xS (As := [.int l9, .int (nI t_7)]) (rest := []) C (c_X12_nth l D cs l9 t_7 (by rw [hc9]; omega)) kX12_159 hP hD [] rfl (by decide +kernel) ⟨Nat.le_of_ble_eq_true rfl, Nat.le_of_ble_eq_true rfl⟩ rfl hl.1 rfl (Nat.le_of_ble_eq_true rfl) dX12_drawSample_42 ⟨Nat.le_of_ble_eq_true rfl, Nat.le_of_ble_eq_true rfl⟩) hP hD hS hA [] [0] rfl rfl (by decide +kernel) (by decide +kernel) ?_
        clear hP hD hS
        try clear locs
        try clear H
        intro r_8 u_9 H locs hw_r_8 hP hD hS
        have hw_r_8 : ∃ b, b < 16 ∧ r_8 = nI b ∧ hasB l9 b := hw_r_8
        refine W.widen (k := 0) (n := 0) (Nat.le_of_ble_eq_true rfl) (Nat.le_of_ble_eq_true rfl) ?_
        replace hP : va_P D vwCl [(hm, .inr (12, [.ref ms, .ref mkp, .int (nI km), .ref mtr, .int (nI n), .int (nI k), .int (nI al), .int (nI be), .int ea, .int pr, .ref mas, .int nq, .int po, .int (nI en), .ref mso, .ref mon, .ref mot, .ref man, .int th, .int u_6, .ref mst, .ref msm, .ref mtb, .ref mti, .ref mfr, .ref mbn, .ref mbs, .ref mde, .int sF, .int sN, .int sS, .int ig, .long xa, .long xb, .ref maa, .ref mab, .ref mba, .ref mbb]))] H := hP
        replace hD : va_D A [(hm, .inr (12, [.ref ms, .ref mkp, .int (nI km), .ref mtr, .int (nI n), .int (nI k), .int (nI al), .int (nI be), .int ea, .int pr, .ref mas, .int nq, .int po, .int (nI en), .ref mso, .ref mon, .ref mot, .ref man, .int th, .int u_6, .ref mst, .ref msm, .ref mtb, .ref mti, .ref mfr, .ref mbn, .ref mbs, .ref mde, .int sF, .int sN, .int sS, .int ig, .long xa, .long xb, .ref maa, .ref mab, .ref mba, .ref mbb]))] := hD
        obtain ⟨b9, h_b9, rfl, hb9⟩ := hw_r_8
        replace hP : va_P D vwCl [(hm, .inr (12, [.ref ms, .ref mkp, .int (nI km), .ref mtr, .int (nI n), .int (nI k), .int (nI al), .int (nI be), .int ea, .int pr, .ref mas, .int nq, .int po, .int (nI en), .ref mso, .ref mon, .ref mot, .ref man, .int th, .int u_6, .ref mst, .ref msm, .ref mtb, .ref mti, .ref mfr, .ref mbn, .ref mbs, .ref mde, .int sF, .int sN, .int sS, .int ig, .long xa, .long xb, .ref maa, .ref mab, .ref mba, .ref mbb]))] H := hP
        replace hD : va_D A [(hm, .inr (12, [.ref ms, .ref mkp, .int (nI km), .ref mtr, .int (nI n), .int (nI k), .int (nI al), .int (nI be), .int ea, .int pr, .ref mas, .int nq, .int po, .int (nI en), .ref mso, .ref mon, .ref mot, .ref man, .int th, .int u_6, .ref mst, .ref msm, .ref mtb, .ref mti, .ref mfr, .ref mbn, .ref mbs, .ref mde, .int sF, .int sN, .int sS, .int ig, .long xa, .long xb, .ref maa, .ref mab, .ref mba, .ref mbb]))] := hD
        refine lv_istore (lv' := [(6, .int (nI b9)), (5, .int (nI t_7)), (4, .int (nI o)), (3, .int s9), (2, .int l9), (0, .ref hm), (1, .int (nI a))]) hx hb dX12_drawSample_45 hl (by decide) rfl ?_
        clear hl
        try clear ls
        intro ls hl
        refine lv_iload_n hx hb dX12_drawSample_47 rfl (lv_at hl 4 rfl) ?_
        refine lv_iconst (v := nI 1) hx hb dX12_drawSample_48 (by decide) ?_
        refine lv_iload hx hb dX12_drawSample_49 (lv_at hl 0 rfl) ?_
        refine lv_ishl hx hb dX12_drawSample_51 ?_
        refine lv_iconst (v := (-1)) hx hb dX12_drawSample_52 (by decide) ?_
        refine lv_ixor hx hb dX12_drawSample_53 ?_
        refine lv_iand hx hb dX12_drawSample_54 ?_
        refine lv_istore_n (lv' := [(2, .int (l9 &&& (((nI 1) <<< ((nI b9) &&& 31)) ^^^ (-1)))), (6, .int (nI b9)), (5, .int (nI t_7)), (4, .int (nI o)), (3, .int s9), (0, .ref hm), (1, .int (nI a))]) hx hb dX12_drawSample_55 rfl hl (by decide) rfl ?_
        clear hl
        try clear ls
        intro ls hl
        refine lv_iload_n hx hb dX12_drawSample_56 rfl (lv_at hl 4 rfl) ?_
        refine lv_iconst (v := nI 1) hx hb dX12_drawSample_57 (by decide) ?_
        refine lv_iload hx hb dX12_drawSample_58 (lv_at hl 1 rfl) ?_
        refine lv_ishl hx hb dX12_drawSample_60 ?_
        refine lv_ior hx hb dX12_drawSample_61 ?_
        refine lv_istore_n (lv' := [(3, .int (s9 ||| ((nI 1) <<< ((nI b9) &&& 31)))), (2, .int (l9 &&& (((nI 1) <<< ((nI b9) &&& 31)) ^^^ (-1)))), (6, .int (nI b9)), (5, .int (nI t_7)), (4, .int (nI o)), (0, .ref hm), (1, .int (nI a))]) hx hb dX12_drawSample_62 rfl hl (by decide) rfl ?_
        clear hl
        try clear ls
        intro ls hl
        refine lv_iinc (v := nI (o + 1)) (lv' := [(4, .int (nI (o + 1))), (3, .int (s9 ||| ((nI 1) <<< ((nI b9) &&& 31)))), (2, .int (l9 &&& (((nI 1) <<< ((nI b9) &&& 31)) ^^^ (-1)))), (6, .int (nI b9)), (5, .int (nI t_7)), (0, .ref hm), (1, .int (nI a))]) hx hb dX12_drawSample_63 hl (k := 4) rfl (nI_add o 1) (by decide) rfl ?_
        clear hl
        try clear ls
        intro ls hl
        refine lv_goto (tgt := 20) hx hb dX12_drawSample_66 (by decide) ?_
        exact ih_loop_1 (o + 1) u_6 (l9 &&& (((nI 1) <<< ((nI b9) &&& 31)) ^^^ (-1))) (s9 ||| ((nI 1) <<< ((nI b9) &&& 31))) (by omega) (by have q := cnt_rem h_b9 hb9; omega) (by omega) H locs ls hP hD hS (lv_sub hl [0, 1, 2, 5, 6] rfl)
  exact loop_1 _ 0 xd ((((nI 1) <<< ((nI n) &&& 31)) - (nI 1)) &&& (((nI 1) <<< ((nI a) &&& 31)) ^^^ (-1))) (nI 0) (by omega) (cnt_all hn.2 ha) (Nat.lt_succ_self _) H locs ls hP hD hS (lv_sub hl [0, 1, 2, 3, 4] rfl)

set_option maxHeartbeats 4000000 in
set_option maxRecDepth 100000 in
theorem c_X12_run (l : Launch) (D : va_G) (cs : Nat → ClassId) (hm ms mkp mtr mas mso mon mot man mst msm mtb mti mfr mbn mbs mde maa mab mba mbb : Nat) (n k al be km en : Nat) (ea pr nq po th xd sF sN sS ig : Int32) (xa xb : Int64) (f : Nat → Int32) (g : Nat → Int32) (qq : Nat → Int32) (x sd : Int32) (hn : 2 ≤ n ∧ n ≤ 8) (hs : colP f) (hk : keptP g) (hkm : km ≤ 8) (hkn : k < n) : xMet l D cs yX12_run cX12_run 7 (some .int) ({ frames := 3, cells := 0, slots := 0, locals := 71 } : Room) [.ref hm, .int x, .int sd] [(hm, .inr (12, [.ref ms, .ref mkp, .int (nI km), .ref mtr, .int (nI n), .int (nI k), .int (nI al), .int (nI be), .int ea, .int pr, .ref mas, .int nq, .int po, .int (nI en), .ref mso, .ref mon, .ref mot, .ref man, .int th, .int xd, .ref mst, .ref msm, .ref mtb, .ref mti, .ref mfr, .ref mbn, .ref mbs, .ref mde, .int sF, .int sN, .int sS, .int ig, .long xa, .long xb, .ref maa, .ref mab, .ref mba, .ref mbb])), (ms, .inl (cs 0, 288, .inl f)), (mkp, .inl (cs 0, 2304, .inl g)), (mas, .inl (cs 0, 8, .inl qq))] (xQi D (fun (r : Int32) (u : Nat × (Nat → Int32) × (Nat → Int32) × Int32 × Int32 × (Nat → Int32)) => match u with | (kmz, fz, gz, nqz, xdz, qz) => colP fz ∧ keptP gz ∧ kmz ≤ 8) (fun (u : Nat × (Nat → Int32) × (Nat → Int32) × Int32 × Int32 × (Nat → Int32)) => match u with | (kmz, fz, gz, nqz, xdz, qz) => [(hm, .inr (12, [.ref ms, .ref mkp, .int (nI kmz), .ref mtr, .int (nI n), .int (nI k), .int (nI al), .int (nI be), .int ea, .int pr, .ref mas, .int nqz, .int po, .int (nI en), .ref mso, .ref mon, .ref mot, .ref man, .int (nI 0), .int xdz, .ref mst, .ref msm, .ref mtb, .ref mti, .ref mfr, .ref mbn, .ref mbs, .ref mde, .int sF, .int sN, .int sS, .int ig, .long xa, .long xb, .ref maa, .ref mab, .ref mba, .ref mbb])), (ms, .inl (cs 0, 288, .inl fz)), (mkp, .inl (cs 0, 2304, .inl gz)), (mas, .inl (cs 0, 8, .inl qz))])) := by
  refine xMet.intro (by decide) (Nat.le_of_ble_eq_true rfl) ?_
  intro p e s m args below meth c A ls C hP hD hS hl
  have hx := C.1
  have hb := C.2.1
  have hz := C.2.2.2.2.1
  have hown := C.2.2.2.1
  have hA := C.2.2.2.2.2.2.2.2.2
  have hAO := C.2.2.2.2.2.2.2.2.1.2.2
  replace hl : lv_has ls 7 [(0, .ref hm), (1, .int x), (2, .int sd)] := hl
  obtain ⟨H, hH⟩ : ∃ H, H = s.heap := ⟨_, rfl⟩
  replace hP : va_P D vwCl [(hm, .inr (12, [.ref ms, .ref mkp, .int (nI km), .ref mtr, .int (nI n), .int (nI k), .int (nI al), .int (nI be), .int ea, .int pr, .ref mas, .int nq, .int po, .int (nI en), .ref mso, .ref mon, .ref mot, .ref man, .int th, .int xd, .ref mst, .ref msm, .ref mtb, .ref mti, .ref mfr, .ref mbn, .ref mbs, .ref mde, .int sF, .int sN, .int sS, .int ig, .long xa, .long xb, .ref maa, .ref mab, .ref mba, .ref mbb])), (ms, .inl (cs 0, 288, .inl f)), (mkp, .inl (cs 0, 2304, .inl g)), (mas, .inl (cs 0, 8, .inl qq))] H := by rw [hH]; exact hP
  replace hS : va_S A s.heap H [] := by rw [hH]; exact hS
  obtain ⟨locs, hlocs⟩ : ∃ z : List Loc, z = [] := ⟨_, rfl⟩
  rw [← hlocs] at hS
  suffices hW : W p l e ({ frames := 3, cells := 0, slots := 0, locals := 71 } : Room) s m args below meth c H locs 0 0 (MQ below ((xQi D (fun (r : Int32) (u : Nat × (Nat → Int32) × (Nat → Int32) × Int32 × Int32 × (Nat → Int32)) => match u with | (kmz, fz, gz, nqz, xdz, qz) => colP fz ∧ keptP gz ∧ kmz ≤ 8) (fun (u : Nat × (Nat → Int32) × (Nat → Int32) × Int32 × Int32 × (Nat → Int32)) => match u with | (kmz, fz, gz, nqz, xdz, qz) => [(hm, .inr (12, [.ref ms, .ref mkp, .int (nI kmz), .ref mtr, .int (nI n), .int (nI k), .int (nI al), .int (nI be), .int ea, .int pr, .ref mas, .int nqz, .int po, .int (nI en), .ref mso, .ref mon, .ref mot, .ref man, .int (nI 0), .int xdz, .ref mst, .ref msm, .ref mtb, .ref mti, .ref mfr, .ref mbn, .ref mbs, .ref mde, .int sF, .int sN, .int sS, .int ig, .long xa, .long xb, .ref maa, .ref mab, .ref mba, .ref mbb])), (ms, .inl (cs 0, 288, .inl fz)), (mkp, .inl (cs 0, 2304, .inl gz)), (mas, .inl (cs 0, 8, .inl qz))])) A) args s 0 0 A) (F0 m 0 ls []) by rw [hlocs, hH] at hW; exact hW
  clear hH hlocs
  refine lv_aload_n hx hb dX12_run_0 rfl (lv_at hl 0 rfl) ?_
  refine lv_iconst (v := nI 0) hx hb dX12_run_1 (by decide) ?_
  refine xput C hP hD hS 0 rfl rfl zuX12 tyX12 tyX12_ok nmX12 18 (by decide) zw5_231 rfl rfl rfl (Nat.le_of_ble_eq_true rfl) dX12_run_2 ?_
  clear hP hD hS
  try clear locs
  try clear H
  intro H locs hP hD hS
  replace hP : va_P D vwCl [(hm, .inr (12, [.ref ms, .ref mkp, .int (nI km), .ref mtr, .int (nI n), .int (nI k), .int (nI al), .int (nI be), .int ea, .int pr, .ref mas, .int nq, .int po, .int (nI en), .ref mso, .ref mon, .ref mot, .ref man, .int (nI 0), .int xd, .ref mst, .ref msm, .ref mtb, .ref mti, .ref mfr, .ref mbn, .ref mbs, .ref mde, .int sF, .int sN, .int sS, .int ig, .long xa, .long xb, .ref maa, .ref mab, .ref mba, .ref mbb])), (ms, .inl (cs 0, 288, .inl f)), (mkp, .inl (cs 0, 2304, .inl g)), (mas, .inl (cs 0, 8, .inl qq))] H := hP
  replace hD : va_D A [(hm, .inr (12, [.ref ms, .ref mkp, .int (nI km), .ref mtr, .int (nI n), .int (nI k), .int (nI al), .int (nI be), .int ea, .int pr, .ref mas, .int nq, .int po, .int (nI en), .ref mso, .ref mon, .ref mot, .ref man, .int (nI 0), .int xd, .ref mst, .ref msm, .ref mtb, .ref mti, .ref mfr, .ref mbn, .ref mbs, .ref mde, .int sF, .int sN, .int sS, .int ig, .long xa, .long xb, .ref maa, .ref mab, .ref mba, .ref mbb])), (ms, .inl (cs 0, 288, .inl f)), (mkp, .inl (cs 0, 2304, .inl g)), (mas, .inl (cs 0, 8, .inl qq))] := hD
  refine lv_iload_n hx hb dX12_run_5 rfl (lv_at hl 1 rfl) ?_
  refine lv_iconst (v := nI 1) hx hb dX12_run_6 (by decide) ?_
  refine lv_sipush (v := nI 300) hx hb dX12_run_7 (by decide) ?_
  refine xi (wr := [(hm, .inr (12, [.ref ms, .ref mkp, .int (nI km), .ref mtr, .int (nI n), .int (nI k), .int (nI al), .int (nI be), .int ea, .int pr, .ref mas, .int nq, .int po, .int (nI en), .ref mso, .ref mon, .ref mot, .ref man, .int (nI 0), .int xd, .ref mst, .ref msm, .ref mtb, .ref mti, .ref mfr, .ref mbn, .ref mbs, .ref mde, .int sF, .int sN, .int sS, .int ig, .long xa, .long xb, .ref maa, .ref mab, .ref mba, .ref mbb])), (ms, .inl (cs 0, 288, .inl f)), (mkp, .inl (cs 0, 2304, .inl g)), (mas, .inl (cs 0, 8, .inl qq))]) (xS (As := [.int x, .int (nI 1), .int (nI 300)]) (rest := []) C (c_X12_within l D cs x (nI 1) (nI 300)) kX12_116 hP hD [] rfl (by decide +kernel) ⟨Nat.le_of_ble_eq_true rfl, Nat.le_of_ble_eq_true rfl⟩ rfl hl.1 rfl (Nat.le_of_ble_eq_true rfl) dX12_run_10 ⟨Nat.le_of_ble_eq_true rfl, Nat.le_of_ble_eq_true rfl⟩) hP hD hS hA [] [0, 1, 2, 3] rfl rfl (by decide +kernel) (by decide +kernel) ?_
  clear hP hD hS
  try clear locs
  try clear H
  intro r_1 u_2 H locs hw_r_1 hP hD hS
  have hw_r_1 : PQ (¬ x < (nI 1) ∧ x ≤ (nI 300)) r_1 (nI 1) (nI 0) := hw_r_1
  refine W.widen (k := 0) (n := 0) (Nat.le_of_ble_eq_true rfl) (Nat.le_of_ble_eq_true rfl) ?_
  replace hP : va_P D vwCl [(hm, .inr (12, [.ref ms, .ref mkp, .int (nI km), .ref mtr, .int (nI n), .int (nI k), .int (nI al), .int (nI be), .int ea, .int pr, .ref mas, .int nq, .int po, .int (nI en), .ref mso, .ref mon, .ref mot, .ref man, .int (nI 0), .int xd, .ref mst, .ref msm, .ref mtb, .ref mti, .ref mfr, .ref mbn, .ref mbs, .ref mde, .int sF, .int sN, .int sS, .int ig, .long xa, .long xb, .ref maa, .ref mab, .ref mba, .ref mbb])), (ms, .inl (cs 0, 288, .inl f)), (mkp, .inl (cs 0, 2304, .inl g)), (mas, .inl (cs 0, 8, .inl qq))] H := hP
  replace hD : va_D A [(hm, .inr (12, [.ref ms, .ref mkp, .int (nI km), .ref mtr, .int (nI n), .int (nI k), .int (nI al), .int (nI be), .int ea, .int pr, .ref mas, .int nq, .int po, .int (nI en), .ref mso, .ref mon, .ref mot, .ref man, .int (nI 0), .int xd, .ref mst, .ref msm, .ref mtb, .ref mti, .ref mfr, .ref mbn, .ref mbs, .ref mde, .int sF, .int sN, .int sS, .int ig, .long xa, .long xb, .ref maa, .ref mab, .ref mba, .ref mbb])), (ms, .inl (cs 0, 288, .inl f)), (mkp, .inl (cs 0, 2304, .inl g)), (mas, .inl (cs 0, 8, .inl qq))] := hD
  refine lv_if_ne (tgt := 18) hx hb dX12_run_13 (by decide) (fun c_3 => ?_) (fun c_3 => ?_)
  · -- 13 t
    have hyx := PQ.yes hw_r_1 c_3
    obtain ⟨nn, h_nn, rfl⟩ : ∃ j : Nat, j ≤ 300 ∧ x = nI j := nI_of2 (M := nI 300) (by decide) (fun q => hyx.1 (Int32.lt_trans q (by decide))) hyx.2
    replace hP : va_P D vwCl [(hm, .inr (12, [.ref ms, .ref mkp, .int (nI km), .ref mtr, .int (nI n), .int (nI k), .int (nI al), .int (nI be), .int ea, .int pr, .ref mas, .int nq, .int po, .int (nI en), .ref mso, .ref mon, .ref mot, .ref man, .int (nI 0), .int xd, .ref mst, .ref msm, .ref mtb, .ref mti, .ref mfr, .ref mbn, .ref mbs, .ref mde, .int sF, .int sN, .int sS, .int ig, .long xa, .long xb, .ref maa, .ref mab, .ref mba, .ref mbb])), (ms, .inl (cs 0, 288, .inl f)), (mkp, .inl (cs 0, 2304, .inl g)), (mas, .inl (cs 0, 8, .inl qq))] H := hP
    replace hD : va_D A [(hm, .inr (12, [.ref ms, .ref mkp, .int (nI km), .ref mtr, .int (nI n), .int (nI k), .int (nI al), .int (nI be), .int ea, .int pr, .ref mas, .int nq, .int po, .int (nI en), .ref mso, .ref mon, .ref mot, .ref man, .int (nI 0), .int xd, .ref mst, .ref msm, .ref mtb, .ref mti, .ref mfr, .ref mbn, .ref mbs, .ref mde, .int sF, .int sN, .int sS, .int ig, .long xa, .long xb, .ref maa, .ref mab, .ref mba, .ref mbb])), (ms, .inl (cs 0, 288, .inl f)), (mkp, .inl (cs 0, 2304, .inl g)), (mas, .inl (cs 0, 8, .inl qq))] := hD
    refine lv_aload_n hx hb dX12_run_18 rfl (lv_at hl 0 rfl) ?_
    refine xv (wr := [(mas, .inl (cs 0, 8, .inl qq))]) (xV (As := []) (rest := []) C (c_X12_keeps l D cs hm ms mkp mtr mas mso mon mot man mst msm mtb mti mfr mbn mbs mde maa mab mba mbb n k al be km en ea pr nq po (nI 0) xd sF sN sS ig xa xb f g hs hk hkm) kX12_124 hP hD [0, 1, 2] rfl (by decide +kernel) 0 rfl rfl rfl ⟨Nat.le_of_ble_eq_true rfl, Nat.le_of_ble_eq_true rfl⟩ rfl hl.1 rfl (Nat.le_of_ble_eq_true rfl) dX12_run_19 ⟨Nat.le_of_ble_eq_true rfl, Nat.le_of_ble_eq_true rfl⟩) hP hD hS hA [0, 1, 2] [3] rfl rfl (by decide +kernel) (by decide +kernel) ?_
    clear hP hD hS
    try clear locs
    try clear H
    intro u_5 H locs hw_r_4 hP hD hS
    obtain ⟨kmz_6, gz_7⟩ := u_5
    have hw_r_4 : keptP gz_7 ∧ kmz_6 ≤ 8 := hw_r_4
    refine W.widen (k := 0) (n := 0) (Nat.le_of_ble_eq_true rfl) (Nat.le_of_ble_eq_true rfl) ?_
    replace hP : va_P D vwCl [(mas, .inl (cs 0, 8, .inl qq)), (hm, .inr (12, [.ref ms, .ref mkp, .int (nI kmz_6), .ref mtr, .int (nI n), .int (nI k), .int (nI al), .int (nI be), .int ea, .int pr, .ref mas, .int nq, .int po, .int (nI en), .ref mso, .ref mon, .ref mot, .ref man, .int (nI 0), .int xd, .ref mst, .ref msm, .ref mtb, .ref mti, .ref mfr, .ref mbn, .ref mbs, .ref mde, .int sF, .int sN, .int sS, .int ig, .long xa, .long xb, .ref maa, .ref mab, .ref mba, .ref mbb])), (ms, .inl (cs 0, 288, .inl f)), (mkp, .inl (cs 0, 2304, .inl gz_7))] H := hP
    replace hD : va_D A [(mas, .inl (cs 0, 8, .inl qq)), (hm, .inr (12, [.ref ms, .ref mkp, .int (nI kmz_6), .ref mtr, .int (nI n), .int (nI k), .int (nI al), .int (nI be), .int ea, .int pr, .ref mas, .int nq, .int po, .int (nI en), .ref mso, .ref mon, .ref mot, .ref man, .int (nI 0), .int xd, .ref mst, .ref msm, .ref mtb, .ref mti, .ref mfr, .ref mbn, .ref mbs, .ref mde, .int sF, .int sN, .int sS, .int ig, .long xa, .long xb, .ref maa, .ref mab, .ref mba, .ref mbb])), (ms, .inl (cs 0, 288, .inl f)), (mkp, .inl (cs 0, 2304, .inl gz_7))] := hD
    refine lv_aload_n hx hb dX12_run_22 rfl (lv_at hl 0 rfl) ?_
    refine lv_iload_n hx hb dX12_run_23 rfl (lv_at hl 2 rfl) ?_
    refine xput C hP hD hS 1 rfl rfl zuX12 tyX12 tyX12_ok nmX12 19 (by decide) zw5_232 rfl rfl rfl (Nat.le_of_ble_eq_true rfl) dX12_run_24 ?_
    clear hP hD hS
    try clear locs
    try clear H
    intro H locs hP hD hS
    replace hP : va_P D vwCl [(mas, .inl (cs 0, 8, .inl qq)), (hm, .inr (12, [.ref ms, .ref mkp, .int (nI kmz_6), .ref mtr, .int (nI n), .int (nI k), .int (nI al), .int (nI be), .int ea, .int pr, .ref mas, .int nq, .int po, .int (nI en), .ref mso, .ref mon, .ref mot, .ref man, .int (nI 0), .int sd, .ref mst, .ref msm, .ref mtb, .ref mti, .ref mfr, .ref mbn, .ref mbs, .ref mde, .int sF, .int sN, .int sS, .int ig, .long xa, .long xb, .ref maa, .ref mab, .ref mba, .ref mbb])), (ms, .inl (cs 0, 288, .inl f)), (mkp, .inl (cs 0, 2304, .inl gz_7))] H := hP
    replace hD : va_D A [(mas, .inl (cs 0, 8, .inl qq)), (hm, .inr (12, [.ref ms, .ref mkp, .int (nI kmz_6), .ref mtr, .int (nI n), .int (nI k), .int (nI al), .int (nI be), .int ea, .int pr, .ref mas, .int nq, .int po, .int (nI en), .ref mso, .ref mon, .ref mot, .ref man, .int (nI 0), .int sd, .ref mst, .ref msm, .ref mtb, .ref mti, .ref mfr, .ref mbn, .ref mbs, .ref mde, .int sF, .int sN, .int sS, .int ig, .long xa, .long xb, .ref maa, .ref mab, .ref mba, .ref mbb])), (ms, .inl (cs 0, 288, .inl f)), (mkp, .inl (cs 0, 2304, .inl gz_7))] := hD
    refine lv_iconst (v := nI 0) hx hb dX12_run_27 (by decide) ?_
    refine lv_istore_n (lv' := [(3, .int (nI 0)), (0, .ref hm), (1, .int (nI nn)), (2, .int sd)]) hx hb dX12_run_28 rfl hl (by decide) rfl ?_
    clear hl
    try clear ls
    intro ls hl
    refine lv_iconst (v := nI 0) hx hb dX12_run_29 (by decide) ?_
    refine lv_istore (lv' := [(4, .int (nI 0)), (3, .int (nI 0)), (0, .ref hm), (1, .int (nI nn)), (2, .int sd)]) hx hb dX12_run_30 hl (by decide) rfl ?_
    clear hl
    try clear ls
    intro ls hl
    have loop_8 : ∀ (n_loop_8 : Nat) (o : Nat) (f9 : Nat → Int32) (q9 : Nat → Int32) (n9 : Int32) (d9 : Int32) (c9 : Int32), (o ≤ nn) → (colP f9) → nn - o < n_loop_8 → ∀ (H : Heap) (locs : List Loc) (ls : Array Slot), va_P D vwCl [(mas, .inl (cs 0, 8, .inl q9)), (hm, .inr (12, [.ref ms, .ref mkp, .int (nI kmz_6), .ref mtr, .int (nI n), .int (nI k), .int (nI al), .int (nI be), .int ea, .int pr, .ref mas, .int n9, .int po, .int (nI en), .ref mso, .ref mon, .ref mot, .ref man, .int (nI 0), .int d9, .ref mst, .ref msm, .ref mtb, .ref mti, .ref mfr, .ref mbn, .ref mbs, .ref mde, .int sF, .int sN, .int sS, .int ig, .long xa, .long xb, .ref maa, .ref mab, .ref mba, .ref mbb])), (ms, .inl (cs 0, 288, .inl f9)), (mkp, .inl (cs 0, 2304, .inl gz_7))] H → va_D A [(mas, .inl (cs 0, 8, .inl q9)), (hm, .inr (12, [.ref ms, .ref mkp, .int (nI kmz_6), .ref mtr, .int (nI n), .int (nI k), .int (nI al), .int (nI be), .int ea, .int pr, .ref mas, .int n9, .int po, .int (nI en), .ref mso, .ref mon, .ref mot, .ref man, .int (nI 0), .int d9, .ref mst, .ref msm, .ref mtb, .ref mti, .ref mfr, .ref mbn, .ref mbs, .ref mde, .int sF, .int sN, .int sS, .int ig, .long xa, .long xb, .ref maa, .ref mab, .ref mba, .ref mbb])), (ms, .inl (cs 0, 288, .inl f9)), (mkp, .inl (cs 0, 2304, .inl gz_7))] → va_S A s.heap H locs → lv_has ls 7 [(4, .int (nI o)), (3, .int c9), (0, .ref hm), (1, .int (nI nn)), (2, .int sd)] → W p l e ({ frames := 3, cells := 0, slots := 0, locals := 71 } : Room) s m args below meth c H locs 0 0 (MQ below ((xQi D (fun (r : Int32) (u : Nat × (Nat → Int32) × (Nat → Int32) × Int32 × Int32 × (Nat → Int32)) => match u with | (kmz, fz, gz, nqz, xdz, qz) => colP fz ∧ keptP gz ∧ kmz ≤ 8) (fun (u : Nat × (Nat → Int32) × (Nat → Int32) × Int32 × Int32 × (Nat → Int32)) => match u with | (kmz, fz, gz, nqz, xdz, qz) => [(hm, .inr (12, [.ref ms, .ref mkp, .int (nI kmz), .ref mtr, .int (nI n), .int (nI k), .int (nI al), .int (nI be), .int ea, .int pr, .ref mas, .int nqz, .int po, .int (nI en), .ref mso, .ref mon, .ref mot, .ref man, .int (nI 0), .int xdz, .ref mst, .ref msm, .ref mtb, .ref mti, .ref mfr, .ref mbn, .ref mbs, .ref mde, .int sF, .int sN, .int sS, .int ig, .long xa, .long xb, .ref maa, .ref mab, .ref mba, .ref mbb])), (ms, .inl (cs 0, 288, .inl fz)), (mkp, .inl (cs 0, 2304, .inl gz)), (mas, .inl (cs 0, 8, .inl qz))])) A) args s 0 0 A) (F0 m 32 ls []) := by
      intro n_loop_8
      induction n_loop_8 with
      | zero => intro o f9 q9 n9 d9 c9 h_o hs9 hlt H locs ls hP hD hS hl; exact absurd hlt (Nat.not_lt_zero _)
      | succ n_loop_8 ih_loop_8 =>
        intro o f9 q9 n9 d9 c9 h_o hs9 hlt_loop_8 H locs ls hP hD hS hl
        refine lv_iload hx hb dX12_run_32 (lv_at hl 0 rfl) ?_
        refine lv_iload_n hx hb dX12_run_34 rfl (lv_at hl 3 rfl) ?_
        refine lv_icmp_ge (tgt := 110) hx hb dX12_run_35 (by decide) (fun c_9 => ?_) (fun c_9 => ?_)
        · -- 35 t
          have fc_9 : nn ≤ o := nf_le (by omega) (by omega) c_9
          refine lv_iload_n hx hb dX12_run_110 rfl (lv_at hl 1 rfl) ?_
          exact xreti C (⟨kmz_6, f9, gz_7, n9, d9, q9⟩) (⟨hs9, hw_r_4⟩) (xP_map hP [1, 2, 3, 0] rfl) (hD.sub [1, 2, 3, 0] (by decide +kernel) rfl) hS (Nat.le_of_ble_eq_true rfl) (Nat.le_of_ble_eq_true rfl) rfl dX12_run_111
        · -- 35 f
          have fc_9 : o < nn := nf_nle (by omega) (by omega) c_9
          refine lv_aload_n hx hb dX12_run_38 rfl (lv_at hl 2 rfl) ?_
          refine lv_aload_n hx hb dX12_run_39 rfl (lv_at hl 2 rfl) ?_
          refine xget C hP 1 rfl rfl zuX12 4 (by decide) zw5_217 rfl dX12_run_40 ?_
          refine xi (wr := [(mas, .inl (cs 0, 8, .inl q9)), (ms, .inl (cs 0, 288, .inl f9)), (mkp, .inl (cs 0, 2304, .inl gz_7))]) (xV (As := [.int (nI n)]) (rest := []) C (c_X12_draw l D cs hm ms mkp mtr mas mso mon mot man mst msm mtb mti mfr mbn mbs mde maa mab mba mbb n k al be kmz_6 en ea pr n9 po (nI 0) d9 sF sN sS ig xa xb n (by omega) (by omega)) kX12_156 hP hD [1] rfl (by decide +kernel) 0 rfl rfl rfl ⟨Nat.le_of_ble_eq_true rfl, Nat.le_of_ble_eq_true rfl⟩ rfl hl.1 rfl (Nat.le_of_ble_eq_true rfl) dX12_run_43 ⟨Nat.le_of_ble_eq_true rfl, Nat.le_of_ble_eq_true rfl⟩) hP hD hS hA [1] [0, 2, 3] rfl rfl (by decide +kernel) (by decide +kernel) ?_
          clear hP hD hS
          try clear locs
          try clear H
          intro r_10 u_11 H locs hw_r_10 hP hD hS
          have hw_r_10 : ∃ j, j < n ∧ r_10 = nI j := hw_r_10
          refine W.widen (k := 0) (n := 0) (Nat.le_of_ble_eq_true rfl) (Nat.le_of_ble_eq_true rfl) ?_
          replace hP : va_P D vwCl [(mas, .inl (cs 0, 8, .inl q9)), (ms, .inl (cs 0, 288, .inl f9)), (mkp, .inl (cs 0, 2304, .inl gz_7)), (hm, .inr (12, [.ref ms, .ref mkp, .int (nI kmz_6), .ref mtr, .int (nI n), .int (nI k), .int (nI al), .int (nI be), .int ea, .int pr, .ref mas, .int n9, .int po, .int (nI en), .ref mso, .ref mon, .ref mot, .ref man, .int (nI 0), .int u_11, .ref mst, .ref msm, .ref mtb, .ref mti, .ref mfr, .ref mbn, .ref mbs, .ref mde, .int sF, .int sN, .int sS, .int ig, .long xa, .long xb, .ref maa, .ref mab, .ref mba, .ref mbb]))] H := hP
          replace hD : va_D A [(mas, .inl (cs 0, 8, .inl q9)), (ms, .inl (cs 0, 288, .inl f9)), (mkp, .inl (cs 0, 2304, .inl gz_7)), (hm, .inr (12, [.ref ms, .ref mkp, .int (nI kmz_6), .ref mtr, .int (nI n), .int (nI k), .int (nI al), .int (nI be), .int ea, .int pr, .ref mas, .int n9, .int po, .int (nI en), .ref mso, .ref mon, .ref mot, .ref man, .int (nI 0), .int u_11, .ref mst, .ref msm, .ref mtb, .ref mti, .ref mfr, .ref mbn, .ref mbs, .ref mde, .int sF, .int sN, .int sS, .int ig, .long xa, .long xb, .ref maa, .ref mab, .ref mba, .ref mbb]))] := hD
          obtain ⟨t_12, h_t_12, e_t_12⟩ := hw_r_10
          refine lv_topi (nm_r (e' := nI t_12) e_t_12 ?_)
          refine lv_istore (lv' := [(5, .int (nI t_12)), (4, .int (nI o)), (3, .int c9), (0, .ref hm), (1, .int (nI nn)), (2, .int sd)]) hx hb dX12_run_46 hl (by decide) rfl ?_
          clear hl
          try clear ls
          intro ls hl
          refine lv_aload_n hx hb dX12_run_48 rfl (lv_at hl 3 rfl) ?_
          refine lv_iload hx hb dX12_run_49 (lv_at hl 0 rfl) ?_
          refine xi (wr := [(mas, .inl (cs 0, 8, .inl q9)), (ms, .inl (cs 0, 288, .inl f9)), (mkp, .inl (cs 0, 2304, .inl gz_7))]) (xV (As := [.int (nI t_12)]) (rest := []) C (c_X12_drawSample l D cs hm ms mkp mtr mas mso mon mot man mst msm mtb mti mfr mbn mbs mde maa mab mba mbb n k al be kmz_6 en ea pr n9 po (nI 0) u_11 sF sN sS ig xa xb t_12 hn hkn (by omega)) kX12_162 hP hD [3] rfl (by decide +kernel) 0 rfl rfl rfl ⟨Nat.le_of_ble_eq_true rfl, Nat.le_of_ble_eq_true rfl⟩ rfl hl.1 rfl (Nat.le_of_ble_eq_true rfl) dX12_run_51 ⟨Nat.le_of_ble_eq_true rfl, Nat.le_of_ble_eq_true rfl⟩) hP hD hS hA [3] [0, 1, 2] rfl rfl (by decide +kernel) (by decide +kernel) ?_
          clear hP hD hS
          try clear locs
          try clear H
          intro r_13 u_14 H locs hw_r_13 hP hD hS
          refine W.widen (k := 0) (n := 0) (Nat.le_of_ble_eq_true rfl) (Nat.le_of_ble_eq_true rfl) ?_
          replace hP : va_P D vwCl [(mas, .inl (cs 0, 8, .inl q9)), (ms, .inl (cs 0, 288, .inl f9)), (mkp, .inl (cs 0, 2304, .inl gz_7)), (hm, .inr (12, [.ref ms, .ref mkp, .int (nI kmz_6), .ref mtr, .int (nI n), .int (nI k), .int (nI al), .int (nI be), .int ea, .int pr, .ref mas, .int n9, .int po, .int (nI en), .ref mso, .ref mon, .ref mot, .ref man, .int (nI 0), .int u_14, .ref mst, .ref msm, .ref mtb, .ref mti, .ref mfr, .ref mbn, .ref mbs, .ref mde, .int sF, .int sN, .int sS, .int ig, .long xa, .long xb, .ref maa, .ref mab, .ref mba, .ref mbb]))] H := hP
          replace hD : va_D A [(mas, .inl (cs 0, 8, .inl q9)), (ms, .inl (cs 0, 288, .inl f9)), (mkp, .inl (cs 0, 2304, .inl gz_7)), (hm, .inr (12, [.ref ms, .ref mkp, .int (nI kmz_6), .ref mtr, .int (nI n), .int (nI k), .int (nI al), .int (nI be), .int ea, .int pr, .ref mas, .int n9, .int po, .int (nI en), .ref mso, .ref mon, .ref mot, .ref man, .int (nI 0), .int u_14, .ref mst, .ref msm, .ref mtb, .ref mti, .ref mfr, .ref mbn, .ref mbs, .ref mde, .int sF, .int sN, .int sS, .int ig, .long xa, .long xb, .ref maa, .ref mab, .ref mba, .ref mbb]))] := hD
          refine lv_istore (lv' := [(6, .int r_13), (5, .int (nI t_12)), (4, .int (nI o)), (3, .int c9), (0, .ref hm), (1, .int (nI nn)), (2, .int sd)]) hx hb dX12_run_54 hl (by decide) rfl ?_
          clear hl
          try clear ls
          intro ls hl
          refine lv_aload_n hx hb dX12_run_56 rfl (lv_at hl 4 rfl) ?_
          refine lv_iload hx hb dX12_run_57 (lv_at hl 1 rfl) ?_
          refine xi (wr := [(mas, .inl (cs 0, 8, .inl q9)), (mkp, .inl (cs 0, 2304, .inl gz_7))]) (xV (As := [.int (nI t_12)]) (rest := []) C (c_X12_canAsk l D cs hm ms mkp mtr mas mso mon mot man mst msm mtb mti mfr mbn mbs mde maa mab mba mbb n k al be kmz_6 en ea pr n9 po (nI 0) u_14 sF sN sS ig xa xb f9 t_12 (by omega)) kX12_142 hP hD [3, 1] rfl (by decide +kernel) 0 rfl rfl rfl ⟨Nat.le_of_ble_eq_true rfl, Nat.le_of_ble_eq_true rfl⟩ rfl hl.1 rfl (Nat.le_of_ble_eq_true rfl) dX12_run_59 ⟨Nat.le_of_ble_eq_true rfl, Nat.le_of_ble_eq_true rfl⟩) hP hD hS hA [3, 1] [0, 2] rfl rfl (by decide +kernel) (by decide +kernel) ?_
          clear hP hD hS
          try clear locs
          try clear H
          intro r_15 u_16 H locs hw_r_15 hP hD hS
          have hw_r_15 : (r_15 = nI 0 ∨ r_15 = nI 1) ∧ (r_15 = nI 1 → ¬ f9 (0 + t_12) < 0) := hw_r_15
          refine W.widen (k := 0) (n := 0) (Nat.le_of_ble_eq_true rfl) (Nat.le_of_ble_eq_true rfl) ?_
          replace hP : va_P D vwCl [(mas, .inl (cs 0, 8, .inl q9)), (mkp, .inl (cs 0, 2304, .inl gz_7)), (hm, .inr (12, [.ref ms, .ref mkp, .int (nI kmz_6), .ref mtr, .int (nI n), .int (nI k), .int (nI al), .int (nI be), .int ea, .int pr, .ref mas, .int n9, .int po, .int (nI en), .ref mso, .ref mon, .ref mot, .ref man, .int (nI 0), .int u_14, .ref mst, .ref msm, .ref mtb, .ref mti, .ref mfr, .ref mbn, .ref mbs, .ref mde, .int sF, .int sN, .int sS, .int ig, .long xa, .long xb, .ref maa, .ref mab, .ref mba, .ref mbb])), (ms, .inl (cs 0, 288, .inl f9))] H := hP
          replace hD : va_D A [(mas, .inl (cs 0, 8, .inl q9)), (mkp, .inl (cs 0, 2304, .inl gz_7)), (hm, .inr (12, [.ref ms, .ref mkp, .int (nI kmz_6), .ref mtr, .int (nI n), .int (nI k), .int (nI al), .int (nI be), .int ea, .int pr, .ref mas, .int n9, .int po, .int (nI en), .ref mso, .ref mon, .ref mot, .ref man, .int (nI 0), .int u_14, .ref mst, .ref msm, .ref mtb, .ref mti, .ref mfr, .ref mbn, .ref mbs, .ref mde, .int sF, .int sN, .int sS, .int ig, .long xa, .long xb, .ref maa, .ref mab, .ref mba, .ref mbb])), (ms, .inl (cs 0, 288, .inl f9))] := hD
          refine lv_if_ne (tgt := 68) hx hb dX12_run_62 (by decide) (fun c_17 => ?_) (fun c_17 => ?_)
          · -- 62 t
            have hna := hw_r_15.2 (hw_r_15.1.resolve_left c_17)
            refine lv_aload_n hx hb dX12_run_68 rfl (lv_at hl 4 rfl) ?_
            refine xget C hP 2 rfl rfl zuX12 10 (by decide) zw5_223 rfl dX12_run_69 ?_
            refine lv_iload hx hb dX12_run_72 (lv_at hl 1 rfl) ?_
            refine lv_dup2_11 hx hb dX12_run_74 rfl rfl ?_
            refine xiald C hP 0 rfl t_12 rfl (by omega) (by decide) dX12_run_75 ?_
            refine lv_iconst (v := nI 1) hx hb dX12_run_76 (by decide) ?_
            refine lv_iadd hx hb dX12_run_77 ?_
            refine xiast C hP hD hS 0 rfl t_12 rfl (by omega) (by decide) dX12_run_78 ?_
            clear hP hD hS
            try clear locs
            try clear H
            intro H locs hP hD hS
            replace hP : va_P D vwCl [(mas, .inl (cs 0, 8, .inl (upd q9 t_12 ((q9 t_12) + (nI 1))))), (mkp, .inl (cs 0, 2304, .inl gz_7)), (hm, .inr (12, [.ref ms, .ref mkp, .int (nI kmz_6), .ref mtr, .int (nI n), .int (nI k), .int (nI al), .int (nI be), .int ea, .int pr, .ref mas, .int n9, .int po, .int (nI en), .ref mso, .ref mon, .ref mot, .ref man, .int (nI 0), .int u_14, .ref mst, .ref msm, .ref mtb, .ref mti, .ref mfr, .ref mbn, .ref mbs, .ref mde, .int sF, .int sN, .int sS, .int ig, .long xa, .long xb, .ref maa, .ref mab, .ref mba, .ref mbb])), (ms, .inl (cs 0, 288, .inl f9))] H := hP
            replace hD : va_D A [(mas, .inl (cs 0, 8, .inl (upd q9 t_12 ((q9 t_12) + (nI 1))))), (mkp, .inl (cs 0, 2304, .inl gz_7)), (hm, .inr (12, [.ref ms, .ref mkp, .int (nI kmz_6), .ref mtr, .int (nI n), .int (nI k), .int (nI al), .int (nI be), .int ea, .int pr, .ref mas, .int n9, .int po, .int (nI en), .ref mso, .ref mon, .ref mot, .ref man, .int (nI 0), .int u_14, .ref mst, .ref msm, .ref mtb, .ref mti, .ref mfr, .ref mbn, .ref mbs, .ref mde, .int sF, .int sN, .int sS, .int ig, .long xa, .long xb, .ref maa, .ref mab, .ref mba, .ref mbb])), (ms, .inl (cs 0, 288, .inl f9))] := hD
            refine lv_aload_n hx hb dX12_run_79 rfl (lv_at hl 4 rfl) ?_
            refine lv_dup hx hb dX12_run_80 rfl ?_
            refine xget C hP 2 rfl rfl zuX12 11 (by decide) zw5_224 rfl dX12_run_81 ?_
            refine lv_iconst (v := nI 1) hx hb dX12_run_84 (by decide) ?_
            refine lv_iadd hx hb dX12_run_85 ?_
            refine xput C hP hD hS 2 rfl rfl zuX12 tyX12 tyX12_ok nmX12 11 (by decide) zw5_224 rfl rfl rfl (Nat.le_of_ble_eq_true rfl) dX12_run_86 ?_
            clear hP hD hS
            try clear locs
            try clear H
            intro H locs hP hD hS
            replace hP : va_P D vwCl [(mas, .inl (cs 0, 8, .inl (upd q9 t_12 ((q9 t_12) + (nI 1))))), (mkp, .inl (cs 0, 2304, .inl gz_7)), (hm, .inr (12, [.ref ms, .ref mkp, .int (nI kmz_6), .ref mtr, .int (nI n), .int (nI k), .int (nI al), .int (nI be), .int ea, .int pr, .ref mas, .int (n9 + (nI 1)), .int po, .int (nI en), .ref mso, .ref mon, .ref mot, .ref man, .int (nI 0), .int u_14, .ref mst, .ref msm, .ref mtb, .ref mti, .ref mfr, .ref mbn, .ref mbs, .ref mde, .int sF, .int sN, .int sS, .int ig, .long xa, .long xb, .ref maa, .ref mab, .ref mba, .ref mbb])), (ms, .inl (cs 0, 288, .inl f9))] H := hP
            replace hD : va_D A [(mas, .inl (cs 0, 8, .inl (upd q9 t_12 ((q9 t_12) + (nI 1))))), (mkp, .inl (cs 0, 2304, .inl gz_7)), (hm, .inr (12, [.ref ms, .ref mkp, .int (nI kmz_6), .ref mtr, .int (nI n), .int (nI k), .int (nI al), .int (nI be), .int ea, .int pr, .ref mas, .int (n9 + (nI 1)), .int po, .int (nI en), .ref mso, .ref mon, .ref mot, .ref man, .int (nI 0), .int u_14, .ref mst, .ref msm, .ref mtb, .ref mti, .ref mfr, .ref mbn, .ref mbs, .ref mde, .int sF, .int sN, .int sS, .int ig, .long xa, .long xb, .ref maa, .ref mab, .ref mba, .ref mbb])), (ms, .inl (cs 0, 288, .inl f9))] := hD
            refine lv_aload_n hx hb dX12_run_89 rfl (lv_at hl 4 rfl) ?_
            refine lv_iload hx hb dX12_run_90 (lv_at hl 1 rfl) ?_
            refine lv_iload hx hb dX12_run_92 (lv_at hl 0 rfl) ?_
            refine xi (wr := [(mas, .inl (cs 0, 8, .inl (upd q9 t_12 ((q9 t_12) + (nI 1))))), (mkp, .inl (cs 0, 2304, .inl gz_7))]) (xV (As := [.int (nI t_12), .int r_13]) (rest := []) C (c_X12_asks l D cs hm ms mkp mtr mas mso mon mot man mst msm mtb mti mfr mbn mbs mde maa mab mba mbb n k al be kmz_6 en ea pr (n9 + (nI 1)) po (nI 0) u_14 sF sN sS ig xa xb f9 t_12 r_13 hn (by omega) hs9 hna) kX12_145 hP hD [2, 3] rfl (by decide +kernel) 0 rfl rfl rfl ⟨Nat.le_of_ble_eq_true rfl, Nat.le_of_ble_eq_true rfl⟩ rfl hl.1 rfl (Nat.le_of_ble_eq_true rfl) dX12_run_94 ⟨Nat.le_of_ble_eq_true rfl, Nat.le_of_ble_eq_true rfl⟩) hP hD hS hA [2, 3] [0, 1] rfl rfl (by decide +kernel) (by decide +kernel) ?_
            clear hP hD hS
            try clear locs
            try clear H
            intro r_18 u_19 H locs hw_r_18 hP hD hS
            have hw_r_18 : colP u_19 ∧ ∃ y, y < 3 ∧ r_18 = nI y := hw_r_18
            refine W.widen (k := 0) (n := 0) (Nat.le_of_ble_eq_true rfl) (Nat.le_of_ble_eq_true rfl) ?_
            replace hP : va_P D vwCl [(mas, .inl (cs 0, 8, .inl (upd q9 t_12 ((q9 t_12) + (nI 1))))), (mkp, .inl (cs 0, 2304, .inl gz_7)), (hm, .inr (12, [.ref ms, .ref mkp, .int (nI kmz_6), .ref mtr, .int (nI n), .int (nI k), .int (nI al), .int (nI be), .int ea, .int pr, .ref mas, .int (n9 + (nI 1)), .int po, .int (nI en), .ref mso, .ref mon, .ref mot, .ref man, .int (nI 0), .int u_14, .ref mst, .ref msm, .ref mtb, .ref mti, .ref mfr, .ref mbn, .ref mbs, .ref mde, .int sF, .int sN, .int sS, .int ig, .long xa, .long xb, .ref maa, .ref mab, .ref mba, .ref mbb])), (ms, .inl (cs 0, 288, .inl u_19))] H := hP
            replace hD : va_D A [(mas, .inl (cs 0, 8, .inl (upd q9 t_12 ((q9 t_12) + (nI 1))))), (mkp, .inl (cs 0, 2304, .inl gz_7)), (hm, .inr (12, [.ref ms, .ref mkp, .int (nI kmz_6), .ref mtr, .int (nI n), .int (nI k), .int (nI al), .int (nI be), .int ea, .int pr, .ref mas, .int (n9 + (nI 1)), .int po, .int (nI en), .ref mso, .ref mon, .ref mot, .ref man, .int (nI 0), .int u_14, .ref mst, .ref msm, .ref mtb, .ref mti, .ref mfr, .ref mbn, .ref mbs, .ref mde, .int sF, .int sN, .int sS, .int ig, .long xa, .long xb, .ref maa, .ref mab, .ref mba, .ref mbb])), (ms, .inl (cs 0, 288, .inl u_19))] := hD
            refine lv_iconst (v := nI 2) hx hb dX12_run_97 (by decide) ?_
            refine lv_icmp_ne (tgt := 104) hx hb dX12_run_98 (by decide) (fun c_20 => ?_) (fun c_20 => ?_)
            · -- 98 t
              refine lv_iinc (v := nI (o + 1)) (lv' := [(4, .int (nI (o + 1))), (6, .int r_13), (5, .int (nI t_12)), (3, .int c9), (0, .ref hm), (1, .int (nI nn)), (2, .int sd)]) hx hb dX12_run_104 hl (k := 2) rfl (nI_add o 1) (by decide) rfl ?_
              clear hl
              try clear ls
              intro ls hl
              refine lv_goto (tgt := 32) hx hb dX12_run_107 (by decide) ?_
              exact ih_loop_8 (o + 1) u_19 (upd q9 t_12 ((q9 t_12) + (nI 1))) (n9 + (nI 1)) u_14 c9 (by omega) hw_r_18.1 (by omega) H locs ls (xP_map hP [0, 2, 3, 1] rfl) (hD.sub [0, 2, 3, 1] (by decide +kernel) rfl) hS (lv_sub hl [0, 3, 4, 5, 6] rfl)
            · -- 98 f
              refine lv_iinc (v := c9 + 1) (lv' := [(3, .int (c9 + 1)), (6, .int r_13), (5, .int (nI t_12)), (4, .int (nI o)), (0, .ref hm), (1, .int (nI nn)), (2, .int sd)]) hx hb dX12_run_101 hl (k := 3) rfl rfl (by decide) rfl ?_
              clear hl
              try clear ls
              intro ls hl
              refine lv_iinc (v := nI (o + 1)) (lv' := [(4, .int (nI (o + 1))), (3, .int (c9 + 1)), (6, .int r_13), (5, .int (nI t_12)), (0, .ref hm), (1, .int (nI nn)), (2, .int sd)]) hx hb dX12_run_104 hl (k := 3) rfl (nI_add o 1) (by decide) rfl ?_
              clear hl
              try clear ls
              intro ls hl
              refine lv_goto (tgt := 32) hx hb dX12_run_107 (by decide) ?_
              exact ih_loop_8 (o + 1) u_19 (upd q9 t_12 ((q9 t_12) + (nI 1))) (n9 + (nI 1)) u_14 (c9 + 1) (by omega) hw_r_18.1 (by omega) H locs ls (xP_map hP [0, 2, 3, 1] rfl) (hD.sub [0, 2, 3, 1] (by decide +kernel) rfl) hS (lv_sub hl [0, 1, 4, 5, 6] rfl)
          · -- 62 f
            refine lv_goto (tgt := 104) hx hb dX12_run_65 (by decide) ?_
            refine lv_iinc (v := nI (o + 1)) (lv' := [(4, .int (nI (o + 1))), (6, .int r_13), (5, .int (nI t_12)), (3, .int c9), (0, .ref hm), (1, .int (nI nn)), (2, .int sd)]) hx hb dX12_run_104 hl (k := 2) rfl (nI_add o 1) (by decide) rfl ?_
            clear hl
            try clear ls
            intro ls hl
            refine lv_goto (tgt := 32) hx hb dX12_run_107 (by decide) ?_
            exact ih_loop_8 (o + 1) f9 q9 n9 u_14 c9 (by omega) hs9 (by omega) H locs ls (xP_map hP [0, 2, 3, 1] rfl) (hD.sub [0, 2, 3, 1] (by decide +kernel) rfl) hS (lv_sub hl [0, 3, 4, 5, 6] rfl)
    exact loop_8 _ 0 f qq nq sd (nI 0) (by omega) hs (Nat.lt_succ_self _) H locs ls hP hD hS (lv_sub hl [0, 1, 2, 3, 4] rfl)
  · -- 13 f
    refine lv_iconst (v := (-1)) hx hb dX12_run_16 (by decide) ?_
    exact xreti C (⟨km, f, g, nq, xd, qq⟩) (⟨hs, ⟨hk, hkm⟩⟩) hP hD hS (Nat.le_of_ble_eq_true rfl) (Nat.le_of_ble_eq_true rfl) rfl dX12_run_17
