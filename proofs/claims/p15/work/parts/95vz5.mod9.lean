set_option maxHeartbeats 4000000 in
set_option maxRecDepth 100000 in
theorem c_X12_poll_f (l : Launch) (D : va_G) (cs : Nat → ClassId) (hm ms mkp mtr mas mso mon mot man mst msm mtb mti mfr mbn mbs mde maa mab mba mbb : Nat) (n k al be km en : Nat) (ea pr nq po th xd sF sN sS ig : Int32) (xa xb : Int64) (f : Nat → Int32) (g : Nat → Int32) (sof onf otf anf : Nat → Int32) (x y b : Int32) (hn : 2 ≤ n ∧ n ≤ 8) (hen : en ≤ 16) (hso : inP 16 8 sof) (hs : colP f) (hk : keptP g) (hkm : km ≤ 8) : xMet l D cs yX12_poll cX12_poll 4 (some .int) ({ frames := 5, cells := 0, slots := 0, locals := 120 } : Room) [.ref hm, .int x, .int y, .int b] [(hm, .inr (12, [.ref ms, .ref mkp, .int (nI km), .ref mtr, .int (nI n), .int (nI k), .int (nI al), .int (nI be), .int ea, .int pr, .ref mas, .int nq, .int po, .int (nI en), .ref mso, .ref mon, .ref mot, .ref man, .int th, .int xd, .ref mst, .ref msm, .ref mtb, .ref mti, .ref mfr, .ref mbn, .ref mbs, .ref mde, .int sF, .int sN, .int sS, .int ig, .long xa, .long xb, .ref maa, .ref mab, .ref mba, .ref mbb])), (ms, .inl (cs 0, 288, .inl f)), (mkp, .inl (cs 0, 2304, .inl g)), (mso, .inl (cs 0, 16, .inl sof)), (mon, .inl (cs 0, 16, .inl onf)), (mot, .inl (cs 0, 16, .inl otf)), (man, .inl (cs 0, 16, .inl anf))] (xQi D (fun (r : Int32) (u : Nat × (Nat → Int32) × (Nat → Int32) × Int32) => match u with | (kmz, fz, gz, poz) => (colP fz ∧ keptP gz ∧ kmz ≤ 8) ∧ ((∃ a e, a < n ∧ e < en ∧ x = nI a ∧ y = nI e ∧ mcpP n k f b a e ∧ lowE (upd f (72 + a) (f (72 + a) ||| bitI e)) fz ∧ kpdP km f g kmz gz) ∨ (¬ mcpA n k en f x y b ∧ r = -1 ∧ fz = f ∧ gz = g ∧ kmz = km))) (fun (u : Nat × (Nat → Int32) × (Nat → Int32) × Int32) => match u with | (kmz, fz, gz, poz) => [(hm, .inr (12, [.ref ms, .ref mkp, .int (nI kmz), .ref mtr, .int (nI n), .int (nI k), .int (nI al), .int (nI be), .int ea, .int pr, .ref mas, .int nq, .int poz, .int (nI en), .ref mso, .ref mon, .ref mot, .ref man, .int (nI 0), .int xd, .ref mst, .ref msm, .ref mtb, .ref mti, .ref mfr, .ref mbn, .ref mbs, .ref mde, .int sF, .int sN, .int sS, .int ig, .long xa, .long xb, .ref maa, .ref mab, .ref mba, .ref mbb])), (ms, .inl (cs 0, 288, .inl fz)), (mkp, .inl (cs 0, 2304, .inl gz)), (mso, .inl (cs 0, 16, .inl sof)), (mon, .inl (cs 0, 16, .inl onf)), (mot, .inl (cs 0, 16, .inl otf)), (man, .inl (cs 0, 16, .inl anf))])) := by
  refine xMet.intro (by decide) (Nat.le_of_ble_eq_true rfl) ?_
  intro p e s m args below meth c A ls C hP hD hS hl
  have hx := C.1
  have hb := C.2.1
  have hz := C.2.2.2.2.1
  have hown := C.2.2.2.1
  have hA := C.2.2.2.2.2.2.2.2.2
  have hAO := C.2.2.2.2.2.2.2.2.1.2.2
  replace hl : lv_has ls 4 [(0, .ref hm), (1, .int x), (2, .int y), (3, .int b)] := hl
  obtain ⟨H, hH⟩ : ∃ H, H = s.heap := ⟨_, rfl⟩
  replace hP : va_P D vwCl [(hm, .inr (12, [.ref ms, .ref mkp, .int (nI km), .ref mtr, .int (nI n), .int (nI k), .int (nI al), .int (nI be), .int ea, .int pr, .ref mas, .int nq, .int po, .int (nI en), .ref mso, .ref mon, .ref mot, .ref man, .int th, .int xd, .ref mst, .ref msm, .ref mtb, .ref mti, .ref mfr, .ref mbn, .ref mbs, .ref mde, .int sF, .int sN, .int sS, .int ig, .long xa, .long xb, .ref maa, .ref mab, .ref mba, .ref mbb])), (ms, .inl (cs 0, 288, .inl f)), (mkp, .inl (cs 0, 2304, .inl g)), (mso, .inl (cs 0, 16, .inl sof)), (mon, .inl (cs 0, 16, .inl onf)), (mot, .inl (cs 0, 16, .inl otf)), (man, .inl (cs 0, 16, .inl anf))] H := by rw [hH]; exact hP
  replace hS : va_S A s.heap H [] := by rw [hH]; exact hS
  obtain ⟨locs, hlocs⟩ : ∃ z : List Loc, z = [] := ⟨_, rfl⟩
  rw [← hlocs] at hS
  suffices hW : W p l e ({ frames := 5, cells := 0, slots := 0, locals := 120 } : Room) s m args below meth c H locs 0 0 (MQ below ((xQi D (fun (r : Int32) (u : Nat × (Nat → Int32) × (Nat → Int32) × Int32) => match u with | (kmz, fz, gz, poz) => (colP fz ∧ keptP gz ∧ kmz ≤ 8) ∧ ((∃ a e, a < n ∧ e < en ∧ x = nI a ∧ y = nI e ∧ mcpP n k f b a e ∧ lowE (upd f (72 + a) (f (72 + a) ||| bitI e)) fz ∧ kpdP km f g kmz gz) ∨ (¬ mcpA n k en f x y b ∧ r = -1 ∧ fz = f ∧ gz = g ∧ kmz = km))) (fun (u : Nat × (Nat → Int32) × (Nat → Int32) × Int32) => match u with | (kmz, fz, gz, poz) => [(hm, .inr (12, [.ref ms, .ref mkp, .int (nI kmz), .ref mtr, .int (nI n), .int (nI k), .int (nI al), .int (nI be), .int ea, .int pr, .ref mas, .int nq, .int poz, .int (nI en), .ref mso, .ref mon, .ref mot, .ref man, .int (nI 0), .int xd, .ref mst, .ref msm, .ref mtb, .ref mti, .ref mfr, .ref mbn, .ref mbs, .ref mde, .int sF, .int sN, .int sS, .int ig, .long xa, .long xb, .ref maa, .ref mab, .ref mba, .ref mbb])), (ms, .inl (cs 0, 288, .inl fz)), (mkp, .inl (cs 0, 2304, .inl gz)), (mso, .inl (cs 0, 16, .inl sof)), (mon, .inl (cs 0, 16, .inl onf)), (mot, .inl (cs 0, 16, .inl otf)), (man, .inl (cs 0, 16, .inl anf))])) A) args s 0 0 A) (F0 m 0 ls []) by rw [hlocs, hH] at hW; exact hW
  clear hH hlocs
  refine lv_aload_n hx hb dX12_poll_0 rfl (lv_at hl 0 rfl) ?_
  refine lv_iconst (v := nI 0) hx hb dX12_poll_1 (by decide) ?_
  refine xput C hP hD hS 0 rfl rfl zuX12 tyX12 tyX12_ok nmX12 18 (by decide) zw5_231 rfl rfl rfl (Nat.le_of_ble_eq_true rfl) dX12_poll_2 ?_
  clear hP hD hS
  try clear locs
  try clear H
  intro H locs hP hD hS
  replace hP : va_P D vwCl [(hm, .inr (12, [.ref ms, .ref mkp, .int (nI km), .ref mtr, .int (nI n), .int (nI k), .int (nI al), .int (nI be), .int ea, .int pr, .ref mas, .int nq, .int po, .int (nI en), .ref mso, .ref mon, .ref mot, .ref man, .int (nI 0), .int xd, .ref mst, .ref msm, .ref mtb, .ref mti, .ref mfr, .ref mbn, .ref mbs, .ref mde, .int sF, .int sN, .int sS, .int ig, .long xa, .long xb, .ref maa, .ref mab, .ref mba, .ref mbb])), (ms, .inl (cs 0, 288, .inl f)), (mkp, .inl (cs 0, 2304, .inl g)), (mso, .inl (cs 0, 16, .inl sof)), (mon, .inl (cs 0, 16, .inl onf)), (mot, .inl (cs 0, 16, .inl otf)), (man, .inl (cs 0, 16, .inl anf))] H := hP
  replace hD : va_D A [(hm, .inr (12, [.ref ms, .ref mkp, .int (nI km), .ref mtr, .int (nI n), .int (nI k), .int (nI al), .int (nI be), .int ea, .int pr, .ref mas, .int nq, .int po, .int (nI en), .ref mso, .ref mon, .ref mot, .ref man, .int (nI 0), .int xd, .ref mst, .ref msm, .ref mtb, .ref mti, .ref mfr, .ref mbn, .ref mbs, .ref mde, .int sF, .int sN, .int sS, .int ig, .long xa, .long xb, .ref maa, .ref mab, .ref mba, .ref mbb])), (ms, .inl (cs 0, 288, .inl f)), (mkp, .inl (cs 0, 2304, .inl g)), (mso, .inl (cs 0, 16, .inl sof)), (mon, .inl (cs 0, 16, .inl onf)), (mot, .inl (cs 0, 16, .inl otf)), (man, .inl (cs 0, 16, .inl anf))] := hD
  refine lv_aload_n hx hb dX12_poll_5 rfl (lv_at hl 0 rfl) ?_
  refine lv_iload_n hx hb dX12_poll_6 rfl (lv_at hl 1 rfl) ?_
  refine lv_iload_n hx hb dX12_poll_7 rfl (lv_at hl 2 rfl) ?_
  refine lv_iload_n hx hb dX12_poll_8 rfl (lv_at hl 3 rfl) ?_
  refine xi (wr := [(mkp, .inl (cs 0, 2304, .inl g)), (mso, .inl (cs 0, 16, .inl sof)), (mon, .inl (cs 0, 16, .inl onf)), (mot, .inl (cs 0, 16, .inl otf)), (man, .inl (cs 0, 16, .inl anf))]) (xV (As := [.int x, .int y, .int b]) (rest := []) C (c_X12_canPoll_f l D cs hm ms mkp mtr mas mso mon mot man mst msm mtb mti mfr mbn mbs mde maa mab mba mbb n k al be km en ea pr nq po (nI 0) xd sF sN sS ig xa xb f x y b hn hen) kX12_345 hP hD [0, 1] rfl (by decide) 0 rfl rfl rfl ⟨Nat.le_of_ble_eq_true rfl, Nat.le_of_ble_eq_true rfl⟩ rfl hl.1 rfl (Nat.le_of_ble_eq_true rfl) dX12_poll_9 ⟨Nat.le_of_ble_eq_true rfl, Nat.le_of_ble_eq_true rfl⟩) hP hD hS hA [0, 1] [2, 3, 4, 5, 6] rfl rfl (by decide) (by decide) ?_
  clear hP hD hS
  try clear locs
  try clear H
  intro r_1 u_2 H locs hw_r_1 hP hD hS
  have hw_r_1 : (∃ a e, a < n ∧ e < en ∧ x = nI a ∧ y = nI e ∧ mcpP n k f b a e ∧ r_1 = nI 1) ∨ (¬ mcpA n k en f x y b ∧ r_1 = nI 0) := hw_r_1
  refine W.widen (k := 0) (n := 0) (Nat.le_of_ble_eq_true rfl) (Nat.le_of_ble_eq_true rfl) ?_
  replace hP : va_P D vwCl [(mkp, .inl (cs 0, 2304, .inl g)), (mso, .inl (cs 0, 16, .inl sof)), (mon, .inl (cs 0, 16, .inl onf)), (mot, .inl (cs 0, 16, .inl otf)), (man, .inl (cs 0, 16, .inl anf)), (hm, .inr (12, [.ref ms, .ref mkp, .int (nI km), .ref mtr, .int (nI n), .int (nI k), .int (nI al), .int (nI be), .int ea, .int pr, .ref mas, .int nq, .int po, .int (nI en), .ref mso, .ref mon, .ref mot, .ref man, .int (nI 0), .int xd, .ref mst, .ref msm, .ref mtb, .ref mti, .ref mfr, .ref mbn, .ref mbs, .ref mde, .int sF, .int sN, .int sS, .int ig, .long xa, .long xb, .ref maa, .ref mab, .ref mba, .ref mbb])), (ms, .inl (cs 0, 288, .inl f))] H := hP
  replace hD : va_D A [(mkp, .inl (cs 0, 2304, .inl g)), (mso, .inl (cs 0, 16, .inl sof)), (mon, .inl (cs 0, 16, .inl onf)), (mot, .inl (cs 0, 16, .inl otf)), (man, .inl (cs 0, 16, .inl anf)), (hm, .inr (12, [.ref ms, .ref mkp, .int (nI km), .ref mtr, .int (nI n), .int (nI k), .int (nI al), .int (nI be), .int ea, .int pr, .ref mas, .int nq, .int po, .int (nI en), .ref mso, .ref mon, .ref mot, .ref man, .int (nI 0), .int xd, .ref mst, .ref msm, .ref mtb, .ref mti, .ref mfr, .ref mbn, .ref mbs, .ref mde, .int sF, .int sN, .int sS, .int ig, .long xa, .long xb, .ref maa, .ref mab, .ref mba, .ref mbb])), (ms, .inl (cs 0, 288, .inl f))] := hD
  refine lv_if_ne (tgt := 17) hx hb dX12_poll_12 (by decide) (fun c_3 => ?_) (fun c_3 => ?_)
  · -- 12 t
    obtain ⟨jx, jy, h_jx, h_jy, rfl, rfl, hcp⟩ : ∃ a e, a < n ∧ e < en ∧ x = nI a ∧ y = nI e ∧ mcpP n k f b a e := by
      rcases hw_r_1 with ⟨a, e, h1, h2, h3, h4, h5, h6⟩ | ⟨_, h6⟩
      · exact ⟨a, e, h1, h2, h3, h4, h5⟩
      · exact absurd h6 c_3
    replace hP : va_P D vwCl [(mkp, .inl (cs 0, 2304, .inl g)), (mso, .inl (cs 0, 16, .inl sof)), (mon, .inl (cs 0, 16, .inl onf)), (mot, .inl (cs 0, 16, .inl otf)), (man, .inl (cs 0, 16, .inl anf)), (hm, .inr (12, [.ref ms, .ref mkp, .int (nI km), .ref mtr, .int (nI n), .int (nI k), .int (nI al), .int (nI be), .int ea, .int pr, .ref mas, .int nq, .int po, .int (nI en), .ref mso, .ref mon, .ref mot, .ref man, .int (nI 0), .int xd, .ref mst, .ref msm, .ref mtb, .ref mti, .ref mfr, .ref mbn, .ref mbs, .ref mde, .int sF, .int sN, .int sS, .int ig, .long xa, .long xb, .ref maa, .ref mab, .ref mba, .ref mbb])), (ms, .inl (cs 0, 288, .inl f))] H := hP
    replace hD : va_D A [(mkp, .inl (cs 0, 2304, .inl g)), (mso, .inl (cs 0, 16, .inl sof)), (mon, .inl (cs 0, 16, .inl onf)), (mot, .inl (cs 0, 16, .inl otf)), (man, .inl (cs 0, 16, .inl anf)), (hm, .inr (12, [.ref ms, .ref mkp, .int (nI km), .ref mtr, .int (nI n), .int (nI k), .int (nI al), .int (nI be), .int ea, .int pr, .ref mas, .int nq, .int po, .int (nI en), .ref mso, .ref mon, .ref mot, .ref man, .int (nI 0), .int xd, .ref mst, .ref msm, .ref mtb, .ref mti, .ref mfr, .ref mbn, .ref mbs, .ref mde, .int sF, .int sN, .int sS, .int ig, .long xa, .long xb, .ref maa, .ref mab, .ref mba, .ref mbb])), (ms, .inl (cs 0, 288, .inl f))] := hD
    refine lv_aload_n hx hb dX12_poll_17 rfl (lv_at hl 0 rfl) ?_
    refine xv (wr := [(mso, .inl (cs 0, 16, .inl sof)), (mon, .inl (cs 0, 16, .inl onf)), (mot, .inl (cs 0, 16, .inl otf)), (man, .inl (cs 0, 16, .inl anf))]) (xV (As := []) (rest := []) C (c_X12_keeps_f l D cs hm ms mkp mtr mas mso mon mot man mst msm mtb mti mfr mbn mbs mde maa mab mba mbb n k al be km en ea pr nq po (nI 0) xd sF sN sS ig xa xb f g hs hk hkm) kX12_124 hP hD [5, 6, 0] rfl (by decide) 0 rfl rfl rfl ⟨Nat.le_of_ble_eq_true rfl, Nat.le_of_ble_eq_true rfl⟩ rfl hl.1 rfl (Nat.le_of_ble_eq_true rfl) dX12_poll_18 ⟨Nat.le_of_ble_eq_true rfl, Nat.le_of_ble_eq_true rfl⟩) hP hD hS hA [5, 6, 0] [1, 2, 3, 4] rfl rfl (by decide) (by decide) ?_
    clear hP hD hS
    try clear locs
    try clear H
    intro u_5 H locs hw_r_4 hP hD hS
    obtain ⟨kmz_6, gz_7⟩ := u_5
    have hw_r_4 : (keptP gz_7 ∧ kmz_6 ≤ 8) ∧ kpdP km f g kmz_6 gz_7 := hw_r_4
    refine W.widen (k := 0) (n := 0) (Nat.le_of_ble_eq_true rfl) (Nat.le_of_ble_eq_true rfl) ?_
    replace hP : va_P D vwCl [(mso, .inl (cs 0, 16, .inl sof)), (mon, .inl (cs 0, 16, .inl onf)), (mot, .inl (cs 0, 16, .inl otf)), (man, .inl (cs 0, 16, .inl anf)), (hm, .inr (12, [.ref ms, .ref mkp, .int (nI kmz_6), .ref mtr, .int (nI n), .int (nI k), .int (nI al), .int (nI be), .int ea, .int pr, .ref mas, .int nq, .int po, .int (nI en), .ref mso, .ref mon, .ref mot, .ref man, .int (nI 0), .int xd, .ref mst, .ref msm, .ref mtb, .ref mti, .ref mfr, .ref mbn, .ref mbs, .ref mde, .int sF, .int sN, .int sS, .int ig, .long xa, .long xb, .ref maa, .ref mab, .ref mba, .ref mbb])), (ms, .inl (cs 0, 288, .inl f)), (mkp, .inl (cs 0, 2304, .inl gz_7))] H := hP
    replace hD : va_D A [(mso, .inl (cs 0, 16, .inl sof)), (mon, .inl (cs 0, 16, .inl onf)), (mot, .inl (cs 0, 16, .inl otf)), (man, .inl (cs 0, 16, .inl anf)), (hm, .inr (12, [.ref ms, .ref mkp, .int (nI kmz_6), .ref mtr, .int (nI n), .int (nI k), .int (nI al), .int (nI be), .int ea, .int pr, .ref mas, .int nq, .int po, .int (nI en), .ref mso, .ref mon, .ref mot, .ref man, .int (nI 0), .int xd, .ref mst, .ref msm, .ref mtb, .ref mti, .ref mfr, .ref mbn, .ref mbs, .ref mde, .int sF, .int sN, .int sS, .int ig, .long xa, .long xb, .ref maa, .ref mab, .ref mba, .ref mbb])), (ms, .inl (cs 0, 288, .inl f)), (mkp, .inl (cs 0, 2304, .inl gz_7))] := hD
    refine lv_aload_n hx hb dX12_poll_21 rfl (lv_at hl 0 rfl) ?_
    refine lv_iload_n hx hb dX12_poll_22 rfl (lv_at hl 1 rfl) ?_
    refine lv_iload_n hx hb dX12_poll_23 rfl (lv_at hl 2 rfl) ?_
    refine lv_iload_n hx hb dX12_poll_24 rfl (lv_at hl 3 rfl) ?_
    refine xi (wr := [(mkp, .inl (cs 0, 2304, .inl gz_7))]) (xV (As := [.int (nI jx), .int (nI jy), .int b]) (rest := []) C (c_X12_pollsOne_f l D cs hm ms mkp mtr mas mso mon mot man mst msm mtb mti mfr mbn mbs mde maa mab mba mbb n k al be kmz_6 en ea pr nq po (nI 0) xd sF sN sS ig xa xb f sof onf otf anf jx jy b hn hen hso (by omega) (by omega)) kX12_348 hP hD [4, 5, 0, 1, 2, 3] rfl (by decide) 0 rfl rfl rfl ⟨Nat.le_of_ble_eq_true rfl, Nat.le_of_ble_eq_true rfl⟩ rfl hl.1 rfl (Nat.le_of_ble_eq_true rfl) dX12_poll_25 ⟨Nat.le_of_ble_eq_true rfl, Nat.le_of_ble_eq_true rfl⟩) hP hD hS hA [4, 5, 0, 1, 2, 3] [6] rfl rfl (by decide) (by decide) ?_
    clear hP hD hS
    try clear locs
    try clear H
    intro r_8 u_9 H locs hw_r_8 hP hD hS
    obtain ⟨fz_10, poz_11⟩ := u_9
    have hw_r_8 : lowE (upd f (72 + jx) ((f (72 + jx)) ||| ((nI 1) <<< ((nI jy) &&& 31)))) fz_10 := hw_r_8
    refine W.widen (k := 0) (n := 0) (Nat.le_of_ble_eq_true rfl) (Nat.le_of_ble_eq_true rfl) ?_
    replace hP : va_P D vwCl [(mkp, .inl (cs 0, 2304, .inl gz_7)), (hm, .inr (12, [.ref ms, .ref mkp, .int (nI kmz_6), .ref mtr, .int (nI n), .int (nI k), .int (nI al), .int (nI be), .int ea, .int pr, .ref mas, .int nq, .int poz_11, .int (nI en), .ref mso, .ref mon, .ref mot, .ref man, .int (nI 0), .int xd, .ref mst, .ref msm, .ref mtb, .ref mti, .ref mfr, .ref mbn, .ref mbs, .ref mde, .int sF, .int sN, .int sS, .int ig, .long xa, .long xb, .ref maa, .ref mab, .ref mba, .ref mbb])), (ms, .inl (cs 0, 288, .inl fz_10)), (mso, .inl (cs 0, 16, .inl sof)), (mon, .inl (cs 0, 16, .inl onf)), (mot, .inl (cs 0, 16, .inl otf)), (man, .inl (cs 0, 16, .inl anf))] H := hP
    replace hD : va_D A [(mkp, .inl (cs 0, 2304, .inl gz_7)), (hm, .inr (12, [.ref ms, .ref mkp, .int (nI kmz_6), .ref mtr, .int (nI n), .int (nI k), .int (nI al), .int (nI be), .int ea, .int pr, .ref mas, .int nq, .int poz_11, .int (nI en), .ref mso, .ref mon, .ref mot, .ref man, .int (nI 0), .int xd, .ref mst, .ref msm, .ref mtb, .ref mti, .ref mfr, .ref mbn, .ref mbs, .ref mde, .int sF, .int sN, .int sS, .int ig, .long xa, .long xb, .ref maa, .ref mab, .ref mba, .ref mbb])), (ms, .inl (cs 0, 288, .inl fz_10)), (mso, .inl (cs 0, 16, .inl sof)), (mon, .inl (cs 0, 16, .inl onf)), (mot, .inl (cs 0, 16, .inl otf)), (man, .inl (cs 0, 16, .inl anf))] := hD
    exact xreti C (⟨kmz_6, fz_10, gz_7, poz_11⟩) (⟨⟨(hw_r_8).col (polU_col hs _), hw_r_4.1⟩, Or.inl ⟨jx, jy, h_jx, h_jy, rfl, rfl, hcp, hw_r_8, hw_r_4.2⟩⟩) (xP_map hP [1, 2, 0, 3, 4, 5, 6] rfl) (hD.sub [1, 2, 0, 3, 4, 5, 6] (by decide) rfl) hS (Nat.le_of_ble_eq_true rfl) (Nat.le_of_ble_eq_true rfl) rfl dX12_poll_28
  · -- 12 f
    have hncp : ¬ mcpA n k en f x y b := by
      rcases hw_r_1 with ⟨a, e, h1, h2, h3, h4, h5, h6⟩ | ⟨h6, _⟩
      · exact absurd (h6.symm.trans c_3) (by decide)
      · exact h6
    refine lv_iconst (v := (-1)) hx hb dX12_poll_15 (by decide) ?_
    exact xreti C (⟨km, f, g, po⟩) (⟨⟨hs, hk, hkm⟩, Or.inr ⟨hncp, rfl, rfl, rfl, rfl⟩⟩) (xP_map hP [5, 6, 0, 1, 2, 3, 4] rfl) (hD.sub [5, 6, 0, 1, 2, 3, 4] (by decide) rfl) hS (Nat.le_of_ble_eq_true rfl) (Nat.le_of_ble_eq_true rfl) rfl dX12_poll_16

set_option maxHeartbeats 4000000 in
set_option maxRecDepth 100000 in
theorem c_X12_polls_f (l : Launch) (D : va_G) (cs : Nat → ClassId) (hm ms mkp mtr mas mso mon mot man mst msm mtb mti mfr mbn mbs mde maa mab mba mbb : Nat) (n k al be km en : Nat) (ea pr nq po th xd sF sN sS ig : Int32) (xa xb : Int64) (f : Nat → Int32) (g : Nat → Int32) (sof onf otf anf : Nat → Int32) (x sd : Int32) (hn : 2 ≤ n ∧ n ≤ 8) (hen : en ≤ 16) (hso : inP 16 8 sof) (hs : colP f) (hk : keptP g) (hkm : km ≤ 8) (hkn : k < n) : xMet l D cs yX12_polls cX12_polls 9 (some .int) ({ frames := 5, cells := 0, slots := 0, locals := 120 } : Room) [.ref hm, .int x, .int sd] [(hm, .inr (12, [.ref ms, .ref mkp, .int (nI km), .ref mtr, .int (nI n), .int (nI k), .int (nI al), .int (nI be), .int ea, .int pr, .ref mas, .int nq, .int po, .int (nI en), .ref mso, .ref mon, .ref mot, .ref man, .int th, .int xd, .ref mst, .ref msm, .ref mtb, .ref mti, .ref mfr, .ref mbn, .ref mbs, .ref mde, .int sF, .int sN, .int sS, .int ig, .long xa, .long xb, .ref maa, .ref mab, .ref mba, .ref mbb])), (ms, .inl (cs 0, 288, .inl f)), (mkp, .inl (cs 0, 2304, .inl g)), (mso, .inl (cs 0, 16, .inl sof)), (mon, .inl (cs 0, 16, .inl onf)), (mot, .inl (cs 0, 16, .inl otf)), (man, .inl (cs 0, 16, .inl anf))] (xQi D (fun (r : Int32) (u : Nat × (Nat → Int32) × (Nat → Int32) × Int32 × Int32) => match u with | (kmz, fz, gz, poz, xdz) => (colP fz ∧ keptP gz ∧ kmz ≤ 8) ∧ ((∃ nm, nm ≤ 100 ∧ x = nI nm ∧ ¬ x < nI 1 ∧ polsM n k en nm (sd, f) (xdz, fz) ∧ kpdP km f g kmz gz) ∨ (¬ (¬ x < nI 1 ∧ x ≤ nI 100) ∧ r = -1 ∧ (fz = f ∧ gz = g ∧ kmz = km) ∧ xdz = xd))) (fun (u : Nat × (Nat → Int32) × (Nat → Int32) × Int32 × Int32) => match u with | (kmz, fz, gz, poz, xdz) => [(hm, .inr (12, [.ref ms, .ref mkp, .int (nI kmz), .ref mtr, .int (nI n), .int (nI k), .int (nI al), .int (nI be), .int ea, .int pr, .ref mas, .int nq, .int poz, .int (nI en), .ref mso, .ref mon, .ref mot, .ref man, .int (nI 0), .int xdz, .ref mst, .ref msm, .ref mtb, .ref mti, .ref mfr, .ref mbn, .ref mbs, .ref mde, .int sF, .int sN, .int sS, .int ig, .long xa, .long xb, .ref maa, .ref mab, .ref mba, .ref mbb])), (ms, .inl (cs 0, 288, .inl fz)), (mkp, .inl (cs 0, 2304, .inl gz)), (mso, .inl (cs 0, 16, .inl sof)), (mon, .inl (cs 0, 16, .inl onf)), (mot, .inl (cs 0, 16, .inl otf)), (man, .inl (cs 0, 16, .inl anf))])) := by
  refine xMet.intro (by decide) (Nat.le_of_ble_eq_true rfl) ?_
  intro p e s m args below meth c A ls C hP hD hS hl
  have hx := C.1
  have hb := C.2.1
  have hz := C.2.2.2.2.1
  have hown := C.2.2.2.1
  have hA := C.2.2.2.2.2.2.2.2.2
  have hAO := C.2.2.2.2.2.2.2.2.1.2.2
  replace hl : lv_has ls 9 [(0, .ref hm), (1, .int x), (2, .int sd)] := hl
  obtain ⟨H, hH⟩ : ∃ H, H = s.heap := ⟨_, rfl⟩
  replace hP : va_P D vwCl [(hm, .inr (12, [.ref ms, .ref mkp, .int (nI km), .ref mtr, .int (nI n), .int (nI k), .int (nI al), .int (nI be), .int ea, .int pr, .ref mas, .int nq, .int po, .int (nI en), .ref mso, .ref mon, .ref mot, .ref man, .int th, .int xd, .ref mst, .ref msm, .ref mtb, .ref mti, .ref mfr, .ref mbn, .ref mbs, .ref mde, .int sF, .int sN, .int sS, .int ig, .long xa, .long xb, .ref maa, .ref mab, .ref mba, .ref mbb])), (ms, .inl (cs 0, 288, .inl f)), (mkp, .inl (cs 0, 2304, .inl g)), (mso, .inl (cs 0, 16, .inl sof)), (mon, .inl (cs 0, 16, .inl onf)), (mot, .inl (cs 0, 16, .inl otf)), (man, .inl (cs 0, 16, .inl anf))] H := by rw [hH]; exact hP
  replace hS : va_S A s.heap H [] := by rw [hH]; exact hS
  obtain ⟨locs, hlocs⟩ : ∃ z : List Loc, z = [] := ⟨_, rfl⟩
  rw [← hlocs] at hS
  suffices hW : W p l e ({ frames := 5, cells := 0, slots := 0, locals := 120 } : Room) s m args below meth c H locs 0 0 (MQ below ((xQi D (fun (r : Int32) (u : Nat × (Nat → Int32) × (Nat → Int32) × Int32 × Int32) => match u with | (kmz, fz, gz, poz, xdz) => (colP fz ∧ keptP gz ∧ kmz ≤ 8) ∧ ((∃ nm, nm ≤ 100 ∧ x = nI nm ∧ ¬ x < nI 1 ∧ polsM n k en nm (sd, f) (xdz, fz) ∧ kpdP km f g kmz gz) ∨ (¬ (¬ x < nI 1 ∧ x ≤ nI 100) ∧ r = -1 ∧ (fz = f ∧ gz = g ∧ kmz = km) ∧ xdz = xd))) (fun (u : Nat × (Nat → Int32) × (Nat → Int32) × Int32 × Int32) => match u with | (kmz, fz, gz, poz, xdz) => [(hm, .inr (12, [.ref ms, .ref mkp, .int (nI kmz), .ref mtr, .int (nI n), .int (nI k), .int (nI al), .int (nI be), .int ea, .int pr, .ref mas, .int nq, .int poz, .int (nI en), .ref mso, .ref mon, .ref mot, .ref man, .int (nI 0), .int xdz, .ref mst, .ref msm, .ref mtb, .ref mti, .ref mfr, .ref mbn, .ref mbs, .ref mde, .int sF, .int sN, .int sS, .int ig, .long xa, .long xb, .ref maa, .ref mab, .ref mba, .ref mbb])), (ms, .inl (cs 0, 288, .inl fz)), (mkp, .inl (cs 0, 2304, .inl gz)), (mso, .inl (cs 0, 16, .inl sof)), (mon, .inl (cs 0, 16, .inl onf)), (mot, .inl (cs 0, 16, .inl otf)), (man, .inl (cs 0, 16, .inl anf))])) A) args s 0 0 A) (F0 m 0 ls []) by rw [hlocs, hH] at hW; exact hW
  clear hH hlocs
  refine lv_aload_n hx hb dX12_polls_0 rfl (lv_at hl 0 rfl) ?_
  refine lv_iconst (v := nI 0) hx hb dX12_polls_1 (by decide) ?_
  refine xput C hP hD hS 0 rfl rfl zuX12 tyX12 tyX12_ok nmX12 18 (by decide) zw5_231 rfl rfl rfl (Nat.le_of_ble_eq_true rfl) dX12_polls_2 ?_
  clear hP hD hS
  try clear locs
  try clear H
  intro H locs hP hD hS
  replace hP : va_P D vwCl [(hm, .inr (12, [.ref ms, .ref mkp, .int (nI km), .ref mtr, .int (nI n), .int (nI k), .int (nI al), .int (nI be), .int ea, .int pr, .ref mas, .int nq, .int po, .int (nI en), .ref mso, .ref mon, .ref mot, .ref man, .int (nI 0), .int xd, .ref mst, .ref msm, .ref mtb, .ref mti, .ref mfr, .ref mbn, .ref mbs, .ref mde, .int sF, .int sN, .int sS, .int ig, .long xa, .long xb, .ref maa, .ref mab, .ref mba, .ref mbb])), (ms, .inl (cs 0, 288, .inl f)), (mkp, .inl (cs 0, 2304, .inl g)), (mso, .inl (cs 0, 16, .inl sof)), (mon, .inl (cs 0, 16, .inl onf)), (mot, .inl (cs 0, 16, .inl otf)), (man, .inl (cs 0, 16, .inl anf))] H := hP
  replace hD : va_D A [(hm, .inr (12, [.ref ms, .ref mkp, .int (nI km), .ref mtr, .int (nI n), .int (nI k), .int (nI al), .int (nI be), .int ea, .int pr, .ref mas, .int nq, .int po, .int (nI en), .ref mso, .ref mon, .ref mot, .ref man, .int (nI 0), .int xd, .ref mst, .ref msm, .ref mtb, .ref mti, .ref mfr, .ref mbn, .ref mbs, .ref mde, .int sF, .int sN, .int sS, .int ig, .long xa, .long xb, .ref maa, .ref mab, .ref mba, .ref mbb])), (ms, .inl (cs 0, 288, .inl f)), (mkp, .inl (cs 0, 2304, .inl g)), (mso, .inl (cs 0, 16, .inl sof)), (mon, .inl (cs 0, 16, .inl onf)), (mot, .inl (cs 0, 16, .inl otf)), (man, .inl (cs 0, 16, .inl anf))] := hD
  refine lv_iload_n hx hb dX12_polls_5 rfl (lv_at hl 1 rfl) ?_
  refine lv_iconst (v := nI 1) hx hb dX12_polls_6 (by decide) ?_
  refine lv_bipush (v := nI 100) hx hb dX12_polls_7 (by decide) ?_
  refine xi (wr := [(hm, .inr (12, [.ref ms, .ref mkp, .int (nI km), .ref mtr, .int (nI n), .int (nI k), .int (nI al), .int (nI be), .int ea, .int pr, .ref mas, .int nq, .int po, .int (nI en), .ref mso, .ref mon, .ref mot, .ref man, .int (nI 0), .int xd, .ref mst, .ref msm, .ref mtb, .ref mti, .ref mfr, .ref mbn, .ref mbs, .ref mde, .int sF, .int sN, .int sS, .int ig, .long xa, .long xb, .ref maa, .ref mab, .ref mba, .ref mbb])), (ms, .inl (cs 0, 288, .inl f)), (mkp, .inl (cs 0, 2304, .inl g)), (mso, .inl (cs 0, 16, .inl sof)), (mon, .inl (cs 0, 16, .inl onf)), (mot, .inl (cs 0, 16, .inl otf)), (man, .inl (cs 0, 16, .inl anf))]) (xS (As := [.int x, .int (nI 1), .int (nI 100)]) (rest := []) C (c_X12_within l D cs x (nI 1) (nI 100)) kX12_116 hP hD [] rfl (by decide) ⟨Nat.le_of_ble_eq_true rfl, Nat.le_of_ble_eq_true rfl⟩ rfl hl.1 rfl (Nat.le_of_ble_eq_true rfl) dX12_polls_9 ⟨Nat.le_of_ble_eq_true rfl, Nat.le_of_ble_eq_true rfl⟩) hP hD hS hA [] [0, 1, 2, 3, 4, 5, 6] rfl rfl (by decide) (by decide) ?_
  clear hP hD hS
  try clear locs
  try clear H
  intro r_1 u_2 H locs hw_r_1 hP hD hS
  have hw_r_1 : PQ (¬ x < (nI 1) ∧ x ≤ (nI 100)) r_1 (nI 1) (nI 0) := hw_r_1
  refine W.widen (k := 0) (n := 0) (Nat.le_of_ble_eq_true rfl) (Nat.le_of_ble_eq_true rfl) ?_
  replace hP : va_P D vwCl [(hm, .inr (12, [.ref ms, .ref mkp, .int (nI km), .ref mtr, .int (nI n), .int (nI k), .int (nI al), .int (nI be), .int ea, .int pr, .ref mas, .int nq, .int po, .int (nI en), .ref mso, .ref mon, .ref mot, .ref man, .int (nI 0), .int xd, .ref mst, .ref msm, .ref mtb, .ref mti, .ref mfr, .ref mbn, .ref mbs, .ref mde, .int sF, .int sN, .int sS, .int ig, .long xa, .long xb, .ref maa, .ref mab, .ref mba, .ref mbb])), (ms, .inl (cs 0, 288, .inl f)), (mkp, .inl (cs 0, 2304, .inl g)), (mso, .inl (cs 0, 16, .inl sof)), (mon, .inl (cs 0, 16, .inl onf)), (mot, .inl (cs 0, 16, .inl otf)), (man, .inl (cs 0, 16, .inl anf))] H := hP
  replace hD : va_D A [(hm, .inr (12, [.ref ms, .ref mkp, .int (nI km), .ref mtr, .int (nI n), .int (nI k), .int (nI al), .int (nI be), .int ea, .int pr, .ref mas, .int nq, .int po, .int (nI en), .ref mso, .ref mon, .ref mot, .ref man, .int (nI 0), .int xd, .ref mst, .ref msm, .ref mtb, .ref mti, .ref mfr, .ref mbn, .ref mbs, .ref mde, .int sF, .int sN, .int sS, .int ig, .long xa, .long xb, .ref maa, .ref mab, .ref mba, .ref mbb])), (ms, .inl (cs 0, 288, .inl f)), (mkp, .inl (cs 0, 2304, .inl g)), (mso, .inl (cs 0, 16, .inl sof)), (mon, .inl (cs 0, 16, .inl onf)), (mot, .inl (cs 0, 16, .inl otf)), (man, .inl (cs 0, 16, .inl anf))] := hD
  refine lv_if_ne (tgt := 17) hx hb dX12_polls_12 (by decide) (fun c_3 => ?_) (fun c_3 => ?_)
  · -- 12 t
    have hyx := PQ.yes hw_r_1 c_3
    obtain ⟨nn, h_nn, rfl⟩ : ∃ j : Nat, j ≤ 100 ∧ x = nI j := nI_of2 (M := nI 100) (by decide) (fun q => hyx.1 (Int32.lt_trans q (by decide))) hyx.2
    replace hP : va_P D vwCl [(hm, .inr (12, [.ref ms, .ref mkp, .int (nI km), .ref mtr, .int (nI n), .int (nI k), .int (nI al), .int (nI be), .int ea, .int pr, .ref mas, .int nq, .int po, .int (nI en), .ref mso, .ref mon, .ref mot, .ref man, .int (nI 0), .int xd, .ref mst, .ref msm, .ref mtb, .ref mti, .ref mfr, .ref mbn, .ref mbs, .ref mde, .int sF, .int sN, .int sS, .int ig, .long xa, .long xb, .ref maa, .ref mab, .ref mba, .ref mbb])), (ms, .inl (cs 0, 288, .inl f)), (mkp, .inl (cs 0, 2304, .inl g)), (mso, .inl (cs 0, 16, .inl sof)), (mon, .inl (cs 0, 16, .inl onf)), (mot, .inl (cs 0, 16, .inl otf)), (man, .inl (cs 0, 16, .inl anf))] H := hP
    replace hD : va_D A [(hm, .inr (12, [.ref ms, .ref mkp, .int (nI km), .ref mtr, .int (nI n), .int (nI k), .int (nI al), .int (nI be), .int ea, .int pr, .ref mas, .int nq, .int po, .int (nI en), .ref mso, .ref mon, .ref mot, .ref man, .int (nI 0), .int xd, .ref mst, .ref msm, .ref mtb, .ref mti, .ref mfr, .ref mbn, .ref mbs, .ref mde, .int sF, .int sN, .int sS, .int ig, .long xa, .long xb, .ref maa, .ref mab, .ref mba, .ref mbb])), (ms, .inl (cs 0, 288, .inl f)), (mkp, .inl (cs 0, 2304, .inl g)), (mso, .inl (cs 0, 16, .inl sof)), (mon, .inl (cs 0, 16, .inl onf)), (mot, .inl (cs 0, 16, .inl otf)), (man, .inl (cs 0, 16, .inl anf))] := hD
    refine lv_aload_n hx hb dX12_polls_17 rfl (lv_at hl 0 rfl) ?_
    refine xv (wr := [(mso, .inl (cs 0, 16, .inl sof)), (mon, .inl (cs 0, 16, .inl onf)), (mot, .inl (cs 0, 16, .inl otf)), (man, .inl (cs 0, 16, .inl anf))]) (xV (As := []) (rest := []) C (c_X12_keeps_f l D cs hm ms mkp mtr mas mso mon mot man mst msm mtb mti mfr mbn mbs mde maa mab mba mbb n k al be km en ea pr nq po (nI 0) xd sF sN sS ig xa xb f g hs hk hkm) kX12_124 hP hD [0, 1, 2] rfl (by decide) 0 rfl rfl rfl ⟨Nat.le_of_ble_eq_true rfl, Nat.le_of_ble_eq_true rfl⟩ rfl hl.1 rfl (Nat.le_of_ble_eq_true rfl) dX12_polls_18 ⟨Nat.le_of_ble_eq_true rfl, Nat.le_of_ble_eq_true rfl⟩) hP hD hS hA [0, 1, 2] [3, 4, 5, 6] rfl rfl (by decide) (by decide) ?_
    clear hP hD hS
    try clear locs
    try clear H
    intro u_5 H locs hw_r_4 hP hD hS
    obtain ⟨kmz_6, gz_7⟩ := u_5
    have hw_r_4 : (keptP gz_7 ∧ kmz_6 ≤ 8) ∧ kpdP km f g kmz_6 gz_7 := hw_r_4
    refine W.widen (k := 0) (n := 0) (Nat.le_of_ble_eq_true rfl) (Nat.le_of_ble_eq_true rfl) ?_
    replace hP : va_P D vwCl [(mso, .inl (cs 0, 16, .inl sof)), (mon, .inl (cs 0, 16, .inl onf)), (mot, .inl (cs 0, 16, .inl otf)), (man, .inl (cs 0, 16, .inl anf)), (hm, .inr (12, [.ref ms, .ref mkp, .int (nI kmz_6), .ref mtr, .int (nI n), .int (nI k), .int (nI al), .int (nI be), .int ea, .int pr, .ref mas, .int nq, .int po, .int (nI en), .ref mso, .ref mon, .ref mot, .ref man, .int (nI 0), .int xd, .ref mst, .ref msm, .ref mtb, .ref mti, .ref mfr, .ref mbn, .ref mbs, .ref mde, .int sF, .int sN, .int sS, .int ig, .long xa, .long xb, .ref maa, .ref mab, .ref mba, .ref mbb])), (ms, .inl (cs 0, 288, .inl f)), (mkp, .inl (cs 0, 2304, .inl gz_7))] H := hP
    replace hD : va_D A [(mso, .inl (cs 0, 16, .inl sof)), (mon, .inl (cs 0, 16, .inl onf)), (mot, .inl (cs 0, 16, .inl otf)), (man, .inl (cs 0, 16, .inl anf)), (hm, .inr (12, [.ref ms, .ref mkp, .int (nI kmz_6), .ref mtr, .int (nI n), .int (nI k), .int (nI al), .int (nI be), .int ea, .int pr, .ref mas, .int nq, .int po, .int (nI en), .ref mso, .ref mon, .ref mot, .ref man, .int (nI 0), .int xd, .ref mst, .ref msm, .ref mtb, .ref mti, .ref mfr, .ref mbn, .ref mbs, .ref mde, .int sF, .int sN, .int sS, .int ig, .long xa, .long xb, .ref maa, .ref mab, .ref mba, .ref mbb])), (ms, .inl (cs 0, 288, .inl f)), (mkp, .inl (cs 0, 2304, .inl gz_7))] := hD
    refine lv_aload_n hx hb dX12_polls_21 rfl (lv_at hl 0 rfl) ?_
    refine lv_iload_n hx hb dX12_polls_22 rfl (lv_at hl 2 rfl) ?_
    refine xput C hP hD hS 4 rfl rfl zuX12 tyX12 tyX12_ok nmX12 19 (by decide) zw5_232 rfl rfl rfl (Nat.le_of_ble_eq_true rfl) dX12_polls_23 ?_
    clear hP hD hS
    try clear locs
    try clear H
    intro H locs hP hD hS
    replace hP : va_P D vwCl [(mso, .inl (cs 0, 16, .inl sof)), (mon, .inl (cs 0, 16, .inl onf)), (mot, .inl (cs 0, 16, .inl otf)), (man, .inl (cs 0, 16, .inl anf)), (hm, .inr (12, [.ref ms, .ref mkp, .int (nI kmz_6), .ref mtr, .int (nI n), .int (nI k), .int (nI al), .int (nI be), .int ea, .int pr, .ref mas, .int nq, .int po, .int (nI en), .ref mso, .ref mon, .ref mot, .ref man, .int (nI 0), .int sd, .ref mst, .ref msm, .ref mtb, .ref mti, .ref mfr, .ref mbn, .ref mbs, .ref mde, .int sF, .int sN, .int sS, .int ig, .long xa, .long xb, .ref maa, .ref mab, .ref mba, .ref mbb])), (ms, .inl (cs 0, 288, .inl f)), (mkp, .inl (cs 0, 2304, .inl gz_7))] H := hP
    replace hD : va_D A [(mso, .inl (cs 0, 16, .inl sof)), (mon, .inl (cs 0, 16, .inl onf)), (mot, .inl (cs 0, 16, .inl otf)), (man, .inl (cs 0, 16, .inl anf)), (hm, .inr (12, [.ref ms, .ref mkp, .int (nI kmz_6), .ref mtr, .int (nI n), .int (nI k), .int (nI al), .int (nI be), .int ea, .int pr, .ref mas, .int nq, .int po, .int (nI en), .ref mso, .ref mon, .ref mot, .ref man, .int (nI 0), .int sd, .ref mst, .ref msm, .ref mtb, .ref mti, .ref mfr, .ref mbn, .ref mbs, .ref mde, .int sF, .int sN, .int sS, .int ig, .long xa, .long xb, .ref maa, .ref mab, .ref mba, .ref mbb])), (ms, .inl (cs 0, 288, .inl f)), (mkp, .inl (cs 0, 2304, .inl gz_7))] := hD
    refine lv_iconst (v := nI 0) hx hb dX12_polls_26 (by decide) ?_
    refine lv_istore_n (lv' := [(3, .int (nI 0)), (0, .ref hm), (1, .int (nI nn)), (2, .int sd)]) hx hb dX12_polls_27 rfl hl (by decide) rfl ?_
    clear hl
    try clear ls
    intro ls hl
    refine lv_iconst (v := nI 0) hx hb dX12_polls_28 (by decide) ?_
    refine lv_istore (lv' := [(4, .int (nI 0)), (3, .int (nI 0)), (0, .ref hm), (1, .int (nI nn)), (2, .int sd)]) hx hb dX12_polls_29 hl (by decide) rfl ?_
    clear hl
    try clear ls
    intro ls hl
    have loop_8 : ∀ (n_loop_8 : Nat) (o : Nat) (f9 : Nat → Int32) (p9 : Int32) (d9 : Int32) (c9 : Int32), (o ≤ nn) → (colP f9) → (polsM n k en o (sd, f) (d9, f9)) → nn - o < n_loop_8 → ∀ (H : Heap) (locs : List Loc) (ls : Array Slot), va_P D vwCl [(mso, .inl (cs 0, 16, .inl sof)), (mon, .inl (cs 0, 16, .inl onf)), (mot, .inl (cs 0, 16, .inl otf)), (man, .inl (cs 0, 16, .inl anf)), (hm, .inr (12, [.ref ms, .ref mkp, .int (nI kmz_6), .ref mtr, .int (nI n), .int (nI k), .int (nI al), .int (nI be), .int ea, .int pr, .ref mas, .int nq, .int p9, .int (nI en), .ref mso, .ref mon, .ref mot, .ref man, .int (nI 0), .int d9, .ref mst, .ref msm, .ref mtb, .ref mti, .ref mfr, .ref mbn, .ref mbs, .ref mde, .int sF, .int sN, .int sS, .int ig, .long xa, .long xb, .ref maa, .ref mab, .ref mba, .ref mbb])), (ms, .inl (cs 0, 288, .inl f9)), (mkp, .inl (cs 0, 2304, .inl gz_7))] H → va_D A [(mso, .inl (cs 0, 16, .inl sof)), (mon, .inl (cs 0, 16, .inl onf)), (mot, .inl (cs 0, 16, .inl otf)), (man, .inl (cs 0, 16, .inl anf)), (hm, .inr (12, [.ref ms, .ref mkp, .int (nI kmz_6), .ref mtr, .int (nI n), .int (nI k), .int (nI al), .int (nI be), .int ea, .int pr, .ref mas, .int nq, .int p9, .int (nI en), .ref mso, .ref mon, .ref mot, .ref man, .int (nI 0), .int d9, .ref mst, .ref msm, .ref mtb, .ref mti, .ref mfr, .ref mbn, .ref mbs, .ref mde, .int sF, .int sN, .int sS, .int ig, .long xa, .long xb, .ref maa, .ref mab, .ref mba, .ref mbb])), (ms, .inl (cs 0, 288, .inl f9)), (mkp, .inl (cs 0, 2304, .inl gz_7))] → va_S A s.heap H locs → lv_has ls 9 [(4, .int (nI o)), (3, .int c9), (0, .ref hm), (1, .int (nI nn)), (2, .int sd)] → W p l e ({ frames := 5, cells := 0, slots := 0, locals := 120 } : Room) s m args below meth c H locs 0 0 (MQ below ((xQi D (fun (r : Int32) (u : Nat × (Nat → Int32) × (Nat → Int32) × Int32 × Int32) => match u with | (kmz, fz, gz, poz, xdz) => (colP fz ∧ keptP gz ∧ kmz ≤ 8) ∧ ((∃ nm, nm ≤ 100 ∧ (nI nn) = nI nm ∧ ¬ (nI nn) < nI 1 ∧ polsM n k en nm (sd, f) (xdz, fz) ∧ kpdP km f g kmz gz) ∨ (¬ (¬ (nI nn) < nI 1 ∧ (nI nn) ≤ nI 100) ∧ r = -1 ∧ (fz = f ∧ gz = g ∧ kmz = km) ∧ xdz = xd))) (fun (u : Nat × (Nat → Int32) × (Nat → Int32) × Int32 × Int32) => match u with | (kmz, fz, gz, poz, xdz) => [(hm, .inr (12, [.ref ms, .ref mkp, .int (nI kmz), .ref mtr, .int (nI n), .int (nI k), .int (nI al), .int (nI be), .int ea, .int pr, .ref mas, .int nq, .int poz, .int (nI en), .ref mso, .ref mon, .ref mot, .ref man, .int (nI 0), .int xdz, .ref mst, .ref msm, .ref mtb, .ref mti, .ref mfr, .ref mbn, .ref mbs, .ref mde, .int sF, .int sN, .int sS, .int ig, .long xa, .long xb, .ref maa, .ref mab, .ref mba, .ref mbb])), (ms, .inl (cs 0, 288, .inl fz)), (mkp, .inl (cs 0, 2304, .inl gz)), (mso, .inl (cs 0, 16, .inl sof)), (mon, .inl (cs 0, 16, .inl onf)), (mot, .inl (cs 0, 16, .inl otf)), (man, .inl (cs 0, 16, .inl anf))])) A) args s 0 0 A) (F0 m 31 ls []) := by
      intro n_loop_8
      induction n_loop_8 with
      | zero => intro o f9 p9 d9 c9 h_o hs9 hR9 hlt H locs ls hP hD hS hl; exact absurd hlt (Nat.not_lt_zero _)
      | succ n_loop_8 ih_loop_8 =>
        intro o f9 p9 d9 c9 h_o hs9 hR9 hlt_loop_8 H locs ls hP hD hS hl
        refine lv_iload hx hb dX12_polls_31 (lv_at hl 0 rfl) ?_
        refine lv_iload_n hx hb dX12_polls_33 rfl (lv_at hl 3 rfl) ?_
        refine lv_icmp_ge (tgt := 155) hx hb dX12_polls_34 (by decide) (fun c_9 => ?_) (fun c_9 => ?_)
        · -- 34 t
          have fc_9 : nn ≤ o := nf_le (by omega) (by omega) c_9
          refine lv_iload_n hx hb dX12_polls_155 rfl (lv_at hl 1 rfl) ?_
          exact xreti C (⟨kmz_6, f9, gz_7, p9, d9⟩) (⟨⟨hs9, hw_r_4.1⟩, Or.inl ⟨nn, h_nn, rfl, hyx.1, by have q7 : o = nn := (by omega); subst q7; exact hR9, hw_r_4.2⟩⟩) (xP_map hP [4, 5, 6, 0, 1, 2, 3] rfl) (hD.sub [4, 5, 6, 0, 1, 2, 3] (by decide) rfl) hS (Nat.le_of_ble_eq_true rfl) (Nat.le_of_ble_eq_true rfl) rfl dX12_polls_156
        · -- 34 f
          have fc_9 : o < nn := nf_nle (by omega) (by omega) c_9
          refine lv_aload_n hx hb dX12_polls_37 rfl (lv_at hl 2 rfl) ?_
          refine lv_aload_n hx hb dX12_polls_38 rfl (lv_at hl 2 rfl) ?_
          refine xget C hP 4 rfl rfl zuX12 4 (by decide) zw5_217 rfl dX12_polls_39 ?_
          refine xi (wr := [(mso, .inl (cs 0, 16, .inl sof)), (mon, .inl (cs 0, 16, .inl onf)), (mot, .inl (cs 0, 16, .inl otf)), (man, .inl (cs 0, 16, .inl anf)), (ms, .inl (cs 0, 288, .inl f9)), (mkp, .inl (cs 0, 2304, .inl gz_7))]) (xV (As := [.int (nI n)]) (rest := []) C (c_X12_draw_f l D cs hm ms mkp mtr mas mso mon mot man mst msm mtb mti mfr mbn mbs mde maa mab mba mbb n k al be kmz_6 en ea pr nq p9 (nI 0) d9 sF sN sS ig xa xb n (by omega) (by omega)) kX12_156 hP hD [4] rfl (by decide) 0 rfl rfl rfl ⟨Nat.le_of_ble_eq_true rfl, Nat.le_of_ble_eq_true rfl⟩ rfl hl.1 rfl (Nat.le_of_ble_eq_true rfl) dX12_polls_42 ⟨Nat.le_of_ble_eq_true rfl, Nat.le_of_ble_eq_true rfl⟩) hP hD hS hA [4] [0, 1, 2, 3, 5, 6] rfl rfl (by decide) (by decide) ?_
          clear hP hD hS
          try clear locs
          try clear H
          intro r_10 u_11 H locs hw_r_10 hP hD hS
          have hw_r_10 : u_11 = nxD d9 ∧ r_10 = drV (nxD d9) (nI n) ∧ ∃ j, j < n ∧ r_10 = nI j := hw_r_10
          refine W.widen (k := 0) (n := 0) (Nat.le_of_ble_eq_true rfl) (Nat.le_of_ble_eq_true rfl) ?_
          replace hP : va_P D vwCl [(mso, .inl (cs 0, 16, .inl sof)), (mon, .inl (cs 0, 16, .inl onf)), (mot, .inl (cs 0, 16, .inl otf)), (man, .inl (cs 0, 16, .inl anf)), (ms, .inl (cs 0, 288, .inl f9)), (mkp, .inl (cs 0, 2304, .inl gz_7)), (hm, .inr (12, [.ref ms, .ref mkp, .int (nI kmz_6), .ref mtr, .int (nI n), .int (nI k), .int (nI al), .int (nI be), .int ea, .int pr, .ref mas, .int nq, .int p9, .int (nI en), .ref mso, .ref mon, .ref mot, .ref man, .int (nI 0), .int u_11, .ref mst, .ref msm, .ref mtb, .ref mti, .ref mfr, .ref mbn, .ref mbs, .ref mde, .int sF, .int sN, .int sS, .int ig, .long xa, .long xb, .ref maa, .ref mab, .ref mba, .ref mbb]))] H := hP
          replace hD : va_D A [(mso, .inl (cs 0, 16, .inl sof)), (mon, .inl (cs 0, 16, .inl onf)), (mot, .inl (cs 0, 16, .inl otf)), (man, .inl (cs 0, 16, .inl anf)), (ms, .inl (cs 0, 288, .inl f9)), (mkp, .inl (cs 0, 2304, .inl gz_7)), (hm, .inr (12, [.ref ms, .ref mkp, .int (nI kmz_6), .ref mtr, .int (nI n), .int (nI k), .int (nI al), .int (nI be), .int ea, .int pr, .ref mas, .int nq, .int p9, .int (nI en), .ref mso, .ref mon, .ref mot, .ref man, .int (nI 0), .int u_11, .ref mst, .ref msm, .ref mtb, .ref mti, .ref mfr, .ref mbn, .ref mbs, .ref mde, .int sF, .int sN, .int sS, .int ig, .long xa, .long xb, .ref maa, .ref mab, .ref mba, .ref mbb]))] := hD
          obtain ⟨jx, h_jx, rfl⟩ := hw_r_10.2.2
          replace hP : va_P D vwCl [(mso, .inl (cs 0, 16, .inl sof)), (mon, .inl (cs 0, 16, .inl onf)), (mot, .inl (cs 0, 16, .inl otf)), (man, .inl (cs 0, 16, .inl anf)), (ms, .inl (cs 0, 288, .inl f9)), (mkp, .inl (cs 0, 2304, .inl gz_7)), (hm, .inr (12, [.ref ms, .ref mkp, .int (nI kmz_6), .ref mtr, .int (nI n), .int (nI k), .int (nI al), .int (nI be), .int ea, .int pr, .ref mas, .int nq, .int p9, .int (nI en), .ref mso, .ref mon, .ref mot, .ref man, .int (nI 0), .int u_11, .ref mst, .ref msm, .ref mtb, .ref mti, .ref mfr, .ref mbn, .ref mbs, .ref mde, .int sF, .int sN, .int sS, .int ig, .long xa, .long xb, .ref maa, .ref mab, .ref mba, .ref mbb]))] H := hP
          replace hD : va_D A [(mso, .inl (cs 0, 16, .inl sof)), (mon, .inl (cs 0, 16, .inl onf)), (mot, .inl (cs 0, 16, .inl otf)), (man, .inl (cs 0, 16, .inl anf)), (ms, .inl (cs 0, 288, .inl f9)), (mkp, .inl (cs 0, 2304, .inl gz_7)), (hm, .inr (12, [.ref ms, .ref mkp, .int (nI kmz_6), .ref mtr, .int (nI n), .int (nI k), .int (nI al), .int (nI be), .int ea, .int pr, .ref mas, .int nq, .int p9, .int (nI en), .ref mso, .ref mon, .ref mot, .ref man, .int (nI 0), .int u_11, .ref mst, .ref msm, .ref mtb, .ref mti, .ref mfr, .ref mbn, .ref mbs, .ref mde, .int sF, .int sN, .int sS, .int ig, .long xa, .long xb, .ref maa, .ref mab, .ref mba, .ref mbb]))] := hD
          refine lv_istore (lv' := [(5, .int (nI jx)), (4, .int (nI o)), (3, .int c9), (0, .ref hm), (1, .int (nI nn)), (2, .int sd)]) hx hb dX12_polls_45 hl (by decide) rfl ?_
          clear hl
          try clear ls
          intro ls hl
          refine lv_iconst (v := nI 1) hx hb dX12_polls_47 (by decide) ?_
          refine lv_aload_n hx hb dX12_polls_48 rfl (lv_at hl 3 rfl) ?_
          refine xget C hP 6 rfl rfl zuX12 13 (by decide) zw5_226 rfl dX12_polls_49 ?_
          refine lv_ishl hx hb dX12_polls_52 ?_
          refine lv_iconst (v := nI 1) hx hb dX12_polls_53 (by decide) ?_
          refine lv_isub hx hb dX12_polls_54 ?_
          refine lv_aload_n hx hb dX12_polls_55 rfl (lv_at hl 3 rfl) ?_
          refine xget C hP 6 rfl rfl zuX12 0 (by decide) zw5_213 rfl dX12_polls_56 ?_
          refine lv_bipush (v := nI 72) hx hb dX12_polls_59 (by decide) ?_
          refine lv_iload hx hb dX12_polls_61 (lv_at hl 0 rfl) ?_
          refine lv_iadd hx hb dX12_polls_63 ?_
          refine lv_topi (nm_r (e' := nI (72 + jx)) (nI_add _ _) ?_)
          refine xiald C hP 4 rfl (72 + jx) rfl (by omega) (by decide) dX12_polls_64 ?_
          refine lv_iconst (v := (-1)) hx hb dX12_polls_65 (by decide) ?_
          refine lv_ixor hx hb dX12_polls_66 ?_
          refine lv_iand hx hb dX12_polls_67 ?_
          refine lv_topi (nm_r (e' := leftF en (f9 (72 + jx))) rfl ?_)
          refine lv_istore (lv' := [(6, .int (leftF en (f9 (72 + jx)))), (5, .int (nI jx)), (4, .int (nI o)), (3, .int c9), (0, .ref hm), (1, .int (nI nn)), (2, .int sd)]) hx hb dX12_polls_68 hl (by decide) rfl ?_
          clear hl
          try clear ls
          intro ls hl
          refine lv_aload_n hx hb dX12_polls_70 rfl (lv_at hl 4 rfl) ?_
          refine xget C hP 6 rfl rfl zuX12 0 (by decide) zw5_213 rfl dX12_polls_71 ?_
          refine lv_bipush (v := nI 48) hx hb dX12_polls_74 (by decide) ?_
          refine lv_iload hx hb dX12_polls_76 (lv_at hl 1 rfl) ?_
          refine lv_iadd hx hb dX12_polls_78 ?_
          refine lv_topi (nm_r (e' := nI (48 + jx)) (nI_add _ _) ?_)
          refine xiald C hP 4 rfl (48 + jx) rfl (by omega) (by decide) dX12_polls_79 ?_
          refine lv_if_ne (tgt := 149) hx hb dX12_polls_80 (by decide) (fun c_12 => ?_) (fun c_12 => ?_)
          · -- 80 t
            refine lv_iinc (v := nI (o + 1)) (lv' := [(4, .int (nI (o + 1))), (6, .int (leftF en (f9 (72 + jx)))), (5, .int (nI jx)), (3, .int c9), (0, .ref hm), (1, .int (nI nn)), (2, .int sd)]) hx hb dX12_polls_149 hl (k := 2) rfl (nI_add o 1) (by decide) rfl ?_
            clear hl
            try clear ls
            intro ls hl
            refine lv_goto (tgt := 31) hx hb dX12_polls_152 (by decide) ?_
            exact ih_loop_8 (o + 1) f9 p9 u_11 c9 (by omega) hs9 (⟨_, hR9, jx, h_jx, hw_r_10.2.1, Or.inl ⟨fun q => c_12 q.1, by rw [hw_r_10.1]⟩⟩) (by omega) H locs ls (xP_map hP [0, 1, 2, 3, 6, 4, 5] rfl) (hD.sub [0, 1, 2, 3, 6, 4, 5] (by decide) rfl) hS (lv_sub hl [0, 3, 4, 5, 6] rfl)
          · -- 80 f
            refine lv_iload hx hb dX12_polls_83 (lv_at hl 0 rfl) ?_
            refine lv_if_ne (tgt := 91) hx hb dX12_polls_85 (by decide) (fun c_13 => ?_) (fun c_13 => ?_)
            · -- 85 t
              have hcm : 0 < cntL (leftF en (f9 (72 + jx))) 16 := cnt_pos c_13 (left_hi hen)
              refine lv_iload hx hb dX12_polls_91 (lv_at hl 0 rfl) ?_
              refine lv_aload_n hx hb dX12_polls_93 rfl (lv_at hl 4 rfl) ?_
              refine lv_iload hx hb dX12_polls_94 (lv_at hl 0 rfl) ?_
              refine xi (wr := [(mso, .inl (cs 0, 16, .inl sof)), (mon, .inl (cs 0, 16, .inl onf)), (mot, .inl (cs 0, 16, .inl otf)), (man, .inl (cs 0, 16, .inl anf)), (ms, .inl (cs 0, 288, .inl f9)), (mkp, .inl (cs 0, 2304, .inl gz_7)), (hm, .inr (12, [.ref ms, .ref mkp, .int (nI kmz_6), .ref mtr, .int (nI n), .int (nI k), .int (nI al), .int (nI be), .int ea, .int pr, .ref mas, .int nq, .int p9, .int (nI en), .ref mso, .ref mon, .ref mot, .ref man, .int (nI 0), .int u_11, .ref mst, .ref msm, .ref mtb, .ref mti, .ref mfr, .ref mbn, .ref mbs, .ref mde, .int sF, .int sN, .int sS, .int ig, .long xa, .long xb, .ref maa, .ref mab, .ref mba, .ref mbb]))]) (xS (As := [.int (leftF en (f9 (72 + jx)))]) (rest := [.ref hm, .int (leftF en (f9 (72 + jx)))]) C (c_X12_many l D cs (leftF en (f9 (72 + jx)))) kX12_127 hP hD [] rfl (by decide) ⟨Nat.le_of_ble_eq_true rfl, Nat.le_of_ble_eq_true rfl⟩ rfl hl.1 rfl (Nat.le_of_ble_eq_true rfl) dX12_polls_96 ⟨Nat.le_of_ble_eq_true rfl, Nat.le_of_ble_eq_true rfl⟩) hP hD hS hA [] [0, 1, 2, 3, 4, 5, 6] rfl rfl (by decide) (by decide) ?_
              clear hP hD hS
              try clear locs
              try clear H
              intro r_14 u_15 H locs hw_r_14 hP hD hS
              have hw_r_14 : r_14 = nI (cntL (leftF en (f9 (72 + jx))) 16) := hw_r_14
              refine W.widen (k := 0) (n := 0) (Nat.le_of_ble_eq_true rfl) (Nat.le_of_ble_eq_true rfl) ?_
              replace hP : va_P D vwCl [(mso, .inl (cs 0, 16, .inl sof)), (mon, .inl (cs 0, 16, .inl onf)), (mot, .inl (cs 0, 16, .inl otf)), (man, .inl (cs 0, 16, .inl anf)), (ms, .inl (cs 0, 288, .inl f9)), (mkp, .inl (cs 0, 2304, .inl gz_7)), (hm, .inr (12, [.ref ms, .ref mkp, .int (nI kmz_6), .ref mtr, .int (nI n), .int (nI k), .int (nI al), .int (nI be), .int ea, .int pr, .ref mas, .int nq, .int p9, .int (nI en), .ref mso, .ref mon, .ref mot, .ref man, .int (nI 0), .int u_11, .ref mst, .ref msm, .ref mtb, .ref mti, .ref mfr, .ref mbn, .ref mbs, .ref mde, .int sF, .int sN, .int sS, .int ig, .long xa, .long xb, .ref maa, .ref mab, .ref mba, .ref mbb]))] H := hP
              replace hD : va_D A [(mso, .inl (cs 0, 16, .inl sof)), (mon, .inl (cs 0, 16, .inl onf)), (mot, .inl (cs 0, 16, .inl otf)), (man, .inl (cs 0, 16, .inl anf)), (ms, .inl (cs 0, 288, .inl f9)), (mkp, .inl (cs 0, 2304, .inl gz_7)), (hm, .inr (12, [.ref ms, .ref mkp, .int (nI kmz_6), .ref mtr, .int (nI n), .int (nI k), .int (nI al), .int (nI be), .int ea, .int pr, .ref mas, .int nq, .int p9, .int (nI en), .ref mso, .ref mon, .ref mot, .ref man, .int (nI 0), .int u_11, .ref mst, .ref msm, .ref mtb, .ref mti, .ref mfr, .ref mbn, .ref mbs, .ref mde, .int sF, .int sN, .int sS, .int ig, .long xa, .long xb, .ref maa, .ref mab, .ref mba, .ref mbb]))] := hD
              subst hw_r_14
              replace hP : va_P D vwCl [(mso, .inl (cs 0, 16, .inl sof)), (mon, .inl (cs 0, 16, .inl onf)), (mot, .inl (cs 0, 16, .inl otf)), (man, .inl (cs 0, 16, .inl anf)), (ms, .inl (cs 0, 288, .inl f9)), (mkp, .inl (cs 0, 2304, .inl gz_7)), (hm, .inr (12, [.ref ms, .ref mkp, .int (nI kmz_6), .ref mtr, .int (nI n), .int (nI k), .int (nI al), .int (nI be), .int ea, .int pr, .ref mas, .int nq, .int p9, .int (nI en), .ref mso, .ref mon, .ref mot, .ref man, .int (nI 0), .int u_11, .ref mst, .ref msm, .ref mtb, .ref mti, .ref mfr, .ref mbn, .ref mbs, .ref mde, .int sF, .int sN, .int sS, .int ig, .long xa, .long xb, .ref maa, .ref mab, .ref mba, .ref mbb]))] H := hP
              replace hD : va_D A [(mso, .inl (cs 0, 16, .inl sof)), (mon, .inl (cs 0, 16, .inl onf)), (mot, .inl (cs 0, 16, .inl otf)), (man, .inl (cs 0, 16, .inl anf)), (ms, .inl (cs 0, 288, .inl f9)), (mkp, .inl (cs 0, 2304, .inl gz_7)), (hm, .inr (12, [.ref ms, .ref mkp, .int (nI kmz_6), .ref mtr, .int (nI n), .int (nI k), .int (nI al), .int (nI be), .int ea, .int pr, .ref mas, .int nq, .int p9, .int (nI en), .ref mso, .ref mon, .ref mot, .ref man, .int (nI 0), .int u_11, .ref mst, .ref msm, .ref mtb, .ref mti, .ref mfr, .ref mbn, .ref mbs, .ref mde, .int sF, .int sN, .int sS, .int ig, .long xa, .long xb, .ref maa, .ref mab, .ref mba, .ref mbb]))] := hD
              refine xi (wr := [(mso, .inl (cs 0, 16, .inl sof)), (mon, .inl (cs 0, 16, .inl onf)), (mot, .inl (cs 0, 16, .inl otf)), (man, .inl (cs 0, 16, .inl anf)), (ms, .inl (cs 0, 288, .inl f9)), (mkp, .inl (cs 0, 2304, .inl gz_7))]) (xV (As := [.int (nI (cntL (leftF en (f9 (72 + jx))) 16))]) (rest := [.int (leftF en (f9 (72 + jx)))]) C (c_X12_draw_f l D cs hm ms mkp mtr mas mso mon mot man mst msm mtb mti mfr mbn mbs mde maa mab mba mbb n k al be kmz_6 en ea pr nq p9 (nI 0) u_11 sF sN sS ig xa xb (cntL (leftF en (f9 (72 + jx))) 16) hcm (Nat.lt_of_le_of_lt (cnt_le _ 16) (by decide))) kX12_156 hP hD [6] rfl (by decide) 0 rfl rfl rfl ⟨Nat.le_of_ble_eq_true rfl, Nat.le_of_ble_eq_true rfl⟩ rfl hl.1 rfl (Nat.le_of_ble_eq_true rfl) dX12_polls_99 ⟨Nat.le_of_ble_eq_true rfl, Nat.le_of_ble_eq_true rfl⟩) hP hD hS hA [6] [0, 1, 2, 3, 4, 5] rfl rfl (by decide) (by decide) ?_
              clear hP hD hS
              try clear locs
              try clear H
              intro r_16 u_17 H locs hw_r_16 hP hD hS
              have hw_r_16 : u_17 = nxD u_11 ∧ r_16 = drV (nxD u_11) (nI (cntL (leftF en (f9 (72 + jx))) 16)) ∧ ∃ j, j < (cntL (leftF en (f9 (72 + jx))) 16) ∧ r_16 = nI j := hw_r_16
              refine W.widen (k := 0) (n := 0) (Nat.le_of_ble_eq_true rfl) (Nat.le_of_ble_eq_true rfl) ?_
              replace hP : va_P D vwCl [(mso, .inl (cs 0, 16, .inl sof)), (mon, .inl (cs 0, 16, .inl onf)), (mot, .inl (cs 0, 16, .inl otf)), (man, .inl (cs 0, 16, .inl anf)), (ms, .inl (cs 0, 288, .inl f9)), (mkp, .inl (cs 0, 2304, .inl gz_7)), (hm, .inr (12, [.ref ms, .ref mkp, .int (nI kmz_6), .ref mtr, .int (nI n), .int (nI k), .int (nI al), .int (nI be), .int ea, .int pr, .ref mas, .int nq, .int p9, .int (nI en), .ref mso, .ref mon, .ref mot, .ref man, .int (nI 0), .int u_17, .ref mst, .ref msm, .ref mtb, .ref mti, .ref mfr, .ref mbn, .ref mbs, .ref mde, .int sF, .int sN, .int sS, .int ig, .long xa, .long xb, .ref maa, .ref mab, .ref mba, .ref mbb]))] H := hP
              replace hD : va_D A [(mso, .inl (cs 0, 16, .inl sof)), (mon, .inl (cs 0, 16, .inl onf)), (mot, .inl (cs 0, 16, .inl otf)), (man, .inl (cs 0, 16, .inl anf)), (ms, .inl (cs 0, 288, .inl f9)), (mkp, .inl (cs 0, 2304, .inl gz_7)), (hm, .inr (12, [.ref ms, .ref mkp, .int (nI kmz_6), .ref mtr, .int (nI n), .int (nI k), .int (nI al), .int (nI be), .int ea, .int pr, .ref mas, .int nq, .int p9, .int (nI en), .ref mso, .ref mon, .ref mot, .ref man, .int (nI 0), .int u_17, .ref mst, .ref msm, .ref mtb, .ref mti, .ref mfr, .ref mbn, .ref mbs, .ref mde, .int sF, .int sN, .int sS, .int ig, .long xa, .long xb, .ref maa, .ref mab, .ref mba, .ref mbb]))] := hD
              obtain ⟨ji, h_ji, rfl⟩ := hw_r_16.2.2
              replace hP : va_P D vwCl [(mso, .inl (cs 0, 16, .inl sof)), (mon, .inl (cs 0, 16, .inl onf)), (mot, .inl (cs 0, 16, .inl otf)), (man, .inl (cs 0, 16, .inl anf)), (ms, .inl (cs 0, 288, .inl f9)), (mkp, .inl (cs 0, 2304, .inl gz_7)), (hm, .inr (12, [.ref ms, .ref mkp, .int (nI kmz_6), .ref mtr, .int (nI n), .int (nI k), .int (nI al), .int (nI be), .int ea, .int pr, .ref mas, .int nq, .int p9, .int (nI en), .ref mso, .ref mon, .ref mot, .ref man, .int (nI 0), .int u_17, .ref mst, .ref msm, .ref mtb, .ref mti, .ref mfr, .ref mbn, .ref mbs, .ref mde, .int sF, .int sN, .int sS, .int ig, .long xa, .long xb, .ref maa, .ref mab, .ref mba, .ref mbb]))] H := hP
              replace hD : va_D A [(mso, .inl (cs 0, 16, .inl sof)), (mon, .inl (cs 0, 16, .inl onf)), (mot, .inl (cs 0, 16, .inl otf)), (man, .inl (cs 0, 16, .inl anf)), (ms, .inl (cs 0, 288, .inl f9)), (mkp, .inl (cs 0, 2304, .inl gz_7)), (hm, .inr (12, [.ref ms, .ref mkp, .int (nI kmz_6), .ref mtr, .int (nI n), .int (nI k), .int (nI al), .int (nI be), .int ea, .int pr, .ref mas, .int nq, .int p9, .int (nI en), .ref mso, .ref mon, .ref mot, .ref man, .int (nI 0), .int u_17, .ref mst, .ref msm, .ref mtb, .ref mti, .ref mfr, .ref mbn, .ref mbs, .ref mde, .int sF, .int sN, .int sS, .int ig, .long xa, .long xb, .ref maa, .ref mab, .ref mba, .ref mbb]))] := hD
              refine xi (wr := [(mso, .inl (cs 0, 16, .inl sof)), (mon, .inl (cs 0, 16, .inl onf)), (mot, .inl (cs 0, 16, .inl otf)), (man, .inl (cs 0, 16, .inl anf)), (ms, .inl (cs 0, 288, .inl f9)), (mkp, .inl (cs 0, 2304, .inl gz_7)), (hm, .inr (12, [.ref ms, .ref mkp, .int (nI kmz_6), .ref mtr, .int (nI n), .int (nI k), .int (nI al), .int (nI be), .int ea, .int pr, .ref mas, .int nq, .int p9, .int (nI en), .ref mso, .ref mon, .ref mot, .ref man, .int (nI 0), .int u_17, .ref mst, .ref msm, .ref mtb, .ref mti, .ref mfr, .ref mbn, .ref mbs, .ref mde, .int sF, .int sN, .int sS, .int ig, .long xa, .long xb, .ref maa, .ref mab, .ref mba, .ref mbb]))]) (xS (As := [.int (leftF en (f9 (72 + jx))), .int (nI ji)]) (rest := []) C (c_X12_nth_f l D cs (leftF en (f9 (72 + jx))) ji (by assumption)) kX12_159 hP hD [] rfl (by decide) ⟨Nat.le_of_ble_eq_true rfl, Nat.le_of_ble_eq_true rfl⟩ rfl hl.1 rfl (Nat.le_of_ble_eq_true rfl) dX12_polls_102 ⟨Nat.le_of_ble_eq_true rfl, Nat.le_of_ble_eq_true rfl⟩) hP hD hS hA [] [0, 1, 2, 3, 4, 5, 6] rfl rfl (by decide) (by decide) ?_
              clear hP hD hS
              try clear locs
              try clear H
              intro r_18 u_19 H locs hw_r_18 hP hD hS
              have hw_r_18 : ∃ b, b < 16 ∧ r_18 = nI b ∧ hasB (leftF en (f9 (72 + jx))) b ∧ b = nthB (leftF en (f9 (72 + jx))) 31 (nI ji) := hw_r_18
              refine W.widen (k := 0) (n := 0) (Nat.le_of_ble_eq_true rfl) (Nat.le_of_ble_eq_true rfl) ?_
              replace hP : va_P D vwCl [(mso, .inl (cs 0, 16, .inl sof)), (mon, .inl (cs 0, 16, .inl onf)), (mot, .inl (cs 0, 16, .inl otf)), (man, .inl (cs 0, 16, .inl anf)), (ms, .inl (cs 0, 288, .inl f9)), (mkp, .inl (cs 0, 2304, .inl gz_7)), (hm, .inr (12, [.ref ms, .ref mkp, .int (nI kmz_6), .ref mtr, .int (nI n), .int (nI k), .int (nI al), .int (nI be), .int ea, .int pr, .ref mas, .int nq, .int p9, .int (nI en), .ref mso, .ref mon, .ref mot, .ref man, .int (nI 0), .int u_17, .ref mst, .ref msm, .ref mtb, .ref mti, .ref mfr, .ref mbn, .ref mbs, .ref mde, .int sF, .int sN, .int sS, .int ig, .long xa, .long xb, .ref maa, .ref mab, .ref mba, .ref mbb]))] H := hP
              replace hD : va_D A [(mso, .inl (cs 0, 16, .inl sof)), (mon, .inl (cs 0, 16, .inl onf)), (mot, .inl (cs 0, 16, .inl otf)), (man, .inl (cs 0, 16, .inl anf)), (ms, .inl (cs 0, 288, .inl f9)), (mkp, .inl (cs 0, 2304, .inl gz_7)), (hm, .inr (12, [.ref ms, .ref mkp, .int (nI kmz_6), .ref mtr, .int (nI n), .int (nI k), .int (nI al), .int (nI be), .int ea, .int pr, .ref mas, .int nq, .int p9, .int (nI en), .ref mso, .ref mon, .ref mot, .ref man, .int (nI 0), .int u_17, .ref mst, .ref msm, .ref mtb, .ref mti, .ref mfr, .ref mbn, .ref mbs, .ref mde, .int sF, .int sN, .int sS, .int ig, .long xa, .long xb, .ref maa, .ref mab, .ref mba, .ref mbb]))] := hD
              obtain ⟨e9, h_e9, rfl, hbe, hne9⟩ := hw_r_18
              replace hP : va_P D vwCl [(mso, .inl (cs 0, 16, .inl sof)), (mon, .inl (cs 0, 16, .inl onf)), (mot, .inl (cs 0, 16, .inl otf)), (man, .inl (cs 0, 16, .inl anf)), (ms, .inl (cs 0, 288, .inl f9)), (mkp, .inl (cs 0, 2304, .inl gz_7)), (hm, .inr (12, [.ref ms, .ref mkp, .int (nI kmz_6), .ref mtr, .int (nI n), .int (nI k), .int (nI al), .int (nI be), .int ea, .int pr, .ref mas, .int nq, .int p9, .int (nI en), .ref mso, .ref mon, .ref mot, .ref man, .int (nI 0), .int u_17, .ref mst, .ref msm, .ref mtb, .ref mti, .ref mfr, .ref mbn, .ref mbs, .ref mde, .int sF, .int sN, .int sS, .int ig, .long xa, .long xb, .ref maa, .ref mab, .ref mba, .ref mbb]))] H := hP
              replace hD : va_D A [(mso, .inl (cs 0, 16, .inl sof)), (mon, .inl (cs 0, 16, .inl onf)), (mot, .inl (cs 0, 16, .inl otf)), (man, .inl (cs 0, 16, .inl anf)), (ms, .inl (cs 0, 288, .inl f9)), (mkp, .inl (cs 0, 2304, .inl gz_7)), (hm, .inr (12, [.ref ms, .ref mkp, .int (nI kmz_6), .ref mtr, .int (nI n), .int (nI k), .int (nI al), .int (nI be), .int ea, .int pr, .ref mas, .int nq, .int p9, .int (nI en), .ref mso, .ref mon, .ref mot, .ref man, .int (nI 0), .int u_17, .ref mst, .ref msm, .ref mtb, .ref mti, .ref mfr, .ref mbn, .ref mbs, .ref mde, .int sF, .int sN, .int sS, .int ig, .long xa, .long xb, .ref maa, .ref mab, .ref mba, .ref mbb]))] := hD
              have hee : e9 < en := ((left_bit hen (by omega)).mp hbe).1
              refine lv_istore (lv' := [(7, .int (nI e9)), (6, .int (leftF en (f9 (72 + jx)))), (5, .int (nI jx)), (4, .int (nI o)), (3, .int c9), (0, .ref hm), (1, .int (nI nn)), (2, .int sd)]) hx hb dX12_polls_105 hl (by decide) rfl ?_
              clear hl
              try clear ls
              intro ls hl
              refine lv_aload_n hx hb dX12_polls_107 rfl (lv_at hl 5 rfl) ?_
              refine lv_iload hx hb dX12_polls_108 (lv_at hl 2 rfl) ?_
              refine xi (wr := [(mso, .inl (cs 0, 16, .inl sof)), (mon, .inl (cs 0, 16, .inl onf)), (mot, .inl (cs 0, 16, .inl otf)), (man, .inl (cs 0, 16, .inl anf)), (ms, .inl (cs 0, 288, .inl f9)), (mkp, .inl (cs 0, 2304, .inl gz_7))]) (xV (As := [.int (nI jx)]) (rest := []) C (c_X12_drawSample_f l D cs hm ms mkp mtr mas mso mon mot man mst msm mtb mti mfr mbn mbs mde maa mab mba mbb n k al be kmz_6 en ea pr nq p9 (nI 0) u_17 sF sN sS ig xa xb jx hn hkn (by omega)) kX12_162 hP hD [6] rfl (by decide) 0 rfl rfl rfl ⟨Nat.le_of_ble_eq_true rfl, Nat.le_of_ble_eq_true rfl⟩ rfl hl.1 rfl (Nat.le_of_ble_eq_true rfl) dX12_polls_110 ⟨Nat.le_of_ble_eq_true rfl, Nat.le_of_ble_eq_true rfl⟩) hP hD hS hA [6] [0, 1, 2, 3, 4, 5] rfl rfl (by decide) (by decide) ?_
              clear hP hD hS
              try clear locs
              try clear H
              intro r_20 u_21 H locs hw_r_20 hP hD hS
              have hw_r_20 : ∃ l9, dsI n (u_17, lefI n jx, nI 0) k u_21 l9 r_20 := hw_r_20
              refine W.widen (k := 0) (n := 0) (Nat.le_of_ble_eq_true rfl) (Nat.le_of_ble_eq_true rfl) ?_
              replace hP : va_P D vwCl [(mso, .inl (cs 0, 16, .inl sof)), (mon, .inl (cs 0, 16, .inl onf)), (mot, .inl (cs 0, 16, .inl otf)), (man, .inl (cs 0, 16, .inl anf)), (ms, .inl (cs 0, 288, .inl f9)), (mkp, .inl (cs 0, 2304, .inl gz_7)), (hm, .inr (12, [.ref ms, .ref mkp, .int (nI kmz_6), .ref mtr, .int (nI n), .int (nI k), .int (nI al), .int (nI be), .int ea, .int pr, .ref mas, .int nq, .int p9, .int (nI en), .ref mso, .ref mon, .ref mot, .ref man, .int (nI 0), .int u_21, .ref mst, .ref msm, .ref mtb, .ref mti, .ref mfr, .ref mbn, .ref mbs, .ref mde, .int sF, .int sN, .int sS, .int ig, .long xa, .long xb, .ref maa, .ref mab, .ref mba, .ref mbb]))] H := hP
              replace hD : va_D A [(mso, .inl (cs 0, 16, .inl sof)), (mon, .inl (cs 0, 16, .inl onf)), (mot, .inl (cs 0, 16, .inl otf)), (man, .inl (cs 0, 16, .inl anf)), (ms, .inl (cs 0, 288, .inl f9)), (mkp, .inl (cs 0, 2304, .inl gz_7)), (hm, .inr (12, [.ref ms, .ref mkp, .int (nI kmz_6), .ref mtr, .int (nI n), .int (nI k), .int (nI al), .int (nI be), .int ea, .int pr, .ref mas, .int nq, .int p9, .int (nI en), .ref mso, .ref mon, .ref mot, .ref man, .int (nI 0), .int u_21, .ref mst, .ref msm, .ref mtb, .ref mti, .ref mfr, .ref mbn, .ref mbs, .ref mde, .int sF, .int sN, .int sS, .int ig, .long xa, .long xb, .ref maa, .ref mab, .ref mba, .ref mbb]))] := hD
              obtain ⟨l8, hl8⟩ := hw_r_20
              refine lv_istore (lv' := [(8, .int r_20), (7, .int (nI e9)), (6, .int (leftF en (f9 (72 + jx)))), (5, .int (nI jx)), (4, .int (nI o)), (3, .int c9), (0, .ref hm), (1, .int (nI nn)), (2, .int sd)]) hx hb dX12_polls_113 hl (by decide) rfl ?_
              clear hl
              try clear ls
              intro ls hl
              refine lv_aload_n hx hb dX12_polls_115 rfl (lv_at hl 6 rfl) ?_
              refine lv_iload hx hb dX12_polls_116 (lv_at hl 3 rfl) ?_
              refine lv_iload hx hb dX12_polls_118 (lv_at hl 1 rfl) ?_
              refine lv_iload hx hb dX12_polls_120 (lv_at hl 0 rfl) ?_
              refine xi (wr := [(mkp, .inl (cs 0, 2304, .inl gz_7))]) (xV (As := [.int (nI jx), .int (nI e9), .int r_20]) (rest := []) C (c_X12_pollsOne_f l D cs hm ms mkp mtr mas mso mon mot man mst msm mtb mti mfr mbn mbs mde maa mab mba mbb n k al be kmz_6 en ea pr nq p9 (nI 0) u_21 sF sN sS ig xa xb f9 sof onf otf anf jx e9 r_20 hn hen hso (by omega) (by omega)) kX12_348 hP hD [6, 4, 0, 1, 2, 3] rfl (by decide) 0 rfl rfl rfl ⟨Nat.le_of_ble_eq_true rfl, Nat.le_of_ble_eq_true rfl⟩ rfl hl.1 rfl (Nat.le_of_ble_eq_true rfl) dX12_polls_122 ⟨Nat.le_of_ble_eq_true rfl, Nat.le_of_ble_eq_true rfl⟩) hP hD hS hA [6, 4, 0, 1, 2, 3] [5] rfl rfl (by decide) (by decide) ?_
              clear hP hD hS
              try clear locs
              try clear H
              intro r_22 u_23 H locs hw_r_22 hP hD hS
              obtain ⟨fz_24, poz_25⟩ := u_23
              have hw_r_22 : lowE (upd f9 (72 + jx) ((f9 (72 + jx)) ||| ((nI 1) <<< ((nI e9) &&& 31)))) fz_24 := hw_r_22
              refine W.widen (k := 0) (n := 0) (Nat.le_of_ble_eq_true rfl) (Nat.le_of_ble_eq_true rfl) ?_
              replace hP : va_P D vwCl [(mkp, .inl (cs 0, 2304, .inl gz_7)), (hm, .inr (12, [.ref ms, .ref mkp, .int (nI kmz_6), .ref mtr, .int (nI n), .int (nI k), .int (nI al), .int (nI be), .int ea, .int pr, .ref mas, .int nq, .int poz_25, .int (nI en), .ref mso, .ref mon, .ref mot, .ref man, .int (nI 0), .int u_21, .ref mst, .ref msm, .ref mtb, .ref mti, .ref mfr, .ref mbn, .ref mbs, .ref mde, .int sF, .int sN, .int sS, .int ig, .long xa, .long xb, .ref maa, .ref mab, .ref mba, .ref mbb])), (ms, .inl (cs 0, 288, .inl fz_24)), (mso, .inl (cs 0, 16, .inl sof)), (mon, .inl (cs 0, 16, .inl onf)), (mot, .inl (cs 0, 16, .inl otf)), (man, .inl (cs 0, 16, .inl anf))] H := hP
              replace hD : va_D A [(mkp, .inl (cs 0, 2304, .inl gz_7)), (hm, .inr (12, [.ref ms, .ref mkp, .int (nI kmz_6), .ref mtr, .int (nI n), .int (nI k), .int (nI al), .int (nI be), .int ea, .int pr, .ref mas, .int nq, .int poz_25, .int (nI en), .ref mso, .ref mon, .ref mot, .ref man, .int (nI 0), .int u_21, .ref mst, .ref msm, .ref mtb, .ref mti, .ref mfr, .ref mbn, .ref mbs, .ref mde, .int sF, .int sN, .int sS, .int ig, .long xa, .long xb, .ref maa, .ref mab, .ref mba, .ref mbb])), (ms, .inl (cs 0, 288, .inl fz_24)), (mso, .inl (cs 0, 16, .inl sof)), (mon, .inl (cs 0, 16, .inl onf)), (mot, .inl (cs 0, 16, .inl otf)), (man, .inl (cs 0, 16, .inl anf))] := hD
              refine lv_if_le (tgt := 149) hx hb dX12_polls_125 (by decide) (fun c_26 => ?_) (fun c_26 => ?_)
              · -- 125 t
                refine lv_iinc (v := nI (o + 1)) (lv' := [(4, .int (nI (o + 1))), (8, .int r_20), (7, .int (nI e9)), (6, .int (leftF en (f9 (72 + jx)))), (5, .int (nI jx)), (3, .int c9), (0, .ref hm), (1, .int (nI nn)), (2, .int sd)]) hx hb dX12_polls_149 hl (k := 4) rfl (nI_add o 1) (by decide) rfl ?_
                clear hl
                try clear ls
                intro ls hl
                refine lv_goto (tgt := 31) hx hb dX12_polls_152 (by decide) ?_
                exact ih_loop_8 (o + 1) fz_24 poz_25 u_21 c9 (by omega) ((hw_r_22).col (polU_col hs9 _)) (⟨_, hR9, jx, h_jx, hw_r_10.2.1, Or.inr ⟨c_12, c_13, e9, l8, _, hee, by rw [hne9, ← hw_r_10.1, ← hw_r_16.2.1], by rw [← hw_r_10.1, ← hw_r_16.1]; exact hl8, hw_r_22⟩⟩) (by omega) H locs ls (xP_map hP [3, 4, 5, 6, 1, 2, 0] rfl) (hD.sub [3, 4, 5, 6, 1, 2, 0] (by decide) rfl) hS (lv_sub hl [0, 5, 6, 7, 8] rfl)
              · -- 125 f
                refine lv_aload_n hx hb dX12_polls_128 rfl (lv_at hl 6 rfl) ?_
                refine xget C hP 1 rfl rfl zuX12 0 (by decide) zw5_213 rfl dX12_polls_129 ?_
                refine lv_bipush (v := nI 64) hx hb dX12_polls_132 (by decide) ?_
                refine lv_iload hx hb dX12_polls_134 (lv_at hl 3 rfl) ?_
                refine lv_iadd hx hb dX12_polls_136 ?_
                refine lv_topi (nm_r (e' := nI (64 + jx)) (nI_add _ _) ?_)
                refine xiald C hP 2 rfl (64 + jx) rfl (by omega) (by decide) dX12_polls_137 ?_
                refine lv_iload hx hb dX12_polls_138 (lv_at hl 1 rfl) ?_
                refine xi (wr := [(mkp, .inl (cs 0, 2304, .inl gz_7)), (hm, .inr (12, [.ref ms, .ref mkp, .int (nI kmz_6), .ref mtr, .int (nI n), .int (nI k), .int (nI al), .int (nI be), .int ea, .int pr, .ref mas, .int nq, .int poz_25, .int (nI en), .ref mso, .ref mon, .ref mot, .ref man, .int (nI 0), .int u_21, .ref mst, .ref msm, .ref mtb, .ref mti, .ref mfr, .ref mbn, .ref mbs, .ref mde, .int sF, .int sN, .int sS, .int ig, .long xa, .long xb, .ref maa, .ref mab, .ref mba, .ref mbb])), (ms, .inl (cs 0, 288, .inl fz_24)), (mso, .inl (cs 0, 16, .inl sof)), (mon, .inl (cs 0, 16, .inl onf)), (mot, .inl (cs 0, 16, .inl otf)), (man, .inl (cs 0, 16, .inl anf))]) (xS (As := [.int (fz_24 (64 + jx)), .int (nI e9)]) (rest := []) C (c_X12_has l D cs (fz_24 (64 + jx)) e9) kX12_100 hP hD [] rfl (by decide) ⟨Nat.le_of_ble_eq_true rfl, Nat.le_of_ble_eq_true rfl⟩ rfl hl.1 rfl (Nat.le_of_ble_eq_true rfl) dX12_polls_140 ⟨Nat.le_of_ble_eq_true rfl, Nat.le_of_ble_eq_true rfl⟩) hP hD hS hA [] [0, 1, 2, 3, 4, 5, 6] rfl rfl (by decide) (by decide) ?_
                clear hP hD hS
                try clear locs
                try clear H
                intro r_27 u_28 H locs hw_r_27 hP hD hS
                have hw_r_27 : PQ (hasB (fz_24 (64 + jx)) e9) r_27 (nI 1) (nI 0) := hw_r_27
                refine W.widen (k := 0) (n := 0) (Nat.le_of_ble_eq_true rfl) (Nat.le_of_ble_eq_true rfl) ?_
                replace hP : va_P D vwCl [(mkp, .inl (cs 0, 2304, .inl gz_7)), (hm, .inr (12, [.ref ms, .ref mkp, .int (nI kmz_6), .ref mtr, .int (nI n), .int (nI k), .int (nI al), .int (nI be), .int ea, .int pr, .ref mas, .int nq, .int poz_25, .int (nI en), .ref mso, .ref mon, .ref mot, .ref man, .int (nI 0), .int u_21, .ref mst, .ref msm, .ref mtb, .ref mti, .ref mfr, .ref mbn, .ref mbs, .ref mde, .int sF, .int sN, .int sS, .int ig, .long xa, .long xb, .ref maa, .ref mab, .ref mba, .ref mbb])), (ms, .inl (cs 0, 288, .inl fz_24)), (mso, .inl (cs 0, 16, .inl sof)), (mon, .inl (cs 0, 16, .inl onf)), (mot, .inl (cs 0, 16, .inl otf)), (man, .inl (cs 0, 16, .inl anf))] H := hP
                replace hD : va_D A [(mkp, .inl (cs 0, 2304, .inl gz_7)), (hm, .inr (12, [.ref ms, .ref mkp, .int (nI kmz_6), .ref mtr, .int (nI n), .int (nI k), .int (nI al), .int (nI be), .int ea, .int pr, .ref mas, .int nq, .int poz_25, .int (nI en), .ref mso, .ref mon, .ref mot, .ref man, .int (nI 0), .int u_21, .ref mst, .ref msm, .ref mtb, .ref mti, .ref mfr, .ref mbn, .ref mbs, .ref mde, .int sF, .int sN, .int sS, .int ig, .long xa, .long xb, .ref maa, .ref mab, .ref mba, .ref mbb])), (ms, .inl (cs 0, 288, .inl fz_24)), (mso, .inl (cs 0, 16, .inl sof)), (mon, .inl (cs 0, 16, .inl onf)), (mot, .inl (cs 0, 16, .inl otf)), (man, .inl (cs 0, 16, .inl anf))] := hD
                refine lv_if_eq (tgt := 149) hx hb dX12_polls_143 (by decide) (fun c_29 => ?_) (fun c_29 => ?_)
                · -- 143 t
                  refine lv_iinc (v := nI (o + 1)) (lv' := [(4, .int (nI (o + 1))), (8, .int r_20), (7, .int (nI e9)), (6, .int (leftF en (f9 (72 + jx)))), (5, .int (nI jx)), (3, .int c9), (0, .ref hm), (1, .int (nI nn)), (2, .int sd)]) hx hb dX12_polls_149 hl (k := 4) rfl (nI_add o 1) (by decide) rfl ?_
                  clear hl
                  try clear ls
                  intro ls hl
                  refine lv_goto (tgt := 31) hx hb dX12_polls_152 (by decide) ?_
                  exact ih_loop_8 (o + 1) fz_24 poz_25 u_21 c9 (by omega) ((hw_r_22).col (polU_col hs9 _)) (⟨_, hR9, jx, h_jx, hw_r_10.2.1, Or.inr ⟨c_12, c_13, e9, l8, _, hee, by rw [hne9, ← hw_r_10.1, ← hw_r_16.2.1], by rw [← hw_r_10.1, ← hw_r_16.1]; exact hl8, hw_r_22⟩⟩) (by omega) H locs ls (xP_map hP [3, 4, 5, 6, 1, 2, 0] rfl) (hD.sub [3, 4, 5, 6, 1, 2, 0] (by decide) rfl) hS (lv_sub hl [0, 5, 6, 7, 8] rfl)
                · -- 143 f
                  refine lv_iinc (v := c9 + 1) (lv' := [(3, .int (c9 + 1)), (8, .int r_20), (7, .int (nI e9)), (6, .int (leftF en (f9 (72 + jx)))), (5, .int (nI jx)), (4, .int (nI o)), (0, .ref hm), (1, .int (nI nn)), (2, .int sd)]) hx hb dX12_polls_146 hl (k := 5) rfl rfl (by decide) rfl ?_
                  clear hl
                  try clear ls
                  intro ls hl
                  refine lv_iinc (v := nI (o + 1)) (lv' := [(4, .int (nI (o + 1))), (3, .int (c9 + 1)), (8, .int r_20), (7, .int (nI e9)), (6, .int (leftF en (f9 (72 + jx)))), (5, .int (nI jx)), (0, .ref hm), (1, .int (nI nn)), (2, .int sd)]) hx hb dX12_polls_149 hl (k := 5) rfl (nI_add o 1) (by decide) rfl ?_
                  clear hl
                  try clear ls
                  intro ls hl
                  refine lv_goto (tgt := 31) hx hb dX12_polls_152 (by decide) ?_
                  exact ih_loop_8 (o + 1) fz_24 poz_25 u_21 (c9 + 1) (by omega) ((hw_r_22).col (polU_col hs9 _)) (⟨_, hR9, jx, h_jx, hw_r_10.2.1, Or.inr ⟨c_12, c_13, e9, l8, _, hee, by rw [hne9, ← hw_r_10.1, ← hw_r_16.2.1], by rw [← hw_r_10.1, ← hw_r_16.1]; exact hl8, hw_r_22⟩⟩) (by omega) H locs ls (xP_map hP [3, 4, 5, 6, 1, 2, 0] rfl) (hD.sub [3, 4, 5, 6, 1, 2, 0] (by decide) rfl) hS (lv_sub hl [0, 1, 6, 7, 8] rfl)
            · -- 85 f
              refine lv_goto (tgt := 149) hx hb dX12_polls_88 (by decide) ?_
              refine lv_iinc (v := nI (o + 1)) (lv' := [(4, .int (nI (o + 1))), (6, .int (leftF en (f9 (72 + jx)))), (5, .int (nI jx)), (3, .int c9), (0, .ref hm), (1, .int (nI nn)), (2, .int sd)]) hx hb dX12_polls_149 hl (k := 2) rfl (nI_add o 1) (by decide) rfl ?_
              clear hl
              try clear ls
              intro ls hl
              refine lv_goto (tgt := 31) hx hb dX12_polls_152 (by decide) ?_
              exact ih_loop_8 (o + 1) f9 p9 u_11 c9 (by omega) hs9 (⟨_, hR9, jx, h_jx, hw_r_10.2.1, Or.inl ⟨fun q => q.2 (c_13), by rw [hw_r_10.1]⟩⟩) (by omega) H locs ls (xP_map hP [0, 1, 2, 3, 6, 4, 5] rfl) (hD.sub [0, 1, 2, 3, 6, 4, 5] (by decide) rfl) hS (lv_sub hl [0, 3, 4, 5, 6] rfl)
    exact loop_8 _ 0 f po sd (nI 0) (by omega) hs rfl (Nat.lt_succ_self _) H locs ls hP hD hS (lv_sub hl [0, 1, 2, 3, 4] rfl)
  · -- 12 f
    refine lv_iconst (v := (-1)) hx hb dX12_polls_15 (by decide) ?_
    exact xreti C (⟨km, f, g, po, xd⟩) (⟨⟨hs, hk, hkm⟩, Or.inr ⟨fun q => PQ.no hw_r_1 c_3 (by decide) q, rfl, ⟨rfl, rfl, rfl⟩, rfl⟩⟩) hP hD hS (Nat.le_of_ble_eq_true rfl) (Nat.le_of_ble_eq_true rfl) rfl dX12_polls_16

set_option maxHeartbeats 4000000 in
set_option maxRecDepth 100000 in
theorem c_X12_entry_f (l : Launch) (D : va_G) (cs : Nat → ClassId) (hm ms mkp mtr mas mso mon mot man mst msm mtb mti mfr mbn mbs mde maa mab mba mbb : Nat) (n k al be km en : Nat) (ea pr nq po th xd sF sN sS ig : Int32) (xa xb : Int64) (f : Nat → Int32) (sof onf otf anf : Nat → Int32) (x y z : Int32) (hn : 2 ≤ n ∧ n ≤ 8) (hen : en ≤ 16) (hso : inP 16 8 sof) (hon : parF en onf) (hot : parF en otf) (hs : colP f) (hkm : km ≤ 8) : xMet l D cs yX12_entry cX12_entry 6 (some .int) ({ frames := 2, cells := 0, slots := 0, locals := 44 } : Room) [.ref hm, .int x, .int y, .int z] [(hm, .inr (12, [.ref ms, .ref mkp, .int (nI km), .ref mtr, .int (nI n), .int (nI k), .int (nI al), .int (nI be), .int ea, .int pr, .ref mas, .int nq, .int po, .int (nI en), .ref mso, .ref mon, .ref mot, .ref man, .int th, .int xd, .ref mst, .ref msm, .ref mtb, .ref mti, .ref mfr, .ref mbn, .ref mbs, .ref mde, .int sF, .int sN, .int sS, .int ig, .long xa, .long xb, .ref maa, .ref mab, .ref mba, .ref mbb])), (ms, .inl (cs 0, 288, .inl f)), (mso, .inl (cs 0, 16, .inl sof)), (mon, .inl (cs 0, 16, .inl onf)), (mot, .inl (cs 0, 16, .inl otf)), (man, .inl (cs 0, 16, .inl anf))] (xQi D (fun (r : Int32) (u : Nat × Nat × (Nat → Int32) × (Nat → Int32) × (Nat → Int32) × (Nat → Int32) × (Nat → Int32)) => match u with | (enz, kmz, fz, soz, onz, otz, anz) => (PQ (entP en x y z) r (nI en) (-1) ∧ (entP en x y z → enz = en + 1) ∧ (¬ entP en x y z → enz = en)) ∧ (colP fz ∧ enz ≤ 16 ∧ kmz ≤ 8 ∧ inP 16 8 soz ∧ parF enz onz ∧ parF enz otz) ∧ lowE f fz ∧ (entP en x y z → kmz = 0) ∧ (¬ entP en x y z → kmz = km)) (fun (u : Nat × Nat × (Nat → Int32) × (Nat → Int32) × (Nat → Int32) × (Nat → Int32) × (Nat → Int32)) => match u with | (enz, kmz, fz, soz, onz, otz, anz) => [(hm, .inr (12, [.ref ms, .ref mkp, .int (nI kmz), .ref mtr, .int (nI n), .int (nI k), .int (nI al), .int (nI be), .int ea, .int pr, .ref mas, .int nq, .int po, .int (nI enz), .ref mso, .ref mon, .ref mot, .ref man, .int (nI 0), .int xd, .ref mst, .ref msm, .ref mtb, .ref mti, .ref mfr, .ref mbn, .ref mbs, .ref mde, .int sF, .int sN, .int sS, .int ig, .long xa, .long xb, .ref maa, .ref mab, .ref mba, .ref mbb])), (ms, .inl (cs 0, 288, .inl fz)), (mso, .inl (cs 0, 16, .inl soz)), (mon, .inl (cs 0, 16, .inl onz)), (mot, .inl (cs 0, 16, .inl otz)), (man, .inl (cs 0, 16, .inl anz))])) := by
  refine xMet.intro (by decide) (Nat.le_of_ble_eq_true rfl) ?_
  intro p e s m args below meth c A ls C hP hD hS hl
  have hx := C.1
  have hb := C.2.1
  have hz := C.2.2.2.2.1
  have hown := C.2.2.2.1
  have hA := C.2.2.2.2.2.2.2.2.2
  have hAO := C.2.2.2.2.2.2.2.2.1.2.2
  replace hl : lv_has ls 6 [(0, .ref hm), (1, .int x), (2, .int y), (3, .int z)] := hl
  obtain ⟨H, hH⟩ : ∃ H, H = s.heap := ⟨_, rfl⟩
  replace hP : va_P D vwCl [(hm, .inr (12, [.ref ms, .ref mkp, .int (nI km), .ref mtr, .int (nI n), .int (nI k), .int (nI al), .int (nI be), .int ea, .int pr, .ref mas, .int nq, .int po, .int (nI en), .ref mso, .ref mon, .ref mot, .ref man, .int th, .int xd, .ref mst, .ref msm, .ref mtb, .ref mti, .ref mfr, .ref mbn, .ref mbs, .ref mde, .int sF, .int sN, .int sS, .int ig, .long xa, .long xb, .ref maa, .ref mab, .ref mba, .ref mbb])), (ms, .inl (cs 0, 288, .inl f)), (mso, .inl (cs 0, 16, .inl sof)), (mon, .inl (cs 0, 16, .inl onf)), (mot, .inl (cs 0, 16, .inl otf)), (man, .inl (cs 0, 16, .inl anf))] H := by rw [hH]; exact hP
  replace hS : va_S A s.heap H [] := by rw [hH]; exact hS
  obtain ⟨locs, hlocs⟩ : ∃ z : List Loc, z = [] := ⟨_, rfl⟩
  rw [← hlocs] at hS
  suffices hW : W p l e ({ frames := 2, cells := 0, slots := 0, locals := 44 } : Room) s m args below meth c H locs 0 0 (MQ below ((xQi D (fun (r : Int32) (u : Nat × Nat × (Nat → Int32) × (Nat → Int32) × (Nat → Int32) × (Nat → Int32) × (Nat → Int32)) => match u with | (enz, kmz, fz, soz, onz, otz, anz) => (PQ (entP en x y z) r (nI en) (-1) ∧ (entP en x y z → enz = en + 1) ∧ (¬ entP en x y z → enz = en)) ∧ (colP fz ∧ enz ≤ 16 ∧ kmz ≤ 8 ∧ inP 16 8 soz ∧ parF enz onz ∧ parF enz otz) ∧ lowE f fz ∧ (entP en x y z → kmz = 0) ∧ (¬ entP en x y z → kmz = km)) (fun (u : Nat × Nat × (Nat → Int32) × (Nat → Int32) × (Nat → Int32) × (Nat → Int32) × (Nat → Int32)) => match u with | (enz, kmz, fz, soz, onz, otz, anz) => [(hm, .inr (12, [.ref ms, .ref mkp, .int (nI kmz), .ref mtr, .int (nI n), .int (nI k), .int (nI al), .int (nI be), .int ea, .int pr, .ref mas, .int nq, .int po, .int (nI enz), .ref mso, .ref mon, .ref mot, .ref man, .int (nI 0), .int xd, .ref mst, .ref msm, .ref mtb, .ref mti, .ref mfr, .ref mbn, .ref mbs, .ref mde, .int sF, .int sN, .int sS, .int ig, .long xa, .long xb, .ref maa, .ref mab, .ref mba, .ref mbb])), (ms, .inl (cs 0, 288, .inl fz)), (mso, .inl (cs 0, 16, .inl soz)), (mon, .inl (cs 0, 16, .inl onz)), (mot, .inl (cs 0, 16, .inl otz)), (man, .inl (cs 0, 16, .inl anz))])) A) args s 0 0 A) (F0 m 0 ls []) by rw [hlocs, hH] at hW; exact hW
  clear hH hlocs
  refine lv_aload_n hx hb dX12_entry_0 rfl (lv_at hl 0 rfl) ?_
  refine lv_iconst (v := nI 0) hx hb dX12_entry_1 (by decide) ?_
  refine xput C hP hD hS 0 rfl rfl zuX12 tyX12 tyX12_ok nmX12 18 (by decide) zw5_231 rfl rfl rfl (Nat.le_of_ble_eq_true rfl) dX12_entry_2 ?_
  clear hP hD hS
  try clear locs
  try clear H
  intro H locs hP hD hS
  replace hP : va_P D vwCl [(hm, .inr (12, [.ref ms, .ref mkp, .int (nI km), .ref mtr, .int (nI n), .int (nI k), .int (nI al), .int (nI be), .int ea, .int pr, .ref mas, .int nq, .int po, .int (nI en), .ref mso, .ref mon, .ref mot, .ref man, .int (nI 0), .int xd, .ref mst, .ref msm, .ref mtb, .ref mti, .ref mfr, .ref mbn, .ref mbs, .ref mde, .int sF, .int sN, .int sS, .int ig, .long xa, .long xb, .ref maa, .ref mab, .ref mba, .ref mbb])), (ms, .inl (cs 0, 288, .inl f)), (mso, .inl (cs 0, 16, .inl sof)), (mon, .inl (cs 0, 16, .inl onf)), (mot, .inl (cs 0, 16, .inl otf)), (man, .inl (cs 0, 16, .inl anf))] H := hP
  replace hD : va_D A [(hm, .inr (12, [.ref ms, .ref mkp, .int (nI km), .ref mtr, .int (nI n), .int (nI k), .int (nI al), .int (nI be), .int ea, .int pr, .ref mas, .int nq, .int po, .int (nI en), .ref mso, .ref mon, .ref mot, .ref man, .int (nI 0), .int xd, .ref mst, .ref msm, .ref mtb, .ref mti, .ref mfr, .ref mbn, .ref mbs, .ref mde, .int sF, .int sN, .int sS, .int ig, .long xa, .long xb, .ref maa, .ref mab, .ref mba, .ref mbb])), (ms, .inl (cs 0, 288, .inl f)), (mso, .inl (cs 0, 16, .inl sof)), (mon, .inl (cs 0, 16, .inl onf)), (mot, .inl (cs 0, 16, .inl otf)), (man, .inl (cs 0, 16, .inl anf))] := hD
  refine lv_iload_n hx hb dX12_entry_5 rfl (lv_at hl 1 rfl) ?_
  refine lv_iconst (v := nI 0) hx hb dX12_entry_6 (by decide) ?_
  refine lv_bipush (v := nI 7) hx hb dX12_entry_7 (by decide) ?_
  refine xi (wr := [(hm, .inr (12, [.ref ms, .ref mkp, .int (nI km), .ref mtr, .int (nI n), .int (nI k), .int (nI al), .int (nI be), .int ea, .int pr, .ref mas, .int nq, .int po, .int (nI en), .ref mso, .ref mon, .ref mot, .ref man, .int (nI 0), .int xd, .ref mst, .ref msm, .ref mtb, .ref mti, .ref mfr, .ref mbn, .ref mbs, .ref mde, .int sF, .int sN, .int sS, .int ig, .long xa, .long xb, .ref maa, .ref mab, .ref mba, .ref mbb])), (ms, .inl (cs 0, 288, .inl f)), (mso, .inl (cs 0, 16, .inl sof)), (mon, .inl (cs 0, 16, .inl onf)), (mot, .inl (cs 0, 16, .inl otf)), (man, .inl (cs 0, 16, .inl anf))]) (xS (As := [.int x, .int (nI 0), .int (nI 7)]) (rest := []) C (c_X12_within l D cs x (nI 0) (nI 7)) kX12_116 hP hD [] rfl (by decide) ⟨Nat.le_of_ble_eq_true rfl, Nat.le_of_ble_eq_true rfl⟩ rfl hl.1 rfl (Nat.le_of_ble_eq_true rfl) dX12_entry_9 ⟨Nat.le_of_ble_eq_true rfl, Nat.le_of_ble_eq_true rfl⟩) hP hD hS hA [] [0, 1, 2, 3, 4, 5] rfl rfl (by decide) (by decide) ?_
  clear hP hD hS
  try clear locs
  try clear H
  intro r_1 u_2 H locs hw_r_1 hP hD hS
  have hw_r_1 : PQ (¬ x < (nI 0) ∧ x ≤ (nI 7)) r_1 (nI 1) (nI 0) := hw_r_1
  refine W.widen (k := 0) (n := 0) (Nat.le_of_ble_eq_true rfl) (Nat.le_of_ble_eq_true rfl) ?_
  replace hP : va_P D vwCl [(hm, .inr (12, [.ref ms, .ref mkp, .int (nI km), .ref mtr, .int (nI n), .int (nI k), .int (nI al), .int (nI be), .int ea, .int pr, .ref mas, .int nq, .int po, .int (nI en), .ref mso, .ref mon, .ref mot, .ref man, .int (nI 0), .int xd, .ref mst, .ref msm, .ref mtb, .ref mti, .ref mfr, .ref mbn, .ref mbs, .ref mde, .int sF, .int sN, .int sS, .int ig, .long xa, .long xb, .ref maa, .ref mab, .ref mba, .ref mbb])), (ms, .inl (cs 0, 288, .inl f)), (mso, .inl (cs 0, 16, .inl sof)), (mon, .inl (cs 0, 16, .inl onf)), (mot, .inl (cs 0, 16, .inl otf)), (man, .inl (cs 0, 16, .inl anf))] H := hP
  replace hD : va_D A [(hm, .inr (12, [.ref ms, .ref mkp, .int (nI km), .ref mtr, .int (nI n), .int (nI k), .int (nI al), .int (nI be), .int ea, .int pr, .ref mas, .int nq, .int po, .int (nI en), .ref mso, .ref mon, .ref mot, .ref man, .int (nI 0), .int xd, .ref mst, .ref msm, .ref mtb, .ref mti, .ref mfr, .ref mbn, .ref mbs, .ref mde, .int sF, .int sN, .int sS, .int ig, .long xa, .long xb, .ref maa, .ref mab, .ref mba, .ref mbb])), (ms, .inl (cs 0, 288, .inl f)), (mso, .inl (cs 0, 16, .inl sof)), (mon, .inl (cs 0, 16, .inl onf)), (mot, .inl (cs 0, 16, .inl otf)), (man, .inl (cs 0, 16, .inl anf))] := hD
  refine lv_if_eq (tgt := 61) hx hb dX12_entry_12 (by decide) (fun c_3 => ?_) (fun c_3 => ?_)
  · -- 12 t
    have no_hxx := PQ.no hw_r_1 c_3 (by decide)
    refine lv_iconst (v := (-1)) hx hb dX12_entry_61 (by decide) ?_
    exact xreti C (⟨en, km, f, sof, onf, otf, anf⟩) (⟨⟨Or.inr ⟨fun q => no_hxx (okN_7 q.1), rfl⟩, fun q => absurd q (fun q => no_hxx (okN_7 q.1)), fun _ => rfl⟩, ⟨hs, hen, hkm, hso, hon, hot⟩, lowE.refl _, fun q => absurd q (fun q => no_hxx (okN_7 q.1)), fun _ => rfl⟩) hP hD hS (Nat.le_of_ble_eq_true rfl) (Nat.le_of_ble_eq_true rfl) rfl dX12_entry_62
  · -- 12 f
    have hxx := PQ.yes hw_r_1 c_3
    obtain ⟨x0, h_x0, rfl⟩ : ∃ j : Nat, j ≤ 7 ∧ x = nI j := nI_of2 (M := nI 7) (by decide) hxx.1 hxx.2
    replace hP : va_P D vwCl [(hm, .inr (12, [.ref ms, .ref mkp, .int (nI km), .ref mtr, .int (nI n), .int (nI k), .int (nI al), .int (nI be), .int ea, .int pr, .ref mas, .int nq, .int po, .int (nI en), .ref mso, .ref mon, .ref mot, .ref man, .int (nI 0), .int xd, .ref mst, .ref msm, .ref mtb, .ref mti, .ref mfr, .ref mbn, .ref mbs, .ref mde, .int sF, .int sN, .int sS, .int ig, .long xa, .long xb, .ref maa, .ref mab, .ref mba, .ref mbb])), (ms, .inl (cs 0, 288, .inl f)), (mso, .inl (cs 0, 16, .inl sof)), (mon, .inl (cs 0, 16, .inl onf)), (mot, .inl (cs 0, 16, .inl otf)), (man, .inl (cs 0, 16, .inl anf))] H := hP
    replace hD : va_D A [(hm, .inr (12, [.ref ms, .ref mkp, .int (nI km), .ref mtr, .int (nI n), .int (nI k), .int (nI al), .int (nI be), .int ea, .int pr, .ref mas, .int nq, .int po, .int (nI en), .ref mso, .ref mon, .ref mot, .ref man, .int (nI 0), .int xd, .ref mst, .ref msm, .ref mtb, .ref mti, .ref mfr, .ref mbn, .ref mbs, .ref mde, .int sF, .int sN, .int sS, .int ig, .long xa, .long xb, .ref maa, .ref mab, .ref mba, .ref mbb])), (ms, .inl (cs 0, 288, .inl f)), (mso, .inl (cs 0, 16, .inl sof)), (mon, .inl (cs 0, 16, .inl onf)), (mot, .inl (cs 0, 16, .inl otf)), (man, .inl (cs 0, 16, .inl anf))] := hD
    refine lv_iload_n hx hb dX12_entry_15 rfl (lv_at hl 2 rfl) ?_
    refine lv_iconst (v := (-1)) hx hb dX12_entry_16 (by decide) ?_
    refine lv_aload_n hx hb dX12_entry_17 rfl (lv_at hl 0 rfl) ?_
    refine xget C hP 0 rfl rfl zuX12 13 (by decide) zw5_226 rfl dX12_entry_18 ?_
    refine lv_iconst (v := nI 1) hx hb dX12_entry_21 (by decide) ?_
    refine lv_isub hx hb dX12_entry_22 ?_
    refine xi (wr := [(hm, .inr (12, [.ref ms, .ref mkp, .int (nI km), .ref mtr, .int (nI n), .int (nI k), .int (nI al), .int (nI be), .int ea, .int pr, .ref mas, .int nq, .int po, .int (nI en), .ref mso, .ref mon, .ref mot, .ref man, .int (nI 0), .int xd, .ref mst, .ref msm, .ref mtb, .ref mti, .ref mfr, .ref mbn, .ref mbs, .ref mde, .int sF, .int sN, .int sS, .int ig, .long xa, .long xb, .ref maa, .ref mab, .ref mba, .ref mbb])), (ms, .inl (cs 0, 288, .inl f)), (mso, .inl (cs 0, 16, .inl sof)), (mon, .inl (cs 0, 16, .inl onf)), (mot, .inl (cs 0, 16, .inl otf)), (man, .inl (cs 0, 16, .inl anf))]) (xS (As := [.int y, .int (-1), .int ((nI en) - (nI 1))]) (rest := []) C (c_X12_within l D cs y (-1) ((nI en) - (nI 1))) kX12_116 hP hD [] rfl (by decide) ⟨Nat.le_of_ble_eq_true rfl, Nat.le_of_ble_eq_true rfl⟩ rfl hl.1 rfl (Nat.le_of_ble_eq_true rfl) dX12_entry_23 ⟨Nat.le_of_ble_eq_true rfl, Nat.le_of_ble_eq_true rfl⟩) hP hD hS hA [] [0, 1, 2, 3, 4, 5] rfl rfl (by decide) (by decide) ?_
    clear hP hD hS
    try clear locs
    try clear H
    intro r_4 u_5 H locs hw_r_4 hP hD hS
    have hw_r_4 : PQ (¬ y < (-1) ∧ y ≤ ((nI en) - (nI 1))) r_4 (nI 1) (nI 0) := hw_r_4
    refine W.widen (k := 0) (n := 0) (Nat.le_of_ble_eq_true rfl) (Nat.le_of_ble_eq_true rfl) ?_
    replace hP : va_P D vwCl [(hm, .inr (12, [.ref ms, .ref mkp, .int (nI km), .ref mtr, .int (nI n), .int (nI k), .int (nI al), .int (nI be), .int ea, .int pr, .ref mas, .int nq, .int po, .int (nI en), .ref mso, .ref mon, .ref mot, .ref man, .int (nI 0), .int xd, .ref mst, .ref msm, .ref mtb, .ref mti, .ref mfr, .ref mbn, .ref mbs, .ref mde, .int sF, .int sN, .int sS, .int ig, .long xa, .long xb, .ref maa, .ref mab, .ref mba, .ref mbb])), (ms, .inl (cs 0, 288, .inl f)), (mso, .inl (cs 0, 16, .inl sof)), (mon, .inl (cs 0, 16, .inl onf)), (mot, .inl (cs 0, 16, .inl otf)), (man, .inl (cs 0, 16, .inl anf))] H := hP
    replace hD : va_D A [(hm, .inr (12, [.ref ms, .ref mkp, .int (nI km), .ref mtr, .int (nI n), .int (nI k), .int (nI al), .int (nI be), .int ea, .int pr, .ref mas, .int nq, .int po, .int (nI en), .ref mso, .ref mon, .ref mot, .ref man, .int (nI 0), .int xd, .ref mst, .ref msm, .ref mtb, .ref mti, .ref mfr, .ref mbn, .ref mbs, .ref mde, .int sF, .int sN, .int sS, .int ig, .long xa, .long xb, .ref maa, .ref mab, .ref mba, .ref mbb])), (ms, .inl (cs 0, 288, .inl f)), (mso, .inl (cs 0, 16, .inl sof)), (mon, .inl (cs 0, 16, .inl onf)), (mot, .inl (cs 0, 16, .inl otf)), (man, .inl (cs 0, 16, .inl anf))] := hD
    refine lv_if_eq (tgt := 61) hx hb dX12_entry_26 (by decide) (fun c_6 => ?_) (fun c_6 => ?_)
    · -- 26 t
      have no_hyy := PQ.no hw_r_4 c_6 (by decide)
      refine lv_iconst (v := (-1)) hx hb dX12_entry_61 (by decide) ?_
      exact xreti C (⟨en, km, f, sof, onf, otf, anf⟩) (⟨⟨Or.inr ⟨fun q => no_hyy (par_to hen q.2.1), rfl⟩, fun q => absurd q (fun q => no_hyy (par_to hen q.2.1)), fun _ => rfl⟩, ⟨hs, hen, hkm, hso, hon, hot⟩, lowE.refl _, fun q => absurd q (fun q => no_hyy (par_to hen q.2.1)), fun _ => rfl⟩) hP hD hS (Nat.le_of_ble_eq_true rfl) (Nat.le_of_ble_eq_true rfl) rfl dX12_entry_62
    · -- 26 f
      have hyy := PQ.yes hw_r_4 c_6
      refine lv_iload_n hx hb dX12_entry_29 rfl (lv_at hl 3 rfl) ?_
      refine lv_iconst (v := (-1)) hx hb dX12_entry_30 (by decide) ?_
      refine lv_aload_n hx hb dX12_entry_31 rfl (lv_at hl 0 rfl) ?_
      refine xget C hP 0 rfl rfl zuX12 13 (by decide) zw5_226 rfl dX12_entry_32 ?_
      refine lv_iconst (v := nI 1) hx hb dX12_entry_35 (by decide) ?_
      refine lv_isub hx hb dX12_entry_36 ?_
      refine xi (wr := [(hm, .inr (12, [.ref ms, .ref mkp, .int (nI km), .ref mtr, .int (nI n), .int (nI k), .int (nI al), .int (nI be), .int ea, .int pr, .ref mas, .int nq, .int po, .int (nI en), .ref mso, .ref mon, .ref mot, .ref man, .int (nI 0), .int xd, .ref mst, .ref msm, .ref mtb, .ref mti, .ref mfr, .ref mbn, .ref mbs, .ref mde, .int sF, .int sN, .int sS, .int ig, .long xa, .long xb, .ref maa, .ref mab, .ref mba, .ref mbb])), (ms, .inl (cs 0, 288, .inl f)), (mso, .inl (cs 0, 16, .inl sof)), (mon, .inl (cs 0, 16, .inl onf)), (mot, .inl (cs 0, 16, .inl otf)), (man, .inl (cs 0, 16, .inl anf))]) (xS (As := [.int z, .int (-1), .int ((nI en) - (nI 1))]) (rest := []) C (c_X12_within l D cs z (-1) ((nI en) - (nI 1))) kX12_116 hP hD [] rfl (by decide) ⟨Nat.le_of_ble_eq_true rfl, Nat.le_of_ble_eq_true rfl⟩ rfl hl.1 rfl (Nat.le_of_ble_eq_true rfl) dX12_entry_37 ⟨Nat.le_of_ble_eq_true rfl, Nat.le_of_ble_eq_true rfl⟩) hP hD hS hA [] [0, 1, 2, 3, 4, 5] rfl rfl (by decide) (by decide) ?_
      clear hP hD hS
      try clear locs
      try clear H
      intro r_7 u_8 H locs hw_r_7 hP hD hS
      have hw_r_7 : PQ (¬ z < (-1) ∧ z ≤ ((nI en) - (nI 1))) r_7 (nI 1) (nI 0) := hw_r_7
      refine W.widen (k := 0) (n := 0) (Nat.le_of_ble_eq_true rfl) (Nat.le_of_ble_eq_true rfl) ?_
      replace hP : va_P D vwCl [(hm, .inr (12, [.ref ms, .ref mkp, .int (nI km), .ref mtr, .int (nI n), .int (nI k), .int (nI al), .int (nI be), .int ea, .int pr, .ref mas, .int nq, .int po, .int (nI en), .ref mso, .ref mon, .ref mot, .ref man, .int (nI 0), .int xd, .ref mst, .ref msm, .ref mtb, .ref mti, .ref mfr, .ref mbn, .ref mbs, .ref mde, .int sF, .int sN, .int sS, .int ig, .long xa, .long xb, .ref maa, .ref mab, .ref mba, .ref mbb])), (ms, .inl (cs 0, 288, .inl f)), (mso, .inl (cs 0, 16, .inl sof)), (mon, .inl (cs 0, 16, .inl onf)), (mot, .inl (cs 0, 16, .inl otf)), (man, .inl (cs 0, 16, .inl anf))] H := hP
      replace hD : va_D A [(hm, .inr (12, [.ref ms, .ref mkp, .int (nI km), .ref mtr, .int (nI n), .int (nI k), .int (nI al), .int (nI be), .int ea, .int pr, .ref mas, .int nq, .int po, .int (nI en), .ref mso, .ref mon, .ref mot, .ref man, .int (nI 0), .int xd, .ref mst, .ref msm, .ref mtb, .ref mti, .ref mfr, .ref mbn, .ref mbs, .ref mde, .int sF, .int sN, .int sS, .int ig, .long xa, .long xb, .ref maa, .ref mab, .ref mba, .ref mbb])), (ms, .inl (cs 0, 288, .inl f)), (mso, .inl (cs 0, 16, .inl sof)), (mon, .inl (cs 0, 16, .inl onf)), (mot, .inl (cs 0, 16, .inl otf)), (man, .inl (cs 0, 16, .inl anf))] := hD
      refine lv_if_eq (tgt := 61) hx hb dX12_entry_40 (by decide) (fun c_9 => ?_) (fun c_9 => ?_)
      · -- 40 t
        have no_hzz := PQ.no hw_r_7 c_9 (by decide)
        refine lv_iconst (v := (-1)) hx hb dX12_entry_61 (by decide) ?_
        exact xreti C (⟨en, km, f, sof, onf, otf, anf⟩) (⟨⟨Or.inr ⟨fun q => no_hzz (par_to hen q.2.2.1), rfl⟩, fun q => absurd q (fun q => no_hzz (par_to hen q.2.2.1)), fun _ => rfl⟩, ⟨hs, hen, hkm, hso, hon, hot⟩, lowE.refl _, fun q => absurd q (fun q => no_hzz (par_to hen q.2.2.1)), fun _ => rfl⟩) hP hD hS (Nat.le_of_ble_eq_true rfl) (Nat.le_of_ble_eq_true rfl) rfl dX12_entry_62
      · -- 40 f
        have hzz := PQ.yes hw_r_7 c_9
        rcases (par2 (par_of hen hyy) (par_of hen hzz)) with ⟨rfl, rfl⟩ | ⟨rfl, jz, h_jz, rfl⟩ | ⟨⟨jy, h_jy, rfl⟩, rfl⟩ | ⟨⟨jy, h_jy, rfl⟩, jz, h_jz, rfl⟩
        · -- split
          replace hP : va_P D vwCl [(hm, .inr (12, [.ref ms, .ref mkp, .int (nI km), .ref mtr, .int (nI n), .int (nI k), .int (nI al), .int (nI be), .int ea, .int pr, .ref mas, .int nq, .int po, .int (nI en), .ref mso, .ref mon, .ref mot, .ref man, .int (nI 0), .int xd, .ref mst, .ref msm, .ref mtb, .ref mti, .ref mfr, .ref mbn, .ref mbs, .ref mde, .int sF, .int sN, .int sS, .int ig, .long xa, .long xb, .ref maa, .ref mab, .ref mba, .ref mbb])), (ms, .inl (cs 0, 288, .inl f)), (mso, .inl (cs 0, 16, .inl sof)), (mon, .inl (cs 0, 16, .inl onf)), (mot, .inl (cs 0, 16, .inl otf)), (man, .inl (cs 0, 16, .inl anf))] H := hP
          replace hD : va_D A [(hm, .inr (12, [.ref ms, .ref mkp, .int (nI km), .ref mtr, .int (nI n), .int (nI k), .int (nI al), .int (nI be), .int ea, .int pr, .ref mas, .int nq, .int po, .int (nI en), .ref mso, .ref mon, .ref mot, .ref man, .int (nI 0), .int xd, .ref mst, .ref msm, .ref mtb, .ref mti, .ref mfr, .ref mbn, .ref mbs, .ref mde, .int sF, .int sN, .int sS, .int ig, .long xa, .long xb, .ref maa, .ref mab, .ref mba, .ref mbb])), (ms, .inl (cs 0, 288, .inl f)), (mso, .inl (cs 0, 16, .inl sof)), (mon, .inl (cs 0, 16, .inl onf)), (mot, .inl (cs 0, 16, .inl otf)), (man, .inl (cs 0, 16, .inl anf))] := hD
          refine lv_iload_n hx hb dX12_entry_43 rfl (lv_at hl 2 rfl) ?_
          refine lv_if_lt (tgt := 52) hx hb dX12_entry_44 (by decide) (fun _ => ?_) (fun c => absurd (by decide) c)
          refine lv_aload_n hx hb dX12_entry_52 rfl (lv_at hl 0 rfl) ?_
          refine xget C hP 0 rfl rfl zuX12 13 (by decide) zw5_226 rfl dX12_entry_53 ?_
          refine lv_bipush (v := nI 16) hx hb dX12_entry_56 (by decide) ?_
          refine lv_icmp_ne (tgt := 63) hx hb dX12_entry_58 (by decide) (fun c_10 => ?_) (fun c_10 => ?_)
          · -- 58 t
            have fc_10 : en ≠ 16 := nf_ne (by omega) (by omega) c_10
            refine lv_aload_n hx hb dX12_entry_63 rfl (lv_at hl 0 rfl) ?_
            refine xget C hP 0 rfl rfl zuX12 13 (by decide) zw5_226 rfl dX12_entry_64 ?_
            refine lv_istore (lv' := [(4, .int (nI en)), (0, .ref hm), (1, .int (nI x0)), (2, .int (-1)), (3, .int (-1))]) hx hb dX12_entry_67 hl (by decide) rfl ?_
            clear hl
            try clear ls
            intro ls hl
            refine lv_aload_n hx hb dX12_entry_69 rfl (lv_at hl 1 rfl) ?_
            refine xget C hP 0 rfl rfl zuX12 14 (by decide) zw5_227 rfl dX12_entry_70 ?_
            refine lv_iload hx hb dX12_entry_73 (lv_at hl 0 rfl) ?_
            refine lv_iload_n hx hb dX12_entry_75 rfl (lv_at hl 2 rfl) ?_
            refine xiast C hP hD hS 2 rfl en rfl (by omega) (by decide) dX12_entry_76 ?_
            clear hP hD hS
            try clear locs
            try clear H
            intro H locs hP hD hS
            replace hP : va_P D vwCl [(hm, .inr (12, [.ref ms, .ref mkp, .int (nI km), .ref mtr, .int (nI n), .int (nI k), .int (nI al), .int (nI be), .int ea, .int pr, .ref mas, .int nq, .int po, .int (nI en), .ref mso, .ref mon, .ref mot, .ref man, .int (nI 0), .int xd, .ref mst, .ref msm, .ref mtb, .ref mti, .ref mfr, .ref mbn, .ref mbs, .ref mde, .int sF, .int sN, .int sS, .int ig, .long xa, .long xb, .ref maa, .ref mab, .ref mba, .ref mbb])), (ms, .inl (cs 0, 288, .inl f)), (mso, .inl (cs 0, 16, .inl (upd sof en (nI x0)))), (mon, .inl (cs 0, 16, .inl onf)), (mot, .inl (cs 0, 16, .inl otf)), (man, .inl (cs 0, 16, .inl anf))] H := hP
            replace hD : va_D A [(hm, .inr (12, [.ref ms, .ref mkp, .int (nI km), .ref mtr, .int (nI n), .int (nI k), .int (nI al), .int (nI be), .int ea, .int pr, .ref mas, .int nq, .int po, .int (nI en), .ref mso, .ref mon, .ref mot, .ref man, .int (nI 0), .int xd, .ref mst, .ref msm, .ref mtb, .ref mti, .ref mfr, .ref mbn, .ref mbs, .ref mde, .int sF, .int sN, .int sS, .int ig, .long xa, .long xb, .ref maa, .ref mab, .ref mba, .ref mbb])), (ms, .inl (cs 0, 288, .inl f)), (mso, .inl (cs 0, 16, .inl (upd sof en (nI x0)))), (mon, .inl (cs 0, 16, .inl onf)), (mot, .inl (cs 0, 16, .inl otf)), (man, .inl (cs 0, 16, .inl anf))] := hD
            refine lv_aload_n hx hb dX12_entry_77 rfl (lv_at hl 1 rfl) ?_
            refine xget C hP 0 rfl rfl zuX12 15 (by decide) zw5_228 rfl dX12_entry_78 ?_
            refine lv_iload hx hb dX12_entry_81 (lv_at hl 0 rfl) ?_
            refine lv_iload_n hx hb dX12_entry_83 rfl (lv_at hl 3 rfl) ?_
            refine xiast C hP hD hS 3 rfl en rfl (by omega) (by decide) dX12_entry_84 ?_
            clear hP hD hS
            try clear locs
            try clear H
            intro H locs hP hD hS
            replace hP : va_P D vwCl [(hm, .inr (12, [.ref ms, .ref mkp, .int (nI km), .ref mtr, .int (nI n), .int (nI k), .int (nI al), .int (nI be), .int ea, .int pr, .ref mas, .int nq, .int po, .int (nI en), .ref mso, .ref mon, .ref mot, .ref man, .int (nI 0), .int xd, .ref mst, .ref msm, .ref mtb, .ref mti, .ref mfr, .ref mbn, .ref mbs, .ref mde, .int sF, .int sN, .int sS, .int ig, .long xa, .long xb, .ref maa, .ref mab, .ref mba, .ref mbb])), (ms, .inl (cs 0, 288, .inl f)), (mso, .inl (cs 0, 16, .inl (upd sof en (nI x0)))), (mon, .inl (cs 0, 16, .inl (upd onf en (-1)))), (mot, .inl (cs 0, 16, .inl otf)), (man, .inl (cs 0, 16, .inl anf))] H := hP
            replace hD : va_D A [(hm, .inr (12, [.ref ms, .ref mkp, .int (nI km), .ref mtr, .int (nI n), .int (nI k), .int (nI al), .int (nI be), .int ea, .int pr, .ref mas, .int nq, .int po, .int (nI en), .ref mso, .ref mon, .ref mot, .ref man, .int (nI 0), .int xd, .ref mst, .ref msm, .ref mtb, .ref mti, .ref mfr, .ref mbn, .ref mbs, .ref mde, .int sF, .int sN, .int sS, .int ig, .long xa, .long xb, .ref maa, .ref mab, .ref mba, .ref mbb])), (ms, .inl (cs 0, 288, .inl f)), (mso, .inl (cs 0, 16, .inl (upd sof en (nI x0)))), (mon, .inl (cs 0, 16, .inl (upd onf en (-1)))), (mot, .inl (cs 0, 16, .inl otf)), (man, .inl (cs 0, 16, .inl anf))] := hD
            refine lv_aload_n hx hb dX12_entry_85 rfl (lv_at hl 1 rfl) ?_
            refine xget C hP 0 rfl rfl zuX12 16 (by decide) zw5_229 rfl dX12_entry_86 ?_
            refine lv_iload hx hb dX12_entry_89 (lv_at hl 0 rfl) ?_
            refine lv_iload_n hx hb dX12_entry_91 rfl (lv_at hl 4 rfl) ?_
            refine xiast C hP hD hS 4 rfl en rfl (by omega) (by decide) dX12_entry_92 ?_
            clear hP hD hS
            try clear locs
            try clear H
            intro H locs hP hD hS
            replace hP : va_P D vwCl [(hm, .inr (12, [.ref ms, .ref mkp, .int (nI km), .ref mtr, .int (nI n), .int (nI k), .int (nI al), .int (nI be), .int ea, .int pr, .ref mas, .int nq, .int po, .int (nI en), .ref mso, .ref mon, .ref mot, .ref man, .int (nI 0), .int xd, .ref mst, .ref msm, .ref mtb, .ref mti, .ref mfr, .ref mbn, .ref mbs, .ref mde, .int sF, .int sN, .int sS, .int ig, .long xa, .long xb, .ref maa, .ref mab, .ref mba, .ref mbb])), (ms, .inl (cs 0, 288, .inl f)), (mso, .inl (cs 0, 16, .inl (upd sof en (nI x0)))), (mon, .inl (cs 0, 16, .inl (upd onf en (-1)))), (mot, .inl (cs 0, 16, .inl (upd otf en (-1)))), (man, .inl (cs 0, 16, .inl anf))] H := hP
            replace hD : va_D A [(hm, .inr (12, [.ref ms, .ref mkp, .int (nI km), .ref mtr, .int (nI n), .int (nI k), .int (nI al), .int (nI be), .int ea, .int pr, .ref mas, .int nq, .int po, .int (nI en), .ref mso, .ref mon, .ref mot, .ref man, .int (nI 0), .int xd, .ref mst, .ref msm, .ref mtb, .ref mti, .ref mfr, .ref mbn, .ref mbs, .ref mde, .int sF, .int sN, .int sS, .int ig, .long xa, .long xb, .ref maa, .ref mab, .ref mba, .ref mbb])), (ms, .inl (cs 0, 288, .inl f)), (mso, .inl (cs 0, 16, .inl (upd sof en (nI x0)))), (mon, .inl (cs 0, 16, .inl (upd onf en (-1)))), (mot, .inl (cs 0, 16, .inl (upd otf en (-1)))), (man, .inl (cs 0, 16, .inl anf))] := hD
            refine lv_aload_n hx hb dX12_entry_93 rfl (lv_at hl 1 rfl) ?_
            refine xget C hP 0 rfl rfl zuX12 17 (by decide) zw5_230 rfl dX12_entry_94 ?_
            refine lv_iload hx hb dX12_entry_97 (lv_at hl 0 rfl) ?_
            refine lv_iconst (v := nI 0) hx hb dX12_entry_99 (by decide) ?_
            refine xiast C hP hD hS 5 rfl en rfl (by omega) (by decide) dX12_entry_100 ?_
            clear hP hD hS
            try clear locs
            try clear H
            intro H locs hP hD hS
            replace hP : va_P D vwCl [(hm, .inr (12, [.ref ms, .ref mkp, .int (nI km), .ref mtr, .int (nI n), .int (nI k), .int (nI al), .int (nI be), .int ea, .int pr, .ref mas, .int nq, .int po, .int (nI en), .ref mso, .ref mon, .ref mot, .ref man, .int (nI 0), .int xd, .ref mst, .ref msm, .ref mtb, .ref mti, .ref mfr, .ref mbn, .ref mbs, .ref mde, .int sF, .int sN, .int sS, .int ig, .long xa, .long xb, .ref maa, .ref mab, .ref mba, .ref mbb])), (ms, .inl (cs 0, 288, .inl f)), (mso, .inl (cs 0, 16, .inl (upd sof en (nI x0)))), (mon, .inl (cs 0, 16, .inl (upd onf en (-1)))), (mot, .inl (cs 0, 16, .inl (upd otf en (-1)))), (man, .inl (cs 0, 16, .inl (upd anf en (nI 0))))] H := hP
            replace hD : va_D A [(hm, .inr (12, [.ref ms, .ref mkp, .int (nI km), .ref mtr, .int (nI n), .int (nI k), .int (nI al), .int (nI be), .int ea, .int pr, .ref mas, .int nq, .int po, .int (nI en), .ref mso, .ref mon, .ref mot, .ref man, .int (nI 0), .int xd, .ref mst, .ref msm, .ref mtb, .ref mti, .ref mfr, .ref mbn, .ref mbs, .ref mde, .int sF, .int sN, .int sS, .int ig, .long xa, .long xb, .ref maa, .ref mab, .ref mba, .ref mbb])), (ms, .inl (cs 0, 288, .inl f)), (mso, .inl (cs 0, 16, .inl (upd sof en (nI x0)))), (mon, .inl (cs 0, 16, .inl (upd onf en (-1)))), (mot, .inl (cs 0, 16, .inl (upd otf en (-1)))), (man, .inl (cs 0, 16, .inl (upd anf en (nI 0))))] := hD
            refine lv_iload_n hx hb dX12_entry_101 rfl (lv_at hl 3 rfl) ?_
            refine lv_if_lt (tgt := 125) hx hb dX12_entry_102 (by decide) (fun _ => ?_) (fun c => absurd (by decide) c)
            refine lv_iload_n hx hb dX12_entry_125 rfl (lv_at hl 4 rfl) ?_
            refine lv_if_lt (tgt := 149) hx hb dX12_entry_126 (by decide) (fun _ => ?_) (fun c => absurd (by decide) c)
            refine lv_aload_n hx hb dX12_entry_149 rfl (lv_at hl 1 rfl) ?_
            refine lv_dup hx hb dX12_entry_150 rfl ?_
            refine xget C hP 0 rfl rfl zuX12 13 (by decide) zw5_226 rfl dX12_entry_151 ?_
            refine lv_iconst (v := nI 1) hx hb dX12_entry_154 (by decide) ?_
            refine lv_iadd hx hb dX12_entry_155 ?_
            refine lv_topi (nm_r (e' := nI (en + 1)) (nI_add _ _) ?_)
            refine xput C hP hD hS 0 rfl rfl zuX12 tyX12 tyX12_ok nmX12 13 (by decide) zw5_226 rfl rfl rfl (Nat.le_of_ble_eq_true rfl) dX12_entry_156 ?_
            clear hP hD hS
            try clear locs
            try clear H
            intro H locs hP hD hS
            replace hP : va_P D vwCl [(hm, .inr (12, [.ref ms, .ref mkp, .int (nI km), .ref mtr, .int (nI n), .int (nI k), .int (nI al), .int (nI be), .int ea, .int pr, .ref mas, .int nq, .int po, .int (nI (en + 1)), .ref mso, .ref mon, .ref mot, .ref man, .int (nI 0), .int xd, .ref mst, .ref msm, .ref mtb, .ref mti, .ref mfr, .ref mbn, .ref mbs, .ref mde, .int sF, .int sN, .int sS, .int ig, .long xa, .long xb, .ref maa, .ref mab, .ref mba, .ref mbb])), (ms, .inl (cs 0, 288, .inl f)), (mso, .inl (cs 0, 16, .inl (upd sof en (nI x0)))), (mon, .inl (cs 0, 16, .inl (upd onf en (-1)))), (mot, .inl (cs 0, 16, .inl (upd otf en (-1)))), (man, .inl (cs 0, 16, .inl (upd anf en (nI 0))))] H := hP
            replace hD : va_D A [(hm, .inr (12, [.ref ms, .ref mkp, .int (nI km), .ref mtr, .int (nI n), .int (nI k), .int (nI al), .int (nI be), .int ea, .int pr, .ref mas, .int nq, .int po, .int (nI (en + 1)), .ref mso, .ref mon, .ref mot, .ref man, .int (nI 0), .int xd, .ref mst, .ref msm, .ref mtb, .ref mti, .ref mfr, .ref mbn, .ref mbs, .ref mde, .int sF, .int sN, .int sS, .int ig, .long xa, .long xb, .ref maa, .ref mab, .ref mba, .ref mbb])), (ms, .inl (cs 0, 288, .inl f)), (mso, .inl (cs 0, 16, .inl (upd sof en (nI x0)))), (mon, .inl (cs 0, 16, .inl (upd onf en (-1)))), (mot, .inl (cs 0, 16, .inl (upd otf en (-1)))), (man, .inl (cs 0, 16, .inl (upd anf en (nI 0))))] := hD
            refine lv_iconst (v := nI 0) hx hb dX12_entry_159 (by decide) ?_
            refine lv_istore (lv' := [(5, .int (nI 0)), (4, .int (nI en)), (0, .ref hm), (1, .int (nI x0)), (2, .int (-1)), (3, .int (-1))]) hx hb dX12_entry_160 hl (by decide) rfl ?_
            clear hl
            try clear ls
            intro ls hl
            have loop_11 : ∀ (n_loop_11 : Nat) (o : Nat) (f9 : Nat → Int32), (o ≤ 8) → (lowE f f9) → 8 - o < n_loop_11 → ∀ (H : Heap) (locs : List Loc) (ls : Array Slot), va_P D vwCl [(hm, .inr (12, [.ref ms, .ref mkp, .int (nI km), .ref mtr, .int (nI n), .int (nI k), .int (nI al), .int (nI be), .int ea, .int pr, .ref mas, .int nq, .int po, .int (nI (en + 1)), .ref mso, .ref mon, .ref mot, .ref man, .int (nI 0), .int xd, .ref mst, .ref msm, .ref mtb, .ref mti, .ref mfr, .ref mbn, .ref mbs, .ref mde, .int sF, .int sN, .int sS, .int ig, .long xa, .long xb, .ref maa, .ref mab, .ref mba, .ref mbb])), (ms, .inl (cs 0, 288, .inl f9)), (mso, .inl (cs 0, 16, .inl (upd sof en (nI x0)))), (mon, .inl (cs 0, 16, .inl (upd onf en (-1)))), (mot, .inl (cs 0, 16, .inl (upd otf en (-1)))), (man, .inl (cs 0, 16, .inl (upd anf en (nI 0))))] H → va_D A [(hm, .inr (12, [.ref ms, .ref mkp, .int (nI km), .ref mtr, .int (nI n), .int (nI k), .int (nI al), .int (nI be), .int ea, .int pr, .ref mas, .int nq, .int po, .int (nI (en + 1)), .ref mso, .ref mon, .ref mot, .ref man, .int (nI 0), .int xd, .ref mst, .ref msm, .ref mtb, .ref mti, .ref mfr, .ref mbn, .ref mbs, .ref mde, .int sF, .int sN, .int sS, .int ig, .long xa, .long xb, .ref maa, .ref mab, .ref mba, .ref mbb])), (ms, .inl (cs 0, 288, .inl f9)), (mso, .inl (cs 0, 16, .inl (upd sof en (nI x0)))), (mon, .inl (cs 0, 16, .inl (upd onf en (-1)))), (mot, .inl (cs 0, 16, .inl (upd otf en (-1)))), (man, .inl (cs 0, 16, .inl (upd anf en (nI 0))))] → va_S A s.heap H locs → lv_has ls 6 [(5, .int (nI o)), (4, .int (nI en)), (0, .ref hm), (1, .int (nI x0)), (2, .int (-1)), (3, .int (-1))] → W p l e ({ frames := 2, cells := 0, slots := 0, locals := 44 } : Room) s m args below meth c H locs 0 0 (MQ below ((xQi D (fun (r : Int32) (u : Nat × Nat × (Nat → Int32) × (Nat → Int32) × (Nat → Int32) × (Nat → Int32) × (Nat → Int32)) => match u with | (enz, kmz, fz, soz, onz, otz, anz) => (PQ (entP en (nI x0) (-1) (-1)) r (nI en) (-1) ∧ (entP en (nI x0) (-1) (-1) → enz = en + 1) ∧ (¬ entP en (nI x0) (-1) (-1) → enz = en)) ∧ (colP fz ∧ enz ≤ 16 ∧ kmz ≤ 8 ∧ inP 16 8 soz ∧ parF enz onz ∧ parF enz otz) ∧ lowE f fz ∧ (entP en (nI x0) (-1) (-1) → kmz = 0) ∧ (¬ entP en (nI x0) (-1) (-1) → kmz = km)) (fun (u : Nat × Nat × (Nat → Int32) × (Nat → Int32) × (Nat → Int32) × (Nat → Int32) × (Nat → Int32)) => match u with | (enz, kmz, fz, soz, onz, otz, anz) => [(hm, .inr (12, [.ref ms, .ref mkp, .int (nI kmz), .ref mtr, .int (nI n), .int (nI k), .int (nI al), .int (nI be), .int ea, .int pr, .ref mas, .int nq, .int po, .int (nI enz), .ref mso, .ref mon, .ref mot, .ref man, .int (nI 0), .int xd, .ref mst, .ref msm, .ref mtb, .ref mti, .ref mfr, .ref mbn, .ref mbs, .ref mde, .int sF, .int sN, .int sS, .int ig, .long xa, .long xb, .ref maa, .ref mab, .ref mba, .ref mbb])), (ms, .inl (cs 0, 288, .inl fz)), (mso, .inl (cs 0, 16, .inl soz)), (mon, .inl (cs 0, 16, .inl onz)), (mot, .inl (cs 0, 16, .inl otz)), (man, .inl (cs 0, 16, .inl anz))])) A) args s 0 0 A) (F0 m 162 ls []) := by
              intro n_loop_11
              induction n_loop_11 with
              | zero => intro o f9 h_o hw9 hlt H locs ls hP hD hS hl; exact absurd hlt (Nat.not_lt_zero _)
              | succ n_loop_11 ih_loop_11 =>
                intro o f9 h_o hw9 hlt_loop_11 H locs ls hP hD hS hl
                refine lv_iload hx hb dX12_entry_162 (lv_at hl 0 rfl) ?_
                refine lv_bipush (v := nI 8) hx hb dX12_entry_164 (by decide) ?_
                refine lv_icmp_ge (tgt := 237) hx hb dX12_entry_166 (by decide) (fun c_12 => ?_) (fun c_12 => ?_)
                · -- 166 t
                  have fc_12 : 8 ≤ o := nf_le (by omega) (by omega) c_12
                  refine lv_aload_n hx hb dX12_entry_237 rfl (lv_at hl 2 rfl) ?_
                  refine lv_iconst (v := nI 0) hx hb dX12_entry_238 (by decide) ?_
                  refine xput C hP hD hS 0 rfl rfl zuX12 tyX12 tyX12_ok nmX12 2 (by decide) zw5_215 rfl rfl rfl (Nat.le_of_ble_eq_true rfl) dX12_entry_239 ?_
                  clear hP hD hS
                  try clear locs
                  try clear H
                  intro H locs hP hD hS
                  replace hP : va_P D vwCl [(hm, .inr (12, [.ref ms, .ref mkp, .int (nI 0), .ref mtr, .int (nI n), .int (nI k), .int (nI al), .int (nI be), .int ea, .int pr, .ref mas, .int nq, .int po, .int (nI (en + 1)), .ref mso, .ref mon, .ref mot, .ref man, .int (nI 0), .int xd, .ref mst, .ref msm, .ref mtb, .ref mti, .ref mfr, .ref mbn, .ref mbs, .ref mde, .int sF, .int sN, .int sS, .int ig, .long xa, .long xb, .ref maa, .ref mab, .ref mba, .ref mbb])), (ms, .inl (cs 0, 288, .inl f9)), (mso, .inl (cs 0, 16, .inl (upd sof en (nI x0)))), (mon, .inl (cs 0, 16, .inl (upd onf en (-1)))), (mot, .inl (cs 0, 16, .inl (upd otf en (-1)))), (man, .inl (cs 0, 16, .inl (upd anf en (nI 0))))] H := hP
                  replace hD : va_D A [(hm, .inr (12, [.ref ms, .ref mkp, .int (nI 0), .ref mtr, .int (nI n), .int (nI k), .int (nI al), .int (nI be), .int ea, .int pr, .ref mas, .int nq, .int po, .int (nI (en + 1)), .ref mso, .ref mon, .ref mot, .ref man, .int (nI 0), .int xd, .ref mst, .ref msm, .ref mtb, .ref mti, .ref mfr, .ref mbn, .ref mbs, .ref mde, .int sF, .int sN, .int sS, .int ig, .long xa, .long xb, .ref maa, .ref mab, .ref mba, .ref mbb])), (ms, .inl (cs 0, 288, .inl f9)), (mso, .inl (cs 0, 16, .inl (upd sof en (nI x0)))), (mon, .inl (cs 0, 16, .inl (upd onf en (-1)))), (mot, .inl (cs 0, 16, .inl (upd otf en (-1)))), (man, .inl (cs 0, 16, .inl (upd anf en (nI 0))))] := hD
                  refine lv_iload hx hb dX12_entry_242 (lv_at hl 1 rfl) ?_
                  exact xreti C (⟨(en + 1), 0, f9, (upd sof en (nI x0)), (upd onf en (-1)), (upd otf en (-1)), (upd anf en (nI 0))⟩) (⟨⟨Or.inl ⟨⟨okN_nI (by omega) (by decide), (Or.inl rfl), (Or.inl rfl), Or.inr rfl, by omega⟩, rfl⟩, fun _ => rfl, fun q => absurd ⟨okN_nI (by omega) (by decide), (Or.inl rfl), (Or.inl rfl), Or.inr rfl, by omega⟩ q⟩, ⟨hw9.col hs, by omega, by decide, inP_up hso _ _ (by omega), parF_next hon (Or.inl rfl), parF_next hot (Or.inl rfl)⟩, hw9, fun _ => rfl, fun q => absurd ⟨okN_nI (by omega) (by decide), (Or.inl rfl), (Or.inl rfl), Or.inr rfl, by omega⟩ q⟩) hP hD hS (Nat.le_of_ble_eq_true rfl) (Nat.le_of_ble_eq_true rfl) rfl dX12_entry_244
                · -- 166 f
                  have fc_12 : o < 8 := nf_nle (by omega) (by omega) c_12
                  refine lv_aload_n hx hb dX12_entry_169 rfl (lv_at hl 2 rfl) ?_
                  refine xget C hP 0 rfl rfl zuX12 0 (by decide) zw5_213 rfl dX12_entry_170 ?_
                  refine lv_bipush (v := nI 96) hx hb dX12_entry_173 (by decide) ?_
                  refine lv_bipush (v := nI 8) hx hb dX12_entry_175 (by decide) ?_
                  refine lv_iload hx hb dX12_entry_177 (lv_at hl 0 rfl) ?_
                  refine lv_imul hx hb dX12_entry_179 ?_
                  refine lv_topi (nm_r (e' := nI (8 * o)) (pk_mul _ _) ?_)
                  refine lv_iadd hx hb dX12_entry_180 ?_
                  refine lv_topi (nm_r (e' := nI (96 + (8 * o))) (nI_add _ _) ?_)
                  refine lv_iload_n hx hb dX12_entry_181 rfl (lv_at hl 3 rfl) ?_
                  refine lv_iadd hx hb dX12_entry_182 ?_
                  refine lv_topi (nm_r (e' := nI ((96 + (8 * o)) + x0)) (nI_add _ _) ?_)
                  refine xiald C hP 1 rfl ((96 + (8 * o)) + x0) rfl (by omega) (by decide) dX12_entry_183 ?_
                  refine lv_if_ge (tgt := 204) hx hb dX12_entry_184 (by decide) (fun c_13 => ?_) (fun c_13 => ?_)
                  · -- 184 t
                    refine lv_aload_n hx hb dX12_entry_204 rfl (lv_at hl 2 rfl) ?_
                    refine lv_iload hx hb dX12_entry_205 (lv_at hl 0 rfl) ?_
                    refine lv_iload_n hx hb dX12_entry_207 rfl (lv_at hl 3 rfl) ?_
                    refine xi (wr := [(mon, .inl (cs 0, 16, .inl (upd onf en (-1)))), (mot, .inl (cs 0, 16, .inl (upd otf en (-1)))), (man, .inl (cs 0, 16, .inl (upd anf en (nI 0))))]) (xV (As := [.int (nI o), .int (nI x0)]) (rest := []) C (c_X12_acceptedOf l D cs hm ms mkp mtr mas mso mon mot man mst msm mtb mti mfr mbn mbs mde maa mab mba mbb n k al be km (en + 1) ea pr nq po (nI 0) xd sF sN sS ig xa xb f9 o (nI x0) (upd sof en (nI x0)) (by omega) (by omega)) kX12_310 hP hD [0, 1, 2] rfl (by decide) 0 rfl rfl rfl ⟨Nat.le_of_ble_eq_true rfl, Nat.le_of_ble_eq_true rfl⟩ rfl hl.1 rfl (Nat.le_of_ble_eq_true rfl) dX12_entry_208 ⟨Nat.le_of_ble_eq_true rfl, Nat.le_of_ble_eq_true rfl⟩) hP hD hS hA [0, 1, 2] [3, 4, 5] rfl rfl (by decide) (by decide) ?_
                    clear hP hD hS
                    try clear locs
                    try clear H
                    intro r_14 u_15 H locs hw_r_14 hP hD hS
                    have hw_r_14 : r_14 = -1 ∨ ∃ e, e < (en + 1) ∧ r_14 = nI e := hw_r_14
                    refine W.widen (k := 0) (n := 0) (Nat.le_of_ble_eq_true rfl) (Nat.le_of_ble_eq_true rfl) ?_
                    replace hP : va_P D vwCl [(mon, .inl (cs 0, 16, .inl (upd onf en (-1)))), (mot, .inl (cs 0, 16, .inl (upd otf en (-1)))), (man, .inl (cs 0, 16, .inl (upd anf en (nI 0)))), (hm, .inr (12, [.ref ms, .ref mkp, .int (nI km), .ref mtr, .int (nI n), .int (nI k), .int (nI al), .int (nI be), .int ea, .int pr, .ref mas, .int nq, .int po, .int (nI (en + 1)), .ref mso, .ref mon, .ref mot, .ref man, .int (nI 0), .int xd, .ref mst, .ref msm, .ref mtb, .ref mti, .ref mfr, .ref mbn, .ref mbs, .ref mde, .int sF, .int sN, .int sS, .int ig, .long xa, .long xb, .ref maa, .ref mab, .ref mba, .ref mbb])), (ms, .inl (cs 0, 288, .inl f9)), (mso, .inl (cs 0, 16, .inl (upd sof en (nI x0))))] H := hP
                    replace hD : va_D A [(mon, .inl (cs 0, 16, .inl (upd onf en (-1)))), (mot, .inl (cs 0, 16, .inl (upd otf en (-1)))), (man, .inl (cs 0, 16, .inl (upd anf en (nI 0)))), (hm, .inr (12, [.ref ms, .ref mkp, .int (nI km), .ref mtr, .int (nI n), .int (nI k), .int (nI al), .int (nI be), .int ea, .int pr, .ref mas, .int nq, .int po, .int (nI (en + 1)), .ref mso, .ref mon, .ref mot, .ref man, .int (nI 0), .int xd, .ref mst, .ref msm, .ref mtb, .ref mti, .ref mfr, .ref mbn, .ref mbs, .ref mde, .int sF, .int sN, .int sS, .int ig, .long xa, .long xb, .ref maa, .ref mab, .ref mba, .ref mbb])), (ms, .inl (cs 0, 288, .inl f9)), (mso, .inl (cs 0, 16, .inl (upd sof en (nI x0))))] := hD
                    refine lv_if_lt (tgt := 231) hx hb dX12_entry_211 (by decide) (fun c_16 => ?_) (fun c_16 => ?_)
                    · -- 211 t
                      refine lv_iinc (v := nI (o + 1)) (lv' := [(5, .int (nI (o + 1))), (4, .int (nI en)), (0, .ref hm), (1, .int (nI x0)), (2, .int (-1)), (3, .int (-1))]) hx hb dX12_entry_231 hl (k := 0) rfl (nI_add o 1) (by decide) rfl ?_
                      clear hl
                      try clear ls
                      intro ls hl
                      refine lv_goto (tgt := 162) hx hb dX12_entry_234 (by decide) ?_
                      exact ih_loop_11 (o + 1) f9 (by omega) hw9 (by omega) H locs ls (xP_map hP [3, 4, 5, 0, 1, 2] rfl) (hD.sub [3, 4, 5, 0, 1, 2] (by decide) rfl) hS (lv_sub hl [0, 1, 2, 3, 4, 5] rfl)
                    · -- 211 f
                      refine lv_aload_n hx hb dX12_entry_214 rfl (lv_at hl 2 rfl) ?_
                      refine xget C hP 3 rfl rfl zuX12 0 (by decide) zw5_213 rfl dX12_entry_215 ?_
                      refine lv_bipush (v := nI 88) hx hb dX12_entry_218 (by decide) ?_
                      refine lv_iload hx hb dX12_entry_220 (lv_at hl 0 rfl) ?_
                      refine lv_iadd hx hb dX12_entry_222 ?_
                      refine lv_topi (nm_r (e' := nI (88 + o)) (nI_add _ _) ?_)
                      refine lv_dup2_11 hx hb dX12_entry_223 rfl rfl ?_
                      refine xiald C hP 4 rfl (88 + o) rfl (by omega) (by decide) dX12_entry_224 ?_
                      refine lv_iconst (v := nI 1) hx hb dX12_entry_225 (by decide) ?_
                      refine lv_iload hx hb dX12_entry_226 (lv_at hl 1 rfl) ?_
                      refine lv_ishl hx hb dX12_entry_228 ?_
                      refine lv_ior hx hb dX12_entry_229 ?_
                      refine xiast C hP hD hS 4 rfl (88 + o) rfl (by omega) (by decide) dX12_entry_230 ?_
                      clear hP hD hS
                      try clear locs
                      try clear H
                      intro H locs hP hD hS
                      replace hP : va_P D vwCl [(mon, .inl (cs 0, 16, .inl (upd onf en (-1)))), (mot, .inl (cs 0, 16, .inl (upd otf en (-1)))), (man, .inl (cs 0, 16, .inl (upd anf en (nI 0)))), (hm, .inr (12, [.ref ms, .ref mkp, .int (nI km), .ref mtr, .int (nI n), .int (nI k), .int (nI al), .int (nI be), .int ea, .int pr, .ref mas, .int nq, .int po, .int (nI (en + 1)), .ref mso, .ref mon, .ref mot, .ref man, .int (nI 0), .int xd, .ref mst, .ref msm, .ref mtb, .ref mti, .ref mfr, .ref mbn, .ref mbs, .ref mde, .int sF, .int sN, .int sS, .int ig, .long xa, .long xb, .ref maa, .ref mab, .ref mba, .ref mbb])), (ms, .inl (cs 0, 288, .inl (upd f9 (88 + o) ((f9 (88 + o)) ||| ((nI 1) <<< ((nI en) &&& 31)))))), (mso, .inl (cs 0, 16, .inl (upd sof en (nI x0))))] H := hP
                      replace hD : va_D A [(mon, .inl (cs 0, 16, .inl (upd onf en (-1)))), (mot, .inl (cs 0, 16, .inl (upd otf en (-1)))), (man, .inl (cs 0, 16, .inl (upd anf en (nI 0)))), (hm, .inr (12, [.ref ms, .ref mkp, .int (nI km), .ref mtr, .int (nI n), .int (nI k), .int (nI al), .int (nI be), .int ea, .int pr, .ref mas, .int nq, .int po, .int (nI (en + 1)), .ref mso, .ref mon, .ref mot, .ref man, .int (nI 0), .int xd, .ref mst, .ref msm, .ref mtb, .ref mti, .ref mfr, .ref mbn, .ref mbs, .ref mde, .int sF, .int sN, .int sS, .int ig, .long xa, .long xb, .ref maa, .ref mab, .ref mba, .ref mbb])), (ms, .inl (cs 0, 288, .inl (upd f9 (88 + o) ((f9 (88 + o)) ||| ((nI 1) <<< ((nI en) &&& 31)))))), (mso, .inl (cs 0, 16, .inl (upd sof en (nI x0))))] := hD
                      refine lv_iinc (v := nI (o + 1)) (lv' := [(5, .int (nI (o + 1))), (4, .int (nI en)), (0, .ref hm), (1, .int (nI x0)), (2, .int (-1)), (3, .int (-1))]) hx hb dX12_entry_231 hl (k := 0) rfl (nI_add o 1) (by decide) rfl ?_
                      clear hl
                      try clear ls
                      intro ls hl
                      refine lv_goto (tgt := 162) hx hb dX12_entry_234 (by decide) ?_
                      exact ih_loop_11 (o + 1) (upd f9 (88 + o) ((f9 (88 + o)) ||| ((nI 1) <<< ((nI en) &&& 31)))) (by omega) (lowE.up hw9 (by omega) ((f9 (88 + o)) ||| ((nI 1) <<< ((nI en) &&& 31)))) (by omega) H locs ls (xP_map hP [3, 4, 5, 0, 1, 2] rfl) (hD.sub [3, 4, 5, 0, 1, 2] (by decide) rfl) hS (lv_sub hl [0, 1, 2, 3, 4, 5] rfl)
                  · -- 184 f
                    refine lv_aload_n hx hb dX12_entry_187 rfl (lv_at hl 2 rfl) ?_
                    refine xget C hP 0 rfl rfl zuX12 0 (by decide) zw5_213 rfl dX12_entry_188 ?_
                    refine lv_bipush (v := nI 96) hx hb dX12_entry_191 (by decide) ?_
                    refine lv_bipush (v := nI 8) hx hb dX12_entry_193 (by decide) ?_
                    refine lv_iload hx hb dX12_entry_195 (lv_at hl 0 rfl) ?_
                    refine lv_imul hx hb dX12_entry_197 ?_
                    refine lv_topi (nm_r (e' := nI (8 * o)) (pk_mul _ _) ?_)
                    refine lv_iadd hx hb dX12_entry_198 ?_
                    refine lv_topi (nm_r (e' := nI (96 + (8 * o))) (nI_add _ _) ?_)
                    refine lv_iload_n hx hb dX12_entry_199 rfl (lv_at hl 3 rfl) ?_
                    refine lv_iadd hx hb dX12_entry_200 ?_
                    refine lv_topi (nm_r (e' := nI ((96 + (8 * o)) + x0)) (nI_add _ _) ?_)
                    refine lv_iload hx hb dX12_entry_201 (lv_at hl 1 rfl) ?_
                    refine xiast C hP hD hS 1 rfl ((96 + (8 * o)) + x0) rfl (by omega) (by decide) dX12_entry_203 ?_
                    clear hP hD hS
                    try clear locs
                    try clear H
                    intro H locs hP hD hS
                    replace hP : va_P D vwCl [(hm, .inr (12, [.ref ms, .ref mkp, .int (nI km), .ref mtr, .int (nI n), .int (nI k), .int (nI al), .int (nI be), .int ea, .int pr, .ref mas, .int nq, .int po, .int (nI (en + 1)), .ref mso, .ref mon, .ref mot, .ref man, .int (nI 0), .int xd, .ref mst, .ref msm, .ref mtb, .ref mti, .ref mfr, .ref mbn, .ref mbs, .ref mde, .int sF, .int sN, .int sS, .int ig, .long xa, .long xb, .ref maa, .ref mab, .ref mba, .ref mbb])), (ms, .inl (cs 0, 288, .inl (upd f9 ((96 + (8 * o)) + x0) (nI en)))), (mso, .inl (cs 0, 16, .inl (upd sof en (nI x0)))), (mon, .inl (cs 0, 16, .inl (upd onf en (-1)))), (mot, .inl (cs 0, 16, .inl (upd otf en (-1)))), (man, .inl (cs 0, 16, .inl (upd anf en (nI 0))))] H := hP
                    replace hD : va_D A [(hm, .inr (12, [.ref ms, .ref mkp, .int (nI km), .ref mtr, .int (nI n), .int (nI k), .int (nI al), .int (nI be), .int ea, .int pr, .ref mas, .int nq, .int po, .int (nI (en + 1)), .ref mso, .ref mon, .ref mot, .ref man, .int (nI 0), .int xd, .ref mst, .ref msm, .ref mtb, .ref mti, .ref mfr, .ref mbn, .ref mbs, .ref mde, .int sF, .int sN, .int sS, .int ig, .long xa, .long xb, .ref maa, .ref mab, .ref mba, .ref mbb])), (ms, .inl (cs 0, 288, .inl (upd f9 ((96 + (8 * o)) + x0) (nI en)))), (mso, .inl (cs 0, 16, .inl (upd sof en (nI x0)))), (mon, .inl (cs 0, 16, .inl (upd onf en (-1)))), (mot, .inl (cs 0, 16, .inl (upd otf en (-1)))), (man, .inl (cs 0, 16, .inl (upd anf en (nI 0))))] := hD
                    refine lv_aload_n hx hb dX12_entry_204 rfl (lv_at hl 2 rfl) ?_
                    refine lv_iload hx hb dX12_entry_205 (lv_at hl 0 rfl) ?_
                    refine lv_iload_n hx hb dX12_entry_207 rfl (lv_at hl 3 rfl) ?_
                    refine xi (wr := [(mon, .inl (cs 0, 16, .inl (upd onf en (-1)))), (mot, .inl (cs 0, 16, .inl (upd otf en (-1)))), (man, .inl (cs 0, 16, .inl (upd anf en (nI 0))))]) (xV (As := [.int (nI o), .int (nI x0)]) (rest := []) C (c_X12_acceptedOf l D cs hm ms mkp mtr mas mso mon mot man mst msm mtb mti mfr mbn mbs mde maa mab mba mbb n k al be km (en + 1) ea pr nq po (nI 0) xd sF sN sS ig xa xb (upd f9 ((96 + (8 * o)) + x0) (nI en)) o (nI x0) (upd sof en (nI x0)) (by omega) (by omega)) kX12_310 hP hD [0, 1, 2] rfl (by decide) 0 rfl rfl rfl ⟨Nat.le_of_ble_eq_true rfl, Nat.le_of_ble_eq_true rfl⟩ rfl hl.1 rfl (Nat.le_of_ble_eq_true rfl) dX12_entry_208 ⟨Nat.le_of_ble_eq_true rfl, Nat.le_of_ble_eq_true rfl⟩) hP hD hS hA [0, 1, 2] [3, 4, 5] rfl rfl (by decide) (by decide) ?_
                    clear hP hD hS
                    try clear locs
                    try clear H
                    intro r_17 u_18 H locs hw_r_17 hP hD hS
                    have hw_r_17 : r_17 = -1 ∨ ∃ e, e < (en + 1) ∧ r_17 = nI e := hw_r_17
                    refine W.widen (k := 0) (n := 0) (Nat.le_of_ble_eq_true rfl) (Nat.le_of_ble_eq_true rfl) ?_
                    replace hP : va_P D vwCl [(mon, .inl (cs 0, 16, .inl (upd onf en (-1)))), (mot, .inl (cs 0, 16, .inl (upd otf en (-1)))), (man, .inl (cs 0, 16, .inl (upd anf en (nI 0)))), (hm, .inr (12, [.ref ms, .ref mkp, .int (nI km), .ref mtr, .int (nI n), .int (nI k), .int (nI al), .int (nI be), .int ea, .int pr, .ref mas, .int nq, .int po, .int (nI (en + 1)), .ref mso, .ref mon, .ref mot, .ref man, .int (nI 0), .int xd, .ref mst, .ref msm, .ref mtb, .ref mti, .ref mfr, .ref mbn, .ref mbs, .ref mde, .int sF, .int sN, .int sS, .int ig, .long xa, .long xb, .ref maa, .ref mab, .ref mba, .ref mbb])), (ms, .inl (cs 0, 288, .inl (upd f9 ((96 + (8 * o)) + x0) (nI en)))), (mso, .inl (cs 0, 16, .inl (upd sof en (nI x0))))] H := hP
                    replace hD : va_D A [(mon, .inl (cs 0, 16, .inl (upd onf en (-1)))), (mot, .inl (cs 0, 16, .inl (upd otf en (-1)))), (man, .inl (cs 0, 16, .inl (upd anf en (nI 0)))), (hm, .inr (12, [.ref ms, .ref mkp, .int (nI km), .ref mtr, .int (nI n), .int (nI k), .int (nI al), .int (nI be), .int ea, .int pr, .ref mas, .int nq, .int po, .int (nI (en + 1)), .ref mso, .ref mon, .ref mot, .ref man, .int (nI 0), .int xd, .ref mst, .ref msm, .ref mtb, .ref mti, .ref mfr, .ref mbn, .ref mbs, .ref mde, .int sF, .int sN, .int sS, .int ig, .long xa, .long xb, .ref maa, .ref mab, .ref mba, .ref mbb])), (ms, .inl (cs 0, 288, .inl (upd f9 ((96 + (8 * o)) + x0) (nI en)))), (mso, .inl (cs 0, 16, .inl (upd sof en (nI x0))))] := hD
                    refine lv_if_lt (tgt := 231) hx hb dX12_entry_211 (by decide) (fun c_19 => ?_) (fun c_19 => ?_)
                    · -- 211 t
                      refine lv_iinc (v := nI (o + 1)) (lv' := [(5, .int (nI (o + 1))), (4, .int (nI en)), (0, .ref hm), (1, .int (nI x0)), (2, .int (-1)), (3, .int (-1))]) hx hb dX12_entry_231 hl (k := 0) rfl (nI_add o 1) (by decide) rfl ?_
                      clear hl
                      try clear ls
                      intro ls hl
                      refine lv_goto (tgt := 162) hx hb dX12_entry_234 (by decide) ?_
                      exact ih_loop_11 (o + 1) (upd f9 ((96 + (8 * o)) + x0) (nI en)) (by omega) (lowE.up hw9 (by omega) (nI en)) (by omega) H locs ls (xP_map hP [3, 4, 5, 0, 1, 2] rfl) (hD.sub [3, 4, 5, 0, 1, 2] (by decide) rfl) hS (lv_sub hl [0, 1, 2, 3, 4, 5] rfl)
                    · -- 211 f
                      refine lv_aload_n hx hb dX12_entry_214 rfl (lv_at hl 2 rfl) ?_
                      refine xget C hP 3 rfl rfl zuX12 0 (by decide) zw5_213 rfl dX12_entry_215 ?_
                      refine lv_bipush (v := nI 88) hx hb dX12_entry_218 (by decide) ?_
                      refine lv_iload hx hb dX12_entry_220 (lv_at hl 0 rfl) ?_
                      refine lv_iadd hx hb dX12_entry_222 ?_
                      refine lv_topi (nm_r (e' := nI (88 + o)) (nI_add _ _) ?_)
                      refine lv_dup2_11 hx hb dX12_entry_223 rfl rfl ?_
                      refine xiald C hP 4 rfl (88 + o) rfl (by omega) (by decide) dX12_entry_224 ?_
                      refine lv_iconst (v := nI 1) hx hb dX12_entry_225 (by decide) ?_
                      refine lv_iload hx hb dX12_entry_226 (lv_at hl 1 rfl) ?_
                      refine lv_ishl hx hb dX12_entry_228 ?_
                      refine lv_ior hx hb dX12_entry_229 ?_
                      refine xiast C hP hD hS 4 rfl (88 + o) rfl (by omega) (by decide) dX12_entry_230 ?_
                      clear hP hD hS
                      try clear locs
                      try clear H
                      intro H locs hP hD hS
                      replace hP : va_P D vwCl [(mon, .inl (cs 0, 16, .inl (upd onf en (-1)))), (mot, .inl (cs 0, 16, .inl (upd otf en (-1)))), (man, .inl (cs 0, 16, .inl (upd anf en (nI 0)))), (hm, .inr (12, [.ref ms, .ref mkp, .int (nI km), .ref mtr, .int (nI n), .int (nI k), .int (nI al), .int (nI be), .int ea, .int pr, .ref mas, .int nq, .int po, .int (nI (en + 1)), .ref mso, .ref mon, .ref mot, .ref man, .int (nI 0), .int xd, .ref mst, .ref msm, .ref mtb, .ref mti, .ref mfr, .ref mbn, .ref mbs, .ref mde, .int sF, .int sN, .int sS, .int ig, .long xa, .long xb, .ref maa, .ref mab, .ref mba, .ref mbb])), (ms, .inl (cs 0, 288, .inl (upd (upd f9 ((96 + (8 * o)) + x0) (nI en)) (88 + o) (((upd f9 ((96 + (8 * o)) + x0) (nI en)) (88 + o)) ||| ((nI 1) <<< ((nI en) &&& 31)))))), (mso, .inl (cs 0, 16, .inl (upd sof en (nI x0))))] H := hP
                      replace hD : va_D A [(mon, .inl (cs 0, 16, .inl (upd onf en (-1)))), (mot, .inl (cs 0, 16, .inl (upd otf en (-1)))), (man, .inl (cs 0, 16, .inl (upd anf en (nI 0)))), (hm, .inr (12, [.ref ms, .ref mkp, .int (nI km), .ref mtr, .int (nI n), .int (nI k), .int (nI al), .int (nI be), .int ea, .int pr, .ref mas, .int nq, .int po, .int (nI (en + 1)), .ref mso, .ref mon, .ref mot, .ref man, .int (nI 0), .int xd, .ref mst, .ref msm, .ref mtb, .ref mti, .ref mfr, .ref mbn, .ref mbs, .ref mde, .int sF, .int sN, .int sS, .int ig, .long xa, .long xb, .ref maa, .ref mab, .ref mba, .ref mbb])), (ms, .inl (cs 0, 288, .inl (upd (upd f9 ((96 + (8 * o)) + x0) (nI en)) (88 + o) (((upd f9 ((96 + (8 * o)) + x0) (nI en)) (88 + o)) ||| ((nI 1) <<< ((nI en) &&& 31)))))), (mso, .inl (cs 0, 16, .inl (upd sof en (nI x0))))] := hD
                      refine lv_iinc (v := nI (o + 1)) (lv' := [(5, .int (nI (o + 1))), (4, .int (nI en)), (0, .ref hm), (1, .int (nI x0)), (2, .int (-1)), (3, .int (-1))]) hx hb dX12_entry_231 hl (k := 0) rfl (nI_add o 1) (by decide) rfl ?_
                      clear hl
                      try clear ls
                      intro ls hl
                      refine lv_goto (tgt := 162) hx hb dX12_entry_234 (by decide) ?_
                      exact ih_loop_11 (o + 1) (upd (upd f9 ((96 + (8 * o)) + x0) (nI en)) (88 + o) (((upd f9 ((96 + (8 * o)) + x0) (nI en)) (88 + o)) ||| ((nI 1) <<< ((nI en) &&& 31)))) (by omega) (lowE.up (lowE.up hw9 (by omega) (nI en)) (by omega) (((upd f9 ((96 + (8 * o)) + x0) (nI en)) (88 + o)) ||| ((nI 1) <<< ((nI en) &&& 31)))) (by omega) H locs ls (xP_map hP [3, 4, 5, 0, 1, 2] rfl) (hD.sub [3, 4, 5, 0, 1, 2] (by decide) rfl) hS (lv_sub hl [0, 1, 2, 3, 4, 5] rfl)
            exact loop_11 _ 0 f (by omega) (lowE.refl f) (Nat.lt_succ_self _) H locs ls hP hD hS (lv_sub hl [0, 1, 2, 3, 4, 5] rfl)
          · -- 58 f
            have fc_10 : en = 16 := nf_eq (by omega) (by omega) c_10
            refine lv_iconst (v := (-1)) hx hb dX12_entry_61 (by decide) ?_
            exact xreti C (⟨en, km, f, sof, onf, otf, anf⟩) (⟨⟨Or.inr ⟨fun q => by have z := q.2.2.2.2; omega, rfl⟩, fun q => absurd q (fun q => by have z := q.2.2.2.2; omega), fun _ => rfl⟩, ⟨hs, hen, hkm, hso, hon, hot⟩, lowE.refl _, fun q => absurd q (fun q => by have z := q.2.2.2.2; omega), fun _ => rfl⟩) hP hD hS (Nat.le_of_ble_eq_true rfl) (Nat.le_of_ble_eq_true rfl) rfl dX12_entry_62
        · -- split
          replace hP : va_P D vwCl [(hm, .inr (12, [.ref ms, .ref mkp, .int (nI km), .ref mtr, .int (nI n), .int (nI k), .int (nI al), .int (nI be), .int ea, .int pr, .ref mas, .int nq, .int po, .int (nI en), .ref mso, .ref mon, .ref mot, .ref man, .int (nI 0), .int xd, .ref mst, .ref msm, .ref mtb, .ref mti, .ref mfr, .ref mbn, .ref mbs, .ref mde, .int sF, .int sN, .int sS, .int ig, .long xa, .long xb, .ref maa, .ref mab, .ref mba, .ref mbb])), (ms, .inl (cs 0, 288, .inl f)), (mso, .inl (cs 0, 16, .inl sof)), (mon, .inl (cs 0, 16, .inl onf)), (mot, .inl (cs 0, 16, .inl otf)), (man, .inl (cs 0, 16, .inl anf))] H := hP
          replace hD : va_D A [(hm, .inr (12, [.ref ms, .ref mkp, .int (nI km), .ref mtr, .int (nI n), .int (nI k), .int (nI al), .int (nI be), .int ea, .int pr, .ref mas, .int nq, .int po, .int (nI en), .ref mso, .ref mon, .ref mot, .ref man, .int (nI 0), .int xd, .ref mst, .ref msm, .ref mtb, .ref mti, .ref mfr, .ref mbn, .ref mbs, .ref mde, .int sF, .int sN, .int sS, .int ig, .long xa, .long xb, .ref maa, .ref mab, .ref mba, .ref mbb])), (ms, .inl (cs 0, 288, .inl f)), (mso, .inl (cs 0, 16, .inl sof)), (mon, .inl (cs 0, 16, .inl onf)), (mot, .inl (cs 0, 16, .inl otf)), (man, .inl (cs 0, 16, .inl anf))] := hD
          refine lv_iload_n hx hb dX12_entry_43 rfl (lv_at hl 2 rfl) ?_
          refine lv_if_lt (tgt := 52) hx hb dX12_entry_44 (by decide) (fun _ => ?_) (fun c => absurd (by decide) c)
          refine lv_aload_n hx hb dX12_entry_52 rfl (lv_at hl 0 rfl) ?_
          refine xget C hP 0 rfl rfl zuX12 13 (by decide) zw5_226 rfl dX12_entry_53 ?_
          refine lv_bipush (v := nI 16) hx hb dX12_entry_56 (by decide) ?_
          refine lv_icmp_ne (tgt := 63) hx hb dX12_entry_58 (by decide) (fun c_20 => ?_) (fun c_20 => ?_)
          · -- 58 t
            have fc_20 : en ≠ 16 := nf_ne (by omega) (by omega) c_20
            refine lv_aload_n hx hb dX12_entry_63 rfl (lv_at hl 0 rfl) ?_
            refine xget C hP 0 rfl rfl zuX12 13 (by decide) zw5_226 rfl dX12_entry_64 ?_
            refine lv_istore (lv' := [(4, .int (nI en)), (0, .ref hm), (1, .int (nI x0)), (2, .int (-1)), (3, .int (nI jz))]) hx hb dX12_entry_67 hl (by decide) rfl ?_
            clear hl
            try clear ls
            intro ls hl
            refine lv_aload_n hx hb dX12_entry_69 rfl (lv_at hl 1 rfl) ?_
            refine xget C hP 0 rfl rfl zuX12 14 (by decide) zw5_227 rfl dX12_entry_70 ?_
            refine lv_iload hx hb dX12_entry_73 (lv_at hl 0 rfl) ?_
            refine lv_iload_n hx hb dX12_entry_75 rfl (lv_at hl 2 rfl) ?_
            refine xiast C hP hD hS 2 rfl en rfl (by omega) (by decide) dX12_entry_76 ?_
            clear hP hD hS
            try clear locs
            try clear H
            intro H locs hP hD hS
            replace hP : va_P D vwCl [(hm, .inr (12, [.ref ms, .ref mkp, .int (nI km), .ref mtr, .int (nI n), .int (nI k), .int (nI al), .int (nI be), .int ea, .int pr, .ref mas, .int nq, .int po, .int (nI en), .ref mso, .ref mon, .ref mot, .ref man, .int (nI 0), .int xd, .ref mst, .ref msm, .ref mtb, .ref mti, .ref mfr, .ref mbn, .ref mbs, .ref mde, .int sF, .int sN, .int sS, .int ig, .long xa, .long xb, .ref maa, .ref mab, .ref mba, .ref mbb])), (ms, .inl (cs 0, 288, .inl f)), (mso, .inl (cs 0, 16, .inl (upd sof en (nI x0)))), (mon, .inl (cs 0, 16, .inl onf)), (mot, .inl (cs 0, 16, .inl otf)), (man, .inl (cs 0, 16, .inl anf))] H := hP
            replace hD : va_D A [(hm, .inr (12, [.ref ms, .ref mkp, .int (nI km), .ref mtr, .int (nI n), .int (nI k), .int (nI al), .int (nI be), .int ea, .int pr, .ref mas, .int nq, .int po, .int (nI en), .ref mso, .ref mon, .ref mot, .ref man, .int (nI 0), .int xd, .ref mst, .ref msm, .ref mtb, .ref mti, .ref mfr, .ref mbn, .ref mbs, .ref mde, .int sF, .int sN, .int sS, .int ig, .long xa, .long xb, .ref maa, .ref mab, .ref mba, .ref mbb])), (ms, .inl (cs 0, 288, .inl f)), (mso, .inl (cs 0, 16, .inl (upd sof en (nI x0)))), (mon, .inl (cs 0, 16, .inl onf)), (mot, .inl (cs 0, 16, .inl otf)), (man, .inl (cs 0, 16, .inl anf))] := hD
            refine lv_aload_n hx hb dX12_entry_77 rfl (lv_at hl 1 rfl) ?_
            refine xget C hP 0 rfl rfl zuX12 15 (by decide) zw5_228 rfl dX12_entry_78 ?_
            refine lv_iload hx hb dX12_entry_81 (lv_at hl 0 rfl) ?_
            refine lv_iload_n hx hb dX12_entry_83 rfl (lv_at hl 3 rfl) ?_
            refine xiast C hP hD hS 3 rfl en rfl (by omega) (by decide) dX12_entry_84 ?_
            clear hP hD hS
            try clear locs
            try clear H
            intro H locs hP hD hS
            replace hP : va_P D vwCl [(hm, .inr (12, [.ref ms, .ref mkp, .int (nI km), .ref mtr, .int (nI n), .int (nI k), .int (nI al), .int (nI be), .int ea, .int pr, .ref mas, .int nq, .int po, .int (nI en), .ref mso, .ref mon, .ref mot, .ref man, .int (nI 0), .int xd, .ref mst, .ref msm, .ref mtb, .ref mti, .ref mfr, .ref mbn, .ref mbs, .ref mde, .int sF, .int sN, .int sS, .int ig, .long xa, .long xb, .ref maa, .ref mab, .ref mba, .ref mbb])), (ms, .inl (cs 0, 288, .inl f)), (mso, .inl (cs 0, 16, .inl (upd sof en (nI x0)))), (mon, .inl (cs 0, 16, .inl (upd onf en (-1)))), (mot, .inl (cs 0, 16, .inl otf)), (man, .inl (cs 0, 16, .inl anf))] H := hP
            replace hD : va_D A [(hm, .inr (12, [.ref ms, .ref mkp, .int (nI km), .ref mtr, .int (nI n), .int (nI k), .int (nI al), .int (nI be), .int ea, .int pr, .ref mas, .int nq, .int po, .int (nI en), .ref mso, .ref mon, .ref mot, .ref man, .int (nI 0), .int xd, .ref mst, .ref msm, .ref mtb, .ref mti, .ref mfr, .ref mbn, .ref mbs, .ref mde, .int sF, .int sN, .int sS, .int ig, .long xa, .long xb, .ref maa, .ref mab, .ref mba, .ref mbb])), (ms, .inl (cs 0, 288, .inl f)), (mso, .inl (cs 0, 16, .inl (upd sof en (nI x0)))), (mon, .inl (cs 0, 16, .inl (upd onf en (-1)))), (mot, .inl (cs 0, 16, .inl otf)), (man, .inl (cs 0, 16, .inl anf))] := hD
            refine lv_aload_n hx hb dX12_entry_85 rfl (lv_at hl 1 rfl) ?_
            refine xget C hP 0 rfl rfl zuX12 16 (by decide) zw5_229 rfl dX12_entry_86 ?_
            refine lv_iload hx hb dX12_entry_89 (lv_at hl 0 rfl) ?_
            refine lv_iload_n hx hb dX12_entry_91 rfl (lv_at hl 4 rfl) ?_
            refine xiast C hP hD hS 4 rfl en rfl (by omega) (by decide) dX12_entry_92 ?_
            clear hP hD hS
            try clear locs
            try clear H
            intro H locs hP hD hS
            replace hP : va_P D vwCl [(hm, .inr (12, [.ref ms, .ref mkp, .int (nI km), .ref mtr, .int (nI n), .int (nI k), .int (nI al), .int (nI be), .int ea, .int pr, .ref mas, .int nq, .int po, .int (nI en), .ref mso, .ref mon, .ref mot, .ref man, .int (nI 0), .int xd, .ref mst, .ref msm, .ref mtb, .ref mti, .ref mfr, .ref mbn, .ref mbs, .ref mde, .int sF, .int sN, .int sS, .int ig, .long xa, .long xb, .ref maa, .ref mab, .ref mba, .ref mbb])), (ms, .inl (cs 0, 288, .inl f)), (mso, .inl (cs 0, 16, .inl (upd sof en (nI x0)))), (mon, .inl (cs 0, 16, .inl (upd onf en (-1)))), (mot, .inl (cs 0, 16, .inl (upd otf en (nI jz)))), (man, .inl (cs 0, 16, .inl anf))] H := hP
            replace hD : va_D A [(hm, .inr (12, [.ref ms, .ref mkp, .int (nI km), .ref mtr, .int (nI n), .int (nI k), .int (nI al), .int (nI be), .int ea, .int pr, .ref mas, .int nq, .int po, .int (nI en), .ref mso, .ref mon, .ref mot, .ref man, .int (nI 0), .int xd, .ref mst, .ref msm, .ref mtb, .ref mti, .ref mfr, .ref mbn, .ref mbs, .ref mde, .int sF, .int sN, .int sS, .int ig, .long xa, .long xb, .ref maa, .ref mab, .ref mba, .ref mbb])), (ms, .inl (cs 0, 288, .inl f)), (mso, .inl (cs 0, 16, .inl (upd sof en (nI x0)))), (mon, .inl (cs 0, 16, .inl (upd onf en (-1)))), (mot, .inl (cs 0, 16, .inl (upd otf en (nI jz)))), (man, .inl (cs 0, 16, .inl anf))] := hD
            refine lv_aload_n hx hb dX12_entry_93 rfl (lv_at hl 1 rfl) ?_
            refine xget C hP 0 rfl rfl zuX12 17 (by decide) zw5_230 rfl dX12_entry_94 ?_
            refine lv_iload hx hb dX12_entry_97 (lv_at hl 0 rfl) ?_
            refine lv_iconst (v := nI 0) hx hb dX12_entry_99 (by decide) ?_
            refine xiast C hP hD hS 5 rfl en rfl (by omega) (by decide) dX12_entry_100 ?_
            clear hP hD hS
            try clear locs
            try clear H
            intro H locs hP hD hS
            replace hP : va_P D vwCl [(hm, .inr (12, [.ref ms, .ref mkp, .int (nI km), .ref mtr, .int (nI n), .int (nI k), .int (nI al), .int (nI be), .int ea, .int pr, .ref mas, .int nq, .int po, .int (nI en), .ref mso, .ref mon, .ref mot, .ref man, .int (nI 0), .int xd, .ref mst, .ref msm, .ref mtb, .ref mti, .ref mfr, .ref mbn, .ref mbs, .ref mde, .int sF, .int sN, .int sS, .int ig, .long xa, .long xb, .ref maa, .ref mab, .ref mba, .ref mbb])), (ms, .inl (cs 0, 288, .inl f)), (mso, .inl (cs 0, 16, .inl (upd sof en (nI x0)))), (mon, .inl (cs 0, 16, .inl (upd onf en (-1)))), (mot, .inl (cs 0, 16, .inl (upd otf en (nI jz)))), (man, .inl (cs 0, 16, .inl (upd anf en (nI 0))))] H := hP
            replace hD : va_D A [(hm, .inr (12, [.ref ms, .ref mkp, .int (nI km), .ref mtr, .int (nI n), .int (nI k), .int (nI al), .int (nI be), .int ea, .int pr, .ref mas, .int nq, .int po, .int (nI en), .ref mso, .ref mon, .ref mot, .ref man, .int (nI 0), .int xd, .ref mst, .ref msm, .ref mtb, .ref mti, .ref mfr, .ref mbn, .ref mbs, .ref mde, .int sF, .int sN, .int sS, .int ig, .long xa, .long xb, .ref maa, .ref mab, .ref mba, .ref mbb])), (ms, .inl (cs 0, 288, .inl f)), (mso, .inl (cs 0, 16, .inl (upd sof en (nI x0)))), (mon, .inl (cs 0, 16, .inl (upd onf en (-1)))), (mot, .inl (cs 0, 16, .inl (upd otf en (nI jz)))), (man, .inl (cs 0, 16, .inl (upd anf en (nI 0))))] := hD
            refine lv_iload_n hx hb dX12_entry_101 rfl (lv_at hl 3 rfl) ?_
            refine lv_if_lt (tgt := 125) hx hb dX12_entry_102 (by decide) (fun _ => ?_) (fun c => absurd (by decide) c)
            refine lv_iload_n hx hb dX12_entry_125 rfl (lv_at hl 4 rfl) ?_
            refine lv_if_lt (tgt := 149) hx hb dX12_entry_126 (by decide) (fun c => absurd c (nI_pos (by omega))) (fun _ => ?_)
            refine lv_aload_n hx hb dX12_entry_129 rfl (lv_at hl 1 rfl) ?_
            refine xget C hP 0 rfl rfl zuX12 17 (by decide) zw5_230 rfl dX12_entry_130 ?_
            refine lv_iload hx hb dX12_entry_133 (lv_at hl 0 rfl) ?_
            refine lv_dup2_11 hx hb dX12_entry_135 rfl rfl ?_
            refine xiald C hP 5 rfl en rfl (by omega) (by decide) dX12_entry_136 ?_
            refine lv_aload_n hx hb dX12_entry_137 rfl (lv_at hl 1 rfl) ?_
            refine xget C hP 0 rfl rfl zuX12 17 (by decide) zw5_230 rfl dX12_entry_138 ?_
            refine lv_iload_n hx hb dX12_entry_141 rfl (lv_at hl 4 rfl) ?_
            refine xiald C hP 5 rfl jz rfl (by omega) (by decide) dX12_entry_142 ?_
            refine lv_iconst (v := nI 1) hx hb dX12_entry_143 (by decide) ?_
            refine lv_iload_n hx hb dX12_entry_144 rfl (lv_at hl 4 rfl) ?_
            refine lv_ishl hx hb dX12_entry_145 ?_
            refine lv_ior hx hb dX12_entry_146 ?_
            refine lv_ior hx hb dX12_entry_147 ?_
            refine xiast C hP hD hS 5 rfl en rfl (by omega) (by decide) dX12_entry_148 ?_
            clear hP hD hS
            try clear locs
            try clear H
            intro H locs hP hD hS
            replace hP : va_P D vwCl [(hm, .inr (12, [.ref ms, .ref mkp, .int (nI km), .ref mtr, .int (nI n), .int (nI k), .int (nI al), .int (nI be), .int ea, .int pr, .ref mas, .int nq, .int po, .int (nI en), .ref mso, .ref mon, .ref mot, .ref man, .int (nI 0), .int xd, .ref mst, .ref msm, .ref mtb, .ref mti, .ref mfr, .ref mbn, .ref mbs, .ref mde, .int sF, .int sN, .int sS, .int ig, .long xa, .long xb, .ref maa, .ref mab, .ref mba, .ref mbb])), (ms, .inl (cs 0, 288, .inl f)), (mso, .inl (cs 0, 16, .inl (upd sof en (nI x0)))), (mon, .inl (cs 0, 16, .inl (upd onf en (-1)))), (mot, .inl (cs 0, 16, .inl (upd otf en (nI jz)))), (man, .inl (cs 0, 16, .inl (upd (upd anf en (nI 0)) en (((upd anf en (nI 0)) en) ||| (((upd anf en (nI 0)) jz) ||| ((nI 1) <<< ((nI jz) &&& 31)))))))] H := hP
            replace hD : va_D A [(hm, .inr (12, [.ref ms, .ref mkp, .int (nI km), .ref mtr, .int (nI n), .int (nI k), .int (nI al), .int (nI be), .int ea, .int pr, .ref mas, .int nq, .int po, .int (nI en), .ref mso, .ref mon, .ref mot, .ref man, .int (nI 0), .int xd, .ref mst, .ref msm, .ref mtb, .ref mti, .ref mfr, .ref mbn, .ref mbs, .ref mde, .int sF, .int sN, .int sS, .int ig, .long xa, .long xb, .ref maa, .ref mab, .ref mba, .ref mbb])), (ms, .inl (cs 0, 288, .inl f)), (mso, .inl (cs 0, 16, .inl (upd sof en (nI x0)))), (mon, .inl (cs 0, 16, .inl (upd onf en (-1)))), (mot, .inl (cs 0, 16, .inl (upd otf en (nI jz)))), (man, .inl (cs 0, 16, .inl (upd (upd anf en (nI 0)) en (((upd anf en (nI 0)) en) ||| (((upd anf en (nI 0)) jz) ||| ((nI 1) <<< ((nI jz) &&& 31)))))))] := hD
            refine lv_aload_n hx hb dX12_entry_149 rfl (lv_at hl 1 rfl) ?_
            refine lv_dup hx hb dX12_entry_150 rfl ?_
            refine xget C hP 0 rfl rfl zuX12 13 (by decide) zw5_226 rfl dX12_entry_151 ?_
            refine lv_iconst (v := nI 1) hx hb dX12_entry_154 (by decide) ?_
            refine lv_iadd hx hb dX12_entry_155 ?_
            refine lv_topi (nm_r (e' := nI (en + 1)) (nI_add _ _) ?_)
            refine xput C hP hD hS 0 rfl rfl zuX12 tyX12 tyX12_ok nmX12 13 (by decide) zw5_226 rfl rfl rfl (Nat.le_of_ble_eq_true rfl) dX12_entry_156 ?_
            clear hP hD hS
            try clear locs
            try clear H
            intro H locs hP hD hS
            replace hP : va_P D vwCl [(hm, .inr (12, [.ref ms, .ref mkp, .int (nI km), .ref mtr, .int (nI n), .int (nI k), .int (nI al), .int (nI be), .int ea, .int pr, .ref mas, .int nq, .int po, .int (nI (en + 1)), .ref mso, .ref mon, .ref mot, .ref man, .int (nI 0), .int xd, .ref mst, .ref msm, .ref mtb, .ref mti, .ref mfr, .ref mbn, .ref mbs, .ref mde, .int sF, .int sN, .int sS, .int ig, .long xa, .long xb, .ref maa, .ref mab, .ref mba, .ref mbb])), (ms, .inl (cs 0, 288, .inl f)), (mso, .inl (cs 0, 16, .inl (upd sof en (nI x0)))), (mon, .inl (cs 0, 16, .inl (upd onf en (-1)))), (mot, .inl (cs 0, 16, .inl (upd otf en (nI jz)))), (man, .inl (cs 0, 16, .inl (upd (upd anf en (nI 0)) en (((upd anf en (nI 0)) en) ||| (((upd anf en (nI 0)) jz) ||| ((nI 1) <<< ((nI jz) &&& 31)))))))] H := hP
            replace hD : va_D A [(hm, .inr (12, [.ref ms, .ref mkp, .int (nI km), .ref mtr, .int (nI n), .int (nI k), .int (nI al), .int (nI be), .int ea, .int pr, .ref mas, .int nq, .int po, .int (nI (en + 1)), .ref mso, .ref mon, .ref mot, .ref man, .int (nI 0), .int xd, .ref mst, .ref msm, .ref mtb, .ref mti, .ref mfr, .ref mbn, .ref mbs, .ref mde, .int sF, .int sN, .int sS, .int ig, .long xa, .long xb, .ref maa, .ref mab, .ref mba, .ref mbb])), (ms, .inl (cs 0, 288, .inl f)), (mso, .inl (cs 0, 16, .inl (upd sof en (nI x0)))), (mon, .inl (cs 0, 16, .inl (upd onf en (-1)))), (mot, .inl (cs 0, 16, .inl (upd otf en (nI jz)))), (man, .inl (cs 0, 16, .inl (upd (upd anf en (nI 0)) en (((upd anf en (nI 0)) en) ||| (((upd anf en (nI 0)) jz) ||| ((nI 1) <<< ((nI jz) &&& 31)))))))] := hD
            refine lv_iconst (v := nI 0) hx hb dX12_entry_159 (by decide) ?_
            refine lv_istore (lv' := [(5, .int (nI 0)), (4, .int (nI en)), (0, .ref hm), (1, .int (nI x0)), (2, .int (-1)), (3, .int (nI jz))]) hx hb dX12_entry_160 hl (by decide) rfl ?_
            clear hl
            try clear ls
            intro ls hl
            have loop_21 : ∀ (n_loop_21 : Nat) (o : Nat) (f9 : Nat → Int32), (o ≤ 8) → (lowE f f9) → 8 - o < n_loop_21 → ∀ (H : Heap) (locs : List Loc) (ls : Array Slot), va_P D vwCl [(hm, .inr (12, [.ref ms, .ref mkp, .int (nI km), .ref mtr, .int (nI n), .int (nI k), .int (nI al), .int (nI be), .int ea, .int pr, .ref mas, .int nq, .int po, .int (nI (en + 1)), .ref mso, .ref mon, .ref mot, .ref man, .int (nI 0), .int xd, .ref mst, .ref msm, .ref mtb, .ref mti, .ref mfr, .ref mbn, .ref mbs, .ref mde, .int sF, .int sN, .int sS, .int ig, .long xa, .long xb, .ref maa, .ref mab, .ref mba, .ref mbb])), (ms, .inl (cs 0, 288, .inl f9)), (mso, .inl (cs 0, 16, .inl (upd sof en (nI x0)))), (mon, .inl (cs 0, 16, .inl (upd onf en (-1)))), (mot, .inl (cs 0, 16, .inl (upd otf en (nI jz)))), (man, .inl (cs 0, 16, .inl (upd (upd anf en (nI 0)) en (((upd anf en (nI 0)) en) ||| (((upd anf en (nI 0)) jz) ||| ((nI 1) <<< ((nI jz) &&& 31)))))))] H → va_D A [(hm, .inr (12, [.ref ms, .ref mkp, .int (nI km), .ref mtr, .int (nI n), .int (nI k), .int (nI al), .int (nI be), .int ea, .int pr, .ref mas, .int nq, .int po, .int (nI (en + 1)), .ref mso, .ref mon, .ref mot, .ref man, .int (nI 0), .int xd, .ref mst, .ref msm, .ref mtb, .ref mti, .ref mfr, .ref mbn, .ref mbs, .ref mde, .int sF, .int sN, .int sS, .int ig, .long xa, .long xb, .ref maa, .ref mab, .ref mba, .ref mbb])), (ms, .inl (cs 0, 288, .inl f9)), (mso, .inl (cs 0, 16, .inl (upd sof en (nI x0)))), (mon, .inl (cs 0, 16, .inl (upd onf en (-1)))), (mot, .inl (cs 0, 16, .inl (upd otf en (nI jz)))), (man, .inl (cs 0, 16, .inl (upd (upd anf en (nI 0)) en (((upd anf en (nI 0)) en) ||| (((upd anf en (nI 0)) jz) ||| ((nI 1) <<< ((nI jz) &&& 31)))))))] → va_S A s.heap H locs → lv_has ls 6 [(5, .int (nI o)), (4, .int (nI en)), (0, .ref hm), (1, .int (nI x0)), (2, .int (-1)), (3, .int (nI jz))] → W p l e ({ frames := 2, cells := 0, slots := 0, locals := 44 } : Room) s m args below meth c H locs 0 0 (MQ below ((xQi D (fun (r : Int32) (u : Nat × Nat × (Nat → Int32) × (Nat → Int32) × (Nat → Int32) × (Nat → Int32) × (Nat → Int32)) => match u with | (enz, kmz, fz, soz, onz, otz, anz) => (PQ (entP en (nI x0) (-1) (nI jz)) r (nI en) (-1) ∧ (entP en (nI x0) (-1) (nI jz) → enz = en + 1) ∧ (¬ entP en (nI x0) (-1) (nI jz) → enz = en)) ∧ (colP fz ∧ enz ≤ 16 ∧ kmz ≤ 8 ∧ inP 16 8 soz ∧ parF enz onz ∧ parF enz otz) ∧ lowE f fz ∧ (entP en (nI x0) (-1) (nI jz) → kmz = 0) ∧ (¬ entP en (nI x0) (-1) (nI jz) → kmz = km)) (fun (u : Nat × Nat × (Nat → Int32) × (Nat → Int32) × (Nat → Int32) × (Nat → Int32) × (Nat → Int32)) => match u with | (enz, kmz, fz, soz, onz, otz, anz) => [(hm, .inr (12, [.ref ms, .ref mkp, .int (nI kmz), .ref mtr, .int (nI n), .int (nI k), .int (nI al), .int (nI be), .int ea, .int pr, .ref mas, .int nq, .int po, .int (nI enz), .ref mso, .ref mon, .ref mot, .ref man, .int (nI 0), .int xd, .ref mst, .ref msm, .ref mtb, .ref mti, .ref mfr, .ref mbn, .ref mbs, .ref mde, .int sF, .int sN, .int sS, .int ig, .long xa, .long xb, .ref maa, .ref mab, .ref mba, .ref mbb])), (ms, .inl (cs 0, 288, .inl fz)), (mso, .inl (cs 0, 16, .inl soz)), (mon, .inl (cs 0, 16, .inl onz)), (mot, .inl (cs 0, 16, .inl otz)), (man, .inl (cs 0, 16, .inl anz))])) A) args s 0 0 A) (F0 m 162 ls []) := by
              intro n_loop_21
              induction n_loop_21 with
              | zero => intro o f9 h_o hw9 hlt H locs ls hP hD hS hl; exact absurd hlt (Nat.not_lt_zero _)
              | succ n_loop_21 ih_loop_21 =>
                intro o f9 h_o hw9 hlt_loop_21 H locs ls hP hD hS hl
                refine lv_iload hx hb dX12_entry_162 (lv_at hl 0 rfl) ?_
                refine lv_bipush (v := nI 8) hx hb dX12_entry_164 (by decide) ?_
                refine lv_icmp_ge (tgt := 237) hx hb dX12_entry_166 (by decide) (fun c_22 => ?_) (fun c_22 => ?_)
                · -- 166 t
                  have fc_22 : 8 ≤ o := nf_le (by omega) (by omega) c_22
                  refine lv_aload_n hx hb dX12_entry_237 rfl (lv_at hl 2 rfl) ?_
                  refine lv_iconst (v := nI 0) hx hb dX12_entry_238 (by decide) ?_
                  refine xput C hP hD hS 0 rfl rfl zuX12 tyX12 tyX12_ok nmX12 2 (by decide) zw5_215 rfl rfl rfl (Nat.le_of_ble_eq_true rfl) dX12_entry_239 ?_
                  clear hP hD hS
                  try clear locs
                  try clear H
                  intro H locs hP hD hS
                  replace hP : va_P D vwCl [(hm, .inr (12, [.ref ms, .ref mkp, .int (nI 0), .ref mtr, .int (nI n), .int (nI k), .int (nI al), .int (nI be), .int ea, .int pr, .ref mas, .int nq, .int po, .int (nI (en + 1)), .ref mso, .ref mon, .ref mot, .ref man, .int (nI 0), .int xd, .ref mst, .ref msm, .ref mtb, .ref mti, .ref mfr, .ref mbn, .ref mbs, .ref mde, .int sF, .int sN, .int sS, .int ig, .long xa, .long xb, .ref maa, .ref mab, .ref mba, .ref mbb])), (ms, .inl (cs 0, 288, .inl f9)), (mso, .inl (cs 0, 16, .inl (upd sof en (nI x0)))), (mon, .inl (cs 0, 16, .inl (upd onf en (-1)))), (mot, .inl (cs 0, 16, .inl (upd otf en (nI jz)))), (man, .inl (cs 0, 16, .inl (upd (upd anf en (nI 0)) en (((upd anf en (nI 0)) en) ||| (((upd anf en (nI 0)) jz) ||| ((nI 1) <<< ((nI jz) &&& 31)))))))] H := hP
                  replace hD : va_D A [(hm, .inr (12, [.ref ms, .ref mkp, .int (nI 0), .ref mtr, .int (nI n), .int (nI k), .int (nI al), .int (nI be), .int ea, .int pr, .ref mas, .int nq, .int po, .int (nI (en + 1)), .ref mso, .ref mon, .ref mot, .ref man, .int (nI 0), .int xd, .ref mst, .ref msm, .ref mtb, .ref mti, .ref mfr, .ref mbn, .ref mbs, .ref mde, .int sF, .int sN, .int sS, .int ig, .long xa, .long xb, .ref maa, .ref mab, .ref mba, .ref mbb])), (ms, .inl (cs 0, 288, .inl f9)), (mso, .inl (cs 0, 16, .inl (upd sof en (nI x0)))), (mon, .inl (cs 0, 16, .inl (upd onf en (-1)))), (mot, .inl (cs 0, 16, .inl (upd otf en (nI jz)))), (man, .inl (cs 0, 16, .inl (upd (upd anf en (nI 0)) en (((upd anf en (nI 0)) en) ||| (((upd anf en (nI 0)) jz) ||| ((nI 1) <<< ((nI jz) &&& 31)))))))] := hD
                  refine lv_iload hx hb dX12_entry_242 (lv_at hl 1 rfl) ?_
                  exact xreti C (⟨(en + 1), 0, f9, (upd sof en (nI x0)), (upd onf en (-1)), (upd otf en (nI jz)), (upd (upd anf en (nI 0)) en (((upd anf en (nI 0)) en) ||| (((upd anf en (nI 0)) jz) ||| ((nI 1) <<< ((nI jz) &&& 31)))))⟩) (⟨⟨Or.inl ⟨⟨okN_nI (by omega) (by decide), (Or.inl rfl), (Or.inr (okN_nI h_jz (by omega))), Or.inr rfl, by omega⟩, rfl⟩, fun _ => rfl, fun q => absurd ⟨okN_nI (by omega) (by decide), (Or.inl rfl), (Or.inr (okN_nI h_jz (by omega))), Or.inr rfl, by omega⟩ q⟩, ⟨hw9.col hs, by omega, by decide, inP_up hso _ _ (by omega), parF_next hon (Or.inl rfl), parF_next hot (Or.inr ⟨jz, h_jz, rfl⟩)⟩, hw9, fun _ => rfl, fun q => absurd ⟨okN_nI (by omega) (by decide), (Or.inl rfl), (Or.inr (okN_nI h_jz (by omega))), Or.inr rfl, by omega⟩ q⟩) hP hD hS (Nat.le_of_ble_eq_true rfl) (Nat.le_of_ble_eq_true rfl) rfl dX12_entry_244
                · -- 166 f
                  have fc_22 : o < 8 := nf_nle (by omega) (by omega) c_22
                  refine lv_aload_n hx hb dX12_entry_169 rfl (lv_at hl 2 rfl) ?_
                  refine xget C hP 0 rfl rfl zuX12 0 (by decide) zw5_213 rfl dX12_entry_170 ?_
                  refine lv_bipush (v := nI 96) hx hb dX12_entry_173 (by decide) ?_
                  refine lv_bipush (v := nI 8) hx hb dX12_entry_175 (by decide) ?_
                  refine lv_iload hx hb dX12_entry_177 (lv_at hl 0 rfl) ?_
                  refine lv_imul hx hb dX12_entry_179 ?_
                  refine lv_topi (nm_r (e' := nI (8 * o)) (pk_mul _ _) ?_)
                  refine lv_iadd hx hb dX12_entry_180 ?_
                  refine lv_topi (nm_r (e' := nI (96 + (8 * o))) (nI_add _ _) ?_)
                  refine lv_iload_n hx hb dX12_entry_181 rfl (lv_at hl 3 rfl) ?_
                  refine lv_iadd hx hb dX12_entry_182 ?_
                  refine lv_topi (nm_r (e' := nI ((96 + (8 * o)) + x0)) (nI_add _ _) ?_)
                  refine xiald C hP 1 rfl ((96 + (8 * o)) + x0) rfl (by omega) (by decide) dX12_entry_183 ?_
                  refine lv_if_ge (tgt := 204) hx hb dX12_entry_184 (by decide) (fun c_23 => ?_) (fun c_23 => ?_)
                  · -- 184 t
                    refine lv_aload_n hx hb dX12_entry_204 rfl (lv_at hl 2 rfl) ?_
                    refine lv_iload hx hb dX12_entry_205 (lv_at hl 0 rfl) ?_
                    refine lv_iload_n hx hb dX12_entry_207 rfl (lv_at hl 3 rfl) ?_
                    refine xi (wr := [(mon, .inl (cs 0, 16, .inl (upd onf en (-1)))), (mot, .inl (cs 0, 16, .inl (upd otf en (nI jz)))), (man, .inl (cs 0, 16, .inl (upd (upd anf en (nI 0)) en (((upd anf en (nI 0)) en) ||| (((upd anf en (nI 0)) jz) ||| ((nI 1) <<< ((nI jz) &&& 31)))))))]) (xV (As := [.int (nI o), .int (nI x0)]) (rest := []) C (c_X12_acceptedOf l D cs hm ms mkp mtr mas mso mon mot man mst msm mtb mti mfr mbn mbs mde maa mab mba mbb n k al be km (en + 1) ea pr nq po (nI 0) xd sF sN sS ig xa xb f9 o (nI x0) (upd sof en (nI x0)) (by omega) (by omega)) kX12_310 hP hD [0, 1, 2] rfl (by decide) 0 rfl rfl rfl ⟨Nat.le_of_ble_eq_true rfl, Nat.le_of_ble_eq_true rfl⟩ rfl hl.1 rfl (Nat.le_of_ble_eq_true rfl) dX12_entry_208 ⟨Nat.le_of_ble_eq_true rfl, Nat.le_of_ble_eq_true rfl⟩) hP hD hS hA [0, 1, 2] [3, 4, 5] rfl rfl (by decide) (by decide) ?_
                    clear hP hD hS
                    try clear locs
                    try clear H
                    intro r_24 u_25 H locs hw_r_24 hP hD hS
                    have hw_r_24 : r_24 = -1 ∨ ∃ e, e < (en + 1) ∧ r_24 = nI e := hw_r_24
                    refine W.widen (k := 0) (n := 0) (Nat.le_of_ble_eq_true rfl) (Nat.le_of_ble_eq_true rfl) ?_
                    replace hP : va_P D vwCl [(mon, .inl (cs 0, 16, .inl (upd onf en (-1)))), (mot, .inl (cs 0, 16, .inl (upd otf en (nI jz)))), (man, .inl (cs 0, 16, .inl (upd (upd anf en (nI 0)) en (((upd anf en (nI 0)) en) ||| (((upd anf en (nI 0)) jz) ||| ((nI 1) <<< ((nI jz) &&& 31))))))), (hm, .inr (12, [.ref ms, .ref mkp, .int (nI km), .ref mtr, .int (nI n), .int (nI k), .int (nI al), .int (nI be), .int ea, .int pr, .ref mas, .int nq, .int po, .int (nI (en + 1)), .ref mso, .ref mon, .ref mot, .ref man, .int (nI 0), .int xd, .ref mst, .ref msm, .ref mtb, .ref mti, .ref mfr, .ref mbn, .ref mbs, .ref mde, .int sF, .int sN, .int sS, .int ig, .long xa, .long xb, .ref maa, .ref mab, .ref mba, .ref mbb])), (ms, .inl (cs 0, 288, .inl f9)), (mso, .inl (cs 0, 16, .inl (upd sof en (nI x0))))] H := hP
                    replace hD : va_D A [(mon, .inl (cs 0, 16, .inl (upd onf en (-1)))), (mot, .inl (cs 0, 16, .inl (upd otf en (nI jz)))), (man, .inl (cs 0, 16, .inl (upd (upd anf en (nI 0)) en (((upd anf en (nI 0)) en) ||| (((upd anf en (nI 0)) jz) ||| ((nI 1) <<< ((nI jz) &&& 31))))))), (hm, .inr (12, [.ref ms, .ref mkp, .int (nI km), .ref mtr, .int (nI n), .int (nI k), .int (nI al), .int (nI be), .int ea, .int pr, .ref mas, .int nq, .int po, .int (nI (en + 1)), .ref mso, .ref mon, .ref mot, .ref man, .int (nI 0), .int xd, .ref mst, .ref msm, .ref mtb, .ref mti, .ref mfr, .ref mbn, .ref mbs, .ref mde, .int sF, .int sN, .int sS, .int ig, .long xa, .long xb, .ref maa, .ref mab, .ref mba, .ref mbb])), (ms, .inl (cs 0, 288, .inl f9)), (mso, .inl (cs 0, 16, .inl (upd sof en (nI x0))))] := hD
                    refine lv_if_lt (tgt := 231) hx hb dX12_entry_211 (by decide) (fun c_26 => ?_) (fun c_26 => ?_)
                    · -- 211 t
                      refine lv_iinc (v := nI (o + 1)) (lv' := [(5, .int (nI (o + 1))), (4, .int (nI en)), (0, .ref hm), (1, .int (nI x0)), (2, .int (-1)), (3, .int (nI jz))]) hx hb dX12_entry_231 hl (k := 0) rfl (nI_add o 1) (by decide) rfl ?_
                      clear hl
                      try clear ls
                      intro ls hl
                      refine lv_goto (tgt := 162) hx hb dX12_entry_234 (by decide) ?_
                      exact ih_loop_21 (o + 1) f9 (by omega) hw9 (by omega) H locs ls (xP_map hP [3, 4, 5, 0, 1, 2] rfl) (hD.sub [3, 4, 5, 0, 1, 2] (by decide) rfl) hS (lv_sub hl [0, 1, 2, 3, 4, 5] rfl)
                    · -- 211 f
                      refine lv_aload_n hx hb dX12_entry_214 rfl (lv_at hl 2 rfl) ?_
                      refine xget C hP 3 rfl rfl zuX12 0 (by decide) zw5_213 rfl dX12_entry_215 ?_
                      refine lv_bipush (v := nI 88) hx hb dX12_entry_218 (by decide) ?_
                      refine lv_iload hx hb dX12_entry_220 (lv_at hl 0 rfl) ?_
                      refine lv_iadd hx hb dX12_entry_222 ?_
                      refine lv_topi (nm_r (e' := nI (88 + o)) (nI_add _ _) ?_)
                      refine lv_dup2_11 hx hb dX12_entry_223 rfl rfl ?_
                      refine xiald C hP 4 rfl (88 + o) rfl (by omega) (by decide) dX12_entry_224 ?_
                      refine lv_iconst (v := nI 1) hx hb dX12_entry_225 (by decide) ?_
                      refine lv_iload hx hb dX12_entry_226 (lv_at hl 1 rfl) ?_
                      refine lv_ishl hx hb dX12_entry_228 ?_
                      refine lv_ior hx hb dX12_entry_229 ?_
                      refine xiast C hP hD hS 4 rfl (88 + o) rfl (by omega) (by decide) dX12_entry_230 ?_
                      clear hP hD hS
                      try clear locs
                      try clear H
                      intro H locs hP hD hS
                      replace hP : va_P D vwCl [(mon, .inl (cs 0, 16, .inl (upd onf en (-1)))), (mot, .inl (cs 0, 16, .inl (upd otf en (nI jz)))), (man, .inl (cs 0, 16, .inl (upd (upd anf en (nI 0)) en (((upd anf en (nI 0)) en) ||| (((upd anf en (nI 0)) jz) ||| ((nI 1) <<< ((nI jz) &&& 31))))))), (hm, .inr (12, [.ref ms, .ref mkp, .int (nI km), .ref mtr, .int (nI n), .int (nI k), .int (nI al), .int (nI be), .int ea, .int pr, .ref mas, .int nq, .int po, .int (nI (en + 1)), .ref mso, .ref mon, .ref mot, .ref man, .int (nI 0), .int xd, .ref mst, .ref msm, .ref mtb, .ref mti, .ref mfr, .ref mbn, .ref mbs, .ref mde, .int sF, .int sN, .int sS, .int ig, .long xa, .long xb, .ref maa, .ref mab, .ref mba, .ref mbb])), (ms, .inl (cs 0, 288, .inl (upd f9 (88 + o) ((f9 (88 + o)) ||| ((nI 1) <<< ((nI en) &&& 31)))))), (mso, .inl (cs 0, 16, .inl (upd sof en (nI x0))))] H := hP
                      replace hD : va_D A [(mon, .inl (cs 0, 16, .inl (upd onf en (-1)))), (mot, .inl (cs 0, 16, .inl (upd otf en (nI jz)))), (man, .inl (cs 0, 16, .inl (upd (upd anf en (nI 0)) en (((upd anf en (nI 0)) en) ||| (((upd anf en (nI 0)) jz) ||| ((nI 1) <<< ((nI jz) &&& 31))))))), (hm, .inr (12, [.ref ms, .ref mkp, .int (nI km), .ref mtr, .int (nI n), .int (nI k), .int (nI al), .int (nI be), .int ea, .int pr, .ref mas, .int nq, .int po, .int (nI (en + 1)), .ref mso, .ref mon, .ref mot, .ref man, .int (nI 0), .int xd, .ref mst, .ref msm, .ref mtb, .ref mti, .ref mfr, .ref mbn, .ref mbs, .ref mde, .int sF, .int sN, .int sS, .int ig, .long xa, .long xb, .ref maa, .ref mab, .ref mba, .ref mbb])), (ms, .inl (cs 0, 288, .inl (upd f9 (88 + o) ((f9 (88 + o)) ||| ((nI 1) <<< ((nI en) &&& 31)))))), (mso, .inl (cs 0, 16, .inl (upd sof en (nI x0))))] := hD
                      refine lv_iinc (v := nI (o + 1)) (lv' := [(5, .int (nI (o + 1))), (4, .int (nI en)), (0, .ref hm), (1, .int (nI x0)), (2, .int (-1)), (3, .int (nI jz))]) hx hb dX12_entry_231 hl (k := 0) rfl (nI_add o 1) (by decide) rfl ?_
                      clear hl
                      try clear ls
                      intro ls hl
                      refine lv_goto (tgt := 162) hx hb dX12_entry_234 (by decide) ?_
                      exact ih_loop_21 (o + 1) (upd f9 (88 + o) ((f9 (88 + o)) ||| ((nI 1) <<< ((nI en) &&& 31)))) (by omega) (lowE.up hw9 (by omega) ((f9 (88 + o)) ||| ((nI 1) <<< ((nI en) &&& 31)))) (by omega) H locs ls (xP_map hP [3, 4, 5, 0, 1, 2] rfl) (hD.sub [3, 4, 5, 0, 1, 2] (by decide) rfl) hS (lv_sub hl [0, 1, 2, 3, 4, 5] rfl)
                  · -- 184 f
                    refine lv_aload_n hx hb dX12_entry_187 rfl (lv_at hl 2 rfl) ?_
                    refine xget C hP 0 rfl rfl zuX12 0 (by decide) zw5_213 rfl dX12_entry_188 ?_
                    refine lv_bipush (v := nI 96) hx hb dX12_entry_191 (by decide) ?_
                    refine lv_bipush (v := nI 8) hx hb dX12_entry_193 (by decide) ?_
                    refine lv_iload hx hb dX12_entry_195 (lv_at hl 0 rfl) ?_
                    refine lv_imul hx hb dX12_entry_197 ?_
                    refine lv_topi (nm_r (e' := nI (8 * o)) (pk_mul _ _) ?_)
                    refine lv_iadd hx hb dX12_entry_198 ?_
                    refine lv_topi (nm_r (e' := nI (96 + (8 * o))) (nI_add _ _) ?_)
                    refine lv_iload_n hx hb dX12_entry_199 rfl (lv_at hl 3 rfl) ?_
                    refine lv_iadd hx hb dX12_entry_200 ?_
                    refine lv_topi (nm_r (e' := nI ((96 + (8 * o)) + x0)) (nI_add _ _) ?_)
                    refine lv_iload hx hb dX12_entry_201 (lv_at hl 1 rfl) ?_
                    refine xiast C hP hD hS 1 rfl ((96 + (8 * o)) + x0) rfl (by omega) (by decide) dX12_entry_203 ?_
                    clear hP hD hS
                    try clear locs
                    try clear H
                    intro H locs hP hD hS
                    replace hP : va_P D vwCl [(hm, .inr (12, [.ref ms, .ref mkp, .int (nI km), .ref mtr, .int (nI n), .int (nI k), .int (nI al), .int (nI be), .int ea, .int pr, .ref mas, .int nq, .int po, .int (nI (en + 1)), .ref mso, .ref mon, .ref mot, .ref man, .int (nI 0), .int xd, .ref mst, .ref msm, .ref mtb, .ref mti, .ref mfr, .ref mbn, .ref mbs, .ref mde, .int sF, .int sN, .int sS, .int ig, .long xa, .long xb, .ref maa, .ref mab, .ref mba, .ref mbb])), (ms, .inl (cs 0, 288, .inl (upd f9 ((96 + (8 * o)) + x0) (nI en)))), (mso, .inl (cs 0, 16, .inl (upd sof en (nI x0)))), (mon, .inl (cs 0, 16, .inl (upd onf en (-1)))), (mot, .inl (cs 0, 16, .inl (upd otf en (nI jz)))), (man, .inl (cs 0, 16, .inl (upd (upd anf en (nI 0)) en (((upd anf en (nI 0)) en) ||| (((upd anf en (nI 0)) jz) ||| ((nI 1) <<< ((nI jz) &&& 31)))))))] H := hP
                    replace hD : va_D A [(hm, .inr (12, [.ref ms, .ref mkp, .int (nI km), .ref mtr, .int (nI n), .int (nI k), .int (nI al), .int (nI be), .int ea, .int pr, .ref mas, .int nq, .int po, .int (nI (en + 1)), .ref mso, .ref mon, .ref mot, .ref man, .int (nI 0), .int xd, .ref mst, .ref msm, .ref mtb, .ref mti, .ref mfr, .ref mbn, .ref mbs, .ref mde, .int sF, .int sN, .int sS, .int ig, .long xa, .long xb, .ref maa, .ref mab, .ref mba, .ref mbb])), (ms, .inl (cs 0, 288, .inl (upd f9 ((96 + (8 * o)) + x0) (nI en)))), (mso, .inl (cs 0, 16, .inl (upd sof en (nI x0)))), (mon, .inl (cs 0, 16, .inl (upd onf en (-1)))), (mot, .inl (cs 0, 16, .inl (upd otf en (nI jz)))), (man, .inl (cs 0, 16, .inl (upd (upd anf en (nI 0)) en (((upd anf en (nI 0)) en) ||| (((upd anf en (nI 0)) jz) ||| ((nI 1) <<< ((nI jz) &&& 31)))))))] := hD
                    refine lv_aload_n hx hb dX12_entry_204 rfl (lv_at hl 2 rfl) ?_
                    refine lv_iload hx hb dX12_entry_205 (lv_at hl 0 rfl) ?_
                    refine lv_iload_n hx hb dX12_entry_207 rfl (lv_at hl 3 rfl) ?_
                    refine xi (wr := [(mon, .inl (cs 0, 16, .inl (upd onf en (-1)))), (mot, .inl (cs 0, 16, .inl (upd otf en (nI jz)))), (man, .inl (cs 0, 16, .inl (upd (upd anf en (nI 0)) en (((upd anf en (nI 0)) en) ||| (((upd anf en (nI 0)) jz) ||| ((nI 1) <<< ((nI jz) &&& 31)))))))]) (xV (As := [.int (nI o), .int (nI x0)]) (rest := []) C (c_X12_acceptedOf l D cs hm ms mkp mtr mas mso mon mot man mst msm mtb mti mfr mbn mbs mde maa mab mba mbb n k al be km (en + 1) ea pr nq po (nI 0) xd sF sN sS ig xa xb (upd f9 ((96 + (8 * o)) + x0) (nI en)) o (nI x0) (upd sof en (nI x0)) (by omega) (by omega)) kX12_310 hP hD [0, 1, 2] rfl (by decide) 0 rfl rfl rfl ⟨Nat.le_of_ble_eq_true rfl, Nat.le_of_ble_eq_true rfl⟩ rfl hl.1 rfl (Nat.le_of_ble_eq_true rfl) dX12_entry_208 ⟨Nat.le_of_ble_eq_true rfl, Nat.le_of_ble_eq_true rfl⟩) hP hD hS hA [0, 1, 2] [3, 4, 5] rfl rfl (by decide) (by decide) ?_
                    clear hP hD hS
                    try clear locs
                    try clear H
                    intro r_27 u_28 H locs hw_r_27 hP hD hS
                    have hw_r_27 : r_27 = -1 ∨ ∃ e, e < (en + 1) ∧ r_27 = nI e := hw_r_27
                    refine W.widen (k := 0) (n := 0) (Nat.le_of_ble_eq_true rfl) (Nat.le_of_ble_eq_true rfl) ?_
                    replace hP : va_P D vwCl [(mon, .inl (cs 0, 16, .inl (upd onf en (-1)))), (mot, .inl (cs 0, 16, .inl (upd otf en (nI jz)))), (man, .inl (cs 0, 16, .inl (upd (upd anf en (nI 0)) en (((upd anf en (nI 0)) en) ||| (((upd anf en (nI 0)) jz) ||| ((nI 1) <<< ((nI jz) &&& 31))))))), (hm, .inr (12, [.ref ms, .ref mkp, .int (nI km), .ref mtr, .int (nI n), .int (nI k), .int (nI al), .int (nI be), .int ea, .int pr, .ref mas, .int nq, .int po, .int (nI (en + 1)), .ref mso, .ref mon, .ref mot, .ref man, .int (nI 0), .int xd, .ref mst, .ref msm, .ref mtb, .ref mti, .ref mfr, .ref mbn, .ref mbs, .ref mde, .int sF, .int sN, .int sS, .int ig, .long xa, .long xb, .ref maa, .ref mab, .ref mba, .ref mbb])), (ms, .inl (cs 0, 288, .inl (upd f9 ((96 + (8 * o)) + x0) (nI en)))), (mso, .inl (cs 0, 16, .inl (upd sof en (nI x0))))] H := hP
                    replace hD : va_D A [(mon, .inl (cs 0, 16, .inl (upd onf en (-1)))), (mot, .inl (cs 0, 16, .inl (upd otf en (nI jz)))), (man, .inl (cs 0, 16, .inl (upd (upd anf en (nI 0)) en (((upd anf en (nI 0)) en) ||| (((upd anf en (nI 0)) jz) ||| ((nI 1) <<< ((nI jz) &&& 31))))))), (hm, .inr (12, [.ref ms, .ref mkp, .int (nI km), .ref mtr, .int (nI n), .int (nI k), .int (nI al), .int (nI be), .int ea, .int pr, .ref mas, .int nq, .int po, .int (nI (en + 1)), .ref mso, .ref mon, .ref mot, .ref man, .int (nI 0), .int xd, .ref mst, .ref msm, .ref mtb, .ref mti, .ref mfr, .ref mbn, .ref mbs, .ref mde, .int sF, .int sN, .int sS, .int ig, .long xa, .long xb, .ref maa, .ref mab, .ref mba, .ref mbb])), (ms, .inl (cs 0, 288, .inl (upd f9 ((96 + (8 * o)) + x0) (nI en)))), (mso, .inl (cs 0, 16, .inl (upd sof en (nI x0))))] := hD
                    refine lv_if_lt (tgt := 231) hx hb dX12_entry_211 (by decide) (fun c_29 => ?_) (fun c_29 => ?_)
                    · -- 211 t
                      refine lv_iinc (v := nI (o + 1)) (lv' := [(5, .int (nI (o + 1))), (4, .int (nI en)), (0, .ref hm), (1, .int (nI x0)), (2, .int (-1)), (3, .int (nI jz))]) hx hb dX12_entry_231 hl (k := 0) rfl (nI_add o 1) (by decide) rfl ?_
                      clear hl
                      try clear ls
                      intro ls hl
                      refine lv_goto (tgt := 162) hx hb dX12_entry_234 (by decide) ?_
                      exact ih_loop_21 (o + 1) (upd f9 ((96 + (8 * o)) + x0) (nI en)) (by omega) (lowE.up hw9 (by omega) (nI en)) (by omega) H locs ls (xP_map hP [3, 4, 5, 0, 1, 2] rfl) (hD.sub [3, 4, 5, 0, 1, 2] (by decide) rfl) hS (lv_sub hl [0, 1, 2, 3, 4, 5] rfl)
                    · -- 211 f
                      refine lv_aload_n hx hb dX12_entry_214 rfl (lv_at hl 2 rfl) ?_
                      refine xget C hP 3 rfl rfl zuX12 0 (by decide) zw5_213 rfl dX12_entry_215 ?_
                      refine lv_bipush (v := nI 88) hx hb dX12_entry_218 (by decide) ?_
                      refine lv_iload hx hb dX12_entry_220 (lv_at hl 0 rfl) ?_
                      refine lv_iadd hx hb dX12_entry_222 ?_
                      refine lv_topi (nm_r (e' := nI (88 + o)) (nI_add _ _) ?_)
                      refine lv_dup2_11 hx hb dX12_entry_223 rfl rfl ?_
                      refine xiald C hP 4 rfl (88 + o) rfl (by omega) (by decide) dX12_entry_224 ?_
                      refine lv_iconst (v := nI 1) hx hb dX12_entry_225 (by decide) ?_
                      refine lv_iload hx hb dX12_entry_226 (lv_at hl 1 rfl) ?_
                      refine lv_ishl hx hb dX12_entry_228 ?_
                      refine lv_ior hx hb dX12_entry_229 ?_
                      refine xiast C hP hD hS 4 rfl (88 + o) rfl (by omega) (by decide) dX12_entry_230 ?_
                      clear hP hD hS
                      try clear locs
                      try clear H
                      intro H locs hP hD hS
                      replace hP : va_P D vwCl [(mon, .inl (cs 0, 16, .inl (upd onf en (-1)))), (mot, .inl (cs 0, 16, .inl (upd otf en (nI jz)))), (man, .inl (cs 0, 16, .inl (upd (upd anf en (nI 0)) en (((upd anf en (nI 0)) en) ||| (((upd anf en (nI 0)) jz) ||| ((nI 1) <<< ((nI jz) &&& 31))))))), (hm, .inr (12, [.ref ms, .ref mkp, .int (nI km), .ref mtr, .int (nI n), .int (nI k), .int (nI al), .int (nI be), .int ea, .int pr, .ref mas, .int nq, .int po, .int (nI (en + 1)), .ref mso, .ref mon, .ref mot, .ref man, .int (nI 0), .int xd, .ref mst, .ref msm, .ref mtb, .ref mti, .ref mfr, .ref mbn, .ref mbs, .ref mde, .int sF, .int sN, .int sS, .int ig, .long xa, .long xb, .ref maa, .ref mab, .ref mba, .ref mbb])), (ms, .inl (cs 0, 288, .inl (upd (upd f9 ((96 + (8 * o)) + x0) (nI en)) (88 + o) (((upd f9 ((96 + (8 * o)) + x0) (nI en)) (88 + o)) ||| ((nI 1) <<< ((nI en) &&& 31)))))), (mso, .inl (cs 0, 16, .inl (upd sof en (nI x0))))] H := hP
                      replace hD : va_D A [(mon, .inl (cs 0, 16, .inl (upd onf en (-1)))), (mot, .inl (cs 0, 16, .inl (upd otf en (nI jz)))), (man, .inl (cs 0, 16, .inl (upd (upd anf en (nI 0)) en (((upd anf en (nI 0)) en) ||| (((upd anf en (nI 0)) jz) ||| ((nI 1) <<< ((nI jz) &&& 31))))))), (hm, .inr (12, [.ref ms, .ref mkp, .int (nI km), .ref mtr, .int (nI n), .int (nI k), .int (nI al), .int (nI be), .int ea, .int pr, .ref mas, .int nq, .int po, .int (nI (en + 1)), .ref mso, .ref mon, .ref mot, .ref man, .int (nI 0), .int xd, .ref mst, .ref msm, .ref mtb, .ref mti, .ref mfr, .ref mbn, .ref mbs, .ref mde, .int sF, .int sN, .int sS, .int ig, .long xa, .long xb, .ref maa, .ref mab, .ref mba, .ref mbb])), (ms, .inl (cs 0, 288, .inl (upd (upd f9 ((96 + (8 * o)) + x0) (nI en)) (88 + o) (((upd f9 ((96 + (8 * o)) + x0) (nI en)) (88 + o)) ||| ((nI 1) <<< ((nI en) &&& 31)))))), (mso, .inl (cs 0, 16, .inl (upd sof en (nI x0))))] := hD
                      refine lv_iinc (v := nI (o + 1)) (lv' := [(5, .int (nI (o + 1))), (4, .int (nI en)), (0, .ref hm), (1, .int (nI x0)), (2, .int (-1)), (3, .int (nI jz))]) hx hb dX12_entry_231 hl (k := 0) rfl (nI_add o 1) (by decide) rfl ?_
                      clear hl
                      try clear ls
                      intro ls hl
                      refine lv_goto (tgt := 162) hx hb dX12_entry_234 (by decide) ?_
                      exact ih_loop_21 (o + 1) (upd (upd f9 ((96 + (8 * o)) + x0) (nI en)) (88 + o) (((upd f9 ((96 + (8 * o)) + x0) (nI en)) (88 + o)) ||| ((nI 1) <<< ((nI en) &&& 31)))) (by omega) (lowE.up (lowE.up hw9 (by omega) (nI en)) (by omega) (((upd f9 ((96 + (8 * o)) + x0) (nI en)) (88 + o)) ||| ((nI 1) <<< ((nI en) &&& 31)))) (by omega) H locs ls (xP_map hP [3, 4, 5, 0, 1, 2] rfl) (hD.sub [3, 4, 5, 0, 1, 2] (by decide) rfl) hS (lv_sub hl [0, 1, 2, 3, 4, 5] rfl)
            exact loop_21 _ 0 f (by omega) (lowE.refl f) (Nat.lt_succ_self _) H locs ls hP hD hS (lv_sub hl [0, 1, 2, 3, 4, 5] rfl)
          · -- 58 f
            have fc_20 : en = 16 := nf_eq (by omega) (by omega) c_20
            refine lv_iconst (v := (-1)) hx hb dX12_entry_61 (by decide) ?_
            exact xreti C (⟨en, km, f, sof, onf, otf, anf⟩) (⟨⟨Or.inr ⟨fun q => by have z := q.2.2.2.2; omega, rfl⟩, fun q => absurd q (fun q => by have z := q.2.2.2.2; omega), fun _ => rfl⟩, ⟨hs, hen, hkm, hso, hon, hot⟩, lowE.refl _, fun q => absurd q (fun q => by have z := q.2.2.2.2; omega), fun _ => rfl⟩) hP hD hS (Nat.le_of_ble_eq_true rfl) (Nat.le_of_ble_eq_true rfl) rfl dX12_entry_62
        · -- split
          replace hP : va_P D vwCl [(hm, .inr (12, [.ref ms, .ref mkp, .int (nI km), .ref mtr, .int (nI n), .int (nI k), .int (nI al), .int (nI be), .int ea, .int pr, .ref mas, .int nq, .int po, .int (nI en), .ref mso, .ref mon, .ref mot, .ref man, .int (nI 0), .int xd, .ref mst, .ref msm, .ref mtb, .ref mti, .ref mfr, .ref mbn, .ref mbs, .ref mde, .int sF, .int sN, .int sS, .int ig, .long xa, .long xb, .ref maa, .ref mab, .ref mba, .ref mbb])), (ms, .inl (cs 0, 288, .inl f)), (mso, .inl (cs 0, 16, .inl sof)), (mon, .inl (cs 0, 16, .inl onf)), (mot, .inl (cs 0, 16, .inl otf)), (man, .inl (cs 0, 16, .inl anf))] H := hP
          replace hD : va_D A [(hm, .inr (12, [.ref ms, .ref mkp, .int (nI km), .ref mtr, .int (nI n), .int (nI k), .int (nI al), .int (nI be), .int ea, .int pr, .ref mas, .int nq, .int po, .int (nI en), .ref mso, .ref mon, .ref mot, .ref man, .int (nI 0), .int xd, .ref mst, .ref msm, .ref mtb, .ref mti, .ref mfr, .ref mbn, .ref mbs, .ref mde, .int sF, .int sN, .int sS, .int ig, .long xa, .long xb, .ref maa, .ref mab, .ref mba, .ref mbb])), (ms, .inl (cs 0, 288, .inl f)), (mso, .inl (cs 0, 16, .inl sof)), (mon, .inl (cs 0, 16, .inl onf)), (mot, .inl (cs 0, 16, .inl otf)), (man, .inl (cs 0, 16, .inl anf))] := hD
          refine lv_iload_n hx hb dX12_entry_43 rfl (lv_at hl 2 rfl) ?_
          refine lv_if_lt (tgt := 52) hx hb dX12_entry_44 (by decide) (fun c => absurd c (nI_pos (by omega))) (fun _ => ?_)
          refine lv_iload_n hx hb dX12_entry_47 rfl (lv_at hl 2 rfl) ?_
          refine lv_iload_n hx hb dX12_entry_48 rfl (lv_at hl 3 rfl) ?_
          refine lv_icmp_eq (tgt := 61) hx hb dX12_entry_49 (by decide) (fun c_30 => ?_) (fun c_30 => ?_)
          · -- 49 t
            refine lv_iconst (v := (-1)) hx hb dX12_entry_61 (by decide) ?_
            exact xreti C (⟨en, km, f, sof, onf, otf, anf⟩) (⟨⟨Or.inr ⟨fun q => q.2.2.2.1.elim (fun g => g c_30) (fun g => nI_ne_m1 (by omega) g), rfl⟩, fun q => absurd q (fun q => q.2.2.2.1.elim (fun g => g c_30) (fun g => nI_ne_m1 (by omega) g)), fun _ => rfl⟩, ⟨hs, hen, hkm, hso, hon, hot⟩, lowE.refl _, fun q => absurd q (fun q => q.2.2.2.1.elim (fun g => g c_30) (fun g => nI_ne_m1 (by omega) g)), fun _ => rfl⟩) hP hD hS (Nat.le_of_ble_eq_true rfl) (Nat.le_of_ble_eq_true rfl) rfl dX12_entry_62
          · -- 49 f
            refine lv_aload_n hx hb dX12_entry_52 rfl (lv_at hl 0 rfl) ?_
            refine xget C hP 0 rfl rfl zuX12 13 (by decide) zw5_226 rfl dX12_entry_53 ?_
            refine lv_bipush (v := nI 16) hx hb dX12_entry_56 (by decide) ?_
            refine lv_icmp_ne (tgt := 63) hx hb dX12_entry_58 (by decide) (fun c_31 => ?_) (fun c_31 => ?_)
            · -- 58 t
              have fc_31 : en ≠ 16 := nf_ne (by omega) (by omega) c_31
              refine lv_aload_n hx hb dX12_entry_63 rfl (lv_at hl 0 rfl) ?_
              refine xget C hP 0 rfl rfl zuX12 13 (by decide) zw5_226 rfl dX12_entry_64 ?_
              refine lv_istore (lv' := [(4, .int (nI en)), (0, .ref hm), (1, .int (nI x0)), (2, .int (nI jy)), (3, .int (-1))]) hx hb dX12_entry_67 hl (by decide) rfl ?_
              clear hl
              try clear ls
              intro ls hl
              refine lv_aload_n hx hb dX12_entry_69 rfl (lv_at hl 1 rfl) ?_
              refine xget C hP 0 rfl rfl zuX12 14 (by decide) zw5_227 rfl dX12_entry_70 ?_
              refine lv_iload hx hb dX12_entry_73 (lv_at hl 0 rfl) ?_
              refine lv_iload_n hx hb dX12_entry_75 rfl (lv_at hl 2 rfl) ?_
              refine xiast C hP hD hS 2 rfl en rfl (by omega) (by decide) dX12_entry_76 ?_
              clear hP hD hS
              try clear locs
              try clear H
              intro H locs hP hD hS
              replace hP : va_P D vwCl [(hm, .inr (12, [.ref ms, .ref mkp, .int (nI km), .ref mtr, .int (nI n), .int (nI k), .int (nI al), .int (nI be), .int ea, .int pr, .ref mas, .int nq, .int po, .int (nI en), .ref mso, .ref mon, .ref mot, .ref man, .int (nI 0), .int xd, .ref mst, .ref msm, .ref mtb, .ref mti, .ref mfr, .ref mbn, .ref mbs, .ref mde, .int sF, .int sN, .int sS, .int ig, .long xa, .long xb, .ref maa, .ref mab, .ref mba, .ref mbb])), (ms, .inl (cs 0, 288, .inl f)), (mso, .inl (cs 0, 16, .inl (upd sof en (nI x0)))), (mon, .inl (cs 0, 16, .inl onf)), (mot, .inl (cs 0, 16, .inl otf)), (man, .inl (cs 0, 16, .inl anf))] H := hP
              replace hD : va_D A [(hm, .inr (12, [.ref ms, .ref mkp, .int (nI km), .ref mtr, .int (nI n), .int (nI k), .int (nI al), .int (nI be), .int ea, .int pr, .ref mas, .int nq, .int po, .int (nI en), .ref mso, .ref mon, .ref mot, .ref man, .int (nI 0), .int xd, .ref mst, .ref msm, .ref mtb, .ref mti, .ref mfr, .ref mbn, .ref mbs, .ref mde, .int sF, .int sN, .int sS, .int ig, .long xa, .long xb, .ref maa, .ref mab, .ref mba, .ref mbb])), (ms, .inl (cs 0, 288, .inl f)), (mso, .inl (cs 0, 16, .inl (upd sof en (nI x0)))), (mon, .inl (cs 0, 16, .inl onf)), (mot, .inl (cs 0, 16, .inl otf)), (man, .inl (cs 0, 16, .inl anf))] := hD
              refine lv_aload_n hx hb dX12_entry_77 rfl (lv_at hl 1 rfl) ?_
              refine xget C hP 0 rfl rfl zuX12 15 (by decide) zw5_228 rfl dX12_entry_78 ?_
              refine lv_iload hx hb dX12_entry_81 (lv_at hl 0 rfl) ?_
              refine lv_iload_n hx hb dX12_entry_83 rfl (lv_at hl 3 rfl) ?_
              refine xiast C hP hD hS 3 rfl en rfl (by omega) (by decide) dX12_entry_84 ?_
              clear hP hD hS
              try clear locs
              try clear H
              intro H locs hP hD hS
              replace hP : va_P D vwCl [(hm, .inr (12, [.ref ms, .ref mkp, .int (nI km), .ref mtr, .int (nI n), .int (nI k), .int (nI al), .int (nI be), .int ea, .int pr, .ref mas, .int nq, .int po, .int (nI en), .ref mso, .ref mon, .ref mot, .ref man, .int (nI 0), .int xd, .ref mst, .ref msm, .ref mtb, .ref mti, .ref mfr, .ref mbn, .ref mbs, .ref mde, .int sF, .int sN, .int sS, .int ig, .long xa, .long xb, .ref maa, .ref mab, .ref mba, .ref mbb])), (ms, .inl (cs 0, 288, .inl f)), (mso, .inl (cs 0, 16, .inl (upd sof en (nI x0)))), (mon, .inl (cs 0, 16, .inl (upd onf en (nI jy)))), (mot, .inl (cs 0, 16, .inl otf)), (man, .inl (cs 0, 16, .inl anf))] H := hP
              replace hD : va_D A [(hm, .inr (12, [.ref ms, .ref mkp, .int (nI km), .ref mtr, .int (nI n), .int (nI k), .int (nI al), .int (nI be), .int ea, .int pr, .ref mas, .int nq, .int po, .int (nI en), .ref mso, .ref mon, .ref mot, .ref man, .int (nI 0), .int xd, .ref mst, .ref msm, .ref mtb, .ref mti, .ref mfr, .ref mbn, .ref mbs, .ref mde, .int sF, .int sN, .int sS, .int ig, .long xa, .long xb, .ref maa, .ref mab, .ref mba, .ref mbb])), (ms, .inl (cs 0, 288, .inl f)), (mso, .inl (cs 0, 16, .inl (upd sof en (nI x0)))), (mon, .inl (cs 0, 16, .inl (upd onf en (nI jy)))), (mot, .inl (cs 0, 16, .inl otf)), (man, .inl (cs 0, 16, .inl anf))] := hD
              refine lv_aload_n hx hb dX12_entry_85 rfl (lv_at hl 1 rfl) ?_
              refine xget C hP 0 rfl rfl zuX12 16 (by decide) zw5_229 rfl dX12_entry_86 ?_
              refine lv_iload hx hb dX12_entry_89 (lv_at hl 0 rfl) ?_
              refine lv_iload_n hx hb dX12_entry_91 rfl (lv_at hl 4 rfl) ?_
              refine xiast C hP hD hS 4 rfl en rfl (by omega) (by decide) dX12_entry_92 ?_
              clear hP hD hS
              try clear locs
              try clear H
              intro H locs hP hD hS
              replace hP : va_P D vwCl [(hm, .inr (12, [.ref ms, .ref mkp, .int (nI km), .ref mtr, .int (nI n), .int (nI k), .int (nI al), .int (nI be), .int ea, .int pr, .ref mas, .int nq, .int po, .int (nI en), .ref mso, .ref mon, .ref mot, .ref man, .int (nI 0), .int xd, .ref mst, .ref msm, .ref mtb, .ref mti, .ref mfr, .ref mbn, .ref mbs, .ref mde, .int sF, .int sN, .int sS, .int ig, .long xa, .long xb, .ref maa, .ref mab, .ref mba, .ref mbb])), (ms, .inl (cs 0, 288, .inl f)), (mso, .inl (cs 0, 16, .inl (upd sof en (nI x0)))), (mon, .inl (cs 0, 16, .inl (upd onf en (nI jy)))), (mot, .inl (cs 0, 16, .inl (upd otf en (-1)))), (man, .inl (cs 0, 16, .inl anf))] H := hP
              replace hD : va_D A [(hm, .inr (12, [.ref ms, .ref mkp, .int (nI km), .ref mtr, .int (nI n), .int (nI k), .int (nI al), .int (nI be), .int ea, .int pr, .ref mas, .int nq, .int po, .int (nI en), .ref mso, .ref mon, .ref mot, .ref man, .int (nI 0), .int xd, .ref mst, .ref msm, .ref mtb, .ref mti, .ref mfr, .ref mbn, .ref mbs, .ref mde, .int sF, .int sN, .int sS, .int ig, .long xa, .long xb, .ref maa, .ref mab, .ref mba, .ref mbb])), (ms, .inl (cs 0, 288, .inl f)), (mso, .inl (cs 0, 16, .inl (upd sof en (nI x0)))), (mon, .inl (cs 0, 16, .inl (upd onf en (nI jy)))), (mot, .inl (cs 0, 16, .inl (upd otf en (-1)))), (man, .inl (cs 0, 16, .inl anf))] := hD
              refine lv_aload_n hx hb dX12_entry_93 rfl (lv_at hl 1 rfl) ?_
              refine xget C hP 0 rfl rfl zuX12 17 (by decide) zw5_230 rfl dX12_entry_94 ?_
              refine lv_iload hx hb dX12_entry_97 (lv_at hl 0 rfl) ?_
              refine lv_iconst (v := nI 0) hx hb dX12_entry_99 (by decide) ?_
              refine xiast C hP hD hS 5 rfl en rfl (by omega) (by decide) dX12_entry_100 ?_
              clear hP hD hS
              try clear locs
              try clear H
              intro H locs hP hD hS
              replace hP : va_P D vwCl [(hm, .inr (12, [.ref ms, .ref mkp, .int (nI km), .ref mtr, .int (nI n), .int (nI k), .int (nI al), .int (nI be), .int ea, .int pr, .ref mas, .int nq, .int po, .int (nI en), .ref mso, .ref mon, .ref mot, .ref man, .int (nI 0), .int xd, .ref mst, .ref msm, .ref mtb, .ref mti, .ref mfr, .ref mbn, .ref mbs, .ref mde, .int sF, .int sN, .int sS, .int ig, .long xa, .long xb, .ref maa, .ref mab, .ref mba, .ref mbb])), (ms, .inl (cs 0, 288, .inl f)), (mso, .inl (cs 0, 16, .inl (upd sof en (nI x0)))), (mon, .inl (cs 0, 16, .inl (upd onf en (nI jy)))), (mot, .inl (cs 0, 16, .inl (upd otf en (-1)))), (man, .inl (cs 0, 16, .inl (upd anf en (nI 0))))] H := hP
              replace hD : va_D A [(hm, .inr (12, [.ref ms, .ref mkp, .int (nI km), .ref mtr, .int (nI n), .int (nI k), .int (nI al), .int (nI be), .int ea, .int pr, .ref mas, .int nq, .int po, .int (nI en), .ref mso, .ref mon, .ref mot, .ref man, .int (nI 0), .int xd, .ref mst, .ref msm, .ref mtb, .ref mti, .ref mfr, .ref mbn, .ref mbs, .ref mde, .int sF, .int sN, .int sS, .int ig, .long xa, .long xb, .ref maa, .ref mab, .ref mba, .ref mbb])), (ms, .inl (cs 0, 288, .inl f)), (mso, .inl (cs 0, 16, .inl (upd sof en (nI x0)))), (mon, .inl (cs 0, 16, .inl (upd onf en (nI jy)))), (mot, .inl (cs 0, 16, .inl (upd otf en (-1)))), (man, .inl (cs 0, 16, .inl (upd anf en (nI 0))))] := hD
              refine lv_iload_n hx hb dX12_entry_101 rfl (lv_at hl 3 rfl) ?_
              refine lv_if_lt (tgt := 125) hx hb dX12_entry_102 (by decide) (fun c => absurd c (nI_pos (by omega))) (fun _ => ?_)
              refine lv_aload_n hx hb dX12_entry_105 rfl (lv_at hl 1 rfl) ?_
              refine xget C hP 0 rfl rfl zuX12 17 (by decide) zw5_230 rfl dX12_entry_106 ?_
              refine lv_iload hx hb dX12_entry_109 (lv_at hl 0 rfl) ?_
              refine lv_dup2_11 hx hb dX12_entry_111 rfl rfl ?_
              refine xiald C hP 5 rfl en rfl (by omega) (by decide) dX12_entry_112 ?_
              refine lv_aload_n hx hb dX12_entry_113 rfl (lv_at hl 1 rfl) ?_
              refine xget C hP 0 rfl rfl zuX12 17 (by decide) zw5_230 rfl dX12_entry_114 ?_
              refine lv_iload_n hx hb dX12_entry_117 rfl (lv_at hl 3 rfl) ?_
              refine xiald C hP 5 rfl jy rfl (by omega) (by decide) dX12_entry_118 ?_
              refine lv_iconst (v := nI 1) hx hb dX12_entry_119 (by decide) ?_
              refine lv_iload_n hx hb dX12_entry_120 rfl (lv_at hl 3 rfl) ?_
              refine lv_ishl hx hb dX12_entry_121 ?_
              refine lv_ior hx hb dX12_entry_122 ?_
              refine lv_ior hx hb dX12_entry_123 ?_
              refine xiast C hP hD hS 5 rfl en rfl (by omega) (by decide) dX12_entry_124 ?_
              clear hP hD hS
              try clear locs
              try clear H
              intro H locs hP hD hS
              replace hP : va_P D vwCl [(hm, .inr (12, [.ref ms, .ref mkp, .int (nI km), .ref mtr, .int (nI n), .int (nI k), .int (nI al), .int (nI be), .int ea, .int pr, .ref mas, .int nq, .int po, .int (nI en), .ref mso, .ref mon, .ref mot, .ref man, .int (nI 0), .int xd, .ref mst, .ref msm, .ref mtb, .ref mti, .ref mfr, .ref mbn, .ref mbs, .ref mde, .int sF, .int sN, .int sS, .int ig, .long xa, .long xb, .ref maa, .ref mab, .ref mba, .ref mbb])), (ms, .inl (cs 0, 288, .inl f)), (mso, .inl (cs 0, 16, .inl (upd sof en (nI x0)))), (mon, .inl (cs 0, 16, .inl (upd onf en (nI jy)))), (mot, .inl (cs 0, 16, .inl (upd otf en (-1)))), (man, .inl (cs 0, 16, .inl (upd (upd anf en (nI 0)) en (((upd anf en (nI 0)) en) ||| (((upd anf en (nI 0)) jy) ||| ((nI 1) <<< ((nI jy) &&& 31)))))))] H := hP
              replace hD : va_D A [(hm, .inr (12, [.ref ms, .ref mkp, .int (nI km), .ref mtr, .int (nI n), .int (nI k), .int (nI al), .int (nI be), .int ea, .int pr, .ref mas, .int nq, .int po, .int (nI en), .ref mso, .ref mon, .ref mot, .ref man, .int (nI 0), .int xd, .ref mst, .ref msm, .ref mtb, .ref mti, .ref mfr, .ref mbn, .ref mbs, .ref mde, .int sF, .int sN, .int sS, .int ig, .long xa, .long xb, .ref maa, .ref mab, .ref mba, .ref mbb])), (ms, .inl (cs 0, 288, .inl f)), (mso, .inl (cs 0, 16, .inl (upd sof en (nI x0)))), (mon, .inl (cs 0, 16, .inl (upd onf en (nI jy)))), (mot, .inl (cs 0, 16, .inl (upd otf en (-1)))), (man, .inl (cs 0, 16, .inl (upd (upd anf en (nI 0)) en (((upd anf en (nI 0)) en) ||| (((upd anf en (nI 0)) jy) ||| ((nI 1) <<< ((nI jy) &&& 31)))))))] := hD
              refine lv_iload_n hx hb dX12_entry_125 rfl (lv_at hl 4 rfl) ?_
              refine lv_if_lt (tgt := 149) hx hb dX12_entry_126 (by decide) (fun _ => ?_) (fun c => absurd (by decide) c)
              refine lv_aload_n hx hb dX12_entry_149 rfl (lv_at hl 1 rfl) ?_
              refine lv_dup hx hb dX12_entry_150 rfl ?_
              refine xget C hP 0 rfl rfl zuX12 13 (by decide) zw5_226 rfl dX12_entry_151 ?_
              refine lv_iconst (v := nI 1) hx hb dX12_entry_154 (by decide) ?_
              refine lv_iadd hx hb dX12_entry_155 ?_
              refine lv_topi (nm_r (e' := nI (en + 1)) (nI_add _ _) ?_)
              refine xput C hP hD hS 0 rfl rfl zuX12 tyX12 tyX12_ok nmX12 13 (by decide) zw5_226 rfl rfl rfl (Nat.le_of_ble_eq_true rfl) dX12_entry_156 ?_
              clear hP hD hS
              try clear locs
              try clear H
              intro H locs hP hD hS
              replace hP : va_P D vwCl [(hm, .inr (12, [.ref ms, .ref mkp, .int (nI km), .ref mtr, .int (nI n), .int (nI k), .int (nI al), .int (nI be), .int ea, .int pr, .ref mas, .int nq, .int po, .int (nI (en + 1)), .ref mso, .ref mon, .ref mot, .ref man, .int (nI 0), .int xd, .ref mst, .ref msm, .ref mtb, .ref mti, .ref mfr, .ref mbn, .ref mbs, .ref mde, .int sF, .int sN, .int sS, .int ig, .long xa, .long xb, .ref maa, .ref mab, .ref mba, .ref mbb])), (ms, .inl (cs 0, 288, .inl f)), (mso, .inl (cs 0, 16, .inl (upd sof en (nI x0)))), (mon, .inl (cs 0, 16, .inl (upd onf en (nI jy)))), (mot, .inl (cs 0, 16, .inl (upd otf en (-1)))), (man, .inl (cs 0, 16, .inl (upd (upd anf en (nI 0)) en (((upd anf en (nI 0)) en) ||| (((upd anf en (nI 0)) jy) ||| ((nI 1) <<< ((nI jy) &&& 31)))))))] H := hP
              replace hD : va_D A [(hm, .inr (12, [.ref ms, .ref mkp, .int (nI km), .ref mtr, .int (nI n), .int (nI k), .int (nI al), .int (nI be), .int ea, .int pr, .ref mas, .int nq, .int po, .int (nI (en + 1)), .ref mso, .ref mon, .ref mot, .ref man, .int (nI 0), .int xd, .ref mst, .ref msm, .ref mtb, .ref mti, .ref mfr, .ref mbn, .ref mbs, .ref mde, .int sF, .int sN, .int sS, .int ig, .long xa, .long xb, .ref maa, .ref mab, .ref mba, .ref mbb])), (ms, .inl (cs 0, 288, .inl f)), (mso, .inl (cs 0, 16, .inl (upd sof en (nI x0)))), (mon, .inl (cs 0, 16, .inl (upd onf en (nI jy)))), (mot, .inl (cs 0, 16, .inl (upd otf en (-1)))), (man, .inl (cs 0, 16, .inl (upd (upd anf en (nI 0)) en (((upd anf en (nI 0)) en) ||| (((upd anf en (nI 0)) jy) ||| ((nI 1) <<< ((nI jy) &&& 31)))))))] := hD
              refine lv_iconst (v := nI 0) hx hb dX12_entry_159 (by decide) ?_
              refine lv_istore (lv' := [(5, .int (nI 0)), (4, .int (nI en)), (0, .ref hm), (1, .int (nI x0)), (2, .int (nI jy)), (3, .int (-1))]) hx hb dX12_entry_160 hl (by decide) rfl ?_
              clear hl
              try clear ls
              intro ls hl
              have loop_32 : ∀ (n_loop_32 : Nat) (o : Nat) (f9 : Nat → Int32), (o ≤ 8) → (lowE f f9) → 8 - o < n_loop_32 → ∀ (H : Heap) (locs : List Loc) (ls : Array Slot), va_P D vwCl [(hm, .inr (12, [.ref ms, .ref mkp, .int (nI km), .ref mtr, .int (nI n), .int (nI k), .int (nI al), .int (nI be), .int ea, .int pr, .ref mas, .int nq, .int po, .int (nI (en + 1)), .ref mso, .ref mon, .ref mot, .ref man, .int (nI 0), .int xd, .ref mst, .ref msm, .ref mtb, .ref mti, .ref mfr, .ref mbn, .ref mbs, .ref mde, .int sF, .int sN, .int sS, .int ig, .long xa, .long xb, .ref maa, .ref mab, .ref mba, .ref mbb])), (ms, .inl (cs 0, 288, .inl f9)), (mso, .inl (cs 0, 16, .inl (upd sof en (nI x0)))), (mon, .inl (cs 0, 16, .inl (upd onf en (nI jy)))), (mot, .inl (cs 0, 16, .inl (upd otf en (-1)))), (man, .inl (cs 0, 16, .inl (upd (upd anf en (nI 0)) en (((upd anf en (nI 0)) en) ||| (((upd anf en (nI 0)) jy) ||| ((nI 1) <<< ((nI jy) &&& 31)))))))] H → va_D A [(hm, .inr (12, [.ref ms, .ref mkp, .int (nI km), .ref mtr, .int (nI n), .int (nI k), .int (nI al), .int (nI be), .int ea, .int pr, .ref mas, .int nq, .int po, .int (nI (en + 1)), .ref mso, .ref mon, .ref mot, .ref man, .int (nI 0), .int xd, .ref mst, .ref msm, .ref mtb, .ref mti, .ref mfr, .ref mbn, .ref mbs, .ref mde, .int sF, .int sN, .int sS, .int ig, .long xa, .long xb, .ref maa, .ref mab, .ref mba, .ref mbb])), (ms, .inl (cs 0, 288, .inl f9)), (mso, .inl (cs 0, 16, .inl (upd sof en (nI x0)))), (mon, .inl (cs 0, 16, .inl (upd onf en (nI jy)))), (mot, .inl (cs 0, 16, .inl (upd otf en (-1)))), (man, .inl (cs 0, 16, .inl (upd (upd anf en (nI 0)) en (((upd anf en (nI 0)) en) ||| (((upd anf en (nI 0)) jy) ||| ((nI 1) <<< ((nI jy) &&& 31)))))))] → va_S A s.heap H locs → lv_has ls 6 [(5, .int (nI o)), (4, .int (nI en)), (0, .ref hm), (1, .int (nI x0)), (2, .int (nI jy)), (3, .int (-1))] → W p l e ({ frames := 2, cells := 0, slots := 0, locals := 44 } : Room) s m args below meth c H locs 0 0 (MQ below ((xQi D (fun (r : Int32) (u : Nat × Nat × (Nat → Int32) × (Nat → Int32) × (Nat → Int32) × (Nat → Int32) × (Nat → Int32)) => match u with | (enz, kmz, fz, soz, onz, otz, anz) => (PQ (entP en (nI x0) (nI jy) (-1)) r (nI en) (-1) ∧ (entP en (nI x0) (nI jy) (-1) → enz = en + 1) ∧ (¬ entP en (nI x0) (nI jy) (-1) → enz = en)) ∧ (colP fz ∧ enz ≤ 16 ∧ kmz ≤ 8 ∧ inP 16 8 soz ∧ parF enz onz ∧ parF enz otz) ∧ lowE f fz ∧ (entP en (nI x0) (nI jy) (-1) → kmz = 0) ∧ (¬ entP en (nI x0) (nI jy) (-1) → kmz = km)) (fun (u : Nat × Nat × (Nat → Int32) × (Nat → Int32) × (Nat → Int32) × (Nat → Int32) × (Nat → Int32)) => match u with | (enz, kmz, fz, soz, onz, otz, anz) => [(hm, .inr (12, [.ref ms, .ref mkp, .int (nI kmz), .ref mtr, .int (nI n), .int (nI k), .int (nI al), .int (nI be), .int ea, .int pr, .ref mas, .int nq, .int po, .int (nI enz), .ref mso, .ref mon, .ref mot, .ref man, .int (nI 0), .int xd, .ref mst, .ref msm, .ref mtb, .ref mti, .ref mfr, .ref mbn, .ref mbs, .ref mde, .int sF, .int sN, .int sS, .int ig, .long xa, .long xb, .ref maa, .ref mab, .ref mba, .ref mbb])), (ms, .inl (cs 0, 288, .inl fz)), (mso, .inl (cs 0, 16, .inl soz)), (mon, .inl (cs 0, 16, .inl onz)), (mot, .inl (cs 0, 16, .inl otz)), (man, .inl (cs 0, 16, .inl anz))])) A) args s 0 0 A) (F0 m 162 ls []) := by
                intro n_loop_32
                induction n_loop_32 with
                | zero => intro o f9 h_o hw9 hlt H locs ls hP hD hS hl; exact absurd hlt (Nat.not_lt_zero _)
                | succ n_loop_32 ih_loop_32 =>
                  intro o f9 h_o hw9 hlt_loop_32 H locs ls hP hD hS hl
                  refine lv_iload hx hb dX12_entry_162 (lv_at hl 0 rfl) ?_
                  refine lv_bipush (v := nI 8) hx hb dX12_entry_164 (by decide) ?_
                  refine lv_icmp_ge (tgt := 237) hx hb dX12_entry_166 (by decide) (fun c_33 => ?_) (fun c_33 => ?_)
                  · -- 166 t
                    have fc_33 : 8 ≤ o := nf_le (by omega) (by omega) c_33
                    refine lv_aload_n hx hb dX12_entry_237 rfl (lv_at hl 2 rfl) ?_
                    refine lv_iconst (v := nI 0) hx hb dX12_entry_238 (by decide) ?_
                    refine xput C hP hD hS 0 rfl rfl zuX12 tyX12 tyX12_ok nmX12 2 (by decide) zw5_215 rfl rfl rfl (Nat.le_of_ble_eq_true rfl) dX12_entry_239 ?_
                    clear hP hD hS
                    try clear locs
                    try clear H
                    intro H locs hP hD hS
                    replace hP : va_P D vwCl [(hm, .inr (12, [.ref ms, .ref mkp, .int (nI 0), .ref mtr, .int (nI n), .int (nI k), .int (nI al), .int (nI be), .int ea, .int pr, .ref mas, .int nq, .int po, .int (nI (en + 1)), .ref mso, .ref mon, .ref mot, .ref man, .int (nI 0), .int xd, .ref mst, .ref msm, .ref mtb, .ref mti, .ref mfr, .ref mbn, .ref mbs, .ref mde, .int sF, .int sN, .int sS, .int ig, .long xa, .long xb, .ref maa, .ref mab, .ref mba, .ref mbb])), (ms, .inl (cs 0, 288, .inl f9)), (mso, .inl (cs 0, 16, .inl (upd sof en (nI x0)))), (mon, .inl (cs 0, 16, .inl (upd onf en (nI jy)))), (mot, .inl (cs 0, 16, .inl (upd otf en (-1)))), (man, .inl (cs 0, 16, .inl (upd (upd anf en (nI 0)) en (((upd anf en (nI 0)) en) ||| (((upd anf en (nI 0)) jy) ||| ((nI 1) <<< ((nI jy) &&& 31)))))))] H := hP
                    replace hD : va_D A [(hm, .inr (12, [.ref ms, .ref mkp, .int (nI 0), .ref mtr, .int (nI n), .int (nI k), .int (nI al), .int (nI be), .int ea, .int pr, .ref mas, .int nq, .int po, .int (nI (en + 1)), .ref mso, .ref mon, .ref mot, .ref man, .int (nI 0), .int xd, .ref mst, .ref msm, .ref mtb, .ref mti, .ref mfr, .ref mbn, .ref mbs, .ref mde, .int sF, .int sN, .int sS, .int ig, .long xa, .long xb, .ref maa, .ref mab, .ref mba, .ref mbb])), (ms, .inl (cs 0, 288, .inl f9)), (mso, .inl (cs 0, 16, .inl (upd sof en (nI x0)))), (mon, .inl (cs 0, 16, .inl (upd onf en (nI jy)))), (mot, .inl (cs 0, 16, .inl (upd otf en (-1)))), (man, .inl (cs 0, 16, .inl (upd (upd anf en (nI 0)) en (((upd anf en (nI 0)) en) ||| (((upd anf en (nI 0)) jy) ||| ((nI 1) <<< ((nI jy) &&& 31)))))))] := hD
                    refine lv_iload hx hb dX12_entry_242 (lv_at hl 1 rfl) ?_
                    exact xreti C (⟨(en + 1), 0, f9, (upd sof en (nI x0)), (upd onf en (nI jy)), (upd otf en (-1)), (upd (upd anf en (nI 0)) en (((upd anf en (nI 0)) en) ||| (((upd anf en (nI 0)) jy) ||| ((nI 1) <<< ((nI jy) &&& 31)))))⟩) (⟨⟨Or.inl ⟨⟨okN_nI (by omega) (by decide), (Or.inr (okN_nI h_jy (by omega))), (Or.inl rfl), Or.inl c_30, by omega⟩, rfl⟩, fun _ => rfl, fun q => absurd ⟨okN_nI (by omega) (by decide), (Or.inr (okN_nI h_jy (by omega))), (Or.inl rfl), Or.inl c_30, by omega⟩ q⟩, ⟨hw9.col hs, by omega, by decide, inP_up hso _ _ (by omega), parF_next hon (Or.inr ⟨jy, h_jy, rfl⟩), parF_next hot (Or.inl rfl)⟩, hw9, fun _ => rfl, fun q => absurd ⟨okN_nI (by omega) (by decide), (Or.inr (okN_nI h_jy (by omega))), (Or.inl rfl), Or.inl c_30, by omega⟩ q⟩) hP hD hS (Nat.le_of_ble_eq_true rfl) (Nat.le_of_ble_eq_true rfl) rfl dX12_entry_244
                  · -- 166 f
                    have fc_33 : o < 8 := nf_nle (by omega) (by omega) c_33
                    refine lv_aload_n hx hb dX12_entry_169 rfl (lv_at hl 2 rfl) ?_
                    refine xget C hP 0 rfl rfl zuX12 0 (by decide) zw5_213 rfl dX12_entry_170 ?_
                    refine lv_bipush (v := nI 96) hx hb dX12_entry_173 (by decide) ?_
                    refine lv_bipush (v := nI 8) hx hb dX12_entry_175 (by decide) ?_
                    refine lv_iload hx hb dX12_entry_177 (lv_at hl 0 rfl) ?_
                    refine lv_imul hx hb dX12_entry_179 ?_
                    refine lv_topi (nm_r (e' := nI (8 * o)) (pk_mul _ _) ?_)
                    refine lv_iadd hx hb dX12_entry_180 ?_
                    refine lv_topi (nm_r (e' := nI (96 + (8 * o))) (nI_add _ _) ?_)
                    refine lv_iload_n hx hb dX12_entry_181 rfl (lv_at hl 3 rfl) ?_
                    refine lv_iadd hx hb dX12_entry_182 ?_
                    refine lv_topi (nm_r (e' := nI ((96 + (8 * o)) + x0)) (nI_add _ _) ?_)
                    refine xiald C hP 1 rfl ((96 + (8 * o)) + x0) rfl (by omega) (by decide) dX12_entry_183 ?_
                    refine lv_if_ge (tgt := 204) hx hb dX12_entry_184 (by decide) (fun c_34 => ?_) (fun c_34 => ?_)
                    · -- 184 t
                      refine lv_aload_n hx hb dX12_entry_204 rfl (lv_at hl 2 rfl) ?_
                      refine lv_iload hx hb dX12_entry_205 (lv_at hl 0 rfl) ?_
                      refine lv_iload_n hx hb dX12_entry_207 rfl (lv_at hl 3 rfl) ?_
                      refine xi (wr := [(mon, .inl (cs 0, 16, .inl (upd onf en (nI jy)))), (mot, .inl (cs 0, 16, .inl (upd otf en (-1)))), (man, .inl (cs 0, 16, .inl (upd (upd anf en (nI 0)) en (((upd anf en (nI 0)) en) ||| (((upd anf en (nI 0)) jy) ||| ((nI 1) <<< ((nI jy) &&& 31)))))))]) (xV (As := [.int (nI o), .int (nI x0)]) (rest := []) C (c_X12_acceptedOf l D cs hm ms mkp mtr mas mso mon mot man mst msm mtb mti mfr mbn mbs mde maa mab mba mbb n k al be km (en + 1) ea pr nq po (nI 0) xd sF sN sS ig xa xb f9 o (nI x0) (upd sof en (nI x0)) (by omega) (by omega)) kX12_310 hP hD [0, 1, 2] rfl (by decide) 0 rfl rfl rfl ⟨Nat.le_of_ble_eq_true rfl, Nat.le_of_ble_eq_true rfl⟩ rfl hl.1 rfl (Nat.le_of_ble_eq_true rfl) dX12_entry_208 ⟨Nat.le_of_ble_eq_true rfl, Nat.le_of_ble_eq_true rfl⟩) hP hD hS hA [0, 1, 2] [3, 4, 5] rfl rfl (by decide) (by decide) ?_
                      clear hP hD hS
                      try clear locs
                      try clear H
                      intro r_35 u_36 H locs hw_r_35 hP hD hS
                      have hw_r_35 : r_35 = -1 ∨ ∃ e, e < (en + 1) ∧ r_35 = nI e := hw_r_35
                      refine W.widen (k := 0) (n := 0) (Nat.le_of_ble_eq_true rfl) (Nat.le_of_ble_eq_true rfl) ?_
                      replace hP : va_P D vwCl [(mon, .inl (cs 0, 16, .inl (upd onf en (nI jy)))), (mot, .inl (cs 0, 16, .inl (upd otf en (-1)))), (man, .inl (cs 0, 16, .inl (upd (upd anf en (nI 0)) en (((upd anf en (nI 0)) en) ||| (((upd anf en (nI 0)) jy) ||| ((nI 1) <<< ((nI jy) &&& 31))))))), (hm, .inr (12, [.ref ms, .ref mkp, .int (nI km), .ref mtr, .int (nI n), .int (nI k), .int (nI al), .int (nI be), .int ea, .int pr, .ref mas, .int nq, .int po, .int (nI (en + 1)), .ref mso, .ref mon, .ref mot, .ref man, .int (nI 0), .int xd, .ref mst, .ref msm, .ref mtb, .ref mti, .ref mfr, .ref mbn, .ref mbs, .ref mde, .int sF, .int sN, .int sS, .int ig, .long xa, .long xb, .ref maa, .ref mab, .ref mba, .ref mbb])), (ms, .inl (cs 0, 288, .inl f9)), (mso, .inl (cs 0, 16, .inl (upd sof en (nI x0))))] H := hP
                      replace hD : va_D A [(mon, .inl (cs 0, 16, .inl (upd onf en (nI jy)))), (mot, .inl (cs 0, 16, .inl (upd otf en (-1)))), (man, .inl (cs 0, 16, .inl (upd (upd anf en (nI 0)) en (((upd anf en (nI 0)) en) ||| (((upd anf en (nI 0)) jy) ||| ((nI 1) <<< ((nI jy) &&& 31))))))), (hm, .inr (12, [.ref ms, .ref mkp, .int (nI km), .ref mtr, .int (nI n), .int (nI k), .int (nI al), .int (nI be), .int ea, .int pr, .ref mas, .int nq, .int po, .int (nI (en + 1)), .ref mso, .ref mon, .ref mot, .ref man, .int (nI 0), .int xd, .ref mst, .ref msm, .ref mtb, .ref mti, .ref mfr, .ref mbn, .ref mbs, .ref mde, .int sF, .int sN, .int sS, .int ig, .long xa, .long xb, .ref maa, .ref mab, .ref mba, .ref mbb])), (ms, .inl (cs 0, 288, .inl f9)), (mso, .inl (cs 0, 16, .inl (upd sof en (nI x0))))] := hD
                      refine lv_if_lt (tgt := 231) hx hb dX12_entry_211 (by decide) (fun c_37 => ?_) (fun c_37 => ?_)
                      · -- 211 t
                        refine lv_iinc (v := nI (o + 1)) (lv' := [(5, .int (nI (o + 1))), (4, .int (nI en)), (0, .ref hm), (1, .int (nI x0)), (2, .int (nI jy)), (3, .int (-1))]) hx hb dX12_entry_231 hl (k := 0) rfl (nI_add o 1) (by decide) rfl ?_
                        clear hl
                        try clear ls
                        intro ls hl
                        refine lv_goto (tgt := 162) hx hb dX12_entry_234 (by decide) ?_
                        exact ih_loop_32 (o + 1) f9 (by omega) hw9 (by omega) H locs ls (xP_map hP [3, 4, 5, 0, 1, 2] rfl) (hD.sub [3, 4, 5, 0, 1, 2] (by decide) rfl) hS (lv_sub hl [0, 1, 2, 3, 4, 5] rfl)
                      · -- 211 f
                        refine lv_aload_n hx hb dX12_entry_214 rfl (lv_at hl 2 rfl) ?_
                        refine xget C hP 3 rfl rfl zuX12 0 (by decide) zw5_213 rfl dX12_entry_215 ?_
                        refine lv_bipush (v := nI 88) hx hb dX12_entry_218 (by decide) ?_
                        refine lv_iload hx hb dX12_entry_220 (lv_at hl 0 rfl) ?_
                        refine lv_iadd hx hb dX12_entry_222 ?_
                        refine lv_topi (nm_r (e' := nI (88 + o)) (nI_add _ _) ?_)
                        refine lv_dup2_11 hx hb dX12_entry_223 rfl rfl ?_
                        refine xiald C hP 4 rfl (88 + o) rfl (by omega) (by decide) dX12_entry_224 ?_
                        refine lv_iconst (v := nI 1) hx hb dX12_entry_225 (by decide) ?_
                        refine lv_iload hx hb dX12_entry_226 (lv_at hl 1 rfl) ?_
                        refine lv_ishl hx hb dX12_entry_228 ?_
                        refine lv_ior hx hb dX12_entry_229 ?_
                        refine xiast C hP hD hS 4 rfl (88 + o) rfl (by omega) (by decide) dX12_entry_230 ?_
                        clear hP hD hS
                        try clear locs
                        try clear H
                        intro H locs hP hD hS
                        replace hP : va_P D vwCl [(mon, .inl (cs 0, 16, .inl (upd onf en (nI jy)))), (mot, .inl (cs 0, 16, .inl (upd otf en (-1)))), (man, .inl (cs 0, 16, .inl (upd (upd anf en (nI 0)) en (((upd anf en (nI 0)) en) ||| (((upd anf en (nI 0)) jy) ||| ((nI 1) <<< ((nI jy) &&& 31))))))), (hm, .inr (12, [.ref ms, .ref mkp, .int (nI km), .ref mtr, .int (nI n), .int (nI k), .int (nI al), .int (nI be), .int ea, .int pr, .ref mas, .int nq, .int po, .int (nI (en + 1)), .ref mso, .ref mon, .ref mot, .ref man, .int (nI 0), .int xd, .ref mst, .ref msm, .ref mtb, .ref mti, .ref mfr, .ref mbn, .ref mbs, .ref mde, .int sF, .int sN, .int sS, .int ig, .long xa, .long xb, .ref maa, .ref mab, .ref mba, .ref mbb])), (ms, .inl (cs 0, 288, .inl (upd f9 (88 + o) ((f9 (88 + o)) ||| ((nI 1) <<< ((nI en) &&& 31)))))), (mso, .inl (cs 0, 16, .inl (upd sof en (nI x0))))] H := hP
                        replace hD : va_D A [(mon, .inl (cs 0, 16, .inl (upd onf en (nI jy)))), (mot, .inl (cs 0, 16, .inl (upd otf en (-1)))), (man, .inl (cs 0, 16, .inl (upd (upd anf en (nI 0)) en (((upd anf en (nI 0)) en) ||| (((upd anf en (nI 0)) jy) ||| ((nI 1) <<< ((nI jy) &&& 31))))))), (hm, .inr (12, [.ref ms, .ref mkp, .int (nI km), .ref mtr, .int (nI n), .int (nI k), .int (nI al), .int (nI be), .int ea, .int pr, .ref mas, .int nq, .int po, .int (nI (en + 1)), .ref mso, .ref mon, .ref mot, .ref man, .int (nI 0), .int xd, .ref mst, .ref msm, .ref mtb, .ref mti, .ref mfr, .ref mbn, .ref mbs, .ref mde, .int sF, .int sN, .int sS, .int ig, .long xa, .long xb, .ref maa, .ref mab, .ref mba, .ref mbb])), (ms, .inl (cs 0, 288, .inl (upd f9 (88 + o) ((f9 (88 + o)) ||| ((nI 1) <<< ((nI en) &&& 31)))))), (mso, .inl (cs 0, 16, .inl (upd sof en (nI x0))))] := hD
                        refine lv_iinc (v := nI (o + 1)) (lv' := [(5, .int (nI (o + 1))), (4, .int (nI en)), (0, .ref hm), (1, .int (nI x0)), (2, .int (nI jy)), (3, .int (-1))]) hx hb dX12_entry_231 hl (k := 0) rfl (nI_add o 1) (by decide) rfl ?_
                        clear hl
                        try clear ls
                        intro ls hl
                        refine lv_goto (tgt := 162) hx hb dX12_entry_234 (by decide) ?_
                        exact ih_loop_32 (o + 1) (upd f9 (88 + o) ((f9 (88 + o)) ||| ((nI 1) <<< ((nI en) &&& 31)))) (by omega) (lowE.up hw9 (by omega) ((f9 (88 + o)) ||| ((nI 1) <<< ((nI en) &&& 31)))) (by omega) H locs ls (xP_map hP [3, 4, 5, 0, 1, 2] rfl) (hD.sub [3, 4, 5, 0, 1, 2] (by decide) rfl) hS (lv_sub hl [0, 1, 2, 3, 4, 5] rfl)
                    · -- 184 f
                      refine lv_aload_n hx hb dX12_entry_187 rfl (lv_at hl 2 rfl) ?_
                      refine xget C hP 0 rfl rfl zuX12 0 (by decide) zw5_213 rfl dX12_entry_188 ?_
                      refine lv_bipush (v := nI 96) hx hb dX12_entry_191 (by decide) ?_
                      refine lv_bipush (v := nI 8) hx hb dX12_entry_193 (by decide) ?_
                      refine lv_iload hx hb dX12_entry_195 (lv_at hl 0 rfl) ?_
                      refine lv_imul hx hb dX12_entry_197 ?_
                      refine lv_topi (nm_r (e' := nI (8 * o)) (pk_mul _ _) ?_)
                      refine lv_iadd hx hb dX12_entry_198 ?_
                      refine lv_topi (nm_r (e' := nI (96 + (8 * o))) (nI_add _ _) ?_)
                      refine lv_iload_n hx hb dX12_entry_199 rfl (lv_at hl 3 rfl) ?_
                      refine lv_iadd hx hb dX12_entry_200 ?_
                      refine lv_topi (nm_r (e' := nI ((96 + (8 * o)) + x0)) (nI_add _ _) ?_)
                      refine lv_iload hx hb dX12_entry_201 (lv_at hl 1 rfl) ?_
                      refine xiast C hP hD hS 1 rfl ((96 + (8 * o)) + x0) rfl (by omega) (by decide) dX12_entry_203 ?_
                      clear hP hD hS
                      try clear locs
                      try clear H
                      intro H locs hP hD hS
                      replace hP : va_P D vwCl [(hm, .inr (12, [.ref ms, .ref mkp, .int (nI km), .ref mtr, .int (nI n), .int (nI k), .int (nI al), .int (nI be), .int ea, .int pr, .ref mas, .int nq, .int po, .int (nI (en + 1)), .ref mso, .ref mon, .ref mot, .ref man, .int (nI 0), .int xd, .ref mst, .ref msm, .ref mtb, .ref mti, .ref mfr, .ref mbn, .ref mbs, .ref mde, .int sF, .int sN, .int sS, .int ig, .long xa, .long xb, .ref maa, .ref mab, .ref mba, .ref mbb])), (ms, .inl (cs 0, 288, .inl (upd f9 ((96 + (8 * o)) + x0) (nI en)))), (mso, .inl (cs 0, 16, .inl (upd sof en (nI x0)))), (mon, .inl (cs 0, 16, .inl (upd onf en (nI jy)))), (mot, .inl (cs 0, 16, .inl (upd otf en (-1)))), (man, .inl (cs 0, 16, .inl (upd (upd anf en (nI 0)) en (((upd anf en (nI 0)) en) ||| (((upd anf en (nI 0)) jy) ||| ((nI 1) <<< ((nI jy) &&& 31)))))))] H := hP
                      replace hD : va_D A [(hm, .inr (12, [.ref ms, .ref mkp, .int (nI km), .ref mtr, .int (nI n), .int (nI k), .int (nI al), .int (nI be), .int ea, .int pr, .ref mas, .int nq, .int po, .int (nI (en + 1)), .ref mso, .ref mon, .ref mot, .ref man, .int (nI 0), .int xd, .ref mst, .ref msm, .ref mtb, .ref mti, .ref mfr, .ref mbn, .ref mbs, .ref mde, .int sF, .int sN, .int sS, .int ig, .long xa, .long xb, .ref maa, .ref mab, .ref mba, .ref mbb])), (ms, .inl (cs 0, 288, .inl (upd f9 ((96 + (8 * o)) + x0) (nI en)))), (mso, .inl (cs 0, 16, .inl (upd sof en (nI x0)))), (mon, .inl (cs 0, 16, .inl (upd onf en (nI jy)))), (mot, .inl (cs 0, 16, .inl (upd otf en (-1)))), (man, .inl (cs 0, 16, .inl (upd (upd anf en (nI 0)) en (((upd anf en (nI 0)) en) ||| (((upd anf en (nI 0)) jy) ||| ((nI 1) <<< ((nI jy) &&& 31)))))))] := hD
                      refine lv_aload_n hx hb dX12_entry_204 rfl (lv_at hl 2 rfl) ?_
                      refine lv_iload hx hb dX12_entry_205 (lv_at hl 0 rfl) ?_
                      refine lv_iload_n hx hb dX12_entry_207 rfl (lv_at hl 3 rfl) ?_
                      refine xi (wr := [(mon, .inl (cs 0, 16, .inl (upd onf en (nI jy)))), (mot, .inl (cs 0, 16, .inl (upd otf en (-1)))), (man, .inl (cs 0, 16, .inl (upd (upd anf en (nI 0)) en (((upd anf en (nI 0)) en) ||| (((upd anf en (nI 0)) jy) ||| ((nI 1) <<< ((nI jy) &&& 31)))))))]) (xV (As := [.int (nI o), .int (nI x0)]) (rest := []) C (c_X12_acceptedOf l D cs hm ms mkp mtr mas mso mon mot man mst msm mtb mti mfr mbn mbs mde maa mab mba mbb n k al be km (en + 1) ea pr nq po (nI 0) xd sF sN sS ig xa xb (upd f9 ((96 + (8 * o)) + x0) (nI en)) o (nI x0) (upd sof en (nI x0)) (by omega) (by omega)) kX12_310 hP hD [0, 1, 2] rfl (by decide) 0 rfl rfl rfl ⟨Nat.le_of_ble_eq_true rfl, Nat.le_of_ble_eq_true rfl⟩ rfl hl.1 rfl (Nat.le_of_ble_eq_true rfl) dX12_entry_208 ⟨Nat.le_of_ble_eq_true rfl, Nat.le_of_ble_eq_true rfl⟩) hP hD hS hA [0, 1, 2] [3, 4, 5] rfl rfl (by decide) (by decide) ?_
                      clear hP hD hS
                      try clear locs
                      try clear H
                      intro r_38 u_39 H locs hw_r_38 hP hD hS
                      have hw_r_38 : r_38 = -1 ∨ ∃ e, e < (en + 1) ∧ r_38 = nI e := hw_r_38
                      refine W.widen (k := 0) (n := 0) (Nat.le_of_ble_eq_true rfl) (Nat.le_of_ble_eq_true rfl) ?_
                      replace hP : va_P D vwCl [(mon, .inl (cs 0, 16, .inl (upd onf en (nI jy)))), (mot, .inl (cs 0, 16, .inl (upd otf en (-1)))), (man, .inl (cs 0, 16, .inl (upd (upd anf en (nI 0)) en (((upd anf en (nI 0)) en) ||| (((upd anf en (nI 0)) jy) ||| ((nI 1) <<< ((nI jy) &&& 31))))))), (hm, .inr (12, [.ref ms, .ref mkp, .int (nI km), .ref mtr, .int (nI n), .int (nI k), .int (nI al), .int (nI be), .int ea, .int pr, .ref mas, .int nq, .int po, .int (nI (en + 1)), .ref mso, .ref mon, .ref mot, .ref man, .int (nI 0), .int xd, .ref mst, .ref msm, .ref mtb, .ref mti, .ref mfr, .ref mbn, .ref mbs, .ref mde, .int sF, .int sN, .int sS, .int ig, .long xa, .long xb, .ref maa, .ref mab, .ref mba, .ref mbb])), (ms, .inl (cs 0, 288, .inl (upd f9 ((96 + (8 * o)) + x0) (nI en)))), (mso, .inl (cs 0, 16, .inl (upd sof en (nI x0))))] H := hP
                      replace hD : va_D A [(mon, .inl (cs 0, 16, .inl (upd onf en (nI jy)))), (mot, .inl (cs 0, 16, .inl (upd otf en (-1)))), (man, .inl (cs 0, 16, .inl (upd (upd anf en (nI 0)) en (((upd anf en (nI 0)) en) ||| (((upd anf en (nI 0)) jy) ||| ((nI 1) <<< ((nI jy) &&& 31))))))), (hm, .inr (12, [.ref ms, .ref mkp, .int (nI km), .ref mtr, .int (nI n), .int (nI k), .int (nI al), .int (nI be), .int ea, .int pr, .ref mas, .int nq, .int po, .int (nI (en + 1)), .ref mso, .ref mon, .ref mot, .ref man, .int (nI 0), .int xd, .ref mst, .ref msm, .ref mtb, .ref mti, .ref mfr, .ref mbn, .ref mbs, .ref mde, .int sF, .int sN, .int sS, .int ig, .long xa, .long xb, .ref maa, .ref mab, .ref mba, .ref mbb])), (ms, .inl (cs 0, 288, .inl (upd f9 ((96 + (8 * o)) + x0) (nI en)))), (mso, .inl (cs 0, 16, .inl (upd sof en (nI x0))))] := hD
                      refine lv_if_lt (tgt := 231) hx hb dX12_entry_211 (by decide) (fun c_40 => ?_) (fun c_40 => ?_)
                      · -- 211 t
                        refine lv_iinc (v := nI (o + 1)) (lv' := [(5, .int (nI (o + 1))), (4, .int (nI en)), (0, .ref hm), (1, .int (nI x0)), (2, .int (nI jy)), (3, .int (-1))]) hx hb dX12_entry_231 hl (k := 0) rfl (nI_add o 1) (by decide) rfl ?_
                        clear hl
                        try clear ls
                        intro ls hl
                        refine lv_goto (tgt := 162) hx hb dX12_entry_234 (by decide) ?_
                        exact ih_loop_32 (o + 1) (upd f9 ((96 + (8 * o)) + x0) (nI en)) (by omega) (lowE.up hw9 (by omega) (nI en)) (by omega) H locs ls (xP_map hP [3, 4, 5, 0, 1, 2] rfl) (hD.sub [3, 4, 5, 0, 1, 2] (by decide) rfl) hS (lv_sub hl [0, 1, 2, 3, 4, 5] rfl)
                      · -- 211 f
                        refine lv_aload_n hx hb dX12_entry_214 rfl (lv_at hl 2 rfl) ?_
                        refine xget C hP 3 rfl rfl zuX12 0 (by decide) zw5_213 rfl dX12_entry_215 ?_
                        refine lv_bipush (v := nI 88) hx hb dX12_entry_218 (by decide) ?_
                        refine lv_iload hx hb dX12_entry_220 (lv_at hl 0 rfl) ?_
                        refine lv_iadd hx hb dX12_entry_222 ?_
                        refine lv_topi (nm_r (e' := nI (88 + o)) (nI_add _ _) ?_)
                        refine lv_dup2_11 hx hb dX12_entry_223 rfl rfl ?_
                        refine xiald C hP 4 rfl (88 + o) rfl (by omega) (by decide) dX12_entry_224 ?_
                        refine lv_iconst (v := nI 1) hx hb dX12_entry_225 (by decide) ?_
                        refine lv_iload hx hb dX12_entry_226 (lv_at hl 1 rfl) ?_
                        refine lv_ishl hx hb dX12_entry_228 ?_
                        refine lv_ior hx hb dX12_entry_229 ?_
                        refine xiast C hP hD hS 4 rfl (88 + o) rfl (by omega) (by decide) dX12_entry_230 ?_
                        clear hP hD hS
                        try clear locs
                        try clear H
                        intro H locs hP hD hS
                        replace hP : va_P D vwCl [(mon, .inl (cs 0, 16, .inl (upd onf en (nI jy)))), (mot, .inl (cs 0, 16, .inl (upd otf en (-1)))), (man, .inl (cs 0, 16, .inl (upd (upd anf en (nI 0)) en (((upd anf en (nI 0)) en) ||| (((upd anf en (nI 0)) jy) ||| ((nI 1) <<< ((nI jy) &&& 31))))))), (hm, .inr (12, [.ref ms, .ref mkp, .int (nI km), .ref mtr, .int (nI n), .int (nI k), .int (nI al), .int (nI be), .int ea, .int pr, .ref mas, .int nq, .int po, .int (nI (en + 1)), .ref mso, .ref mon, .ref mot, .ref man, .int (nI 0), .int xd, .ref mst, .ref msm, .ref mtb, .ref mti, .ref mfr, .ref mbn, .ref mbs, .ref mde, .int sF, .int sN, .int sS, .int ig, .long xa, .long xb, .ref maa, .ref mab, .ref mba, .ref mbb])), (ms, .inl (cs 0, 288, .inl (upd (upd f9 ((96 + (8 * o)) + x0) (nI en)) (88 + o) (((upd f9 ((96 + (8 * o)) + x0) (nI en)) (88 + o)) ||| ((nI 1) <<< ((nI en) &&& 31)))))), (mso, .inl (cs 0, 16, .inl (upd sof en (nI x0))))] H := hP
                        replace hD : va_D A [(mon, .inl (cs 0, 16, .inl (upd onf en (nI jy)))), (mot, .inl (cs 0, 16, .inl (upd otf en (-1)))), (man, .inl (cs 0, 16, .inl (upd (upd anf en (nI 0)) en (((upd anf en (nI 0)) en) ||| (((upd anf en (nI 0)) jy) ||| ((nI 1) <<< ((nI jy) &&& 31))))))), (hm, .inr (12, [.ref ms, .ref mkp, .int (nI km), .ref mtr, .int (nI n), .int (nI k), .int (nI al), .int (nI be), .int ea, .int pr, .ref mas, .int nq, .int po, .int (nI (en + 1)), .ref mso, .ref mon, .ref mot, .ref man, .int (nI 0), .int xd, .ref mst, .ref msm, .ref mtb, .ref mti, .ref mfr, .ref mbn, .ref mbs, .ref mde, .int sF, .int sN, .int sS, .int ig, .long xa, .long xb, .ref maa, .ref mab, .ref mba, .ref mbb])), (ms, .inl (cs 0, 288, .inl (upd (upd f9 ((96 + (8 * o)) + x0) (nI en)) (88 + o) (((upd f9 ((96 + (8 * o)) + x0) (nI en)) (88 + o)) ||| ((nI 1) <<< ((nI en) &&& 31)))))), (mso, .inl (cs 0, 16, .inl (upd sof en (nI x0))))] := hD
                        refine lv_iinc (v := nI (o + 1)) (lv' := [(5, .int (nI (o + 1))), (4, .int (nI en)), (0, .ref hm), (1, .int (nI x0)), (2, .int (nI jy)), (3, .int (-1))]) hx hb dX12_entry_231 hl (k := 0) rfl (nI_add o 1) (by decide) rfl ?_
                        clear hl
                        try clear ls
                        intro ls hl
                        refine lv_goto (tgt := 162) hx hb dX12_entry_234 (by decide) ?_
                        exact ih_loop_32 (o + 1) (upd (upd f9 ((96 + (8 * o)) + x0) (nI en)) (88 + o) (((upd f9 ((96 + (8 * o)) + x0) (nI en)) (88 + o)) ||| ((nI 1) <<< ((nI en) &&& 31)))) (by omega) (lowE.up (lowE.up hw9 (by omega) (nI en)) (by omega) (((upd f9 ((96 + (8 * o)) + x0) (nI en)) (88 + o)) ||| ((nI 1) <<< ((nI en) &&& 31)))) (by omega) H locs ls (xP_map hP [3, 4, 5, 0, 1, 2] rfl) (hD.sub [3, 4, 5, 0, 1, 2] (by decide) rfl) hS (lv_sub hl [0, 1, 2, 3, 4, 5] rfl)
              exact loop_32 _ 0 f (by omega) (lowE.refl f) (Nat.lt_succ_self _) H locs ls hP hD hS (lv_sub hl [0, 1, 2, 3, 4, 5] rfl)
            · -- 58 f
              have fc_31 : en = 16 := nf_eq (by omega) (by omega) c_31
              refine lv_iconst (v := (-1)) hx hb dX12_entry_61 (by decide) ?_
              exact xreti C (⟨en, km, f, sof, onf, otf, anf⟩) (⟨⟨Or.inr ⟨fun q => by have z := q.2.2.2.2; omega, rfl⟩, fun q => absurd q (fun q => by have z := q.2.2.2.2; omega), fun _ => rfl⟩, ⟨hs, hen, hkm, hso, hon, hot⟩, lowE.refl _, fun q => absurd q (fun q => by have z := q.2.2.2.2; omega), fun _ => rfl⟩) hP hD hS (Nat.le_of_ble_eq_true rfl) (Nat.le_of_ble_eq_true rfl) rfl dX12_entry_62
        · -- split
          replace hP : va_P D vwCl [(hm, .inr (12, [.ref ms, .ref mkp, .int (nI km), .ref mtr, .int (nI n), .int (nI k), .int (nI al), .int (nI be), .int ea, .int pr, .ref mas, .int nq, .int po, .int (nI en), .ref mso, .ref mon, .ref mot, .ref man, .int (nI 0), .int xd, .ref mst, .ref msm, .ref mtb, .ref mti, .ref mfr, .ref mbn, .ref mbs, .ref mde, .int sF, .int sN, .int sS, .int ig, .long xa, .long xb, .ref maa, .ref mab, .ref mba, .ref mbb])), (ms, .inl (cs 0, 288, .inl f)), (mso, .inl (cs 0, 16, .inl sof)), (mon, .inl (cs 0, 16, .inl onf)), (mot, .inl (cs 0, 16, .inl otf)), (man, .inl (cs 0, 16, .inl anf))] H := hP
          replace hD : va_D A [(hm, .inr (12, [.ref ms, .ref mkp, .int (nI km), .ref mtr, .int (nI n), .int (nI k), .int (nI al), .int (nI be), .int ea, .int pr, .ref mas, .int nq, .int po, .int (nI en), .ref mso, .ref mon, .ref mot, .ref man, .int (nI 0), .int xd, .ref mst, .ref msm, .ref mtb, .ref mti, .ref mfr, .ref mbn, .ref mbs, .ref mde, .int sF, .int sN, .int sS, .int ig, .long xa, .long xb, .ref maa, .ref mab, .ref mba, .ref mbb])), (ms, .inl (cs 0, 288, .inl f)), (mso, .inl (cs 0, 16, .inl sof)), (mon, .inl (cs 0, 16, .inl onf)), (mot, .inl (cs 0, 16, .inl otf)), (man, .inl (cs 0, 16, .inl anf))] := hD
          refine lv_iload_n hx hb dX12_entry_43 rfl (lv_at hl 2 rfl) ?_
          refine lv_if_lt (tgt := 52) hx hb dX12_entry_44 (by decide) (fun c => absurd c (nI_pos (by omega))) (fun _ => ?_)
          refine lv_iload_n hx hb dX12_entry_47 rfl (lv_at hl 2 rfl) ?_
          refine lv_iload_n hx hb dX12_entry_48 rfl (lv_at hl 3 rfl) ?_
          refine lv_icmp_eq (tgt := 61) hx hb dX12_entry_49 (by decide) (fun c_41 => ?_) (fun c_41 => ?_)
          · -- 49 t
            have fc_41 : jy = jz := nf_eq (by omega) (by omega) c_41
            refine lv_iconst (v := (-1)) hx hb dX12_entry_61 (by decide) ?_
            exact xreti C (⟨en, km, f, sof, onf, otf, anf⟩) (⟨⟨Or.inr ⟨fun q => q.2.2.2.1.elim (fun g => g c_41) (fun g => nI_ne_m1 (by omega) g), rfl⟩, fun q => absurd q (fun q => q.2.2.2.1.elim (fun g => g c_41) (fun g => nI_ne_m1 (by omega) g)), fun _ => rfl⟩, ⟨hs, hen, hkm, hso, hon, hot⟩, lowE.refl _, fun q => absurd q (fun q => q.2.2.2.1.elim (fun g => g c_41) (fun g => nI_ne_m1 (by omega) g)), fun _ => rfl⟩) hP hD hS (Nat.le_of_ble_eq_true rfl) (Nat.le_of_ble_eq_true rfl) rfl dX12_entry_62
          · -- 49 f
            have fc_41 : jy ≠ jz := nf_ne (by omega) (by omega) c_41
            refine lv_aload_n hx hb dX12_entry_52 rfl (lv_at hl 0 rfl) ?_
            refine xget C hP 0 rfl rfl zuX12 13 (by decide) zw5_226 rfl dX12_entry_53 ?_
            refine lv_bipush (v := nI 16) hx hb dX12_entry_56 (by decide) ?_
            refine lv_icmp_ne (tgt := 63) hx hb dX12_entry_58 (by decide) (fun c_42 => ?_) (fun c_42 => ?_)
            · -- 58 t
              have fc_42 : en ≠ 16 := nf_ne (by omega) (by omega) c_42
              refine lv_aload_n hx hb dX12_entry_63 rfl (lv_at hl 0 rfl) ?_
              refine xget C hP 0 rfl rfl zuX12 13 (by decide) zw5_226 rfl dX12_entry_64 ?_
              refine lv_istore (lv' := [(4, .int (nI en)), (0, .ref hm), (1, .int (nI x0)), (2, .int (nI jy)), (3, .int (nI jz))]) hx hb dX12_entry_67 hl (by decide) rfl ?_
              clear hl
              try clear ls
              intro ls hl
              refine lv_aload_n hx hb dX12_entry_69 rfl (lv_at hl 1 rfl) ?_
              refine xget C hP 0 rfl rfl zuX12 14 (by decide) zw5_227 rfl dX12_entry_70 ?_
              refine lv_iload hx hb dX12_entry_73 (lv_at hl 0 rfl) ?_
              refine lv_iload_n hx hb dX12_entry_75 rfl (lv_at hl 2 rfl) ?_
              refine xiast C hP hD hS 2 rfl en rfl (by omega) (by decide) dX12_entry_76 ?_
              clear hP hD hS
              try clear locs
              try clear H
              intro H locs hP hD hS
              replace hP : va_P D vwCl [(hm, .inr (12, [.ref ms, .ref mkp, .int (nI km), .ref mtr, .int (nI n), .int (nI k), .int (nI al), .int (nI be), .int ea, .int pr, .ref mas, .int nq, .int po, .int (nI en), .ref mso, .ref mon, .ref mot, .ref man, .int (nI 0), .int xd, .ref mst, .ref msm, .ref mtb, .ref mti, .ref mfr, .ref mbn, .ref mbs, .ref mde, .int sF, .int sN, .int sS, .int ig, .long xa, .long xb, .ref maa, .ref mab, .ref mba, .ref mbb])), (ms, .inl (cs 0, 288, .inl f)), (mso, .inl (cs 0, 16, .inl (upd sof en (nI x0)))), (mon, .inl (cs 0, 16, .inl onf)), (mot, .inl (cs 0, 16, .inl otf)), (man, .inl (cs 0, 16, .inl anf))] H := hP
              replace hD : va_D A [(hm, .inr (12, [.ref ms, .ref mkp, .int (nI km), .ref mtr, .int (nI n), .int (nI k), .int (nI al), .int (nI be), .int ea, .int pr, .ref mas, .int nq, .int po, .int (nI en), .ref mso, .ref mon, .ref mot, .ref man, .int (nI 0), .int xd, .ref mst, .ref msm, .ref mtb, .ref mti, .ref mfr, .ref mbn, .ref mbs, .ref mde, .int sF, .int sN, .int sS, .int ig, .long xa, .long xb, .ref maa, .ref mab, .ref mba, .ref mbb])), (ms, .inl (cs 0, 288, .inl f)), (mso, .inl (cs 0, 16, .inl (upd sof en (nI x0)))), (mon, .inl (cs 0, 16, .inl onf)), (mot, .inl (cs 0, 16, .inl otf)), (man, .inl (cs 0, 16, .inl anf))] := hD
              refine lv_aload_n hx hb dX12_entry_77 rfl (lv_at hl 1 rfl) ?_
              refine xget C hP 0 rfl rfl zuX12 15 (by decide) zw5_228 rfl dX12_entry_78 ?_
              refine lv_iload hx hb dX12_entry_81 (lv_at hl 0 rfl) ?_
              refine lv_iload_n hx hb dX12_entry_83 rfl (lv_at hl 3 rfl) ?_
              refine xiast C hP hD hS 3 rfl en rfl (by omega) (by decide) dX12_entry_84 ?_
              clear hP hD hS
              try clear locs
              try clear H
              intro H locs hP hD hS
              replace hP : va_P D vwCl [(hm, .inr (12, [.ref ms, .ref mkp, .int (nI km), .ref mtr, .int (nI n), .int (nI k), .int (nI al), .int (nI be), .int ea, .int pr, .ref mas, .int nq, .int po, .int (nI en), .ref mso, .ref mon, .ref mot, .ref man, .int (nI 0), .int xd, .ref mst, .ref msm, .ref mtb, .ref mti, .ref mfr, .ref mbn, .ref mbs, .ref mde, .int sF, .int sN, .int sS, .int ig, .long xa, .long xb, .ref maa, .ref mab, .ref mba, .ref mbb])), (ms, .inl (cs 0, 288, .inl f)), (mso, .inl (cs 0, 16, .inl (upd sof en (nI x0)))), (mon, .inl (cs 0, 16, .inl (upd onf en (nI jy)))), (mot, .inl (cs 0, 16, .inl otf)), (man, .inl (cs 0, 16, .inl anf))] H := hP
              replace hD : va_D A [(hm, .inr (12, [.ref ms, .ref mkp, .int (nI km), .ref mtr, .int (nI n), .int (nI k), .int (nI al), .int (nI be), .int ea, .int pr, .ref mas, .int nq, .int po, .int (nI en), .ref mso, .ref mon, .ref mot, .ref man, .int (nI 0), .int xd, .ref mst, .ref msm, .ref mtb, .ref mti, .ref mfr, .ref mbn, .ref mbs, .ref mde, .int sF, .int sN, .int sS, .int ig, .long xa, .long xb, .ref maa, .ref mab, .ref mba, .ref mbb])), (ms, .inl (cs 0, 288, .inl f)), (mso, .inl (cs 0, 16, .inl (upd sof en (nI x0)))), (mon, .inl (cs 0, 16, .inl (upd onf en (nI jy)))), (mot, .inl (cs 0, 16, .inl otf)), (man, .inl (cs 0, 16, .inl anf))] := hD
              refine lv_aload_n hx hb dX12_entry_85 rfl (lv_at hl 1 rfl) ?_
              refine xget C hP 0 rfl rfl zuX12 16 (by decide) zw5_229 rfl dX12_entry_86 ?_
              refine lv_iload hx hb dX12_entry_89 (lv_at hl 0 rfl) ?_
              refine lv_iload_n hx hb dX12_entry_91 rfl (lv_at hl 4 rfl) ?_
              refine xiast C hP hD hS 4 rfl en rfl (by omega) (by decide) dX12_entry_92 ?_
              clear hP hD hS
              try clear locs
              try clear H
              intro H locs hP hD hS
              replace hP : va_P D vwCl [(hm, .inr (12, [.ref ms, .ref mkp, .int (nI km), .ref mtr, .int (nI n), .int (nI k), .int (nI al), .int (nI be), .int ea, .int pr, .ref mas, .int nq, .int po, .int (nI en), .ref mso, .ref mon, .ref mot, .ref man, .int (nI 0), .int xd, .ref mst, .ref msm, .ref mtb, .ref mti, .ref mfr, .ref mbn, .ref mbs, .ref mde, .int sF, .int sN, .int sS, .int ig, .long xa, .long xb, .ref maa, .ref mab, .ref mba, .ref mbb])), (ms, .inl (cs 0, 288, .inl f)), (mso, .inl (cs 0, 16, .inl (upd sof en (nI x0)))), (mon, .inl (cs 0, 16, .inl (upd onf en (nI jy)))), (mot, .inl (cs 0, 16, .inl (upd otf en (nI jz)))), (man, .inl (cs 0, 16, .inl anf))] H := hP
              replace hD : va_D A [(hm, .inr (12, [.ref ms, .ref mkp, .int (nI km), .ref mtr, .int (nI n), .int (nI k), .int (nI al), .int (nI be), .int ea, .int pr, .ref mas, .int nq, .int po, .int (nI en), .ref mso, .ref mon, .ref mot, .ref man, .int (nI 0), .int xd, .ref mst, .ref msm, .ref mtb, .ref mti, .ref mfr, .ref mbn, .ref mbs, .ref mde, .int sF, .int sN, .int sS, .int ig, .long xa, .long xb, .ref maa, .ref mab, .ref mba, .ref mbb])), (ms, .inl (cs 0, 288, .inl f)), (mso, .inl (cs 0, 16, .inl (upd sof en (nI x0)))), (mon, .inl (cs 0, 16, .inl (upd onf en (nI jy)))), (mot, .inl (cs 0, 16, .inl (upd otf en (nI jz)))), (man, .inl (cs 0, 16, .inl anf))] := hD
              refine lv_aload_n hx hb dX12_entry_93 rfl (lv_at hl 1 rfl) ?_
              refine xget C hP 0 rfl rfl zuX12 17 (by decide) zw5_230 rfl dX12_entry_94 ?_
              refine lv_iload hx hb dX12_entry_97 (lv_at hl 0 rfl) ?_
              refine lv_iconst (v := nI 0) hx hb dX12_entry_99 (by decide) ?_
              refine xiast C hP hD hS 5 rfl en rfl (by omega) (by decide) dX12_entry_100 ?_
              clear hP hD hS
              try clear locs
              try clear H
              intro H locs hP hD hS
              replace hP : va_P D vwCl [(hm, .inr (12, [.ref ms, .ref mkp, .int (nI km), .ref mtr, .int (nI n), .int (nI k), .int (nI al), .int (nI be), .int ea, .int pr, .ref mas, .int nq, .int po, .int (nI en), .ref mso, .ref mon, .ref mot, .ref man, .int (nI 0), .int xd, .ref mst, .ref msm, .ref mtb, .ref mti, .ref mfr, .ref mbn, .ref mbs, .ref mde, .int sF, .int sN, .int sS, .int ig, .long xa, .long xb, .ref maa, .ref mab, .ref mba, .ref mbb])), (ms, .inl (cs 0, 288, .inl f)), (mso, .inl (cs 0, 16, .inl (upd sof en (nI x0)))), (mon, .inl (cs 0, 16, .inl (upd onf en (nI jy)))), (mot, .inl (cs 0, 16, .inl (upd otf en (nI jz)))), (man, .inl (cs 0, 16, .inl (upd anf en (nI 0))))] H := hP
              replace hD : va_D A [(hm, .inr (12, [.ref ms, .ref mkp, .int (nI km), .ref mtr, .int (nI n), .int (nI k), .int (nI al), .int (nI be), .int ea, .int pr, .ref mas, .int nq, .int po, .int (nI en), .ref mso, .ref mon, .ref mot, .ref man, .int (nI 0), .int xd, .ref mst, .ref msm, .ref mtb, .ref mti, .ref mfr, .ref mbn, .ref mbs, .ref mde, .int sF, .int sN, .int sS, .int ig, .long xa, .long xb, .ref maa, .ref mab, .ref mba, .ref mbb])), (ms, .inl (cs 0, 288, .inl f)), (mso, .inl (cs 0, 16, .inl (upd sof en (nI x0)))), (mon, .inl (cs 0, 16, .inl (upd onf en (nI jy)))), (mot, .inl (cs 0, 16, .inl (upd otf en (nI jz)))), (man, .inl (cs 0, 16, .inl (upd anf en (nI 0))))] := hD
              refine lv_iload_n hx hb dX12_entry_101 rfl (lv_at hl 3 rfl) ?_
              refine lv_if_lt (tgt := 125) hx hb dX12_entry_102 (by decide) (fun c => absurd c (nI_pos (by omega))) (fun _ => ?_)
              refine lv_aload_n hx hb dX12_entry_105 rfl (lv_at hl 1 rfl) ?_
              refine xget C hP 0 rfl rfl zuX12 17 (by decide) zw5_230 rfl dX12_entry_106 ?_
              refine lv_iload hx hb dX12_entry_109 (lv_at hl 0 rfl) ?_
              refine lv_dup2_11 hx hb dX12_entry_111 rfl rfl ?_
              refine xiald C hP 5 rfl en rfl (by omega) (by decide) dX12_entry_112 ?_
              refine lv_aload_n hx hb dX12_entry_113 rfl (lv_at hl 1 rfl) ?_
              refine xget C hP 0 rfl rfl zuX12 17 (by decide) zw5_230 rfl dX12_entry_114 ?_
              refine lv_iload_n hx hb dX12_entry_117 rfl (lv_at hl 3 rfl) ?_
              refine xiald C hP 5 rfl jy rfl (by omega) (by decide) dX12_entry_118 ?_
              refine lv_iconst (v := nI 1) hx hb dX12_entry_119 (by decide) ?_
              refine lv_iload_n hx hb dX12_entry_120 rfl (lv_at hl 3 rfl) ?_
              refine lv_ishl hx hb dX12_entry_121 ?_
              refine lv_ior hx hb dX12_entry_122 ?_
              refine lv_ior hx hb dX12_entry_123 ?_
              refine xiast C hP hD hS 5 rfl en rfl (by omega) (by decide) dX12_entry_124 ?_
              clear hP hD hS
              try clear locs
              try clear H
              intro H locs hP hD hS
              replace hP : va_P D vwCl [(hm, .inr (12, [.ref ms, .ref mkp, .int (nI km), .ref mtr, .int (nI n), .int (nI k), .int (nI al), .int (nI be), .int ea, .int pr, .ref mas, .int nq, .int po, .int (nI en), .ref mso, .ref mon, .ref mot, .ref man, .int (nI 0), .int xd, .ref mst, .ref msm, .ref mtb, .ref mti, .ref mfr, .ref mbn, .ref mbs, .ref mde, .int sF, .int sN, .int sS, .int ig, .long xa, .long xb, .ref maa, .ref mab, .ref mba, .ref mbb])), (ms, .inl (cs 0, 288, .inl f)), (mso, .inl (cs 0, 16, .inl (upd sof en (nI x0)))), (mon, .inl (cs 0, 16, .inl (upd onf en (nI jy)))), (mot, .inl (cs 0, 16, .inl (upd otf en (nI jz)))), (man, .inl (cs 0, 16, .inl (upd (upd anf en (nI 0)) en (((upd anf en (nI 0)) en) ||| (((upd anf en (nI 0)) jy) ||| ((nI 1) <<< ((nI jy) &&& 31)))))))] H := hP
              replace hD : va_D A [(hm, .inr (12, [.ref ms, .ref mkp, .int (nI km), .ref mtr, .int (nI n), .int (nI k), .int (nI al), .int (nI be), .int ea, .int pr, .ref mas, .int nq, .int po, .int (nI en), .ref mso, .ref mon, .ref mot, .ref man, .int (nI 0), .int xd, .ref mst, .ref msm, .ref mtb, .ref mti, .ref mfr, .ref mbn, .ref mbs, .ref mde, .int sF, .int sN, .int sS, .int ig, .long xa, .long xb, .ref maa, .ref mab, .ref mba, .ref mbb])), (ms, .inl (cs 0, 288, .inl f)), (mso, .inl (cs 0, 16, .inl (upd sof en (nI x0)))), (mon, .inl (cs 0, 16, .inl (upd onf en (nI jy)))), (mot, .inl (cs 0, 16, .inl (upd otf en (nI jz)))), (man, .inl (cs 0, 16, .inl (upd (upd anf en (nI 0)) en (((upd anf en (nI 0)) en) ||| (((upd anf en (nI 0)) jy) ||| ((nI 1) <<< ((nI jy) &&& 31)))))))] := hD
              refine lv_iload_n hx hb dX12_entry_125 rfl (lv_at hl 4 rfl) ?_
              refine lv_if_lt (tgt := 149) hx hb dX12_entry_126 (by decide) (fun c => absurd c (nI_pos (by omega))) (fun _ => ?_)
              refine lv_aload_n hx hb dX12_entry_129 rfl (lv_at hl 1 rfl) ?_
              refine xget C hP 0 rfl rfl zuX12 17 (by decide) zw5_230 rfl dX12_entry_130 ?_
              refine lv_iload hx hb dX12_entry_133 (lv_at hl 0 rfl) ?_
              refine lv_dup2_11 hx hb dX12_entry_135 rfl rfl ?_
              refine xiald C hP 5 rfl en rfl (by omega) (by decide) dX12_entry_136 ?_
              refine lv_aload_n hx hb dX12_entry_137 rfl (lv_at hl 1 rfl) ?_
              refine xget C hP 0 rfl rfl zuX12 17 (by decide) zw5_230 rfl dX12_entry_138 ?_
              refine lv_iload_n hx hb dX12_entry_141 rfl (lv_at hl 4 rfl) ?_
              refine xiald C hP 5 rfl jz rfl (by omega) (by decide) dX12_entry_142 ?_
              refine lv_iconst (v := nI 1) hx hb dX12_entry_143 (by decide) ?_
              refine lv_iload_n hx hb dX12_entry_144 rfl (lv_at hl 4 rfl) ?_
              refine lv_ishl hx hb dX12_entry_145 ?_
              refine lv_ior hx hb dX12_entry_146 ?_
              refine lv_ior hx hb dX12_entry_147 ?_
              refine xiast C hP hD hS 5 rfl en rfl (by omega) (by decide) dX12_entry_148 ?_
              clear hP hD hS
              try clear locs
              try clear H
              intro H locs hP hD hS
              replace hP : va_P D vwCl [(hm, .inr (12, [.ref ms, .ref mkp, .int (nI km), .ref mtr, .int (nI n), .int (nI k), .int (nI al), .int (nI be), .int ea, .int pr, .ref mas, .int nq, .int po, .int (nI en), .ref mso, .ref mon, .ref mot, .ref man, .int (nI 0), .int xd, .ref mst, .ref msm, .ref mtb, .ref mti, .ref mfr, .ref mbn, .ref mbs, .ref mde, .int sF, .int sN, .int sS, .int ig, .long xa, .long xb, .ref maa, .ref mab, .ref mba, .ref mbb])), (ms, .inl (cs 0, 288, .inl f)), (mso, .inl (cs 0, 16, .inl (upd sof en (nI x0)))), (mon, .inl (cs 0, 16, .inl (upd onf en (nI jy)))), (mot, .inl (cs 0, 16, .inl (upd otf en (nI jz)))), (man, .inl (cs 0, 16, .inl (upd (upd (upd anf en (nI 0)) en (((upd anf en (nI 0)) en) ||| (((upd anf en (nI 0)) jy) ||| ((nI 1) <<< ((nI jy) &&& 31))))) en (((upd (upd anf en (nI 0)) en (((upd anf en (nI 0)) en) ||| (((upd anf en (nI 0)) jy) ||| ((nI 1) <<< ((nI jy) &&& 31))))) en) ||| (((upd (upd anf en (nI 0)) en (((upd anf en (nI 0)) en) ||| (((upd anf en (nI 0)) jy) ||| ((nI 1) <<< ((nI jy) &&& 31))))) jz) ||| ((nI 1) <<< ((nI jz) &&& 31)))))))] H := hP
              replace hD : va_D A [(hm, .inr (12, [.ref ms, .ref mkp, .int (nI km), .ref mtr, .int (nI n), .int (nI k), .int (nI al), .int (nI be), .int ea, .int pr, .ref mas, .int nq, .int po, .int (nI en), .ref mso, .ref mon, .ref mot, .ref man, .int (nI 0), .int xd, .ref mst, .ref msm, .ref mtb, .ref mti, .ref mfr, .ref mbn, .ref mbs, .ref mde, .int sF, .int sN, .int sS, .int ig, .long xa, .long xb, .ref maa, .ref mab, .ref mba, .ref mbb])), (ms, .inl (cs 0, 288, .inl f)), (mso, .inl (cs 0, 16, .inl (upd sof en (nI x0)))), (mon, .inl (cs 0, 16, .inl (upd onf en (nI jy)))), (mot, .inl (cs 0, 16, .inl (upd otf en (nI jz)))), (man, .inl (cs 0, 16, .inl (upd (upd (upd anf en (nI 0)) en (((upd anf en (nI 0)) en) ||| (((upd anf en (nI 0)) jy) ||| ((nI 1) <<< ((nI jy) &&& 31))))) en (((upd (upd anf en (nI 0)) en (((upd anf en (nI 0)) en) ||| (((upd anf en (nI 0)) jy) ||| ((nI 1) <<< ((nI jy) &&& 31))))) en) ||| (((upd (upd anf en (nI 0)) en (((upd anf en (nI 0)) en) ||| (((upd anf en (nI 0)) jy) ||| ((nI 1) <<< ((nI jy) &&& 31))))) jz) ||| ((nI 1) <<< ((nI jz) &&& 31)))))))] := hD
              refine lv_aload_n hx hb dX12_entry_149 rfl (lv_at hl 1 rfl) ?_
              refine lv_dup hx hb dX12_entry_150 rfl ?_
              refine xget C hP 0 rfl rfl zuX12 13 (by decide) zw5_226 rfl dX12_entry_151 ?_
              refine lv_iconst (v := nI 1) hx hb dX12_entry_154 (by decide) ?_
              refine lv_iadd hx hb dX12_entry_155 ?_
              refine lv_topi (nm_r (e' := nI (en + 1)) (nI_add _ _) ?_)
              refine xput C hP hD hS 0 rfl rfl zuX12 tyX12 tyX12_ok nmX12 13 (by decide) zw5_226 rfl rfl rfl (Nat.le_of_ble_eq_true rfl) dX12_entry_156 ?_
              clear hP hD hS
              try clear locs
              try clear H
              intro H locs hP hD hS
              replace hP : va_P D vwCl [(hm, .inr (12, [.ref ms, .ref mkp, .int (nI km), .ref mtr, .int (nI n), .int (nI k), .int (nI al), .int (nI be), .int ea, .int pr, .ref mas, .int nq, .int po, .int (nI (en + 1)), .ref mso, .ref mon, .ref mot, .ref man, .int (nI 0), .int xd, .ref mst, .ref msm, .ref mtb, .ref mti, .ref mfr, .ref mbn, .ref mbs, .ref mde, .int sF, .int sN, .int sS, .int ig, .long xa, .long xb, .ref maa, .ref mab, .ref mba, .ref mbb])), (ms, .inl (cs 0, 288, .inl f)), (mso, .inl (cs 0, 16, .inl (upd sof en (nI x0)))), (mon, .inl (cs 0, 16, .inl (upd onf en (nI jy)))), (mot, .inl (cs 0, 16, .inl (upd otf en (nI jz)))), (man, .inl (cs 0, 16, .inl (upd (upd (upd anf en (nI 0)) en (((upd anf en (nI 0)) en) ||| (((upd anf en (nI 0)) jy) ||| ((nI 1) <<< ((nI jy) &&& 31))))) en (((upd (upd anf en (nI 0)) en (((upd anf en (nI 0)) en) ||| (((upd anf en (nI 0)) jy) ||| ((nI 1) <<< ((nI jy) &&& 31))))) en) ||| (((upd (upd anf en (nI 0)) en (((upd anf en (nI 0)) en) ||| (((upd anf en (nI 0)) jy) ||| ((nI 1) <<< ((nI jy) &&& 31))))) jz) ||| ((nI 1) <<< ((nI jz) &&& 31)))))))] H := hP
              replace hD : va_D A [(hm, .inr (12, [.ref ms, .ref mkp, .int (nI km), .ref mtr, .int (nI n), .int (nI k), .int (nI al), .int (nI be), .int ea, .int pr, .ref mas, .int nq, .int po, .int (nI (en + 1)), .ref mso, .ref mon, .ref mot, .ref man, .int (nI 0), .int xd, .ref mst, .ref msm, .ref mtb, .ref mti, .ref mfr, .ref mbn, .ref mbs, .ref mde, .int sF, .int sN, .int sS, .int ig, .long xa, .long xb, .ref maa, .ref mab, .ref mba, .ref mbb])), (ms, .inl (cs 0, 288, .inl f)), (mso, .inl (cs 0, 16, .inl (upd sof en (nI x0)))), (mon, .inl (cs 0, 16, .inl (upd onf en (nI jy)))), (mot, .inl (cs 0, 16, .inl (upd otf en (nI jz)))), (man, .inl (cs 0, 16, .inl (upd (upd (upd anf en (nI 0)) en (((upd anf en (nI 0)) en) ||| (((upd anf en (nI 0)) jy) ||| ((nI 1) <<< ((nI jy) &&& 31))))) en (((upd (upd anf en (nI 0)) en (((upd anf en (nI 0)) en) ||| (((upd anf en (nI 0)) jy) ||| ((nI 1) <<< ((nI jy) &&& 31))))) en) ||| (((upd (upd anf en (nI 0)) en (((upd anf en (nI 0)) en) ||| (((upd anf en (nI 0)) jy) ||| ((nI 1) <<< ((nI jy) &&& 31))))) jz) ||| ((nI 1) <<< ((nI jz) &&& 31)))))))] := hD
              refine lv_iconst (v := nI 0) hx hb dX12_entry_159 (by decide) ?_
              refine lv_istore (lv' := [(5, .int (nI 0)), (4, .int (nI en)), (0, .ref hm), (1, .int (nI x0)), (2, .int (nI jy)), (3, .int (nI jz))]) hx hb dX12_entry_160 hl (by decide) rfl ?_
              clear hl
              try clear ls
              intro ls hl
              have loop_43 : ∀ (n_loop_43 : Nat) (o : Nat) (f9 : Nat → Int32), (o ≤ 8) → (lowE f f9) → 8 - o < n_loop_43 → ∀ (H : Heap) (locs : List Loc) (ls : Array Slot), va_P D vwCl [(hm, .inr (12, [.ref ms, .ref mkp, .int (nI km), .ref mtr, .int (nI n), .int (nI k), .int (nI al), .int (nI be), .int ea, .int pr, .ref mas, .int nq, .int po, .int (nI (en + 1)), .ref mso, .ref mon, .ref mot, .ref man, .int (nI 0), .int xd, .ref mst, .ref msm, .ref mtb, .ref mti, .ref mfr, .ref mbn, .ref mbs, .ref mde, .int sF, .int sN, .int sS, .int ig, .long xa, .long xb, .ref maa, .ref mab, .ref mba, .ref mbb])), (ms, .inl (cs 0, 288, .inl f9)), (mso, .inl (cs 0, 16, .inl (upd sof en (nI x0)))), (mon, .inl (cs 0, 16, .inl (upd onf en (nI jy)))), (mot, .inl (cs 0, 16, .inl (upd otf en (nI jz)))), (man, .inl (cs 0, 16, .inl (upd (upd (upd anf en (nI 0)) en (((upd anf en (nI 0)) en) ||| (((upd anf en (nI 0)) jy) ||| ((nI 1) <<< ((nI jy) &&& 31))))) en (((upd (upd anf en (nI 0)) en (((upd anf en (nI 0)) en) ||| (((upd anf en (nI 0)) jy) ||| ((nI 1) <<< ((nI jy) &&& 31))))) en) ||| (((upd (upd anf en (nI 0)) en (((upd anf en (nI 0)) en) ||| (((upd anf en (nI 0)) jy) ||| ((nI 1) <<< ((nI jy) &&& 31))))) jz) ||| ((nI 1) <<< ((nI jz) &&& 31)))))))] H → va_D A [(hm, .inr (12, [.ref ms, .ref mkp, .int (nI km), .ref mtr, .int (nI n), .int (nI k), .int (nI al), .int (nI be), .int ea, .int pr, .ref mas, .int nq, .int po, .int (nI (en + 1)), .ref mso, .ref mon, .ref mot, .ref man, .int (nI 0), .int xd, .ref mst, .ref msm, .ref mtb, .ref mti, .ref mfr, .ref mbn, .ref mbs, .ref mde, .int sF, .int sN, .int sS, .int ig, .long xa, .long xb, .ref maa, .ref mab, .ref mba, .ref mbb])), (ms, .inl (cs 0, 288, .inl f9)), (mso, .inl (cs 0, 16, .inl (upd sof en (nI x0)))), (mon, .inl (cs 0, 16, .inl (upd onf en (nI jy)))), (mot, .inl (cs 0, 16, .inl (upd otf en (nI jz)))), (man, .inl (cs 0, 16, .inl (upd (upd (upd anf en (nI 0)) en (((upd anf en (nI 0)) en) ||| (((upd anf en (nI 0)) jy) ||| ((nI 1) <<< ((nI jy) &&& 31))))) en (((upd (upd anf en (nI 0)) en (((upd anf en (nI 0)) en) ||| (((upd anf en (nI 0)) jy) ||| ((nI 1) <<< ((nI jy) &&& 31))))) en) ||| (((upd (upd anf en (nI 0)) en (((upd anf en (nI 0)) en) ||| (((upd anf en (nI 0)) jy) ||| ((nI 1) <<< ((nI jy) &&& 31))))) jz) ||| ((nI 1) <<< ((nI jz) &&& 31)))))))] → va_S A s.heap H locs → lv_has ls 6 [(5, .int (nI o)), (4, .int (nI en)), (0, .ref hm), (1, .int (nI x0)), (2, .int (nI jy)), (3, .int (nI jz))] → W p l e ({ frames := 2, cells := 0, slots := 0, locals := 44 } : Room) s m args below meth c H locs 0 0 (MQ below ((xQi D (fun (r : Int32) (u : Nat × Nat × (Nat → Int32) × (Nat → Int32) × (Nat → Int32) × (Nat → Int32) × (Nat → Int32)) => match u with | (enz, kmz, fz, soz, onz, otz, anz) => (PQ (entP en (nI x0) (nI jy) (nI jz)) r (nI en) (-1) ∧ (entP en (nI x0) (nI jy) (nI jz) → enz = en + 1) ∧ (¬ entP en (nI x0) (nI jy) (nI jz) → enz = en)) ∧ (colP fz ∧ enz ≤ 16 ∧ kmz ≤ 8 ∧ inP 16 8 soz ∧ parF enz onz ∧ parF enz otz) ∧ lowE f fz ∧ (entP en (nI x0) (nI jy) (nI jz) → kmz = 0) ∧ (¬ entP en (nI x0) (nI jy) (nI jz) → kmz = km)) (fun (u : Nat × Nat × (Nat → Int32) × (Nat → Int32) × (Nat → Int32) × (Nat → Int32) × (Nat → Int32)) => match u with | (enz, kmz, fz, soz, onz, otz, anz) => [(hm, .inr (12, [.ref ms, .ref mkp, .int (nI kmz), .ref mtr, .int (nI n), .int (nI k), .int (nI al), .int (nI be), .int ea, .int pr, .ref mas, .int nq, .int po, .int (nI enz), .ref mso, .ref mon, .ref mot, .ref man, .int (nI 0), .int xd, .ref mst, .ref msm, .ref mtb, .ref mti, .ref mfr, .ref mbn, .ref mbs, .ref mde, .int sF, .int sN, .int sS, .int ig, .long xa, .long xb, .ref maa, .ref mab, .ref mba, .ref mbb])), (ms, .inl (cs 0, 288, .inl fz)), (mso, .inl (cs 0, 16, .inl soz)), (mon, .inl (cs 0, 16, .inl onz)), (mot, .inl (cs 0, 16, .inl otz)), (man, .inl (cs 0, 16, .inl anz))])) A) args s 0 0 A) (F0 m 162 ls []) := by
                intro n_loop_43
                induction n_loop_43 with
                | zero => intro o f9 h_o hw9 hlt H locs ls hP hD hS hl; exact absurd hlt (Nat.not_lt_zero _)
                | succ n_loop_43 ih_loop_43 =>
                  intro o f9 h_o hw9 hlt_loop_43 H locs ls hP hD hS hl
                  refine lv_iload hx hb dX12_entry_162 (lv_at hl 0 rfl) ?_
                  refine lv_bipush (v := nI 8) hx hb dX12_entry_164 (by decide) ?_
                  refine lv_icmp_ge (tgt := 237) hx hb dX12_entry_166 (by decide) (fun c_44 => ?_) (fun c_44 => ?_)
                  · -- 166 t
                    have fc_44 : 8 ≤ o := nf_le (by omega) (by omega) c_44
                    refine lv_aload_n hx hb dX12_entry_237 rfl (lv_at hl 2 rfl) ?_
                    refine lv_iconst (v := nI 0) hx hb dX12_entry_238 (by decide) ?_
                    refine xput C hP hD hS 0 rfl rfl zuX12 tyX12 tyX12_ok nmX12 2 (by decide) zw5_215 rfl rfl rfl (Nat.le_of_ble_eq_true rfl) dX12_entry_239 ?_
                    clear hP hD hS
                    try clear locs
                    try clear H
                    intro H locs hP hD hS
                    replace hP : va_P D vwCl [(hm, .inr (12, [.ref ms, .ref mkp, .int (nI 0), .ref mtr, .int (nI n), .int (nI k), .int (nI al), .int (nI be), .int ea, .int pr, .ref mas, .int nq, .int po, .int (nI (en + 1)), .ref mso, .ref mon, .ref mot, .ref man, .int (nI 0), .int xd, .ref mst, .ref msm, .ref mtb, .ref mti, .ref mfr, .ref mbn, .ref mbs, .ref mde, .int sF, .int sN, .int sS, .int ig, .long xa, .long xb, .ref maa, .ref mab, .ref mba, .ref mbb])), (ms, .inl (cs 0, 288, .inl f9)), (mso, .inl (cs 0, 16, .inl (upd sof en (nI x0)))), (mon, .inl (cs 0, 16, .inl (upd onf en (nI jy)))), (mot, .inl (cs 0, 16, .inl (upd otf en (nI jz)))), (man, .inl (cs 0, 16, .inl (upd (upd (upd anf en (nI 0)) en (((upd anf en (nI 0)) en) ||| (((upd anf en (nI 0)) jy) ||| ((nI 1) <<< ((nI jy) &&& 31))))) en (((upd (upd anf en (nI 0)) en (((upd anf en (nI 0)) en) ||| (((upd anf en (nI 0)) jy) ||| ((nI 1) <<< ((nI jy) &&& 31))))) en) ||| (((upd (upd anf en (nI 0)) en (((upd anf en (nI 0)) en) ||| (((upd anf en (nI 0)) jy) ||| ((nI 1) <<< ((nI jy) &&& 31))))) jz) ||| ((nI 1) <<< ((nI jz) &&& 31)))))))] H := hP
                    replace hD : va_D A [(hm, .inr (12, [.ref ms, .ref mkp, .int (nI 0), .ref mtr, .int (nI n), .int (nI k), .int (nI al), .int (nI be), .int ea, .int pr, .ref mas, .int nq, .int po, .int (nI (en + 1)), .ref mso, .ref mon, .ref mot, .ref man, .int (nI 0), .int xd, .ref mst, .ref msm, .ref mtb, .ref mti, .ref mfr, .ref mbn, .ref mbs, .ref mde, .int sF, .int sN, .int sS, .int ig, .long xa, .long xb, .ref maa, .ref mab, .ref mba, .ref mbb])), (ms, .inl (cs 0, 288, .inl f9)), (mso, .inl (cs 0, 16, .inl (upd sof en (nI x0)))), (mon, .inl (cs 0, 16, .inl (upd onf en (nI jy)))), (mot, .inl (cs 0, 16, .inl (upd otf en (nI jz)))), (man, .inl (cs 0, 16, .inl (upd (upd (upd anf en (nI 0)) en (((upd anf en (nI 0)) en) ||| (((upd anf en (nI 0)) jy) ||| ((nI 1) <<< ((nI jy) &&& 31))))) en (((upd (upd anf en (nI 0)) en (((upd anf en (nI 0)) en) ||| (((upd anf en (nI 0)) jy) ||| ((nI 1) <<< ((nI jy) &&& 31))))) en) ||| (((upd (upd anf en (nI 0)) en (((upd anf en (nI 0)) en) ||| (((upd anf en (nI 0)) jy) ||| ((nI 1) <<< ((nI jy) &&& 31))))) jz) ||| ((nI 1) <<< ((nI jz) &&& 31)))))))] := hD
                    refine lv_iload hx hb dX12_entry_242 (lv_at hl 1 rfl) ?_
                    exact xreti C (⟨(en + 1), 0, f9, (upd sof en (nI x0)), (upd onf en (nI jy)), (upd otf en (nI jz)), (upd (upd (upd anf en (nI 0)) en (((upd anf en (nI 0)) en) ||| (((upd anf en (nI 0)) jy) ||| ((nI 1) <<< ((nI jy) &&& 31))))) en (((upd (upd anf en (nI 0)) en (((upd anf en (nI 0)) en) ||| (((upd anf en (nI 0)) jy) ||| ((nI 1) <<< ((nI jy) &&& 31))))) en) ||| (((upd (upd anf en (nI 0)) en (((upd anf en (nI 0)) en) ||| (((upd anf en (nI 0)) jy) ||| ((nI 1) <<< ((nI jy) &&& 31))))) jz) ||| ((nI 1) <<< ((nI jz) &&& 31)))))⟩) (⟨⟨Or.inl ⟨⟨okN_nI (by omega) (by decide), (Or.inr (okN_nI h_jy (by omega))), (Or.inr (okN_nI h_jz (by omega))), Or.inl c_41, by omega⟩, rfl⟩, fun _ => rfl, fun q => absurd ⟨okN_nI (by omega) (by decide), (Or.inr (okN_nI h_jy (by omega))), (Or.inr (okN_nI h_jz (by omega))), Or.inl c_41, by omega⟩ q⟩, ⟨hw9.col hs, by omega, by decide, inP_up hso _ _ (by omega), parF_next hon (Or.inr ⟨jy, h_jy, rfl⟩), parF_next hot (Or.inr ⟨jz, h_jz, rfl⟩)⟩, hw9, fun _ => rfl, fun q => absurd ⟨okN_nI (by omega) (by decide), (Or.inr (okN_nI h_jy (by omega))), (Or.inr (okN_nI h_jz (by omega))), Or.inl c_41, by omega⟩ q⟩) hP hD hS (Nat.le_of_ble_eq_true rfl) (Nat.le_of_ble_eq_true rfl) rfl dX12_entry_244
                  · -- 166 f
                    have fc_44 : o < 8 := nf_nle (by omega) (by omega) c_44
                    refine lv_aload_n hx hb dX12_entry_169 rfl (lv_at hl 2 rfl) ?_
                    refine xget C hP 0 rfl rfl zuX12 0 (by decide) zw5_213 rfl dX12_entry_170 ?_
                    refine lv_bipush (v := nI 96) hx hb dX12_entry_173 (by decide) ?_
                    refine lv_bipush (v := nI 8) hx hb dX12_entry_175 (by decide) ?_
                    refine lv_iload hx hb dX12_entry_177 (lv_at hl 0 rfl) ?_
                    refine lv_imul hx hb dX12_entry_179 ?_
                    refine lv_topi (nm_r (e' := nI (8 * o)) (pk_mul _ _) ?_)
                    refine lv_iadd hx hb dX12_entry_180 ?_
                    refine lv_topi (nm_r (e' := nI (96 + (8 * o))) (nI_add _ _) ?_)
                    refine lv_iload_n hx hb dX12_entry_181 rfl (lv_at hl 3 rfl) ?_
                    refine lv_iadd hx hb dX12_entry_182 ?_
                    refine lv_topi (nm_r (e' := nI ((96 + (8 * o)) + x0)) (nI_add _ _) ?_)
                    refine xiald C hP 1 rfl ((96 + (8 * o)) + x0) rfl (by omega) (by decide) dX12_entry_183 ?_
                    refine lv_if_ge (tgt := 204) hx hb dX12_entry_184 (by decide) (fun c_45 => ?_) (fun c_45 => ?_)
                    · -- 184 t
                      refine lv_aload_n hx hb dX12_entry_204 rfl (lv_at hl 2 rfl) ?_
                      refine lv_iload hx hb dX12_entry_205 (lv_at hl 0 rfl) ?_
                      refine lv_iload_n hx hb dX12_entry_207 rfl (lv_at hl 3 rfl) ?_
                      refine xi (wr := [(mon, .inl (cs 0, 16, .inl (upd onf en (nI jy)))), (mot, .inl (cs 0, 16, .inl (upd otf en (nI jz)))), (man, .inl (cs 0, 16, .inl (upd (upd (upd anf en (nI 0)) en (((upd anf en (nI 0)) en) ||| (((upd anf en (nI 0)) jy) ||| ((nI 1) <<< ((nI jy) &&& 31))))) en (((upd (upd anf en (nI 0)) en (((upd anf en (nI 0)) en) ||| (((upd anf en (nI 0)) jy) ||| ((nI 1) <<< ((nI jy) &&& 31))))) en) ||| (((upd (upd anf en (nI 0)) en (((upd anf en (nI 0)) en) ||| (((upd anf en (nI 0)) jy) ||| ((nI 1) <<< ((nI jy) &&& 31))))) jz) ||| ((nI 1) <<< ((nI jz) &&& 31)))))))]) (xV (As := [.int (nI o), .int (nI x0)]) (rest := []) C (c_X12_acceptedOf l D cs hm ms mkp mtr mas mso mon mot man mst msm mtb mti mfr mbn mbs mde maa mab mba mbb n k al be km (en + 1) ea pr nq po (nI 0) xd sF sN sS ig xa xb f9 o (nI x0) (upd sof en (nI x0)) (by omega) (by omega)) kX12_310 hP hD [0, 1, 2] rfl (by decide) 0 rfl rfl rfl ⟨Nat.le_of_ble_eq_true rfl, Nat.le_of_ble_eq_true rfl⟩ rfl hl.1 rfl (Nat.le_of_ble_eq_true rfl) dX12_entry_208 ⟨Nat.le_of_ble_eq_true rfl, Nat.le_of_ble_eq_true rfl⟩) hP hD hS hA [0, 1, 2] [3, 4, 5] rfl rfl (by decide) (by decide) ?_
                      clear hP hD hS
                      try clear locs
                      try clear H
                      intro r_46 u_47 H locs hw_r_46 hP hD hS
                      have hw_r_46 : r_46 = -1 ∨ ∃ e, e < (en + 1) ∧ r_46 = nI e := hw_r_46
                      refine W.widen (k := 0) (n := 0) (Nat.le_of_ble_eq_true rfl) (Nat.le_of_ble_eq_true rfl) ?_
                      replace hP : va_P D vwCl [(mon, .inl (cs 0, 16, .inl (upd onf en (nI jy)))), (mot, .inl (cs 0, 16, .inl (upd otf en (nI jz)))), (man, .inl (cs 0, 16, .inl (upd (upd (upd anf en (nI 0)) en (((upd anf en (nI 0)) en) ||| (((upd anf en (nI 0)) jy) ||| ((nI 1) <<< ((nI jy) &&& 31))))) en (((upd (upd anf en (nI 0)) en (((upd anf en (nI 0)) en) ||| (((upd anf en (nI 0)) jy) ||| ((nI 1) <<< ((nI jy) &&& 31))))) en) ||| (((upd (upd anf en (nI 0)) en (((upd anf en (nI 0)) en) ||| (((upd anf en (nI 0)) jy) ||| ((nI 1) <<< ((nI jy) &&& 31))))) jz) ||| ((nI 1) <<< ((nI jz) &&& 31))))))), (hm, .inr (12, [.ref ms, .ref mkp, .int (nI km), .ref mtr, .int (nI n), .int (nI k), .int (nI al), .int (nI be), .int ea, .int pr, .ref mas, .int nq, .int po, .int (nI (en + 1)), .ref mso, .ref mon, .ref mot, .ref man, .int (nI 0), .int xd, .ref mst, .ref msm, .ref mtb, .ref mti, .ref mfr, .ref mbn, .ref mbs, .ref mde, .int sF, .int sN, .int sS, .int ig, .long xa, .long xb, .ref maa, .ref mab, .ref mba, .ref mbb])), (ms, .inl (cs 0, 288, .inl f9)), (mso, .inl (cs 0, 16, .inl (upd sof en (nI x0))))] H := hP
                      replace hD : va_D A [(mon, .inl (cs 0, 16, .inl (upd onf en (nI jy)))), (mot, .inl (cs 0, 16, .inl (upd otf en (nI jz)))), (man, .inl (cs 0, 16, .inl (upd (upd (upd anf en (nI 0)) en (((upd anf en (nI 0)) en) ||| (((upd anf en (nI 0)) jy) ||| ((nI 1) <<< ((nI jy) &&& 31))))) en (((upd (upd anf en (nI 0)) en (((upd anf en (nI 0)) en) ||| (((upd anf en (nI 0)) jy) ||| ((nI 1) <<< ((nI jy) &&& 31))))) en) ||| (((upd (upd anf en (nI 0)) en (((upd anf en (nI 0)) en) ||| (((upd anf en (nI 0)) jy) ||| ((nI 1) <<< ((nI jy) &&& 31))))) jz) ||| ((nI 1) <<< ((nI jz) &&& 31))))))), (hm, .inr (12, [.ref ms, .ref mkp, .int (nI km), .ref mtr, .int (nI n), .int (nI k), .int (nI al), .int (nI be), .int ea, .int pr, .ref mas, .int nq, .int po, .int (nI (en + 1)), .ref mso, .ref mon, .ref mot, .ref man, .int (nI 0), .int xd, .ref mst, .ref msm, .ref mtb, .ref mti, .ref mfr, .ref mbn, .ref mbs, .ref mde, .int sF, .int sN, .int sS, .int ig, .long xa, .long xb, .ref maa, .ref mab, .ref mba, .ref mbb])), (ms, .inl (cs 0, 288, .inl f9)), (mso, .inl (cs 0, 16, .inl (upd sof en (nI x0))))] := hD
                      refine lv_if_lt (tgt := 231) hx hb dX12_entry_211 (by decide) (fun c_48 => ?_) (fun c_48 => ?_)
                      · -- 211 t
                        refine lv_iinc (v := nI (o + 1)) (lv' := [(5, .int (nI (o + 1))), (4, .int (nI en)), (0, .ref hm), (1, .int (nI x0)), (2, .int (nI jy)), (3, .int (nI jz))]) hx hb dX12_entry_231 hl (k := 0) rfl (nI_add o 1) (by decide) rfl ?_
                        clear hl
                        try clear ls
                        intro ls hl
                        refine lv_goto (tgt := 162) hx hb dX12_entry_234 (by decide) ?_
                        exact ih_loop_43 (o + 1) f9 (by omega) hw9 (by omega) H locs ls (xP_map hP [3, 4, 5, 0, 1, 2] rfl) (hD.sub [3, 4, 5, 0, 1, 2] (by decide) rfl) hS (lv_sub hl [0, 1, 2, 3, 4, 5] rfl)
                      · -- 211 f
                        refine lv_aload_n hx hb dX12_entry_214 rfl (lv_at hl 2 rfl) ?_
                        refine xget C hP 3 rfl rfl zuX12 0 (by decide) zw5_213 rfl dX12_entry_215 ?_
                        refine lv_bipush (v := nI 88) hx hb dX12_entry_218 (by decide) ?_
                        refine lv_iload hx hb dX12_entry_220 (lv_at hl 0 rfl) ?_
                        refine lv_iadd hx hb dX12_entry_222 ?_
                        refine lv_topi (nm_r (e' := nI (88 + o)) (nI_add _ _) ?_)
                        refine lv_dup2_11 hx hb dX12_entry_223 rfl rfl ?_
                        refine xiald C hP 4 rfl (88 + o) rfl (by omega) (by decide) dX12_entry_224 ?_
                        refine lv_iconst (v := nI 1) hx hb dX12_entry_225 (by decide) ?_
                        refine lv_iload hx hb dX12_entry_226 (lv_at hl 1 rfl) ?_
                        refine lv_ishl hx hb dX12_entry_228 ?_
                        refine lv_ior hx hb dX12_entry_229 ?_
                        refine xiast C hP hD hS 4 rfl (88 + o) rfl (by omega) (by decide) dX12_entry_230 ?_
                        clear hP hD hS
                        try clear locs
                        try clear H
                        intro H locs hP hD hS
                        replace hP : va_P D vwCl [(mon, .inl (cs 0, 16, .inl (upd onf en (nI jy)))), (mot, .inl (cs 0, 16, .inl (upd otf en (nI jz)))), (man, .inl (cs 0, 16, .inl (upd (upd (upd anf en (nI 0)) en (((upd anf en (nI 0)) en) ||| (((upd anf en (nI 0)) jy) ||| ((nI 1) <<< ((nI jy) &&& 31))))) en (((upd (upd anf en (nI 0)) en (((upd anf en (nI 0)) en) ||| (((upd anf en (nI 0)) jy) ||| ((nI 1) <<< ((nI jy) &&& 31))))) en) ||| (((upd (upd anf en (nI 0)) en (((upd anf en (nI 0)) en) ||| (((upd anf en (nI 0)) jy) ||| ((nI 1) <<< ((nI jy) &&& 31))))) jz) ||| ((nI 1) <<< ((nI jz) &&& 31))))))), (hm, .inr (12, [.ref ms, .ref mkp, .int (nI km), .ref mtr, .int (nI n), .int (nI k), .int (nI al), .int (nI be), .int ea, .int pr, .ref mas, .int nq, .int po, .int (nI (en + 1)), .ref mso, .ref mon, .ref mot, .ref man, .int (nI 0), .int xd, .ref mst, .ref msm, .ref mtb, .ref mti, .ref mfr, .ref mbn, .ref mbs, .ref mde, .int sF, .int sN, .int sS, .int ig, .long xa, .long xb, .ref maa, .ref mab, .ref mba, .ref mbb])), (ms, .inl (cs 0, 288, .inl (upd f9 (88 + o) ((f9 (88 + o)) ||| ((nI 1) <<< ((nI en) &&& 31)))))), (mso, .inl (cs 0, 16, .inl (upd sof en (nI x0))))] H := hP
                        replace hD : va_D A [(mon, .inl (cs 0, 16, .inl (upd onf en (nI jy)))), (mot, .inl (cs 0, 16, .inl (upd otf en (nI jz)))), (man, .inl (cs 0, 16, .inl (upd (upd (upd anf en (nI 0)) en (((upd anf en (nI 0)) en) ||| (((upd anf en (nI 0)) jy) ||| ((nI 1) <<< ((nI jy) &&& 31))))) en (((upd (upd anf en (nI 0)) en (((upd anf en (nI 0)) en) ||| (((upd anf en (nI 0)) jy) ||| ((nI 1) <<< ((nI jy) &&& 31))))) en) ||| (((upd (upd anf en (nI 0)) en (((upd anf en (nI 0)) en) ||| (((upd anf en (nI 0)) jy) ||| ((nI 1) <<< ((nI jy) &&& 31))))) jz) ||| ((nI 1) <<< ((nI jz) &&& 31))))))), (hm, .inr (12, [.ref ms, .ref mkp, .int (nI km), .ref mtr, .int (nI n), .int (nI k), .int (nI al), .int (nI be), .int ea, .int pr, .ref mas, .int nq, .int po, .int (nI (en + 1)), .ref mso, .ref mon, .ref mot, .ref man, .int (nI 0), .int xd, .ref mst, .ref msm, .ref mtb, .ref mti, .ref mfr, .ref mbn, .ref mbs, .ref mde, .int sF, .int sN, .int sS, .int ig, .long xa, .long xb, .ref maa, .ref mab, .ref mba, .ref mbb])), (ms, .inl (cs 0, 288, .inl (upd f9 (88 + o) ((f9 (88 + o)) ||| ((nI 1) <<< ((nI en) &&& 31)))))), (mso, .inl (cs 0, 16, .inl (upd sof en (nI x0))))] := hD
                        refine lv_iinc (v := nI (o + 1)) (lv' := [(5, .int (nI (o + 1))), (4, .int (nI en)), (0, .ref hm), (1, .int (nI x0)), (2, .int (nI jy)), (3, .int (nI jz))]) hx hb dX12_entry_231 hl (k := 0) rfl (nI_add o 1) (by decide) rfl ?_
                        clear hl
                        try clear ls
                        intro ls hl
                        refine lv_goto (tgt := 162) hx hb dX12_entry_234 (by decide) ?_
                        exact ih_loop_43 (o + 1) (upd f9 (88 + o) ((f9 (88 + o)) ||| ((nI 1) <<< ((nI en) &&& 31)))) (by omega) (lowE.up hw9 (by omega) ((f9 (88 + o)) ||| ((nI 1) <<< ((nI en) &&& 31)))) (by omega) H locs ls (xP_map hP [3, 4, 5, 0, 1, 2] rfl) (hD.sub [3, 4, 5, 0, 1, 2] (by decide) rfl) hS (lv_sub hl [0, 1, 2, 3, 4, 5] rfl)
                    · -- 184 f
                      refine lv_aload_n hx hb dX12_entry_187 rfl (lv_at hl 2 rfl) ?_
                      refine xget C hP 0 rfl rfl zuX12 0 (by decide) zw5_213 rfl dX12_entry_188 ?_
                      refine lv_bipush (v := nI 96) hx hb dX12_entry_191 (by decide) ?_
                      refine lv_bipush (v := nI 8) hx hb dX12_entry_193 (by decide) ?_
                      refine lv_iload hx hb dX12_entry_195 (lv_at hl 0 rfl) ?_
                      refine lv_imul hx hb dX12_entry_197 ?_
                      refine lv_topi (nm_r (e' := nI (8 * o)) (pk_mul _ _) ?_)
                      refine lv_iadd hx hb dX12_entry_198 ?_
                      refine lv_topi (nm_r (e' := nI (96 + (8 * o))) (nI_add _ _) ?_)
                      refine lv_iload_n hx hb dX12_entry_199 rfl (lv_at hl 3 rfl) ?_
                      refine lv_iadd hx hb dX12_entry_200 ?_
                      refine lv_topi (nm_r (e' := nI ((96 + (8 * o)) + x0)) (nI_add _ _) ?_)
                      refine lv_iload hx hb dX12_entry_201 (lv_at hl 1 rfl) ?_
                      refine xiast C hP hD hS 1 rfl ((96 + (8 * o)) + x0) rfl (by omega) (by decide) dX12_entry_203 ?_
                      clear hP hD hS
                      try clear locs
                      try clear H
                      intro H locs hP hD hS
                      replace hP : va_P D vwCl [(hm, .inr (12, [.ref ms, .ref mkp, .int (nI km), .ref mtr, .int (nI n), .int (nI k), .int (nI al), .int (nI be), .int ea, .int pr, .ref mas, .int nq, .int po, .int (nI (en + 1)), .ref mso, .ref mon, .ref mot, .ref man, .int (nI 0), .int xd, .ref mst, .ref msm, .ref mtb, .ref mti, .ref mfr, .ref mbn, .ref mbs, .ref mde, .int sF, .int sN, .int sS, .int ig, .long xa, .long xb, .ref maa, .ref mab, .ref mba, .ref mbb])), (ms, .inl (cs 0, 288, .inl (upd f9 ((96 + (8 * o)) + x0) (nI en)))), (mso, .inl (cs 0, 16, .inl (upd sof en (nI x0)))), (mon, .inl (cs 0, 16, .inl (upd onf en (nI jy)))), (mot, .inl (cs 0, 16, .inl (upd otf en (nI jz)))), (man, .inl (cs 0, 16, .inl (upd (upd (upd anf en (nI 0)) en (((upd anf en (nI 0)) en) ||| (((upd anf en (nI 0)) jy) ||| ((nI 1) <<< ((nI jy) &&& 31))))) en (((upd (upd anf en (nI 0)) en (((upd anf en (nI 0)) en) ||| (((upd anf en (nI 0)) jy) ||| ((nI 1) <<< ((nI jy) &&& 31))))) en) ||| (((upd (upd anf en (nI 0)) en (((upd anf en (nI 0)) en) ||| (((upd anf en (nI 0)) jy) ||| ((nI 1) <<< ((nI jy) &&& 31))))) jz) ||| ((nI 1) <<< ((nI jz) &&& 31)))))))] H := hP
                      replace hD : va_D A [(hm, .inr (12, [.ref ms, .ref mkp, .int (nI km), .ref mtr, .int (nI n), .int (nI k), .int (nI al), .int (nI be), .int ea, .int pr, .ref mas, .int nq, .int po, .int (nI (en + 1)), .ref mso, .ref mon, .ref mot, .ref man, .int (nI 0), .int xd, .ref mst, .ref msm, .ref mtb, .ref mti, .ref mfr, .ref mbn, .ref mbs, .ref mde, .int sF, .int sN, .int sS, .int ig, .long xa, .long xb, .ref maa, .ref mab, .ref mba, .ref mbb])), (ms, .inl (cs 0, 288, .inl (upd f9 ((96 + (8 * o)) + x0) (nI en)))), (mso, .inl (cs 0, 16, .inl (upd sof en (nI x0)))), (mon, .inl (cs 0, 16, .inl (upd onf en (nI jy)))), (mot, .inl (cs 0, 16, .inl (upd otf en (nI jz)))), (man, .inl (cs 0, 16, .inl (upd (upd (upd anf en (nI 0)) en (((upd anf en (nI 0)) en) ||| (((upd anf en (nI 0)) jy) ||| ((nI 1) <<< ((nI jy) &&& 31))))) en (((upd (upd anf en (nI 0)) en (((upd anf en (nI 0)) en) ||| (((upd anf en (nI 0)) jy) ||| ((nI 1) <<< ((nI jy) &&& 31))))) en) ||| (((upd (upd anf en (nI 0)) en (((upd anf en (nI 0)) en) ||| (((upd anf en (nI 0)) jy) ||| ((nI 1) <<< ((nI jy) &&& 31))))) jz) ||| ((nI 1) <<< ((nI jz) &&& 31)))))))] := hD
                      refine lv_aload_n hx hb dX12_entry_204 rfl (lv_at hl 2 rfl) ?_
                      refine lv_iload hx hb dX12_entry_205 (lv_at hl 0 rfl) ?_
                      refine lv_iload_n hx hb dX12_entry_207 rfl (lv_at hl 3 rfl) ?_
                      refine xi (wr := [(mon, .inl (cs 0, 16, .inl (upd onf en (nI jy)))), (mot, .inl (cs 0, 16, .inl (upd otf en (nI jz)))), (man, .inl (cs 0, 16, .inl (upd (upd (upd anf en (nI 0)) en (((upd anf en (nI 0)) en) ||| (((upd anf en (nI 0)) jy) ||| ((nI 1) <<< ((nI jy) &&& 31))))) en (((upd (upd anf en (nI 0)) en (((upd anf en (nI 0)) en) ||| (((upd anf en (nI 0)) jy) ||| ((nI 1) <<< ((nI jy) &&& 31))))) en) ||| (((upd (upd anf en (nI 0)) en (((upd anf en (nI 0)) en) ||| (((upd anf en (nI 0)) jy) ||| ((nI 1) <<< ((nI jy) &&& 31))))) jz) ||| ((nI 1) <<< ((nI jz) &&& 31)))))))]) (xV (As := [.int (nI o), .int (nI x0)]) (rest := []) C (c_X12_acceptedOf l D cs hm ms mkp mtr mas mso mon mot man mst msm mtb mti mfr mbn mbs mde maa mab mba mbb n k al be km (en + 1) ea pr nq po (nI 0) xd sF sN sS ig xa xb (upd f9 ((96 + (8 * o)) + x0) (nI en)) o (nI x0) (upd sof en (nI x0)) (by omega) (by omega)) kX12_310 hP hD [0, 1, 2] rfl (by decide) 0 rfl rfl rfl ⟨Nat.le_of_ble_eq_true rfl, Nat.le_of_ble_eq_true rfl⟩ rfl hl.1 rfl (Nat.le_of_ble_eq_true rfl) dX12_entry_208 ⟨Nat.le_of_ble_eq_true rfl, Nat.le_of_ble_eq_true rfl⟩) hP hD hS hA [0, 1, 2] [3, 4, 5] rfl rfl (by decide) (by decide) ?_
                      clear hP hD hS
                      try clear locs
                      try clear H
                      intro r_49 u_50 H locs hw_r_49 hP hD hS
                      have hw_r_49 : r_49 = -1 ∨ ∃ e, e < (en + 1) ∧ r_49 = nI e := hw_r_49
                      refine W.widen (k := 0) (n := 0) (Nat.le_of_ble_eq_true rfl) (Nat.le_of_ble_eq_true rfl) ?_
                      replace hP : va_P D vwCl [(mon, .inl (cs 0, 16, .inl (upd onf en (nI jy)))), (mot, .inl (cs 0, 16, .inl (upd otf en (nI jz)))), (man, .inl (cs 0, 16, .inl (upd (upd (upd anf en (nI 0)) en (((upd anf en (nI 0)) en) ||| (((upd anf en (nI 0)) jy) ||| ((nI 1) <<< ((nI jy) &&& 31))))) en (((upd (upd anf en (nI 0)) en (((upd anf en (nI 0)) en) ||| (((upd anf en (nI 0)) jy) ||| ((nI 1) <<< ((nI jy) &&& 31))))) en) ||| (((upd (upd anf en (nI 0)) en (((upd anf en (nI 0)) en) ||| (((upd anf en (nI 0)) jy) ||| ((nI 1) <<< ((nI jy) &&& 31))))) jz) ||| ((nI 1) <<< ((nI jz) &&& 31))))))), (hm, .inr (12, [.ref ms, .ref mkp, .int (nI km), .ref mtr, .int (nI n), .int (nI k), .int (nI al), .int (nI be), .int ea, .int pr, .ref mas, .int nq, .int po, .int (nI (en + 1)), .ref mso, .ref mon, .ref mot, .ref man, .int (nI 0), .int xd, .ref mst, .ref msm, .ref mtb, .ref mti, .ref mfr, .ref mbn, .ref mbs, .ref mde, .int sF, .int sN, .int sS, .int ig, .long xa, .long xb, .ref maa, .ref mab, .ref mba, .ref mbb])), (ms, .inl (cs 0, 288, .inl (upd f9 ((96 + (8 * o)) + x0) (nI en)))), (mso, .inl (cs 0, 16, .inl (upd sof en (nI x0))))] H := hP
                      replace hD : va_D A [(mon, .inl (cs 0, 16, .inl (upd onf en (nI jy)))), (mot, .inl (cs 0, 16, .inl (upd otf en (nI jz)))), (man, .inl (cs 0, 16, .inl (upd (upd (upd anf en (nI 0)) en (((upd anf en (nI 0)) en) ||| (((upd anf en (nI 0)) jy) ||| ((nI 1) <<< ((nI jy) &&& 31))))) en (((upd (upd anf en (nI 0)) en (((upd anf en (nI 0)) en) ||| (((upd anf en (nI 0)) jy) ||| ((nI 1) <<< ((nI jy) &&& 31))))) en) ||| (((upd (upd anf en (nI 0)) en (((upd anf en (nI 0)) en) ||| (((upd anf en (nI 0)) jy) ||| ((nI 1) <<< ((nI jy) &&& 31))))) jz) ||| ((nI 1) <<< ((nI jz) &&& 31))))))), (hm, .inr (12, [.ref ms, .ref mkp, .int (nI km), .ref mtr, .int (nI n), .int (nI k), .int (nI al), .int (nI be), .int ea, .int pr, .ref mas, .int nq, .int po, .int (nI (en + 1)), .ref mso, .ref mon, .ref mot, .ref man, .int (nI 0), .int xd, .ref mst, .ref msm, .ref mtb, .ref mti, .ref mfr, .ref mbn, .ref mbs, .ref mde, .int sF, .int sN, .int sS, .int ig, .long xa, .long xb, .ref maa, .ref mab, .ref mba, .ref mbb])), (ms, .inl (cs 0, 288, .inl (upd f9 ((96 + (8 * o)) + x0) (nI en)))), (mso, .inl (cs 0, 16, .inl (upd sof en (nI x0))))] := hD
                      refine lv_if_lt (tgt := 231) hx hb dX12_entry_211 (by decide) (fun c_51 => ?_) (fun c_51 => ?_)
                      · -- 211 t
                        refine lv_iinc (v := nI (o + 1)) (lv' := [(5, .int (nI (o + 1))), (4, .int (nI en)), (0, .ref hm), (1, .int (nI x0)), (2, .int (nI jy)), (3, .int (nI jz))]) hx hb dX12_entry_231 hl (k := 0) rfl (nI_add o 1) (by decide) rfl ?_
                        clear hl
                        try clear ls
                        intro ls hl
                        refine lv_goto (tgt := 162) hx hb dX12_entry_234 (by decide) ?_
                        exact ih_loop_43 (o + 1) (upd f9 ((96 + (8 * o)) + x0) (nI en)) (by omega) (lowE.up hw9 (by omega) (nI en)) (by omega) H locs ls (xP_map hP [3, 4, 5, 0, 1, 2] rfl) (hD.sub [3, 4, 5, 0, 1, 2] (by decide) rfl) hS (lv_sub hl [0, 1, 2, 3, 4, 5] rfl)
                      · -- 211 f
                        refine lv_aload_n hx hb dX12_entry_214 rfl (lv_at hl 2 rfl) ?_
                        refine xget C hP 3 rfl rfl zuX12 0 (by decide) zw5_213 rfl dX12_entry_215 ?_
                        refine lv_bipush (v := nI 88) hx hb dX12_entry_218 (by decide) ?_
                        refine lv_iload hx hb dX12_entry_220 (lv_at hl 0 rfl) ?_
                        refine lv_iadd hx hb dX12_entry_222 ?_
                        refine lv_topi (nm_r (e' := nI (88 + o)) (nI_add _ _) ?_)
                        refine lv_dup2_11 hx hb dX12_entry_223 rfl rfl ?_
                        refine xiald C hP 4 rfl (88 + o) rfl (by omega) (by decide) dX12_entry_224 ?_
                        refine lv_iconst (v := nI 1) hx hb dX12_entry_225 (by decide) ?_
                        refine lv_iload hx hb dX12_entry_226 (lv_at hl 1 rfl) ?_
                        refine lv_ishl hx hb dX12_entry_228 ?_
                        refine lv_ior hx hb dX12_entry_229 ?_
                        refine xiast C hP hD hS 4 rfl (88 + o) rfl (by omega) (by decide) dX12_entry_230 ?_
                        clear hP hD hS
                        try clear locs
                        try clear H
                        intro H locs hP hD hS
                        replace hP : va_P D vwCl [(mon, .inl (cs 0, 16, .inl (upd onf en (nI jy)))), (mot, .inl (cs 0, 16, .inl (upd otf en (nI jz)))), (man, .inl (cs 0, 16, .inl (upd (upd (upd anf en (nI 0)) en (((upd anf en (nI 0)) en) ||| (((upd anf en (nI 0)) jy) ||| ((nI 1) <<< ((nI jy) &&& 31))))) en (((upd (upd anf en (nI 0)) en (((upd anf en (nI 0)) en) ||| (((upd anf en (nI 0)) jy) ||| ((nI 1) <<< ((nI jy) &&& 31))))) en) ||| (((upd (upd anf en (nI 0)) en (((upd anf en (nI 0)) en) ||| (((upd anf en (nI 0)) jy) ||| ((nI 1) <<< ((nI jy) &&& 31))))) jz) ||| ((nI 1) <<< ((nI jz) &&& 31))))))), (hm, .inr (12, [.ref ms, .ref mkp, .int (nI km), .ref mtr, .int (nI n), .int (nI k), .int (nI al), .int (nI be), .int ea, .int pr, .ref mas, .int nq, .int po, .int (nI (en + 1)), .ref mso, .ref mon, .ref mot, .ref man, .int (nI 0), .int xd, .ref mst, .ref msm, .ref mtb, .ref mti, .ref mfr, .ref mbn, .ref mbs, .ref mde, .int sF, .int sN, .int sS, .int ig, .long xa, .long xb, .ref maa, .ref mab, .ref mba, .ref mbb])), (ms, .inl (cs 0, 288, .inl (upd (upd f9 ((96 + (8 * o)) + x0) (nI en)) (88 + o) (((upd f9 ((96 + (8 * o)) + x0) (nI en)) (88 + o)) ||| ((nI 1) <<< ((nI en) &&& 31)))))), (mso, .inl (cs 0, 16, .inl (upd sof en (nI x0))))] H := hP
                        replace hD : va_D A [(mon, .inl (cs 0, 16, .inl (upd onf en (nI jy)))), (mot, .inl (cs 0, 16, .inl (upd otf en (nI jz)))), (man, .inl (cs 0, 16, .inl (upd (upd (upd anf en (nI 0)) en (((upd anf en (nI 0)) en) ||| (((upd anf en (nI 0)) jy) ||| ((nI 1) <<< ((nI jy) &&& 31))))) en (((upd (upd anf en (nI 0)) en (((upd anf en (nI 0)) en) ||| (((upd anf en (nI 0)) jy) ||| ((nI 1) <<< ((nI jy) &&& 31))))) en) ||| (((upd (upd anf en (nI 0)) en (((upd anf en (nI 0)) en) ||| (((upd anf en (nI 0)) jy) ||| ((nI 1) <<< ((nI jy) &&& 31))))) jz) ||| ((nI 1) <<< ((nI jz) &&& 31))))))), (hm, .inr (12, [.ref ms, .ref mkp, .int (nI km), .ref mtr, .int (nI n), .int (nI k), .int (nI al), .int (nI be), .int ea, .int pr, .ref mas, .int nq, .int po, .int (nI (en + 1)), .ref mso, .ref mon, .ref mot, .ref man, .int (nI 0), .int xd, .ref mst, .ref msm, .ref mtb, .ref mti, .ref mfr, .ref mbn, .ref mbs, .ref mde, .int sF, .int sN, .int sS, .int ig, .long xa, .long xb, .ref maa, .ref mab, .ref mba, .ref mbb])), (ms, .inl (cs 0, 288, .inl (upd (upd f9 ((96 + (8 * o)) + x0) (nI en)) (88 + o) (((upd f9 ((96 + (8 * o)) + x0) (nI en)) (88 + o)) ||| ((nI 1) <<< ((nI en) &&& 31)))))), (mso, .inl (cs 0, 16, .inl (upd sof en (nI x0))))] := hD
                        refine lv_iinc (v := nI (o + 1)) (lv' := [(5, .int (nI (o + 1))), (4, .int (nI en)), (0, .ref hm), (1, .int (nI x0)), (2, .int (nI jy)), (3, .int (nI jz))]) hx hb dX12_entry_231 hl (k := 0) rfl (nI_add o 1) (by decide) rfl ?_
                        clear hl
                        try clear ls
                        intro ls hl
                        refine lv_goto (tgt := 162) hx hb dX12_entry_234 (by decide) ?_
                        exact ih_loop_43 (o + 1) (upd (upd f9 ((96 + (8 * o)) + x0) (nI en)) (88 + o) (((upd f9 ((96 + (8 * o)) + x0) (nI en)) (88 + o)) ||| ((nI 1) <<< ((nI en) &&& 31)))) (by omega) (lowE.up (lowE.up hw9 (by omega) (nI en)) (by omega) (((upd f9 ((96 + (8 * o)) + x0) (nI en)) (88 + o)) ||| ((nI 1) <<< ((nI en) &&& 31)))) (by omega) H locs ls (xP_map hP [3, 4, 5, 0, 1, 2] rfl) (hD.sub [3, 4, 5, 0, 1, 2] (by decide) rfl) hS (lv_sub hl [0, 1, 2, 3, 4, 5] rfl)
              exact loop_43 _ 0 f (by omega) (lowE.refl f) (Nat.lt_succ_self _) H locs ls hP hD hS (lv_sub hl [0, 1, 2, 3, 4, 5] rfl)
            · -- 58 f
              have fc_42 : en = 16 := nf_eq (by omega) (by omega) c_42
              refine lv_iconst (v := (-1)) hx hb dX12_entry_61 (by decide) ?_
              exact xreti C (⟨en, km, f, sof, onf, otf, anf⟩) (⟨⟨Or.inr ⟨fun q => by have z := q.2.2.2.2; omega, rfl⟩, fun q => absurd q (fun q => by have z := q.2.2.2.2; omega), fun _ => rfl⟩, ⟨hs, hen, hkm, hso, hon, hot⟩, lowE.refl _, fun q => absurd q (fun q => by have z := q.2.2.2.2; omega), fun _ => rfl⟩) hP hD hS (Nat.le_of_ble_eq_true rfl) (Nat.le_of_ble_eq_true rfl) rfl dX12_entry_62
