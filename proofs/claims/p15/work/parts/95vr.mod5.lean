def askedP (n al be : Nat) (pr : Int32) (f : Nat → Int32) (x : Int32) (a : Nat) (u : Nat → Nat) (r : Int32) (fz : Nat → Int32) : Prop := ∃ (g : Nat → Int32) (z o : Nat), askI f x a n g z o ∧ (∀ j, 8 ≤ j → g j = f j) ∧ rowU fz a (uSet pr be (winU al z o) u) ∧ r = nI (ansU u (uSet pr be (winU al z o) u)) ∧ (∀ j, ¬ j = 0 + a → ¬ j = 8 + a → ¬ j = 16 + a → ¬ j = 24 + a → ¬ j = 32 + a → ¬ j = 40 + a → fz j = g j) ∧ colP fz
theorem askedP.col {n al be : Nat} {pr : Int32} {f : Nat → Int32} {x : Int32} {a : Nat} {u : Nat → Nat} {r : Int32} {fz : Nat → Int32} (h : askedP n al be pr f x a u r fz) : colP fz := by
  obtain ⟨_, _, _, _, _, _, _, _, h⟩ := h
  exact h
theorem can_u {be a : Nat} {f : Nat → Int32} {u : Nat → Nat} (hu : rowU f a u) (hk : okU be u) (hb : be ≤ 15) (h : mcaP f a) : (u 0 = 1 ∨ u 0 = 2) ∧ u 5 = 0 ∧ u 2 < 15 := by
  have h0 := hk.1
  have h5 := hk.2.2.2.2.2.1
  have e5 : u 5 = 0 := by
    rcases (show u 5 = 0 ∨ u 5 = 1 by omega) with q | q
    · exact q
    · have z := h.2.1
      rw [hu.2.2.2.2.2, q] at z
      exact absurd z (by decide)
  refine ⟨?_, e5, ?_⟩
  · rcases (show u 0 = 0 ∨ u 0 = 1 ∨ u 0 = 2 by omega) with q | q
    · have z := h.2.2
      rw [hu.1, q] at z
      exact absurd (by decide) z
    · exact q
  · have := hk.2.2.2.2.2.2 e5
    omega

set_option maxHeartbeats 4000000 in
set_option maxRecDepth 100000 in
theorem c_X12_query_f (l : Launch) (D : va_G) (cs : Nat → ClassId) (hm ms mkp mtr mas mso mon mot man mst msm mtb mti mfr mbn mbs mde maa mab mba mbb : Nat) (n k al be km en : Nat) (ea pr nq po th xd sF sN sS ig : Int32) (xa xb : Int64) (f : Nat → Int32) (g : Nat → Int32) (qq : Nat → Int32) (x y : Int32) (uu : Nat → Nat → Nat) (hn : 2 ≤ n ∧ n ≤ 8) (hs : colP f) (hk : keptP g) (hkm : km ≤ 8) (hal : al ≤ 8) (hbe : 1 ≤ be ∧ be ≤ 15) (hpr : pr = 0 ∨ pr = nI 1 ∨ pr = nI 2) (hrow : ∀ j, j < 8 → rowU f j (uu j) ∧ okU be (uu j)) : xMet l D cs yX12_query cX12_query 3 (some .int) ({ frames := 3, cells := 0, slots := 0, locals := 71 } : Room) [.ref hm, .int x, .int y] [(hm, .inr (12, [.ref ms, .ref mkp, .int (nI km), .ref mtr, .int (nI n), .int (nI k), .int (nI al), .int (nI be), .int ea, .int pr, .ref mas, .int nq, .int po, .int (nI en), .ref mso, .ref mon, .ref mot, .ref man, .int th, .int xd, .ref mst, .ref msm, .ref mtb, .ref mti, .ref mfr, .ref mbn, .ref mbs, .ref mde, .int sF, .int sN, .int sS, .int ig, .long xa, .long xb, .ref maa, .ref mab, .ref mba, .ref mbb])), (ms, .inl (cs 0, 288, .inl f)), (mkp, .inl (cs 0, 2304, .inl g)), (mas, .inl (cs 0, 8, .inl qq))] (xQi D (fun (r : Int32) (u : Nat × (Nat → Int32) × (Nat → Int32) × Int32 × (Nat → Int32)) => match u with | (kmz, fz, gz, nqz, qz) => (colP fz ∧ keptP gz ∧ kmz ≤ 8) ∧ ((∃ a, a < n ∧ x = nI a ∧ msmP n k a y ∧ mcaP f a ∧ askedP n al be pr f y a (uu a) r fz ∧ kpdP km f g kmz gz ∧ qz = upd qq a (qq a + nI 1) ∧ nqz = nq + nI 1) ∨ (¬ (okN n x ∧ ∀ a, a < n → x = nI a → msmP n k a y ∧ mcaP f a) ∧ r = -1 ∧ (fz = f ∧ gz = g ∧ kmz = km) ∧ qz = qq ∧ nqz = nq))) (fun (u : Nat × (Nat → Int32) × (Nat → Int32) × Int32 × (Nat → Int32)) => match u with | (kmz, fz, gz, nqz, qz) => [(hm, .inr (12, [.ref ms, .ref mkp, .int (nI kmz), .ref mtr, .int (nI n), .int (nI k), .int (nI al), .int (nI be), .int ea, .int pr, .ref mas, .int nqz, .int po, .int (nI en), .ref mso, .ref mon, .ref mot, .ref man, .int (nI 0), .int xd, .ref mst, .ref msm, .ref mtb, .ref mti, .ref mfr, .ref mbn, .ref mbs, .ref mde, .int sF, .int sN, .int sS, .int ig, .long xa, .long xb, .ref maa, .ref mab, .ref mba, .ref mbb])), (ms, .inl (cs 0, 288, .inl fz)), (mkp, .inl (cs 0, 2304, .inl gz)), (mas, .inl (cs 0, 8, .inl qz))])) := by
  refine xMet.intro (by decide) (Nat.le_of_ble_eq_true rfl) ?_
  intro p e s m args below meth c A ls C hP hD hS hl
  have hx := C.1
  have hb := C.2.1
  have hz := C.2.2.2.2.1
  have hown := C.2.2.2.1
  have hA := C.2.2.2.2.2.2.2.2.2
  have hAO := C.2.2.2.2.2.2.2.2.1.2.2
  replace hl : lv_has ls 3 [(0, .ref hm), (1, .int x), (2, .int y)] := hl
  obtain ⟨H, hH⟩ : ∃ H, H = s.heap := ⟨_, rfl⟩
  replace hP : va_P D vwCl [(hm, .inr (12, [.ref ms, .ref mkp, .int (nI km), .ref mtr, .int (nI n), .int (nI k), .int (nI al), .int (nI be), .int ea, .int pr, .ref mas, .int nq, .int po, .int (nI en), .ref mso, .ref mon, .ref mot, .ref man, .int th, .int xd, .ref mst, .ref msm, .ref mtb, .ref mti, .ref mfr, .ref mbn, .ref mbs, .ref mde, .int sF, .int sN, .int sS, .int ig, .long xa, .long xb, .ref maa, .ref mab, .ref mba, .ref mbb])), (ms, .inl (cs 0, 288, .inl f)), (mkp, .inl (cs 0, 2304, .inl g)), (mas, .inl (cs 0, 8, .inl qq))] H := by rw [hH]; exact hP
  replace hS : va_S A s.heap H [] := by rw [hH]; exact hS
  obtain ⟨locs, hlocs⟩ : ∃ z : List Loc, z = [] := ⟨_, rfl⟩
  rw [← hlocs] at hS
  suffices hW : W p l e ({ frames := 3, cells := 0, slots := 0, locals := 71 } : Room) s m args below meth c H locs 0 0 (MQ below ((xQi D (fun (r : Int32) (u : Nat × (Nat → Int32) × (Nat → Int32) × Int32 × (Nat → Int32)) => match u with | (kmz, fz, gz, nqz, qz) => (colP fz ∧ keptP gz ∧ kmz ≤ 8) ∧ ((∃ a, a < n ∧ x = nI a ∧ msmP n k a y ∧ mcaP f a ∧ askedP n al be pr f y a (uu a) r fz ∧ kpdP km f g kmz gz ∧ qz = upd qq a (qq a + nI 1) ∧ nqz = nq + nI 1) ∨ (¬ (okN n x ∧ ∀ a, a < n → x = nI a → msmP n k a y ∧ mcaP f a) ∧ r = -1 ∧ (fz = f ∧ gz = g ∧ kmz = km) ∧ qz = qq ∧ nqz = nq))) (fun (u : Nat × (Nat → Int32) × (Nat → Int32) × Int32 × (Nat → Int32)) => match u with | (kmz, fz, gz, nqz, qz) => [(hm, .inr (12, [.ref ms, .ref mkp, .int (nI kmz), .ref mtr, .int (nI n), .int (nI k), .int (nI al), .int (nI be), .int ea, .int pr, .ref mas, .int nqz, .int po, .int (nI en), .ref mso, .ref mon, .ref mot, .ref man, .int (nI 0), .int xd, .ref mst, .ref msm, .ref mtb, .ref mti, .ref mfr, .ref mbn, .ref mbs, .ref mde, .int sF, .int sN, .int sS, .int ig, .long xa, .long xb, .ref maa, .ref mab, .ref mba, .ref mbb])), (ms, .inl (cs 0, 288, .inl fz)), (mkp, .inl (cs 0, 2304, .inl gz)), (mas, .inl (cs 0, 8, .inl qz))])) A) args s 0 0 A) (F0 m 0 ls []) by rw [hlocs, hH] at hW; exact hW
  clear hH hlocs
  refine lv_aload_n hx hb dX12_query_0 rfl (lv_at hl 0 rfl) ?_
  refine lv_iconst (v := nI 0) hx hb dX12_query_1 (by decide) ?_
  refine xput C hP hD hS 0 rfl rfl zuX12 tyX12 tyX12_ok nmX12 18 (by decide) zw5_231 rfl rfl rfl (Nat.le_of_ble_eq_true rfl) dX12_query_2 ?_
  clear hP hD hS
  try clear locs
  try clear H
  intro H locs hP hD hS
  replace hP : va_P D vwCl [(hm, .inr (12, [.ref ms, .ref mkp, .int (nI km), .ref mtr, .int (nI n), .int (nI k), .int (nI al), .int (nI be), .int ea, .int pr, .ref mas, .int nq, .int po, .int (nI en), .ref mso, .ref mon, .ref mot, .ref man, .int (nI 0), .int xd, .ref mst, .ref msm, .ref mtb, .ref mti, .ref mfr, .ref mbn, .ref mbs, .ref mde, .int sF, .int sN, .int sS, .int ig, .long xa, .long xb, .ref maa, .ref mab, .ref mba, .ref mbb])), (ms, .inl (cs 0, 288, .inl f)), (mkp, .inl (cs 0, 2304, .inl g)), (mas, .inl (cs 0, 8, .inl qq))] H := hP
  replace hD : va_D A [(hm, .inr (12, [.ref ms, .ref mkp, .int (nI km), .ref mtr, .int (nI n), .int (nI k), .int (nI al), .int (nI be), .int ea, .int pr, .ref mas, .int nq, .int po, .int (nI en), .ref mso, .ref mon, .ref mot, .ref man, .int (nI 0), .int xd, .ref mst, .ref msm, .ref mtb, .ref mti, .ref mfr, .ref mbn, .ref mbs, .ref mde, .int sF, .int sN, .int sS, .int ig, .long xa, .long xb, .ref maa, .ref mab, .ref mba, .ref mbb])), (ms, .inl (cs 0, 288, .inl f)), (mkp, .inl (cs 0, 2304, .inl g)), (mas, .inl (cs 0, 8, .inl qq))] := hD
  refine lv_aload_n hx hb dX12_query_5 rfl (lv_at hl 0 rfl) ?_
  refine lv_iload_n hx hb dX12_query_6 rfl (lv_at hl 1 rfl) ?_
  refine xi (wr := [(ms, .inl (cs 0, 288, .inl f)), (mkp, .inl (cs 0, 2304, .inl g)), (mas, .inl (cs 0, 8, .inl qq))]) (xV (As := [.int x]) (rest := []) C (c_X12_isNode l D cs hm ms mkp mtr mas mso mon mot man mst msm mtb mti mfr mbn mbs mde maa mab mba mbb n k al be km en ea pr nq po (nI 0) xd sF sN sS ig xa xb x hn) kX12_120 hP hD [0] rfl (by decide) 0 rfl rfl rfl ⟨Nat.le_of_ble_eq_true rfl, Nat.le_of_ble_eq_true rfl⟩ rfl hl.1 rfl (Nat.le_of_ble_eq_true rfl) dX12_query_7 ⟨Nat.le_of_ble_eq_true rfl, Nat.le_of_ble_eq_true rfl⟩) hP hD hS hA [0] [1, 2, 3] rfl rfl (by decide) (by decide) ?_
  clear hP hD hS
  try clear locs
  try clear H
  intro r_1 u_2 H locs hw_r_1 hP hD hS
  have hw_r_1 : PQ (okN n x) r_1 (nI 1) (nI 0) := hw_r_1
  refine W.widen (k := 0) (n := 0) (Nat.le_of_ble_eq_true rfl) (Nat.le_of_ble_eq_true rfl) ?_
  replace hP : va_P D vwCl [(ms, .inl (cs 0, 288, .inl f)), (mkp, .inl (cs 0, 2304, .inl g)), (mas, .inl (cs 0, 8, .inl qq)), (hm, .inr (12, [.ref ms, .ref mkp, .int (nI km), .ref mtr, .int (nI n), .int (nI k), .int (nI al), .int (nI be), .int ea, .int pr, .ref mas, .int nq, .int po, .int (nI en), .ref mso, .ref mon, .ref mot, .ref man, .int (nI 0), .int xd, .ref mst, .ref msm, .ref mtb, .ref mti, .ref mfr, .ref mbn, .ref mbs, .ref mde, .int sF, .int sN, .int sS, .int ig, .long xa, .long xb, .ref maa, .ref mab, .ref mba, .ref mbb]))] H := hP
  replace hD : va_D A [(ms, .inl (cs 0, 288, .inl f)), (mkp, .inl (cs 0, 2304, .inl g)), (mas, .inl (cs 0, 8, .inl qq)), (hm, .inr (12, [.ref ms, .ref mkp, .int (nI km), .ref mtr, .int (nI n), .int (nI k), .int (nI al), .int (nI be), .int ea, .int pr, .ref mas, .int nq, .int po, .int (nI en), .ref mso, .ref mon, .ref mot, .ref man, .int (nI 0), .int xd, .ref mst, .ref msm, .ref mtb, .ref mti, .ref mfr, .ref mbn, .ref mbs, .ref mde, .int sF, .int sN, .int sS, .int ig, .long xa, .long xb, .ref maa, .ref mab, .ref mba, .ref mbb]))] := hD
  refine lv_if_eq (tgt := 30) hx hb dX12_query_10 (by decide) (fun c_3 => ?_) (fun c_3 => ?_)
  · -- 10 t
    have hbad_jx : ¬ okN n x := PQ.no hw_r_1 c_3 (by decide)
    refine lv_iconst (v := (-1)) hx hb dX12_query_30 (by decide) ?_
    exact xreti C (⟨km, f, g, nq, qq⟩) (⟨⟨hs, hk, hkm⟩, Or.inr ⟨fun q => hbad_jx q.1, rfl, ⟨rfl, rfl, rfl⟩, rfl, rfl⟩⟩) (xP_map hP [3, 0, 1, 2] rfl) (hD.sub [3, 0, 1, 2] (by decide) rfl) hS (Nat.le_of_ble_eq_true rfl) (Nat.le_of_ble_eq_true rfl) rfl dX12_query_31
  · -- 10 f
    have hok_jx : okN n x := PQ.yes hw_r_1 c_3
    obtain ⟨jx, h_jx, rfl⟩ := okN_of hok_jx (by omega)
    replace hP : va_P D vwCl [(ms, .inl (cs 0, 288, .inl f)), (mkp, .inl (cs 0, 2304, .inl g)), (mas, .inl (cs 0, 8, .inl qq)), (hm, .inr (12, [.ref ms, .ref mkp, .int (nI km), .ref mtr, .int (nI n), .int (nI k), .int (nI al), .int (nI be), .int ea, .int pr, .ref mas, .int nq, .int po, .int (nI en), .ref mso, .ref mon, .ref mot, .ref man, .int (nI 0), .int xd, .ref mst, .ref msm, .ref mtb, .ref mti, .ref mfr, .ref mbn, .ref mbs, .ref mde, .int sF, .int sN, .int sS, .int ig, .long xa, .long xb, .ref maa, .ref mab, .ref mba, .ref mbb]))] H := hP
    replace hD : va_D A [(ms, .inl (cs 0, 288, .inl f)), (mkp, .inl (cs 0, 2304, .inl g)), (mas, .inl (cs 0, 8, .inl qq)), (hm, .inr (12, [.ref ms, .ref mkp, .int (nI km), .ref mtr, .int (nI n), .int (nI k), .int (nI al), .int (nI be), .int ea, .int pr, .ref mas, .int nq, .int po, .int (nI en), .ref mso, .ref mon, .ref mot, .ref man, .int (nI 0), .int xd, .ref mst, .ref msm, .ref mtb, .ref mti, .ref mfr, .ref mbn, .ref mbs, .ref mde, .int sF, .int sN, .int sS, .int ig, .long xa, .long xb, .ref maa, .ref mab, .ref mba, .ref mbb]))] := hD
    refine lv_aload_n hx hb dX12_query_13 rfl (lv_at hl 0 rfl) ?_
    refine lv_iload_n hx hb dX12_query_14 rfl (lv_at hl 1 rfl) ?_
    refine lv_iload_n hx hb dX12_query_15 rfl (lv_at hl 2 rfl) ?_
    refine xi (wr := [(ms, .inl (cs 0, 288, .inl f)), (mkp, .inl (cs 0, 2304, .inl g)), (mas, .inl (cs 0, 8, .inl qq))]) (xV (As := [.int (nI jx), .int y]) (rest := []) C (c_X12_isSample_f l D cs hm ms mkp mtr mas mso mon mot man mst msm mtb mti mfr mbn mbs mde maa mab mba mbb n k al be km en ea pr nq po (nI 0) xd sF sN sS ig xa xb jx y) kX12_139 hP hD [3] rfl (by decide) 0 rfl rfl rfl ⟨Nat.le_of_ble_eq_true rfl, Nat.le_of_ble_eq_true rfl⟩ rfl hl.1 rfl (Nat.le_of_ble_eq_true rfl) dX12_query_16 ⟨Nat.le_of_ble_eq_true rfl, Nat.le_of_ble_eq_true rfl⟩) hP hD hS hA [3] [0, 1, 2] rfl rfl (by decide) (by decide) ?_
    clear hP hD hS
    try clear locs
    try clear H
    intro r_4 u_5 H locs hw_r_4 hP hD hS
    have hw_r_4 : PQ (msmP n k jx y) r_4 (nI 1) (nI 0) := hw_r_4
    refine W.widen (k := 0) (n := 0) (Nat.le_of_ble_eq_true rfl) (Nat.le_of_ble_eq_true rfl) ?_
    replace hP : va_P D vwCl [(ms, .inl (cs 0, 288, .inl f)), (mkp, .inl (cs 0, 2304, .inl g)), (mas, .inl (cs 0, 8, .inl qq)), (hm, .inr (12, [.ref ms, .ref mkp, .int (nI km), .ref mtr, .int (nI n), .int (nI k), .int (nI al), .int (nI be), .int ea, .int pr, .ref mas, .int nq, .int po, .int (nI en), .ref mso, .ref mon, .ref mot, .ref man, .int (nI 0), .int xd, .ref mst, .ref msm, .ref mtb, .ref mti, .ref mfr, .ref mbn, .ref mbs, .ref mde, .int sF, .int sN, .int sS, .int ig, .long xa, .long xb, .ref maa, .ref mab, .ref mba, .ref mbb]))] H := hP
    replace hD : va_D A [(ms, .inl (cs 0, 288, .inl f)), (mkp, .inl (cs 0, 2304, .inl g)), (mas, .inl (cs 0, 8, .inl qq)), (hm, .inr (12, [.ref ms, .ref mkp, .int (nI km), .ref mtr, .int (nI n), .int (nI k), .int (nI al), .int (nI be), .int ea, .int pr, .ref mas, .int nq, .int po, .int (nI en), .ref mso, .ref mon, .ref mot, .ref man, .int (nI 0), .int xd, .ref mst, .ref msm, .ref mtb, .ref mti, .ref mfr, .ref mbn, .ref mbs, .ref mde, .int sF, .int sN, .int sS, .int ig, .long xa, .long xb, .ref maa, .ref mab, .ref mba, .ref mbb]))] := hD
    refine lv_if_eq (tgt := 30) hx hb dX12_query_19 (by decide) (fun c_6 => ?_) (fun c_6 => ?_)
    · -- 19 t
      refine lv_iconst (v := (-1)) hx hb dX12_query_30 (by decide) ?_
      exact xreti C (⟨km, f, g, nq, qq⟩) (⟨⟨hs, hk, hkm⟩, Or.inr ⟨fun q => PQ.no hw_r_4 c_6 (by decide) (q.2 jx h_jx rfl).1, rfl, ⟨rfl, rfl, rfl⟩, rfl, rfl⟩⟩) (xP_map hP [3, 0, 1, 2] rfl) (hD.sub [3, 0, 1, 2] (by decide) rfl) hS (Nat.le_of_ble_eq_true rfl) (Nat.le_of_ble_eq_true rfl) rfl dX12_query_31
    · -- 19 f
      refine lv_aload_n hx hb dX12_query_22 rfl (lv_at hl 0 rfl) ?_
      refine lv_iload_n hx hb dX12_query_23 rfl (lv_at hl 1 rfl) ?_
      refine xi (wr := [(mkp, .inl (cs 0, 2304, .inl g)), (mas, .inl (cs 0, 8, .inl qq))]) (xV (As := [.int (nI jx)]) (rest := []) C (c_X12_canAsk_f l D cs hm ms mkp mtr mas mso mon mot man mst msm mtb mti mfr mbn mbs mde maa mab mba mbb n k al be km en ea pr nq po (nI 0) xd sF sN sS ig xa xb f jx (by omega)) kX12_142 hP hD [3, 0] rfl (by decide) 0 rfl rfl rfl ⟨Nat.le_of_ble_eq_true rfl, Nat.le_of_ble_eq_true rfl⟩ rfl hl.1 rfl (Nat.le_of_ble_eq_true rfl) dX12_query_24 ⟨Nat.le_of_ble_eq_true rfl, Nat.le_of_ble_eq_true rfl⟩) hP hD hS hA [3, 0] [1, 2] rfl rfl (by decide) (by decide) ?_
      clear hP hD hS
      try clear locs
      try clear H
      intro r_7 u_8 H locs hw_r_7 hP hD hS
      have hw_r_7 : PQ (mcaP f jx) r_7 (nI 1) (nI 0) := hw_r_7
      refine W.widen (k := 0) (n := 0) (Nat.le_of_ble_eq_true rfl) (Nat.le_of_ble_eq_true rfl) ?_
      replace hP : va_P D vwCl [(mkp, .inl (cs 0, 2304, .inl g)), (mas, .inl (cs 0, 8, .inl qq)), (hm, .inr (12, [.ref ms, .ref mkp, .int (nI km), .ref mtr, .int (nI n), .int (nI k), .int (nI al), .int (nI be), .int ea, .int pr, .ref mas, .int nq, .int po, .int (nI en), .ref mso, .ref mon, .ref mot, .ref man, .int (nI 0), .int xd, .ref mst, .ref msm, .ref mtb, .ref mti, .ref mfr, .ref mbn, .ref mbs, .ref mde, .int sF, .int sN, .int sS, .int ig, .long xa, .long xb, .ref maa, .ref mab, .ref mba, .ref mbb])), (ms, .inl (cs 0, 288, .inl f))] H := hP
      replace hD : va_D A [(mkp, .inl (cs 0, 2304, .inl g)), (mas, .inl (cs 0, 8, .inl qq)), (hm, .inr (12, [.ref ms, .ref mkp, .int (nI km), .ref mtr, .int (nI n), .int (nI k), .int (nI al), .int (nI be), .int ea, .int pr, .ref mas, .int nq, .int po, .int (nI en), .ref mso, .ref mon, .ref mot, .ref man, .int (nI 0), .int xd, .ref mst, .ref msm, .ref mtb, .ref mti, .ref mfr, .ref mbn, .ref mbs, .ref mde, .int sF, .int sN, .int sS, .int ig, .long xa, .long xb, .ref maa, .ref mab, .ref mba, .ref mbb])), (ms, .inl (cs 0, 288, .inl f))] := hD
      refine lv_if_ne (tgt := 32) hx hb dX12_query_27 (by decide) (fun c_9 => ?_) (fun c_9 => ?_)
      · -- 27 t
        have hmc := PQ.yes hw_r_7 c_9
        have hna := hmc.2.2
        have hcu := can_u (hrow jx (by omega)).1 (hrow jx (by omega)).2 hbe.2 hmc
        refine lv_aload_n hx hb dX12_query_32 rfl (lv_at hl 0 rfl) ?_
        refine xv (wr := [(mas, .inl (cs 0, 8, .inl qq))]) (xV (As := []) (rest := []) C (c_X12_keeps_f l D cs hm ms mkp mtr mas mso mon mot man mst msm mtb mti mfr mbn mbs mde maa mab mba mbb n k al be km en ea pr nq po (nI 0) xd sF sN sS ig xa xb f g hs hk hkm) kX12_124 hP hD [2, 3, 0] rfl (by decide) 0 rfl rfl rfl ⟨Nat.le_of_ble_eq_true rfl, Nat.le_of_ble_eq_true rfl⟩ rfl hl.1 rfl (Nat.le_of_ble_eq_true rfl) dX12_query_33 ⟨Nat.le_of_ble_eq_true rfl, Nat.le_of_ble_eq_true rfl⟩) hP hD hS hA [2, 3, 0] [1] rfl rfl (by decide) (by decide) ?_
        clear hP hD hS
        try clear locs
        try clear H
        intro u_11 H locs hw_r_10 hP hD hS
        obtain ⟨kmz_12, gz_13⟩ := u_11
        have hw_r_10 : (keptP gz_13 ∧ kmz_12 ≤ 8) ∧ kpdP km f g kmz_12 gz_13 := hw_r_10
        refine W.widen (k := 0) (n := 0) (Nat.le_of_ble_eq_true rfl) (Nat.le_of_ble_eq_true rfl) ?_
        replace hP : va_P D vwCl [(mas, .inl (cs 0, 8, .inl qq)), (hm, .inr (12, [.ref ms, .ref mkp, .int (nI kmz_12), .ref mtr, .int (nI n), .int (nI k), .int (nI al), .int (nI be), .int ea, .int pr, .ref mas, .int nq, .int po, .int (nI en), .ref mso, .ref mon, .ref mot, .ref man, .int (nI 0), .int xd, .ref mst, .ref msm, .ref mtb, .ref mti, .ref mfr, .ref mbn, .ref mbs, .ref mde, .int sF, .int sN, .int sS, .int ig, .long xa, .long xb, .ref maa, .ref mab, .ref mba, .ref mbb])), (ms, .inl (cs 0, 288, .inl f)), (mkp, .inl (cs 0, 2304, .inl gz_13))] H := hP
        replace hD : va_D A [(mas, .inl (cs 0, 8, .inl qq)), (hm, .inr (12, [.ref ms, .ref mkp, .int (nI kmz_12), .ref mtr, .int (nI n), .int (nI k), .int (nI al), .int (nI be), .int ea, .int pr, .ref mas, .int nq, .int po, .int (nI en), .ref mso, .ref mon, .ref mot, .ref man, .int (nI 0), .int xd, .ref mst, .ref msm, .ref mtb, .ref mti, .ref mfr, .ref mbn, .ref mbs, .ref mde, .int sF, .int sN, .int sS, .int ig, .long xa, .long xb, .ref maa, .ref mab, .ref mba, .ref mbb])), (ms, .inl (cs 0, 288, .inl f)), (mkp, .inl (cs 0, 2304, .inl gz_13))] := hD
        refine lv_aload_n hx hb dX12_query_36 rfl (lv_at hl 0 rfl) ?_
        refine xget C hP 1 rfl rfl zuX12 10 (by decide) zw5_223 rfl dX12_query_37 ?_
        refine lv_iload_n hx hb dX12_query_40 rfl (lv_at hl 1 rfl) ?_
        refine lv_dup2_11 hx hb dX12_query_41 rfl rfl ?_
        refine xiald C hP 0 rfl jx rfl (by omega) (by decide) dX12_query_42 ?_
        refine lv_iconst (v := nI 1) hx hb dX12_query_43 (by decide) ?_
        refine lv_iadd hx hb dX12_query_44 ?_
        refine xiast C hP hD hS 0 rfl jx rfl (by omega) (by decide) dX12_query_45 ?_
        clear hP hD hS
        try clear locs
        try clear H
        intro H locs hP hD hS
        replace hP : va_P D vwCl [(mas, .inl (cs 0, 8, .inl (upd qq jx ((qq jx) + (nI 1))))), (hm, .inr (12, [.ref ms, .ref mkp, .int (nI kmz_12), .ref mtr, .int (nI n), .int (nI k), .int (nI al), .int (nI be), .int ea, .int pr, .ref mas, .int nq, .int po, .int (nI en), .ref mso, .ref mon, .ref mot, .ref man, .int (nI 0), .int xd, .ref mst, .ref msm, .ref mtb, .ref mti, .ref mfr, .ref mbn, .ref mbs, .ref mde, .int sF, .int sN, .int sS, .int ig, .long xa, .long xb, .ref maa, .ref mab, .ref mba, .ref mbb])), (ms, .inl (cs 0, 288, .inl f)), (mkp, .inl (cs 0, 2304, .inl gz_13))] H := hP
        replace hD : va_D A [(mas, .inl (cs 0, 8, .inl (upd qq jx ((qq jx) + (nI 1))))), (hm, .inr (12, [.ref ms, .ref mkp, .int (nI kmz_12), .ref mtr, .int (nI n), .int (nI k), .int (nI al), .int (nI be), .int ea, .int pr, .ref mas, .int nq, .int po, .int (nI en), .ref mso, .ref mon, .ref mot, .ref man, .int (nI 0), .int xd, .ref mst, .ref msm, .ref mtb, .ref mti, .ref mfr, .ref mbn, .ref mbs, .ref mde, .int sF, .int sN, .int sS, .int ig, .long xa, .long xb, .ref maa, .ref mab, .ref mba, .ref mbb])), (ms, .inl (cs 0, 288, .inl f)), (mkp, .inl (cs 0, 2304, .inl gz_13))] := hD
        refine lv_aload_n hx hb dX12_query_46 rfl (lv_at hl 0 rfl) ?_
        refine lv_dup hx hb dX12_query_47 rfl ?_
        refine xget C hP 1 rfl rfl zuX12 11 (by decide) zw5_224 rfl dX12_query_48 ?_
        refine lv_iconst (v := nI 1) hx hb dX12_query_51 (by decide) ?_
        refine lv_iadd hx hb dX12_query_52 ?_
        refine xput C hP hD hS 1 rfl rfl zuX12 tyX12 tyX12_ok nmX12 11 (by decide) zw5_224 rfl rfl rfl (Nat.le_of_ble_eq_true rfl) dX12_query_53 ?_
        clear hP hD hS
        try clear locs
        try clear H
        intro H locs hP hD hS
        replace hP : va_P D vwCl [(mas, .inl (cs 0, 8, .inl (upd qq jx ((qq jx) + (nI 1))))), (hm, .inr (12, [.ref ms, .ref mkp, .int (nI kmz_12), .ref mtr, .int (nI n), .int (nI k), .int (nI al), .int (nI be), .int ea, .int pr, .ref mas, .int (nq + (nI 1)), .int po, .int (nI en), .ref mso, .ref mon, .ref mot, .ref man, .int (nI 0), .int xd, .ref mst, .ref msm, .ref mtb, .ref mti, .ref mfr, .ref mbn, .ref mbs, .ref mde, .int sF, .int sN, .int sS, .int ig, .long xa, .long xb, .ref maa, .ref mab, .ref mba, .ref mbb])), (ms, .inl (cs 0, 288, .inl f)), (mkp, .inl (cs 0, 2304, .inl gz_13))] H := hP
        replace hD : va_D A [(mas, .inl (cs 0, 8, .inl (upd qq jx ((qq jx) + (nI 1))))), (hm, .inr (12, [.ref ms, .ref mkp, .int (nI kmz_12), .ref mtr, .int (nI n), .int (nI k), .int (nI al), .int (nI be), .int ea, .int pr, .ref mas, .int (nq + (nI 1)), .int po, .int (nI en), .ref mso, .ref mon, .ref mot, .ref man, .int (nI 0), .int xd, .ref mst, .ref msm, .ref mtb, .ref mti, .ref mfr, .ref mbn, .ref mbs, .ref mde, .int sF, .int sN, .int sS, .int ig, .long xa, .long xb, .ref maa, .ref mab, .ref mba, .ref mbb])), (ms, .inl (cs 0, 288, .inl f)), (mkp, .inl (cs 0, 2304, .inl gz_13))] := hD
        refine lv_aload_n hx hb dX12_query_56 rfl (lv_at hl 0 rfl) ?_
        refine lv_iload_n hx hb dX12_query_57 rfl (lv_at hl 1 rfl) ?_
        refine lv_iload_n hx hb dX12_query_58 rfl (lv_at hl 2 rfl) ?_
        refine xi (wr := [(mas, .inl (cs 0, 8, .inl (upd qq jx ((qq jx) + (nI 1))))), (mkp, .inl (cs 0, 2304, .inl gz_13))]) (xV (As := [.int (nI jx), .int y]) (rest := []) C (c_X12_asks_f l D cs hm ms mkp mtr mas mso mon mot man mst msm mtb mti mfr mbn mbs mde maa mab mba mbb n k al be kmz_12 en ea pr (nq + (nI 1)) po (nI 0) xd sF sN sS ig xa xb f jx y (uu jx) hn (by omega) hs hna hal hbe hpr ((hrow jx (by omega)).1) ((hrow jx (by omega)).2) hcu.1 hcu.2.1 hcu.2.2) kX12_145 hP hD [1, 2] rfl (by decide) 0 rfl rfl rfl ⟨Nat.le_of_ble_eq_true rfl, Nat.le_of_ble_eq_true rfl⟩ rfl hl.1 rfl (Nat.le_of_ble_eq_true rfl) dX12_query_59 ⟨Nat.le_of_ble_eq_true rfl, Nat.le_of_ble_eq_true rfl⟩) hP hD hS hA [1, 2] [0, 3] rfl rfl (by decide) (by decide) ?_
        clear hP hD hS
        try clear locs
        try clear H
        intro r_14 u_15 H locs hw_r_14 hP hD hS
        have hw_r_14 : ∃ (g : Nat → Int32) (z o : Nat), askI f y jx n g z o ∧ (∀ j, 8 ≤ j → g j = f j) ∧ rowU u_15 jx (uSet pr be (winU al z o) (uu jx)) ∧ r_14 = nI (ansU (uu jx) (uSet pr be (winU al z o) (uu jx))) ∧ (∀ j, ¬ j = 0 + jx → ¬ j = 8 + jx → ¬ j = 16 + jx → ¬ j = 24 + jx → ¬ j = 32 + jx → ¬ j = 40 + jx → u_15 j = g j) ∧ colP u_15 := hw_r_14
        refine W.widen (k := 0) (n := 0) (Nat.le_of_ble_eq_true rfl) (Nat.le_of_ble_eq_true rfl) ?_
        replace hP : va_P D vwCl [(mas, .inl (cs 0, 8, .inl (upd qq jx ((qq jx) + (nI 1))))), (mkp, .inl (cs 0, 2304, .inl gz_13)), (hm, .inr (12, [.ref ms, .ref mkp, .int (nI kmz_12), .ref mtr, .int (nI n), .int (nI k), .int (nI al), .int (nI be), .int ea, .int pr, .ref mas, .int (nq + (nI 1)), .int po, .int (nI en), .ref mso, .ref mon, .ref mot, .ref man, .int (nI 0), .int xd, .ref mst, .ref msm, .ref mtb, .ref mti, .ref mfr, .ref mbn, .ref mbs, .ref mde, .int sF, .int sN, .int sS, .int ig, .long xa, .long xb, .ref maa, .ref mab, .ref mba, .ref mbb])), (ms, .inl (cs 0, 288, .inl u_15))] H := hP
        replace hD : va_D A [(mas, .inl (cs 0, 8, .inl (upd qq jx ((qq jx) + (nI 1))))), (mkp, .inl (cs 0, 2304, .inl gz_13)), (hm, .inr (12, [.ref ms, .ref mkp, .int (nI kmz_12), .ref mtr, .int (nI n), .int (nI k), .int (nI al), .int (nI be), .int ea, .int pr, .ref mas, .int (nq + (nI 1)), .int po, .int (nI en), .ref mso, .ref mon, .ref mot, .ref man, .int (nI 0), .int xd, .ref mst, .ref msm, .ref mtb, .ref mti, .ref mfr, .ref mbn, .ref mbs, .ref mde, .int sF, .int sN, .int sS, .int ig, .long xa, .long xb, .ref maa, .ref mab, .ref mba, .ref mbb])), (ms, .inl (cs 0, 288, .inl u_15))] := hD
        exact xreti C (⟨kmz_12, u_15, gz_13, (nq + (nI 1)), (upd qq jx ((qq jx) + (nI 1)))⟩) (⟨⟨askedP.col hw_r_14, hw_r_10.1⟩, Or.inl ⟨jx, h_jx, rfl, PQ.yes hw_r_4 c_6, hmc, hw_r_14, hw_r_10.2, rfl, rfl⟩⟩) (xP_map hP [2, 3, 1, 0] rfl) (hD.sub [2, 3, 1, 0] (by decide) rfl) hS (Nat.le_of_ble_eq_true rfl) (Nat.le_of_ble_eq_true rfl) rfl dX12_query_62
      · -- 27 f
        refine lv_iconst (v := (-1)) hx hb dX12_query_30 (by decide) ?_
        exact xreti C (⟨km, f, g, nq, qq⟩) (⟨⟨hs, hk, hkm⟩, Or.inr ⟨fun q => PQ.no hw_r_7 c_9 (by decide) (q.2 jx h_jx rfl).2, rfl, ⟨rfl, rfl, rfl⟩, rfl, rfl⟩⟩) (xP_map hP [2, 3, 0, 1] rfl) (hD.sub [2, 3, 0, 1] (by decide) rfl) hS (Nat.le_of_ble_eq_true rfl) (Nat.le_of_ble_eq_true rfl) rfl dX12_query_31

set_option maxHeartbeats 4000000 in
set_option maxRecDepth 100000 in
theorem c_X12_would_f (l : Launch) (D : va_G) (cs : Nat → ClassId) (hm ms mkp mtr mas mso mon mot man mst msm mtb mti mfr mbn mbs mde maa mab mba mbb : Nat) (n k al be km en : Nat) (ea pr nq po th xd sF sN sS ig : Int32) (xa xb : Int64) (f : Nat → Int32) (tf : Nat → Int32) (x y : Int32) (uu : Nat → Nat → Nat) (hn : 2 ≤ n ∧ n ≤ 8) (hs : colP f) (hal : al ≤ 8) (hbe : 1 ≤ be ∧ be ≤ 15) (hpr : pr = 0 ∨ pr = nI 1 ∨ pr = nI 2) (hrow : ∀ j, j < 8 → rowU f j (uu j) ∧ okU be (uu j)) : xMet l D cs yX12_would cX12_would 4 (some .int) ({ frames := 3, cells := 0, slots := 0, locals := 71 } : Room) [.ref hm, .int x, .int y] [(hm, .inr (12, [.ref ms, .ref mkp, .int (nI km), .ref mtr, .int (nI n), .int (nI k), .int (nI al), .int (nI be), .int ea, .int pr, .ref mas, .int nq, .int po, .int (nI en), .ref mso, .ref mon, .ref mot, .ref man, .int th, .int xd, .ref mst, .ref msm, .ref mtb, .ref mti, .ref mfr, .ref mbn, .ref mbs, .ref mde, .int sF, .int sN, .int sS, .int ig, .long xa, .long xb, .ref maa, .ref mab, .ref mba, .ref mbb])), (ms, .inl (cs 0, 288, .inl f)), (mtr, .inl (cs 0, 288, .inl tf))] (xQi D (fun (r : Int32) (u : (Nat → Int32) × (Nat → Int32)) => match u with | (fz, tz) => (colP fz ∧ ∀ j, j < 288 → fz j = f j) ∧ ((∃ a, a < n ∧ x = nI a ∧ msmP n k a y ∧ mcaP f a ∧ ∃ fy, askedP n al be pr f y a (uu a) r fy) ∨ (¬ (okN n x ∧ ∀ a, a < n → x = nI a → msmP n k a y ∧ mcaP f a) ∧ r = -1 ∧ fz = f))) (fun (u : (Nat → Int32) × (Nat → Int32)) => match u with | (fz, tz) => [(hm, .inr (12, [.ref ms, .ref mkp, .int (nI km), .ref mtr, .int (nI n), .int (nI k), .int (nI al), .int (nI be), .int ea, .int pr, .ref mas, .int nq, .int po, .int (nI en), .ref mso, .ref mon, .ref mot, .ref man, .int (nI 0), .int xd, .ref mst, .ref msm, .ref mtb, .ref mti, .ref mfr, .ref mbn, .ref mbs, .ref mde, .int sF, .int sN, .int sS, .int ig, .long xa, .long xb, .ref maa, .ref mab, .ref mba, .ref mbb])), (ms, .inl (cs 0, 288, .inl fz)), (mtr, .inl (cs 0, 288, .inl tz))])) := by
  refine xMet.intro (by decide) (Nat.le_of_ble_eq_true rfl) ?_
  intro p e s m args below meth c A ls C hP hD hS hl
  have hx := C.1
  have hb := C.2.1
  have hz := C.2.2.2.2.1
  have hown := C.2.2.2.1
  have hA := C.2.2.2.2.2.2.2.2.2
  have hAO := C.2.2.2.2.2.2.2.2.1.2.2
  replace hl : lv_has ls 4 [(0, .ref hm), (1, .int x), (2, .int y)] := hl
  obtain ⟨H, hH⟩ : ∃ H, H = s.heap := ⟨_, rfl⟩
  replace hP : va_P D vwCl [(hm, .inr (12, [.ref ms, .ref mkp, .int (nI km), .ref mtr, .int (nI n), .int (nI k), .int (nI al), .int (nI be), .int ea, .int pr, .ref mas, .int nq, .int po, .int (nI en), .ref mso, .ref mon, .ref mot, .ref man, .int th, .int xd, .ref mst, .ref msm, .ref mtb, .ref mti, .ref mfr, .ref mbn, .ref mbs, .ref mde, .int sF, .int sN, .int sS, .int ig, .long xa, .long xb, .ref maa, .ref mab, .ref mba, .ref mbb])), (ms, .inl (cs 0, 288, .inl f)), (mtr, .inl (cs 0, 288, .inl tf))] H := by rw [hH]; exact hP
  replace hS : va_S A s.heap H [] := by rw [hH]; exact hS
  obtain ⟨locs, hlocs⟩ : ∃ z : List Loc, z = [] := ⟨_, rfl⟩
  rw [← hlocs] at hS
  suffices hW : W p l e ({ frames := 3, cells := 0, slots := 0, locals := 71 } : Room) s m args below meth c H locs 0 0 (MQ below ((xQi D (fun (r : Int32) (u : (Nat → Int32) × (Nat → Int32)) => match u with | (fz, tz) => (colP fz ∧ ∀ j, j < 288 → fz j = f j) ∧ ((∃ a, a < n ∧ x = nI a ∧ msmP n k a y ∧ mcaP f a ∧ ∃ fy, askedP n al be pr f y a (uu a) r fy) ∨ (¬ (okN n x ∧ ∀ a, a < n → x = nI a → msmP n k a y ∧ mcaP f a) ∧ r = -1 ∧ fz = f))) (fun (u : (Nat → Int32) × (Nat → Int32)) => match u with | (fz, tz) => [(hm, .inr (12, [.ref ms, .ref mkp, .int (nI km), .ref mtr, .int (nI n), .int (nI k), .int (nI al), .int (nI be), .int ea, .int pr, .ref mas, .int nq, .int po, .int (nI en), .ref mso, .ref mon, .ref mot, .ref man, .int (nI 0), .int xd, .ref mst, .ref msm, .ref mtb, .ref mti, .ref mfr, .ref mbn, .ref mbs, .ref mde, .int sF, .int sN, .int sS, .int ig, .long xa, .long xb, .ref maa, .ref mab, .ref mba, .ref mbb])), (ms, .inl (cs 0, 288, .inl fz)), (mtr, .inl (cs 0, 288, .inl tz))])) A) args s 0 0 A) (F0 m 0 ls []) by rw [hlocs, hH] at hW; exact hW
  clear hH hlocs
  refine lv_aload_n hx hb dX12_would_0 rfl (lv_at hl 0 rfl) ?_
  refine lv_iconst (v := nI 0) hx hb dX12_would_1 (by decide) ?_
  refine xput C hP hD hS 0 rfl rfl zuX12 tyX12 tyX12_ok nmX12 18 (by decide) zw5_231 rfl rfl rfl (Nat.le_of_ble_eq_true rfl) dX12_would_2 ?_
  clear hP hD hS
  try clear locs
  try clear H
  intro H locs hP hD hS
  replace hP : va_P D vwCl [(hm, .inr (12, [.ref ms, .ref mkp, .int (nI km), .ref mtr, .int (nI n), .int (nI k), .int (nI al), .int (nI be), .int ea, .int pr, .ref mas, .int nq, .int po, .int (nI en), .ref mso, .ref mon, .ref mot, .ref man, .int (nI 0), .int xd, .ref mst, .ref msm, .ref mtb, .ref mti, .ref mfr, .ref mbn, .ref mbs, .ref mde, .int sF, .int sN, .int sS, .int ig, .long xa, .long xb, .ref maa, .ref mab, .ref mba, .ref mbb])), (ms, .inl (cs 0, 288, .inl f)), (mtr, .inl (cs 0, 288, .inl tf))] H := hP
  replace hD : va_D A [(hm, .inr (12, [.ref ms, .ref mkp, .int (nI km), .ref mtr, .int (nI n), .int (nI k), .int (nI al), .int (nI be), .int ea, .int pr, .ref mas, .int nq, .int po, .int (nI en), .ref mso, .ref mon, .ref mot, .ref man, .int (nI 0), .int xd, .ref mst, .ref msm, .ref mtb, .ref mti, .ref mfr, .ref mbn, .ref mbs, .ref mde, .int sF, .int sN, .int sS, .int ig, .long xa, .long xb, .ref maa, .ref mab, .ref mba, .ref mbb])), (ms, .inl (cs 0, 288, .inl f)), (mtr, .inl (cs 0, 288, .inl tf))] := hD
  refine lv_aload_n hx hb dX12_would_5 rfl (lv_at hl 0 rfl) ?_
  refine lv_iload_n hx hb dX12_would_6 rfl (lv_at hl 1 rfl) ?_
  refine xi (wr := [(ms, .inl (cs 0, 288, .inl f)), (mtr, .inl (cs 0, 288, .inl tf))]) (xV (As := [.int x]) (rest := []) C (c_X12_isNode l D cs hm ms mkp mtr mas mso mon mot man mst msm mtb mti mfr mbn mbs mde maa mab mba mbb n k al be km en ea pr nq po (nI 0) xd sF sN sS ig xa xb x hn) kX12_120 hP hD [0] rfl (by decide) 0 rfl rfl rfl ⟨Nat.le_of_ble_eq_true rfl, Nat.le_of_ble_eq_true rfl⟩ rfl hl.1 rfl (Nat.le_of_ble_eq_true rfl) dX12_would_7 ⟨Nat.le_of_ble_eq_true rfl, Nat.le_of_ble_eq_true rfl⟩) hP hD hS hA [0] [1, 2] rfl rfl (by decide) (by decide) ?_
  clear hP hD hS
  try clear locs
  try clear H
  intro r_1 u_2 H locs hw_r_1 hP hD hS
  have hw_r_1 : PQ (okN n x) r_1 (nI 1) (nI 0) := hw_r_1
  refine W.widen (k := 0) (n := 0) (Nat.le_of_ble_eq_true rfl) (Nat.le_of_ble_eq_true rfl) ?_
  replace hP : va_P D vwCl [(ms, .inl (cs 0, 288, .inl f)), (mtr, .inl (cs 0, 288, .inl tf)), (hm, .inr (12, [.ref ms, .ref mkp, .int (nI km), .ref mtr, .int (nI n), .int (nI k), .int (nI al), .int (nI be), .int ea, .int pr, .ref mas, .int nq, .int po, .int (nI en), .ref mso, .ref mon, .ref mot, .ref man, .int (nI 0), .int xd, .ref mst, .ref msm, .ref mtb, .ref mti, .ref mfr, .ref mbn, .ref mbs, .ref mde, .int sF, .int sN, .int sS, .int ig, .long xa, .long xb, .ref maa, .ref mab, .ref mba, .ref mbb]))] H := hP
  replace hD : va_D A [(ms, .inl (cs 0, 288, .inl f)), (mtr, .inl (cs 0, 288, .inl tf)), (hm, .inr (12, [.ref ms, .ref mkp, .int (nI km), .ref mtr, .int (nI n), .int (nI k), .int (nI al), .int (nI be), .int ea, .int pr, .ref mas, .int nq, .int po, .int (nI en), .ref mso, .ref mon, .ref mot, .ref man, .int (nI 0), .int xd, .ref mst, .ref msm, .ref mtb, .ref mti, .ref mfr, .ref mbn, .ref mbs, .ref mde, .int sF, .int sN, .int sS, .int ig, .long xa, .long xb, .ref maa, .ref mab, .ref mba, .ref mbb]))] := hD
  refine lv_if_eq (tgt := 30) hx hb dX12_would_10 (by decide) (fun c_3 => ?_) (fun c_3 => ?_)
  · -- 10 t
    have hbad_jx : ¬ okN n x := PQ.no hw_r_1 c_3 (by decide)
    refine lv_iconst (v := (-1)) hx hb dX12_would_30 (by decide) ?_
    exact xreti C (⟨f, tf⟩) (⟨⟨hs, fun _ _ => rfl⟩, Or.inr ⟨fun q => hbad_jx q.1, rfl, rfl⟩⟩) (xP_map hP [2, 0, 1] rfl) (hD.sub [2, 0, 1] (by decide) rfl) hS (Nat.le_of_ble_eq_true rfl) (Nat.le_of_ble_eq_true rfl) rfl dX12_would_31
  · -- 10 f
    have hok_jx : okN n x := PQ.yes hw_r_1 c_3
    obtain ⟨jx, h_jx, rfl⟩ := okN_of hok_jx (by omega)
    replace hP : va_P D vwCl [(ms, .inl (cs 0, 288, .inl f)), (mtr, .inl (cs 0, 288, .inl tf)), (hm, .inr (12, [.ref ms, .ref mkp, .int (nI km), .ref mtr, .int (nI n), .int (nI k), .int (nI al), .int (nI be), .int ea, .int pr, .ref mas, .int nq, .int po, .int (nI en), .ref mso, .ref mon, .ref mot, .ref man, .int (nI 0), .int xd, .ref mst, .ref msm, .ref mtb, .ref mti, .ref mfr, .ref mbn, .ref mbs, .ref mde, .int sF, .int sN, .int sS, .int ig, .long xa, .long xb, .ref maa, .ref mab, .ref mba, .ref mbb]))] H := hP
    replace hD : va_D A [(ms, .inl (cs 0, 288, .inl f)), (mtr, .inl (cs 0, 288, .inl tf)), (hm, .inr (12, [.ref ms, .ref mkp, .int (nI km), .ref mtr, .int (nI n), .int (nI k), .int (nI al), .int (nI be), .int ea, .int pr, .ref mas, .int nq, .int po, .int (nI en), .ref mso, .ref mon, .ref mot, .ref man, .int (nI 0), .int xd, .ref mst, .ref msm, .ref mtb, .ref mti, .ref mfr, .ref mbn, .ref mbs, .ref mde, .int sF, .int sN, .int sS, .int ig, .long xa, .long xb, .ref maa, .ref mab, .ref mba, .ref mbb]))] := hD
    refine lv_aload_n hx hb dX12_would_13 rfl (lv_at hl 0 rfl) ?_
    refine lv_iload_n hx hb dX12_would_14 rfl (lv_at hl 1 rfl) ?_
    refine lv_iload_n hx hb dX12_would_15 rfl (lv_at hl 2 rfl) ?_
    refine xi (wr := [(ms, .inl (cs 0, 288, .inl f)), (mtr, .inl (cs 0, 288, .inl tf))]) (xV (As := [.int (nI jx), .int y]) (rest := []) C (c_X12_isSample_f l D cs hm ms mkp mtr mas mso mon mot man mst msm mtb mti mfr mbn mbs mde maa mab mba mbb n k al be km en ea pr nq po (nI 0) xd sF sN sS ig xa xb jx y) kX12_139 hP hD [2] rfl (by decide) 0 rfl rfl rfl ⟨Nat.le_of_ble_eq_true rfl, Nat.le_of_ble_eq_true rfl⟩ rfl hl.1 rfl (Nat.le_of_ble_eq_true rfl) dX12_would_16 ⟨Nat.le_of_ble_eq_true rfl, Nat.le_of_ble_eq_true rfl⟩) hP hD hS hA [2] [0, 1] rfl rfl (by decide) (by decide) ?_
    clear hP hD hS
    try clear locs
    try clear H
    intro r_4 u_5 H locs hw_r_4 hP hD hS
    have hw_r_4 : PQ (msmP n k jx y) r_4 (nI 1) (nI 0) := hw_r_4
    refine W.widen (k := 0) (n := 0) (Nat.le_of_ble_eq_true rfl) (Nat.le_of_ble_eq_true rfl) ?_
    replace hP : va_P D vwCl [(ms, .inl (cs 0, 288, .inl f)), (mtr, .inl (cs 0, 288, .inl tf)), (hm, .inr (12, [.ref ms, .ref mkp, .int (nI km), .ref mtr, .int (nI n), .int (nI k), .int (nI al), .int (nI be), .int ea, .int pr, .ref mas, .int nq, .int po, .int (nI en), .ref mso, .ref mon, .ref mot, .ref man, .int (nI 0), .int xd, .ref mst, .ref msm, .ref mtb, .ref mti, .ref mfr, .ref mbn, .ref mbs, .ref mde, .int sF, .int sN, .int sS, .int ig, .long xa, .long xb, .ref maa, .ref mab, .ref mba, .ref mbb]))] H := hP
    replace hD : va_D A [(ms, .inl (cs 0, 288, .inl f)), (mtr, .inl (cs 0, 288, .inl tf)), (hm, .inr (12, [.ref ms, .ref mkp, .int (nI km), .ref mtr, .int (nI n), .int (nI k), .int (nI al), .int (nI be), .int ea, .int pr, .ref mas, .int nq, .int po, .int (nI en), .ref mso, .ref mon, .ref mot, .ref man, .int (nI 0), .int xd, .ref mst, .ref msm, .ref mtb, .ref mti, .ref mfr, .ref mbn, .ref mbs, .ref mde, .int sF, .int sN, .int sS, .int ig, .long xa, .long xb, .ref maa, .ref mab, .ref mba, .ref mbb]))] := hD
    refine lv_if_eq (tgt := 30) hx hb dX12_would_19 (by decide) (fun c_6 => ?_) (fun c_6 => ?_)
    · -- 19 t
      refine lv_iconst (v := (-1)) hx hb dX12_would_30 (by decide) ?_
      exact xreti C (⟨f, tf⟩) (⟨⟨hs, fun _ _ => rfl⟩, Or.inr ⟨fun q => PQ.no hw_r_4 c_6 (by decide) (q.2 jx h_jx rfl).1, rfl, rfl⟩⟩) (xP_map hP [2, 0, 1] rfl) (hD.sub [2, 0, 1] (by decide) rfl) hS (Nat.le_of_ble_eq_true rfl) (Nat.le_of_ble_eq_true rfl) rfl dX12_would_31
    · -- 19 f
      refine lv_aload_n hx hb dX12_would_22 rfl (lv_at hl 0 rfl) ?_
      refine lv_iload_n hx hb dX12_would_23 rfl (lv_at hl 1 rfl) ?_
      refine xi (wr := [(mtr, .inl (cs 0, 288, .inl tf))]) (xV (As := [.int (nI jx)]) (rest := []) C (c_X12_canAsk_f l D cs hm ms mkp mtr mas mso mon mot man mst msm mtb mti mfr mbn mbs mde maa mab mba mbb n k al be km en ea pr nq po (nI 0) xd sF sN sS ig xa xb f jx (by omega)) kX12_142 hP hD [2, 0] rfl (by decide) 0 rfl rfl rfl ⟨Nat.le_of_ble_eq_true rfl, Nat.le_of_ble_eq_true rfl⟩ rfl hl.1 rfl (Nat.le_of_ble_eq_true rfl) dX12_would_24 ⟨Nat.le_of_ble_eq_true rfl, Nat.le_of_ble_eq_true rfl⟩) hP hD hS hA [2, 0] [1] rfl rfl (by decide) (by decide) ?_
      clear hP hD hS
      try clear locs
      try clear H
      intro r_7 u_8 H locs hw_r_7 hP hD hS
      have hw_r_7 : PQ (mcaP f jx) r_7 (nI 1) (nI 0) := hw_r_7
      refine W.widen (k := 0) (n := 0) (Nat.le_of_ble_eq_true rfl) (Nat.le_of_ble_eq_true rfl) ?_
      replace hP : va_P D vwCl [(mtr, .inl (cs 0, 288, .inl tf)), (hm, .inr (12, [.ref ms, .ref mkp, .int (nI km), .ref mtr, .int (nI n), .int (nI k), .int (nI al), .int (nI be), .int ea, .int pr, .ref mas, .int nq, .int po, .int (nI en), .ref mso, .ref mon, .ref mot, .ref man, .int (nI 0), .int xd, .ref mst, .ref msm, .ref mtb, .ref mti, .ref mfr, .ref mbn, .ref mbs, .ref mde, .int sF, .int sN, .int sS, .int ig, .long xa, .long xb, .ref maa, .ref mab, .ref mba, .ref mbb])), (ms, .inl (cs 0, 288, .inl f))] H := hP
      replace hD : va_D A [(mtr, .inl (cs 0, 288, .inl tf)), (hm, .inr (12, [.ref ms, .ref mkp, .int (nI km), .ref mtr, .int (nI n), .int (nI k), .int (nI al), .int (nI be), .int ea, .int pr, .ref mas, .int nq, .int po, .int (nI en), .ref mso, .ref mon, .ref mot, .ref man, .int (nI 0), .int xd, .ref mst, .ref msm, .ref mtb, .ref mti, .ref mfr, .ref mbn, .ref mbs, .ref mde, .int sF, .int sN, .int sS, .int ig, .long xa, .long xb, .ref maa, .ref mab, .ref mba, .ref mbb])), (ms, .inl (cs 0, 288, .inl f))] := hD
      refine lv_if_ne (tgt := 32) hx hb dX12_would_27 (by decide) (fun c_9 => ?_) (fun c_9 => ?_)
      · -- 27 t
        have hmc := PQ.yes hw_r_7 c_9
        have hna := hmc.2.2
        have hcu := can_u (hrow jx (by omega)).1 (hrow jx (by omega)).2 hbe.2 hmc
        refine lv_aload_n hx hb dX12_would_32 rfl (lv_at hl 0 rfl) ?_
        refine lv_aload_n hx hb dX12_would_33 rfl (lv_at hl 0 rfl) ?_
        refine xget C hP 1 rfl rfl zuX12 0 (by decide) zw5_213 rfl dX12_would_34 ?_
        refine lv_aload_n hx hb dX12_would_37 rfl (lv_at hl 0 rfl) ?_
        refine xget C hP 1 rfl rfl zuX12 3 (by decide) zw5_216 rfl dX12_would_38 ?_
        refine xv (wr := []) (xV (As := [.ref ms, .ref mtr]) (rest := []) C (c_X12_puts l D cs hm ms mkp mtr mas mso mon mot man mst msm mtb mti mfr mbn mbs mde maa mab mba mbb n k al be km en ea pr nq po (nI 0) xd sF sN sS ig xa xb ms mtr f tf) kX12_148 hP hD [1, 2, 0] rfl (by decide) 0 rfl rfl rfl ⟨Nat.le_of_ble_eq_true rfl, Nat.le_of_ble_eq_true rfl⟩ rfl hl.1 rfl (Nat.le_of_ble_eq_true rfl) dX12_would_41 ⟨Nat.le_of_ble_eq_true rfl, Nat.le_of_ble_eq_true rfl⟩) hP hD hS hA [1, 2, 0] [] rfl rfl (by decide) (by decide) ?_
        clear hP hD hS
        try clear locs
        try clear H
        intro u_11 H locs hw_r_10 hP hD hS
        have hw_r_10 : ∀ j, j < 288 → u_11 j = f j := hw_r_10
        refine W.widen (k := 0) (n := 0) (Nat.le_of_ble_eq_true rfl) (Nat.le_of_ble_eq_true rfl) ?_
        replace hP : va_P D vwCl [(hm, .inr (12, [.ref ms, .ref mkp, .int (nI km), .ref mtr, .int (nI n), .int (nI k), .int (nI al), .int (nI be), .int ea, .int pr, .ref mas, .int nq, .int po, .int (nI en), .ref mso, .ref mon, .ref mot, .ref man, .int (nI 0), .int xd, .ref mst, .ref msm, .ref mtb, .ref mti, .ref mfr, .ref mbn, .ref mbs, .ref mde, .int sF, .int sN, .int sS, .int ig, .long xa, .long xb, .ref maa, .ref mab, .ref mba, .ref mbb])), (ms, .inl (cs 0, 288, .inl f)), (mtr, .inl (cs 0, 288, .inl u_11))] H := hP
        replace hD : va_D A [(hm, .inr (12, [.ref ms, .ref mkp, .int (nI km), .ref mtr, .int (nI n), .int (nI k), .int (nI al), .int (nI be), .int ea, .int pr, .ref mas, .int nq, .int po, .int (nI en), .ref mso, .ref mon, .ref mot, .ref man, .int (nI 0), .int xd, .ref mst, .ref msm, .ref mtb, .ref mti, .ref mfr, .ref mbn, .ref mbs, .ref mde, .int sF, .int sN, .int sS, .int ig, .long xa, .long xb, .ref maa, .ref mab, .ref mba, .ref mbb])), (ms, .inl (cs 0, 288, .inl f)), (mtr, .inl (cs 0, 288, .inl u_11))] := hD
        refine lv_aload_n hx hb dX12_would_44 rfl (lv_at hl 0 rfl) ?_
        refine lv_iload_n hx hb dX12_would_45 rfl (lv_at hl 1 rfl) ?_
        refine lv_iload_n hx hb dX12_would_46 rfl (lv_at hl 2 rfl) ?_
        refine xi (wr := [(mtr, .inl (cs 0, 288, .inl u_11))]) (xV (As := [.int (nI jx), .int y]) (rest := []) C (c_X12_asks_f l D cs hm ms mkp mtr mas mso mon mot man mst msm mtb mti mfr mbn mbs mde maa mab mba mbb n k al be km en ea pr nq po (nI 0) xd sF sN sS ig xa xb f jx y (uu jx) hn (by omega) hs hna hal hbe hpr ((hrow jx (by omega)).1) ((hrow jx (by omega)).2) hcu.1 hcu.2.1 hcu.2.2) kX12_145 hP hD [0, 1] rfl (by decide) 0 rfl rfl rfl ⟨Nat.le_of_ble_eq_true rfl, Nat.le_of_ble_eq_true rfl⟩ rfl hl.1 rfl (Nat.le_of_ble_eq_true rfl) dX12_would_47 ⟨Nat.le_of_ble_eq_true rfl, Nat.le_of_ble_eq_true rfl⟩) hP hD hS hA [0, 1] [2] rfl rfl (by decide) (by decide) ?_
        clear hP hD hS
        try clear locs
        try clear H
        intro r_12 u_13 H locs hw_r_12 hP hD hS
        have hw_r_12 : ∃ (g : Nat → Int32) (z o : Nat), askI f y jx n g z o ∧ (∀ j, 8 ≤ j → g j = f j) ∧ rowU u_13 jx (uSet pr be (winU al z o) (uu jx)) ∧ r_12 = nI (ansU (uu jx) (uSet pr be (winU al z o) (uu jx))) ∧ (∀ j, ¬ j = 0 + jx → ¬ j = 8 + jx → ¬ j = 16 + jx → ¬ j = 24 + jx → ¬ j = 32 + jx → ¬ j = 40 + jx → u_13 j = g j) ∧ colP u_13 := hw_r_12
        refine W.widen (k := 0) (n := 0) (Nat.le_of_ble_eq_true rfl) (Nat.le_of_ble_eq_true rfl) ?_
        replace hP : va_P D vwCl [(mtr, .inl (cs 0, 288, .inl u_11)), (hm, .inr (12, [.ref ms, .ref mkp, .int (nI km), .ref mtr, .int (nI n), .int (nI k), .int (nI al), .int (nI be), .int ea, .int pr, .ref mas, .int nq, .int po, .int (nI en), .ref mso, .ref mon, .ref mot, .ref man, .int (nI 0), .int xd, .ref mst, .ref msm, .ref mtb, .ref mti, .ref mfr, .ref mbn, .ref mbs, .ref mde, .int sF, .int sN, .int sS, .int ig, .long xa, .long xb, .ref maa, .ref mab, .ref mba, .ref mbb])), (ms, .inl (cs 0, 288, .inl u_13))] H := hP
        replace hD : va_D A [(mtr, .inl (cs 0, 288, .inl u_11)), (hm, .inr (12, [.ref ms, .ref mkp, .int (nI km), .ref mtr, .int (nI n), .int (nI k), .int (nI al), .int (nI be), .int ea, .int pr, .ref mas, .int nq, .int po, .int (nI en), .ref mso, .ref mon, .ref mot, .ref man, .int (nI 0), .int xd, .ref mst, .ref msm, .ref mtb, .ref mti, .ref mfr, .ref mbn, .ref mbs, .ref mde, .int sF, .int sN, .int sS, .int ig, .long xa, .long xb, .ref maa, .ref mab, .ref mba, .ref mbb])), (ms, .inl (cs 0, 288, .inl u_13))] := hD
        refine lv_istore_n (lv' := [(3, .int r_12), (0, .ref hm), (1, .int (nI jx)), (2, .int y)]) hx hb dX12_would_50 rfl hl (by decide) rfl ?_
        clear hl
        try clear ls
        intro ls hl
        refine lv_aload_n hx hb dX12_would_51 rfl (lv_at hl 1 rfl) ?_
        refine lv_aload_n hx hb dX12_would_52 rfl (lv_at hl 1 rfl) ?_
        refine xget C hP 1 rfl rfl zuX12 3 (by decide) zw5_216 rfl dX12_would_53 ?_
        refine lv_aload_n hx hb dX12_would_56 rfl (lv_at hl 1 rfl) ?_
        refine xget C hP 1 rfl rfl zuX12 0 (by decide) zw5_213 rfl dX12_would_57 ?_
        refine xv (wr := []) (xV (As := [.ref mtr, .ref ms]) (rest := []) C (c_X12_puts l D cs hm ms mkp mtr mas mso mon mot man mst msm mtb mti mfr mbn mbs mde maa mab mba mbb n k al be km en ea pr nq po (nI 0) xd sF sN sS ig xa xb mtr ms u_11 u_13) kX12_148 hP hD [1, 0, 2] rfl (by decide) 0 rfl rfl rfl ⟨Nat.le_of_ble_eq_true rfl, Nat.le_of_ble_eq_true rfl⟩ rfl hl.1 rfl (Nat.le_of_ble_eq_true rfl) dX12_would_60 ⟨Nat.le_of_ble_eq_true rfl, Nat.le_of_ble_eq_true rfl⟩) hP hD hS hA [1, 0, 2] [] rfl rfl (by decide) (by decide) ?_
        clear hP hD hS
        try clear locs
        try clear H
        intro u_15 H locs hw_r_14 hP hD hS
        have hw_r_14 : ∀ j, j < 288 → u_15 j = u_11 j := hw_r_14
        refine W.widen (k := 0) (n := 0) (Nat.le_of_ble_eq_true rfl) (Nat.le_of_ble_eq_true rfl) ?_
        replace hP : va_P D vwCl [(hm, .inr (12, [.ref ms, .ref mkp, .int (nI km), .ref mtr, .int (nI n), .int (nI k), .int (nI al), .int (nI be), .int ea, .int pr, .ref mas, .int nq, .int po, .int (nI en), .ref mso, .ref mon, .ref mot, .ref man, .int (nI 0), .int xd, .ref mst, .ref msm, .ref mtb, .ref mti, .ref mfr, .ref mbn, .ref mbs, .ref mde, .int sF, .int sN, .int sS, .int ig, .long xa, .long xb, .ref maa, .ref mab, .ref mba, .ref mbb])), (mtr, .inl (cs 0, 288, .inl u_11)), (ms, .inl (cs 0, 288, .inl u_15))] H := hP
        replace hD : va_D A [(hm, .inr (12, [.ref ms, .ref mkp, .int (nI km), .ref mtr, .int (nI n), .int (nI k), .int (nI al), .int (nI be), .int ea, .int pr, .ref mas, .int nq, .int po, .int (nI en), .ref mso, .ref mon, .ref mot, .ref man, .int (nI 0), .int xd, .ref mst, .ref msm, .ref mtb, .ref mti, .ref mfr, .ref mbn, .ref mbs, .ref mde, .int sF, .int sN, .int sS, .int ig, .long xa, .long xb, .ref maa, .ref mab, .ref mba, .ref mbb])), (mtr, .inl (cs 0, 288, .inl u_11)), (ms, .inl (cs 0, 288, .inl u_15))] := hD
        refine lv_iload_n hx hb dX12_would_63 rfl (lv_at hl 0 rfl) ?_
        exact xreti C (⟨u_15, u_11⟩) (⟨⟨colP_eq hs (fun j hj => (hw_r_14 j hj).trans (hw_r_10 j hj)), (fun j hj => (hw_r_14 j hj).trans (hw_r_10 j hj))⟩, Or.inl ⟨jx, h_jx, rfl, PQ.yes hw_r_4 c_6, hmc, _, hw_r_12⟩⟩) (xP_map hP [0, 2, 1] rfl) (hD.sub [0, 2, 1] (by decide) rfl) hS (Nat.le_of_ble_eq_true rfl) (Nat.le_of_ble_eq_true rfl) rfl dX12_would_64
      · -- 27 f
        refine lv_iconst (v := (-1)) hx hb dX12_would_30 (by decide) ?_
        exact xreti C (⟨f, tf⟩) (⟨⟨hs, fun _ _ => rfl⟩, Or.inr ⟨fun q => PQ.no hw_r_7 c_9 (by decide) (q.2 jx h_jx rfl).2, rfl, rfl⟩⟩) (xP_map hP [1, 2, 0] rfl) (hD.sub [1, 2, 0] (by decide) rfl) hS (Nat.le_of_ble_eq_true rfl) (Nat.le_of_ble_eq_true rfl) rfl dX12_would_31
