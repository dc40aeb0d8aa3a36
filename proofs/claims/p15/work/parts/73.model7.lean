/-- what a number that is looked for comes to -/
def nofR (sz szz : Nat) (r : Int32) : Prop := (r = -1 ∧ sz = 2000) ∨ ∃ m, m < szz ∧ r = nI m
theorem nofR.resolve_left {sz szz : Nat} {r : Int32} (h : nofR sz szz r) (q : ¬ (r = -1 ∧ sz = 2000)) : ∃ m, m < szz ∧ r = nI m := Or.resolve_left h q
theorem smz_same {smf : Nat → Int32} {g sz : Nat} (h : smf g = nI sz) : ∀ j, smf j = if j = g then nI sz else smf j := fun j => by
  by_cases q : j = g
  · rw [if_pos q, q, h]
  · rw [if_neg q]
theorem smz_next {smf : Nat → Int32} {g sz : Nat} : ∀ j, upd smf g (nI (sz + 1)) j = if j = g then nI (sz + 1) else smf j := fun j => rfl
theorem tab_upd {sz k : Nat} {f : Nat → Int32} (h : tabP sz f) (hs : sz < 2000) : tabP (sz + 1) (upd f k (nI (sz + 1))) := tab_add h hs _ (fun _ => rfl)
theorem smz_comp {a b c : Nat → Int32} {g : Nat} {x y : Int32} (h1 : ∀ j, a j = if j = g then x else b j) (h2 : ∀ j, b j = if j = g then y else c j) : ∀ j, a j = if j = g then x else c j := fun j => by
  rw [h1 j]
  by_cases q : j = g
  · rw [if_pos q, if_pos q]
  · rw [if_neg q, if_neg q, h2 j, if_neg q]
theorem mod_next {k c : Nat} : ((k + c) % 8192 + 1) % 8192 = (k + (c + 1)) % 8192 := by omega

set_option maxHeartbeats 4000000 in
set_option maxRecDepth 100000 in
theorem c_X12_numberOf (l : Launch) (D : va_G) (cs : Nat → ClassId) (hm ms mkp mtr mas mso mon mot man mst msm mtb mti mfr mbn mbs mde maa mab mba mbb : Nat) (n k al be km en : Nat) (ea pr nq po th xd sF sN sS ig : Int32) (xa xb : Int64) (f : Nat → Int32) (g0 qs qt qi sz : Nat) (fst ftb fti : Nat → Option Nat) (sf tf smf : Nat → Int32) (tif : Nat → Int64) (hs : colP f) (hg : g0 < 2) (hfs : fst g0 = some qs) (hft : ftb g0 = some qt) (hfi : fti g0 = some qi) (hsm : smf g0 = nI sz) (hzs : sz ≤ 2000) (hst : stP sz sf) (htp : tabP sz tf) : xMet l D cs yX12_numberOf cX12_numberOf 6 (some .int) ({ frames := 1, cells := 0, slots := 0, locals := 23 } : Room) [.ref hm, .int (nI g0), .int (nI 2000)] [(hm, .inr (12, [.ref ms, .ref mkp, .int (nI km), .ref mtr, .int (nI n), .int (nI k), .int (nI al), .int (nI be), .int ea, .int pr, .ref mas, .int nq, .int po, .int (nI en), .ref mso, .ref mon, .ref mot, .ref man, .int th, .int xd, .ref mst, .ref msm, .ref mtb, .ref mti, .ref mfr, .ref mbn, .ref mbs, .ref mde, .int sF, .int sN, .int sS, .int ig, .long xa, .long xb, .ref maa, .ref mab, .ref mba, .ref mbb])), (ms, .inl (cs 0, 288, .inl f)), (mst, .inl (cs 5, 2, .inr (.inr (.inr (.inr fst))))), (qs, .inl (cs 0, 96048, .inl sf)), (mtb, .inl (cs 5, 2, .inr (.inr (.inr (.inr ftb))))), (qt, .inl (cs 0, 8192, .inl tf)), (mti, .inl (cs 6, 2, .inr (.inr (.inr (.inr fti))))), (qi, .inl (cs 1, 2001, .inr (.inl tif))), (msm, .inl (cs 0, 2, .inl smf))] (xQi D (fun (r : Int32) (u : Nat × (Nat → Int32) × (Nat → Int32) × (Nat → Int32) × (Nat → Int64)) => match u with | (szz, sfz, tfz, smz, tiz) => nofR sz szz r ∧ sz ≤ szz ∧ szz ≤ 2000 ∧ stP szz sfz ∧ tabP szz tfz ∧ (∀ j, smz j = if j = g0 then nI szz else smf j)) (fun (u : Nat × (Nat → Int32) × (Nat → Int32) × (Nat → Int32) × (Nat → Int64)) => match u with | (szz, sfz, tfz, smz, tiz) => [(hm, .inr (12, [.ref ms, .ref mkp, .int (nI km), .ref mtr, .int (nI n), .int (nI k), .int (nI al), .int (nI be), .int ea, .int pr, .ref mas, .int nq, .int po, .int (nI en), .ref mso, .ref mon, .ref mot, .ref man, .int th, .int xd, .ref mst, .ref msm, .ref mtb, .ref mti, .ref mfr, .ref mbn, .ref mbs, .ref mde, .int sF, .int sN, .int sS, .int ig, .long xa, .long xb, .ref maa, .ref mab, .ref mba, .ref mbb])), (ms, .inl (cs 0, 288, .inl f)), (mst, .inl (cs 5, 2, .inr (.inr (.inr (.inr fst))))), (qs, .inl (cs 0, 96048, .inl sfz)), (mtb, .inl (cs 5, 2, .inr (.inr (.inr (.inr ftb))))), (qt, .inl (cs 0, 8192, .inl tfz)), (mti, .inl (cs 6, 2, .inr (.inr (.inr (.inr fti))))), (qi, .inl (cs 1, 2001, .inr (.inl tiz))), (msm, .inl (cs 0, 2, .inl smz))])) := by
  refine xMet.intro (by decide) (Nat.le_of_ble_eq_true rfl) ?_
  intro p e s m args below meth c A ls C hP hD hS hl
  have hx := C.1
  have hb := C.2.1
  have hz := C.2.2.2.2.1
  have hown := C.2.2.2.1
  have hA := C.2.2.2.2.2.2.2.2.2
  have hAO := C.2.2.2.2.2.2.2.2.1.2.2
  replace hl : lv_has ls 6 [(0, .ref hm), (1, .int (nI g0)), (2, .int (nI 2000))] := hl
  obtain ⟨H, hH⟩ : ∃ H, H = s.heap := ⟨_, rfl⟩
  replace hP : va_P D vwCl [(hm, .inr (12, [.ref ms, .ref mkp, .int (nI km), .ref mtr, .int (nI n), .int (nI k), .int (nI al), .int (nI be), .int ea, .int pr, .ref mas, .int nq, .int po, .int (nI en), .ref mso, .ref mon, .ref mot, .ref man, .int th, .int xd, .ref mst, .ref msm, .ref mtb, .ref mti, .ref mfr, .ref mbn, .ref mbs, .ref mde, .int sF, .int sN, .int sS, .int ig, .long xa, .long xb, .ref maa, .ref mab, .ref mba, .ref mbb])), (ms, .inl (cs 0, 288, .inl f)), (mst, .inl (cs 5, 2, .inr (.inr (.inr (.inr fst))))), (qs, .inl (cs 0, 96048, .inl sf)), (mtb, .inl (cs 5, 2, .inr (.inr (.inr (.inr ftb))))), (qt, .inl (cs 0, 8192, .inl tf)), (mti, .inl (cs 6, 2, .inr (.inr (.inr (.inr fti))))), (qi, .inl (cs 1, 2001, .inr (.inl tif))), (msm, .inl (cs 0, 2, .inl smf))] H := by rw [hH]; exact hP
  replace hS : va_S A s.heap H [] := by rw [hH]; exact hS
  obtain ⟨locs, hlocs⟩ : ∃ z : List Loc, z = [] := ⟨_, rfl⟩
  rw [← hlocs] at hS
  suffices hW : W p l e ({ frames := 1, cells := 0, slots := 0, locals := 23 } : Room) s m args below meth c H locs 0 0 (MQ below ((xQi D (fun (r : Int32) (u : Nat × (Nat → Int32) × (Nat → Int32) × (Nat → Int32) × (Nat → Int64)) => match u with | (szz, sfz, tfz, smz, tiz) => nofR sz szz r ∧ sz ≤ szz ∧ szz ≤ 2000 ∧ stP szz sfz ∧ tabP szz tfz ∧ (∀ j, smz j = if j = g0 then nI szz else smf j)) (fun (u : Nat × (Nat → Int32) × (Nat → Int32) × (Nat → Int32) × (Nat → Int64)) => match u with | (szz, sfz, tfz, smz, tiz) => [(hm, .inr (12, [.ref ms, .ref mkp, .int (nI km), .ref mtr, .int (nI n), .int (nI k), .int (nI al), .int (nI be), .int ea, .int pr, .ref mas, .int nq, .int po, .int (nI en), .ref mso, .ref mon, .ref mot, .ref man, .int th, .int xd, .ref mst, .ref msm, .ref mtb, .ref mti, .ref mfr, .ref mbn, .ref mbs, .ref mde, .int sF, .int sN, .int sS, .int ig, .long xa, .long xb, .ref maa, .ref mab, .ref mba, .ref mbb])), (ms, .inl (cs 0, 288, .inl f)), (mst, .inl (cs 5, 2, .inr (.inr (.inr (.inr fst))))), (qs, .inl (cs 0, 96048, .inl sfz)), (mtb, .inl (cs 5, 2, .inr (.inr (.inr (.inr ftb))))), (qt, .inl (cs 0, 8192, .inl tfz)), (mti, .inl (cs 6, 2, .inr (.inr (.inr (.inr fti))))), (qi, .inl (cs 1, 2001, .inr (.inl tiz))), (msm, .inl (cs 0, 2, .inl smz))])) A) args s 0 0 A) (F0 m 0 ls []) by rw [hlocs, hH] at hW; exact hW
  clear hH hlocs
  refine lv_aload_n hx hb dX12_numberOf_0 rfl (lv_at hl 0 rfl) ?_
  refine xi (wr := [(mst, .inl (cs 5, 2, .inr (.inr (.inr (.inr fst))))), (qs, .inl (cs 0, 96048, .inl sf)), (mtb, .inl (cs 5, 2, .inr (.inr (.inr (.inr ftb))))), (qt, .inl (cs 0, 8192, .inl tf)), (mti, .inl (cs 6, 2, .inr (.inr (.inr (.inr fti))))), (qi, .inl (cs 1, 2001, .inr (.inl tif))), (msm, .inl (cs 0, 2, .inl smf))]) (xV (As := []) (rest := []) C (c_X12_slot l D cs hm ms mkp mtr mas mso mon mot man mst msm mtb mti mfr mbn mbs mde maa mab mba mbb n k al be km en ea pr nq po th xd sF sN sS ig xa xb f) kX12_169 hP hD [0, 1] rfl (by decide +kernel) 0 rfl rfl rfl ⟨Nat.le_of_ble_eq_true rfl, Nat.le_of_ble_eq_true rfl⟩ rfl hl.1 rfl (Nat.le_of_ble_eq_true rfl) dX12_numberOf_1 ⟨Nat.le_of_ble_eq_true rfl, Nat.le_of_ble_eq_true rfl⟩) hP hD hS hA [0, 1] [2, 3, 4, 5, 6, 7, 8] rfl rfl (by decide +kernel) (by decide +kernel) ?_
  clear hP hD hS
  try clear locs
  try clear H
  intro r_1 u_2 H locs hw_r_1 hP hD hS
  have hw_r_1 : ∃ v, v < 8192 ∧ r_1 = nI v := hw_r_1
  refine W.widen (k := 0) (n := 0) (Nat.le_of_ble_eq_true rfl) (Nat.le_of_ble_eq_true rfl) ?_
  replace hP : va_P D vwCl [(mst, .inl (cs 5, 2, .inr (.inr (.inr (.inr fst))))), (qs, .inl (cs 0, 96048, .inl sf)), (mtb, .inl (cs 5, 2, .inr (.inr (.inr (.inr ftb))))), (qt, .inl (cs 0, 8192, .inl tf)), (mti, .inl (cs 6, 2, .inr (.inr (.inr (.inr fti))))), (qi, .inl (cs 1, 2001, .inr (.inl tif))), (msm, .inl (cs 0, 2, .inl smf)), (hm, .inr (12, [.ref ms, .ref mkp, .int (nI km), .ref mtr, .int (nI n), .int (nI k), .int (nI al), .int (nI be), .int ea, .int pr, .ref mas, .int nq, .int po, .int (nI en), .ref mso, .ref mon, .ref mot, .ref man, .int th, .int xd, .ref mst, .ref msm, .ref mtb, .ref mti, .ref mfr, .ref mbn, .ref mbs, .ref mde, .int sF, .int sN, .int sS, .int ig, .long xa, .long xb, .ref maa, .ref mab, .ref mba, .ref mbb])), (ms, .inl (cs 0, 288, .inl f))] H := hP
  replace hD : va_D A [(mst, .inl (cs 5, 2, .inr (.inr (.inr (.inr fst))))), (qs, .inl (cs 0, 96048, .inl sf)), (mtb, .inl (cs 5, 2, .inr (.inr (.inr (.inr ftb))))), (qt, .inl (cs 0, 8192, .inl tf)), (mti, .inl (cs 6, 2, .inr (.inr (.inr (.inr fti))))), (qi, .inl (cs 1, 2001, .inr (.inl tif))), (msm, .inl (cs 0, 2, .inl smf)), (hm, .inr (12, [.ref ms, .ref mkp, .int (nI km), .ref mtr, .int (nI n), .int (nI k), .int (nI al), .int (nI be), .int ea, .int pr, .ref mas, .int nq, .int po, .int (nI en), .ref mso, .ref mon, .ref mot, .ref man, .int th, .int xd, .ref mst, .ref msm, .ref mtb, .ref mti, .ref mfr, .ref mbn, .ref mbs, .ref mde, .int sF, .int sN, .int sS, .int ig, .long xa, .long xb, .ref maa, .ref mab, .ref mba, .ref mbb])), (ms, .inl (cs 0, 288, .inl f))] := hD
  obtain ⟨k0, h_k0, rfl⟩ := hw_r_1
  refine lv_topi (nm_r (e' := nI ((k0 + 0) % 8192)) (congrArg nI (by rw [Nat.add_zero, Nat.mod_eq_of_lt h_k0])) ?_)
  replace hP : va_P D vwCl [(mst, .inl (cs 5, 2, .inr (.inr (.inr (.inr fst))))), (qs, .inl (cs 0, 96048, .inl sf)), (mtb, .inl (cs 5, 2, .inr (.inr (.inr (.inr ftb))))), (qt, .inl (cs 0, 8192, .inl tf)), (mti, .inl (cs 6, 2, .inr (.inr (.inr (.inr fti))))), (qi, .inl (cs 1, 2001, .inr (.inl tif))), (msm, .inl (cs 0, 2, .inl smf)), (hm, .inr (12, [.ref ms, .ref mkp, .int (nI km), .ref mtr, .int (nI n), .int (nI k), .int (nI al), .int (nI be), .int ea, .int pr, .ref mas, .int nq, .int po, .int (nI en), .ref mso, .ref mon, .ref mot, .ref man, .int th, .int xd, .ref mst, .ref msm, .ref mtb, .ref mti, .ref mfr, .ref mbn, .ref mbs, .ref mde, .int sF, .int sN, .int sS, .int ig, .long xa, .long xb, .ref maa, .ref mab, .ref mba, .ref mbb])), (ms, .inl (cs 0, 288, .inl f))] H := hP
  replace hD : va_D A [(mst, .inl (cs 5, 2, .inr (.inr (.inr (.inr fst))))), (qs, .inl (cs 0, 96048, .inl sf)), (mtb, .inl (cs 5, 2, .inr (.inr (.inr (.inr ftb))))), (qt, .inl (cs 0, 8192, .inl tf)), (mti, .inl (cs 6, 2, .inr (.inr (.inr (.inr fti))))), (qi, .inl (cs 1, 2001, .inr (.inl tif))), (msm, .inl (cs 0, 2, .inl smf)), (hm, .inr (12, [.ref ms, .ref mkp, .int (nI km), .ref mtr, .int (nI n), .int (nI k), .int (nI al), .int (nI be), .int ea, .int pr, .ref mas, .int nq, .int po, .int (nI en), .ref mso, .ref mon, .ref mot, .ref man, .int th, .int xd, .ref mst, .ref msm, .ref mtb, .ref mti, .ref mfr, .ref mbn, .ref mbs, .ref mde, .int sF, .int sN, .int sS, .int ig, .long xa, .long xb, .ref maa, .ref mab, .ref mba, .ref mbb])), (ms, .inl (cs 0, 288, .inl f))] := hD
  refine lv_istore_n (lv' := [(3, .int (nI ((k0 + 0) % 8192))), (0, .ref hm), (1, .int (nI g0)), (2, .int (nI 2000))]) hx hb dX12_numberOf_4 rfl hl (by decide) rfl ?_
  clear hl
  try clear ls
  intro ls hl
  have loop_3 : ∀ (n_loop_3 : Nat) (c9 : Nat), (c9 ≤ 2001) → (∀ i, i < c9 → ¬ tf ((k0 + i) % 8192) = nI 0) → 2001 - c9 < n_loop_3 → ∀ (H : Heap) (locs : List Loc) (ls : Array Slot), va_P D vwCl [(mst, .inl (cs 5, 2, .inr (.inr (.inr (.inr fst))))), (qs, .inl (cs 0, 96048, .inl sf)), (mtb, .inl (cs 5, 2, .inr (.inr (.inr (.inr ftb))))), (qt, .inl (cs 0, 8192, .inl tf)), (mti, .inl (cs 6, 2, .inr (.inr (.inr (.inr fti))))), (qi, .inl (cs 1, 2001, .inr (.inl tif))), (msm, .inl (cs 0, 2, .inl smf)), (hm, .inr (12, [.ref ms, .ref mkp, .int (nI km), .ref mtr, .int (nI n), .int (nI k), .int (nI al), .int (nI be), .int ea, .int pr, .ref mas, .int nq, .int po, .int (nI en), .ref mso, .ref mon, .ref mot, .ref man, .int th, .int xd, .ref mst, .ref msm, .ref mtb, .ref mti, .ref mfr, .ref mbn, .ref mbs, .ref mde, .int sF, .int sN, .int sS, .int ig, .long xa, .long xb, .ref maa, .ref mab, .ref mba, .ref mbb])), (ms, .inl (cs 0, 288, .inl f))] H → va_D A [(mst, .inl (cs 5, 2, .inr (.inr (.inr (.inr fst))))), (qs, .inl (cs 0, 96048, .inl sf)), (mtb, .inl (cs 5, 2, .inr (.inr (.inr (.inr ftb))))), (qt, .inl (cs 0, 8192, .inl tf)), (mti, .inl (cs 6, 2, .inr (.inr (.inr (.inr fti))))), (qi, .inl (cs 1, 2001, .inr (.inl tif))), (msm, .inl (cs 0, 2, .inl smf)), (hm, .inr (12, [.ref ms, .ref mkp, .int (nI km), .ref mtr, .int (nI n), .int (nI k), .int (nI al), .int (nI be), .int ea, .int pr, .ref mas, .int nq, .int po, .int (nI en), .ref mso, .ref mon, .ref mot, .ref man, .int th, .int xd, .ref mst, .ref msm, .ref mtb, .ref mti, .ref mfr, .ref mbn, .ref mbs, .ref mde, .int sF, .int sN, .int sS, .int ig, .long xa, .long xb, .ref maa, .ref mab, .ref mba, .ref mbb])), (ms, .inl (cs 0, 288, .inl f))] → va_S A s.heap H locs → lv_has ls 6 [(3, .int (nI ((k0 + c9) % 8192))), (0, .ref hm), (1, .int (nI g0)), (2, .int (nI 2000))] → W p l e ({ frames := 1, cells := 0, slots := 0, locals := 23 } : Room) s m args below meth c H locs 0 0 (MQ below ((xQi D (fun (r : Int32) (u : Nat × (Nat → Int32) × (Nat → Int32) × (Nat → Int32) × (Nat → Int64)) => match u with | (szz, sfz, tfz, smz, tiz) => nofR sz szz r ∧ sz ≤ szz ∧ szz ≤ 2000 ∧ stP szz sfz ∧ tabP szz tfz ∧ (∀ j, smz j = if j = g0 then nI szz else smf j)) (fun (u : Nat × (Nat → Int32) × (Nat → Int32) × (Nat → Int32) × (Nat → Int64)) => match u with | (szz, sfz, tfz, smz, tiz) => [(hm, .inr (12, [.ref ms, .ref mkp, .int (nI km), .ref mtr, .int (nI n), .int (nI k), .int (nI al), .int (nI be), .int ea, .int pr, .ref mas, .int nq, .int po, .int (nI en), .ref mso, .ref mon, .ref mot, .ref man, .int th, .int xd, .ref mst, .ref msm, .ref mtb, .ref mti, .ref mfr, .ref mbn, .ref mbs, .ref mde, .int sF, .int sN, .int sS, .int ig, .long xa, .long xb, .ref maa, .ref mab, .ref mba, .ref mbb])), (ms, .inl (cs 0, 288, .inl f)), (mst, .inl (cs 5, 2, .inr (.inr (.inr (.inr fst))))), (qs, .inl (cs 0, 96048, .inl sfz)), (mtb, .inl (cs 5, 2, .inr (.inr (.inr (.inr ftb))))), (qt, .inl (cs 0, 8192, .inl tfz)), (mti, .inl (cs 6, 2, .inr (.inr (.inr (.inr fti))))), (qi, .inl (cs 1, 2001, .inr (.inl tiz))), (msm, .inl (cs 0, 2, .inl smz))])) A) args s 0 0 A) (F0 m 5 ls []) := by
    intro n_loop_3
    induction n_loop_3 with
    | zero => intro c9 h_c9 hv9 hlt H locs ls hP hD hS hl; exact absurd hlt (Nat.not_lt_zero _)
    | succ n_loop_3 ih_loop_3 =>
      intro c9 h_c9 hv9 hlt_loop_3 H locs ls hP hD hS hl
      have hc9 : c9 ≤ sz := tab_room htp hzs (by omega) hv9
      refine lv_aload_n hx hb dX12_numberOf_5 rfl (lv_at hl 1 rfl) ?_
      refine xget C hP 7 rfl rfl zuX12 22 (by decide) zw5_235 rfl dX12_numberOf_6 ?_
      refine lv_iload_n hx hb dX12_numberOf_9 rfl (lv_at hl 2 rfl) ?_
      refine xaald C hP 2 5 rfl rfl rfl g0 rfl (by omega) (by decide) hft dX12_numberOf_10 ?_
      refine lv_iload_n hx hb dX12_numberOf_11 rfl (lv_at hl 0 rfl) ?_
      refine xiald C hP 3 rfl ((k0 + c9) % 8192) rfl (by omega) (by decide) dX12_numberOf_12 ?_
      refine lv_if_le (tgt := 56) hx hb dX12_numberOf_13 (by decide) (fun c_4 => ?_) (fun c_4 => ?_)
      · -- 13 t
        have hze : tf ((k0 + c9) % 8192) = nI 0 := (htp.1 _ (Nat.mod_lt _ (by decide))).resolve_right (fun ⟨m, hm, q⟩ => absurd c_4 (by rw [q]; exact nI_nle (by omega) (by omega)))
        refine lv_aload_n hx hb dX12_numberOf_56 rfl (lv_at hl 1 rfl) ?_
        refine xget C hP 7 rfl rfl zuX12 21 (by decide) zw5_234 rfl dX12_numberOf_57 ?_
        refine lv_iload_n hx hb dX12_numberOf_60 rfl (lv_at hl 2 rfl) ?_
        refine xiald C hP 6 rfl g0 rfl (by omega) (by decide) dX12_numberOf_61 ?_
        refine lv_topi (nm_r (e' := nI sz) hsm ?_)
        refine lv_iload_n hx hb dX12_numberOf_62 rfl (lv_at hl 3 rfl) ?_
        refine lv_icmp_ne (tgt := 68) hx hb dX12_numberOf_63 (by decide) (fun c_5 => ?_) (fun c_5 => ?_)
        · -- 63 t
          have fc_5 : sz ≠ 2000 := nf_ne (by omega) (by omega) c_5
          refine lv_aload_n hx hb dX12_numberOf_68 rfl (lv_at hl 1 rfl) ?_
          refine xget C hP 7 rfl rfl zuX12 21 (by decide) zw5_234 rfl dX12_numberOf_69 ?_
          refine lv_iload_n hx hb dX12_numberOf_72 rfl (lv_at hl 2 rfl) ?_
          refine xiald C hP 6 rfl g0 rfl (by omega) (by decide) dX12_numberOf_73 ?_
          refine lv_topi (nm_r (e' := nI sz) hsm ?_)
          refine lv_istore (lv' := [(4, .int (nI sz)), (3, .int (nI ((k0 + c9) % 8192))), (0, .ref hm), (1, .int (nI g0)), (2, .int (nI 2000))]) hx hb dX12_numberOf_74 hl (by decide) rfl ?_
          clear hl
          try clear ls
          intro ls hl
          refine lv_iconst (v := nI 0) hx hb dX12_numberOf_76 (by decide) ?_
          refine lv_istore (lv' := [(5, .int (nI 0)), (4, .int (nI sz)), (3, .int (nI ((k0 + c9) % 8192))), (0, .ref hm), (1, .int (nI g0)), (2, .int (nI 2000))]) hx hb dX12_numberOf_77 hl (by decide) rfl ?_
          clear hl
          try clear ls
          intro ls hl
          have loop_6 : ∀ (n_loop_6 : Nat) (o : Nat) (s9 : Nat → Int32), (o ≤ 48) → (stQ sz o s9) → 48 - o < n_loop_6 → ∀ (H : Heap) (locs : List Loc) (ls : Array Slot), va_P D vwCl [(mst, .inl (cs 5, 2, .inr (.inr (.inr (.inr fst))))), (qs, .inl (cs 0, 96048, .inl s9)), (mtb, .inl (cs 5, 2, .inr (.inr (.inr (.inr ftb))))), (qt, .inl (cs 0, 8192, .inl tf)), (mti, .inl (cs 6, 2, .inr (.inr (.inr (.inr fti))))), (qi, .inl (cs 1, 2001, .inr (.inl tif))), (msm, .inl (cs 0, 2, .inl smf)), (hm, .inr (12, [.ref ms, .ref mkp, .int (nI km), .ref mtr, .int (nI n), .int (nI k), .int (nI al), .int (nI be), .int ea, .int pr, .ref mas, .int nq, .int po, .int (nI en), .ref mso, .ref mon, .ref mot, .ref man, .int th, .int xd, .ref mst, .ref msm, .ref mtb, .ref mti, .ref mfr, .ref mbn, .ref mbs, .ref mde, .int sF, .int sN, .int sS, .int ig, .long xa, .long xb, .ref maa, .ref mab, .ref mba, .ref mbb])), (ms, .inl (cs 0, 288, .inl f))] H → va_D A [(mst, .inl (cs 5, 2, .inr (.inr (.inr (.inr fst))))), (qs, .inl (cs 0, 96048, .inl s9)), (mtb, .inl (cs 5, 2, .inr (.inr (.inr (.inr ftb))))), (qt, .inl (cs 0, 8192, .inl tf)), (mti, .inl (cs 6, 2, .inr (.inr (.inr (.inr fti))))), (qi, .inl (cs 1, 2001, .inr (.inl tif))), (msm, .inl (cs 0, 2, .inl smf)), (hm, .inr (12, [.ref ms, .ref mkp, .int (nI km), .ref mtr, .int (nI n), .int (nI k), .int (nI al), .int (nI be), .int ea, .int pr, .ref mas, .int nq, .int po, .int (nI en), .ref mso, .ref mon, .ref mot, .ref man, .int th, .int xd, .ref mst, .ref msm, .ref mtb, .ref mti, .ref mfr, .ref mbn, .ref mbs, .ref mde, .int sF, .int sN, .int sS, .int ig, .long xa, .long xb, .ref maa, .ref mab, .ref mba, .ref mbb])), (ms, .inl (cs 0, 288, .inl f))] → va_S A s.heap H locs → lv_has ls 6 [(5, .int (nI o)), (4, .int (nI sz)), (3, .int (nI ((k0 + c9) % 8192))), (0, .ref hm), (1, .int (nI g0)), (2, .int (nI 2000))] → W p l e ({ frames := 1, cells := 0, slots := 0, locals := 23 } : Room) s m args below meth c H locs 0 0 (MQ below ((xQi D (fun (r : Int32) (u : Nat × (Nat → Int32) × (Nat → Int32) × (Nat → Int32) × (Nat → Int64)) => match u with | (szz, sfz, tfz, smz, tiz) => nofR sz szz r ∧ sz ≤ szz ∧ szz ≤ 2000 ∧ stP szz sfz ∧ tabP szz tfz ∧ (∀ j, smz j = if j = g0 then nI szz else smf j)) (fun (u : Nat × (Nat → Int32) × (Nat → Int32) × (Nat → Int32) × (Nat → Int64)) => match u with | (szz, sfz, tfz, smz, tiz) => [(hm, .inr (12, [.ref ms, .ref mkp, .int (nI km), .ref mtr, .int (nI n), .int (nI k), .int (nI al), .int (nI be), .int ea, .int pr, .ref mas, .int nq, .int po, .int (nI en), .ref mso, .ref mon, .ref mot, .ref man, .int th, .int xd, .ref mst, .ref msm, .ref mtb, .ref mti, .ref mfr, .ref mbn, .ref mbs, .ref mde, .int sF, .int sN, .int sS, .int ig, .long xa, .long xb, .ref maa, .ref mab, .ref mba, .ref mbb])), (ms, .inl (cs 0, 288, .inl f)), (mst, .inl (cs 5, 2, .inr (.inr (.inr (.inr fst))))), (qs, .inl (cs 0, 96048, .inl sfz)), (mtb, .inl (cs 5, 2, .inr (.inr (.inr (.inr ftb))))), (qt, .inl (cs 0, 8192, .inl tfz)), (mti, .inl (cs 6, 2, .inr (.inr (.inr (.inr fti))))), (qi, .inl (cs 1, 2001, .inr (.inl tiz))), (msm, .inl (cs 0, 2, .inl smz))])) A) args s 0 0 A) (F0 m 79 ls []) := by
            intro n_loop_6
            induction n_loop_6 with
            | zero => intro o s9 h_o hs9 hlt H locs ls hP hD hS hl; exact absurd hlt (Nat.not_lt_zero _)
            | succ n_loop_6 ih_loop_6 =>
              intro o s9 h_o hs9 hlt_loop_6 H locs ls hP hD hS hl
              refine lv_iload hx hb dX12_numberOf_79 (lv_at hl 0 rfl) ?_
              refine lv_bipush (v := nI 48) hx hb dX12_numberOf_81 (by decide) ?_
              refine lv_icmp_ge (tgt := 114) hx hb dX12_numberOf_83 (by decide) (fun c_7 => ?_) (fun c_7 => ?_)
              · -- 83 t
                have fc_7 : 48 ≤ o := nf_le (by omega) (by omega) c_7
                refine lv_aload_n hx hb dX12_numberOf_114 rfl (lv_at hl 3 rfl) ?_
                refine xget C hP 7 rfl rfl zuX12 23 (by decide) zw5_236 rfl dX12_numberOf_115 ?_
                refine lv_iload_n hx hb dX12_numberOf_118 rfl (lv_at hl 4 rfl) ?_
                refine xaald C hP 4 6 rfl rfl rfl g0 rfl (by omega) (by decide) hfi dX12_numberOf_119 ?_
                refine lv_iload hx hb dX12_numberOf_120 (lv_at hl 1 rfl) ?_
                refine lv_lconst (v := 0) hx hb dX12_numberOf_122 (by decide) ?_
                refine xlast C hP hD hS 5 rfl sz rfl (by omega) (by decide) dX12_numberOf_123 ?_
                clear hP hD hS
                try clear locs
                try clear H
                intro H locs hP hD hS
                replace hP : va_P D vwCl [(mst, .inl (cs 5, 2, .inr (.inr (.inr (.inr fst))))), (qs, .inl (cs 0, 96048, .inl s9)), (mtb, .inl (cs 5, 2, .inr (.inr (.inr (.inr ftb))))), (qt, .inl (cs 0, 8192, .inl tf)), (mti, .inl (cs 6, 2, .inr (.inr (.inr (.inr fti))))), (qi, .inl (cs 1, 2001, .inr (.inl (vp_updL tif sz 0)))), (msm, .inl (cs 0, 2, .inl smf)), (hm, .inr (12, [.ref ms, .ref mkp, .int (nI km), .ref mtr, .int (nI n), .int (nI k), .int (nI al), .int (nI be), .int ea, .int pr, .ref mas, .int nq, .int po, .int (nI en), .ref mso, .ref mon, .ref mot, .ref man, .int th, .int xd, .ref mst, .ref msm, .ref mtb, .ref mti, .ref mfr, .ref mbn, .ref mbs, .ref mde, .int sF, .int sN, .int sS, .int ig, .long xa, .long xb, .ref maa, .ref mab, .ref mba, .ref mbb])), (ms, .inl (cs 0, 288, .inl f))] H := hP
                replace hD : va_D A [(mst, .inl (cs 5, 2, .inr (.inr (.inr (.inr fst))))), (qs, .inl (cs 0, 96048, .inl s9)), (mtb, .inl (cs 5, 2, .inr (.inr (.inr (.inr ftb))))), (qt, .inl (cs 0, 8192, .inl tf)), (mti, .inl (cs 6, 2, .inr (.inr (.inr (.inr fti))))), (qi, .inl (cs 1, 2001, .inr (.inl (vp_updL tif sz 0)))), (msm, .inl (cs 0, 2, .inl smf)), (hm, .inr (12, [.ref ms, .ref mkp, .int (nI km), .ref mtr, .int (nI n), .int (nI k), .int (nI al), .int (nI be), .int ea, .int pr, .ref mas, .int nq, .int po, .int (nI en), .ref mso, .ref mon, .ref mot, .ref man, .int th, .int xd, .ref mst, .ref msm, .ref mtb, .ref mti, .ref mfr, .ref mbn, .ref mbs, .ref mde, .int sF, .int sN, .int sS, .int ig, .long xa, .long xb, .ref maa, .ref mab, .ref mba, .ref mbb])), (ms, .inl (cs 0, 288, .inl f))] := hD
                refine lv_aload_n hx hb dX12_numberOf_124 rfl (lv_at hl 3 rfl) ?_
                refine xget C hP 7 rfl rfl zuX12 21 (by decide) zw5_234 rfl dX12_numberOf_125 ?_
                refine lv_iload_n hx hb dX12_numberOf_128 rfl (lv_at hl 4 rfl) ?_
                refine lv_dup2_11 hx hb dX12_numberOf_129 rfl rfl ?_
                refine xiald C hP 6 rfl g0 rfl (by omega) (by decide) dX12_numberOf_130 ?_
                refine lv_topi (nm_r (e' := nI sz) hsm ?_)
                refine lv_iconst (v := nI 1) hx hb dX12_numberOf_131 (by decide) ?_
                refine lv_iadd hx hb dX12_numberOf_132 ?_
                refine lv_topi (nm_r (e' := nI (sz + 1)) (nI_add _ _) ?_)
                refine xiast C hP hD hS 6 rfl g0 rfl (by omega) (by decide) dX12_numberOf_133 ?_
                clear hP hD hS
                try clear locs
                try clear H
                intro H locs hP hD hS
                replace hP : va_P D vwCl [(mst, .inl (cs 5, 2, .inr (.inr (.inr (.inr fst))))), (qs, .inl (cs 0, 96048, .inl s9)), (mtb, .inl (cs 5, 2, .inr (.inr (.inr (.inr ftb))))), (qt, .inl (cs 0, 8192, .inl tf)), (mti, .inl (cs 6, 2, .inr (.inr (.inr (.inr fti))))), (qi, .inl (cs 1, 2001, .inr (.inl (vp_updL tif sz 0)))), (msm, .inl (cs 0, 2, .inl (upd smf g0 (nI (sz + 1))))), (hm, .inr (12, [.ref ms, .ref mkp, .int (nI km), .ref mtr, .int (nI n), .int (nI k), .int (nI al), .int (nI be), .int ea, .int pr, .ref mas, .int nq, .int po, .int (nI en), .ref mso, .ref mon, .ref mot, .ref man, .int th, .int xd, .ref mst, .ref msm, .ref mtb, .ref mti, .ref mfr, .ref mbn, .ref mbs, .ref mde, .int sF, .int sN, .int sS, .int ig, .long xa, .long xb, .ref maa, .ref mab, .ref mba, .ref mbb])), (ms, .inl (cs 0, 288, .inl f))] H := hP
                replace hD : va_D A [(mst, .inl (cs 5, 2, .inr (.inr (.inr (.inr fst))))), (qs, .inl (cs 0, 96048, .inl s9)), (mtb, .inl (cs 5, 2, .inr (.inr (.inr (.inr ftb))))), (qt, .inl (cs 0, 8192, .inl tf)), (mti, .inl (cs 6, 2, .inr (.inr (.inr (.inr fti))))), (qi, .inl (cs 1, 2001, .inr (.inl (vp_updL tif sz 0)))), (msm, .inl (cs 0, 2, .inl (upd smf g0 (nI (sz + 1))))), (hm, .inr (12, [.ref ms, .ref mkp, .int (nI km), .ref mtr, .int (nI n), .int (nI k), .int (nI al), .int (nI be), .int ea, .int pr, .ref mas, .int nq, .int po, .int (nI en), .ref mso, .ref mon, .ref mot, .ref man, .int th, .int xd, .ref mst, .ref msm, .ref mtb, .ref mti, .ref mfr, .ref mbn, .ref mbs, .ref mde, .int sF, .int sN, .int sS, .int ig, .long xa, .long xb, .ref maa, .ref mab, .ref mba, .ref mbb])), (ms, .inl (cs 0, 288, .inl f))] := hD
                refine lv_aload_n hx hb dX12_numberOf_134 rfl (lv_at hl 3 rfl) ?_
                refine xget C hP 7 rfl rfl zuX12 22 (by decide) zw5_235 rfl dX12_numberOf_135 ?_
                refine lv_iload_n hx hb dX12_numberOf_138 rfl (lv_at hl 4 rfl) ?_
                refine xaald C hP 2 5 rfl rfl rfl g0 rfl (by omega) (by decide) hft dX12_numberOf_139 ?_
                refine lv_iload_n hx hb dX12_numberOf_140 rfl (lv_at hl 2 rfl) ?_
                refine lv_iload hx hb dX12_numberOf_141 (lv_at hl 1 rfl) ?_
                refine lv_iconst (v := nI 1) hx hb dX12_numberOf_143 (by decide) ?_
                refine lv_iadd hx hb dX12_numberOf_144 ?_
                refine lv_topi (nm_r (e' := nI (sz + 1)) (nI_add _ _) ?_)
                refine xiast C hP hD hS 3 rfl ((k0 + c9) % 8192) rfl (by omega) (by decide) dX12_numberOf_145 ?_
                clear hP hD hS
                try clear locs
                try clear H
                intro H locs hP hD hS
                replace hP : va_P D vwCl [(mst, .inl (cs 5, 2, .inr (.inr (.inr (.inr fst))))), (qs, .inl (cs 0, 96048, .inl s9)), (mtb, .inl (cs 5, 2, .inr (.inr (.inr (.inr ftb))))), (qt, .inl (cs 0, 8192, .inl (upd tf ((k0 + c9) % 8192) (nI (sz + 1))))), (mti, .inl (cs 6, 2, .inr (.inr (.inr (.inr fti))))), (qi, .inl (cs 1, 2001, .inr (.inl (vp_updL tif sz 0)))), (msm, .inl (cs 0, 2, .inl (upd smf g0 (nI (sz + 1))))), (hm, .inr (12, [.ref ms, .ref mkp, .int (nI km), .ref mtr, .int (nI n), .int (nI k), .int (nI al), .int (nI be), .int ea, .int pr, .ref mas, .int nq, .int po, .int (nI en), .ref mso, .ref mon, .ref mot, .ref man, .int th, .int xd, .ref mst, .ref msm, .ref mtb, .ref mti, .ref mfr, .ref mbn, .ref mbs, .ref mde, .int sF, .int sN, .int sS, .int ig, .long xa, .long xb, .ref maa, .ref mab, .ref mba, .ref mbb])), (ms, .inl (cs 0, 288, .inl f))] H := hP
                replace hD : va_D A [(mst, .inl (cs 5, 2, .inr (.inr (.inr (.inr fst))))), (qs, .inl (cs 0, 96048, .inl s9)), (mtb, .inl (cs 5, 2, .inr (.inr (.inr (.inr ftb))))), (qt, .inl (cs 0, 8192, .inl (upd tf ((k0 + c9) % 8192) (nI (sz + 1))))), (mti, .inl (cs 6, 2, .inr (.inr (.inr (.inr fti))))), (qi, .inl (cs 1, 2001, .inr (.inl (vp_updL tif sz 0)))), (msm, .inl (cs 0, 2, .inl (upd smf g0 (nI (sz + 1))))), (hm, .inr (12, [.ref ms, .ref mkp, .int (nI km), .ref mtr, .int (nI n), .int (nI k), .int (nI al), .int (nI be), .int ea, .int pr, .ref mas, .int nq, .int po, .int (nI en), .ref mso, .ref mon, .ref mot, .ref man, .int th, .int xd, .ref mst, .ref msm, .ref mtb, .ref mti, .ref mfr, .ref mbn, .ref mbs, .ref mde, .int sF, .int sN, .int sS, .int ig, .long xa, .long xb, .ref maa, .ref mab, .ref mba, .ref mbb])), (ms, .inl (cs 0, 288, .inl f))] := hD
                refine lv_iload hx hb dX12_numberOf_146 (lv_at hl 1 rfl) ?_
                exact xreti C (⟨(sz + 1), s9, (upd tf ((k0 + c9) % 8192) (nI (sz + 1))), (upd smf g0 (nI (sz + 1))), (vp_updL tif sz 0)⟩) (⟨Or.inr ⟨sz, by omega, rfl⟩, by omega, by omega, stQ_end (by have qq : o = 48 := (by omega); subst qq; exact hs9), tab_upd htp (by omega), smz_next⟩) (xP_map hP [7, 8, 0, 1, 2, 3, 4, 5, 6] rfl) (hD.sub [7, 8, 0, 1, 2, 3, 4, 5, 6] (by decide +kernel) rfl) hS (Nat.le_of_ble_eq_true rfl) (Nat.le_of_ble_eq_true rfl) rfl dX12_numberOf_148
              · -- 83 f
                have fc_7 : o < 48 := nf_nle (by omega) (by omega) c_7
                refine lv_aload_n hx hb dX12_numberOf_86 rfl (lv_at hl 3 rfl) ?_
                refine xget C hP 7 rfl rfl zuX12 20 (by decide) zw5_233 rfl dX12_numberOf_87 ?_
                refine lv_iload_n hx hb dX12_numberOf_90 rfl (lv_at hl 4 rfl) ?_
                refine xaald C hP 0 5 rfl rfl rfl g0 rfl (by omega) (by decide) hfs dX12_numberOf_91 ?_
                refine lv_bipush (v := nI 48) hx hb dX12_numberOf_92 (by decide) ?_
                refine lv_iload hx hb dX12_numberOf_94 (lv_at hl 1 rfl) ?_
                refine lv_imul hx hb dX12_numberOf_96 ?_
                refine lv_topi (nm_r (e' := nI (48 * sz)) (pk_mul _ _) ?_)
                refine lv_iload hx hb dX12_numberOf_97 (lv_at hl 0 rfl) ?_
                refine lv_iadd hx hb dX12_numberOf_99 ?_
                refine lv_topi (nm_r (e' := nI ((48 * sz) + o)) (nI_add _ _) ?_)
                refine lv_aload_n hx hb dX12_numberOf_100 rfl (lv_at hl 3 rfl) ?_
                refine xget C hP 7 rfl rfl zuX12 0 (by decide) zw5_213 rfl dX12_numberOf_101 ?_
                refine lv_iload hx hb dX12_numberOf_104 (lv_at hl 0 rfl) ?_
                refine xiald C hP 8 rfl o rfl (by omega) (by decide) dX12_numberOf_106 ?_
                refine xiast C hP hD hS 1 rfl ((48 * sz) + o) rfl (by omega) (by decide) dX12_numberOf_107 ?_
                clear hP hD hS
                try clear locs
                try clear H
                intro H locs hP hD hS
                replace hP : va_P D vwCl [(mst, .inl (cs 5, 2, .inr (.inr (.inr (.inr fst))))), (qs, .inl (cs 0, 96048, .inl (upd s9 ((48 * sz) + o) (f o)))), (mtb, .inl (cs 5, 2, .inr (.inr (.inr (.inr ftb))))), (qt, .inl (cs 0, 8192, .inl tf)), (mti, .inl (cs 6, 2, .inr (.inr (.inr (.inr fti))))), (qi, .inl (cs 1, 2001, .inr (.inl tif))), (msm, .inl (cs 0, 2, .inl smf)), (hm, .inr (12, [.ref ms, .ref mkp, .int (nI km), .ref mtr, .int (nI n), .int (nI k), .int (nI al), .int (nI be), .int ea, .int pr, .ref mas, .int nq, .int po, .int (nI en), .ref mso, .ref mon, .ref mot, .ref man, .int th, .int xd, .ref mst, .ref msm, .ref mtb, .ref mti, .ref mfr, .ref mbn, .ref mbs, .ref mde, .int sF, .int sN, .int sS, .int ig, .long xa, .long xb, .ref maa, .ref mab, .ref mba, .ref mbb])), (ms, .inl (cs 0, 288, .inl f))] H := hP
                replace hD : va_D A [(mst, .inl (cs 5, 2, .inr (.inr (.inr (.inr fst))))), (qs, .inl (cs 0, 96048, .inl (upd s9 ((48 * sz) + o) (f o)))), (mtb, .inl (cs 5, 2, .inr (.inr (.inr (.inr ftb))))), (qt, .inl (cs 0, 8192, .inl tf)), (mti, .inl (cs 6, 2, .inr (.inr (.inr (.inr fti))))), (qi, .inl (cs 1, 2001, .inr (.inl tif))), (msm, .inl (cs 0, 2, .inl smf)), (hm, .inr (12, [.ref ms, .ref mkp, .int (nI km), .ref mtr, .int (nI n), .int (nI k), .int (nI al), .int (nI be), .int ea, .int pr, .ref mas, .int nq, .int po, .int (nI en), .ref mso, .ref mon, .ref mot, .ref man, .int th, .int xd, .ref mst, .ref msm, .ref mtb, .ref mti, .ref mfr, .ref mbn, .ref mbs, .ref mde, .int sF, .int sN, .int sS, .int ig, .long xa, .long xb, .ref maa, .ref mab, .ref mba, .ref mbb])), (ms, .inl (cs 0, 288, .inl f))] := hD
                refine lv_iinc (v := nI (o + 1)) (lv' := [(5, .int (nI (o + 1))), (4, .int (nI sz)), (3, .int (nI ((k0 + c9) % 8192))), (0, .ref hm), (1, .int (nI g0)), (2, .int (nI 2000))]) hx hb dX12_numberOf_108 hl (k := 0) rfl (nI_add o 1) (by decide) rfl ?_
                clear hl
                try clear ls
                intro ls hl
                refine lv_goto (tgt := 79) hx hb dX12_numberOf_111 (by decide) ?_
                exact ih_loop_6 (o + 1) (upd s9 ((48 * sz) + o) (f o)) (by omega) (stQ_put hs9 hs (by omega)) (by omega) H locs ls hP hD hS (lv_sub hl [0, 1, 2, 3, 4, 5] rfl)
          exact loop_6 _ 0 sf (by omega) (stQ_0 hst) (Nat.lt_succ_self _) H locs ls hP hD hS (lv_sub hl [0, 1, 2, 3, 4, 5] rfl)
        · -- 63 f
          have fc_5 : sz = 2000 := nf_eq (by omega) (by omega) c_5
          refine lv_iconst (v := (-1)) hx hb dX12_numberOf_66 (by decide) ?_
          exact xreti C (⟨sz, sf, tf, smf, tif⟩) (⟨Or.inl ⟨rfl, by omega⟩, Nat.le_refl _, hzs, hst, htp, smz_same hsm⟩) (xP_map hP [7, 8, 0, 1, 2, 3, 4, 5, 6] rfl) (hD.sub [7, 8, 0, 1, 2, 3, 4, 5, 6] (by decide +kernel) rfl) hS (Nat.le_of_ble_eq_true rfl) (Nat.le_of_ble_eq_true rfl) rfl dX12_numberOf_67
      · -- 13 f
        obtain ⟨m, h_m, hme⟩ : ∃ m, m < sz ∧ tf ((k0 + c9) % 8192) = nI (m + 1) := (htp.1 _ (Nat.mod_lt _ (by decide))).resolve_left (fun q => c_4 (by rw [q]; decide))
        have hnz : ¬ tf ((k0 + c9) % 8192) = nI 0 := fun q => c_4 (by rw [q]; decide)
        refine lv_aload_n hx hb dX12_numberOf_16 rfl (lv_at hl 1 rfl) ?_
        refine lv_iload_n hx hb dX12_numberOf_17 rfl (lv_at hl 2 rfl) ?_
        refine lv_aload_n hx hb dX12_numberOf_18 rfl (lv_at hl 1 rfl) ?_
        refine xget C hP 7 rfl rfl zuX12 22 (by decide) zw5_235 rfl dX12_numberOf_19 ?_
        refine lv_iload_n hx hb dX12_numberOf_22 rfl (lv_at hl 2 rfl) ?_
        refine xaald C hP 2 5 rfl rfl rfl g0 rfl (by omega) (by decide) hft dX12_numberOf_23 ?_
        refine lv_iload_n hx hb dX12_numberOf_24 rfl (lv_at hl 0 rfl) ?_
        refine xiald C hP 3 rfl ((k0 + c9) % 8192) rfl (by omega) (by decide) dX12_numberOf_25 ?_
        refine lv_topi (nm_r (e' := nI (m + 1)) hme ?_)
        refine lv_iconst (v := nI 1) hx hb dX12_numberOf_26 (by decide) ?_
        refine lv_isub hx hb dX12_numberOf_27 ?_
        refine lv_topi (nm_r (e' := nI m) (pk_sub (by omega)) ?_)
        refine xi (wr := [(mtb, .inl (cs 5, 2, .inr (.inr (.inr (.inr ftb))))), (qt, .inl (cs 0, 8192, .inl tf)), (mti, .inl (cs 6, 2, .inr (.inr (.inr (.inr fti))))), (qi, .inl (cs 1, 2001, .inr (.inl tif))), (msm, .inl (cs 0, 2, .inl smf))]) (xV (As := [.int (nI g0), .int (nI m)]) (rest := []) C (c_X12_isAsNow l D cs hm ms mkp mtr mas mso mon mot man mst msm mtb mti mfr mbn mbs mde maa mab mba mbb n k al be km en ea pr nq po th xd sF sN sS ig xa xb f g0 qs m fst sf hg hfs (by omega)) kX12_173 hP hD [7, 8, 0, 1] rfl (by decide +kernel) 0 rfl rfl rfl ⟨Nat.le_of_ble_eq_true rfl, Nat.le_of_ble_eq_true rfl⟩ rfl hl.1 rfl (Nat.le_of_ble_eq_true rfl) dX12_numberOf_28 ⟨Nat.le_of_ble_eq_true rfl, Nat.le_of_ble_eq_true rfl⟩) hP hD hS hA [7, 8, 0, 1] [2, 3, 4, 5, 6] rfl rfl (by decide +kernel) (by decide +kernel) ?_
        clear hP hD hS
        try clear locs
        try clear H
        intro r_8 u_9 H locs hw_r_8 hP hD hS
        have hw_r_8 : (r_8 = nI 0 ∨ r_8 = nI 1) := hw_r_8
        refine W.widen (k := 0) (n := 0) (Nat.le_of_ble_eq_true rfl) (Nat.le_of_ble_eq_true rfl) ?_
        replace hP : va_P D vwCl [(mtb, .inl (cs 5, 2, .inr (.inr (.inr (.inr ftb))))), (qt, .inl (cs 0, 8192, .inl tf)), (mti, .inl (cs 6, 2, .inr (.inr (.inr (.inr fti))))), (qi, .inl (cs 1, 2001, .inr (.inl tif))), (msm, .inl (cs 0, 2, .inl smf)), (hm, .inr (12, [.ref ms, .ref mkp, .int (nI km), .ref mtr, .int (nI n), .int (nI k), .int (nI al), .int (nI be), .int ea, .int pr, .ref mas, .int nq, .int po, .int (nI en), .ref mso, .ref mon, .ref mot, .ref man, .int th, .int xd, .ref mst, .ref msm, .ref mtb, .ref mti, .ref mfr, .ref mbn, .ref mbs, .ref mde, .int sF, .int sN, .int sS, .int ig, .long xa, .long xb, .ref maa, .ref mab, .ref mba, .ref mbb])), (ms, .inl (cs 0, 288, .inl f)), (mst, .inl (cs 5, 2, .inr (.inr (.inr (.inr fst))))), (qs, .inl (cs 0, 96048, .inl sf))] H := hP
        replace hD : va_D A [(mtb, .inl (cs 5, 2, .inr (.inr (.inr (.inr ftb))))), (qt, .inl (cs 0, 8192, .inl tf)), (mti, .inl (cs 6, 2, .inr (.inr (.inr (.inr fti))))), (qi, .inl (cs 1, 2001, .inr (.inl tif))), (msm, .inl (cs 0, 2, .inl smf)), (hm, .inr (12, [.ref ms, .ref mkp, .int (nI km), .ref mtr, .int (nI n), .int (nI k), .int (nI al), .int (nI be), .int ea, .int pr, .ref mas, .int nq, .int po, .int (nI en), .ref mso, .ref mon, .ref mot, .ref man, .int th, .int xd, .ref mst, .ref msm, .ref mtb, .ref mti, .ref mfr, .ref mbn, .ref mbs, .ref mde, .int sF, .int sN, .int sS, .int ig, .long xa, .long xb, .ref maa, .ref mab, .ref mba, .ref mbb])), (ms, .inl (cs 0, 288, .inl f)), (mst, .inl (cs 5, 2, .inr (.inr (.inr (.inr fst))))), (qs, .inl (cs 0, 96048, .inl sf))] := hD
        refine lv_if_eq (tgt := 45) hx hb dX12_numberOf_31 (by decide) (fun c_10 => ?_) (fun c_10 => ?_)
        · -- 31 t
          refine lv_iload_n hx hb dX12_numberOf_45 rfl (lv_at hl 0 rfl) ?_
          refine lv_iconst (v := nI 1) hx hb dX12_numberOf_46 (by decide) ?_
          refine lv_iadd hx hb dX12_numberOf_47 ?_
          refine lv_topi (nm_r (e' := nI (((k0 + c9) % 8192) + 1)) (nI_add _ _) ?_)
          refine lv_sipush (v := nI 8192) hx hb dX12_numberOf_48 (by decide) ?_
          refine lv_irem hx hb dX12_numberOf_51 (by decide) ?_
          refine lv_topi (nm_r (e' := nI ((k0 + (c9 + 1)) % 8192)) ((pk_rem (by omega) (by decide) (by decide)).trans (congrArg nI mod_next)) ?_)
          refine lv_istore_n (lv' := [(3, .int (nI ((k0 + (c9 + 1)) % 8192))), (0, .ref hm), (1, .int (nI g0)), (2, .int (nI 2000))]) hx hb dX12_numberOf_52 rfl hl (by decide) rfl ?_
          clear hl
          try clear ls
          intro ls hl
          refine lv_goto (tgt := 5) hx hb dX12_numberOf_53 (by decide) ?_
          exact ih_loop_3 (c9 + 1) (by omega) (fun i hi => by by_cases q : i = c9; (subst q; exact hnz); exact hv9 i (by omega)) (by omega) H locs ls (xP_map hP [7, 8, 0, 1, 2, 3, 4, 5, 6] rfl) (hD.sub [7, 8, 0, 1, 2, 3, 4, 5, 6] (by decide +kernel) rfl) hS (lv_sub hl [0, 1, 2, 3] rfl)
        · -- 31 f
          refine lv_aload_n hx hb dX12_numberOf_34 rfl (lv_at hl 1 rfl) ?_
          refine xget C hP 5 rfl rfl zuX12 22 (by decide) zw5_235 rfl dX12_numberOf_35 ?_
          refine lv_iload_n hx hb dX12_numberOf_38 rfl (lv_at hl 2 rfl) ?_
          refine xaald C hP 0 5 rfl rfl rfl g0 rfl (by omega) (by decide) hft dX12_numberOf_39 ?_
          refine lv_iload_n hx hb dX12_numberOf_40 rfl (lv_at hl 0 rfl) ?_
          refine xiald C hP 1 rfl ((k0 + c9) % 8192) rfl (by omega) (by decide) dX12_numberOf_41 ?_
          refine lv_topi (nm_r (e' := nI (m + 1)) hme ?_)
          refine lv_iconst (v := nI 1) hx hb dX12_numberOf_42 (by decide) ?_
          refine lv_isub hx hb dX12_numberOf_43 ?_
          refine lv_topi (nm_r (e' := nI m) (pk_sub (by omega)) ?_)
          exact xreti C (⟨sz, sf, tf, smf, tif⟩) (⟨Or.inr ⟨m, h_m, rfl⟩, Nat.le_refl _, hzs, hst, htp, smz_same hsm⟩) (xP_map hP [5, 6, 7, 8, 0, 1, 2, 3, 4] rfl) (hD.sub [5, 6, 7, 8, 0, 1, 2, 3, 4] (by decide +kernel) rfl) hS (Nat.le_of_ble_eq_true rfl) (Nat.le_of_ble_eq_true rfl) rfl dX12_numberOf_44
  exact loop_3 _ 0 (by omega) (fun i hi => absurd hi (Nat.not_lt_zero i)) (Nat.lt_succ_self _) H locs ls hP hD hS (lv_sub hl [0, 1, 2, 3] rfl)
