theorem cur_sm {z g : Nat} {a b m : Nat → Int32} (hg : g < 2) (h : z ≤ 2000 ∧ (g = 0 → stP z a ∧ m 0 = nI z) ∧ (g = 1 → stP z b ∧ m 1 = nI z)) : m g = nI z := by
  rcases (show g = 0 ∨ g = 1 by omega) with rfl | rfl
  · exact (h.2.1 rfl).2
  · exact (h.2.2 rfl).2
def mtoldP (x : Int32) : Prop := ¬ x < nI 1 ∧ x ≤ nI 12
def mreP (n k : Nat) (x : Int32) : Prop := mtoldP x ∧ ¬ wmN n k x.toNatClampNeg < 0
def mexP (n k : Nat) (x y : Int32) : Prop := mreP n k x ∧ (¬ y < nI 0 ∧ y ≤ nI 2) ∧ ¬ y = 0
def mcoP (n k : Nat) (x y : Int32) : Prop := mreP n k x ∧ (¬ y < nI 0 ∧ y ≤ nI n)
theorem mtoldP.nat {x : Int32} (h : mtoldP x) : ∃ t : Nat, t ≤ 12 ∧ x = nI t := nI_of2 (M := nI 12) (by decide) (fun q => h.1 (Int32.lt_trans q (by decide))) h.2
theorem mreP.of {n k t : Nat} (h : mtoldP (nI t)) (ht : t ≤ 12) (hw : ¬ wmN n k t < 0) : mreP n k (nI t) := ⟨h, by rw [nI_clamp (by omega)]; exact hw⟩
theorem mreP.ne {n k t : Nat} (h : mreP n k (nI t)) (ht : t ≤ 12) : ¬ wmN n k t < 0 := by have q := h.2; rw [nI_clamp (by omega)] at q; exact q

set_option maxHeartbeats 4000000 in
set_option maxRecDepth 100000 in
theorem c_X12_counted_n (l : Launch) (D : va_G) (cs : Nat → ClassId) (hm ms mkp mtr mas mso mon mot man mst msm mtb mti mfr mbn mbs mde maa mab mba mbb : Nat) (n k al be km en : Nat) (ea pr nq po th xd sF sN sS ig : Int32) (xa xb : Int64) (f : Nat → Int32) (tf : Nat → Int32) (fst ftb fti : Nat → Option Nat) (smf : Nat → Int32) (t : Nat) (w9 x9 : Int32) (hn : 2 ≤ n ∧ n ≤ 8) (hs : colP f) (hn0 : fst 0 = none) (hn1 : fst 1 = none) (ht : t ≤ 12) : xMet l D cs yX12_counted cX12_counted 9 (some .long) ({ frames := 5, cells := 6, slots := 212482, locals := 120 } : Room) [.ref hm, .int (nI t), .int w9, .int x9] [(hm, .inr (12, [.ref ms, .ref mkp, .int (nI km), .ref mtr, .int (nI n), .int (nI k), .int (nI al), .int (nI be), .int ea, .int pr, .ref mas, .int nq, .int po, .int (nI en), .ref mso, .ref mon, .ref mot, .ref man, .int th, .int xd, .ref mst, .ref msm, .ref mtb, .ref mti, .ref mfr, .ref mbn, .ref mbs, .ref mde, .int sF, .int sN, .int sS, .int ig, .long xa, .long xb, .ref maa, .ref mab, .ref mba, .ref mbb])), (ms, .inl (cs 0, 288, .inl f)), (mtr, .inl (cs 0, 288, .inl tf)), (mst, .inl (cs 5, 2, .inr (.inr (.inr (.inr fst))))), (mtb, .inl (cs 5, 2, .inr (.inr (.inr (.inr ftb))))), (mti, .inl (cs 6, 2, .inr (.inr (.inr (.inr fti))))), (msm, .inl (cs 0, 2, .inl smf))] (xQl D (fun (r : Int64) (u : Nat × Nat × Nat × Nat × Nat × Nat × (Nat → Option Nat) × (Nat → Option Nat) × (Nat → Option Nat) × (Nat → Int32) × (Nat → Int32) × (Nat → Int32) × (Nat → Int32) × (Nat → Int32) × (Nat → Int32) × (Nat → Int32) × (Nat → Int64) × (Nat → Int64)) => match u with | (st0, tb0, ti0, st1, tb1, ti1, fsz, ftz, fiz, fz, tz, s0z, t0z, s1z, t1z, smz, i0z, i1z) => (∀ j, j < 288 → fz j = f j) ∧ fsz 0 = some st0 ∧ fsz 1 = some st1 ∧ ftz 0 = some tb0 ∧ ftz 1 = some tb1 ∧ fiz 0 = some ti0 ∧ fiz 1 = some ti1) (fun (u : Nat × Nat × Nat × Nat × Nat × Nat × (Nat → Option Nat) × (Nat → Option Nat) × (Nat → Option Nat) × (Nat → Int32) × (Nat → Int32) × (Nat → Int32) × (Nat → Int32) × (Nat → Int32) × (Nat → Int32) × (Nat → Int32) × (Nat → Int64) × (Nat → Int64)) => match u with | (st0, tb0, ti0, st1, tb1, ti1, fsz, ftz, fiz, fz, tz, s0z, t0z, s1z, t1z, smz, i0z, i1z) => [(hm, .inr (12, [.ref ms, .ref mkp, .int (nI km), .ref mtr, .int (nI n), .int (nI k), .int (nI al), .int (nI be), .int ea, .int pr, .ref mas, .int nq, .int po, .int (nI en), .ref mso, .ref mon, .ref mot, .ref man, .int th, .int xd, .ref mst, .ref msm, .ref mtb, .ref mti, .ref mfr, .ref mbn, .ref mbs, .ref mde, .int sF, .int sN, .int sS, .int ig, .long xa, .long xb, .ref maa, .ref mab, .ref mba, .ref mbb])), (ms, .inl (cs 0, 288, .inl fz)), (mtr, .inl (cs 0, 288, .inl tz)), (mst, .inl (cs 5, 2, .inr (.inr (.inr (.inr fsz))))), (st0, .inl (cs 0, 96048, .inl s0z)), (st1, .inl (cs 0, 96048, .inl s1z)), (mtb, .inl (cs 5, 2, .inr (.inr (.inr (.inr ftz))))), (tb0, .inl (cs 0, 8192, .inl t0z)), (tb1, .inl (cs 0, 8192, .inl t1z)), (mti, .inl (cs 6, 2, .inr (.inr (.inr (.inr fiz))))), (ti0, .inl (cs 1, 2001, .inr (.inl i0z))), (ti1, .inl (cs 1, 2001, .inr (.inl i1z))), (msm, .inl (cs 0, 2, .inl smz))])) := by
  refine xMet.intro (by decide) (Nat.le_of_ble_eq_true rfl) ?_
  intro p e s m args below meth c A ls C hP hD hS hl
  have hx := C.1
  have hb := C.2.1
  have hz := C.2.2.2.2.1
  have hown := C.2.2.2.1
  have hA := C.2.2.2.2.2.2.2.2.2
  have hAO := C.2.2.2.2.2.2.2.2.1.2.2
  replace hl : lv_has ls 9 [(0, .ref hm), (1, .int (nI t)), (2, .int w9), (3, .int x9)] := hl
  obtain ⟨H, hH⟩ : ∃ H, H = s.heap := ⟨_, rfl⟩
  replace hP : va_P D vwCl [(hm, .inr (12, [.ref ms, .ref mkp, .int (nI km), .ref mtr, .int (nI n), .int (nI k), .int (nI al), .int (nI be), .int ea, .int pr, .ref mas, .int nq, .int po, .int (nI en), .ref mso, .ref mon, .ref mot, .ref man, .int th, .int xd, .ref mst, .ref msm, .ref mtb, .ref mti, .ref mfr, .ref mbn, .ref mbs, .ref mde, .int sF, .int sN, .int sS, .int ig, .long xa, .long xb, .ref maa, .ref mab, .ref mba, .ref mbb])), (ms, .inl (cs 0, 288, .inl f)), (mtr, .inl (cs 0, 288, .inl tf)), (mst, .inl (cs 5, 2, .inr (.inr (.inr (.inr fst))))), (mtb, .inl (cs 5, 2, .inr (.inr (.inr (.inr ftb))))), (mti, .inl (cs 6, 2, .inr (.inr (.inr (.inr fti))))), (msm, .inl (cs 0, 2, .inl smf))] H := by rw [hH]; exact hP
  replace hS : va_S A s.heap H [] := by rw [hH]; exact hS
  obtain ⟨locs, hlocs⟩ : ∃ z : List Loc, z = [] := ⟨_, rfl⟩
  rw [← hlocs] at hS
  suffices hW : W p l e ({ frames := 5, cells := 6, slots := 212482, locals := 120 } : Room) s m args below meth c H locs 0 0 (MQ below ((xQl D (fun (r : Int64) (u : Nat × Nat × Nat × Nat × Nat × Nat × (Nat → Option Nat) × (Nat → Option Nat) × (Nat → Option Nat) × (Nat → Int32) × (Nat → Int32) × (Nat → Int32) × (Nat → Int32) × (Nat → Int32) × (Nat → Int32) × (Nat → Int32) × (Nat → Int64) × (Nat → Int64)) => match u with | (st0, tb0, ti0, st1, tb1, ti1, fsz, ftz, fiz, fz, tz, s0z, t0z, s1z, t1z, smz, i0z, i1z) => (∀ j, j < 288 → fz j = f j) ∧ fsz 0 = some st0 ∧ fsz 1 = some st1 ∧ ftz 0 = some tb0 ∧ ftz 1 = some tb1 ∧ fiz 0 = some ti0 ∧ fiz 1 = some ti1) (fun (u : Nat × Nat × Nat × Nat × Nat × Nat × (Nat → Option Nat) × (Nat → Option Nat) × (Nat → Option Nat) × (Nat → Int32) × (Nat → Int32) × (Nat → Int32) × (Nat → Int32) × (Nat → Int32) × (Nat → Int32) × (Nat → Int32) × (Nat → Int64) × (Nat → Int64)) => match u with | (st0, tb0, ti0, st1, tb1, ti1, fsz, ftz, fiz, fz, tz, s0z, t0z, s1z, t1z, smz, i0z, i1z) => [(hm, .inr (12, [.ref ms, .ref mkp, .int (nI km), .ref mtr, .int (nI n), .int (nI k), .int (nI al), .int (nI be), .int ea, .int pr, .ref mas, .int nq, .int po, .int (nI en), .ref mso, .ref mon, .ref mot, .ref man, .int th, .int xd, .ref mst, .ref msm, .ref mtb, .ref mti, .ref mfr, .ref mbn, .ref mbs, .ref mde, .int sF, .int sN, .int sS, .int ig, .long xa, .long xb, .ref maa, .ref mab, .ref mba, .ref mbb])), (ms, .inl (cs 0, 288, .inl fz)), (mtr, .inl (cs 0, 288, .inl tz)), (mst, .inl (cs 5, 2, .inr (.inr (.inr (.inr fsz))))), (st0, .inl (cs 0, 96048, .inl s0z)), (st1, .inl (cs 0, 96048, .inl s1z)), (mtb, .inl (cs 5, 2, .inr (.inr (.inr (.inr ftz))))), (tb0, .inl (cs 0, 8192, .inl t0z)), (tb1, .inl (cs 0, 8192, .inl t1z)), (mti, .inl (cs 6, 2, .inr (.inr (.inr (.inr fiz))))), (ti0, .inl (cs 1, 2001, .inr (.inl i0z))), (ti1, .inl (cs 1, 2001, .inr (.inl i1z))), (msm, .inl (cs 0, 2, .inl smz))])) A) args s 6 212482 A) (F0 m 0 ls []) by rw [hlocs, hH] at hW; exact hW
  clear hH hlocs
  refine lv_aload_n hx hb dX12_counted_0 rfl (lv_at hl 0 rfl) ?_
  refine lv_iload_n hx hb dX12_counted_1 rfl (lv_at hl 1 rfl) ?_
  refine xi (wr := []) (xV (As := [.int (nI t)]) (rest := []) C (c_X12_goes_n l D cs hm ms mkp mtr mas mso mon mot man mst msm mtb mti mfr mbn mbs mde maa mab mba mbb n k al be km en ea pr nq po th xd sF sN sS ig xa xb f tf fst ftb fti smf t hn hs hn0 hn1 ht) kX12_206 hP hD [0, 1, 2, 3, 4, 5, 6] rfl (by decide +kernel) 0 rfl rfl rfl ⟨Nat.le_of_ble_eq_true rfl, Nat.le_of_ble_eq_true rfl⟩ rfl hl.1 rfl (Nat.le_of_ble_eq_true rfl) dX12_counted_2 ⟨Nat.le_of_ble_eq_true rfl, Nat.le_of_ble_eq_true rfl⟩) hP hD hS hA [0, 1, 2, 3, 4, 5, 6] [] rfl rfl (by decide +kernel) (by decide +kernel) ?_
  clear hP hD hS
  try clear locs
  try clear H
  intro r_1 u_2 H locs hw_r_1 hP hD hS
  obtain ⟨st0_3, tb0_4, ti0_5, st1_6, tb1_7, ti1_8, fsz_9, ftz_10, fiz_11, fz_12, tz_13, s0z_14, t0z_15, s1z_16, t1z_17, smz_18, i0z_19, i1z_20, zz_21⟩ := u_2
  have hw_r_1 : (r_1 = -1 ∨ ∃ g, g < 2 ∧ r_1 = nI g ∧ (zz_21 ≤ 2000 ∧ (g = 0 → stP zz_21 s0z_14 ∧ smz_18 0 = nI zz_21) ∧ (g = 1 → stP zz_21 s1z_16 ∧ smz_18 1 = nI zz_21))) ∧ (∀ j, j < 288 → fz_12 j = f j) ∧ fsz_9 0 = some st0_3 ∧ fsz_9 1 = some st1_6 ∧ ftz_10 0 = some tb0_4 ∧ ftz_10 1 = some tb1_7 ∧ fiz_11 0 = some ti0_5 ∧ fiz_11 1 = some ti1_8 := hw_r_1
  refine W.widen (k := 6) (n := 212482) (Nat.le_of_ble_eq_true rfl) (Nat.le_of_ble_eq_true rfl) ?_
  replace hP : va_P D vwCl [(hm, .inr (12, [.ref ms, .ref mkp, .int (nI km), .ref mtr, .int (nI n), .int (nI k), .int (nI al), .int (nI be), .int ea, .int pr, .ref mas, .int nq, .int po, .int (nI en), .ref mso, .ref mon, .ref mot, .ref man, .int th, .int xd, .ref mst, .ref msm, .ref mtb, .ref mti, .ref mfr, .ref mbn, .ref mbs, .ref mde, .int sF, .int sN, .int sS, .int ig, .long xa, .long xb, .ref maa, .ref mab, .ref mba, .ref mbb])), (ms, .inl (cs 0, 288, .inl fz_12)), (mtr, .inl (cs 0, 288, .inl tz_13)), (mst, .inl (cs 5, 2, .inr (.inr (.inr (.inr fsz_9))))), (st0_3, .inl (cs 0, 96048, .inl s0z_14)), (st1_6, .inl (cs 0, 96048, .inl s1z_16)), (mtb, .inl (cs 5, 2, .inr (.inr (.inr (.inr ftz_10))))), (tb0_4, .inl (cs 0, 8192, .inl t0z_15)), (tb1_7, .inl (cs 0, 8192, .inl t1z_17)), (mti, .inl (cs 6, 2, .inr (.inr (.inr (.inr fiz_11))))), (ti0_5, .inl (cs 1, 2001, .inr (.inl i0z_19))), (ti1_8, .inl (cs 1, 2001, .inr (.inl i1z_20))), (msm, .inl (cs 0, 2, .inl smz_18))] H := hP
  replace hD : va_D A [(hm, .inr (12, [.ref ms, .ref mkp, .int (nI km), .ref mtr, .int (nI n), .int (nI k), .int (nI al), .int (nI be), .int ea, .int pr, .ref mas, .int nq, .int po, .int (nI en), .ref mso, .ref mon, .ref mot, .ref man, .int th, .int xd, .ref mst, .ref msm, .ref mtb, .ref mti, .ref mfr, .ref mbn, .ref mbs, .ref mde, .int sF, .int sN, .int sS, .int ig, .long xa, .long xb, .ref maa, .ref mab, .ref mba, .ref mbb])), (ms, .inl (cs 0, 288, .inl fz_12)), (mtr, .inl (cs 0, 288, .inl tz_13)), (mst, .inl (cs 5, 2, .inr (.inr (.inr (.inr fsz_9))))), (st0_3, .inl (cs 0, 96048, .inl s0z_14)), (st1_6, .inl (cs 0, 96048, .inl s1z_16)), (mtb, .inl (cs 5, 2, .inr (.inr (.inr (.inr ftz_10))))), (tb0_4, .inl (cs 0, 8192, .inl t0z_15)), (tb1_7, .inl (cs 0, 8192, .inl t1z_17)), (mti, .inl (cs 6, 2, .inr (.inr (.inr (.inr fiz_11))))), (ti0_5, .inl (cs 1, 2001, .inr (.inl i0z_19))), (ti1_8, .inl (cs 1, 2001, .inr (.inl i1z_20))), (msm, .inl (cs 0, 2, .inl smz_18))] := hD
  refine lv_istore (lv' := [(4, .int r_1), (0, .ref hm), (1, .int (nI t)), (2, .int w9), (3, .int x9)]) hx hb dX12_counted_5 hl (by decide) rfl ?_
  clear hl
  try clear ls
  intro ls hl
  refine lv_iload hx hb dX12_counted_7 (lv_at hl 0 rfl) ?_
  refine lv_if_ge (tgt := 16) hx hb dX12_counted_9 (by decide) (fun c_22 => ?_) (fun c_22 => ?_)
  · -- 9 t
    obtain ⟨g0, hg0, rfl, hcur⟩ := hw_r_1.1.resolve_left (fun q => by rw [q] at c_22; exact absurd c_22 (by decide))
    replace hP : va_P D vwCl [(hm, .inr (12, [.ref ms, .ref mkp, .int (nI km), .ref mtr, .int (nI n), .int (nI k), .int (nI al), .int (nI be), .int ea, .int pr, .ref mas, .int nq, .int po, .int (nI en), .ref mso, .ref mon, .ref mot, .ref man, .int th, .int xd, .ref mst, .ref msm, .ref mtb, .ref mti, .ref mfr, .ref mbn, .ref mbs, .ref mde, .int sF, .int sN, .int sS, .int ig, .long xa, .long xb, .ref maa, .ref mab, .ref mba, .ref mbb])), (ms, .inl (cs 0, 288, .inl fz_12)), (mtr, .inl (cs 0, 288, .inl tz_13)), (mst, .inl (cs 5, 2, .inr (.inr (.inr (.inr fsz_9))))), (st0_3, .inl (cs 0, 96048, .inl s0z_14)), (st1_6, .inl (cs 0, 96048, .inl s1z_16)), (mtb, .inl (cs 5, 2, .inr (.inr (.inr (.inr ftz_10))))), (tb0_4, .inl (cs 0, 8192, .inl t0z_15)), (tb1_7, .inl (cs 0, 8192, .inl t1z_17)), (mti, .inl (cs 6, 2, .inr (.inr (.inr (.inr fiz_11))))), (ti0_5, .inl (cs 1, 2001, .inr (.inl i0z_19))), (ti1_8, .inl (cs 1, 2001, .inr (.inl i1z_20))), (msm, .inl (cs 0, 2, .inl smz_18))] H := hP
    replace hD : va_D A [(hm, .inr (12, [.ref ms, .ref mkp, .int (nI km), .ref mtr, .int (nI n), .int (nI k), .int (nI al), .int (nI be), .int ea, .int pr, .ref mas, .int nq, .int po, .int (nI en), .ref mso, .ref mon, .ref mot, .ref man, .int th, .int xd, .ref mst, .ref msm, .ref mtb, .ref mti, .ref mfr, .ref mbn, .ref mbs, .ref mde, .int sF, .int sN, .int sS, .int ig, .long xa, .long xb, .ref maa, .ref mab, .ref mba, .ref mbb])), (ms, .inl (cs 0, 288, .inl fz_12)), (mtr, .inl (cs 0, 288, .inl tz_13)), (mst, .inl (cs 5, 2, .inr (.inr (.inr (.inr fsz_9))))), (st0_3, .inl (cs 0, 96048, .inl s0z_14)), (st1_6, .inl (cs 0, 96048, .inl s1z_16)), (mtb, .inl (cs 5, 2, .inr (.inr (.inr (.inr ftz_10))))), (tb0_4, .inl (cs 0, 8192, .inl t0z_15)), (tb1_7, .inl (cs 0, 8192, .inl t1z_17)), (mti, .inl (cs 6, 2, .inr (.inr (.inr (.inr fiz_11))))), (ti0_5, .inl (cs 1, 2001, .inr (.inl i0z_19))), (ti1_8, .inl (cs 1, 2001, .inr (.inl i1z_20))), (msm, .inl (cs 0, 2, .inl smz_18))] := hD
    have hsmg := cur_sm hg0 hcur
    refine lv_aload_n hx hb dX12_counted_16 rfl (lv_at hl 1 rfl) ?_
    refine lv_aload_n hx hb dX12_counted_17 rfl (lv_at hl 1 rfl) ?_
    refine xget C hP 0 rfl rfl zuX12 0 (by decide) zw5_213 rfl dX12_counted_18 ?_
    refine lv_aload_n hx hb dX12_counted_21 rfl (lv_at hl 1 rfl) ?_
    refine xget C hP 0 rfl rfl zuX12 3 (by decide) zw5_216 rfl dX12_counted_22 ?_
    refine xv (wr := [(mst, .inl (cs 5, 2, .inr (.inr (.inr (.inr fsz_9))))), (st0_3, .inl (cs 0, 96048, .inl s0z_14)), (st1_6, .inl (cs 0, 96048, .inl s1z_16)), (mtb, .inl (cs 5, 2, .inr (.inr (.inr (.inr ftz_10))))), (tb0_4, .inl (cs 0, 8192, .inl t0z_15)), (tb1_7, .inl (cs 0, 8192, .inl t1z_17)), (mti, .inl (cs 6, 2, .inr (.inr (.inr (.inr fiz_11))))), (ti0_5, .inl (cs 1, 2001, .inr (.inl i0z_19))), (ti1_8, .inl (cs 1, 2001, .inr (.inl i1z_20))), (msm, .inl (cs 0, 2, .inl smz_18))]) (xV (As := [.ref ms, .ref mtr]) (rest := []) C (c_X12_puts l D cs hm ms mkp mtr mas mso mon mot man mst msm mtb mti mfr mbn mbs mde maa mab mba mbb n k al be km en ea pr nq po th xd sF sN sS ig xa xb ms mtr fz_12 tz_13) kX12_148 hP hD [0, 1, 2] rfl (by decide +kernel) 0 rfl rfl rfl ⟨Nat.le_of_ble_eq_true rfl, Nat.le_of_ble_eq_true rfl⟩ rfl hl.1 rfl (Nat.le_of_ble_eq_true rfl) dX12_counted_25 ⟨Nat.le_of_ble_eq_true rfl, Nat.le_of_ble_eq_true rfl⟩) hP hD hS hA [0, 1, 2] [3, 4, 5, 6, 7, 8, 9, 10, 11, 12] rfl rfl (by decide +kernel) (by decide +kernel) ?_
    clear hP hD hS
    try clear locs
    try clear H
    intro u_24 H locs hw_r_23 hP hD hS
    have hw_r_23 : ∀ j, j < 288 → u_24 j = fz_12 j := hw_r_23
    refine W.widen (k := 6) (n := 212482) (Nat.le_of_ble_eq_true rfl) (Nat.le_of_ble_eq_true rfl) ?_
    replace hP : va_P D vwCl [(mst, .inl (cs 5, 2, .inr (.inr (.inr (.inr fsz_9))))), (st0_3, .inl (cs 0, 96048, .inl s0z_14)), (st1_6, .inl (cs 0, 96048, .inl s1z_16)), (mtb, .inl (cs 5, 2, .inr (.inr (.inr (.inr ftz_10))))), (tb0_4, .inl (cs 0, 8192, .inl t0z_15)), (tb1_7, .inl (cs 0, 8192, .inl t1z_17)), (mti, .inl (cs 6, 2, .inr (.inr (.inr (.inr fiz_11))))), (ti0_5, .inl (cs 1, 2001, .inr (.inl i0z_19))), (ti1_8, .inl (cs 1, 2001, .inr (.inl i1z_20))), (msm, .inl (cs 0, 2, .inl smz_18)), (hm, .inr (12, [.ref ms, .ref mkp, .int (nI km), .ref mtr, .int (nI n), .int (nI k), .int (nI al), .int (nI be), .int ea, .int pr, .ref mas, .int nq, .int po, .int (nI en), .ref mso, .ref mon, .ref mot, .ref man, .int th, .int xd, .ref mst, .ref msm, .ref mtb, .ref mti, .ref mfr, .ref mbn, .ref mbs, .ref mde, .int sF, .int sN, .int sS, .int ig, .long xa, .long xb, .ref maa, .ref mab, .ref mba, .ref mbb])), (ms, .inl (cs 0, 288, .inl fz_12)), (mtr, .inl (cs 0, 288, .inl u_24))] H := hP
    replace hD : va_D A [(mst, .inl (cs 5, 2, .inr (.inr (.inr (.inr fsz_9))))), (st0_3, .inl (cs 0, 96048, .inl s0z_14)), (st1_6, .inl (cs 0, 96048, .inl s1z_16)), (mtb, .inl (cs 5, 2, .inr (.inr (.inr (.inr ftz_10))))), (tb0_4, .inl (cs 0, 8192, .inl t0z_15)), (tb1_7, .inl (cs 0, 8192, .inl t1z_17)), (mti, .inl (cs 6, 2, .inr (.inr (.inr (.inr fiz_11))))), (ti0_5, .inl (cs 1, 2001, .inr (.inl i0z_19))), (ti1_8, .inl (cs 1, 2001, .inr (.inl i1z_20))), (msm, .inl (cs 0, 2, .inl smz_18)), (hm, .inr (12, [.ref ms, .ref mkp, .int (nI km), .ref mtr, .int (nI n), .int (nI k), .int (nI al), .int (nI be), .int ea, .int pr, .ref mas, .int nq, .int po, .int (nI en), .ref mso, .ref mon, .ref mot, .ref man, .int th, .int xd, .ref mst, .ref msm, .ref mtb, .ref mti, .ref mfr, .ref mbn, .ref mbs, .ref mde, .int sF, .int sN, .int sS, .int ig, .long xa, .long xb, .ref maa, .ref mab, .ref mba, .ref mbb])), (ms, .inl (cs 0, 288, .inl fz_12)), (mtr, .inl (cs 0, 288, .inl u_24))] := hD
    refine lv_lconst (v := 0) hx hb dX12_counted_28 (by decide) ?_
    refine lv_lstore (lv' := [(5, .long 0), (4, .int (nI g0)), (0, .ref hm), (1, .int (nI t)), (2, .int w9), (3, .int x9)]) hx hb dX12_counted_29 hl (by decide) rfl ?_
    clear hl
    try clear ls
    intro ls hl
    refine lv_iconst (v := nI 0) hx hb dX12_counted_31 (by decide) ?_
    refine lv_istore (lv' := [(7, .int (nI 0)), (5, .long 0), (4, .int (nI g0)), (0, .ref hm), (1, .int (nI t)), (2, .int w9), (3, .int x9)]) hx hb dX12_counted_32 hl (by decide) rfl ?_
    clear hl
    try clear ls
    intro ls hl
    have loop_25 : ∀ (n_loop_25 : Nat) (o : Nat) (f9 : Nat → Int32) (v9 : Int64), (o ≤ 2000) → 2000 - o < n_loop_25 → ∀ (H : Heap) (locs : List Loc) (ls : Array Slot), va_P D vwCl [(mst, .inl (cs 5, 2, .inr (.inr (.inr (.inr fsz_9))))), (st0_3, .inl (cs 0, 96048, .inl s0z_14)), (st1_6, .inl (cs 0, 96048, .inl s1z_16)), (mtb, .inl (cs 5, 2, .inr (.inr (.inr (.inr ftz_10))))), (tb0_4, .inl (cs 0, 8192, .inl t0z_15)), (tb1_7, .inl (cs 0, 8192, .inl t1z_17)), (mti, .inl (cs 6, 2, .inr (.inr (.inr (.inr fiz_11))))), (ti0_5, .inl (cs 1, 2001, .inr (.inl i0z_19))), (ti1_8, .inl (cs 1, 2001, .inr (.inl i1z_20))), (msm, .inl (cs 0, 2, .inl smz_18)), (hm, .inr (12, [.ref ms, .ref mkp, .int (nI km), .ref mtr, .int (nI n), .int (nI k), .int (nI al), .int (nI be), .int ea, .int pr, .ref mas, .int nq, .int po, .int (nI en), .ref mso, .ref mon, .ref mot, .ref man, .int th, .int xd, .ref mst, .ref msm, .ref mtb, .ref mti, .ref mfr, .ref mbn, .ref mbs, .ref mde, .int sF, .int sN, .int sS, .int ig, .long xa, .long xb, .ref maa, .ref mab, .ref mba, .ref mbb])), (ms, .inl (cs 0, 288, .inl f9)), (mtr, .inl (cs 0, 288, .inl u_24))] H → va_D A [(mst, .inl (cs 5, 2, .inr (.inr (.inr (.inr fsz_9))))), (st0_3, .inl (cs 0, 96048, .inl s0z_14)), (st1_6, .inl (cs 0, 96048, .inl s1z_16)), (mtb, .inl (cs 5, 2, .inr (.inr (.inr (.inr ftz_10))))), (tb0_4, .inl (cs 0, 8192, .inl t0z_15)), (tb1_7, .inl (cs 0, 8192, .inl t1z_17)), (mti, .inl (cs 6, 2, .inr (.inr (.inr (.inr fiz_11))))), (ti0_5, .inl (cs 1, 2001, .inr (.inl i0z_19))), (ti1_8, .inl (cs 1, 2001, .inr (.inl i1z_20))), (msm, .inl (cs 0, 2, .inl smz_18)), (hm, .inr (12, [.ref ms, .ref mkp, .int (nI km), .ref mtr, .int (nI n), .int (nI k), .int (nI al), .int (nI be), .int ea, .int pr, .ref mas, .int nq, .int po, .int (nI en), .ref mso, .ref mon, .ref mot, .ref man, .int th, .int xd, .ref mst, .ref msm, .ref mtb, .ref mti, .ref mfr, .ref mbn, .ref mbs, .ref mde, .int sF, .int sN, .int sS, .int ig, .long xa, .long xb, .ref maa, .ref mab, .ref mba, .ref mbb])), (ms, .inl (cs 0, 288, .inl f9)), (mtr, .inl (cs 0, 288, .inl u_24))] → va_S A s.heap H locs → lv_has ls 9 [(7, .int (nI o)), (5, .long v9), (4, .int (nI g0)), (0, .ref hm), (1, .int (nI t)), (2, .int w9), (3, .int x9)] → W p l e ({ frames := 5, cells := 6, slots := 212482, locals := 120 } : Room) s m args below meth c H locs 6 212482 (MQ below ((xQl D (fun (r : Int64) (u : Nat × Nat × Nat × Nat × Nat × Nat × (Nat → Option Nat) × (Nat → Option Nat) × (Nat → Option Nat) × (Nat → Int32) × (Nat → Int32) × (Nat → Int32) × (Nat → Int32) × (Nat → Int32) × (Nat → Int32) × (Nat → Int32) × (Nat → Int64) × (Nat → Int64)) => match u with | (st0, tb0, ti0, st1, tb1, ti1, fsz, ftz, fiz, fz, tz, s0z, t0z, s1z, t1z, smz, i0z, i1z) => (∀ j, j < 288 → fz j = f j) ∧ fsz 0 = some st0 ∧ fsz 1 = some st1 ∧ ftz 0 = some tb0 ∧ ftz 1 = some tb1 ∧ fiz 0 = some ti0 ∧ fiz 1 = some ti1) (fun (u : Nat × Nat × Nat × Nat × Nat × Nat × (Nat → Option Nat) × (Nat → Option Nat) × (Nat → Option Nat) × (Nat → Int32) × (Nat → Int32) × (Nat → Int32) × (Nat → Int32) × (Nat → Int32) × (Nat → Int32) × (Nat → Int32) × (Nat → Int64) × (Nat → Int64)) => match u with | (st0, tb0, ti0, st1, tb1, ti1, fsz, ftz, fiz, fz, tz, s0z, t0z, s1z, t1z, smz, i0z, i1z) => [(hm, .inr (12, [.ref ms, .ref mkp, .int (nI km), .ref mtr, .int (nI n), .int (nI k), .int (nI al), .int (nI be), .int ea, .int pr, .ref mas, .int nq, .int po, .int (nI en), .ref mso, .ref mon, .ref mot, .ref man, .int th, .int xd, .ref mst, .ref msm, .ref mtb, .ref mti, .ref mfr, .ref mbn, .ref mbs, .ref mde, .int sF, .int sN, .int sS, .int ig, .long xa, .long xb, .ref maa, .ref mab, .ref mba, .ref mbb])), (ms, .inl (cs 0, 288, .inl fz)), (mtr, .inl (cs 0, 288, .inl tz)), (mst, .inl (cs 5, 2, .inr (.inr (.inr (.inr fsz))))), (st0, .inl (cs 0, 96048, .inl s0z)), (st1, .inl (cs 0, 96048, .inl s1z)), (mtb, .inl (cs 5, 2, .inr (.inr (.inr (.inr ftz))))), (tb0, .inl (cs 0, 8192, .inl t0z)), (tb1, .inl (cs 0, 8192, .inl t1z)), (mti, .inl (cs 6, 2, .inr (.inr (.inr (.inr fiz))))), (ti0, .inl (cs 1, 2001, .inr (.inl i0z))), (ti1, .inl (cs 1, 2001, .inr (.inl i1z))), (msm, .inl (cs 0, 2, .inl smz))])) A) args s 6 212482 A) (F0 m 34 ls []) := by
      intro n_loop_25
      induction n_loop_25 with
      | zero => intro o f9 v9 h_o hlt H locs ls hP hD hS hl; exact absurd hlt (Nat.not_lt_zero _)
      | succ n_loop_25 ih_loop_25 =>
        intro o f9 v9 h_o hlt_loop_25 H locs ls hP hD hS hl
        refine lv_iload hx hb dX12_counted_34 (lv_at hl 0 rfl) ?_
        refine lv_aload_n hx hb dX12_counted_36 rfl (lv_at hl 3 rfl) ?_
        refine xget C hP 10 rfl rfl zuX12 21 (by decide) zw5_234 rfl dX12_counted_37 ?_
        refine lv_iload hx hb dX12_counted_40 (lv_at hl 2 rfl) ?_
        refine xiald C hP 9 rfl g0 rfl (by omega) (by decide) dX12_counted_42 ?_
        refine lv_topi (nm_r (e' := nI zz_21) hsmg ?_)
        refine lv_icmp_ge (tgt := 122) hx hb dX12_counted_43 (by decide) (fun c_26 => ?_) (fun c_26 => ?_)
        · -- 43 t
          have fc_26 : zz_21 ≤ o := nf_le (by omega) (by omega) c_26
          refine lv_aload_n hx hb dX12_counted_122 rfl (lv_at hl 3 rfl) ?_
          refine lv_aload_n hx hb dX12_counted_123 rfl (lv_at hl 3 rfl) ?_
          refine xget C hP 10 rfl rfl zuX12 3 (by decide) zw5_216 rfl dX12_counted_124 ?_
          refine lv_aload_n hx hb dX12_counted_127 rfl (lv_at hl 3 rfl) ?_
          refine xget C hP 10 rfl rfl zuX12 0 (by decide) zw5_213 rfl dX12_counted_128 ?_
          refine xv (wr := [(mst, .inl (cs 5, 2, .inr (.inr (.inr (.inr fsz_9))))), (st0_3, .inl (cs 0, 96048, .inl s0z_14)), (st1_6, .inl (cs 0, 96048, .inl s1z_16)), (mtb, .inl (cs 5, 2, .inr (.inr (.inr (.inr ftz_10))))), (tb0_4, .inl (cs 0, 8192, .inl t0z_15)), (tb1_7, .inl (cs 0, 8192, .inl t1z_17)), (mti, .inl (cs 6, 2, .inr (.inr (.inr (.inr fiz_11))))), (ti0_5, .inl (cs 1, 2001, .inr (.inl i0z_19))), (ti1_8, .inl (cs 1, 2001, .inr (.inl i1z_20))), (msm, .inl (cs 0, 2, .inl smz_18))]) (xV (As := [.ref mtr, .ref ms]) (rest := []) C (c_X12_puts l D cs hm ms mkp mtr mas mso mon mot man mst msm mtb mti mfr mbn mbs mde maa mab mba mbb n k al be km en ea pr nq po th xd sF sN sS ig xa xb mtr ms u_24 f9) kX12_148 hP hD [10, 12, 11] rfl (by decide +kernel) 0 rfl rfl rfl ⟨Nat.le_of_ble_eq_true rfl, Nat.le_of_ble_eq_true rfl⟩ rfl hl.1 rfl (Nat.le_of_ble_eq_true rfl) dX12_counted_131 ⟨Nat.le_of_ble_eq_true rfl, Nat.le_of_ble_eq_true rfl⟩) hP hD hS hA [10, 12, 11] [0, 1, 2, 3, 4, 5, 6, 7, 8, 9] rfl rfl (by decide +kernel) (by decide +kernel) ?_
          clear hP hD hS
          try clear locs
          try clear H
          intro u_28 H locs hw_r_27 hP hD hS
          have hw_r_27 : ∀ j, j < 288 → u_28 j = u_24 j := hw_r_27
          refine W.widen (k := 6) (n := 212482) (Nat.le_of_ble_eq_true rfl) (Nat.le_of_ble_eq_true rfl) ?_
          replace hP : va_P D vwCl [(mst, .inl (cs 5, 2, .inr (.inr (.inr (.inr fsz_9))))), (st0_3, .inl (cs 0, 96048, .inl s0z_14)), (st1_6, .inl (cs 0, 96048, .inl s1z_16)), (mtb, .inl (cs 5, 2, .inr (.inr (.inr (.inr ftz_10))))), (tb0_4, .inl (cs 0, 8192, .inl t0z_15)), (tb1_7, .inl (cs 0, 8192, .inl t1z_17)), (mti, .inl (cs 6, 2, .inr (.inr (.inr (.inr fiz_11))))), (ti0_5, .inl (cs 1, 2001, .inr (.inl i0z_19))), (ti1_8, .inl (cs 1, 2001, .inr (.inl i1z_20))), (msm, .inl (cs 0, 2, .inl smz_18)), (hm, .inr (12, [.ref ms, .ref mkp, .int (nI km), .ref mtr, .int (nI n), .int (nI k), .int (nI al), .int (nI be), .int ea, .int pr, .ref mas, .int nq, .int po, .int (nI en), .ref mso, .ref mon, .ref mot, .ref man, .int th, .int xd, .ref mst, .ref msm, .ref mtb, .ref mti, .ref mfr, .ref mbn, .ref mbs, .ref mde, .int sF, .int sN, .int sS, .int ig, .long xa, .long xb, .ref maa, .ref mab, .ref mba, .ref mbb])), (mtr, .inl (cs 0, 288, .inl u_24)), (ms, .inl (cs 0, 288, .inl u_28))] H := hP
          replace hD : va_D A [(mst, .inl (cs 5, 2, .inr (.inr (.inr (.inr fsz_9))))), (st0_3, .inl (cs 0, 96048, .inl s0z_14)), (st1_6, .inl (cs 0, 96048, .inl s1z_16)), (mtb, .inl (cs 5, 2, .inr (.inr (.inr (.inr ftz_10))))), (tb0_4, .inl (cs 0, 8192, .inl t0z_15)), (tb1_7, .inl (cs 0, 8192, .inl t1z_17)), (mti, .inl (cs 6, 2, .inr (.inr (.inr (.inr fiz_11))))), (ti0_5, .inl (cs 1, 2001, .inr (.inl i0z_19))), (ti1_8, .inl (cs 1, 2001, .inr (.inl i1z_20))), (msm, .inl (cs 0, 2, .inl smz_18)), (hm, .inr (12, [.ref ms, .ref mkp, .int (nI km), .ref mtr, .int (nI n), .int (nI k), .int (nI al), .int (nI be), .int ea, .int pr, .ref mas, .int nq, .int po, .int (nI en), .ref mso, .ref mon, .ref mot, .ref man, .int th, .int xd, .ref mst, .ref msm, .ref mtb, .ref mti, .ref mfr, .ref mbn, .ref mbs, .ref mde, .int sF, .int sN, .int sS, .int ig, .long xa, .long xb, .ref maa, .ref mab, .ref mba, .ref mbb])), (mtr, .inl (cs 0, 288, .inl u_24)), (ms, .inl (cs 0, 288, .inl u_28))] := hD
          refine lv_lload hx hb dX12_counted_134 (lv_at hl 1 rfl) ?_
          exact xretl C (⟨st0_3, tb0_4, ti0_5, st1_6, tb1_7, ti1_8, fsz_9, ftz_10, fiz_11, u_28, u_24, s0z_14, t0z_15, s1z_16, t1z_17, smz_18, i0z_19, i1z_20⟩) (⟨(fun j hj => ((hw_r_27 j hj).trans (hw_r_23 j hj)).trans (hw_r_1.2.1 j hj)), hw_r_1.2.2⟩) (xP_map hP [10, 12, 11, 0, 1, 2, 3, 4, 5, 6, 7, 8, 9] rfl) (hD.sub [10, 12, 11, 0, 1, 2, 3, 4, 5, 6, 7, 8, 9] (by decide +kernel) rfl) hS (Nat.le_of_ble_eq_true rfl) (Nat.le_of_ble_eq_true rfl) dX12_counted_136
        · -- 43 f
          have fc_26 : o < zz_21 := nf_nle (by omega) (by omega) c_26
          rcases (show g0 = 0 ∨ g0 = 1 by omega) with rfl | rfl
          · -- g0 = 0
            replace hP : va_P D vwCl [(mst, .inl (cs 5, 2, .inr (.inr (.inr (.inr fsz_9))))), (st0_3, .inl (cs 0, 96048, .inl s0z_14)), (st1_6, .inl (cs 0, 96048, .inl s1z_16)), (mtb, .inl (cs 5, 2, .inr (.inr (.inr (.inr ftz_10))))), (tb0_4, .inl (cs 0, 8192, .inl t0z_15)), (tb1_7, .inl (cs 0, 8192, .inl t1z_17)), (mti, .inl (cs 6, 2, .inr (.inr (.inr (.inr fiz_11))))), (ti0_5, .inl (cs 1, 2001, .inr (.inl i0z_19))), (ti1_8, .inl (cs 1, 2001, .inr (.inl i1z_20))), (msm, .inl (cs 0, 2, .inl smz_18)), (hm, .inr (12, [.ref ms, .ref mkp, .int (nI km), .ref mtr, .int (nI n), .int (nI k), .int (nI al), .int (nI be), .int ea, .int pr, .ref mas, .int nq, .int po, .int (nI en), .ref mso, .ref mon, .ref mot, .ref man, .int th, .int xd, .ref mst, .ref msm, .ref mtb, .ref mti, .ref mfr, .ref mbn, .ref mbs, .ref mde, .int sF, .int sN, .int sS, .int ig, .long xa, .long xb, .ref maa, .ref mab, .ref mba, .ref mbb])), (ms, .inl (cs 0, 288, .inl f9)), (mtr, .inl (cs 0, 288, .inl u_24))] H := hP
            replace hD : va_D A [(mst, .inl (cs 5, 2, .inr (.inr (.inr (.inr fsz_9))))), (st0_3, .inl (cs 0, 96048, .inl s0z_14)), (st1_6, .inl (cs 0, 96048, .inl s1z_16)), (mtb, .inl (cs 5, 2, .inr (.inr (.inr (.inr ftz_10))))), (tb0_4, .inl (cs 0, 8192, .inl t0z_15)), (tb1_7, .inl (cs 0, 8192, .inl t1z_17)), (mti, .inl (cs 6, 2, .inr (.inr (.inr (.inr fiz_11))))), (ti0_5, .inl (cs 1, 2001, .inr (.inl i0z_19))), (ti1_8, .inl (cs 1, 2001, .inr (.inl i1z_20))), (msm, .inl (cs 0, 2, .inl smz_18)), (hm, .inr (12, [.ref ms, .ref mkp, .int (nI km), .ref mtr, .int (nI n), .int (nI k), .int (nI al), .int (nI be), .int ea, .int pr, .ref mas, .int nq, .int po, .int (nI en), .ref mso, .ref mon, .ref mot, .ref man, .int th, .int xd, .ref mst, .ref msm, .ref mtb, .ref mti, .ref mfr, .ref mbn, .ref mbs, .ref mde, .int sF, .int sN, .int sS, .int ig, .long xa, .long xb, .ref maa, .ref mab, .ref mba, .ref mbb])), (ms, .inl (cs 0, 288, .inl f9)), (mtr, .inl (cs 0, 288, .inl u_24))] := hD
            refine lv_aload_n hx hb dX12_counted_46 rfl (lv_at hl 3 rfl) ?_
            refine lv_iload hx hb dX12_counted_47 (lv_at hl 2 rfl) ?_
            refine lv_iload hx hb dX12_counted_49 (lv_at hl 0 rfl) ?_
            refine xv (wr := [(st1_6, .inl (cs 0, 96048, .inl s1z_16)), (mtb, .inl (cs 5, 2, .inr (.inr (.inr (.inr ftz_10))))), (tb0_4, .inl (cs 0, 8192, .inl t0z_15)), (tb1_7, .inl (cs 0, 8192, .inl t1z_17)), (mti, .inl (cs 6, 2, .inr (.inr (.inr (.inr fiz_11))))), (ti0_5, .inl (cs 1, 2001, .inr (.inl i0z_19))), (ti1_8, .inl (cs 1, 2001, .inr (.inl i1z_20))), (msm, .inl (cs 0, 2, .inl smz_18)), (mtr, .inl (cs 0, 288, .inl u_24))]) (xV (As := [.int (nI 0), .int (nI o)]) (rest := []) C (c_X12_brings l D cs hm ms mkp mtr mas mso mon mot man mst msm mtb mti mfr mbn mbs mde maa mab mba mbb n k al be km en ea pr nq po th xd sF sN sS ig xa xb f9 0 st0_3 o zz_21 fsz_9 s0z_14 (by decide) hw_r_1.2.2.1 (by omega) hcur.1 ((hcur.2.1 rfl).1)) kX12_203 hP hD [10, 11, 0, 1] rfl (by decide +kernel) 0 rfl rfl rfl ⟨Nat.le_of_ble_eq_true rfl, Nat.le_of_ble_eq_true rfl⟩ rfl hl.1 rfl (Nat.le_of_ble_eq_true rfl) dX12_counted_51 ⟨Nat.le_of_ble_eq_true rfl, Nat.le_of_ble_eq_true rfl⟩) hP hD hS hA [10, 11, 0, 1] [2, 3, 4, 5, 6, 7, 8, 9, 12] rfl rfl (by decide +kernel) (by decide +kernel) ?_
            clear hP hD hS
            try clear locs
            try clear H
            intro u_30 H locs hw_r_29 hP hD hS
            have hw_r_29 : colP u_30 ∧ ∀ j, 48 ≤ j → u_30 j = f9 j := hw_r_29
            refine W.widen (k := 6) (n := 212482) (Nat.le_of_ble_eq_true rfl) (Nat.le_of_ble_eq_true rfl) ?_
            replace hP : va_P D vwCl [(st1_6, .inl (cs 0, 96048, .inl s1z_16)), (mtb, .inl (cs 5, 2, .inr (.inr (.inr (.inr ftz_10))))), (tb0_4, .inl (cs 0, 8192, .inl t0z_15)), (tb1_7, .inl (cs 0, 8192, .inl t1z_17)), (mti, .inl (cs 6, 2, .inr (.inr (.inr (.inr fiz_11))))), (ti0_5, .inl (cs 1, 2001, .inr (.inl i0z_19))), (ti1_8, .inl (cs 1, 2001, .inr (.inl i1z_20))), (msm, .inl (cs 0, 2, .inl smz_18)), (mtr, .inl (cs 0, 288, .inl u_24)), (hm, .inr (12, [.ref ms, .ref mkp, .int (nI km), .ref mtr, .int (nI n), .int (nI k), .int (nI al), .int (nI be), .int ea, .int pr, .ref mas, .int nq, .int po, .int (nI en), .ref mso, .ref mon, .ref mot, .ref man, .int th, .int xd, .ref mst, .ref msm, .ref mtb, .ref mti, .ref mfr, .ref mbn, .ref mbs, .ref mde, .int sF, .int sN, .int sS, .int ig, .long xa, .long xb, .ref maa, .ref mab, .ref mba, .ref mbb])), (ms, .inl (cs 0, 288, .inl u_30)), (mst, .inl (cs 5, 2, .inr (.inr (.inr (.inr fsz_9))))), (st0_3, .inl (cs 0, 96048, .inl s0z_14))] H := hP
            replace hD : va_D A [(st1_6, .inl (cs 0, 96048, .inl s1z_16)), (mtb, .inl (cs 5, 2, .inr (.inr (.inr (.inr ftz_10))))), (tb0_4, .inl (cs 0, 8192, .inl t0z_15)), (tb1_7, .inl (cs 0, 8192, .inl t1z_17)), (mti, .inl (cs 6, 2, .inr (.inr (.inr (.inr fiz_11))))), (ti0_5, .inl (cs 1, 2001, .inr (.inl i0z_19))), (ti1_8, .inl (cs 1, 2001, .inr (.inl i1z_20))), (msm, .inl (cs 0, 2, .inl smz_18)), (mtr, .inl (cs 0, 288, .inl u_24)), (hm, .inr (12, [.ref ms, .ref mkp, .int (nI km), .ref mtr, .int (nI n), .int (nI k), .int (nI al), .int (nI be), .int ea, .int pr, .ref mas, .int nq, .int po, .int (nI en), .ref mso, .ref mon, .ref mot, .ref man, .int th, .int xd, .ref mst, .ref msm, .ref mtb, .ref mti, .ref mfr, .ref mbn, .ref mbs, .ref mde, .int sF, .int sN, .int sS, .int ig, .long xa, .long xb, .ref maa, .ref mab, .ref mba, .ref mbb])), (ms, .inl (cs 0, 288, .inl u_30)), (mst, .inl (cs 5, 2, .inr (.inr (.inr (.inr fsz_9))))), (st0_3, .inl (cs 0, 96048, .inl s0z_14))] := hD
            refine lv_iload_n hx hb dX12_counted_54 rfl (lv_at hl 5 rfl) ?_
            refine lv_iconst (v := nI 1) hx hb dX12_counted_55 (by decide) ?_
            refine lv_icmp_ne (tgt := 66) hx hb dX12_counted_56 (by decide) (fun c_31 => ?_) (fun c_31 => ?_)
            · -- 56 t
              refine lv_iload_n hx hb dX12_counted_66 rfl (lv_at hl 5 rfl) ?_
              refine lv_iconst (v := nI 2) hx hb dX12_counted_67 (by decide) ?_
              refine lv_icmp_ne (tgt := 78) hx hb dX12_counted_68 (by decide) (fun c_32 => ?_) (fun c_32 => ?_)
              · -- 68 t
                refine lv_aload_n hx hb dX12_counted_78 rfl (lv_at hl 3 rfl) ?_
                refine xi (wr := [(st1_6, .inl (cs 0, 96048, .inl s1z_16)), (mtb, .inl (cs 5, 2, .inr (.inr (.inr (.inr ftz_10))))), (tb0_4, .inl (cs 0, 8192, .inl t0z_15)), (tb1_7, .inl (cs 0, 8192, .inl t1z_17)), (mti, .inl (cs 6, 2, .inr (.inr (.inr (.inr fiz_11))))), (ti0_5, .inl (cs 1, 2001, .inr (.inl i0z_19))), (ti1_8, .inl (cs 1, 2001, .inr (.inl i1z_20))), (msm, .inl (cs 0, 2, .inl smz_18)), (mtr, .inl (cs 0, 288, .inl u_24)), (mst, .inl (cs 5, 2, .inr (.inr (.inr (.inr fsz_9))))), (st0_3, .inl (cs 0, 96048, .inl s0z_14))]) (xV (As := []) (rest := []) C (c_X12_coloured l D cs hm ms mkp mtr mas mso mon mot man mst msm mtb mti mfr mbn mbs mde maa mab mba mbb n k al be km en ea pr nq po th xd sF sN sS ig xa xb u_30 hn) kX12_218 hP hD [9, 10] rfl (by decide +kernel) 0 rfl rfl rfl ⟨Nat.le_of_ble_eq_true rfl, Nat.le_of_ble_eq_true rfl⟩ rfl hl.1 rfl (Nat.le_of_ble_eq_true rfl) dX12_counted_79 ⟨Nat.le_of_ble_eq_true rfl, Nat.le_of_ble_eq_true rfl⟩) hP hD hS hA [9, 10] [0, 1, 2, 3, 4, 5, 6, 7, 8, 11, 12] rfl rfl (by decide +kernel) (by decide +kernel) ?_
                clear hP hD hS
                try clear locs
                try clear H
                intro r_33 u_34 H locs hw_r_33 hP hD hS
                refine W.widen (k := 6) (n := 212482) (Nat.le_of_ble_eq_true rfl) (Nat.le_of_ble_eq_true rfl) ?_
                replace hP : va_P D vwCl [(st1_6, .inl (cs 0, 96048, .inl s1z_16)), (mtb, .inl (cs 5, 2, .inr (.inr (.inr (.inr ftz_10))))), (tb0_4, .inl (cs 0, 8192, .inl t0z_15)), (tb1_7, .inl (cs 0, 8192, .inl t1z_17)), (mti, .inl (cs 6, 2, .inr (.inr (.inr (.inr fiz_11))))), (ti0_5, .inl (cs 1, 2001, .inr (.inl i0z_19))), (ti1_8, .inl (cs 1, 2001, .inr (.inl i1z_20))), (msm, .inl (cs 0, 2, .inl smz_18)), (mtr, .inl (cs 0, 288, .inl u_24)), (mst, .inl (cs 5, 2, .inr (.inr (.inr (.inr fsz_9))))), (st0_3, .inl (cs 0, 96048, .inl s0z_14)), (hm, .inr (12, [.ref ms, .ref mkp, .int (nI km), .ref mtr, .int (nI n), .int (nI k), .int (nI al), .int (nI be), .int ea, .int pr, .ref mas, .int nq, .int po, .int (nI en), .ref mso, .ref mon, .ref mot, .ref man, .int th, .int xd, .ref mst, .ref msm, .ref mtb, .ref mti, .ref mfr, .ref mbn, .ref mbs, .ref mde, .int sF, .int sN, .int sS, .int ig, .long xa, .long xb, .ref maa, .ref mab, .ref mba, .ref mbb])), (ms, .inl (cs 0, 288, .inl u_30))] H := hP
                replace hD : va_D A [(st1_6, .inl (cs 0, 96048, .inl s1z_16)), (mtb, .inl (cs 5, 2, .inr (.inr (.inr (.inr ftz_10))))), (tb0_4, .inl (cs 0, 8192, .inl t0z_15)), (tb1_7, .inl (cs 0, 8192, .inl t1z_17)), (mti, .inl (cs 6, 2, .inr (.inr (.inr (.inr fiz_11))))), (ti0_5, .inl (cs 1, 2001, .inr (.inl i0z_19))), (ti1_8, .inl (cs 1, 2001, .inr (.inl i1z_20))), (msm, .inl (cs 0, 2, .inl smz_18)), (mtr, .inl (cs 0, 288, .inl u_24)), (mst, .inl (cs 5, 2, .inr (.inr (.inr (.inr fsz_9))))), (st0_3, .inl (cs 0, 96048, .inl s0z_14)), (hm, .inr (12, [.ref ms, .ref mkp, .int (nI km), .ref mtr, .int (nI n), .int (nI k), .int (nI al), .int (nI be), .int ea, .int pr, .ref mas, .int nq, .int po, .int (nI en), .ref mso, .ref mon, .ref mot, .ref man, .int th, .int xd, .ref mst, .ref msm, .ref mtb, .ref mti, .ref mfr, .ref mbn, .ref mbs, .ref mde, .int sF, .int sN, .int sS, .int ig, .long xa, .long xb, .ref maa, .ref mab, .ref mba, .ref mbb])), (ms, .inl (cs 0, 288, .inl u_30))] := hD
                refine xi (wr := [(st1_6, .inl (cs 0, 96048, .inl s1z_16)), (mtb, .inl (cs 5, 2, .inr (.inr (.inr (.inr ftz_10))))), (tb0_4, .inl (cs 0, 8192, .inl t0z_15)), (tb1_7, .inl (cs 0, 8192, .inl t1z_17)), (mti, .inl (cs 6, 2, .inr (.inr (.inr (.inr fiz_11))))), (ti0_5, .inl (cs 1, 2001, .inr (.inl i0z_19))), (ti1_8, .inl (cs 1, 2001, .inr (.inl i1z_20))), (msm, .inl (cs 0, 2, .inl smz_18)), (mtr, .inl (cs 0, 288, .inl u_24)), (mst, .inl (cs 5, 2, .inr (.inr (.inr (.inr fsz_9))))), (st0_3, .inl (cs 0, 96048, .inl s0z_14)), (hm, .inr (12, [.ref ms, .ref mkp, .int (nI km), .ref mtr, .int (nI n), .int (nI k), .int (nI al), .int (nI be), .int ea, .int pr, .ref mas, .int nq, .int po, .int (nI en), .ref mso, .ref mon, .ref mot, .ref man, .int th, .int xd, .ref mst, .ref msm, .ref mtb, .ref mti, .ref mfr, .ref mbn, .ref mbs, .ref mde, .int sF, .int sN, .int sS, .int ig, .long xa, .long xb, .ref maa, .ref mab, .ref mba, .ref mbb])), (ms, .inl (cs 0, 288, .inl u_30))]) (xS (As := [.int r_33]) (rest := []) C (c_X12_many l D cs r_33) kX12_127 hP hD [] rfl (by decide +kernel) ⟨Nat.le_of_ble_eq_true rfl, Nat.le_of_ble_eq_true rfl⟩ rfl hl.1 rfl (Nat.le_of_ble_eq_true rfl) dX12_counted_82 ⟨Nat.le_of_ble_eq_true rfl, Nat.le_of_ble_eq_true rfl⟩) hP hD hS hA [] [0, 1, 2, 3, 4, 5, 6, 7, 8, 9, 10, 11, 12] rfl rfl (by decide +kernel) (by decide +kernel) ?_
                clear hP hD hS
                try clear locs
                try clear H
                intro r_35 u_36 H locs hw_r_35 hP hD hS
                have hw_r_35 : r_35 = nI (cntL r_33 16) := hw_r_35
                refine W.widen (k := 6) (n := 212482) (Nat.le_of_ble_eq_true rfl) (Nat.le_of_ble_eq_true rfl) ?_
                replace hP : va_P D vwCl [(st1_6, .inl (cs 0, 96048, .inl s1z_16)), (mtb, .inl (cs 5, 2, .inr (.inr (.inr (.inr ftz_10))))), (tb0_4, .inl (cs 0, 8192, .inl t0z_15)), (tb1_7, .inl (cs 0, 8192, .inl t1z_17)), (mti, .inl (cs 6, 2, .inr (.inr (.inr (.inr fiz_11))))), (ti0_5, .inl (cs 1, 2001, .inr (.inl i0z_19))), (ti1_8, .inl (cs 1, 2001, .inr (.inl i1z_20))), (msm, .inl (cs 0, 2, .inl smz_18)), (mtr, .inl (cs 0, 288, .inl u_24)), (mst, .inl (cs 5, 2, .inr (.inr (.inr (.inr fsz_9))))), (st0_3, .inl (cs 0, 96048, .inl s0z_14)), (hm, .inr (12, [.ref ms, .ref mkp, .int (nI km), .ref mtr, .int (nI n), .int (nI k), .int (nI al), .int (nI be), .int ea, .int pr, .ref mas, .int nq, .int po, .int (nI en), .ref mso, .ref mon, .ref mot, .ref man, .int th, .int xd, .ref mst, .ref msm, .ref mtb, .ref mti, .ref mfr, .ref mbn, .ref mbs, .ref mde, .int sF, .int sN, .int sS, .int ig, .long xa, .long xb, .ref maa, .ref mab, .ref mba, .ref mbb])), (ms, .inl (cs 0, 288, .inl u_30))] H := hP
                replace hD : va_D A [(st1_6, .inl (cs 0, 96048, .inl s1z_16)), (mtb, .inl (cs 5, 2, .inr (.inr (.inr (.inr ftz_10))))), (tb0_4, .inl (cs 0, 8192, .inl t0z_15)), (tb1_7, .inl (cs 0, 8192, .inl t1z_17)), (mti, .inl (cs 6, 2, .inr (.inr (.inr (.inr fiz_11))))), (ti0_5, .inl (cs 1, 2001, .inr (.inl i0z_19))), (ti1_8, .inl (cs 1, 2001, .inr (.inl i1z_20))), (msm, .inl (cs 0, 2, .inl smz_18)), (mtr, .inl (cs 0, 288, .inl u_24)), (mst, .inl (cs 5, 2, .inr (.inr (.inr (.inr fsz_9))))), (st0_3, .inl (cs 0, 96048, .inl s0z_14)), (hm, .inr (12, [.ref ms, .ref mkp, .int (nI km), .ref mtr, .int (nI n), .int (nI k), .int (nI al), .int (nI be), .int ea, .int pr, .ref mas, .int nq, .int po, .int (nI en), .ref mso, .ref mon, .ref mot, .ref man, .int th, .int xd, .ref mst, .ref msm, .ref mtb, .ref mti, .ref mfr, .ref mbn, .ref mbs, .ref mde, .int sF, .int sN, .int sS, .int ig, .long xa, .long xb, .ref maa, .ref mab, .ref mba, .ref mbb])), (ms, .inl (cs 0, 288, .inl u_30))] := hD
                refine lv_iload_n hx hb dX12_counted_85 rfl (lv_at hl 6 rfl) ?_
                refine lv_icmp_ne (tgt := 93) hx hb dX12_counted_86 (by decide) (fun c_37 => ?_) (fun c_37 => ?_)
                · -- 86 t
                  refine lv_iconst (v := nI 0) hx hb dX12_counted_93 (by decide) ?_
                  refine lv_istore (lv' := [(8, .int (nI 0)), (7, .int (nI o)), (5, .long v9), (4, .int (nI 0)), (0, .ref hm), (1, .int (nI t)), (2, .int w9), (3, .int x9)]) hx hb dX12_counted_94 hl (by decide) rfl ?_
                  clear hl
                  try clear ls
                  intro ls hl
                  refine lv_iload hx hb dX12_counted_96 (lv_at hl 0 rfl) ?_
                  refine lv_if_eq (tgt := 116) hx hb dX12_counted_98 (by decide) (fun _ => ?_) (fun c => absurd (by decide) c)
                  refine lv_iinc (v := nI (o + 1)) (lv' := [(7, .int (nI (o + 1))), (8, .int (nI 0)), (5, .long v9), (4, .int (nI 0)), (0, .ref hm), (1, .int (nI t)), (2, .int w9), (3, .int x9)]) hx hb dX12_counted_116 hl (k := 1) rfl (nI_add o 1) (by decide) rfl ?_
                  clear hl
                  try clear ls
                  intro ls hl
                  refine lv_goto (tgt := 34) hx hb dX12_counted_119 (by decide) ?_
                  exact ih_loop_25 (o + 1) u_30 v9 (by omega) (by omega) H locs ls (xP_map hP [9, 10, 0, 1, 2, 3, 4, 5, 6, 7, 11, 12, 8] rfl) (hD.sub [9, 10, 0, 1, 2, 3, 4, 5, 6, 7, 11, 12, 8] (by decide +kernel) rfl) hS (lv_sub hl [0, 2, 3, 4, 5, 6, 7] rfl)
                · -- 86 f
                  refine lv_iconst (v := nI 1) hx hb dX12_counted_89 (by decide) ?_
                  refine lv_goto (tgt := 94) hx hb dX12_counted_90 (by decide) ?_
                  refine lv_istore (lv' := [(8, .int (nI 1)), (7, .int (nI o)), (5, .long v9), (4, .int (nI 0)), (0, .ref hm), (1, .int (nI t)), (2, .int w9), (3, .int x9)]) hx hb dX12_counted_94 hl (by decide) rfl ?_
                  clear hl
                  try clear ls
                  intro ls hl
                  refine lv_iload hx hb dX12_counted_96 (lv_at hl 0 rfl) ?_
                  refine lv_if_eq (tgt := 116) hx hb dX12_counted_98 (by decide) (fun c => absurd c (by decide)) (fun _ => ?_)
                  refine lv_lload hx hb dX12_counted_101 (lv_at hl 2 rfl) ?_
                  refine lv_aload_n hx hb dX12_counted_103 rfl (lv_at hl 4 rfl) ?_
                  refine xget C hP 11 rfl rfl zuX12 23 (by decide) zw5_236 rfl dX12_counted_104 ?_
                  refine lv_iload hx hb dX12_counted_107 (lv_at hl 3 rfl) ?_
                  refine xaald C hP 4 6 rfl rfl rfl 0 rfl (by decide) (by decide) hw_r_1.2.2.2.2.2.2.1 dX12_counted_109 ?_
                  refine lv_iload hx hb dX12_counted_110 (lv_at hl 1 rfl) ?_
                  refine xlald C hP 5 rfl o rfl (by omega) (by decide) dX12_counted_112 ?_
                  refine lv_ladd hx hb dX12_counted_113 ?_
                  refine lv_lstore (lv' := [(5, .long (v9 + (i0z_19 o))), (8, .int (nI 1)), (7, .int (nI o)), (4, .int (nI 0)), (0, .ref hm), (1, .int (nI t)), (2, .int w9), (3, .int x9)]) hx hb dX12_counted_114 hl (by decide) rfl ?_
                  clear hl
                  try clear ls
                  intro ls hl
                  refine lv_iinc (v := nI (o + 1)) (lv' := [(7, .int (nI (o + 1))), (5, .long (v9 + (i0z_19 o))), (8, .int (nI 1)), (4, .int (nI 0)), (0, .ref hm), (1, .int (nI t)), (2, .int w9), (3, .int x9)]) hx hb dX12_counted_116 hl (k := 2) rfl (nI_add o 1) (by decide) rfl ?_
                  clear hl
                  try clear ls
                  intro ls hl
                  refine lv_goto (tgt := 34) hx hb dX12_counted_119 (by decide) ?_
                  exact ih_loop_25 (o + 1) u_30 (v9 + (i0z_19 o)) (by omega) (by omega) H locs ls (xP_map hP [9, 10, 0, 1, 2, 3, 4, 5, 6, 7, 11, 12, 8] rfl) (hD.sub [9, 10, 0, 1, 2, 3, 4, 5, 6, 7, 11, 12, 8] (by decide +kernel) rfl) hS (lv_sub hl [0, 1, 3, 4, 5, 6, 7] rfl)
              · -- 68 f
                refine lv_aload_n hx hb dX12_counted_71 rfl (lv_at hl 3 rfl) ?_
                refine xi (wr := [(st1_6, .inl (cs 0, 96048, .inl s1z_16)), (mtb, .inl (cs 5, 2, .inr (.inr (.inr (.inr ftz_10))))), (tb0_4, .inl (cs 0, 8192, .inl t0z_15)), (tb1_7, .inl (cs 0, 8192, .inl t1z_17)), (mti, .inl (cs 6, 2, .inr (.inr (.inr (.inr fiz_11))))), (ti0_5, .inl (cs 1, 2001, .inr (.inl i0z_19))), (ti1_8, .inl (cs 1, 2001, .inr (.inl i1z_20))), (msm, .inl (cs 0, 2, .inl smz_18)), (mtr, .inl (cs 0, 288, .inl u_24)), (mst, .inl (cs 5, 2, .inr (.inr (.inr (.inr fsz_9))))), (st0_3, .inl (cs 0, 96048, .inl s0z_14))]) (xV (As := []) (rest := []) C (c_X12_areAgreed l D cs hm ms mkp mtr mas mso mon mot man mst msm mtb mti mfr mbn mbs mde maa mab mba mbb n k al be km en ea pr nq po th xd sF sN sS ig xa xb u_30 hn) kX12_215 hP hD [9, 10] rfl (by decide +kernel) 0 rfl rfl rfl ⟨Nat.le_of_ble_eq_true rfl, Nat.le_of_ble_eq_true rfl⟩ rfl hl.1 rfl (Nat.le_of_ble_eq_true rfl) dX12_counted_72 ⟨Nat.le_of_ble_eq_true rfl, Nat.le_of_ble_eq_true rfl⟩) hP hD hS hA [9, 10] [0, 1, 2, 3, 4, 5, 6, 7, 8, 11, 12] rfl rfl (by decide +kernel) (by decide +kernel) ?_
                clear hP hD hS
                try clear locs
                try clear H
                intro r_38 u_39 H locs hw_r_38 hP hD hS
                have hw_r_38 : (r_38 = nI 0 ∨ r_38 = nI 1) := hw_r_38
                refine W.widen (k := 6) (n := 212482) (Nat.le_of_ble_eq_true rfl) (Nat.le_of_ble_eq_true rfl) ?_
                replace hP : va_P D vwCl [(st1_6, .inl (cs 0, 96048, .inl s1z_16)), (mtb, .inl (cs 5, 2, .inr (.inr (.inr (.inr ftz_10))))), (tb0_4, .inl (cs 0, 8192, .inl t0z_15)), (tb1_7, .inl (cs 0, 8192, .inl t1z_17)), (mti, .inl (cs 6, 2, .inr (.inr (.inr (.inr fiz_11))))), (ti0_5, .inl (cs 1, 2001, .inr (.inl i0z_19))), (ti1_8, .inl (cs 1, 2001, .inr (.inl i1z_20))), (msm, .inl (cs 0, 2, .inl smz_18)), (mtr, .inl (cs 0, 288, .inl u_24)), (mst, .inl (cs 5, 2, .inr (.inr (.inr (.inr fsz_9))))), (st0_3, .inl (cs 0, 96048, .inl s0z_14)), (hm, .inr (12, [.ref ms, .ref mkp, .int (nI km), .ref mtr, .int (nI n), .int (nI k), .int (nI al), .int (nI be), .int ea, .int pr, .ref mas, .int nq, .int po, .int (nI en), .ref mso, .ref mon, .ref mot, .ref man, .int th, .int xd, .ref mst, .ref msm, .ref mtb, .ref mti, .ref mfr, .ref mbn, .ref mbs, .ref mde, .int sF, .int sN, .int sS, .int ig, .long xa, .long xb, .ref maa, .ref mab, .ref mba, .ref mbb])), (ms, .inl (cs 0, 288, .inl u_30))] H := hP
                replace hD : va_D A [(st1_6, .inl (cs 0, 96048, .inl s1z_16)), (mtb, .inl (cs 5, 2, .inr (.inr (.inr (.inr ftz_10))))), (tb0_4, .inl (cs 0, 8192, .inl t0z_15)), (tb1_7, .inl (cs 0, 8192, .inl t1z_17)), (mti, .inl (cs 6, 2, .inr (.inr (.inr (.inr fiz_11))))), (ti0_5, .inl (cs 1, 2001, .inr (.inl i0z_19))), (ti1_8, .inl (cs 1, 2001, .inr (.inl i1z_20))), (msm, .inl (cs 0, 2, .inl smz_18)), (mtr, .inl (cs 0, 288, .inl u_24)), (mst, .inl (cs 5, 2, .inr (.inr (.inr (.inr fsz_9))))), (st0_3, .inl (cs 0, 96048, .inl s0z_14)), (hm, .inr (12, [.ref ms, .ref mkp, .int (nI km), .ref mtr, .int (nI n), .int (nI k), .int (nI al), .int (nI be), .int ea, .int pr, .ref mas, .int nq, .int po, .int (nI en), .ref mso, .ref mon, .ref mot, .ref man, .int th, .int xd, .ref mst, .ref msm, .ref mtb, .ref mti, .ref mfr, .ref mbn, .ref mbs, .ref mde, .int sF, .int sN, .int sS, .int ig, .long xa, .long xb, .ref maa, .ref mab, .ref mba, .ref mbb])), (ms, .inl (cs 0, 288, .inl u_30))] := hD
                refine lv_goto (tgt := 94) hx hb dX12_counted_75 (by decide) ?_
                refine lv_istore (lv' := [(8, .int r_38), (7, .int (nI o)), (5, .long v9), (4, .int (nI 0)), (0, .ref hm), (1, .int (nI t)), (2, .int w9), (3, .int x9)]) hx hb dX12_counted_94 hl (by decide) rfl ?_
                clear hl
                try clear ls
                intro ls hl
                refine lv_iload hx hb dX12_counted_96 (lv_at hl 0 rfl) ?_
                refine lv_if_eq (tgt := 116) hx hb dX12_counted_98 (by decide) (fun c_40 => ?_) (fun c_40 => ?_)
                · -- 98 t
                  refine lv_iinc (v := nI (o + 1)) (lv' := [(7, .int (nI (o + 1))), (8, .int r_38), (5, .long v9), (4, .int (nI 0)), (0, .ref hm), (1, .int (nI t)), (2, .int w9), (3, .int x9)]) hx hb dX12_counted_116 hl (k := 1) rfl (nI_add o 1) (by decide) rfl ?_
                  clear hl
                  try clear ls
                  intro ls hl
                  refine lv_goto (tgt := 34) hx hb dX12_counted_119 (by decide) ?_
                  exact ih_loop_25 (o + 1) u_30 v9 (by omega) (by omega) H locs ls (xP_map hP [9, 10, 0, 1, 2, 3, 4, 5, 6, 7, 11, 12, 8] rfl) (hD.sub [9, 10, 0, 1, 2, 3, 4, 5, 6, 7, 11, 12, 8] (by decide +kernel) rfl) hS (lv_sub hl [0, 2, 3, 4, 5, 6, 7] rfl)
                · -- 98 f
                  refine lv_lload hx hb dX12_counted_101 (lv_at hl 2 rfl) ?_
                  refine lv_aload_n hx hb dX12_counted_103 rfl (lv_at hl 4 rfl) ?_
                  refine xget C hP 11 rfl rfl zuX12 23 (by decide) zw5_236 rfl dX12_counted_104 ?_
                  refine lv_iload hx hb dX12_counted_107 (lv_at hl 3 rfl) ?_
                  refine xaald C hP 4 6 rfl rfl rfl 0 rfl (by decide) (by decide) hw_r_1.2.2.2.2.2.2.1 dX12_counted_109 ?_
                  refine lv_iload hx hb dX12_counted_110 (lv_at hl 1 rfl) ?_
                  refine xlald C hP 5 rfl o rfl (by omega) (by decide) dX12_counted_112 ?_
                  refine lv_ladd hx hb dX12_counted_113 ?_
                  refine lv_lstore (lv' := [(5, .long (v9 + (i0z_19 o))), (8, .int r_38), (7, .int (nI o)), (4, .int (nI 0)), (0, .ref hm), (1, .int (nI t)), (2, .int w9), (3, .int x9)]) hx hb dX12_counted_114 hl (by decide) rfl ?_
                  clear hl
                  try clear ls
                  intro ls hl
                  refine lv_iinc (v := nI (o + 1)) (lv' := [(7, .int (nI (o + 1))), (5, .long (v9 + (i0z_19 o))), (8, .int r_38), (4, .int (nI 0)), (0, .ref hm), (1, .int (nI t)), (2, .int w9), (3, .int x9)]) hx hb dX12_counted_116 hl (k := 2) rfl (nI_add o 1) (by decide) rfl ?_
                  clear hl
                  try clear ls
                  intro ls hl
                  refine lv_goto (tgt := 34) hx hb dX12_counted_119 (by decide) ?_
                  exact ih_loop_25 (o + 1) u_30 (v9 + (i0z_19 o)) (by omega) (by omega) H locs ls (xP_map hP [9, 10, 0, 1, 2, 3, 4, 5, 6, 7, 11, 12, 8] rfl) (hD.sub [9, 10, 0, 1, 2, 3, 4, 5, 6, 7, 11, 12, 8] (by decide +kernel) rfl) hS (lv_sub hl [0, 1, 3, 4, 5, 6, 7] rfl)
            · -- 56 f
              refine lv_aload_n hx hb dX12_counted_59 rfl (lv_at hl 3 rfl) ?_
              refine xi (wr := [(st1_6, .inl (cs 0, 96048, .inl s1z_16)), (mtb, .inl (cs 5, 2, .inr (.inr (.inr (.inr ftz_10))))), (tb0_4, .inl (cs 0, 8192, .inl t0z_15)), (tb1_7, .inl (cs 0, 8192, .inl t1z_17)), (mti, .inl (cs 6, 2, .inr (.inr (.inr (.inr fiz_11))))), (ti0_5, .inl (cs 1, 2001, .inr (.inl i0z_19))), (ti1_8, .inl (cs 1, 2001, .inr (.inl i1z_20))), (msm, .inl (cs 0, 2, .inl smz_18)), (mtr, .inl (cs 0, 288, .inl u_24)), (mst, .inl (cs 5, 2, .inr (.inr (.inr (.inr fsz_9))))), (st0_3, .inl (cs 0, 96048, .inl s0z_14))]) (xV (As := []) (rest := []) C (c_X12_areSplit l D cs hm ms mkp mtr mas mso mon mot man mst msm mtb mti mfr mbn mbs mde maa mab mba mbb n k al be km en ea pr nq po th xd sF sN sS ig xa xb u_30 hn) kX12_211 hP hD [9, 10] rfl (by decide +kernel) 0 rfl rfl rfl ⟨Nat.le_of_ble_eq_true rfl, Nat.le_of_ble_eq_true rfl⟩ rfl hl.1 rfl (Nat.le_of_ble_eq_true rfl) dX12_counted_60 ⟨Nat.le_of_ble_eq_true rfl, Nat.le_of_ble_eq_true rfl⟩) hP hD hS hA [9, 10] [0, 1, 2, 3, 4, 5, 6, 7, 8, 11, 12] rfl rfl (by decide +kernel) (by decide +kernel) ?_
              clear hP hD hS
              try clear locs
              try clear H
              intro r_41 u_42 H locs hw_r_41 hP hD hS
              have hw_r_41 : PQ (splP n u_30) r_41 (nI 1) (nI 0) := hw_r_41
              refine W.widen (k := 6) (n := 212482) (Nat.le_of_ble_eq_true rfl) (Nat.le_of_ble_eq_true rfl) ?_
              replace hP : va_P D vwCl [(st1_6, .inl (cs 0, 96048, .inl s1z_16)), (mtb, .inl (cs 5, 2, .inr (.inr (.inr (.inr ftz_10))))), (tb0_4, .inl (cs 0, 8192, .inl t0z_15)), (tb1_7, .inl (cs 0, 8192, .inl t1z_17)), (mti, .inl (cs 6, 2, .inr (.inr (.inr (.inr fiz_11))))), (ti0_5, .inl (cs 1, 2001, .inr (.inl i0z_19))), (ti1_8, .inl (cs 1, 2001, .inr (.inl i1z_20))), (msm, .inl (cs 0, 2, .inl smz_18)), (mtr, .inl (cs 0, 288, .inl u_24)), (mst, .inl (cs 5, 2, .inr (.inr (.inr (.inr fsz_9))))), (st0_3, .inl (cs 0, 96048, .inl s0z_14)), (hm, .inr (12, [.ref ms, .ref mkp, .int (nI km), .ref mtr, .int (nI n), .int (nI k), .int (nI al), .int (nI be), .int ea, .int pr, .ref mas, .int nq, .int po, .int (nI en), .ref mso, .ref mon, .ref mot, .ref man, .int th, .int xd, .ref mst, .ref msm, .ref mtb, .ref mti, .ref mfr, .ref mbn, .ref mbs, .ref mde, .int sF, .int sN, .int sS, .int ig, .long xa, .long xb, .ref maa, .ref mab, .ref mba, .ref mbb])), (ms, .inl (cs 0, 288, .inl u_30))] H := hP
              replace hD : va_D A [(st1_6, .inl (cs 0, 96048, .inl s1z_16)), (mtb, .inl (cs 5, 2, .inr (.inr (.inr (.inr ftz_10))))), (tb0_4, .inl (cs 0, 8192, .inl t0z_15)), (tb1_7, .inl (cs 0, 8192, .inl t1z_17)), (mti, .inl (cs 6, 2, .inr (.inr (.inr (.inr fiz_11))))), (ti0_5, .inl (cs 1, 2001, .inr (.inl i0z_19))), (ti1_8, .inl (cs 1, 2001, .inr (.inl i1z_20))), (msm, .inl (cs 0, 2, .inl smz_18)), (mtr, .inl (cs 0, 288, .inl u_24)), (mst, .inl (cs 5, 2, .inr (.inr (.inr (.inr fsz_9))))), (st0_3, .inl (cs 0, 96048, .inl s0z_14)), (hm, .inr (12, [.ref ms, .ref mkp, .int (nI km), .ref mtr, .int (nI n), .int (nI k), .int (nI al), .int (nI be), .int ea, .int pr, .ref mas, .int nq, .int po, .int (nI en), .ref mso, .ref mon, .ref mot, .ref man, .int th, .int xd, .ref mst, .ref msm, .ref mtb, .ref mti, .ref mfr, .ref mbn, .ref mbs, .ref mde, .int sF, .int sN, .int sS, .int ig, .long xa, .long xb, .ref maa, .ref mab, .ref mba, .ref mbb])), (ms, .inl (cs 0, 288, .inl u_30))] := hD
              refine lv_goto (tgt := 94) hx hb dX12_counted_63 (by decide) ?_
              refine lv_istore (lv' := [(8, .int r_41), (7, .int (nI o)), (5, .long v9), (4, .int (nI 0)), (0, .ref hm), (1, .int (nI t)), (2, .int w9), (3, .int x9)]) hx hb dX12_counted_94 hl (by decide) rfl ?_
              clear hl
              try clear ls
              intro ls hl
              refine lv_iload hx hb dX12_counted_96 (lv_at hl 0 rfl) ?_
              refine lv_if_eq (tgt := 116) hx hb dX12_counted_98 (by decide) (fun c_43 => ?_) (fun c_43 => ?_)
              · -- 98 t
                refine lv_iinc (v := nI (o + 1)) (lv' := [(7, .int (nI (o + 1))), (8, .int r_41), (5, .long v9), (4, .int (nI 0)), (0, .ref hm), (1, .int (nI t)), (2, .int w9), (3, .int x9)]) hx hb dX12_counted_116 hl (k := 1) rfl (nI_add o 1) (by decide) rfl ?_
                clear hl
                try clear ls
                intro ls hl
                refine lv_goto (tgt := 34) hx hb dX12_counted_119 (by decide) ?_
                exact ih_loop_25 (o + 1) u_30 v9 (by omega) (by omega) H locs ls (xP_map hP [9, 10, 0, 1, 2, 3, 4, 5, 6, 7, 11, 12, 8] rfl) (hD.sub [9, 10, 0, 1, 2, 3, 4, 5, 6, 7, 11, 12, 8] (by decide +kernel) rfl) hS (lv_sub hl [0, 2, 3, 4, 5, 6, 7] rfl)
              · -- 98 f
                refine lv_lload hx hb dX12_counted_101 (lv_at hl 2 rfl) ?_
                refine lv_aload_n hx hb dX12_counted_103 rfl (lv_at hl 4 rfl) ?_
                refine xget C hP 11 rfl rfl zuX12 23 (by decide) zw5_236 rfl dX12_counted_104 ?_
                refine lv_iload hx hb dX12_counted_107 (lv_at hl 3 rfl) ?_
                refine xaald C hP 4 6 rfl rfl rfl 0 rfl (by decide) (by decide) hw_r_1.2.2.2.2.2.2.1 dX12_counted_109 ?_
                refine lv_iload hx hb dX12_counted_110 (lv_at hl 1 rfl) ?_
                refine xlald C hP 5 rfl o rfl (by omega) (by decide) dX12_counted_112 ?_
                refine lv_ladd hx hb dX12_counted_113 ?_
                refine lv_lstore (lv' := [(5, .long (v9 + (i0z_19 o))), (8, .int r_41), (7, .int (nI o)), (4, .int (nI 0)), (0, .ref hm), (1, .int (nI t)), (2, .int w9), (3, .int x9)]) hx hb dX12_counted_114 hl (by decide) rfl ?_
                clear hl
                try clear ls
                intro ls hl
                refine lv_iinc (v := nI (o + 1)) (lv' := [(7, .int (nI (o + 1))), (5, .long (v9 + (i0z_19 o))), (8, .int r_41), (4, .int (nI 0)), (0, .ref hm), (1, .int (nI t)), (2, .int w9), (3, .int x9)]) hx hb dX12_counted_116 hl (k := 2) rfl (nI_add o 1) (by decide) rfl ?_
                clear hl
                try clear ls
                intro ls hl
                refine lv_goto (tgt := 34) hx hb dX12_counted_119 (by decide) ?_
                exact ih_loop_25 (o + 1) u_30 (v9 + (i0z_19 o)) (by omega) (by omega) H locs ls (xP_map hP [9, 10, 0, 1, 2, 3, 4, 5, 6, 7, 11, 12, 8] rfl) (hD.sub [9, 10, 0, 1, 2, 3, 4, 5, 6, 7, 11, 12, 8] (by decide +kernel) rfl) hS (lv_sub hl [0, 1, 3, 4, 5, 6, 7] rfl)
          · -- g0 = 1
            replace hP : va_P D vwCl [(mst, .inl (cs 5, 2, .inr (.inr (.inr (.inr fsz_9))))), (st0_3, .inl (cs 0, 96048, .inl s0z_14)), (st1_6, .inl (cs 0, 96048, .inl s1z_16)), (mtb, .inl (cs 5, 2, .inr (.inr (.inr (.inr ftz_10))))), (tb0_4, .inl (cs 0, 8192, .inl t0z_15)), (tb1_7, .inl (cs 0, 8192, .inl t1z_17)), (mti, .inl (cs 6, 2, .inr (.inr (.inr (.inr fiz_11))))), (ti0_5, .inl (cs 1, 2001, .inr (.inl i0z_19))), (ti1_8, .inl (cs 1, 2001, .inr (.inl i1z_20))), (msm, .inl (cs 0, 2, .inl smz_18)), (hm, .inr (12, [.ref ms, .ref mkp, .int (nI km), .ref mtr, .int (nI n), .int (nI k), .int (nI al), .int (nI be), .int ea, .int pr, .ref mas, .int nq, .int po, .int (nI en), .ref mso, .ref mon, .ref mot, .ref man, .int th, .int xd, .ref mst, .ref msm, .ref mtb, .ref mti, .ref mfr, .ref mbn, .ref mbs, .ref mde, .int sF, .int sN, .int sS, .int ig, .long xa, .long xb, .ref maa, .ref mab, .ref mba, .ref mbb])), (ms, .inl (cs 0, 288, .inl f9)), (mtr, .inl (cs 0, 288, .inl u_24))] H := hP
            replace hD : va_D A [(mst, .inl (cs 5, 2, .inr (.inr (.inr (.inr fsz_9))))), (st0_3, .inl (cs 0, 96048, .inl s0z_14)), (st1_6, .inl (cs 0, 96048, .inl s1z_16)), (mtb, .inl (cs 5, 2, .inr (.inr (.inr (.inr ftz_10))))), (tb0_4, .inl (cs 0, 8192, .inl t0z_15)), (tb1_7, .inl (cs 0, 8192, .inl t1z_17)), (mti, .inl (cs 6, 2, .inr (.inr (.inr (.inr fiz_11))))), (ti0_5, .inl (cs 1, 2001, .inr (.inl i0z_19))), (ti1_8, .inl (cs 1, 2001, .inr (.inl i1z_20))), (msm, .inl (cs 0, 2, .inl smz_18)), (hm, .inr (12, [.ref ms, .ref mkp, .int (nI km), .ref mtr, .int (nI n), .int (nI k), .int (nI al), .int (nI be), .int ea, .int pr, .ref mas, .int nq, .int po, .int (nI en), .ref mso, .ref mon, .ref mot, .ref man, .int th, .int xd, .ref mst, .ref msm, .ref mtb, .ref mti, .ref mfr, .ref mbn, .ref mbs, .ref mde, .int sF, .int sN, .int sS, .int ig, .long xa, .long xb, .ref maa, .ref mab, .ref mba, .ref mbb])), (ms, .inl (cs 0, 288, .inl f9)), (mtr, .inl (cs 0, 288, .inl u_24))] := hD
            refine lv_aload_n hx hb dX12_counted_46 rfl (lv_at hl 3 rfl) ?_
            refine lv_iload hx hb dX12_counted_47 (lv_at hl 2 rfl) ?_
            refine lv_iload hx hb dX12_counted_49 (lv_at hl 0 rfl) ?_
            refine xv (wr := [(st0_3, .inl (cs 0, 96048, .inl s0z_14)), (mtb, .inl (cs 5, 2, .inr (.inr (.inr (.inr ftz_10))))), (tb0_4, .inl (cs 0, 8192, .inl t0z_15)), (tb1_7, .inl (cs 0, 8192, .inl t1z_17)), (mti, .inl (cs 6, 2, .inr (.inr (.inr (.inr fiz_11))))), (ti0_5, .inl (cs 1, 2001, .inr (.inl i0z_19))), (ti1_8, .inl (cs 1, 2001, .inr (.inl i1z_20))), (msm, .inl (cs 0, 2, .inl smz_18)), (mtr, .inl (cs 0, 288, .inl u_24))]) (xV (As := [.int (nI 1), .int (nI o)]) (rest := []) C (c_X12_brings l D cs hm ms mkp mtr mas mso mon mot man mst msm mtb mti mfr mbn mbs mde maa mab mba mbb n k al be km en ea pr nq po th xd sF sN sS ig xa xb f9 1 st1_6 o zz_21 fsz_9 s1z_16 (by decide) hw_r_1.2.2.2.1 (by omega) hcur.1 ((hcur.2.2 rfl).1)) kX12_203 hP hD [10, 11, 0, 2] rfl (by decide +kernel) 0 rfl rfl rfl ⟨Nat.le_of_ble_eq_true rfl, Nat.le_of_ble_eq_true rfl⟩ rfl hl.1 rfl (Nat.le_of_ble_eq_true rfl) dX12_counted_51 ⟨Nat.le_of_ble_eq_true rfl, Nat.le_of_ble_eq_true rfl⟩) hP hD hS hA [10, 11, 0, 2] [1, 3, 4, 5, 6, 7, 8, 9, 12] rfl rfl (by decide +kernel) (by decide +kernel) ?_
            clear hP hD hS
            try clear locs
            try clear H
            intro u_45 H locs hw_r_44 hP hD hS
            have hw_r_44 : colP u_45 ∧ ∀ j, 48 ≤ j → u_45 j = f9 j := hw_r_44
            refine W.widen (k := 6) (n := 212482) (Nat.le_of_ble_eq_true rfl) (Nat.le_of_ble_eq_true rfl) ?_
            replace hP : va_P D vwCl [(st0_3, .inl (cs 0, 96048, .inl s0z_14)), (mtb, .inl (cs 5, 2, .inr (.inr (.inr (.inr ftz_10))))), (tb0_4, .inl (cs 0, 8192, .inl t0z_15)), (tb1_7, .inl (cs 0, 8192, .inl t1z_17)), (mti, .inl (cs 6, 2, .inr (.inr (.inr (.inr fiz_11))))), (ti0_5, .inl (cs 1, 2001, .inr (.inl i0z_19))), (ti1_8, .inl (cs 1, 2001, .inr (.inl i1z_20))), (msm, .inl (cs 0, 2, .inl smz_18)), (mtr, .inl (cs 0, 288, .inl u_24)), (hm, .inr (12, [.ref ms, .ref mkp, .int (nI km), .ref mtr, .int (nI n), .int (nI k), .int (nI al), .int (nI be), .int ea, .int pr, .ref mas, .int nq, .int po, .int (nI en), .ref mso, .ref mon, .ref mot, .ref man, .int th, .int xd, .ref mst, .ref msm, .ref mtb, .ref mti, .ref mfr, .ref mbn, .ref mbs, .ref mde, .int sF, .int sN, .int sS, .int ig, .long xa, .long xb, .ref maa, .ref mab, .ref mba, .ref mbb])), (ms, .inl (cs 0, 288, .inl u_45)), (mst, .inl (cs 5, 2, .inr (.inr (.inr (.inr fsz_9))))), (st1_6, .inl (cs 0, 96048, .inl s1z_16))] H := hP
            replace hD : va_D A [(st0_3, .inl (cs 0, 96048, .inl s0z_14)), (mtb, .inl (cs 5, 2, .inr (.inr (.inr (.inr ftz_10))))), (tb0_4, .inl (cs 0, 8192, .inl t0z_15)), (tb1_7, .inl (cs 0, 8192, .inl t1z_17)), (mti, .inl (cs 6, 2, .inr (.inr (.inr (.inr fiz_11))))), (ti0_5, .inl (cs 1, 2001, .inr (.inl i0z_19))), (ti1_8, .inl (cs 1, 2001, .inr (.inl i1z_20))), (msm, .inl (cs 0, 2, .inl smz_18)), (mtr, .inl (cs 0, 288, .inl u_24)), (hm, .inr (12, [.ref ms, .ref mkp, .int (nI km), .ref mtr, .int (nI n), .int (nI k), .int (nI al), .int (nI be), .int ea, .int pr, .ref mas, .int nq, .int po, .int (nI en), .ref mso, .ref mon, .ref mot, .ref man, .int th, .int xd, .ref mst, .ref msm, .ref mtb, .ref mti, .ref mfr, .ref mbn, .ref mbs, .ref mde, .int sF, .int sN, .int sS, .int ig, .long xa, .long xb, .ref maa, .ref mab, .ref mba, .ref mbb])), (ms, .inl (cs 0, 288, .inl u_45)), (mst, .inl (cs 5, 2, .inr (.inr (.inr (.inr fsz_9))))), (st1_6, .inl (cs 0, 96048, .inl s1z_16))] := hD
            refine lv_iload_n hx hb dX12_counted_54 rfl (lv_at hl 5 rfl) ?_
            refine lv_iconst (v := nI 1) hx hb dX12_counted_55 (by decide) ?_
            refine lv_icmp_ne (tgt := 66) hx hb dX12_counted_56 (by decide) (fun c_46 => ?_) (fun c_46 => ?_)
            · -- 56 t
              refine lv_iload_n hx hb dX12_counted_66 rfl (lv_at hl 5 rfl) ?_
              refine lv_iconst (v := nI 2) hx hb dX12_counted_67 (by decide) ?_
              refine lv_icmp_ne (tgt := 78) hx hb dX12_counted_68 (by decide) (fun c_47 => ?_) (fun c_47 => ?_)
              · -- 68 t
                refine lv_aload_n hx hb dX12_counted_78 rfl (lv_at hl 3 rfl) ?_
                refine xi (wr := [(st0_3, .inl (cs 0, 96048, .inl s0z_14)), (mtb, .inl (cs 5, 2, .inr (.inr (.inr (.inr ftz_10))))), (tb0_4, .inl (cs 0, 8192, .inl t0z_15)), (tb1_7, .inl (cs 0, 8192, .inl t1z_17)), (mti, .inl (cs 6, 2, .inr (.inr (.inr (.inr fiz_11))))), (ti0_5, .inl (cs 1, 2001, .inr (.inl i0z_19))), (ti1_8, .inl (cs 1, 2001, .inr (.inl i1z_20))), (msm, .inl (cs 0, 2, .inl smz_18)), (mtr, .inl (cs 0, 288, .inl u_24)), (mst, .inl (cs 5, 2, .inr (.inr (.inr (.inr fsz_9))))), (st1_6, .inl (cs 0, 96048, .inl s1z_16))]) (xV (As := []) (rest := []) C (c_X12_coloured l D cs hm ms mkp mtr mas mso mon mot man mst msm mtb mti mfr mbn mbs mde maa mab mba mbb n k al be km en ea pr nq po th xd sF sN sS ig xa xb u_45 hn) kX12_218 hP hD [9, 10] rfl (by decide +kernel) 0 rfl rfl rfl ⟨Nat.le_of_ble_eq_true rfl, Nat.le_of_ble_eq_true rfl⟩ rfl hl.1 rfl (Nat.le_of_ble_eq_true rfl) dX12_counted_79 ⟨Nat.le_of_ble_eq_true rfl, Nat.le_of_ble_eq_true rfl⟩) hP hD hS hA [9, 10] [0, 1, 2, 3, 4, 5, 6, 7, 8, 11, 12] rfl rfl (by decide +kernel) (by decide +kernel) ?_
                clear hP hD hS
                try clear locs
                try clear H
                intro r_48 u_49 H locs hw_r_48 hP hD hS
                refine W.widen (k := 6) (n := 212482) (Nat.le_of_ble_eq_true rfl) (Nat.le_of_ble_eq_true rfl) ?_
                replace hP : va_P D vwCl [(st0_3, .inl (cs 0, 96048, .inl s0z_14)), (mtb, .inl (cs 5, 2, .inr (.inr (.inr (.inr ftz_10))))), (tb0_4, .inl (cs 0, 8192, .inl t0z_15)), (tb1_7, .inl (cs 0, 8192, .inl t1z_17)), (mti, .inl (cs 6, 2, .inr (.inr (.inr (.inr fiz_11))))), (ti0_5, .inl (cs 1, 2001, .inr (.inl i0z_19))), (ti1_8, .inl (cs 1, 2001, .inr (.inl i1z_20))), (msm, .inl (cs 0, 2, .inl smz_18)), (mtr, .inl (cs 0, 288, .inl u_24)), (mst, .inl (cs 5, 2, .inr (.inr (.inr (.inr fsz_9))))), (st1_6, .inl (cs 0, 96048, .inl s1z_16)), (hm, .inr (12, [.ref ms, .ref mkp, .int (nI km), .ref mtr, .int (nI n), .int (nI k), .int (nI al), .int (nI be), .int ea, .int pr, .ref mas, .int nq, .int po, .int (nI en), .ref mso, .ref mon, .ref mot, .ref man, .int th, .int xd, .ref mst, .ref msm, .ref mtb, .ref mti, .ref mfr, .ref mbn, .ref mbs, .ref mde, .int sF, .int sN, .int sS, .int ig, .long xa, .long xb, .ref maa, .ref mab, .ref mba, .ref mbb])), (ms, .inl (cs 0, 288, .inl u_45))] H := hP
                replace hD : va_D A [(st0_3, .inl (cs 0, 96048, .inl s0z_14)), (mtb, .inl (cs 5, 2, .inr (.inr (.inr (.inr ftz_10))))), (tb0_4, .inl (cs 0, 8192, .inl t0z_15)), (tb1_7, .inl (cs 0, 8192, .inl t1z_17)), (mti, .inl (cs 6, 2, .inr (.inr (.inr (.inr fiz_11))))), (ti0_5, .inl (cs 1, 2001, .inr (.inl i0z_19))), (ti1_8, .inl (cs 1, 2001, .inr (.inl i1z_20))), (msm, .inl (cs 0, 2, .inl smz_18)), (mtr, .inl (cs 0, 288, .inl u_24)), (mst, .inl (cs 5, 2, .inr (.inr (.inr (.inr fsz_9))))), (st1_6, .inl (cs 0, 96048, .inl s1z_16)), (hm, .inr (12, [.ref ms, .ref mkp, .int (nI km), .ref mtr, .int (nI n), .int (nI k), .int (nI al), .int (nI be), .int ea, .int pr, .ref mas, .int nq, .int po, .int (nI en), .ref mso, .ref mon, .ref mot, .ref man, .int th, .int xd, .ref mst, .ref msm, .ref mtb, .ref mti, .ref mfr, .ref mbn, .ref mbs, .ref mde, .int sF, .int sN, .int sS, .int ig, .long xa, .long xb, .ref maa, .ref mab, .ref mba, .ref mbb])), (ms, .inl (cs 0, 288, .inl u_45))] := hD
                refine xi (wr := [(st0_3, .inl (cs 0, 96048, .inl s0z_14)), (mtb, .inl (cs 5, 2, .inr (.inr (.inr (.inr ftz_10))))), (tb0_4, .inl (cs 0, 8192, .inl t0z_15)), (tb1_7, .inl (cs 0, 8192, .inl t1z_17)), (mti, .inl (cs 6, 2, .inr (.inr (.inr (.inr fiz_11))))), (ti0_5, .inl (cs 1, 2001, .inr (.inl i0z_19))), (ti1_8, .inl (cs 1, 2001, .inr (.inl i1z_20))), (msm, .inl (cs 0, 2, .inl smz_18)), (mtr, .inl (cs 0, 288, .inl u_24)), (mst, .inl (cs 5, 2, .inr (.inr (.inr (.inr fsz_9))))), (st1_6, .inl (cs 0, 96048, .inl s1z_16)), (hm, .inr (12, [.ref ms, .ref mkp, .int (nI km), .ref mtr, .int (nI n), .int (nI k), .int (nI al), .int (nI be), .int ea, .int pr, .ref mas, .int nq, .int po, .int (nI en), .ref mso, .ref mon, .ref mot, .ref man, .int th, .int xd, .ref mst, .ref msm, .ref mtb, .ref mti, .ref mfr, .ref mbn, .ref mbs, .ref mde, .int sF, .int sN, .int sS, .int ig, .long xa, .long xb, .ref maa, .ref mab, .ref mba, .ref mbb])), (ms, .inl (cs 0, 288, .inl u_45))]) (xS (As := [.int r_48]) (rest := []) C (c_X12_many l D cs r_48) kX12_127 hP hD [] rfl (by decide +kernel) ⟨Nat.le_of_ble_eq_true rfl, Nat.le_of_ble_eq_true rfl⟩ rfl hl.1 rfl (Nat.le_of_ble_eq_true rfl) dX12_counted_82 ⟨Nat.le_of_ble_eq_true rfl, Nat.le_of_ble_eq_true rfl⟩) hP hD hS hA [] [0, 1, 2, 3, 4, 5, 6, 7, 8, 9, 10, 11, 12] rfl rfl (by decide +kernel) (by decide +kernel) ?_
                clear hP hD hS
                try clear locs
                try clear H
                intro r_50 u_51 H locs hw_r_50 hP hD hS
                have hw_r_50 : r_50 = nI (cntL r_48 16) := hw_r_50
                refine W.widen (k := 6) (n := 212482) (Nat.le_of_ble_eq_true rfl) (Nat.le_of_ble_eq_true rfl) ?_
                replace hP : va_P D vwCl [(st0_3, .inl (cs 0, 96048, .inl s0z_14)), (mtb, .inl (cs 5, 2, .inr (.inr (.inr (.inr ftz_10))))), (tb0_4, .inl (cs 0, 8192, .inl t0z_15)), (tb1_7, .inl (cs 0, 8192, .inl t1z_17)), (mti, .inl (cs 6, 2, .inr (.inr (.inr (.inr fiz_11))))), (ti0_5, .inl (cs 1, 2001, .inr (.inl i0z_19))), (ti1_8, .inl (cs 1, 2001, .inr (.inl i1z_20))), (msm, .inl (cs 0, 2, .inl smz_18)), (mtr, .inl (cs 0, 288, .inl u_24)), (mst, .inl (cs 5, 2, .inr (.inr (.inr (.inr fsz_9))))), (st1_6, .inl (cs 0, 96048, .inl s1z_16)), (hm, .inr (12, [.ref ms, .ref mkp, .int (nI km), .ref mtr, .int (nI n), .int (nI k), .int (nI al), .int (nI be), .int ea, .int pr, .ref mas, .int nq, .int po, .int (nI en), .ref mso, .ref mon, .ref mot, .ref man, .int th, .int xd, .ref mst, .ref msm, .ref mtb, .ref mti, .ref mfr, .ref mbn, .ref mbs, .ref mde, .int sF, .int sN, .int sS, .int ig, .long xa, .long xb, .ref maa, .ref mab, .ref mba, .ref mbb])), (ms, .inl (cs 0, 288, .inl u_45))] H := hP
                replace hD : va_D A [(st0_3, .inl (cs 0, 96048, .inl s0z_14)), (mtb, .inl (cs 5, 2, .inr (.inr (.inr (.inr ftz_10))))), (tb0_4, .inl (cs 0, 8192, .inl t0z_15)), (tb1_7, .inl (cs 0, 8192, .inl t1z_17)), (mti, .inl (cs 6, 2, .inr (.inr (.inr (.inr fiz_11))))), (ti0_5, .inl (cs 1, 2001, .inr (.inl i0z_19))), (ti1_8, .inl (cs 1, 2001, .inr (.inl i1z_20))), (msm, .inl (cs 0, 2, .inl smz_18)), (mtr, .inl (cs 0, 288, .inl u_24)), (mst, .inl (cs 5, 2, .inr (.inr (.inr (.inr fsz_9))))), (st1_6, .inl (cs 0, 96048, .inl s1z_16)), (hm, .inr (12, [.ref ms, .ref mkp, .int (nI km), .ref mtr, .int (nI n), .int (nI k), .int (nI al), .int (nI be), .int ea, .int pr, .ref mas, .int nq, .int po, .int (nI en), .ref mso, .ref mon, .ref mot, .ref man, .int th, .int xd, .ref mst, .ref msm, .ref mtb, .ref mti, .ref mfr, .ref mbn, .ref mbs, .ref mde, .int sF, .int sN, .int sS, .int ig, .long xa, .long xb, .ref maa, .ref mab, .ref mba, .ref mbb])), (ms, .inl (cs 0, 288, .inl u_45))] := hD
                refine lv_iload_n hx hb dX12_counted_85 rfl (lv_at hl 6 rfl) ?_
                refine lv_icmp_ne (tgt := 93) hx hb dX12_counted_86 (by decide) (fun c_52 => ?_) (fun c_52 => ?_)
                · -- 86 t
                  refine lv_iconst (v := nI 0) hx hb dX12_counted_93 (by decide) ?_
                  refine lv_istore (lv' := [(8, .int (nI 0)), (7, .int (nI o)), (5, .long v9), (4, .int (nI 1)), (0, .ref hm), (1, .int (nI t)), (2, .int w9), (3, .int x9)]) hx hb dX12_counted_94 hl (by decide) rfl ?_
                  clear hl
                  try clear ls
                  intro ls hl
                  refine lv_iload hx hb dX12_counted_96 (lv_at hl 0 rfl) ?_
                  refine lv_if_eq (tgt := 116) hx hb dX12_counted_98 (by decide) (fun _ => ?_) (fun c => absurd (by decide) c)
                  refine lv_iinc (v := nI (o + 1)) (lv' := [(7, .int (nI (o + 1))), (8, .int (nI 0)), (5, .long v9), (4, .int (nI 1)), (0, .ref hm), (1, .int (nI t)), (2, .int w9), (3, .int x9)]) hx hb dX12_counted_116 hl (k := 1) rfl (nI_add o 1) (by decide) rfl ?_
                  clear hl
                  try clear ls
                  intro ls hl
                  refine lv_goto (tgt := 34) hx hb dX12_counted_119 (by decide) ?_
                  exact ih_loop_25 (o + 1) u_45 v9 (by omega) (by omega) H locs ls (xP_map hP [9, 0, 10, 1, 2, 3, 4, 5, 6, 7, 11, 12, 8] rfl) (hD.sub [9, 0, 10, 1, 2, 3, 4, 5, 6, 7, 11, 12, 8] (by decide +kernel) rfl) hS (lv_sub hl [0, 2, 3, 4, 5, 6, 7] rfl)
                · -- 86 f
                  refine lv_iconst (v := nI 1) hx hb dX12_counted_89 (by decide) ?_
                  refine lv_goto (tgt := 94) hx hb dX12_counted_90 (by decide) ?_
                  refine lv_istore (lv' := [(8, .int (nI 1)), (7, .int (nI o)), (5, .long v9), (4, .int (nI 1)), (0, .ref hm), (1, .int (nI t)), (2, .int w9), (3, .int x9)]) hx hb dX12_counted_94 hl (by decide) rfl ?_
                  clear hl
                  try clear ls
                  intro ls hl
                  refine lv_iload hx hb dX12_counted_96 (lv_at hl 0 rfl) ?_
                  refine lv_if_eq (tgt := 116) hx hb dX12_counted_98 (by decide) (fun c => absurd c (by decide)) (fun _ => ?_)
                  refine lv_lload hx hb dX12_counted_101 (lv_at hl 2 rfl) ?_
                  refine lv_aload_n hx hb dX12_counted_103 rfl (lv_at hl 4 rfl) ?_
                  refine xget C hP 11 rfl rfl zuX12 23 (by decide) zw5_236 rfl dX12_counted_104 ?_
                  refine lv_iload hx hb dX12_counted_107 (lv_at hl 3 rfl) ?_
                  refine xaald C hP 4 6 rfl rfl rfl 1 rfl (by decide) (by decide) hw_r_1.2.2.2.2.2.2.2 dX12_counted_109 ?_
                  refine lv_iload hx hb dX12_counted_110 (lv_at hl 1 rfl) ?_
                  refine xlald C hP 6 rfl o rfl (by omega) (by decide) dX12_counted_112 ?_
                  refine lv_ladd hx hb dX12_counted_113 ?_
                  refine lv_lstore (lv' := [(5, .long (v9 + (i1z_20 o))), (8, .int (nI 1)), (7, .int (nI o)), (4, .int (nI 1)), (0, .ref hm), (1, .int (nI t)), (2, .int w9), (3, .int x9)]) hx hb dX12_counted_114 hl (by decide) rfl ?_
                  clear hl
                  try clear ls
                  intro ls hl
                  refine lv_iinc (v := nI (o + 1)) (lv' := [(7, .int (nI (o + 1))), (5, .long (v9 + (i1z_20 o))), (8, .int (nI 1)), (4, .int (nI 1)), (0, .ref hm), (1, .int (nI t)), (2, .int w9), (3, .int x9)]) hx hb dX12_counted_116 hl (k := 2) rfl (nI_add o 1) (by decide) rfl ?_
                  clear hl
                  try clear ls
                  intro ls hl
                  refine lv_goto (tgt := 34) hx hb dX12_counted_119 (by decide) ?_
                  exact ih_loop_25 (o + 1) u_45 (v9 + (i1z_20 o)) (by omega) (by omega) H locs ls (xP_map hP [9, 0, 10, 1, 2, 3, 4, 5, 6, 7, 11, 12, 8] rfl) (hD.sub [9, 0, 10, 1, 2, 3, 4, 5, 6, 7, 11, 12, 8] (by decide +kernel) rfl) hS (lv_sub hl [0, 1, 3, 4, 5, 6, 7] rfl)
              · -- 68 f
                refine lv_aload_n hx hb dX12_counted_71 rfl (lv_at hl 3 rfl) ?_
                refine xi (wr := [(st0_3, .inl (cs 0, 96048, .inl s0z_14)), (mtb, .inl (cs 5, 2, .inr (.inr (.inr (.inr ftz_10))))), (tb0_4, .inl (cs 0, 8192, .inl t0z_15)), (tb1_7, .inl (cs 0, 8192, .inl t1z_17)), (mti, .inl (cs 6, 2, .inr (.inr (.inr (.inr fiz_11))))), (ti0_5, .inl (cs 1, 2001, .inr (.inl i0z_19))), (ti1_8, .inl (cs 1, 2001, .inr (.inl i1z_20))), (msm, .inl (cs 0, 2, .inl smz_18)), (mtr, .inl (cs 0, 288, .inl u_24)), (mst, .inl (cs 5, 2, .inr (.inr (.inr (.inr fsz_9))))), (st1_6, .inl (cs 0, 96048, .inl s1z_16))]) (xV (As := []) (rest := []) C (c_X12_areAgreed l D cs hm ms mkp mtr mas mso mon mot man mst msm mtb mti mfr mbn mbs mde maa mab mba mbb n k al be km en ea pr nq po th xd sF sN sS ig xa xb u_45 hn) kX12_215 hP hD [9, 10] rfl (by decide +kernel) 0 rfl rfl rfl ⟨Nat.le_of_ble_eq_true rfl, Nat.le_of_ble_eq_true rfl⟩ rfl hl.1 rfl (Nat.le_of_ble_eq_true rfl) dX12_counted_72 ⟨Nat.le_of_ble_eq_true rfl, Nat.le_of_ble_eq_true rfl⟩) hP hD hS hA [9, 10] [0, 1, 2, 3, 4, 5, 6, 7, 8, 11, 12] rfl rfl (by decide +kernel) (by decide +kernel) ?_
                clear hP hD hS
                try clear locs
                try clear H
                intro r_53 u_54 H locs hw_r_53 hP hD hS
                have hw_r_53 : (r_53 = nI 0 ∨ r_53 = nI 1) := hw_r_53
                refine W.widen (k := 6) (n := 212482) (Nat.le_of_ble_eq_true rfl) (Nat.le_of_ble_eq_true rfl) ?_
                replace hP : va_P D vwCl [(st0_3, .inl (cs 0, 96048, .inl s0z_14)), (mtb, .inl (cs 5, 2, .inr (.inr (.inr (.inr ftz_10))))), (tb0_4, .inl (cs 0, 8192, .inl t0z_15)), (tb1_7, .inl (cs 0, 8192, .inl t1z_17)), (mti, .inl (cs 6, 2, .inr (.inr (.inr (.inr fiz_11))))), (ti0_5, .inl (cs 1, 2001, .inr (.inl i0z_19))), (ti1_8, .inl (cs 1, 2001, .inr (.inl i1z_20))), (msm, .inl (cs 0, 2, .inl smz_18)), (mtr, .inl (cs 0, 288, .inl u_24)), (mst, .inl (cs 5, 2, .inr (.inr (.inr (.inr fsz_9))))), (st1_6, .inl (cs 0, 96048, .inl s1z_16)), (hm, .inr (12, [.ref ms, .ref mkp, .int (nI km), .ref mtr, .int (nI n), .int (nI k), .int (nI al), .int (nI be), .int ea, .int pr, .ref mas, .int nq, .int po, .int (nI en), .ref mso, .ref mon, .ref mot, .ref man, .int th, .int xd, .ref mst, .ref msm, .ref mtb, .ref mti, .ref mfr, .ref mbn, .ref mbs, .ref mde, .int sF, .int sN, .int sS, .int ig, .long xa, .long xb, .ref maa, .ref mab, .ref mba, .ref mbb])), (ms, .inl (cs 0, 288, .inl u_45))] H := hP
                replace hD : va_D A [(st0_3, .inl (cs 0, 96048, .inl s0z_14)), (mtb, .inl (cs 5, 2, .inr (.inr (.inr (.inr ftz_10))))), (tb0_4, .inl (cs 0, 8192, .inl t0z_15)), (tb1_7, .inl (cs 0, 8192, .inl t1z_17)), (mti, .inl (cs 6, 2, .inr (.inr (.inr (.inr fiz_11))))), (ti0_5, .inl (cs 1, 2001, .inr (.inl i0z_19))), (ti1_8, .inl (cs 1, 2001, .inr (.inl i1z_20))), (msm, .inl (cs 0, 2, .inl smz_18)), (mtr, .inl (cs 0, 288, .inl u_24)), (mst, .inl (cs 5, 2, .inr (.inr (.inr (.inr fsz_9))))), (st1_6, .inl (cs 0, 96048, .inl s1z_16)), (hm, .inr (12, [.ref ms, .ref mkp, .int (nI km), .ref mtr, .int (nI n), .int (nI k), .int (nI al), .int (nI be), .int ea, .int pr, .ref mas, .int nq, .int po, .int (nI en), .ref mso, .ref mon, .ref mot, .ref man, .int th, .int xd, .ref mst, .ref msm, .ref mtb, .ref mti, .ref mfr, .ref mbn, .ref mbs, .ref mde, .int sF, .int sN, .int sS, .int ig, .long xa, .long xb, .ref maa, .ref mab, .ref mba, .ref mbb])), (ms, .inl (cs 0, 288, .inl u_45))] := hD
                refine lv_goto (tgt := 94) hx hb dX12_counted_75 (by decide) ?_
                refine lv_istore (lv' := [(8, .int r_53), (7, .int (nI o)), (5, .long v9), (4, .int (nI 1)), (0, .ref hm), (1, .int (nI t)), (2, .int w9), (3, .int x9)]) hx hb dX12_counted_94 hl (by decide) rfl ?_
                clear hl
                try clear ls
                intro ls hl
                refine lv_iload hx hb dX12_counted_96 (lv_at hl 0 rfl) ?_
                refine lv_if_eq (tgt := 116) hx hb dX12_counted_98 (by decide) (fun c_55 => ?_) (fun c_55 => ?_)
                · -- 98 t
                  refine lv_iinc (v := nI (o + 1)) (lv' := [(7, .int (nI (o + 1))), (8, .int r_53), (5, .long v9), (4, .int (nI 1)), (0, .ref hm), (1, .int (nI t)), (2, .int w9), (3, .int x9)]) hx hb dX12_counted_116 hl (k := 1) rfl (nI_add o 1) (by decide) rfl ?_
                  clear hl
                  try clear ls
                  intro ls hl
                  refine lv_goto (tgt := 34) hx hb dX12_counted_119 (by decide) ?_
                  exact ih_loop_25 (o + 1) u_45 v9 (by omega) (by omega) H locs ls (xP_map hP [9, 0, 10, 1, 2, 3, 4, 5, 6, 7, 11, 12, 8] rfl) (hD.sub [9, 0, 10, 1, 2, 3, 4, 5, 6, 7, 11, 12, 8] (by decide +kernel) rfl) hS (lv_sub hl [0, 2, 3, 4, 5, 6, 7] rfl)
                · -- 98 f
                  refine lv_lload hx hb dX12_counted_101 (lv_at hl 2 rfl) ?_
                  refine lv_aload_n hx hb dX12_counted_103 rfl (lv_at hl 4 rfl) ?_
                  refine xget C hP 11 rfl rfl zuX12 23 (by decide) zw5_236 rfl dX12_counted_104 ?_
                  refine lv_iload hx hb dX12_counted_107 (lv_at hl 3 rfl) ?_
                  refine xaald C hP 4 6 rfl rfl rfl 1 rfl (by decide) (by decide) hw_r_1.2.2.2.2.2.2.2 dX12_counted_109 ?_
                  refine lv_iload hx hb dX12_counted_110 (lv_at hl 1 rfl) ?_
                  refine xlald C hP 6 rfl o rfl (by omega) (by decide) dX12_counted_112 ?_
                  refine lv_ladd hx hb dX12_counted_113 ?_
                  refine lv_lstore (lv' := [(5, .long (v9 + (i1z_20 o))), (8, .int r_53), (7, .int (nI o)), (4, .int (nI 1)), (0, .ref hm), (1, .int (nI t)), (2, .int w9), (3, .int x9)]) hx hb dX12_counted_114 hl (by decide) rfl ?_
                  clear hl
                  try clear ls
                  intro ls hl
                  refine lv_iinc (v := nI (o + 1)) (lv' := [(7, .int (nI (o + 1))), (5, .long (v9 + (i1z_20 o))), (8, .int r_53), (4, .int (nI 1)), (0, .ref hm), (1, .int (nI t)), (2, .int w9), (3, .int x9)]) hx hb dX12_counted_116 hl (k := 2) rfl (nI_add o 1) (by decide) rfl ?_
                  clear hl
                  try clear ls
                  intro ls hl
                  refine lv_goto (tgt := 34) hx hb dX12_counted_119 (by decide) ?_
                  exact ih_loop_25 (o + 1) u_45 (v9 + (i1z_20 o)) (by omega) (by omega) H locs ls (xP_map hP [9, 0, 10, 1, 2, 3, 4, 5, 6, 7, 11, 12, 8] rfl) (hD.sub [9, 0, 10, 1, 2, 3, 4, 5, 6, 7, 11, 12, 8] (by decide +kernel) rfl) hS (lv_sub hl [0, 1, 3, 4, 5, 6, 7] rfl)
            · -- 56 f
              refine lv_aload_n hx hb dX12_counted_59 rfl (lv_at hl 3 rfl) ?_
              refine xi (wr := [(st0_3, .inl (cs 0, 96048, .inl s0z_14)), (mtb, .inl (cs 5, 2, .inr (.inr (.inr (.inr ftz_10))))), (tb0_4, .inl (cs 0, 8192, .inl t0z_15)), (tb1_7, .inl (cs 0, 8192, .inl t1z_17)), (mti, .inl (cs 6, 2, .inr (.inr (.inr (.inr fiz_11))))), (ti0_5, .inl (cs 1, 2001, .inr (.inl i0z_19))), (ti1_8, .inl (cs 1, 2001, .inr (.inl i1z_20))), (msm, .inl (cs 0, 2, .inl smz_18)), (mtr, .inl (cs 0, 288, .inl u_24)), (mst, .inl (cs 5, 2, .inr (.inr (.inr (.inr fsz_9))))), (st1_6, .inl (cs 0, 96048, .inl s1z_16))]) (xV (As := []) (rest := []) C (c_X12_areSplit l D cs hm ms mkp mtr mas mso mon mot man mst msm mtb mti mfr mbn mbs mde maa mab mba mbb n k al be km en ea pr nq po th xd sF sN sS ig xa xb u_45 hn) kX12_211 hP hD [9, 10] rfl (by decide +kernel) 0 rfl rfl rfl ⟨Nat.le_of_ble_eq_true rfl, Nat.le_of_ble_eq_true rfl⟩ rfl hl.1 rfl (Nat.le_of_ble_eq_true rfl) dX12_counted_60 ⟨Nat.le_of_ble_eq_true rfl, Nat.le_of_ble_eq_true rfl⟩) hP hD hS hA [9, 10] [0, 1, 2, 3, 4, 5, 6, 7, 8, 11, 12] rfl rfl (by decide +kernel) (by decide +kernel) ?_
              clear hP hD hS
              try clear locs
              try clear H
              intro r_56 u_57 H locs hw_r_56 hP hD hS
              have hw_r_56 : PQ (splP n u_45) r_56 (nI 1) (nI 0) := hw_r_56
              refine W.widen (k := 6) (n := 212482) (Nat.le_of_ble_eq_true rfl) (Nat.le_of_ble_eq_true rfl) ?_
              replace hP : va_P D vwCl [(st0_3, .inl (cs 0, 96048, .inl s0z_14)), (mtb, .inl (cs 5, 2, .inr (.inr (.inr (.inr ftz_10))))), (tb0_4, .inl (cs 0, 8192, .inl t0z_15)), (tb1_7, .inl (cs 0, 8192, .inl t1z_17)), (mti, .inl (cs 6, 2, .inr (.inr (.inr (.inr fiz_11))))), (ti0_5, .inl (cs 1, 2001, .inr (.inl i0z_19))), (ti1_8, .inl (cs 1, 2001, .inr (.inl i1z_20))), (msm, .inl (cs 0, 2, .inl smz_18)), (mtr, .inl (cs 0, 288, .inl u_24)), (mst, .inl (cs 5, 2, .inr (.inr (.inr (.inr fsz_9))))), (st1_6, .inl (cs 0, 96048, .inl s1z_16)), (hm, .inr (12, [.ref ms, .ref mkp, .int (nI km), .ref mtr, .int (nI n), .int (nI k), .int (nI al), .int (nI be), .int ea, .int pr, .ref mas, .int nq, .int po, .int (nI en), .ref mso, .ref mon, .ref mot, .ref man, .int th, .int xd, .ref mst, .ref msm, .ref mtb, .ref mti, .ref mfr, .ref mbn, .ref mbs, .ref mde, .int sF, .int sN, .int sS, .int ig, .long xa, .long xb, .ref maa, .ref mab, .ref mba, .ref mbb])), (ms, .inl (cs 0, 288, .inl u_45))] H := hP
              replace hD : va_D A [(st0_3, .inl (cs 0, 96048, .inl s0z_14)), (mtb, .inl (cs 5, 2, .inr (.inr (.inr (.inr ftz_10))))), (tb0_4, .inl (cs 0, 8192, .inl t0z_15)), (tb1_7, .inl (cs 0, 8192, .inl t1z_17)), (mti, .inl (cs 6, 2, .inr (.inr (.inr (.inr fiz_11))))), (ti0_5, .inl (cs 1, 2001, .inr (.inl i0z_19))), (ti1_8, .inl (cs 1, 2001, .inr (.inl i1z_20))), (msm, .inl (cs 0, 2, .inl smz_18)), (mtr, .inl (cs 0, 288, .inl u_24)), (mst, .inl (cs 5, 2, .inr (.inr (.inr (.inr fsz_9))))), (st1_6, .inl (cs 0, 96048, .inl s1z_16)), (hm, .inr (12, [.ref ms, .ref mkp, .int (nI km), .ref mtr, .int (nI n), .int (nI k), .int (nI al), .int (nI be), .int ea, .int pr, .ref mas, .int nq, .int po, .int (nI en), .ref mso, .ref mon, .ref mot, .ref man, .int th, .int xd, .ref mst, .ref msm, .ref mtb, .ref mti, .ref mfr, .ref mbn, .ref mbs, .ref mde, .int sF, .int sN, .int sS, .int ig, .long xa, .long xb, .ref maa, .ref mab, .ref mba, .ref mbb])), (ms, .inl (cs 0, 288, .inl u_45))] := hD
              refine lv_goto (tgt := 94) hx hb dX12_counted_63 (by decide) ?_
              refine lv_istore (lv' := [(8, .int r_56), (7, .int (nI o)), (5, .long v9), (4, .int (nI 1)), (0, .ref hm), (1, .int (nI t)), (2, .int w9), (3, .int x9)]) hx hb dX12_counted_94 hl (by decide) rfl ?_
              clear hl
              try clear ls
              intro ls hl
              refine lv_iload hx hb dX12_counted_96 (lv_at hl 0 rfl) ?_
              refine lv_if_eq (tgt := 116) hx hb dX12_counted_98 (by decide) (fun c_58 => ?_) (fun c_58 => ?_)
              · -- 98 t
                refine lv_iinc (v := nI (o + 1)) (lv' := [(7, .int (nI (o + 1))), (8, .int r_56), (5, .long v9), (4, .int (nI 1)), (0, .ref hm), (1, .int (nI t)), (2, .int w9), (3, .int x9)]) hx hb dX12_counted_116 hl (k := 1) rfl (nI_add o 1) (by decide) rfl ?_
                clear hl
                try clear ls
                intro ls hl
                refine lv_goto (tgt := 34) hx hb dX12_counted_119 (by decide) ?_
                exact ih_loop_25 (o + 1) u_45 v9 (by omega) (by omega) H locs ls (xP_map hP [9, 0, 10, 1, 2, 3, 4, 5, 6, 7, 11, 12, 8] rfl) (hD.sub [9, 0, 10, 1, 2, 3, 4, 5, 6, 7, 11, 12, 8] (by decide +kernel) rfl) hS (lv_sub hl [0, 2, 3, 4, 5, 6, 7] rfl)
              · -- 98 f
                refine lv_lload hx hb dX12_counted_101 (lv_at hl 2 rfl) ?_
                refine lv_aload_n hx hb dX12_counted_103 rfl (lv_at hl 4 rfl) ?_
                refine xget C hP 11 rfl rfl zuX12 23 (by decide) zw5_236 rfl dX12_counted_104 ?_
                refine lv_iload hx hb dX12_counted_107 (lv_at hl 3 rfl) ?_
                refine xaald C hP 4 6 rfl rfl rfl 1 rfl (by decide) (by decide) hw_r_1.2.2.2.2.2.2.2 dX12_counted_109 ?_
                refine lv_iload hx hb dX12_counted_110 (lv_at hl 1 rfl) ?_
                refine xlald C hP 6 rfl o rfl (by omega) (by decide) dX12_counted_112 ?_
                refine lv_ladd hx hb dX12_counted_113 ?_
                refine lv_lstore (lv' := [(5, .long (v9 + (i1z_20 o))), (8, .int r_56), (7, .int (nI o)), (4, .int (nI 1)), (0, .ref hm), (1, .int (nI t)), (2, .int w9), (3, .int x9)]) hx hb dX12_counted_114 hl (by decide) rfl ?_
                clear hl
                try clear ls
                intro ls hl
                refine lv_iinc (v := nI (o + 1)) (lv' := [(7, .int (nI (o + 1))), (5, .long (v9 + (i1z_20 o))), (8, .int r_56), (4, .int (nI 1)), (0, .ref hm), (1, .int (nI t)), (2, .int w9), (3, .int x9)]) hx hb dX12_counted_116 hl (k := 2) rfl (nI_add o 1) (by decide) rfl ?_
                clear hl
                try clear ls
                intro ls hl
                refine lv_goto (tgt := 34) hx hb dX12_counted_119 (by decide) ?_
                exact ih_loop_25 (o + 1) u_45 (v9 + (i1z_20 o)) (by omega) (by omega) H locs ls (xP_map hP [9, 0, 10, 1, 2, 3, 4, 5, 6, 7, 11, 12, 8] rfl) (hD.sub [9, 0, 10, 1, 2, 3, 4, 5, 6, 7, 11, 12, 8] (by decide +kernel) rfl) hS (lv_sub hl [0, 1, 3, 4, 5, 6, 7] rfl)
    exact loop_25 _ 0 fz_12 0 (by omega) (Nat.lt_succ_self _) H locs ls hP hD hS (lv_sub hl [0, 1, 2, 3, 4, 5, 6] rfl)
  · -- 9 f
    refine lv_ldc2 (v := (-3)) hx hb hown (hz _ zw7_0) dX12_counted_12 ?_
    exact xretl C (⟨st0_3, tb0_4, ti0_5, st1_6, tb1_7, ti1_8, fsz_9, ftz_10, fiz_11, fz_12, tz_13, s0z_14, t0z_15, s1z_16, t1z_17, smz_18, i0z_19, i1z_20⟩) (⟨hw_r_1.2.1, hw_r_1.2.2⟩) hP hD hS (Nat.le_of_ble_eq_true rfl) (Nat.le_of_ble_eq_true rfl) dX12_counted_15

set_option maxHeartbeats 4000000 in
set_option maxRecDepth 100000 in
theorem c_X12_counted_a (l : Launch) (D : va_G) (cs : Nat → ClassId) (hm ms mkp mtr mas mso mon mot man mst msm mtb mti mfr mbn mbs mde maa mab mba mbb : Nat) (n k al be km en : Nat) (ea pr nq po th xd sF sN sS ig : Int32) (xa xb : Int64) (f : Nat → Int32) (tf : Nat → Int32) (st0 tb0 ti0 st1 tb1 ti1 : Nat) (fst ftb fti : Nat → Option Nat) (s0 t0 s1 t1 smf : Nat → Int32) (i0 i1 : Nat → Int64) (t : Nat) (w9 x9 : Int32) (hn : 2 ≤ n ∧ n ≤ 8) (hs : colP f) (hfs0 : fst 0 = some st0) (hfs1 : fst 1 = some st1) (hft0 : ftb 0 = some tb0) (hft1 : ftb 1 = some tb1) (hfi0 : fti 0 = some ti0) (hfi1 : fti 1 = some ti1) (ht : t ≤ 12) : xMet l D cs yX12_counted cX12_counted 9 (some .long) ({ frames := 5, cells := 0, slots := 0, locals := 120 } : Room) [.ref hm, .int (nI t), .int w9, .int x9] [(hm, .inr (12, [.ref ms, .ref mkp, .int (nI km), .ref mtr, .int (nI n), .int (nI k), .int (nI al), .int (nI be), .int ea, .int pr, .ref mas, .int nq, .int po, .int (nI en), .ref mso, .ref mon, .ref mot, .ref man, .int th, .int xd, .ref mst, .ref msm, .ref mtb, .ref mti, .ref mfr, .ref mbn, .ref mbs, .ref mde, .int sF, .int sN, .int sS, .int ig, .long xa, .long xb, .ref maa, .ref mab, .ref mba, .ref mbb])), (ms, .inl (cs 0, 288, .inl f)), (mtr, .inl (cs 0, 288, .inl tf)), (mst, .inl (cs 5, 2, .inr (.inr (.inr (.inr fst))))), (st0, .inl (cs 0, 96048, .inl s0)), (st1, .inl (cs 0, 96048, .inl s1)), (mtb, .inl (cs 5, 2, .inr (.inr (.inr (.inr ftb))))), (tb0, .inl (cs 0, 8192, .inl t0)), (tb1, .inl (cs 0, 8192, .inl t1)), (mti, .inl (cs 6, 2, .inr (.inr (.inr (.inr fti))))), (ti0, .inl (cs 1, 2001, .inr (.inl i0))), (ti1, .inl (cs 1, 2001, .inr (.inl i1))), (msm, .inl (cs 0, 2, .inl smf))] (xQl D (fun (r : Int64) (u : Nat × Nat × Nat × Nat × Nat × Nat × (Nat → Option Nat) × (Nat → Option Nat) × (Nat → Option Nat) × (Nat → Int32) × (Nat → Int32) × (Nat → Int32) × (Nat → Int32) × (Nat → Int32) × (Nat → Int32) × (Nat → Int32) × (Nat → Int64) × (Nat → Int64)) => match u with | (st0, tb0, ti0, st1, tb1, ti1, fsz, ftz, fiz, fz, tz, s0z, t0z, s1z, t1z, smz, i0z, i1z) => (∀ j, j < 288 → fz j = f j) ∧ fsz 0 = some st0 ∧ fsz 1 = some st1 ∧ ftz 0 = some tb0 ∧ ftz 1 = some tb1 ∧ fiz 0 = some ti0 ∧ fiz 1 = some ti1) (fun (u : Nat × Nat × Nat × Nat × Nat × Nat × (Nat → Option Nat) × (Nat → Option Nat) × (Nat → Option Nat) × (Nat → Int32) × (Nat → Int32) × (Nat → Int32) × (Nat → Int32) × (Nat → Int32) × (Nat → Int32) × (Nat → Int32) × (Nat → Int64) × (Nat → Int64)) => match u with | (st0, tb0, ti0, st1, tb1, ti1, fsz, ftz, fiz, fz, tz, s0z, t0z, s1z, t1z, smz, i0z, i1z) => [(hm, .inr (12, [.ref ms, .ref mkp, .int (nI km), .ref mtr, .int (nI n), .int (nI k), .int (nI al), .int (nI be), .int ea, .int pr, .ref mas, .int nq, .int po, .int (nI en), .ref mso, .ref mon, .ref mot, .ref man, .int th, .int xd, .ref mst, .ref msm, .ref mtb, .ref mti, .ref mfr, .ref mbn, .ref mbs, .ref mde, .int sF, .int sN, .int sS, .int ig, .long xa, .long xb, .ref maa, .ref mab, .ref mba, .ref mbb])), (ms, .inl (cs 0, 288, .inl fz)), (mtr, .inl (cs 0, 288, .inl tz)), (mst, .inl (cs 5, 2, .inr (.inr (.inr (.inr fsz))))), (st0, .inl (cs 0, 96048, .inl s0z)), (st1, .inl (cs 0, 96048, .inl s1z)), (mtb, .inl (cs 5, 2, .inr (.inr (.inr (.inr ftz))))), (tb0, .inl (cs 0, 8192, .inl t0z)), (tb1, .inl (cs 0, 8192, .inl t1z)), (mti, .inl (cs 6, 2, .inr (.inr (.inr (.inr fiz))))), (ti0, .inl (cs 1, 2001, .inr (.inl i0z))), (ti1, .inl (cs 1, 2001, .inr (.inl i1z))), (msm, .inl (cs 0, 2, .inl smz))])) := by
  refine xMet.intro (by decide) (Nat.le_of_ble_eq_true rfl) ?_
  intro p e s m args below meth c A ls C hP hD hS hl
  have hx := C.1
  have hb := C.2.1
  have hz := C.2.2.2.2.1
  have hown := C.2.2.2.1
  have hA := C.2.2.2.2.2.2.2.2.2
  have hAO := C.2.2.2.2.2.2.2.2.1.2.2
  replace hl : lv_has ls 9 [(0, .ref hm), (1, .int (nI t)), (2, .int w9), (3, .int x9)] := hl
  obtain ⟨H, hH⟩ : ∃ H, H = s.heap := ⟨_, rfl⟩
  replace hP : va_P D vwCl [(hm, .inr (12, [.ref ms, .ref mkp, .int (nI km), .ref mtr, .int (nI n), .int (nI k), .int (nI al), .int (nI be), .int ea, .int pr, .ref mas, .int nq, .int po, .int (nI en), .ref mso, .ref mon, .ref mot, .ref man, .int th, .int xd, .ref mst, .ref msm, .ref mtb, .ref mti, .ref mfr, .ref mbn, .ref mbs, .ref mde, .int sF, .int sN, .int sS, .int ig, .long xa, .long xb, .ref maa, .ref mab, .ref mba, .ref mbb])), (ms, .inl (cs 0, 288, .inl f)), (mtr, .inl (cs 0, 288, .inl tf)), (mst, .inl (cs 5, 2, .inr (.inr (.inr (.inr fst))))), (st0, .inl (cs 0, 96048, .inl s0)), (st1, .inl (cs 0, 96048, .inl s1)), (mtb, .inl (cs 5, 2, .inr (.inr (.inr (.inr ftb))))), (tb0, .inl (cs 0, 8192, .inl t0)), (tb1, .inl (cs 0, 8192, .inl t1)), (mti, .inl (cs 6, 2, .inr (.inr (.inr (.inr fti))))), (ti0, .inl (cs 1, 2001, .inr (.inl i0))), (ti1, .inl (cs 1, 2001, .inr (.inl i1))), (msm, .inl (cs 0, 2, .inl smf))] H := by rw [hH]; exact hP
  replace hS : va_S A s.heap H [] := by rw [hH]; exact hS
  obtain ⟨locs, hlocs⟩ : ∃ z : List Loc, z = [] := ⟨_, rfl⟩
  rw [← hlocs] at hS
  suffices hW : W p l e ({ frames := 5, cells := 0, slots := 0, locals := 120 } : Room) s m args below meth c H locs 0 0 (MQ below ((xQl D (fun (r : Int64) (u : Nat × Nat × Nat × Nat × Nat × Nat × (Nat → Option Nat) × (Nat → Option Nat) × (Nat → Option Nat) × (Nat → Int32) × (Nat → Int32) × (Nat → Int32) × (Nat → Int32) × (Nat → Int32) × (Nat → Int32) × (Nat → Int32) × (Nat → Int64) × (Nat → Int64)) => match u with | (st0, tb0, ti0, st1, tb1, ti1, fsz, ftz, fiz, fz, tz, s0z, t0z, s1z, t1z, smz, i0z, i1z) => (∀ j, j < 288 → fz j = f j) ∧ fsz 0 = some st0 ∧ fsz 1 = some st1 ∧ ftz 0 = some tb0 ∧ ftz 1 = some tb1 ∧ fiz 0 = some ti0 ∧ fiz 1 = some ti1) (fun (u : Nat × Nat × Nat × Nat × Nat × Nat × (Nat → Option Nat) × (Nat → Option Nat) × (Nat → Option Nat) × (Nat → Int32) × (Nat → Int32) × (Nat → Int32) × (Nat → Int32) × (Nat → Int32) × (Nat → Int32) × (Nat → Int32) × (Nat → Int64) × (Nat → Int64)) => match u with | (st0, tb0, ti0, st1, tb1, ti1, fsz, ftz, fiz, fz, tz, s0z, t0z, s1z, t1z, smz, i0z, i1z) => [(hm, .inr (12, [.ref ms, .ref mkp, .int (nI km), .ref mtr, .int (nI n), .int (nI k), .int (nI al), .int (nI be), .int ea, .int pr, .ref mas, .int nq, .int po, .int (nI en), .ref mso, .ref mon, .ref mot, .ref man, .int th, .int xd, .ref mst, .ref msm, .ref mtb, .ref mti, .ref mfr, .ref mbn, .ref mbs, .ref mde, .int sF, .int sN, .int sS, .int ig, .long xa, .long xb, .ref maa, .ref mab, .ref mba, .ref mbb])), (ms, .inl (cs 0, 288, .inl fz)), (mtr, .inl (cs 0, 288, .inl tz)), (mst, .inl (cs 5, 2, .inr (.inr (.inr (.inr fsz))))), (st0, .inl (cs 0, 96048, .inl s0z)), (st1, .inl (cs 0, 96048, .inl s1z)), (mtb, .inl (cs 5, 2, .inr (.inr (.inr (.inr ftz))))), (tb0, .inl (cs 0, 8192, .inl t0z)), (tb1, .inl (cs 0, 8192, .inl t1z)), (mti, .inl (cs 6, 2, .inr (.inr (.inr (.inr fiz))))), (ti0, .inl (cs 1, 2001, .inr (.inl i0z))), (ti1, .inl (cs 1, 2001, .inr (.inl i1z))), (msm, .inl (cs 0, 2, .inl smz))])) A) args s 0 0 A) (F0 m 0 ls []) by rw [hlocs, hH] at hW; exact hW
  clear hH hlocs
  refine lv_aload_n hx hb dX12_counted_0 rfl (lv_at hl 0 rfl) ?_
  refine lv_iload_n hx hb dX12_counted_1 rfl (lv_at hl 1 rfl) ?_
  refine xi (wr := []) (xV (As := [.int (nI t)]) (rest := []) C (c_X12_goes_a l D cs hm ms mkp mtr mas mso mon mot man mst msm mtb mti mfr mbn mbs mde maa mab mba mbb n k al be km en ea pr nq po th xd sF sN sS ig xa xb f tf st0 tb0 ti0 st1 tb1 ti1 fst ftb fti s0 t0 s1 t1 smf i0 i1 t hn hs hfs0 hfs1 hft0 hft1 hfi0 hfi1 ht) kX12_206 hP hD [0, 1, 2, 3, 4, 5, 6, 7, 8, 9, 10, 11, 12] rfl (by decide +kernel) 0 rfl rfl rfl ⟨Nat.le_of_ble_eq_true rfl, Nat.le_of_ble_eq_true rfl⟩ rfl hl.1 rfl (Nat.le_of_ble_eq_true rfl) dX12_counted_2 ⟨Nat.le_of_ble_eq_true rfl, Nat.le_of_ble_eq_true rfl⟩) hP hD hS hA [0, 1, 2, 3, 4, 5, 6, 7, 8, 9, 10, 11, 12] [] rfl rfl (by decide +kernel) (by decide +kernel) ?_
  clear hP hD hS
  try clear locs
  try clear H
  intro r_1 u_2 H locs hw_r_1 hP hD hS
  obtain ⟨st0_3, tb0_4, ti0_5, st1_6, tb1_7, ti1_8, fsz_9, ftz_10, fiz_11, fz_12, tz_13, s0z_14, t0z_15, s1z_16, t1z_17, smz_18, i0z_19, i1z_20, zz_21⟩ := u_2
  have hw_r_1 : (r_1 = -1 ∨ ∃ g, g < 2 ∧ r_1 = nI g ∧ (zz_21 ≤ 2000 ∧ (g = 0 → stP zz_21 s0z_14 ∧ smz_18 0 = nI zz_21) ∧ (g = 1 → stP zz_21 s1z_16 ∧ smz_18 1 = nI zz_21))) ∧ (∀ j, j < 288 → fz_12 j = f j) ∧ fsz_9 0 = some st0_3 ∧ fsz_9 1 = some st1_6 ∧ ftz_10 0 = some tb0_4 ∧ ftz_10 1 = some tb1_7 ∧ fiz_11 0 = some ti0_5 ∧ fiz_11 1 = some ti1_8 := hw_r_1
  refine W.widen (k := 0) (n := 0) (Nat.le_of_ble_eq_true rfl) (Nat.le_of_ble_eq_true rfl) ?_
  replace hP : va_P D vwCl [(hm, .inr (12, [.ref ms, .ref mkp, .int (nI km), .ref mtr, .int (nI n), .int (nI k), .int (nI al), .int (nI be), .int ea, .int pr, .ref mas, .int nq, .int po, .int (nI en), .ref mso, .ref mon, .ref mot, .ref man, .int th, .int xd, .ref mst, .ref msm, .ref mtb, .ref mti, .ref mfr, .ref mbn, .ref mbs, .ref mde, .int sF, .int sN, .int sS, .int ig, .long xa, .long xb, .ref maa, .ref mab, .ref mba, .ref mbb])), (ms, .inl (cs 0, 288, .inl fz_12)), (mtr, .inl (cs 0, 288, .inl tz_13)), (mst, .inl (cs 5, 2, .inr (.inr (.inr (.inr fsz_9))))), (st0_3, .inl (cs 0, 96048, .inl s0z_14)), (st1_6, .inl (cs 0, 96048, .inl s1z_16)), (mtb, .inl (cs 5, 2, .inr (.inr (.inr (.inr ftz_10))))), (tb0_4, .inl (cs 0, 8192, .inl t0z_15)), (tb1_7, .inl (cs 0, 8192, .inl t1z_17)), (mti, .inl (cs 6, 2, .inr (.inr (.inr (.inr fiz_11))))), (ti0_5, .inl (cs 1, 2001, .inr (.inl i0z_19))), (ti1_8, .inl (cs 1, 2001, .inr (.inl i1z_20))), (msm, .inl (cs 0, 2, .inl smz_18))] H := hP
  replace hD : va_D A [(hm, .inr (12, [.ref ms, .ref mkp, .int (nI km), .ref mtr, .int (nI n), .int (nI k), .int (nI al), .int (nI be), .int ea, .int pr, .ref mas, .int nq, .int po, .int (nI en), .ref mso, .ref mon, .ref mot, .ref man, .int th, .int xd, .ref mst, .ref msm, .ref mtb, .ref mti, .ref mfr, .ref mbn, .ref mbs, .ref mde, .int sF, .int sN, .int sS, .int ig, .long xa, .long xb, .ref maa, .ref mab, .ref mba, .ref mbb])), (ms, .inl (cs 0, 288, .inl fz_12)), (mtr, .inl (cs 0, 288, .inl tz_13)), (mst, .inl (cs 5, 2, .inr (.inr (.inr (.inr fsz_9))))), (st0_3, .inl (cs 0, 96048, .inl s0z_14)), (st1_6, .inl (cs 0, 96048, .inl s1z_16)), (mtb, .inl (cs 5, 2, .inr (.inr (.inr (.inr ftz_10))))), (tb0_4, .inl (cs 0, 8192, .inl t0z_15)), (tb1_7, .inl (cs 0, 8192, .inl t1z_17)), (mti, .inl (cs 6, 2, .inr (.inr (.inr (.inr fiz_11))))), (ti0_5, .inl (cs 1, 2001, .inr (.inl i0z_19))), (ti1_8, .inl (cs 1, 2001, .inr (.inl i1z_20))), (msm, .inl (cs 0, 2, .inl smz_18))] := hD
  refine lv_istore (lv' := [(4, .int r_1), (0, .ref hm), (1, .int (nI t)), (2, .int w9), (3, .int x9)]) hx hb dX12_counted_5 hl (by decide) rfl ?_
  clear hl
  try clear ls
  intro ls hl
  refine lv_iload hx hb dX12_counted_7 (lv_at hl 0 rfl) ?_
  refine lv_if_ge (tgt := 16) hx hb dX12_counted_9 (by decide) (fun c_22 => ?_) (fun c_22 => ?_)
  · -- 9 t
    obtain ⟨g0, hg0, rfl, hcur⟩ := hw_r_1.1.resolve_left (fun q => by rw [q] at c_22; exact absurd c_22 (by decide))
    replace hP : va_P D vwCl [(hm, .inr (12, [.ref ms, .ref mkp, .int (nI km), .ref mtr, .int (nI n), .int (nI k), .int (nI al), .int (nI be), .int ea, .int pr, .ref mas, .int nq, .int po, .int (nI en), .ref mso, .ref mon, .ref mot, .ref man, .int th, .int xd, .ref mst, .ref msm, .ref mtb, .ref mti, .ref mfr, .ref mbn, .ref mbs, .ref mde, .int sF, .int sN, .int sS, .int ig, .long xa, .long xb, .ref maa, .ref mab, .ref mba, .ref mbb])), (ms, .inl (cs 0, 288, .inl fz_12)), (mtr, .inl (cs 0, 288, .inl tz_13)), (mst, .inl (cs 5, 2, .inr (.inr (.inr (.inr fsz_9))))), (st0_3, .inl (cs 0, 96048, .inl s0z_14)), (st1_6, .inl (cs 0, 96048, .inl s1z_16)), (mtb, .inl (cs 5, 2, .inr (.inr (.inr (.inr ftz_10))))), (tb0_4, .inl (cs 0, 8192, .inl t0z_15)), (tb1_7, .inl (cs 0, 8192, .inl t1z_17)), (mti, .inl (cs 6, 2, .inr (.inr (.inr (.inr fiz_11))))), (ti0_5, .inl (cs 1, 2001, .inr (.inl i0z_19))), (ti1_8, .inl (cs 1, 2001, .inr (.inl i1z_20))), (msm, .inl (cs 0, 2, .inl smz_18))] H := hP
    replace hD : va_D A [(hm, .inr (12, [.ref ms, .ref mkp, .int (nI km), .ref mtr, .int (nI n), .int (nI k), .int (nI al), .int (nI be), .int ea, .int pr, .ref mas, .int nq, .int po, .int (nI en), .ref mso, .ref mon, .ref mot, .ref man, .int th, .int xd, .ref mst, .ref msm, .ref mtb, .ref mti, .ref mfr, .ref mbn, .ref mbs, .ref mde, .int sF, .int sN, .int sS, .int ig, .long xa, .long xb, .ref maa, .ref mab, .ref mba, .ref mbb])), (ms, .inl (cs 0, 288, .inl fz_12)), (mtr, .inl (cs 0, 288, .inl tz_13)), (mst, .inl (cs 5, 2, .inr (.inr (.inr (.inr fsz_9))))), (st0_3, .inl (cs 0, 96048, .inl s0z_14)), (st1_6, .inl (cs 0, 96048, .inl s1z_16)), (mtb, .inl (cs 5, 2, .inr (.inr (.inr (.inr ftz_10))))), (tb0_4, .inl (cs 0, 8192, .inl t0z_15)), (tb1_7, .inl (cs 0, 8192, .inl t1z_17)), (mti, .inl (cs 6, 2, .inr (.inr (.inr (.inr fiz_11))))), (ti0_5, .inl (cs 1, 2001, .inr (.inl i0z_19))), (ti1_8, .inl (cs 1, 2001, .inr (.inl i1z_20))), (msm, .inl (cs 0, 2, .inl smz_18))] := hD
    have hsmg := cur_sm hg0 hcur
    refine lv_aload_n hx hb dX12_counted_16 rfl (lv_at hl 1 rfl) ?_
    refine lv_aload_n hx hb dX12_counted_17 rfl (lv_at hl 1 rfl) ?_
    refine xget C hP 0 rfl rfl zuX12 0 (by decide) zw5_213 rfl dX12_counted_18 ?_
    refine lv_aload_n hx hb dX12_counted_21 rfl (lv_at hl 1 rfl) ?_
    refine xget C hP 0 rfl rfl zuX12 3 (by decide) zw5_216 rfl dX12_counted_22 ?_
    refine xv (wr := [(mst, .inl (cs 5, 2, .inr (.inr (.inr (.inr fsz_9))))), (st0_3, .inl (cs 0, 96048, .inl s0z_14)), (st1_6, .inl (cs 0, 96048, .inl s1z_16)), (mtb, .inl (cs 5, 2, .inr (.inr (.inr (.inr ftz_10))))), (tb0_4, .inl (cs 0, 8192, .inl t0z_15)), (tb1_7, .inl (cs 0, 8192, .inl t1z_17)), (mti, .inl (cs 6, 2, .inr (.inr (.inr (.inr fiz_11))))), (ti0_5, .inl (cs 1, 2001, .inr (.inl i0z_19))), (ti1_8, .inl (cs 1, 2001, .inr (.inl i1z_20))), (msm, .inl (cs 0, 2, .inl smz_18))]) (xV (As := [.ref ms, .ref mtr]) (rest := []) C (c_X12_puts l D cs hm ms mkp mtr mas mso mon mot man mst msm mtb mti mfr mbn mbs mde maa mab mba mbb n k al be km en ea pr nq po th xd sF sN sS ig xa xb ms mtr fz_12 tz_13) kX12_148 hP hD [0, 1, 2] rfl (by decide +kernel) 0 rfl rfl rfl ⟨Nat.le_of_ble_eq_true rfl, Nat.le_of_ble_eq_true rfl⟩ rfl hl.1 rfl (Nat.le_of_ble_eq_true rfl) dX12_counted_25 ⟨Nat.le_of_ble_eq_true rfl, Nat.le_of_ble_eq_true rfl⟩) hP hD hS hA [0, 1, 2] [3, 4, 5, 6, 7, 8, 9, 10, 11, 12] rfl rfl (by decide +kernel) (by decide +kernel) ?_
    clear hP hD hS
    try clear locs
    try clear H
    intro u_24 H locs hw_r_23 hP hD hS
    have hw_r_23 : ∀ j, j < 288 → u_24 j = fz_12 j := hw_r_23
    refine W.widen (k := 0) (n := 0) (Nat.le_of_ble_eq_true rfl) (Nat.le_of_ble_eq_true rfl) ?_
    replace hP : va_P D vwCl [(mst, .inl (cs 5, 2, .inr (.inr (.inr (.inr fsz_9))))), (st0_3, .inl (cs 0, 96048, .inl s0z_14)), (st1_6, .inl (cs 0, 96048, .inl s1z_16)), (mtb, .inl (cs 5, 2, .inr (.inr (.inr (.inr ftz_10))))), (tb0_4, .inl (cs 0, 8192, .inl t0z_15)), (tb1_7, .inl (cs 0, 8192, .inl t1z_17)), (mti, .inl (cs 6, 2, .inr (.inr (.inr (.inr fiz_11))))), (ti0_5, .inl (cs 1, 2001, .inr (.inl i0z_19))), (ti1_8, .inl (cs 1, 2001, .inr (.inl i1z_20))), (msm, .inl (cs 0, 2, .inl smz_18)), (hm, .inr (12, [.ref ms, .ref mkp, .int (nI km), .ref mtr, .int (nI n), .int (nI k), .int (nI al), .int (nI be), .int ea, .int pr, .ref mas, .int nq, .int po, .int (nI en), .ref mso, .ref mon, .ref mot, .ref man, .int th, .int xd, .ref mst, .ref msm, .ref mtb, .ref mti, .ref mfr, .ref mbn, .ref mbs, .ref mde, .int sF, .int sN, .int sS, .int ig, .long xa, .long xb, .ref maa, .ref mab, .ref mba, .ref mbb])), (ms, .inl (cs 0, 288, .inl fz_12)), (mtr, .inl (cs 0, 288, .inl u_24))] H := hP
    replace hD : va_D A [(mst, .inl (cs 5, 2, .inr (.inr (.inr (.inr fsz_9))))), (st0_3, .inl (cs 0, 96048, .inl s0z_14)), (st1_6, .inl (cs 0, 96048, .inl s1z_16)), (mtb, .inl (cs 5, 2, .inr (.inr (.inr (.inr ftz_10))))), (tb0_4, .inl (cs 0, 8192, .inl t0z_15)), (tb1_7, .inl (cs 0, 8192, .inl t1z_17)), (mti, .inl (cs 6, 2, .inr (.inr (.inr (.inr fiz_11))))), (ti0_5, .inl (cs 1, 2001, .inr (.inl i0z_19))), (ti1_8, .inl (cs 1, 2001, .inr (.inl i1z_20))), (msm, .inl (cs 0, 2, .inl smz_18)), (hm, .inr (12, [.ref ms, .ref mkp, .int (nI km), .ref mtr, .int (nI n), .int (nI k), .int (nI al), .int (nI be), .int ea, .int pr, .ref mas, .int nq, .int po, .int (nI en), .ref mso, .ref mon, .ref mot, .ref man, .int th, .int xd, .ref mst, .ref msm, .ref mtb, .ref mti, .ref mfr, .ref mbn, .ref mbs, .ref mde, .int sF, .int sN, .int sS, .int ig, .long xa, .long xb, .ref maa, .ref mab, .ref mba, .ref mbb])), (ms, .inl (cs 0, 288, .inl fz_12)), (mtr, .inl (cs 0, 288, .inl u_24))] := hD
    refine lv_lconst (v := 0) hx hb dX12_counted_28 (by decide) ?_
    refine lv_lstore (lv' := [(5, .long 0), (4, .int (nI g0)), (0, .ref hm), (1, .int (nI t)), (2, .int w9), (3, .int x9)]) hx hb dX12_counted_29 hl (by decide) rfl ?_
    clear hl
    try clear ls
    intro ls hl
    refine lv_iconst (v := nI 0) hx hb dX12_counted_31 (by decide) ?_
    refine lv_istore (lv' := [(7, .int (nI 0)), (5, .long 0), (4, .int (nI g0)), (0, .ref hm), (1, .int (nI t)), (2, .int w9), (3, .int x9)]) hx hb dX12_counted_32 hl (by decide) rfl ?_
    clear hl
    try clear ls
    intro ls hl
    have loop_25 : ∀ (n_loop_25 : Nat) (o : Nat) (f9 : Nat → Int32) (v9 : Int64), (o ≤ 2000) → 2000 - o < n_loop_25 → ∀ (H : Heap) (locs : List Loc) (ls : Array Slot), va_P D vwCl [(mst, .inl (cs 5, 2, .inr (.inr (.inr (.inr fsz_9))))), (st0_3, .inl (cs 0, 96048, .inl s0z_14)), (st1_6, .inl (cs 0, 96048, .inl s1z_16)), (mtb, .inl (cs 5, 2, .inr (.inr (.inr (.inr ftz_10))))), (tb0_4, .inl (cs 0, 8192, .inl t0z_15)), (tb1_7, .inl (cs 0, 8192, .inl t1z_17)), (mti, .inl (cs 6, 2, .inr (.inr (.inr (.inr fiz_11))))), (ti0_5, .inl (cs 1, 2001, .inr (.inl i0z_19))), (ti1_8, .inl (cs 1, 2001, .inr (.inl i1z_20))), (msm, .inl (cs 0, 2, .inl smz_18)), (hm, .inr (12, [.ref ms, .ref mkp, .int (nI km), .ref mtr, .int (nI n), .int (nI k), .int (nI al), .int (nI be), .int ea, .int pr, .ref mas, .int nq, .int po, .int (nI en), .ref mso, .ref mon, .ref mot, .ref man, .int th, .int xd, .ref mst, .ref msm, .ref mtb, .ref mti, .ref mfr, .ref mbn, .ref mbs, .ref mde, .int sF, .int sN, .int sS, .int ig, .long xa, .long xb, .ref maa, .ref mab, .ref mba, .ref mbb])), (ms, .inl (cs 0, 288, .inl f9)), (mtr, .inl (cs 0, 288, .inl u_24))] H → va_D A [(mst, .inl (cs 5, 2, .inr (.inr (.inr (.inr fsz_9))))), (st0_3, .inl (cs 0, 96048, .inl s0z_14)), (st1_6, .inl (cs 0, 96048, .inl s1z_16)), (mtb, .inl (cs 5, 2, .inr (.inr (.inr (.inr ftz_10))))), (tb0_4, .inl (cs 0, 8192, .inl t0z_15)), (tb1_7, .inl (cs 0, 8192, .inl t1z_17)), (mti, .inl (cs 6, 2, .inr (.inr (.inr (.inr fiz_11))))), (ti0_5, .inl (cs 1, 2001, .inr (.inl i0z_19))), (ti1_8, .inl (cs 1, 2001, .inr (.inl i1z_20))), (msm, .inl (cs 0, 2, .inl smz_18)), (hm, .inr (12, [.ref ms, .ref mkp, .int (nI km), .ref mtr, .int (nI n), .int (nI k), .int (nI al), .int (nI be), .int ea, .int pr, .ref mas, .int nq, .int po, .int (nI en), .ref mso, .ref mon, .ref mot, .ref man, .int th, .int xd, .ref mst, .ref msm, .ref mtb, .ref mti, .ref mfr, .ref mbn, .ref mbs, .ref mde, .int sF, .int sN, .int sS, .int ig, .long xa, .long xb, .ref maa, .ref mab, .ref mba, .ref mbb])), (ms, .inl (cs 0, 288, .inl f9)), (mtr, .inl (cs 0, 288, .inl u_24))] → va_S A s.heap H locs → lv_has ls 9 [(7, .int (nI o)), (5, .long v9), (4, .int (nI g0)), (0, .ref hm), (1, .int (nI t)), (2, .int w9), (3, .int x9)] → W p l e ({ frames := 5, cells := 0, slots := 0, locals := 120 } : Room) s m args below meth c H locs 0 0 (MQ below ((xQl D (fun (r : Int64) (u : Nat × Nat × Nat × Nat × Nat × Nat × (Nat → Option Nat) × (Nat → Option Nat) × (Nat → Option Nat) × (Nat → Int32) × (Nat → Int32) × (Nat → Int32) × (Nat → Int32) × (Nat → Int32) × (Nat → Int32) × (Nat → Int32) × (Nat → Int64) × (Nat → Int64)) => match u with | (st0, tb0, ti0, st1, tb1, ti1, fsz, ftz, fiz, fz, tz, s0z, t0z, s1z, t1z, smz, i0z, i1z) => (∀ j, j < 288 → fz j = f j) ∧ fsz 0 = some st0 ∧ fsz 1 = some st1 ∧ ftz 0 = some tb0 ∧ ftz 1 = some tb1 ∧ fiz 0 = some ti0 ∧ fiz 1 = some ti1) (fun (u : Nat × Nat × Nat × Nat × Nat × Nat × (Nat → Option Nat) × (Nat → Option Nat) × (Nat → Option Nat) × (Nat → Int32) × (Nat → Int32) × (Nat → Int32) × (Nat → Int32) × (Nat → Int32) × (Nat → Int32) × (Nat → Int32) × (Nat → Int64) × (Nat → Int64)) => match u with | (st0, tb0, ti0, st1, tb1, ti1, fsz, ftz, fiz, fz, tz, s0z, t0z, s1z, t1z, smz, i0z, i1z) => [(hm, .inr (12, [.ref ms, .ref mkp, .int (nI km), .ref mtr, .int (nI n), .int (nI k), .int (nI al), .int (nI be), .int ea, .int pr, .ref mas, .int nq, .int po, .int (nI en), .ref mso, .ref mon, .ref mot, .ref man, .int th, .int xd, .ref mst, .ref msm, .ref mtb, .ref mti, .ref mfr, .ref mbn, .ref mbs, .ref mde, .int sF, .int sN, .int sS, .int ig, .long xa, .long xb, .ref maa, .ref mab, .ref mba, .ref mbb])), (ms, .inl (cs 0, 288, .inl fz)), (mtr, .inl (cs 0, 288, .inl tz)), (mst, .inl (cs 5, 2, .inr (.inr (.inr (.inr fsz))))), (st0, .inl (cs 0, 96048, .inl s0z)), (st1, .inl (cs 0, 96048, .inl s1z)), (mtb, .inl (cs 5, 2, .inr (.inr (.inr (.inr ftz))))), (tb0, .inl (cs 0, 8192, .inl t0z)), (tb1, .inl (cs 0, 8192, .inl t1z)), (mti, .inl (cs 6, 2, .inr (.inr (.inr (.inr fiz))))), (ti0, .inl (cs 1, 2001, .inr (.inl i0z))), (ti1, .inl (cs 1, 2001, .inr (.inl i1z))), (msm, .inl (cs 0, 2, .inl smz))])) A) args s 0 0 A) (F0 m 34 ls []) := by
      intro n_loop_25
      induction n_loop_25 with
      | zero => intro o f9 v9 h_o hlt H locs ls hP hD hS hl; exact absurd hlt (Nat.not_lt_zero _)
      | succ n_loop_25 ih_loop_25 =>
        intro o f9 v9 h_o hlt_loop_25 H locs ls hP hD hS hl
        refine lv_iload hx hb dX12_counted_34 (lv_at hl 0 rfl) ?_
        refine lv_aload_n hx hb dX12_counted_36 rfl (lv_at hl 3 rfl) ?_
        refine xget C hP 10 rfl rfl zuX12 21 (by decide) zw5_234 rfl dX12_counted_37 ?_
        refine lv_iload hx hb dX12_counted_40 (lv_at hl 2 rfl) ?_
        refine xiald C hP 9 rfl g0 rfl (by omega) (by decide) dX12_counted_42 ?_
        refine lv_topi (nm_r (e' := nI zz_21) hsmg ?_)
        refine lv_icmp_ge (tgt := 122) hx hb dX12_counted_43 (by decide) (fun c_26 => ?_) (fun c_26 => ?_)
        · -- 43 t
          have fc_26 : zz_21 ≤ o := nf_le (by omega) (by omega) c_26
          refine lv_aload_n hx hb dX12_counted_122 rfl (lv_at hl 3 rfl) ?_
          refine lv_aload_n hx hb dX12_counted_123 rfl (lv_at hl 3 rfl) ?_
          refine xget C hP 10 rfl rfl zuX12 3 (by decide) zw5_216 rfl dX12_counted_124 ?_
          refine lv_aload_n hx hb dX12_counted_127 rfl (lv_at hl 3 rfl) ?_
          refine xget C hP 10 rfl rfl zuX12 0 (by decide) zw5_213 rfl dX12_counted_128 ?_
          refine xv (wr := [(mst, .inl (cs 5, 2, .inr (.inr (.inr (.inr fsz_9))))), (st0_3, .inl (cs 0, 96048, .inl s0z_14)), (st1_6, .inl (cs 0, 96048, .inl s1z_16)), (mtb, .inl (cs 5, 2, .inr (.inr (.inr (.inr ftz_10))))), (tb0_4, .inl (cs 0, 8192, .inl t0z_15)), (tb1_7, .inl (cs 0, 8192, .inl t1z_17)), (mti, .inl (cs 6, 2, .inr (.inr (.inr (.inr fiz_11))))), (ti0_5, .inl (cs 1, 2001, .inr (.inl i0z_19))), (ti1_8, .inl (cs 1, 2001, .inr (.inl i1z_20))), (msm, .inl (cs 0, 2, .inl smz_18))]) (xV (As := [.ref mtr, .ref ms]) (rest := []) C (c_X12_puts l D cs hm ms mkp mtr mas mso mon mot man mst msm mtb mti mfr mbn mbs mde maa mab mba mbb n k al be km en ea pr nq po th xd sF sN sS ig xa xb mtr ms u_24 f9) kX12_148 hP hD [10, 12, 11] rfl (by decide +kernel) 0 rfl rfl rfl ⟨Nat.le_of_ble_eq_true rfl, Nat.le_of_ble_eq_true rfl⟩ rfl hl.1 rfl (Nat.le_of_ble_eq_true rfl) dX12_counted_131 ⟨Nat.le_of_ble_eq_true rfl, Nat.le_of_ble_eq_true rfl⟩) hP hD hS hA [10, 12, 11] [0, 1, 2, 3, 4, 5, 6, 7, 8, 9] rfl rfl (by decide +kernel) (by decide +kernel) ?_
          clear hP hD hS
          try clear locs
          try clear H
          intro u_28 H locs hw_r_27 hP hD hS
          have hw_r_27 : ∀ j, j < 288 → u_28 j = u_24 j := hw_r_27
          refine W.widen (k := 0) (n := 0) (Nat.le_of_ble_eq_true rfl) (Nat.le_of_ble_eq_true rfl) ?_
          replace hP : va_P D vwCl [(mst, .inl (cs 5, 2, .inr (.inr (.inr (.inr fsz_9))))), (st0_3, .inl (cs 0, 96048, .inl s0z_14)), (st1_6, .inl (cs 0, 96048, .inl s1z_16)), (mtb, .inl (cs 5, 2, .inr (.inr (.inr (.inr ftz_10))))), (tb0_4, .inl (cs 0, 8192, .inl t0z_15)), (tb1_7, .inl (cs 0, 8192, .inl t1z_17)), (mti, .inl (cs 6, 2, .inr (.inr (.inr (.inr fiz_11))))), (ti0_5, .inl (cs 1, 2001, .inr (.inl i0z_19))), (ti1_8, .inl (cs 1, 2001, .inr (.inl i1z_20))), (msm, .inl (cs 0, 2, .inl smz_18)), (hm, .inr (12, [.ref ms, .ref mkp, .int (nI km), .ref mtr, .int (nI n), .int (nI k), .int (nI al), .int (nI be), .int ea, .int pr, .ref mas, .int nq, .int po, .int (nI en), .ref mso, .ref mon, .ref mot, .ref man, .int th, .int xd, .ref mst, .ref msm, .ref mtb, .ref mti, .ref mfr, .ref mbn, .ref mbs, .ref mde, .int sF, .int sN, .int sS, .int ig, .long xa, .long xb, .ref maa, .ref mab, .ref mba, .ref mbb])), (mtr, .inl (cs 0, 288, .inl u_24)), (ms, .inl (cs 0, 288, .inl u_28))] H := hP
          replace hD : va_D A [(mst, .inl (cs 5, 2, .inr (.inr (.inr (.inr fsz_9))))), (st0_3, .inl (cs 0, 96048, .inl s0z_14)), (st1_6, .inl (cs 0, 96048, .inl s1z_16)), (mtb, .inl (cs 5, 2, .inr (.inr (.inr (.inr ftz_10))))), (tb0_4, .inl (cs 0, 8192, .inl t0z_15)), (tb1_7, .inl (cs 0, 8192, .inl t1z_17)), (mti, .inl (cs 6, 2, .inr (.inr (.inr (.inr fiz_11))))), (ti0_5, .inl (cs 1, 2001, .inr (.inl i0z_19))), (ti1_8, .inl (cs 1, 2001, .inr (.inl i1z_20))), (msm, .inl (cs 0, 2, .inl smz_18)), (hm, .inr (12, [.ref ms, .ref mkp, .int (nI km), .ref mtr, .int (nI n), .int (nI k), .int (nI al), .int (nI be), .int ea, .int pr, .ref mas, .int nq, .int po, .int (nI en), .ref mso, .ref mon, .ref mot, .ref man, .int th, .int xd, .ref mst, .ref msm, .ref mtb, .ref mti, .ref mfr, .ref mbn, .ref mbs, .ref mde, .int sF, .int sN, .int sS, .int ig, .long xa, .long xb, .ref maa, .ref mab, .ref mba, .ref mbb])), (mtr, .inl (cs 0, 288, .inl u_24)), (ms, .inl (cs 0, 288, .inl u_28))] := hD
          refine lv_lload hx hb dX12_counted_134 (lv_at hl 1 rfl) ?_
          exact xretl C (⟨st0_3, tb0_4, ti0_5, st1_6, tb1_7, ti1_8, fsz_9, ftz_10, fiz_11, u_28, u_24, s0z_14, t0z_15, s1z_16, t1z_17, smz_18, i0z_19, i1z_20⟩) (⟨(fun j hj => ((hw_r_27 j hj).trans (hw_r_23 j hj)).trans (hw_r_1.2.1 j hj)), hw_r_1.2.2⟩) (xP_map hP [10, 12, 11, 0, 1, 2, 3, 4, 5, 6, 7, 8, 9] rfl) (hD.sub [10, 12, 11, 0, 1, 2, 3, 4, 5, 6, 7, 8, 9] (by decide +kernel) rfl) hS (Nat.le_of_ble_eq_true rfl) (Nat.le_of_ble_eq_true rfl) dX12_counted_136
        · -- 43 f
          have fc_26 : o < zz_21 := nf_nle (by omega) (by omega) c_26
          rcases (show g0 = 0 ∨ g0 = 1 by omega) with rfl | rfl
          · -- g0 = 0
            replace hP : va_P D vwCl [(mst, .inl (cs 5, 2, .inr (.inr (.inr (.inr fsz_9))))), (st0_3, .inl (cs 0, 96048, .inl s0z_14)), (st1_6, .inl (cs 0, 96048, .inl s1z_16)), (mtb, .inl (cs 5, 2, .inr (.inr (.inr (.inr ftz_10))))), (tb0_4, .inl (cs 0, 8192, .inl t0z_15)), (tb1_7, .inl (cs 0, 8192, .inl t1z_17)), (mti, .inl (cs 6, 2, .inr (.inr (.inr (.inr fiz_11))))), (ti0_5, .inl (cs 1, 2001, .inr (.inl i0z_19))), (ti1_8, .inl (cs 1, 2001, .inr (.inl i1z_20))), (msm, .inl (cs 0, 2, .inl smz_18)), (hm, .inr (12, [.ref ms, .ref mkp, .int (nI km), .ref mtr, .int (nI n), .int (nI k), .int (nI al), .int (nI be), .int ea, .int pr, .ref mas, .int nq, .int po, .int (nI en), .ref mso, .ref mon, .ref mot, .ref man, .int th, .int xd, .ref mst, .ref msm, .ref mtb, .ref mti, .ref mfr, .ref mbn, .ref mbs, .ref mde, .int sF, .int sN, .int sS, .int ig, .long xa, .long xb, .ref maa, .ref mab, .ref mba, .ref mbb])), (ms, .inl (cs 0, 288, .inl f9)), (mtr, .inl (cs 0, 288, .inl u_24))] H := hP
            replace hD : va_D A [(mst, .inl (cs 5, 2, .inr (.inr (.inr (.inr fsz_9))))), (st0_3, .inl (cs 0, 96048, .inl s0z_14)), (st1_6, .inl (cs 0, 96048, .inl s1z_16)), (mtb, .inl (cs 5, 2, .inr (.inr (.inr (.inr ftz_10))))), (tb0_4, .inl (cs 0, 8192, .inl t0z_15)), (tb1_7, .inl (cs 0, 8192, .inl t1z_17)), (mti, .inl (cs 6, 2, .inr (.inr (.inr (.inr fiz_11))))), (ti0_5, .inl (cs 1, 2001, .inr (.inl i0z_19))), (ti1_8, .inl (cs 1, 2001, .inr (.inl i1z_20))), (msm, .inl (cs 0, 2, .inl smz_18)), (hm, .inr (12, [.ref ms, .ref mkp, .int (nI km), .ref mtr, .int (nI n), .int (nI k), .int (nI al), .int (nI be), .int ea, .int pr, .ref mas, .int nq, .int po, .int (nI en), .ref mso, .ref mon, .ref mot, .ref man, .int th, .int xd, .ref mst, .ref msm, .ref mtb, .ref mti, .ref mfr, .ref mbn, .ref mbs, .ref mde, .int sF, .int sN, .int sS, .int ig, .long xa, .long xb, .ref maa, .ref mab, .ref mba, .ref mbb])), (ms, .inl (cs 0, 288, .inl f9)), (mtr, .inl (cs 0, 288, .inl u_24))] := hD
            refine lv_aload_n hx hb dX12_counted_46 rfl (lv_at hl 3 rfl) ?_
            refine lv_iload hx hb dX12_counted_47 (lv_at hl 2 rfl) ?_
            refine lv_iload hx hb dX12_counted_49 (lv_at hl 0 rfl) ?_
            refine xv (wr := [(st1_6, .inl (cs 0, 96048, .inl s1z_16)), (mtb, .inl (cs 5, 2, .inr (.inr (.inr (.inr ftz_10))))), (tb0_4, .inl (cs 0, 8192, .inl t0z_15)), (tb1_7, .inl (cs 0, 8192, .inl t1z_17)), (mti, .inl (cs 6, 2, .inr (.inr (.inr (.inr fiz_11))))), (ti0_5, .inl (cs 1, 2001, .inr (.inl i0z_19))), (ti1_8, .inl (cs 1, 2001, .inr (.inl i1z_20))), (msm, .inl (cs 0, 2, .inl smz_18)), (mtr, .inl (cs 0, 288, .inl u_24))]) (xV (As := [.int (nI 0), .int (nI o)]) (rest := []) C (c_X12_brings l D cs hm ms mkp mtr mas mso mon mot man mst msm mtb mti mfr mbn mbs mde maa mab mba mbb n k al be km en ea pr nq po th xd sF sN sS ig xa xb f9 0 st0_3 o zz_21 fsz_9 s0z_14 (by decide) hw_r_1.2.2.1 (by omega) hcur.1 ((hcur.2.1 rfl).1)) kX12_203 hP hD [10, 11, 0, 1] rfl (by decide +kernel) 0 rfl rfl rfl ⟨Nat.le_of_ble_eq_true rfl, Nat.le_of_ble_eq_true rfl⟩ rfl hl.1 rfl (Nat.le_of_ble_eq_true rfl) dX12_counted_51 ⟨Nat.le_of_ble_eq_true rfl, Nat.le_of_ble_eq_true rfl⟩) hP hD hS hA [10, 11, 0, 1] [2, 3, 4, 5, 6, 7, 8, 9, 12] rfl rfl (by decide +kernel) (by decide +kernel) ?_
            clear hP hD hS
            try clear locs
            try clear H
            intro u_30 H locs hw_r_29 hP hD hS
            have hw_r_29 : colP u_30 ∧ ∀ j, 48 ≤ j → u_30 j = f9 j := hw_r_29
            refine W.widen (k := 0) (n := 0) (Nat.le_of_ble_eq_true rfl) (Nat.le_of_ble_eq_true rfl) ?_
            replace hP : va_P D vwCl [(st1_6, .inl (cs 0, 96048, .inl s1z_16)), (mtb, .inl (cs 5, 2, .inr (.inr (.inr (.inr ftz_10))))), (tb0_4, .inl (cs 0, 8192, .inl t0z_15)), (tb1_7, .inl (cs 0, 8192, .inl t1z_17)), (mti, .inl (cs 6, 2, .inr (.inr (.inr (.inr fiz_11))))), (ti0_5, .inl (cs 1, 2001, .inr (.inl i0z_19))), (ti1_8, .inl (cs 1, 2001, .inr (.inl i1z_20))), (msm, .inl (cs 0, 2, .inl smz_18)), (mtr, .inl (cs 0, 288, .inl u_24)), (hm, .inr (12, [.ref ms, .ref mkp, .int (nI km), .ref mtr, .int (nI n), .int (nI k), .int (nI al), .int (nI be), .int ea, .int pr, .ref mas, .int nq, .int po, .int (nI en), .ref mso, .ref mon, .ref mot, .ref man, .int th, .int xd, .ref mst, .ref msm, .ref mtb, .ref mti, .ref mfr, .ref mbn, .ref mbs, .ref mde, .int sF, .int sN, .int sS, .int ig, .long xa, .long xb, .ref maa, .ref mab, .ref mba, .ref mbb])), (ms, .inl (cs 0, 288, .inl u_30)), (mst, .inl (cs 5, 2, .inr (.inr (.inr (.inr fsz_9))))), (st0_3, .inl (cs 0, 96048, .inl s0z_14))] H := hP
            replace hD : va_D A [(st1_6, .inl (cs 0, 96048, .inl s1z_16)), (mtb, .inl (cs 5, 2, .inr (.inr (.inr (.inr ftz_10))))), (tb0_4, .inl (cs 0, 8192, .inl t0z_15)), (tb1_7, .inl (cs 0, 8192, .inl t1z_17)), (mti, .inl (cs 6, 2, .inr (.inr (.inr (.inr fiz_11))))), (ti0_5, .inl (cs 1, 2001, .inr (.inl i0z_19))), (ti1_8, .inl (cs 1, 2001, .inr (.inl i1z_20))), (msm, .inl (cs 0, 2, .inl smz_18)), (mtr, .inl (cs 0, 288, .inl u_24)), (hm, .inr (12, [.ref ms, .ref mkp, .int (nI km), .ref mtr, .int (nI n), .int (nI k), .int (nI al), .int (nI be), .int ea, .int pr, .ref mas, .int nq, .int po, .int (nI en), .ref mso, .ref mon, .ref mot, .ref man, .int th, .int xd, .ref mst, .ref msm, .ref mtb, .ref mti, .ref mfr, .ref mbn, .ref mbs, .ref mde, .int sF, .int sN, .int sS, .int ig, .long xa, .long xb, .ref maa, .ref mab, .ref mba, .ref mbb])), (ms, .inl (cs 0, 288, .inl u_30)), (mst, .inl (cs 5, 2, .inr (.inr (.inr (.inr fsz_9))))), (st0_3, .inl (cs 0, 96048, .inl s0z_14))] := hD
            refine lv_iload_n hx hb dX12_counted_54 rfl (lv_at hl 5 rfl) ?_
            refine lv_iconst (v := nI 1) hx hb dX12_counted_55 (by decide) ?_
            refine lv_icmp_ne (tgt := 66) hx hb dX12_counted_56 (by decide) (fun c_31 => ?_) (fun c_31 => ?_)
            · -- 56 t
              refine lv_iload_n hx hb dX12_counted_66 rfl (lv_at hl 5 rfl) ?_
              refine lv_iconst (v := nI 2) hx hb dX12_counted_67 (by decide) ?_
              refine lv_icmp_ne (tgt := 78) hx hb dX12_counted_68 (by decide) (fun c_32 => ?_) (fun c_32 => ?_)
              · -- 68 t
                refine lv_aload_n hx hb dX12_counted_78 rfl (lv_at hl 3 rfl) ?_
                refine xi (wr := [(st1_6, .inl (cs 0, 96048, .inl s1z_16)), (mtb, .inl (cs 5, 2, .inr (.inr (.inr (.inr ftz_10))))), (tb0_4, .inl (cs 0, 8192, .inl t0z_15)), (tb1_7, .inl (cs 0, 8192, .inl t1z_17)), (mti, .inl (cs 6, 2, .inr (.inr (.inr (.inr fiz_11))))), (ti0_5, .inl (cs 1, 2001, .inr (.inl i0z_19))), (ti1_8, .inl (cs 1, 2001, .inr (.inl i1z_20))), (msm, .inl (cs 0, 2, .inl smz_18)), (mtr, .inl (cs 0, 288, .inl u_24)), (mst, .inl (cs 5, 2, .inr (.inr (.inr (.inr fsz_9))))), (st0_3, .inl (cs 0, 96048, .inl s0z_14))]) (xV (As := []) (rest := []) C (c_X12_coloured l D cs hm ms mkp mtr mas mso mon mot man mst msm mtb mti mfr mbn mbs mde maa mab mba mbb n k al be km en ea pr nq po th xd sF sN sS ig xa xb u_30 hn) kX12_218 hP hD [9, 10] rfl (by decide +kernel) 0 rfl rfl rfl ⟨Nat.le_of_ble_eq_true rfl, Nat.le_of_ble_eq_true rfl⟩ rfl hl.1 rfl (Nat.le_of_ble_eq_true rfl) dX12_counted_79 ⟨Nat.le_of_ble_eq_true rfl, Nat.le_of_ble_eq_true rfl⟩) hP hD hS hA [9, 10] [0, 1, 2, 3, 4, 5, 6, 7, 8, 11, 12] rfl rfl (by decide +kernel) (by decide +kernel) ?_
                clear hP hD hS
                try clear locs
                try clear H
                intro r_33 u_34 H locs hw_r_33 hP hD hS
                refine W.widen (k := 0) (n := 0) (Nat.le_of_ble_eq_true rfl) (Nat.le_of_ble_eq_true rfl) ?_
                replace hP : va_P D vwCl [(st1_6, .inl (cs 0, 96048, .inl s1z_16)), (mtb, .inl (cs 5, 2, .inr (.inr (.inr (.inr ftz_10))))), (tb0_4, .inl (cs 0, 8192, .inl t0z_15)), (tb1_7, .inl (cs 0, 8192, .inl t1z_17)), (mti, .inl (cs 6, 2, .inr (.inr (.inr (.inr fiz_11))))), (ti0_5, .inl (cs 1, 2001, .inr (.inl i0z_19))), (ti1_8, .inl (cs 1, 2001, .inr (.inl i1z_20))), (msm, .inl (cs 0, 2, .inl smz_18)), (mtr, .inl (cs 0, 288, .inl u_24)), (mst, .inl (cs 5, 2, .inr (.inr (.inr (.inr fsz_9))))), (st0_3, .inl (cs 0, 96048, .inl s0z_14)), (hm, .inr (12, [.ref ms, .ref mkp, .int (nI km), .ref mtr, .int (nI n), .int (nI k), .int (nI al), .int (nI be), .int ea, .int pr, .ref mas, .int nq, .int po, .int (nI en), .ref mso, .ref mon, .ref mot, .ref man, .int th, .int xd, .ref mst, .ref msm, .ref mtb, .ref mti, .ref mfr, .ref mbn, .ref mbs, .ref mde, .int sF, .int sN, .int sS, .int ig, .long xa, .long xb, .ref maa, .ref mab, .ref mba, .ref mbb])), (ms, .inl (cs 0, 288, .inl u_30))] H := hP
                replace hD : va_D A [(st1_6, .inl (cs 0, 96048, .inl s1z_16)), (mtb, .inl (cs 5, 2, .inr (.inr (.inr (.inr ftz_10))))), (tb0_4, .inl (cs 0, 8192, .inl t0z_15)), (tb1_7, .inl (cs 0, 8192, .inl t1z_17)), (mti, .inl (cs 6, 2, .inr (.inr (.inr (.inr fiz_11))))), (ti0_5, .inl (cs 1, 2001, .inr (.inl i0z_19))), (ti1_8, .inl (cs 1, 2001, .inr (.inl i1z_20))), (msm, .inl (cs 0, 2, .inl smz_18)), (mtr, .inl (cs 0, 288, .inl u_24)), (mst, .inl (cs 5, 2, .inr (.inr (.inr (.inr fsz_9))))), (st0_3, .inl (cs 0, 96048, .inl s0z_14)), (hm, .inr (12, [.ref ms, .ref mkp, .int (nI km), .ref mtr, .int (nI n), .int (nI k), .int (nI al), .int (nI be), .int ea, .int pr, .ref mas, .int nq, .int po, .int (nI en), .ref mso, .ref mon, .ref mot, .ref man, .int th, .int xd, .ref mst, .ref msm, .ref mtb, .ref mti, .ref mfr, .ref mbn, .ref mbs, .ref mde, .int sF, .int sN, .int sS, .int ig, .long xa, .long xb, .ref maa, .ref mab, .ref mba, .ref mbb])), (ms, .inl (cs 0, 288, .inl u_30))] := hD
                refine xi (wr := [(st1_6, .inl (cs 0, 96048, .inl s1z_16)), (mtb, .inl (cs 5, 2, .inr (.inr (.inr (.inr ftz_10))))), (tb0_4, .inl (cs 0, 8192, .inl t0z_15)), (tb1_7, .inl (cs 0, 8192, .inl t1z_17)), (mti, .inl (cs 6, 2, .inr (.inr (.inr (.inr fiz_11))))), (ti0_5, .inl (cs 1, 2001, .inr (.inl i0z_19))), (ti1_8, .inl (cs 1, 2001, .inr (.inl i1z_20))), (msm, .inl (cs 0, 2, .inl smz_18)), (mtr, .inl (cs 0, 288, .inl u_24)), (mst, .inl (cs 5, 2, .inr (.inr (.inr (.inr fsz_9))))), (st0_3, .inl (cs 0, 96048, .inl s0z_14)), (hm, .inr (12, [.ref ms, .ref mkp, .int (nI km), .ref mtr, .int (nI n), .int (nI k), .int (nI al), .int (nI be), .int ea, .int pr, .ref mas, .int nq, .int po, .int (nI en), .ref mso, .ref mon, .ref mot, .ref man, .int th, .int xd, .ref mst, .ref msm, .ref mtb, .ref mti, .ref mfr, .ref mbn, .ref mbs, .ref mde, .int sF, .int sN, .int sS, .int ig, .long xa, .long xb, .ref maa, .ref mab, .ref mba, .ref mbb])), (ms, .inl (cs 0, 288, .inl u_30))]) (xS (As := [.int r_33]) (rest := []) C (c_X12_many l D cs r_33) kX12_127 hP hD [] rfl (by decide +kernel) ⟨Nat.le_of_ble_eq_true rfl, Nat.le_of_ble_eq_true rfl⟩ rfl hl.1 rfl (Nat.le_of_ble_eq_true rfl) dX12_counted_82 ⟨Nat.le_of_ble_eq_true rfl, Nat.le_of_ble_eq_true rfl⟩) hP hD hS hA [] [0, 1, 2, 3, 4, 5, 6, 7, 8, 9, 10, 11, 12] rfl rfl (by decide +kernel) (by decide +kernel) ?_
                clear hP hD hS
                try clear locs
                try clear H
                intro r_35 u_36 H locs hw_r_35 hP hD hS
                have hw_r_35 : r_35 = nI (cntL r_33 16) := hw_r_35
                refine W.widen (k := 0) (n := 0) (Nat.le_of_ble_eq_true rfl) (Nat.le_of_ble_eq_true rfl) ?_
                replace hP : va_P D vwCl [(st1_6, .inl (cs 0, 96048, .inl s1z_16)), (mtb, .inl (cs 5, 2, .inr (.inr (.inr (.inr ftz_10))))), (tb0_4, .inl (cs 0, 8192, .inl t0z_15)), (tb1_7, .inl (cs 0, 8192, .inl t1z_17)), (mti, .inl (cs 6, 2, .inr (.inr (.inr (.inr fiz_11))))), (ti0_5, .inl (cs 1, 2001, .inr (.inl i0z_19))), (ti1_8, .inl (cs 1, 2001, .inr (.inl i1z_20))), (msm, .inl (cs 0, 2, .inl smz_18)), (mtr, .inl (cs 0, 288, .inl u_24)), (mst, .inl (cs 5, 2, .inr (.inr (.inr (.inr fsz_9))))), (st0_3, .inl (cs 0, 96048, .inl s0z_14)), (hm, .inr (12, [.ref ms, .ref mkp, .int (nI km), .ref mtr, .int (nI n), .int (nI k), .int (nI al), .int (nI be), .int ea, .int pr, .ref mas, .int nq, .int po, .int (nI en), .ref mso, .ref mon, .ref mot, .ref man, .int th, .int xd, .ref mst, .ref msm, .ref mtb, .ref mti, .ref mfr, .ref mbn, .ref mbs, .ref mde, .int sF, .int sN, .int sS, .int ig, .long xa, .long xb, .ref maa, .ref mab, .ref mba, .ref mbb])), (ms, .inl (cs 0, 288, .inl u_30))] H := hP
                replace hD : va_D A [(st1_6, .inl (cs 0, 96048, .inl s1z_16)), (mtb, .inl (cs 5, 2, .inr (.inr (.inr (.inr ftz_10))))), (tb0_4, .inl (cs 0, 8192, .inl t0z_15)), (tb1_7, .inl (cs 0, 8192, .inl t1z_17)), (mti, .inl (cs 6, 2, .inr (.inr (.inr (.inr fiz_11))))), (ti0_5, .inl (cs 1, 2001, .inr (.inl i0z_19))), (ti1_8, .inl (cs 1, 2001, .inr (.inl i1z_20))), (msm, .inl (cs 0, 2, .inl smz_18)), (mtr, .inl (cs 0, 288, .inl u_24)), (mst, .inl (cs 5, 2, .inr (.inr (.inr (.inr fsz_9))))), (st0_3, .inl (cs 0, 96048, .inl s0z_14)), (hm, .inr (12, [.ref ms, .ref mkp, .int (nI km), .ref mtr, .int (nI n), .int (nI k), .int (nI al), .int (nI be), .int ea, .int pr, .ref mas, .int nq, .int po, .int (nI en), .ref mso, .ref mon, .ref mot, .ref man, .int th, .int xd, .ref mst, .ref msm, .ref mtb, .ref mti, .ref mfr, .ref mbn, .ref mbs, .ref mde, .int sF, .int sN, .int sS, .int ig, .long xa, .long xb, .ref maa, .ref mab, .ref mba, .ref mbb])), (ms, .inl (cs 0, 288, .inl u_30))] := hD
                refine lv_iload_n hx hb dX12_counted_85 rfl (lv_at hl 6 rfl) ?_
                refine lv_icmp_ne (tgt := 93) hx hb dX12_counted_86 (by decide) (fun c_37 => ?_) (fun c_37 => ?_)
                · -- 86 t
                  refine lv_iconst (v := nI 0) hx hb dX12_counted_93 (by decide) ?_
                  refine lv_istore (lv' := [(8, .int (nI 0)), (7, .int (nI o)), (5, .long v9), (4, .int (nI 0)), (0, .ref hm), (1, .int (nI t)), (2, .int w9), (3, .int x9)]) hx hb dX12_counted_94 hl (by decide) rfl ?_
                  clear hl
                  try clear ls
                  intro ls hl
                  refine lv_iload hx hb dX12_counted_96 (lv_at hl 0 rfl) ?_
                  refine lv_if_eq (tgt := 116) hx hb dX12_counted_98 (by decide) (fun _ => ?_) (fun c => absurd (by decide) c)
                  refine lv_iinc (v := nI (o + 1)) (lv' := [(7, .int (nI (o + 1))), (8, .int (nI 0)), (5, .long v9), (4, .int (nI 0)), (0, .ref hm), (1, .int (nI t)), (2, .int w9), (3, .int x9)]) hx hb dX12_counted_116 hl (k := 1) rfl (nI_add o 1) (by decide) rfl ?_
                  clear hl
                  try clear ls
                  intro ls hl
                  refine lv_goto (tgt := 34) hx hb dX12_counted_119 (by decide) ?_
                  exact ih_loop_25 (o + 1) u_30 v9 (by omega) (by omega) H locs ls (xP_map hP [9, 10, 0, 1, 2, 3, 4, 5, 6, 7, 11, 12, 8] rfl) (hD.sub [9, 10, 0, 1, 2, 3, 4, 5, 6, 7, 11, 12, 8] (by decide +kernel) rfl) hS (lv_sub hl [0, 2, 3, 4, 5, 6, 7] rfl)
                · -- 86 f
                  refine lv_iconst (v := nI 1) hx hb dX12_counted_89 (by decide) ?_
                  refine lv_goto (tgt := 94) hx hb dX12_counted_90 (by decide) ?_
                  refine lv_istore (lv' := [(8, .int (nI 1)), (7, .int (nI o)), (5, .long v9), (4, .int (nI 0)), (0, .ref hm), (1, .int (nI t)), (2, .int w9), (3, .int x9)]) hx hb dX12_counted_94 hl (by decide) rfl ?_
                  clear hl
                  try clear ls
                  intro ls hl
                  refine lv_iload hx hb dX12_counted_96 (lv_at hl 0 rfl) ?_
                  refine lv_if_eq (tgt := 116) hx hb dX12_counted_98 (by decide) (fun c => absurd c (by decide)) (fun _ => ?_)
                  refine lv_lload hx hb dX12_counted_101 (lv_at hl 2 rfl) ?_
                  refine lv_aload_n hx hb dX12_counted_103 rfl (lv_at hl 4 rfl) ?_
                  refine xget C hP 11 rfl rfl zuX12 23 (by decide) zw5_236 rfl dX12_counted_104 ?_
                  refine lv_iload hx hb dX12_counted_107 (lv_at hl 3 rfl) ?_
                  refine xaald C hP 4 6 rfl rfl rfl 0 rfl (by decide) (by decide) hw_r_1.2.2.2.2.2.2.1 dX12_counted_109 ?_
                  refine lv_iload hx hb dX12_counted_110 (lv_at hl 1 rfl) ?_
                  refine xlald C hP 5 rfl o rfl (by omega) (by decide) dX12_counted_112 ?_
                  refine lv_ladd hx hb dX12_counted_113 ?_
                  refine lv_lstore (lv' := [(5, .long (v9 + (i0z_19 o))), (8, .int (nI 1)), (7, .int (nI o)), (4, .int (nI 0)), (0, .ref hm), (1, .int (nI t)), (2, .int w9), (3, .int x9)]) hx hb dX12_counted_114 hl (by decide) rfl ?_
                  clear hl
                  try clear ls
                  intro ls hl
                  refine lv_iinc (v := nI (o + 1)) (lv' := [(7, .int (nI (o + 1))), (5, .long (v9 + (i0z_19 o))), (8, .int (nI 1)), (4, .int (nI 0)), (0, .ref hm), (1, .int (nI t)), (2, .int w9), (3, .int x9)]) hx hb dX12_counted_116 hl (k := 2) rfl (nI_add o 1) (by decide) rfl ?_
                  clear hl
                  try clear ls
                  intro ls hl
                  refine lv_goto (tgt := 34) hx hb dX12_counted_119 (by decide) ?_
                  exact ih_loop_25 (o + 1) u_30 (v9 + (i0z_19 o)) (by omega) (by omega) H locs ls (xP_map hP [9, 10, 0, 1, 2, 3, 4, 5, 6, 7, 11, 12, 8] rfl) (hD.sub [9, 10, 0, 1, 2, 3, 4, 5, 6, 7, 11, 12, 8] (by decide +kernel) rfl) hS (lv_sub hl [0, 1, 3, 4, 5, 6, 7] rfl)
              · -- 68 f
                refine lv_aload_n hx hb dX12_counted_71 rfl (lv_at hl 3 rfl) ?_
                refine xi (wr := [(st1_6, .inl (cs 0, 96048, .inl s1z_16)), (mtb, .inl (cs 5, 2, .inr (.inr (.inr (.inr ftz_10))))), (tb0_4, .inl (cs 0, 8192, .inl t0z_15)), (tb1_7, .inl (cs 0, 8192, .inl t1z_17)), (mti, .inl (cs 6, 2, .inr (.inr (.inr (.inr fiz_11))))), (ti0_5, .inl (cs 1, 2001, .inr (.inl i0z_19))), (ti1_8, .inl (cs 1, 2001, .inr (.inl i1z_20))), (msm, .inl (cs 0, 2, .inl smz_18)), (mtr, .inl (cs 0, 288, .inl u_24)), (mst, .inl (cs 5, 2, .inr (.inr (.inr (.inr fsz_9))))), (st0_3, .inl (cs 0, 96048, .inl s0z_14))]) (xV (As := []) (rest := []) C (c_X12_areAgreed l D cs hm ms mkp mtr mas mso mon mot man mst msm mtb mti mfr mbn mbs mde maa mab mba mbb n k al be km en ea pr nq po th xd sF sN sS ig xa xb u_30 hn) kX12_215 hP hD [9, 10] rfl (by decide +kernel) 0 rfl rfl rfl ⟨Nat.le_of_ble_eq_true rfl, Nat.le_of_ble_eq_true rfl⟩ rfl hl.1 rfl (Nat.le_of_ble_eq_true rfl) dX12_counted_72 ⟨Nat.le_of_ble_eq_true rfl, Nat.le_of_ble_eq_true rfl⟩) hP hD hS hA [9, 10] [0, 1, 2, 3, 4, 5, 6, 7, 8, 11, 12] rfl rfl (by decide +kernel) (by decide +kernel) ?_
                clear hP hD hS
                try clear locs
                try clear H
                intro r_38 u_39 H locs hw_r_38 hP hD hS
                have hw_r_38 : (r_38 = nI 0 ∨ r_38 = nI 1) := hw_r_38
                refine W.widen (k := 0) (n := 0) (Nat.le_of_ble_eq_true rfl) (Nat.le_of_ble_eq_true rfl) ?_
                replace hP : va_P D vwCl [(st1_6, .inl (cs 0, 96048, .inl s1z_16)), (mtb, .inl (cs 5, 2, .inr (.inr (.inr (.inr ftz_10))))), (tb0_4, .inl (cs 0, 8192, .inl t0z_15)), (tb1_7, .inl (cs 0, 8192, .inl t1z_17)), (mti, .inl (cs 6, 2, .inr (.inr (.inr (.inr fiz_11))))), (ti0_5, .inl (cs 1, 2001, .inr (.inl i0z_19))), (ti1_8, .inl (cs 1, 2001, .inr (.inl i1z_20))), (msm, .inl (cs 0, 2, .inl smz_18)), (mtr, .inl (cs 0, 288, .inl u_24)), (mst, .inl (cs 5, 2, .inr (.inr (.inr (.inr fsz_9))))), (st0_3, .inl (cs 0, 96048, .inl s0z_14)), (hm, .inr (12, [.ref ms, .ref mkp, .int (nI km), .ref mtr, .int (nI n), .int (nI k), .int (nI al), .int (nI be), .int ea, .int pr, .ref mas, .int nq, .int po, .int (nI en), .ref mso, .ref mon, .ref mot, .ref man, .int th, .int xd, .ref mst, .ref msm, .ref mtb, .ref mti, .ref mfr, .ref mbn, .ref mbs, .ref mde, .int sF, .int sN, .int sS, .int ig, .long xa, .long xb, .ref maa, .ref mab, .ref mba, .ref mbb])), (ms, .inl (cs 0, 288, .inl u_30))] H := hP
                replace hD : va_D A [(st1_6, .inl (cs 0, 96048, .inl s1z_16)), (mtb, .inl (cs 5, 2, .inr (.inr (.inr (.inr ftz_10))))), (tb0_4, .inl (cs 0, 8192, .inl t0z_15)), (tb1_7, .inl (cs 0, 8192, .inl t1z_17)), (mti, .inl (cs 6, 2, .inr (.inr (.inr (.inr fiz_11))))), (ti0_5, .inl (cs 1, 2001, .inr (.inl i0z_19))), (ti1_8, .inl (cs 1, 2001, .inr (.inl i1z_20))), (msm, .inl (cs 0, 2, .inl smz_18)), (mtr, .inl (cs 0, 288, .inl u_24)), (mst, .inl (cs 5, 2, .inr (.inr (.inr (.inr fsz_9))))), (st0_3, .inl (cs 0, 96048, .inl s0z_14)), (hm, .inr (12, [.ref ms, .ref mkp, .int (nI km), .ref mtr, .int (nI n), .int (nI k), .int (nI al), .int (nI be), .int ea, .int pr, .ref mas, .int nq, .int po, .int (nI en), .ref mso, .ref mon, .ref mot, .ref man, .int th, .int xd, .ref mst, .ref msm, .ref mtb, .ref mti, .ref mfr, .ref mbn, .ref mbs, .ref mde, .int sF, .int sN, .int sS, .int ig, .long xa, .long xb, .ref maa, .ref mab, .ref mba, .ref mbb])), (ms, .inl (cs 0, 288, .inl u_30))] := hD
                refine lv_goto (tgt := 94) hx hb dX12_counted_75 (by decide) ?_
                refine lv_istore (lv' := [(8, .int r_38), (7, .int (nI o)), (5, .long v9), (4, .int (nI 0)), (0, .ref hm), (1, .int (nI t)), (2, .int w9), (3, .int x9)]) hx hb dX12_counted_94 hl (by decide) rfl ?_
                clear hl
                try clear ls
                intro ls hl
                refine lv_iload hx hb dX12_counted_96 (lv_at hl 0 rfl) ?_
                refine lv_if_eq (tgt := 116) hx hb dX12_counted_98 (by decide) (fun c_40 => ?_) (fun c_40 => ?_)
                · -- 98 t
                  refine lv_iinc (v := nI (o + 1)) (lv' := [(7, .int (nI (o + 1))), (8, .int r_38), (5, .long v9), (4, .int (nI 0)), (0, .ref hm), (1, .int (nI t)), (2, .int w9), (3, .int x9)]) hx hb dX12_counted_116 hl (k := 1) rfl (nI_add o 1) (by decide) rfl ?_
                  clear hl
                  try clear ls
                  intro ls hl
                  refine lv_goto (tgt := 34) hx hb dX12_counted_119 (by decide) ?_
                  exact ih_loop_25 (o + 1) u_30 v9 (by omega) (by omega) H locs ls (xP_map hP [9, 10, 0, 1, 2, 3, 4, 5, 6, 7, 11, 12, 8] rfl) (hD.sub [9, 10, 0, 1, 2, 3, 4, 5, 6, 7, 11, 12, 8] (by decide +kernel) rfl) hS (lv_sub hl [0, 2, 3, 4, 5, 6, 7] rfl)
                · -- 98 f
                  refine lv_lload hx hb dX12_counted_101 (lv_at hl 2 rfl) ?_
                  refine lv_aload_n hx hb dX12_counted_103 rfl (lv_at hl 4 rfl) ?_
                  refine xget C hP 11 rfl rfl zuX12 23 (by decide) zw5_236 rfl dX12_counted_104 ?_
                  refine lv_iload hx hb dX12_counted_107 (lv_at hl 3 rfl) ?_
                  refine xaald C hP 4 6 rfl rfl rfl 0 rfl (by decide) (by decide) hw_r_1.2.2.2.2.2.2.1 dX12_counted_109 ?_
                  refine lv_iload hx hb dX12_counted_110 (lv_at hl 1 rfl) ?_
                  refine xlald C hP 5 rfl o rfl (by omega) (by decide) dX12_counted_112 ?_
                  refine lv_ladd hx hb dX12_counted_113 ?_
                  refine lv_lstore (lv' := [(5, .long (v9 + (i0z_19 o))), (8, .int r_38), (7, .int (nI o)), (4, .int (nI 0)), (0, .ref hm), (1, .int (nI t)), (2, .int w9), (3, .int x9)]) hx hb dX12_counted_114 hl (by decide) rfl ?_
                  clear hl
                  try clear ls
                  intro ls hl
                  refine lv_iinc (v := nI (o + 1)) (lv' := [(7, .int (nI (o + 1))), (5, .long (v9 + (i0z_19 o))), (8, .int r_38), (4, .int (nI 0)), (0, .ref hm), (1, .int (nI t)), (2, .int w9), (3, .int x9)]) hx hb dX12_counted_116 hl (k := 2) rfl (nI_add o 1) (by decide) rfl ?_
                  clear hl
                  try clear ls
                  intro ls hl
                  refine lv_goto (tgt := 34) hx hb dX12_counted_119 (by decide) ?_
                  exact ih_loop_25 (o + 1) u_30 (v9 + (i0z_19 o)) (by omega) (by omega) H locs ls (xP_map hP [9, 10, 0, 1, 2, 3, 4, 5, 6, 7, 11, 12, 8] rfl) (hD.sub [9, 10, 0, 1, 2, 3, 4, 5, 6, 7, 11, 12, 8] (by decide +kernel) rfl) hS (lv_sub hl [0, 1, 3, 4, 5, 6, 7] rfl)
            · -- 56 f
              refine lv_aload_n hx hb dX12_counted_59 rfl (lv_at hl 3 rfl) ?_
              refine xi (wr := [(st1_6, .inl (cs 0, 96048, .inl s1z_16)), (mtb, .inl (cs 5, 2, .inr (.inr (.inr (.inr ftz_10))))), (tb0_4, .inl (cs 0, 8192, .inl t0z_15)), (tb1_7, .inl (cs 0, 8192, .inl t1z_17)), (mti, .inl (cs 6, 2, .inr (.inr (.inr (.inr fiz_11))))), (ti0_5, .inl (cs 1, 2001, .inr (.inl i0z_19))), (ti1_8, .inl (cs 1, 2001, .inr (.inl i1z_20))), (msm, .inl (cs 0, 2, .inl smz_18)), (mtr, .inl (cs 0, 288, .inl u_24)), (mst, .inl (cs 5, 2, .inr (.inr (.inr (.inr fsz_9))))), (st0_3, .inl (cs 0, 96048, .inl s0z_14))]) (xV (As := []) (rest := []) C (c_X12_areSplit l D cs hm ms mkp mtr mas mso mon mot man mst msm mtb mti mfr mbn mbs mde maa mab mba mbb n k al be km en ea pr nq po th xd sF sN sS ig xa xb u_30 hn) kX12_211 hP hD [9, 10] rfl (by decide +kernel) 0 rfl rfl rfl ⟨Nat.le_of_ble_eq_true rfl, Nat.le_of_ble_eq_true rfl⟩ rfl hl.1 rfl (Nat.le_of_ble_eq_true rfl) dX12_counted_60 ⟨Nat.le_of_ble_eq_true rfl, Nat.le_of_ble_eq_true rfl⟩) hP hD hS hA [9, 10] [0, 1, 2, 3, 4, 5, 6, 7, 8, 11, 12] rfl rfl (by decide +kernel) (by decide +kernel) ?_
              clear hP hD hS
              try clear locs
              try clear H
              intro r_41 u_42 H locs hw_r_41 hP hD hS
              have hw_r_41 : PQ (splP n u_30) r_41 (nI 1) (nI 0) := hw_r_41
              refine W.widen (k := 0) (n := 0) (Nat.le_of_ble_eq_true rfl) (Nat.le_of_ble_eq_true rfl) ?_
              replace hP : va_P D vwCl [(st1_6, .inl (cs 0, 96048, .inl s1z_16)), (mtb, .inl (cs 5, 2, .inr (.inr (.inr (.inr ftz_10))))), (tb0_4, .inl (cs 0, 8192, .inl t0z_15)), (tb1_7, .inl (cs 0, 8192, .inl t1z_17)), (mti, .inl (cs 6, 2, .inr (.inr (.inr (.inr fiz_11))))), (ti0_5, .inl (cs 1, 2001, .inr (.inl i0z_19))), (ti1_8, .inl (cs 1, 2001, .inr (.inl i1z_20))), (msm, .inl (cs 0, 2, .inl smz_18)), (mtr, .inl (cs 0, 288, .inl u_24)), (mst, .inl (cs 5, 2, .inr (.inr (.inr (.inr fsz_9))))), (st0_3, .inl (cs 0, 96048, .inl s0z_14)), (hm, .inr (12, [.ref ms, .ref mkp, .int (nI km), .ref mtr, .int (nI n), .int (nI k), .int (nI al), .int (nI be), .int ea, .int pr, .ref mas, .int nq, .int po, .int (nI en), .ref mso, .ref mon, .ref mot, .ref man, .int th, .int xd, .ref mst, .ref msm, .ref mtb, .ref mti, .ref mfr, .ref mbn, .ref mbs, .ref mde, .int sF, .int sN, .int sS, .int ig, .long xa, .long xb, .ref maa, .ref mab, .ref mba, .ref mbb])), (ms, .inl (cs 0, 288, .inl u_30))] H := hP
              replace hD : va_D A [(st1_6, .inl (cs 0, 96048, .inl s1z_16)), (mtb, .inl (cs 5, 2, .inr (.inr (.inr (.inr ftz_10))))), (tb0_4, .inl (cs 0, 8192, .inl t0z_15)), (tb1_7, .inl (cs 0, 8192, .inl t1z_17)), (mti, .inl (cs 6, 2, .inr (.inr (.inr (.inr fiz_11))))), (ti0_5, .inl (cs 1, 2001, .inr (.inl i0z_19))), (ti1_8, .inl (cs 1, 2001, .inr (.inl i1z_20))), (msm, .inl (cs 0, 2, .inl smz_18)), (mtr, .inl (cs 0, 288, .inl u_24)), (mst, .inl (cs 5, 2, .inr (.inr (.inr (.inr fsz_9))))), (st0_3, .inl (cs 0, 96048, .inl s0z_14)), (hm, .inr (12, [.ref ms, .ref mkp, .int (nI km), .ref mtr, .int (nI n), .int (nI k), .int (nI al), .int (nI be), .int ea, .int pr, .ref mas, .int nq, .int po, .int (nI en), .ref mso, .ref mon, .ref mot, .ref man, .int th, .int xd, .ref mst, .ref msm, .ref mtb, .ref mti, .ref mfr, .ref mbn, .ref mbs, .ref mde, .int sF, .int sN, .int sS, .int ig, .long xa, .long xb, .ref maa, .ref mab, .ref mba, .ref mbb])), (ms, .inl (cs 0, 288, .inl u_30))] := hD
              refine lv_goto (tgt := 94) hx hb dX12_counted_63 (by decide) ?_
              refine lv_istore (lv' := [(8, .int r_41), (7, .int (nI o)), (5, .long v9), (4, .int (nI 0)), (0, .ref hm), (1, .int (nI t)), (2, .int w9), (3, .int x9)]) hx hb dX12_counted_94 hl (by decide) rfl ?_
              clear hl
              try clear ls
              intro ls hl
              refine lv_iload hx hb dX12_counted_96 (lv_at hl 0 rfl) ?_
              refine lv_if_eq (tgt := 116) hx hb dX12_counted_98 (by decide) (fun c_43 => ?_) (fun c_43 => ?_)
              · -- 98 t
                refine lv_iinc (v := nI (o + 1)) (lv' := [(7, .int (nI (o + 1))), (8, .int r_41), (5, .long v9), (4, .int (nI 0)), (0, .ref hm), (1, .int (nI t)), (2, .int w9), (3, .int x9)]) hx hb dX12_counted_116 hl (k := 1) rfl (nI_add o 1) (by decide) rfl ?_
                clear hl
                try clear ls
                intro ls hl
                refine lv_goto (tgt := 34) hx hb dX12_counted_119 (by decide) ?_
                exact ih_loop_25 (o + 1) u_30 v9 (by omega) (by omega) H locs ls (xP_map hP [9, 10, 0, 1, 2, 3, 4, 5, 6, 7, 11, 12, 8] rfl) (hD.sub [9, 10, 0, 1, 2, 3, 4, 5, 6, 7, 11, 12, 8] (by decide +kernel) rfl) hS (lv_sub hl [0, 2, 3, 4, 5, 6, 7] rfl)
              · -- 98 f
                refine lv_lload hx hb dX12_counted_101 (lv_at hl 2 rfl) ?_
                refine lv_aload_n hx hb dX12_counted_103 rfl (lv_at hl 4 rfl) ?_
                refine xget C hP 11 rfl rfl zuX12 23 (by decide) zw5_236 rfl dX12_counted_104 ?_
                refine lv_iload hx hb dX12_counted_107 (lv_at hl 3 rfl) ?_
                refine xaald C hP 4 6 rfl rfl rfl 0 rfl (by decide) (by decide) hw_r_1.2.2.2.2.2.2.1 dX12_counted_109 ?_
                refine lv_iload hx hb dX12_counted_110 (lv_at hl 1 rfl) ?_
                refine xlald C hP 5 rfl o rfl (by omega) (by decide) dX12_counted_112 ?_
                refine lv_ladd hx hb dX12_counted_113 ?_
                refine lv_lstore (lv' := [(5, .long (v9 + (i0z_19 o))), (8, .int r_41), (7, .int (nI o)), (4, .int (nI 0)), (0, .ref hm), (1, .int (nI t)), (2, .int w9), (3, .int x9)]) hx hb dX12_counted_114 hl (by decide) rfl ?_
                clear hl
                try clear ls
                intro ls hl
                refine lv_iinc (v := nI (o + 1)) (lv' := [(7, .int (nI (o + 1))), (5, .long (v9 + (i0z_19 o))), (8, .int r_41), (4, .int (nI 0)), (0, .ref hm), (1, .int (nI t)), (2, .int w9), (3, .int x9)]) hx hb dX12_counted_116 hl (k := 2) rfl (nI_add o 1) (by decide) rfl ?_
                clear hl
                try clear ls
                intro ls hl
                refine lv_goto (tgt := 34) hx hb dX12_counted_119 (by decide) ?_
                exact ih_loop_25 (o + 1) u_30 (v9 + (i0z_19 o)) (by omega) (by omega) H locs ls (xP_map hP [9, 10, 0, 1, 2, 3, 4, 5, 6, 7, 11, 12, 8] rfl) (hD.sub [9, 10, 0, 1, 2, 3, 4, 5, 6, 7, 11, 12, 8] (by decide +kernel) rfl) hS (lv_sub hl [0, 1, 3, 4, 5, 6, 7] rfl)
          · -- g0 = 1
            replace hP : va_P D vwCl [(mst, .inl (cs 5, 2, .inr (.inr (.inr (.inr fsz_9))))), (st0_3, .inl (cs 0, 96048, .inl s0z_14)), (st1_6, .inl (cs 0, 96048, .inl s1z_16)), (mtb, .inl (cs 5, 2, .inr (.inr (.inr (.inr ftz_10))))), (tb0_4, .inl (cs 0, 8192, .inl t0z_15)), (tb1_7, .inl (cs 0, 8192, .inl t1z_17)), (mti, .inl (cs 6, 2, .inr (.inr (.inr (.inr fiz_11))))), (ti0_5, .inl (cs 1, 2001, .inr (.inl i0z_19))), (ti1_8, .inl (cs 1, 2001, .inr (.inl i1z_20))), (msm, .inl (cs 0, 2, .inl smz_18)), (hm, .inr (12, [.ref ms, .ref mkp, .int (nI km), .ref mtr, .int (nI n), .int (nI k), .int (nI al), .int (nI be), .int ea, .int pr, .ref mas, .int nq, .int po, .int (nI en), .ref mso, .ref mon, .ref mot, .ref man, .int th, .int xd, .ref mst, .ref msm, .ref mtb, .ref mti, .ref mfr, .ref mbn, .ref mbs, .ref mde, .int sF, .int sN, .int sS, .int ig, .long xa, .long xb, .ref maa, .ref mab, .ref mba, .ref mbb])), (ms, .inl (cs 0, 288, .inl f9)), (mtr, .inl (cs 0, 288, .inl u_24))] H := hP
            replace hD : va_D A [(mst, .inl (cs 5, 2, .inr (.inr (.inr (.inr fsz_9))))), (st0_3, .inl (cs 0, 96048, .inl s0z_14)), (st1_6, .inl (cs 0, 96048, .inl s1z_16)), (mtb, .inl (cs 5, 2, .inr (.inr (.inr (.inr ftz_10))))), (tb0_4, .inl (cs 0, 8192, .inl t0z_15)), (tb1_7, .inl (cs 0, 8192, .inl t1z_17)), (mti, .inl (cs 6, 2, .inr (.inr (.inr (.inr fiz_11))))), (ti0_5, .inl (cs 1, 2001, .inr (.inl i0z_19))), (ti1_8, .inl (cs 1, 2001, .inr (.inl i1z_20))), (msm, .inl (cs 0, 2, .inl smz_18)), (hm, .inr (12, [.ref ms, .ref mkp, .int (nI km), .ref mtr, .int (nI n), .int (nI k), .int (nI al), .int (nI be), .int ea, .int pr, .ref mas, .int nq, .int po, .int (nI en), .ref mso, .ref mon, .ref mot, .ref man, .int th, .int xd, .ref mst, .ref msm, .ref mtb, .ref mti, .ref mfr, .ref mbn, .ref mbs, .ref mde, .int sF, .int sN, .int sS, .int ig, .long xa, .long xb, .ref maa, .ref mab, .ref mba, .ref mbb])), (ms, .inl (cs 0, 288, .inl f9)), (mtr, .inl (cs 0, 288, .inl u_24))] := hD
            refine lv_aload_n hx hb dX12_counted_46 rfl (lv_at hl 3 rfl) ?_
            refine lv_iload hx hb dX12_counted_47 (lv_at hl 2 rfl) ?_
            refine lv_iload hx hb dX12_counted_49 (lv_at hl 0 rfl) ?_
            refine xv (wr := [(st0_3, .inl (cs 0, 96048, .inl s0z_14)), (mtb, .inl (cs 5, 2, .inr (.inr (.inr (.inr ftz_10))))), (tb0_4, .inl (cs 0, 8192, .inl t0z_15)), (tb1_7, .inl (cs 0, 8192, .inl t1z_17)), (mti, .inl (cs 6, 2, .inr (.inr (.inr (.inr fiz_11))))), (ti0_5, .inl (cs 1, 2001, .inr (.inl i0z_19))), (ti1_8, .inl (cs 1, 2001, .inr (.inl i1z_20))), (msm, .inl (cs 0, 2, .inl smz_18)), (mtr, .inl (cs 0, 288, .inl u_24))]) (xV (As := [.int (nI 1), .int (nI o)]) (rest := []) C (c_X12_brings l D cs hm ms mkp mtr mas mso mon mot man mst msm mtb mti mfr mbn mbs mde maa mab mba mbb n k al be km en ea pr nq po th xd sF sN sS ig xa xb f9 1 st1_6 o zz_21 fsz_9 s1z_16 (by decide) hw_r_1.2.2.2.1 (by omega) hcur.1 ((hcur.2.2 rfl).1)) kX12_203 hP hD [10, 11, 0, 2] rfl (by decide +kernel) 0 rfl rfl rfl ⟨Nat.le_of_ble_eq_true rfl, Nat.le_of_ble_eq_true rfl⟩ rfl hl.1 rfl (Nat.le_of_ble_eq_true rfl) dX12_counted_51 ⟨Nat.le_of_ble_eq_true rfl, Nat.le_of_ble_eq_true rfl⟩) hP hD hS hA [10, 11, 0, 2] [1, 3, 4, 5, 6, 7, 8, 9, 12] rfl rfl (by decide +kernel) (by decide +kernel) ?_
            clear hP hD hS
            try clear locs
            try clear H
            intro u_45 H locs hw_r_44 hP hD hS
            have hw_r_44 : colP u_45 ∧ ∀ j, 48 ≤ j → u_45 j = f9 j := hw_r_44
            refine W.widen (k := 0) (n := 0) (Nat.le_of_ble_eq_true rfl) (Nat.le_of_ble_eq_true rfl) ?_
            replace hP : va_P D vwCl [(st0_3, .inl (cs 0, 96048, .inl s0z_14)), (mtb, .inl (cs 5, 2, .inr (.inr (.inr (.inr ftz_10))))), (tb0_4, .inl (cs 0, 8192, .inl t0z_15)), (tb1_7, .inl (cs 0, 8192, .inl t1z_17)), (mti, .inl (cs 6, 2, .inr (.inr (.inr (.inr fiz_11))))), (ti0_5, .inl (cs 1, 2001, .inr (.inl i0z_19))), (ti1_8, .inl (cs 1, 2001, .inr (.inl i1z_20))), (msm, .inl (cs 0, 2, .inl smz_18)), (mtr, .inl (cs 0, 288, .inl u_24)), (hm, .inr (12, [.ref ms, .ref mkp, .int (nI km), .ref mtr, .int (nI n), .int (nI k), .int (nI al), .int (nI be), .int ea, .int pr, .ref mas, .int nq, .int po, .int (nI en), .ref mso, .ref mon, .ref mot, .ref man, .int th, .int xd, .ref mst, .ref msm, .ref mtb, .ref mti, .ref mfr, .ref mbn, .ref mbs, .ref mde, .int sF, .int sN, .int sS, .int ig, .long xa, .long xb, .ref maa, .ref mab, .ref mba, .ref mbb])), (ms, .inl (cs 0, 288, .inl u_45)), (mst, .inl (cs 5, 2, .inr (.inr (.inr (.inr fsz_9))))), (st1_6, .inl (cs 0, 96048, .inl s1z_16))] H := hP
            replace hD : va_D A [(st0_3, .inl (cs 0, 96048, .inl s0z_14)), (mtb, .inl (cs 5, 2, .inr (.inr (.inr (.inr ftz_10))))), (tb0_4, .inl (cs 0, 8192, .inl t0z_15)), (tb1_7, .inl (cs 0, 8192, .inl t1z_17)), (mti, .inl (cs 6, 2, .inr (.inr (.inr (.inr fiz_11))))), (ti0_5, .inl (cs 1, 2001, .inr (.inl i0z_19))), (ti1_8, .inl (cs 1, 2001, .inr (.inl i1z_20))), (msm, .inl (cs 0, 2, .inl smz_18)), (mtr, .inl (cs 0, 288, .inl u_24)), (hm, .inr (12, [.ref ms, .ref mkp, .int (nI km), .ref mtr, .int (nI n), .int (nI k), .int (nI al), .int (nI be), .int ea, .int pr, .ref mas, .int nq, .int po, .int (nI en), .ref mso, .ref mon, .ref mot, .ref man, .int th, .int xd, .ref mst, .ref msm, .ref mtb, .ref mti, .ref mfr, .ref mbn, .ref mbs, .ref mde, .int sF, .int sN, .int sS, .int ig, .long xa, .long xb, .ref maa, .ref mab, .ref mba, .ref mbb])), (ms, .inl (cs 0, 288, .inl u_45)), (mst, .inl (cs 5, 2, .inr (.inr (.inr (.inr fsz_9))))), (st1_6, .inl (cs 0, 96048, .inl s1z_16))] := hD
            refine lv_iload_n hx hb dX12_counted_54 rfl (lv_at hl 5 rfl) ?_
            refine lv_iconst (v := nI 1) hx hb dX12_counted_55 (by decide) ?_
            refine lv_icmp_ne (tgt := 66) hx hb dX12_counted_56 (by decide) (fun c_46 => ?_) (fun c_46 => ?_)
            · -- 56 t
              refine lv_iload_n hx hb dX12_counted_66 rfl (lv_at hl 5 rfl) ?_
              refine lv_iconst (v := nI 2) hx hb dX12_counted_67 (by decide) ?_
              refine lv_icmp_ne (tgt := 78) hx hb dX12_counted_68 (by decide) (fun c_47 => ?_) (fun c_47 => ?_)
              · -- 68 t
                refine lv_aload_n hx hb dX12_counted_78 rfl (lv_at hl 3 rfl) ?_
                refine xi (wr := [(st0_3, .inl (cs 0, 96048, .inl s0z_14)), (mtb, .inl (cs 5, 2, .inr (.inr (.inr (.inr ftz_10))))), (tb0_4, .inl (cs 0, 8192, .inl t0z_15)), (tb1_7, .inl (cs 0, 8192, .inl t1z_17)), (mti, .inl (cs 6, 2, .inr (.inr (.inr (.inr fiz_11))))), (ti0_5, .inl (cs 1, 2001, .inr (.inl i0z_19))), (ti1_8, .inl (cs 1, 2001, .inr (.inl i1z_20))), (msm, .inl (cs 0, 2, .inl smz_18)), (mtr, .inl (cs 0, 288, .inl u_24)), (mst, .inl (cs 5, 2, .inr (.inr (.inr (.inr fsz_9))))), (st1_6, .inl (cs 0, 96048, .inl s1z_16))]) (xV (As := []) (rest := []) C (c_X12_coloured l D cs hm ms mkp mtr mas mso mon mot man mst msm mtb mti mfr mbn mbs mde maa mab mba mbb n k al be km en ea pr nq po th xd sF sN sS ig xa xb u_45 hn) kX12_218 hP hD [9, 10] rfl (by decide +kernel) 0 rfl rfl rfl ⟨Nat.le_of_ble_eq_true rfl, Nat.le_of_ble_eq_true rfl⟩ rfl hl.1 rfl (Nat.le_of_ble_eq_true rfl) dX12_counted_79 ⟨Nat.le_of_ble_eq_true rfl, Nat.le_of_ble_eq_true rfl⟩) hP hD hS hA [9, 10] [0, 1, 2, 3, 4, 5, 6, 7, 8, 11, 12] rfl rfl (by decide +kernel) (by decide +kernel) ?_
                clear hP hD hS
                try clear locs
                try clear H
                intro r_48 u_49 H locs hw_r_48 hP hD hS
                refine W.widen (k := 0) (n := 0) (Nat.le_of_ble_eq_true rfl) (Nat.le_of_ble_eq_true rfl) ?_
                replace hP : va_P D vwCl [(st0_3, .inl (cs 0, 96048, .inl s0z_14)), (mtb, .inl (cs 5, 2, .inr (.inr (.inr (.inr ftz_10))))), (tb0_4, .inl (cs 0, 8192, .inl t0z_15)), (tb1_7, .inl (cs 0, 8192, .inl t1z_17)), (mti, .inl (cs 6, 2, .inr (.inr (.inr (.inr fiz_11))))), (ti0_5, .inl (cs 1, 2001, .inr (.inl i0z_19))), (ti1_8, .inl (cs 1, 2001, .inr (.inl i1z_20))), (msm, .inl (cs 0, 2, .inl smz_18)), (mtr, .inl (cs 0, 288, .inl u_24)), (mst, .inl (cs 5, 2, .inr (.inr (.inr (.inr fsz_9))))), (st1_6, .inl (cs 0, 96048, .inl s1z_16)), (hm, .inr (12, [.ref ms, .ref mkp, .int (nI km), .ref mtr, .int (nI n), .int (nI k), .int (nI al), .int (nI be), .int ea, .int pr, .ref mas, .int nq, .int po, .int (nI en), .ref mso, .ref mon, .ref mot, .ref man, .int th, .int xd, .ref mst, .ref msm, .ref mtb, .ref mti, .ref mfr, .ref mbn, .ref mbs, .ref mde, .int sF, .int sN, .int sS, .int ig, .long xa, .long xb, .ref maa, .ref mab, .ref mba, .ref mbb])), (ms, .inl (cs 0, 288, .inl u_45))] H := hP
                replace hD : va_D A [(st0_3, .inl (cs 0, 96048, .inl s0z_14)), (mtb, .inl (cs 5, 2, .inr (.inr (.inr (.inr ftz_10))))), (tb0_4, .inl (cs 0, 8192, .inl t0z_15)), (tb1_7, .inl (cs 0, 8192, .inl t1z_17)), (mti, .inl (cs 6, 2, .inr (.inr (.inr (.inr fiz_11))))), (ti0_5, .inl (cs 1, 2001, .inr (.inl i0z_19))), (ti1_8, .inl (cs 1, 2001, .inr (.inl i1z_20))), (msm, .inl (cs 0, 2, .inl smz_18)), (mtr, .inl (cs 0, 288, .inl u_24)), (mst, .inl (cs 5, 2, .inr (.inr (.inr (.inr fsz_9))))), (st1_6, .inl (cs 0, 96048, .inl s1z_16)), (hm, .inr (12, [.ref ms, .ref mkp, .int (nI km), .ref mtr, .int (nI n), .int (nI k), .int (nI al), .int (nI be), .int ea, .int pr, .ref mas, .int nq, .int po, .int (nI en), .ref mso, .ref mon, .ref mot, .ref man, .int th, .int xd, .ref mst, .ref msm, .ref mtb, .ref mti, .ref mfr, .ref mbn, .ref mbs, .ref mde, .int sF, .int sN, .int sS, .int ig, .long xa, .long xb, .ref maa, .ref mab, .ref mba, .ref mbb])), (ms, .inl (cs 0, 288, .inl u_45))] := hD
                refine xi (wr := [(st0_3, .inl (cs 0, 96048, .inl s0z_14)), (mtb, .inl (cs 5, 2, .inr (.inr (.inr (.inr ftz_10))))), (tb0_4, .inl (cs 0, 8192, .inl t0z_15)), (tb1_7, .inl (cs 0, 8192, .inl t1z_17)), (mti, .inl (cs 6, 2, .inr (.inr (.inr (.inr fiz_11))))), (ti0_5, .inl (cs 1, 2001, .inr (.inl i0z_19))), (ti1_8, .inl (cs 1, 2001, .inr (.inl i1z_20))), (msm, .inl (cs 0, 2, .inl smz_18)), (mtr, .inl (cs 0, 288, .inl u_24)), (mst, .inl (cs 5, 2, .inr (.inr (.inr (.inr fsz_9))))), (st1_6, .inl (cs 0, 96048, .inl s1z_16)), (hm, .inr (12, [.ref ms, .ref mkp, .int (nI km), .ref mtr, .int (nI n), .int (nI k), .int (nI al), .int (nI be), .int ea, .int pr, .ref mas, .int nq, .int po, .int (nI en), .ref mso, .ref mon, .ref mot, .ref man, .int th, .int xd, .ref mst, .ref msm, .ref mtb, .ref mti, .ref mfr, .ref mbn, .ref mbs, .ref mde, .int sF, .int sN, .int sS, .int ig, .long xa, .long xb, .ref maa, .ref mab, .ref mba, .ref mbb])), (ms, .inl (cs 0, 288, .inl u_45))]) (xS (As := [.int r_48]) (rest := []) C (c_X12_many l D cs r_48) kX12_127 hP hD [] rfl (by decide +kernel) ⟨Nat.le_of_ble_eq_true rfl, Nat.le_of_ble_eq_true rfl⟩ rfl hl.1 rfl (Nat.le_of_ble_eq_true rfl) dX12_counted_82 ⟨Nat.le_of_ble_eq_true rfl, Nat.le_of_ble_eq_true rfl⟩) hP hD hS hA [] [0, 1, 2, 3, 4, 5, 6, 7, 8, 9, 10, 11, 12] rfl rfl (by decide +kernel) (by decide +kernel) ?_
                clear hP hD hS
                try clear locs
                try clear H
                intro r_50 u_51 H locs hw_r_50 hP hD hS
                have hw_r_50 : r_50 = nI (cntL r_48 16) := hw_r_50
                refine W.widen (k := 0) (n := 0) (Nat.le_of_ble_eq_true rfl) (Nat.le_of_ble_eq_true rfl) ?_
                replace hP : va_P D vwCl [(st0_3, .inl (cs 0, 96048, .inl s0z_14)), (mtb, .inl (cs 5, 2, .inr (.inr (.inr (.inr ftz_10))))), (tb0_4, .inl (cs 0, 8192, .inl t0z_15)), (tb1_7, .inl (cs 0, 8192, .inl t1z_17)), (mti, .inl (cs 6, 2, .inr (.inr (.inr (.inr fiz_11))))), (ti0_5, .inl (cs 1, 2001, .inr (.inl i0z_19))), (ti1_8, .inl (cs 1, 2001, .inr (.inl i1z_20))), (msm, .inl (cs 0, 2, .inl smz_18)), (mtr, .inl (cs 0, 288, .inl u_24)), (mst, .inl (cs 5, 2, .inr (.inr (.inr (.inr fsz_9))))), (st1_6, .inl (cs 0, 96048, .inl s1z_16)), (hm, .inr (12, [.ref ms, .ref mkp, .int (nI km), .ref mtr, .int (nI n), .int (nI k), .int (nI al), .int (nI be), .int ea, .int pr, .ref mas, .int nq, .int po, .int (nI en), .ref mso, .ref mon, .ref mot, .ref man, .int th, .int xd, .ref mst, .ref msm, .ref mtb, .ref mti, .ref mfr, .ref mbn, .ref mbs, .ref mde, .int sF, .int sN, .int sS, .int ig, .long xa, .long xb, .ref maa, .ref mab, .ref mba, .ref mbb])), (ms, .inl (cs 0, 288, .inl u_45))] H := hP
                replace hD : va_D A [(st0_3, .inl (cs 0, 96048, .inl s0z_14)), (mtb, .inl (cs 5, 2, .inr (.inr (.inr (.inr ftz_10))))), (tb0_4, .inl (cs 0, 8192, .inl t0z_15)), (tb1_7, .inl (cs 0, 8192, .inl t1z_17)), (mti, .inl (cs 6, 2, .inr (.inr (.inr (.inr fiz_11))))), (ti0_5, .inl (cs 1, 2001, .inr (.inl i0z_19))), (ti1_8, .inl (cs 1, 2001, .inr (.inl i1z_20))), (msm, .inl (cs 0, 2, .inl smz_18)), (mtr, .inl (cs 0, 288, .inl u_24)), (mst, .inl (cs 5, 2, .inr (.inr (.inr (.inr fsz_9))))), (st1_6, .inl (cs 0, 96048, .inl s1z_16)), (hm, .inr (12, [.ref ms, .ref mkp, .int (nI km), .ref mtr, .int (nI n), .int (nI k), .int (nI al), .int (nI be), .int ea, .int pr, .ref mas, .int nq, .int po, .int (nI en), .ref mso, .ref mon, .ref mot, .ref man, .int th, .int xd, .ref mst, .ref msm, .ref mtb, .ref mti, .ref mfr, .ref mbn, .ref mbs, .ref mde, .int sF, .int sN, .int sS, .int ig, .long xa, .long xb, .ref maa, .ref mab, .ref mba, .ref mbb])), (ms, .inl (cs 0, 288, .inl u_45))] := hD
                refine lv_iload_n hx hb dX12_counted_85 rfl (lv_at hl 6 rfl) ?_
                refine lv_icmp_ne (tgt := 93) hx hb dX12_counted_86 (by decide) (fun c_52 => ?_) (fun c_52 => ?_)
                · -- 86 t
                  refine lv_iconst (v := nI 0) hx hb dX12_counted_93 (by decide) ?_
                  refine lv_istore (lv' := [(8, .int (nI 0)), (7, .int (nI o)), (5, .long v9), (4, .int (nI 1)), (0, .ref hm), (1, .int (nI t)), (2, .int w9), (3, .int x9)]) hx hb dX12_counted_94 hl (by decide) rfl ?_
                  clear hl
                  try clear ls
                  intro ls hl
                  refine lv_iload hx hb dX12_counted_96 (lv_at hl 0 rfl) ?_
                  refine lv_if_eq (tgt := 116) hx hb dX12_counted_98 (by decide) (fun _ => ?_) (fun c => absurd (by decide) c)
                  refine lv_iinc (v := nI (o + 1)) (lv' := [(7, .int (nI (o + 1))), (8, .int (nI 0)), (5, .long v9), (4, .int (nI 1)), (0, .ref hm), (1, .int (nI t)), (2, .int w9), (3, .int x9)]) hx hb dX12_counted_116 hl (k := 1) rfl (nI_add o 1) (by decide) rfl ?_
                  clear hl
                  try clear ls
                  intro ls hl
                  refine lv_goto (tgt := 34) hx hb dX12_counted_119 (by decide) ?_
                  exact ih_loop_25 (o + 1) u_45 v9 (by omega) (by omega) H locs ls (xP_map hP [9, 0, 10, 1, 2, 3, 4, 5, 6, 7, 11, 12, 8] rfl) (hD.sub [9, 0, 10, 1, 2, 3, 4, 5, 6, 7, 11, 12, 8] (by decide +kernel) rfl) hS (lv_sub hl [0, 2, 3, 4, 5, 6, 7] rfl)
                · -- 86 f
                  refine lv_iconst (v := nI 1) hx hb dX12_counted_89 (by decide) ?_
                  refine lv_goto (tgt := 94) hx hb dX12_counted_90 (by decide) ?_
                  refine lv_istore (lv' := [(8, .int (nI 1)), (7, .int (nI o)), (5, .long v9), (4, .int (nI 1)), (0, .ref hm), (1, .int (nI t)), (2, .int w9), (3, .int x9)]) hx hb dX12_counted_94 hl (by decide) rfl ?_
                  clear hl
                  try clear ls
                  intro ls hl
                  refine lv_iload hx hb dX12_counted_96 (lv_at hl 0 rfl) ?_
                  refine lv_if_eq (tgt := 116) hx hb dX12_counted_98 (by decide) (fun c => absurd c (by decide)) (fun _ => ?_)
                  refine lv_lload hx hb dX12_counted_101 (lv_at hl 2 rfl) ?_
                  refine lv_aload_n hx hb dX12_counted_103 rfl (lv_at hl 4 rfl) ?_
                  refine xget C hP 11 rfl rfl zuX12 23 (by decide) zw5_236 rfl dX12_counted_104 ?_
                  refine lv_iload hx hb dX12_counted_107 (lv_at hl 3 rfl) ?_
                  refine xaald C hP 4 6 rfl rfl rfl 1 rfl (by decide) (by decide) hw_r_1.2.2.2.2.2.2.2 dX12_counted_109 ?_
                  refine lv_iload hx hb dX12_counted_110 (lv_at hl 1 rfl) ?_
                  refine xlald C hP 6 rfl o rfl (by omega) (by decide) dX12_counted_112 ?_
                  refine lv_ladd hx hb dX12_counted_113 ?_
                  refine lv_lstore (lv' := [(5, .long (v9 + (i1z_20 o))), (8, .int (nI 1)), (7, .int (nI o)), (4, .int (nI 1)), (0, .ref hm), (1, .int (nI t)), (2, .int w9), (3, .int x9)]) hx hb dX12_counted_114 hl (by decide) rfl ?_
                  clear hl
                  try clear ls
                  intro ls hl
                  refine lv_iinc (v := nI (o + 1)) (lv' := [(7, .int (nI (o + 1))), (5, .long (v9 + (i1z_20 o))), (8, .int (nI 1)), (4, .int (nI 1)), (0, .ref hm), (1, .int (nI t)), (2, .int w9), (3, .int x9)]) hx hb dX12_counted_116 hl (k := 2) rfl (nI_add o 1) (by decide) rfl ?_
                  clear hl
                  try clear ls
                  intro ls hl
                  refine lv_goto (tgt := 34) hx hb dX12_counted_119 (by decide) ?_
                  exact ih_loop_25 (o + 1) u_45 (v9 + (i1z_20 o)) (by omega) (by omega) H locs ls (xP_map hP [9, 0, 10, 1, 2, 3, 4, 5, 6, 7, 11, 12, 8] rfl) (hD.sub [9, 0, 10, 1, 2, 3, 4, 5, 6, 7, 11, 12, 8] (by decide +kernel) rfl) hS (lv_sub hl [0, 1, 3, 4, 5, 6, 7] rfl)
              · -- 68 f
                refine lv_aload_n hx hb dX12_counted_71 rfl (lv_at hl 3 rfl) ?_
                refine xi (wr := [(st0_3, .inl (cs 0, 96048, .inl s0z_14)), (mtb, .inl (cs 5, 2, .inr (.inr (.inr (.inr ftz_10))))), (tb0_4, .inl (cs 0, 8192, .inl t0z_15)), (tb1_7, .inl (cs 0, 8192, .inl t1z_17)), (mti, .inl (cs 6, 2, .inr (.inr (.inr (.inr fiz_11))))), (ti0_5, .inl (cs 1, 2001, .inr (.inl i0z_19))), (ti1_8, .inl (cs 1, 2001, .inr (.inl i1z_20))), (msm, .inl (cs 0, 2, .inl smz_18)), (mtr, .inl (cs 0, 288, .inl u_24)), (mst, .inl (cs 5, 2, .inr (.inr (.inr (.inr fsz_9))))), (st1_6, .inl (cs 0, 96048, .inl s1z_16))]) (xV (As := []) (rest := []) C (c_X12_areAgreed l D cs hm ms mkp mtr mas mso mon mot man mst msm mtb mti mfr mbn mbs mde maa mab mba mbb n k al be km en ea pr nq po th xd sF sN sS ig xa xb u_45 hn) kX12_215 hP hD [9, 10] rfl (by decide +kernel) 0 rfl rfl rfl ⟨Nat.le_of_ble_eq_true rfl, Nat.le_of_ble_eq_true rfl⟩ rfl hl.1 rfl (Nat.le_of_ble_eq_true rfl) dX12_counted_72 ⟨Nat.le_of_ble_eq_true rfl, Nat.le_of_ble_eq_true rfl⟩) hP hD hS hA [9, 10] [0, 1, 2, 3, 4, 5, 6, 7, 8, 11, 12] rfl rfl (by decide +kernel) (by decide +kernel) ?_
                clear hP hD hS
                try clear locs
                try clear H
                intro r_53 u_54 H locs hw_r_53 hP hD hS
                have hw_r_53 : (r_53 = nI 0 ∨ r_53 = nI 1) := hw_r_53
                refine W.widen (k := 0) (n := 0) (Nat.le_of_ble_eq_true rfl) (Nat.le_of_ble_eq_true rfl) ?_
                replace hP : va_P D vwCl [(st0_3, .inl (cs 0, 96048, .inl s0z_14)), (mtb, .inl (cs 5, 2, .inr (.inr (.inr (.inr ftz_10))))), (tb0_4, .inl (cs 0, 8192, .inl t0z_15)), (tb1_7, .inl (cs 0, 8192, .inl t1z_17)), (mti, .inl (cs 6, 2, .inr (.inr (.inr (.inr fiz_11))))), (ti0_5, .inl (cs 1, 2001, .inr (.inl i0z_19))), (ti1_8, .inl (cs 1, 2001, .inr (.inl i1z_20))), (msm, .inl (cs 0, 2, .inl smz_18)), (mtr, .inl (cs 0, 288, .inl u_24)), (mst, .inl (cs 5, 2, .inr (.inr (.inr (.inr fsz_9))))), (st1_6, .inl (cs 0, 96048, .inl s1z_16)), (hm, .inr (12, [.ref ms, .ref mkp, .int (nI km), .ref mtr, .int (nI n), .int (nI k), .int (nI al), .int (nI be), .int ea, .int pr, .ref mas, .int nq, .int po, .int (nI en), .ref mso, .ref mon, .ref mot, .ref man, .int th, .int xd, .ref mst, .ref msm, .ref mtb, .ref mti, .ref mfr, .ref mbn, .ref mbs, .ref mde, .int sF, .int sN, .int sS, .int ig, .long xa, .long xb, .ref maa, .ref mab, .ref mba, .ref mbb])), (ms, .inl (cs 0, 288, .inl u_45))] H := hP
                replace hD : va_D A [(st0_3, .inl (cs 0, 96048, .inl s0z_14)), (mtb, .inl (cs 5, 2, .inr (.inr (.inr (.inr ftz_10))))), (tb0_4, .inl (cs 0, 8192, .inl t0z_15)), (tb1_7, .inl (cs 0, 8192, .inl t1z_17)), (mti, .inl (cs 6, 2, .inr (.inr (.inr (.inr fiz_11))))), (ti0_5, .inl (cs 1, 2001, .inr (.inl i0z_19))), (ti1_8, .inl (cs 1, 2001, .inr (.inl i1z_20))), (msm, .inl (cs 0, 2, .inl smz_18)), (mtr, .inl (cs 0, 288, .inl u_24)), (mst, .inl (cs 5, 2, .inr (.inr (.inr (.inr fsz_9))))), (st1_6, .inl (cs 0, 96048, .inl s1z_16)), (hm, .inr (12, [.ref ms, .ref mkp, .int (nI km), .ref mtr, .int (nI n), .int (nI k), .int (nI al), .int (nI be), .int ea, .int pr, .ref mas, .int nq, .int po, .int (nI en), .ref mso, .ref mon, .ref mot, .ref man, .int th, .int xd, .ref mst, .ref msm, .ref mtb, .ref mti, .ref mfr, .ref mbn, .ref mbs, .ref mde, .int sF, .int sN, .int sS, .int ig, .long xa, .long xb, .ref maa, .ref mab, .ref mba, .ref mbb])), (ms, .inl (cs 0, 288, .inl u_45))] := hD
                refine lv_goto (tgt := 94) hx hb dX12_counted_75 (by decide) ?_
                refine lv_istore (lv' := [(8, .int r_53), (7, .int (nI o)), (5, .long v9), (4, .int (nI 1)), (0, .ref hm), (1, .int (nI t)), (2, .int w9), (3, .int x9)]) hx hb dX12_counted_94 hl (by decide) rfl ?_
                clear hl
                try clear ls
                intro ls hl
                refine lv_iload hx hb dX12_counted_96 (lv_at hl 0 rfl) ?_
                refine lv_if_eq (tgt := 116) hx hb dX12_counted_98 (by decide) (fun c_55 => ?_) (fun c_55 => ?_)
                · -- 98 t
                  refine lv_iinc (v := nI (o + 1)) (lv' := [(7, .int (nI (o + 1))), (8, .int r_53), (5, .long v9), (4, .int (nI 1)), (0, .ref hm), (1, .int (nI t)), (2, .int w9), (3, .int x9)]) hx hb dX12_counted_116 hl (k := 1) rfl (nI_add o 1) (by decide) rfl ?_
                  clear hl
                  try clear ls
                  intro ls hl
                  refine lv_goto (tgt := 34) hx hb dX12_counted_119 (by decide) ?_
                  exact ih_loop_25 (o + 1) u_45 v9 (by omega) (by omega) H locs ls (xP_map hP [9, 0, 10, 1, 2, 3, 4, 5, 6, 7, 11, 12, 8] rfl) (hD.sub [9, 0, 10, 1, 2, 3, 4, 5, 6, 7, 11, 12, 8] (by decide +kernel) rfl) hS (lv_sub hl [0, 2, 3, 4, 5, 6, 7] rfl)
                · -- 98 f
                  refine lv_lload hx hb dX12_counted_101 (lv_at hl 2 rfl) ?_
                  refine lv_aload_n hx hb dX12_counted_103 rfl (lv_at hl 4 rfl) ?_
                  refine xget C hP 11 rfl rfl zuX12 23 (by decide) zw5_236 rfl dX12_counted_104 ?_
                  refine lv_iload hx hb dX12_counted_107 (lv_at hl 3 rfl) ?_
                  refine xaald C hP 4 6 rfl rfl rfl 1 rfl (by decide) (by decide) hw_r_1.2.2.2.2.2.2.2 dX12_counted_109 ?_
                  refine lv_iload hx hb dX12_counted_110 (lv_at hl 1 rfl) ?_
                  refine xlald C hP 6 rfl o rfl (by omega) (by decide) dX12_counted_112 ?_
                  refine lv_ladd hx hb dX12_counted_113 ?_
                  refine lv_lstore (lv' := [(5, .long (v9 + (i1z_20 o))), (8, .int r_53), (7, .int (nI o)), (4, .int (nI 1)), (0, .ref hm), (1, .int (nI t)), (2, .int w9), (3, .int x9)]) hx hb dX12_counted_114 hl (by decide) rfl ?_
                  clear hl
                  try clear ls
                  intro ls hl
                  refine lv_iinc (v := nI (o + 1)) (lv' := [(7, .int (nI (o + 1))), (5, .long (v9 + (i1z_20 o))), (8, .int r_53), (4, .int (nI 1)), (0, .ref hm), (1, .int (nI t)), (2, .int w9), (3, .int x9)]) hx hb dX12_counted_116 hl (k := 2) rfl (nI_add o 1) (by decide) rfl ?_
                  clear hl
                  try clear ls
                  intro ls hl
                  refine lv_goto (tgt := 34) hx hb dX12_counted_119 (by decide) ?_
                  exact ih_loop_25 (o + 1) u_45 (v9 + (i1z_20 o)) (by omega) (by omega) H locs ls (xP_map hP [9, 0, 10, 1, 2, 3, 4, 5, 6, 7, 11, 12, 8] rfl) (hD.sub [9, 0, 10, 1, 2, 3, 4, 5, 6, 7, 11, 12, 8] (by decide +kernel) rfl) hS (lv_sub hl [0, 1, 3, 4, 5, 6, 7] rfl)
            · -- 56 f
              refine lv_aload_n hx hb dX12_counted_59 rfl (lv_at hl 3 rfl) ?_
              refine xi (wr := [(st0_3, .inl (cs 0, 96048, .inl s0z_14)), (mtb, .inl (cs 5, 2, .inr (.inr (.inr (.inr ftz_10))))), (tb0_4, .inl (cs 0, 8192, .inl t0z_15)), (tb1_7, .inl (cs 0, 8192, .inl t1z_17)), (mti, .inl (cs 6, 2, .inr (.inr (.inr (.inr fiz_11))))), (ti0_5, .inl (cs 1, 2001, .inr (.inl i0z_19))), (ti1_8, .inl (cs 1, 2001, .inr (.inl i1z_20))), (msm, .inl (cs 0, 2, .inl smz_18)), (mtr, .inl (cs 0, 288, .inl u_24)), (mst, .inl (cs 5, 2, .inr (.inr (.inr (.inr fsz_9))))), (st1_6, .inl (cs 0, 96048, .inl s1z_16))]) (xV (As := []) (rest := []) C (c_X12_areSplit l D cs hm ms mkp mtr mas mso mon mot man mst msm mtb mti mfr mbn mbs mde maa mab mba mbb n k al be km en ea pr nq po th xd sF sN sS ig xa xb u_45 hn) kX12_211 hP hD [9, 10] rfl (by decide +kernel) 0 rfl rfl rfl ⟨Nat.le_of_ble_eq_true rfl, Nat.le_of_ble_eq_true rfl⟩ rfl hl.1 rfl (Nat.le_of_ble_eq_true rfl) dX12_counted_60 ⟨Nat.le_of_ble_eq_true rfl, Nat.le_of_ble_eq_true rfl⟩) hP hD hS hA [9, 10] [0, 1, 2, 3, 4, 5, 6, 7, 8, 11, 12] rfl rfl (by decide +kernel) (by decide +kernel) ?_
              clear hP hD hS
              try clear locs
              try clear H
              intro r_56 u_57 H locs hw_r_56 hP hD hS
              have hw_r_56 : PQ (splP n u_45) r_56 (nI 1) (nI 0) := hw_r_56
              refine W.widen (k := 0) (n := 0) (Nat.le_of_ble_eq_true rfl) (Nat.le_of_ble_eq_true rfl) ?_
              replace hP : va_P D vwCl [(st0_3, .inl (cs 0, 96048, .inl s0z_14)), (mtb, .inl (cs 5, 2, .inr (.inr (.inr (.inr ftz_10))))), (tb0_4, .inl (cs 0, 8192, .inl t0z_15)), (tb1_7, .inl (cs 0, 8192, .inl t1z_17)), (mti, .inl (cs 6, 2, .inr (.inr (.inr (.inr fiz_11))))), (ti0_5, .inl (cs 1, 2001, .inr (.inl i0z_19))), (ti1_8, .inl (cs 1, 2001, .inr (.inl i1z_20))), (msm, .inl (cs 0, 2, .inl smz_18)), (mtr, .inl (cs 0, 288, .inl u_24)), (mst, .inl (cs 5, 2, .inr (.inr (.inr (.inr fsz_9))))), (st1_6, .inl (cs 0, 96048, .inl s1z_16)), (hm, .inr (12, [.ref ms, .ref mkp, .int (nI km), .ref mtr, .int (nI n), .int (nI k), .int (nI al), .int (nI be), .int ea, .int pr, .ref mas, .int nq, .int po, .int (nI en), .ref mso, .ref mon, .ref mot, .ref man, .int th, .int xd, .ref mst, .ref msm, .ref mtb, .ref mti, .ref mfr, .ref mbn, .ref mbs, .ref mde, .int sF, .int sN, .int sS, .int ig, .long xa, .long xb, .ref maa, .ref mab, .ref mba, .ref mbb])), (ms, .inl (cs 0, 288, .inl u_45))] H := hP
              replace hD : va_D A [(st0_3, .inl (cs 0, 96048, .inl s0z_14)), (mtb, .inl (cs 5, 2, .inr (.inr (.inr (.inr ftz_10))))), (tb0_4, .inl (cs 0, 8192, .inl t0z_15)), (tb1_7, .inl (cs 0, 8192, .inl t1z_17)), (mti, .inl (cs 6, 2, .inr (.inr (.inr (.inr fiz_11))))), (ti0_5, .inl (cs 1, 2001, .inr (.inl i0z_19))), (ti1_8, .inl (cs 1, 2001, .inr (.inl i1z_20))), (msm, .inl (cs 0, 2, .inl smz_18)), (mtr, .inl (cs 0, 288, .inl u_24)), (mst, .inl (cs 5, 2, .inr (.inr (.inr (.inr fsz_9))))), (st1_6, .inl (cs 0, 96048, .inl s1z_16)), (hm, .inr (12, [.ref ms, .ref mkp, .int (nI km), .ref mtr, .int (nI n), .int (nI k), .int (nI al), .int (nI be), .int ea, .int pr, .ref mas, .int nq, .int po, .int (nI en), .ref mso, .ref mon, .ref mot, .ref man, .int th, .int xd, .ref mst, .ref msm, .ref mtb, .ref mti, .ref mfr, .ref mbn, .ref mbs, .ref mde, .int sF, .int sN, .int sS, .int ig, .long xa, .long xb, .ref maa, .ref mab, .ref mba, .ref mbb])), (ms, .inl (cs 0, 288, .inl u_45))] := hD
              refine lv_goto (tgt := 94) hx hb dX12_counted_63 (by decide) ?_
              refine lv_istore (lv' := [(8, .int r_56), (7, .int (nI o)), (5, .long v9), (4, .int (nI 1)), (0, .ref hm), (1, .int (nI t)), (2, .int w9), (3, .int x9)]) hx hb dX12_counted_94 hl (by decide) rfl ?_
              clear hl
              try clear ls
              intro ls hl
              refine lv_iload hx hb dX12_counted_96 (lv_at hl 0 rfl) ?_
              refine lv_if_eq (tgt := 116) hx hb dX12_counted_98 (by decide) (fun c_58 => ?_) (fun c_58 => ?_)
              · -- 98 t
                refine lv_iinc (v := nI (o + 1)) (lv' := [(7, .int (nI (o + 1))), (8, .int r_56), (5, .long v9), (4, .int (nI 1)), (0, .ref hm), (1, .int (nI t)), (2, .int w9), (3, .int x9)]) hx hb dX12_counted_116 hl (k := 1) rfl (nI_add o 1) (by decide) rfl ?_
                clear hl
                try clear ls
                intro ls hl
                refine lv_goto (tgt := 34) hx hb dX12_counted_119 (by decide) ?_
                exact ih_loop_25 (o + 1) u_45 v9 (by omega) (by omega) H locs ls (xP_map hP [9, 0, 10, 1, 2, 3, 4, 5, 6, 7, 11, 12, 8] rfl) (hD.sub [9, 0, 10, 1, 2, 3, 4, 5, 6, 7, 11, 12, 8] (by decide +kernel) rfl) hS (lv_sub hl [0, 2, 3, 4, 5, 6, 7] rfl)
              · -- 98 f
                refine lv_lload hx hb dX12_counted_101 (lv_at hl 2 rfl) ?_
                refine lv_aload_n hx hb dX12_counted_103 rfl (lv_at hl 4 rfl) ?_
                refine xget C hP 11 rfl rfl zuX12 23 (by decide) zw5_236 rfl dX12_counted_104 ?_
                refine lv_iload hx hb dX12_counted_107 (lv_at hl 3 rfl) ?_
                refine xaald C hP 4 6 rfl rfl rfl 1 rfl (by decide) (by decide) hw_r_1.2.2.2.2.2.2.2 dX12_counted_109 ?_
                refine lv_iload hx hb dX12_counted_110 (lv_at hl 1 rfl) ?_
                refine xlald C hP 6 rfl o rfl (by omega) (by decide) dX12_counted_112 ?_
                refine lv_ladd hx hb dX12_counted_113 ?_
                refine lv_lstore (lv' := [(5, .long (v9 + (i1z_20 o))), (8, .int r_56), (7, .int (nI o)), (4, .int (nI 1)), (0, .ref hm), (1, .int (nI t)), (2, .int w9), (3, .int x9)]) hx hb dX12_counted_114 hl (by decide) rfl ?_
                clear hl
                try clear ls
                intro ls hl
                refine lv_iinc (v := nI (o + 1)) (lv' := [(7, .int (nI (o + 1))), (5, .long (v9 + (i1z_20 o))), (8, .int r_56), (4, .int (nI 1)), (0, .ref hm), (1, .int (nI t)), (2, .int w9), (3, .int x9)]) hx hb dX12_counted_116 hl (k := 2) rfl (nI_add o 1) (by decide) rfl ?_
                clear hl
                try clear ls
                intro ls hl
                refine lv_goto (tgt := 34) hx hb dX12_counted_119 (by decide) ?_
                exact ih_loop_25 (o + 1) u_45 (v9 + (i1z_20 o)) (by omega) (by omega) H locs ls (xP_map hP [9, 0, 10, 1, 2, 3, 4, 5, 6, 7, 11, 12, 8] rfl) (hD.sub [9, 0, 10, 1, 2, 3, 4, 5, 6, 7, 11, 12, 8] (by decide +kernel) rfl) hS (lv_sub hl [0, 1, 3, 4, 5, 6, 7] rfl)
    exact loop_25 _ 0 fz_12 0 (by omega) (Nat.lt_succ_self _) H locs ls hP hD hS (lv_sub hl [0, 1, 2, 3, 4, 5, 6] rfl)
  · -- 9 f
    refine lv_ldc2 (v := (-3)) hx hb hown (hz _ zw7_0) dX12_counted_12 ?_
    exact xretl C (⟨st0_3, tb0_4, ti0_5, st1_6, tb1_7, ti1_8, fsz_9, ftz_10, fiz_11, fz_12, tz_13, s0z_14, t0z_15, s1z_16, t1z_17, smz_18, i0z_19, i1z_20⟩) (⟨hw_r_1.2.1, hw_r_1.2.2⟩) hP hD hS (Nat.le_of_ble_eq_true rfl) (Nat.le_of_ble_eq_true rfl) dX12_counted_15
