set_option maxHeartbeats 4000000 in
set_option maxRecDepth 100000 in
theorem c_X12_laysSteps (l : Launch) (D : va_G) (cs : Nat → ClassId) (hm ms mkp mtr mas mso mon mot man mst msm mtb mti mfr mbn mbs mde maa mab mba mbb : Nat) (n k al be km en : Nat) (ea pr nq po th xd sF sN sS ig : Int32) (xa xb : Int64) (aaf abf baf bbf : Nat → Int64) (x : Int32) (hn : 2 ≤ n ∧ n ≤ 8) (hkn : 1 ≤ k ∧ k < n) (hal : 1 ≤ al ∧ al ≤ k) : xMet l D cs yX12_laysSteps cX12_laysSteps 3 none ({ frames := 4, cells := 0, slots := 0, locals := 99 } : Room) [.ref hm, .int x] [(hm, .inr (12, [.ref ms, .ref mkp, .int (nI km), .ref mtr, .int (nI n), .int (nI k), .int (nI al), .int (nI be), .int ea, .int pr, .ref mas, .int nq, .int po, .int (nI en), .ref mso, .ref mon, .ref mot, .ref man, .int th, .int xd, .ref mst, .ref msm, .ref mtb, .ref mti, .ref mfr, .ref mbn, .ref mbs, .ref mde, .int sF, .int sN, .int sS, .int ig, .long xa, .long xb, .ref maa, .ref mab, .ref mba, .ref mbb])), (maa, .inl (cs 1, 9, .inr (.inl aaf))), (mab, .inl (cs 1, 9, .inr (.inl abf))), (mba, .inl (cs 1, 9, .inr (.inl baf))), (mbb, .inl (cs 1, 9, .inr (.inl bbf)))] (xQv D (fun (u : Int32 × Int64 × Int64 × (Nat → Int64) × (Nat → Int64) × (Nat → Int64) × (Nat → Int64)) => match u with | (igz, xaz, xbz, aaz, abz, baz, bbz) => gr igz ∨ ∀ j, j < n → ¬ abz j = 0 ∧ ¬ bbz j = 0) (fun (u : Int32 × Int64 × Int64 × (Nat → Int64) × (Nat → Int64) × (Nat → Int64) × (Nat → Int64)) => match u with | (igz, xaz, xbz, aaz, abz, baz, bbz) => [(hm, .inr (12, [.ref ms, .ref mkp, .int (nI km), .ref mtr, .int (nI n), .int (nI k), .int (nI al), .int (nI be), .int ea, .int pr, .ref mas, .int nq, .int po, .int (nI en), .ref mso, .ref mon, .ref mot, .ref man, .int th, .int xd, .ref mst, .ref msm, .ref mtb, .ref mti, .ref mfr, .ref mbn, .ref mbs, .ref mde, .int sF, .int sN, .int sS, .int igz, .long xaz, .long xbz, .ref maa, .ref mab, .ref mba, .ref mbb])), (maa, .inl (cs 1, 9, .inr (.inl aaz))), (mab, .inl (cs 1, 9, .inr (.inl abz))), (mba, .inl (cs 1, 9, .inr (.inl baz))), (mbb, .inl (cs 1, 9, .inr (.inl bbz)))])) := by
  refine xMet.intro (by decide) (Nat.le_of_ble_eq_true rfl) ?_
  intro p e s m args below meth c A ls C hP hD hS hl
  have hx := C.1
  have hb := C.2.1
  have hz := C.2.2.2.2.1
  have hown := C.2.2.2.1
  have hA := C.2.2.2.2.2.2.2.2.2
  have hAO := C.2.2.2.2.2.2.2.2.1.2.2
  replace hl : lv_has ls 3 [(0, .ref hm), (1, .int x)] := hl
  obtain ⟨H, hH⟩ : ∃ H, H = s.heap := ⟨_, rfl⟩
  replace hP : va_P D vwCl [(hm, .inr (12, [.ref ms, .ref mkp, .int (nI km), .ref mtr, .int (nI n), .int (nI k), .int (nI al), .int (nI be), .int ea, .int pr, .ref mas, .int nq, .int po, .int (nI en), .ref mso, .ref mon, .ref mot, .ref man, .int th, .int xd, .ref mst, .ref msm, .ref mtb, .ref mti, .ref mfr, .ref mbn, .ref mbs, .ref mde, .int sF, .int sN, .int sS, .int ig, .long xa, .long xb, .ref maa, .ref mab, .ref mba, .ref mbb])), (maa, .inl (cs 1, 9, .inr (.inl aaf))), (mab, .inl (cs 1, 9, .inr (.inl abf))), (mba, .inl (cs 1, 9, .inr (.inl baf))), (mbb, .inl (cs 1, 9, .inr (.inl bbf)))] H := by rw [hH]; exact hP
  replace hS : va_S A s.heap H [] := by rw [hH]; exact hS
  obtain ⟨locs, hlocs⟩ : ∃ z : List Loc, z = [] := ⟨_, rfl⟩
  rw [← hlocs] at hS
  suffices hW : W p l e ({ frames := 4, cells := 0, slots := 0, locals := 99 } : Room) s m args below meth c H locs 0 0 (MQ below ((xQv D (fun (u : Int32 × Int64 × Int64 × (Nat → Int64) × (Nat → Int64) × (Nat → Int64) × (Nat → Int64)) => match u with | (igz, xaz, xbz, aaz, abz, baz, bbz) => gr igz ∨ ∀ j, j < n → ¬ abz j = 0 ∧ ¬ bbz j = 0) (fun (u : Int32 × Int64 × Int64 × (Nat → Int64) × (Nat → Int64) × (Nat → Int64) × (Nat → Int64)) => match u with | (igz, xaz, xbz, aaz, abz, baz, bbz) => [(hm, .inr (12, [.ref ms, .ref mkp, .int (nI km), .ref mtr, .int (nI n), .int (nI k), .int (nI al), .int (nI be), .int ea, .int pr, .ref mas, .int nq, .int po, .int (nI en), .ref mso, .ref mon, .ref mot, .ref man, .int th, .int xd, .ref mst, .ref msm, .ref mtb, .ref mti, .ref mfr, .ref mbn, .ref mbs, .ref mde, .int sF, .int sN, .int sS, .int igz, .long xaz, .long xbz, .ref maa, .ref mab, .ref mba, .ref mbb])), (maa, .inl (cs 1, 9, .inr (.inl aaz))), (mab, .inl (cs 1, 9, .inr (.inl abz))), (mba, .inl (cs 1, 9, .inr (.inl baz))), (mbb, .inl (cs 1, 9, .inr (.inl bbz)))])) A) args s 0 0 A) (F0 m 0 ls []) by rw [hlocs, hH] at hW; exact hW
  clear hH hlocs
  refine lv_aload_n hx hb dX12_laysSteps_0 rfl (lv_at hl 0 rfl) ?_
  refine xget C hP 0 rfl rfl zuX12 34 (by decide) zw6_7 rfl dX12_laysSteps_1 ?_
  refine lv_iconst (v := nI 0) hx hb dX12_laysSteps_4 (by decide) ?_
  refine lv_lconst (v := 0) hx hb dX12_laysSteps_5 (by decide) ?_
  refine xlast C hP hD hS 1 rfl 0 rfl (by decide) (by decide) dX12_laysSteps_6 ?_
  clear hP hD hS
  try clear locs
  try clear H
  intro H locs hP hD hS
  replace hP : va_P D vwCl [(hm, .inr (12, [.ref ms, .ref mkp, .int (nI km), .ref mtr, .int (nI n), .int (nI k), .int (nI al), .int (nI be), .int ea, .int pr, .ref mas, .int nq, .int po, .int (nI en), .ref mso, .ref mon, .ref mot, .ref man, .int th, .int xd, .ref mst, .ref msm, .ref mtb, .ref mti, .ref mfr, .ref mbn, .ref mbs, .ref mde, .int sF, .int sN, .int sS, .int ig, .long xa, .long xb, .ref maa, .ref mab, .ref mba, .ref mbb])), (maa, .inl (cs 1, 9, .inr (.inl (vp_updL aaf 0 0)))), (mab, .inl (cs 1, 9, .inr (.inl abf))), (mba, .inl (cs 1, 9, .inr (.inl baf))), (mbb, .inl (cs 1, 9, .inr (.inl bbf)))] H := hP
  replace hD : va_D A [(hm, .inr (12, [.ref ms, .ref mkp, .int (nI km), .ref mtr, .int (nI n), .int (nI k), .int (nI al), .int (nI be), .int ea, .int pr, .ref mas, .int nq, .int po, .int (nI en), .ref mso, .ref mon, .ref mot, .ref man, .int th, .int xd, .ref mst, .ref msm, .ref mtb, .ref mti, .ref mfr, .ref mbn, .ref mbs, .ref mde, .int sF, .int sN, .int sS, .int ig, .long xa, .long xb, .ref maa, .ref mab, .ref mba, .ref mbb])), (maa, .inl (cs 1, 9, .inr (.inl (vp_updL aaf 0 0)))), (mab, .inl (cs 1, 9, .inr (.inl abf))), (mba, .inl (cs 1, 9, .inr (.inl baf))), (mbb, .inl (cs 1, 9, .inr (.inl bbf)))] := hD
  refine lv_aload_n hx hb dX12_laysSteps_7 rfl (lv_at hl 0 rfl) ?_
  refine xget C hP 0 rfl rfl zuX12 35 (by decide) zw6_8 rfl dX12_laysSteps_8 ?_
  refine lv_iconst (v := nI 0) hx hb dX12_laysSteps_11 (by decide) ?_
  refine lv_lconst (v := 1) hx hb dX12_laysSteps_12 (by decide) ?_
  refine xlast C hP hD hS 2 rfl 0 rfl (by decide) (by decide) dX12_laysSteps_13 ?_
  clear hP hD hS
  try clear locs
  try clear H
  intro H locs hP hD hS
  replace hP : va_P D vwCl [(hm, .inr (12, [.ref ms, .ref mkp, .int (nI km), .ref mtr, .int (nI n), .int (nI k), .int (nI al), .int (nI be), .int ea, .int pr, .ref mas, .int nq, .int po, .int (nI en), .ref mso, .ref mon, .ref mot, .ref man, .int th, .int xd, .ref mst, .ref msm, .ref mtb, .ref mti, .ref mfr, .ref mbn, .ref mbs, .ref mde, .int sF, .int sN, .int sS, .int ig, .long xa, .long xb, .ref maa, .ref mab, .ref mba, .ref mbb])), (maa, .inl (cs 1, 9, .inr (.inl (vp_updL aaf 0 0)))), (mab, .inl (cs 1, 9, .inr (.inl (vp_updL abf 0 1)))), (mba, .inl (cs 1, 9, .inr (.inl baf))), (mbb, .inl (cs 1, 9, .inr (.inl bbf)))] H := hP
  replace hD : va_D A [(hm, .inr (12, [.ref ms, .ref mkp, .int (nI km), .ref mtr, .int (nI n), .int (nI k), .int (nI al), .int (nI be), .int ea, .int pr, .ref mas, .int nq, .int po, .int (nI en), .ref mso, .ref mon, .ref mot, .ref man, .int th, .int xd, .ref mst, .ref msm, .ref mtb, .ref mti, .ref mfr, .ref mbn, .ref mbs, .ref mde, .int sF, .int sN, .int sS, .int ig, .long xa, .long xb, .ref maa, .ref mab, .ref mba, .ref mbb])), (maa, .inl (cs 1, 9, .inr (.inl (vp_updL aaf 0 0)))), (mab, .inl (cs 1, 9, .inr (.inl (vp_updL abf 0 1)))), (mba, .inl (cs 1, 9, .inr (.inl baf))), (mbb, .inl (cs 1, 9, .inr (.inl bbf)))] := hD
  refine lv_aload_n hx hb dX12_laysSteps_14 rfl (lv_at hl 0 rfl) ?_
  refine xget C hP 0 rfl rfl zuX12 36 (by decide) zw6_9 rfl dX12_laysSteps_15 ?_
  refine lv_iconst (v := nI 0) hx hb dX12_laysSteps_18 (by decide) ?_
  refine lv_lconst (v := 0) hx hb dX12_laysSteps_19 (by decide) ?_
  refine xlast C hP hD hS 3 rfl 0 rfl (by decide) (by decide) dX12_laysSteps_20 ?_
  clear hP hD hS
  try clear locs
  try clear H
  intro H locs hP hD hS
  replace hP : va_P D vwCl [(hm, .inr (12, [.ref ms, .ref mkp, .int (nI km), .ref mtr, .int (nI n), .int (nI k), .int (nI al), .int (nI be), .int ea, .int pr, .ref mas, .int nq, .int po, .int (nI en), .ref mso, .ref mon, .ref mot, .ref man, .int th, .int xd, .ref mst, .ref msm, .ref mtb, .ref mti, .ref mfr, .ref mbn, .ref mbs, .ref mde, .int sF, .int sN, .int sS, .int ig, .long xa, .long xb, .ref maa, .ref mab, .ref mba, .ref mbb])), (maa, .inl (cs 1, 9, .inr (.inl (vp_updL aaf 0 0)))), (mab, .inl (cs 1, 9, .inr (.inl (vp_updL abf 0 1)))), (mba, .inl (cs 1, 9, .inr (.inl (vp_updL baf 0 0)))), (mbb, .inl (cs 1, 9, .inr (.inl bbf)))] H := hP
  replace hD : va_D A [(hm, .inr (12, [.ref ms, .ref mkp, .int (nI km), .ref mtr, .int (nI n), .int (nI k), .int (nI al), .int (nI be), .int ea, .int pr, .ref mas, .int nq, .int po, .int (nI en), .ref mso, .ref mon, .ref mot, .ref man, .int th, .int xd, .ref mst, .ref msm, .ref mtb, .ref mti, .ref mfr, .ref mbn, .ref mbs, .ref mde, .int sF, .int sN, .int sS, .int ig, .long xa, .long xb, .ref maa, .ref mab, .ref mba, .ref mbb])), (maa, .inl (cs 1, 9, .inr (.inl (vp_updL aaf 0 0)))), (mab, .inl (cs 1, 9, .inr (.inl (vp_updL abf 0 1)))), (mba, .inl (cs 1, 9, .inr (.inl (vp_updL baf 0 0)))), (mbb, .inl (cs 1, 9, .inr (.inl bbf)))] := hD
  refine lv_aload_n hx hb dX12_laysSteps_21 rfl (lv_at hl 0 rfl) ?_
  refine xget C hP 0 rfl rfl zuX12 37 (by decide) zw6_10 rfl dX12_laysSteps_22 ?_
  refine lv_iconst (v := nI 0) hx hb dX12_laysSteps_25 (by decide) ?_
  refine lv_lconst (v := 1) hx hb dX12_laysSteps_26 (by decide) ?_
  refine xlast C hP hD hS 4 rfl 0 rfl (by decide) (by decide) dX12_laysSteps_27 ?_
  clear hP hD hS
  try clear locs
  try clear H
  intro H locs hP hD hS
  replace hP : va_P D vwCl [(hm, .inr (12, [.ref ms, .ref mkp, .int (nI km), .ref mtr, .int (nI n), .int (nI k), .int (nI al), .int (nI be), .int ea, .int pr, .ref mas, .int nq, .int po, .int (nI en), .ref mso, .ref mon, .ref mot, .ref man, .int th, .int xd, .ref mst, .ref msm, .ref mtb, .ref mti, .ref mfr, .ref mbn, .ref mbs, .ref mde, .int sF, .int sN, .int sS, .int ig, .long xa, .long xb, .ref maa, .ref mab, .ref mba, .ref mbb])), (maa, .inl (cs 1, 9, .inr (.inl (vp_updL aaf 0 0)))), (mab, .inl (cs 1, 9, .inr (.inl (vp_updL abf 0 1)))), (mba, .inl (cs 1, 9, .inr (.inl (vp_updL baf 0 0)))), (mbb, .inl (cs 1, 9, .inr (.inl (vp_updL bbf 0 1))))] H := hP
  replace hD : va_D A [(hm, .inr (12, [.ref ms, .ref mkp, .int (nI km), .ref mtr, .int (nI n), .int (nI k), .int (nI al), .int (nI be), .int ea, .int pr, .ref mas, .int nq, .int po, .int (nI en), .ref mso, .ref mon, .ref mot, .ref man, .int th, .int xd, .ref mst, .ref msm, .ref mtb, .ref mti, .ref mfr, .ref mbn, .ref mbs, .ref mde, .int sF, .int sN, .int sS, .int ig, .long xa, .long xb, .ref maa, .ref mab, .ref mba, .ref mbb])), (maa, .inl (cs 1, 9, .inr (.inl (vp_updL aaf 0 0)))), (mab, .inl (cs 1, 9, .inr (.inl (vp_updL abf 0 1)))), (mba, .inl (cs 1, 9, .inr (.inl (vp_updL baf 0 0)))), (mbb, .inl (cs 1, 9, .inr (.inl (vp_updL bbf 0 1))))] := hD
  refine lv_iconst (v := nI 1) hx hb dX12_laysSteps_28 (by decide) ?_
  refine lv_istore_n (lv' := [(2, .int (nI 1)), (0, .ref hm), (1, .int x)]) hx hb dX12_laysSteps_29 rfl hl (by decide) rfl ?_
  clear hl
  try clear ls
  intro ls hl
  have loop_1 : ∀ (n_loop_1 : Nat) (o : Nat) (a9 : Nat → Int64) (b9 : Nat → Int64) (c9 : Nat → Int64) (d9 : Nat → Int64) (g9 : Int32) (xa9 : Int64) (xb9 : Int64), (o ≤ n) → (gr g9 ∨ ∀ j, j < o → ¬ b9 j = 0 ∧ ¬ d9 j = 0) → (1 ≤ o) → n - o < n_loop_1 → ∀ (H : Heap) (locs : List Loc) (ls : Array Slot), va_P D vwCl [(hm, .inr (12, [.ref ms, .ref mkp, .int (nI km), .ref mtr, .int (nI n), .int (nI k), .int (nI al), .int (nI be), .int ea, .int pr, .ref mas, .int nq, .int po, .int (nI en), .ref mso, .ref mon, .ref mot, .ref man, .int th, .int xd, .ref mst, .ref msm, .ref mtb, .ref mti, .ref mfr, .ref mbn, .ref mbs, .ref mde, .int sF, .int sN, .int sS, .int g9, .long xa9, .long xb9, .ref maa, .ref mab, .ref mba, .ref mbb])), (maa, .inl (cs 1, 9, .inr (.inl a9))), (mab, .inl (cs 1, 9, .inr (.inl b9))), (mba, .inl (cs 1, 9, .inr (.inl c9))), (mbb, .inl (cs 1, 9, .inr (.inl d9)))] H → va_D A [(hm, .inr (12, [.ref ms, .ref mkp, .int (nI km), .ref mtr, .int (nI n), .int (nI k), .int (nI al), .int (nI be), .int ea, .int pr, .ref mas, .int nq, .int po, .int (nI en), .ref mso, .ref mon, .ref mot, .ref man, .int th, .int xd, .ref mst, .ref msm, .ref mtb, .ref mti, .ref mfr, .ref mbn, .ref mbs, .ref mde, .int sF, .int sN, .int sS, .int g9, .long xa9, .long xb9, .ref maa, .ref mab, .ref mba, .ref mbb])), (maa, .inl (cs 1, 9, .inr (.inl a9))), (mab, .inl (cs 1, 9, .inr (.inl b9))), (mba, .inl (cs 1, 9, .inr (.inl c9))), (mbb, .inl (cs 1, 9, .inr (.inl d9)))] → va_S A s.heap H locs → lv_has ls 3 [(2, .int (nI o)), (0, .ref hm), (1, .int x)] → W p l e ({ frames := 4, cells := 0, slots := 0, locals := 99 } : Room) s m args below meth c H locs 0 0 (MQ below ((xQv D (fun (u : Int32 × Int64 × Int64 × (Nat → Int64) × (Nat → Int64) × (Nat → Int64) × (Nat → Int64)) => match u with | (igz, xaz, xbz, aaz, abz, baz, bbz) => gr igz ∨ ∀ j, j < n → ¬ abz j = 0 ∧ ¬ bbz j = 0) (fun (u : Int32 × Int64 × Int64 × (Nat → Int64) × (Nat → Int64) × (Nat → Int64) × (Nat → Int64)) => match u with | (igz, xaz, xbz, aaz, abz, baz, bbz) => [(hm, .inr (12, [.ref ms, .ref mkp, .int (nI km), .ref mtr, .int (nI n), .int (nI k), .int (nI al), .int (nI be), .int ea, .int pr, .ref mas, .int nq, .int po, .int (nI en), .ref mso, .ref mon, .ref mot, .ref man, .int th, .int xd, .ref mst, .ref msm, .ref mtb, .ref mti, .ref mfr, .ref mbn, .ref mbs, .ref mde, .int sF, .int sN, .int sS, .int igz, .long xaz, .long xbz, .ref maa, .ref mab, .ref mba, .ref mbb])), (maa, .inl (cs 1, 9, .inr (.inl aaz))), (mab, .inl (cs 1, 9, .inr (.inl abz))), (mba, .inl (cs 1, 9, .inr (.inl baz))), (mbb, .inl (cs 1, 9, .inr (.inl bbz)))])) A) args s 0 0 A) (F0 m 30 ls []) := by
    intro n_loop_1
    induction n_loop_1 with
    | zero => intro o a9 b9 c9 d9 g9 xa9 xb9 h_o hI9 ho1 hlt H locs ls hP hD hS hl; exact absurd hlt (Nat.not_lt_zero _)
    | succ n_loop_1 ih_loop_1 =>
      intro o a9 b9 c9 d9 g9 xa9 xb9 h_o hI9 ho1 hlt_loop_1 H locs ls hP hD hS hl
      refine lv_iload_n hx hb dX12_laysSteps_30 rfl (lv_at hl 0 rfl) ?_
      refine lv_aload_n hx hb dX12_laysSteps_31 rfl (lv_at hl 1 rfl) ?_
      refine xget C hP 0 rfl rfl zuX12 4 (by decide) zw5_217 rfl dX12_laysSteps_32 ?_
      refine lv_icmp_ge (tgt := 57) hx hb dX12_laysSteps_35 (by decide) (fun c_2 => ?_) (fun c_2 => ?_)
      · -- 35 t
        have fc_2 : n ≤ o := nf_le (by omega) (by omega) c_2
        exact xretv C (⟨g9, xa9, xb9, a9, b9, c9, d9⟩) (by have qq : o = n := (by omega); subst qq; exact hI9) hP hD hS (Nat.le_of_ble_eq_true rfl) (Nat.le_of_ble_eq_true rfl) dX12_laysSteps_57
      · -- 35 f
        have fc_2 : o < n := nf_nle (by omega) (by omega) c_2
        refine lv_aload_n hx hb dX12_laysSteps_38 rfl (lv_at hl 1 rfl) ?_
        refine xget C hP 0 rfl rfl zuX12 31 (by decide) zw6_4 rfl dX12_laysSteps_39 ?_
        refine lv_if_ne (tgt := 57) hx hb dX12_laysSteps_42 (by decide) (fun c_3 => ?_) (fun c_3 => ?_)
        · -- 42 t
          exact xretv C (⟨g9, xa9, xb9, a9, b9, c9, d9⟩) (Or.inl c_3) hP hD hS (Nat.le_of_ble_eq_true rfl) (Nat.le_of_ble_eq_true rfl) dX12_laysSteps_57
        · -- 42 f
          refine lv_aload_n hx hb dX12_laysSteps_45 rfl (lv_at hl 1 rfl) ?_
          refine lv_iload_n hx hb dX12_laysSteps_46 rfl (lv_at hl 0 rfl) ?_
          refine lv_iload_n hx hb dX12_laysSteps_47 rfl (lv_at hl 2 rfl) ?_
          refine xv (wr := []) (xV (As := [.int (nI o), .int x]) (rest := []) C (c_X12_laysStep l D cs hm ms mkp mtr mas mso mon mot man mst msm mtb mti mfr mbn mbs mde maa mab mba mbb n k al be km en ea pr nq po th xd sF sN sS g9 xa9 xb9 a9 b9 c9 d9 o x hn hkn hal (⟨ho1, by omega⟩) hI9) kX12_276 hP hD [0, 1, 2, 3, 4] rfl (by decide +kernel) 0 rfl rfl rfl ⟨Nat.le_of_ble_eq_true rfl, Nat.le_of_ble_eq_true rfl⟩ rfl hl.1 rfl (Nat.le_of_ble_eq_true rfl) dX12_laysSteps_48 ⟨Nat.le_of_ble_eq_true rfl, Nat.le_of_ble_eq_true rfl⟩) hP hD hS hA [0, 1, 2, 3, 4] [] rfl rfl (by decide +kernel) (by decide +kernel) ?_
          clear hP hD hS
          try clear locs
          try clear H
          intro u_5 H locs hw_r_4 hP hD hS
          obtain ⟨igz_6, xaz_7, xbz_8, aaz_9, abz_10, baz_11, bbz_12⟩ := u_5
          have hw_r_4 : gr igz_6 ∨ ∀ j, j < (o + 1) → ¬ abz_10 j = 0 ∧ ¬ bbz_12 j = 0 := hw_r_4
          refine W.widen (k := 0) (n := 0) (Nat.le_of_ble_eq_true rfl) (Nat.le_of_ble_eq_true rfl) ?_
          replace hP : va_P D vwCl [(hm, .inr (12, [.ref ms, .ref mkp, .int (nI km), .ref mtr, .int (nI n), .int (nI k), .int (nI al), .int (nI be), .int ea, .int pr, .ref mas, .int nq, .int po, .int (nI en), .ref mso, .ref mon, .ref mot, .ref man, .int th, .int xd, .ref mst, .ref msm, .ref mtb, .ref mti, .ref mfr, .ref mbn, .ref mbs, .ref mde, .int sF, .int sN, .int sS, .int igz_6, .long xaz_7, .long xbz_8, .ref maa, .ref mab, .ref mba, .ref mbb])), (maa, .inl (cs 1, 9, .inr (.inl aaz_9))), (mab, .inl (cs 1, 9, .inr (.inl abz_10))), (mba, .inl (cs 1, 9, .inr (.inl baz_11))), (mbb, .inl (cs 1, 9, .inr (.inl bbz_12)))] H := hP
          replace hD : va_D A [(hm, .inr (12, [.ref ms, .ref mkp, .int (nI km), .ref mtr, .int (nI n), .int (nI k), .int (nI al), .int (nI be), .int ea, .int pr, .ref mas, .int nq, .int po, .int (nI en), .ref mso, .ref mon, .ref mot, .ref man, .int th, .int xd, .ref mst, .ref msm, .ref mtb, .ref mti, .ref mfr, .ref mbn, .ref mbs, .ref mde, .int sF, .int sN, .int sS, .int igz_6, .long xaz_7, .long xbz_8, .ref maa, .ref mab, .ref mba, .ref mbb])), (maa, .inl (cs 1, 9, .inr (.inl aaz_9))), (mab, .inl (cs 1, 9, .inr (.inl abz_10))), (mba, .inl (cs 1, 9, .inr (.inl baz_11))), (mbb, .inl (cs 1, 9, .inr (.inl bbz_12)))] := hD
          refine lv_iinc (v := nI (o + 1)) (lv' := [(2, .int (nI (o + 1))), (0, .ref hm), (1, .int x)]) hx hb dX12_laysSteps_51 hl (k := 0) rfl (nI_add o 1) (by decide) rfl ?_
          clear hl
          try clear ls
          intro ls hl
          refine lv_goto (tgt := 30) hx hb dX12_laysSteps_54 (by decide) ?_
          exact ih_loop_1 (o + 1) aaz_9 abz_10 baz_11 bbz_12 igz_6 xaz_7 xbz_8 (by omega) hw_r_4 (by omega) (by omega) H locs ls hP hD hS (lv_sub hl [0, 1, 2] rfl)
  exact loop_1 _ 1 (vp_updL aaf 0 0) (vp_updL abf 0 1) (vp_updL baf 0 0) (vp_updL bbf 0 1) ig xa xb (by omega) (Or.inr (fun j hj => by have qq : j = 0 := (by omega); subst qq; exact ⟨by rw [updL_at]; decide, by rw [updL_at]; decide⟩)) (by decide) (Nat.lt_succ_self _) H locs ls hP hD hS (lv_sub hl [0, 1, 2] rfl)

theorem nm1_eq (n : Nat) : nI n - nI 1 = nI n + (-1) := by rw [Int32.sub_eq_add_neg]; rfl

set_option maxHeartbeats 4000000 in
set_option maxRecDepth 100000 in
theorem c_X12_goesDown (l : Launch) (D : va_G) (cs : Nat → ClassId) (hm ms mkp mtr mas mso mon mot man mst msm mtb mti mfr mbn mbs mde maa mab mba mbb : Nat) (n k al be km en : Nat) (ea pr nq po th xd sF sN sS ig : Int32) (xa xb : Int64) (aaf abf baf bbf : Nat → Int64) (j : Nat) (p9 : Int64) (hn : 2 ≤ n ∧ n ≤ 8) (hj : j ≤ n) (hB : ∀ j, j < n → ¬ abf j = 0 ∧ ¬ bbf j = 0) : xMet l D cs yX12_goesDown cX12_goesDown 5 none ({ frames := 2, cells := 0, slots := 0, locals := 58 } : Room) [.ref hm, .int (nI j), .long p9] [(hm, .inr (12, [.ref ms, .ref mkp, .int (nI km), .ref mtr, .int (nI n), .int (nI k), .int (nI al), .int (nI be), .int ea, .int pr, .ref mas, .int nq, .int po, .int (nI en), .ref mso, .ref mon, .ref mot, .ref man, .int th, .int xd, .ref mst, .ref msm, .ref mtb, .ref mti, .ref mfr, .ref mbn, .ref mbs, .ref mde, .int sF, .int sN, .int sS, .int ig, .long xa, .long xb, .ref maa, .ref mab, .ref mba, .ref mbb])), (maa, .inl (cs 1, 9, .inr (.inl aaf))), (mab, .inl (cs 1, 9, .inr (.inl abf))), (mba, .inl (cs 1, 9, .inr (.inl baf))), (mbb, .inl (cs 1, 9, .inr (.inl bbf)))] (xQv D (fun (u : Int32 × Int64 × Int64) => match u with | (igz, xaz, xbz) => True) (fun (u : Int32 × Int64 × Int64) => match u with | (igz, xaz, xbz) => [(hm, .inr (12, [.ref ms, .ref mkp, .int (nI km), .ref mtr, .int (nI n), .int (nI k), .int (nI al), .int (nI be), .int ea, .int pr, .ref mas, .int nq, .int po, .int (nI en), .ref mso, .ref mon, .ref mot, .ref man, .int th, .int xd, .ref mst, .ref msm, .ref mtb, .ref mti, .ref mfr, .ref mbn, .ref mbs, .ref mde, .int sF, .int sN, .int sS, .int igz, .long xaz, .long xbz, .ref maa, .ref mab, .ref mba, .ref mbb])), (maa, .inl (cs 1, 9, .inr (.inl aaf))), (mab, .inl (cs 1, 9, .inr (.inl abf))), (mba, .inl (cs 1, 9, .inr (.inl baf))), (mbb, .inl (cs 1, 9, .inr (.inl bbf)))])) := by
  refine xMet.intro (by decide) (Nat.le_of_ble_eq_true rfl) ?_
  intro p e s m args below meth c A ls C hP hD hS hl
  have hx := C.1
  have hb := C.2.1
  have hz := C.2.2.2.2.1
  have hown := C.2.2.2.1
  have hA := C.2.2.2.2.2.2.2.2.2
  have hAO := C.2.2.2.2.2.2.2.2.1.2.2
  replace hl : lv_has ls 5 [(0, .ref hm), (1, .int (nI j)), (2, .long p9)] := hl
  obtain ⟨H, hH⟩ : ∃ H, H = s.heap := ⟨_, rfl⟩
  replace hP : va_P D vwCl [(hm, .inr (12, [.ref ms, .ref mkp, .int (nI km), .ref mtr, .int (nI n), .int (nI k), .int (nI al), .int (nI be), .int ea, .int pr, .ref mas, .int nq, .int po, .int (nI en), .ref mso, .ref mon, .ref mot, .ref man, .int th, .int xd, .ref mst, .ref msm, .ref mtb, .ref mti, .ref mfr, .ref mbn, .ref mbs, .ref mde, .int sF, .int sN, .int sS, .int ig, .long xa, .long xb, .ref maa, .ref mab, .ref mba, .ref mbb])), (maa, .inl (cs 1, 9, .inr (.inl aaf))), (mab, .inl (cs 1, 9, .inr (.inl abf))), (mba, .inl (cs 1, 9, .inr (.inl baf))), (mbb, .inl (cs 1, 9, .inr (.inl bbf)))] H := by rw [hH]; exact hP
  replace hS : va_S A s.heap H [] := by rw [hH]; exact hS
  obtain ⟨locs, hlocs⟩ : ∃ z : List Loc, z = [] := ⟨_, rfl⟩
  rw [← hlocs] at hS
  suffices hW : W p l e ({ frames := 2, cells := 0, slots := 0, locals := 58 } : Room) s m args below meth c H locs 0 0 (MQ below ((xQv D (fun (u : Int32 × Int64 × Int64) => match u with | (igz, xaz, xbz) => True) (fun (u : Int32 × Int64 × Int64) => match u with | (igz, xaz, xbz) => [(hm, .inr (12, [.ref ms, .ref mkp, .int (nI km), .ref mtr, .int (nI n), .int (nI k), .int (nI al), .int (nI be), .int ea, .int pr, .ref mas, .int nq, .int po, .int (nI en), .ref mso, .ref mon, .ref mot, .ref man, .int th, .int xd, .ref mst, .ref msm, .ref mtb, .ref mti, .ref mfr, .ref mbn, .ref mbs, .ref mde, .int sF, .int sN, .int sS, .int igz, .long xaz, .long xbz, .ref maa, .ref mab, .ref mba, .ref mbb])), (maa, .inl (cs 1, 9, .inr (.inl aaf))), (mab, .inl (cs 1, 9, .inr (.inl abf))), (mba, .inl (cs 1, 9, .inr (.inl baf))), (mbb, .inl (cs 1, 9, .inr (.inl bbf)))])) A) args s 0 0 A) (F0 m 0 ls []) by rw [hlocs, hH] at hW; exact hW
  clear hH hlocs
  refine lv_aload_n hx hb dX12_goesDown_0 rfl (lv_at hl 0 rfl) ?_
  refine lv_lload_n hx hb dX12_goesDown_1 rfl (lv_at hl 2 rfl) ?_
  refine xput C hP hD hS 0 rfl rfl zuX12 tyX12 tyX12_ok nmX12 32 (by decide) zw6_5 rfl rfl rfl (Nat.le_of_ble_eq_true rfl) dX12_goesDown_2 ?_
  clear hP hD hS
  try clear locs
  try clear H
  intro H locs hP hD hS
  replace hP : va_P D vwCl [(hm, .inr (12, [.ref ms, .ref mkp, .int (nI km), .ref mtr, .int (nI n), .int (nI k), .int (nI al), .int (nI be), .int ea, .int pr, .ref mas, .int nq, .int po, .int (nI en), .ref mso, .ref mon, .ref mot, .ref man, .int th, .int xd, .ref mst, .ref msm, .ref mtb, .ref mti, .ref mfr, .ref mbn, .ref mbs, .ref mde, .int sF, .int sN, .int sS, .int ig, .long p9, .long xb, .ref maa, .ref mab, .ref mba, .ref mbb])), (maa, .inl (cs 1, 9, .inr (.inl aaf))), (mab, .inl (cs 1, 9, .inr (.inl abf))), (mba, .inl (cs 1, 9, .inr (.inl baf))), (mbb, .inl (cs 1, 9, .inr (.inl bbf)))] H := hP
  replace hD : va_D A [(hm, .inr (12, [.ref ms, .ref mkp, .int (nI km), .ref mtr, .int (nI n), .int (nI k), .int (nI al), .int (nI be), .int ea, .int pr, .ref mas, .int nq, .int po, .int (nI en), .ref mso, .ref mon, .ref mot, .ref man, .int th, .int xd, .ref mst, .ref msm, .ref mtb, .ref mti, .ref mfr, .ref mbn, .ref mbs, .ref mde, .int sF, .int sN, .int sS, .int ig, .long p9, .long xb, .ref maa, .ref mab, .ref mba, .ref mbb])), (maa, .inl (cs 1, 9, .inr (.inl aaf))), (mab, .inl (cs 1, 9, .inr (.inl abf))), (mba, .inl (cs 1, 9, .inr (.inl baf))), (mbb, .inl (cs 1, 9, .inr (.inl bbf)))] := hD
  refine lv_aload_n hx hb dX12_goesDown_5 rfl (lv_at hl 0 rfl) ?_
  refine lv_lconst (v := 1) hx hb dX12_goesDown_6 (by decide) ?_
  refine xput C hP hD hS 0 rfl rfl zuX12 tyX12 tyX12_ok nmX12 33 (by decide) zw6_6 rfl rfl rfl (Nat.le_of_ble_eq_true rfl) dX12_goesDown_7 ?_
  clear hP hD hS
  try clear locs
  try clear H
  intro H locs hP hD hS
  replace hP : va_P D vwCl [(hm, .inr (12, [.ref ms, .ref mkp, .int (nI km), .ref mtr, .int (nI n), .int (nI k), .int (nI al), .int (nI be), .int ea, .int pr, .ref mas, .int nq, .int po, .int (nI en), .ref mso, .ref mon, .ref mot, .ref man, .int th, .int xd, .ref mst, .ref msm, .ref mtb, .ref mti, .ref mfr, .ref mbn, .ref mbs, .ref mde, .int sF, .int sN, .int sS, .int ig, .long p9, .long 1, .ref maa, .ref mab, .ref mba, .ref mbb])), (maa, .inl (cs 1, 9, .inr (.inl aaf))), (mab, .inl (cs 1, 9, .inr (.inl abf))), (mba, .inl (cs 1, 9, .inr (.inl baf))), (mbb, .inl (cs 1, 9, .inr (.inl bbf)))] H := hP
  replace hD : va_D A [(hm, .inr (12, [.ref ms, .ref mkp, .int (nI km), .ref mtr, .int (nI n), .int (nI k), .int (nI al), .int (nI be), .int ea, .int pr, .ref mas, .int nq, .int po, .int (nI en), .ref mso, .ref mon, .ref mot, .ref man, .int th, .int xd, .ref mst, .ref msm, .ref mtb, .ref mti, .ref mfr, .ref mbn, .ref mbs, .ref mde, .int sF, .int sN, .int sS, .int ig, .long p9, .long 1, .ref maa, .ref mab, .ref mba, .ref mbb])), (maa, .inl (cs 1, 9, .inr (.inl aaf))), (mab, .inl (cs 1, 9, .inr (.inl abf))), (mba, .inl (cs 1, 9, .inr (.inl baf))), (mbb, .inl (cs 1, 9, .inr (.inl bbf)))] := hD
  refine lv_aload_n hx hb dX12_goesDown_10 rfl (lv_at hl 0 rfl) ?_
  refine xget C hP 0 rfl rfl zuX12 4 (by decide) zw5_217 rfl dX12_goesDown_11 ?_
  refine lv_iconst (v := nI 1) hx hb dX12_goesDown_14 (by decide) ?_
  refine lv_isub hx hb dX12_goesDown_15 ?_
  refine lv_topi (nm_r (e' := nI n + (-1)) (nm1_eq n) ?_)
  refine lv_istore (lv' := [(4, .int (nI n + (-1))), (0, .ref hm), (1, .int (nI j)), (2, .long p9)]) hx hb dX12_goesDown_16 hl (by decide) rfl ?_
  clear hl
  try clear ls
  intro ls hl
  have loop_1 : ∀ (n_loop_1 : Nat) (q : Nat) (g9 : Int32) (xa9 : Int64) (xb9 : Int64), (q ≤ n) → (¬ xb9 = 0) → q < n_loop_1 → ∀ (H : Heap) (locs : List Loc) (ls : Array Slot), va_P D vwCl [(hm, .inr (12, [.ref ms, .ref mkp, .int (nI km), .ref mtr, .int (nI n), .int (nI k), .int (nI al), .int (nI be), .int ea, .int pr, .ref mas, .int nq, .int po, .int (nI en), .ref mso, .ref mon, .ref mot, .ref man, .int th, .int xd, .ref mst, .ref msm, .ref mtb, .ref mti, .ref mfr, .ref mbn, .ref mbs, .ref mde, .int sF, .int sN, .int sS, .int g9, .long xa9, .long xb9, .ref maa, .ref mab, .ref mba, .ref mbb])), (maa, .inl (cs 1, 9, .inr (.inl aaf))), (mab, .inl (cs 1, 9, .inr (.inl abf))), (mba, .inl (cs 1, 9, .inr (.inl baf))), (mbb, .inl (cs 1, 9, .inr (.inl bbf)))] H → va_D A [(hm, .inr (12, [.ref ms, .ref mkp, .int (nI km), .ref mtr, .int (nI n), .int (nI k), .int (nI al), .int (nI be), .int ea, .int pr, .ref mas, .int nq, .int po, .int (nI en), .ref mso, .ref mon, .ref mot, .ref man, .int th, .int xd, .ref mst, .ref msm, .ref mtb, .ref mti, .ref mfr, .ref mbn, .ref mbs, .ref mde, .int sF, .int sN, .int sS, .int g9, .long xa9, .long xb9, .ref maa, .ref mab, .ref mba, .ref mbb])), (maa, .inl (cs 1, 9, .inr (.inl aaf))), (mab, .inl (cs 1, 9, .inr (.inl abf))), (mba, .inl (cs 1, 9, .inr (.inl baf))), (mbb, .inl (cs 1, 9, .inr (.inl bbf)))] → va_S A s.heap H locs → lv_has ls 5 [(4, .int (nI q + (-1))), (0, .ref hm), (1, .int (nI j)), (2, .long p9)] → W p l e ({ frames := 2, cells := 0, slots := 0, locals := 58 } : Room) s m args below meth c H locs 0 0 (MQ below ((xQv D (fun (u : Int32 × Int64 × Int64) => match u with | (igz, xaz, xbz) => True) (fun (u : Int32 × Int64 × Int64) => match u with | (igz, xaz, xbz) => [(hm, .inr (12, [.ref ms, .ref mkp, .int (nI km), .ref mtr, .int (nI n), .int (nI k), .int (nI al), .int (nI be), .int ea, .int pr, .ref mas, .int nq, .int po, .int (nI en), .ref mso, .ref mon, .ref mot, .ref man, .int th, .int xd, .ref mst, .ref msm, .ref mtb, .ref mti, .ref mfr, .ref mbn, .ref mbs, .ref mde, .int sF, .int sN, .int sS, .int igz, .long xaz, .long xbz, .ref maa, .ref mab, .ref mba, .ref mbb])), (maa, .inl (cs 1, 9, .inr (.inl aaf))), (mab, .inl (cs 1, 9, .inr (.inl abf))), (mba, .inl (cs 1, 9, .inr (.inl baf))), (mbb, .inl (cs 1, 9, .inr (.inl bbf)))])) A) args s 0 0 A) (F0 m 18 ls []) := by
    intro n_loop_1
    induction n_loop_1 with
    | zero => intro q g9 xa9 xb9 h_q hx9 hlt H locs ls hP hD hS hl; exact absurd hlt (Nat.not_lt_zero _)
    | succ n_loop_1 ih_loop_1 =>
      intro q g9 xa9 xb9 h_q hx9 hlt_loop_1 H locs ls hP hD hS hl
      refine lv_iload hx hb dX12_goesDown_18 (lv_at hl 0 rfl) ?_
      refine lv_iload_n hx hb dX12_goesDown_20 rfl (lv_at hl 2 rfl) ?_
      refine lv_icmp_lt (tgt := 89) hx hb dX12_goesDown_21 (by decide) (fun c_2 => ?_) (fun c_2 => ?_)
      · -- 21 t
        exact xretv C (⟨g9, xa9, xb9⟩) trivial hP hD hS (Nat.le_of_ble_eq_true rfl) (Nat.le_of_ble_eq_true rfl) dX12_goesDown_89
      · -- 21 f
        obtain ⟨i9, rfl⟩ : ∃ i, q = i + 1 := ⟨q - 1, by have : ¬ q = 0 := (fun z => by subst z; exact c_2 (Int32.lt_of_lt_of_le (show nI 0 + (-1) < nI 0 by decide) ((nI_leI (by decide) (by omega)).mpr (Nat.zero_le _)))); omega⟩
        rw [show nI (i9 + 1) + (-1) = nI i9 from pk_m1 i9] at hl
        replace hP : va_P D vwCl [(hm, .inr (12, [.ref ms, .ref mkp, .int (nI km), .ref mtr, .int (nI n), .int (nI k), .int (nI al), .int (nI be), .int ea, .int pr, .ref mas, .int nq, .int po, .int (nI en), .ref mso, .ref mon, .ref mot, .ref man, .int th, .int xd, .ref mst, .ref msm, .ref mtb, .ref mti, .ref mfr, .ref mbn, .ref mbs, .ref mde, .int sF, .int sN, .int sS, .int g9, .long xa9, .long xb9, .ref maa, .ref mab, .ref mba, .ref mbb])), (maa, .inl (cs 1, 9, .inr (.inl aaf))), (mab, .inl (cs 1, 9, .inr (.inl abf))), (mba, .inl (cs 1, 9, .inr (.inl baf))), (mbb, .inl (cs 1, 9, .inr (.inl bbf)))] H := hP
        replace hD : va_D A [(hm, .inr (12, [.ref ms, .ref mkp, .int (nI km), .ref mtr, .int (nI n), .int (nI k), .int (nI al), .int (nI be), .int ea, .int pr, .ref mas, .int nq, .int po, .int (nI en), .ref mso, .ref mon, .ref mot, .ref man, .int th, .int xd, .ref mst, .ref msm, .ref mtb, .ref mti, .ref mfr, .ref mbn, .ref mbs, .ref mde, .int sF, .int sN, .int sS, .int g9, .long xa9, .long xb9, .ref maa, .ref mab, .ref mba, .ref mbb])), (maa, .inl (cs 1, 9, .inr (.inl aaf))), (mab, .inl (cs 1, 9, .inr (.inl abf))), (mba, .inl (cs 1, 9, .inr (.inl baf))), (mbb, .inl (cs 1, 9, .inr (.inl bbf)))] := hD
        refine lv_aload_n hx hb dX12_goesDown_24 rfl (lv_at hl 1 rfl) ?_
        refine xget C hP 0 rfl rfl zuX12 31 (by decide) zw6_4 rfl dX12_goesDown_25 ?_
        refine lv_if_ne (tgt := 89) hx hb dX12_goesDown_28 (by decide) (fun c_3 => ?_) (fun c_3 => ?_)
        · -- 28 t
          exact xretv C (⟨g9, xa9, xb9⟩) trivial hP hD hS (Nat.le_of_ble_eq_true rfl) (Nat.le_of_ble_eq_true rfl) dX12_goesDown_89
        · -- 28 f
          refine lv_aload_n hx hb dX12_goesDown_31 rfl (lv_at hl 1 rfl) ?_
          refine lv_aload_n hx hb dX12_goesDown_32 rfl (lv_at hl 1 rfl) ?_
          refine xget C hP 0 rfl rfl zuX12 34 (by decide) zw6_7 rfl dX12_goesDown_33 ?_
          refine lv_iload hx hb dX12_goesDown_36 (lv_at hl 0 rfl) ?_
          refine xlald C hP 1 rfl i9 rfl (by omega) (by decide) dX12_goesDown_38 ?_
          refine lv_aload_n hx hb dX12_goesDown_39 rfl (lv_at hl 1 rfl) ?_
          refine xget C hP 0 rfl rfl zuX12 35 (by decide) zw6_8 rfl dX12_goesDown_40 ?_
          refine lv_iload hx hb dX12_goesDown_43 (lv_at hl 0 rfl) ?_
          refine xlald C hP 2 rfl i9 rfl (by omega) (by decide) dX12_goesDown_45 ?_
          refine lv_aload_n hx hb dX12_goesDown_46 rfl (lv_at hl 1 rfl) ?_
          refine xget C hP 0 rfl rfl zuX12 32 (by decide) zw6_5 rfl dX12_goesDown_47 ?_
          refine lv_aload_n hx hb dX12_goesDown_50 rfl (lv_at hl 1 rfl) ?_
          refine xget C hP 0 rfl rfl zuX12 33 (by decide) zw6_6 rfl dX12_goesDown_51 ?_
          refine xv (wr := [(maa, .inl (cs 1, 9, .inr (.inl aaf))), (mab, .inl (cs 1, 9, .inr (.inl abf))), (mba, .inl (cs 1, 9, .inr (.inl baf))), (mbb, .inl (cs 1, 9, .inr (.inl bbf)))]) (xV (As := [.long (aaf i9), .long (abf i9), .long xa9, .long xb9]) (rest := []) C (c_X12_multiplies l D cs hm ms mkp mtr mas mso mon mot man mst msm mtb mti mfr mbn mbs mde maa mab mba mbb n k al be km en ea pr nq po th xd sF sN sS g9 xa9 xb9 (aaf i9) (abf i9) xa9 xb9 (Or.inr ⟨(hB i9 (by omega)).1, hx9⟩)) kX12_286 hP hD [0] rfl (by decide +kernel) 0 rfl rfl rfl ⟨Nat.le_of_ble_eq_true rfl, Nat.le_of_ble_eq_true rfl⟩ rfl hl.1 rfl (Nat.le_of_ble_eq_true rfl) dX12_goesDown_54 ⟨Nat.le_of_ble_eq_true rfl, Nat.le_of_ble_eq_true rfl⟩) hP hD hS hA [0] [1, 2, 3, 4] rfl rfl (by decide +kernel) (by decide +kernel) ?_
          clear hP hD hS
          try clear locs
          try clear H
          intro u_5 H locs hw_r_4 hP hD hS
          obtain ⟨igz_6, xaz_7, xbz_8⟩ := u_5
          have hw_r_4 : (gr g9 → gr igz_6) ∧ ¬ xbz_8 = 0 := hw_r_4
          refine W.widen (k := 0) (n := 0) (Nat.le_of_ble_eq_true rfl) (Nat.le_of_ble_eq_true rfl) ?_
          replace hP : va_P D vwCl [(maa, .inl (cs 1, 9, .inr (.inl aaf))), (mab, .inl (cs 1, 9, .inr (.inl abf))), (mba, .inl (cs 1, 9, .inr (.inl baf))), (mbb, .inl (cs 1, 9, .inr (.inl bbf))), (hm, .inr (12, [.ref ms, .ref mkp, .int (nI km), .ref mtr, .int (nI n), .int (nI k), .int (nI al), .int (nI be), .int ea, .int pr, .ref mas, .int nq, .int po, .int (nI en), .ref mso, .ref mon, .ref mot, .ref man, .int th, .int xd, .ref mst, .ref msm, .ref mtb, .ref mti, .ref mfr, .ref mbn, .ref mbs, .ref mde, .int sF, .int sN, .int sS, .int igz_6, .long xaz_7, .long xbz_8, .ref maa, .ref mab, .ref mba, .ref mbb]))] H := hP
          replace hD : va_D A [(maa, .inl (cs 1, 9, .inr (.inl aaf))), (mab, .inl (cs 1, 9, .inr (.inl abf))), (mba, .inl (cs 1, 9, .inr (.inl baf))), (mbb, .inl (cs 1, 9, .inr (.inl bbf))), (hm, .inr (12, [.ref ms, .ref mkp, .int (nI km), .ref mtr, .int (nI n), .int (nI k), .int (nI al), .int (nI be), .int ea, .int pr, .ref mas, .int nq, .int po, .int (nI en), .ref mso, .ref mon, .ref mot, .ref man, .int th, .int xd, .ref mst, .ref msm, .ref mtb, .ref mti, .ref mfr, .ref mbn, .ref mbs, .ref mde, .int sF, .int sN, .int sS, .int igz_6, .long xaz_7, .long xbz_8, .ref maa, .ref mab, .ref mba, .ref mbb]))] := hD
          refine lv_aload_n hx hb dX12_goesDown_57 rfl (lv_at hl 1 rfl) ?_
          refine lv_aload_n hx hb dX12_goesDown_58 rfl (lv_at hl 1 rfl) ?_
          refine xget C hP 4 rfl rfl zuX12 32 (by decide) zw6_5 rfl dX12_goesDown_59 ?_
          refine lv_aload_n hx hb dX12_goesDown_62 rfl (lv_at hl 1 rfl) ?_
          refine xget C hP 4 rfl rfl zuX12 33 (by decide) zw6_6 rfl dX12_goesDown_63 ?_
          refine lv_aload_n hx hb dX12_goesDown_66 rfl (lv_at hl 1 rfl) ?_
          refine xget C hP 4 rfl rfl zuX12 36 (by decide) zw6_9 rfl dX12_goesDown_67 ?_
          refine lv_iload hx hb dX12_goesDown_70 (lv_at hl 0 rfl) ?_
          refine xlald C hP 2 rfl i9 rfl (by omega) (by decide) dX12_goesDown_72 ?_
          refine lv_aload_n hx hb dX12_goesDown_73 rfl (lv_at hl 1 rfl) ?_
          refine xget C hP 4 rfl rfl zuX12 37 (by decide) zw6_10 rfl dX12_goesDown_74 ?_
          refine lv_iload hx hb dX12_goesDown_77 (lv_at hl 0 rfl) ?_
          refine xlald C hP 3 rfl i9 rfl (by omega) (by decide) dX12_goesDown_79 ?_
          refine xv (wr := [(maa, .inl (cs 1, 9, .inr (.inl aaf))), (mab, .inl (cs 1, 9, .inr (.inl abf))), (mba, .inl (cs 1, 9, .inr (.inl baf))), (mbb, .inl (cs 1, 9, .inr (.inl bbf)))]) (xV (As := [.long xaz_7, .long xbz_8, .long (baf i9), .long (bbf i9)]) (rest := []) C (c_X12_adds l D cs hm ms mkp mtr mas mso mon mot man mst msm mtb mti mfr mbn mbs mde maa mab mba mbb n k al be km en ea pr nq po th xd sF sN sS igz_6 xaz_7 xbz_8 xaz_7 xbz_8 (baf i9) (bbf i9) (Or.inr ⟨hw_r_4.2, (hB i9 (by omega)).2⟩)) kX12_296 hP hD [4] rfl (by decide +kernel) 0 rfl rfl rfl ⟨Nat.le_of_ble_eq_true rfl, Nat.le_of_ble_eq_true rfl⟩ rfl hl.1 rfl (Nat.le_of_ble_eq_true rfl) dX12_goesDown_80 ⟨Nat.le_of_ble_eq_true rfl, Nat.le_of_ble_eq_true rfl⟩) hP hD hS hA [4] [0, 1, 2, 3] rfl rfl (by decide +kernel) (by decide +kernel) ?_
          clear hP hD hS
          try clear locs
          try clear H
          intro u_10 H locs hw_r_9 hP hD hS
          obtain ⟨igz_11, xaz_12, xbz_13⟩ := u_10
          have hw_r_9 : (gr igz_6 → gr igz_11) ∧ ¬ xbz_13 = 0 := hw_r_9
          refine W.widen (k := 0) (n := 0) (Nat.le_of_ble_eq_true rfl) (Nat.le_of_ble_eq_true rfl) ?_
          replace hP : va_P D vwCl [(maa, .inl (cs 1, 9, .inr (.inl aaf))), (mab, .inl (cs 1, 9, .inr (.inl abf))), (mba, .inl (cs 1, 9, .inr (.inl baf))), (mbb, .inl (cs 1, 9, .inr (.inl bbf))), (hm, .inr (12, [.ref ms, .ref mkp, .int (nI km), .ref mtr, .int (nI n), .int (nI k), .int (nI al), .int (nI be), .int ea, .int pr, .ref mas, .int nq, .int po, .int (nI en), .ref mso, .ref mon, .ref mot, .ref man, .int th, .int xd, .ref mst, .ref msm, .ref mtb, .ref mti, .ref mfr, .ref mbn, .ref mbs, .ref mde, .int sF, .int sN, .int sS, .int igz_11, .long xaz_12, .long xbz_13, .ref maa, .ref mab, .ref mba, .ref mbb]))] H := hP
          replace hD : va_D A [(maa, .inl (cs 1, 9, .inr (.inl aaf))), (mab, .inl (cs 1, 9, .inr (.inl abf))), (mba, .inl (cs 1, 9, .inr (.inl baf))), (mbb, .inl (cs 1, 9, .inr (.inl bbf))), (hm, .inr (12, [.ref ms, .ref mkp, .int (nI km), .ref mtr, .int (nI n), .int (nI k), .int (nI al), .int (nI be), .int ea, .int pr, .ref mas, .int nq, .int po, .int (nI en), .ref mso, .ref mon, .ref mot, .ref man, .int th, .int xd, .ref mst, .ref msm, .ref mtb, .ref mti, .ref mfr, .ref mbn, .ref mbs, .ref mde, .int sF, .int sN, .int sS, .int igz_11, .long xaz_12, .long xbz_13, .ref maa, .ref mab, .ref mba, .ref mbb]))] := hD
          refine lv_iinc (v := nI i9 + (-1)) (lv' := [(4, .int (nI i9 + (-1))), (0, .ref hm), (1, .int (nI j)), (2, .long p9)]) hx hb dX12_goesDown_83 hl (k := 0) rfl rfl (by decide) rfl ?_
          clear hl
          try clear ls
          intro ls hl
          refine lv_goto (tgt := 18) hx hb dX12_goesDown_86 (by decide) ?_
          exact ih_loop_1 i9 igz_11 xaz_12 xbz_13 (by omega) hw_r_9.2 (by omega) H locs ls (xP_map hP [4, 0, 1, 2, 3] rfl) (hD.sub [4, 0, 1, 2, 3] (by decide +kernel) rfl) hS (lv_sub hl [0, 1, 2, 3] rfl)
  exact loop_1 _ n ig p9 1 (by omega) (by decide) (Nat.lt_succ_self _) H locs ls hP hD hS (lv_sub hl [0, 1, 2, 3] rfl)
