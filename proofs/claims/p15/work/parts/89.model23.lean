set_option maxHeartbeats 4000000 in
set_option maxRecDepth 100000 in
theorem c_X12_pollsOne (l : Launch) (D : va_G) (cs : Nat → ClassId) (hm ms mkp mtr mas mso mon mot man mst msm mtb mti mfr mbn mbs mde maa mab mba mbb : Nat) (n k al be km en : Nat) (ea pr nq po th xd sF sN sS ig : Int32) (xa xb : Int64) (f : Nat → Int32) (sof onf otf anf : Nat → Int32) (a e0 : Nat) (x : Int32) (hn : 2 ≤ n ∧ n ≤ 8) (hen : en ≤ 16) (hso : inP 16 8 sof) (hs : colP f) (ha : a < 8) (he : e0 < 16) : xMet l D cs yX12_pollsOne cX12_pollsOne 8 (some .int) ({ frames := 4, cells := 0, slots := 0, locals := 93 } : Room) [.ref hm, .int (nI a), .int (nI e0), .int x] [(hm, .inr (12, [.ref ms, .ref mkp, .int (nI km), .ref mtr, .int (nI n), .int (nI k), .int (nI al), .int (nI be), .int ea, .int pr, .ref mas, .int nq, .int po, .int (nI en), .ref mso, .ref mon, .ref mot, .ref man, .int th, .int xd, .ref mst, .ref msm, .ref mtb, .ref mti, .ref mfr, .ref mbn, .ref mbs, .ref mde, .int sF, .int sN, .int sS, .int ig, .long xa, .long xb, .ref maa, .ref mab, .ref mba, .ref mbb])), (ms, .inl (cs 0, 288, .inl f)), (mso, .inl (cs 0, 16, .inl sof)), (mon, .inl (cs 0, 16, .inl onf)), (mot, .inl (cs 0, 16, .inl otf)), (man, .inl (cs 0, 16, .inl anf))] (xQi D (fun (r : Int32) (u : (Nat → Int32) × Int32) => match u with | (fz, poz) => colP fz) (fun (u : (Nat → Int32) × Int32) => match u with | (fz, poz) => [(hm, .inr (12, [.ref ms, .ref mkp, .int (nI km), .ref mtr, .int (nI n), .int (nI k), .int (nI al), .int (nI be), .int ea, .int pr, .ref mas, .int nq, .int poz, .int (nI en), .ref mso, .ref mon, .ref mot, .ref man, .int th, .int xd, .ref mst, .ref msm, .ref mtb, .ref mti, .ref mfr, .ref mbn, .ref mbs, .ref mde, .int sF, .int sN, .int sS, .int ig, .long xa, .long xb, .ref maa, .ref mab, .ref mba, .ref mbb])), (ms, .inl (cs 0, 288, .inl fz)), (mso, .inl (cs 0, 16, .inl sof)), (mon, .inl (cs 0, 16, .inl onf)), (mot, .inl (cs 0, 16, .inl otf)), (man, .inl (cs 0, 16, .inl anf))])) := by
  refine xMet.intro (by decide) (Nat.le_of_ble_eq_true rfl) ?_
  intro p e s m args below meth c A ls C hP hD hS hl
  have hx := C.1
  have hb := C.2.1
  have hz := C.2.2.2.2.1
  have hown := C.2.2.2.1
  have hA := C.2.2.2.2.2.2.2.2.2
  have hAO := C.2.2.2.2.2.2.2.2.1.2.2
  replace hl : lv_has ls 8 [(0, .ref hm), (1, .int (nI a)), (2, .int (nI e0)), (3, .int x)] := hl
  obtain ⟨H, hH⟩ : ∃ H, H = s.heap := ⟨_, rfl⟩
  replace hP : va_P D vwCl [(hm, .inr (12, [.ref ms, .ref mkp, .int (nI km), .ref mtr, .int (nI n), .int (nI k), .int (nI al), .int (nI be), .int ea, .int pr, .ref mas, .int nq, .int po, .int (nI en), .ref mso, .ref mon, .ref mot, .ref man, .int th, .int xd, .ref mst, .ref msm, .ref mtb, .ref mti, .ref mfr, .ref mbn, .ref mbs, .ref mde, .int sF, .int sN, .int sS, .int ig, .long xa, .long xb, .ref maa, .ref mab, .ref mba, .ref mbb])), (ms, .inl (cs 0, 288, .inl f)), (mso, .inl (cs 0, 16, .inl sof)), (mon, .inl (cs 0, 16, .inl onf)), (mot, .inl (cs 0, 16, .inl otf)), (man, .inl (cs 0, 16, .inl anf))] H := by rw [hH]; exact hP
  replace hS : va_S A s.heap H [] := by rw [hH]; exact hS
  obtain ⟨locs, hlocs⟩ : ∃ z : List Loc, z = [] := ⟨_, rfl⟩
  rw [← hlocs] at hS
  suffices hW : W p l e ({ frames := 4, cells := 0, slots := 0, locals := 93 } : Room) s m args below meth c H locs 0 0 (MQ below ((xQi D (fun (r : Int32) (u : (Nat → Int32) × Int32) => match u with | (fz, poz) => colP fz) (fun (u : (Nat → Int32) × Int32) => match u with | (fz, poz) => [(hm, .inr (12, [.ref ms, .ref mkp, .int (nI km), .ref mtr, .int (nI n), .int (nI k), .int (nI al), .int (nI be), .int ea, .int pr, .ref mas, .int nq, .int poz, .int (nI en), .ref mso, .ref mon, .ref mot, .ref man, .int th, .int xd, .ref mst, .ref msm, .ref mtb, .ref mti, .ref mfr, .ref mbn, .ref mbs, .ref mde, .int sF, .int sN, .int sS, .int ig, .long xa, .long xb, .ref maa, .ref mab, .ref mba, .ref mbb])), (ms, .inl (cs 0, 288, .inl fz)), (mso, .inl (cs 0, 16, .inl sof)), (mon, .inl (cs 0, 16, .inl onf)), (mot, .inl (cs 0, 16, .inl otf)), (man, .inl (cs 0, 16, .inl anf))])) A) args s 0 0 A) (F0 m 0 ls []) by rw [hlocs, hH] at hW; exact hW
  clear hH hlocs
  refine lv_aload_n hx hb dX12_pollsOne_0 rfl (lv_at hl 0 rfl) ?_
  refine lv_iload_n hx hb dX12_pollsOne_1 rfl (lv_at hl 1 rfl) ?_
  refine lv_iload_n hx hb dX12_pollsOne_2 rfl (lv_at hl 2 rfl) ?_
  refine lv_iload_n hx hb dX12_pollsOne_3 rfl (lv_at hl 3 rfl) ?_
  refine xi (wr := [(mon, .inl (cs 0, 16, .inl onf)), (mot, .inl (cs 0, 16, .inl otf))]) (xV (As := [.int (nI a), .int (nI e0), .int x]) (rest := []) C (c_X12_yesOf l D cs hm ms mkp mtr mas mso mon mot man mst msm mtb mti mfr mbn mbs mde maa mab mba mbb n k al be km en ea pr nq po th xd sF sN sS ig xa xb f a e0 x sof anf hn hen hso ha he) kX12_325 hP hD [0, 1, 2, 5] rfl (by decide +kernel) 0 rfl rfl rfl ⟨Nat.le_of_ble_eq_true rfl, Nat.le_of_ble_eq_true rfl⟩ rfl hl.1 rfl (Nat.le_of_ble_eq_true rfl) dX12_pollsOne_4 ⟨Nat.le_of_ble_eq_true rfl, Nat.le_of_ble_eq_true rfl⟩) hP hD hS hA [0, 1, 2, 5] [3, 4] rfl rfl (by decide +kernel) (by decide +kernel) ?_
  clear hP hD hS
  try clear locs
  try clear H
  intro r_1 u_2 H locs hw_r_1 hP hD hS
  refine W.widen (k := 0) (n := 0) (Nat.le_of_ble_eq_true rfl) (Nat.le_of_ble_eq_true rfl) ?_
  replace hP : va_P D vwCl [(mon, .inl (cs 0, 16, .inl onf)), (mot, .inl (cs 0, 16, .inl otf)), (hm, .inr (12, [.ref ms, .ref mkp, .int (nI km), .ref mtr, .int (nI n), .int (nI k), .int (nI al), .int (nI be), .int ea, .int pr, .ref mas, .int nq, .int po, .int (nI en), .ref mso, .ref mon, .ref mot, .ref man, .int th, .int xd, .ref mst, .ref msm, .ref mtb, .ref mti, .ref mfr, .ref mbn, .ref mbs, .ref mde, .int sF, .int sN, .int sS, .int ig, .long xa, .long xb, .ref maa, .ref mab, .ref mba, .ref mbb])), (ms, .inl (cs 0, 288, .inl f)), (mso, .inl (cs 0, 16, .inl sof)), (man, .inl (cs 0, 16, .inl anf))] H := hP
  replace hD : va_D A [(mon, .inl (cs 0, 16, .inl onf)), (mot, .inl (cs 0, 16, .inl otf)), (hm, .inr (12, [.ref ms, .ref mkp, .int (nI km), .ref mtr, .int (nI n), .int (nI k), .int (nI al), .int (nI be), .int ea, .int pr, .ref mas, .int nq, .int po, .int (nI en), .ref mso, .ref mon, .ref mot, .ref man, .int th, .int xd, .ref mst, .ref msm, .ref mtb, .ref mti, .ref mfr, .ref mbn, .ref mbs, .ref mde, .int sF, .int sN, .int sS, .int ig, .long xa, .long xb, .ref maa, .ref mab, .ref mba, .ref mbb])), (ms, .inl (cs 0, 288, .inl f)), (mso, .inl (cs 0, 16, .inl sof)), (man, .inl (cs 0, 16, .inl anf))] := hD
  refine lv_aload_n hx hb dX12_pollsOne_7 rfl (lv_at hl 0 rfl) ?_
  refine xget C hP 2 rfl rfl zuX12 6 (by decide) zw5_219 rfl dX12_pollsOne_8 ?_
  refine lv_icmp_lt (tgt := 18) hx hb dX12_pollsOne_11 (by decide) (fun c_3 => ?_) (fun c_3 => ?_)
  · -- 11 t
    refine lv_iconst (v := nI 0) hx hb dX12_pollsOne_18 (by decide) ?_
    refine lv_istore (lv' := [(4, .int (nI 0)), (0, .ref hm), (1, .int (nI a)), (2, .int (nI e0)), (3, .int x)]) hx hb dX12_pollsOne_19 hl (by decide) rfl ?_
    clear hl
    try clear ls
    intro ls hl
    refine lv_aload_n hx hb dX12_pollsOne_21 rfl (lv_at hl 1 rfl) ?_
    refine xget C hP 2 rfl rfl zuX12 0 (by decide) zw5_213 rfl dX12_pollsOne_22 ?_
    refine lv_bipush (v := nI 72) hx hb dX12_pollsOne_25 (by decide) ?_
    refine lv_iload_n hx hb dX12_pollsOne_27 rfl (lv_at hl 2 rfl) ?_
    refine lv_iadd hx hb dX12_pollsOne_28 ?_
    refine lv_topi (nm_r (e' := nI (72 + a)) (nI_add _ _) ?_)
    refine lv_dup2_11 hx hb dX12_pollsOne_29 rfl rfl ?_
    refine xiald C hP 3 rfl (72 + a) rfl (by omega) (by decide) dX12_pollsOne_30 ?_
    refine lv_iconst (v := nI 1) hx hb dX12_pollsOne_31 (by decide) ?_
    refine lv_iload_n hx hb dX12_pollsOne_32 rfl (lv_at hl 3 rfl) ?_
    refine lv_ishl hx hb dX12_pollsOne_33 ?_
    refine lv_ior hx hb dX12_pollsOne_34 ?_
    refine xiast C hP hD hS 3 rfl (72 + a) rfl (by omega) (by decide) dX12_pollsOne_35 ?_
    clear hP hD hS
    try clear locs
    try clear H
    intro H locs hP hD hS
    replace hP : va_P D vwCl [(mon, .inl (cs 0, 16, .inl onf)), (mot, .inl (cs 0, 16, .inl otf)), (hm, .inr (12, [.ref ms, .ref mkp, .int (nI km), .ref mtr, .int (nI n), .int (nI k), .int (nI al), .int (nI be), .int ea, .int pr, .ref mas, .int nq, .int po, .int (nI en), .ref mso, .ref mon, .ref mot, .ref man, .int th, .int xd, .ref mst, .ref msm, .ref mtb, .ref mti, .ref mfr, .ref mbn, .ref mbs, .ref mde, .int sF, .int sN, .int sS, .int ig, .long xa, .long xb, .ref maa, .ref mab, .ref mba, .ref mbb])), (ms, .inl (cs 0, 288, .inl (upd f (72 + a) ((f (72 + a)) ||| ((nI 1) <<< ((nI e0) &&& 31)))))), (mso, .inl (cs 0, 16, .inl sof)), (man, .inl (cs 0, 16, .inl anf))] H := hP
    replace hD : va_D A [(mon, .inl (cs 0, 16, .inl onf)), (mot, .inl (cs 0, 16, .inl otf)), (hm, .inr (12, [.ref ms, .ref mkp, .int (nI km), .ref mtr, .int (nI n), .int (nI k), .int (nI al), .int (nI be), .int ea, .int pr, .ref mas, .int nq, .int po, .int (nI en), .ref mso, .ref mon, .ref mot, .ref man, .int th, .int xd, .ref mst, .ref msm, .ref mtb, .ref mti, .ref mfr, .ref mbn, .ref mbs, .ref mde, .int sF, .int sN, .int sS, .int ig, .long xa, .long xb, .ref maa, .ref mab, .ref mba, .ref mbb])), (ms, .inl (cs 0, 288, .inl (upd f (72 + a) ((f (72 + a)) ||| ((nI 1) <<< ((nI e0) &&& 31)))))), (mso, .inl (cs 0, 16, .inl sof)), (man, .inl (cs 0, 16, .inl anf))] := hD
    refine lv_aload_n hx hb dX12_pollsOne_36 rfl (lv_at hl 1 rfl) ?_
    refine lv_dup hx hb dX12_pollsOne_37 rfl ?_
    refine xget C hP 2 rfl rfl zuX12 12 (by decide) zw5_225 rfl dX12_pollsOne_38 ?_
    refine lv_iconst (v := nI 1) hx hb dX12_pollsOne_41 (by decide) ?_
    refine lv_iadd hx hb dX12_pollsOne_42 ?_
    refine xput C hP hD hS 2 rfl rfl zuX12 tyX12 tyX12_ok nmX12 12 (by decide) zw5_225 rfl rfl rfl (Nat.le_of_ble_eq_true rfl) dX12_pollsOne_43 ?_
    clear hP hD hS
    try clear locs
    try clear H
    intro H locs hP hD hS
    replace hP : va_P D vwCl [(mon, .inl (cs 0, 16, .inl onf)), (mot, .inl (cs 0, 16, .inl otf)), (hm, .inr (12, [.ref ms, .ref mkp, .int (nI km), .ref mtr, .int (nI n), .int (nI k), .int (nI al), .int (nI be), .int ea, .int pr, .ref mas, .int nq, .int (po + (nI 1)), .int (nI en), .ref mso, .ref mon, .ref mot, .ref man, .int th, .int xd, .ref mst, .ref msm, .ref mtb, .ref mti, .ref mfr, .ref mbn, .ref mbs, .ref mde, .int sF, .int sN, .int sS, .int ig, .long xa, .long xb, .ref maa, .ref mab, .ref mba, .ref mbb])), (ms, .inl (cs 0, 288, .inl (upd f (72 + a) ((f (72 + a)) ||| ((nI 1) <<< ((nI e0) &&& 31)))))), (mso, .inl (cs 0, 16, .inl sof)), (man, .inl (cs 0, 16, .inl anf))] H := hP
    replace hD : va_D A [(mon, .inl (cs 0, 16, .inl onf)), (mot, .inl (cs 0, 16, .inl otf)), (hm, .inr (12, [.ref ms, .ref mkp, .int (nI km), .ref mtr, .int (nI n), .int (nI k), .int (nI al), .int (nI be), .int ea, .int pr, .ref mas, .int nq, .int (po + (nI 1)), .int (nI en), .ref mso, .ref mon, .ref mot, .ref man, .int th, .int xd, .ref mst, .ref msm, .ref mtb, .ref mti, .ref mfr, .ref mbn, .ref mbs, .ref mde, .int sF, .int sN, .int sS, .int ig, .long xa, .long xb, .ref maa, .ref mab, .ref mba, .ref mbb])), (ms, .inl (cs 0, 288, .inl (upd f (72 + a) ((f (72 + a)) ||| ((nI 1) <<< ((nI e0) &&& 31)))))), (mso, .inl (cs 0, 16, .inl sof)), (man, .inl (cs 0, 16, .inl anf))] := hD
    refine lv_iload hx hb dX12_pollsOne_46 (lv_at hl 0 rfl) ?_
    refine lv_if_eq (tgt := 66) hx hb dX12_pollsOne_48 (by decide) (fun _ => ?_) (fun c => absurd (by decide) c)
    refine lv_aload_n hx hb dX12_pollsOne_66 rfl (lv_at hl 1 rfl) ?_
    refine xget C hP 2 rfl rfl zuX12 17 (by decide) zw5_230 rfl dX12_pollsOne_67 ?_
    refine lv_iload_n hx hb dX12_pollsOne_70 rfl (lv_at hl 3 rfl) ?_
    refine xiald C hP 5 rfl e0 rfl (by omega) (by decide) dX12_pollsOne_71 ?_
    refine lv_iconst (v := nI 1) hx hb dX12_pollsOne_72 (by decide) ?_
    refine lv_iload_n hx hb dX12_pollsOne_73 rfl (lv_at hl 3 rfl) ?_
    refine lv_ishl hx hb dX12_pollsOne_74 ?_
    refine lv_ior hx hb dX12_pollsOne_75 ?_
    refine lv_istore (lv' := [(5, .int ((anf e0) ||| ((nI 1) <<< ((nI e0) &&& 31)))), (4, .int (nI 0)), (0, .ref hm), (1, .int (nI a)), (2, .int (nI e0)), (3, .int x)]) hx hb dX12_pollsOne_76 hl (by decide) rfl ?_
    clear hl
    try clear ls
    intro ls hl
    refine lv_iconst (v := nI 0) hx hb dX12_pollsOne_78 (by decide) ?_
    refine lv_istore (lv' := [(6, .int (nI 0)), (5, .int ((anf e0) ||| ((nI 1) <<< ((nI e0) &&& 31)))), (4, .int (nI 0)), (0, .ref hm), (1, .int (nI a)), (2, .int (nI e0)), (3, .int x)]) hx hb dX12_pollsOne_79 hl (by decide) rfl ?_
    clear hl
    try clear ls
    intro ls hl
    have loop_4 : ∀ (n_loop_4 : Nat) (o : Nat) (f9 : Nat → Int32), (o ≤ en) → (colP f9) → en - o < n_loop_4 → ∀ (H : Heap) (locs : List Loc) (ls : Array Slot), va_P D vwCl [(mon, .inl (cs 0, 16, .inl onf)), (mot, .inl (cs 0, 16, .inl otf)), (hm, .inr (12, [.ref ms, .ref mkp, .int (nI km), .ref mtr, .int (nI n), .int (nI k), .int (nI al), .int (nI be), .int ea, .int pr, .ref mas, .int nq, .int (po + (nI 1)), .int (nI en), .ref mso, .ref mon, .ref mot, .ref man, .int th, .int xd, .ref mst, .ref msm, .ref mtb, .ref mti, .ref mfr, .ref mbn, .ref mbs, .ref mde, .int sF, .int sN, .int sS, .int ig, .long xa, .long xb, .ref maa, .ref mab, .ref mba, .ref mbb])), (ms, .inl (cs 0, 288, .inl f9)), (mso, .inl (cs 0, 16, .inl sof)), (man, .inl (cs 0, 16, .inl anf))] H → va_D A [(mon, .inl (cs 0, 16, .inl onf)), (mot, .inl (cs 0, 16, .inl otf)), (hm, .inr (12, [.ref ms, .ref mkp, .int (nI km), .ref mtr, .int (nI n), .int (nI k), .int (nI al), .int (nI be), .int ea, .int pr, .ref mas, .int nq, .int (po + (nI 1)), .int (nI en), .ref mso, .ref mon, .ref mot, .ref man, .int th, .int xd, .ref mst, .ref msm, .ref mtb, .ref mti, .ref mfr, .ref mbn, .ref mbs, .ref mde, .int sF, .int sN, .int sS, .int ig, .long xa, .long xb, .ref maa, .ref mab, .ref mba, .ref mbb])), (ms, .inl (cs 0, 288, .inl f9)), (mso, .inl (cs 0, 16, .inl sof)), (man, .inl (cs 0, 16, .inl anf))] → va_S A s.heap H locs → lv_has ls 8 [(6, .int (nI o)), (5, .int ((anf e0) ||| ((nI 1) <<< ((nI e0) &&& 31)))), (4, .int (nI 0)), (0, .ref hm), (1, .int (nI a)), (2, .int (nI e0)), (3, .int x)] → W p l e ({ frames := 4, cells := 0, slots := 0, locals := 93 } : Room) s m args below meth c H locs 0 0 (MQ below ((xQi D (fun (r : Int32) (u : (Nat → Int32) × Int32) => match u with | (fz, poz) => colP fz) (fun (u : (Nat → Int32) × Int32) => match u with | (fz, poz) => [(hm, .inr (12, [.ref ms, .ref mkp, .int (nI km), .ref mtr, .int (nI n), .int (nI k), .int (nI al), .int (nI be), .int ea, .int pr, .ref mas, .int nq, .int poz, .int (nI en), .ref mso, .ref mon, .ref mot, .ref man, .int th, .int xd, .ref mst, .ref msm, .ref mtb, .ref mti, .ref mfr, .ref mbn, .ref mbs, .ref mde, .int sF, .int sN, .int sS, .int ig, .long xa, .long xb, .ref maa, .ref mab, .ref mba, .ref mbb])), (ms, .inl (cs 0, 288, .inl fz)), (mso, .inl (cs 0, 16, .inl sof)), (mon, .inl (cs 0, 16, .inl onf)), (mot, .inl (cs 0, 16, .inl otf)), (man, .inl (cs 0, 16, .inl anf))])) A) args s 0 0 A) (F0 m 81 ls []) := by
      intro n_loop_4
      induction n_loop_4 with
      | zero => intro o f9 h_o hs9 hlt H locs ls hP hD hS hl; exact absurd hlt (Nat.not_lt_zero _)
      | succ n_loop_4 ih_loop_4 =>
        intro o f9 h_o hs9 hlt_loop_4 H locs ls hP hD hS hl
        refine lv_iload hx hb dX12_pollsOne_81 (lv_at hl 0 rfl) ?_
        refine lv_aload_n hx hb dX12_pollsOne_83 rfl (lv_at hl 3 rfl) ?_
        refine xget C hP 2 rfl rfl zuX12 13 (by decide) zw5_226 rfl dX12_pollsOne_84 ?_
        refine lv_icmp_ge (tgt := 130) hx hb dX12_pollsOne_87 (by decide) (fun c_5 => ?_) (fun c_5 => ?_)
        · -- 87 t
          have fc_5 : en ≤ o := nf_le (by omega) (by omega) c_5
          refine lv_iconst (v := nI 0) hx hb dX12_pollsOne_130 (by decide) ?_
          refine lv_istore (lv' := [(6, .int (nI 0)), (5, .int ((anf e0) ||| ((nI 1) <<< ((nI e0) &&& 31)))), (4, .int (nI 0)), (0, .ref hm), (1, .int (nI a)), (2, .int (nI e0)), (3, .int x)]) hx hb dX12_pollsOne_131 hl (by decide) rfl ?_
          clear hl
          try clear ls
          intro ls hl
          refine lv_iconst (v := nI 0) hx hb dX12_pollsOne_133 (by decide) ?_
          refine lv_istore (lv' := [(7, .int (nI 0)), (6, .int (nI 0)), (5, .int ((anf e0) ||| ((nI 1) <<< ((nI e0) &&& 31)))), (4, .int (nI 0)), (0, .ref hm), (1, .int (nI a)), (2, .int (nI e0)), (3, .int x)]) hx hb dX12_pollsOne_134 hl (by decide) rfl ?_
          clear hl
          try clear ls
          intro ls hl
          have loop_6 : ∀ (n_loop_6 : Nat) (o2 : Nat) (f8 : Nat → Int32) (i9 : Int32), (o2 ≤ en) → (colP f8) → en - o2 < n_loop_6 → ∀ (H : Heap) (locs : List Loc) (ls : Array Slot), va_P D vwCl [(mon, .inl (cs 0, 16, .inl onf)), (mot, .inl (cs 0, 16, .inl otf)), (hm, .inr (12, [.ref ms, .ref mkp, .int (nI km), .ref mtr, .int (nI n), .int (nI k), .int (nI al), .int (nI be), .int ea, .int pr, .ref mas, .int nq, .int (po + (nI 1)), .int (nI en), .ref mso, .ref mon, .ref mot, .ref man, .int th, .int xd, .ref mst, .ref msm, .ref mtb, .ref mti, .ref mfr, .ref mbn, .ref mbs, .ref mde, .int sF, .int sN, .int sS, .int ig, .long xa, .long xb, .ref maa, .ref mab, .ref mba, .ref mbb])), (ms, .inl (cs 0, 288, .inl f8)), (mso, .inl (cs 0, 16, .inl sof)), (man, .inl (cs 0, 16, .inl anf))] H → va_D A [(mon, .inl (cs 0, 16, .inl onf)), (mot, .inl (cs 0, 16, .inl otf)), (hm, .inr (12, [.ref ms, .ref mkp, .int (nI km), .ref mtr, .int (nI n), .int (nI k), .int (nI al), .int (nI be), .int ea, .int pr, .ref mas, .int nq, .int (po + (nI 1)), .int (nI en), .ref mso, .ref mon, .ref mot, .ref man, .int th, .int xd, .ref mst, .ref msm, .ref mtb, .ref mti, .ref mfr, .ref mbn, .ref mbs, .ref mde, .int sF, .int sN, .int sS, .int ig, .long xa, .long xb, .ref maa, .ref mab, .ref mba, .ref mbb])), (ms, .inl (cs 0, 288, .inl f8)), (mso, .inl (cs 0, 16, .inl sof)), (man, .inl (cs 0, 16, .inl anf))] → va_S A s.heap H locs → lv_has ls 8 [(7, .int (nI o2)), (6, .int i9), (5, .int ((anf e0) ||| ((nI 1) <<< ((nI e0) &&& 31)))), (4, .int (nI 0)), (0, .ref hm), (1, .int (nI a)), (2, .int (nI e0)), (3, .int x)] → W p l e ({ frames := 4, cells := 0, slots := 0, locals := 93 } : Room) s m args below meth c H locs 0 0 (MQ below ((xQi D (fun (r : Int32) (u : (Nat → Int32) × Int32) => match u with | (fz, poz) => colP fz) (fun (u : (Nat → Int32) × Int32) => match u with | (fz, poz) => [(hm, .inr (12, [.ref ms, .ref mkp, .int (nI km), .ref mtr, .int (nI n), .int (nI k), .int (nI al), .int (nI be), .int ea, .int pr, .ref mas, .int nq, .int poz, .int (nI en), .ref mso, .ref mon, .ref mot, .ref man, .int th, .int xd, .ref mst, .ref msm, .ref mtb, .ref mti, .ref mfr, .ref mbn, .ref mbs, .ref mde, .int sF, .int sN, .int sS, .int ig, .long xa, .long xb, .ref maa, .ref mab, .ref mba, .ref mbb])), (ms, .inl (cs 0, 288, .inl fz)), (mso, .inl (cs 0, 16, .inl sof)), (mon, .inl (cs 0, 16, .inl onf)), (mot, .inl (cs 0, 16, .inl otf)), (man, .inl (cs 0, 16, .inl anf))])) A) args s 0 0 A) (F0 m 136 ls []) := by
            intro n_loop_6
            induction n_loop_6 with
            | zero => intro o2 f8 i9 h_o2 hs8 hlt H locs ls hP hD hS hl; exact absurd hlt (Nat.not_lt_zero _)
            | succ n_loop_6 ih_loop_6 =>
              intro o2 f8 i9 h_o2 hs8 hlt_loop_6 H locs ls hP hD hS hl
              refine lv_iload hx hb dX12_pollsOne_136 (lv_at hl 0 rfl) ?_
              refine lv_aload_n hx hb dX12_pollsOne_138 rfl (lv_at hl 4 rfl) ?_
              refine xget C hP 2 rfl rfl zuX12 13 (by decide) zw5_226 rfl dX12_pollsOne_139 ?_
              refine lv_icmp_ge (tgt := 174) hx hb dX12_pollsOne_142 (by decide) (fun c_7 => ?_) (fun c_7 => ?_)
              · -- 142 t
                have fc_7 : en ≤ o2 := nf_le (by omega) (by omega) c_7
                refine lv_iload hx hb dX12_pollsOne_174 (lv_at hl 1 rfl) ?_
                refine lv_if_eq (tgt := 183) hx hb dX12_pollsOne_176 (by decide) (fun c_8 => ?_) (fun c_8 => ?_)
                · -- 176 t
                  refine lv_iload hx hb dX12_pollsOne_183 (lv_at hl 3 rfl) ?_
                  refine lv_if_eq (tgt := 192) hx hb dX12_pollsOne_185 (by decide) (fun _ => ?_) (fun c => absurd (by decide) c)
                  refine lv_iconst (v := nI 0) hx hb dX12_pollsOne_192 (by decide) ?_
                  exact xreti C (⟨f8, (po + (nI 1))⟩) hs8 (xP_map hP [2, 3, 4, 0, 1, 5] rfl) (hD.sub [2, 3, 4, 0, 1, 5] (by decide +kernel) rfl) hS (Nat.le_of_ble_eq_true rfl) (Nat.le_of_ble_eq_true rfl) rfl dX12_pollsOne_193
                · -- 176 f
                  refine lv_iconst (v := nI 2) hx hb dX12_pollsOne_179 (by decide) ?_
                  refine lv_goto (tgt := 193) hx hb dX12_pollsOne_180 (by decide) ?_
                  exact xreti C (⟨f8, (po + (nI 1))⟩) hs8 (xP_map hP [2, 3, 4, 0, 1, 5] rfl) (hD.sub [2, 3, 4, 0, 1, 5] (by decide +kernel) rfl) hS (Nat.le_of_ble_eq_true rfl) (Nat.le_of_ble_eq_true rfl) rfl dX12_pollsOne_193
              · -- 142 f
                have fc_7 : o2 < en := nf_nle (by omega) (by omega) c_7
                refine lv_iload hx hb dX12_pollsOne_145 (lv_at hl 2 rfl) ?_
                refine lv_iload hx hb dX12_pollsOne_147 (lv_at hl 0 rfl) ?_
                refine xi (wr := [(mon, .inl (cs 0, 16, .inl onf)), (mot, .inl (cs 0, 16, .inl otf)), (hm, .inr (12, [.ref ms, .ref mkp, .int (nI km), .ref mtr, .int (nI n), .int (nI k), .int (nI al), .int (nI be), .int ea, .int pr, .ref mas, .int nq, .int (po + (nI 1)), .int (nI en), .ref mso, .ref mon, .ref mot, .ref man, .int th, .int xd, .ref mst, .ref msm, .ref mtb, .ref mti, .ref mfr, .ref mbn, .ref mbs, .ref mde, .int sF, .int sN, .int sS, .int ig, .long xa, .long xb, .ref maa, .ref mab, .ref mba, .ref mbb])), (ms, .inl (cs 0, 288, .inl f8)), (mso, .inl (cs 0, 16, .inl sof)), (man, .inl (cs 0, 16, .inl anf))]) (xS (As := [.int ((anf e0) ||| ((nI 1) <<< ((nI e0) &&& 31))), .int (nI o2)]) (rest := []) C (c_X12_has l D cs ((anf e0) ||| ((nI 1) <<< ((nI e0) &&& 31))) o2) kX12_100 hP hD [] rfl (by decide +kernel) ⟨Nat.le_of_ble_eq_true rfl, Nat.le_of_ble_eq_true rfl⟩ rfl hl.1 rfl (Nat.le_of_ble_eq_true rfl) dX12_pollsOne_149 ⟨Nat.le_of_ble_eq_true rfl, Nat.le_of_ble_eq_true rfl⟩) hP hD hS hA [] [0, 1, 2, 3, 4, 5] rfl rfl (by decide +kernel) (by decide +kernel) ?_
                clear hP hD hS
                try clear locs
                try clear H
                intro r_9 u_10 H locs hw_r_9 hP hD hS
                have hw_r_9 : PQ (hasB ((anf e0) ||| ((nI 1) <<< ((nI e0) &&& 31))) o2) r_9 (nI 1) (nI 0) := hw_r_9
                refine W.widen (k := 0) (n := 0) (Nat.le_of_ble_eq_true rfl) (Nat.le_of_ble_eq_true rfl) ?_
                replace hP : va_P D vwCl [(mon, .inl (cs 0, 16, .inl onf)), (mot, .inl (cs 0, 16, .inl otf)), (hm, .inr (12, [.ref ms, .ref mkp, .int (nI km), .ref mtr, .int (nI n), .int (nI k), .int (nI al), .int (nI be), .int ea, .int pr, .ref mas, .int nq, .int (po + (nI 1)), .int (nI en), .ref mso, .ref mon, .ref mot, .ref man, .int th, .int xd, .ref mst, .ref msm, .ref mtb, .ref mti, .ref mfr, .ref mbn, .ref mbs, .ref mde, .int sF, .int sN, .int sS, .int ig, .long xa, .long xb, .ref maa, .ref mab, .ref mba, .ref mbb])), (ms, .inl (cs 0, 288, .inl f8)), (mso, .inl (cs 0, 16, .inl sof)), (man, .inl (cs 0, 16, .inl anf))] H := hP
                replace hD : va_D A [(mon, .inl (cs 0, 16, .inl onf)), (mot, .inl (cs 0, 16, .inl otf)), (hm, .inr (12, [.ref ms, .ref mkp, .int (nI km), .ref mtr, .int (nI n), .int (nI k), .int (nI al), .int (nI be), .int ea, .int pr, .ref mas, .int nq, .int (po + (nI 1)), .int (nI en), .ref mso, .ref mon, .ref mot, .ref man, .int th, .int xd, .ref mst, .ref msm, .ref mtb, .ref mti, .ref mfr, .ref mbn, .ref mbs, .ref mde, .int sF, .int sN, .int sS, .int ig, .long xa, .long xb, .ref maa, .ref mab, .ref mba, .ref mbb])), (ms, .inl (cs 0, 288, .inl f8)), (mso, .inl (cs 0, 16, .inl sof)), (man, .inl (cs 0, 16, .inl anf))] := hD
                refine lv_if_eq (tgt := 168) hx hb dX12_pollsOne_152 (by decide) (fun c_11 => ?_) (fun c_11 => ?_)
                · -- 152 t
                  refine lv_iinc (v := nI (o2 + 1)) (lv' := [(7, .int (nI (o2 + 1))), (6, .int i9), (5, .int ((anf e0) ||| ((nI 1) <<< ((nI e0) &&& 31)))), (4, .int (nI 0)), (0, .ref hm), (1, .int (nI a)), (2, .int (nI e0)), (3, .int x)]) hx hb dX12_pollsOne_168 hl (k := 0) rfl (nI_add o2 1) (by decide) rfl ?_
                  clear hl
                  try clear ls
                  intro ls hl
                  refine lv_goto (tgt := 136) hx hb dX12_pollsOne_171 (by decide) ?_
                  exact ih_loop_6 (o2 + 1) f8 i9 (by omega) hs8 (by omega) H locs ls hP hD hS (lv_sub hl [0, 1, 2, 3, 4, 5, 6, 7] rfl)
                · -- 152 f
                  refine lv_aload_n hx hb dX12_pollsOne_155 rfl (lv_at hl 4 rfl) ?_
                  refine lv_iload_n hx hb dX12_pollsOne_156 rfl (lv_at hl 5 rfl) ?_
                  refine lv_iload hx hb dX12_pollsOne_157 (lv_at hl 0 rfl) ?_
                  refine xi (wr := [(man, .inl (cs 0, 16, .inl anf))]) (xV (As := [.int (nI a), .int (nI o2)]) (rest := []) C (c_X12_accepts l D cs hm ms mkp mtr mas mso mon mot man mst msm mtb mti mfr mbn mbs mde maa mab mba mbb n k al be km en ea pr nq (po + (nI 1)) th xd sF sN sS ig xa xb f8 sof onf otf a o2 hen hso hs8 ha (by omega)) kX12_333 hP hD [2, 3, 4, 0, 1] rfl (by decide +kernel) 0 rfl rfl rfl ⟨Nat.le_of_ble_eq_true rfl, Nat.le_of_ble_eq_true rfl⟩ rfl hl.1 rfl (Nat.le_of_ble_eq_true rfl) dX12_pollsOne_159 ⟨Nat.le_of_ble_eq_true rfl, Nat.le_of_ble_eq_true rfl⟩) hP hD hS hA [2, 3, 4, 0, 1] [5] rfl rfl (by decide +kernel) (by decide +kernel) ?_
                  clear hP hD hS
                  try clear locs
                  try clear H
                  intro r_12 u_13 H locs hw_r_12 hP hD hS
                  have hw_r_12 : (r_12 = nI 0 ∨ r_12 = nI 1) ∧ colP u_13 := hw_r_12
                  refine W.widen (k := 0) (n := 0) (Nat.le_of_ble_eq_true rfl) (Nat.le_of_ble_eq_true rfl) ?_
                  replace hP : va_P D vwCl [(man, .inl (cs 0, 16, .inl anf)), (hm, .inr (12, [.ref ms, .ref mkp, .int (nI km), .ref mtr, .int (nI n), .int (nI k), .int (nI al), .int (nI be), .int ea, .int pr, .ref mas, .int nq, .int (po + (nI 1)), .int (nI en), .ref mso, .ref mon, .ref mot, .ref man, .int th, .int xd, .ref mst, .ref msm, .ref mtb, .ref mti, .ref mfr, .ref mbn, .ref mbs, .ref mde, .int sF, .int sN, .int sS, .int ig, .long xa, .long xb, .ref maa, .ref mab, .ref mba, .ref mbb])), (ms, .inl (cs 0, 288, .inl u_13)), (mso, .inl (cs 0, 16, .inl sof)), (mon, .inl (cs 0, 16, .inl onf)), (mot, .inl (cs 0, 16, .inl otf))] H := hP
                  replace hD : va_D A [(man, .inl (cs 0, 16, .inl anf)), (hm, .inr (12, [.ref ms, .ref mkp, .int (nI km), .ref mtr, .int (nI n), .int (nI k), .int (nI al), .int (nI be), .int ea, .int pr, .ref mas, .int nq, .int (po + (nI 1)), .int (nI en), .ref mso, .ref mon, .ref mot, .ref man, .int th, .int xd, .ref mst, .ref msm, .ref mtb, .ref mti, .ref mfr, .ref mbn, .ref mbs, .ref mde, .int sF, .int sN, .int sS, .int ig, .long xa, .long xb, .ref maa, .ref mab, .ref mba, .ref mbb])), (ms, .inl (cs 0, 288, .inl u_13)), (mso, .inl (cs 0, 16, .inl sof)), (mon, .inl (cs 0, 16, .inl onf)), (mot, .inl (cs 0, 16, .inl otf))] := hD
                  refine lv_if_eq (tgt := 168) hx hb dX12_pollsOne_162 (by decide) (fun c_14 => ?_) (fun c_14 => ?_)
                  · -- 162 t
                    refine lv_iinc (v := nI (o2 + 1)) (lv' := [(7, .int (nI (o2 + 1))), (6, .int i9), (5, .int ((anf e0) ||| ((nI 1) <<< ((nI e0) &&& 31)))), (4, .int (nI 0)), (0, .ref hm), (1, .int (nI a)), (2, .int (nI e0)), (3, .int x)]) hx hb dX12_pollsOne_168 hl (k := 0) rfl (nI_add o2 1) (by decide) rfl ?_
                    clear hl
                    try clear ls
                    intro ls hl
                    refine lv_goto (tgt := 136) hx hb dX12_pollsOne_171 (by decide) ?_
                    exact ih_loop_6 (o2 + 1) u_13 i9 (by omega) hw_r_12.2 (by omega) H locs ls (xP_map hP [4, 5, 1, 2, 3, 0] rfl) (hD.sub [4, 5, 1, 2, 3, 0] (by decide +kernel) rfl) hS (lv_sub hl [0, 1, 2, 3, 4, 5, 6, 7] rfl)
                  · -- 162 f
                    refine lv_iconst (v := nI 1) hx hb dX12_pollsOne_165 (by decide) ?_
                    refine lv_istore (lv' := [(6, .int (nI 1)), (7, .int (nI o2)), (5, .int ((anf e0) ||| ((nI 1) <<< ((nI e0) &&& 31)))), (4, .int (nI 0)), (0, .ref hm), (1, .int (nI a)), (2, .int (nI e0)), (3, .int x)]) hx hb dX12_pollsOne_166 hl (by decide) rfl ?_
                    clear hl
                    try clear ls
                    intro ls hl
                    refine lv_iinc (v := nI (o2 + 1)) (lv' := [(7, .int (nI (o2 + 1))), (6, .int (nI 1)), (5, .int ((anf e0) ||| ((nI 1) <<< ((nI e0) &&& 31)))), (4, .int (nI 0)), (0, .ref hm), (1, .int (nI a)), (2, .int (nI e0)), (3, .int x)]) hx hb dX12_pollsOne_168 hl (k := 1) rfl (nI_add o2 1) (by decide) rfl ?_
                    clear hl
                    try clear ls
                    intro ls hl
                    refine lv_goto (tgt := 136) hx hb dX12_pollsOne_171 (by decide) ?_
                    exact ih_loop_6 (o2 + 1) u_13 (nI 1) (by omega) hw_r_12.2 (by omega) H locs ls (xP_map hP [4, 5, 1, 2, 3, 0] rfl) (hD.sub [4, 5, 1, 2, 3, 0] (by decide +kernel) rfl) hS (lv_sub hl [0, 1, 2, 3, 4, 5, 6, 7] rfl)
          exact loop_6 _ 0 f9 (nI 0) (by omega) hs9 (Nat.lt_succ_self _) H locs ls hP hD hS (lv_sub hl [0, 1, 2, 3, 4, 5, 6, 7] rfl)
        · -- 87 f
          have fc_5 : o < en := nf_nle (by omega) (by omega) c_5
          refine lv_iload hx hb dX12_pollsOne_90 (lv_at hl 1 rfl) ?_
          refine lv_iload hx hb dX12_pollsOne_92 (lv_at hl 0 rfl) ?_
          refine xi (wr := [(mon, .inl (cs 0, 16, .inl onf)), (mot, .inl (cs 0, 16, .inl otf)), (hm, .inr (12, [.ref ms, .ref mkp, .int (nI km), .ref mtr, .int (nI n), .int (nI k), .int (nI al), .int (nI be), .int ea, .int pr, .ref mas, .int nq, .int (po + (nI 1)), .int (nI en), .ref mso, .ref mon, .ref mot, .ref man, .int th, .int xd, .ref mst, .ref msm, .ref mtb, .ref mti, .ref mfr, .ref mbn, .ref mbs, .ref mde, .int sF, .int sN, .int sS, .int ig, .long xa, .long xb, .ref maa, .ref mab, .ref mba, .ref mbb])), (ms, .inl (cs 0, 288, .inl f9)), (mso, .inl (cs 0, 16, .inl sof)), (man, .inl (cs 0, 16, .inl anf))]) (xS (As := [.int ((anf e0) ||| ((nI 1) <<< ((nI e0) &&& 31))), .int (nI o)]) (rest := []) C (c_X12_has l D cs ((anf e0) ||| ((nI 1) <<< ((nI e0) &&& 31))) o) kX12_100 hP hD [] rfl (by decide +kernel) ⟨Nat.le_of_ble_eq_true rfl, Nat.le_of_ble_eq_true rfl⟩ rfl hl.1 rfl (Nat.le_of_ble_eq_true rfl) dX12_pollsOne_94 ⟨Nat.le_of_ble_eq_true rfl, Nat.le_of_ble_eq_true rfl⟩) hP hD hS hA [] [0, 1, 2, 3, 4, 5] rfl rfl (by decide +kernel) (by decide +kernel) ?_
          clear hP hD hS
          try clear locs
          try clear H
          intro r_15 u_16 H locs hw_r_15 hP hD hS
          have hw_r_15 : PQ (hasB ((anf e0) ||| ((nI 1) <<< ((nI e0) &&& 31))) o) r_15 (nI 1) (nI 0) := hw_r_15
          refine W.widen (k := 0) (n := 0) (Nat.le_of_ble_eq_true rfl) (Nat.le_of_ble_eq_true rfl) ?_
          replace hP : va_P D vwCl [(mon, .inl (cs 0, 16, .inl onf)), (mot, .inl (cs 0, 16, .inl otf)), (hm, .inr (12, [.ref ms, .ref mkp, .int (nI km), .ref mtr, .int (nI n), .int (nI k), .int (nI al), .int (nI be), .int ea, .int pr, .ref mas, .int nq, .int (po + (nI 1)), .int (nI en), .ref mso, .ref mon, .ref mot, .ref man, .int th, .int xd, .ref mst, .ref msm, .ref mtb, .ref mti, .ref mfr, .ref mbn, .ref mbs, .ref mde, .int sF, .int sN, .int sS, .int ig, .long xa, .long xb, .ref maa, .ref mab, .ref mba, .ref mbb])), (ms, .inl (cs 0, 288, .inl f9)), (mso, .inl (cs 0, 16, .inl sof)), (man, .inl (cs 0, 16, .inl anf))] H := hP
          replace hD : va_D A [(mon, .inl (cs 0, 16, .inl onf)), (mot, .inl (cs 0, 16, .inl otf)), (hm, .inr (12, [.ref ms, .ref mkp, .int (nI km), .ref mtr, .int (nI n), .int (nI k), .int (nI al), .int (nI be), .int ea, .int pr, .ref mas, .int nq, .int (po + (nI 1)), .int (nI en), .ref mso, .ref mon, .ref mot, .ref man, .int th, .int xd, .ref mst, .ref msm, .ref mtb, .ref mti, .ref mfr, .ref mbn, .ref mbs, .ref mde, .int sF, .int sN, .int sS, .int ig, .long xa, .long xb, .ref maa, .ref mab, .ref mba, .ref mbb])), (ms, .inl (cs 0, 288, .inl f9)), (mso, .inl (cs 0, 16, .inl sof)), (man, .inl (cs 0, 16, .inl anf))] := hD
          refine lv_if_eq (tgt := 124) hx hb dX12_pollsOne_97 (by decide) (fun c_17 => ?_) (fun c_17 => ?_)
          · -- 97 t
            refine lv_iinc (v := nI (o + 1)) (lv' := [(6, .int (nI (o + 1))), (5, .int ((anf e0) ||| ((nI 1) <<< ((nI e0) &&& 31)))), (4, .int (nI 0)), (0, .ref hm), (1, .int (nI a)), (2, .int (nI e0)), (3, .int x)]) hx hb dX12_pollsOne_124 hl (k := 0) rfl (nI_add o 1) (by decide) rfl ?_
            clear hl
            try clear ls
            intro ls hl
            refine lv_goto (tgt := 81) hx hb dX12_pollsOne_127 (by decide) ?_
            exact ih_loop_4 (o + 1) f9 (by omega) hs9 (by omega) H locs ls hP hD hS (lv_sub hl [0, 1, 2, 3, 4, 5, 6] rfl)
          · -- 97 f
            refine lv_aload_n hx hb dX12_pollsOne_100 rfl (lv_at hl 3 rfl) ?_
            refine lv_iload_n hx hb dX12_pollsOne_101 rfl (lv_at hl 4 rfl) ?_
            refine lv_aload_n hx hb dX12_pollsOne_102 rfl (lv_at hl 3 rfl) ?_
            refine xget C hP 2 rfl rfl zuX12 14 (by decide) zw5_227 rfl dX12_pollsOne_103 ?_
            refine lv_iload hx hb dX12_pollsOne_106 (lv_at hl 0 rfl) ?_
            refine xiald C hP 4 rfl o rfl (by omega) (by decide) dX12_pollsOne_108 ?_
            obtain ⟨t_18, h_t_18, e_t_18⟩ := (hso o (by omega))
            refine lv_topi (nm_r (e' := nI t_18) e_t_18 ?_)
            refine xi (wr := [(mon, .inl (cs 0, 16, .inl onf)), (mot, .inl (cs 0, 16, .inl otf)), (man, .inl (cs 0, 16, .inl anf))]) (xV (As := [.int (nI a), .int (nI t_18)]) (rest := []) C (c_X12_acceptedOf l D cs hm ms mkp mtr mas mso mon mot man mst msm mtb mti mfr mbn mbs mde maa mab mba mbb n k al be km en ea pr nq (po + (nI 1)) th xd sF sN sS ig xa xb f9 a (nI t_18) sof hen ha) kX12_310 hP hD [2, 3, 4] rfl (by decide +kernel) 0 rfl rfl rfl ⟨Nat.le_of_ble_eq_true rfl, Nat.le_of_ble_eq_true rfl⟩ rfl hl.1 rfl (Nat.le_of_ble_eq_true rfl) dX12_pollsOne_109 ⟨Nat.le_of_ble_eq_true rfl, Nat.le_of_ble_eq_true rfl⟩) hP hD hS hA [2, 3, 4] [0, 1, 5] rfl rfl (by decide +kernel) (by decide +kernel) ?_
            clear hP hD hS
            try clear locs
            try clear H
            intro r_19 u_20 H locs hw_r_19 hP hD hS
            have hw_r_19 : r_19 = -1 ∨ ∃ e, e < en ∧ r_19 = nI e := hw_r_19
            refine W.widen (k := 0) (n := 0) (Nat.le_of_ble_eq_true rfl) (Nat.le_of_ble_eq_true rfl) ?_
            replace hP : va_P D vwCl [(mon, .inl (cs 0, 16, .inl onf)), (mot, .inl (cs 0, 16, .inl otf)), (man, .inl (cs 0, 16, .inl anf)), (hm, .inr (12, [.ref ms, .ref mkp, .int (nI km), .ref mtr, .int (nI n), .int (nI k), .int (nI al), .int (nI be), .int ea, .int pr, .ref mas, .int nq, .int (po + (nI 1)), .int (nI en), .ref mso, .ref mon, .ref mot, .ref man, .int th, .int xd, .ref mst, .ref msm, .ref mtb, .ref mti, .ref mfr, .ref mbn, .ref mbs, .ref mde, .int sF, .int sN, .int sS, .int ig, .long xa, .long xb, .ref maa, .ref mab, .ref mba, .ref mbb])), (ms, .inl (cs 0, 288, .inl f9)), (mso, .inl (cs 0, 16, .inl sof))] H := hP
            replace hD : va_D A [(mon, .inl (cs 0, 16, .inl onf)), (mot, .inl (cs 0, 16, .inl otf)), (man, .inl (cs 0, 16, .inl anf)), (hm, .inr (12, [.ref ms, .ref mkp, .int (nI km), .ref mtr, .int (nI n), .int (nI k), .int (nI al), .int (nI be), .int ea, .int pr, .ref mas, .int nq, .int (po + (nI 1)), .int (nI en), .ref mso, .ref mon, .ref mot, .ref man, .int th, .int xd, .ref mst, .ref msm, .ref mtb, .ref mti, .ref mfr, .ref mbn, .ref mbs, .ref mde, .int sF, .int sN, .int sS, .int ig, .long xa, .long xb, .ref maa, .ref mab, .ref mba, .ref mbb])), (ms, .inl (cs 0, 288, .inl f9)), (mso, .inl (cs 0, 16, .inl sof))] := hD
            refine lv_if_ge (tgt := 124) hx hb dX12_pollsOne_112 (by decide) (fun c_21 => ?_) (fun c_21 => ?_)
            · -- 112 t
              refine lv_iinc (v := nI (o + 1)) (lv' := [(6, .int (nI (o + 1))), (5, .int ((anf e0) ||| ((nI 1) <<< ((nI e0) &&& 31)))), (4, .int (nI 0)), (0, .ref hm), (1, .int (nI a)), (2, .int (nI e0)), (3, .int x)]) hx hb dX12_pollsOne_124 hl (k := 0) rfl (nI_add o 1) (by decide) rfl ?_
              clear hl
              try clear ls
              intro ls hl
              refine lv_goto (tgt := 81) hx hb dX12_pollsOne_127 (by decide) ?_
              exact ih_loop_4 (o + 1) f9 (by omega) hs9 (by omega) H locs ls (xP_map hP [0, 1, 3, 4, 5, 2] rfl) (hD.sub [0, 1, 3, 4, 5, 2] (by decide +kernel) rfl) hS (lv_sub hl [0, 1, 2, 3, 4, 5, 6] rfl)
            · -- 112 f
              refine lv_aload_n hx hb dX12_pollsOne_115 rfl (lv_at hl 3 rfl) ?_
              refine lv_iload_n hx hb dX12_pollsOne_116 rfl (lv_at hl 4 rfl) ?_
              refine lv_iload hx hb dX12_pollsOne_117 (lv_at hl 0 rfl) ?_
              refine lv_iload hx hb dX12_pollsOne_119 (lv_at hl 2 rfl) ?_
              refine xv (wr := [(mon, .inl (cs 0, 16, .inl onf)), (mot, .inl (cs 0, 16, .inl otf))]) (xV (As := [.int (nI a), .int (nI o), .int (nI 0)]) (rest := []) C (c_X12_marks l D cs hm ms mkp mtr mas mso mon mot man mst msm mtb mti mfr mbn mbs mde maa mab mba mbb n k al be km en ea pr nq (po + (nI 1)) th xd sF sN sS ig xa xb f9 a o (nI 0) sof anf hen hso hs9 ha (by omega)) kX12_329 hP hD [3, 4, 5, 2] rfl (by decide +kernel) 0 rfl rfl rfl ⟨Nat.le_of_ble_eq_true rfl, Nat.le_of_ble_eq_true rfl⟩ rfl hl.1 rfl (Nat.le_of_ble_eq_true rfl) dX12_pollsOne_121 ⟨Nat.le_of_ble_eq_true rfl, Nat.le_of_ble_eq_true rfl⟩) hP hD hS hA [3, 4, 5, 2] [0, 1] rfl rfl (by decide +kernel) (by decide +kernel) ?_
              clear hP hD hS
              try clear locs
              try clear H
              intro u_23 H locs hw_r_22 hP hD hS
              have hw_r_22 : colP u_23 := hw_r_22
              refine W.widen (k := 0) (n := 0) (Nat.le_of_ble_eq_true rfl) (Nat.le_of_ble_eq_true rfl) ?_
              replace hP : va_P D vwCl [(mon, .inl (cs 0, 16, .inl onf)), (mot, .inl (cs 0, 16, .inl otf)), (hm, .inr (12, [.ref ms, .ref mkp, .int (nI km), .ref mtr, .int (nI n), .int (nI k), .int (nI al), .int (nI be), .int ea, .int pr, .ref mas, .int nq, .int (po + (nI 1)), .int (nI en), .ref mso, .ref mon, .ref mot, .ref man, .int th, .int xd, .ref mst, .ref msm, .ref mtb, .ref mti, .ref mfr, .ref mbn, .ref mbs, .ref mde, .int sF, .int sN, .int sS, .int ig, .long xa, .long xb, .ref maa, .ref mab, .ref mba, .ref mbb])), (ms, .inl (cs 0, 288, .inl u_23)), (mso, .inl (cs 0, 16, .inl sof)), (man, .inl (cs 0, 16, .inl anf))] H := hP
              replace hD : va_D A [(mon, .inl (cs 0, 16, .inl onf)), (mot, .inl (cs 0, 16, .inl otf)), (hm, .inr (12, [.ref ms, .ref mkp, .int (nI km), .ref mtr, .int (nI n), .int (nI k), .int (nI al), .int (nI be), .int ea, .int pr, .ref mas, .int nq, .int (po + (nI 1)), .int (nI en), .ref mso, .ref mon, .ref mot, .ref man, .int th, .int xd, .ref mst, .ref msm, .ref mtb, .ref mti, .ref mfr, .ref mbn, .ref mbs, .ref mde, .int sF, .int sN, .int sS, .int ig, .long xa, .long xb, .ref maa, .ref mab, .ref mba, .ref mbb])), (ms, .inl (cs 0, 288, .inl u_23)), (mso, .inl (cs 0, 16, .inl sof)), (man, .inl (cs 0, 16, .inl anf))] := hD
              refine lv_iinc (v := nI (o + 1)) (lv' := [(6, .int (nI (o + 1))), (5, .int ((anf e0) ||| ((nI 1) <<< ((nI e0) &&& 31)))), (4, .int (nI 0)), (0, .ref hm), (1, .int (nI a)), (2, .int (nI e0)), (3, .int x)]) hx hb dX12_pollsOne_124 hl (k := 0) rfl (nI_add o 1) (by decide) rfl ?_
              clear hl
              try clear ls
              intro ls hl
              refine lv_goto (tgt := 81) hx hb dX12_pollsOne_127 (by decide) ?_
              exact ih_loop_4 (o + 1) u_23 (by omega) hw_r_22 (by omega) H locs ls hP hD hS (lv_sub hl [0, 1, 2, 3, 4, 5, 6] rfl)
    exact loop_4 _ 0 (upd f (72 + a) ((f (72 + a)) ||| ((nI 1) <<< ((nI e0) &&& 31)))) (by omega) (colP_hi (i := 72 + a) hs ((f (72 + a)) ||| ((nI 1) <<< ((nI e0) &&& 31))) (by omega)) (Nat.lt_succ_self _) H locs ls hP hD hS (lv_sub hl [0, 1, 2, 3, 4, 5, 6] rfl)
  · -- 11 f
    refine lv_iconst (v := nI 1) hx hb dX12_pollsOne_14 (by decide) ?_
    refine lv_goto (tgt := 19) hx hb dX12_pollsOne_15 (by decide) ?_
    refine lv_istore (lv' := [(4, .int (nI 1)), (0, .ref hm), (1, .int (nI a)), (2, .int (nI e0)), (3, .int x)]) hx hb dX12_pollsOne_19 hl (by decide) rfl ?_
    clear hl
    try clear ls
    intro ls hl
    refine lv_aload_n hx hb dX12_pollsOne_21 rfl (lv_at hl 1 rfl) ?_
    refine xget C hP 2 rfl rfl zuX12 0 (by decide) zw5_213 rfl dX12_pollsOne_22 ?_
    refine lv_bipush (v := nI 72) hx hb dX12_pollsOne_25 (by decide) ?_
    refine lv_iload_n hx hb dX12_pollsOne_27 rfl (lv_at hl 2 rfl) ?_
    refine lv_iadd hx hb dX12_pollsOne_28 ?_
    refine lv_topi (nm_r (e' := nI (72 + a)) (nI_add _ _) ?_)
    refine lv_dup2_11 hx hb dX12_pollsOne_29 rfl rfl ?_
    refine xiald C hP 3 rfl (72 + a) rfl (by omega) (by decide) dX12_pollsOne_30 ?_
    refine lv_iconst (v := nI 1) hx hb dX12_pollsOne_31 (by decide) ?_
    refine lv_iload_n hx hb dX12_pollsOne_32 rfl (lv_at hl 3 rfl) ?_
    refine lv_ishl hx hb dX12_pollsOne_33 ?_
    refine lv_ior hx hb dX12_pollsOne_34 ?_
    refine xiast C hP hD hS 3 rfl (72 + a) rfl (by omega) (by decide) dX12_pollsOne_35 ?_
    clear hP hD hS
    try clear locs
    try clear H
    intro H locs hP hD hS
    replace hP : va_P D vwCl [(mon, .inl (cs 0, 16, .inl onf)), (mot, .inl (cs 0, 16, .inl otf)), (hm, .inr (12, [.ref ms, .ref mkp, .int (nI km), .ref mtr, .int (nI n), .int (nI k), .int (nI al), .int (nI be), .int ea, .int pr, .ref mas, .int nq, .int po, .int (nI en), .ref mso, .ref mon, .ref mot, .ref man, .int th, .int xd, .ref mst, .ref msm, .ref mtb, .ref mti, .ref mfr, .ref mbn, .ref mbs, .ref mde, .int sF, .int sN, .int sS, .int ig, .long xa, .long xb, .ref maa, .ref mab, .ref mba, .ref mbb])), (ms, .inl (cs 0, 288, .inl (upd f (72 + a) ((f (72 + a)) ||| ((nI 1) <<< ((nI e0) &&& 31)))))), (mso, .inl (cs 0, 16, .inl sof)), (man, .inl (cs 0, 16, .inl anf))] H := hP
    replace hD : va_D A [(mon, .inl (cs 0, 16, .inl onf)), (mot, .inl (cs 0, 16, .inl otf)), (hm, .inr (12, [.ref ms, .ref mkp, .int (nI km), .ref mtr, .int (nI n), .int (nI k), .int (nI al), .int (nI be), .int ea, .int pr, .ref mas, .int nq, .int po, .int (nI en), .ref mso, .ref mon, .ref mot, .ref man, .int th, .int xd, .ref mst, .ref msm, .ref mtb, .ref mti, .ref mfr, .ref mbn, .ref mbs, .ref mde, .int sF, .int sN, .int sS, .int ig, .long xa, .long xb, .ref maa, .ref mab, .ref mba, .ref mbb])), (ms, .inl (cs 0, 288, .inl (upd f (72 + a) ((f (72 + a)) ||| ((nI 1) <<< ((nI e0) &&& 31)))))), (mso, .inl (cs 0, 16, .inl sof)), (man, .inl (cs 0, 16, .inl anf))] := hD
    refine lv_aload_n hx hb dX12_pollsOne_36 rfl (lv_at hl 1 rfl) ?_
    refine lv_dup hx hb dX12_pollsOne_37 rfl ?_
    refine xget C hP 2 rfl rfl zuX12 12 (by decide) zw5_225 rfl dX12_pollsOne_38 ?_
    refine lv_iconst (v := nI 1) hx hb dX12_pollsOne_41 (by decide) ?_
    refine lv_iadd hx hb dX12_pollsOne_42 ?_
    refine xput C hP hD hS 2 rfl rfl zuX12 tyX12 tyX12_ok nmX12 12 (by decide) zw5_225 rfl rfl rfl (Nat.le_of_ble_eq_true rfl) dX12_pollsOne_43 ?_
    clear hP hD hS
    try clear locs
    try clear H
    intro H locs hP hD hS
    replace hP : va_P D vwCl [(mon, .inl (cs 0, 16, .inl onf)), (mot, .inl (cs 0, 16, .inl otf)), (hm, .inr (12, [.ref ms, .ref mkp, .int (nI km), .ref mtr, .int (nI n), .int (nI k), .int (nI al), .int (nI be), .int ea, .int pr, .ref mas, .int nq, .int (po + (nI 1)), .int (nI en), .ref mso, .ref mon, .ref mot, .ref man, .int th, .int xd, .ref mst, .ref msm, .ref mtb, .ref mti, .ref mfr, .ref mbn, .ref mbs, .ref mde, .int sF, .int sN, .int sS, .int ig, .long xa, .long xb, .ref maa, .ref mab, .ref mba, .ref mbb])), (ms, .inl (cs 0, 288, .inl (upd f (72 + a) ((f (72 + a)) ||| ((nI 1) <<< ((nI e0) &&& 31)))))), (mso, .inl (cs 0, 16, .inl sof)), (man, .inl (cs 0, 16, .inl anf))] H := hP
    replace hD : va_D A [(mon, .inl (cs 0, 16, .inl onf)), (mot, .inl (cs 0, 16, .inl otf)), (hm, .inr (12, [.ref ms, .ref mkp, .int (nI km), .ref mtr, .int (nI n), .int (nI k), .int (nI al), .int (nI be), .int ea, .int pr, .ref mas, .int nq, .int (po + (nI 1)), .int (nI en), .ref mso, .ref mon, .ref mot, .ref man, .int th, .int xd, .ref mst, .ref msm, .ref mtb, .ref mti, .ref mfr, .ref mbn, .ref mbs, .ref mde, .int sF, .int sN, .int sS, .int ig, .long xa, .long xb, .ref maa, .ref mab, .ref mba, .ref mbb])), (ms, .inl (cs 0, 288, .inl (upd f (72 + a) ((f (72 + a)) ||| ((nI 1) <<< ((nI e0) &&& 31)))))), (mso, .inl (cs 0, 16, .inl sof)), (man, .inl (cs 0, 16, .inl anf))] := hD
    refine lv_iload hx hb dX12_pollsOne_46 (lv_at hl 0 rfl) ?_
    refine lv_if_eq (tgt := 66) hx hb dX12_pollsOne_48 (by decide) (fun c => absurd c (by decide)) (fun _ => ?_)
    refine lv_aload_n hx hb dX12_pollsOne_51 rfl (lv_at hl 1 rfl) ?_
    refine xget C hP 2 rfl rfl zuX12 0 (by decide) zw5_213 rfl dX12_pollsOne_52 ?_
    refine lv_bipush (v := nI 64) hx hb dX12_pollsOne_55 (by decide) ?_
    refine lv_iload_n hx hb dX12_pollsOne_57 rfl (lv_at hl 2 rfl) ?_
    refine lv_iadd hx hb dX12_pollsOne_58 ?_
    refine lv_topi (nm_r (e' := nI (64 + a)) (nI_add _ _) ?_)
    refine lv_dup2_11 hx hb dX12_pollsOne_59 rfl rfl ?_
    refine xiald C hP 3 rfl (64 + a) rfl (by omega) (by decide) dX12_pollsOne_60 ?_
    refine lv_iconst (v := nI 1) hx hb dX12_pollsOne_61 (by decide) ?_
    refine lv_iload_n hx hb dX12_pollsOne_62 rfl (lv_at hl 3 rfl) ?_
    refine lv_ishl hx hb dX12_pollsOne_63 ?_
    refine lv_ior hx hb dX12_pollsOne_64 ?_
    refine xiast C hP hD hS 3 rfl (64 + a) rfl (by omega) (by decide) dX12_pollsOne_65 ?_
    clear hP hD hS
    try clear locs
    try clear H
    intro H locs hP hD hS
    replace hP : va_P D vwCl [(mon, .inl (cs 0, 16, .inl onf)), (mot, .inl (cs 0, 16, .inl otf)), (hm, .inr (12, [.ref ms, .ref mkp, .int (nI km), .ref mtr, .int (nI n), .int (nI k), .int (nI al), .int (nI be), .int ea, .int pr, .ref mas, .int nq, .int (po + (nI 1)), .int (nI en), .ref mso, .ref mon, .ref mot, .ref man, .int th, .int xd, .ref mst, .ref msm, .ref mtb, .ref mti, .ref mfr, .ref mbn, .ref mbs, .ref mde, .int sF, .int sN, .int sS, .int ig, .long xa, .long xb, .ref maa, .ref mab, .ref mba, .ref mbb])), (ms, .inl (cs 0, 288, .inl (upd (upd f (72 + a) ((f (72 + a)) ||| ((nI 1) <<< ((nI e0) &&& 31)))) (64 + a) (((upd f (72 + a) ((f (72 + a)) ||| ((nI 1) <<< ((nI e0) &&& 31)))) (64 + a)) ||| ((nI 1) <<< ((nI e0) &&& 31)))))), (mso, .inl (cs 0, 16, .inl sof)), (man, .inl (cs 0, 16, .inl anf))] H := hP
    replace hD : va_D A [(mon, .inl (cs 0, 16, .inl onf)), (mot, .inl (cs 0, 16, .inl otf)), (hm, .inr (12, [.ref ms, .ref mkp, .int (nI km), .ref mtr, .int (nI n), .int (nI k), .int (nI al), .int (nI be), .int ea, .int pr, .ref mas, .int nq, .int (po + (nI 1)), .int (nI en), .ref mso, .ref mon, .ref mot, .ref man, .int th, .int xd, .ref mst, .ref msm, .ref mtb, .ref mti, .ref mfr, .ref mbn, .ref mbs, .ref mde, .int sF, .int sN, .int sS, .int ig, .long xa, .long xb, .ref maa, .ref mab, .ref mba, .ref mbb])), (ms, .inl (cs 0, 288, .inl (upd (upd f (72 + a) ((f (72 + a)) ||| ((nI 1) <<< ((nI e0) &&& 31)))) (64 + a) (((upd f (72 + a) ((f (72 + a)) ||| ((nI 1) <<< ((nI e0) &&& 31)))) (64 + a)) ||| ((nI 1) <<< ((nI e0) &&& 31)))))), (mso, .inl (cs 0, 16, .inl sof)), (man, .inl (cs 0, 16, .inl anf))] := hD
    refine lv_aload_n hx hb dX12_pollsOne_66 rfl (lv_at hl 1 rfl) ?_
    refine xget C hP 2 rfl rfl zuX12 17 (by decide) zw5_230 rfl dX12_pollsOne_67 ?_
    refine lv_iload_n hx hb dX12_pollsOne_70 rfl (lv_at hl 3 rfl) ?_
    refine xiald C hP 5 rfl e0 rfl (by omega) (by decide) dX12_pollsOne_71 ?_
    refine lv_iconst (v := nI 1) hx hb dX12_pollsOne_72 (by decide) ?_
    refine lv_iload_n hx hb dX12_pollsOne_73 rfl (lv_at hl 3 rfl) ?_
    refine lv_ishl hx hb dX12_pollsOne_74 ?_
    refine lv_ior hx hb dX12_pollsOne_75 ?_
    refine lv_istore (lv' := [(5, .int ((anf e0) ||| ((nI 1) <<< ((nI e0) &&& 31)))), (4, .int (nI 1)), (0, .ref hm), (1, .int (nI a)), (2, .int (nI e0)), (3, .int x)]) hx hb dX12_pollsOne_76 hl (by decide) rfl ?_
    clear hl
    try clear ls
    intro ls hl
    refine lv_iconst (v := nI 0) hx hb dX12_pollsOne_78 (by decide) ?_
    refine lv_istore (lv' := [(6, .int (nI 0)), (5, .int ((anf e0) ||| ((nI 1) <<< ((nI e0) &&& 31)))), (4, .int (nI 1)), (0, .ref hm), (1, .int (nI a)), (2, .int (nI e0)), (3, .int x)]) hx hb dX12_pollsOne_79 hl (by decide) rfl ?_
    clear hl
    try clear ls
    intro ls hl
    have loop_24 : ∀ (n_loop_24 : Nat) (o : Nat) (f9 : Nat → Int32), (o ≤ en) → (colP f9) → en - o < n_loop_24 → ∀ (H : Heap) (locs : List Loc) (ls : Array Slot), va_P D vwCl [(mon, .inl (cs 0, 16, .inl onf)), (mot, .inl (cs 0, 16, .inl otf)), (hm, .inr (12, [.ref ms, .ref mkp, .int (nI km), .ref mtr, .int (nI n), .int (nI k), .int (nI al), .int (nI be), .int ea, .int pr, .ref mas, .int nq, .int (po + (nI 1)), .int (nI en), .ref mso, .ref mon, .ref mot, .ref man, .int th, .int xd, .ref mst, .ref msm, .ref mtb, .ref mti, .ref mfr, .ref mbn, .ref mbs, .ref mde, .int sF, .int sN, .int sS, .int ig, .long xa, .long xb, .ref maa, .ref mab, .ref mba, .ref mbb])), (ms, .inl (cs 0, 288, .inl f9)), (mso, .inl (cs 0, 16, .inl sof)), (man, .inl (cs 0, 16, .inl anf))] H → va_D A [(mon, .inl (cs 0, 16, .inl onf)), (mot, .inl (cs 0, 16, .inl otf)), (hm, .inr (12, [.ref ms, .ref mkp, .int (nI km), .ref mtr, .int (nI n), .int (nI k), .int (nI al), .int (nI be), .int ea, .int pr, .ref mas, .int nq, .int (po + (nI 1)), .int (nI en), .ref mso, .ref mon, .ref mot, .ref man, .int th, .int xd, .ref mst, .ref msm, .ref mtb, .ref mti, .ref mfr, .ref mbn, .ref mbs, .ref mde, .int sF, .int sN, .int sS, .int ig, .long xa, .long xb, .ref maa, .ref mab, .ref mba, .ref mbb])), (ms, .inl (cs 0, 288, .inl f9)), (mso, .inl (cs 0, 16, .inl sof)), (man, .inl (cs 0, 16, .inl anf))] → va_S A s.heap H locs → lv_has ls 8 [(6, .int (nI o)), (5, .int ((anf e0) ||| ((nI 1) <<< ((nI e0) &&& 31)))), (4, .int (nI 1)), (0, .ref hm), (1, .int (nI a)), (2, .int (nI e0)), (3, .int x)] → W p l e ({ frames := 4, cells := 0, slots := 0, locals := 93 } : Room) s m args below meth c H locs 0 0 (MQ below ((xQi D (fun (r : Int32) (u : (Nat → Int32) × Int32) => match u with | (fz, poz) => colP fz) (fun (u : (Nat → Int32) × Int32) => match u with | (fz, poz) => [(hm, .inr (12, [.ref ms, .ref mkp, .int (nI km), .ref mtr, .int (nI n), .int (nI k), .int (nI al), .int (nI be), .int ea, .int pr, .ref mas, .int nq, .int poz, .int (nI en), .ref mso, .ref mon, .ref mot, .ref man, .int th, .int xd, .ref mst, .ref msm, .ref mtb, .ref mti, .ref mfr, .ref mbn, .ref mbs, .ref mde, .int sF, .int sN, .int sS, .int ig, .long xa, .long xb, .ref maa, .ref mab, .ref mba, .ref mbb])), (ms, .inl (cs 0, 288, .inl fz)), (mso, .inl (cs 0, 16, .inl sof)), (mon, .inl (cs 0, 16, .inl onf)), (mot, .inl (cs 0, 16, .inl otf)), (man, .inl (cs 0, 16, .inl anf))])) A) args s 0 0 A) (F0 m 81 ls []) := by
      intro n_loop_24
      induction n_loop_24 with
      | zero => intro o f9 h_o hs9 hlt H locs ls hP hD hS hl; exact absurd hlt (Nat.not_lt_zero _)
      | succ n_loop_24 ih_loop_24 =>
        intro o f9 h_o hs9 hlt_loop_24 H locs ls hP hD hS hl
        refine lv_iload hx hb dX12_pollsOne_81 (lv_at hl 0 rfl) ?_
        refine lv_aload_n hx hb dX12_pollsOne_83 rfl (lv_at hl 3 rfl) ?_
        refine xget C hP 2 rfl rfl zuX12 13 (by decide) zw5_226 rfl dX12_pollsOne_84 ?_
        refine lv_icmp_ge (tgt := 130) hx hb dX12_pollsOne_87 (by decide) (fun c_25 => ?_) (fun c_25 => ?_)
        · -- 87 t
          have fc_25 : en ≤ o := nf_le (by omega) (by omega) c_25
          refine lv_iconst (v := nI 0) hx hb dX12_pollsOne_130 (by decide) ?_
          refine lv_istore (lv' := [(6, .int (nI 0)), (5, .int ((anf e0) ||| ((nI 1) <<< ((nI e0) &&& 31)))), (4, .int (nI 1)), (0, .ref hm), (1, .int (nI a)), (2, .int (nI e0)), (3, .int x)]) hx hb dX12_pollsOne_131 hl (by decide) rfl ?_
          clear hl
          try clear ls
          intro ls hl
          refine lv_iconst (v := nI 0) hx hb dX12_pollsOne_133 (by decide) ?_
          refine lv_istore (lv' := [(7, .int (nI 0)), (6, .int (nI 0)), (5, .int ((anf e0) ||| ((nI 1) <<< ((nI e0) &&& 31)))), (4, .int (nI 1)), (0, .ref hm), (1, .int (nI a)), (2, .int (nI e0)), (3, .int x)]) hx hb dX12_pollsOne_134 hl (by decide) rfl ?_
          clear hl
          try clear ls
          intro ls hl
          have loop_26 : ∀ (n_loop_26 : Nat) (o2 : Nat) (f8 : Nat → Int32) (i9 : Int32), (o2 ≤ en) → (colP f8) → en - o2 < n_loop_26 → ∀ (H : Heap) (locs : List Loc) (ls : Array Slot), va_P D vwCl [(mon, .inl (cs 0, 16, .inl onf)), (mot, .inl (cs 0, 16, .inl otf)), (hm, .inr (12, [.ref ms, .ref mkp, .int (nI km), .ref mtr, .int (nI n), .int (nI k), .int (nI al), .int (nI be), .int ea, .int pr, .ref mas, .int nq, .int (po + (nI 1)), .int (nI en), .ref mso, .ref mon, .ref mot, .ref man, .int th, .int xd, .ref mst, .ref msm, .ref mtb, .ref mti, .ref mfr, .ref mbn, .ref mbs, .ref mde, .int sF, .int sN, .int sS, .int ig, .long xa, .long xb, .ref maa, .ref mab, .ref mba, .ref mbb])), (ms, .inl (cs 0, 288, .inl f8)), (mso, .inl (cs 0, 16, .inl sof)), (man, .inl (cs 0, 16, .inl anf))] H → va_D A [(mon, .inl (cs 0, 16, .inl onf)), (mot, .inl (cs 0, 16, .inl otf)), (hm, .inr (12, [.ref ms, .ref mkp, .int (nI km), .ref mtr, .int (nI n), .int (nI k), .int (nI al), .int (nI be), .int ea, .int pr, .ref mas, .int nq, .int (po + (nI 1)), .int (nI en), .ref mso, .ref mon, .ref mot, .ref man, .int th, .int xd, .ref mst, .ref msm, .ref mtb, .ref mti, .ref mfr, .ref mbn, .ref mbs, .ref mde, .int sF, .int sN, .int sS, .int ig, .long xa, .long xb, .ref maa, .ref mab, .ref mba, .ref mbb])), (ms, .inl (cs 0, 288, .inl f8)), (mso, .inl (cs 0, 16, .inl sof)), (man, .inl (cs 0, 16, .inl anf))] → va_S A s.heap H locs → lv_has ls 8 [(7, .int (nI o2)), (6, .int i9), (5, .int ((anf e0) ||| ((nI 1) <<< ((nI e0) &&& 31)))), (4, .int (nI 1)), (0, .ref hm), (1, .int (nI a)), (2, .int (nI e0)), (3, .int x)] → W p l e ({ frames := 4, cells := 0, slots := 0, locals := 93 } : Room) s m args below meth c H locs 0 0 (MQ below ((xQi D (fun (r : Int32) (u : (Nat → Int32) × Int32) => match u with | (fz, poz) => colP fz) (fun (u : (Nat → Int32) × Int32) => match u with | (fz, poz) => [(hm, .inr (12, [.ref ms, .ref mkp, .int (nI km), .ref mtr, .int (nI n), .int (nI k), .int (nI al), .int (nI be), .int ea, .int pr, .ref mas, .int nq, .int poz, .int (nI en), .ref mso, .ref mon, .ref mot, .ref man, .int th, .int xd, .ref mst, .ref msm, .ref mtb, .ref mti, .ref mfr, .ref mbn, .ref mbs, .ref mde, .int sF, .int sN, .int sS, .int ig, .long xa, .long xb, .ref maa, .ref mab, .ref mba, .ref mbb])), (ms, .inl (cs 0, 288, .inl fz)), (mso, .inl (cs 0, 16, .inl sof)), (mon, .inl (cs 0, 16, .inl onf)), (mot, .inl (cs 0, 16, .inl otf)), (man, .inl (cs 0, 16, .inl anf))])) A) args s 0 0 A) (F0 m 136 ls []) := by
            intro n_loop_26
            induction n_loop_26 with
            | zero => intro o2 f8 i9 h_o2 hs8 hlt H locs ls hP hD hS hl; exact absurd hlt (Nat.not_lt_zero _)
            | succ n_loop_26 ih_loop_26 =>
              intro o2 f8 i9 h_o2 hs8 hlt_loop_26 H locs ls hP hD hS hl
              refine lv_iload hx hb dX12_pollsOne_136 (lv_at hl 0 rfl) ?_
              refine lv_aload_n hx hb dX12_pollsOne_138 rfl (lv_at hl 4 rfl) ?_
              refine xget C hP 2 rfl rfl zuX12 13 (by decide) zw5_226 rfl dX12_pollsOne_139 ?_
              refine lv_icmp_ge (tgt := 174) hx hb dX12_pollsOne_142 (by decide) (fun c_27 => ?_) (fun c_27 => ?_)
              · -- 142 t
                have fc_27 : en ≤ o2 := nf_le (by omega) (by omega) c_27
                refine lv_iload hx hb dX12_pollsOne_174 (lv_at hl 1 rfl) ?_
                refine lv_if_eq (tgt := 183) hx hb dX12_pollsOne_176 (by decide) (fun c_28 => ?_) (fun c_28 => ?_)
                · -- 176 t
                  refine lv_iload hx hb dX12_pollsOne_183 (lv_at hl 3 rfl) ?_
                  refine lv_if_eq (tgt := 192) hx hb dX12_pollsOne_185 (by decide) (fun c => absurd c (by decide)) (fun _ => ?_)
                  refine lv_iconst (v := nI 1) hx hb dX12_pollsOne_188 (by decide) ?_
                  refine lv_goto (tgt := 193) hx hb dX12_pollsOne_189 (by decide) ?_
                  exact xreti C (⟨f8, (po + (nI 1))⟩) hs8 (xP_map hP [2, 3, 4, 0, 1, 5] rfl) (hD.sub [2, 3, 4, 0, 1, 5] (by decide +kernel) rfl) hS (Nat.le_of_ble_eq_true rfl) (Nat.le_of_ble_eq_true rfl) rfl dX12_pollsOne_193
                · -- 176 f
                  refine lv_iconst (v := nI 2) hx hb dX12_pollsOne_179 (by decide) ?_
                  refine lv_goto (tgt := 193) hx hb dX12_pollsOne_180 (by decide) ?_
                  exact xreti C (⟨f8, (po + (nI 1))⟩) hs8 (xP_map hP [2, 3, 4, 0, 1, 5] rfl) (hD.sub [2, 3, 4, 0, 1, 5] (by decide +kernel) rfl) hS (Nat.le_of_ble_eq_true rfl) (Nat.le_of_ble_eq_true rfl) rfl dX12_pollsOne_193
              · -- 142 f
                have fc_27 : o2 < en := nf_nle (by omega) (by omega) c_27
                refine lv_iload hx hb dX12_pollsOne_145 (lv_at hl 2 rfl) ?_
                refine lv_iload hx hb dX12_pollsOne_147 (lv_at hl 0 rfl) ?_
                refine xi (wr := [(mon, .inl (cs 0, 16, .inl onf)), (mot, .inl (cs 0, 16, .inl otf)), (hm, .inr (12, [.ref ms, .ref mkp, .int (nI km), .ref mtr, .int (nI n), .int (nI k), .int (nI al), .int (nI be), .int ea, .int pr, .ref mas, .int nq, .int (po + (nI 1)), .int (nI en), .ref mso, .ref mon, .ref mot, .ref man, .int th, .int xd, .ref mst, .ref msm, .ref mtb, .ref mti, .ref mfr, .ref mbn, .ref mbs, .ref mde, .int sF, .int sN, .int sS, .int ig, .long xa, .long xb, .ref maa, .ref mab, .ref mba, .ref mbb])), (ms, .inl (cs 0, 288, .inl f8)), (mso, .inl (cs 0, 16, .inl sof)), (man, .inl (cs 0, 16, .inl anf))]) (xS (As := [.int ((anf e0) ||| ((nI 1) <<< ((nI e0) &&& 31))), .int (nI o2)]) (rest := []) C (c_X12_has l D cs ((anf e0) ||| ((nI 1) <<< ((nI e0) &&& 31))) o2) kX12_100 hP hD [] rfl (by decide +kernel) ⟨Nat.le_of_ble_eq_true rfl, Nat.le_of_ble_eq_true rfl⟩ rfl hl.1 rfl (Nat.le_of_ble_eq_true rfl) dX12_pollsOne_149 ⟨Nat.le_of_ble_eq_true rfl, Nat.le_of_ble_eq_true rfl⟩) hP hD hS hA [] [0, 1, 2, 3, 4, 5] rfl rfl (by decide +kernel) (by decide +kernel) ?_
                clear hP hD hS
                try clear locs
                try clear H
                intro r_29 u_30 H locs hw_r_29 hP hD hS
                have hw_r_29 : PQ (hasB ((anf e0) ||| ((nI 1) <<< ((nI e0) &&& 31))) o2) r_29 (nI 1) (nI 0) := hw_r_29
                refine W.widen (k := 0) (n := 0) (Nat.le_of_ble_eq_true rfl) (Nat.le_of_ble_eq_true rfl) ?_
                replace hP : va_P D vwCl [(mon, .inl (cs 0, 16, .inl onf)), (mot, .inl (cs 0, 16, .inl otf)), (hm, .inr (12, [.ref ms, .ref mkp, .int (nI km), .ref mtr, .int (nI n), .int (nI k), .int (nI al), .int (nI be), .int ea, .int pr, .ref mas, .int nq, .int (po + (nI 1)), .int (nI en), .ref mso, .ref mon, .ref mot, .ref man, .int th, .int xd, .ref mst, .ref msm, .ref mtb, .ref mti, .ref mfr, .ref mbn, .ref mbs, .ref mde, .int sF, .int sN, .int sS, .int ig, .long xa, .long xb, .ref maa, .ref mab, .ref mba, .ref mbb])), (ms, .inl (cs 0, 288, .inl f8)), (mso, .inl (cs 0, 16, .inl sof)), (man, .inl (cs 0, 16, .inl anf))] H := hP
                replace hD : va_D A [(mon, .inl (cs 0, 16, .inl onf)), (mot, .inl (cs 0, 16, .inl otf)), (hm, .inr (12, [.ref ms, .ref mkp, .int (nI km), .ref mtr, .int (nI n), .int (nI k), .int (nI al), .int (nI be), .int ea, .int pr, .ref mas, .int nq, .int (po + (nI 1)), .int (nI en), .ref mso, .ref mon, .ref mot, .ref man, .int th, .int xd, .ref mst, .ref msm, .ref mtb, .ref mti, .ref mfr, .ref mbn, .ref mbs, .ref mde, .int sF, .int sN, .int sS, .int ig, .long xa, .long xb, .ref maa, .ref mab, .ref mba, .ref mbb])), (ms, .inl (cs 0, 288, .inl f8)), (mso, .inl (cs 0, 16, .inl sof)), (man, .inl (cs 0, 16, .inl anf))] := hD
                refine lv_if_eq (tgt := 168) hx hb dX12_pollsOne_152 (by decide) (fun c_31 => ?_) (fun c_31 => ?_)
                · -- 152 t
                  refine lv_iinc (v := nI (o2 + 1)) (lv' := [(7, .int (nI (o2 + 1))), (6, .int i9), (5, .int ((anf e0) ||| ((nI 1) <<< ((nI e0) &&& 31)))), (4, .int (nI 1)), (0, .ref hm), (1, .int (nI a)), (2, .int (nI e0)), (3, .int x)]) hx hb dX12_pollsOne_168 hl (k := 0) rfl (nI_add o2 1) (by decide) rfl ?_
                  clear hl
                  try clear ls
                  intro ls hl
                  refine lv_goto (tgt := 136) hx hb dX12_pollsOne_171 (by decide) ?_
                  exact ih_loop_26 (o2 + 1) f8 i9 (by omega) hs8 (by omega) H locs ls hP hD hS (lv_sub hl [0, 1, 2, 3, 4, 5, 6, 7] rfl)
                · -- 152 f
                  refine lv_aload_n hx hb dX12_pollsOne_155 rfl (lv_at hl 4 rfl) ?_
                  refine lv_iload_n hx hb dX12_pollsOne_156 rfl (lv_at hl 5 rfl) ?_
                  refine lv_iload hx hb dX12_pollsOne_157 (lv_at hl 0 rfl) ?_
                  refine xi (wr := [(man, .inl (cs 0, 16, .inl anf))]) (xV (As := [.int (nI a), .int (nI o2)]) (rest := []) C (c_X12_accepts l D cs hm ms mkp mtr mas mso mon mot man mst msm mtb mti mfr mbn mbs mde maa mab mba mbb n k al be km en ea pr nq (po + (nI 1)) th xd sF sN sS ig xa xb f8 sof onf otf a o2 hen hso hs8 ha (by omega)) kX12_333 hP hD [2, 3, 4, 0, 1] rfl (by decide +kernel) 0 rfl rfl rfl ⟨Nat.le_of_ble_eq_true rfl, Nat.le_of_ble_eq_true rfl⟩ rfl hl.1 rfl (Nat.le_of_ble_eq_true rfl) dX12_pollsOne_159 ⟨Nat.le_of_ble_eq_true rfl, Nat.le_of_ble_eq_true rfl⟩) hP hD hS hA [2, 3, 4, 0, 1] [5] rfl rfl (by decide +kernel) (by decide +kernel) ?_
                  clear hP hD hS
                  try clear locs
                  try clear H
                  intro r_32 u_33 H locs hw_r_32 hP hD hS
                  have hw_r_32 : (r_32 = nI 0 ∨ r_32 = nI 1) ∧ colP u_33 := hw_r_32
                  refine W.widen (k := 0) (n := 0) (Nat.le_of_ble_eq_true rfl) (Nat.le_of_ble_eq_true rfl) ?_
                  replace hP : va_P D vwCl [(man, .inl (cs 0, 16, .inl anf)), (hm, .inr (12, [.ref ms, .ref mkp, .int (nI km), .ref mtr, .int (nI n), .int (nI k), .int (nI al), .int (nI be), .int ea, .int pr, .ref mas, .int nq, .int (po + (nI 1)), .int (nI en), .ref mso, .ref mon, .ref mot, .ref man, .int th, .int xd, .ref mst, .ref msm, .ref mtb, .ref mti, .ref mfr, .ref mbn, .ref mbs, .ref mde, .int sF, .int sN, .int sS, .int ig, .long xa, .long xb, .ref maa, .ref mab, .ref mba, .ref mbb])), (ms, .inl (cs 0, 288, .inl u_33)), (mso, .inl (cs 0, 16, .inl sof)), (mon, .inl (cs 0, 16, .inl onf)), (mot, .inl (cs 0, 16, .inl otf))] H := hP
                  replace hD : va_D A [(man, .inl (cs 0, 16, .inl anf)), (hm, .inr (12, [.ref ms, .ref mkp, .int (nI km), .ref mtr, .int (nI n), .int (nI k), .int (nI al), .int (nI be), .int ea, .int pr, .ref mas, .int nq, .int (po + (nI 1)), .int (nI en), .ref mso, .ref mon, .ref mot, .ref man, .int th, .int xd, .ref mst, .ref msm, .ref mtb, .ref mti, .ref mfr, .ref mbn, .ref mbs, .ref mde, .int sF, .int sN, .int sS, .int ig, .long xa, .long xb, .ref maa, .ref mab, .ref mba, .ref mbb])), (ms, .inl (cs 0, 288, .inl u_33)), (mso, .inl (cs 0, 16, .inl sof)), (mon, .inl (cs 0, 16, .inl onf)), (mot, .inl (cs 0, 16, .inl otf))] := hD
                  refine lv_if_eq (tgt := 168) hx hb dX12_pollsOne_162 (by decide) (fun c_34 => ?_) (fun c_34 => ?_)
                  · -- 162 t
                    refine lv_iinc (v := nI (o2 + 1)) (lv' := [(7, .int (nI (o2 + 1))), (6, .int i9), (5, .int ((anf e0) ||| ((nI 1) <<< ((nI e0) &&& 31)))), (4, .int (nI 1)), (0, .ref hm), (1, .int (nI a)), (2, .int (nI e0)), (3, .int x)]) hx hb dX12_pollsOne_168 hl (k := 0) rfl (nI_add o2 1) (by decide) rfl ?_
                    clear hl
                    try clear ls
                    intro ls hl
                    refine lv_goto (tgt := 136) hx hb dX12_pollsOne_171 (by decide) ?_
                    exact ih_loop_26 (o2 + 1) u_33 i9 (by omega) hw_r_32.2 (by omega) H locs ls (xP_map hP [4, 5, 1, 2, 3, 0] rfl) (hD.sub [4, 5, 1, 2, 3, 0] (by decide +kernel) rfl) hS (lv_sub hl [0, 1, 2, 3, 4, 5, 6, 7] rfl)
                  · -- 162 f
                    refine lv_iconst (v := nI 1) hx hb dX12_pollsOne_165 (by decide) ?_
                    refine lv_istore (lv' := [(6, .int (nI 1)), (7, .int (nI o2)), (5, .int ((anf e0) ||| ((nI 1) <<< ((nI e0) &&& 31)))), (4, .int (nI 1)), (0, .ref hm), (1, .int (nI a)), (2, .int (nI e0)), (3, .int x)]) hx hb dX12_pollsOne_166 hl (by decide) rfl ?_
                    clear hl
                    try clear ls
                    intro ls hl
                    refine lv_iinc (v := nI (o2 + 1)) (lv' := [(7, .int (nI (o2 + 1))), (6, .int (nI 1)), (5, .int ((anf e0) ||| ((nI 1) <<< ((nI e0) &&& 31)))), (4, .int (nI 1)), (0, .ref hm), (1, .int (nI a)), (2, .int (nI e0)), (3, .int x)]) hx hb dX12_pollsOne_168 hl (k := 1) rfl (nI_add o2 1) (by decide) rfl ?_
                    clear hl
                    try clear ls
                    intro ls hl
                    refine lv_goto (tgt := 136) hx hb dX12_pollsOne_171 (by decide) ?_
                    exact ih_loop_26 (o2 + 1) u_33 (nI 1) (by omega) hw_r_32.2 (by omega) H locs ls (xP_map hP [4, 5, 1, 2, 3, 0] rfl) (hD.sub [4, 5, 1, 2, 3, 0] (by decide +kernel) rfl) hS (lv_sub hl [0, 1, 2, 3, 4, 5, 6, 7] rfl)
          exact loop_26 _ 0 f9 (nI 0) (by omega) hs9 (Nat.lt_succ_self _) H locs ls hP hD hS (lv_sub hl [0, 1, 2, 3, 4, 5, 6, 7] rfl)
        · -- 87 f
          have fc_25 : o < en := nf_nle (by omega) (by omega) c_25
          refine lv_iload hx hb dX12_pollsOne_90 (lv_at hl 1 rfl) ?_
          refine lv_iload hx hb dX12_pollsOne_92 (lv_at hl 0 rfl) ?_
          refine xi (wr := [(mon, .inl (cs 0, 16, .inl onf)), (mot, .inl (cs 0, 16, .inl otf)), (hm, .inr (12, [.ref ms, .ref mkp, .int (nI km), .ref mtr, .int (nI n), .int (nI k), .int (nI al), .int (nI be), .int ea, .int pr, .ref mas, .int nq, .int (po + (nI 1)), .int (nI en), .ref mso, .ref mon, .ref mot, .ref man, .int th, .int xd, .ref mst, .ref msm, .ref mtb, .ref mti, .ref mfr, .ref mbn, .ref mbs, .ref mde, .int sF, .int sN, .int sS, .int ig, .long xa, .long xb, .ref maa, .ref mab, .ref mba, .ref mbb])), (ms, .inl (cs 0, 288, .inl f9)), (mso, .inl (cs 0, 16, .inl sof)), (man, .inl (cs 0, 16, .inl anf))]) (xS (As := [.int ((anf e0) ||| ((nI 1) <<< ((nI e0) &&& 31))), .int (nI o)]) (rest := []) C (c_X12_has l D cs ((anf e0) ||| ((nI 1) <<< ((nI e0) &&& 31))) o) kX12_100 hP hD [] rfl (by decide +kernel) ⟨Nat.le_of_ble_eq_true rfl, Nat.le_of_ble_eq_true rfl⟩ rfl hl.1 rfl (Nat.le_of_ble_eq_true rfl) dX12_pollsOne_94 ⟨Nat.le_of_ble_eq_true rfl, Nat.le_of_ble_eq_true rfl⟩) hP hD hS hA [] [0, 1, 2, 3, 4, 5] rfl rfl (by decide +kernel) (by decide +kernel) ?_
          clear hP hD hS
          try clear locs
          try clear H
          intro r_35 u_36 H locs hw_r_35 hP hD hS
          have hw_r_35 : PQ (hasB ((anf e0) ||| ((nI 1) <<< ((nI e0) &&& 31))) o) r_35 (nI 1) (nI 0) := hw_r_35
          refine W.widen (k := 0) (n := 0) (Nat.le_of_ble_eq_true rfl) (Nat.le_of_ble_eq_true rfl) ?_
          replace hP : va_P D vwCl [(mon, .inl (cs 0, 16, .inl onf)), (mot, .inl (cs 0, 16, .inl otf)), (hm, .inr (12, [.ref ms, .ref mkp, .int (nI km), .ref mtr, .int (nI n), .int (nI k), .int (nI al), .int (nI be), .int ea, .int pr, .ref mas, .int nq, .int (po + (nI 1)), .int (nI en), .ref mso, .ref mon, .ref mot, .ref man, .int th, .int xd, .ref mst, .ref msm, .ref mtb, .ref mti, .ref mfr, .ref mbn, .ref mbs, .ref mde, .int sF, .int sN, .int sS, .int ig, .long xa, .long xb, .ref maa, .ref mab, .ref mba, .ref mbb])), (ms, .inl (cs 0, 288, .inl f9)), (mso, .inl (cs 0, 16, .inl sof)), (man, .inl (cs 0, 16, .inl anf))] H := hP
          replace hD : va_D A [(mon, .inl (cs 0, 16, .inl onf)), (mot, .inl (cs 0, 16, .inl otf)), (hm, .inr (12, [.ref ms, .ref mkp, .int (nI km), .ref mtr, .int (nI n), .int (nI k), .int (nI al), .int (nI be), .int ea, .int pr, .ref mas, .int nq, .int (po + (nI 1)), .int (nI en), .ref mso, .ref mon, .ref mot, .ref man, .int th, .int xd, .ref mst, .ref msm, .ref mtb, .ref mti, .ref mfr, .ref mbn, .ref mbs, .ref mde, .int sF, .int sN, .int sS, .int ig, .long xa, .long xb, .ref maa, .ref mab, .ref mba, .ref mbb])), (ms, .inl (cs 0, 288, .inl f9)), (mso, .inl (cs 0, 16, .inl sof)), (man, .inl (cs 0, 16, .inl anf))] := hD
          refine lv_if_eq (tgt := 124) hx hb dX12_pollsOne_97 (by decide) (fun c_37 => ?_) (fun c_37 => ?_)
          · -- 97 t
            refine lv_iinc (v := nI (o + 1)) (lv' := [(6, .int (nI (o + 1))), (5, .int ((anf e0) ||| ((nI 1) <<< ((nI e0) &&& 31)))), (4, .int (nI 1)), (0, .ref hm), (1, .int (nI a)), (2, .int (nI e0)), (3, .int x)]) hx hb dX12_pollsOne_124 hl (k := 0) rfl (nI_add o 1) (by decide) rfl ?_
            clear hl
            try clear ls
            intro ls hl
            refine lv_goto (tgt := 81) hx hb dX12_pollsOne_127 (by decide) ?_
            exact ih_loop_24 (o + 1) f9 (by omega) hs9 (by omega) H locs ls hP hD hS (lv_sub hl [0, 1, 2, 3, 4, 5, 6] rfl)
          · -- 97 f
            refine lv_aload_n hx hb dX12_pollsOne_100 rfl (lv_at hl 3 rfl) ?_
            refine lv_iload_n hx hb dX12_pollsOne_101 rfl (lv_at hl 4 rfl) ?_
            refine lv_aload_n hx hb dX12_pollsOne_102 rfl (lv_at hl 3 rfl) ?_
            refine xget C hP 2 rfl rfl zuX12 14 (by decide) zw5_227 rfl dX12_pollsOne_103 ?_
            refine lv_iload hx hb dX12_pollsOne_106 (lv_at hl 0 rfl) ?_
            refine xiald C hP 4 rfl o rfl (by omega) (by decide) dX12_pollsOne_108 ?_
            obtain ⟨t_38, h_t_38, e_t_38⟩ := (hso o (by omega))
            refine lv_topi (nm_r (e' := nI t_38) e_t_38 ?_)
            refine xi (wr := [(mon, .inl (cs 0, 16, .inl onf)), (mot, .inl (cs 0, 16, .inl otf)), (man, .inl (cs 0, 16, .inl anf))]) (xV (As := [.int (nI a), .int (nI t_38)]) (rest := []) C (c_X12_acceptedOf l D cs hm ms mkp mtr mas mso mon mot man mst msm mtb mti mfr mbn mbs mde maa mab mba mbb n k al be km en ea pr nq (po + (nI 1)) th xd sF sN sS ig xa xb f9 a (nI t_38) sof hen ha) kX12_310 hP hD [2, 3, 4] rfl (by decide +kernel) 0 rfl rfl rfl ⟨Nat.le_of_ble_eq_true rfl, Nat.le_of_ble_eq_true rfl⟩ rfl hl.1 rfl (Nat.le_of_ble_eq_true rfl) dX12_pollsOne_109 ⟨Nat.le_of_ble_eq_true rfl, Nat.le_of_ble_eq_true rfl⟩) hP hD hS hA [2, 3, 4] [0, 1, 5] rfl rfl (by decide +kernel) (by decide +kernel) ?_
            clear hP hD hS
            try clear locs
            try clear H
            intro r_39 u_40 H locs hw_r_39 hP hD hS
            have hw_r_39 : r_39 = -1 ∨ ∃ e, e < en ∧ r_39 = nI e := hw_r_39
            refine W.widen (k := 0) (n := 0) (Nat.le_of_ble_eq_true rfl) (Nat.le_of_ble_eq_true rfl) ?_
            replace hP : va_P D vwCl [(mon, .inl (cs 0, 16, .inl onf)), (mot, .inl (cs 0, 16, .inl otf)), (man, .inl (cs 0, 16, .inl anf)), (hm, .inr (12, [.ref ms, .ref mkp, .int (nI km), .ref mtr, .int (nI n), .int (nI k), .int (nI al), .int (nI be), .int ea, .int pr, .ref mas, .int nq, .int (po + (nI 1)), .int (nI en), .ref mso, .ref mon, .ref mot, .ref man, .int th, .int xd, .ref mst, .ref msm, .ref mtb, .ref mti, .ref mfr, .ref mbn, .ref mbs, .ref mde, .int sF, .int sN, .int sS, .int ig, .long xa, .long xb, .ref maa, .ref mab, .ref mba, .ref mbb])), (ms, .inl (cs 0, 288, .inl f9)), (mso, .inl (cs 0, 16, .inl sof))] H := hP
            replace hD : va_D A [(mon, .inl (cs 0, 16, .inl onf)), (mot, .inl (cs 0, 16, .inl otf)), (man, .inl (cs 0, 16, .inl anf)), (hm, .inr (12, [.ref ms, .ref mkp, .int (nI km), .ref mtr, .int (nI n), .int (nI k), .int (nI al), .int (nI be), .int ea, .int pr, .ref mas, .int nq, .int (po + (nI 1)), .int (nI en), .ref mso, .ref mon, .ref mot, .ref man, .int th, .int xd, .ref mst, .ref msm, .ref mtb, .ref mti, .ref mfr, .ref mbn, .ref mbs, .ref mde, .int sF, .int sN, .int sS, .int ig, .long xa, .long xb, .ref maa, .ref mab, .ref mba, .ref mbb])), (ms, .inl (cs 0, 288, .inl f9)), (mso, .inl (cs 0, 16, .inl sof))] := hD
            refine lv_if_ge (tgt := 124) hx hb dX12_pollsOne_112 (by decide) (fun c_41 => ?_) (fun c_41 => ?_)
            · -- 112 t
              refine lv_iinc (v := nI (o + 1)) (lv' := [(6, .int (nI (o + 1))), (5, .int ((anf e0) ||| ((nI 1) <<< ((nI e0) &&& 31)))), (4, .int (nI 1)), (0, .ref hm), (1, .int (nI a)), (2, .int (nI e0)), (3, .int x)]) hx hb dX12_pollsOne_124 hl (k := 0) rfl (nI_add o 1) (by decide) rfl ?_
              clear hl
              try clear ls
              intro ls hl
              refine lv_goto (tgt := 81) hx hb dX12_pollsOne_127 (by decide) ?_
              exact ih_loop_24 (o + 1) f9 (by omega) hs9 (by omega) H locs ls (xP_map hP [0, 1, 3, 4, 5, 2] rfl) (hD.sub [0, 1, 3, 4, 5, 2] (by decide +kernel) rfl) hS (lv_sub hl [0, 1, 2, 3, 4, 5, 6] rfl)
            · -- 112 f
              refine lv_aload_n hx hb dX12_pollsOne_115 rfl (lv_at hl 3 rfl) ?_
              refine lv_iload_n hx hb dX12_pollsOne_116 rfl (lv_at hl 4 rfl) ?_
              refine lv_iload hx hb dX12_pollsOne_117 (lv_at hl 0 rfl) ?_
              refine lv_iload hx hb dX12_pollsOne_119 (lv_at hl 2 rfl) ?_
              refine xv (wr := [(mon, .inl (cs 0, 16, .inl onf)), (mot, .inl (cs 0, 16, .inl otf))]) (xV (As := [.int (nI a), .int (nI o), .int (nI 1)]) (rest := []) C (c_X12_marks l D cs hm ms mkp mtr mas mso mon mot man mst msm mtb mti mfr mbn mbs mde maa mab mba mbb n k al be km en ea pr nq (po + (nI 1)) th xd sF sN sS ig xa xb f9 a o (nI 1) sof anf hen hso hs9 ha (by omega)) kX12_329 hP hD [3, 4, 5, 2] rfl (by decide +kernel) 0 rfl rfl rfl ⟨Nat.le_of_ble_eq_true rfl, Nat.le_of_ble_eq_true rfl⟩ rfl hl.1 rfl (Nat.le_of_ble_eq_true rfl) dX12_pollsOne_121 ⟨Nat.le_of_ble_eq_true rfl, Nat.le_of_ble_eq_true rfl⟩) hP hD hS hA [3, 4, 5, 2] [0, 1] rfl rfl (by decide +kernel) (by decide +kernel) ?_
              clear hP hD hS
              try clear locs
              try clear H
              intro u_43 H locs hw_r_42 hP hD hS
              have hw_r_42 : colP u_43 := hw_r_42
              refine W.widen (k := 0) (n := 0) (Nat.le_of_ble_eq_true rfl) (Nat.le_of_ble_eq_true rfl) ?_
              replace hP : va_P D vwCl [(mon, .inl (cs 0, 16, .inl onf)), (mot, .inl (cs 0, 16, .inl otf)), (hm, .inr (12, [.ref ms, .ref mkp, .int (nI km), .ref mtr, .int (nI n), .int (nI k), .int (nI al), .int (nI be), .int ea, .int pr, .ref mas, .int nq, .int (po + (nI 1)), .int (nI en), .ref mso, .ref mon, .ref mot, .ref man, .int th, .int xd, .ref mst, .ref msm, .ref mtb, .ref mti, .ref mfr, .ref mbn, .ref mbs, .ref mde, .int sF, .int sN, .int sS, .int ig, .long xa, .long xb, .ref maa, .ref mab, .ref mba, .ref mbb])), (ms, .inl (cs 0, 288, .inl u_43)), (mso, .inl (cs 0, 16, .inl sof)), (man, .inl (cs 0, 16, .inl anf))] H := hP
              replace hD : va_D A [(mon, .inl (cs 0, 16, .inl onf)), (mot, .inl (cs 0, 16, .inl otf)), (hm, .inr (12, [.ref ms, .ref mkp, .int (nI km), .ref mtr, .int (nI n), .int (nI k), .int (nI al), .int (nI be), .int ea, .int pr, .ref mas, .int nq, .int (po + (nI 1)), .int (nI en), .ref mso, .ref mon, .ref mot, .ref man, .int th, .int xd, .ref mst, .ref msm, .ref mtb, .ref mti, .ref mfr, .ref mbn, .ref mbs, .ref mde, .int sF, .int sN, .int sS, .int ig, .long xa, .long xb, .ref maa, .ref mab, .ref mba, .ref mbb])), (ms, .inl (cs 0, 288, .inl u_43)), (mso, .inl (cs 0, 16, .inl sof)), (man, .inl (cs 0, 16, .inl anf))] := hD
              refine lv_iinc (v := nI (o + 1)) (lv' := [(6, .int (nI (o + 1))), (5, .int ((anf e0) ||| ((nI 1) <<< ((nI e0) &&& 31)))), (4, .int (nI 1)), (0, .ref hm), (1, .int (nI a)), (2, .int (nI e0)), (3, .int x)]) hx hb dX12_pollsOne_124 hl (k := 0) rfl (nI_add o 1) (by decide) rfl ?_
              clear hl
              try clear ls
              intro ls hl
              refine lv_goto (tgt := 81) hx hb dX12_pollsOne_127 (by decide) ?_
              exact ih_loop_24 (o + 1) u_43 (by omega) hw_r_42 (by omega) H locs ls hP hD hS (lv_sub hl [0, 1, 2, 3, 4, 5, 6] rfl)
    exact loop_24 _ 0 (upd (upd f (72 + a) ((f (72 + a)) ||| ((nI 1) <<< ((nI e0) &&& 31)))) (64 + a) (((upd f (72 + a) ((f (72 + a)) ||| ((nI 1) <<< ((nI e0) &&& 31)))) (64 + a)) ||| ((nI 1) <<< ((nI e0) &&& 31)))) (by omega) (colP_hi (i := 64 + a) (colP_hi (i := 72 + a) hs ((f (72 + a)) ||| ((nI 1) <<< ((nI e0) &&& 31))) (by omega)) (((upd f (72 + a) ((f (72 + a)) ||| ((nI 1) <<< ((nI e0) &&& 31)))) (64 + a)) ||| ((nI 1) <<< ((nI e0) &&& 31))) (by omega)) (Nat.lt_succ_self _) H locs ls hP hD hS (lv_sub hl [0, 1, 2, 3, 4, 5, 6] rfl)

set_option maxHeartbeats 4000000 in
set_option maxRecDepth 100000 in
theorem c_X12_poll (l : Launch) (D : va_G) (cs : Nat → ClassId) (hm ms mkp mtr mas mso mon mot man mst msm mtb mti mfr mbn mbs mde maa mab mba mbb : Nat) (n k al be km en : Nat) (ea pr nq po th xd sF sN sS ig : Int32) (xa xb : Int64) (f : Nat → Int32) (g : Nat → Int32) (sof onf otf anf : Nat → Int32) (x y b : Int32) (hn : 2 ≤ n ∧ n ≤ 8) (hen : en ≤ 16) (hso : inP 16 8 sof) (hs : colP f) (hk : keptP g) (hkm : km ≤ 8) : xMet l D cs yX12_poll cX12_poll 4 (some .int) ({ frames := 5, cells := 0, slots := 0, locals := 120 } : Room) [.ref hm, .int x, .int y, .int b] [(hm, .inr (12, [.ref ms, .ref mkp, .int (nI km), .ref mtr, .int (nI n), .int (nI k), .int (nI al), .int (nI be), .int ea, .int pr, .ref mas, .int nq, .int po, .int (nI en), .ref mso, .ref mon, .ref mot, .ref man, .int th, .int xd, .ref mst, .ref msm, .ref mtb, .ref mti, .ref mfr, .ref mbn, .ref mbs, .ref mde, .int sF, .int sN, .int sS, .int ig, .long xa, .long xb, .ref maa, .ref mab, .ref mba, .ref mbb])), (ms, .inl (cs 0, 288, .inl f)), (mkp, .inl (cs 0, 2304, .inl g)), (mso, .inl (cs 0, 16, .inl sof)), (mon, .inl (cs 0, 16, .inl onf)), (mot, .inl (cs 0, 16, .inl otf)), (man, .inl (cs 0, 16, .inl anf))] (xQi D (fun (r : Int32) (u : Nat × (Nat → Int32) × (Nat → Int32) × Int32) => match u with | (kmz, fz, gz, poz) => colP fz ∧ keptP gz ∧ kmz ≤ 8) (fun (u : Nat × (Nat → Int32) × (Nat → Int32) × Int32) => match u with | (kmz, fz, gz, poz) => [(hm, .inr (12, [.ref ms, .ref mkp, .int (nI kmz), .ref mtr, .int (nI n), .int (nI k), .int (nI al), .int (nI be), .int ea, .int pr, .ref mas, .int nq, .int poz, .int (nI en), .ref mso, .ref mon, .ref mot, .ref man, .int (nI 0), .int xd, .ref mst, .ref msm, .ref mtb, .ref mti, .ref mfr, .ref mbn, .ref mbs, .ref mde, .int sF, .int sN, .int sS, .int ig, .long xa, .long xb, .ref maa, .ref mab, .ref mba, .ref mbb])), (ms, .inl (cs 0, 288, .inl fz)), (mkp, .inl (cs 0, 2304, .inl gz)), (mso, .inl (cs 0, 16, .inl sof)), (mon, .inl (cs 0, 16, .inl onf)), (mot, .inl (cs 0, 16, .inl otf)), (man, .inl (cs 0, 16, .inl anf))])) := by
  refine xMet.intro (by decide) (Nat.le_of_ble_eq_true rfl) ?_
  intro p e s m args below meth c A ls C hP hD hS hl
  have hx := C.1
  have hb := C.2.1
  have hz := C.2.2.2.2.1
  have hown := C.2.2.2.1
  have hA := C.2.2.2.2.2.2.2.2.2
  have hAO := C.2.2.2.2.2.2.2.2.1.2.2
  replace hl : lv_has ls 4 [(0, .ref hm), (1, .int x), (2, .int y), (3, .int b)] := hl
  obtain ⟨H, hH⟩ : ∃ H, H = s.heap := ⟨_, rfl⟩
  replace hP : va_P D vwCl [(hm, .inr (12, [.ref ms, .ref mkp, .int (nI km), .ref mtr, .int (nI n), .int (nI k), .int (nI al), .int (nI be), .int ea, .int pr, .ref mas, .int nq, .int po, .int (nI en), .ref mso, .ref mon, .ref mot, .ref man, .int th, .int xd, .ref mst, .ref msm, .ref mtb, .ref mti, .ref mfr, .ref mbn, .ref mbs, .ref mde, .int sF, .int sN, .int sS, .int ig, .long xa, .long xb, .ref maa, .ref mab, .ref mba, .ref mbb])), (ms, .inl (cs 0, 288, .inl f)), (mkp, .inl (cs 0, 2304, .inl g)), (mso, .inl (cs 0, 16, .inl sof)), (mon, .inl (cs 0, 16, .inl onf)), (mot, .inl (cs 0, 16, .inl otf)), (man, .inl (cs 0, 16, .inl anf))] H := by rw [hH]; exact hP
  replace hS : va_S A s.heap H [] := by rw [hH]; exact hS
  obtain ⟨locs, hlocs⟩ : ∃ z : List Loc, z = [] := ⟨_, rfl⟩
  rw [← hlocs] at hS
  suffices hW : W p l e ({ frames := 5, cells := 0, slots := 0, locals := 120 } : Room) s m args below meth c H locs 0 0 (MQ below ((xQi D (fun (r : Int32) (u : Nat × (Nat → Int32) × (Nat → Int32) × Int32) => match u with | (kmz, fz, gz, poz) => colP fz ∧ keptP gz ∧ kmz ≤ 8) (fun (u : Nat × (Nat → Int32) × (Nat → Int32) × Int32) => match u with | (kmz, fz, gz, poz) => [(hm, .inr (12, [.ref ms, .ref mkp, .int (nI kmz), .ref mtr, .int (nI n), .int (nI k), .int (nI al), .int (nI be), .int ea, .int pr, .ref mas, .int nq, .int poz, .int (nI en), .ref mso, .ref mon, .ref mot, .ref man, .int (nI 0), .int xd, .ref mst, .ref msm, .ref mtb, .ref mti, .ref mfr, .ref mbn, .ref mbs, .ref mde, .int sF, .int sN, .int sS, .int ig, .long xa, .long xb, .ref maa, .ref mab, .ref mba, .ref mbb])), (ms, .inl (cs 0, 288, .inl fz)), (mkp, .inl (cs 0, 2304, .inl gz)), (mso, .inl (cs 0, 16, .inl sof)), (mon, .inl (cs 0, 16, .inl onf)), (mot, .inl (cs 0, 16, .inl otf)), (man, .inl (cs 0, 16, .inl anf))])) A) args s 0 0 A) (F0 m 0 ls []) by rw [hlocs, hH] at hW; exact hW
  clear hH hlocs
  refine lv_aload_n hx hb dX12_poll_0 rfl (lv_at hl 0 rfl) ?_
  refine lv_iconst (v := nI 0) hx hb dX12_poll_1 (by decide) ?_
  refine xput C hP hD hS 0 rfl rfl zuX12 tyX12 tyX12_ok nmX12 18 (by decide) zw5_231 rfl rfl rfl (Nat.le_of_ble_eq_true rfl) dX12_poll_2 ?_
  clear hP hD hS
  try clear locs
  try clear H
  intro H locs hP hD hS
  replace hP : va_P D vwCl [(hm, .inr (12, [.ref ms, .ref mkp, .int (nI km), .ref mtr, .int (nI n), .int (nI k), .int (nI al), .int (nI be), .int ea, .int pr, .ref mas, .int nq, .int po, .int (nI en), .ref mso, .ref mon, .ref mot, .ref man, .int (nI 0), .int xd, .ref mst, .ref msm, .ref mtb, .ref mti, .ref mfr, .ref mbn, .ref mbs, .ref mde, .int sF, .int sN, .int sS, .int ig, .long xa, .long xb, .ref maa, .ref mab, .ref mba, .ref mbb])), (ms, .inl (cs 0, 288, .inl f)), (mkp, .inl (cs 0, 2304, .inl g)), (mso, .inl (cs 0, 16, .inl sof)), (mon, .inl (cs 0, 16, .inl onf)), (mot, .inl (cs 0, 16, .inl otf)), (man, .inl (cs 0, 16, .inl anf))] H := hP
  replace hD : va_D A [(hm, .inr (12, [.ref ms, .ref mkp, .int (nI km), .ref mtr, .int (nI n), .int (nI k), .int (nI al), .int (nI be), .int ea, .int pr, .ref mas, .int nq, .int po, .int (nI en), .ref mso, .ref mon, .ref mot, .ref man, .int (nI 0), .int xd, .ref mst, .ref msm, .ref mtb, .ref mti, .ref mfr, .ref mbn, .ref mbs, .ref mde, .int sF, .int sN, .int sS, .int ig, .long xa, .long xb, .ref maa, .ref mab, .ref mba, .ref mbb])), (ms, .inl (cs 0, 288, .inl f)), (mkp, .inl (cs 0, 2304, .inl g)), (mso, .inl (cs 0, 16, .inl sof)), (mon, .inl (cs 0, 16, .inl onf)), (mot, .inl (cs 0, 16, .inl otf)), (man, .inl (cs 0, 16, .inl anf))] := hD
  refine lv_aload_n hx hb dX12_poll_5 rfl (lv_at hl 0 rfl) ?_
  refine lv_iload_n hx hb dX12_poll_6 rfl (lv_at hl 1 rfl) ?_
  refine lv_iload_n hx hb dX12_poll_7 rfl (lv_at hl 2 rfl) ?_
  refine lv_iload_n hx hb dX12_poll_8 rfl (lv_at hl 3 rfl) ?_
  refine xi (wr := [(mkp, .inl (cs 0, 2304, .inl g)), (mso, .inl (cs 0, 16, .inl sof)), (mon, .inl (cs 0, 16, .inl onf)), (mot, .inl (cs 0, 16, .inl otf)), (man, .inl (cs 0, 16, .inl anf))]) (xV (As := [.int x, .int y, .int b]) (rest := []) C (c_X12_canPoll l D cs hm ms mkp mtr mas mso mon mot man mst msm mtb mti mfr mbn mbs mde maa mab mba mbb n k al be km en ea pr nq po (nI 0) xd sF sN sS ig xa xb f x y b hn hen) kX12_345 hP hD [0, 1] rfl (by decide +kernel) 0 rfl rfl rfl ⟨Nat.le_of_ble_eq_true rfl, Nat.le_of_ble_eq_true rfl⟩ rfl hl.1 rfl (Nat.le_of_ble_eq_true rfl) dX12_poll_9 ⟨Nat.le_of_ble_eq_true rfl, Nat.le_of_ble_eq_true rfl⟩) hP hD hS hA [0, 1] [2, 3, 4, 5, 6] rfl rfl (by decide +kernel) (by decide +kernel) ?_
  clear hP hD hS
  try clear locs
  try clear H
  intro r_1 u_2 H locs hw_r_1 hP hD hS
  have hw_r_1 : (r_1 = nI 0 ∨ r_1 = nI 1) ∧ (r_1 = nI 1 → okN n x ∧ okN en y) := hw_r_1
  refine W.widen (k := 0) (n := 0) (Nat.le_of_ble_eq_true rfl) (Nat.le_of_ble_eq_true rfl) ?_
  replace hP : va_P D vwCl [(mkp, .inl (cs 0, 2304, .inl g)), (mso, .inl (cs 0, 16, .inl sof)), (mon, .inl (cs 0, 16, .inl onf)), (mot, .inl (cs 0, 16, .inl otf)), (man, .inl (cs 0, 16, .inl anf)), (hm, .inr (12, [.ref ms, .ref mkp, .int (nI km), .ref mtr, .int (nI n), .int (nI k), .int (nI al), .int (nI be), .int ea, .int pr, .ref mas, .int nq, .int po, .int (nI en), .ref mso, .ref mon, .ref mot, .ref man, .int (nI 0), .int xd, .ref mst, .ref msm, .ref mtb, .ref mti, .ref mfr, .ref mbn, .ref mbs, .ref mde, .int sF, .int sN, .int sS, .int ig, .long xa, .long xb, .ref maa, .ref mab, .ref mba, .ref mbb])), (ms, .inl (cs 0, 288, .inl f))] H := hP
  replace hD : va_D A [(mkp, .inl (cs 0, 2304, .inl g)), (mso, .inl (cs 0, 16, .inl sof)), (mon, .inl (cs 0, 16, .inl onf)), (mot, .inl (cs 0, 16, .inl otf)), (man, .inl (cs 0, 16, .inl anf)), (hm, .inr (12, [.ref ms, .ref mkp, .int (nI km), .ref mtr, .int (nI n), .int (nI k), .int (nI al), .int (nI be), .int ea, .int pr, .ref mas, .int nq, .int po, .int (nI en), .ref mso, .ref mon, .ref mot, .ref man, .int (nI 0), .int xd, .ref mst, .ref msm, .ref mtb, .ref mti, .ref mfr, .ref mbn, .ref mbs, .ref mde, .int sF, .int sN, .int sS, .int ig, .long xa, .long xb, .ref maa, .ref mab, .ref mba, .ref mbb])), (ms, .inl (cs 0, 288, .inl f))] := hD
  refine lv_if_ne (tgt := 17) hx hb dX12_poll_12 (by decide) (fun c_3 => ?_) (fun c_3 => ?_)
  · -- 12 t
    have hcp := hw_r_1.2 (hw_r_1.1.resolve_left c_3)
    obtain ⟨i0, h_i0, rfl⟩ := okN_of hcp.1 (by omega)
    obtain ⟨e0, h_e0, rfl⟩ := okN_of hcp.2 (by omega)
    replace hP : va_P D vwCl [(mkp, .inl (cs 0, 2304, .inl g)), (mso, .inl (cs 0, 16, .inl sof)), (mon, .inl (cs 0, 16, .inl onf)), (mot, .inl (cs 0, 16, .inl otf)), (man, .inl (cs 0, 16, .inl anf)), (hm, .inr (12, [.ref ms, .ref mkp, .int (nI km), .ref mtr, .int (nI n), .int (nI k), .int (nI al), .int (nI be), .int ea, .int pr, .ref mas, .int nq, .int po, .int (nI en), .ref mso, .ref mon, .ref mot, .ref man, .int (nI 0), .int xd, .ref mst, .ref msm, .ref mtb, .ref mti, .ref mfr, .ref mbn, .ref mbs, .ref mde, .int sF, .int sN, .int sS, .int ig, .long xa, .long xb, .ref maa, .ref mab, .ref mba, .ref mbb])), (ms, .inl (cs 0, 288, .inl f))] H := hP
    replace hD : va_D A [(mkp, .inl (cs 0, 2304, .inl g)), (mso, .inl (cs 0, 16, .inl sof)), (mon, .inl (cs 0, 16, .inl onf)), (mot, .inl (cs 0, 16, .inl otf)), (man, .inl (cs 0, 16, .inl anf)), (hm, .inr (12, [.ref ms, .ref mkp, .int (nI km), .ref mtr, .int (nI n), .int (nI k), .int (nI al), .int (nI be), .int ea, .int pr, .ref mas, .int nq, .int po, .int (nI en), .ref mso, .ref mon, .ref mot, .ref man, .int (nI 0), .int xd, .ref mst, .ref msm, .ref mtb, .ref mti, .ref mfr, .ref mbn, .ref mbs, .ref mde, .int sF, .int sN, .int sS, .int ig, .long xa, .long xb, .ref maa, .ref mab, .ref mba, .ref mbb])), (ms, .inl (cs 0, 288, .inl f))] := hD
    refine lv_aload_n hx hb dX12_poll_17 rfl (lv_at hl 0 rfl) ?_
    refine xv (wr := [(mso, .inl (cs 0, 16, .inl sof)), (mon, .inl (cs 0, 16, .inl onf)), (mot, .inl (cs 0, 16, .inl otf)), (man, .inl (cs 0, 16, .inl anf))]) (xV (As := []) (rest := []) C (c_X12_keeps l D cs hm ms mkp mtr mas mso mon mot man mst msm mtb mti mfr mbn mbs mde maa mab mba mbb n k al be km en ea pr nq po (nI 0) xd sF sN sS ig xa xb f g hs hk hkm) kX12_124 hP hD [5, 6, 0] rfl (by decide +kernel) 0 rfl rfl rfl ⟨Nat.le_of_ble_eq_true rfl, Nat.le_of_ble_eq_true rfl⟩ rfl hl.1 rfl (Nat.le_of_ble_eq_true rfl) dX12_poll_18 ⟨Nat.le_of_ble_eq_true rfl, Nat.le_of_ble_eq_true rfl⟩) hP hD hS hA [5, 6, 0] [1, 2, 3, 4] rfl rfl (by decide +kernel) (by decide +kernel) ?_
    clear hP hD hS
    try clear locs
    try clear H
    intro u_5 H locs hw_r_4 hP hD hS
    obtain ⟨kmz_6, gz_7⟩ := u_5
    have hw_r_4 : keptP gz_7 ∧ kmz_6 ≤ 8 := hw_r_4
    refine W.widen (k := 0) (n := 0) (Nat.le_of_ble_eq_true rfl) (Nat.le_of_ble_eq_true rfl) ?_
    replace hP : va_P D vwCl [(mso, .inl (cs 0, 16, .inl sof)), (mon, .inl (cs 0, 16, .inl onf)), (mot, .inl (cs 0, 16, .inl otf)), (man, .inl (cs 0, 16, .inl anf)), (hm, .inr (12, [.ref ms, .ref mkp, .int (nI kmz_6), .ref mtr, .int (nI n), .int (nI k), .int (nI al), .int (nI be), .int ea, .int pr, .ref mas, .int nq, .int po, .int (nI en), .ref mso, .ref mon, .ref mot, .ref man, .int (nI 0), .int xd, .ref mst, .ref msm, .ref mtb, .ref mti, .ref mfr, .ref mbn, .ref mbs, .ref mde, .int sF, .int sN, .int sS, .int ig, .long xa, .long xb, .ref maa, .ref mab, .ref mba, .ref mbb])), (ms, .inl (cs 0, 288, .inl f)), (mkp, .inl (cs 0, 2304, .inl gz_7))] H := hP
    replace hD : va_D A [(mso, .inl (cs 0, 16, .inl sof)), (mon, .inl (cs 0, 16, .inl onf)), (mot, .inl (cs 0, 16, .inl otf)), (man, .inl (cs 0, 16, .inl anf)), (hm, .inr (12, [.ref ms, .ref mkp, .int (nI kmz_6), .ref mtr, .int (nI n), .int (nI k), .int (nI al), .int (nI be), .int ea, .int pr, .ref mas, .int nq, .int po, .int (nI en), .ref mso, .ref mon, .ref mot, .ref man, .int (nI 0), .int xd, .ref mst, .ref msm, .ref mtb, .ref mti, .ref mfr, .ref mbn, .ref mbs, .ref mde, .int sF, .int sN, .int sS, .int ig, .long xa, .long xb, .ref maa, .ref mab, .ref mba, .ref mbb])), (ms, .inl (cs 0, 288, .inl f)), (mkp, .inl (cs 0, 2304, .inl gz_7))] := hD
    refine lv_aload_n hx hb dX12_poll_21 rfl (lv_at hl 0 rfl) ?_
    refine lv_iload_n hx hb dX12_poll_22 rfl (lv_at hl 1 rfl) ?_
    refine lv_iload_n hx hb dX12_poll_23 rfl (lv_at hl 2 rfl) ?_
    refine lv_iload_n hx hb dX12_poll_24 rfl (lv_at hl 3 rfl) ?_
    refine xi (wr := [(mkp, .inl (cs 0, 2304, .inl gz_7))]) (xV (As := [.int (nI i0), .int (nI e0), .int b]) (rest := []) C (c_X12_pollsOne l D cs hm ms mkp mtr mas mso mon mot man mst msm mtb mti mfr mbn mbs mde maa mab mba mbb n k al be kmz_6 en ea pr nq po (nI 0) xd sF sN sS ig xa xb f sof onf otf anf i0 e0 b hn hen hso hs (by omega) (by omega)) kX12_348 hP hD [4, 5, 0, 1, 2, 3] rfl (by decide +kernel) 0 rfl rfl rfl ⟨Nat.le_of_ble_eq_true rfl, Nat.le_of_ble_eq_true rfl⟩ rfl hl.1 rfl (Nat.le_of_ble_eq_true rfl) dX12_poll_25 ⟨Nat.le_of_ble_eq_true rfl, Nat.le_of_ble_eq_true rfl⟩) hP hD hS hA [4, 5, 0, 1, 2, 3] [6] rfl rfl (by decide +kernel) (by decide +kernel) ?_
    clear hP hD hS
    try clear locs
    try clear H
    intro r_8 u_9 H locs hw_r_8 hP hD hS
    obtain ⟨fz_10, poz_11⟩ := u_9
    have hw_r_8 : colP fz_10 := hw_r_8
    refine W.widen (k := 0) (n := 0) (Nat.le_of_ble_eq_true rfl) (Nat.le_of_ble_eq_true rfl) ?_
    replace hP : va_P D vwCl [(mkp, .inl (cs 0, 2304, .inl gz_7)), (hm, .inr (12, [.ref ms, .ref mkp, .int (nI kmz_6), .ref mtr, .int (nI n), .int (nI k), .int (nI al), .int (nI be), .int ea, .int pr, .ref mas, .int nq, .int poz_11, .int (nI en), .ref mso, .ref mon, .ref mot, .ref man, .int (nI 0), .int xd, .ref mst, .ref msm, .ref mtb, .ref mti, .ref mfr, .ref mbn, .ref mbs, .ref mde, .int sF, .int sN, .int sS, .int ig, .long xa, .long xb, .ref maa, .ref mab, .ref mba, .ref mbb])), (ms, .inl (cs 0, 288, .inl fz_10)), (mso, .inl (cs 0, 16, .inl sof)), (mon, .inl (cs 0, 16, .inl onf)), (mot, .inl (cs 0, 16, .inl otf)), (man, .inl (cs 0, 16, .inl anf))] H := hP
    replace hD : va_D A [(mkp, .inl (cs 0, 2304, .inl gz_7)), (hm, .inr (12, [.ref ms, .ref mkp, .int (nI kmz_6), .ref mtr, .int (nI n), .int (nI k), .int (nI al), .int (nI be), .int ea, .int pr, .ref mas, .int nq, .int poz_11, .int (nI en), .ref mso, .ref mon, .ref mot, .ref man, .int (nI 0), .int xd, .ref mst, .ref msm, .ref mtb, .ref mti, .ref mfr, .ref mbn, .ref mbs, .ref mde, .int sF, .int sN, .int sS, .int ig, .long xa, .long xb, .ref maa, .ref mab, .ref mba, .ref mbb])), (ms, .inl (cs 0, 288, .inl fz_10)), (mso, .inl (cs 0, 16, .inl sof)), (mon, .inl (cs 0, 16, .inl onf)), (mot, .inl (cs 0, 16, .inl otf)), (man, .inl (cs 0, 16, .inl anf))] := hD
    exact xreti C (⟨kmz_6, fz_10, gz_7, poz_11⟩) (⟨hw_r_8, hw_r_4⟩) (xP_map hP [1, 2, 0, 3, 4, 5, 6] rfl) (hD.sub [1, 2, 0, 3, 4, 5, 6] (by decide +kernel) rfl) hS (Nat.le_of_ble_eq_true rfl) (Nat.le_of_ble_eq_true rfl) rfl dX12_poll_28
  · -- 12 f
    refine lv_iconst (v := (-1)) hx hb dX12_poll_15 (by decide) ?_
    exact xreti C (⟨km, f, g, po⟩) (⟨hs, ⟨hk, hkm⟩⟩) (xP_map hP [5, 6, 0, 1, 2, 3, 4] rfl) (hD.sub [5, 6, 0, 1, 2, 3, 4] (by decide +kernel) rfl) hS (Nat.le_of_ble_eq_true rfl) (Nat.le_of_ble_eq_true rfl) rfl dX12_poll_16

set_option maxHeartbeats 4000000 in
set_option maxRecDepth 100000 in
theorem c_X12_yes (l : Launch) (D : va_G) (cs : Nat → ClassId) (hm ms mkp mtr mas mso mon mot man mst msm mtb mti mfr mbn mbs mde maa mab mba mbb : Nat) (n k al be km en : Nat) (ea pr nq po th xd sF sN sS ig : Int32) (xa xb : Int64) (f : Nat → Int32) (sof anf : Nat → Int32) (x y b : Int32) (hn : 2 ≤ n ∧ n ≤ 8) (hen : en ≤ 16) (hso : inP 16 8 sof) : xMet l D cs yX12_yes cX12_yes 4 (some .int) ({ frames := 4, cells := 0, slots := 0, locals := 93 } : Room) [.ref hm, .int x, .int y, .int b] [(hm, .inr (12, [.ref ms, .ref mkp, .int (nI km), .ref mtr, .int (nI n), .int (nI k), .int (nI al), .int (nI be), .int ea, .int pr, .ref mas, .int nq, .int po, .int (nI en), .ref mso, .ref mon, .ref mot, .ref man, .int th, .int xd, .ref mst, .ref msm, .ref mtb, .ref mti, .ref mfr, .ref mbn, .ref mbs, .ref mde, .int sF, .int sN, .int sS, .int ig, .long xa, .long xb, .ref maa, .ref mab, .ref mba, .ref mbb])), (ms, .inl (cs 0, 288, .inl f)), (mso, .inl (cs 0, 16, .inl sof)), (man, .inl (cs 0, 16, .inl anf))] (xQi D (fun (r : Int32) (_u : Unit) => True) (fun (_u : Unit) => [(hm, .inr (12, [.ref ms, .ref mkp, .int (nI km), .ref mtr, .int (nI n), .int (nI k), .int (nI al), .int (nI be), .int ea, .int pr, .ref mas, .int nq, .int po, .int (nI en), .ref mso, .ref mon, .ref mot, .ref man, .int (nI 0), .int xd, .ref mst, .ref msm, .ref mtb, .ref mti, .ref mfr, .ref mbn, .ref mbs, .ref mde, .int sF, .int sN, .int sS, .int ig, .long xa, .long xb, .ref maa, .ref mab, .ref mba, .ref mbb])), (ms, .inl (cs 0, 288, .inl f)), (mso, .inl (cs 0, 16, .inl sof)), (man, .inl (cs 0, 16, .inl anf))])) := by
  refine xMet.intro (by decide) (Nat.le_of_ble_eq_true rfl) ?_
  intro p e s m args below meth c A ls C hP hD hS hl
  have hx := C.1
  have hb := C.2.1
  have hz := C.2.2.2.2.1
  have hown := C.2.2.2.1
  have hA := C.2.2.2.2.2.2.2.2.2
  have hAO := C.2.2.2.2.2.2.2.2.1.2.2
  replace hl : lv_has ls 4 [(0, .ref hm), (1, .int x), (2, .int y), (3, .int b)] := hl
  obtain ⟨H, hH⟩ : ∃ H, H = s.heap := ⟨_, rfl⟩
  replace hP : va_P D vwCl [(hm, .inr (12, [.ref ms, .ref mkp, .int (nI km), .ref mtr, .int (nI n), .int (nI k), .int (nI al), .int (nI be), .int ea, .int pr, .ref mas, .int nq, .int po, .int (nI en), .ref mso, .ref mon, .ref mot, .ref man, .int th, .int xd, .ref mst, .ref msm, .ref mtb, .ref mti, .ref mfr, .ref mbn, .ref mbs, .ref mde, .int sF, .int sN, .int sS, .int ig, .long xa, .long xb, .ref maa, .ref mab, .ref mba, .ref mbb])), (ms, .inl (cs 0, 288, .inl f)), (mso, .inl (cs 0, 16, .inl sof)), (man, .inl (cs 0, 16, .inl anf))] H := by rw [hH]; exact hP
  replace hS : va_S A s.heap H [] := by rw [hH]; exact hS
  obtain ⟨locs, hlocs⟩ : ∃ z : List Loc, z = [] := ⟨_, rfl⟩
  rw [← hlocs] at hS
  suffices hW : W p l e ({ frames := 4, cells := 0, slots := 0, locals := 93 } : Room) s m args below meth c H locs 0 0 (MQ below ((xQi D (fun (r : Int32) (_u : Unit) => True) (fun (_u : Unit) => [(hm, .inr (12, [.ref ms, .ref mkp, .int (nI km), .ref mtr, .int (nI n), .int (nI k), .int (nI al), .int (nI be), .int ea, .int pr, .ref mas, .int nq, .int po, .int (nI en), .ref mso, .ref mon, .ref mot, .ref man, .int (nI 0), .int xd, .ref mst, .ref msm, .ref mtb, .ref mti, .ref mfr, .ref mbn, .ref mbs, .ref mde, .int sF, .int sN, .int sS, .int ig, .long xa, .long xb, .ref maa, .ref mab, .ref mba, .ref mbb])), (ms, .inl (cs 0, 288, .inl f)), (mso, .inl (cs 0, 16, .inl sof)), (man, .inl (cs 0, 16, .inl anf))])) A) args s 0 0 A) (F0 m 0 ls []) by rw [hlocs, hH] at hW; exact hW
  clear hH hlocs
  refine lv_aload_n hx hb dX12_yes_0 rfl (lv_at hl 0 rfl) ?_
  refine lv_iconst (v := nI 0) hx hb dX12_yes_1 (by decide) ?_
  refine xput C hP hD hS 0 rfl rfl zuX12 tyX12 tyX12_ok nmX12 18 (by decide) zw5_231 rfl rfl rfl (Nat.le_of_ble_eq_true rfl) dX12_yes_2 ?_
  clear hP hD hS
  try clear locs
  try clear H
  intro H locs hP hD hS
  replace hP : va_P D vwCl [(hm, .inr (12, [.ref ms, .ref mkp, .int (nI km), .ref mtr, .int (nI n), .int (nI k), .int (nI al), .int (nI be), .int ea, .int pr, .ref mas, .int nq, .int po, .int (nI en), .ref mso, .ref mon, .ref mot, .ref man, .int (nI 0), .int xd, .ref mst, .ref msm, .ref mtb, .ref mti, .ref mfr, .ref mbn, .ref mbs, .ref mde, .int sF, .int sN, .int sS, .int ig, .long xa, .long xb, .ref maa, .ref mab, .ref mba, .ref mbb])), (ms, .inl (cs 0, 288, .inl f)), (mso, .inl (cs 0, 16, .inl sof)), (man, .inl (cs 0, 16, .inl anf))] H := hP
  replace hD : va_D A [(hm, .inr (12, [.ref ms, .ref mkp, .int (nI km), .ref mtr, .int (nI n), .int (nI k), .int (nI al), .int (nI be), .int ea, .int pr, .ref mas, .int nq, .int po, .int (nI en), .ref mso, .ref mon, .ref mot, .ref man, .int (nI 0), .int xd, .ref mst, .ref msm, .ref mtb, .ref mti, .ref mfr, .ref mbn, .ref mbs, .ref mde, .int sF, .int sN, .int sS, .int ig, .long xa, .long xb, .ref maa, .ref mab, .ref mba, .ref mbb])), (ms, .inl (cs 0, 288, .inl f)), (mso, .inl (cs 0, 16, .inl sof)), (man, .inl (cs 0, 16, .inl anf))] := hD
  refine lv_aload_n hx hb dX12_yes_5 rfl (lv_at hl 0 rfl) ?_
  refine lv_iload_n hx hb dX12_yes_6 rfl (lv_at hl 1 rfl) ?_
  refine lv_iload_n hx hb dX12_yes_7 rfl (lv_at hl 2 rfl) ?_
  refine lv_iload_n hx hb dX12_yes_8 rfl (lv_at hl 3 rfl) ?_
  refine xi (wr := [(mso, .inl (cs 0, 16, .inl sof)), (man, .inl (cs 0, 16, .inl anf))]) (xV (As := [.int x, .int y, .int b]) (rest := []) C (c_X12_canPoll l D cs hm ms mkp mtr mas mso mon mot man mst msm mtb mti mfr mbn mbs mde maa mab mba mbb n k al be km en ea pr nq po (nI 0) xd sF sN sS ig xa xb f x y b hn hen) kX12_345 hP hD [0, 1] rfl (by decide +kernel) 0 rfl rfl rfl ⟨Nat.le_of_ble_eq_true rfl, Nat.le_of_ble_eq_true rfl⟩ rfl hl.1 rfl (Nat.le_of_ble_eq_true rfl) dX12_yes_9 ⟨Nat.le_of_ble_eq_true rfl, Nat.le_of_ble_eq_true rfl⟩) hP hD hS hA [0, 1] [2, 3] rfl rfl (by decide +kernel) (by decide +kernel) ?_
  clear hP hD hS
  try clear locs
  try clear H
  intro r_1 u_2 H locs hw_r_1 hP hD hS
  have hw_r_1 : (r_1 = nI 0 ∨ r_1 = nI 1) ∧ (r_1 = nI 1 → okN n x ∧ okN en y) := hw_r_1
  refine W.widen (k := 0) (n := 0) (Nat.le_of_ble_eq_true rfl) (Nat.le_of_ble_eq_true rfl) ?_
  replace hP : va_P D vwCl [(mso, .inl (cs 0, 16, .inl sof)), (man, .inl (cs 0, 16, .inl anf)), (hm, .inr (12, [.ref ms, .ref mkp, .int (nI km), .ref mtr, .int (nI n), .int (nI k), .int (nI al), .int (nI be), .int ea, .int pr, .ref mas, .int nq, .int po, .int (nI en), .ref mso, .ref mon, .ref mot, .ref man, .int (nI 0), .int xd, .ref mst, .ref msm, .ref mtb, .ref mti, .ref mfr, .ref mbn, .ref mbs, .ref mde, .int sF, .int sN, .int sS, .int ig, .long xa, .long xb, .ref maa, .ref mab, .ref mba, .ref mbb])), (ms, .inl (cs 0, 288, .inl f))] H := hP
  replace hD : va_D A [(mso, .inl (cs 0, 16, .inl sof)), (man, .inl (cs 0, 16, .inl anf)), (hm, .inr (12, [.ref ms, .ref mkp, .int (nI km), .ref mtr, .int (nI n), .int (nI k), .int (nI al), .int (nI be), .int ea, .int pr, .ref mas, .int nq, .int po, .int (nI en), .ref mso, .ref mon, .ref mot, .ref man, .int (nI 0), .int xd, .ref mst, .ref msm, .ref mtb, .ref mti, .ref mfr, .ref mbn, .ref mbs, .ref mde, .int sF, .int sN, .int sS, .int ig, .long xa, .long xb, .ref maa, .ref mab, .ref mba, .ref mbb])), (ms, .inl (cs 0, 288, .inl f))] := hD
  refine lv_if_eq (tgt := 25) hx hb dX12_yes_12 (by decide) (fun c_3 => ?_) (fun c_3 => ?_)
  · -- 12 t
    refine lv_iconst (v := (-1)) hx hb dX12_yes_25 (by decide) ?_
    exact xreti C () trivial (xP_map hP [2, 3, 0, 1] rfl) (hD.sub [2, 3, 0, 1] (by decide +kernel) rfl) hS (Nat.le_of_ble_eq_true rfl) (Nat.le_of_ble_eq_true rfl) rfl dX12_yes_26
  · -- 12 f
    have hcp := hw_r_1.2 (hw_r_1.1.resolve_left c_3)
    obtain ⟨i0, h_i0, rfl⟩ := okN_of hcp.1 (by omega)
    obtain ⟨e0, h_e0, rfl⟩ := okN_of hcp.2 (by omega)
    replace hP : va_P D vwCl [(mso, .inl (cs 0, 16, .inl sof)), (man, .inl (cs 0, 16, .inl anf)), (hm, .inr (12, [.ref ms, .ref mkp, .int (nI km), .ref mtr, .int (nI n), .int (nI k), .int (nI al), .int (nI be), .int ea, .int pr, .ref mas, .int nq, .int po, .int (nI en), .ref mso, .ref mon, .ref mot, .ref man, .int (nI 0), .int xd, .ref mst, .ref msm, .ref mtb, .ref mti, .ref mfr, .ref mbn, .ref mbs, .ref mde, .int sF, .int sN, .int sS, .int ig, .long xa, .long xb, .ref maa, .ref mab, .ref mba, .ref mbb])), (ms, .inl (cs 0, 288, .inl f))] H := hP
    replace hD : va_D A [(mso, .inl (cs 0, 16, .inl sof)), (man, .inl (cs 0, 16, .inl anf)), (hm, .inr (12, [.ref ms, .ref mkp, .int (nI km), .ref mtr, .int (nI n), .int (nI k), .int (nI al), .int (nI be), .int ea, .int pr, .ref mas, .int nq, .int po, .int (nI en), .ref mso, .ref mon, .ref mot, .ref man, .int (nI 0), .int xd, .ref mst, .ref msm, .ref mtb, .ref mti, .ref mfr, .ref mbn, .ref mbs, .ref mde, .int sF, .int sN, .int sS, .int ig, .long xa, .long xb, .ref maa, .ref mab, .ref mba, .ref mbb])), (ms, .inl (cs 0, 288, .inl f))] := hD
    refine lv_aload_n hx hb dX12_yes_15 rfl (lv_at hl 0 rfl) ?_
    refine lv_iload_n hx hb dX12_yes_16 rfl (lv_at hl 1 rfl) ?_
    refine lv_iload_n hx hb dX12_yes_17 rfl (lv_at hl 2 rfl) ?_
    refine lv_iload_n hx hb dX12_yes_18 rfl (lv_at hl 3 rfl) ?_
    refine xi (wr := []) (xV (As := [.int (nI i0), .int (nI e0), .int b]) (rest := []) C (c_X12_yesOf l D cs hm ms mkp mtr mas mso mon mot man mst msm mtb mti mfr mbn mbs mde maa mab mba mbb n k al be km en ea pr nq po (nI 0) xd sF sN sS ig xa xb f i0 e0 b sof anf hn hen hso (by omega) (by omega)) kX12_325 hP hD [2, 3, 0, 1] rfl (by decide +kernel) 0 rfl rfl rfl ⟨Nat.le_of_ble_eq_true rfl, Nat.le_of_ble_eq_true rfl⟩ rfl hl.1 rfl (Nat.le_of_ble_eq_true rfl) dX12_yes_19 ⟨Nat.le_of_ble_eq_true rfl, Nat.le_of_ble_eq_true rfl⟩) hP hD hS hA [2, 3, 0, 1] [] rfl rfl (by decide +kernel) (by decide +kernel) ?_
    clear hP hD hS
    try clear locs
    try clear H
    intro r_4 u_5 H locs hw_r_4 hP hD hS
    refine W.widen (k := 0) (n := 0) (Nat.le_of_ble_eq_true rfl) (Nat.le_of_ble_eq_true rfl) ?_
    replace hP : va_P D vwCl [(hm, .inr (12, [.ref ms, .ref mkp, .int (nI km), .ref mtr, .int (nI n), .int (nI k), .int (nI al), .int (nI be), .int ea, .int pr, .ref mas, .int nq, .int po, .int (nI en), .ref mso, .ref mon, .ref mot, .ref man, .int (nI 0), .int xd, .ref mst, .ref msm, .ref mtb, .ref mti, .ref mfr, .ref mbn, .ref mbs, .ref mde, .int sF, .int sN, .int sS, .int ig, .long xa, .long xb, .ref maa, .ref mab, .ref mba, .ref mbb])), (ms, .inl (cs 0, 288, .inl f)), (mso, .inl (cs 0, 16, .inl sof)), (man, .inl (cs 0, 16, .inl anf))] H := hP
    replace hD : va_D A [(hm, .inr (12, [.ref ms, .ref mkp, .int (nI km), .ref mtr, .int (nI n), .int (nI k), .int (nI al), .int (nI be), .int ea, .int pr, .ref mas, .int nq, .int po, .int (nI en), .ref mso, .ref mon, .ref mot, .ref man, .int (nI 0), .int xd, .ref mst, .ref msm, .ref mtb, .ref mti, .ref mfr, .ref mbn, .ref mbs, .ref mde, .int sF, .int sN, .int sS, .int ig, .long xa, .long xb, .ref maa, .ref mab, .ref mba, .ref mbb])), (ms, .inl (cs 0, 288, .inl f)), (mso, .inl (cs 0, 16, .inl sof)), (man, .inl (cs 0, 16, .inl anf))] := hD
    refine lv_goto (tgt := 26) hx hb dX12_yes_22 (by decide) ?_
    exact xreti C () trivial hP hD hS (Nat.le_of_ble_eq_true rfl) (Nat.le_of_ble_eq_true rfl) rfl dX12_yes_26

set_option maxHeartbeats 4000000 in
set_option maxRecDepth 100000 in
theorem c_X12_polls (l : Launch) (D : va_G) (cs : Nat → ClassId) (hm ms mkp mtr mas mso mon mot man mst msm mtb mti mfr mbn mbs mde maa mab mba mbb : Nat) (n k al be km en : Nat) (ea pr nq po th xd sF sN sS ig : Int32) (xa xb : Int64) (f : Nat → Int32) (g : Nat → Int32) (sof onf otf anf : Nat → Int32) (x sd : Int32) (hn : 2 ≤ n ∧ n ≤ 8) (hen : en ≤ 16) (hso : inP 16 8 sof) (hs : colP f) (hk : keptP g) (hkm : km ≤ 8) (hkn : k < n) : xMet l D cs yX12_polls cX12_polls 9 (some .int) ({ frames := 5, cells := 0, slots := 0, locals := 120 } : Room) [.ref hm, .int x, .int sd] [(hm, .inr (12, [.ref ms, .ref mkp, .int (nI km), .ref mtr, .int (nI n), .int (nI k), .int (nI al), .int (nI be), .int ea, .int pr, .ref mas, .int nq, .int po, .int (nI en), .ref mso, .ref mon, .ref mot, .ref man, .int th, .int xd, .ref mst, .ref msm, .ref mtb, .ref mti, .ref mfr, .ref mbn, .ref mbs, .ref mde, .int sF, .int sN, .int sS, .int ig, .long xa, .long xb, .ref maa, .ref mab, .ref mba, .ref mbb])), (ms, .inl (cs 0, 288, .inl f)), (mkp, .inl (cs 0, 2304, .inl g)), (mso, .inl (cs 0, 16, .inl sof)), (mon, .inl (cs 0, 16, .inl onf)), (mot, .inl (cs 0, 16, .inl otf)), (man, .inl (cs 0, 16, .inl anf))] (xQi D (fun (r : Int32) (u : Nat × (Nat → Int32) × (Nat → Int32) × Int32 × Int32) => match u with | (kmz, fz, gz, poz, xdz) => colP fz ∧ keptP gz ∧ kmz ≤ 8) (fun (u : Nat × (Nat → Int32) × (Nat → Int32) × Int32 × Int32) => match u with | (kmz, fz, gz, poz, xdz) => [(hm, .inr (12, [.ref ms, .ref mkp, .int (nI kmz), .ref mtr, .int (nI n), .int (nI k), .int (nI al), .int (nI be), .int ea, .int pr, .ref mas, .int nq, .int poz, .int (nI en), .ref mso, .ref mon, .ref mot, .ref man, .int (nI 0), .int xdz, .ref mst, .ref msm, .ref mtb, .ref mti, .ref mfr, .ref mbn, .ref mbs, .ref mde, .int sF, .int sN, .int sS, .int ig, .long xa, .long xb, .ref maa, .ref mab, .ref mba, .ref mbb])), (ms, .inl (cs 0, 288, .inl fz)), (mkp, .inl (cs 0, 2304, .inl gz)), (mso, .inl (cs 0, 16, .inl sof)), (mon, .inl (cs 0, 16, .inl onf)), (mot, .inl (cs 0, 16, .inl otf)), (man, .inl (cs 0, 16, .inl anf))])) := by
  refine xMet.intro (by decide) (Nat.le_of_ble_eq_true rfl) ?_
  intro p e s m args below meth c A ls C hP hD hS hl
  have hx := C.1
  have hb := C.2.1
  have hz := C.2.2.2.2.1
  have hown := C.2.2.2.1
  have hA := C.2.2.2.2.2.2.2.2.2
  have hAO := C.2.2.2.2.2.2.2.2.1.2.2
  replace hl : lv_has ls 9 [(0, .ref hm), (1, .int x), (2, .int sd)] := hl
  obtain ⟨H, hH⟩ : ∃ H, H = s.heap := ⟨_, rfl⟩
  replace hP : va_P D vwCl [(hm, .inr (12, [.ref ms, .ref mkp, .int (nI km), .ref mtr, .int (nI n), .int (nI k), .int (nI al), .int (nI be), .int ea, .int pr, .ref mas, .int nq, .int po, .int (nI en), .ref mso, .ref mon, .ref mot, .ref man, .int th, .int xd, .ref mst, .ref msm, .ref mtb, .ref mti, .ref mfr, .ref mbn, .ref mbs, .ref mde, .int sF, .int sN, .int sS, .int ig, .long xa, .long xb, .ref maa, .ref mab, .ref mba, .ref mbb])), (ms, .inl (cs 0, 288, .inl f)), (mkp, .inl (cs 0, 2304, .inl g)), (mso, .inl (cs 0, 16, .inl sof)), (mon, .inl (cs 0, 16, .inl onf)), (mot, .inl (cs 0, 16, .inl otf)), (man, .inl (cs 0, 16, .inl anf))] H := by rw [hH]; exact hP
  replace hS : va_S A s.heap H [] := by rw [hH]; exact hS
  obtain ⟨locs, hlocs⟩ : ∃ z : List Loc, z = [] := ⟨_, rfl⟩
  rw [← hlocs] at hS
  suffices hW : W p l e ({ frames := 5, cells := 0, slots := 0, locals := 120 } : Room) s m args below meth c H locs 0 0 (MQ below ((xQi D (fun (r : Int32) (u : Nat × (Nat → Int32) × (Nat → Int32) × Int32 × Int32) => match u with | (kmz, fz, gz, poz, xdz) => colP fz ∧ keptP gz ∧ kmz ≤ 8) (fun (u : Nat × (Nat → Int32) × (Nat → Int32) × Int32 × Int32) => match u with | (kmz, fz, gz, poz, xdz) => [(hm, .inr (12, [.ref ms, .ref mkp, .int (nI kmz), .ref mtr, .int (nI n), .int (nI k), .int (nI al), .int (nI be), .int ea, .int pr, .ref mas, .int nq, .int poz, .int (nI en), .ref mso, .ref mon, .ref mot, .ref man, .int (nI 0), .int xdz, .ref mst, .ref msm, .ref mtb, .ref mti, .ref mfr, .ref mbn, .ref mbs, .ref mde, .int sF, .int sN, .int sS, .int ig, .long xa, .long xb, .ref maa, .ref mab, .ref mba, .ref mbb])), (ms, .inl (cs 0, 288, .inl fz)), (mkp, .inl (cs 0, 2304, .inl gz)), (mso, .inl (cs 0, 16, .inl sof)), (mon, .inl (cs 0, 16, .inl onf)), (mot, .inl (cs 0, 16, .inl otf)), (man, .inl (cs 0, 16, .inl anf))])) A) args s 0 0 A) (F0 m 0 ls []) by rw [hlocs, hH] at hW; exact hW
  clear hH hlocs
  refine lv_aload_n hx hb dX12_polls_0 rfl (lv_at hl 0 rfl) ?_
  refine lv_iconst (v := nI 0) hx hb dX12_polls_1 (by decide) ?_
  refine xput C hP hD hS 0 rfl rfl zuX12 tyX12 tyX12_ok nmX12 18 (by decide) zw5_231 rfl rfl rfl (Nat.le_of_ble_eq_true rfl) dX12_polls_2 ?_
  clear hP hD hS
  try clear locs
  try clear H
  intro H locs hP hD hS
  replace hP : va_P D vwCl [(hm, .inr (12, [.ref ms, .ref mkp, .int (nI km), .ref mtr, .int (nI n), .int (nI k), .int (nI al), .int (nI be), .int ea, .int pr, .ref mas, .int nq, .int po, .int (nI en), .ref mso, .ref mon, .ref mot, .ref man, .int (nI 0), .int xd, .ref mst, .ref msm, .ref mtb, .ref mti, .ref mfr, .ref mbn, .ref mbs, .ref mde, .int sF, .int sN, .int sS, .int ig, .long xa, .long xb, .ref maa, .ref mab, .ref mba, .ref mbb])), (ms, .inl (cs 0, 288, .inl f)), (mkp, .inl (cs 0, 2304, .inl g)), (mso, .inl (cs 0, 16, .inl sof)), (mon, .inl (cs 0, 16, .inl onf)), (mot, .inl (cs 0, 16, .inl otf)), (man, .inl (cs 0, 16, .inl anf))] H := hP
  replace hD : va_D A [(hm, .inr (12, [.ref ms, .ref mkp, .int (nI km), .ref mtr, .int (nI n), .int (nI k), .int (nI al), .int (nI be), .int ea, .int pr, .ref mas, .int nq, .int po, .int (nI en), .ref mso, .ref mon, .ref mot, .ref man, .int (nI 0), .int xd, .ref mst, .ref msm, .ref mtb, .ref mti, .ref mfr, .ref mbn, .ref mbs, .ref mde, .int sF, .int sN, .int sS, .int ig, .long xa, .long xb, .ref maa, .ref mab, .ref mba, .ref mbb])), (ms, .inl (cs 0, 288, .inl f)), (mkp, .inl (cs 0, 2304, .inl g)), (mso, .inl (cs 0, 16, .inl sof)), (mon, .inl (cs 0, 16, .inl onf)), (mot, .inl (cs 0, 16, .inl otf)), (man, .inl (cs 0, 16, .inl anf))] := hD
  refine lv_iload_n hx hb dX12_polls_5 rfl (lv_at hl 1 rfl) ?_
  refine lv_iconst (v := nI 1) hx hb dX12_polls_6 (by decide) ?_
  refine lv_bipush (v := nI 100) hx hb dX12_polls_7 (by decide) ?_
  refine xi (wr := [(hm, .inr (12, [.ref ms, .ref mkp, .int (nI km), .ref mtr, .int (nI n), .int (nI k), .int (nI al), .int (nI be), .int ea, .int pr, .ref mas, .int nq, .int po, .int (nI en), .ref mso, .ref mon, .ref mot, .ref man, .int (nI 0), .int xd, .ref mst, .ref msm, .ref mtb, .ref mti, .ref mfr, .ref mbn, .ref mbs, .ref mde, .int sF, .int sN, .int sS, .int ig, .long xa, .long xb, .ref maa, .ref mab, .ref mba, .ref mbb])), (ms, .inl (cs 0, 288, .inl f)), (mkp, .inl (cs 0, 2304, .inl g)), (mso, .inl (cs 0, 16, .inl sof)), (mon, .inl (cs 0, 16, .inl onf)), (mot, .inl (cs 0, 16, .inl otf)), (man, .inl (cs 0, 16, .inl anf))]) (xS (As := [.int x, .int (nI 1), .int (nI 100)]) (rest := []) C (c_X12_within l D cs x (nI 1) (nI 100)) kX12_116 hP hD [] rfl (by decide +kernel) ⟨Nat.le_of_ble_eq_true rfl, Nat.le_of_ble_eq_true rfl⟩ rfl hl.1 rfl (Nat.le_of_ble_eq_true rfl) dX12_polls_9 ⟨Nat.le_of_ble_eq_true rfl, Nat.le_of_ble_eq_true rfl⟩) hP hD hS hA [] [0, 1, 2, 3, 4, 5, 6] rfl rfl (by decide +kernel) (by decide +kernel) ?_
  clear hP hD hS
  try clear locs
  try clear H
  intro r_1 u_2 H locs hw_r_1 hP hD hS
  have hw_r_1 : PQ (¬ x < (nI 1) ∧ x ≤ (nI 100)) r_1 (nI 1) (nI 0) := hw_r_1
  refine W.widen (k := 0) (n := 0) (Nat.le_of_ble_eq_true rfl) (Nat.le_of_ble_eq_true rfl) ?_
  replace hP : va_P D vwCl [(hm, .inr (12, [.ref ms, .ref mkp, .int (nI km), .ref mtr, .int (nI n), .int (nI k), .int (nI al), .int (nI be), .int ea, .int pr, .ref mas, .int nq, .int po, .int (nI en), .ref mso, .ref mon, .ref mot, .ref man, .int (nI 0), .int xd, .ref mst, .ref msm, .ref mtb, .ref mti, .ref mfr, .ref mbn, .ref mbs, .ref mde, .int sF, .int sN, .int sS, .int ig, .long xa, .long xb, .ref maa, .ref mab, .ref mba, .ref mbb])), (ms, .inl (cs 0, 288, .inl f)), (mkp, .inl (cs 0, 2304, .inl g)), (mso, .inl (cs 0, 16, .inl sof)), (mon, .inl (cs 0, 16, .inl onf)), (mot, .inl (cs 0, 16, .inl otf)), (man, .inl (cs 0, 16, .inl anf))] H := hP
  replace hD : va_D A [(hm, .inr (12, [.ref ms, .ref mkp, .int (nI km), .ref mtr, .int (nI n), .int (nI k), .int (nI al), .int (nI be), .int ea, .int pr, .ref mas, .int nq, .int po, .int (nI en), .ref mso, .ref mon, .ref mot, .ref man, .int (nI 0), .int xd, .ref mst, .ref msm, .ref mtb, .ref mti, .ref mfr, .ref mbn, .ref mbs, .ref mde, .int sF, .int sN, .int sS, .int ig, .long xa, .long xb, .ref maa, .ref mab, .ref mba, .ref mbb])), (ms, .inl (cs 0, 288, .inl f)), (mkp, .inl (cs 0, 2304, .inl g)), (mso, .inl (cs 0, 16, .inl sof)), (mon, .inl (cs 0, 16, .inl onf)), (mot, .inl (cs 0, 16, .inl otf)), (man, .inl (cs 0, 16, .inl anf))] := hD
  refine lv_if_ne (tgt := 17) hx hb dX12_polls_12 (by decide) (fun c_3 => ?_) (fun c_3 => ?_)
  · -- 12 t
    have hyx := PQ.yes hw_r_1 c_3
    obtain ⟨nn, h_nn, rfl⟩ : ∃ j : Nat, j ≤ 100 ∧ x = nI j := nI_of2 (M := nI 100) (by decide) (fun q => hyx.1 (Int32.lt_trans q (by decide))) hyx.2
    replace hP : va_P D vwCl [(hm, .inr (12, [.ref ms, .ref mkp, .int (nI km), .ref mtr, .int (nI n), .int (nI k), .int (nI al), .int (nI be), .int ea, .int pr, .ref mas, .int nq, .int po, .int (nI en), .ref mso, .ref mon, .ref mot, .ref man, .int (nI 0), .int xd, .ref mst, .ref msm, .ref mtb, .ref mti, .ref mfr, .ref mbn, .ref mbs, .ref mde, .int sF, .int sN, .int sS, .int ig, .long xa, .long xb, .ref maa, .ref mab, .ref mba, .ref mbb])), (ms, .inl (cs 0, 288, .inl f)), (mkp, .inl (cs 0, 2304, .inl g)), (mso, .inl (cs 0, 16, .inl sof)), (mon, .inl (cs 0, 16, .inl onf)), (mot, .inl (cs 0, 16, .inl otf)), (man, .inl (cs 0, 16, .inl anf))] H := hP
    replace hD : va_D A [(hm, .inr (12, [.ref ms, .ref mkp, .int (nI km), .ref mtr, .int (nI n), .int (nI k), .int (nI al), .int (nI be), .int ea, .int pr, .ref mas, .int nq, .int po, .int (nI en), .ref mso, .ref mon, .ref mot, .ref man, .int (nI 0), .int xd, .ref mst, .ref msm, .ref mtb, .ref mti, .ref mfr, .ref mbn, .ref mbs, .ref mde, .int sF, .int sN, .int sS, .int ig, .long xa, .long xb, .ref maa, .ref mab, .ref mba, .ref mbb])), (ms, .inl (cs 0, 288, .inl f)), (mkp, .inl (cs 0, 2304, .inl g)), (mso, .inl (cs 0, 16, .inl sof)), (mon, .inl (cs 0, 16, .inl onf)), (mot, .inl (cs 0, 16, .inl otf)), (man, .inl (cs 0, 16, .inl anf))] := hD
    refine lv_aload_n hx hb dX12_polls_17 rfl (lv_at hl 0 rfl) ?_
    refine xv (wr := [(mso, .inl (cs 0, 16, .inl sof)), (mon, .inl (cs 0, 16, .inl onf)), (mot, .inl (cs 0, 16, .inl otf)), (man, .inl (cs 0, 16, .inl anf))]) (xV (As := []) (rest := []) C (c_X12_keeps l D cs hm ms mkp mtr mas mso mon mot man mst msm mtb mti mfr mbn mbs mde maa mab mba mbb n k al be km en ea pr nq po (nI 0) xd sF sN sS ig xa xb f g hs hk hkm) kX12_124 hP hD [0, 1, 2] rfl (by decide +kernel) 0 rfl rfl rfl ⟨Nat.le_of_ble_eq_true rfl, Nat.le_of_ble_eq_true rfl⟩ rfl hl.1 rfl (Nat.le_of_ble_eq_true rfl) dX12_polls_18 ⟨Nat.le_of_ble_eq_true rfl, Nat.le_of_ble_eq_true rfl⟩) hP hD hS hA [0, 1, 2] [3, 4, 5, 6] rfl rfl (by decide +kernel) (by decide +kernel) ?_
    clear hP hD hS
    try clear locs
    try clear H
    intro u_5 H locs hw_r_4 hP hD hS
    obtain ⟨kmz_6, gz_7⟩ := u_5
    have hw_r_4 : keptP gz_7 ∧ kmz_6 ≤ 8 := hw_r_4
    refine W.widen (k := 0) (n := 0) (Nat.le_of_ble_eq_true rfl) (Nat.le_of_ble_eq_true rfl) ?_
    replace hP : va_P D vwCl [(mso, .inl (cs 0, 16, .inl sof)), (mon, .inl (cs 0, 16, .inl onf)), (mot, .inl (cs 0, 16, .inl otf)), (man, .inl (cs 0, 16, .inl anf)), (hm, .inr (12, [.ref ms, .ref mkp, .int (nI kmz_6), .ref mtr, .int (nI n), .int (nI k), .int (nI al), .int (nI be), .int ea, .int pr, .ref mas, .int nq, .int po, .int (nI en), .ref mso, .ref mon, .ref mot, .ref man, .int (nI 0), .int xd, .ref mst, .ref msm, .ref mtb, .ref mti, .ref mfr, .ref mbn, .ref mbs, .ref mde, .int sF, .int sN, .int sS, .int ig, .long xa, .long xb, .ref maa, .ref mab, .ref mba, .ref mbb])), (ms, .inl (cs 0, 288, .inl f)), (mkp, .inl (cs 0, 2304, .inl gz_7))] H := hP
    replace hD : va_D A [(mso, .inl (cs 0, 16, .inl sof)), (mon, .inl (cs 0, 16, .inl onf)), (mot, .inl (cs 0, 16, .inl otf)), (man, .inl (cs 0, 16, .inl anf)), (hm, .inr (12, [.ref ms, .ref mkp, .int (nI kmz_6), .ref mtr, .int (nI n), .int (nI k), .int (nI al), .int (nI be), .int ea, .int pr, .ref mas, .int nq, .int po, .int (nI en), .ref mso, .ref mon, .ref mot, .ref man, .int (nI 0), .int xd, .ref mst, .ref msm, .ref mtb, .ref mti, .ref mfr, .ref mbn, .ref mbs, .ref mde, .int sF, .int sN, .int sS, .int ig, .long xa, .long xb, .ref maa, .ref mab, .ref mba, .ref mbb])), (ms, .inl (cs 0, 288, .inl f)), (mkp, .inl (cs 0, 2304, .inl gz_7))] := hD
    refine lv_aload_n hx hb dX12_polls_21 rfl (lv_at hl 0 rfl) ?_
    refine lv_iload_n hx hb dX12_polls_22 rfl (lv_at hl 2 rfl) ?_
    refine xput C hP hD hS 4 rfl rfl zuX12 tyX12 tyX12_ok nmX12 19 (by decide) zw5_232 rfl rfl rfl (Nat.le_of_ble_eq_true rfl) dX12_polls_23 ?_
    clear hP hD hS
    try clear locs
    try clear H
    intro H locs hP hD hS
    replace hP : va_P D vwCl [(mso, .inl (cs 0, 16, .inl sof)), (mon, .inl (cs 0, 16, .inl onf)), (mot, .inl (cs 0, 16, .inl otf)), (man, .inl (cs 0, 16, .inl anf)), (hm, .inr (12, [.ref ms, .ref mkp, .int (nI kmz_6), .ref mtr, .int (nI n), .int (nI k), .int (nI al), .int (nI be), .int ea, .int pr, .ref mas, .int nq, .int po, .int (nI en), .ref mso, .ref mon, .ref mot, .ref man, .int (nI 0), .int sd, .ref mst, .ref msm, .ref mtb, .ref mti, .ref mfr, .ref mbn, .ref mbs, .ref mde, .int sF, .int sN, .int sS, .int ig, .long xa, .long xb, .ref maa, .ref mab, .ref mba, .ref mbb])), (ms, .inl (cs 0, 288, .inl f)), (mkp, .inl (cs 0, 2304, .inl gz_7))] H := hP
    replace hD : va_D A [(mso, .inl (cs 0, 16, .inl sof)), (mon, .inl (cs 0, 16, .inl onf)), (mot, .inl (cs 0, 16, .inl otf)), (man, .inl (cs 0, 16, .inl anf)), (hm, .inr (12, [.ref ms, .ref mkp, .int (nI kmz_6), .ref mtr, .int (nI n), .int (nI k), .int (nI al), .int (nI be), .int ea, .int pr, .ref mas, .int nq, .int po, .int (nI en), .ref mso, .ref mon, .ref mot, .ref man, .int (nI 0), .int sd, .ref mst, .ref msm, .ref mtb, .ref mti, .ref mfr, .ref mbn, .ref mbs, .ref mde, .int sF, .int sN, .int sS, .int ig, .long xa, .long xb, .ref maa, .ref mab, .ref mba, .ref mbb])), (ms, .inl (cs 0, 288, .inl f)), (mkp, .inl (cs 0, 2304, .inl gz_7))] := hD
    refine lv_iconst (v := nI 0) hx hb dX12_polls_26 (by decide) ?_
    refine lv_istore_n (lv' := [(3, .int (nI 0)), (0, .ref hm), (1, .int (nI nn)), (2, .int sd)]) hx hb dX12_polls_27 rfl hl (by decide) rfl ?_
    clear hl
    try clear ls
    intro ls hl
    refine lv_iconst (v := nI 0) hx hb dX12_polls_28 (by decide) ?_
    refine lv_istore (lv' := [(4, .int (nI 0)), (3, .int (nI 0)), (0, .ref hm), (1, .int (nI nn)), (2, .int sd)]) hx hb dX12_polls_29 hl (by decide) rfl ?_
    clear hl
    try clear ls
    intro ls hl
    have loop_8 : ∀ (n_loop_8 : Nat) (o : Nat) (f9 : Nat → Int32) (p9 : Int32) (d9 : Int32) (c9 : Int32), (o ≤ nn) → (colP f9) → nn - o < n_loop_8 → ∀ (H : Heap) (locs : List Loc) (ls : Array Slot), va_P D vwCl [(mso, .inl (cs 0, 16, .inl sof)), (mon, .inl (cs 0, 16, .inl onf)), (mot, .inl (cs 0, 16, .inl otf)), (man, .inl (cs 0, 16, .inl anf)), (hm, .inr (12, [.ref ms, .ref mkp, .int (nI kmz_6), .ref mtr, .int (nI n), .int (nI k), .int (nI al), .int (nI be), .int ea, .int pr, .ref mas, .int nq, .int p9, .int (nI en), .ref mso, .ref mon, .ref mot, .ref man, .int (nI 0), .int d9, .ref mst, .ref msm, .ref mtb, .ref mti, .ref mfr, .ref mbn, .ref mbs, .ref mde, .int sF, .int sN, .int sS, .int ig, .long xa, .long xb, .ref maa, .ref mab, .ref mba, .ref mbb])), (ms, .inl (cs 0, 288, .inl f9)), (mkp, .inl (cs 0, 2304, .inl gz_7))] H → va_D A [(mso, .inl (cs 0, 16, .inl sof)), (mon, .inl (cs 0, 16, .inl onf)), (mot, .inl (cs 0, 16, .inl otf)), (man, .inl (cs 0, 16, .inl anf)), (hm, .inr (12, [.ref ms, .ref mkp, .int (nI kmz_6), .ref mtr, .int (nI n), .int (nI k), .int (nI al), .int (nI be), .int ea, .int pr, .ref mas, .int nq, .int p9, .int (nI en), .ref mso, .ref mon, .ref mot, .ref man, .int (nI 0), .int d9, .ref mst, .ref msm, .ref mtb, .ref mti, .ref mfr, .ref mbn, .ref mbs, .ref mde, .int sF, .int sN, .int sS, .int ig, .long xa, .long xb, .ref maa, .ref mab, .ref mba, .ref mbb])), (ms, .inl (cs 0, 288, .inl f9)), (mkp, .inl (cs 0, 2304, .inl gz_7))] → va_S A s.heap H locs → lv_has ls 9 [(4, .int (nI o)), (3, .int c9), (0, .ref hm), (1, .int (nI nn)), (2, .int sd)] → W p l e ({ frames := 5, cells := 0, slots := 0, locals := 120 } : Room) s m args below meth c H locs 0 0 (MQ below ((xQi D (fun (r : Int32) (u : Nat × (Nat → Int32) × (Nat → Int32) × Int32 × Int32) => match u with | (kmz, fz, gz, poz, xdz) => colP fz ∧ keptP gz ∧ kmz ≤ 8) (fun (u : Nat × (Nat → Int32) × (Nat → Int32) × Int32 × Int32) => match u with | (kmz, fz, gz, poz, xdz) => [(hm, .inr (12, [.ref ms, .ref mkp, .int (nI kmz), .ref mtr, .int (nI n), .int (nI k), .int (nI al), .int (nI be), .int ea, .int pr, .ref mas, .int nq, .int poz, .int (nI en), .ref mso, .ref mon, .ref mot, .ref man, .int (nI 0), .int xdz, .ref mst, .ref msm, .ref mtb, .ref mti, .ref mfr, .ref mbn, .ref mbs, .ref mde, .int sF, .int sN, .int sS, .int ig, .long xa, .long xb, .ref maa, .ref mab, .ref mba, .ref mbb])), (ms, .inl (cs 0, 288, .inl fz)), (mkp, .inl (cs 0, 2304, .inl gz)), (mso, .inl (cs 0, 16, .inl sof)), (mon, .inl (cs 0, 16, .inl onf)), (mot, .inl (cs 0, 16, .inl otf)), (man, .inl (cs 0, 16, .inl anf))])) A) args s 0 0 A) (F0 m 31 ls []) := by
      intro n_loop_8
      induction n_loop_8 with
      | zero => intro o f9 p9 d9 c9 h_o hs9 hlt H locs ls hP hD hS hl; exact absurd hlt (Nat.not_lt_zero _)
      | succ n_loop_8 ih_loop_8 =>
        intro o f9 p9 d9 c9 h_o hs9 hlt_loop_8 H locs ls hP hD hS hl
        refine lv_iload hx hb dX12_polls_31 (lv_at hl 0 rfl) ?_
        refine lv_iload_n hx hb dX12_polls_33 rfl (lv_at hl 3 rfl) ?_
        refine lv_icmp_ge (tgt := 155) hx hb dX12_polls_34 (by decide) (fun c_9 => ?_) (fun c_9 => ?_)
        · -- 34 t
          have fc_9 : nn ≤ o := nf_le (by omega) (by omega) c_9
          refine lv_iload_n hx hb dX12_polls_155 rfl (lv_at hl 1 rfl) ?_
          exact xreti C (⟨kmz_6, f9, gz_7, p9, d9⟩) (⟨hs9, hw_r_4⟩) (xP_map hP [4, 5, 6, 0, 1, 2, 3] rfl) (hD.sub [4, 5, 6, 0, 1, 2, 3] (by decide +kernel) rfl) hS (Nat.le_of_ble_eq_true rfl) (Nat.le_of_ble_eq_true rfl) rfl dX12_polls_156
        · -- 34 f
          have fc_9 : o < nn := nf_nle (by omega) (by omega) c_9
          refine lv_aload_n hx hb dX12_polls_37 rfl (lv_at hl 2 rfl) ?_
          refine lv_aload_n hx hb dX12_polls_38 rfl (lv_at hl 2 rfl) ?_
          refine xget C hP 4 rfl rfl zuX12 4 (by decide) zw5_217 rfl dX12_polls_39 ?_
          refine xi (wr := [(mso, .inl (cs 0, 16, .inl sof)), (mon, .inl (cs 0, 16, .inl onf)), (mot, .inl (cs 0, 16, .inl otf)), (man, .inl (cs 0, 16, .inl anf)), (ms, .inl (cs 0, 288, .inl f9)), (mkp, .inl (cs 0, 2304, .inl gz_7))]) (xV (As := [.int (nI n)]) (rest := []) C (c_X12_draw l D cs hm ms mkp mtr mas mso mon mot man mst msm mtb mti mfr mbn mbs mde maa mab mba mbb n k al be kmz_6 en ea pr nq p9 (nI 0) d9 sF sN sS ig xa xb n (by omega) (by omega)) kX12_156 hP hD [4] rfl (by decide +kernel) 0 rfl rfl rfl ⟨Nat.le_of_ble_eq_true rfl, Nat.le_of_ble_eq_true rfl⟩ rfl hl.1 rfl (Nat.le_of_ble_eq_true rfl) dX12_polls_42 ⟨Nat.le_of_ble_eq_true rfl, Nat.le_of_ble_eq_true rfl⟩) hP hD hS hA [4] [0, 1, 2, 3, 5, 6] rfl rfl (by decide +kernel) (by decide +kernel) ?_
          clear hP hD hS
          try clear locs
          try clear H
          intro r_10 u_11 H locs hw_r_10 hP hD hS
          have hw_r_10 : ∃ j, j < n ∧ r_10 = nI j := hw_r_10
          refine W.widen (k := 0) (n := 0) (Nat.le_of_ble_eq_true rfl) (Nat.le_of_ble_eq_true rfl) ?_
          replace hP : va_P D vwCl [(mso, .inl (cs 0, 16, .inl sof)), (mon, .inl (cs 0, 16, .inl onf)), (mot, .inl (cs 0, 16, .inl otf)), (man, .inl (cs 0, 16, .inl anf)), (ms, .inl (cs 0, 288, .inl f9)), (mkp, .inl (cs 0, 2304, .inl gz_7)), (hm, .inr (12, [.ref ms, .ref mkp, .int (nI kmz_6), .ref mtr, .int (nI n), .int (nI k), .int (nI al), .int (nI be), .int ea, .int pr, .ref mas, .int nq, .int p9, .int (nI en), .ref mso, .ref mon, .ref mot, .ref man, .int (nI 0), .int u_11, .ref mst, .ref msm, .ref mtb, .ref mti, .ref mfr, .ref mbn, .ref mbs, .ref mde, .int sF, .int sN, .int sS, .int ig, .long xa, .long xb, .ref maa, .ref mab, .ref mba, .ref mbb]))] H := hP
          replace hD : va_D A [(mso, .inl (cs 0, 16, .inl sof)), (mon, .inl (cs 0, 16, .inl onf)), (mot, .inl (cs 0, 16, .inl otf)), (man, .inl (cs 0, 16, .inl anf)), (ms, .inl (cs 0, 288, .inl f9)), (mkp, .inl (cs 0, 2304, .inl gz_7)), (hm, .inr (12, [.ref ms, .ref mkp, .int (nI kmz_6), .ref mtr, .int (nI n), .int (nI k), .int (nI al), .int (nI be), .int ea, .int pr, .ref mas, .int nq, .int p9, .int (nI en), .ref mso, .ref mon, .ref mot, .ref man, .int (nI 0), .int u_11, .ref mst, .ref msm, .ref mtb, .ref mti, .ref mfr, .ref mbn, .ref mbs, .ref mde, .int sF, .int sN, .int sS, .int ig, .long xa, .long xb, .ref maa, .ref mab, .ref mba, .ref mbb]))] := hD
          obtain ⟨t_12, h_t_12, e_t_12⟩ := hw_r_10
          refine lv_topi (nm_r (e' := nI t_12) e_t_12 ?_)
          refine lv_istore (lv' := [(5, .int (nI t_12)), (4, .int (nI o)), (3, .int c9), (0, .ref hm), (1, .int (nI nn)), (2, .int sd)]) hx hb dX12_polls_45 hl (by decide) rfl ?_
          clear hl
          try clear ls
          intro ls hl
          refine lv_iconst (v := nI 1) hx hb dX12_polls_47 (by decide) ?_
          refine lv_aload_n hx hb dX12_polls_48 rfl (lv_at hl 3 rfl) ?_
          refine xget C hP 6 rfl rfl zuX12 13 (by decide) zw5_226 rfl dX12_polls_49 ?_
          refine lv_ishl hx hb dX12_polls_52 ?_
          refine lv_iconst (v := nI 1) hx hb dX12_polls_53 (by decide) ?_
          refine lv_isub hx hb dX12_polls_54 ?_
          refine lv_aload_n hx hb dX12_polls_55 rfl (lv_at hl 3 rfl) ?_
          refine xget C hP 6 rfl rfl zuX12 0 (by decide) zw5_213 rfl dX12_polls_56 ?_
          refine lv_bipush (v := nI 72) hx hb dX12_polls_59 (by decide) ?_
          refine lv_iload hx hb dX12_polls_61 (lv_at hl 0 rfl) ?_
          refine lv_iadd hx hb dX12_polls_63 ?_
          refine lv_topi (nm_r (e' := nI (72 + t_12)) (nI_add _ _) ?_)
          refine xiald C hP 4 rfl (72 + t_12) rfl (by omega) (by decide) dX12_polls_64 ?_
          refine lv_iconst (v := (-1)) hx hb dX12_polls_65 (by decide) ?_
          refine lv_ixor hx hb dX12_polls_66 ?_
          refine lv_iand hx hb dX12_polls_67 ?_
          refine lv_istore (lv' := [(6, .int ((((nI 1) <<< ((nI en) &&& 31)) - (nI 1)) &&& ((f9 (72 + t_12)) ^^^ (-1)))), (5, .int (nI t_12)), (4, .int (nI o)), (3, .int c9), (0, .ref hm), (1, .int (nI nn)), (2, .int sd)]) hx hb dX12_polls_68 hl (by decide) rfl ?_
          clear hl
          try clear ls
          intro ls hl
          refine lv_aload_n hx hb dX12_polls_70 rfl (lv_at hl 4 rfl) ?_
          refine xget C hP 6 rfl rfl zuX12 0 (by decide) zw5_213 rfl dX12_polls_71 ?_
          refine lv_bipush (v := nI 48) hx hb dX12_polls_74 (by decide) ?_
          refine lv_iload hx hb dX12_polls_76 (lv_at hl 1 rfl) ?_
          refine lv_iadd hx hb dX12_polls_78 ?_
          refine lv_topi (nm_r (e' := nI (48 + t_12)) (nI_add _ _) ?_)
          refine xiald C hP 4 rfl (48 + t_12) rfl (by omega) (by decide) dX12_polls_79 ?_
          refine lv_if_ne (tgt := 149) hx hb dX12_polls_80 (by decide) (fun c_13 => ?_) (fun c_13 => ?_)
          · -- 80 t
            refine lv_iinc (v := nI (o + 1)) (lv' := [(4, .int (nI (o + 1))), (6, .int ((((nI 1) <<< ((nI en) &&& 31)) - (nI 1)) &&& ((f9 (72 + t_12)) ^^^ (-1)))), (5, .int (nI t_12)), (3, .int c9), (0, .ref hm), (1, .int (nI nn)), (2, .int sd)]) hx hb dX12_polls_149 hl (k := 2) rfl (nI_add o 1) (by decide) rfl ?_
            clear hl
            try clear ls
            intro ls hl
            refine lv_goto (tgt := 31) hx hb dX12_polls_152 (by decide) ?_
            exact ih_loop_8 (o + 1) f9 p9 u_11 c9 (by omega) hs9 (by omega) H locs ls (xP_map hP [0, 1, 2, 3, 6, 4, 5] rfl) (hD.sub [0, 1, 2, 3, 6, 4, 5] (by decide +kernel) rfl) hS (lv_sub hl [0, 3, 4, 5, 6] rfl)
          · -- 80 f
            refine lv_iload hx hb dX12_polls_83 (lv_at hl 0 rfl) ?_
            refine lv_if_ne (tgt := 91) hx hb dX12_polls_85 (by decide) (fun c_14 => ?_) (fun c_14 => ?_)
            · -- 85 t
              have hcm : 0 < cntL ((((nI 1) <<< ((nI en) &&& 31)) - (nI 1)) &&& ((f9 (72 + t_12)) ^^^ (-1))) 16 := cnt_pos c_14 (fun q h1 h2 hb => absurd ((hasB_msk hen h2).mp ((hasB_and h2).mp hb).1) (by omega))
              refine lv_iload hx hb dX12_polls_91 (lv_at hl 0 rfl) ?_
              refine lv_aload_n hx hb dX12_polls_93 rfl (lv_at hl 4 rfl) ?_
              refine lv_iload hx hb dX12_polls_94 (lv_at hl 0 rfl) ?_
              refine xi (wr := [(mso, .inl (cs 0, 16, .inl sof)), (mon, .inl (cs 0, 16, .inl onf)), (mot, .inl (cs 0, 16, .inl otf)), (man, .inl (cs 0, 16, .inl anf)), (ms, .inl (cs 0, 288, .inl f9)), (mkp, .inl (cs 0, 2304, .inl gz_7)), (hm, .inr (12, [.ref ms, .ref mkp, .int (nI kmz_6), .ref mtr, .int (nI n), .int (nI k), .int (nI al), .int (nI be), .int ea, .int pr, .ref mas, .int nq, .int p9, .int (nI en), .ref mso, .ref mon, .ref mot, .ref man, .int (nI 0), .int u_11, .ref mst, .ref msm, .ref mtb, .ref mti, .ref mfr, .ref mbn, .ref mbs, .ref mde, .int sF, .int sN, .int sS, .int ig, .long xa, .long xb, .ref maa, .ref mab, .ref mba, .ref mbb]))]) (xS (As := [.int ((((nI 1) <<< ((nI en) &&& 31)) - (nI 1)) &&& ((f9 (72 + t_12)) ^^^ (-1)))]) (rest := [.ref hm, .int ((((nI 1) <<< ((nI en) &&& 31)) - (nI 1)) &&& ((f9 (72 + t_12)) ^^^ (-1)))]) C (c_X12_many l D cs ((((nI 1) <<< ((nI en) &&& 31)) - (nI 1)) &&& ((f9 (72 + t_12)) ^^^ (-1)))) kX12_127 hP hD [] rfl (by decide +kernel) ⟨Nat.le_of_ble_eq_true rfl, Nat.le_of_ble_eq_true rfl⟩ rfl hl.1 rfl (Nat.le_of_ble_eq_true rfl) dX12_polls_96 ⟨Nat.le_of_ble_eq_true rfl, Nat.le_of_ble_eq_true rfl⟩) hP hD hS hA [] [0, 1, 2, 3, 4, 5, 6] rfl rfl (by decide +kernel) (by decide +kernel) ?_
              clear hP hD hS
              try clear locs
              try clear H
              intro r_15 u_16 H locs hw_r_15 hP hD hS
              have hw_r_15 : r_15 = nI (cntL ((((nI 1) <<< ((nI en) &&& 31)) - (nI 1)) &&& ((f9 (72 + t_12)) ^^^ (-1))) 16) := hw_r_15
              refine W.widen (k := 0) (n := 0) (Nat.le_of_ble_eq_true rfl) (Nat.le_of_ble_eq_true rfl) ?_
              replace hP : va_P D vwCl [(mso, .inl (cs 0, 16, .inl sof)), (mon, .inl (cs 0, 16, .inl onf)), (mot, .inl (cs 0, 16, .inl otf)), (man, .inl (cs 0, 16, .inl anf)), (ms, .inl (cs 0, 288, .inl f9)), (mkp, .inl (cs 0, 2304, .inl gz_7)), (hm, .inr (12, [.ref ms, .ref mkp, .int (nI kmz_6), .ref mtr, .int (nI n), .int (nI k), .int (nI al), .int (nI be), .int ea, .int pr, .ref mas, .int nq, .int p9, .int (nI en), .ref mso, .ref mon, .ref mot, .ref man, .int (nI 0), .int u_11, .ref mst, .ref msm, .ref mtb, .ref mti, .ref mfr, .ref mbn, .ref mbs, .ref mde, .int sF, .int sN, .int sS, .int ig, .long xa, .long xb, .ref maa, .ref mab, .ref mba, .ref mbb]))] H := hP
              replace hD : va_D A [(mso, .inl (cs 0, 16, .inl sof)), (mon, .inl (cs 0, 16, .inl onf)), (mot, .inl (cs 0, 16, .inl otf)), (man, .inl (cs 0, 16, .inl anf)), (ms, .inl (cs 0, 288, .inl f9)), (mkp, .inl (cs 0, 2304, .inl gz_7)), (hm, .inr (12, [.ref ms, .ref mkp, .int (nI kmz_6), .ref mtr, .int (nI n), .int (nI k), .int (nI al), .int (nI be), .int ea, .int pr, .ref mas, .int nq, .int p9, .int (nI en), .ref mso, .ref mon, .ref mot, .ref man, .int (nI 0), .int u_11, .ref mst, .ref msm, .ref mtb, .ref mti, .ref mfr, .ref mbn, .ref mbs, .ref mde, .int sF, .int sN, .int sS, .int ig, .long xa, .long xb, .ref maa, .ref mab, .ref mba, .ref mbb]))] := hD
              subst hw_r_15
              replace hP : va_P D vwCl [(mso, .inl (cs 0, 16, .inl sof)), (mon, .inl (cs 0, 16, .inl onf)), (mot, .inl (cs 0, 16, .inl otf)), (man, .inl (cs 0, 16, .inl anf)), (ms, .inl (cs 0, 288, .inl f9)), (mkp, .inl (cs 0, 2304, .inl gz_7)), (hm, .inr (12, [.ref ms, .ref mkp, .int (nI kmz_6), .ref mtr, .int (nI n), .int (nI k), .int (nI al), .int (nI be), .int ea, .int pr, .ref mas, .int nq, .int p9, .int (nI en), .ref mso, .ref mon, .ref mot, .ref man, .int (nI 0), .int u_11, .ref mst, .ref msm, .ref mtb, .ref mti, .ref mfr, .ref mbn, .ref mbs, .ref mde, .int sF, .int sN, .int sS, .int ig, .long xa, .long xb, .ref maa, .ref mab, .ref mba, .ref mbb]))] H := hP
              replace hD : va_D A [(mso, .inl (cs 0, 16, .inl sof)), (mon, .inl (cs 0, 16, .inl onf)), (mot, .inl (cs 0, 16, .inl otf)), (man, .inl (cs 0, 16, .inl anf)), (ms, .inl (cs 0, 288, .inl f9)), (mkp, .inl (cs 0, 2304, .inl gz_7)), (hm, .inr (12, [.ref ms, .ref mkp, .int (nI kmz_6), .ref mtr, .int (nI n), .int (nI k), .int (nI al), .int (nI be), .int ea, .int pr, .ref mas, .int nq, .int p9, .int (nI en), .ref mso, .ref mon, .ref mot, .ref man, .int (nI 0), .int u_11, .ref mst, .ref msm, .ref mtb, .ref mti, .ref mfr, .ref mbn, .ref mbs, .ref mde, .int sF, .int sN, .int sS, .int ig, .long xa, .long xb, .ref maa, .ref mab, .ref mba, .ref mbb]))] := hD
              refine xi (wr := [(mso, .inl (cs 0, 16, .inl sof)), (mon, .inl (cs 0, 16, .inl onf)), (mot, .inl (cs 0, 16, .inl otf)), (man, .inl (cs 0, 16, .inl anf)), (ms, .inl (cs 0, 288, .inl f9)), (mkp, .inl (cs 0, 2304, .inl gz_7))]) (xV (As := [.int (nI (cntL ((((nI 1) <<< ((nI en) &&& 31)) - (nI 1)) &&& ((f9 (72 + t_12)) ^^^ (-1))) 16))]) (rest := [.int ((((nI 1) <<< ((nI en) &&& 31)) - (nI 1)) &&& ((f9 (72 + t_12)) ^^^ (-1)))]) C (c_X12_draw l D cs hm ms mkp mtr mas mso mon mot man mst msm mtb mti mfr mbn mbs mde maa mab mba mbb n k al be kmz_6 en ea pr nq p9 (nI 0) u_11 sF sN sS ig xa xb (cntL ((((nI 1) <<< ((nI en) &&& 31)) - (nI 1)) &&& ((f9 (72 + t_12)) ^^^ (-1))) 16) hcm (Nat.lt_of_le_of_lt (cnt_le _ 16) (by decide))) kX12_156 hP hD [6] rfl (by decide +kernel) 0 rfl rfl rfl ⟨Nat.le_of_ble_eq_true rfl, Nat.le_of_ble_eq_true rfl⟩ rfl hl.1 rfl (Nat.le_of_ble_eq_true rfl) dX12_polls_99 ⟨Nat.le_of_ble_eq_true rfl, Nat.le_of_ble_eq_true rfl⟩) hP hD hS hA [6] [0, 1, 2, 3, 4, 5] rfl rfl (by decide +kernel) (by decide +kernel) ?_
              clear hP hD hS
              try clear locs
              try clear H
              intro r_17 u_18 H locs hw_r_17 hP hD hS
              have hw_r_17 : ∃ j, j < (cntL ((((nI 1) <<< ((nI en) &&& 31)) - (nI 1)) &&& ((f9 (72 + t_12)) ^^^ (-1))) 16) ∧ r_17 = nI j := hw_r_17
              refine W.widen (k := 0) (n := 0) (Nat.le_of_ble_eq_true rfl) (Nat.le_of_ble_eq_true rfl) ?_
              replace hP : va_P D vwCl [(mso, .inl (cs 0, 16, .inl sof)), (mon, .inl (cs 0, 16, .inl onf)), (mot, .inl (cs 0, 16, .inl otf)), (man, .inl (cs 0, 16, .inl anf)), (ms, .inl (cs 0, 288, .inl f9)), (mkp, .inl (cs 0, 2304, .inl gz_7)), (hm, .inr (12, [.ref ms, .ref mkp, .int (nI kmz_6), .ref mtr, .int (nI n), .int (nI k), .int (nI al), .int (nI be), .int ea, .int pr, .ref mas, .int nq, .int p9, .int (nI en), .ref mso, .ref mon, .ref mot, .ref man, .int (nI 0), .int u_18, .ref mst, .ref msm, .ref mtb, .ref mti, .ref mfr, .ref mbn, .ref mbs, .ref mde, .int sF, .int sN, .int sS, .int ig, .long xa, .long xb, .ref maa, .ref mab, .ref mba, .ref mbb]))] H := hP
              replace hD : va_D A [(mso, .inl (cs 0, 16, .inl sof)), (mon, .inl (cs 0, 16, .inl onf)), (mot, .inl (cs 0, 16, .inl otf)), (man, .inl (cs 0, 16, .inl anf)), (ms, .inl (cs 0, 288, .inl f9)), (mkp, .inl (cs 0, 2304, .inl gz_7)), (hm, .inr (12, [.ref ms, .ref mkp, .int (nI kmz_6), .ref mtr, .int (nI n), .int (nI k), .int (nI al), .int (nI be), .int ea, .int pr, .ref mas, .int nq, .int p9, .int (nI en), .ref mso, .ref mon, .ref mot, .ref man, .int (nI 0), .int u_18, .ref mst, .ref msm, .ref mtb, .ref mti, .ref mfr, .ref mbn, .ref mbs, .ref mde, .int sF, .int sN, .int sS, .int ig, .long xa, .long xb, .ref maa, .ref mab, .ref mba, .ref mbb]))] := hD
              obtain ⟨t_19, h_t_19, e_t_19⟩ := hw_r_17
              refine lv_topi (nm_r (e' := nI t_19) e_t_19 ?_)
              refine xi (wr := [(mso, .inl (cs 0, 16, .inl sof)), (mon, .inl (cs 0, 16, .inl onf)), (mot, .inl (cs 0, 16, .inl otf)), (man, .inl (cs 0, 16, .inl anf)), (ms, .inl (cs 0, 288, .inl f9)), (mkp, .inl (cs 0, 2304, .inl gz_7)), (hm, .inr (12, [.ref ms, .ref mkp, .int (nI kmz_6), .ref mtr, .int (nI n), .int (nI k), .int (nI al), .int (nI be), .int ea, .int pr, .ref mas, .int nq, .int p9, .int (nI en), .ref mso, .ref mon, .ref mot, .ref man, .int (nI 0), .int u_18, .ref mst, .ref msm, .ref mtb, .ref mti, .ref mfr, .ref mbn, .ref mbs, .ref mde, .int sF, .int sN, .int sS, .int ig, .long xa, .long xb, .ref maa, .ref mab, .ref mba, .ref mbb]))]) (xS (As := [.int ((((nI 1) <<< ((nI en) &&& 31)) - (nI 1)) &&& ((f9 (72 + t_12)) ^^^ (-1))), .int (nI t_19)]) (rest := []) C (c_X12_nth l D cs ((((nI 1) <<< ((nI en) &&& 31)) - (nI 1)) &&& ((f9 (72 + t_12)) ^^^ (-1))) t_19 (by assumption)) kX12_159 hP hD [] rfl (by decide +kernel) ⟨Nat.le_of_ble_eq_true rfl, Nat.le_of_ble_eq_true rfl⟩ rfl hl.1 rfl (Nat.le_of_ble_eq_true rfl) dX12_polls_102 ⟨Nat.le_of_ble_eq_true rfl, Nat.le_of_ble_eq_true rfl⟩) hP hD hS hA [] [0, 1, 2, 3, 4, 5, 6] rfl rfl (by decide +kernel) (by decide +kernel) ?_
              clear hP hD hS
              try clear locs
              try clear H
              intro r_20 u_21 H locs hw_r_20 hP hD hS
              have hw_r_20 : ∃ b, b < 16 ∧ r_20 = nI b ∧ hasB ((((nI 1) <<< ((nI en) &&& 31)) - (nI 1)) &&& ((f9 (72 + t_12)) ^^^ (-1))) b := hw_r_20
              refine W.widen (k := 0) (n := 0) (Nat.le_of_ble_eq_true rfl) (Nat.le_of_ble_eq_true rfl) ?_
              replace hP : va_P D vwCl [(mso, .inl (cs 0, 16, .inl sof)), (mon, .inl (cs 0, 16, .inl onf)), (mot, .inl (cs 0, 16, .inl otf)), (man, .inl (cs 0, 16, .inl anf)), (ms, .inl (cs 0, 288, .inl f9)), (mkp, .inl (cs 0, 2304, .inl gz_7)), (hm, .inr (12, [.ref ms, .ref mkp, .int (nI kmz_6), .ref mtr, .int (nI n), .int (nI k), .int (nI al), .int (nI be), .int ea, .int pr, .ref mas, .int nq, .int p9, .int (nI en), .ref mso, .ref mon, .ref mot, .ref man, .int (nI 0), .int u_18, .ref mst, .ref msm, .ref mtb, .ref mti, .ref mfr, .ref mbn, .ref mbs, .ref mde, .int sF, .int sN, .int sS, .int ig, .long xa, .long xb, .ref maa, .ref mab, .ref mba, .ref mbb]))] H := hP
              replace hD : va_D A [(mso, .inl (cs 0, 16, .inl sof)), (mon, .inl (cs 0, 16, .inl onf)), (mot, .inl (cs 0, 16, .inl otf)), (man, .inl (cs 0, 16, .inl anf)), (ms, .inl (cs 0, 288, .inl f9)), (mkp, .inl (cs 0, 2304, .inl gz_7)), (hm, .inr (12, [.ref ms, .ref mkp, .int (nI kmz_6), .ref mtr, .int (nI n), .int (nI k), .int (nI al), .int (nI be), .int ea, .int pr, .ref mas, .int nq, .int p9, .int (nI en), .ref mso, .ref mon, .ref mot, .ref man, .int (nI 0), .int u_18, .ref mst, .ref msm, .ref mtb, .ref mti, .ref mfr, .ref mbn, .ref mbs, .ref mde, .int sF, .int sN, .int sS, .int ig, .long xa, .long xb, .ref maa, .ref mab, .ref mba, .ref mbb]))] := hD
              obtain ⟨e9, h_e9, rfl, hbe⟩ := hw_r_20
              replace hP : va_P D vwCl [(mso, .inl (cs 0, 16, .inl sof)), (mon, .inl (cs 0, 16, .inl onf)), (mot, .inl (cs 0, 16, .inl otf)), (man, .inl (cs 0, 16, .inl anf)), (ms, .inl (cs 0, 288, .inl f9)), (mkp, .inl (cs 0, 2304, .inl gz_7)), (hm, .inr (12, [.ref ms, .ref mkp, .int (nI kmz_6), .ref mtr, .int (nI n), .int (nI k), .int (nI al), .int (nI be), .int ea, .int pr, .ref mas, .int nq, .int p9, .int (nI en), .ref mso, .ref mon, .ref mot, .ref man, .int (nI 0), .int u_18, .ref mst, .ref msm, .ref mtb, .ref mti, .ref mfr, .ref mbn, .ref mbs, .ref mde, .int sF, .int sN, .int sS, .int ig, .long xa, .long xb, .ref maa, .ref mab, .ref mba, .ref mbb]))] H := hP
              replace hD : va_D A [(mso, .inl (cs 0, 16, .inl sof)), (mon, .inl (cs 0, 16, .inl onf)), (mot, .inl (cs 0, 16, .inl otf)), (man, .inl (cs 0, 16, .inl anf)), (ms, .inl (cs 0, 288, .inl f9)), (mkp, .inl (cs 0, 2304, .inl gz_7)), (hm, .inr (12, [.ref ms, .ref mkp, .int (nI kmz_6), .ref mtr, .int (nI n), .int (nI k), .int (nI al), .int (nI be), .int ea, .int pr, .ref mas, .int nq, .int p9, .int (nI en), .ref mso, .ref mon, .ref mot, .ref man, .int (nI 0), .int u_18, .ref mst, .ref msm, .ref mtb, .ref mti, .ref mfr, .ref mbn, .ref mbs, .ref mde, .int sF, .int sN, .int sS, .int ig, .long xa, .long xb, .ref maa, .ref mab, .ref mba, .ref mbb]))] := hD
              have hee : e9 < en := (hasB_msk hen (by omega)).mp ((hasB_and (by omega)).mp hbe).1
              refine lv_istore (lv' := [(7, .int (nI e9)), (6, .int ((((nI 1) <<< ((nI en) &&& 31)) - (nI 1)) &&& ((f9 (72 + t_12)) ^^^ (-1)))), (5, .int (nI t_12)), (4, .int (nI o)), (3, .int c9), (0, .ref hm), (1, .int (nI nn)), (2, .int sd)]) hx hb dX12_polls_105 hl (by decide) rfl ?_
              clear hl
              try clear ls
              intro ls hl
              refine lv_aload_n hx hb dX12_polls_107 rfl (lv_at hl 5 rfl) ?_
              refine lv_iload hx hb dX12_polls_108 (lv_at hl 2 rfl) ?_
              refine xi (wr := [(mso, .inl (cs 0, 16, .inl sof)), (mon, .inl (cs 0, 16, .inl onf)), (mot, .inl (cs 0, 16, .inl otf)), (man, .inl (cs 0, 16, .inl anf)), (ms, .inl (cs 0, 288, .inl f9)), (mkp, .inl (cs 0, 2304, .inl gz_7))]) (xV (As := [.int (nI t_12)]) (rest := []) C (c_X12_drawSample l D cs hm ms mkp mtr mas mso mon mot man mst msm mtb mti mfr mbn mbs mde maa mab mba mbb n k al be kmz_6 en ea pr nq p9 (nI 0) u_18 sF sN sS ig xa xb t_12 hn hkn (by omega)) kX12_162 hP hD [6] rfl (by decide +kernel) 0 rfl rfl rfl ⟨Nat.le_of_ble_eq_true rfl, Nat.le_of_ble_eq_true rfl⟩ rfl hl.1 rfl (Nat.le_of_ble_eq_true rfl) dX12_polls_110 ⟨Nat.le_of_ble_eq_true rfl, Nat.le_of_ble_eq_true rfl⟩) hP hD hS hA [6] [0, 1, 2, 3, 4, 5] rfl rfl (by decide +kernel) (by decide +kernel) ?_
              clear hP hD hS
              try clear locs
              try clear H
              intro r_22 u_23 H locs hw_r_22 hP hD hS
              refine W.widen (k := 0) (n := 0) (Nat.le_of_ble_eq_true rfl) (Nat.le_of_ble_eq_true rfl) ?_
              replace hP : va_P D vwCl [(mso, .inl (cs 0, 16, .inl sof)), (mon, .inl (cs 0, 16, .inl onf)), (mot, .inl (cs 0, 16, .inl otf)), (man, .inl (cs 0, 16, .inl anf)), (ms, .inl (cs 0, 288, .inl f9)), (mkp, .inl (cs 0, 2304, .inl gz_7)), (hm, .inr (12, [.ref ms, .ref mkp, .int (nI kmz_6), .ref mtr, .int (nI n), .int (nI k), .int (nI al), .int (nI be), .int ea, .int pr, .ref mas, .int nq, .int p9, .int (nI en), .ref mso, .ref mon, .ref mot, .ref man, .int (nI 0), .int u_23, .ref mst, .ref msm, .ref mtb, .ref mti, .ref mfr, .ref mbn, .ref mbs, .ref mde, .int sF, .int sN, .int sS, .int ig, .long xa, .long xb, .ref maa, .ref mab, .ref mba, .ref mbb]))] H := hP
              replace hD : va_D A [(mso, .inl (cs 0, 16, .inl sof)), (mon, .inl (cs 0, 16, .inl onf)), (mot, .inl (cs 0, 16, .inl otf)), (man, .inl (cs 0, 16, .inl anf)), (ms, .inl (cs 0, 288, .inl f9)), (mkp, .inl (cs 0, 2304, .inl gz_7)), (hm, .inr (12, [.ref ms, .ref mkp, .int (nI kmz_6), .ref mtr, .int (nI n), .int (nI k), .int (nI al), .int (nI be), .int ea, .int pr, .ref mas, .int nq, .int p9, .int (nI en), .ref mso, .ref mon, .ref mot, .ref man, .int (nI 0), .int u_23, .ref mst, .ref msm, .ref mtb, .ref mti, .ref mfr, .ref mbn, .ref mbs, .ref mde, .int sF, .int sN, .int sS, .int ig, .long xa, .long xb, .ref maa, .ref mab, .ref mba, .ref mbb]))] := hD
              refine lv_istore (lv' := [(8, .int r_22), (7, .int (nI e9)), (6, .int ((((nI 1) <<< ((nI en) &&& 31)) - (nI 1)) &&& ((f9 (72 + t_12)) ^^^ (-1)))), (5, .int (nI t_12)), (4, .int (nI o)), (3, .int c9), (0, .ref hm), (1, .int (nI nn)), (2, .int sd)]) hx hb dX12_polls_113 hl (by decide) rfl ?_
              clear hl
              try clear ls
              intro ls hl
              refine lv_aload_n hx hb dX12_polls_115 rfl (lv_at hl 6 rfl) ?_
              refine lv_iload hx hb dX12_polls_116 (lv_at hl 3 rfl) ?_
              refine lv_iload hx hb dX12_polls_118 (lv_at hl 1 rfl) ?_
              refine lv_iload hx hb dX12_polls_120 (lv_at hl 0 rfl) ?_
              refine xi (wr := [(mkp, .inl (cs 0, 2304, .inl gz_7))]) (xV (As := [.int (nI t_12), .int (nI e9), .int r_22]) (rest := []) C (c_X12_pollsOne l D cs hm ms mkp mtr mas mso mon mot man mst msm mtb mti mfr mbn mbs mde maa mab mba mbb n k al be kmz_6 en ea pr nq p9 (nI 0) u_23 sF sN sS ig xa xb f9 sof onf otf anf t_12 e9 r_22 hn hen hso hs9 (by omega) (by omega)) kX12_348 hP hD [6, 4, 0, 1, 2, 3] rfl (by decide +kernel) 0 rfl rfl rfl ⟨Nat.le_of_ble_eq_true rfl, Nat.le_of_ble_eq_true rfl⟩ rfl hl.1 rfl (Nat.le_of_ble_eq_true rfl) dX12_polls_122 ⟨Nat.le_of_ble_eq_true rfl, Nat.le_of_ble_eq_true rfl⟩) hP hD hS hA [6, 4, 0, 1, 2, 3] [5] rfl rfl (by decide +kernel) (by decide +kernel) ?_
              clear hP hD hS
              try clear locs
              try clear H
              intro r_24 u_25 H locs hw_r_24 hP hD hS
              obtain ⟨fz_26, poz_27⟩ := u_25
              have hw_r_24 : colP fz_26 := hw_r_24
              refine W.widen (k := 0) (n := 0) (Nat.le_of_ble_eq_true rfl) (Nat.le_of_ble_eq_true rfl) ?_
              replace hP : va_P D vwCl [(mkp, .inl (cs 0, 2304, .inl gz_7)), (hm, .inr (12, [.ref ms, .ref mkp, .int (nI kmz_6), .ref mtr, .int (nI n), .int (nI k), .int (nI al), .int (nI be), .int ea, .int pr, .ref mas, .int nq, .int poz_27, .int (nI en), .ref mso, .ref mon, .ref mot, .ref man, .int (nI 0), .int u_23, .ref mst, .ref msm, .ref mtb, .ref mti, .ref mfr, .ref mbn, .ref mbs, .ref mde, .int sF, .int sN, .int sS, .int ig, .long xa, .long xb, .ref maa, .ref mab, .ref mba, .ref mbb])), (ms, .inl (cs 0, 288, .inl fz_26)), (mso, .inl (cs 0, 16, .inl sof)), (mon, .inl (cs 0, 16, .inl onf)), (mot, .inl (cs 0, 16, .inl otf)), (man, .inl (cs 0, 16, .inl anf))] H := hP
              replace hD : va_D A [(mkp, .inl (cs 0, 2304, .inl gz_7)), (hm, .inr (12, [.ref ms, .ref mkp, .int (nI kmz_6), .ref mtr, .int (nI n), .int (nI k), .int (nI al), .int (nI be), .int ea, .int pr, .ref mas, .int nq, .int poz_27, .int (nI en), .ref mso, .ref mon, .ref mot, .ref man, .int (nI 0), .int u_23, .ref mst, .ref msm, .ref mtb, .ref mti, .ref mfr, .ref mbn, .ref mbs, .ref mde, .int sF, .int sN, .int sS, .int ig, .long xa, .long xb, .ref maa, .ref mab, .ref mba, .ref mbb])), (ms, .inl (cs 0, 288, .inl fz_26)), (mso, .inl (cs 0, 16, .inl sof)), (mon, .inl (cs 0, 16, .inl onf)), (mot, .inl (cs 0, 16, .inl otf)), (man, .inl (cs 0, 16, .inl anf))] := hD
              refine lv_if_le (tgt := 149) hx hb dX12_polls_125 (by decide) (fun c_28 => ?_) (fun c_28 => ?_)
              · -- 125 t
                refine lv_iinc (v := nI (o + 1)) (lv' := [(4, .int (nI (o + 1))), (8, .int r_22), (7, .int (nI e9)), (6, .int ((((nI 1) <<< ((nI en) &&& 31)) - (nI 1)) &&& ((f9 (72 + t_12)) ^^^ (-1)))), (5, .int (nI t_12)), (3, .int c9), (0, .ref hm), (1, .int (nI nn)), (2, .int sd)]) hx hb dX12_polls_149 hl (k := 4) rfl (nI_add o 1) (by decide) rfl ?_
                clear hl
                try clear ls
                intro ls hl
                refine lv_goto (tgt := 31) hx hb dX12_polls_152 (by decide) ?_
                exact ih_loop_8 (o + 1) fz_26 poz_27 u_23 c9 (by omega) hw_r_24 (by omega) H locs ls (xP_map hP [3, 4, 5, 6, 1, 2, 0] rfl) (hD.sub [3, 4, 5, 6, 1, 2, 0] (by decide +kernel) rfl) hS (lv_sub hl [0, 5, 6, 7, 8] rfl)
              · -- 125 f
                refine lv_aload_n hx hb dX12_polls_128 rfl (lv_at hl 6 rfl) ?_
                refine xget C hP 1 rfl rfl zuX12 0 (by decide) zw5_213 rfl dX12_polls_129 ?_
                refine lv_bipush (v := nI 64) hx hb dX12_polls_132 (by decide) ?_
                refine lv_iload hx hb dX12_polls_134 (lv_at hl 3 rfl) ?_
                refine lv_iadd hx hb dX12_polls_136 ?_
                refine lv_topi (nm_r (e' := nI (64 + t_12)) (nI_add _ _) ?_)
                refine xiald C hP 2 rfl (64 + t_12) rfl (by omega) (by decide) dX12_polls_137 ?_
                refine lv_iload hx hb dX12_polls_138 (lv_at hl 1 rfl) ?_
                refine xi (wr := [(mkp, .inl (cs 0, 2304, .inl gz_7)), (hm, .inr (12, [.ref ms, .ref mkp, .int (nI kmz_6), .ref mtr, .int (nI n), .int (nI k), .int (nI al), .int (nI be), .int ea, .int pr, .ref mas, .int nq, .int poz_27, .int (nI en), .ref mso, .ref mon, .ref mot, .ref man, .int (nI 0), .int u_23, .ref mst, .ref msm, .ref mtb, .ref mti, .ref mfr, .ref mbn, .ref mbs, .ref mde, .int sF, .int sN, .int sS, .int ig, .long xa, .long xb, .ref maa, .ref mab, .ref mba, .ref mbb])), (ms, .inl (cs 0, 288, .inl fz_26)), (mso, .inl (cs 0, 16, .inl sof)), (mon, .inl (cs 0, 16, .inl onf)), (mot, .inl (cs 0, 16, .inl otf)), (man, .inl (cs 0, 16, .inl anf))]) (xS (As := [.int (fz_26 (64 + t_12)), .int (nI e9)]) (rest := []) C (c_X12_has l D cs (fz_26 (64 + t_12)) e9) kX12_100 hP hD [] rfl (by decide +kernel) ⟨Nat.le_of_ble_eq_true rfl, Nat.le_of_ble_eq_true rfl⟩ rfl hl.1 rfl (Nat.le_of_ble_eq_true rfl) dX12_polls_140 ⟨Nat.le_of_ble_eq_true rfl, Nat.le_of_ble_eq_true rfl⟩) hP hD hS hA [] [0, 1, 2, 3, 4, 5, 6] rfl rfl (by decide +kernel) (by decide +kernel) ?_
                clear hP hD hS
                try clear locs
                try clear H
                intro r_29 u_30 H locs hw_r_29 hP hD hS
                have hw_r_29 : PQ (hasB (fz_26 (64 + t_12)) e9) r_29 (nI 1) (nI 0) := hw_r_29
                refine W.widen (k := 0) (n := 0) (Nat.le_of_ble_eq_true rfl) (Nat.le_of_ble_eq_true rfl) ?_
                replace hP : va_P D vwCl [(mkp, .inl (cs 0, 2304, .inl gz_7)), (hm, .inr (12, [.ref ms, .ref mkp, .int (nI kmz_6), .ref mtr, .int (nI n), .int (nI k), .int (nI al), .int (nI be), .int ea, .int pr, .ref mas, .int nq, .int poz_27, .int (nI en), .ref mso, .ref mon, .ref mot, .ref man, .int (nI 0), .int u_23, .ref mst, .ref msm, .ref mtb, .ref mti, .ref mfr, .ref mbn, .ref mbs, .ref mde, .int sF, .int sN, .int sS, .int ig, .long xa, .long xb, .ref maa, .ref mab, .ref mba, .ref mbb])), (ms, .inl (cs 0, 288, .inl fz_26)), (mso, .inl (cs 0, 16, .inl sof)), (mon, .inl (cs 0, 16, .inl onf)), (mot, .inl (cs 0, 16, .inl otf)), (man, .inl (cs 0, 16, .inl anf))] H := hP
                replace hD : va_D A [(mkp, .inl (cs 0, 2304, .inl gz_7)), (hm, .inr (12, [.ref ms, .ref mkp, .int (nI kmz_6), .ref mtr, .int (nI n), .int (nI k), .int (nI al), .int (nI be), .int ea, .int pr, .ref mas, .int nq, .int poz_27, .int (nI en), .ref mso, .ref mon, .ref mot, .ref man, .int (nI 0), .int u_23, .ref mst, .ref msm, .ref mtb, .ref mti, .ref mfr, .ref mbn, .ref mbs, .ref mde, .int sF, .int sN, .int sS, .int ig, .long xa, .long xb, .ref maa, .ref mab, .ref mba, .ref mbb])), (ms, .inl (cs 0, 288, .inl fz_26)), (mso, .inl (cs 0, 16, .inl sof)), (mon, .inl (cs 0, 16, .inl onf)), (mot, .inl (cs 0, 16, .inl otf)), (man, .inl (cs 0, 16, .inl anf))] := hD
                refine lv_if_eq (tgt := 149) hx hb dX12_polls_143 (by decide) (fun c_31 => ?_) (fun c_31 => ?_)
                · -- 143 t
                  refine lv_iinc (v := nI (o + 1)) (lv' := [(4, .int (nI (o + 1))), (8, .int r_22), (7, .int (nI e9)), (6, .int ((((nI 1) <<< ((nI en) &&& 31)) - (nI 1)) &&& ((f9 (72 + t_12)) ^^^ (-1)))), (5, .int (nI t_12)), (3, .int c9), (0, .ref hm), (1, .int (nI nn)), (2, .int sd)]) hx hb dX12_polls_149 hl (k := 4) rfl (nI_add o 1) (by decide) rfl ?_
                  clear hl
                  try clear ls
                  intro ls hl
                  refine lv_goto (tgt := 31) hx hb dX12_polls_152 (by decide) ?_
                  exact ih_loop_8 (o + 1) fz_26 poz_27 u_23 c9 (by omega) hw_r_24 (by omega) H locs ls (xP_map hP [3, 4, 5, 6, 1, 2, 0] rfl) (hD.sub [3, 4, 5, 6, 1, 2, 0] (by decide +kernel) rfl) hS (lv_sub hl [0, 5, 6, 7, 8] rfl)
                · -- 143 f
                  refine lv_iinc (v := c9 + 1) (lv' := [(3, .int (c9 + 1)), (8, .int r_22), (7, .int (nI e9)), (6, .int ((((nI 1) <<< ((nI en) &&& 31)) - (nI 1)) &&& ((f9 (72 + t_12)) ^^^ (-1)))), (5, .int (nI t_12)), (4, .int (nI o)), (0, .ref hm), (1, .int (nI nn)), (2, .int sd)]) hx hb dX12_polls_146 hl (k := 5) rfl rfl (by decide) rfl ?_
                  clear hl
                  try clear ls
                  intro ls hl
                  refine lv_iinc (v := nI (o + 1)) (lv' := [(4, .int (nI (o + 1))), (3, .int (c9 + 1)), (8, .int r_22), (7, .int (nI e9)), (6, .int ((((nI 1) <<< ((nI en) &&& 31)) - (nI 1)) &&& ((f9 (72 + t_12)) ^^^ (-1)))), (5, .int (nI t_12)), (0, .ref hm), (1, .int (nI nn)), (2, .int sd)]) hx hb dX12_polls_149 hl (k := 5) rfl (nI_add o 1) (by decide) rfl ?_
                  clear hl
                  try clear ls
                  intro ls hl
                  refine lv_goto (tgt := 31) hx hb dX12_polls_152 (by decide) ?_
                  exact ih_loop_8 (o + 1) fz_26 poz_27 u_23 (c9 + 1) (by omega) hw_r_24 (by omega) H locs ls (xP_map hP [3, 4, 5, 6, 1, 2, 0] rfl) (hD.sub [3, 4, 5, 6, 1, 2, 0] (by decide +kernel) rfl) hS (lv_sub hl [0, 1, 6, 7, 8] rfl)
            · -- 85 f
              refine lv_goto (tgt := 149) hx hb dX12_polls_88 (by decide) ?_
              refine lv_iinc (v := nI (o + 1)) (lv' := [(4, .int (nI (o + 1))), (6, .int ((((nI 1) <<< ((nI en) &&& 31)) - (nI 1)) &&& ((f9 (72 + t_12)) ^^^ (-1)))), (5, .int (nI t_12)), (3, .int c9), (0, .ref hm), (1, .int (nI nn)), (2, .int sd)]) hx hb dX12_polls_149 hl (k := 2) rfl (nI_add o 1) (by decide) rfl ?_
              clear hl
              try clear ls
              intro ls hl
              refine lv_goto (tgt := 31) hx hb dX12_polls_152 (by decide) ?_
              exact ih_loop_8 (o + 1) f9 p9 u_11 c9 (by omega) hs9 (by omega) H locs ls (xP_map hP [0, 1, 2, 3, 6, 4, 5] rfl) (hD.sub [0, 1, 2, 3, 6, 4, 5] (by decide +kernel) rfl) hS (lv_sub hl [0, 3, 4, 5, 6] rfl)
    exact loop_8 _ 0 f po sd (nI 0) (by omega) hs (Nat.lt_succ_self _) H locs ls hP hD hS (lv_sub hl [0, 1, 2, 3, 4] rfl)
  · -- 12 f
    refine lv_iconst (v := (-1)) hx hb dX12_polls_15 (by decide) ?_
    exact xreti C (⟨km, f, g, po, xd⟩) (⟨hs, ⟨hk, hkm⟩⟩) hP hD hS (Nat.le_of_ble_eq_true rfl) (Nat.le_of_ble_eq_true rfl) rfl dX12_polls_16
