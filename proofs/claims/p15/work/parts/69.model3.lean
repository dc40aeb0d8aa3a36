set_option maxHeartbeats 4000000 in
set_option maxRecDepth 100000 in
theorem c_X12_isSample (l : Launch) (D : va_G) (cs : Nat → ClassId) (hm ms mkp mtr mas mso mon mot man mst msm mtb mti mfr mbn mbs mde maa mab mba mbb : Nat) (n k al be km en : Nat) (ea pr nq po th xd sF sN sS ig : Int32) (xa xb : Int64) (j : Nat) (y : Int32) : xMet l D cs yX12_isSample cX12_isSample 3 (some .boolean) ({ frames := 2, cells := 0, slots := 0, locals := 43 } : Room) [.ref hm, .int (nI j), .int y] [(hm, .inr (12, [.ref ms, .ref mkp, .int (nI km), .ref mtr, .int (nI n), .int (nI k), .int (nI al), .int (nI be), .int ea, .int pr, .ref mas, .int nq, .int po, .int (nI en), .ref mso, .ref mon, .ref mot, .ref man, .int th, .int xd, .ref mst, .ref msm, .ref mtb, .ref mti, .ref mfr, .ref mbn, .ref mbs, .ref mde, .int sF, .int sN, .int sS, .int ig, .long xa, .long xb, .ref maa, .ref mab, .ref mba, .ref mbb]))] (xQi D (fun (r : Int32) (_u : Unit) => (r = nI 0 ∨ r = nI 1)) (fun (_u : Unit) => [(hm, .inr (12, [.ref ms, .ref mkp, .int (nI km), .ref mtr, .int (nI n), .int (nI k), .int (nI al), .int (nI be), .int ea, .int pr, .ref mas, .int nq, .int po, .int (nI en), .ref mso, .ref mon, .ref mot, .ref man, .int th, .int xd, .ref mst, .ref msm, .ref mtb, .ref mti, .ref mfr, .ref mbn, .ref mbs, .ref mde, .int sF, .int sN, .int sS, .int ig, .long xa, .long xb, .ref maa, .ref mab, .ref mba, .ref mbb]))])) := by
  refine xMet.intro (by decide) (Nat.le_of_ble_eq_true rfl) ?_
  intro p e s m args below meth c A ls C hP hD hS hl
  have hx := C.1
  have hb := C.2.1
  have hz := C.2.2.2.2.1
  have hown := C.2.2.2.1
  have hA := C.2.2.2.2.2.2.2.2.2
  have hAO := C.2.2.2.2.2.2.2.2.1.2.2
  replace hl : lv_has ls 3 [(0, .ref hm), (1, .int (nI j)), (2, .int y)] := hl
  obtain ⟨H, hH⟩ : ∃ H, H = s.heap := ⟨_, rfl⟩
  replace hP : va_P D vwCl [(hm, .inr (12, [.ref ms, .ref mkp, .int (nI km), .ref mtr, .int (nI n), .int (nI k), .int (nI al), .int (nI be), .int ea, .int pr, .ref mas, .int nq, .int po, .int (nI en), .ref mso, .ref mon, .ref mot, .ref man, .int th, .int xd, .ref mst, .ref msm, .ref mtb, .ref mti, .ref mfr, .ref mbn, .ref mbs, .ref mde, .int sF, .int sN, .int sS, .int ig, .long xa, .long xb, .ref maa, .ref mab, .ref mba, .ref mbb]))] H := by rw [hH]; exact hP
  replace hS : va_S A s.heap H [] := by rw [hH]; exact hS
  obtain ⟨locs, hlocs⟩ : ∃ z : List Loc, z = [] := ⟨_, rfl⟩
  rw [← hlocs] at hS
  suffices hW : W p l e ({ frames := 2, cells := 0, slots := 0, locals := 43 } : Room) s m args below meth c H locs 0 0 (MQ below ((xQi D (fun (r : Int32) (_u : Unit) => (r = nI 0 ∨ r = nI 1)) (fun (_u : Unit) => [(hm, .inr (12, [.ref ms, .ref mkp, .int (nI km), .ref mtr, .int (nI n), .int (nI k), .int (nI al), .int (nI be), .int ea, .int pr, .ref mas, .int nq, .int po, .int (nI en), .ref mso, .ref mon, .ref mot, .ref man, .int th, .int xd, .ref mst, .ref msm, .ref mtb, .ref mti, .ref mfr, .ref mbn, .ref mbs, .ref mde, .int sF, .int sN, .int sS, .int ig, .long xa, .long xb, .ref maa, .ref mab, .ref mba, .ref mbb]))])) A) args s 0 0 A) (F0 m 0 ls []) by rw [hlocs, hH] at hW; exact hW
  clear hH hlocs
  refine lv_iload_n hx hb dX12_isSample_0 rfl (lv_at hl 2 rfl) ?_
  refine lv_if_lt (tgt := 37) hx hb dX12_isSample_1 (by decide) (fun c_1 => ?_) (fun c_1 => ?_)
  · -- 1 t
    refine lv_iconst (v := nI 0) hx hb dX12_isSample_37 (by decide) ?_
    exact xreti C () (by decide) hP hD hS (Nat.le_of_ble_eq_true rfl) (Nat.le_of_ble_eq_true rfl) (by decide) dX12_isSample_38
  · -- 1 f
    refine lv_iload_n hx hb dX12_isSample_4 rfl (lv_at hl 2 rfl) ?_
    refine lv_iconst (v := nI 1) hx hb dX12_isSample_5 (by decide) ?_
    refine lv_aload_n hx hb dX12_isSample_6 rfl (lv_at hl 0 rfl) ?_
    refine xget C hP 0 rfl rfl zuX12 4 (by decide) zw5_217 rfl dX12_isSample_7 ?_
    refine lv_ishl hx hb dX12_isSample_10 ?_
    refine lv_icmp_ge (tgt := 37) hx hb dX12_isSample_11 (by decide) (fun c_2 => ?_) (fun c_2 => ?_)
    · -- 11 t
      refine lv_iconst (v := nI 0) hx hb dX12_isSample_37 (by decide) ?_
      exact xreti C () (by decide) hP hD hS (Nat.le_of_ble_eq_true rfl) (Nat.le_of_ble_eq_true rfl) (by decide) dX12_isSample_38
    · -- 11 f
      refine lv_iload_n hx hb dX12_isSample_14 rfl (lv_at hl 2 rfl) ?_
      refine lv_iload_n hx hb dX12_isSample_15 rfl (lv_at hl 1 rfl) ?_
      refine xi (wr := [(hm, .inr (12, [.ref ms, .ref mkp, .int (nI km), .ref mtr, .int (nI n), .int (nI k), .int (nI al), .int (nI be), .int ea, .int pr, .ref mas, .int nq, .int po, .int (nI en), .ref mso, .ref mon, .ref mot, .ref man, .int th, .int xd, .ref mst, .ref msm, .ref mtb, .ref mti, .ref mfr, .ref mbn, .ref mbs, .ref mde, .int sF, .int sN, .int sS, .int ig, .long xa, .long xb, .ref maa, .ref mab, .ref mba, .ref mbb]))]) (xS (As := [.int y, .int (nI j)]) (rest := []) C (c_X12_has l D cs y j) kX12_100 hP hD [] rfl (by decide +kernel) ⟨Nat.le_of_ble_eq_true rfl, Nat.le_of_ble_eq_true rfl⟩ rfl hl.1 rfl (Nat.le_of_ble_eq_true rfl) dX12_isSample_16 ⟨Nat.le_of_ble_eq_true rfl, Nat.le_of_ble_eq_true rfl⟩) hP hD hS hA [] [0] rfl rfl (by decide +kernel) (by decide +kernel) ?_
      clear hP hD hS
      try clear locs
      try clear H
      intro r_3 u_4 H locs hw_r_3 hP hD hS
      have hw_r_3 : PQ (hasB y j) r_3 (nI 1) (nI 0) := hw_r_3
      refine W.widen (k := 0) (n := 0) (Nat.le_of_ble_eq_true rfl) (Nat.le_of_ble_eq_true rfl) ?_
      replace hP : va_P D vwCl [(hm, .inr (12, [.ref ms, .ref mkp, .int (nI km), .ref mtr, .int (nI n), .int (nI k), .int (nI al), .int (nI be), .int ea, .int pr, .ref mas, .int nq, .int po, .int (nI en), .ref mso, .ref mon, .ref mot, .ref man, .int th, .int xd, .ref mst, .ref msm, .ref mtb, .ref mti, .ref mfr, .ref mbn, .ref mbs, .ref mde, .int sF, .int sN, .int sS, .int ig, .long xa, .long xb, .ref maa, .ref mab, .ref mba, .ref mbb]))] H := hP
      replace hD : va_D A [(hm, .inr (12, [.ref ms, .ref mkp, .int (nI km), .ref mtr, .int (nI n), .int (nI k), .int (nI al), .int (nI be), .int ea, .int pr, .ref mas, .int nq, .int po, .int (nI en), .ref mso, .ref mon, .ref mot, .ref man, .int th, .int xd, .ref mst, .ref msm, .ref mtb, .ref mti, .ref mfr, .ref mbn, .ref mbs, .ref mde, .int sF, .int sN, .int sS, .int ig, .long xa, .long xb, .ref maa, .ref mab, .ref mba, .ref mbb]))] := hD
      refine lv_if_ne (tgt := 37) hx hb dX12_isSample_19 (by decide) (fun c_5 => ?_) (fun c_5 => ?_)
      · -- 19 t
        refine lv_iconst (v := nI 0) hx hb dX12_isSample_37 (by decide) ?_
        exact xreti C () (by decide) hP hD hS (Nat.le_of_ble_eq_true rfl) (Nat.le_of_ble_eq_true rfl) (by decide) dX12_isSample_38
      · -- 19 f
        refine lv_iload_n hx hb dX12_isSample_22 rfl (lv_at hl 2 rfl) ?_
        refine xi (wr := [(hm, .inr (12, [.ref ms, .ref mkp, .int (nI km), .ref mtr, .int (nI n), .int (nI k), .int (nI al), .int (nI be), .int ea, .int pr, .ref mas, .int nq, .int po, .int (nI en), .ref mso, .ref mon, .ref mot, .ref man, .int th, .int xd, .ref mst, .ref msm, .ref mtb, .ref mti, .ref mfr, .ref mbn, .ref mbs, .ref mde, .int sF, .int sN, .int sS, .int ig, .long xa, .long xb, .ref maa, .ref mab, .ref mba, .ref mbb]))]) (xS (As := [.int y]) (rest := []) C (c_X12_many l D cs y) kX12_127 hP hD [] rfl (by decide +kernel) ⟨Nat.le_of_ble_eq_true rfl, Nat.le_of_ble_eq_true rfl⟩ rfl hl.1 rfl (Nat.le_of_ble_eq_true rfl) dX12_isSample_23 ⟨Nat.le_of_ble_eq_true rfl, Nat.le_of_ble_eq_true rfl⟩) hP hD hS hA [] [0] rfl rfl (by decide +kernel) (by decide +kernel) ?_
        clear hP hD hS
        try clear locs
        try clear H
        intro r_6 u_7 H locs hw_r_6 hP hD hS
        have hw_r_6 : r_6 = nI (cntL y 16) := hw_r_6
        refine W.widen (k := 0) (n := 0) (Nat.le_of_ble_eq_true rfl) (Nat.le_of_ble_eq_true rfl) ?_
        replace hP : va_P D vwCl [(hm, .inr (12, [.ref ms, .ref mkp, .int (nI km), .ref mtr, .int (nI n), .int (nI k), .int (nI al), .int (nI be), .int ea, .int pr, .ref mas, .int nq, .int po, .int (nI en), .ref mso, .ref mon, .ref mot, .ref man, .int th, .int xd, .ref mst, .ref msm, .ref mtb, .ref mti, .ref mfr, .ref mbn, .ref mbs, .ref mde, .int sF, .int sN, .int sS, .int ig, .long xa, .long xb, .ref maa, .ref mab, .ref mba, .ref mbb]))] H := hP
        replace hD : va_D A [(hm, .inr (12, [.ref ms, .ref mkp, .int (nI km), .ref mtr, .int (nI n), .int (nI k), .int (nI al), .int (nI be), .int ea, .int pr, .ref mas, .int nq, .int po, .int (nI en), .ref mso, .ref mon, .ref mot, .ref man, .int th, .int xd, .ref mst, .ref msm, .ref mtb, .ref mti, .ref mfr, .ref mbn, .ref mbs, .ref mde, .int sF, .int sN, .int sS, .int ig, .long xa, .long xb, .ref maa, .ref mab, .ref mba, .ref mbb]))] := hD
        refine lv_aload_n hx hb dX12_isSample_26 rfl (lv_at hl 0 rfl) ?_
        refine xget C hP 0 rfl rfl zuX12 5 (by decide) zw5_218 rfl dX12_isSample_27 ?_
        refine lv_icmp_ne (tgt := 37) hx hb dX12_isSample_30 (by decide) (fun c_8 => ?_) (fun c_8 => ?_)
        · -- 30 t
          refine lv_iconst (v := nI 0) hx hb dX12_isSample_37 (by decide) ?_
          exact xreti C () (by decide) hP hD hS (Nat.le_of_ble_eq_true rfl) (Nat.le_of_ble_eq_true rfl) (by decide) dX12_isSample_38
        · -- 30 f
          refine lv_iconst (v := nI 1) hx hb dX12_isSample_33 (by decide) ?_
          refine lv_goto (tgt := 38) hx hb dX12_isSample_34 (by decide) ?_
          exact xreti C () (by decide) hP hD hS (Nat.le_of_ble_eq_true rfl) (Nat.le_of_ble_eq_true rfl) (by decide) dX12_isSample_38

set_option maxHeartbeats 4000000 in
set_option maxRecDepth 100000 in
theorem c_X12_canAsk (l : Launch) (D : va_G) (cs : Nat → ClassId) (hm ms mkp mtr mas mso mon mot man mst msm mtb mti mfr mbn mbs mde maa mab mba mbb : Nat) (n k al be km en : Nat) (ea pr nq po th xd sF sN sS ig : Int32) (xa xb : Int64) (f : Nat → Int32) (a : Nat) (ha : a < 8) : xMet l D cs yX12_canAsk cX12_canAsk 2 (some .boolean) ({ frames := 0, cells := 0, slots := 0, locals := 0 } : Room) [.ref hm, .int (nI a)] [(hm, .inr (12, [.ref ms, .ref mkp, .int (nI km), .ref mtr, .int (nI n), .int (nI k), .int (nI al), .int (nI be), .int ea, .int pr, .ref mas, .int nq, .int po, .int (nI en), .ref mso, .ref mon, .ref mot, .ref man, .int th, .int xd, .ref mst, .ref msm, .ref mtb, .ref mti, .ref mfr, .ref mbn, .ref mbs, .ref mde, .int sF, .int sN, .int sS, .int ig, .long xa, .long xb, .ref maa, .ref mab, .ref mba, .ref mbb])), (ms, .inl (cs 0, 288, .inl f))] (xQi D (fun (r : Int32) (_u : Unit) => (r = nI 0 ∨ r = nI 1) ∧ (r = nI 1 → ¬ f (0 + a) < 0)) (fun (_u : Unit) => [(hm, .inr (12, [.ref ms, .ref mkp, .int (nI km), .ref mtr, .int (nI n), .int (nI k), .int (nI al), .int (nI be), .int ea, .int pr, .ref mas, .int nq, .int po, .int (nI en), .ref mso, .ref mon, .ref mot, .ref man, .int th, .int xd, .ref mst, .ref msm, .ref mtb, .ref mti, .ref mfr, .ref mbn, .ref mbs, .ref mde, .int sF, .int sN, .int sS, .int ig, .long xa, .long xb, .ref maa, .ref mab, .ref mba, .ref mbb])), (ms, .inl (cs 0, 288, .inl f))])) := by
  refine xMet.intro (by decide) (Nat.le_of_ble_eq_true rfl) ?_
  intro p e s m args below meth c A ls C hP hD hS hl
  have hx := C.1
  have hb := C.2.1
  have hz := C.2.2.2.2.1
  have hown := C.2.2.2.1
  have hA := C.2.2.2.2.2.2.2.2.2
  have hAO := C.2.2.2.2.2.2.2.2.1.2.2
  replace hl : lv_has ls 2 [(0, .ref hm), (1, .int (nI a))] := hl
  obtain ⟨H, hH⟩ : ∃ H, H = s.heap := ⟨_, rfl⟩
  replace hP : va_P D vwCl [(hm, .inr (12, [.ref ms, .ref mkp, .int (nI km), .ref mtr, .int (nI n), .int (nI k), .int (nI al), .int (nI be), .int ea, .int pr, .ref mas, .int nq, .int po, .int (nI en), .ref mso, .ref mon, .ref mot, .ref man, .int th, .int xd, .ref mst, .ref msm, .ref mtb, .ref mti, .ref mfr, .ref mbn, .ref mbs, .ref mde, .int sF, .int sN, .int sS, .int ig, .long xa, .long xb, .ref maa, .ref mab, .ref mba, .ref mbb])), (ms, .inl (cs 0, 288, .inl f))] H := by rw [hH]; exact hP
  replace hS : va_S A s.heap H [] := by rw [hH]; exact hS
  obtain ⟨locs, hlocs⟩ : ∃ z : List Loc, z = [] := ⟨_, rfl⟩
  rw [← hlocs] at hS
  suffices hW : W p l e ({ frames := 0, cells := 0, slots := 0, locals := 0 } : Room) s m args below meth c H locs 0 0 (MQ below ((xQi D (fun (r : Int32) (_u : Unit) => (r = nI 0 ∨ r = nI 1) ∧ (r = nI 1 → ¬ f (0 + a) < 0)) (fun (_u : Unit) => [(hm, .inr (12, [.ref ms, .ref mkp, .int (nI km), .ref mtr, .int (nI n), .int (nI k), .int (nI al), .int (nI be), .int ea, .int pr, .ref mas, .int nq, .int po, .int (nI en), .ref mso, .ref mon, .ref mot, .ref man, .int th, .int xd, .ref mst, .ref msm, .ref mtb, .ref mti, .ref mfr, .ref mbn, .ref mbs, .ref mde, .int sF, .int sN, .int sS, .int ig, .long xa, .long xb, .ref maa, .ref mab, .ref mba, .ref mbb])), (ms, .inl (cs 0, 288, .inl f))])) A) args s 0 0 A) (F0 m 0 ls []) by rw [hlocs, hH] at hW; exact hW
  clear hH hlocs
  refine lv_aload_n hx hb dX12_canAsk_0 rfl (lv_at hl 0 rfl) ?_
  refine xget C hP 0 rfl rfl zuX12 0 (by decide) zw5_213 rfl dX12_canAsk_1 ?_
  refine lv_bipush (v := nI 48) hx hb dX12_canAsk_4 (by decide) ?_
  refine lv_iload_n hx hb dX12_canAsk_6 rfl (lv_at hl 1 rfl) ?_
  refine lv_iadd hx hb dX12_canAsk_7 ?_
  refine lv_topi (nm_r (e' := nI (48 + a)) (nI_add _ _) ?_)
  refine xiald C hP 1 rfl (48 + a) rfl (by omega) (by decide) dX12_canAsk_8 ?_
  refine lv_if_ne (tgt := 39) hx hb dX12_canAsk_9 (by decide) (fun c_1 => ?_) (fun c_1 => ?_)
  · -- 9 t
    refine lv_iconst (v := nI 0) hx hb dX12_canAsk_39 (by decide) ?_
    exact xreti C () (⟨by decide, fun q => absurd q (by decide)⟩) hP hD hS (Nat.le_of_ble_eq_true rfl) (Nat.le_of_ble_eq_true rfl) (by decide) dX12_canAsk_40
  · -- 9 f
    refine lv_aload_n hx hb dX12_canAsk_12 rfl (lv_at hl 0 rfl) ?_
    refine xget C hP 0 rfl rfl zuX12 0 (by decide) zw5_213 rfl dX12_canAsk_13 ?_
    refine lv_bipush (v := nI 40) hx hb dX12_canAsk_16 (by decide) ?_
    refine lv_iload_n hx hb dX12_canAsk_18 rfl (lv_at hl 1 rfl) ?_
    refine lv_iadd hx hb dX12_canAsk_19 ?_
    refine lv_topi (nm_r (e' := nI (40 + a)) (nI_add _ _) ?_)
    refine xiald C hP 1 rfl (40 + a) rfl (by omega) (by decide) dX12_canAsk_20 ?_
    refine lv_if_ne (tgt := 39) hx hb dX12_canAsk_21 (by decide) (fun c_2 => ?_) (fun c_2 => ?_)
    · -- 21 t
      refine lv_iconst (v := nI 0) hx hb dX12_canAsk_39 (by decide) ?_
      exact xreti C () (⟨by decide, fun q => absurd q (by decide)⟩) hP hD hS (Nat.le_of_ble_eq_true rfl) (Nat.le_of_ble_eq_true rfl) (by decide) dX12_canAsk_40
    · -- 21 f
      refine lv_aload_n hx hb dX12_canAsk_24 rfl (lv_at hl 0 rfl) ?_
      refine xget C hP 0 rfl rfl zuX12 0 (by decide) zw5_213 rfl dX12_canAsk_25 ?_
      refine lv_iconst (v := nI 0) hx hb dX12_canAsk_28 (by decide) ?_
      refine lv_iload_n hx hb dX12_canAsk_29 rfl (lv_at hl 1 rfl) ?_
      refine lv_iadd hx hb dX12_canAsk_30 ?_
      refine lv_topi (nm_r (e' := nI (0 + a)) (nI_add _ _) ?_)
      refine xiald C hP 1 rfl (0 + a) rfl (by omega) (by decide) dX12_canAsk_31 ?_
      refine lv_if_lt (tgt := 39) hx hb dX12_canAsk_32 (by decide) (fun c_3 => ?_) (fun c_3 => ?_)
      · -- 32 t
        refine lv_iconst (v := nI 0) hx hb dX12_canAsk_39 (by decide) ?_
        exact xreti C () (⟨by decide, fun q => absurd q (by decide)⟩) hP hD hS (Nat.le_of_ble_eq_true rfl) (Nat.le_of_ble_eq_true rfl) (by decide) dX12_canAsk_40
      · -- 32 f
        refine lv_iconst (v := nI 1) hx hb dX12_canAsk_35 (by decide) ?_
        refine lv_goto (tgt := 40) hx hb dX12_canAsk_36 (by decide) ?_
        exact xreti C () (⟨by decide, fun _ => c_3⟩) hP hD hS (Nat.le_of_ble_eq_true rfl) (Nat.le_of_ble_eq_true rfl) (by decide) dX12_canAsk_40

set_option maxHeartbeats 4000000 in
set_option maxRecDepth 100000 in
theorem c_X12_says (l : Launch) (D : va_G) (cs : Nat → ClassId) (hm ms mkp mtr mas mso mon mot man mst msm mtb mti mfr mbn mbs mde maa mab mba mbb : Nat) (n k al be km en : Nat) (ea pr nq po th xd sF sN sS ig : Int32) (xa xb : Int64) (f : Nat → Int32) (b a : Nat) (ha : a < 8) (hb : b < 8) (hs : colP f) : xMet l D cs yX12_says cX12_says 5 (some .int) ({ frames := 1, cells := 0, slots := 0, locals := 21 } : Room) [.ref hm, .int (nI b), .int (nI a)] [(hm, .inr (12, [.ref ms, .ref mkp, .int (nI km), .ref mtr, .int (nI n), .int (nI k), .int (nI al), .int (nI be), .int ea, .int pr, .ref mas, .int nq, .int po, .int (nI en), .ref mso, .ref mon, .ref mot, .ref man, .int th, .int xd, .ref mst, .ref msm, .ref mtb, .ref mti, .ref mfr, .ref mbn, .ref mbs, .ref mde, .int sF, .int sN, .int sS, .int ig, .long xa, .long xb, .ref maa, .ref mab, .ref mba, .ref mbb])), (ms, .inl (cs 0, 288, .inl f))] (xQi D (fun (r : Int32) (fz : (Nat → Int32)) => colP fz ∧ ∀ i, i < 8 → ¬ f i < 0 → fz i = f i) (fun (fz : (Nat → Int32)) => [(hm, .inr (12, [.ref ms, .ref mkp, .int (nI km), .ref mtr, .int (nI n), .int (nI k), .int (nI al), .int (nI be), .int ea, .int pr, .ref mas, .int nq, .int po, .int (nI en), .ref mso, .ref mon, .ref mot, .ref man, .int th, .int xd, .ref mst, .ref msm, .ref mtb, .ref mti, .ref mfr, .ref mbn, .ref mbs, .ref mde, .int sF, .int sN, .int sS, .int ig, .long xa, .long xb, .ref maa, .ref mab, .ref mba, .ref mbb])), (ms, .inl (cs 0, 288, .inl fz))])) := by
  refine xMet.intro (by decide) (Nat.le_of_ble_eq_true rfl) ?_
  intro p e s m args below meth c A ls C hP hD hS hl
  have hx := C.1
  have hb := C.2.1
  have hz := C.2.2.2.2.1
  have hown := C.2.2.2.1
  have hA := C.2.2.2.2.2.2.2.2.2
  have hAO := C.2.2.2.2.2.2.2.2.1.2.2
  replace hl : lv_has ls 5 [(0, .ref hm), (1, .int (nI b)), (2, .int (nI a))] := hl
  obtain ⟨H, hH⟩ : ∃ H, H = s.heap := ⟨_, rfl⟩
  replace hP : va_P D vwCl [(hm, .inr (12, [.ref ms, .ref mkp, .int (nI km), .ref mtr, .int (nI n), .int (nI k), .int (nI al), .int (nI be), .int ea, .int pr, .ref mas, .int nq, .int po, .int (nI en), .ref mso, .ref mon, .ref mot, .ref man, .int th, .int xd, .ref mst, .ref msm, .ref mtb, .ref mti, .ref mfr, .ref mbn, .ref mbs, .ref mde, .int sF, .int sN, .int sS, .int ig, .long xa, .long xb, .ref maa, .ref mab, .ref mba, .ref mbb])), (ms, .inl (cs 0, 288, .inl f))] H := by rw [hH]; exact hP
  replace hS : va_S A s.heap H [] := by rw [hH]; exact hS
  obtain ⟨locs, hlocs⟩ : ∃ z : List Loc, z = [] := ⟨_, rfl⟩
  rw [← hlocs] at hS
  suffices hW : W p l e ({ frames := 1, cells := 0, slots := 0, locals := 21 } : Room) s m args below meth c H locs 0 0 (MQ below ((xQi D (fun (r : Int32) (fz : (Nat → Int32)) => colP fz ∧ ∀ i, i < 8 → ¬ f i < 0 → fz i = f i) (fun (fz : (Nat → Int32)) => [(hm, .inr (12, [.ref ms, .ref mkp, .int (nI km), .ref mtr, .int (nI n), .int (nI k), .int (nI al), .int (nI be), .int ea, .int pr, .ref mas, .int nq, .int po, .int (nI en), .ref mso, .ref mon, .ref mot, .ref man, .int th, .int xd, .ref mst, .ref msm, .ref mtb, .ref mti, .ref mfr, .ref mbn, .ref mbs, .ref mde, .int sF, .int sN, .int sS, .int ig, .long xa, .long xb, .ref maa, .ref mab, .ref mba, .ref mbb])), (ms, .inl (cs 0, 288, .inl fz))])) A) args s 0 0 A) (F0 m 0 ls []) by rw [hlocs, hH] at hW; exact hW
  clear hH hlocs
  refine lv_aload_n hx hb dX12_says_0 rfl (lv_at hl 0 rfl) ?_
  refine xget C hP 0 rfl rfl zuX12 0 (by decide) zw5_213 rfl dX12_says_1 ?_
  refine lv_bipush (v := nI 56) hx hb dX12_says_4 (by decide) ?_
  refine lv_iload_n hx hb dX12_says_6 rfl (lv_at hl 2 rfl) ?_
  refine lv_iadd hx hb dX12_says_7 ?_
  refine lv_topi (nm_r (e' := nI (56 + a)) (nI_add _ _) ?_)
  refine xiald C hP 1 rfl (56 + a) rfl (by omega) (by decide) dX12_says_8 ?_
  refine lv_iload_n hx hb dX12_says_9 rfl (lv_at hl 1 rfl) ?_
  refine xi (wr := [(hm, .inr (12, [.ref ms, .ref mkp, .int (nI km), .ref mtr, .int (nI n), .int (nI k), .int (nI al), .int (nI be), .int ea, .int pr, .ref mas, .int nq, .int po, .int (nI en), .ref mso, .ref mon, .ref mot, .ref man, .int th, .int xd, .ref mst, .ref msm, .ref mtb, .ref mti, .ref mfr, .ref mbn, .ref mbs, .ref mde, .int sF, .int sN, .int sS, .int ig, .long xa, .long xb, .ref maa, .ref mab, .ref mba, .ref mbb])), (ms, .inl (cs 0, 288, .inl f))]) (xS (As := [.int (f (56 + a)), .int (nI b)]) (rest := []) C (c_X12_has l D cs (f (56 + a)) b) kX12_100 hP hD [] rfl (by decide +kernel) ⟨Nat.le_of_ble_eq_true rfl, Nat.le_of_ble_eq_true rfl⟩ rfl hl.1 rfl (Nat.le_of_ble_eq_true rfl) dX12_says_10 ⟨Nat.le_of_ble_eq_true rfl, Nat.le_of_ble_eq_true rfl⟩) hP hD hS hA [] [0, 1] rfl rfl (by decide +kernel) (by decide +kernel) ?_
  clear hP hD hS
  try clear locs
  try clear H
  intro r_1 u_2 H locs hw_r_1 hP hD hS
  have hw_r_1 : PQ (hasB (f (56 + a)) b) r_1 (nI 1) (nI 0) := hw_r_1
  refine W.widen (k := 0) (n := 0) (Nat.le_of_ble_eq_true rfl) (Nat.le_of_ble_eq_true rfl) ?_
  replace hP : va_P D vwCl [(hm, .inr (12, [.ref ms, .ref mkp, .int (nI km), .ref mtr, .int (nI n), .int (nI k), .int (nI al), .int (nI be), .int ea, .int pr, .ref mas, .int nq, .int po, .int (nI en), .ref mso, .ref mon, .ref mot, .ref man, .int th, .int xd, .ref mst, .ref msm, .ref mtb, .ref mti, .ref mfr, .ref mbn, .ref mbs, .ref mde, .int sF, .int sN, .int sS, .int ig, .long xa, .long xb, .ref maa, .ref mab, .ref mba, .ref mbb])), (ms, .inl (cs 0, 288, .inl f))] H := hP
  replace hD : va_D A [(hm, .inr (12, [.ref ms, .ref mkp, .int (nI km), .ref mtr, .int (nI n), .int (nI k), .int (nI al), .int (nI be), .int ea, .int pr, .ref mas, .int nq, .int po, .int (nI en), .ref mso, .ref mon, .ref mot, .ref man, .int th, .int xd, .ref mst, .ref msm, .ref mtb, .ref mti, .ref mfr, .ref mbn, .ref mbs, .ref mde, .int sF, .int sN, .int sS, .int ig, .long xa, .long xb, .ref maa, .ref mab, .ref mba, .ref mbb])), (ms, .inl (cs 0, 288, .inl f))] := hD
  refine lv_if_ne (tgt := 18) hx hb dX12_says_13 (by decide) (fun c_3 => ?_) (fun c_3 => ?_)
  · -- 13 t
    refine lv_aload_n hx hb dX12_says_18 rfl (lv_at hl 0 rfl) ?_
    refine xget C hP 0 rfl rfl zuX12 0 (by decide) zw5_213 rfl dX12_says_19 ?_
    refine lv_iconst (v := nI 0) hx hb dX12_says_22 (by decide) ?_
    refine lv_iload_n hx hb dX12_says_23 rfl (lv_at hl 2 rfl) ?_
    refine lv_iadd hx hb dX12_says_24 ?_
    refine lv_topi (nm_r (e' := nI (0 + a)) (nI_add _ _) ?_)
    refine xiald C hP 1 rfl (0 + a) rfl (by omega) (by decide) dX12_says_25 ?_
    refine lv_istore_n (lv' := [(3, .int (f (0 + a))), (0, .ref hm), (1, .int (nI b)), (2, .int (nI a))]) hx hb dX12_says_26 rfl hl (by decide) rfl ?_
    clear hl
    try clear ls
    intro ls hl
    refine lv_aload_n hx hb dX12_says_27 rfl (lv_at hl 1 rfl) ?_
    refine xget C hP 0 rfl rfl zuX12 0 (by decide) zw5_213 rfl dX12_says_28 ?_
    refine lv_bipush (v := nI 48) hx hb dX12_says_31 (by decide) ?_
    refine lv_iload_n hx hb dX12_says_33 rfl (lv_at hl 2 rfl) ?_
    refine lv_iadd hx hb dX12_says_34 ?_
    refine lv_topi (nm_r (e' := nI (48 + b)) (nI_add _ _) ?_)
    refine xiald C hP 1 rfl (48 + b) rfl (by omega) (by decide) dX12_says_35 ?_
    refine lv_istore (lv' := [(4, .int (f (48 + b))), (3, .int (f (0 + a))), (0, .ref hm), (1, .int (nI b)), (2, .int (nI a))]) hx hb dX12_says_36 hl (by decide) rfl ?_
    clear hl
    try clear ls
    intro ls hl
    refine lv_iload hx hb dX12_says_38 (lv_at hl 0 rfl) ?_
    refine lv_if_ne (tgt := 72) hx hb dX12_says_40 (by decide) (fun c_4 => ?_) (fun c_4 => ?_)
    · -- 40 t
      refine lv_iload hx hb dX12_says_72 (lv_at hl 0 rfl) ?_
      refine lv_iconst (v := nI 1) hx hb dX12_says_74 (by decide) ?_
      refine lv_icmp_ne (tgt := 82) hx hb dX12_says_75 (by decide) (fun c_5 => ?_) (fun c_5 => ?_)
      · -- 75 t
        refine lv_iload hx hb dX12_says_82 (lv_at hl 0 rfl) ?_
        refine lv_iconst (v := nI 2) hx hb dX12_says_84 (by decide) ?_
        refine lv_icmp_ne (tgt := 92) hx hb dX12_says_85 (by decide) (fun c_6 => ?_) (fun c_6 => ?_)
        · -- 85 t
          refine lv_iload hx hb dX12_says_92 (lv_at hl 0 rfl) ?_
          refine lv_iconst (v := nI 3) hx hb dX12_says_94 (by decide) ?_
          refine lv_icmp_ne (tgt := 104) hx hb dX12_says_95 (by decide) (fun c_7 => ?_) (fun c_7 => ?_)
          · -- 95 t
            refine lv_iconst (v := (-1)) hx hb dX12_says_104 (by decide) ?_
            exact xreti C f (⟨hs, fun _ _ _ => rfl⟩) hP hD hS (Nat.le_of_ble_eq_true rfl) (Nat.le_of_ble_eq_true rfl) rfl dX12_says_105
          · -- 95 f
            refine lv_iconst (v := nI 1) hx hb dX12_says_98 (by decide) ?_
            refine lv_iload_n hx hb dX12_says_99 rfl (lv_at hl 1 rfl) ?_
            refine lv_isub hx hb dX12_says_100 ?_
            refine lv_goto (tgt := 105) hx hb dX12_says_101 (by decide) ?_
            exact xreti C f (⟨hs, fun _ _ _ => rfl⟩) hP hD hS (Nat.le_of_ble_eq_true rfl) (Nat.le_of_ble_eq_true rfl) rfl dX12_says_105
        · -- 85 f
          refine lv_iconst (v := nI 1) hx hb dX12_says_88 (by decide) ?_
          refine lv_goto (tgt := 105) hx hb dX12_says_89 (by decide) ?_
          exact xreti C f (⟨hs, fun _ _ _ => rfl⟩) hP hD hS (Nat.le_of_ble_eq_true rfl) (Nat.le_of_ble_eq_true rfl) rfl dX12_says_105
      · -- 75 f
        refine lv_iconst (v := nI 0) hx hb dX12_says_78 (by decide) ?_
        refine lv_goto (tgt := 105) hx hb dX12_says_79 (by decide) ?_
        exact xreti C f (⟨hs, fun _ _ _ => rfl⟩) hP hD hS (Nat.le_of_ble_eq_true rfl) (Nat.le_of_ble_eq_true rfl) rfl dX12_says_105
    · -- 40 f
      refine lv_aload_n hx hb dX12_says_43 rfl (lv_at hl 2 rfl) ?_
      refine xget C hP 0 rfl rfl zuX12 0 (by decide) zw5_213 rfl dX12_says_44 ?_
      refine lv_iconst (v := nI 0) hx hb dX12_says_47 (by decide) ?_
      refine lv_iload_n hx hb dX12_says_48 rfl (lv_at hl 3 rfl) ?_
      refine lv_iadd hx hb dX12_says_49 ?_
      refine lv_topi (nm_r (e' := nI (0 + b)) (nI_add _ _) ?_)
      refine xiald C hP 1 rfl (0 + b) rfl (by omega) (by decide) dX12_says_50 ?_
      refine lv_if_ge (tgt := 63) hx hb dX12_says_51 (by decide) (fun c_8 => ?_) (fun c_8 => ?_)
      · -- 51 t
        refine lv_aload_n hx hb dX12_says_63 rfl (lv_at hl 2 rfl) ?_
        refine xget C hP 0 rfl rfl zuX12 0 (by decide) zw5_213 rfl dX12_says_64 ?_
        refine lv_iconst (v := nI 0) hx hb dX12_says_67 (by decide) ?_
        refine lv_iload_n hx hb dX12_says_68 rfl (lv_at hl 3 rfl) ?_
        refine lv_iadd hx hb dX12_says_69 ?_
        refine lv_topi (nm_r (e' := nI (0 + b)) (nI_add _ _) ?_)
        refine xiald C hP 1 rfl (0 + b) rfl (by omega) (by decide) dX12_says_70 ?_
        exact xreti C f (⟨hs, fun _ _ _ => rfl⟩) hP hD hS (Nat.le_of_ble_eq_true rfl) (Nat.le_of_ble_eq_true rfl) rfl dX12_says_71
      · -- 51 f
        refine lv_aload_n hx hb dX12_says_54 rfl (lv_at hl 2 rfl) ?_
        refine xget C hP 0 rfl rfl zuX12 0 (by decide) zw5_213 rfl dX12_says_55 ?_
        refine lv_iconst (v := nI 0) hx hb dX12_says_58 (by decide) ?_
        refine lv_iload_n hx hb dX12_says_59 rfl (lv_at hl 3 rfl) ?_
        refine lv_iadd hx hb dX12_says_60 ?_
        refine lv_topi (nm_r (e' := nI (0 + b)) (nI_add _ _) ?_)
        refine lv_iload_n hx hb dX12_says_61 rfl (lv_at hl 1 rfl) ?_
        refine xiast C hP hD hS 1 rfl (0 + b) rfl (by omega) (by decide) dX12_says_62 ?_
        clear hP hD hS
        try clear locs
        try clear H
        intro H locs hP hD hS
        replace hP : va_P D vwCl [(hm, .inr (12, [.ref ms, .ref mkp, .int (nI km), .ref mtr, .int (nI n), .int (nI k), .int (nI al), .int (nI be), .int ea, .int pr, .ref mas, .int nq, .int po, .int (nI en), .ref mso, .ref mon, .ref mot, .ref man, .int th, .int xd, .ref mst, .ref msm, .ref mtb, .ref mti, .ref mfr, .ref mbn, .ref mbs, .ref mde, .int sF, .int sN, .int sS, .int ig, .long xa, .long xb, .ref maa, .ref mab, .ref mba, .ref mbb])), (ms, .inl (cs 0, 288, .inl (upd f (0 + b) (f (0 + a)))))] H := hP
        replace hD : va_D A [(hm, .inr (12, [.ref ms, .ref mkp, .int (nI km), .ref mtr, .int (nI n), .int (nI k), .int (nI al), .int (nI be), .int ea, .int pr, .ref mas, .int nq, .int po, .int (nI en), .ref mso, .ref mon, .ref mot, .ref man, .int th, .int xd, .ref mst, .ref msm, .ref mtb, .ref mti, .ref mfr, .ref mbn, .ref mbs, .ref mde, .int sF, .int sN, .int sS, .int ig, .long xa, .long xb, .ref maa, .ref mab, .ref mba, .ref mbb])), (ms, .inl (cs 0, 288, .inl (upd f (0 + b) (f (0 + a)))))] := hD
        refine lv_aload_n hx hb dX12_says_63 rfl (lv_at hl 2 rfl) ?_
        refine xget C hP 0 rfl rfl zuX12 0 (by decide) zw5_213 rfl dX12_says_64 ?_
        refine lv_iconst (v := nI 0) hx hb dX12_says_67 (by decide) ?_
        refine lv_iload_n hx hb dX12_says_68 rfl (lv_at hl 3 rfl) ?_
        refine lv_iadd hx hb dX12_says_69 ?_
        refine lv_topi (nm_r (e' := nI (0 + b)) (nI_add _ _) ?_)
        refine xiald C hP 1 rfl (0 + b) rfl (by omega) (by decide) dX12_says_70 ?_
        exact xreti C (upd f (0 + b) (f (0 + a))) (⟨colP_up hs _ (hs _ (by omega)), fun i _ hi => by unfold upd; rw [if_neg (fun q => hi (by rw [q]; exact (Int32.not_le.mp c_8)))]⟩) hP hD hS (Nat.le_of_ble_eq_true rfl) (Nat.le_of_ble_eq_true rfl) rfl dX12_says_71
  · -- 13 f
    refine lv_iconst (v := (-1)) hx hb dX12_says_16 (by decide) ?_
    exact xreti C f (⟨hs, fun _ _ _ => rfl⟩) hP hD hS (Nat.le_of_ble_eq_true rfl) (Nat.le_of_ble_eq_true rfl) rfl dX12_says_17

set_option maxHeartbeats 4000000 in
set_option maxRecDepth 100000 in
theorem c_X12_counts (l : Launch) (D : va_G) (cs : Nat → ClassId) (hm ms mkp mtr mas mso mon mot man mst msm mtb mti mfr mbn mbs mde maa mab mba mbb : Nat) (n k al be km en : Nat) (ea pr nq po th xd sF sN sS ig : Int32) (xa xb : Int64) (f : Nat → Int32) (a : Nat) (x : Int32) (ha : a < 8) (hs : colP f) (hna : ¬ f (0 + a) < 0) (hcw : colV x) : xMet l D cs yX12_counts cX12_counts 5 none ({ frames := 0, cells := 0, slots := 0, locals := 0 } : Room) [.ref hm, .int (nI a), .int x] [(hm, .inr (12, [.ref ms, .ref mkp, .int (nI km), .ref mtr, .int (nI n), .int (nI k), .int (nI al), .int (nI be), .int ea, .int pr, .ref mas, .int nq, .int po, .int (nI en), .ref mso, .ref mon, .ref mot, .ref man, .int th, .int xd, .ref mst, .ref msm, .ref mtb, .ref mti, .ref mfr, .ref mbn, .ref mbs, .ref mde, .int sF, .int sN, .int sS, .int ig, .long xa, .long xb, .ref maa, .ref mab, .ref mba, .ref mbb])), (ms, .inl (cs 0, 288, .inl f))] (xQv D (fun (fz : (Nat → Int32)) => colP fz) (fun (fz : (Nat → Int32)) => [(hm, .inr (12, [.ref ms, .ref mkp, .int (nI km), .ref mtr, .int (nI n), .int (nI k), .int (nI al), .int (nI be), .int ea, .int pr, .ref mas, .int nq, .int po, .int (nI en), .ref mso, .ref mon, .ref mot, .ref man, .int th, .int xd, .ref mst, .ref msm, .ref mtb, .ref mti, .ref mfr, .ref mbn, .ref mbs, .ref mde, .int sF, .int sN, .int sS, .int ig, .long xa, .long xb, .ref maa, .ref mab, .ref mba, .ref mbb])), (ms, .inl (cs 0, 288, .inl fz))])) := by
  refine xMet.intro (by decide) (Nat.le_of_ble_eq_true rfl) ?_
  intro p e s m args below meth c A ls C hP hD hS hl
  have hx := C.1
  have hb := C.2.1
  have hz := C.2.2.2.2.1
  have hown := C.2.2.2.1
  have hA := C.2.2.2.2.2.2.2.2.2
  have hAO := C.2.2.2.2.2.2.2.2.1.2.2
  replace hl : lv_has ls 5 [(0, .ref hm), (1, .int (nI a)), (2, .int x)] := hl
  obtain ⟨H, hH⟩ : ∃ H, H = s.heap := ⟨_, rfl⟩
  replace hP : va_P D vwCl [(hm, .inr (12, [.ref ms, .ref mkp, .int (nI km), .ref mtr, .int (nI n), .int (nI k), .int (nI al), .int (nI be), .int ea, .int pr, .ref mas, .int nq, .int po, .int (nI en), .ref mso, .ref mon, .ref mot, .ref man, .int th, .int xd, .ref mst, .ref msm, .ref mtb, .ref mti, .ref mfr, .ref mbn, .ref mbs, .ref mde, .int sF, .int sN, .int sS, .int ig, .long xa, .long xb, .ref maa, .ref mab, .ref mba, .ref mbb])), (ms, .inl (cs 0, 288, .inl f))] H := by rw [hH]; exact hP
  replace hS : va_S A s.heap H [] := by rw [hH]; exact hS
  obtain ⟨locs, hlocs⟩ : ∃ z : List Loc, z = [] := ⟨_, rfl⟩
  rw [← hlocs] at hS
  suffices hW : W p l e ({ frames := 0, cells := 0, slots := 0, locals := 0 } : Room) s m args below meth c H locs 0 0 (MQ below ((xQv D (fun (fz : (Nat → Int32)) => colP fz) (fun (fz : (Nat → Int32)) => [(hm, .inr (12, [.ref ms, .ref mkp, .int (nI km), .ref mtr, .int (nI n), .int (nI k), .int (nI al), .int (nI be), .int ea, .int pr, .ref mas, .int nq, .int po, .int (nI en), .ref mso, .ref mon, .ref mot, .ref man, .int th, .int xd, .ref mst, .ref msm, .ref mtb, .ref mti, .ref mfr, .ref mbn, .ref mbs, .ref mde, .int sF, .int sN, .int sS, .int ig, .long xa, .long xb, .ref maa, .ref mab, .ref mba, .ref mbb])), (ms, .inl (cs 0, 288, .inl fz))])) A) args s 0 0 A) (F0 m 0 ls []) by rw [hlocs, hH] at hW; exact hW
  clear hH hlocs
  rcases hcw with rfl | rfl | rfl
  · -- split
    replace hP : va_P D vwCl [(hm, .inr (12, [.ref ms, .ref mkp, .int (nI km), .ref mtr, .int (nI n), .int (nI k), .int (nI al), .int (nI be), .int ea, .int pr, .ref mas, .int nq, .int po, .int (nI en), .ref mso, .ref mon, .ref mot, .ref man, .int th, .int xd, .ref mst, .ref msm, .ref mtb, .ref mti, .ref mfr, .ref mbn, .ref mbs, .ref mde, .int sF, .int sN, .int sS, .int ig, .long xa, .long xb, .ref maa, .ref mab, .ref mba, .ref mbb])), (ms, .inl (cs 0, 288, .inl f))] H := hP
    replace hD : va_D A [(hm, .inr (12, [.ref ms, .ref mkp, .int (nI km), .ref mtr, .int (nI n), .int (nI k), .int (nI al), .int (nI be), .int ea, .int pr, .ref mas, .int nq, .int po, .int (nI en), .ref mso, .ref mon, .ref mot, .ref man, .int th, .int xd, .ref mst, .ref msm, .ref mtb, .ref mti, .ref mfr, .ref mbn, .ref mbs, .ref mde, .int sF, .int sN, .int sS, .int ig, .long xa, .long xb, .ref maa, .ref mab, .ref mba, .ref mbb])), (ms, .inl (cs 0, 288, .inl f))] := hD
    refine lv_iload_n hx hb dX12_counts_0 rfl (lv_at hl 2 rfl) ?_
    refine lv_if_ge (tgt := 15) hx hb dX12_counts_1 (by decide) (fun c => absurd c (by decide)) (fun _ => ?_)
    refine lv_aload_n hx hb dX12_counts_4 rfl (lv_at hl 0 rfl) ?_
    refine xget C hP 0 rfl rfl zuX12 0 (by decide) zw5_213 rfl dX12_counts_5 ?_
    refine lv_bipush (v := nI 16) hx hb dX12_counts_8 (by decide) ?_
    refine lv_iload_n hx hb dX12_counts_10 rfl (lv_at hl 1 rfl) ?_
    refine lv_iadd hx hb dX12_counts_11 ?_
    refine lv_topi (nm_r (e' := nI (16 + a)) (nI_add _ _) ?_)
    refine lv_iconst (v := nI 0) hx hb dX12_counts_12 (by decide) ?_
    refine xiast C hP hD hS 1 rfl (16 + a) rfl (by omega) (by decide) dX12_counts_13 ?_
    clear hP hD hS
    try clear locs
    try clear H
    intro H locs hP hD hS
    replace hP : va_P D vwCl [(hm, .inr (12, [.ref ms, .ref mkp, .int (nI km), .ref mtr, .int (nI n), .int (nI k), .int (nI al), .int (nI be), .int ea, .int pr, .ref mas, .int nq, .int po, .int (nI en), .ref mso, .ref mon, .ref mot, .ref man, .int th, .int xd, .ref mst, .ref msm, .ref mtb, .ref mti, .ref mfr, .ref mbn, .ref mbs, .ref mde, .int sF, .int sN, .int sS, .int ig, .long xa, .long xb, .ref maa, .ref mab, .ref mba, .ref mbb])), (ms, .inl (cs 0, 288, .inl (upd f (16 + a) (nI 0))))] H := hP
    replace hD : va_D A [(hm, .inr (12, [.ref ms, .ref mkp, .int (nI km), .ref mtr, .int (nI n), .int (nI k), .int (nI al), .int (nI be), .int ea, .int pr, .ref mas, .int nq, .int po, .int (nI en), .ref mso, .ref mon, .ref mot, .ref man, .int th, .int xd, .ref mst, .ref msm, .ref mtb, .ref mti, .ref mfr, .ref mbn, .ref mbs, .ref mde, .int sF, .int sN, .int sS, .int ig, .long xa, .long xb, .ref maa, .ref mab, .ref mba, .ref mbb])), (ms, .inl (cs 0, 288, .inl (upd f (16 + a) (nI 0))))] := hD
    exact xretv C (upd f (16 + a) (nI 0)) (colP_hi (i := 16 + a) hs (nI 0) (by omega)) hP hD hS (Nat.le_of_ble_eq_true rfl) (Nat.le_of_ble_eq_true rfl) dX12_counts_14
  · -- split
    replace hP : va_P D vwCl [(hm, .inr (12, [.ref ms, .ref mkp, .int (nI km), .ref mtr, .int (nI n), .int (nI k), .int (nI al), .int (nI be), .int ea, .int pr, .ref mas, .int nq, .int po, .int (nI en), .ref mso, .ref mon, .ref mot, .ref man, .int th, .int xd, .ref mst, .ref msm, .ref mtb, .ref mti, .ref mfr, .ref mbn, .ref mbs, .ref mde, .int sF, .int sN, .int sS, .int ig, .long xa, .long xb, .ref maa, .ref mab, .ref mba, .ref mbb])), (ms, .inl (cs 0, 288, .inl f))] H := hP
    replace hD : va_D A [(hm, .inr (12, [.ref ms, .ref mkp, .int (nI km), .ref mtr, .int (nI n), .int (nI k), .int (nI al), .int (nI be), .int ea, .int pr, .ref mas, .int nq, .int po, .int (nI en), .ref mso, .ref mon, .ref mot, .ref man, .int th, .int xd, .ref mst, .ref msm, .ref mtb, .ref mti, .ref mfr, .ref mbn, .ref mbs, .ref mde, .int sF, .int sN, .int sS, .int ig, .long xa, .long xb, .ref maa, .ref mab, .ref mba, .ref mbb])), (ms, .inl (cs 0, 288, .inl f))] := hD
    refine lv_iload_n hx hb dX12_counts_0 rfl (lv_at hl 2 rfl) ?_
    refine lv_if_ge (tgt := 15) hx hb dX12_counts_1 (by decide) (fun _ => ?_) (fun c => absurd (by decide) c)
    refine lv_aload_n hx hb dX12_counts_15 rfl (lv_at hl 0 rfl) ?_
    refine xget C hP 0 rfl rfl zuX12 9 (by decide) zw5_222 rfl dX12_counts_16 ?_
    refine lv_iconst (v := nI 2) hx hb dX12_counts_19 (by decide) ?_
    refine lv_icmp_ne (tgt := 30) hx hb dX12_counts_20 (by decide) (fun c_1 => ?_) (fun c_1 => ?_)
    · -- 20 t
      refine lv_iconst (v := nI 0) hx hb dX12_counts_30 (by decide) ?_
      refine lv_iload_n hx hb dX12_counts_31 rfl (lv_at hl 1 rfl) ?_
      refine lv_iadd hx hb dX12_counts_32 ?_
      refine lv_topi (nm_r (e' := nI (0 + a)) (nI_add _ _) ?_)
      refine lv_istore_n (lv' := [(3, .int (nI (0 + a))), (0, .ref hm), (1, .int (nI a)), (2, .int (nI 0))]) hx hb dX12_counts_33 rfl hl (by decide) rfl ?_
      clear hl
      try clear ls
      intro ls hl
      refine lv_aload_n hx hb dX12_counts_34 rfl (lv_at hl 1 rfl) ?_
      refine xget C hP 0 rfl rfl zuX12 9 (by decide) zw5_222 rfl dX12_counts_35 ?_
      refine lv_iconst (v := nI 2) hx hb dX12_counts_38 (by decide) ?_
      refine lv_icmp_ne (tgt := 117) hx hb dX12_counts_39 (by decide) (fun _ => ?_) (fun c => absurd c c_1)
      refine lv_aload_n hx hb dX12_counts_117 rfl (lv_at hl 1 rfl) ?_
      refine xget C hP 0 rfl rfl zuX12 0 (by decide) zw5_213 rfl dX12_counts_118 ?_
      refine lv_iload_n hx hb dX12_counts_121 rfl (lv_at hl 0 rfl) ?_
      refine xiald C hP 1 rfl (0 + a) rfl (by omega) (by decide) dX12_counts_122 ?_
      refine lv_iload_n hx hb dX12_counts_123 rfl (lv_at hl 3 rfl) ?_
      refine lv_icmp_ne (tgt := 143) hx hb dX12_counts_124 (by decide) (fun c_2 => ?_) (fun c_2 => ?_)
      · -- 124 t
        refine lv_aload_n hx hb dX12_counts_143 rfl (lv_at hl 1 rfl) ?_
        refine xget C hP 0 rfl rfl zuX12 0 (by decide) zw5_213 rfl dX12_counts_144 ?_
        refine lv_iload_n hx hb dX12_counts_147 rfl (lv_at hl 0 rfl) ?_
        refine lv_iload_n hx hb dX12_counts_148 rfl (lv_at hl 3 rfl) ?_
        refine xiast C hP hD hS 1 rfl (0 + a) rfl (by omega) (by decide) dX12_counts_149 ?_
        clear hP hD hS
        try clear locs
        try clear H
        intro H locs hP hD hS
        replace hP : va_P D vwCl [(hm, .inr (12, [.ref ms, .ref mkp, .int (nI km), .ref mtr, .int (nI n), .int (nI k), .int (nI al), .int (nI be), .int ea, .int pr, .ref mas, .int nq, .int po, .int (nI en), .ref mso, .ref mon, .ref mot, .ref man, .int th, .int xd, .ref mst, .ref msm, .ref mtb, .ref mti, .ref mfr, .ref mbn, .ref mbs, .ref mde, .int sF, .int sN, .int sS, .int ig, .long xa, .long xb, .ref maa, .ref mab, .ref mba, .ref mbb])), (ms, .inl (cs 0, 288, .inl (upd f (0 + a) (nI 0))))] H := hP
        replace hD : va_D A [(hm, .inr (12, [.ref ms, .ref mkp, .int (nI km), .ref mtr, .int (nI n), .int (nI k), .int (nI al), .int (nI be), .int ea, .int pr, .ref mas, .int nq, .int po, .int (nI en), .ref mso, .ref mon, .ref mot, .ref man, .int th, .int xd, .ref mst, .ref msm, .ref mtb, .ref mti, .ref mfr, .ref mbn, .ref mbs, .ref mde, .int sF, .int sN, .int sS, .int ig, .long xa, .long xb, .ref maa, .ref mab, .ref mba, .ref mbb])), (ms, .inl (cs 0, 288, .inl (upd f (0 + a) (nI 0))))] := hD
        refine lv_aload_n hx hb dX12_counts_150 rfl (lv_at hl 1 rfl) ?_
        refine xget C hP 0 rfl rfl zuX12 0 (by decide) zw5_213 rfl dX12_counts_151 ?_
        refine lv_bipush (v := nI 16) hx hb dX12_counts_154 (by decide) ?_
        refine lv_iload_n hx hb dX12_counts_156 rfl (lv_at hl 2 rfl) ?_
        refine lv_iadd hx hb dX12_counts_157 ?_
        refine lv_topi (nm_r (e' := nI (16 + a)) (nI_add _ _) ?_)
        refine lv_iconst (v := nI 1) hx hb dX12_counts_158 (by decide) ?_
        refine xiast C hP hD hS 1 rfl (16 + a) rfl (by omega) (by decide) dX12_counts_159 ?_
        clear hP hD hS
        try clear locs
        try clear H
        intro H locs hP hD hS
        replace hP : va_P D vwCl [(hm, .inr (12, [.ref ms, .ref mkp, .int (nI km), .ref mtr, .int (nI n), .int (nI k), .int (nI al), .int (nI be), .int ea, .int pr, .ref mas, .int nq, .int po, .int (nI en), .ref mso, .ref mon, .ref mot, .ref man, .int th, .int xd, .ref mst, .ref msm, .ref mtb, .ref mti, .ref mfr, .ref mbn, .ref mbs, .ref mde, .int sF, .int sN, .int sS, .int ig, .long xa, .long xb, .ref maa, .ref mab, .ref mba, .ref mbb])), (ms, .inl (cs 0, 288, .inl (upd (upd f (0 + a) (nI 0)) (16 + a) (nI 1))))] H := hP
        replace hD : va_D A [(hm, .inr (12, [.ref ms, .ref mkp, .int (nI km), .ref mtr, .int (nI n), .int (nI k), .int (nI al), .int (nI be), .int ea, .int pr, .ref mas, .int nq, .int po, .int (nI en), .ref mso, .ref mon, .ref mot, .ref man, .int th, .int xd, .ref mst, .ref msm, .ref mtb, .ref mti, .ref mfr, .ref mbn, .ref mbs, .ref mde, .int sF, .int sN, .int sS, .int ig, .long xa, .long xb, .ref maa, .ref mab, .ref mba, .ref mbb])), (ms, .inl (cs 0, 288, .inl (upd (upd f (0 + a) (nI 0)) (16 + a) (nI 1))))] := hD
        exact xretv C (upd (upd f (0 + a) (nI 0)) (16 + a) (nI 1)) (colP_hi (i := 16 + a) (colP_up hs (0 + a) colV_0) (nI 1) (by omega)) hP hD hS (Nat.le_of_ble_eq_true rfl) (Nat.le_of_ble_eq_true rfl) dX12_counts_160
      · -- 124 f
        refine lv_aload_n hx hb dX12_counts_127 rfl (lv_at hl 1 rfl) ?_
        refine xget C hP 0 rfl rfl zuX12 0 (by decide) zw5_213 rfl dX12_counts_128 ?_
        refine lv_bipush (v := nI 16) hx hb dX12_counts_131 (by decide) ?_
        refine lv_iload_n hx hb dX12_counts_133 rfl (lv_at hl 2 rfl) ?_
        refine lv_iadd hx hb dX12_counts_134 ?_
        refine lv_topi (nm_r (e' := nI (16 + a)) (nI_add _ _) ?_)
        refine lv_dup2_11 hx hb dX12_counts_135 rfl rfl ?_
        refine xiald C hP 1 rfl (16 + a) rfl (by omega) (by decide) dX12_counts_136 ?_
        refine lv_iconst (v := nI 1) hx hb dX12_counts_137 (by decide) ?_
        refine lv_iadd hx hb dX12_counts_138 ?_
        refine xiast C hP hD hS 1 rfl (16 + a) rfl (by omega) (by decide) dX12_counts_139 ?_
        clear hP hD hS
        try clear locs
        try clear H
        intro H locs hP hD hS
        replace hP : va_P D vwCl [(hm, .inr (12, [.ref ms, .ref mkp, .int (nI km), .ref mtr, .int (nI n), .int (nI k), .int (nI al), .int (nI be), .int ea, .int pr, .ref mas, .int nq, .int po, .int (nI en), .ref mso, .ref mon, .ref mot, .ref man, .int th, .int xd, .ref mst, .ref msm, .ref mtb, .ref mti, .ref mfr, .ref mbn, .ref mbs, .ref mde, .int sF, .int sN, .int sS, .int ig, .long xa, .long xb, .ref maa, .ref mab, .ref mba, .ref mbb])), (ms, .inl (cs 0, 288, .inl (upd f (16 + a) ((f (16 + a)) + (nI 1)))))] H := hP
        replace hD : va_D A [(hm, .inr (12, [.ref ms, .ref mkp, .int (nI km), .ref mtr, .int (nI n), .int (nI k), .int (nI al), .int (nI be), .int ea, .int pr, .ref mas, .int nq, .int po, .int (nI en), .ref mso, .ref mon, .ref mot, .ref man, .int th, .int xd, .ref mst, .ref msm, .ref mtb, .ref mti, .ref mfr, .ref mbn, .ref mbs, .ref mde, .int sF, .int sN, .int sS, .int ig, .long xa, .long xb, .ref maa, .ref mab, .ref mba, .ref mbb])), (ms, .inl (cs 0, 288, .inl (upd f (16 + a) ((f (16 + a)) + (nI 1)))))] := hD
        refine lv_goto (tgt := 160) hx hb dX12_counts_140 (by decide) ?_
        exact xretv C (upd f (16 + a) ((f (16 + a)) + (nI 1))) (colP_hi (i := 16 + a) hs ((f (16 + a)) + (nI 1)) (by omega)) hP hD hS (Nat.le_of_ble_eq_true rfl) (Nat.le_of_ble_eq_true rfl) dX12_counts_160
    · -- 20 f
      refine lv_bipush (v := nI 8) hx hb dX12_counts_23 (by decide) ?_
      refine lv_iload_n hx hb dX12_counts_25 rfl (lv_at hl 1 rfl) ?_
      refine lv_iadd hx hb dX12_counts_26 ?_
      refine lv_topi (nm_r (e' := nI (8 + a)) (nI_add _ _) ?_)
      refine lv_goto (tgt := 33) hx hb dX12_counts_27 (by decide) ?_
      refine lv_istore_n (lv' := [(3, .int (nI (8 + a))), (0, .ref hm), (1, .int (nI a)), (2, .int (nI 0))]) hx hb dX12_counts_33 rfl hl (by decide) rfl ?_
      clear hl
      try clear ls
      intro ls hl
      refine lv_aload_n hx hb dX12_counts_34 rfl (lv_at hl 1 rfl) ?_
      refine xget C hP 0 rfl rfl zuX12 9 (by decide) zw5_222 rfl dX12_counts_35 ?_
      refine lv_iconst (v := nI 2) hx hb dX12_counts_38 (by decide) ?_
      refine lv_icmp_ne (tgt := 117) hx hb dX12_counts_39 (by decide) (fun c => absurd c_1 c) (fun _ => ?_)
      refine lv_bipush (v := nI 24) hx hb dX12_counts_42 (by decide) ?_
      refine lv_bipush (v := nI 8) hx hb dX12_counts_44 (by decide) ?_
      refine lv_iload_n hx hb dX12_counts_46 rfl (lv_at hl 3 rfl) ?_
      refine lv_imul hx hb dX12_counts_47 ?_
      refine lv_topi (nm_r (e' := nI 0) (by decide) ?_)
      refine lv_iadd hx hb dX12_counts_48 ?_
      refine lv_topi (nm_r (e' := nI 24) (by decide) ?_)
      refine lv_iload_n hx hb dX12_counts_49 rfl (lv_at hl 2 rfl) ?_
      refine lv_iadd hx hb dX12_counts_50 ?_
      refine lv_topi (nm_r (e' := nI (24 + a)) (nI_add _ _) ?_)
      refine lv_istore (lv' := [(4, .int (nI (24 + a))), (3, .int (nI (8 + a))), (0, .ref hm), (1, .int (nI a)), (2, .int (nI 0))]) hx hb dX12_counts_51 hl (by decide) rfl ?_
      clear hl
      try clear ls
      intro ls hl
      refine lv_aload_n hx hb dX12_counts_53 rfl (lv_at hl 2 rfl) ?_
      refine xget C hP 0 rfl rfl zuX12 0 (by decide) zw5_213 rfl dX12_counts_54 ?_
      refine lv_iload hx hb dX12_counts_57 (lv_at hl 0 rfl) ?_
      refine xiald C hP 1 rfl (24 + a) rfl (by omega) (by decide) dX12_counts_59 ?_
      refine lv_sipush (v := nI 999) hx hb dX12_counts_60 (by decide) ?_
      refine lv_icmp_ge (tgt := 77) hx hb dX12_counts_63 (by decide) (fun c_3 => ?_) (fun c_3 => ?_)
      · -- 63 t
        refine lv_aload_n hx hb dX12_counts_77 rfl (lv_at hl 2 rfl) ?_
        refine xget C hP 0 rfl rfl zuX12 0 (by decide) zw5_213 rfl dX12_counts_78 ?_
        refine lv_iload hx hb dX12_counts_81 (lv_at hl 0 rfl) ?_
        refine xiald C hP 1 rfl (24 + a) rfl (by omega) (by decide) dX12_counts_83 ?_
        refine lv_aload_n hx hb dX12_counts_84 rfl (lv_at hl 2 rfl) ?_
        refine xget C hP 0 rfl rfl zuX12 0 (by decide) zw5_213 rfl dX12_counts_85 ?_
        refine lv_bipush (v := nI 24) hx hb dX12_counts_88 (by decide) ?_
        refine lv_bipush (v := nI 8) hx hb dX12_counts_90 (by decide) ?_
        refine lv_aload_n hx hb dX12_counts_92 rfl (lv_at hl 2 rfl) ?_
        refine xget C hP 0 rfl rfl zuX12 0 (by decide) zw5_213 rfl dX12_counts_93 ?_
        refine lv_iconst (v := nI 0) hx hb dX12_counts_96 (by decide) ?_
        refine lv_iload_n hx hb dX12_counts_97 rfl (lv_at hl 3 rfl) ?_
        refine lv_iadd hx hb dX12_counts_98 ?_
        refine lv_topi (nm_r (e' := nI (0 + a)) (nI_add _ _) ?_)
        refine xiald C hP 1 rfl (0 + a) rfl (by omega) (by decide) dX12_counts_99 ?_
        obtain ⟨t_4, h_t_4, e_t_4⟩ := (col_nat (hs (0 + a) (by omega)) (by first | exact hna | (unfold upd; rw [if_neg (by omega)]; exact hna)))
        refine lv_topi (nm_r (e' := nI t_4) e_t_4 ?_)
        refine lv_imul hx hb dX12_counts_100 ?_
        refine lv_topi (nm_r (e' := nI (8 * t_4)) (pk_mul _ _) ?_)
        refine lv_iadd hx hb dX12_counts_101 ?_
        refine lv_topi (nm_r (e' := nI (24 + (8 * t_4))) (nI_add _ _) ?_)
        refine lv_iload_n hx hb dX12_counts_102 rfl (lv_at hl 3 rfl) ?_
        refine lv_iadd hx hb dX12_counts_103 ?_
        refine lv_topi (nm_r (e' := nI ((24 + (8 * t_4)) + a)) (nI_add _ _) ?_)
        refine xiald C hP 1 rfl ((24 + (8 * t_4)) + a) rfl (by omega) (by decide) dX12_counts_104 ?_
        refine lv_icmp_le (tgt := 117) hx hb dX12_counts_105 (by decide) (fun c_5 => ?_) (fun c_5 => ?_)
        · -- 105 t
          refine lv_aload_n hx hb dX12_counts_117 rfl (lv_at hl 2 rfl) ?_
          refine xget C hP 0 rfl rfl zuX12 0 (by decide) zw5_213 rfl dX12_counts_118 ?_
          refine lv_iload_n hx hb dX12_counts_121 rfl (lv_at hl 1 rfl) ?_
          refine xiald C hP 1 rfl (8 + a) rfl (by omega) (by decide) dX12_counts_122 ?_
          refine lv_iload_n hx hb dX12_counts_123 rfl (lv_at hl 4 rfl) ?_
          refine lv_icmp_ne (tgt := 143) hx hb dX12_counts_124 (by decide) (fun c_6 => ?_) (fun c_6 => ?_)
          · -- 124 t
            refine lv_aload_n hx hb dX12_counts_143 rfl (lv_at hl 2 rfl) ?_
            refine xget C hP 0 rfl rfl zuX12 0 (by decide) zw5_213 rfl dX12_counts_144 ?_
            refine lv_iload_n hx hb dX12_counts_147 rfl (lv_at hl 1 rfl) ?_
            refine lv_iload_n hx hb dX12_counts_148 rfl (lv_at hl 4 rfl) ?_
            refine xiast C hP hD hS 1 rfl (8 + a) rfl (by omega) (by decide) dX12_counts_149 ?_
            clear hP hD hS
            try clear locs
            try clear H
            intro H locs hP hD hS
            replace hP : va_P D vwCl [(hm, .inr (12, [.ref ms, .ref mkp, .int (nI km), .ref mtr, .int (nI n), .int (nI k), .int (nI al), .int (nI be), .int ea, .int pr, .ref mas, .int nq, .int po, .int (nI en), .ref mso, .ref mon, .ref mot, .ref man, .int th, .int xd, .ref mst, .ref msm, .ref mtb, .ref mti, .ref mfr, .ref mbn, .ref mbs, .ref mde, .int sF, .int sN, .int sS, .int ig, .long xa, .long xb, .ref maa, .ref mab, .ref mba, .ref mbb])), (ms, .inl (cs 0, 288, .inl (upd f (8 + a) (nI 0))))] H := hP
            replace hD : va_D A [(hm, .inr (12, [.ref ms, .ref mkp, .int (nI km), .ref mtr, .int (nI n), .int (nI k), .int (nI al), .int (nI be), .int ea, .int pr, .ref mas, .int nq, .int po, .int (nI en), .ref mso, .ref mon, .ref mot, .ref man, .int th, .int xd, .ref mst, .ref msm, .ref mtb, .ref mti, .ref mfr, .ref mbn, .ref mbs, .ref mde, .int sF, .int sN, .int sS, .int ig, .long xa, .long xb, .ref maa, .ref mab, .ref mba, .ref mbb])), (ms, .inl (cs 0, 288, .inl (upd f (8 + a) (nI 0))))] := hD
            refine lv_aload_n hx hb dX12_counts_150 rfl (lv_at hl 2 rfl) ?_
            refine xget C hP 0 rfl rfl zuX12 0 (by decide) zw5_213 rfl dX12_counts_151 ?_
            refine lv_bipush (v := nI 16) hx hb dX12_counts_154 (by decide) ?_
            refine lv_iload_n hx hb dX12_counts_156 rfl (lv_at hl 3 rfl) ?_
            refine lv_iadd hx hb dX12_counts_157 ?_
            refine lv_topi (nm_r (e' := nI (16 + a)) (nI_add _ _) ?_)
            refine lv_iconst (v := nI 1) hx hb dX12_counts_158 (by decide) ?_
            refine xiast C hP hD hS 1 rfl (16 + a) rfl (by omega) (by decide) dX12_counts_159 ?_
            clear hP hD hS
            try clear locs
            try clear H
            intro H locs hP hD hS
            replace hP : va_P D vwCl [(hm, .inr (12, [.ref ms, .ref mkp, .int (nI km), .ref mtr, .int (nI n), .int (nI k), .int (nI al), .int (nI be), .int ea, .int pr, .ref mas, .int nq, .int po, .int (nI en), .ref mso, .ref mon, .ref mot, .ref man, .int th, .int xd, .ref mst, .ref msm, .ref mtb, .ref mti, .ref mfr, .ref mbn, .ref mbs, .ref mde, .int sF, .int sN, .int sS, .int ig, .long xa, .long xb, .ref maa, .ref mab, .ref mba, .ref mbb])), (ms, .inl (cs 0, 288, .inl (upd (upd f (8 + a) (nI 0)) (16 + a) (nI 1))))] H := hP
            replace hD : va_D A [(hm, .inr (12, [.ref ms, .ref mkp, .int (nI km), .ref mtr, .int (nI n), .int (nI k), .int (nI al), .int (nI be), .int ea, .int pr, .ref mas, .int nq, .int po, .int (nI en), .ref mso, .ref mon, .ref mot, .ref man, .int th, .int xd, .ref mst, .ref msm, .ref mtb, .ref mti, .ref mfr, .ref mbn, .ref mbs, .ref mde, .int sF, .int sN, .int sS, .int ig, .long xa, .long xb, .ref maa, .ref mab, .ref mba, .ref mbb])), (ms, .inl (cs 0, 288, .inl (upd (upd f (8 + a) (nI 0)) (16 + a) (nI 1))))] := hD
            exact xretv C (upd (upd f (8 + a) (nI 0)) (16 + a) (nI 1)) (colP_hi (i := 16 + a) (colP_hi (i := 8 + a) hs (nI 0) (by omega)) (nI 1) (by omega)) hP hD hS (Nat.le_of_ble_eq_true rfl) (Nat.le_of_ble_eq_true rfl) dX12_counts_160
          · -- 124 f
            refine lv_aload_n hx hb dX12_counts_127 rfl (lv_at hl 2 rfl) ?_
            refine xget C hP 0 rfl rfl zuX12 0 (by decide) zw5_213 rfl dX12_counts_128 ?_
            refine lv_bipush (v := nI 16) hx hb dX12_counts_131 (by decide) ?_
            refine lv_iload_n hx hb dX12_counts_133 rfl (lv_at hl 3 rfl) ?_
            refine lv_iadd hx hb dX12_counts_134 ?_
            refine lv_topi (nm_r (e' := nI (16 + a)) (nI_add _ _) ?_)
            refine lv_dup2_11 hx hb dX12_counts_135 rfl rfl ?_
            refine xiald C hP 1 rfl (16 + a) rfl (by omega) (by decide) dX12_counts_136 ?_
            refine lv_iconst (v := nI 1) hx hb dX12_counts_137 (by decide) ?_
            refine lv_iadd hx hb dX12_counts_138 ?_
            refine xiast C hP hD hS 1 rfl (16 + a) rfl (by omega) (by decide) dX12_counts_139 ?_
            clear hP hD hS
            try clear locs
            try clear H
            intro H locs hP hD hS
            replace hP : va_P D vwCl [(hm, .inr (12, [.ref ms, .ref mkp, .int (nI km), .ref mtr, .int (nI n), .int (nI k), .int (nI al), .int (nI be), .int ea, .int pr, .ref mas, .int nq, .int po, .int (nI en), .ref mso, .ref mon, .ref mot, .ref man, .int th, .int xd, .ref mst, .ref msm, .ref mtb, .ref mti, .ref mfr, .ref mbn, .ref mbs, .ref mde, .int sF, .int sN, .int sS, .int ig, .long xa, .long xb, .ref maa, .ref mab, .ref mba, .ref mbb])), (ms, .inl (cs 0, 288, .inl (upd f (16 + a) ((f (16 + a)) + (nI 1)))))] H := hP
            replace hD : va_D A [(hm, .inr (12, [.ref ms, .ref mkp, .int (nI km), .ref mtr, .int (nI n), .int (nI k), .int (nI al), .int (nI be), .int ea, .int pr, .ref mas, .int nq, .int po, .int (nI en), .ref mso, .ref mon, .ref mot, .ref man, .int th, .int xd, .ref mst, .ref msm, .ref mtb, .ref mti, .ref mfr, .ref mbn, .ref mbs, .ref mde, .int sF, .int sN, .int sS, .int ig, .long xa, .long xb, .ref maa, .ref mab, .ref mba, .ref mbb])), (ms, .inl (cs 0, 288, .inl (upd f (16 + a) ((f (16 + a)) + (nI 1)))))] := hD
            refine lv_goto (tgt := 160) hx hb dX12_counts_140 (by decide) ?_
            exact xretv C (upd f (16 + a) ((f (16 + a)) + (nI 1))) (colP_hi (i := 16 + a) hs ((f (16 + a)) + (nI 1)) (by omega)) hP hD hS (Nat.le_of_ble_eq_true rfl) (Nat.le_of_ble_eq_true rfl) dX12_counts_160
        · -- 105 f
          refine lv_aload_n hx hb dX12_counts_108 rfl (lv_at hl 2 rfl) ?_
          refine xget C hP 0 rfl rfl zuX12 0 (by decide) zw5_213 rfl dX12_counts_109 ?_
          refine lv_iconst (v := nI 0) hx hb dX12_counts_112 (by decide) ?_
          refine lv_iload_n hx hb dX12_counts_113 rfl (lv_at hl 3 rfl) ?_
          refine lv_iadd hx hb dX12_counts_114 ?_
          refine lv_topi (nm_r (e' := nI (0 + a)) (nI_add _ _) ?_)
          refine lv_iload_n hx hb dX12_counts_115 rfl (lv_at hl 4 rfl) ?_
          refine xiast C hP hD hS 1 rfl (0 + a) rfl (by omega) (by decide) dX12_counts_116 ?_
          clear hP hD hS
          try clear locs
          try clear H
          intro H locs hP hD hS
          replace hP : va_P D vwCl [(hm, .inr (12, [.ref ms, .ref mkp, .int (nI km), .ref mtr, .int (nI n), .int (nI k), .int (nI al), .int (nI be), .int ea, .int pr, .ref mas, .int nq, .int po, .int (nI en), .ref mso, .ref mon, .ref mot, .ref man, .int th, .int xd, .ref mst, .ref msm, .ref mtb, .ref mti, .ref mfr, .ref mbn, .ref mbs, .ref mde, .int sF, .int sN, .int sS, .int ig, .long xa, .long xb, .ref maa, .ref mab, .ref mba, .ref mbb])), (ms, .inl (cs 0, 288, .inl (upd f (0 + a) (nI 0))))] H := hP
          replace hD : va_D A [(hm, .inr (12, [.ref ms, .ref mkp, .int (nI km), .ref mtr, .int (nI n), .int (nI k), .int (nI al), .int (nI be), .int ea, .int pr, .ref mas, .int nq, .int po, .int (nI en), .ref mso, .ref mon, .ref mot, .ref man, .int th, .int xd, .ref mst, .ref msm, .ref mtb, .ref mti, .ref mfr, .ref mbn, .ref mbs, .ref mde, .int sF, .int sN, .int sS, .int ig, .long xa, .long xb, .ref maa, .ref mab, .ref mba, .ref mbb])), (ms, .inl (cs 0, 288, .inl (upd f (0 + a) (nI 0))))] := hD
          refine lv_aload_n hx hb dX12_counts_117 rfl (lv_at hl 2 rfl) ?_
          refine xget C hP 0 rfl rfl zuX12 0 (by decide) zw5_213 rfl dX12_counts_118 ?_
          refine lv_iload_n hx hb dX12_counts_121 rfl (lv_at hl 1 rfl) ?_
          refine xiald C hP 1 rfl (8 + a) rfl (by omega) (by decide) dX12_counts_122 ?_
          refine lv_iload_n hx hb dX12_counts_123 rfl (lv_at hl 4 rfl) ?_
          refine lv_icmp_ne (tgt := 143) hx hb dX12_counts_124 (by decide) (fun c_7 => ?_) (fun c_7 => ?_)
          · -- 124 t
            refine lv_aload_n hx hb dX12_counts_143 rfl (lv_at hl 2 rfl) ?_
            refine xget C hP 0 rfl rfl zuX12 0 (by decide) zw5_213 rfl dX12_counts_144 ?_
            refine lv_iload_n hx hb dX12_counts_147 rfl (lv_at hl 1 rfl) ?_
            refine lv_iload_n hx hb dX12_counts_148 rfl (lv_at hl 4 rfl) ?_
            refine xiast C hP hD hS 1 rfl (8 + a) rfl (by omega) (by decide) dX12_counts_149 ?_
            clear hP hD hS
            try clear locs
            try clear H
            intro H locs hP hD hS
            replace hP : va_P D vwCl [(hm, .inr (12, [.ref ms, .ref mkp, .int (nI km), .ref mtr, .int (nI n), .int (nI k), .int (nI al), .int (nI be), .int ea, .int pr, .ref mas, .int nq, .int po, .int (nI en), .ref mso, .ref mon, .ref mot, .ref man, .int th, .int xd, .ref mst, .ref msm, .ref mtb, .ref mti, .ref mfr, .ref mbn, .ref mbs, .ref mde, .int sF, .int sN, .int sS, .int ig, .long xa, .long xb, .ref maa, .ref mab, .ref mba, .ref mbb])), (ms, .inl (cs 0, 288, .inl (upd (upd f (0 + a) (nI 0)) (8 + a) (nI 0))))] H := hP
            replace hD : va_D A [(hm, .inr (12, [.ref ms, .ref mkp, .int (nI km), .ref mtr, .int (nI n), .int (nI k), .int (nI al), .int (nI be), .int ea, .int pr, .ref mas, .int nq, .int po, .int (nI en), .ref mso, .ref mon, .ref mot, .ref man, .int th, .int xd, .ref mst, .ref msm, .ref mtb, .ref mti, .ref mfr, .ref mbn, .ref mbs, .ref mde, .int sF, .int sN, .int sS, .int ig, .long xa, .long xb, .ref maa, .ref mab, .ref mba, .ref mbb])), (ms, .inl (cs 0, 288, .inl (upd (upd f (0 + a) (nI 0)) (8 + a) (nI 0))))] := hD
            refine lv_aload_n hx hb dX12_counts_150 rfl (lv_at hl 2 rfl) ?_
            refine xget C hP 0 rfl rfl zuX12 0 (by decide) zw5_213 rfl dX12_counts_151 ?_
            refine lv_bipush (v := nI 16) hx hb dX12_counts_154 (by decide) ?_
            refine lv_iload_n hx hb dX12_counts_156 rfl (lv_at hl 3 rfl) ?_
            refine lv_iadd hx hb dX12_counts_157 ?_
            refine lv_topi (nm_r (e' := nI (16 + a)) (nI_add _ _) ?_)
            refine lv_iconst (v := nI 1) hx hb dX12_counts_158 (by decide) ?_
            refine xiast C hP hD hS 1 rfl (16 + a) rfl (by omega) (by decide) dX12_counts_159 ?_
            clear hP hD hS
            try clear locs
            try clear H
            intro H locs hP hD hS
            replace hP : va_P D vwCl [(hm, .inr (12, [.ref ms, .ref mkp, .int (nI km), .ref mtr, .int (nI n), .int (nI k), .int (nI al), .int (nI be), .int ea, .int pr, .ref mas, .int nq, .int po, .int (nI en), .ref mso, .ref mon, .ref mot, .ref man, .int th, .int xd, .ref mst, .ref msm, .ref mtb, .ref mti, .ref mfr, .ref mbn, .ref mbs, .ref mde, .int sF, .int sN, .int sS, .int ig, .long xa, .long xb, .ref maa, .ref mab, .ref mba, .ref mbb])), (ms, .inl (cs 0, 288, .inl (upd (upd (upd f (0 + a) (nI 0)) (8 + a) (nI 0)) (16 + a) (nI 1))))] H := hP
            replace hD : va_D A [(hm, .inr (12, [.ref ms, .ref mkp, .int (nI km), .ref mtr, .int (nI n), .int (nI k), .int (nI al), .int (nI be), .int ea, .int pr, .ref mas, .int nq, .int po, .int (nI en), .ref mso, .ref mon, .ref mot, .ref man, .int th, .int xd, .ref mst, .ref msm, .ref mtb, .ref mti, .ref mfr, .ref mbn, .ref mbs, .ref mde, .int sF, .int sN, .int sS, .int ig, .long xa, .long xb, .ref maa, .ref mab, .ref mba, .ref mbb])), (ms, .inl (cs 0, 288, .inl (upd (upd (upd f (0 + a) (nI 0)) (8 + a) (nI 0)) (16 + a) (nI 1))))] := hD
            exact xretv C (upd (upd (upd f (0 + a) (nI 0)) (8 + a) (nI 0)) (16 + a) (nI 1)) (colP_hi (i := 16 + a) (colP_hi (i := 8 + a) (colP_up hs (0 + a) colV_0) (nI 0) (by omega)) (nI 1) (by omega)) hP hD hS (Nat.le_of_ble_eq_true rfl) (Nat.le_of_ble_eq_true rfl) dX12_counts_160
          · -- 124 f
            refine lv_aload_n hx hb dX12_counts_127 rfl (lv_at hl 2 rfl) ?_
            refine xget C hP 0 rfl rfl zuX12 0 (by decide) zw5_213 rfl dX12_counts_128 ?_
            refine lv_bipush (v := nI 16) hx hb dX12_counts_131 (by decide) ?_
            refine lv_iload_n hx hb dX12_counts_133 rfl (lv_at hl 3 rfl) ?_
            refine lv_iadd hx hb dX12_counts_134 ?_
            refine lv_topi (nm_r (e' := nI (16 + a)) (nI_add _ _) ?_)
            refine lv_dup2_11 hx hb dX12_counts_135 rfl rfl ?_
            refine xiald C hP 1 rfl (16 + a) rfl (by omega) (by decide) dX12_counts_136 ?_
            refine lv_iconst (v := nI 1) hx hb dX12_counts_137 (by decide) ?_
            refine lv_iadd hx hb dX12_counts_138 ?_
            refine xiast C hP hD hS 1 rfl (16 + a) rfl (by omega) (by decide) dX12_counts_139 ?_
            clear hP hD hS
            try clear locs
            try clear H
            intro H locs hP hD hS
            replace hP : va_P D vwCl [(hm, .inr (12, [.ref ms, .ref mkp, .int (nI km), .ref mtr, .int (nI n), .int (nI k), .int (nI al), .int (nI be), .int ea, .int pr, .ref mas, .int nq, .int po, .int (nI en), .ref mso, .ref mon, .ref mot, .ref man, .int th, .int xd, .ref mst, .ref msm, .ref mtb, .ref mti, .ref mfr, .ref mbn, .ref mbs, .ref mde, .int sF, .int sN, .int sS, .int ig, .long xa, .long xb, .ref maa, .ref mab, .ref mba, .ref mbb])), (ms, .inl (cs 0, 288, .inl (upd (upd f (0 + a) (nI 0)) (16 + a) (((upd f (0 + a) (nI 0)) (16 + a)) + (nI 1)))))] H := hP
            replace hD : va_D A [(hm, .inr (12, [.ref ms, .ref mkp, .int (nI km), .ref mtr, .int (nI n), .int (nI k), .int (nI al), .int (nI be), .int ea, .int pr, .ref mas, .int nq, .int po, .int (nI en), .ref mso, .ref mon, .ref mot, .ref man, .int th, .int xd, .ref mst, .ref msm, .ref mtb, .ref mti, .ref mfr, .ref mbn, .ref mbs, .ref mde, .int sF, .int sN, .int sS, .int ig, .long xa, .long xb, .ref maa, .ref mab, .ref mba, .ref mbb])), (ms, .inl (cs 0, 288, .inl (upd (upd f (0 + a) (nI 0)) (16 + a) (((upd f (0 + a) (nI 0)) (16 + a)) + (nI 1)))))] := hD
            refine lv_goto (tgt := 160) hx hb dX12_counts_140 (by decide) ?_
            exact xretv C (upd (upd f (0 + a) (nI 0)) (16 + a) (((upd f (0 + a) (nI 0)) (16 + a)) + (nI 1))) (colP_hi (i := 16 + a) (colP_up hs (0 + a) colV_0) (((upd f (0 + a) (nI 0)) (16 + a)) + (nI 1)) (by omega)) hP hD hS (Nat.le_of_ble_eq_true rfl) (Nat.le_of_ble_eq_true rfl) dX12_counts_160
      · -- 63 f
        refine lv_aload_n hx hb dX12_counts_66 rfl (lv_at hl 2 rfl) ?_
        refine xget C hP 0 rfl rfl zuX12 0 (by decide) zw5_213 rfl dX12_counts_67 ?_
        refine lv_iload hx hb dX12_counts_70 (lv_at hl 0 rfl) ?_
        refine lv_dup2_11 hx hb dX12_counts_72 rfl rfl ?_
        refine xiald C hP 1 rfl (24 + a) rfl (by omega) (by decide) dX12_counts_73 ?_
        refine lv_iconst (v := nI 1) hx hb dX12_counts_74 (by decide) ?_
        refine lv_iadd hx hb dX12_counts_75 ?_
        refine xiast C hP hD hS 1 rfl (24 + a) rfl (by omega) (by decide) dX12_counts_76 ?_
        clear hP hD hS
        try clear locs
        try clear H
        intro H locs hP hD hS
        replace hP : va_P D vwCl [(hm, .inr (12, [.ref ms, .ref mkp, .int (nI km), .ref mtr, .int (nI n), .int (nI k), .int (nI al), .int (nI be), .int ea, .int pr, .ref mas, .int nq, .int po, .int (nI en), .ref mso, .ref mon, .ref mot, .ref man, .int th, .int xd, .ref mst, .ref msm, .ref mtb, .ref mti, .ref mfr, .ref mbn, .ref mbs, .ref mde, .int sF, .int sN, .int sS, .int ig, .long xa, .long xb, .ref maa, .ref mab, .ref mba, .ref mbb])), (ms, .inl (cs 0, 288, .inl (upd f (24 + a) ((f (24 + a)) + (nI 1)))))] H := hP
        replace hD : va_D A [(hm, .inr (12, [.ref ms, .ref mkp, .int (nI km), .ref mtr, .int (nI n), .int (nI k), .int (nI al), .int (nI be), .int ea, .int pr, .ref mas, .int nq, .int po, .int (nI en), .ref mso, .ref mon, .ref mot, .ref man, .int th, .int xd, .ref mst, .ref msm, .ref mtb, .ref mti, .ref mfr, .ref mbn, .ref mbs, .ref mde, .int sF, .int sN, .int sS, .int ig, .long xa, .long xb, .ref maa, .ref mab, .ref mba, .ref mbb])), (ms, .inl (cs 0, 288, .inl (upd f (24 + a) ((f (24 + a)) + (nI 1)))))] := hD
        refine lv_aload_n hx hb dX12_counts_77 rfl (lv_at hl 2 rfl) ?_
        refine xget C hP 0 rfl rfl zuX12 0 (by decide) zw5_213 rfl dX12_counts_78 ?_
        refine lv_iload hx hb dX12_counts_81 (lv_at hl 0 rfl) ?_
        refine xiald C hP 1 rfl (24 + a) rfl (by omega) (by decide) dX12_counts_83 ?_
        refine lv_aload_n hx hb dX12_counts_84 rfl (lv_at hl 2 rfl) ?_
        refine xget C hP 0 rfl rfl zuX12 0 (by decide) zw5_213 rfl dX12_counts_85 ?_
        refine lv_bipush (v := nI 24) hx hb dX12_counts_88 (by decide) ?_
        refine lv_bipush (v := nI 8) hx hb dX12_counts_90 (by decide) ?_
        refine lv_aload_n hx hb dX12_counts_92 rfl (lv_at hl 2 rfl) ?_
        refine xget C hP 0 rfl rfl zuX12 0 (by decide) zw5_213 rfl dX12_counts_93 ?_
        refine lv_iconst (v := nI 0) hx hb dX12_counts_96 (by decide) ?_
        refine lv_iload_n hx hb dX12_counts_97 rfl (lv_at hl 3 rfl) ?_
        refine lv_iadd hx hb dX12_counts_98 ?_
        refine lv_topi (nm_r (e' := nI (0 + a)) (nI_add _ _) ?_)
        refine xiald C hP 1 rfl (0 + a) rfl (by omega) (by decide) dX12_counts_99 ?_
        obtain ⟨t_8, h_t_8, e_t_8⟩ := (col_nat ((colP_hi (i := 24 + a) hs ((f (24 + a)) + (nI 1)) (by omega)) (0 + a) (by omega)) (by first | exact hna | (unfold upd; rw [if_neg (by omega)]; exact hna)))
        refine lv_topi (nm_r (e' := nI t_8) e_t_8 ?_)
        refine lv_imul hx hb dX12_counts_100 ?_
        refine lv_topi (nm_r (e' := nI (8 * t_8)) (pk_mul _ _) ?_)
        refine lv_iadd hx hb dX12_counts_101 ?_
        refine lv_topi (nm_r (e' := nI (24 + (8 * t_8))) (nI_add _ _) ?_)
        refine lv_iload_n hx hb dX12_counts_102 rfl (lv_at hl 3 rfl) ?_
        refine lv_iadd hx hb dX12_counts_103 ?_
        refine lv_topi (nm_r (e' := nI ((24 + (8 * t_8)) + a)) (nI_add _ _) ?_)
        refine xiald C hP 1 rfl ((24 + (8 * t_8)) + a) rfl (by omega) (by decide) dX12_counts_104 ?_
        refine lv_icmp_le (tgt := 117) hx hb dX12_counts_105 (by decide) (fun c_9 => ?_) (fun c_9 => ?_)
        · -- 105 t
          refine lv_aload_n hx hb dX12_counts_117 rfl (lv_at hl 2 rfl) ?_
          refine xget C hP 0 rfl rfl zuX12 0 (by decide) zw5_213 rfl dX12_counts_118 ?_
          refine lv_iload_n hx hb dX12_counts_121 rfl (lv_at hl 1 rfl) ?_
          refine xiald C hP 1 rfl (8 + a) rfl (by omega) (by decide) dX12_counts_122 ?_
          refine lv_iload_n hx hb dX12_counts_123 rfl (lv_at hl 4 rfl) ?_
          refine lv_icmp_ne (tgt := 143) hx hb dX12_counts_124 (by decide) (fun c_10 => ?_) (fun c_10 => ?_)
          · -- 124 t
            refine lv_aload_n hx hb dX12_counts_143 rfl (lv_at hl 2 rfl) ?_
            refine xget C hP 0 rfl rfl zuX12 0 (by decide) zw5_213 rfl dX12_counts_144 ?_
            refine lv_iload_n hx hb dX12_counts_147 rfl (lv_at hl 1 rfl) ?_
            refine lv_iload_n hx hb dX12_counts_148 rfl (lv_at hl 4 rfl) ?_
            refine xiast C hP hD hS 1 rfl (8 + a) rfl (by omega) (by decide) dX12_counts_149 ?_
            clear hP hD hS
            try clear locs
            try clear H
            intro H locs hP hD hS
            replace hP : va_P D vwCl [(hm, .inr (12, [.ref ms, .ref mkp, .int (nI km), .ref mtr, .int (nI n), .int (nI k), .int (nI al), .int (nI be), .int ea, .int pr, .ref mas, .int nq, .int po, .int (nI en), .ref mso, .ref mon, .ref mot, .ref man, .int th, .int xd, .ref mst, .ref msm, .ref mtb, .ref mti, .ref mfr, .ref mbn, .ref mbs, .ref mde, .int sF, .int sN, .int sS, .int ig, .long xa, .long xb, .ref maa, .ref mab, .ref mba, .ref mbb])), (ms, .inl (cs 0, 288, .inl (upd (upd f (24 + a) ((f (24 + a)) + (nI 1))) (8 + a) (nI 0))))] H := hP
            replace hD : va_D A [(hm, .inr (12, [.ref ms, .ref mkp, .int (nI km), .ref mtr, .int (nI n), .int (nI k), .int (nI al), .int (nI be), .int ea, .int pr, .ref mas, .int nq, .int po, .int (nI en), .ref mso, .ref mon, .ref mot, .ref man, .int th, .int xd, .ref mst, .ref msm, .ref mtb, .ref mti, .ref mfr, .ref mbn, .ref mbs, .ref mde, .int sF, .int sN, .int sS, .int ig, .long xa, .long xb, .ref maa, .ref mab, .ref mba, .ref mbb])), (ms, .inl (cs 0, 288, .inl (upd (upd f (24 + a) ((f (24 + a)) + (nI 1))) (8 + a) (nI 0))))] := hD
            refine lv_aload_n hx hb dX12_counts_150 rfl (lv_at hl 2 rfl) ?_
            refine xget C hP 0 rfl rfl zuX12 0 (by decide) zw5_213 rfl dX12_counts_151 ?_
            refine lv_bipush (v := nI 16) hx hb dX12_counts_154 (by decide) ?_
            refine lv_iload_n hx hb dX12_counts_156 rfl (lv_at hl 3 rfl) ?_
            refine lv_iadd hx hb dX12_counts_157 ?_
            refine lv_topi (nm_r (e' := nI (16 + a)) (nI_add _ _) ?_)
            refine lv_iconst (v := nI 1) hx hb dX12_counts_158 (by decide) ?_
            refine xiast C hP hD hS 1 rfl (16 + a) rfl (by omega) (by decide) dX12_counts_159 ?_
            clear hP hD hS
            try clear locs
            try clear H
            intro H locs hP hD hS
            replace hP : va_P D vwCl [(hm, .inr (12, [.ref ms, .ref mkp, .int (nI km), .ref mtr, .int (nI n), .int (nI k), .int (nI al), .int (nI be), .int ea, .int pr, .ref mas, .int nq, .int po, .int (nI en), .ref mso, .ref mon, .ref mot, .ref man, .int th, .int xd, .ref mst, .ref msm, .ref mtb, .ref mti, .ref mfr, .ref mbn, .ref mbs, .ref mde, .int sF, .int sN, .int sS, .int ig, .long xa, .long xb, .ref maa, .ref mab, .ref mba, .ref mbb])), (ms, .inl (cs 0, 288, .inl (upd (upd (upd f (24 + a) ((f (24 + a)) + (nI 1))) (8 + a) (nI 0)) (16 + a) (nI 1))))] H := hP
            replace hD : va_D A [(hm, .inr (12, [.ref ms, .ref mkp, .int (nI km), .ref mtr, .int (nI n), .int (nI k), .int (nI al), .int (nI be), .int ea, .int pr, .ref mas, .int nq, .int po, .int (nI en), .ref mso, .ref mon, .ref mot, .ref man, .int th, .int xd, .ref mst, .ref msm, .ref mtb, .ref mti, .ref mfr, .ref mbn, .ref mbs, .ref mde, .int sF, .int sN, .int sS, .int ig, .long xa, .long xb, .ref maa, .ref mab, .ref mba, .ref mbb])), (ms, .inl (cs 0, 288, .inl (upd (upd (upd f (24 + a) ((f (24 + a)) + (nI 1))) (8 + a) (nI 0)) (16 + a) (nI 1))))] := hD
            exact xretv C (upd (upd (upd f (24 + a) ((f (24 + a)) + (nI 1))) (8 + a) (nI 0)) (16 + a) (nI 1)) (colP_hi (i := 16 + a) (colP_hi (i := 8 + a) (colP_hi (i := 24 + a) hs ((f (24 + a)) + (nI 1)) (by omega)) (nI 0) (by omega)) (nI 1) (by omega)) hP hD hS (Nat.le_of_ble_eq_true rfl) (Nat.le_of_ble_eq_true rfl) dX12_counts_160
          · -- 124 f
            refine lv_aload_n hx hb dX12_counts_127 rfl (lv_at hl 2 rfl) ?_
            refine xget C hP 0 rfl rfl zuX12 0 (by decide) zw5_213 rfl dX12_counts_128 ?_
            refine lv_bipush (v := nI 16) hx hb dX12_counts_131 (by decide) ?_
            refine lv_iload_n hx hb dX12_counts_133 rfl (lv_at hl 3 rfl) ?_
            refine lv_iadd hx hb dX12_counts_134 ?_
            refine lv_topi (nm_r (e' := nI (16 + a)) (nI_add _ _) ?_)
            refine lv_dup2_11 hx hb dX12_counts_135 rfl rfl ?_
            refine xiald C hP 1 rfl (16 + a) rfl (by omega) (by decide) dX12_counts_136 ?_
            refine lv_iconst (v := nI 1) hx hb dX12_counts_137 (by decide) ?_
            refine lv_iadd hx hb dX12_counts_138 ?_
            refine xiast C hP hD hS 1 rfl (16 + a) rfl (by omega) (by decide) dX12_counts_139 ?_
            clear hP hD hS
            try clear locs
            try clear H
            intro H locs hP hD hS
            replace hP : va_P D vwCl [(hm, .inr (12, [.ref ms, .ref mkp, .int (nI km), .ref mtr, .int (nI n), .int (nI k), .int (nI al), .int (nI be), .int ea, .int pr, .ref mas, .int nq, .int po, .int (nI en), .ref mso, .ref mon, .ref mot, .ref man, .int th, .int xd, .ref mst, .ref msm, .ref mtb, .ref mti, .ref mfr, .ref mbn, .ref mbs, .ref mde, .int sF, .int sN, .int sS, .int ig, .long xa, .long xb, .ref maa, .ref mab, .ref mba, .ref mbb])), (ms, .inl (cs 0, 288, .inl (upd (upd f (24 + a) ((f (24 + a)) + (nI 1))) (16 + a) (((upd f (24 + a) ((f (24 + a)) + (nI 1))) (16 + a)) + (nI 1)))))] H := hP
            replace hD : va_D A [(hm, .inr (12, [.ref ms, .ref mkp, .int (nI km), .ref mtr, .int (nI n), .int (nI k), .int (nI al), .int (nI be), .int ea, .int pr, .ref mas, .int nq, .int po, .int (nI en), .ref mso, .ref mon, .ref mot, .ref man, .int th, .int xd, .ref mst, .ref msm, .ref mtb, .ref mti, .ref mfr, .ref mbn, .ref mbs, .ref mde, .int sF, .int sN, .int sS, .int ig, .long xa, .long xb, .ref maa, .ref mab, .ref mba, .ref mbb])), (ms, .inl (cs 0, 288, .inl (upd (upd f (24 + a) ((f (24 + a)) + (nI 1))) (16 + a) (((upd f (24 + a) ((f (24 + a)) + (nI 1))) (16 + a)) + (nI 1)))))] := hD
            refine lv_goto (tgt := 160) hx hb dX12_counts_140 (by decide) ?_
            exact xretv C (upd (upd f (24 + a) ((f (24 + a)) + (nI 1))) (16 + a) (((upd f (24 + a) ((f (24 + a)) + (nI 1))) (16 + a)) + (nI 1))) (colP_hi (i := 16 + a) (colP_hi (i := 24 + a) hs ((f (24 + a)) + (nI 1)) (by omega)) (((upd f (24 + a) ((f (24 + a)) + (nI 1))) (16 + a)) + (nI 1)) (by omega)) hP hD hS (Nat.le_of_ble_eq_true rfl) (Nat.le_of_ble_eq_true rfl) dX12_counts_160
        · -- 105 f
          refine lv_aload_n hx hb dX12_counts_108 rfl (lv_at hl 2 rfl) ?_
          refine xget C hP 0 rfl rfl zuX12 0 (by decide) zw5_213 rfl dX12_counts_109 ?_
          refine lv_iconst (v := nI 0) hx hb dX12_counts_112 (by decide) ?_
          refine lv_iload_n hx hb dX12_counts_113 rfl (lv_at hl 3 rfl) ?_
          refine lv_iadd hx hb dX12_counts_114 ?_
          refine lv_topi (nm_r (e' := nI (0 + a)) (nI_add _ _) ?_)
          refine lv_iload_n hx hb dX12_counts_115 rfl (lv_at hl 4 rfl) ?_
          refine xiast C hP hD hS 1 rfl (0 + a) rfl (by omega) (by decide) dX12_counts_116 ?_
          clear hP hD hS
          try clear locs
          try clear H
          intro H locs hP hD hS
          replace hP : va_P D vwCl [(hm, .inr (12, [.ref ms, .ref mkp, .int (nI km), .ref mtr, .int (nI n), .int (nI k), .int (nI al), .int (nI be), .int ea, .int pr, .ref mas, .int nq, .int po, .int (nI en), .ref mso, .ref mon, .ref mot, .ref man, .int th, .int xd, .ref mst, .ref msm, .ref mtb, .ref mti, .ref mfr, .ref mbn, .ref mbs, .ref mde, .int sF, .int sN, .int sS, .int ig, .long xa, .long xb, .ref maa, .ref mab, .ref mba, .ref mbb])), (ms, .inl (cs 0, 288, .inl (upd (upd f (24 + a) ((f (24 + a)) + (nI 1))) (0 + a) (nI 0))))] H := hP
          replace hD : va_D A [(hm, .inr (12, [.ref ms, .ref mkp, .int (nI km), .ref mtr, .int (nI n), .int (nI k), .int (nI al), .int (nI be), .int ea, .int pr, .ref mas, .int nq, .int po, .int (nI en), .ref mso, .ref mon, .ref mot, .ref man, .int th, .int xd, .ref mst, .ref msm, .ref mtb, .ref mti, .ref mfr, .ref mbn, .ref mbs, .ref mde, .int sF, .int sN, .int sS, .int ig, .long xa, .long xb, .ref maa, .ref mab, .ref mba, .ref mbb])), (ms, .inl (cs 0, 288, .inl (upd (upd f (24 + a) ((f (24 + a)) + (nI 1))) (0 + a) (nI 0))))] := hD
          refine lv_aload_n hx hb dX12_counts_117 rfl (lv_at hl 2 rfl) ?_
          refine xget C hP 0 rfl rfl zuX12 0 (by decide) zw5_213 rfl dX12_counts_118 ?_
          refine lv_iload_n hx hb dX12_counts_121 rfl (lv_at hl 1 rfl) ?_
          refine xiald C hP 1 rfl (8 + a) rfl (by omega) (by decide) dX12_counts_122 ?_
          refine lv_iload_n hx hb dX12_counts_123 rfl (lv_at hl 4 rfl) ?_
          refine lv_icmp_ne (tgt := 143) hx hb dX12_counts_124 (by decide) (fun c_11 => ?_) (fun c_11 => ?_)
          · -- 124 t
            refine lv_aload_n hx hb dX12_counts_143 rfl (lv_at hl 2 rfl) ?_
            refine xget C hP 0 rfl rfl zuX12 0 (by decide) zw5_213 rfl dX12_counts_144 ?_
            refine lv_iload_n hx hb dX12_counts_147 rfl (lv_at hl 1 rfl) ?_
            refine lv_iload_n hx hb dX12_counts_148 rfl (lv_at hl 4 rfl) ?_
            refine xiast C hP hD hS 1 rfl (8 + a) rfl (by omega) (by decide) dX12_counts_149 ?_
            clear hP hD hS
            try clear locs
            try clear H
            intro H locs hP hD hS
            replace hP : va_P D vwCl [(hm, .inr (12, [.ref ms, .ref mkp, .int (nI km), .ref mtr, .int (nI n), .int (nI k), .int (nI al), .int (nI be), .int ea, .int pr, .ref mas, .int nq, .int po, .int (nI en), .ref mso, .ref mon, .ref mot, .ref man, .int th, .int xd, .ref mst, .ref msm, .ref mtb, .ref mti, .ref mfr, .ref mbn, .ref mbs, .ref mde, .int sF, .int sN, .int sS, .int ig, .long xa, .long xb, .ref maa, .ref mab, .ref mba, .ref mbb])), (ms, .inl (cs 0, 288, .inl (upd (upd (upd f (24 + a) ((f (24 + a)) + (nI 1))) (0 + a) (nI 0)) (8 + a) (nI 0))))] H := hP
            replace hD : va_D A [(hm, .inr (12, [.ref ms, .ref mkp, .int (nI km), .ref mtr, .int (nI n), .int (nI k), .int (nI al), .int (nI be), .int ea, .int pr, .ref mas, .int nq, .int po, .int (nI en), .ref mso, .ref mon, .ref mot, .ref man, .int th, .int xd, .ref mst, .ref msm, .ref mtb, .ref mti, .ref mfr, .ref mbn, .ref mbs, .ref mde, .int sF, .int sN, .int sS, .int ig, .long xa, .long xb, .ref maa, .ref mab, .ref mba, .ref mbb])), (ms, .inl (cs 0, 288, .inl (upd (upd (upd f (24 + a) ((f (24 + a)) + (nI 1))) (0 + a) (nI 0)) (8 + a) (nI 0))))] := hD
            refine lv_aload_n hx hb dX12_counts_150 rfl (lv_at hl 2 rfl) ?_
            refine xget C hP 0 rfl rfl zuX12 0 (by decide) zw5_213 rfl dX12_counts_151 ?_
            refine lv_bipush (v := nI 16) hx hb dX12_counts_154 (by decide) ?_
            refine lv_iload_n hx hb dX12_counts_156 rfl (lv_at hl 3 rfl) ?_
            refine lv_iadd hx hb dX12_counts_157 ?_
            refine lv_topi (nm_r (e' := nI (16 + a)) (nI_add _ _) ?_)
            refine lv_iconst (v := nI 1) hx hb dX12_counts_158 (by decide) ?_
            refine xiast C hP hD hS 1 rfl (16 + a) rfl (by omega) (by decide) dX12_counts_159 ?_
            clear hP hD hS
            try clear locs
            try clear H
            intro H locs hP hD hS
            replace hP : va_P D vwCl [(hm, .inr (12, [.ref ms, .ref mkp, .int (nI km), .ref mtr, .int (nI n), .int (nI k), .int (nI al), .int (nI be), .int ea, .int pr, .ref mas, .int nq, .int po, .int (nI en), .ref mso, .ref mon, .ref mot, .ref man, .int th, .int xd, .ref mst, .ref msm, .ref mtb, .ref mti, .ref mfr, .ref mbn, .ref mbs, .ref mde, .int sF, .int sN, .int sS, .int ig, .long xa, .long xb, .ref maa, .ref mab, .ref mba, .ref mbb])), (ms, .inl (cs 0, 288, .inl (upd (upd (upd (upd f (24 + a) ((f (24 + a)) + (nI 1))) (0 + a) (nI 0)) (8 + a) (nI 0)) (16 + a) (nI 1))))] H := hP
            replace hD : va_D A [(hm, .inr (12, [.ref ms, .ref mkp, .int (nI km), .ref mtr, .int (nI n), .int (nI k), .int (nI al), .int (nI be), .int ea, .int pr, .ref mas, .int nq, .int po, .int (nI en), .ref mso, .ref mon, .ref mot, .ref man, .int th, .int xd, .ref mst, .ref msm, .ref mtb, .ref mti, .ref mfr, .ref mbn, .ref mbs, .ref mde, .int sF, .int sN, .int sS, .int ig, .long xa, .long xb, .ref maa, .ref mab, .ref mba, .ref mbb])), (ms, .inl (cs 0, 288, .inl (upd (upd (upd (upd f (24 + a) ((f (24 + a)) + (nI 1))) (0 + a) (nI 0)) (8 + a) (nI 0)) (16 + a) (nI 1))))] := hD
            exact xretv C (upd (upd (upd (upd f (24 + a) ((f (24 + a)) + (nI 1))) (0 + a) (nI 0)) (8 + a) (nI 0)) (16 + a) (nI 1)) (colP_hi (i := 16 + a) (colP_hi (i := 8 + a) (colP_up (colP_hi (i := 24 + a) hs ((f (24 + a)) + (nI 1)) (by omega)) (0 + a) colV_0) (nI 0) (by omega)) (nI 1) (by omega)) hP hD hS (Nat.le_of_ble_eq_true rfl) (Nat.le_of_ble_eq_true rfl) dX12_counts_160
          · -- 124 f
            refine lv_aload_n hx hb dX12_counts_127 rfl (lv_at hl 2 rfl) ?_
            refine xget C hP 0 rfl rfl zuX12 0 (by decide) zw5_213 rfl dX12_counts_128 ?_
            refine lv_bipush (v := nI 16) hx hb dX12_counts_131 (by decide) ?_
            refine lv_iload_n hx hb dX12_counts_133 rfl (lv_at hl 3 rfl) ?_
            refine lv_iadd hx hb dX12_counts_134 ?_
            refine lv_topi (nm_r (e' := nI (16 + a)) (nI_add _ _) ?_)
            refine lv_dup2_11 hx hb dX12_counts_135 rfl rfl ?_
            refine xiald C hP 1 rfl (16 + a) rfl (by omega) (by decide) dX12_counts_136 ?_
            refine lv_iconst (v := nI 1) hx hb dX12_counts_137 (by decide) ?_
            refine lv_iadd hx hb dX12_counts_138 ?_
            refine xiast C hP hD hS 1 rfl (16 + a) rfl (by omega) (by decide) dX12_counts_139 ?_
            clear hP hD hS
            try clear locs
            try clear H
            intro H locs hP hD hS
            replace hP : va_P D vwCl [(hm, .inr (12, [.ref ms, .ref mkp, .int (nI km), .ref mtr, .int (nI n), .int (nI k), .int (nI al), .int (nI be), .int ea, .int pr, .ref mas, .int nq, .int po, .int (nI en), .ref mso, .ref mon, .ref mot, .ref man, .int th, .int xd, .ref mst, .ref msm, .ref mtb, .ref mti, .ref mfr, .ref mbn, .ref mbs, .ref mde, .int sF, .int sN, .int sS, .int ig, .long xa, .long xb, .ref maa, .ref mab, .ref mba, .ref mbb])), (ms, .inl (cs 0, 288, .inl (upd (upd (upd f (24 + a) ((f (24 + a)) + (nI 1))) (0 + a) (nI 0)) (16 + a) (((upd (upd f (24 + a) ((f (24 + a)) + (nI 1))) (0 + a) (nI 0)) (16 + a)) + (nI 1)))))] H := hP
            replace hD : va_D A [(hm, .inr (12, [.ref ms, .ref mkp, .int (nI km), .ref mtr, .int (nI n), .int (nI k), .int (nI al), .int (nI be), .int ea, .int pr, .ref mas, .int nq, .int po, .int (nI en), .ref mso, .ref mon, .ref mot, .ref man, .int th, .int xd, .ref mst, .ref msm, .ref mtb, .ref mti, .ref mfr, .ref mbn, .ref mbs, .ref mde, .int sF, .int sN, .int sS, .int ig, .long xa, .long xb, .ref maa, .ref mab, .ref mba, .ref mbb])), (ms, .inl (cs 0, 288, .inl (upd (upd (upd f (24 + a) ((f (24 + a)) + (nI 1))) (0 + a) (nI 0)) (16 + a) (((upd (upd f (24 + a) ((f (24 + a)) + (nI 1))) (0 + a) (nI 0)) (16 + a)) + (nI 1)))))] := hD
            refine lv_goto (tgt := 160) hx hb dX12_counts_140 (by decide) ?_
            exact xretv C (upd (upd (upd f (24 + a) ((f (24 + a)) + (nI 1))) (0 + a) (nI 0)) (16 + a) (((upd (upd f (24 + a) ((f (24 + a)) + (nI 1))) (0 + a) (nI 0)) (16 + a)) + (nI 1))) (colP_hi (i := 16 + a) (colP_up (colP_hi (i := 24 + a) hs ((f (24 + a)) + (nI 1)) (by omega)) (0 + a) colV_0) (((upd (upd f (24 + a) ((f (24 + a)) + (nI 1))) (0 + a) (nI 0)) (16 + a)) + (nI 1)) (by omega)) hP hD hS (Nat.le_of_ble_eq_true rfl) (Nat.le_of_ble_eq_true rfl) dX12_counts_160
  · -- split
    replace hP : va_P D vwCl [(hm, .inr (12, [.ref ms, .ref mkp, .int (nI km), .ref mtr, .int (nI n), .int (nI k), .int (nI al), .int (nI be), .int ea, .int pr, .ref mas, .int nq, .int po, .int (nI en), .ref mso, .ref mon, .ref mot, .ref man, .int th, .int xd, .ref mst, .ref msm, .ref mtb, .ref mti, .ref mfr, .ref mbn, .ref mbs, .ref mde, .int sF, .int sN, .int sS, .int ig, .long xa, .long xb, .ref maa, .ref mab, .ref mba, .ref mbb])), (ms, .inl (cs 0, 288, .inl f))] H := hP
    replace hD : va_D A [(hm, .inr (12, [.ref ms, .ref mkp, .int (nI km), .ref mtr, .int (nI n), .int (nI k), .int (nI al), .int (nI be), .int ea, .int pr, .ref mas, .int nq, .int po, .int (nI en), .ref mso, .ref mon, .ref mot, .ref man, .int th, .int xd, .ref mst, .ref msm, .ref mtb, .ref mti, .ref mfr, .ref mbn, .ref mbs, .ref mde, .int sF, .int sN, .int sS, .int ig, .long xa, .long xb, .ref maa, .ref mab, .ref mba, .ref mbb])), (ms, .inl (cs 0, 288, .inl f))] := hD
    refine lv_iload_n hx hb dX12_counts_0 rfl (lv_at hl 2 rfl) ?_
    refine lv_if_ge (tgt := 15) hx hb dX12_counts_1 (by decide) (fun _ => ?_) (fun c => absurd (by decide) c)
    refine lv_aload_n hx hb dX12_counts_15 rfl (lv_at hl 0 rfl) ?_
    refine xget C hP 0 rfl rfl zuX12 9 (by decide) zw5_222 rfl dX12_counts_16 ?_
    refine lv_iconst (v := nI 2) hx hb dX12_counts_19 (by decide) ?_
    refine lv_icmp_ne (tgt := 30) hx hb dX12_counts_20 (by decide) (fun c_12 => ?_) (fun c_12 => ?_)
    · -- 20 t
      refine lv_iconst (v := nI 0) hx hb dX12_counts_30 (by decide) ?_
      refine lv_iload_n hx hb dX12_counts_31 rfl (lv_at hl 1 rfl) ?_
      refine lv_iadd hx hb dX12_counts_32 ?_
      refine lv_topi (nm_r (e' := nI (0 + a)) (nI_add _ _) ?_)
      refine lv_istore_n (lv' := [(3, .int (nI (0 + a))), (0, .ref hm), (1, .int (nI a)), (2, .int (nI 1))]) hx hb dX12_counts_33 rfl hl (by decide) rfl ?_
      clear hl
      try clear ls
      intro ls hl
      refine lv_aload_n hx hb dX12_counts_34 rfl (lv_at hl 1 rfl) ?_
      refine xget C hP 0 rfl rfl zuX12 9 (by decide) zw5_222 rfl dX12_counts_35 ?_
      refine lv_iconst (v := nI 2) hx hb dX12_counts_38 (by decide) ?_
      refine lv_icmp_ne (tgt := 117) hx hb dX12_counts_39 (by decide) (fun _ => ?_) (fun c => absurd c c_12)
      refine lv_aload_n hx hb dX12_counts_117 rfl (lv_at hl 1 rfl) ?_
      refine xget C hP 0 rfl rfl zuX12 0 (by decide) zw5_213 rfl dX12_counts_118 ?_
      refine lv_iload_n hx hb dX12_counts_121 rfl (lv_at hl 0 rfl) ?_
      refine xiald C hP 1 rfl (0 + a) rfl (by omega) (by decide) dX12_counts_122 ?_
      refine lv_iload_n hx hb dX12_counts_123 rfl (lv_at hl 3 rfl) ?_
      refine lv_icmp_ne (tgt := 143) hx hb dX12_counts_124 (by decide) (fun c_13 => ?_) (fun c_13 => ?_)
      · -- 124 t
        refine lv_aload_n hx hb dX12_counts_143 rfl (lv_at hl 1 rfl) ?_
        refine xget C hP 0 rfl rfl zuX12 0 (by decide) zw5_213 rfl dX12_counts_144 ?_
        refine lv_iload_n hx hb dX12_counts_147 rfl (lv_at hl 0 rfl) ?_
        refine lv_iload_n hx hb dX12_counts_148 rfl (lv_at hl 3 rfl) ?_
        refine xiast C hP hD hS 1 rfl (0 + a) rfl (by omega) (by decide) dX12_counts_149 ?_
        clear hP hD hS
        try clear locs
        try clear H
        intro H locs hP hD hS
        replace hP : va_P D vwCl [(hm, .inr (12, [.ref ms, .ref mkp, .int (nI km), .ref mtr, .int (nI n), .int (nI k), .int (nI al), .int (nI be), .int ea, .int pr, .ref mas, .int nq, .int po, .int (nI en), .ref mso, .ref mon, .ref mot, .ref man, .int th, .int xd, .ref mst, .ref msm, .ref mtb, .ref mti, .ref mfr, .ref mbn, .ref mbs, .ref mde, .int sF, .int sN, .int sS, .int ig, .long xa, .long xb, .ref maa, .ref mab, .ref mba, .ref mbb])), (ms, .inl (cs 0, 288, .inl (upd f (0 + a) (nI 1))))] H := hP
        replace hD : va_D A [(hm, .inr (12, [.ref ms, .ref mkp, .int (nI km), .ref mtr, .int (nI n), .int (nI k), .int (nI al), .int (nI be), .int ea, .int pr, .ref mas, .int nq, .int po, .int (nI en), .ref mso, .ref mon, .ref mot, .ref man, .int th, .int xd, .ref mst, .ref msm, .ref mtb, .ref mti, .ref mfr, .ref mbn, .ref mbs, .ref mde, .int sF, .int sN, .int sS, .int ig, .long xa, .long xb, .ref maa, .ref mab, .ref mba, .ref mbb])), (ms, .inl (cs 0, 288, .inl (upd f (0 + a) (nI 1))))] := hD
        refine lv_aload_n hx hb dX12_counts_150 rfl (lv_at hl 1 rfl) ?_
        refine xget C hP 0 rfl rfl zuX12 0 (by decide) zw5_213 rfl dX12_counts_151 ?_
        refine lv_bipush (v := nI 16) hx hb dX12_counts_154 (by decide) ?_
        refine lv_iload_n hx hb dX12_counts_156 rfl (lv_at hl 2 rfl) ?_
        refine lv_iadd hx hb dX12_counts_157 ?_
        refine lv_topi (nm_r (e' := nI (16 + a)) (nI_add _ _) ?_)
        refine lv_iconst (v := nI 1) hx hb dX12_counts_158 (by decide) ?_
        refine xiast C hP hD hS 1 rfl (16 + a) rfl (by omega) (by decide) dX12_counts_159 ?_
        clear hP hD hS
        try clear locs
        try clear H
        intro H locs hP hD hS
        replace hP : va_P D vwCl [(hm, .inr (12, [.ref ms, .ref mkp, .int (nI km), .ref mtr, .int (nI n), .int (nI k), .int (nI al), .int (nI be), .int ea, .int pr, .ref mas, .int nq, .int po, .int (nI en), .ref mso, .ref mon, .ref mot, .ref man, .int th, .int xd, .ref mst, .ref msm, .ref mtb, .ref mti, .ref mfr, .ref mbn, .ref mbs, .ref mde, .int sF, .int sN, .int sS, .int ig, .long xa, .long xb, .ref maa, .ref mab, .ref mba, .ref mbb])), (ms, .inl (cs 0, 288, .inl (upd (upd f (0 + a) (nI 1)) (16 + a) (nI 1))))] H := hP
        replace hD : va_D A [(hm, .inr (12, [.ref ms, .ref mkp, .int (nI km), .ref mtr, .int (nI n), .int (nI k), .int (nI al), .int (nI be), .int ea, .int pr, .ref mas, .int nq, .int po, .int (nI en), .ref mso, .ref mon, .ref mot, .ref man, .int th, .int xd, .ref mst, .ref msm, .ref mtb, .ref mti, .ref mfr, .ref mbn, .ref mbs, .ref mde, .int sF, .int sN, .int sS, .int ig, .long xa, .long xb, .ref maa, .ref mab, .ref mba, .ref mbb])), (ms, .inl (cs 0, 288, .inl (upd (upd f (0 + a) (nI 1)) (16 + a) (nI 1))))] := hD
        exact xretv C (upd (upd f (0 + a) (nI 1)) (16 + a) (nI 1)) (colP_hi (i := 16 + a) (colP_up hs (0 + a) colV_1) (nI 1) (by omega)) hP hD hS (Nat.le_of_ble_eq_true rfl) (Nat.le_of_ble_eq_true rfl) dX12_counts_160
      · -- 124 f
        refine lv_aload_n hx hb dX12_counts_127 rfl (lv_at hl 1 rfl) ?_
        refine xget C hP 0 rfl rfl zuX12 0 (by decide) zw5_213 rfl dX12_counts_128 ?_
        refine lv_bipush (v := nI 16) hx hb dX12_counts_131 (by decide) ?_
        refine lv_iload_n hx hb dX12_counts_133 rfl (lv_at hl 2 rfl) ?_
        refine lv_iadd hx hb dX12_counts_134 ?_
        refine lv_topi (nm_r (e' := nI (16 + a)) (nI_add _ _) ?_)
        refine lv_dup2_11 hx hb dX12_counts_135 rfl rfl ?_
        refine xiald C hP 1 rfl (16 + a) rfl (by omega) (by decide) dX12_counts_136 ?_
        refine lv_iconst (v := nI 1) hx hb dX12_counts_137 (by decide) ?_
        refine lv_iadd hx hb dX12_counts_138 ?_
        refine xiast C hP hD hS 1 rfl (16 + a) rfl (by omega) (by decide) dX12_counts_139 ?_
        clear hP hD hS
        try clear locs
        try clear H
        intro H locs hP hD hS
        replace hP : va_P D vwCl [(hm, .inr (12, [.ref ms, .ref mkp, .int (nI km), .ref mtr, .int (nI n), .int (nI k), .int (nI al), .int (nI be), .int ea, .int pr, .ref mas, .int nq, .int po, .int (nI en), .ref mso, .ref mon, .ref mot, .ref man, .int th, .int xd, .ref mst, .ref msm, .ref mtb, .ref mti, .ref mfr, .ref mbn, .ref mbs, .ref mde, .int sF, .int sN, .int sS, .int ig, .long xa, .long xb, .ref maa, .ref mab, .ref mba, .ref mbb])), (ms, .inl (cs 0, 288, .inl (upd f (16 + a) ((f (16 + a)) + (nI 1)))))] H := hP
        replace hD : va_D A [(hm, .inr (12, [.ref ms, .ref mkp, .int (nI km), .ref mtr, .int (nI n), .int (nI k), .int (nI al), .int (nI be), .int ea, .int pr, .ref mas, .int nq, .int po, .int (nI en), .ref mso, .ref mon, .ref mot, .ref man, .int th, .int xd, .ref mst, .ref msm, .ref mtb, .ref mti, .ref mfr, .ref mbn, .ref mbs, .ref mde, .int sF, .int sN, .int sS, .int ig, .long xa, .long xb, .ref maa, .ref mab, .ref mba, .ref mbb])), (ms, .inl (cs 0, 288, .inl (upd f (16 + a) ((f (16 + a)) + (nI 1)))))] := hD
        refine lv_goto (tgt := 160) hx hb dX12_counts_140 (by decide) ?_
        exact xretv C (upd f (16 + a) ((f (16 + a)) + (nI 1))) (colP_hi (i := 16 + a) hs ((f (16 + a)) + (nI 1)) (by omega)) hP hD hS (Nat.le_of_ble_eq_true rfl) (Nat.le_of_ble_eq_true rfl) dX12_counts_160
    · -- 20 f
      refine lv_bipush (v := nI 8) hx hb dX12_counts_23 (by decide) ?_
      refine lv_iload_n hx hb dX12_counts_25 rfl (lv_at hl 1 rfl) ?_
      refine lv_iadd hx hb dX12_counts_26 ?_
      refine lv_topi (nm_r (e' := nI (8 + a)) (nI_add _ _) ?_)
      refine lv_goto (tgt := 33) hx hb dX12_counts_27 (by decide) ?_
      refine lv_istore_n (lv' := [(3, .int (nI (8 + a))), (0, .ref hm), (1, .int (nI a)), (2, .int (nI 1))]) hx hb dX12_counts_33 rfl hl (by decide) rfl ?_
      clear hl
      try clear ls
      intro ls hl
      refine lv_aload_n hx hb dX12_counts_34 rfl (lv_at hl 1 rfl) ?_
      refine xget C hP 0 rfl rfl zuX12 9 (by decide) zw5_222 rfl dX12_counts_35 ?_
      refine lv_iconst (v := nI 2) hx hb dX12_counts_38 (by decide) ?_
      refine lv_icmp_ne (tgt := 117) hx hb dX12_counts_39 (by decide) (fun c => absurd c_12 c) (fun _ => ?_)
      refine lv_bipush (v := nI 24) hx hb dX12_counts_42 (by decide) ?_
      refine lv_bipush (v := nI 8) hx hb dX12_counts_44 (by decide) ?_
      refine lv_iload_n hx hb dX12_counts_46 rfl (lv_at hl 3 rfl) ?_
      refine lv_imul hx hb dX12_counts_47 ?_
      refine lv_topi (nm_r (e' := nI 8) (by decide) ?_)
      refine lv_iadd hx hb dX12_counts_48 ?_
      refine lv_topi (nm_r (e' := nI 32) (by decide) ?_)
      refine lv_iload_n hx hb dX12_counts_49 rfl (lv_at hl 2 rfl) ?_
      refine lv_iadd hx hb dX12_counts_50 ?_
      refine lv_topi (nm_r (e' := nI (32 + a)) (nI_add _ _) ?_)
      refine lv_istore (lv' := [(4, .int (nI (32 + a))), (3, .int (nI (8 + a))), (0, .ref hm), (1, .int (nI a)), (2, .int (nI 1))]) hx hb dX12_counts_51 hl (by decide) rfl ?_
      clear hl
      try clear ls
      intro ls hl
      refine lv_aload_n hx hb dX12_counts_53 rfl (lv_at hl 2 rfl) ?_
      refine xget C hP 0 rfl rfl zuX12 0 (by decide) zw5_213 rfl dX12_counts_54 ?_
      refine lv_iload hx hb dX12_counts_57 (lv_at hl 0 rfl) ?_
      refine xiald C hP 1 rfl (32 + a) rfl (by omega) (by decide) dX12_counts_59 ?_
      refine lv_sipush (v := nI 999) hx hb dX12_counts_60 (by decide) ?_
      refine lv_icmp_ge (tgt := 77) hx hb dX12_counts_63 (by decide) (fun c_14 => ?_) (fun c_14 => ?_)
      · -- 63 t
        refine lv_aload_n hx hb dX12_counts_77 rfl (lv_at hl 2 rfl) ?_
        refine xget C hP 0 rfl rfl zuX12 0 (by decide) zw5_213 rfl dX12_counts_78 ?_
        refine lv_iload hx hb dX12_counts_81 (lv_at hl 0 rfl) ?_
        refine xiald C hP 1 rfl (32 + a) rfl (by omega) (by decide) dX12_counts_83 ?_
        refine lv_aload_n hx hb dX12_counts_84 rfl (lv_at hl 2 rfl) ?_
        refine xget C hP 0 rfl rfl zuX12 0 (by decide) zw5_213 rfl dX12_counts_85 ?_
        refine lv_bipush (v := nI 24) hx hb dX12_counts_88 (by decide) ?_
        refine lv_bipush (v := nI 8) hx hb dX12_counts_90 (by decide) ?_
        refine lv_aload_n hx hb dX12_counts_92 rfl (lv_at hl 2 rfl) ?_
        refine xget C hP 0 rfl rfl zuX12 0 (by decide) zw5_213 rfl dX12_counts_93 ?_
        refine lv_iconst (v := nI 0) hx hb dX12_counts_96 (by decide) ?_
        refine lv_iload_n hx hb dX12_counts_97 rfl (lv_at hl 3 rfl) ?_
        refine lv_iadd hx hb dX12_counts_98 ?_
        refine lv_topi (nm_r (e' := nI (0 + a)) (nI_add _ _) ?_)
        refine xiald C hP 1 rfl (0 + a) rfl (by omega) (by decide) dX12_counts_99 ?_
        obtain ⟨t_15, h_t_15, e_t_15⟩ := (col_nat (hs (0 + a) (by omega)) (by first | exact hna | (unfold upd; rw [if_neg (by omega)]; exact hna)))
        refine lv_topi (nm_r (e' := nI t_15) e_t_15 ?_)
        refine lv_imul hx hb dX12_counts_100 ?_
        refine lv_topi (nm_r (e' := nI (8 * t_15)) (pk_mul _ _) ?_)
        refine lv_iadd hx hb dX12_counts_101 ?_
        refine lv_topi (nm_r (e' := nI (24 + (8 * t_15))) (nI_add _ _) ?_)
        refine lv_iload_n hx hb dX12_counts_102 rfl (lv_at hl 3 rfl) ?_
        refine lv_iadd hx hb dX12_counts_103 ?_
        refine lv_topi (nm_r (e' := nI ((24 + (8 * t_15)) + a)) (nI_add _ _) ?_)
        refine xiald C hP 1 rfl ((24 + (8 * t_15)) + a) rfl (by omega) (by decide) dX12_counts_104 ?_
        refine lv_icmp_le (tgt := 117) hx hb dX12_counts_105 (by decide) (fun c_16 => ?_) (fun c_16 => ?_)
        · -- 105 t
          refine lv_aload_n hx hb dX12_counts_117 rfl (lv_at hl 2 rfl) ?_
          refine xget C hP 0 rfl rfl zuX12 0 (by decide) zw5_213 rfl dX12_counts_118 ?_
          refine lv_iload_n hx hb dX12_counts_121 rfl (lv_at hl 1 rfl) ?_
          refine xiald C hP 1 rfl (8 + a) rfl (by omega) (by decide) dX12_counts_122 ?_
          refine lv_iload_n hx hb dX12_counts_123 rfl (lv_at hl 4 rfl) ?_
          refine lv_icmp_ne (tgt := 143) hx hb dX12_counts_124 (by decide) (fun c_17 => ?_) (fun c_17 => ?_)
          · -- 124 t
            refine lv_aload_n hx hb dX12_counts_143 rfl (lv_at hl 2 rfl) ?_
            refine xget C hP 0 rfl rfl zuX12 0 (by decide) zw5_213 rfl dX12_counts_144 ?_
            refine lv_iload_n hx hb dX12_counts_147 rfl (lv_at hl 1 rfl) ?_
            refine lv_iload_n hx hb dX12_counts_148 rfl (lv_at hl 4 rfl) ?_
            refine xiast C hP hD hS 1 rfl (8 + a) rfl (by omega) (by decide) dX12_counts_149 ?_
            clear hP hD hS
            try clear locs
            try clear H
            intro H locs hP hD hS
            replace hP : va_P D vwCl [(hm, .inr (12, [.ref ms, .ref mkp, .int (nI km), .ref mtr, .int (nI n), .int (nI k), .int (nI al), .int (nI be), .int ea, .int pr, .ref mas, .int nq, .int po, .int (nI en), .ref mso, .ref mon, .ref mot, .ref man, .int th, .int xd, .ref mst, .ref msm, .ref mtb, .ref mti, .ref mfr, .ref mbn, .ref mbs, .ref mde, .int sF, .int sN, .int sS, .int ig, .long xa, .long xb, .ref maa, .ref mab, .ref mba, .ref mbb])), (ms, .inl (cs 0, 288, .inl (upd f (8 + a) (nI 1))))] H := hP
            replace hD : va_D A [(hm, .inr (12, [.ref ms, .ref mkp, .int (nI km), .ref mtr, .int (nI n), .int (nI k), .int (nI al), .int (nI be), .int ea, .int pr, .ref mas, .int nq, .int po, .int (nI en), .ref mso, .ref mon, .ref mot, .ref man, .int th, .int xd, .ref mst, .ref msm, .ref mtb, .ref mti, .ref mfr, .ref mbn, .ref mbs, .ref mde, .int sF, .int sN, .int sS, .int ig, .long xa, .long xb, .ref maa, .ref mab, .ref mba, .ref mbb])), (ms, .inl (cs 0, 288, .inl (upd f (8 + a) (nI 1))))] := hD
            refine lv_aload_n hx hb dX12_counts_150 rfl (lv_at hl 2 rfl) ?_
            refine xget C hP 0 rfl rfl zuX12 0 (by decide) zw5_213 rfl dX12_counts_151 ?_
            refine lv_bipush (v := nI 16) hx hb dX12_counts_154 (by decide) ?_
            refine lv_iload_n hx hb dX12_counts_156 rfl (lv_at hl 3 rfl) ?_
            refine lv_iadd hx hb dX12_counts_157 ?_
            refine lv_topi (nm_r (e' := nI (16 + a)) (nI_add _ _) ?_)
            refine lv_iconst (v := nI 1) hx hb dX12_counts_158 (by decide) ?_
            refine xiast C hP hD hS 1 rfl (16 + a) rfl (by omega) (by decide) dX12_counts_159 ?_
            clear hP hD hS
            try clear locs
            try clear H
            intro H locs hP hD hS
            replace hP : va_P D vwCl [(hm, .inr (12, [.ref ms, .ref mkp, .int (nI km), .ref mtr, .int (nI n), .int (nI k), .int (nI al), .int (nI be), .int ea, .int pr, .ref mas, .int nq, .int po, .int (nI en), .ref mso, .ref mon, .ref mot, .ref man, .int th, .int xd, .ref mst, .ref msm, .ref mtb, .ref mti, .ref mfr, .ref mbn, .ref mbs, .ref mde, .int sF, .int sN, .int sS, .int ig, .long xa, .long xb, .ref maa, .ref mab, .ref mba, .ref mbb])), (ms, .inl (cs 0, 288, .inl (upd (upd f (8 + a) (nI 1)) (16 + a) (nI 1))))] H := hP
            replace hD : va_D A [(hm, .inr (12, [.ref ms, .ref mkp, .int (nI km), .ref mtr, .int (nI n), .int (nI k), .int (nI al), .int (nI be), .int ea, .int pr, .ref mas, .int nq, .int po, .int (nI en), .ref mso, .ref mon, .ref mot, .ref man, .int th, .int xd, .ref mst, .ref msm, .ref mtb, .ref mti, .ref mfr, .ref mbn, .ref mbs, .ref mde, .int sF, .int sN, .int sS, .int ig, .long xa, .long xb, .ref maa, .ref mab, .ref mba, .ref mbb])), (ms, .inl (cs 0, 288, .inl (upd (upd f (8 + a) (nI 1)) (16 + a) (nI 1))))] := hD
            exact xretv C (upd (upd f (8 + a) (nI 1)) (16 + a) (nI 1)) (colP_hi (i := 16 + a) (colP_hi (i := 8 + a) hs (nI 1) (by omega)) (nI 1) (by omega)) hP hD hS (Nat.le_of_ble_eq_true rfl) (Nat.le_of_ble_eq_true rfl) dX12_counts_160
          · -- 124 f
            refine lv_aload_n hx hb dX12_counts_127 rfl (lv_at hl 2 rfl) ?_
            refine xget C hP 0 rfl rfl zuX12 0 (by decide) zw5_213 rfl dX12_counts_128 ?_
            refine lv_bipush (v := nI 16) hx hb dX12_counts_131 (by decide) ?_
            refine lv_iload_n hx hb dX12_counts_133 rfl (lv_at hl 3 rfl) ?_
            refine lv_iadd hx hb dX12_counts_134 ?_
            refine lv_topi (nm_r (e' := nI (16 + a)) (nI_add _ _) ?_)
            refine lv_dup2_11 hx hb dX12_counts_135 rfl rfl ?_
            refine xiald C hP 1 rfl (16 + a) rfl (by omega) (by decide) dX12_counts_136 ?_
            refine lv_iconst (v := nI 1) hx hb dX12_counts_137 (by decide) ?_
            refine lv_iadd hx hb dX12_counts_138 ?_
            refine xiast C hP hD hS 1 rfl (16 + a) rfl (by omega) (by decide) dX12_counts_139 ?_
            clear hP hD hS
            try clear locs
            try clear H
            intro H locs hP hD hS
            replace hP : va_P D vwCl [(hm, .inr (12, [.ref ms, .ref mkp, .int (nI km), .ref mtr, .int (nI n), .int (nI k), .int (nI al), .int (nI be), .int ea, .int pr, .ref mas, .int nq, .int po, .int (nI en), .ref mso, .ref mon, .ref mot, .ref man, .int th, .int xd, .ref mst, .ref msm, .ref mtb, .ref mti, .ref mfr, .ref mbn, .ref mbs, .ref mde, .int sF, .int sN, .int sS, .int ig, .long xa, .long xb, .ref maa, .ref mab, .ref mba, .ref mbb])), (ms, .inl (cs 0, 288, .inl (upd f (16 + a) ((f (16 + a)) + (nI 1)))))] H := hP
            replace hD : va_D A [(hm, .inr (12, [.ref ms, .ref mkp, .int (nI km), .ref mtr, .int (nI n), .int (nI k), .int (nI al), .int (nI be), .int ea, .int pr, .ref mas, .int nq, .int po, .int (nI en), .ref mso, .ref mon, .ref mot, .ref man, .int th, .int xd, .ref mst, .ref msm, .ref mtb, .ref mti, .ref mfr, .ref mbn, .ref mbs, .ref mde, .int sF, .int sN, .int sS, .int ig, .long xa, .long xb, .ref maa, .ref mab, .ref mba, .ref mbb])), (ms, .inl (cs 0, 288, .inl (upd f (16 + a) ((f (16 + a)) + (nI 1)))))] := hD
            refine lv_goto (tgt := 160) hx hb dX12_counts_140 (by decide) ?_
            exact xretv C (upd f (16 + a) ((f (16 + a)) + (nI 1))) (colP_hi (i := 16 + a) hs ((f (16 + a)) + (nI 1)) (by omega)) hP hD hS (Nat.le_of_ble_eq_true rfl) (Nat.le_of_ble_eq_true rfl) dX12_counts_160
        · -- 105 f
          refine lv_aload_n hx hb dX12_counts_108 rfl (lv_at hl 2 rfl) ?_
          refine xget C hP 0 rfl rfl zuX12 0 (by decide) zw5_213 rfl dX12_counts_109 ?_
          refine lv_iconst (v := nI 0) hx hb dX12_counts_112 (by decide) ?_
          refine lv_iload_n hx hb dX12_counts_113 rfl (lv_at hl 3 rfl) ?_
          refine lv_iadd hx hb dX12_counts_114 ?_
          refine lv_topi (nm_r (e' := nI (0 + a)) (nI_add _ _) ?_)
          refine lv_iload_n hx hb dX12_counts_115 rfl (lv_at hl 4 rfl) ?_
          refine xiast C hP hD hS 1 rfl (0 + a) rfl (by omega) (by decide) dX12_counts_116 ?_
          clear hP hD hS
          try clear locs
          try clear H
          intro H locs hP hD hS
          replace hP : va_P D vwCl [(hm, .inr (12, [.ref ms, .ref mkp, .int (nI km), .ref mtr, .int (nI n), .int (nI k), .int (nI al), .int (nI be), .int ea, .int pr, .ref mas, .int nq, .int po, .int (nI en), .ref mso, .ref mon, .ref mot, .ref man, .int th, .int xd, .ref mst, .ref msm, .ref mtb, .ref mti, .ref mfr, .ref mbn, .ref mbs, .ref mde, .int sF, .int sN, .int sS, .int ig, .long xa, .long xb, .ref maa, .ref mab, .ref mba, .ref mbb])), (ms, .inl (cs 0, 288, .inl (upd f (0 + a) (nI 1))))] H := hP
          replace hD : va_D A [(hm, .inr (12, [.ref ms, .ref mkp, .int (nI km), .ref mtr, .int (nI n), .int (nI k), .int (nI al), .int (nI be), .int ea, .int pr, .ref mas, .int nq, .int po, .int (nI en), .ref mso, .ref mon, .ref mot, .ref man, .int th, .int xd, .ref mst, .ref msm, .ref mtb, .ref mti, .ref mfr, .ref mbn, .ref mbs, .ref mde, .int sF, .int sN, .int sS, .int ig, .long xa, .long xb, .ref maa, .ref mab, .ref mba, .ref mbb])), (ms, .inl (cs 0, 288, .inl (upd f (0 + a) (nI 1))))] := hD
          refine lv_aload_n hx hb dX12_counts_117 rfl (lv_at hl 2 rfl) ?_
          refine xget C hP 0 rfl rfl zuX12 0 (by decide) zw5_213 rfl dX12_counts_118 ?_
          refine lv_iload_n hx hb dX12_counts_121 rfl (lv_at hl 1 rfl) ?_
          refine xiald C hP 1 rfl (8 + a) rfl (by omega) (by decide) dX12_counts_122 ?_
          refine lv_iload_n hx hb dX12_counts_123 rfl (lv_at hl 4 rfl) ?_
          refine lv_icmp_ne (tgt := 143) hx hb dX12_counts_124 (by decide) (fun c_18 => ?_) (fun c_18 => ?_)
          · -- 124 t
            refine lv_aload_n hx hb dX12_counts_143 rfl (lv_at hl 2 rfl) ?_
            refine xget C hP 0 rfl rfl zuX12 0 (by decide) zw5_213 rfl dX12_counts_144 ?_
            refine lv_iload_n hx hb dX12_counts_147 rfl (lv_at hl 1 rfl) ?_
            refine lv_iload_n hx hb dX12_counts_148 rfl (lv_at hl 4 rfl) ?_
            refine xiast C hP hD hS 1 rfl (8 + a) rfl (by omega) (by decide) dX12_counts_149 ?_
            clear hP hD hS
            try clear locs
            try clear H
            intro H locs hP hD hS
            replace hP : va_P D vwCl [(hm, .inr (12, [.ref ms, .ref mkp, .int (nI km), .ref mtr, .int (nI n), .int (nI k), .int (nI al), .int (nI be), .int ea, .int pr, .ref mas, .int nq, .int po, .int (nI en), .ref mso, .ref mon, .ref mot, .ref man, .int th, .int xd, .ref mst, .ref msm, .ref mtb, .ref mti, .ref mfr, .ref mbn, .ref mbs, .ref mde, .int sF, .int sN, .int sS, .int ig, .long xa, .long xb, .ref maa, .ref mab, .ref mba, .ref mbb])), (ms, .inl (cs 0, 288, .inl (upd (upd f (0 + a) (nI 1)) (8 + a) (nI 1))))] H := hP
            replace hD : va_D A [(hm, .inr (12, [.ref ms, .ref mkp, .int (nI km), .ref mtr, .int (nI n), .int (nI k), .int (nI al), .int (nI be), .int ea, .int pr, .ref mas, .int nq, .int po, .int (nI en), .ref mso, .ref mon, .ref mot, .ref man, .int th, .int xd, .ref mst, .ref msm, .ref mtb, .ref mti, .ref mfr, .ref mbn, .ref mbs, .ref mde, .int sF, .int sN, .int sS, .int ig, .long xa, .long xb, .ref maa, .ref mab, .ref mba, .ref mbb])), (ms, .inl (cs 0, 288, .inl (upd (upd f (0 + a) (nI 1)) (8 + a) (nI 1))))] := hD
            refine lv_aload_n hx hb dX12_counts_150 rfl (lv_at hl 2 rfl) ?_
            refine xget C hP 0 rfl rfl zuX12 0 (by decide) zw5_213 rfl dX12_counts_151 ?_
            refine lv_bipush (v := nI 16) hx hb dX12_counts_154 (by decide) ?_
            refine lv_iload_n hx hb dX12_counts_156 rfl (lv_at hl 3 rfl) ?_
            refine lv_iadd hx hb dX12_counts_157 ?_
            refine lv_topi (nm_r (e' := nI (16 + a)) (nI_add _ _) ?_)
            refine lv_iconst (v := nI 1) hx hb dX12_counts_158 (by decide) ?_
            refine xiast C hP hD hS 1 rfl (16 + a) rfl (by omega) (by decide) dX12_counts_159 ?_
            clear hP hD hS
            try clear locs
            try clear H
            intro H locs hP hD hS
            replace hP : va_P D vwCl [(hm, .inr (12, [.ref ms, .ref mkp, .int (nI km), .ref mtr, .int (nI n), .int (nI k), .int (nI al), .int (nI be), .int ea, .int pr, .ref mas, .int nq, .int po, .int (nI en), .ref mso, .ref mon, .ref mot, .ref man, .int th, .int xd, .ref mst, .ref msm, .ref mtb, .ref mti, .ref mfr, .ref mbn, .ref mbs, .ref mde, .int sF, .int sN, .int sS, .int ig, .long xa, .long xb, .ref maa, .ref mab, .ref mba, .ref mbb])), (ms, .inl (cs 0, 288, .inl (upd (upd (upd f (0 + a) (nI 1)) (8 + a) (nI 1)) (16 + a) (nI 1))))] H := hP
            replace hD : va_D A [(hm, .inr (12, [.ref ms, .ref mkp, .int (nI km), .ref mtr, .int (nI n), .int (nI k), .int (nI al), .int (nI be), .int ea, .int pr, .ref mas, .int nq, .int po, .int (nI en), .ref mso, .ref mon, .ref mot, .ref man, .int th, .int xd, .ref mst, .ref msm, .ref mtb, .ref mti, .ref mfr, .ref mbn, .ref mbs, .ref mde, .int sF, .int sN, .int sS, .int ig, .long xa, .long xb, .ref maa, .ref mab, .ref mba, .ref mbb])), (ms, .inl (cs 0, 288, .inl (upd (upd (upd f (0 + a) (nI 1)) (8 + a) (nI 1)) (16 + a) (nI 1))))] := hD
            exact xretv C (upd (upd (upd f (0 + a) (nI 1)) (8 + a) (nI 1)) (16 + a) (nI 1)) (colP_hi (i := 16 + a) (colP_hi (i := 8 + a) (colP_up hs (0 + a) colV_1) (nI 1) (by omega)) (nI 1) (by omega)) hP hD hS (Nat.le_of_ble_eq_true rfl) (Nat.le_of_ble_eq_true rfl) dX12_counts_160
          · -- 124 f
            refine lv_aload_n hx hb dX12_counts_127 rfl (lv_at hl 2 rfl) ?_
            refine xget C hP 0 rfl rfl zuX12 0 (by decide) zw5_213 rfl dX12_counts_128 ?_
            refine lv_bipush (v := nI 16) hx hb dX12_counts_131 (by decide) ?_
            refine lv_iload_n hx hb dX12_counts_133 rfl (lv_at hl 3 rfl) ?_
            refine lv_iadd hx hb dX12_counts_134 ?_
            refine lv_topi (nm_r (e' := nI (16 + a)) (nI_add _ _) ?_)
            refine lv_dup2_11 hx hb dX12_counts_135 rfl rfl ?_
            refine xiald C hP 1 rfl (16 + a) rfl (by omega) (by decide) dX12_counts_136 ?_
            refine lv_iconst (v := nI 1) hx hb dX12_counts_137 (by decide) ?_
            refine lv_iadd hx hb dX12_counts_138 ?_
            refine xiast C hP hD hS 1 rfl (16 + a) rfl (by omega) (by decide) dX12_counts_139 ?_
            clear hP hD hS
            try clear locs
            try clear H
            intro H locs hP hD hS
            replace hP : va_P D vwCl [(hm, .inr (12, [.ref ms, .ref mkp, .int (nI km), .ref mtr, .int (nI n), .int (nI k), .int (nI al), .int (nI be), .int ea, .int pr, .ref mas, .int nq, .int po, .int (nI en), .ref mso, .ref mon, .ref mot, .ref man, .int th, .int xd, .ref mst, .ref msm, .ref mtb, .ref mti, .ref mfr, .ref mbn, .ref mbs, .ref mde, .int sF, .int sN, .int sS, .int ig, .long xa, .long xb, .ref maa, .ref mab, .ref mba, .ref mbb])), (ms, .inl (cs 0, 288, .inl (upd (upd f (0 + a) (nI 1)) (16 + a) (((upd f (0 + a) (nI 1)) (16 + a)) + (nI 1)))))] H := hP
            replace hD : va_D A [(hm, .inr (12, [.ref ms, .ref mkp, .int (nI km), .ref mtr, .int (nI n), .int (nI k), .int (nI al), .int (nI be), .int ea, .int pr, .ref mas, .int nq, .int po, .int (nI en), .ref mso, .ref mon, .ref mot, .ref man, .int th, .int xd, .ref mst, .ref msm, .ref mtb, .ref mti, .ref mfr, .ref mbn, .ref mbs, .ref mde, .int sF, .int sN, .int sS, .int ig, .long xa, .long xb, .ref maa, .ref mab, .ref mba, .ref mbb])), (ms, .inl (cs 0, 288, .inl (upd (upd f (0 + a) (nI 1)) (16 + a) (((upd f (0 + a) (nI 1)) (16 + a)) + (nI 1)))))] := hD
            refine lv_goto (tgt := 160) hx hb dX12_counts_140 (by decide) ?_
            exact xretv C (upd (upd f (0 + a) (nI 1)) (16 + a) (((upd f (0 + a) (nI 1)) (16 + a)) + (nI 1))) (colP_hi (i := 16 + a) (colP_up hs (0 + a) colV_1) (((upd f (0 + a) (nI 1)) (16 + a)) + (nI 1)) (by omega)) hP hD hS (Nat.le_of_ble_eq_true rfl) (Nat.le_of_ble_eq_true rfl) dX12_counts_160
      · -- 63 f
        refine lv_aload_n hx hb dX12_counts_66 rfl (lv_at hl 2 rfl) ?_
        refine xget C hP 0 rfl rfl zuX12 0 (by decide) zw5_213 rfl dX12_counts_67 ?_
        refine lv_iload hx hb dX12_counts_70 (lv_at hl 0 rfl) ?_
        refine lv_dup2_11 hx hb dX12_counts_72 rfl rfl ?_
        refine xiald C hP 1 rfl (32 + a) rfl (by omega) (by decide) dX12_counts_73 ?_
        refine lv_iconst (v := nI 1) hx hb dX12_counts_74 (by decide) ?_
        refine lv_iadd hx hb dX12_counts_75 ?_
        refine xiast C hP hD hS 1 rfl (32 + a) rfl (by omega) (by decide) dX12_counts_76 ?_
        clear hP hD hS
        try clear locs
        try clear H
        intro H locs hP hD hS
        replace hP : va_P D vwCl [(hm, .inr (12, [.ref ms, .ref mkp, .int (nI km), .ref mtr, .int (nI n), .int (nI k), .int (nI al), .int (nI be), .int ea, .int pr, .ref mas, .int nq, .int po, .int (nI en), .ref mso, .ref mon, .ref mot, .ref man, .int th, .int xd, .ref mst, .ref msm, .ref mtb, .ref mti, .ref mfr, .ref mbn, .ref mbs, .ref mde, .int sF, .int sN, .int sS, .int ig, .long xa, .long xb, .ref maa, .ref mab, .ref mba, .ref mbb])), (ms, .inl (cs 0, 288, .inl (upd f (32 + a) ((f (32 + a)) + (nI 1)))))] H := hP
        replace hD : va_D A [(hm, .inr (12, [.ref ms, .ref mkp, .int (nI km), .ref mtr, .int (nI n), .int (nI k), .int (nI al), .int (nI be), .int ea, .int pr, .ref mas, .int nq, .int po, .int (nI en), .ref mso, .ref mon, .ref mot, .ref man, .int th, .int xd, .ref mst, .ref msm, .ref mtb, .ref mti, .ref mfr, .ref mbn, .ref mbs, .ref mde, .int sF, .int sN, .int sS, .int ig, .long xa, .long xb, .ref maa, .ref mab, .ref mba, .ref mbb])), (ms, .inl (cs 0, 288, .inl (upd f (32 + a) ((f (32 + a)) + (nI 1)))))] := hD
        refine lv_aload_n hx hb dX12_counts_77 rfl (lv_at hl 2 rfl) ?_
        refine xget C hP 0 rfl rfl zuX12 0 (by decide) zw5_213 rfl dX12_counts_78 ?_
        refine lv_iload hx hb dX12_counts_81 (lv_at hl 0 rfl) ?_
        refine xiald C hP 1 rfl (32 + a) rfl (by omega) (by decide) dX12_counts_83 ?_
        refine lv_aload_n hx hb dX12_counts_84 rfl (lv_at hl 2 rfl) ?_
        refine xget C hP 0 rfl rfl zuX12 0 (by decide) zw5_213 rfl dX12_counts_85 ?_
        refine lv_bipush (v := nI 24) hx hb dX12_counts_88 (by decide) ?_
        refine lv_bipush (v := nI 8) hx hb dX12_counts_90 (by decide) ?_
        refine lv_aload_n hx hb dX12_counts_92 rfl (lv_at hl 2 rfl) ?_
        refine xget C hP 0 rfl rfl zuX12 0 (by decide) zw5_213 rfl dX12_counts_93 ?_
        refine lv_iconst (v := nI 0) hx hb dX12_counts_96 (by decide) ?_
        refine lv_iload_n hx hb dX12_counts_97 rfl (lv_at hl 3 rfl) ?_
        refine lv_iadd hx hb dX12_counts_98 ?_
        refine lv_topi (nm_r (e' := nI (0 + a)) (nI_add _ _) ?_)
        refine xiald C hP 1 rfl (0 + a) rfl (by omega) (by decide) dX12_counts_99 ?_
        obtain ⟨t_19, h_t_19, e_t_19⟩ := (col_nat ((colP_hi (i := 32 + a) hs ((f (32 + a)) + (nI 1)) (by omega)) (0 + a) (by omega)) (by first | exact hna | (unfold upd; rw [if_neg (by omega)]; exact hna)))
        refine lv_topi (nm_r (e' := nI t_19) e_t_19 ?_)
        refine lv_imul hx hb dX12_counts_100 ?_
        refine lv_topi (nm_r (e' := nI (8 * t_19)) (pk_mul _ _) ?_)
        refine lv_iadd hx hb dX12_counts_101 ?_
        refine lv_topi (nm_r (e' := nI (24 + (8 * t_19))) (nI_add _ _) ?_)
        refine lv_iload_n hx hb dX12_counts_102 rfl (lv_at hl 3 rfl) ?_
        refine lv_iadd hx hb dX12_counts_103 ?_
        refine lv_topi (nm_r (e' := nI ((24 + (8 * t_19)) + a)) (nI_add _ _) ?_)
        refine xiald C hP 1 rfl ((24 + (8 * t_19)) + a) rfl (by omega) (by decide) dX12_counts_104 ?_
        refine lv_icmp_le (tgt := 117) hx hb dX12_counts_105 (by decide) (fun c_20 => ?_) (fun c_20 => ?_)
        · -- 105 t
          refine lv_aload_n hx hb dX12_counts_117 rfl (lv_at hl 2 rfl) ?_
          refine xget C hP 0 rfl rfl zuX12 0 (by decide) zw5_213 rfl dX12_counts_118 ?_
          refine lv_iload_n hx hb dX12_counts_121 rfl (lv_at hl 1 rfl) ?_
          refine xiald C hP 1 rfl (8 + a) rfl (by omega) (by decide) dX12_counts_122 ?_
          refine lv_iload_n hx hb dX12_counts_123 rfl (lv_at hl 4 rfl) ?_
          refine lv_icmp_ne (tgt := 143) hx hb dX12_counts_124 (by decide) (fun c_21 => ?_) (fun c_21 => ?_)
          · -- 124 t
            refine lv_aload_n hx hb dX12_counts_143 rfl (lv_at hl 2 rfl) ?_
            refine xget C hP 0 rfl rfl zuX12 0 (by decide) zw5_213 rfl dX12_counts_144 ?_
            refine lv_iload_n hx hb dX12_counts_147 rfl (lv_at hl 1 rfl) ?_
            refine lv_iload_n hx hb dX12_counts_148 rfl (lv_at hl 4 rfl) ?_
            refine xiast C hP hD hS 1 rfl (8 + a) rfl (by omega) (by decide) dX12_counts_149 ?_
            clear hP hD hS
            try clear locs
            try clear H
            intro H locs hP hD hS
            replace hP : va_P D vwCl [(hm, .inr (12, [.ref ms, .ref mkp, .int (nI km), .ref mtr, .int (nI n), .int (nI k), .int (nI al), .int (nI be), .int ea, .int pr, .ref mas, .int nq, .int po, .int (nI en), .ref mso, .ref mon, .ref mot, .ref man, .int th, .int xd, .ref mst, .ref msm, .ref mtb, .ref mti, .ref mfr, .ref mbn, .ref mbs, .ref mde, .int sF, .int sN, .int sS, .int ig, .long xa, .long xb, .ref maa, .ref mab, .ref mba, .ref mbb])), (ms, .inl (cs 0, 288, .inl (upd (upd f (32 + a) ((f (32 + a)) + (nI 1))) (8 + a) (nI 1))))] H := hP
            replace hD : va_D A [(hm, .inr (12, [.ref ms, .ref mkp, .int (nI km), .ref mtr, .int (nI n), .int (nI k), .int (nI al), .int (nI be), .int ea, .int pr, .ref mas, .int nq, .int po, .int (nI en), .ref mso, .ref mon, .ref mot, .ref man, .int th, .int xd, .ref mst, .ref msm, .ref mtb, .ref mti, .ref mfr, .ref mbn, .ref mbs, .ref mde, .int sF, .int sN, .int sS, .int ig, .long xa, .long xb, .ref maa, .ref mab, .ref mba, .ref mbb])), (ms, .inl (cs 0, 288, .inl (upd (upd f (32 + a) ((f (32 + a)) + (nI 1))) (8 + a) (nI 1))))] := hD
            refine lv_aload_n hx hb dX12_counts_150 rfl (lv_at hl 2 rfl) ?_
            refine xget C hP 0 rfl rfl zuX12 0 (by decide) zw5_213 rfl dX12_counts_151 ?_
            refine lv_bipush (v := nI 16) hx hb dX12_counts_154 (by decide) ?_
            refine lv_iload_n hx hb dX12_counts_156 rfl (lv_at hl 3 rfl) ?_
            refine lv_iadd hx hb dX12_counts_157 ?_
            refine lv_topi (nm_r (e' := nI (16 + a)) (nI_add _ _) ?_)
            refine lv_iconst (v := nI 1) hx hb dX12_counts_158 (by decide) ?_
            refine xiast C hP hD hS 1 rfl (16 + a) rfl (by omega) (by decide) dX12_counts_159 ?_
            clear hP hD hS
            try clear locs
            try clear H
            intro H locs hP hD hS
            replace hP : va_P D vwCl [(hm, .inr (12, [.ref ms, .ref mkp, .int (nI km), .ref mtr, .int (nI n), .int (nI k), .int (nI al), .int (nI be), .int ea, .int pr, .ref mas, .int nq, .int po, .int (nI en), .ref mso, .ref mon, .ref mot, .ref man, .int th, .int xd, .ref mst, .ref msm, .ref mtb, .ref mti, .ref mfr, .ref mbn, .ref mbs, .ref mde, .int sF, .int sN, .int sS, .int ig, .long xa, .long xb, .ref maa, .ref mab, .ref mba, .ref mbb])), (ms, .inl (cs 0, 288, .inl (upd (upd (upd f (32 + a) ((f (32 + a)) + (nI 1))) (8 + a) (nI 1)) (16 + a) (nI 1))))] H := hP
            replace hD : va_D A [(hm, .inr (12, [.ref ms, .ref mkp, .int (nI km), .ref mtr, .int (nI n), .int (nI k), .int (nI al), .int (nI be), .int ea, .int pr, .ref mas, .int nq, .int po, .int (nI en), .ref mso, .ref mon, .ref mot, .ref man, .int th, .int xd, .ref mst, .ref msm, .ref mtb, .ref mti, .ref mfr, .ref mbn, .ref mbs, .ref mde, .int sF, .int sN, .int sS, .int ig, .long xa, .long xb, .ref maa, .ref mab, .ref mba, .ref mbb])), (ms, .inl (cs 0, 288, .inl (upd (upd (upd f (32 + a) ((f (32 + a)) + (nI 1))) (8 + a) (nI 1)) (16 + a) (nI 1))))] := hD
            exact xretv C (upd (upd (upd f (32 + a) ((f (32 + a)) + (nI 1))) (8 + a) (nI 1)) (16 + a) (nI 1)) (colP_hi (i := 16 + a) (colP_hi (i := 8 + a) (colP_hi (i := 32 + a) hs ((f (32 + a)) + (nI 1)) (by omega)) (nI 1) (by omega)) (nI 1) (by omega)) hP hD hS (Nat.le_of_ble_eq_true rfl) (Nat.le_of_ble_eq_true rfl) dX12_counts_160
          · -- 124 f
            refine lv_aload_n hx hb dX12_counts_127 rfl (lv_at hl 2 rfl) ?_
            refine xget C hP 0 rfl rfl zuX12 0 (by decide) zw5_213 rfl dX12_counts_128 ?_
            refine lv_bipush (v := nI 16) hx hb dX12_counts_131 (by decide) ?_
            refine lv_iload_n hx hb dX12_counts_133 rfl (lv_at hl 3 rfl) ?_
            refine lv_iadd hx hb dX12_counts_134 ?_
            refine lv_topi (nm_r (e' := nI (16 + a)) (nI_add _ _) ?_)
            refine lv_dup2_11 hx hb dX12_counts_135 rfl rfl ?_
            refine xiald C hP 1 rfl (16 + a) rfl (by omega) (by decide) dX12_counts_136 ?_
            refine lv_iconst (v := nI 1) hx hb dX12_counts_137 (by decide) ?_
            refine lv_iadd hx hb dX12_counts_138 ?_
            refine xiast C hP hD hS 1 rfl (16 + a) rfl (by omega) (by decide) dX12_counts_139 ?_
            clear hP hD hS
            try clear locs
            try clear H
            intro H locs hP hD hS
            replace hP : va_P D vwCl [(hm, .inr (12, [.ref ms, .ref mkp, .int (nI km), .ref mtr, .int (nI n), .int (nI k), .int (nI al), .int (nI be), .int ea, .int pr, .ref mas, .int nq, .int po, .int (nI en), .ref mso, .ref mon, .ref mot, .ref man, .int th, .int xd, .ref mst, .ref msm, .ref mtb, .ref mti, .ref mfr, .ref mbn, .ref mbs, .ref mde, .int sF, .int sN, .int sS, .int ig, .long xa, .long xb, .ref maa, .ref mab, .ref mba, .ref mbb])), (ms, .inl (cs 0, 288, .inl (upd (upd f (32 + a) ((f (32 + a)) + (nI 1))) (16 + a) (((upd f (32 + a) ((f (32 + a)) + (nI 1))) (16 + a)) + (nI 1)))))] H := hP
            replace hD : va_D A [(hm, .inr (12, [.ref ms, .ref mkp, .int (nI km), .ref mtr, .int (nI n), .int (nI k), .int (nI al), .int (nI be), .int ea, .int pr, .ref mas, .int nq, .int po, .int (nI en), .ref mso, .ref mon, .ref mot, .ref man, .int th, .int xd, .ref mst, .ref msm, .ref mtb, .ref mti, .ref mfr, .ref mbn, .ref mbs, .ref mde, .int sF, .int sN, .int sS, .int ig, .long xa, .long xb, .ref maa, .ref mab, .ref mba, .ref mbb])), (ms, .inl (cs 0, 288, .inl (upd (upd f (32 + a) ((f (32 + a)) + (nI 1))) (16 + a) (((upd f (32 + a) ((f (32 + a)) + (nI 1))) (16 + a)) + (nI 1)))))] := hD
            refine lv_goto (tgt := 160) hx hb dX12_counts_140 (by decide) ?_
            exact xretv C (upd (upd f (32 + a) ((f (32 + a)) + (nI 1))) (16 + a) (((upd f (32 + a) ((f (32 + a)) + (nI 1))) (16 + a)) + (nI 1))) (colP_hi (i := 16 + a) (colP_hi (i := 32 + a) hs ((f (32 + a)) + (nI 1)) (by omega)) (((upd f (32 + a) ((f (32 + a)) + (nI 1))) (16 + a)) + (nI 1)) (by omega)) hP hD hS (Nat.le_of_ble_eq_true rfl) (Nat.le_of_ble_eq_true rfl) dX12_counts_160
        · -- 105 f
          refine lv_aload_n hx hb dX12_counts_108 rfl (lv_at hl 2 rfl) ?_
          refine xget C hP 0 rfl rfl zuX12 0 (by decide) zw5_213 rfl dX12_counts_109 ?_
          refine lv_iconst (v := nI 0) hx hb dX12_counts_112 (by decide) ?_
          refine lv_iload_n hx hb dX12_counts_113 rfl (lv_at hl 3 rfl) ?_
          refine lv_iadd hx hb dX12_counts_114 ?_
          refine lv_topi (nm_r (e' := nI (0 + a)) (nI_add _ _) ?_)
          refine lv_iload_n hx hb dX12_counts_115 rfl (lv_at hl 4 rfl) ?_
          refine xiast C hP hD hS 1 rfl (0 + a) rfl (by omega) (by decide) dX12_counts_116 ?_
          clear hP hD hS
          try clear locs
          try clear H
          intro H locs hP hD hS
          replace hP : va_P D vwCl [(hm, .inr (12, [.ref ms, .ref mkp, .int (nI km), .ref mtr, .int (nI n), .int (nI k), .int (nI al), .int (nI be), .int ea, .int pr, .ref mas, .int nq, .int po, .int (nI en), .ref mso, .ref mon, .ref mot, .ref man, .int th, .int xd, .ref mst, .ref msm, .ref mtb, .ref mti, .ref mfr, .ref mbn, .ref mbs, .ref mde, .int sF, .int sN, .int sS, .int ig, .long xa, .long xb, .ref maa, .ref mab, .ref mba, .ref mbb])), (ms, .inl (cs 0, 288, .inl (upd (upd f (32 + a) ((f (32 + a)) + (nI 1))) (0 + a) (nI 1))))] H := hP
          replace hD : va_D A [(hm, .inr (12, [.ref ms, .ref mkp, .int (nI km), .ref mtr, .int (nI n), .int (nI k), .int (nI al), .int (nI be), .int ea, .int pr, .ref mas, .int nq, .int po, .int (nI en), .ref mso, .ref mon, .ref mot, .ref man, .int th, .int xd, .ref mst, .ref msm, .ref mtb, .ref mti, .ref mfr, .ref mbn, .ref mbs, .ref mde, .int sF, .int sN, .int sS, .int ig, .long xa, .long xb, .ref maa, .ref mab, .ref mba, .ref mbb])), (ms, .inl (cs 0, 288, .inl (upd (upd f (32 + a) ((f (32 + a)) + (nI 1))) (0 + a) (nI 1))))] := hD
          refine lv_aload_n hx hb dX12_counts_117 rfl (lv_at hl 2 rfl) ?_
          refine xget C hP 0 rfl rfl zuX12 0 (by decide) zw5_213 rfl dX12_counts_118 ?_
          refine lv_iload_n hx hb dX12_counts_121 rfl (lv_at hl 1 rfl) ?_
          refine xiald C hP 1 rfl (8 + a) rfl (by omega) (by decide) dX12_counts_122 ?_
          refine lv_iload_n hx hb dX12_counts_123 rfl (lv_at hl 4 rfl) ?_
          refine lv_icmp_ne (tgt := 143) hx hb dX12_counts_124 (by decide) (fun c_22 => ?_) (fun c_22 => ?_)
          · -- 124 t
            refine lv_aload_n hx hb dX12_counts_143 rfl (lv_at hl 2 rfl) ?_
            refine xget C hP 0 rfl rfl zuX12 0 (by decide) zw5_213 rfl dX12_counts_144 ?_
            refine lv_iload_n hx hb dX12_counts_147 rfl (lv_at hl 1 rfl) ?_
            refine lv_iload_n hx hb dX12_counts_148 rfl (lv_at hl 4 rfl) ?_
            refine xiast C hP hD hS 1 rfl (8 + a) rfl (by omega) (by decide) dX12_counts_149 ?_
            clear hP hD hS
            try clear locs
            try clear H
            intro H locs hP hD hS
            replace hP : va_P D vwCl [(hm, .inr (12, [.ref ms, .ref mkp, .int (nI km), .ref mtr, .int (nI n), .int (nI k), .int (nI al), .int (nI be), .int ea, .int pr, .ref mas, .int nq, .int po, .int (nI en), .ref mso, .ref mon, .ref mot, .ref man, .int th, .int xd, .ref mst, .ref msm, .ref mtb, .ref mti, .ref mfr, .ref mbn, .ref mbs, .ref mde, .int sF, .int sN, .int sS, .int ig, .long xa, .long xb, .ref maa, .ref mab, .ref mba, .ref mbb])), (ms, .inl (cs 0, 288, .inl (upd (upd (upd f (32 + a) ((f (32 + a)) + (nI 1))) (0 + a) (nI 1)) (8 + a) (nI 1))))] H := hP
            replace hD : va_D A [(hm, .inr (12, [.ref ms, .ref mkp, .int (nI km), .ref mtr, .int (nI n), .int (nI k), .int (nI al), .int (nI be), .int ea, .int pr, .ref mas, .int nq, .int po, .int (nI en), .ref mso, .ref mon, .ref mot, .ref man, .int th, .int xd, .ref mst, .ref msm, .ref mtb, .ref mti, .ref mfr, .ref mbn, .ref mbs, .ref mde, .int sF, .int sN, .int sS, .int ig, .long xa, .long xb, .ref maa, .ref mab, .ref mba, .ref mbb])), (ms, .inl (cs 0, 288, .inl (upd (upd (upd f (32 + a) ((f (32 + a)) + (nI 1))) (0 + a) (nI 1)) (8 + a) (nI 1))))] := hD
            refine lv_aload_n hx hb dX12_counts_150 rfl (lv_at hl 2 rfl) ?_
            refine xget C hP 0 rfl rfl zuX12 0 (by decide) zw5_213 rfl dX12_counts_151 ?_
            refine lv_bipush (v := nI 16) hx hb dX12_counts_154 (by decide) ?_
            refine lv_iload_n hx hb dX12_counts_156 rfl (lv_at hl 3 rfl) ?_
            refine lv_iadd hx hb dX12_counts_157 ?_
            refine lv_topi (nm_r (e' := nI (16 + a)) (nI_add _ _) ?_)
            refine lv_iconst (v := nI 1) hx hb dX12_counts_158 (by decide) ?_
            refine xiast C hP hD hS 1 rfl (16 + a) rfl (by omega) (by decide) dX12_counts_159 ?_
            clear hP hD hS
            try clear locs
            try clear H
            intro H locs hP hD hS
            replace hP : va_P D vwCl [(hm, .inr (12, [.ref ms, .ref mkp, .int (nI km), .ref mtr, .int (nI n), .int (nI k), .int (nI al), .int (nI be), .int ea, .int pr, .ref mas, .int nq, .int po, .int (nI en), .ref mso, .ref mon, .ref mot, .ref man, .int th, .int xd, .ref mst, .ref msm, .ref mtb, .ref mti, .ref mfr, .ref mbn, .ref mbs, .ref mde, .int sF, .int sN, .int sS, .int ig, .long xa, .long xb, .ref maa, .ref mab, .ref mba, .ref mbb])), (ms, .inl (cs 0, 288, .inl (upd (upd (upd (upd f (32 + a) ((f (32 + a)) + (nI 1))) (0 + a) (nI 1)) (8 + a) (nI 1)) (16 + a) (nI 1))))] H := hP
            replace hD : va_D A [(hm, .inr (12, [.ref ms, .ref mkp, .int (nI km), .ref mtr, .int (nI n), .int (nI k), .int (nI al), .int (nI be), .int ea, .int pr, .ref mas, .int nq, .int po, .int (nI en), .ref mso, .ref mon, .ref mot, .ref man, .int th, .int xd, .ref mst, .ref msm, .ref mtb, .ref mti, .ref mfr, .ref mbn, .ref mbs, .ref mde, .int sF, .int sN, .int sS, .int ig, .long xa, .long xb, .ref maa, .ref mab, .ref mba, .ref mbb])), (ms, .inl (cs 0, 288, .inl (upd (upd (upd (upd f (32 + a) ((f (32 + a)) + (nI 1))) (0 + a) (nI 1)) (8 + a) (nI 1)) (16 + a) (nI 1))))] := hD
            exact xretv C (upd (upd (upd (upd f (32 + a) ((f (32 + a)) + (nI 1))) (0 + a) (nI 1)) (8 + a) (nI 1)) (16 + a) (nI 1)) (colP_hi (i := 16 + a) (colP_hi (i := 8 + a) (colP_up (colP_hi (i := 32 + a) hs ((f (32 + a)) + (nI 1)) (by omega)) (0 + a) colV_1) (nI 1) (by omega)) (nI 1) (by omega)) hP hD hS (Nat.le_of_ble_eq_true rfl) (Nat.le_of_ble_eq_true rfl) dX12_counts_160
          · -- 124 f
            refine lv_aload_n hx hb dX12_counts_127 rfl (lv_at hl 2 rfl) ?_
            refine xget C hP 0 rfl rfl zuX12 0 (by decide) zw5_213 rfl dX12_counts_128 ?_
            refine lv_bipush (v := nI 16) hx hb dX12_counts_131 (by decide) ?_
            refine lv_iload_n hx hb dX12_counts_133 rfl (lv_at hl 3 rfl) ?_
            refine lv_iadd hx hb dX12_counts_134 ?_
            refine lv_topi (nm_r (e' := nI (16 + a)) (nI_add _ _) ?_)
            refine lv_dup2_11 hx hb dX12_counts_135 rfl rfl ?_
            refine xiald C hP 1 rfl (16 + a) rfl (by omega) (by decide) dX12_counts_136 ?_
            refine lv_iconst (v := nI 1) hx hb dX12_counts_137 (by decide) ?_
            refine lv_iadd hx hb dX12_counts_138 ?_
            refine xiast C hP hD hS 1 rfl (16 + a) rfl (by omega) (by decide) dX12_counts_139 ?_
            clear hP hD hS
            try clear locs
            try clear H
            intro H locs hP hD hS
            replace hP : va_P D vwCl [(hm, .inr (12, [.ref ms, .ref mkp, .int (nI km), .ref mtr, .int (nI n), .int (nI k), .int (nI al), .int (nI be), .int ea, .int pr, .ref mas, .int nq, .int po, .int (nI en), .ref mso, .ref mon, .ref mot, .ref man, .int th, .int xd, .ref mst, .ref msm, .ref mtb, .ref mti, .ref mfr, .ref mbn, .ref mbs, .ref mde, .int sF, .int sN, .int sS, .int ig, .long xa, .long xb, .ref maa, .ref mab, .ref mba, .ref mbb])), (ms, .inl (cs 0, 288, .inl (upd (upd (upd f (32 + a) ((f (32 + a)) + (nI 1))) (0 + a) (nI 1)) (16 + a) (((upd (upd f (32 + a) ((f (32 + a)) + (nI 1))) (0 + a) (nI 1)) (16 + a)) + (nI 1)))))] H := hP
            replace hD : va_D A [(hm, .inr (12, [.ref ms, .ref mkp, .int (nI km), .ref mtr, .int (nI n), .int (nI k), .int (nI al), .int (nI be), .int ea, .int pr, .ref mas, .int nq, .int po, .int (nI en), .ref mso, .ref mon, .ref mot, .ref man, .int th, .int xd, .ref mst, .ref msm, .ref mtb, .ref mti, .ref mfr, .ref mbn, .ref mbs, .ref mde, .int sF, .int sN, .int sS, .int ig, .long xa, .long xb, .ref maa, .ref mab, .ref mba, .ref mbb])), (ms, .inl (cs 0, 288, .inl (upd (upd (upd f (32 + a) ((f (32 + a)) + (nI 1))) (0 + a) (nI 1)) (16 + a) (((upd (upd f (32 + a) ((f (32 + a)) + (nI 1))) (0 + a) (nI 1)) (16 + a)) + (nI 1)))))] := hD
            refine lv_goto (tgt := 160) hx hb dX12_counts_140 (by decide) ?_
            exact xretv C (upd (upd (upd f (32 + a) ((f (32 + a)) + (nI 1))) (0 + a) (nI 1)) (16 + a) (((upd (upd f (32 + a) ((f (32 + a)) + (nI 1))) (0 + a) (nI 1)) (16 + a)) + (nI 1))) (colP_hi (i := 16 + a) (colP_up (colP_hi (i := 32 + a) hs ((f (32 + a)) + (nI 1)) (by omega)) (0 + a) colV_1) (((upd (upd f (32 + a) ((f (32 + a)) + (nI 1))) (0 + a) (nI 1)) (16 + a)) + (nI 1)) (by omega)) hP hD hS (Nat.le_of_ble_eq_true rfl) (Nat.le_of_ble_eq_true rfl) dX12_counts_160
