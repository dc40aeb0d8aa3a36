set_option maxHeartbeats 4000000 in
set_option maxRecDepth 100000 in
theorem c_X12_isSample_f (l : Launch) (D : va_G) (cs : Nat → ClassId) (hm ms mkp mtr mas mso mon mot man mst msm mtb mti mfr mbn mbs mde maa mab mba mbb : Nat) (n k al be km en : Nat) (ea pr nq po th xd sF sN sS ig : Int32) (xa xb : Int64) (j : Nat) (y : Int32) : xMet l D cs yX12_isSample cX12_isSample 3 (some .boolean) ({ frames := 2, cells := 0, slots := 0, locals := 43 } : Room) [.ref hm, .int (nI j), .int y] [(hm, .inr (12, [.ref ms, .ref mkp, .int (nI km), .ref mtr, .int (nI n), .int (nI k), .int (nI al), .int (nI be), .int ea, .int pr, .ref mas, .int nq, .int po, .int (nI en), .ref mso, .ref mon, .ref mot, .ref man, .int th, .int xd, .ref mst, .ref msm, .ref mtb, .ref mti, .ref mfr, .ref mbn, .ref mbs, .ref mde, .int sF, .int sN, .int sS, .int ig, .long xa, .long xb, .ref maa, .ref mab, .ref mba, .ref mbb]))] (xQi D (fun (r : Int32) (_u : Unit) => PQ (msmP n k j y) r (nI 1) (nI 0)) (fun (_u : Unit) => [(hm, .inr (12, [.ref ms, .ref mkp, .int (nI km), .ref mtr, .int (nI n), .int (nI k), .int (nI al), .int (nI be), .int ea, .int pr, .ref mas, .int nq, .int po, .int (nI en), .ref mso, .ref mon, .ref mot, .ref man, .int th, .int xd, .ref mst, .ref msm, .ref mtb, .ref mti, .ref mfr, .ref mbn, .ref mbs, .ref mde, .int sF, .int sN, .int sS, .int ig, .long xa, .long xb, .ref maa, .ref mab, .ref mba, .ref mbb]))])) := by
  refine xMet.intro (by decide) (Nat.le_of_ble_eq_true rfl) ?_
  intro p e s m args below meth c A ls C hP hD hS hl
  have hx := C.1
  have hb := C.2.1
  have hz := C.2.2.2.2.1
  have hown := C.2.2.2.1
  have hA := C.2.2.2.2.2.2.2.2.2
  have hAO := C.2.2.2.2.2.2.2.2.1.2.2
  replace hl : lv_has ls 3 [(0, .ref hm), (1, .int (nI j)), (2, .int y)] := hl
  obtain ⟨H, hH⟩ : ∃ H, H = s.heap := ⟨_, rfl⟩
  replace hP : va_P D vwCl [(hm, .inr (12, [.ref ms, .ref mkp, .int (nI km), .ref mtr, .int (nI n), .int (nI k), .int (nI al), .int (nI be), .int ea, .int pr, .ref mas, .int nq, .int po, .int (nI en), .ref mso, .ref mon, .ref mot, .ref man, .int th, .int xd, .ref mst, .ref msm, .ref mtb, .ref mti, .ref mfr, .ref mbn, .ref mbs, .ref mde, .int sF, .int sN, .int sS, .int ig, .long xa, .long xb, .ref maa, .ref mab, .ref mba, .ref mbb]))] H := by rw [hH]; exact hP
  replace hS : va_S A s.heap H [] := by rw [hH]; exact hS
  obtain ⟨locs, hlocs⟩ : ∃ z : List Loc, z = [] := ⟨_, rfl⟩
  rw [← hlocs] at hS
  suffices hW : W p l e ({ frames := 2, cells := 0, slots := 0, locals := 43 } : Room) s m args below meth c H locs 0 0 (MQ below ((xQi D (fun (r : Int32) (_u : Unit) => PQ (msmP n k j y) r (nI 1) (nI 0)) (fun (_u : Unit) => [(hm, .inr (12, [.ref ms, .ref mkp, .int (nI km), .ref mtr, .int (nI n), .int (nI k), .int (nI al), .int (nI be), .int ea, .int pr, .ref mas, .int nq, .int po, .int (nI en), .ref mso, .ref mon, .ref mot, .ref man, .int th, .int xd, .ref mst, .ref msm, .ref mtb, .ref mti, .ref mfr, .ref mbn, .ref mbs, .ref mde, .int sF, .int sN, .int sS, .int ig, .long xa, .long xb, .ref maa, .ref mab, .ref mba, .ref mbb]))])) A) args s 0 0 A) (F0 m 0 ls []) by rw [hlocs, hH] at hW; exact hW
  clear hH hlocs
  refine lv_iload_n hx hb dX12_isSample_0 rfl (lv_at hl 2 rfl) ?_
  refine lv_if_lt (tgt := 37) hx hb dX12_isSample_1 (by decide) (fun c_1 => ?_) (fun c_1 => ?_)
  · -- 1 t
    refine lv_iconst (v := nI 0) hx hb dX12_isSample_37 (by decide) ?_
    exact xreti C () (Or.inr ⟨fun q => q.1.1 c_1, rfl⟩) hP hD hS (Nat.le_of_ble_eq_true rfl) (Nat.le_of_ble_eq_true rfl) (by decide) dX12_isSample_38
  · -- 1 f
    refine lv_iload_n hx hb dX12_isSample_4 rfl (lv_at hl 2 rfl) ?_
    refine lv_iconst (v := nI 1) hx hb dX12_isSample_5 (by decide) ?_
    refine lv_aload_n hx hb dX12_isSample_6 rfl (lv_at hl 0 rfl) ?_
    refine xget C hP 0 rfl rfl zuX12 4 (by decide) zw5_217 rfl dX12_isSample_7 ?_
    refine lv_ishl hx hb dX12_isSample_10 ?_
    refine lv_icmp_ge (tgt := 37) hx hb dX12_isSample_11 (by decide) (fun c_2 => ?_) (fun c_2 => ?_)
    · -- 11 t
      refine lv_iconst (v := nI 0) hx hb dX12_isSample_37 (by decide) ?_
      exact xreti C () (Or.inr ⟨fun q => absurd q.1.2 (Int32.not_lt.mpr c_2), rfl⟩) hP hD hS (Nat.le_of_ble_eq_true rfl) (Nat.le_of_ble_eq_true rfl) (by decide) dX12_isSample_38
    · -- 11 f
      refine lv_iload_n hx hb dX12_isSample_14 rfl (lv_at hl 2 rfl) ?_
      refine lv_iload_n hx hb dX12_isSample_15 rfl (lv_at hl 1 rfl) ?_
      refine xi (wr := [(hm, .inr (12, [.ref ms, .ref mkp, .int (nI km), .ref mtr, .int (nI n), .int (nI k), .int (nI al), .int (nI be), .int ea, .int pr, .ref mas, .int nq, .int po, .int (nI en), .ref mso, .ref mon, .ref mot, .ref man, .int th, .int xd, .ref mst, .ref msm, .ref mtb, .ref mti, .ref mfr, .ref mbn, .ref mbs, .ref mde, .int sF, .int sN, .int sS, .int ig, .long xa, .long xb, .ref maa, .ref mab, .ref mba, .ref mbb]))]) (xS (As := [.int y, .int (nI j)]) (rest := []) C (c_X12_has l D cs y j) kX12_100 hP hD [] rfl (by decide) ⟨Nat.le_of_ble_eq_true rfl, Nat.le_of_ble_eq_true rfl⟩ rfl hl.1 rfl (Nat.le_of_ble_eq_true rfl) dX12_isSample_16 ⟨Nat.le_of_ble_eq_true rfl, Nat.le_of_ble_eq_true rfl⟩) hP hD hS hA [] [0] rfl rfl (by decide) (by decide) ?_
      clear hP hD hS
      try clear locs
      try clear H
      intro r_3 u_4 H locs hw_r_3 hP hD hS
      have hw_r_3 : PQ (hasB y j) r_3 (nI 1) (nI 0) := hw_r_3
      refine W.widen (k := 0) (n := 0) (Nat.le_of_ble_eq_true rfl) (Nat.le_of_ble_eq_true rfl) ?_
      replace hP : va_P D vwCl [(hm, .inr (12, [.ref ms, .ref mkp, .int (nI km), .ref mtr, .int (nI n), .int (nI k), .int (nI al), .int (nI be), .int ea, .int pr, .ref mas, .int nq, .int po, .int (nI en), .ref mso, .ref mon, .ref mot, .ref man, .int th, .int xd, .ref mst, .ref msm, .ref mtb, .ref mti, .ref mfr, .ref mbn, .ref mbs, .ref mde, .int sF, .int sN, .int sS, .int ig, .long xa, .long xb, .ref maa, .ref mab, .ref mba, .ref mbb]))] H := hP
      replace hD : va_D A [(hm, .inr (12, [.ref ms, .ref mkp, .int (nI km), .ref mtr, .int (nI n), .int (nI k), .int (nI al), .int (nI be), .int ea, .int pr, .ref mas, .int nq, .int po, .int (nI en), .ref mso, .ref mon, .ref mot, .ref man, .int th, .int xd, .ref mst, .ref msm, .ref mtb, .ref mti, .ref mfr, .ref mbn, .ref mbs, .ref mde, .int sF, .int sN, .int sS, .int ig, .long xa, .long xb, .ref maa, .ref mab, .ref mba, .ref mbb]))] := hD
      refine lv_if_ne (tgt := 37) hx hb dX12_isSample_19 (by decide) (fun c_5 => ?_) (fun c_5 => ?_)
      · -- 19 t
        refine lv_iconst (v := nI 0) hx hb dX12_isSample_37 (by decide) ?_
        exact xreti C () (Or.inr ⟨fun q => q.2.1 (PQ.yes hw_r_3 c_5), rfl⟩) hP hD hS (Nat.le_of_ble_eq_true rfl) (Nat.le_of_ble_eq_true rfl) (by decide) dX12_isSample_38
      · -- 19 f
        refine lv_iload_n hx hb dX12_isSample_22 rfl (lv_at hl 2 rfl) ?_
        refine xi (wr := [(hm, .inr (12, [.ref ms, .ref mkp, .int (nI km), .ref mtr, .int (nI n), .int (nI k), .int (nI al), .int (nI be), .int ea, .int pr, .ref mas, .int nq, .int po, .int (nI en), .ref mso, .ref mon, .ref mot, .ref man, .int th, .int xd, .ref mst, .ref msm, .ref mtb, .ref mti, .ref mfr, .ref mbn, .ref mbs, .ref mde, .int sF, .int sN, .int sS, .int ig, .long xa, .long xb, .ref maa, .ref mab, .ref mba, .ref mbb]))]) (xS (As := [.int y]) (rest := []) C (c_X12_many l D cs y) kX12_127 hP hD [] rfl (by decide) ⟨Nat.le_of_ble_eq_true rfl, Nat.le_of_ble_eq_true rfl⟩ rfl hl.1 rfl (Nat.le_of_ble_eq_true rfl) dX12_isSample_23 ⟨Nat.le_of_ble_eq_true rfl, Nat.le_of_ble_eq_true rfl⟩) hP hD hS hA [] [0] rfl rfl (by decide) (by decide) ?_
        clear hP hD hS
        try clear locs
        try clear H
        intro r_6 u_7 H locs hw_r_6 hP hD hS
        have hw_r_6 : r_6 = nI (cntL y 16) := hw_r_6
        refine W.widen (k := 0) (n := 0) (Nat.le_of_ble_eq_true rfl) (Nat.le_of_ble_eq_true rfl) ?_
        replace hP : va_P D vwCl [(hm, .inr (12, [.ref ms, .ref mkp, .int (nI km), .ref mtr, .int (nI n), .int (nI k), .int (nI al), .int (nI be), .int ea, .int pr, .ref mas, .int nq, .int po, .int (nI en), .ref mso, .ref mon, .ref mot, .ref man, .int th, .int xd, .ref mst, .ref msm, .ref mtb, .ref mti, .ref mfr, .ref mbn, .ref mbs, .ref mde, .int sF, .int sN, .int sS, .int ig, .long xa, .long xb, .ref maa, .ref mab, .ref mba, .ref mbb]))] H := hP
        replace hD : va_D A [(hm, .inr (12, [.ref ms, .ref mkp, .int (nI km), .ref mtr, .int (nI n), .int (nI k), .int (nI al), .int (nI be), .int ea, .int pr, .ref mas, .int nq, .int po, .int (nI en), .ref mso, .ref mon, .ref mot, .ref man, .int th, .int xd, .ref mst, .ref msm, .ref mtb, .ref mti, .ref mfr, .ref mbn, .ref mbs, .ref mde, .int sF, .int sN, .int sS, .int ig, .long xa, .long xb, .ref maa, .ref mab, .ref mba, .ref mbb]))] := hD
        obtain rfl : r_6 = nI (cntL y 16) := hw_r_6
        refine lv_aload_n hx hb dX12_isSample_26 rfl (lv_at hl 0 rfl) ?_
        refine xget C hP 0 rfl rfl zuX12 5 (by decide) zw5_218 rfl dX12_isSample_27 ?_
        refine lv_icmp_ne (tgt := 37) hx hb dX12_isSample_30 (by decide) (fun c_8 => ?_) (fun c_8 => ?_)
        · -- 30 t
          refine lv_iconst (v := nI 0) hx hb dX12_isSample_37 (by decide) ?_
          exact xreti C () (Or.inr ⟨fun q => c_8 q.2.2, rfl⟩) hP hD hS (Nat.le_of_ble_eq_true rfl) (Nat.le_of_ble_eq_true rfl) (by decide) dX12_isSample_38
        · -- 30 f
          refine lv_iconst (v := nI 1) hx hb dX12_isSample_33 (by decide) ?_
          refine lv_goto (tgt := 38) hx hb dX12_isSample_34 (by decide) ?_
          exact xreti C () (Or.inl ⟨⟨⟨c_1, Int32.not_le.mp c_2⟩, PQ.no hw_r_3 c_5 (by decide), c_8⟩, rfl⟩) hP hD hS (Nat.le_of_ble_eq_true rfl) (Nat.le_of_ble_eq_true rfl) (by decide) dX12_isSample_38

set_option maxHeartbeats 4000000 in
set_option maxRecDepth 100000 in
theorem c_X12_canAsk_f (l : Launch) (D : va_G) (cs : Nat → ClassId) (hm ms mkp mtr mas mso mon mot man mst msm mtb mti mfr mbn mbs mde maa mab mba mbb : Nat) (n k al be km en : Nat) (ea pr nq po th xd sF sN sS ig : Int32) (xa xb : Int64) (f : Nat → Int32) (a : Nat) (ha : a < 8) : xMet l D cs yX12_canAsk cX12_canAsk 2 (some .boolean) ({ frames := 0, cells := 0, slots := 0, locals := 0 } : Room) [.ref hm, .int (nI a)] [(hm, .inr (12, [.ref ms, .ref mkp, .int (nI km), .ref mtr, .int (nI n), .int (nI k), .int (nI al), .int (nI be), .int ea, .int pr, .ref mas, .int nq, .int po, .int (nI en), .ref mso, .ref mon, .ref mot, .ref man, .int th, .int xd, .ref mst, .ref msm, .ref mtb, .ref mti, .ref mfr, .ref mbn, .ref mbs, .ref mde, .int sF, .int sN, .int sS, .int ig, .long xa, .long xb, .ref maa, .ref mab, .ref mba, .ref mbb])), (ms, .inl (cs 0, 288, .inl f))] (xQi D (fun (r : Int32) (_u : Unit) => PQ (mcaP f a) r (nI 1) (nI 0)) (fun (_u : Unit) => [(hm, .inr (12, [.ref ms, .ref mkp, .int (nI km), .ref mtr, .int (nI n), .int (nI k), .int (nI al), .int (nI be), .int ea, .int pr, .ref mas, .int nq, .int po, .int (nI en), .ref mso, .ref mon, .ref mot, .ref man, .int th, .int xd, .ref mst, .ref msm, .ref mtb, .ref mti, .ref mfr, .ref mbn, .ref mbs, .ref mde, .int sF, .int sN, .int sS, .int ig, .long xa, .long xb, .ref maa, .ref mab, .ref mba, .ref mbb])), (ms, .inl (cs 0, 288, .inl f))])) := by
  refine xMet.intro (by decide) (Nat.le_of_ble_eq_true rfl) ?_
  intro p e s m args below meth c A ls C hP hD hS hl
  have hx := C.1
  have hb := C.2.1
  have hz := C.2.2.2.2.1
  have hown := C.2.2.2.1
  have hA := C.2.2.2.2.2.2.2.2.2
  have hAO := C.2.2.2.2.2.2.2.2.1.2.2
  replace hl : lv_has ls 2 [(0, .ref hm), (1, .int (nI a))] := hl
  obtain ⟨H, hH⟩ : ∃ H, H = s.heap := ⟨_, rfl⟩
  replace hP : va_P D vwCl [(hm, .inr (12, [.ref ms, .ref mkp, .int (nI km), .ref mtr, .int (nI n), .int (nI k), .int (nI al), .int (nI be), .int ea, .int pr, .ref mas, .int nq, .int po, .int (nI en), .ref mso, .ref mon, .ref mot, .ref man, .int th, .int xd, .ref mst, .ref msm, .ref mtb, .ref mti, .ref mfr, .ref mbn, .ref mbs, .ref mde, .int sF, .int sN, .int sS, .int ig, .long xa, .long xb, .ref maa, .ref mab, .ref mba, .ref mbb])), (ms, .inl (cs 0, 288, .inl f))] H := by rw [hH]; exact hP
  replace hS : va_S A s.heap H [] := by rw [hH]; exact hS
  obtain ⟨locs, hlocs⟩ : ∃ z : List Loc, z = [] := ⟨_, rfl⟩
  rw [← hlocs] at hS
  suffices hW : W p l e ({ frames := 0, cells := 0, slots := 0, locals := 0 } : Room) s m args below meth c H locs 0 0 (MQ below ((xQi D (fun (r : Int32) (_u : Unit) => PQ (mcaP f a) r (nI 1) (nI 0)) (fun (_u : Unit) => [(hm, .inr (12, [.ref ms, .ref mkp, .int (nI km), .ref mtr, .int (nI n), .int (nI k), .int (nI al), .int (nI be), .int ea, .int pr, .ref mas, .int nq, .int po, .int (nI en), .ref mso, .ref mon, .ref mot, .ref man, .int th, .int xd, .ref mst, .ref msm, .ref mtb, .ref mti, .ref mfr, .ref mbn, .ref mbs, .ref mde, .int sF, .int sN, .int sS, .int ig, .long xa, .long xb, .ref maa, .ref mab, .ref mba, .ref mbb])), (ms, .inl (cs 0, 288, .inl f))])) A) args s 0 0 A) (F0 m 0 ls []) by rw [hlocs, hH] at hW; exact hW
  clear hH hlocs
  refine lv_aload_n hx hb dX12_canAsk_0 rfl (lv_at hl 0 rfl) ?_
  refine xget C hP 0 rfl rfl zuX12 0 (by decide) zw5_213 rfl dX12_canAsk_1 ?_
  refine lv_bipush (v := nI 48) hx hb dX12_canAsk_4 (by decide) ?_
  refine lv_iload_n hx hb dX12_canAsk_6 rfl (lv_at hl 1 rfl) ?_
  refine lv_iadd hx hb dX12_canAsk_7 ?_
  refine lv_topi (nm_r (e' := nI (48 + a)) (nI_add _ _) ?_)
  refine xiald C hP 1 rfl (48 + a) rfl (by omega) (by decide) dX12_canAsk_8 ?_
  refine lv_if_ne (tgt := 39) hx hb dX12_canAsk_9 (by decide) (fun c_1 => ?_) (fun c_1 => ?_)
  · -- 9 t
    refine lv_iconst (v := nI 0) hx hb dX12_canAsk_39 (by decide) ?_
    exact xreti C () (Or.inr ⟨fun q => c_1 q.1, rfl⟩) hP hD hS (Nat.le_of_ble_eq_true rfl) (Nat.le_of_ble_eq_true rfl) (by decide) dX12_canAsk_40
  · -- 9 f
    refine lv_aload_n hx hb dX12_canAsk_12 rfl (lv_at hl 0 rfl) ?_
    refine xget C hP 0 rfl rfl zuX12 0 (by decide) zw5_213 rfl dX12_canAsk_13 ?_
    refine lv_bipush (v := nI 40) hx hb dX12_canAsk_16 (by decide) ?_
    refine lv_iload_n hx hb dX12_canAsk_18 rfl (lv_at hl 1 rfl) ?_
    refine lv_iadd hx hb dX12_canAsk_19 ?_
    refine lv_topi (nm_r (e' := nI (40 + a)) (nI_add _ _) ?_)
    refine xiald C hP 1 rfl (40 + a) rfl (by omega) (by decide) dX12_canAsk_20 ?_
    refine lv_if_ne (tgt := 39) hx hb dX12_canAsk_21 (by decide) (fun c_2 => ?_) (fun c_2 => ?_)
    · -- 21 t
      refine lv_iconst (v := nI 0) hx hb dX12_canAsk_39 (by decide) ?_
      exact xreti C () (Or.inr ⟨fun q => c_2 q.2.1, rfl⟩) hP hD hS (Nat.le_of_ble_eq_true rfl) (Nat.le_of_ble_eq_true rfl) (by decide) dX12_canAsk_40
    · -- 21 f
      refine lv_aload_n hx hb dX12_canAsk_24 rfl (lv_at hl 0 rfl) ?_
      refine xget C hP 0 rfl rfl zuX12 0 (by decide) zw5_213 rfl dX12_canAsk_25 ?_
      refine lv_iconst (v := nI 0) hx hb dX12_canAsk_28 (by decide) ?_
      refine lv_iload_n hx hb dX12_canAsk_29 rfl (lv_at hl 1 rfl) ?_
      refine lv_iadd hx hb dX12_canAsk_30 ?_
      refine lv_topi (nm_r (e' := nI (0 + a)) (nI_add _ _) ?_)
      refine xiald C hP 1 rfl (0 + a) rfl (by omega) (by decide) dX12_canAsk_31 ?_
      refine lv_if_lt (tgt := 39) hx hb dX12_canAsk_32 (by decide) (fun c_3 => ?_) (fun c_3 => ?_)
      · -- 32 t
        refine lv_iconst (v := nI 0) hx hb dX12_canAsk_39 (by decide) ?_
        exact xreti C () (Or.inr ⟨fun q => q.2.2 c_3, rfl⟩) hP hD hS (Nat.le_of_ble_eq_true rfl) (Nat.le_of_ble_eq_true rfl) (by decide) dX12_canAsk_40
      · -- 32 f
        refine lv_iconst (v := nI 1) hx hb dX12_canAsk_35 (by decide) ?_
        refine lv_goto (tgt := 40) hx hb dX12_canAsk_36 (by decide) ?_
        exact xreti C () (Or.inl ⟨⟨c_1, c_2, c_3⟩, rfl⟩) hP hD hS (Nat.le_of_ble_eq_true rfl) (Nat.le_of_ble_eq_true rfl) (by decide) dX12_canAsk_40

set_option maxHeartbeats 4000000 in
set_option maxRecDepth 100000 in
theorem c_X12_draw_f (l : Launch) (D : va_G) (cs : Nat → ClassId) (hm ms mkp mtr mas mso mon mot man mst msm mtb mti mfr mbn mbs mde maa mab mba mbb : Nat) (n k al be km en : Nat) (ea pr nq po th xd sF sN sS ig : Int32) (xa xb : Int64) (md : Nat) (hm0 : 0 < md) (hm1 : md < 2 ^ 31) : xMet l D cs yX12_draw cX12_draw 2 (some .int) ({ frames := 0, cells := 0, slots := 0, locals := 0 } : Room) [.ref hm, .int (nI md)] [(hm, .inr (12, [.ref ms, .ref mkp, .int (nI km), .ref mtr, .int (nI n), .int (nI k), .int (nI al), .int (nI be), .int ea, .int pr, .ref mas, .int nq, .int po, .int (nI en), .ref mso, .ref mon, .ref mot, .ref man, .int th, .int xd, .ref mst, .ref msm, .ref mtb, .ref mti, .ref mfr, .ref mbn, .ref mbs, .ref mde, .int sF, .int sN, .int sS, .int ig, .long xa, .long xb, .ref maa, .ref mab, .ref mba, .ref mbb]))] (xQi D (fun (r : Int32) (dz : Int32) => dz = nxD xd ∧ r = drV (nxD xd) (nI md) ∧ ∃ j, j < md ∧ r = nI j) (fun (dz : Int32) => [(hm, .inr (12, [.ref ms, .ref mkp, .int (nI km), .ref mtr, .int (nI n), .int (nI k), .int (nI al), .int (nI be), .int ea, .int pr, .ref mas, .int nq, .int po, .int (nI en), .ref mso, .ref mon, .ref mot, .ref man, .int th, .int dz, .ref mst, .ref msm, .ref mtb, .ref mti, .ref mfr, .ref mbn, .ref mbs, .ref mde, .int sF, .int sN, .int sS, .int ig, .long xa, .long xb, .ref maa, .ref mab, .ref mba, .ref mbb]))])) := by
  refine xMet.intro (by decide) (Nat.le_of_ble_eq_true rfl) ?_
  intro p e s m args below meth c A ls C hP hD hS hl
  have hx := C.1
  have hb := C.2.1
  have hz := C.2.2.2.2.1
  have hown := C.2.2.2.1
  have hA := C.2.2.2.2.2.2.2.2.2
  have hAO := C.2.2.2.2.2.2.2.2.1.2.2
  replace hl : lv_has ls 2 [(0, .ref hm), (1, .int (nI md))] := hl
  obtain ⟨H, hH⟩ : ∃ H, H = s.heap := ⟨_, rfl⟩
  replace hP : va_P D vwCl [(hm, .inr (12, [.ref ms, .ref mkp, .int (nI km), .ref mtr, .int (nI n), .int (nI k), .int (nI al), .int (nI be), .int ea, .int pr, .ref mas, .int nq, .int po, .int (nI en), .ref mso, .ref mon, .ref mot, .ref man, .int th, .int xd, .ref mst, .ref msm, .ref mtb, .ref mti, .ref mfr, .ref mbn, .ref mbs, .ref mde, .int sF, .int sN, .int sS, .int ig, .long xa, .long xb, .ref maa, .ref mab, .ref mba, .ref mbb]))] H := by rw [hH]; exact hP
  replace hS : va_S A s.heap H [] := by rw [hH]; exact hS
  obtain ⟨locs, hlocs⟩ : ∃ z : List Loc, z = [] := ⟨_, rfl⟩
  rw [← hlocs] at hS
  suffices hW : W p l e ({ frames := 0, cells := 0, slots := 0, locals := 0 } : Room) s m args below meth c H locs 0 0 (MQ below ((xQi D (fun (r : Int32) (dz : Int32) => dz = nxD xd ∧ r = drV (nxD xd) (nI md) ∧ ∃ j, j < md ∧ r = nI j) (fun (dz : Int32) => [(hm, .inr (12, [.ref ms, .ref mkp, .int (nI km), .ref mtr, .int (nI n), .int (nI k), .int (nI al), .int (nI be), .int ea, .int pr, .ref mas, .int nq, .int po, .int (nI en), .ref mso, .ref mon, .ref mot, .ref man, .int th, .int dz, .ref mst, .ref msm, .ref mtb, .ref mti, .ref mfr, .ref mbn, .ref mbs, .ref mde, .int sF, .int sN, .int sS, .int ig, .long xa, .long xb, .ref maa, .ref mab, .ref mba, .ref mbb]))])) A) args s 0 0 A) (F0 m 0 ls []) by rw [hlocs, hH] at hW; exact hW
  clear hH hlocs
  refine lv_aload_n hx hb dX12_draw_0 rfl (lv_at hl 0 rfl) ?_
  refine lv_aload_n hx hb dX12_draw_1 rfl (lv_at hl 0 rfl) ?_
  refine xget C hP 0 rfl rfl zuX12 19 (by decide) zw5_232 rfl dX12_draw_2 ?_
  refine lv_ldc (v := nI 1103515245) hx hb hown (hz _ zw6_173) dX12_draw_5 ?_
  refine lv_imul hx hb dX12_draw_7 ?_
  refine lv_sipush (v := nI 12345) hx hb dX12_draw_8 (by decide) ?_
  refine lv_iadd hx hb dX12_draw_11 ?_
  refine xput C hP hD hS 0 rfl rfl zuX12 tyX12 tyX12_ok nmX12 19 (by decide) zw5_232 rfl rfl rfl (Nat.le_of_ble_eq_true rfl) dX12_draw_12 ?_
  clear hP hD hS
  try clear locs
  try clear H
  intro H locs hP hD hS
  replace hP : va_P D vwCl [(hm, .inr (12, [.ref ms, .ref mkp, .int (nI km), .ref mtr, .int (nI n), .int (nI k), .int (nI al), .int (nI be), .int ea, .int pr, .ref mas, .int nq, .int po, .int (nI en), .ref mso, .ref mon, .ref mot, .ref man, .int th, .int ((xd * (nI 1103515245)) + (nI 12345)), .ref mst, .ref msm, .ref mtb, .ref mti, .ref mfr, .ref mbn, .ref mbs, .ref mde, .int sF, .int sN, .int sS, .int ig, .long xa, .long xb, .ref maa, .ref mab, .ref mba, .ref mbb]))] H := hP
  replace hD : va_D A [(hm, .inr (12, [.ref ms, .ref mkp, .int (nI km), .ref mtr, .int (nI n), .int (nI k), .int (nI al), .int (nI be), .int ea, .int pr, .ref mas, .int nq, .int po, .int (nI en), .ref mso, .ref mon, .ref mot, .ref man, .int th, .int ((xd * (nI 1103515245)) + (nI 12345)), .ref mst, .ref msm, .ref mtb, .ref mti, .ref mfr, .ref mbn, .ref mbs, .ref mde, .int sF, .int sN, .int sS, .int ig, .long xa, .long xb, .ref maa, .ref mab, .ref mba, .ref mbb]))] := hD
  refine lv_aload_n hx hb dX12_draw_15 rfl (lv_at hl 0 rfl) ?_
  refine xget C hP 0 rfl rfl zuX12 19 (by decide) zw5_232 rfl dX12_draw_16 ?_
  refine lv_bipush (v := nI 8) hx hb dX12_draw_19 (by decide) ?_
  refine lv_iushr hx hb dX12_draw_21 rfl ?_
  refine lv_iload_n hx hb dX12_draw_22 rfl (lv_at hl 1 rfl) ?_
  refine lv_irem hx hb dX12_draw_23 (nI_ne0 hm0 hm1) ?_
  exact xreti C ((xd * (nI 1103515245)) + (nI 12345)) (⟨rfl, rfl, drw _ hm0 hm1⟩) hP hD hS (Nat.le_of_ble_eq_true rfl) (Nat.le_of_ble_eq_true rfl) rfl dX12_draw_24

set_option maxHeartbeats 4000000 in
set_option maxRecDepth 100000 in
theorem c_X12_nth_f (l : Launch) (D : va_G) (cs : Nat → ClassId) (x : Int32) (i : Nat) (hi : i < cntL x 16) : xMet l D cs yX12_nth cX12_nth 4 (some .int) ({ frames := 1, cells := 0, slots := 0, locals := 21 } : Room) [.int x, .int (nI i)] [] (xQi D (fun (r : Int32) (_u : Unit) => ∃ b, b < 16 ∧ r = nI b ∧ hasB x b ∧ b = nthB x 31 (nI i)) (fun (_u : Unit) => [])) := by
  refine xMet.intro (by decide) (Nat.le_of_ble_eq_true rfl) ?_
  intro p e s m args below meth c A ls C hP hD hS hl
  have hx := C.1
  have hb := C.2.1
  have hz := C.2.2.2.2.1
  have hown := C.2.2.2.1
  have hA := C.2.2.2.2.2.2.2.2.2
  have hAO := C.2.2.2.2.2.2.2.2.1.2.2
  replace hl : lv_has ls 4 [(0, .int x), (1, .int (nI i))] := hl
  obtain ⟨H, hH⟩ : ∃ H, H = s.heap := ⟨_, rfl⟩
  replace hP : va_P D vwCl [] H := by rw [hH]; exact hP
  replace hS : va_S A s.heap H [] := by rw [hH]; exact hS
  obtain ⟨locs, hlocs⟩ : ∃ z : List Loc, z = [] := ⟨_, rfl⟩
  rw [← hlocs] at hS
  suffices hW : W p l e ({ frames := 1, cells := 0, slots := 0, locals := 21 } : Room) s m args below meth c H locs 0 0 (MQ below ((xQi D (fun (r : Int32) (_u : Unit) => ∃ b, b < 16 ∧ r = nI b ∧ hasB x b ∧ b = nthB x 31 (nI i)) (fun (_u : Unit) => [])) A) args s 0 0 A) (F0 m 0 ls []) by rw [hlocs, hH] at hW; exact hW
  clear hH hlocs
  refine lv_iload_n hx hb dX12_nth_0 rfl (lv_at hl 1 rfl) ?_
  refine lv_istore_n (lv' := [(2, .int (nI i)), (0, .int x), (1, .int (nI i))]) hx hb dX12_nth_1 rfl hl (by decide) rfl ?_
  clear hl
  try clear ls
  intro ls hl
  refine lv_iconst (v := nI 0) hx hb dX12_nth_2 (by decide) ?_
  refine lv_istore_n (lv' := [(3, .int (nI 0)), (2, .int (nI i)), (0, .int x), (1, .int (nI i))]) hx hb dX12_nth_3 rfl hl (by decide) rfl ?_
  clear hl
  try clear ls
  intro ls hl
  have loop_1 : ∀ (n_loop_1 : Nat) (o : Nat) (l9 : Nat), (o ≤ 16) → (l9 < cntL x (16 - o)) → (l9 ≤ 16) → (nthB x (31 - o) (nI l9) = nthB x 31 (nI i)) → 16 - o < n_loop_1 → ∀ (H : Heap) (locs : List Loc) (ls : Array Slot), va_P D vwCl [] H → va_D A [] → va_S A s.heap H locs → lv_has ls 4 [(3, .int (nI o)), (2, .int (nI l9)), (0, .int x), (1, .int (nI i))] → W p l e ({ frames := 1, cells := 0, slots := 0, locals := 21 } : Room) s m args below meth c H locs 0 0 (MQ below ((xQi D (fun (r : Int32) (_u : Unit) => ∃ b, b < 16 ∧ r = nI b ∧ hasB x b ∧ b = nthB x 31 (nI i)) (fun (_u : Unit) => [])) A) args s 0 0 A) (F0 m 4 ls []) := by
    intro n_loop_1
    induction n_loop_1 with
    | zero => intro o l9 h_o hl9 hl16 hi9 hlt H locs ls hP hD hS hl; exact absurd hlt (Nat.not_lt_zero _)
    | succ n_loop_1 ih_loop_1 =>
      intro o l9 h_o hl9 hl16 hi9 hlt_loop_1 H locs ls hP hD hS hl
      have ho16 : o < 16 := Decidable.byContradiction fun q => by
        obtain rfl : o = 16 := by omega
        exact absurd hl9 (Nat.not_lt_zero _)
      refine lv_iload_n hx hb dX12_nth_4 rfl (lv_at hl 2 rfl) ?_
      refine lv_iload_n hx hb dX12_nth_5 rfl (lv_at hl 0 rfl) ?_
      refine xi (wr := []) (xS (As := [.int x, .int (nI o)]) (rest := []) C (c_X12_has l D cs x o) kX12_100 hP hD [] rfl (by decide) ⟨Nat.le_of_ble_eq_true rfl, Nat.le_of_ble_eq_true rfl⟩ rfl hl.1 rfl (Nat.le_of_ble_eq_true rfl) dX12_nth_6 ⟨Nat.le_of_ble_eq_true rfl, Nat.le_of_ble_eq_true rfl⟩) hP hD hS hA [] [] rfl rfl (by decide) (by decide) ?_
      clear hP hD hS
      try clear locs
      try clear H
      intro r_2 u_3 H locs hw_r_2 hP hD hS
      have hw_r_2 : PQ (hasB x o) r_2 (nI 1) (nI 0) := hw_r_2
      refine W.widen (k := 0) (n := 0) (Nat.le_of_ble_eq_true rfl) (Nat.le_of_ble_eq_true rfl) ?_
      replace hP : va_P D vwCl [] H := hP
      replace hD : va_D A [] := hD
      refine lv_if_ne (tgt := 15) hx hb dX12_nth_9 (by decide) (fun c_4 => ?_) (fun c_4 => ?_)
      · -- 9 t
        refine lv_iload_n hx hb dX12_nth_15 rfl (lv_at hl 1 rfl) ?_
        refine lv_if_ne (tgt := 21) hx hb dX12_nth_16 (by decide) (fun c_5 => ?_) (fun c_5 => ?_)
        · -- 16 t
          have fc_5 : l9 ≠ 0 := nf_ne (by omega) (by omega) c_5
          refine lv_iinc (v := nI (l9 - 1)) (lv' := [(2, .int (nI (l9 - 1))), (3, .int (nI o)), (0, .int x), (1, .int (nI i))]) hx hb dX12_nth_21 hl (k := 1) rfl (nI_dec (by omega)) (by decide) rfl ?_
          clear hl
          try clear ls
          intro ls hl
          refine lv_iinc (v := nI (o + 1)) (lv' := [(3, .int (nI (o + 1))), (2, .int (nI (l9 - 1))), (0, .int x), (1, .int (nI i))]) hx hb dX12_nth_24 hl (k := 1) rfl (nI_add o 1) (by decide) rfl ?_
          clear hl
          try clear ls
          intro ls hl
          refine lv_goto (tgt := 4) hx hb dX12_nth_27 (by decide) ?_
          exact ih_loop_1 (o + 1) (l9 - 1) (by omega) (by rw [cnt_yes (x := x) (by omega) (PQ.yes hw_r_2 c_4)] at hl9; omega) (by omega) ((congrArg (nthB x (31 - (o + 1))) (nI_dec (by omega)).symm).trans ((nthB_yes (by omega) (PQ.yes hw_r_2 c_4) (fun q => absurd ((nI_eq (b := 0) (by omega) (by decide)).mp q) (by omega))).symm.trans hi9)) (by omega) H locs ls hP hD hS (lv_sub hl [0, 1, 2, 3] rfl)
        · -- 16 f
          have fc_5 : l9 = 0 := nf_eq (by omega) (by omega) c_5
          refine lv_iload_n hx hb dX12_nth_19 rfl (lv_at hl 0 rfl) ?_
          exact xreti C () (⟨o, ho16, rfl, PQ.yes hw_r_2 c_4, by rw [← hi9, nthB_at (by omega) (PQ.yes hw_r_2 c_4) c_5]⟩) hP hD hS (Nat.le_of_ble_eq_true rfl) (Nat.le_of_ble_eq_true rfl) rfl dX12_nth_20
      · -- 9 f
        refine lv_goto (tgt := 24) hx hb dX12_nth_12 (by decide) ?_
        refine lv_iinc (v := nI (o + 1)) (lv' := [(3, .int (nI (o + 1))), (2, .int (nI l9)), (0, .int x), (1, .int (nI i))]) hx hb dX12_nth_24 hl (k := 0) rfl (nI_add o 1) (by decide) rfl ?_
        clear hl
        try clear ls
        intro ls hl
        refine lv_goto (tgt := 4) hx hb dX12_nth_27 (by decide) ?_
        exact ih_loop_1 (o + 1) l9 (by omega) (by rw [← cnt_no (x := x) (by omega) (PQ.no hw_r_2 c_4 (by decide))]; exact hl9) (by omega) ((nthB_no (by omega) (PQ.no hw_r_2 c_4 (by decide))).symm.trans hi9) (by omega) H locs ls hP hD hS (lv_sub hl [0, 1, 2, 3] rfl)
  exact loop_1 _ 0 i (by omega) hi (by have := cnt_le x 16; omega) rfl (Nat.lt_succ_self _) H locs ls hP hD hS (lv_sub hl [0, 1, 2, 3] rfl)

set_option maxHeartbeats 4000000 in
set_option maxRecDepth 100000 in
theorem c_X12_drawSample_f (l : Launch) (D : va_G) (cs : Nat → ClassId) (hm ms mkp mtr mas mso mon mot man mst msm mtb mti mfr mbn mbs mde maa mab mba mbb : Nat) (n k al be km en : Nat) (ea pr nq po th xd sF sN sS ig : Int32) (xa xb : Int64) (a : Nat) (hn : 2 ≤ n ∧ n ≤ 8) (hk : k < n) (ha : a < n) : xMet l D cs yX12_drawSample cX12_drawSample 7 (some .int) ({ frames := 2, cells := 0, slots := 0, locals := 44 } : Room) [.ref hm, .int (nI a)] [(hm, .inr (12, [.ref ms, .ref mkp, .int (nI km), .ref mtr, .int (nI n), .int (nI k), .int (nI al), .int (nI be), .int ea, .int pr, .ref mas, .int nq, .int po, .int (nI en), .ref mso, .ref mon, .ref mot, .ref man, .int th, .int xd, .ref mst, .ref msm, .ref mtb, .ref mti, .ref mfr, .ref mbn, .ref mbs, .ref mde, .int sF, .int sN, .int sS, .int ig, .long xa, .long xb, .ref maa, .ref mab, .ref mba, .ref mbb]))] (xQi D (fun (r : Int32) (dz : Int32) => ∃ l9, dsI n (xd, lefI n a, nI 0) k dz l9 r) (fun (dz : Int32) => [(hm, .inr (12, [.ref ms, .ref mkp, .int (nI km), .ref mtr, .int (nI n), .int (nI k), .int (nI al), .int (nI be), .int ea, .int pr, .ref mas, .int nq, .int po, .int (nI en), .ref mso, .ref mon, .ref mot, .ref man, .int th, .int dz, .ref mst, .ref msm, .ref mtb, .ref mti, .ref mfr, .ref mbn, .ref mbs, .ref mde, .int sF, .int sN, .int sS, .int ig, .long xa, .long xb, .ref maa, .ref mab, .ref mba, .ref mbb]))])) := by
  refine xMet.intro (by decide) (Nat.le_of_ble_eq_true rfl) ?_
  intro p e s m args below meth c A ls C hP hD hS hl
  have hx := C.1
  have hb := C.2.1
  have hz := C.2.2.2.2.1
  have hown := C.2.2.2.1
  have hA := C.2.2.2.2.2.2.2.2.2
  have hAO := C.2.2.2.2.2.2.2.2.1.2.2
  replace hl : lv_has ls 7 [(0, .ref hm), (1, .int (nI a))] := hl
  obtain ⟨H, hH⟩ : ∃ H, H = s.heap := ⟨_, rfl⟩
  replace hP : va_P D vwCl [(hm, .inr (12, [.ref ms, .ref mkp, .int (nI km), .ref mtr, .int (nI n), .int (nI k), .int (nI al), .int (nI be), .int ea, .int pr, .ref mas, .int nq, .int po, .int (nI en), .ref mso, .ref mon, .ref mot, .ref man, .int th, .int xd, .ref mst, .ref msm, .ref mtb, .ref mti, .ref mfr, .ref mbn, .ref mbs, .ref mde, .int sF, .int sN, .int sS, .int ig, .long xa, .long xb, .ref maa, .ref mab, .ref mba, .ref mbb]))] H := by rw [hH]; exact hP
  replace hS : va_S A s.heap H [] := by rw [hH]; exact hS
  obtain ⟨locs, hlocs⟩ : ∃ z : List Loc, z = [] := ⟨_, rfl⟩
  rw [← hlocs] at hS
  suffices hW : W p l e ({ frames := 2, cells := 0, slots := 0, locals := 44 } : Room) s m args below meth c H locs 0 0 (MQ below ((xQi D (fun (r : Int32) (dz : Int32) => ∃ l9, dsI n (xd, lefI n a, nI 0) k dz l9 r) (fun (dz : Int32) => [(hm, .inr (12, [.ref ms, .ref mkp, .int (nI km), .ref mtr, .int (nI n), .int (nI k), .int (nI al), .int (nI be), .int ea, .int pr, .ref mas, .int nq, .int po, .int (nI en), .ref mso, .ref mon, .ref mot, .ref man, .int th, .int dz, .ref mst, .ref msm, .ref mtb, .ref mti, .ref mfr, .ref mbn, .ref mbs, .ref mde, .int sF, .int sN, .int sS, .int ig, .long xa, .long xb, .ref maa, .ref mab, .ref mba, .ref mbb]))])) A) args s 0 0 A) (F0 m 0 ls []) by rw [hlocs, hH] at hW; exact hW
  clear hH hlocs
  refine lv_iconst (v := nI 1) hx hb dX12_drawSample_0 (by decide) ?_
  refine lv_aload_n hx hb dX12_drawSample_1 rfl (lv_at hl 0 rfl) ?_
  refine xget C hP 0 rfl rfl zuX12 4 (by decide) zw5_217 rfl dX12_drawSample_2 ?_
  refine lv_ishl hx hb dX12_drawSample_5 ?_
  refine lv_iconst (v := nI 1) hx hb dX12_drawSample_6 (by decide) ?_
  refine lv_isub hx hb dX12_drawSample_7 ?_
  refine lv_iconst (v := nI 1) hx hb dX12_drawSample_8 (by decide) ?_
  refine lv_iload_n hx hb dX12_drawSample_9 rfl (lv_at hl 1 rfl) ?_
  refine lv_ishl hx hb dX12_drawSample_10 ?_
  refine lv_iconst (v := (-1)) hx hb dX12_drawSample_11 (by decide) ?_
  refine lv_ixor hx hb dX12_drawSample_12 ?_
  refine lv_iand hx hb dX12_drawSample_13 ?_
  refine lv_istore_n (lv' := [(2, .int ((((nI 1) <<< ((nI n) &&& 31)) - (nI 1)) &&& (((nI 1) <<< ((nI a) &&& 31)) ^^^ (-1)))), (0, .ref hm), (1, .int (nI a))]) hx hb dX12_drawSample_14 rfl hl (by decide) rfl ?_
  clear hl
  try clear ls
  intro ls hl
  refine lv_iconst (v := nI 0) hx hb dX12_drawSample_15 (by decide) ?_
  refine lv_istore_n (lv' := [(3, .int (nI 0)), (2, .int ((((nI 1) <<< ((nI n) &&& 31)) - (nI 1)) &&& (((nI 1) <<< ((nI a) &&& 31)) ^^^ (-1)))), (0, .ref hm), (1, .int (nI a))]) hx hb dX12_drawSample_16 rfl hl (by decide) rfl ?_
  clear hl
  try clear ls
  intro ls hl
  refine lv_iconst (v := nI 0) hx hb dX12_drawSample_17 (by decide) ?_
  refine lv_istore (lv' := [(4, .int (nI 0)), (3, .int (nI 0)), (2, .int ((((nI 1) <<< ((nI n) &&& 31)) - (nI 1)) &&& (((nI 1) <<< ((nI a) &&& 31)) ^^^ (-1)))), (0, .ref hm), (1, .int (nI a))]) hx hb dX12_drawSample_18 hl (by decide) rfl ?_
  clear hl
  try clear ls
  intro ls hl
  have loop_1 : ∀ (n_loop_1 : Nat) (o : Nat) (d9 : Int32) (l9 : Int32) (s9 : Int32), (o ≤ k) → (cntL l9 16 = n - 1 - o) → (dsI n (xd, lefI n a, nI 0) o d9 l9 s9) → k - o < n_loop_1 → ∀ (H : Heap) (locs : List Loc) (ls : Array Slot), va_P D vwCl [(hm, .inr (12, [.ref ms, .ref mkp, .int (nI km), .ref mtr, .int (nI n), .int (nI k), .int (nI al), .int (nI be), .int ea, .int pr, .ref mas, .int nq, .int po, .int (nI en), .ref mso, .ref mon, .ref mot, .ref man, .int th, .int d9, .ref mst, .ref msm, .ref mtb, .ref mti, .ref mfr, .ref mbn, .ref mbs, .ref mde, .int sF, .int sN, .int sS, .int ig, .long xa, .long xb, .ref maa, .ref mab, .ref mba, .ref mbb]))] H → va_D A [(hm, .inr (12, [.ref ms, .ref mkp, .int (nI km), .ref mtr, .int (nI n), .int (nI k), .int (nI al), .int (nI be), .int ea, .int pr, .ref mas, .int nq, .int po, .int (nI en), .ref mso, .ref mon, .ref mot, .ref man, .int th, .int d9, .ref mst, .ref msm, .ref mtb, .ref mti, .ref mfr, .ref mbn, .ref mbs, .ref mde, .int sF, .int sN, .int sS, .int ig, .long xa, .long xb, .ref maa, .ref mab, .ref mba, .ref mbb]))] → va_S A s.heap H locs → lv_has ls 7 [(4, .int (nI o)), (3, .int s9), (2, .int l9), (0, .ref hm), (1, .int (nI a))] → W p l e ({ frames := 2, cells := 0, slots := 0, locals := 44 } : Room) s m args below meth c H locs 0 0 (MQ below ((xQi D (fun (r : Int32) (dz : Int32) => ∃ l9, dsI n (xd, lefI n a, nI 0) k dz l9 r) (fun (dz : Int32) => [(hm, .inr (12, [.ref ms, .ref mkp, .int (nI km), .ref mtr, .int (nI n), .int (nI k), .int (nI al), .int (nI be), .int ea, .int pr, .ref mas, .int nq, .int po, .int (nI en), .ref mso, .ref mon, .ref mot, .ref man, .int th, .int dz, .ref mst, .ref msm, .ref mtb, .ref mti, .ref mfr, .ref mbn, .ref mbs, .ref mde, .int sF, .int sN, .int sS, .int ig, .long xa, .long xb, .ref maa, .ref mab, .ref mba, .ref mbb]))])) A) args s 0 0 A) (F0 m 20 ls []) := by
    intro n_loop_1
    induction n_loop_1 with
    | zero => intro o d9 l9 s9 h_o hc9 hd9 hlt H locs ls hP hD hS hl; exact absurd hlt (Nat.not_lt_zero _)
    | succ n_loop_1 ih_loop_1 =>
      intro o d9 l9 s9 h_o hc9 hd9 hlt_loop_1 H locs ls hP hD hS hl
      refine lv_iload hx hb dX12_drawSample_20 (lv_at hl 0 rfl) ?_
      refine lv_aload_n hx hb dX12_drawSample_22 rfl (lv_at hl 3 rfl) ?_
      refine xget C hP 0 rfl rfl zuX12 5 (by decide) zw5_218 rfl dX12_drawSample_23 ?_
      refine lv_icmp_ge (tgt := 69) hx hb dX12_drawSample_26 (by decide) (fun c_2 => ?_) (fun c_2 => ?_)
      · -- 26 t
        have fc_2 : k ≤ o := nf_le (by omega) (by omega) c_2
        refine lv_iload_n hx hb dX12_drawSample_69 rfl (lv_at hl 1 rfl) ?_
        exact xreti C d9 (⟨l9, by have qq : o = k := (by omega); rw [← qq]; exact hd9⟩) hP hD hS (Nat.le_of_ble_eq_true rfl) (Nat.le_of_ble_eq_true rfl) rfl dX12_drawSample_70
      · -- 26 f
        have fc_2 : o < k := nf_nle (by omega) (by omega) c_2
        refine lv_aload_n hx hb dX12_drawSample_29 rfl (lv_at hl 3 rfl) ?_
        refine lv_iload_n hx hb dX12_drawSample_30 rfl (lv_at hl 2 rfl) ?_
        refine xi (wr := [(hm, .inr (12, [.ref ms, .ref mkp, .int (nI km), .ref mtr, .int (nI n), .int (nI k), .int (nI al), .int (nI be), .int ea, .int pr, .ref mas, .int nq, .int po, .int (nI en), .ref mso, .ref mon, .ref mot, .ref man, .int th, .int d9, .ref mst, .ref msm, .ref mtb, .ref mti, .ref mfr, .ref mbn, .ref mbs, .ref mde, .int sF, .int sN, .int sS, .int ig, .long xa, .long xb, .ref maa, .ref mab, .ref mba, .ref mbb]))]) (xS (As := [.int l9]) (rest := [.ref hm]) C (c_X12_many l D cs l9) kX12_127 hP hD [] rfl (by decide) ⟨Nat.le_of_ble_eq_true rfl, Nat.le_of_ble_eq_true rfl⟩ rfl hl.1 rfl (Nat.le_of_ble_eq_true rfl) dX12_drawSample_31 ⟨Nat.le_of_ble_eq_true rfl, Nat.le_of_ble_eq_true rfl⟩) hP hD hS hA [] [0] rfl rfl (by decide) (by decide) ?_
        clear hP hD hS
        try clear locs
        try clear H
        intro r_3 u_4 H locs hw_r_3 hP hD hS
        have hw_r_3 : r_3 = nI (cntL l9 16) := hw_r_3
        refine W.widen (k := 0) (n := 0) (Nat.le_of_ble_eq_true rfl) (Nat.le_of_ble_eq_true rfl) ?_
        replace hP : va_P D vwCl [(hm, .inr (12, [.ref ms, .ref mkp, .int (nI km), .ref mtr, .int (nI n), .int (nI k), .int (nI al), .int (nI be), .int ea, .int pr, .ref mas, .int nq, .int po, .int (nI en), .ref mso, .ref mon, .ref mot, .ref man, .int th, .int d9, .ref mst, .ref msm, .ref mtb, .ref mti, .ref mfr, .ref mbn, .ref mbs, .ref mde, .int sF, .int sN, .int sS, .int ig, .long xa, .long xb, .ref maa, .ref mab, .ref mba, .ref mbb]))] H := hP
        replace hD : va_D A [(hm, .inr (12, [.ref ms, .ref mkp, .int (nI km), .ref mtr, .int (nI n), .int (nI k), .int (nI al), .int (nI be), .int ea, .int pr, .ref mas, .int nq, .int po, .int (nI en), .ref mso, .ref mon, .ref mot, .ref man, .int th, .int d9, .ref mst, .ref msm, .ref mtb, .ref mti, .ref mfr, .ref mbn, .ref mbs, .ref mde, .int sF, .int sN, .int sS, .int ig, .long xa, .long xb, .ref maa, .ref mab, .ref mba, .ref mbb]))] := hD
        rw [hc9] at hw_r_3
        subst hw_r_3
        replace hP : va_P D vwCl [(hm, .inr (12, [.ref ms, .ref mkp, .int (nI km), .ref mtr, .int (nI n), .int (nI k), .int (nI al), .int (nI be), .int ea, .int pr, .ref mas, .int nq, .int po, .int (nI en), .ref mso, .ref mon, .ref mot, .ref man, .int th, .int d9, .ref mst, .ref msm, .ref mtb, .ref mti, .ref mfr, .ref mbn, .ref mbs, .ref mde, .int sF, .int sN, .int sS, .int ig, .long xa, .long xb, .ref maa, .ref mab, .ref mba, .ref mbb]))] H := hP
        replace hD : va_D A [(hm, .inr (12, [.ref ms, .ref mkp, .int (nI km), .ref mtr, .int (nI n), .int (nI k), .int (nI al), .int (nI be), .int ea, .int pr, .ref mas, .int nq, .int po, .int (nI en), .ref mso, .ref mon, .ref mot, .ref man, .int th, .int d9, .ref mst, .ref msm, .ref mtb, .ref mti, .ref mfr, .ref mbn, .ref mbs, .ref mde, .int sF, .int sN, .int sS, .int ig, .long xa, .long xb, .ref maa, .ref mab, .ref mba, .ref mbb]))] := hD
        refine xi (wr := []) (xV (As := [.int (nI (n - 1 - o))]) (rest := []) C (c_X12_draw_f l D cs hm ms mkp mtr mas mso mon mot man mst msm mtb mti mfr mbn mbs mde maa mab mba mbb n k al be km en ea pr nq po th d9 sF sN sS ig xa xb (n - 1 - o) (by omega) (by omega)) kX12_156 hP hD [0] rfl (by decide) 0 rfl rfl rfl ⟨Nat.le_of_ble_eq_true rfl, Nat.le_of_ble_eq_true rfl⟩ rfl hl.1 rfl (Nat.le_of_ble_eq_true rfl) dX12_drawSample_34 ⟨Nat.le_of_ble_eq_true rfl, Nat.le_of_ble_eq_true rfl⟩) hP hD hS hA [0] [] rfl rfl (by decide) (by decide) ?_
        clear hP hD hS
        try clear locs
        try clear H
        intro r_5 u_6 H locs hw_r_5 hP hD hS
        have hw_r_5 : u_6 = nxD d9 ∧ r_5 = drV (nxD d9) (nI (n - 1 - o)) ∧ ∃ j, j < (n - 1 - o) ∧ r_5 = nI j := hw_r_5
        refine W.widen (k := 0) (n := 0) (Nat.le_of_ble_eq_true rfl) (Nat.le_of_ble_eq_true rfl) ?_
        replace hP : va_P D vwCl [(hm, .inr (12, [.ref ms, .ref mkp, .int (nI km), .ref mtr, .int (nI n), .int (nI k), .int (nI al), .int (nI be), .int ea, .int pr, .ref mas, .int nq, .int po, .int (nI en), .ref mso, .ref mon, .ref mot, .ref man, .int th, .int u_6, .ref mst, .ref msm, .ref mtb, .ref mti, .ref mfr, .ref mbn, .ref mbs, .ref mde, .int sF, .int sN, .int sS, .int ig, .long xa, .long xb, .ref maa, .ref mab, .ref mba, .ref mbb]))] H := hP
        replace hD : va_D A [(hm, .inr (12, [.ref ms, .ref mkp, .int (nI km), .ref mtr, .int (nI n), .int (nI k), .int (nI al), .int (nI be), .int ea, .int pr, .ref mas, .int nq, .int po, .int (nI en), .ref mso, .ref mon, .ref mot, .ref man, .int th, .int u_6, .ref mst, .ref msm, .ref mtb, .ref mti, .ref mfr, .ref mbn, .ref mbs, .ref mde, .int sF, .int sN, .int sS, .int ig, .long xa, .long xb, .ref maa, .ref mab, .ref mba, .ref mbb]))] := hD
        obtain ⟨j_7, h_j_7, rfl⟩ := hw_r_5.2.2
        replace hP : va_P D vwCl [(hm, .inr (12, [.ref ms, .ref mkp, .int (nI km), .ref mtr, .int (nI n), .int (nI k), .int (nI al), .int (nI be), .int ea, .int pr, .ref mas, .int nq, .int po, .int (nI en), .ref mso, .ref mon, .ref mot, .ref man, .int th, .int u_6, .ref mst, .ref msm, .ref mtb, .ref mti, .ref mfr, .ref mbn, .ref mbs, .ref mde, .int sF, .int sN, .int sS, .int ig, .long xa, .long xb, .ref maa, .ref mab, .ref mba, .ref mbb]))] H := hP
        replace hD : va_D A [(hm, .inr (12, [.ref ms, .ref mkp, .int (nI km), .ref mtr, .int (nI n), .int (nI k), .int (nI al), .int (nI be), .int ea, .int pr, .ref mas, .int nq, .int po, .int (nI en), .ref mso, .ref mon, .ref mot, .ref man, .int th, .int u_6, .ref mst, .ref msm, .ref mtb, .ref mti, .ref mfr, .ref mbn, .ref mbs, .ref mde, .int sF, .int sN, .int sS, .int ig, .long xa, .long xb, .ref maa, .ref mab, .ref mba, .ref mbb]))] := hD
        refine lv_istore (lv' := [(5, .int (nI j_7)), (4, .int (nI o)), (3, .int s9), (2, .int l9), (0, .ref hm), (1, .int (nI a))]) hx hb dX12_drawSample_37 hl (by decide) rfl ?_
        clear hl
        try clear ls
        intro ls hl
        refine lv_iload_n hx hb dX12_drawSample_39 rfl (lv_at hl 3 rfl) ?_
        refine lv_iload hx hb dX12_drawSample_40 (lv_at hl 0 rfl) ?_
        refine xi (wr := [(hm, .inr (12, [.ref ms, .ref mkp, .int (nI km), .ref mtr, .int (nI n), .int (nI k), .int (nI al), .int (nI be), .int ea, .int pr, .ref mas, .int nq, .int po, .int (nI en), .ref mso, .ref mon, .ref mot, .ref man, .int th, .int u_6, .ref mst, .ref msm, .ref mtb, .ref mti, .ref mfr, .ref mbn, .ref mbs, .ref mde, .int sF, .int sN, .int sS, .int ig, .long xa, .long xb, .ref maa, .ref mab, .ref mba, .ref mbb]))]) (xS (As := [.int l9, .int (nI j_7)]) (rest := []) C (c_X12_nth_f l D cs l9 j_7 (by rw [hc9]; omega)) kX12_159 hP hD [] rfl (by decide) ⟨Nat.le_of_ble_eq_true rfl, Nat.le_of_ble_eq_true rfl⟩ rfl hl.1 rfl (Nat.le_of_ble_eq_true rfl) dX12_drawSample_42 ⟨Nat.le_of_ble_eq_true rfl, Nat.le_of_ble_eq_true rfl⟩) hP hD hS hA [] [0] rfl rfl (by decide) (by decide) ?_
        clear hP hD hS
        try clear locs
        try clear H
        intro r_8 u_9 H locs hw_r_8 hP hD hS
        have hw_r_8 : ∃ b, b < 16 ∧ r_8 = nI b ∧ hasB l9 b ∧ b = nthB l9 31 (nI j_7) := hw_r_8
        refine W.widen (k := 0) (n := 0) (Nat.le_of_ble_eq_true rfl) (Nat.le_of_ble_eq_true rfl) ?_
        replace hP : va_P D vwCl [(hm, .inr (12, [.ref ms, .ref mkp, .int (nI km), .ref mtr, .int (nI n), .int (nI k), .int (nI al), .int (nI be), .int ea, .int pr, .ref mas, .int nq, .int po, .int (nI en), .ref mso, .ref mon, .ref mot, .ref man, .int th, .int u_6, .ref mst, .ref msm, .ref mtb, .ref mti, .ref mfr, .ref mbn, .ref mbs, .ref mde, .int sF, .int sN, .int sS, .int ig, .long xa, .long xb, .ref maa, .ref mab, .ref mba, .ref mbb]))] H := hP
        replace hD : va_D A [(hm, .inr (12, [.ref ms, .ref mkp, .int (nI km), .ref mtr, .int (nI n), .int (nI k), .int (nI al), .int (nI be), .int ea, .int pr, .ref mas, .int nq, .int po, .int (nI en), .ref mso, .ref mon, .ref mot, .ref man, .int th, .int u_6, .ref mst, .ref msm, .ref mtb, .ref mti, .ref mfr, .ref mbn, .ref mbs, .ref mde, .int sF, .int sN, .int sS, .int ig, .long xa, .long xb, .ref maa, .ref mab, .ref mba, .ref mbb]))] := hD
        obtain ⟨b9, h_b9, rfl, hb9, hn9⟩ := hw_r_8
        replace hP : va_P D vwCl [(hm, .inr (12, [.ref ms, .ref mkp, .int (nI km), .ref mtr, .int (nI n), .int (nI k), .int (nI al), .int (nI be), .int ea, .int pr, .ref mas, .int nq, .int po, .int (nI en), .ref mso, .ref mon, .ref mot, .ref man, .int th, .int u_6, .ref mst, .ref msm, .ref mtb, .ref mti, .ref mfr, .ref mbn, .ref mbs, .ref mde, .int sF, .int sN, .int sS, .int ig, .long xa, .long xb, .ref maa, .ref mab, .ref mba, .ref mbb]))] H := hP
        replace hD : va_D A [(hm, .inr (12, [.ref ms, .ref mkp, .int (nI km), .ref mtr, .int (nI n), .int (nI k), .int (nI al), .int (nI be), .int ea, .int pr, .ref mas, .int nq, .int po, .int (nI en), .ref mso, .ref mon, .ref mot, .ref man, .int th, .int u_6, .ref mst, .ref msm, .ref mtb, .ref mti, .ref mfr, .ref mbn, .ref mbs, .ref mde, .int sF, .int sN, .int sS, .int ig, .long xa, .long xb, .ref maa, .ref mab, .ref mba, .ref mbb]))] := hD
        refine lv_istore (lv' := [(6, .int (nI b9)), (5, .int (nI j_7)), (4, .int (nI o)), (3, .int s9), (2, .int l9), (0, .ref hm), (1, .int (nI a))]) hx hb dX12_drawSample_45 hl (by decide) rfl ?_
        clear hl
        try clear ls
        intro ls hl
        refine lv_iload_n hx hb dX12_drawSample_47 rfl (lv_at hl 4 rfl) ?_
        refine lv_iconst (v := nI 1) hx hb dX12_drawSample_48 (by decide) ?_
        refine lv_iload hx hb dX12_drawSample_49 (lv_at hl 0 rfl) ?_
        refine lv_ishl hx hb dX12_drawSample_51 ?_
        refine lv_iconst (v := (-1)) hx hb dX12_drawSample_52 (by decide) ?_
        refine lv_ixor hx hb dX12_drawSample_53 ?_
        refine lv_iand hx hb dX12_drawSample_54 ?_
        refine lv_istore_n (lv' := [(2, .int (l9 &&& (((nI 1) <<< ((nI b9) &&& 31)) ^^^ (-1)))), (6, .int (nI b9)), (5, .int (nI j_7)), (4, .int (nI o)), (3, .int s9), (0, .ref hm), (1, .int (nI a))]) hx hb dX12_drawSample_55 rfl hl (by decide) rfl ?_
        clear hl
        try clear ls
        intro ls hl
        refine lv_iload_n hx hb dX12_drawSample_56 rfl (lv_at hl 4 rfl) ?_
        refine lv_iconst (v := nI 1) hx hb dX12_drawSample_57 (by decide) ?_
        refine lv_iload hx hb dX12_drawSample_58 (lv_at hl 1 rfl) ?_
        refine lv_ishl hx hb dX12_drawSample_60 ?_
        refine lv_ior hx hb dX12_drawSample_61 ?_
        refine lv_istore_n (lv' := [(3, .int (s9 ||| ((nI 1) <<< ((nI b9) &&& 31)))), (2, .int (l9 &&& (((nI 1) <<< ((nI b9) &&& 31)) ^^^ (-1)))), (6, .int (nI b9)), (5, .int (nI j_7)), (4, .int (nI o)), (0, .ref hm), (1, .int (nI a))]) hx hb dX12_drawSample_62 rfl hl (by decide) rfl ?_
        clear hl
        try clear ls
        intro ls hl
        refine lv_iinc (v := nI (o + 1)) (lv' := [(4, .int (nI (o + 1))), (3, .int (s9 ||| ((nI 1) <<< ((nI b9) &&& 31)))), (2, .int (l9 &&& (((nI 1) <<< ((nI b9) &&& 31)) ^^^ (-1)))), (6, .int (nI b9)), (5, .int (nI j_7)), (0, .ref hm), (1, .int (nI a))]) hx hb dX12_drawSample_63 hl (k := 4) rfl (nI_add o 1) (by decide) rfl ?_
        clear hl
        try clear ls
        intro ls hl
        refine lv_goto (tgt := 20) hx hb dX12_drawSample_66 (by decide) ?_
        exact ih_loop_1 (o + 1) u_6 (l9 &&& (((nI 1) <<< ((nI b9) &&& 31)) ^^^ (-1))) (s9 ||| ((nI 1) <<< ((nI b9) &&& 31))) (by omega) (by have q := cnt_rem h_b9 hb9; omega) (dsI_s hd9 hw_r_5.1 (by rw [hn9, hw_r_5.2.1]) rfl rfl) (by omega) H locs ls hP hD hS (lv_sub hl [0, 1, 2, 5, 6] rfl)
  exact loop_1 _ 0 xd ((((nI 1) <<< ((nI n) &&& 31)) - (nI 1)) &&& (((nI 1) <<< ((nI a) &&& 31)) ^^^ (-1))) (nI 0) (by omega) (cnt_all hn.2 ha) rfl (Nat.lt_succ_self _) H locs ls hP hD hS (lv_sub hl [0, 1, 2, 3, 4] rfl)
