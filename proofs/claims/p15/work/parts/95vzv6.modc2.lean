set_option maxHeartbeats 4000000 in
set_option maxRecDepth 100000 in
theorem c_X12_widest_f (l : Launch) (D : va_G) (cs : Nat → ClassId) (hm ms mkp mtr mas mso mon mot man mst msm mtb mti mfr mbn mbs mde maa mab mba mbb : Nat) (n k al be km en : Nat) (ea pr nq po th xd sF sN sS ig : Int32) (xa xb : Int64) (anf : Nat → Int32) (hen : en ≤ 16) : xMet l D cs yX12_widest cX12_widest 5 (some .int) ({ frames := 2, cells := 0, slots := 0, locals := 43 } : Room) [.ref hm] [(hm, .inr (12, [.ref ms, .ref mkp, .int (nI km), .ref mtr, .int (nI n), .int (nI k), .int (nI al), .int (nI be), .int ea, .int pr, .ref mas, .int nq, .int po, .int (nI en), .ref mso, .ref mon, .ref mot, .ref man, .int th, .int xd, .ref mst, .ref msm, .ref mtb, .ref mti, .ref mfr, .ref mbn, .ref mbs, .ref mde, .int sF, .int sN, .int sS, .int ig, .long xa, .long xb, .ref maa, .ref mab, .ref mba, .ref mbb])), (man, .inl (cs 0, 16, .inl anf))] (xQi D (fun (r : Int32) (_u : Unit) => ∃ c, c ≤ 16 ∧ r = nI c ∧ wdM en anf c) (fun (_u : Unit) => [(hm, .inr (12, [.ref ms, .ref mkp, .int (nI km), .ref mtr, .int (nI n), .int (nI k), .int (nI al), .int (nI be), .int ea, .int pr, .ref mas, .int nq, .int po, .int (nI en), .ref mso, .ref mon, .ref mot, .ref man, .int th, .int xd, .ref mst, .ref msm, .ref mtb, .ref mti, .ref mfr, .ref mbn, .ref mbs, .ref mde, .int sF, .int sN, .int sS, .int ig, .long xa, .long xb, .ref maa, .ref mab, .ref mba, .ref mbb])), (man, .inl (cs 0, 16, .inl anf))])) := by
  refine xMet.intro (by decide) (Nat.le_of_ble_eq_true rfl) ?_
  intro p e s m args below meth c A ls C hP hD hS hl
  have hx := C.1
  have hb := C.2.1
  have hz := C.2.2.2.2.1
  have hown := C.2.2.2.1
  have hA := C.2.2.2.2.2.2.2.2.2
  have hAO := C.2.2.2.2.2.2.2.2.1.2.2
  replace hl : lv_has ls 5 [(0, .ref hm)] := hl
  obtain ⟨H, hH⟩ : ∃ H, H = s.heap := ⟨_, rfl⟩
  replace hP : va_P D vwCl [(hm, .inr (12, [.ref ms, .ref mkp, .int (nI km), .ref mtr, .int (nI n), .int (nI k), .int (nI al), .int (nI be), .int ea, .int pr, .ref mas, .int nq, .int po, .int (nI en), .ref mso, .ref mon, .ref mot, .ref man, .int th, .int xd, .ref mst, .ref msm, .ref mtb, .ref mti, .ref mfr, .ref mbn, .ref mbs, .ref mde, .int sF, .int sN, .int sS, .int ig, .long xa, .long xb, .ref maa, .ref mab, .ref mba, .ref mbb])), (man, .inl (cs 0, 16, .inl anf))] H := by rw [hH]; exact hP
  replace hS : va_S A s.heap H [] := by rw [hH]; exact hS
  obtain ⟨locs, hlocs⟩ : ∃ z : List Loc, z = [] := ⟨_, rfl⟩
  rw [← hlocs] at hS
  suffices hW : W p l e ({ frames := 2, cells := 0, slots := 0, locals := 43 } : Room) s m args below meth c H locs 0 0 (MQ below ((xQi D (fun (r : Int32) (_u : Unit) => ∃ c, c ≤ 16 ∧ r = nI c ∧ wdM en anf c) (fun (_u : Unit) => [(hm, .inr (12, [.ref ms, .ref mkp, .int (nI km), .ref mtr, .int (nI n), .int (nI k), .int (nI al), .int (nI be), .int ea, .int pr, .ref mas, .int nq, .int po, .int (nI en), .ref mso, .ref mon, .ref mot, .ref man, .int th, .int xd, .ref mst, .ref msm, .ref mtb, .ref mti, .ref mfr, .ref mbn, .ref mbs, .ref mde, .int sF, .int sN, .int sS, .int ig, .long xa, .long xb, .ref maa, .ref mab, .ref mba, .ref mbb])), (man, .inl (cs 0, 16, .inl anf))])) A) args s 0 0 A) (F0 m 0 ls []) by rw [hlocs, hH] at hW; exact hW
  clear hH hlocs
  have hpw := pow16 hen
  refine lv_iconst (v := nI 0) hx hb dX12_widest_0 (by decide) ?_
  refine lv_istore_n (lv' := [(1, .int (nI 0)), (0, .ref hm)]) hx hb dX12_widest_1 rfl hl (by decide) rfl ?_
  clear hl
  try clear ls
  intro ls hl
  refine lv_iconst (v := nI 0) hx hb dX12_widest_2 (by decide) ?_
  refine lv_istore_n (lv' := [(2, .int (nI 0)), (1, .int (nI 0)), (0, .ref hm)]) hx hb dX12_widest_3 rfl hl (by decide) rfl ?_
  clear hl
  try clear ls
  intro ls hl
  have loop_1 : ∀ (n_loop_1 : Nat) (o : Nat) (m9 : Nat), (o ≤ 65536) → (m9 ≤ 16) → (wmI en anf o m9) → 65536 - o < n_loop_1 → ∀ (H : Heap) (locs : List Loc) (ls : Array Slot), va_P D vwCl [(hm, .inr (12, [.ref ms, .ref mkp, .int (nI km), .ref mtr, .int (nI n), .int (nI k), .int (nI al), .int (nI be), .int ea, .int pr, .ref mas, .int nq, .int po, .int (nI en), .ref mso, .ref mon, .ref mot, .ref man, .int th, .int xd, .ref mst, .ref msm, .ref mtb, .ref mti, .ref mfr, .ref mbn, .ref mbs, .ref mde, .int sF, .int sN, .int sS, .int ig, .long xa, .long xb, .ref maa, .ref mab, .ref mba, .ref mbb])), (man, .inl (cs 0, 16, .inl anf))] H → va_D A [(hm, .inr (12, [.ref ms, .ref mkp, .int (nI km), .ref mtr, .int (nI n), .int (nI k), .int (nI al), .int (nI be), .int ea, .int pr, .ref mas, .int nq, .int po, .int (nI en), .ref mso, .ref mon, .ref mot, .ref man, .int th, .int xd, .ref mst, .ref msm, .ref mtb, .ref mti, .ref mfr, .ref mbn, .ref mbs, .ref mde, .int sF, .int sN, .int sS, .int ig, .long xa, .long xb, .ref maa, .ref mab, .ref mba, .ref mbb])), (man, .inl (cs 0, 16, .inl anf))] → va_S A s.heap H locs → lv_has ls 5 [(2, .int (nI o)), (1, .int (nI m9)), (0, .ref hm)] → W p l e ({ frames := 2, cells := 0, slots := 0, locals := 43 } : Room) s m args below meth c H locs 0 0 (MQ below ((xQi D (fun (r : Int32) (_u : Unit) => ∃ c, c ≤ 16 ∧ r = nI c ∧ wdM en anf c) (fun (_u : Unit) => [(hm, .inr (12, [.ref ms, .ref mkp, .int (nI km), .ref mtr, .int (nI n), .int (nI k), .int (nI al), .int (nI be), .int ea, .int pr, .ref mas, .int nq, .int po, .int (nI en), .ref mso, .ref mon, .ref mot, .ref man, .int th, .int xd, .ref mst, .ref msm, .ref mtb, .ref mti, .ref mfr, .ref mbn, .ref mbs, .ref mde, .int sF, .int sN, .int sS, .int ig, .long xa, .long xb, .ref maa, .ref mab, .ref mba, .ref mbb])), (man, .inl (cs 0, 16, .inl anf))])) A) args s 0 0 A) (F0 m 4 ls []) := by
    intro n_loop_1
    induction n_loop_1 with
    | zero => intro o m9 h_o hm16 hw9 hlt H locs ls hP hD hS hl; exact absurd hlt (Nat.not_lt_zero _)
    | succ n_loop_1 ih_loop_1 =>
      intro o m9 h_o hm16 hw9 hlt_loop_1 H locs ls hP hD hS hl
      refine lv_iload_n hx hb dX12_widest_4 rfl (lv_at hl 0 rfl) ?_
      refine lv_iconst (v := nI 1) hx hb dX12_widest_5 (by decide) ?_
      refine lv_aload_n hx hb dX12_widest_6 rfl (lv_at hl 2 rfl) ?_
      refine xget C hP 0 rfl rfl zuX12 13 (by decide) zw5_226 rfl dX12_widest_7 ?_
      refine lv_ishl hx hb dX12_widest_10 ?_
      refine lv_topi (nm_r (e' := nI (2 ^ en)) (xshl en (by omega)) ?_)
      refine lv_icmp_ge (tgt := 91) hx hb dX12_widest_11 (by decide) (fun c_2 => ?_) (fun c_2 => ?_)
      · -- 11 t
        have fc_2 : 2 ^ en ≤ o := nf_le (by omega) (by omega) c_2
        refine lv_iload_n hx hb dX12_widest_91 rfl (lv_at hl 1 rfl) ?_
        exact xreti C () (⟨m9, hm16, rfl, wm_end hen hw9 (by omega)⟩) hP hD hS (Nat.le_of_ble_eq_true rfl) (Nat.le_of_ble_eq_true rfl) rfl dX12_widest_92
      · -- 11 f
        have fc_2 : o < 2 ^ en := nf_nle (by omega) (by omega) c_2
        refine lv_iload_n hx hb dX12_widest_14 rfl (lv_at hl 0 rfl) ?_
        refine xi (wr := [(hm, .inr (12, [.ref ms, .ref mkp, .int (nI km), .ref mtr, .int (nI n), .int (nI k), .int (nI al), .int (nI be), .int ea, .int pr, .ref mas, .int nq, .int po, .int (nI en), .ref mso, .ref mon, .ref mot, .ref man, .int th, .int xd, .ref mst, .ref msm, .ref mtb, .ref mti, .ref mfr, .ref mbn, .ref mbs, .ref mde, .int sF, .int sN, .int sS, .int ig, .long xa, .long xb, .ref maa, .ref mab, .ref mba, .ref mbb])), (man, .inl (cs 0, 16, .inl anf))]) (xS (As := [.int (nI o)]) (rest := []) C (c_X12_many l D cs (nI o)) kX12_127 hP hD [] rfl (by decide) ⟨Nat.le_of_ble_eq_true rfl, Nat.le_of_ble_eq_true rfl⟩ rfl hl.1 rfl (Nat.le_of_ble_eq_true rfl) dX12_widest_15 ⟨Nat.le_of_ble_eq_true rfl, Nat.le_of_ble_eq_true rfl⟩) hP hD hS hA [] [0, 1] rfl rfl (by decide) (by decide) ?_
        clear hP hD hS
        try clear locs
        try clear H
        intro r_3 u_4 H locs hw_r_3 hP hD hS
        have hw_r_3 : r_3 = nI (cntL (nI o) 16) := hw_r_3
        refine W.widen (k := 0) (n := 0) (Nat.le_of_ble_eq_true rfl) (Nat.le_of_ble_eq_true rfl) ?_
        replace hP : va_P D vwCl [(hm, .inr (12, [.ref ms, .ref mkp, .int (nI km), .ref mtr, .int (nI n), .int (nI k), .int (nI al), .int (nI be), .int ea, .int pr, .ref mas, .int nq, .int po, .int (nI en), .ref mso, .ref mon, .ref mot, .ref man, .int th, .int xd, .ref mst, .ref msm, .ref mtb, .ref mti, .ref mfr, .ref mbn, .ref mbs, .ref mde, .int sF, .int sN, .int sS, .int ig, .long xa, .long xb, .ref maa, .ref mab, .ref mba, .ref mbb])), (man, .inl (cs 0, 16, .inl anf))] H := hP
        replace hD : va_D A [(hm, .inr (12, [.ref ms, .ref mkp, .int (nI km), .ref mtr, .int (nI n), .int (nI k), .int (nI al), .int (nI be), .int ea, .int pr, .ref mas, .int nq, .int po, .int (nI en), .ref mso, .ref mon, .ref mot, .ref man, .int th, .int xd, .ref mst, .ref msm, .ref mtb, .ref mti, .ref mfr, .ref mbn, .ref mbs, .ref mde, .int sF, .int sN, .int sS, .int ig, .long xa, .long xb, .ref maa, .ref mab, .ref mba, .ref mbb])), (man, .inl (cs 0, 16, .inl anf))] := hD
        obtain rfl : r_3 = nI (cntL (nI o) 16) := hw_r_3
        have hcle := cnt_le (nI o) 16
        refine lv_iload_n hx hb dX12_widest_18 rfl (lv_at hl 1 rfl) ?_
        refine lv_icmp_gt (tgt := 25) hx hb dX12_widest_19 (by decide) (fun c_5 => ?_) (fun c_5 => ?_)
        · -- 19 t
          have fc_5 : m9 < cntL (nI o) 16 := nf_lt (by omega) (by omega) c_5
          refine lv_iconst (v := nI 1) hx hb dX12_widest_25 (by decide) ?_
          refine lv_istore_n (lv' := [(3, .int (nI 1)), (2, .int (nI o)), (1, .int (nI m9)), (0, .ref hm)]) hx hb dX12_widest_26 rfl hl (by decide) rfl ?_
          clear hl
          try clear ls
          intro ls hl
          refine lv_iconst (v := nI 0) hx hb dX12_widest_27 (by decide) ?_
          refine lv_istore (lv' := [(4, .int (nI 0)), (3, .int (nI 1)), (2, .int (nI o)), (1, .int (nI m9)), (0, .ref hm)]) hx hb dX12_widest_28 hl (by decide) rfl ?_
          clear hl
          try clear ls
          intro ls hl
          have loop_6 : ∀ (n_loop_6 : Nat) (o2 : Nat) (i9 : Int32), (o2 ≤ en) → (isI en anf (nI o) o2 i9) → en - o2 < n_loop_6 → ∀ (H : Heap) (locs : List Loc) (ls : Array Slot), va_P D vwCl [(hm, .inr (12, [.ref ms, .ref mkp, .int (nI km), .ref mtr, .int (nI n), .int (nI k), .int (nI al), .int (nI be), .int ea, .int pr, .ref mas, .int nq, .int po, .int (nI en), .ref mso, .ref mon, .ref mot, .ref man, .int th, .int xd, .ref mst, .ref msm, .ref mtb, .ref mti, .ref mfr, .ref mbn, .ref mbs, .ref mde, .int sF, .int sN, .int sS, .int ig, .long xa, .long xb, .ref maa, .ref mab, .ref mba, .ref mbb])), (man, .inl (cs 0, 16, .inl anf))] H → va_D A [(hm, .inr (12, [.ref ms, .ref mkp, .int (nI km), .ref mtr, .int (nI n), .int (nI k), .int (nI al), .int (nI be), .int ea, .int pr, .ref mas, .int nq, .int po, .int (nI en), .ref mso, .ref mon, .ref mot, .ref man, .int th, .int xd, .ref mst, .ref msm, .ref mtb, .ref mti, .ref mfr, .ref mbn, .ref mbs, .ref mde, .int sF, .int sN, .int sS, .int ig, .long xa, .long xb, .ref maa, .ref mab, .ref mba, .ref mbb])), (man, .inl (cs 0, 16, .inl anf))] → va_S A s.heap H locs → lv_has ls 5 [(4, .int (nI o2)), (3, .int i9), (2, .int (nI o)), (1, .int (nI m9)), (0, .ref hm)] → W p l e ({ frames := 2, cells := 0, slots := 0, locals := 43 } : Room) s m args below meth c H locs 0 0 (MQ below ((xQi D (fun (r : Int32) (_u : Unit) => ∃ c, c ≤ 16 ∧ r = nI c ∧ wdM en anf c) (fun (_u : Unit) => [(hm, .inr (12, [.ref ms, .ref mkp, .int (nI km), .ref mtr, .int (nI n), .int (nI k), .int (nI al), .int (nI be), .int ea, .int pr, .ref mas, .int nq, .int po, .int (nI en), .ref mso, .ref mon, .ref mot, .ref man, .int th, .int xd, .ref mst, .ref msm, .ref mtb, .ref mti, .ref mfr, .ref mbn, .ref mbs, .ref mde, .int sF, .int sN, .int sS, .int ig, .long xa, .long xb, .ref maa, .ref mab, .ref mba, .ref mbb])), (man, .inl (cs 0, 16, .inl anf))])) A) args s 0 0 A) (F0 m 30 ls []) := by
            intro n_loop_6
            induction n_loop_6 with
            | zero => intro o2 i9 h_o2 hi9 hlt H locs ls hP hD hS hl; exact absurd hlt (Nat.not_lt_zero _)
            | succ n_loop_6 ih_loop_6 =>
              intro o2 i9 h_o2 hi9 hlt_loop_6 H locs ls hP hD hS hl
              refine lv_iload hx hb dX12_widest_30 (lv_at hl 0 rfl) ?_
              refine lv_aload_n hx hb dX12_widest_32 rfl (lv_at hl 4 rfl) ?_
              refine xget C hP 0 rfl rfl zuX12 13 (by decide) zw5_226 rfl dX12_widest_33 ?_
              refine lv_icmp_ge (tgt := 76) hx hb dX12_widest_36 (by decide) (fun c_7 => ?_) (fun c_7 => ?_)
              · -- 36 t
                have fc_7 : en ≤ o2 := nf_le (by omega) (by omega) c_7
                refine lv_iload_n hx hb dX12_widest_76 rfl (lv_at hl 1 rfl) ?_
                refine lv_if_eq (tgt := 85) hx hb dX12_widest_77 (by decide) (fun c_8 => ?_) (fun c_8 => ?_)
                · -- 77 t
                  refine lv_iinc (v := nI (o + 1)) (lv' := [(2, .int (nI (o + 1))), (4, .int (nI o2)), (3, .int i9), (1, .int (nI m9)), (0, .ref hm)]) hx hb dX12_widest_85 hl (k := 2) rfl (nI_add o 1) (by decide) rfl ?_
                  clear hl
                  try clear ls
                  intro ls hl
                  refine lv_goto (tgt := 4) hx hb dX12_widest_88 (by decide) ?_
                  exact ih_loop_1 (o + 1) m9 (by omega) (by first | omega | exact cnt_le _ 16) (wm_skip hw9 (fun q => absurd q (is_nac hi9 c_8))) (by omega) H locs ls hP hD hS (lv_sub hl [0, 3, 4] rfl)
                · -- 77 f
                  refine lv_iload_n hx hb dX12_widest_80 rfl (lv_at hl 2 rfl) ?_
                  refine xi (wr := [(hm, .inr (12, [.ref ms, .ref mkp, .int (nI km), .ref mtr, .int (nI n), .int (nI k), .int (nI al), .int (nI be), .int ea, .int pr, .ref mas, .int nq, .int po, .int (nI en), .ref mso, .ref mon, .ref mot, .ref man, .int th, .int xd, .ref mst, .ref msm, .ref mtb, .ref mti, .ref mfr, .ref mbn, .ref mbs, .ref mde, .int sF, .int sN, .int sS, .int ig, .long xa, .long xb, .ref maa, .ref mab, .ref mba, .ref mbb])), (man, .inl (cs 0, 16, .inl anf))]) (xS (As := [.int (nI o)]) (rest := []) C (c_X12_many l D cs (nI o)) kX12_127 hP hD [] rfl (by decide) ⟨Nat.le_of_ble_eq_true rfl, Nat.le_of_ble_eq_true rfl⟩ rfl hl.1 rfl (Nat.le_of_ble_eq_true rfl) dX12_widest_81 ⟨Nat.le_of_ble_eq_true rfl, Nat.le_of_ble_eq_true rfl⟩) hP hD hS hA [] [0, 1] rfl rfl (by decide) (by decide) ?_
                  clear hP hD hS
                  try clear locs
                  try clear H
                  intro r_9 u_10 H locs hw_r_9 hP hD hS
                  have hw_r_9 : r_9 = nI (cntL (nI o) 16) := hw_r_9
                  refine W.widen (k := 0) (n := 0) (Nat.le_of_ble_eq_true rfl) (Nat.le_of_ble_eq_true rfl) ?_
                  replace hP : va_P D vwCl [(hm, .inr (12, [.ref ms, .ref mkp, .int (nI km), .ref mtr, .int (nI n), .int (nI k), .int (nI al), .int (nI be), .int ea, .int pr, .ref mas, .int nq, .int po, .int (nI en), .ref mso, .ref mon, .ref mot, .ref man, .int th, .int xd, .ref mst, .ref msm, .ref mtb, .ref mti, .ref mfr, .ref mbn, .ref mbs, .ref mde, .int sF, .int sN, .int sS, .int ig, .long xa, .long xb, .ref maa, .ref mab, .ref mba, .ref mbb])), (man, .inl (cs 0, 16, .inl anf))] H := hP
                  replace hD : va_D A [(hm, .inr (12, [.ref ms, .ref mkp, .int (nI km), .ref mtr, .int (nI n), .int (nI k), .int (nI al), .int (nI be), .int ea, .int pr, .ref mas, .int nq, .int po, .int (nI en), .ref mso, .ref mon, .ref mot, .ref man, .int th, .int xd, .ref mst, .ref msm, .ref mtb, .ref mti, .ref mfr, .ref mbn, .ref mbs, .ref mde, .int sF, .int sN, .int sS, .int ig, .long xa, .long xb, .ref maa, .ref mab, .ref mba, .ref mbb])), (man, .inl (cs 0, 16, .inl anf))] := hD
                  obtain rfl : r_9 = nI (cntL (nI o) 16) := hw_r_9
                  have hcle := cnt_le (nI o) 16
                  refine lv_istore_n (lv' := [(1, .int (nI (cntL (nI o) 16))), (4, .int (nI o2)), (3, .int i9), (2, .int (nI o)), (0, .ref hm)]) hx hb dX12_widest_84 rfl hl (by decide) rfl ?_
                  clear hl
                  try clear ls
                  intro ls hl
                  refine lv_iinc (v := nI (o + 1)) (lv' := [(2, .int (nI (o + 1))), (1, .int (nI (cntL (nI o) 16))), (4, .int (nI o2)), (3, .int i9), (0, .ref hm)]) hx hb dX12_widest_85 hl (k := 3) rfl (nI_add o 1) (by decide) rfl ?_
                  clear hl
                  try clear ls
                  intro ls hl
                  refine lv_goto (tgt := 4) hx hb dX12_widest_88 (by decide) ?_
                  exact ih_loop_1 (o + 1) (cntL (nI o) 16) (by omega) (by first | omega | exact cnt_le _ 16) (wm_take hen (by omega) hw9 (is_ac hi9 c_8 (by omega)) (by have z := c_5; exact (nI_ltI (by omega) (by have := cnt_le (nI o) 16; omega)).mp z)) (by omega) H locs ls hP hD hS (lv_sub hl [0, 1, 4] rfl)
              · -- 36 f
                have fc_7 : o2 < en := nf_nle (by omega) (by omega) c_7
                refine lv_iload_n hx hb dX12_widest_39 rfl (lv_at hl 1 rfl) ?_
                refine lv_if_eq (tgt := 76) hx hb dX12_widest_40 (by decide) (fun c_11 => ?_) (fun c_11 => ?_)
                · -- 40 t
                  refine lv_iload_n hx hb dX12_widest_76 rfl (lv_at hl 1 rfl) ?_
                  refine lv_if_eq (tgt := 85) hx hb dX12_widest_77 (by decide) (fun _ => ?_) (fun c => absurd c_11 c)
                  refine lv_iinc (v := nI (o + 1)) (lv' := [(2, .int (nI (o + 1))), (4, .int (nI o2)), (3, .int i9), (1, .int (nI m9)), (0, .ref hm)]) hx hb dX12_widest_85 hl (k := 2) rfl (nI_add o 1) (by decide) rfl ?_
                  clear hl
                  try clear ls
                  intro ls hl
                  refine lv_goto (tgt := 4) hx hb dX12_widest_88 (by decide) ?_
                  exact ih_loop_1 (o + 1) m9 (by omega) (by first | omega | exact cnt_le _ 16) (wm_skip hw9 (fun q => absurd q (is_nac hi9 c_11))) (by omega) H locs ls hP hD hS (lv_sub hl [0, 3, 4] rfl)
                · -- 40 f
                  refine lv_iload_n hx hb dX12_widest_43 rfl (lv_at hl 2 rfl) ?_
                  refine lv_iload hx hb dX12_widest_44 (lv_at hl 0 rfl) ?_
                  refine xi (wr := [(hm, .inr (12, [.ref ms, .ref mkp, .int (nI km), .ref mtr, .int (nI n), .int (nI k), .int (nI al), .int (nI be), .int ea, .int pr, .ref mas, .int nq, .int po, .int (nI en), .ref mso, .ref mon, .ref mot, .ref man, .int th, .int xd, .ref mst, .ref msm, .ref mtb, .ref mti, .ref mfr, .ref mbn, .ref mbs, .ref mde, .int sF, .int sN, .int sS, .int ig, .long xa, .long xb, .ref maa, .ref mab, .ref mba, .ref mbb])), (man, .inl (cs 0, 16, .inl anf))]) (xS (As := [.int (nI o), .int (nI o2)]) (rest := []) C (c_X12_has l D cs (nI o) o2) kX12_100 hP hD [] rfl (by decide) ⟨Nat.le_of_ble_eq_true rfl, Nat.le_of_ble_eq_true rfl⟩ rfl hl.1 rfl (Nat.le_of_ble_eq_true rfl) dX12_widest_46 ⟨Nat.le_of_ble_eq_true rfl, Nat.le_of_ble_eq_true rfl⟩) hP hD hS hA [] [0, 1] rfl rfl (by decide) (by decide) ?_
                  clear hP hD hS
                  try clear locs
                  try clear H
                  intro r_12 u_13 H locs hw_r_12 hP hD hS
                  have hw_r_12 : PQ (hasB (nI o) o2) r_12 (nI 1) (nI 0) := hw_r_12
                  refine W.widen (k := 0) (n := 0) (Nat.le_of_ble_eq_true rfl) (Nat.le_of_ble_eq_true rfl) ?_
                  replace hP : va_P D vwCl [(hm, .inr (12, [.ref ms, .ref mkp, .int (nI km), .ref mtr, .int (nI n), .int (nI k), .int (nI al), .int (nI be), .int ea, .int pr, .ref mas, .int nq, .int po, .int (nI en), .ref mso, .ref mon, .ref mot, .ref man, .int th, .int xd, .ref mst, .ref msm, .ref mtb, .ref mti, .ref mfr, .ref mbn, .ref mbs, .ref mde, .int sF, .int sN, .int sS, .int ig, .long xa, .long xb, .ref maa, .ref mab, .ref mba, .ref mbb])), (man, .inl (cs 0, 16, .inl anf))] H := hP
                  replace hD : va_D A [(hm, .inr (12, [.ref ms, .ref mkp, .int (nI km), .ref mtr, .int (nI n), .int (nI k), .int (nI al), .int (nI be), .int ea, .int pr, .ref mas, .int nq, .int po, .int (nI en), .ref mso, .ref mon, .ref mot, .ref man, .int th, .int xd, .ref mst, .ref msm, .ref mtb, .ref mti, .ref mfr, .ref mbn, .ref mbs, .ref mde, .int sF, .int sN, .int sS, .int ig, .long xa, .long xb, .ref maa, .ref mab, .ref mba, .ref mbb])), (man, .inl (cs 0, 16, .inl anf))] := hD
                  refine lv_if_eq (tgt := 64) hx hb dX12_widest_49 (by decide) (fun c_14 => ?_) (fun c_14 => ?_)
                  · -- 49 t
                    refine lv_iconst (v := nI 1) hx hb dX12_widest_64 (by decide) ?_
                    refine lv_goto (tgt := 69) hx hb dX12_widest_65 (by decide) ?_
                    refine lv_istore_n (lv' := [(3, .int (nI 1)), (4, .int (nI o2)), (2, .int (nI o)), (1, .int (nI m9)), (0, .ref hm)]) hx hb dX12_widest_69 rfl hl (by decide) rfl ?_
                    clear hl
                    try clear ls
                    intro ls hl
                    refine lv_iinc (v := nI (o2 + 1)) (lv' := [(4, .int (nI (o2 + 1))), (3, .int (nI 1)), (2, .int (nI o)), (1, .int (nI m9)), (0, .ref hm)]) hx hb dX12_widest_70 hl (k := 1) rfl (nI_add o2 1) (by decide) rfl ?_
                    clear hl
                    try clear ls
                    intro ls hl
                    refine lv_goto (tgt := 30) hx hb dX12_widest_73 (by decide) ?_
                    exact ih_loop_6 (o2 + 1) (nI 1) (by omega) (is_yes hi9 c_11 (fun q => absurd q (PQ.no hw_r_12 c_14 (by decide)))) (by omega) H locs ls hP hD hS (lv_sub hl [0, 1, 2, 3, 4] rfl)
                  · -- 49 f
                    refine lv_aload_n hx hb dX12_widest_52 rfl (lv_at hl 4 rfl) ?_
                    refine xget C hP 0 rfl rfl zuX12 17 (by decide) zw5_230 rfl dX12_widest_53 ?_
                    refine lv_iload hx hb dX12_widest_56 (lv_at hl 0 rfl) ?_
                    refine xiald C hP 1 rfl o2 rfl (by omega) (by decide) dX12_widest_58 ?_
                    refine lv_iload_n hx hb dX12_widest_59 rfl (lv_at hl 2 rfl) ?_
                    refine lv_iand hx hb dX12_widest_60 ?_
                    refine lv_if_ne (tgt := 68) hx hb dX12_widest_61 (by decide) (fun c_15 => ?_) (fun c_15 => ?_)
                    · -- 61 t
                      refine lv_iconst (v := nI 0) hx hb dX12_widest_68 (by decide) ?_
                      refine lv_istore_n (lv' := [(3, .int (nI 0)), (4, .int (nI o2)), (2, .int (nI o)), (1, .int (nI m9)), (0, .ref hm)]) hx hb dX12_widest_69 rfl hl (by decide) rfl ?_
                      clear hl
                      try clear ls
                      intro ls hl
                      refine lv_iinc (v := nI (o2 + 1)) (lv' := [(4, .int (nI (o2 + 1))), (3, .int (nI 0)), (2, .int (nI o)), (1, .int (nI m9)), (0, .ref hm)]) hx hb dX12_widest_70 hl (k := 1) rfl (nI_add o2 1) (by decide) rfl ?_
                      clear hl
                      try clear ls
                      intro ls hl
                      refine lv_goto (tgt := 30) hx hb dX12_widest_73 (by decide) ?_
                      exact ih_loop_6 (o2 + 1) (nI 0) (by omega) (is_no (by omega) (PQ.yes hw_r_12 c_14) c_15) (by omega) H locs ls hP hD hS (lv_sub hl [0, 1, 2, 3, 4] rfl)
                    · -- 61 f
                      refine lv_iconst (v := nI 1) hx hb dX12_widest_64 (by decide) ?_
                      refine lv_goto (tgt := 69) hx hb dX12_widest_65 (by decide) ?_
                      refine lv_istore_n (lv' := [(3, .int (nI 1)), (4, .int (nI o2)), (2, .int (nI o)), (1, .int (nI m9)), (0, .ref hm)]) hx hb dX12_widest_69 rfl hl (by decide) rfl ?_
                      clear hl
                      try clear ls
                      intro ls hl
                      refine lv_iinc (v := nI (o2 + 1)) (lv' := [(4, .int (nI (o2 + 1))), (3, .int (nI 1)), (2, .int (nI o)), (1, .int (nI m9)), (0, .ref hm)]) hx hb dX12_widest_70 hl (k := 1) rfl (nI_add o2 1) (by decide) rfl ?_
                      clear hl
                      try clear ls
                      intro ls hl
                      refine lv_goto (tgt := 30) hx hb dX12_widest_73 (by decide) ?_
                      exact ih_loop_6 (o2 + 1) (nI 1) (by omega) (is_yes hi9 c_11 (fun _ => c_15)) (by omega) H locs ls hP hD hS (lv_sub hl [0, 1, 2, 3, 4] rfl)
          exact loop_6 _ 0 (nI 1) (by omega) (Or.inl ⟨rfl, fun e he => absurd he (Nat.not_lt_zero _)⟩) (Nat.lt_succ_self _) H locs ls hP hD hS (lv_sub hl [0, 1, 2, 3, 4] rfl)
        · -- 19 f
          have fc_5 : cntL (nI o) 16 ≤ m9 := nf_nlt (by omega) (by omega) c_5
          refine lv_goto (tgt := 85) hx hb dX12_widest_22 (by decide) ?_
          refine lv_iinc (v := nI (o + 1)) (lv' := [(2, .int (nI (o + 1))), (1, .int (nI m9)), (0, .ref hm)]) hx hb dX12_widest_85 hl (k := 0) rfl (nI_add o 1) (by decide) rfl ?_
          clear hl
          try clear ls
          intro ls hl
          refine lv_goto (tgt := 4) hx hb dX12_widest_88 (by decide) ?_
          exact ih_loop_1 (o + 1) m9 (by omega) (by first | omega | exact cnt_le _ 16) (wm_skip hw9 (fun _ => by have z := c_5; exact Decidable.byContradiction (fun q => z ((nI_ltI (by omega) (by have := cnt_le (nI o) 16; omega)).mpr (by omega))))) (by omega) H locs ls hP hD hS (lv_sub hl [0, 1, 2] rfl)
  exact loop_1 _ 0 0 (by omega) (by decide) (wm_0 hen anf) (Nat.lt_succ_self _) H locs ls hP hD hS (lv_sub hl [0, 1, 2] rfl)
