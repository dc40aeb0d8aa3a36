set_option maxHeartbeats 4000000 in
set_option maxRecDepth 100000 in
theorem c_X12_progeny (l : Launch) (D : va_G) (cs : Nat → ClassId) (hm ms mkp mtr mas mso mon mot man mst msm mtb mti mfr mbn mbs mde maa mab mba mbb : Nat) (n k al be km en : Nat) (ea pr nq po th xd sF sN sS ig : Int32) (xa xb : Int64) (x : Int32) (anf : Nat → Int32) (hen : en ≤ 16) : xMet l D cs yX12_progeny cX12_progeny 4 (some .int) ({ frames := 1, cells := 0, slots := 0, locals := 21 } : Room) [.ref hm, .int x] [(hm, .inr (12, [.ref ms, .ref mkp, .int (nI km), .ref mtr, .int (nI n), .int (nI k), .int (nI al), .int (nI be), .int ea, .int pr, .ref mas, .int nq, .int po, .int (nI en), .ref mso, .ref mon, .ref mot, .ref man, .int th, .int xd, .ref mst, .ref msm, .ref mtb, .ref mti, .ref mfr, .ref mbn, .ref mbs, .ref mde, .int sF, .int sN, .int sS, .int ig, .long xa, .long xb, .ref maa, .ref mab, .ref mba, .ref mbb])), (man, .inl (cs 0, 16, .inl anf))] (xQi D (fun (r : Int32) (_u : Unit) => True) (fun (_u : Unit) => [(hm, .inr (12, [.ref ms, .ref mkp, .int (nI km), .ref mtr, .int (nI n), .int (nI k), .int (nI al), .int (nI be), .int ea, .int pr, .ref mas, .int nq, .int po, .int (nI en), .ref mso, .ref mon, .ref mot, .ref man, .int th, .int xd, .ref mst, .ref msm, .ref mtb, .ref mti, .ref mfr, .ref mbn, .ref mbs, .ref mde, .int sF, .int sN, .int sS, .int ig, .long xa, .long xb, .ref maa, .ref mab, .ref mba, .ref mbb])), (man, .inl (cs 0, 16, .inl anf))])) := by
  refine xMet.intro (by decide) (Nat.le_of_ble_eq_true rfl) ?_
  intro p e s m args below meth c A ls C hP hD hS hl
  have hx := C.1
  have hb := C.2.1
  have hz := C.2.2.2.2.1
  have hown := C.2.2.2.1
  have hA := C.2.2.2.2.2.2.2.2.2
  have hAO := C.2.2.2.2.2.2.2.2.1.2.2
  replace hl : lv_has ls 4 [(0, .ref hm), (1, .int x)] := hl
  obtain ⟨H, hH⟩ : ∃ H, H = s.heap := ⟨_, rfl⟩
  replace hP : va_P D vwCl [(hm, .inr (12, [.ref ms, .ref mkp, .int (nI km), .ref mtr, .int (nI n), .int (nI k), .int (nI al), .int (nI be), .int ea, .int pr, .ref mas, .int nq, .int po, .int (nI en), .ref mso, .ref mon, .ref mot, .ref man, .int th, .int xd, .ref mst, .ref msm, .ref mtb, .ref mti, .ref mfr, .ref mbn, .ref mbs, .ref mde, .int sF, .int sN, .int sS, .int ig, .long xa, .long xb, .ref maa, .ref mab, .ref mba, .ref mbb])), (man, .inl (cs 0, 16, .inl anf))] H := by rw [hH]; exact hP
  replace hS : va_S A s.heap H [] := by rw [hH]; exact hS
  obtain ⟨locs, hlocs⟩ : ∃ z : List Loc, z = [] := ⟨_, rfl⟩
  rw [← hlocs] at hS
  suffices hW : W p l e ({ frames := 1, cells := 0, slots := 0, locals := 21 } : Room) s m args below meth c H locs 0 0 (MQ below ((xQi D (fun (r : Int32) (_u : Unit) => True) (fun (_u : Unit) => [(hm, .inr (12, [.ref ms, .ref mkp, .int (nI km), .ref mtr, .int (nI n), .int (nI k), .int (nI al), .int (nI be), .int ea, .int pr, .ref mas, .int nq, .int po, .int (nI en), .ref mso, .ref mon, .ref mot, .ref man, .int th, .int xd, .ref mst, .ref msm, .ref mtb, .ref mti, .ref mfr, .ref mbn, .ref mbs, .ref mde, .int sF, .int sN, .int sS, .int ig, .long xa, .long xb, .ref maa, .ref mab, .ref mba, .ref mbb])), (man, .inl (cs 0, 16, .inl anf))])) A) args s 0 0 A) (F0 m 0 ls []) by rw [hlocs, hH] at hW; exact hW
  clear hH hlocs
  refine lv_iconst (v := nI 0) hx hb dX12_progeny_0 (by decide) ?_
  refine lv_istore_n (lv' := [(2, .int (nI 0)), (0, .ref hm), (1, .int x)]) hx hb dX12_progeny_1 rfl hl (by decide) rfl ?_
  clear hl
  try clear ls
  intro ls hl
  refine lv_iconst (v := nI 0) hx hb dX12_progeny_2 (by decide) ?_
  refine lv_istore_n (lv' := [(3, .int (nI 0)), (2, .int (nI 0)), (0, .ref hm), (1, .int x)]) hx hb dX12_progeny_3 rfl hl (by decide) rfl ?_
  clear hl
  try clear ls
  intro ls hl
  have loop_1 : ∀ (n_loop_1 : Nat) (o : Nat) (b9 : Int32), (o ≤ en) → en - o < n_loop_1 → ∀ (H : Heap) (locs : List Loc) (ls : Array Slot), va_P D vwCl [(hm, .inr (12, [.ref ms, .ref mkp, .int (nI km), .ref mtr, .int (nI n), .int (nI k), .int (nI al), .int (nI be), .int ea, .int pr, .ref mas, .int nq, .int po, .int (nI en), .ref mso, .ref mon, .ref mot, .ref man, .int th, .int xd, .ref mst, .ref msm, .ref mtb, .ref mti, .ref mfr, .ref mbn, .ref mbs, .ref mde, .int sF, .int sN, .int sS, .int ig, .long xa, .long xb, .ref maa, .ref mab, .ref mba, .ref mbb])), (man, .inl (cs 0, 16, .inl anf))] H → va_D A [(hm, .inr (12, [.ref ms, .ref mkp, .int (nI km), .ref mtr, .int (nI n), .int (nI k), .int (nI al), .int (nI be), .int ea, .int pr, .ref mas, .int nq, .int po, .int (nI en), .ref mso, .ref mon, .ref mot, .ref man, .int th, .int xd, .ref mst, .ref msm, .ref mtb, .ref mti, .ref mfr, .ref mbn, .ref mbs, .ref mde, .int sF, .int sN, .int sS, .int ig, .long xa, .long xb, .ref maa, .ref mab, .ref mba, .ref mbb])), (man, .inl (cs 0, 16, .inl anf))] → va_S A s.heap H locs → lv_has ls 4 [(3, .int (nI o)), (2, .int b9), (0, .ref hm), (1, .int x)] → W p l e ({ frames := 1, cells := 0, slots := 0, locals := 21 } : Room) s m args below meth c H locs 0 0 (MQ below ((xQi D (fun (r : Int32) (_u : Unit) => True) (fun (_u : Unit) => [(hm, .inr (12, [.ref ms, .ref mkp, .int (nI km), .ref mtr, .int (nI n), .int (nI k), .int (nI al), .int (nI be), .int ea, .int pr, .ref mas, .int nq, .int po, .int (nI en), .ref mso, .ref mon, .ref mot, .ref man, .int th, .int xd, .ref mst, .ref msm, .ref mtb, .ref mti, .ref mfr, .ref mbn, .ref mbs, .ref mde, .int sF, .int sN, .int sS, .int ig, .long xa, .long xb, .ref maa, .ref mab, .ref mba, .ref mbb])), (man, .inl (cs 0, 16, .inl anf))])) A) args s 0 0 A) (F0 m 4 ls []) := by
    intro n_loop_1
    induction n_loop_1 with
    | zero => intro o b9 h_o hlt H locs ls hP hD hS hl; exact absurd hlt (Nat.not_lt_zero _)
    | succ n_loop_1 ih_loop_1 =>
      intro o b9 h_o hlt_loop_1 H locs ls hP hD hS hl
      refine lv_iload_n hx hb dX12_progeny_4 rfl (lv_at hl 0 rfl) ?_
      refine lv_aload_n hx hb dX12_progeny_5 rfl (lv_at hl 2 rfl) ?_
      refine xget C hP 0 rfl rfl zuX12 13 (by decide) zw5_226 rfl dX12_progeny_6 ?_
      refine lv_icmp_ge (tgt := 37) hx hb dX12_progeny_9 (by decide) (fun c_2 => ?_) (fun c_2 => ?_)
      · -- 9 t
        have fc_2 : en ≤ o := nf_le (by omega) (by omega) c_2
        refine lv_iload_n hx hb dX12_progeny_37 rfl (lv_at hl 1 rfl) ?_
        exact xreti C () trivial hP hD hS (Nat.le_of_ble_eq_true rfl) (Nat.le_of_ble_eq_true rfl) rfl dX12_progeny_38
      · -- 9 f
        have fc_2 : o < en := nf_nle (by omega) (by omega) c_2
        refine lv_aload_n hx hb dX12_progeny_12 rfl (lv_at hl 2 rfl) ?_
        refine xget C hP 0 rfl rfl zuX12 17 (by decide) zw5_230 rfl dX12_progeny_13 ?_
        refine lv_iload_n hx hb dX12_progeny_16 rfl (lv_at hl 0 rfl) ?_
        refine xiald C hP 1 rfl o rfl (by omega) (by decide) dX12_progeny_17 ?_
        refine lv_iload_n hx hb dX12_progeny_18 rfl (lv_at hl 3 rfl) ?_
        refine xi (wr := [(hm, .inr (12, [.ref ms, .ref mkp, .int (nI km), .ref mtr, .int (nI n), .int (nI k), .int (nI al), .int (nI be), .int ea, .int pr, .ref mas, .int nq, .int po, .int (nI en), .ref mso, .ref mon, .ref mot, .ref man, .int th, .int xd, .ref mst, .ref msm, .ref mtb, .ref mti, .ref mfr, .ref mbn, .ref mbs, .ref mde, .int sF, .int sN, .int sS, .int ig, .long xa, .long xb, .ref maa, .ref mab, .ref mba, .ref mbb])), (man, .inl (cs 0, 16, .inl anf))]) (xS (As := [.int (anf o), .int x]) (rest := []) C (c_X12_has_any l D cs (anf o) x) kX12_100 hP hD [] rfl (by decide +kernel) ⟨Nat.le_of_ble_eq_true rfl, Nat.le_of_ble_eq_true rfl⟩ rfl hl.1 rfl (Nat.le_of_ble_eq_true rfl) dX12_progeny_19 ⟨Nat.le_of_ble_eq_true rfl, Nat.le_of_ble_eq_true rfl⟩) hP hD hS hA [] [0, 1] rfl rfl (by decide +kernel) (by decide +kernel) ?_
        clear hP hD hS
        try clear locs
        try clear H
        intro r_3 u_4 H locs hw_r_3 hP hD hS
        have hw_r_3 : (r_3 = nI 0 ∨ r_3 = nI 1) := hw_r_3
        refine W.widen (k := 0) (n := 0) (Nat.le_of_ble_eq_true rfl) (Nat.le_of_ble_eq_true rfl) ?_
        replace hP : va_P D vwCl [(hm, .inr (12, [.ref ms, .ref mkp, .int (nI km), .ref mtr, .int (nI n), .int (nI k), .int (nI al), .int (nI be), .int ea, .int pr, .ref mas, .int nq, .int po, .int (nI en), .ref mso, .ref mon, .ref mot, .ref man, .int th, .int xd, .ref mst, .ref msm, .ref mtb, .ref mti, .ref mfr, .ref mbn, .ref mbs, .ref mde, .int sF, .int sN, .int sS, .int ig, .long xa, .long xb, .ref maa, .ref mab, .ref mba, .ref mbb])), (man, .inl (cs 0, 16, .inl anf))] H := hP
        replace hD : va_D A [(hm, .inr (12, [.ref ms, .ref mkp, .int (nI km), .ref mtr, .int (nI n), .int (nI k), .int (nI al), .int (nI be), .int ea, .int pr, .ref mas, .int nq, .int po, .int (nI en), .ref mso, .ref mon, .ref mot, .ref man, .int th, .int xd, .ref mst, .ref msm, .ref mtb, .ref mti, .ref mfr, .ref mbn, .ref mbs, .ref mde, .int sF, .int sN, .int sS, .int ig, .long xa, .long xb, .ref maa, .ref mab, .ref mba, .ref mbb])), (man, .inl (cs 0, 16, .inl anf))] := hD
        refine lv_if_eq (tgt := 31) hx hb dX12_progeny_22 (by decide) (fun c_5 => ?_) (fun c_5 => ?_)
        · -- 22 t
          refine lv_iinc (v := nI (o + 1)) (lv' := [(3, .int (nI (o + 1))), (2, .int b9), (0, .ref hm), (1, .int x)]) hx hb dX12_progeny_31 hl (k := 0) rfl (nI_add o 1) (by decide) rfl ?_
          clear hl
          try clear ls
          intro ls hl
          refine lv_goto (tgt := 4) hx hb dX12_progeny_34 (by decide) ?_
          exact ih_loop_1 (o + 1) b9 (by omega) (by omega) H locs ls hP hD hS (lv_sub hl [0, 1, 2, 3] rfl)
        · -- 22 f
          refine lv_iload_n hx hb dX12_progeny_25 rfl (lv_at hl 1 rfl) ?_
          refine lv_iconst (v := nI 1) hx hb dX12_progeny_26 (by decide) ?_
          refine lv_iload_n hx hb dX12_progeny_27 rfl (lv_at hl 0 rfl) ?_
          refine lv_ishl hx hb dX12_progeny_28 ?_
          refine lv_ior hx hb dX12_progeny_29 ?_
          refine lv_istore_n (lv' := [(2, .int (b9 ||| ((nI 1) <<< ((nI o) &&& 31)))), (3, .int (nI o)), (0, .ref hm), (1, .int x)]) hx hb dX12_progeny_30 rfl hl (by decide) rfl ?_
          clear hl
          try clear ls
          intro ls hl
          refine lv_iinc (v := nI (o + 1)) (lv' := [(3, .int (nI (o + 1))), (2, .int (b9 ||| ((nI 1) <<< ((nI o) &&& 31)))), (0, .ref hm), (1, .int x)]) hx hb dX12_progeny_31 hl (k := 1) rfl (nI_add o 1) (by decide) rfl ?_
          clear hl
          try clear ls
          intro ls hl
          refine lv_goto (tgt := 4) hx hb dX12_progeny_34 (by decide) ?_
          exact ih_loop_1 (o + 1) (b9 ||| ((nI 1) <<< ((nI o) &&& 31))) (by omega) (by omega) H locs ls hP hD hS (lv_sub hl [0, 1, 2, 3] rfl)
  exact loop_1 _ 0 (nI 0) (by omega) (Nat.lt_succ_self _) H locs ls hP hD hS (lv_sub hl [0, 1, 2, 3] rfl)

set_option maxHeartbeats 4000000 in
set_option maxRecDepth 100000 in
theorem c_X12_acceptedOf (l : Launch) (D : va_G) (cs : Nat → ClassId) (hm ms mkp mtr mas mso mon mot man mst msm mtb mti mfr mbn mbs mde maa mab mba mbb : Nat) (n k al be km en : Nat) (ea pr nq po th xd sF sN sS ig : Int32) (xa xb : Int64) (f : Nat → Int32) (v : Nat) (x : Int32) (sof : Nat → Int32) (hen : en ≤ 16) (hv : v < 8) : xMet l D cs yX12_acceptedOf cX12_acceptedOf 4 (some .int) ({ frames := 1, cells := 0, slots := 0, locals := 21 } : Room) [.ref hm, .int (nI v), .int x] [(hm, .inr (12, [.ref ms, .ref mkp, .int (nI km), .ref mtr, .int (nI n), .int (nI k), .int (nI al), .int (nI be), .int ea, .int pr, .ref mas, .int nq, .int po, .int (nI en), .ref mso, .ref mon, .ref mot, .ref man, .int th, .int xd, .ref mst, .ref msm, .ref mtb, .ref mti, .ref mfr, .ref mbn, .ref mbs, .ref mde, .int sF, .int sN, .int sS, .int ig, .long xa, .long xb, .ref maa, .ref mab, .ref mba, .ref mbb])), (ms, .inl (cs 0, 288, .inl f)), (mso, .inl (cs 0, 16, .inl sof))] (xQi D (fun (r : Int32) (_u : Unit) => r = -1 ∨ ∃ e, e < en ∧ r = nI e) (fun (_u : Unit) => [(hm, .inr (12, [.ref ms, .ref mkp, .int (nI km), .ref mtr, .int (nI n), .int (nI k), .int (nI al), .int (nI be), .int ea, .int pr, .ref mas, .int nq, .int po, .int (nI en), .ref mso, .ref mon, .ref mot, .ref man, .int th, .int xd, .ref mst, .ref msm, .ref mtb, .ref mti, .ref mfr, .ref mbn, .ref mbs, .ref mde, .int sF, .int sN, .int sS, .int ig, .long xa, .long xb, .ref maa, .ref mab, .ref mba, .ref mbb])), (ms, .inl (cs 0, 288, .inl f)), (mso, .inl (cs 0, 16, .inl sof))])) := by
  refine xMet.intro (by decide) (Nat.le_of_ble_eq_true rfl) ?_
  intro p e s m args below meth c A ls C hP hD hS hl
  have hx := C.1
  have hb := C.2.1
  have hz := C.2.2.2.2.1
  have hown := C.2.2.2.1
  have hA := C.2.2.2.2.2.2.2.2.2
  have hAO := C.2.2.2.2.2.2.2.2.1.2.2
  replace hl : lv_has ls 4 [(0, .ref hm), (1, .int (nI v)), (2, .int x)] := hl
  obtain ⟨H, hH⟩ : ∃ H, H = s.heap := ⟨_, rfl⟩
  replace hP : va_P D vwCl [(hm, .inr (12, [.ref ms, .ref mkp, .int (nI km), .ref mtr, .int (nI n), .int (nI k), .int (nI al), .int (nI be), .int ea, .int pr, .ref mas, .int nq, .int po, .int (nI en), .ref mso, .ref mon, .ref mot, .ref man, .int th, .int xd, .ref mst, .ref msm, .ref mtb, .ref mti, .ref mfr, .ref mbn, .ref mbs, .ref mde, .int sF, .int sN, .int sS, .int ig, .long xa, .long xb, .ref maa, .ref mab, .ref mba, .ref mbb])), (ms, .inl (cs 0, 288, .inl f)), (mso, .inl (cs 0, 16, .inl sof))] H := by rw [hH]; exact hP
  replace hS : va_S A s.heap H [] := by rw [hH]; exact hS
  obtain ⟨locs, hlocs⟩ : ∃ z : List Loc, z = [] := ⟨_, rfl⟩
  rw [← hlocs] at hS
  suffices hW : W p l e ({ frames := 1, cells := 0, slots := 0, locals := 21 } : Room) s m args below meth c H locs 0 0 (MQ below ((xQi D (fun (r : Int32) (_u : Unit) => r = -1 ∨ ∃ e, e < en ∧ r = nI e) (fun (_u : Unit) => [(hm, .inr (12, [.ref ms, .ref mkp, .int (nI km), .ref mtr, .int (nI n), .int (nI k), .int (nI al), .int (nI be), .int ea, .int pr, .ref mas, .int nq, .int po, .int (nI en), .ref mso, .ref mon, .ref mot, .ref man, .int th, .int xd, .ref mst, .ref msm, .ref mtb, .ref mti, .ref mfr, .ref mbn, .ref mbs, .ref mde, .int sF, .int sN, .int sS, .int ig, .long xa, .long xb, .ref maa, .ref mab, .ref mba, .ref mbb])), (ms, .inl (cs 0, 288, .inl f)), (mso, .inl (cs 0, 16, .inl sof))])) A) args s 0 0 A) (F0 m 0 ls []) by rw [hlocs, hH] at hW; exact hW
  clear hH hlocs
  refine lv_iconst (v := nI 0) hx hb dX12_acceptedOf_0 (by decide) ?_
  refine lv_istore_n (lv' := [(3, .int (nI 0)), (0, .ref hm), (1, .int (nI v)), (2, .int x)]) hx hb dX12_acceptedOf_1 rfl hl (by decide) rfl ?_
  clear hl
  try clear ls
  intro ls hl
  have loop_1 : ∀ (n_loop_1 : Nat) (o : Nat), (o ≤ en) → en - o < n_loop_1 → ∀ (H : Heap) (locs : List Loc) (ls : Array Slot), va_P D vwCl [(hm, .inr (12, [.ref ms, .ref mkp, .int (nI km), .ref mtr, .int (nI n), .int (nI k), .int (nI al), .int (nI be), .int ea, .int pr, .ref mas, .int nq, .int po, .int (nI en), .ref mso, .ref mon, .ref mot, .ref man, .int th, .int xd, .ref mst, .ref msm, .ref mtb, .ref mti, .ref mfr, .ref mbn, .ref mbs, .ref mde, .int sF, .int sN, .int sS, .int ig, .long xa, .long xb, .ref maa, .ref mab, .ref mba, .ref mbb])), (ms, .inl (cs 0, 288, .inl f)), (mso, .inl (cs 0, 16, .inl sof))] H → va_D A [(hm, .inr (12, [.ref ms, .ref mkp, .int (nI km), .ref mtr, .int (nI n), .int (nI k), .int (nI al), .int (nI be), .int ea, .int pr, .ref mas, .int nq, .int po, .int (nI en), .ref mso, .ref mon, .ref mot, .ref man, .int th, .int xd, .ref mst, .ref msm, .ref mtb, .ref mti, .ref mfr, .ref mbn, .ref mbs, .ref mde, .int sF, .int sN, .int sS, .int ig, .long xa, .long xb, .ref maa, .ref mab, .ref mba, .ref mbb])), (ms, .inl (cs 0, 288, .inl f)), (mso, .inl (cs 0, 16, .inl sof))] → va_S A s.heap H locs → lv_has ls 4 [(3, .int (nI o)), (0, .ref hm), (1, .int (nI v)), (2, .int x)] → W p l e ({ frames := 1, cells := 0, slots := 0, locals := 21 } : Room) s m args below meth c H locs 0 0 (MQ below ((xQi D (fun (r : Int32) (_u : Unit) => r = -1 ∨ ∃ e, e < en ∧ r = nI e) (fun (_u : Unit) => [(hm, .inr (12, [.ref ms, .ref mkp, .int (nI km), .ref mtr, .int (nI n), .int (nI k), .int (nI al), .int (nI be), .int ea, .int pr, .ref mas, .int nq, .int po, .int (nI en), .ref mso, .ref mon, .ref mot, .ref man, .int th, .int xd, .ref mst, .ref msm, .ref mtb, .ref mti, .ref mfr, .ref mbn, .ref mbs, .ref mde, .int sF, .int sN, .int sS, .int ig, .long xa, .long xb, .ref maa, .ref mab, .ref mba, .ref mbb])), (ms, .inl (cs 0, 288, .inl f)), (mso, .inl (cs 0, 16, .inl sof))])) A) args s 0 0 A) (F0 m 2 ls []) := by
    intro n_loop_1
    induction n_loop_1 with
    | zero => intro o h_o hlt H locs ls hP hD hS hl; exact absurd hlt (Nat.not_lt_zero _)
    | succ n_loop_1 ih_loop_1 =>
      intro o h_o hlt_loop_1 H locs ls hP hD hS hl
      refine lv_iload_n hx hb dX12_acceptedOf_2 rfl (lv_at hl 0 rfl) ?_
      refine lv_aload_n hx hb dX12_acceptedOf_3 rfl (lv_at hl 1 rfl) ?_
      refine xget C hP 0 rfl rfl zuX12 13 (by decide) zw5_226 rfl dX12_acceptedOf_4 ?_
      refine lv_icmp_ge (tgt := 44) hx hb dX12_acceptedOf_7 (by decide) (fun c_2 => ?_) (fun c_2 => ?_)
      · -- 7 t
        have fc_2 : en ≤ o := nf_le (by omega) (by omega) c_2
        refine lv_iconst (v := (-1)) hx hb dX12_acceptedOf_44 (by decide) ?_
        exact xreti C () (Or.inl rfl) hP hD hS (Nat.le_of_ble_eq_true rfl) (Nat.le_of_ble_eq_true rfl) rfl dX12_acceptedOf_45
      · -- 7 f
        have fc_2 : o < en := nf_nle (by omega) (by omega) c_2
        refine lv_aload_n hx hb dX12_acceptedOf_10 rfl (lv_at hl 1 rfl) ?_
        refine xget C hP 0 rfl rfl zuX12 14 (by decide) zw5_227 rfl dX12_acceptedOf_11 ?_
        refine lv_iload_n hx hb dX12_acceptedOf_14 rfl (lv_at hl 0 rfl) ?_
        refine xiald C hP 2 rfl o rfl (by omega) (by decide) dX12_acceptedOf_15 ?_
        refine lv_iload_n hx hb dX12_acceptedOf_16 rfl (lv_at hl 3 rfl) ?_
        refine lv_icmp_ne (tgt := 38) hx hb dX12_acceptedOf_17 (by decide) (fun c_3 => ?_) (fun c_3 => ?_)
        · -- 17 t
          refine lv_iinc (v := nI (o + 1)) (lv' := [(3, .int (nI (o + 1))), (0, .ref hm), (1, .int (nI v)), (2, .int x)]) hx hb dX12_acceptedOf_38 hl (k := 0) rfl (nI_add o 1) (by decide) rfl ?_
          clear hl
          try clear ls
          intro ls hl
          refine lv_goto (tgt := 2) hx hb dX12_acceptedOf_41 (by decide) ?_
          exact ih_loop_1 (o + 1) (by omega) (by omega) H locs ls hP hD hS (lv_sub hl [0, 1, 2, 3] rfl)
        · -- 17 f
          refine lv_aload_n hx hb dX12_acceptedOf_20 rfl (lv_at hl 1 rfl) ?_
          refine xget C hP 0 rfl rfl zuX12 0 (by decide) zw5_213 rfl dX12_acceptedOf_21 ?_
          refine lv_bipush (v := nI 80) hx hb dX12_acceptedOf_24 (by decide) ?_
          refine lv_iload_n hx hb dX12_acceptedOf_26 rfl (lv_at hl 2 rfl) ?_
          refine lv_iadd hx hb dX12_acceptedOf_27 ?_
          refine lv_topi (nm_r (e' := nI (80 + v)) (nI_add _ _) ?_)
          refine xiald C hP 1 rfl (80 + v) rfl (by omega) (by decide) dX12_acceptedOf_28 ?_
          refine lv_iload_n hx hb dX12_acceptedOf_29 rfl (lv_at hl 0 rfl) ?_
          refine xi (wr := [(hm, .inr (12, [.ref ms, .ref mkp, .int (nI km), .ref mtr, .int (nI n), .int (nI k), .int (nI al), .int (nI be), .int ea, .int pr, .ref mas, .int nq, .int po, .int (nI en), .ref mso, .ref mon, .ref mot, .ref man, .int th, .int xd, .ref mst, .ref msm, .ref mtb, .ref mti, .ref mfr, .ref mbn, .ref mbs, .ref mde, .int sF, .int sN, .int sS, .int ig, .long xa, .long xb, .ref maa, .ref mab, .ref mba, .ref mbb])), (ms, .inl (cs 0, 288, .inl f)), (mso, .inl (cs 0, 16, .inl sof))]) (xS (As := [.int (f (80 + v)), .int (nI o)]) (rest := []) C (c_X12_has l D cs (f (80 + v)) o) kX12_100 hP hD [] rfl (by decide +kernel) ⟨Nat.le_of_ble_eq_true rfl, Nat.le_of_ble_eq_true rfl⟩ rfl hl.1 rfl (Nat.le_of_ble_eq_true rfl) dX12_acceptedOf_30 ⟨Nat.le_of_ble_eq_true rfl, Nat.le_of_ble_eq_true rfl⟩) hP hD hS hA [] [0, 1, 2] rfl rfl (by decide +kernel) (by decide +kernel) ?_
          clear hP hD hS
          try clear locs
          try clear H
          intro r_4 u_5 H locs hw_r_4 hP hD hS
          have hw_r_4 : PQ (hasB (f (80 + v)) o) r_4 (nI 1) (nI 0) := hw_r_4
          refine W.widen (k := 0) (n := 0) (Nat.le_of_ble_eq_true rfl) (Nat.le_of_ble_eq_true rfl) ?_
          replace hP : va_P D vwCl [(hm, .inr (12, [.ref ms, .ref mkp, .int (nI km), .ref mtr, .int (nI n), .int (nI k), .int (nI al), .int (nI be), .int ea, .int pr, .ref mas, .int nq, .int po, .int (nI en), .ref mso, .ref mon, .ref mot, .ref man, .int th, .int xd, .ref mst, .ref msm, .ref mtb, .ref mti, .ref mfr, .ref mbn, .ref mbs, .ref mde, .int sF, .int sN, .int sS, .int ig, .long xa, .long xb, .ref maa, .ref mab, .ref mba, .ref mbb])), (ms, .inl (cs 0, 288, .inl f)), (mso, .inl (cs 0, 16, .inl sof))] H := hP
          replace hD : va_D A [(hm, .inr (12, [.ref ms, .ref mkp, .int (nI km), .ref mtr, .int (nI n), .int (nI k), .int (nI al), .int (nI be), .int ea, .int pr, .ref mas, .int nq, .int po, .int (nI en), .ref mso, .ref mon, .ref mot, .ref man, .int th, .int xd, .ref mst, .ref msm, .ref mtb, .ref mti, .ref mfr, .ref mbn, .ref mbs, .ref mde, .int sF, .int sN, .int sS, .int ig, .long xa, .long xb, .ref maa, .ref mab, .ref mba, .ref mbb])), (ms, .inl (cs 0, 288, .inl f)), (mso, .inl (cs 0, 16, .inl sof))] := hD
          refine lv_if_eq (tgt := 38) hx hb dX12_acceptedOf_33 (by decide) (fun c_6 => ?_) (fun c_6 => ?_)
          · -- 33 t
            refine lv_iinc (v := nI (o + 1)) (lv' := [(3, .int (nI (o + 1))), (0, .ref hm), (1, .int (nI v)), (2, .int x)]) hx hb dX12_acceptedOf_38 hl (k := 0) rfl (nI_add o 1) (by decide) rfl ?_
            clear hl
            try clear ls
            intro ls hl
            refine lv_goto (tgt := 2) hx hb dX12_acceptedOf_41 (by decide) ?_
            exact ih_loop_1 (o + 1) (by omega) (by omega) H locs ls hP hD hS (lv_sub hl [0, 1, 2, 3] rfl)
          · -- 33 f
            refine lv_iload_n hx hb dX12_acceptedOf_36 rfl (lv_at hl 0 rfl) ?_
            exact xreti C () (Or.inr ⟨o, by omega, rfl⟩) hP hD hS (Nat.le_of_ble_eq_true rfl) (Nat.le_of_ble_eq_true rfl) rfl dX12_acceptedOf_37
  exact loop_1 _ 0 (by omega) (Nat.lt_succ_self _) H locs ls hP hD hS (lv_sub hl [0, 1, 2, 3] rfl)

set_option maxHeartbeats 4000000 in
set_option maxRecDepth 100000 in
theorem c_X12_confOf (l : Launch) (D : va_G) (cs : Nat → ClassId) (hm ms mkp mtr mas mso mon mot man mst msm mtb mti mfr mbn mbs mde maa mab mba mbb : Nat) (n k al be km en : Nat) (ea pr nq po th xd sF sN sS ig : Int32) (xa xb : Int64) (f : Nat → Int32) (v : Nat) (x : Int32) (anf : Nat → Int32) (hen : en ≤ 16) (hv : v < 8) : xMet l D cs yX12_confOf cX12_confOf 3 (some .int) ({ frames := 2, cells := 0, slots := 0, locals := 44 } : Room) [.ref hm, .int (nI v), .int x] [(hm, .inr (12, [.ref ms, .ref mkp, .int (nI km), .ref mtr, .int (nI n), .int (nI k), .int (nI al), .int (nI be), .int ea, .int pr, .ref mas, .int nq, .int po, .int (nI en), .ref mso, .ref mon, .ref mot, .ref man, .int th, .int xd, .ref mst, .ref msm, .ref mtb, .ref mti, .ref mfr, .ref mbn, .ref mbs, .ref mde, .int sF, .int sN, .int sS, .int ig, .long xa, .long xb, .ref maa, .ref mab, .ref mba, .ref mbb])), (ms, .inl (cs 0, 288, .inl f)), (man, .inl (cs 0, 16, .inl anf))] (xQi D (fun (r : Int32) (_u : Unit) => True) (fun (_u : Unit) => [(hm, .inr (12, [.ref ms, .ref mkp, .int (nI km), .ref mtr, .int (nI n), .int (nI k), .int (nI al), .int (nI be), .int ea, .int pr, .ref mas, .int nq, .int po, .int (nI en), .ref mso, .ref mon, .ref mot, .ref man, .int th, .int xd, .ref mst, .ref msm, .ref mtb, .ref mti, .ref mfr, .ref mbn, .ref mbs, .ref mde, .int sF, .int sN, .int sS, .int ig, .long xa, .long xb, .ref maa, .ref mab, .ref mba, .ref mbb])), (ms, .inl (cs 0, 288, .inl f)), (man, .inl (cs 0, 16, .inl anf))])) := by
  refine xMet.intro (by decide) (Nat.le_of_ble_eq_true rfl) ?_
  intro p e s m args below meth c A ls C hP hD hS hl
  have hx := C.1
  have hb := C.2.1
  have hz := C.2.2.2.2.1
  have hown := C.2.2.2.1
  have hA := C.2.2.2.2.2.2.2.2.2
  have hAO := C.2.2.2.2.2.2.2.2.1.2.2
  replace hl : lv_has ls 3 [(0, .ref hm), (1, .int (nI v)), (2, .int x)] := hl
  obtain ⟨H, hH⟩ : ∃ H, H = s.heap := ⟨_, rfl⟩
  replace hP : va_P D vwCl [(hm, .inr (12, [.ref ms, .ref mkp, .int (nI km), .ref mtr, .int (nI n), .int (nI k), .int (nI al), .int (nI be), .int ea, .int pr, .ref mas, .int nq, .int po, .int (nI en), .ref mso, .ref mon, .ref mot, .ref man, .int th, .int xd, .ref mst, .ref msm, .ref mtb, .ref mti, .ref mfr, .ref mbn, .ref mbs, .ref mde, .int sF, .int sN, .int sS, .int ig, .long xa, .long xb, .ref maa, .ref mab, .ref mba, .ref mbb])), (ms, .inl (cs 0, 288, .inl f)), (man, .inl (cs 0, 16, .inl anf))] H := by rw [hH]; exact hP
  replace hS : va_S A s.heap H [] := by rw [hH]; exact hS
  obtain ⟨locs, hlocs⟩ : ∃ z : List Loc, z = [] := ⟨_, rfl⟩
  rw [← hlocs] at hS
  suffices hW : W p l e ({ frames := 2, cells := 0, slots := 0, locals := 44 } : Room) s m args below meth c H locs 0 0 (MQ below ((xQi D (fun (r : Int32) (_u : Unit) => True) (fun (_u : Unit) => [(hm, .inr (12, [.ref ms, .ref mkp, .int (nI km), .ref mtr, .int (nI n), .int (nI k), .int (nI al), .int (nI be), .int ea, .int pr, .ref mas, .int nq, .int po, .int (nI en), .ref mso, .ref mon, .ref mot, .ref man, .int th, .int xd, .ref mst, .ref msm, .ref mtb, .ref mti, .ref mfr, .ref mbn, .ref mbs, .ref mde, .int sF, .int sN, .int sS, .int ig, .long xa, .long xb, .ref maa, .ref mab, .ref mba, .ref mbb])), (ms, .inl (cs 0, 288, .inl f)), (man, .inl (cs 0, 16, .inl anf))])) A) args s 0 0 A) (F0 m 0 ls []) by rw [hlocs, hH] at hW; exact hW
  clear hH hlocs
  refine lv_aload_n hx hb dX12_confOf_0 rfl (lv_at hl 0 rfl) ?_
  refine xget C hP 0 rfl rfl zuX12 0 (by decide) zw5_213 rfl dX12_confOf_1 ?_
  refine lv_bipush (v := nI 64) hx hb dX12_confOf_4 (by decide) ?_
  refine lv_iload_n hx hb dX12_confOf_6 rfl (lv_at hl 1 rfl) ?_
  refine lv_iadd hx hb dX12_confOf_7 ?_
  refine lv_topi (nm_r (e' := nI (64 + v)) (nI_add _ _) ?_)
  refine xiald C hP 1 rfl (64 + v) rfl (by omega) (by decide) dX12_confOf_8 ?_
  refine lv_aload_n hx hb dX12_confOf_9 rfl (lv_at hl 0 rfl) ?_
  refine lv_iload_n hx hb dX12_confOf_10 rfl (lv_at hl 2 rfl) ?_
  refine xi (wr := [(ms, .inl (cs 0, 288, .inl f))]) (xV (As := [.int x]) (rest := [.int (f (64 + v))]) C (c_X12_progeny l D cs hm ms mkp mtr mas mso mon mot man mst msm mtb mti mfr mbn mbs mde maa mab mba mbb n k al be km en ea pr nq po th xd sF sN sS ig xa xb x anf hen) kX12_313 hP hD [0, 2] rfl (by decide +kernel) 0 rfl rfl rfl ⟨Nat.le_of_ble_eq_true rfl, Nat.le_of_ble_eq_true rfl⟩ rfl hl.1 rfl (Nat.le_of_ble_eq_true rfl) dX12_confOf_11 ⟨Nat.le_of_ble_eq_true rfl, Nat.le_of_ble_eq_true rfl⟩) hP hD hS hA [0, 2] [1] rfl rfl (by decide +kernel) (by decide +kernel) ?_
  clear hP hD hS
  try clear locs
  try clear H
  intro r_1 u_2 H locs hw_r_1 hP hD hS
  refine W.widen (k := 0) (n := 0) (Nat.le_of_ble_eq_true rfl) (Nat.le_of_ble_eq_true rfl) ?_
  replace hP : va_P D vwCl [(ms, .inl (cs 0, 288, .inl f)), (hm, .inr (12, [.ref ms, .ref mkp, .int (nI km), .ref mtr, .int (nI n), .int (nI k), .int (nI al), .int (nI be), .int ea, .int pr, .ref mas, .int nq, .int po, .int (nI en), .ref mso, .ref mon, .ref mot, .ref man, .int th, .int xd, .ref mst, .ref msm, .ref mtb, .ref mti, .ref mfr, .ref mbn, .ref mbs, .ref mde, .int sF, .int sN, .int sS, .int ig, .long xa, .long xb, .ref maa, .ref mab, .ref mba, .ref mbb])), (man, .inl (cs 0, 16, .inl anf))] H := hP
  replace hD : va_D A [(ms, .inl (cs 0, 288, .inl f)), (hm, .inr (12, [.ref ms, .ref mkp, .int (nI km), .ref mtr, .int (nI n), .int (nI k), .int (nI al), .int (nI be), .int ea, .int pr, .ref mas, .int nq, .int po, .int (nI en), .ref mso, .ref mon, .ref mot, .ref man, .int th, .int xd, .ref mst, .ref msm, .ref mtb, .ref mti, .ref mfr, .ref mbn, .ref mbs, .ref mde, .int sF, .int sN, .int sS, .int ig, .long xa, .long xb, .ref maa, .ref mab, .ref mba, .ref mbb])), (man, .inl (cs 0, 16, .inl anf))] := hD
  refine lv_iconst (v := nI 1) hx hb dX12_confOf_14 (by decide) ?_
  refine lv_iload_n hx hb dX12_confOf_15 rfl (lv_at hl 2 rfl) ?_
  refine lv_ishl hx hb dX12_confOf_16 ?_
  refine lv_ior hx hb dX12_confOf_17 ?_
  refine lv_iand hx hb dX12_confOf_18 ?_
  refine xi (wr := [(ms, .inl (cs 0, 288, .inl f)), (hm, .inr (12, [.ref ms, .ref mkp, .int (nI km), .ref mtr, .int (nI n), .int (nI k), .int (nI al), .int (nI be), .int ea, .int pr, .ref mas, .int nq, .int po, .int (nI en), .ref mso, .ref mon, .ref mot, .ref man, .int th, .int xd, .ref mst, .ref msm, .ref mtb, .ref mti, .ref mfr, .ref mbn, .ref mbs, .ref mde, .int sF, .int sN, .int sS, .int ig, .long xa, .long xb, .ref maa, .ref mab, .ref mba, .ref mbb])), (man, .inl (cs 0, 16, .inl anf))]) (xS (As := [.int ((f (64 + v)) &&& (r_1 ||| ((nI 1) <<< (x &&& 31))))]) (rest := []) C (c_X12_many l D cs ((f (64 + v)) &&& (r_1 ||| ((nI 1) <<< (x &&& 31))))) kX12_127 hP hD [] rfl (by decide +kernel) ⟨Nat.le_of_ble_eq_true rfl, Nat.le_of_ble_eq_true rfl⟩ rfl hl.1 rfl (Nat.le_of_ble_eq_true rfl) dX12_confOf_19 ⟨Nat.le_of_ble_eq_true rfl, Nat.le_of_ble_eq_true rfl⟩) hP hD hS hA [] [0, 1, 2] rfl rfl (by decide +kernel) (by decide +kernel) ?_
  clear hP hD hS
  try clear locs
  try clear H
  intro r_3 u_4 H locs hw_r_3 hP hD hS
  have hw_r_3 : r_3 = nI (cntL ((f (64 + v)) &&& (r_1 ||| ((nI 1) <<< (x &&& 31)))) 16) := hw_r_3
  refine W.widen (k := 0) (n := 0) (Nat.le_of_ble_eq_true rfl) (Nat.le_of_ble_eq_true rfl) ?_
  replace hP : va_P D vwCl [(ms, .inl (cs 0, 288, .inl f)), (hm, .inr (12, [.ref ms, .ref mkp, .int (nI km), .ref mtr, .int (nI n), .int (nI k), .int (nI al), .int (nI be), .int ea, .int pr, .ref mas, .int nq, .int po, .int (nI en), .ref mso, .ref mon, .ref mot, .ref man, .int th, .int xd, .ref mst, .ref msm, .ref mtb, .ref mti, .ref mfr, .ref mbn, .ref mbs, .ref mde, .int sF, .int sN, .int sS, .int ig, .long xa, .long xb, .ref maa, .ref mab, .ref mba, .ref mbb])), (man, .inl (cs 0, 16, .inl anf))] H := hP
  replace hD : va_D A [(ms, .inl (cs 0, 288, .inl f)), (hm, .inr (12, [.ref ms, .ref mkp, .int (nI km), .ref mtr, .int (nI n), .int (nI k), .int (nI al), .int (nI be), .int ea, .int pr, .ref mas, .int nq, .int po, .int (nI en), .ref mso, .ref mon, .ref mot, .ref man, .int th, .int xd, .ref mst, .ref msm, .ref mtb, .ref mti, .ref mfr, .ref mbn, .ref mbs, .ref mde, .int sF, .int sN, .int sS, .int ig, .long xa, .long xb, .ref maa, .ref mab, .ref mba, .ref mbb])), (man, .inl (cs 0, 16, .inl anf))] := hD
  exact xreti C () trivial (xP_map hP [1, 0, 2] rfl) (hD.sub [1, 0, 2] (by decide +kernel) rfl) hS (Nat.le_of_ble_eq_true rfl) (Nat.le_of_ble_eq_true rfl) rfl dX12_confOf_22

set_option maxHeartbeats 4000000 in
set_option maxRecDepth 100000 in
theorem c_X12_isStrong (l : Launch) (D : va_G) (cs : Nat → ClassId) (hm ms mkp mtr mas mso mon mot man mst msm mtb mti mfr mbn mbs mde maa mab mba mbb : Nat) (n k al be km en : Nat) (ea pr nq po th xd sF sN sS ig : Int32) (xa xb : Int64) (f : Nat → Int32) (v e0 : Nat) (sof anf : Nat → Int32) (hen : en ≤ 16) (hso : inP 16 8 sof) (hv : v < 8) (he : e0 < 16) : xMet l D cs yX12_isStrong cX12_isStrong 4 (some .boolean) ({ frames := 1, cells := 0, slots := 0, locals := 21 } : Room) [.ref hm, .int (nI v), .int (nI e0)] [(hm, .inr (12, [.ref ms, .ref mkp, .int (nI km), .ref mtr, .int (nI n), .int (nI k), .int (nI al), .int (nI be), .int ea, .int pr, .ref mas, .int nq, .int po, .int (nI en), .ref mso, .ref mon, .ref mot, .ref man, .int th, .int xd, .ref mst, .ref msm, .ref mtb, .ref mti, .ref mfr, .ref mbn, .ref mbs, .ref mde, .int sF, .int sN, .int sS, .int ig, .long xa, .long xb, .ref maa, .ref mab, .ref mba, .ref mbb])), (ms, .inl (cs 0, 288, .inl f)), (mso, .inl (cs 0, 16, .inl sof)), (man, .inl (cs 0, 16, .inl anf))] (xQi D (fun (r : Int32) (_u : Unit) => (r = nI 0 ∨ r = nI 1)) (fun (_u : Unit) => [(hm, .inr (12, [.ref ms, .ref mkp, .int (nI km), .ref mtr, .int (nI n), .int (nI k), .int (nI al), .int (nI be), .int ea, .int pr, .ref mas, .int nq, .int po, .int (nI en), .ref mso, .ref mon, .ref mot, .ref man, .int th, .int xd, .ref mst, .ref msm, .ref mtb, .ref mti, .ref mfr, .ref mbn, .ref mbs, .ref mde, .int sF, .int sN, .int sS, .int ig, .long xa, .long xb, .ref maa, .ref mab, .ref mba, .ref mbb])), (ms, .inl (cs 0, 288, .inl f)), (mso, .inl (cs 0, 16, .inl sof)), (man, .inl (cs 0, 16, .inl anf))])) := by
  refine xMet.intro (by decide) (Nat.le_of_ble_eq_true rfl) ?_
  intro p e s m args below meth c A ls C hP hD hS hl
  have hx := C.1
  have hb := C.2.1
  have hz := C.2.2.2.2.1
  have hown := C.2.2.2.1
  have hA := C.2.2.2.2.2.2.2.2.2
  have hAO := C.2.2.2.2.2.2.2.2.1.2.2
  replace hl : lv_has ls 4 [(0, .ref hm), (1, .int (nI v)), (2, .int (nI e0))] := hl
  obtain ⟨H, hH⟩ : ∃ H, H = s.heap := ⟨_, rfl⟩
  replace hP : va_P D vwCl [(hm, .inr (12, [.ref ms, .ref mkp, .int (nI km), .ref mtr, .int (nI n), .int (nI k), .int (nI al), .int (nI be), .int ea, .int pr, .ref mas, .int nq, .int po, .int (nI en), .ref mso, .ref mon, .ref mot, .ref man, .int th, .int xd, .ref mst, .ref msm, .ref mtb, .ref mti, .ref mfr, .ref mbn, .ref mbs, .ref mde, .int sF, .int sN, .int sS, .int ig, .long xa, .long xb, .ref maa, .ref mab, .ref mba, .ref mbb])), (ms, .inl (cs 0, 288, .inl f)), (mso, .inl (cs 0, 16, .inl sof)), (man, .inl (cs 0, 16, .inl anf))] H := by rw [hH]; exact hP
  replace hS : va_S A s.heap H [] := by rw [hH]; exact hS
  obtain ⟨locs, hlocs⟩ : ∃ z : List Loc, z = [] := ⟨_, rfl⟩
  rw [← hlocs] at hS
  suffices hW : W p l e ({ frames := 1, cells := 0, slots := 0, locals := 21 } : Room) s m args below meth c H locs 0 0 (MQ below ((xQi D (fun (r : Int32) (_u : Unit) => (r = nI 0 ∨ r = nI 1)) (fun (_u : Unit) => [(hm, .inr (12, [.ref ms, .ref mkp, .int (nI km), .ref mtr, .int (nI n), .int (nI k), .int (nI al), .int (nI be), .int ea, .int pr, .ref mas, .int nq, .int po, .int (nI en), .ref mso, .ref mon, .ref mot, .ref man, .int th, .int xd, .ref mst, .ref msm, .ref mtb, .ref mti, .ref mfr, .ref mbn, .ref mbs, .ref mde, .int sF, .int sN, .int sS, .int ig, .long xa, .long xb, .ref maa, .ref mab, .ref mba, .ref mbb])), (ms, .inl (cs 0, 288, .inl f)), (mso, .inl (cs 0, 16, .inl sof)), (man, .inl (cs 0, 16, .inl anf))])) A) args s 0 0 A) (F0 m 0 ls []) by rw [hlocs, hH] at hW; exact hW
  clear hH hlocs
  refine lv_iconst (v := nI 0) hx hb dX12_isStrong_0 (by decide) ?_
  refine lv_istore_n (lv' := [(3, .int (nI 0)), (0, .ref hm), (1, .int (nI v)), (2, .int (nI e0))]) hx hb dX12_isStrong_1 rfl hl (by decide) rfl ?_
  clear hl
  try clear ls
  intro ls hl
  have loop_1 : ∀ (n_loop_1 : Nat) (o : Nat), (o ≤ en) → en - o < n_loop_1 → ∀ (H : Heap) (locs : List Loc) (ls : Array Slot), va_P D vwCl [(hm, .inr (12, [.ref ms, .ref mkp, .int (nI km), .ref mtr, .int (nI n), .int (nI k), .int (nI al), .int (nI be), .int ea, .int pr, .ref mas, .int nq, .int po, .int (nI en), .ref mso, .ref mon, .ref mot, .ref man, .int th, .int xd, .ref mst, .ref msm, .ref mtb, .ref mti, .ref mfr, .ref mbn, .ref mbs, .ref mde, .int sF, .int sN, .int sS, .int ig, .long xa, .long xb, .ref maa, .ref mab, .ref mba, .ref mbb])), (ms, .inl (cs 0, 288, .inl f)), (mso, .inl (cs 0, 16, .inl sof)), (man, .inl (cs 0, 16, .inl anf))] H → va_D A [(hm, .inr (12, [.ref ms, .ref mkp, .int (nI km), .ref mtr, .int (nI n), .int (nI k), .int (nI al), .int (nI be), .int ea, .int pr, .ref mas, .int nq, .int po, .int (nI en), .ref mso, .ref mon, .ref mot, .ref man, .int th, .int xd, .ref mst, .ref msm, .ref mtb, .ref mti, .ref mfr, .ref mbn, .ref mbs, .ref mde, .int sF, .int sN, .int sS, .int ig, .long xa, .long xb, .ref maa, .ref mab, .ref mba, .ref mbb])), (ms, .inl (cs 0, 288, .inl f)), (mso, .inl (cs 0, 16, .inl sof)), (man, .inl (cs 0, 16, .inl anf))] → va_S A s.heap H locs → lv_has ls 4 [(3, .int (nI o)), (0, .ref hm), (1, .int (nI v)), (2, .int (nI e0))] → W p l e ({ frames := 1, cells := 0, slots := 0, locals := 21 } : Room) s m args below meth c H locs 0 0 (MQ below ((xQi D (fun (r : Int32) (_u : Unit) => (r = nI 0 ∨ r = nI 1)) (fun (_u : Unit) => [(hm, .inr (12, [.ref ms, .ref mkp, .int (nI km), .ref mtr, .int (nI n), .int (nI k), .int (nI al), .int (nI be), .int ea, .int pr, .ref mas, .int nq, .int po, .int (nI en), .ref mso, .ref mon, .ref mot, .ref man, .int th, .int xd, .ref mst, .ref msm, .ref mtb, .ref mti, .ref mfr, .ref mbn, .ref mbs, .ref mde, .int sF, .int sN, .int sS, .int ig, .long xa, .long xb, .ref maa, .ref mab, .ref mba, .ref mbb])), (ms, .inl (cs 0, 288, .inl f)), (mso, .inl (cs 0, 16, .inl sof)), (man, .inl (cs 0, 16, .inl anf))])) A) args s 0 0 A) (F0 m 2 ls []) := by
    intro n_loop_1
    induction n_loop_1 with
    | zero => intro o h_o hlt H locs ls hP hD hS hl; exact absurd hlt (Nat.not_lt_zero _)
    | succ n_loop_1 ih_loop_1 =>
      intro o h_o hlt_loop_1 H locs ls hP hD hS hl
      refine lv_iload_n hx hb dX12_isStrong_2 rfl (lv_at hl 0 rfl) ?_
      refine lv_aload_n hx hb dX12_isStrong_3 rfl (lv_at hl 1 rfl) ?_
      refine xget C hP 0 rfl rfl zuX12 13 (by decide) zw5_226 rfl dX12_isStrong_4 ?_
      refine lv_icmp_ge (tgt := 58) hx hb dX12_isStrong_7 (by decide) (fun c_2 => ?_) (fun c_2 => ?_)
      · -- 7 t
        have fc_2 : en ≤ o := nf_le (by omega) (by omega) c_2
        refine lv_iconst (v := nI 1) hx hb dX12_isStrong_58 (by decide) ?_
        exact xreti C () (by decide) hP hD hS (Nat.le_of_ble_eq_true rfl) (Nat.le_of_ble_eq_true rfl) (by decide) dX12_isStrong_59
      · -- 7 f
        have fc_2 : o < en := nf_nle (by omega) (by omega) c_2
        refine lv_aload_n hx hb dX12_isStrong_10 rfl (lv_at hl 1 rfl) ?_
        refine xget C hP 0 rfl rfl zuX12 17 (by decide) zw5_230 rfl dX12_isStrong_11 ?_
        refine lv_iload_n hx hb dX12_isStrong_14 rfl (lv_at hl 3 rfl) ?_
        refine xiald C hP 3 rfl e0 rfl (by omega) (by decide) dX12_isStrong_15 ?_
        refine lv_iconst (v := nI 1) hx hb dX12_isStrong_16 (by decide) ?_
        refine lv_iload_n hx hb dX12_isStrong_17 rfl (lv_at hl 3 rfl) ?_
        refine lv_ishl hx hb dX12_isStrong_18 ?_
        refine lv_ior hx hb dX12_isStrong_19 ?_
        refine lv_iload_n hx hb dX12_isStrong_20 rfl (lv_at hl 0 rfl) ?_
        refine xi (wr := [(hm, .inr (12, [.ref ms, .ref mkp, .int (nI km), .ref mtr, .int (nI n), .int (nI k), .int (nI al), .int (nI be), .int ea, .int pr, .ref mas, .int nq, .int po, .int (nI en), .ref mso, .ref mon, .ref mot, .ref man, .int th, .int xd, .ref mst, .ref msm, .ref mtb, .ref mti, .ref mfr, .ref mbn, .ref mbs, .ref mde, .int sF, .int sN, .int sS, .int ig, .long xa, .long xb, .ref maa, .ref mab, .ref mba, .ref mbb])), (ms, .inl (cs 0, 288, .inl f)), (mso, .inl (cs 0, 16, .inl sof)), (man, .inl (cs 0, 16, .inl anf))]) (xS (As := [.int ((anf e0) ||| ((nI 1) <<< ((nI e0) &&& 31))), .int (nI o)]) (rest := []) C (c_X12_has l D cs ((anf e0) ||| ((nI 1) <<< ((nI e0) &&& 31))) o) kX12_100 hP hD [] rfl (by decide +kernel) ⟨Nat.le_of_ble_eq_true rfl, Nat.le_of_ble_eq_true rfl⟩ rfl hl.1 rfl (Nat.le_of_ble_eq_true rfl) dX12_isStrong_21 ⟨Nat.le_of_ble_eq_true rfl, Nat.le_of_ble_eq_true rfl⟩) hP hD hS hA [] [0, 1, 2, 3] rfl rfl (by decide +kernel) (by decide +kernel) ?_
        clear hP hD hS
        try clear locs
        try clear H
        intro r_3 u_4 H locs hw_r_3 hP hD hS
        have hw_r_3 : PQ (hasB ((anf e0) ||| ((nI 1) <<< ((nI e0) &&& 31))) o) r_3 (nI 1) (nI 0) := hw_r_3
        refine W.widen (k := 0) (n := 0) (Nat.le_of_ble_eq_true rfl) (Nat.le_of_ble_eq_true rfl) ?_
        replace hP : va_P D vwCl [(hm, .inr (12, [.ref ms, .ref mkp, .int (nI km), .ref mtr, .int (nI n), .int (nI k), .int (nI al), .int (nI be), .int ea, .int pr, .ref mas, .int nq, .int po, .int (nI en), .ref mso, .ref mon, .ref mot, .ref man, .int th, .int xd, .ref mst, .ref msm, .ref mtb, .ref mti, .ref mfr, .ref mbn, .ref mbs, .ref mde, .int sF, .int sN, .int sS, .int ig, .long xa, .long xb, .ref maa, .ref mab, .ref mba, .ref mbb])), (ms, .inl (cs 0, 288, .inl f)), (mso, .inl (cs 0, 16, .inl sof)), (man, .inl (cs 0, 16, .inl anf))] H := hP
        replace hD : va_D A [(hm, .inr (12, [.ref ms, .ref mkp, .int (nI km), .ref mtr, .int (nI n), .int (nI k), .int (nI al), .int (nI be), .int ea, .int pr, .ref mas, .int nq, .int po, .int (nI en), .ref mso, .ref mon, .ref mot, .ref man, .int th, .int xd, .ref mst, .ref msm, .ref mtb, .ref mti, .ref mfr, .ref mbn, .ref mbs, .ref mde, .int sF, .int sN, .int sS, .int ig, .long xa, .long xb, .ref maa, .ref mab, .ref mba, .ref mbb])), (ms, .inl (cs 0, 288, .inl f)), (mso, .inl (cs 0, 16, .inl sof)), (man, .inl (cs 0, 16, .inl anf))] := hD
        refine lv_if_eq (tgt := 52) hx hb dX12_isStrong_24 (by decide) (fun c_5 => ?_) (fun c_5 => ?_)
        · -- 24 t
          refine lv_iinc (v := nI (o + 1)) (lv' := [(3, .int (nI (o + 1))), (0, .ref hm), (1, .int (nI v)), (2, .int (nI e0))]) hx hb dX12_isStrong_52 hl (k := 0) rfl (nI_add o 1) (by decide) rfl ?_
          clear hl
          try clear ls
          intro ls hl
          refine lv_goto (tgt := 2) hx hb dX12_isStrong_55 (by decide) ?_
          exact ih_loop_1 (o + 1) (by omega) (by omega) H locs ls hP hD hS (lv_sub hl [0, 1, 2, 3] rfl)
        · -- 24 f
          refine lv_aload_n hx hb dX12_isStrong_27 rfl (lv_at hl 1 rfl) ?_
          refine xget C hP 0 rfl rfl zuX12 0 (by decide) zw5_213 rfl dX12_isStrong_28 ?_
          refine lv_bipush (v := nI 96) hx hb dX12_isStrong_31 (by decide) ?_
          refine lv_bipush (v := nI 8) hx hb dX12_isStrong_33 (by decide) ?_
          refine lv_iload_n hx hb dX12_isStrong_35 rfl (lv_at hl 2 rfl) ?_
          refine lv_imul hx hb dX12_isStrong_36 ?_
          refine lv_topi (nm_r (e' := nI (8 * v)) (pk_mul _ _) ?_)
          refine lv_iadd hx hb dX12_isStrong_37 ?_
          refine lv_topi (nm_r (e' := nI (96 + (8 * v))) (nI_add _ _) ?_)
          refine lv_aload_n hx hb dX12_isStrong_38 rfl (lv_at hl 1 rfl) ?_
          refine xget C hP 0 rfl rfl zuX12 14 (by decide) zw5_227 rfl dX12_isStrong_39 ?_
          refine lv_iload_n hx hb dX12_isStrong_42 rfl (lv_at hl 0 rfl) ?_
          refine xiald C hP 2 rfl o rfl (by omega) (by decide) dX12_isStrong_43 ?_
          obtain ⟨t_6, h_t_6, e_t_6⟩ := (hso o (by omega))
          refine lv_topi (nm_r (e' := nI t_6) e_t_6 ?_)
          refine lv_iadd hx hb dX12_isStrong_44 ?_
          refine lv_topi (nm_r (e' := nI ((96 + (8 * v)) + t_6)) (nI_add _ _) ?_)
          refine xiald C hP 1 rfl ((96 + (8 * v)) + t_6) rfl (by omega) (by decide) dX12_isStrong_45 ?_
          refine lv_iload_n hx hb dX12_isStrong_46 rfl (lv_at hl 0 rfl) ?_
          refine lv_icmp_eq (tgt := 52) hx hb dX12_isStrong_47 (by decide) (fun c_7 => ?_) (fun c_7 => ?_)
          · -- 47 t
            refine lv_iinc (v := nI (o + 1)) (lv' := [(3, .int (nI (o + 1))), (0, .ref hm), (1, .int (nI v)), (2, .int (nI e0))]) hx hb dX12_isStrong_52 hl (k := 0) rfl (nI_add o 1) (by decide) rfl ?_
            clear hl
            try clear ls
            intro ls hl
            refine lv_goto (tgt := 2) hx hb dX12_isStrong_55 (by decide) ?_
            exact ih_loop_1 (o + 1) (by omega) (by omega) H locs ls hP hD hS (lv_sub hl [0, 1, 2, 3] rfl)
          · -- 47 f
            refine lv_iconst (v := nI 0) hx hb dX12_isStrong_50 (by decide) ?_
            exact xreti C () (by decide) hP hD hS (Nat.le_of_ble_eq_true rfl) (Nat.le_of_ble_eq_true rfl) (by decide) dX12_isStrong_51
  exact loop_1 _ 0 (by omega) (Nat.lt_succ_self _) H locs ls hP hD hS (lv_sub hl [0, 1, 2, 3] rfl)

set_option maxHeartbeats 4000000 in
set_option maxRecDepth 100000 in
theorem c_X12_saysYes (l : Launch) (D : va_G) (cs : Nat → ClassId) (hm ms mkp mtr mas mso mon mot man mst msm mtb mti mfr mbn mbs mde maa mab mba mbb : Nat) (n k al be km en : Nat) (ea pr nq po th xd sF sN sS ig : Int32) (xa xb : Int64) (f : Nat → Int32) (b a e0 : Nat) (sof anf : Nat → Int32) (hen : en ≤ 16) (hso : inP 16 8 sof) (hb8 : b < 8) (ha : a < 8) (he : e0 < 16) : xMet l D cs yX12_saysYes cX12_saysYes 5 (some .boolean) ({ frames := 2, cells := 0, slots := 0, locals := 44 } : Room) [.ref hm, .int (nI b), .int (nI a), .int (nI e0)] [(hm, .inr (12, [.ref ms, .ref mkp, .int (nI km), .ref mtr, .int (nI n), .int (nI k), .int (nI al), .int (nI be), .int ea, .int pr, .ref mas, .int nq, .int po, .int (nI en), .ref mso, .ref mon, .ref mot, .ref man, .int th, .int xd, .ref mst, .ref msm, .ref mtb, .ref mti, .ref mfr, .ref mbn, .ref mbs, .ref mde, .int sF, .int sN, .int sS, .int ig, .long xa, .long xb, .ref maa, .ref mab, .ref mba, .ref mbb])), (ms, .inl (cs 0, 288, .inl f)), (mso, .inl (cs 0, 16, .inl sof)), (man, .inl (cs 0, 16, .inl anf))] (xQi D (fun (r : Int32) (_u : Unit) => (r = nI 0 ∨ r = nI 1)) (fun (_u : Unit) => [(hm, .inr (12, [.ref ms, .ref mkp, .int (nI km), .ref mtr, .int (nI n), .int (nI k), .int (nI al), .int (nI be), .int ea, .int pr, .ref mas, .int nq, .int po, .int (nI en), .ref mso, .ref mon, .ref mot, .ref man, .int th, .int xd, .ref mst, .ref msm, .ref mtb, .ref mti, .ref mfr, .ref mbn, .ref mbs, .ref mde, .int sF, .int sN, .int sS, .int ig, .long xa, .long xb, .ref maa, .ref mab, .ref mba, .ref mbb])), (ms, .inl (cs 0, 288, .inl f)), (mso, .inl (cs 0, 16, .inl sof)), (man, .inl (cs 0, 16, .inl anf))])) := by
  refine xMet.intro (by decide) (Nat.le_of_ble_eq_true rfl) ?_
  intro p e s m args below meth c A ls C hP hD hS hl
  have hx := C.1
  have hb := C.2.1
  have hz := C.2.2.2.2.1
  have hown := C.2.2.2.1
  have hA := C.2.2.2.2.2.2.2.2.2
  have hAO := C.2.2.2.2.2.2.2.2.1.2.2
  replace hl : lv_has ls 5 [(0, .ref hm), (1, .int (nI b)), (2, .int (nI a)), (3, .int (nI e0))] := hl
  obtain ⟨H, hH⟩ : ∃ H, H = s.heap := ⟨_, rfl⟩
  replace hP : va_P D vwCl [(hm, .inr (12, [.ref ms, .ref mkp, .int (nI km), .ref mtr, .int (nI n), .int (nI k), .int (nI al), .int (nI be), .int ea, .int pr, .ref mas, .int nq, .int po, .int (nI en), .ref mso, .ref mon, .ref mot, .ref man, .int th, .int xd, .ref mst, .ref msm, .ref mtb, .ref mti, .ref mfr, .ref mbn, .ref mbs, .ref mde, .int sF, .int sN, .int sS, .int ig, .long xa, .long xb, .ref maa, .ref mab, .ref mba, .ref mbb])), (ms, .inl (cs 0, 288, .inl f)), (mso, .inl (cs 0, 16, .inl sof)), (man, .inl (cs 0, 16, .inl anf))] H := by rw [hH]; exact hP
  replace hS : va_S A s.heap H [] := by rw [hH]; exact hS
  obtain ⟨locs, hlocs⟩ : ∃ z : List Loc, z = [] := ⟨_, rfl⟩
  rw [← hlocs] at hS
  suffices hW : W p l e ({ frames := 2, cells := 0, slots := 0, locals := 44 } : Room) s m args below meth c H locs 0 0 (MQ below ((xQi D (fun (r : Int32) (_u : Unit) => (r = nI 0 ∨ r = nI 1)) (fun (_u : Unit) => [(hm, .inr (12, [.ref ms, .ref mkp, .int (nI km), .ref mtr, .int (nI n), .int (nI k), .int (nI al), .int (nI be), .int ea, .int pr, .ref mas, .int nq, .int po, .int (nI en), .ref mso, .ref mon, .ref mot, .ref man, .int th, .int xd, .ref mst, .ref msm, .ref mtb, .ref mti, .ref mfr, .ref mbn, .ref mbs, .ref mde, .int sF, .int sN, .int sS, .int ig, .long xa, .long xb, .ref maa, .ref mab, .ref mba, .ref mbb])), (ms, .inl (cs 0, 288, .inl f)), (mso, .inl (cs 0, 16, .inl sof)), (man, .inl (cs 0, 16, .inl anf))])) A) args s 0 0 A) (F0 m 0 ls []) by rw [hlocs, hH] at hW; exact hW
  clear hH hlocs
  refine lv_aload_n hx hb dX12_saysYes_0 rfl (lv_at hl 0 rfl) ?_
  refine xget C hP 0 rfl rfl zuX12 0 (by decide) zw5_213 rfl dX12_saysYes_1 ?_
  refine lv_bipush (v := nI 56) hx hb dX12_saysYes_4 (by decide) ?_
  refine lv_iload_n hx hb dX12_saysYes_6 rfl (lv_at hl 2 rfl) ?_
  refine lv_iadd hx hb dX12_saysYes_7 ?_
  refine lv_topi (nm_r (e' := nI (56 + a)) (nI_add _ _) ?_)
  refine xiald C hP 1 rfl (56 + a) rfl (by omega) (by decide) dX12_saysYes_8 ?_
  refine lv_iload_n hx hb dX12_saysYes_9 rfl (lv_at hl 1 rfl) ?_
  refine xi (wr := [(hm, .inr (12, [.ref ms, .ref mkp, .int (nI km), .ref mtr, .int (nI n), .int (nI k), .int (nI al), .int (nI be), .int ea, .int pr, .ref mas, .int nq, .int po, .int (nI en), .ref mso, .ref mon, .ref mot, .ref man, .int th, .int xd, .ref mst, .ref msm, .ref mtb, .ref mti, .ref mfr, .ref mbn, .ref mbs, .ref mde, .int sF, .int sN, .int sS, .int ig, .long xa, .long xb, .ref maa, .ref mab, .ref mba, .ref mbb])), (ms, .inl (cs 0, 288, .inl f)), (mso, .inl (cs 0, 16, .inl sof)), (man, .inl (cs 0, 16, .inl anf))]) (xS (As := [.int (f (56 + a)), .int (nI b)]) (rest := []) C (c_X12_has l D cs (f (56 + a)) b) kX12_100 hP hD [] rfl (by decide +kernel) ⟨Nat.le_of_ble_eq_true rfl, Nat.le_of_ble_eq_true rfl⟩ rfl hl.1 rfl (Nat.le_of_ble_eq_true rfl) dX12_saysYes_10 ⟨Nat.le_of_ble_eq_true rfl, Nat.le_of_ble_eq_true rfl⟩) hP hD hS hA [] [0, 1, 2, 3] rfl rfl (by decide +kernel) (by decide +kernel) ?_
  clear hP hD hS
  try clear locs
  try clear H
  intro r_1 u_2 H locs hw_r_1 hP hD hS
  have hw_r_1 : PQ (hasB (f (56 + a)) b) r_1 (nI 1) (nI 0) := hw_r_1
  refine W.widen (k := 0) (n := 0) (Nat.le_of_ble_eq_true rfl) (Nat.le_of_ble_eq_true rfl) ?_
  replace hP : va_P D vwCl [(hm, .inr (12, [.ref ms, .ref mkp, .int (nI km), .ref mtr, .int (nI n), .int (nI k), .int (nI al), .int (nI be), .int ea, .int pr, .ref mas, .int nq, .int po, .int (nI en), .ref mso, .ref mon, .ref mot, .ref man, .int th, .int xd, .ref mst, .ref msm, .ref mtb, .ref mti, .ref mfr, .ref mbn, .ref mbs, .ref mde, .int sF, .int sN, .int sS, .int ig, .long xa, .long xb, .ref maa, .ref mab, .ref mba, .ref mbb])), (ms, .inl (cs 0, 288, .inl f)), (mso, .inl (cs 0, 16, .inl sof)), (man, .inl (cs 0, 16, .inl anf))] H := hP
  replace hD : va_D A [(hm, .inr (12, [.ref ms, .ref mkp, .int (nI km), .ref mtr, .int (nI n), .int (nI k), .int (nI al), .int (nI be), .int ea, .int pr, .ref mas, .int nq, .int po, .int (nI en), .ref mso, .ref mon, .ref mot, .ref man, .int th, .int xd, .ref mst, .ref msm, .ref mtb, .ref mti, .ref mfr, .ref mbn, .ref mbs, .ref mde, .int sF, .int sN, .int sS, .int ig, .long xa, .long xb, .ref maa, .ref mab, .ref mba, .ref mbb])), (ms, .inl (cs 0, 288, .inl f)), (mso, .inl (cs 0, 16, .inl sof)), (man, .inl (cs 0, 16, .inl anf))] := hD
  refine lv_if_ne (tgt := 18) hx hb dX12_saysYes_13 (by decide) (fun c_3 => ?_) (fun c_3 => ?_)
  · -- 13 t
    refine lv_aload_n hx hb dX12_saysYes_18 rfl (lv_at hl 0 rfl) ?_
    refine xget C hP 0 rfl rfl zuX12 0 (by decide) zw5_213 rfl dX12_saysYes_19 ?_
    refine lv_bipush (v := nI 48) hx hb dX12_saysYes_22 (by decide) ?_
    refine lv_iload_n hx hb dX12_saysYes_24 rfl (lv_at hl 1 rfl) ?_
    refine lv_iadd hx hb dX12_saysYes_25 ?_
    refine lv_topi (nm_r (e' := nI (48 + b)) (nI_add _ _) ?_)
    refine xiald C hP 1 rfl (48 + b) rfl (by omega) (by decide) dX12_saysYes_26 ?_
    refine lv_istore (lv' := [(4, .int (f (48 + b))), (0, .ref hm), (1, .int (nI b)), (2, .int (nI a)), (3, .int (nI e0))]) hx hb dX12_saysYes_27 hl (by decide) rfl ?_
    clear hl
    try clear ls
    intro ls hl
    refine lv_iload hx hb dX12_saysYes_29 (lv_at hl 0 rfl) ?_
    refine lv_if_ne (tgt := 43) hx hb dX12_saysYes_31 (by decide) (fun c_4 => ?_) (fun c_4 => ?_)
    · -- 31 t
      refine lv_iload hx hb dX12_saysYes_43 (lv_at hl 0 rfl) ?_
      refine lv_iconst (v := nI 2) hx hb dX12_saysYes_45 (by decide) ?_
      refine lv_icmp_eq (tgt := 64) hx hb dX12_saysYes_46 (by decide) (fun c_5 => ?_) (fun c_5 => ?_)
      · -- 46 t
        refine lv_iconst (v := nI 1) hx hb dX12_saysYes_64 (by decide) ?_
        refine lv_goto (tgt := 69) hx hb dX12_saysYes_65 (by decide) ?_
        exact xreti C () (by decide) hP hD hS (Nat.le_of_ble_eq_true rfl) (Nat.le_of_ble_eq_true rfl) (by decide) dX12_saysYes_69
      · -- 46 f
        refine lv_iload hx hb dX12_saysYes_49 (lv_at hl 0 rfl) ?_
        refine lv_iconst (v := nI 3) hx hb dX12_saysYes_51 (by decide) ?_
        refine lv_icmp_ne (tgt := 68) hx hb dX12_saysYes_52 (by decide) (fun c_6 => ?_) (fun c_6 => ?_)
        · -- 52 t
          refine lv_iconst (v := nI 0) hx hb dX12_saysYes_68 (by decide) ?_
          exact xreti C () (by decide) hP hD hS (Nat.le_of_ble_eq_true rfl) (Nat.le_of_ble_eq_true rfl) (by decide) dX12_saysYes_69
        · -- 52 f
          refine lv_aload_n hx hb dX12_saysYes_55 rfl (lv_at hl 1 rfl) ?_
          refine lv_iload_n hx hb dX12_saysYes_56 rfl (lv_at hl 3 rfl) ?_
          refine lv_iload_n hx hb dX12_saysYes_57 rfl (lv_at hl 4 rfl) ?_
          refine xi (wr := []) (xV (As := [.int (nI a), .int (nI e0)]) (rest := []) C (c_X12_isStrong l D cs hm ms mkp mtr mas mso mon mot man mst msm mtb mti mfr mbn mbs mde maa mab mba mbb n k al be km en ea pr nq po th xd sF sN sS ig xa xb f a e0 sof anf hen hso ha he) kX12_316 hP hD [0, 1, 2, 3] rfl (by decide +kernel) 0 rfl rfl rfl ⟨Nat.le_of_ble_eq_true rfl, Nat.le_of_ble_eq_true rfl⟩ rfl hl.1 rfl (Nat.le_of_ble_eq_true rfl) dX12_saysYes_58 ⟨Nat.le_of_ble_eq_true rfl, Nat.le_of_ble_eq_true rfl⟩) hP hD hS hA [0, 1, 2, 3] [] rfl rfl (by decide +kernel) (by decide +kernel) ?_
          clear hP hD hS
          try clear locs
          try clear H
          intro r_7 u_8 H locs hw_r_7 hP hD hS
          have hw_r_7 : (r_7 = nI 0 ∨ r_7 = nI 1) := hw_r_7
          refine W.widen (k := 0) (n := 0) (Nat.le_of_ble_eq_true rfl) (Nat.le_of_ble_eq_true rfl) ?_
          replace hP : va_P D vwCl [(hm, .inr (12, [.ref ms, .ref mkp, .int (nI km), .ref mtr, .int (nI n), .int (nI k), .int (nI al), .int (nI be), .int ea, .int pr, .ref mas, .int nq, .int po, .int (nI en), .ref mso, .ref mon, .ref mot, .ref man, .int th, .int xd, .ref mst, .ref msm, .ref mtb, .ref mti, .ref mfr, .ref mbn, .ref mbs, .ref mde, .int sF, .int sN, .int sS, .int ig, .long xa, .long xb, .ref maa, .ref mab, .ref mba, .ref mbb])), (ms, .inl (cs 0, 288, .inl f)), (mso, .inl (cs 0, 16, .inl sof)), (man, .inl (cs 0, 16, .inl anf))] H := hP
          replace hD : va_D A [(hm, .inr (12, [.ref ms, .ref mkp, .int (nI km), .ref mtr, .int (nI n), .int (nI k), .int (nI al), .int (nI be), .int ea, .int pr, .ref mas, .int nq, .int po, .int (nI en), .ref mso, .ref mon, .ref mot, .ref man, .int th, .int xd, .ref mst, .ref msm, .ref mtb, .ref mti, .ref mfr, .ref mbn, .ref mbs, .ref mde, .int sF, .int sN, .int sS, .int ig, .long xa, .long xb, .ref maa, .ref mab, .ref mba, .ref mbb])), (ms, .inl (cs 0, 288, .inl f)), (mso, .inl (cs 0, 16, .inl sof)), (man, .inl (cs 0, 16, .inl anf))] := hD
          refine lv_if_ne (tgt := 68) hx hb dX12_saysYes_61 (by decide) (fun c_9 => ?_) (fun c_9 => ?_)
          · -- 61 t
            refine lv_iconst (v := nI 0) hx hb dX12_saysYes_68 (by decide) ?_
            exact xreti C () (by decide) hP hD hS (Nat.le_of_ble_eq_true rfl) (Nat.le_of_ble_eq_true rfl) (by decide) dX12_saysYes_69
          · -- 61 f
            refine lv_iconst (v := nI 1) hx hb dX12_saysYes_64 (by decide) ?_
            refine lv_goto (tgt := 69) hx hb dX12_saysYes_65 (by decide) ?_
            exact xreti C () (by decide) hP hD hS (Nat.le_of_ble_eq_true rfl) (Nat.le_of_ble_eq_true rfl) (by decide) dX12_saysYes_69
    · -- 31 f
      refine lv_aload_n hx hb dX12_saysYes_34 rfl (lv_at hl 1 rfl) ?_
      refine lv_iload_n hx hb dX12_saysYes_35 rfl (lv_at hl 2 rfl) ?_
      refine lv_iload_n hx hb dX12_saysYes_36 rfl (lv_at hl 4 rfl) ?_
      refine xi (wr := []) (xV (As := [.int (nI b), .int (nI e0)]) (rest := []) C (c_X12_isStrong l D cs hm ms mkp mtr mas mso mon mot man mst msm mtb mti mfr mbn mbs mde maa mab mba mbb n k al be km en ea pr nq po th xd sF sN sS ig xa xb f b e0 sof anf hen hso hb8 he) kX12_316 hP hD [0, 1, 2, 3] rfl (by decide +kernel) 0 rfl rfl rfl ⟨Nat.le_of_ble_eq_true rfl, Nat.le_of_ble_eq_true rfl⟩ rfl hl.1 rfl (Nat.le_of_ble_eq_true rfl) dX12_saysYes_37 ⟨Nat.le_of_ble_eq_true rfl, Nat.le_of_ble_eq_true rfl⟩) hP hD hS hA [0, 1, 2, 3] [] rfl rfl (by decide +kernel) (by decide +kernel) ?_
      clear hP hD hS
      try clear locs
      try clear H
      intro r_10 u_11 H locs hw_r_10 hP hD hS
      have hw_r_10 : (r_10 = nI 0 ∨ r_10 = nI 1) := hw_r_10
      refine W.widen (k := 0) (n := 0) (Nat.le_of_ble_eq_true rfl) (Nat.le_of_ble_eq_true rfl) ?_
      replace hP : va_P D vwCl [(hm, .inr (12, [.ref ms, .ref mkp, .int (nI km), .ref mtr, .int (nI n), .int (nI k), .int (nI al), .int (nI be), .int ea, .int pr, .ref mas, .int nq, .int po, .int (nI en), .ref mso, .ref mon, .ref mot, .ref man, .int th, .int xd, .ref mst, .ref msm, .ref mtb, .ref mti, .ref mfr, .ref mbn, .ref mbs, .ref mde, .int sF, .int sN, .int sS, .int ig, .long xa, .long xb, .ref maa, .ref mab, .ref mba, .ref mbb])), (ms, .inl (cs 0, 288, .inl f)), (mso, .inl (cs 0, 16, .inl sof)), (man, .inl (cs 0, 16, .inl anf))] H := hP
      replace hD : va_D A [(hm, .inr (12, [.ref ms, .ref mkp, .int (nI km), .ref mtr, .int (nI n), .int (nI k), .int (nI al), .int (nI be), .int ea, .int pr, .ref mas, .int nq, .int po, .int (nI en), .ref mso, .ref mon, .ref mot, .ref man, .int th, .int xd, .ref mst, .ref msm, .ref mtb, .ref mti, .ref mfr, .ref mbn, .ref mbs, .ref mde, .int sF, .int sN, .int sS, .int ig, .long xa, .long xb, .ref maa, .ref mab, .ref mba, .ref mbb])), (ms, .inl (cs 0, 288, .inl f)), (mso, .inl (cs 0, 16, .inl sof)), (man, .inl (cs 0, 16, .inl anf))] := hD
      refine lv_goto (tgt := 69) hx hb dX12_saysYes_40 (by decide) ?_
      exact xreti C () hw_r_10 hP hD hS (Nat.le_of_ble_eq_true rfl) (Nat.le_of_ble_eq_true rfl) (nb_of hw_r_10) dX12_saysYes_69
  · -- 13 f
    refine lv_iconst (v := nI 0) hx hb dX12_saysYes_16 (by decide) ?_
    exact xreti C () (by decide) hP hD hS (Nat.le_of_ble_eq_true rfl) (Nat.le_of_ble_eq_true rfl) (by decide) dX12_saysYes_17

set_option maxHeartbeats 4000000 in
set_option maxRecDepth 100000 in
theorem c_X12_yesOf (l : Launch) (D : va_G) (cs : Nat → ClassId) (hm ms mkp mtr mas mso mon mot man mst msm mtb mti mfr mbn mbs mde maa mab mba mbb : Nat) (n k al be km en : Nat) (ea pr nq po th xd sF sN sS ig : Int32) (xa xb : Int64) (f : Nat → Int32) (a e0 : Nat) (x : Int32) (sof anf : Nat → Int32) (hn : 2 ≤ n ∧ n ≤ 8) (hen : en ≤ 16) (hso : inP 16 8 sof) (ha : a < 8) (he : e0 < 16) : xMet l D cs yX12_yesOf cX12_yesOf 6 (some .int) ({ frames := 3, cells := 0, slots := 0, locals := 68 } : Room) [.ref hm, .int (nI a), .int (nI e0), .int x] [(hm, .inr (12, [.ref ms, .ref mkp, .int (nI km), .ref mtr, .int (nI n), .int (nI k), .int (nI al), .int (nI be), .int ea, .int pr, .ref mas, .int nq, .int po, .int (nI en), .ref mso, .ref mon, .ref mot, .ref man, .int th, .int xd, .ref mst, .ref msm, .ref mtb, .ref mti, .ref mfr, .ref mbn, .ref mbs, .ref mde, .int sF, .int sN, .int sS, .int ig, .long xa, .long xb, .ref maa, .ref mab, .ref mba, .ref mbb])), (ms, .inl (cs 0, 288, .inl f)), (mso, .inl (cs 0, 16, .inl sof)), (man, .inl (cs 0, 16, .inl anf))] (xQi D (fun (r : Int32) (_u : Unit) => True) (fun (_u : Unit) => [(hm, .inr (12, [.ref ms, .ref mkp, .int (nI km), .ref mtr, .int (nI n), .int (nI k), .int (nI al), .int (nI be), .int ea, .int pr, .ref mas, .int nq, .int po, .int (nI en), .ref mso, .ref mon, .ref mot, .ref man, .int th, .int xd, .ref mst, .ref msm, .ref mtb, .ref mti, .ref mfr, .ref mbn, .ref mbs, .ref mde, .int sF, .int sN, .int sS, .int ig, .long xa, .long xb, .ref maa, .ref mab, .ref mba, .ref mbb])), (ms, .inl (cs 0, 288, .inl f)), (mso, .inl (cs 0, 16, .inl sof)), (man, .inl (cs 0, 16, .inl anf))])) := by
  refine xMet.intro (by decide) (Nat.le_of_ble_eq_true rfl) ?_
  intro p e s m args below meth c A ls C hP hD hS hl
  have hx := C.1
  have hb := C.2.1
  have hz := C.2.2.2.2.1
  have hown := C.2.2.2.1
  have hA := C.2.2.2.2.2.2.2.2.2
  have hAO := C.2.2.2.2.2.2.2.2.1.2.2
  replace hl : lv_has ls 6 [(0, .ref hm), (1, .int (nI a)), (2, .int (nI e0)), (3, .int x)] := hl
  obtain ⟨H, hH⟩ : ∃ H, H = s.heap := ⟨_, rfl⟩
  replace hP : va_P D vwCl [(hm, .inr (12, [.ref ms, .ref mkp, .int (nI km), .ref mtr, .int (nI n), .int (nI k), .int (nI al), .int (nI be), .int ea, .int pr, .ref mas, .int nq, .int po, .int (nI en), .ref mso, .ref mon, .ref mot, .ref man, .int th, .int xd, .ref mst, .ref msm, .ref mtb, .ref mti, .ref mfr, .ref mbn, .ref mbs, .ref mde, .int sF, .int sN, .int sS, .int ig, .long xa, .long xb, .ref maa, .ref mab, .ref mba, .ref mbb])), (ms, .inl (cs 0, 288, .inl f)), (mso, .inl (cs 0, 16, .inl sof)), (man, .inl (cs 0, 16, .inl anf))] H := by rw [hH]; exact hP
  replace hS : va_S A s.heap H [] := by rw [hH]; exact hS
  obtain ⟨locs, hlocs⟩ : ∃ z : List Loc, z = [] := ⟨_, rfl⟩
  rw [← hlocs] at hS
  suffices hW : W p l e ({ frames := 3, cells := 0, slots := 0, locals := 68 } : Room) s m args below meth c H locs 0 0 (MQ below ((xQi D (fun (r : Int32) (_u : Unit) => True) (fun (_u : Unit) => [(hm, .inr (12, [.ref ms, .ref mkp, .int (nI km), .ref mtr, .int (nI n), .int (nI k), .int (nI al), .int (nI be), .int ea, .int pr, .ref mas, .int nq, .int po, .int (nI en), .ref mso, .ref mon, .ref mot, .ref man, .int th, .int xd, .ref mst, .ref msm, .ref mtb, .ref mti, .ref mfr, .ref mbn, .ref mbs, .ref mde, .int sF, .int sN, .int sS, .int ig, .long xa, .long xb, .ref maa, .ref mab, .ref mba, .ref mbb])), (ms, .inl (cs 0, 288, .inl f)), (mso, .inl (cs 0, 16, .inl sof)), (man, .inl (cs 0, 16, .inl anf))])) A) args s 0 0 A) (F0 m 0 ls []) by rw [hlocs, hH] at hW; exact hW
  clear hH hlocs
  refine lv_iconst (v := nI 0) hx hb dX12_yesOf_0 (by decide) ?_
  refine lv_istore (lv' := [(4, .int (nI 0)), (0, .ref hm), (1, .int (nI a)), (2, .int (nI e0)), (3, .int x)]) hx hb dX12_yesOf_1 hl (by decide) rfl ?_
  clear hl
  try clear ls
  intro ls hl
  refine lv_iconst (v := nI 0) hx hb dX12_yesOf_3 (by decide) ?_
  refine lv_istore (lv' := [(5, .int (nI 0)), (4, .int (nI 0)), (0, .ref hm), (1, .int (nI a)), (2, .int (nI e0)), (3, .int x)]) hx hb dX12_yesOf_4 hl (by decide) rfl ?_
  clear hl
  try clear ls
  intro ls hl
  have loop_1 : ∀ (n_loop_1 : Nat) (o : Nat) (c9 : Int32), (o ≤ n) → n - o < n_loop_1 → ∀ (H : Heap) (locs : List Loc) (ls : Array Slot), va_P D vwCl [(hm, .inr (12, [.ref ms, .ref mkp, .int (nI km), .ref mtr, .int (nI n), .int (nI k), .int (nI al), .int (nI be), .int ea, .int pr, .ref mas, .int nq, .int po, .int (nI en), .ref mso, .ref mon, .ref mot, .ref man, .int th, .int xd, .ref mst, .ref msm, .ref mtb, .ref mti, .ref mfr, .ref mbn, .ref mbs, .ref mde, .int sF, .int sN, .int sS, .int ig, .long xa, .long xb, .ref maa, .ref mab, .ref mba, .ref mbb])), (ms, .inl (cs 0, 288, .inl f)), (mso, .inl (cs 0, 16, .inl sof)), (man, .inl (cs 0, 16, .inl anf))] H → va_D A [(hm, .inr (12, [.ref ms, .ref mkp, .int (nI km), .ref mtr, .int (nI n), .int (nI k), .int (nI al), .int (nI be), .int ea, .int pr, .ref mas, .int nq, .int po, .int (nI en), .ref mso, .ref mon, .ref mot, .ref man, .int th, .int xd, .ref mst, .ref msm, .ref mtb, .ref mti, .ref mfr, .ref mbn, .ref mbs, .ref mde, .int sF, .int sN, .int sS, .int ig, .long xa, .long xb, .ref maa, .ref mab, .ref mba, .ref mbb])), (ms, .inl (cs 0, 288, .inl f)), (mso, .inl (cs 0, 16, .inl sof)), (man, .inl (cs 0, 16, .inl anf))] → va_S A s.heap H locs → lv_has ls 6 [(5, .int (nI o)), (4, .int c9), (0, .ref hm), (1, .int (nI a)), (2, .int (nI e0)), (3, .int x)] → W p l e ({ frames := 3, cells := 0, slots := 0, locals := 68 } : Room) s m args below meth c H locs 0 0 (MQ below ((xQi D (fun (r : Int32) (_u : Unit) => True) (fun (_u : Unit) => [(hm, .inr (12, [.ref ms, .ref mkp, .int (nI km), .ref mtr, .int (nI n), .int (nI k), .int (nI al), .int (nI be), .int ea, .int pr, .ref mas, .int nq, .int po, .int (nI en), .ref mso, .ref mon, .ref mot, .ref man, .int th, .int xd, .ref mst, .ref msm, .ref mtb, .ref mti, .ref mfr, .ref mbn, .ref mbs, .ref mde, .int sF, .int sN, .int sS, .int ig, .long xa, .long xb, .ref maa, .ref mab, .ref mba, .ref mbb])), (ms, .inl (cs 0, 288, .inl f)), (mso, .inl (cs 0, 16, .inl sof)), (man, .inl (cs 0, 16, .inl anf))])) A) args s 0 0 A) (F0 m 6 ls []) := by
    intro n_loop_1
    induction n_loop_1 with
    | zero => intro o c9 h_o hlt H locs ls hP hD hS hl; exact absurd hlt (Nat.not_lt_zero _)
    | succ n_loop_1 ih_loop_1 =>
      intro o c9 h_o hlt_loop_1 H locs ls hP hD hS hl
      refine lv_iload hx hb dX12_yesOf_6 (lv_at hl 0 rfl) ?_
      refine lv_aload_n hx hb dX12_yesOf_8 rfl (lv_at hl 2 rfl) ?_
      refine xget C hP 0 rfl rfl zuX12 4 (by decide) zw5_217 rfl dX12_yesOf_9 ?_
      refine lv_icmp_ge (tgt := 44) hx hb dX12_yesOf_12 (by decide) (fun c_2 => ?_) (fun c_2 => ?_)
      · -- 12 t
        have fc_2 : n ≤ o := nf_le (by omega) (by omega) c_2
        refine lv_iload hx hb dX12_yesOf_44 (lv_at hl 1 rfl) ?_
        exact xreti C () trivial hP hD hS (Nat.le_of_ble_eq_true rfl) (Nat.le_of_ble_eq_true rfl) rfl dX12_yesOf_46
      · -- 12 f
        have fc_2 : o < n := nf_nle (by omega) (by omega) c_2
        refine lv_iload_n hx hb dX12_yesOf_15 rfl (lv_at hl 5 rfl) ?_
        refine lv_iload hx hb dX12_yesOf_16 (lv_at hl 0 rfl) ?_
        refine xi (wr := [(hm, .inr (12, [.ref ms, .ref mkp, .int (nI km), .ref mtr, .int (nI n), .int (nI k), .int (nI al), .int (nI be), .int ea, .int pr, .ref mas, .int nq, .int po, .int (nI en), .ref mso, .ref mon, .ref mot, .ref man, .int th, .int xd, .ref mst, .ref msm, .ref mtb, .ref mti, .ref mfr, .ref mbn, .ref mbs, .ref mde, .int sF, .int sN, .int sS, .int ig, .long xa, .long xb, .ref maa, .ref mab, .ref mba, .ref mbb])), (ms, .inl (cs 0, 288, .inl f)), (mso, .inl (cs 0, 16, .inl sof)), (man, .inl (cs 0, 16, .inl anf))]) (xS (As := [.int x, .int (nI o)]) (rest := []) C (c_X12_has l D cs x o) kX12_100 hP hD [] rfl (by decide +kernel) ⟨Nat.le_of_ble_eq_true rfl, Nat.le_of_ble_eq_true rfl⟩ rfl hl.1 rfl (Nat.le_of_ble_eq_true rfl) dX12_yesOf_18 ⟨Nat.le_of_ble_eq_true rfl, Nat.le_of_ble_eq_true rfl⟩) hP hD hS hA [] [0, 1, 2, 3] rfl rfl (by decide +kernel) (by decide +kernel) ?_
        clear hP hD hS
        try clear locs
        try clear H
        intro r_3 u_4 H locs hw_r_3 hP hD hS
        have hw_r_3 : PQ (hasB x o) r_3 (nI 1) (nI 0) := hw_r_3
        refine W.widen (k := 0) (n := 0) (Nat.le_of_ble_eq_true rfl) (Nat.le_of_ble_eq_true rfl) ?_
        replace hP : va_P D vwCl [(hm, .inr (12, [.ref ms, .ref mkp, .int (nI km), .ref mtr, .int (nI n), .int (nI k), .int (nI al), .int (nI be), .int ea, .int pr, .ref mas, .int nq, .int po, .int (nI en), .ref mso, .ref mon, .ref mot, .ref man, .int th, .int xd, .ref mst, .ref msm, .ref mtb, .ref mti, .ref mfr, .ref mbn, .ref mbs, .ref mde, .int sF, .int sN, .int sS, .int ig, .long xa, .long xb, .ref maa, .ref mab, .ref mba, .ref mbb])), (ms, .inl (cs 0, 288, .inl f)), (mso, .inl (cs 0, 16, .inl sof)), (man, .inl (cs 0, 16, .inl anf))] H := hP
        replace hD : va_D A [(hm, .inr (12, [.ref ms, .ref mkp, .int (nI km), .ref mtr, .int (nI n), .int (nI k), .int (nI al), .int (nI be), .int ea, .int pr, .ref mas, .int nq, .int po, .int (nI en), .ref mso, .ref mon, .ref mot, .ref man, .int th, .int xd, .ref mst, .ref msm, .ref mtb, .ref mti, .ref mfr, .ref mbn, .ref mbs, .ref mde, .int sF, .int sN, .int sS, .int ig, .long xa, .long xb, .ref maa, .ref mab, .ref mba, .ref mbb])), (ms, .inl (cs 0, 288, .inl f)), (mso, .inl (cs 0, 16, .inl sof)), (man, .inl (cs 0, 16, .inl anf))] := hD
        refine lv_if_eq (tgt := 38) hx hb dX12_yesOf_21 (by decide) (fun c_5 => ?_) (fun c_5 => ?_)
        · -- 21 t
          refine lv_iinc (v := nI (o + 1)) (lv' := [(5, .int (nI (o + 1))), (4, .int c9), (0, .ref hm), (1, .int (nI a)), (2, .int (nI e0)), (3, .int x)]) hx hb dX12_yesOf_38 hl (k := 0) rfl (nI_add o 1) (by decide) rfl ?_
          clear hl
          try clear ls
          intro ls hl
          refine lv_goto (tgt := 6) hx hb dX12_yesOf_41 (by decide) ?_
          exact ih_loop_1 (o + 1) c9 (by omega) (by omega) H locs ls hP hD hS (lv_sub hl [0, 1, 2, 3, 4, 5] rfl)
        · -- 21 f
          refine lv_aload_n hx hb dX12_yesOf_24 rfl (lv_at hl 2 rfl) ?_
          refine lv_iload hx hb dX12_yesOf_25 (lv_at hl 0 rfl) ?_
          refine lv_iload_n hx hb dX12_yesOf_27 rfl (lv_at hl 3 rfl) ?_
          refine lv_iload_n hx hb dX12_yesOf_28 rfl (lv_at hl 4 rfl) ?_
          refine xi (wr := []) (xV (As := [.int (nI o), .int (nI a), .int (nI e0)]) (rest := []) C (c_X12_saysYes l D cs hm ms mkp mtr mas mso mon mot man mst msm mtb mti mfr mbn mbs mde maa mab mba mbb n k al be km en ea pr nq po th xd sF sN sS ig xa xb f o a e0 sof anf hen hso (by omega) ha he) kX12_322 hP hD [0, 1, 2, 3] rfl (by decide +kernel) 0 rfl rfl rfl ⟨Nat.le_of_ble_eq_true rfl, Nat.le_of_ble_eq_true rfl⟩ rfl hl.1 rfl (Nat.le_of_ble_eq_true rfl) dX12_yesOf_29 ⟨Nat.le_of_ble_eq_true rfl, Nat.le_of_ble_eq_true rfl⟩) hP hD hS hA [0, 1, 2, 3] [] rfl rfl (by decide +kernel) (by decide +kernel) ?_
          clear hP hD hS
          try clear locs
          try clear H
          intro r_6 u_7 H locs hw_r_6 hP hD hS
          have hw_r_6 : (r_6 = nI 0 ∨ r_6 = nI 1) := hw_r_6
          refine W.widen (k := 0) (n := 0) (Nat.le_of_ble_eq_true rfl) (Nat.le_of_ble_eq_true rfl) ?_
          replace hP : va_P D vwCl [(hm, .inr (12, [.ref ms, .ref mkp, .int (nI km), .ref mtr, .int (nI n), .int (nI k), .int (nI al), .int (nI be), .int ea, .int pr, .ref mas, .int nq, .int po, .int (nI en), .ref mso, .ref mon, .ref mot, .ref man, .int th, .int xd, .ref mst, .ref msm, .ref mtb, .ref mti, .ref mfr, .ref mbn, .ref mbs, .ref mde, .int sF, .int sN, .int sS, .int ig, .long xa, .long xb, .ref maa, .ref mab, .ref mba, .ref mbb])), (ms, .inl (cs 0, 288, .inl f)), (mso, .inl (cs 0, 16, .inl sof)), (man, .inl (cs 0, 16, .inl anf))] H := hP
          replace hD : va_D A [(hm, .inr (12, [.ref ms, .ref mkp, .int (nI km), .ref mtr, .int (nI n), .int (nI k), .int (nI al), .int (nI be), .int ea, .int pr, .ref mas, .int nq, .int po, .int (nI en), .ref mso, .ref mon, .ref mot, .ref man, .int th, .int xd, .ref mst, .ref msm, .ref mtb, .ref mti, .ref mfr, .ref mbn, .ref mbs, .ref mde, .int sF, .int sN, .int sS, .int ig, .long xa, .long xb, .ref maa, .ref mab, .ref mba, .ref mbb])), (ms, .inl (cs 0, 288, .inl f)), (mso, .inl (cs 0, 16, .inl sof)), (man, .inl (cs 0, 16, .inl anf))] := hD
          refine lv_if_eq (tgt := 38) hx hb dX12_yesOf_32 (by decide) (fun c_8 => ?_) (fun c_8 => ?_)
          · -- 32 t
            refine lv_iinc (v := nI (o + 1)) (lv' := [(5, .int (nI (o + 1))), (4, .int c9), (0, .ref hm), (1, .int (nI a)), (2, .int (nI e0)), (3, .int x)]) hx hb dX12_yesOf_38 hl (k := 0) rfl (nI_add o 1) (by decide) rfl ?_
            clear hl
            try clear ls
            intro ls hl
            refine lv_goto (tgt := 6) hx hb dX12_yesOf_41 (by decide) ?_
            exact ih_loop_1 (o + 1) c9 (by omega) (by omega) H locs ls hP hD hS (lv_sub hl [0, 1, 2, 3, 4, 5] rfl)
          · -- 32 f
            refine lv_iinc (v := c9 + 1) (lv' := [(4, .int (c9 + 1)), (5, .int (nI o)), (0, .ref hm), (1, .int (nI a)), (2, .int (nI e0)), (3, .int x)]) hx hb dX12_yesOf_35 hl (k := 1) rfl rfl (by decide) rfl ?_
            clear hl
            try clear ls
            intro ls hl
            refine lv_iinc (v := nI (o + 1)) (lv' := [(5, .int (nI (o + 1))), (4, .int (c9 + 1)), (0, .ref hm), (1, .int (nI a)), (2, .int (nI e0)), (3, .int x)]) hx hb dX12_yesOf_38 hl (k := 1) rfl (nI_add o 1) (by decide) rfl ?_
            clear hl
            try clear ls
            intro ls hl
            refine lv_goto (tgt := 6) hx hb dX12_yesOf_41 (by decide) ?_
            exact ih_loop_1 (o + 1) (c9 + 1) (by omega) (by omega) H locs ls hP hD hS (lv_sub hl [0, 1, 2, 3, 4, 5] rfl)
  exact loop_1 _ 0 (nI 0) (by omega) (Nat.lt_succ_self _) H locs ls hP hD hS (lv_sub hl [0, 1, 2, 3, 4, 5] rfl)

set_option maxHeartbeats 4000000 in
set_option maxRecDepth 100000 in
theorem c_X12_canPoll (l : Launch) (D : va_G) (cs : Nat → ClassId) (hm ms mkp mtr mas mso mon mot man mst msm mtb mti mfr mbn mbs mde maa mab mba mbb : Nat) (n k al be km en : Nat) (ea pr nq po th xd sF sN sS ig : Int32) (xa xb : Int64) (f : Nat → Int32) (x y b : Int32) (hn : 2 ≤ n ∧ n ≤ 8) (hen : en ≤ 16) : xMet l D cs yX12_canPoll cX12_canPoll 4 (some .boolean) ({ frames := 3, cells := 0, slots := 0, locals := 65 } : Room) [.ref hm, .int x, .int y, .int b] [(hm, .inr (12, [.ref ms, .ref mkp, .int (nI km), .ref mtr, .int (nI n), .int (nI k), .int (nI al), .int (nI be), .int ea, .int pr, .ref mas, .int nq, .int po, .int (nI en), .ref mso, .ref mon, .ref mot, .ref man, .int th, .int xd, .ref mst, .ref msm, .ref mtb, .ref mti, .ref mfr, .ref mbn, .ref mbs, .ref mde, .int sF, .int sN, .int sS, .int ig, .long xa, .long xb, .ref maa, .ref mab, .ref mba, .ref mbb])), (ms, .inl (cs 0, 288, .inl f))] (xQi D (fun (r : Int32) (_u : Unit) => (r = nI 0 ∨ r = nI 1) ∧ (r = nI 1 → okN n x ∧ okN en y)) (fun (_u : Unit) => [(hm, .inr (12, [.ref ms, .ref mkp, .int (nI km), .ref mtr, .int (nI n), .int (nI k), .int (nI al), .int (nI be), .int ea, .int pr, .ref mas, .int nq, .int po, .int (nI en), .ref mso, .ref mon, .ref mot, .ref man, .int th, .int xd, .ref mst, .ref msm, .ref mtb, .ref mti, .ref mfr, .ref mbn, .ref mbs, .ref mde, .int sF, .int sN, .int sS, .int ig, .long xa, .long xb, .ref maa, .ref mab, .ref mba, .ref mbb])), (ms, .inl (cs 0, 288, .inl f))])) := by
  refine xMet.intro (by decide) (Nat.le_of_ble_eq_true rfl) ?_
  intro p e s m args below meth c A ls C hP hD hS hl
  have hx := C.1
  have hb := C.2.1
  have hz := C.2.2.2.2.1
  have hown := C.2.2.2.1
  have hA := C.2.2.2.2.2.2.2.2.2
  have hAO := C.2.2.2.2.2.2.2.2.1.2.2
  replace hl : lv_has ls 4 [(0, .ref hm), (1, .int x), (2, .int y), (3, .int b)] := hl
  obtain ⟨H, hH⟩ : ∃ H, H = s.heap := ⟨_, rfl⟩
  replace hP : va_P D vwCl [(hm, .inr (12, [.ref ms, .ref mkp, .int (nI km), .ref mtr, .int (nI n), .int (nI k), .int (nI al), .int (nI be), .int ea, .int pr, .ref mas, .int nq, .int po, .int (nI en), .ref mso, .ref mon, .ref mot, .ref man, .int th, .int xd, .ref mst, .ref msm, .ref mtb, .ref mti, .ref mfr, .ref mbn, .ref mbs, .ref mde, .int sF, .int sN, .int sS, .int ig, .long xa, .long xb, .ref maa, .ref mab, .ref mba, .ref mbb])), (ms, .inl (cs 0, 288, .inl f))] H := by rw [hH]; exact hP
  replace hS : va_S A s.heap H [] := by rw [hH]; exact hS
  obtain ⟨locs, hlocs⟩ : ∃ z : List Loc, z = [] := ⟨_, rfl⟩
  rw [← hlocs] at hS
  suffices hW : W p l e ({ frames := 3, cells := 0, slots := 0, locals := 65 } : Room) s m args below meth c H locs 0 0 (MQ below ((xQi D (fun (r : Int32) (_u : Unit) => (r = nI 0 ∨ r = nI 1) ∧ (r = nI 1 → okN n x ∧ okN en y)) (fun (_u : Unit) => [(hm, .inr (12, [.ref ms, .ref mkp, .int (nI km), .ref mtr, .int (nI n), .int (nI k), .int (nI al), .int (nI be), .int ea, .int pr, .ref mas, .int nq, .int po, .int (nI en), .ref mso, .ref mon, .ref mot, .ref man, .int th, .int xd, .ref mst, .ref msm, .ref mtb, .ref mti, .ref mfr, .ref mbn, .ref mbs, .ref mde, .int sF, .int sN, .int sS, .int ig, .long xa, .long xb, .ref maa, .ref mab, .ref mba, .ref mbb])), (ms, .inl (cs 0, 288, .inl f))])) A) args s 0 0 A) (F0 m 0 ls []) by rw [hlocs, hH] at hW; exact hW
  clear hH hlocs
  refine lv_aload_n hx hb dX12_canPoll_0 rfl (lv_at hl 0 rfl) ?_
  refine lv_iload_n hx hb dX12_canPoll_1 rfl (lv_at hl 1 rfl) ?_
  refine xi (wr := [(ms, .inl (cs 0, 288, .inl f))]) (xV (As := [.int x]) (rest := []) C (c_X12_isNode l D cs hm ms mkp mtr mas mso mon mot man mst msm mtb mti mfr mbn mbs mde maa mab mba mbb n k al be km en ea pr nq po th xd sF sN sS ig xa xb x hn) kX12_120 hP hD [0] rfl (by decide +kernel) 0 rfl rfl rfl ⟨Nat.le_of_ble_eq_true rfl, Nat.le_of_ble_eq_true rfl⟩ rfl hl.1 rfl (Nat.le_of_ble_eq_true rfl) dX12_canPoll_2 ⟨Nat.le_of_ble_eq_true rfl, Nat.le_of_ble_eq_true rfl⟩) hP hD hS hA [0] [1] rfl rfl (by decide +kernel) (by decide +kernel) ?_
  clear hP hD hS
  try clear locs
  try clear H
  intro r_1 u_2 H locs hw_r_1 hP hD hS
  have hw_r_1 : PQ (okN n x) r_1 (nI 1) (nI 0) := hw_r_1
  refine W.widen (k := 0) (n := 0) (Nat.le_of_ble_eq_true rfl) (Nat.le_of_ble_eq_true rfl) ?_
  replace hP : va_P D vwCl [(ms, .inl (cs 0, 288, .inl f)), (hm, .inr (12, [.ref ms, .ref mkp, .int (nI km), .ref mtr, .int (nI n), .int (nI k), .int (nI al), .int (nI be), .int ea, .int pr, .ref mas, .int nq, .int po, .int (nI en), .ref mso, .ref mon, .ref mot, .ref man, .int th, .int xd, .ref mst, .ref msm, .ref mtb, .ref mti, .ref mfr, .ref mbn, .ref mbs, .ref mde, .int sF, .int sN, .int sS, .int ig, .long xa, .long xb, .ref maa, .ref mab, .ref mba, .ref mbb]))] H := hP
  replace hD : va_D A [(ms, .inl (cs 0, 288, .inl f)), (hm, .inr (12, [.ref ms, .ref mkp, .int (nI km), .ref mtr, .int (nI n), .int (nI k), .int (nI al), .int (nI be), .int ea, .int pr, .ref mas, .int nq, .int po, .int (nI en), .ref mso, .ref mon, .ref mot, .ref man, .int th, .int xd, .ref mst, .ref msm, .ref mtb, .ref mti, .ref mfr, .ref mbn, .ref mbs, .ref mde, .int sF, .int sN, .int sS, .int ig, .long xa, .long xb, .ref maa, .ref mab, .ref mba, .ref mbb]))] := hD
  refine lv_if_eq (tgt := 57) hx hb dX12_canPoll_5 (by decide) (fun c_3 => ?_) (fun c_3 => ?_)
  · -- 5 t
    have hbad_j : ¬ okN n x := PQ.no hw_r_1 c_3 (by decide)
    refine lv_iconst (v := nI 0) hx hb dX12_canPoll_57 (by decide) ?_
    exact xreti C () (⟨by decide, fun q => absurd q (by decide)⟩) (xP_map hP [1, 0] rfl) (hD.sub [1, 0] (by decide +kernel) rfl) hS (Nat.le_of_ble_eq_true rfl) (Nat.le_of_ble_eq_true rfl) (by decide) dX12_canPoll_58
  · -- 5 f
    have hok_j : okN n x := PQ.yes hw_r_1 c_3
    obtain ⟨j, h_j, rfl⟩ := okN_of hok_j (by omega)
    replace hP : va_P D vwCl [(ms, .inl (cs 0, 288, .inl f)), (hm, .inr (12, [.ref ms, .ref mkp, .int (nI km), .ref mtr, .int (nI n), .int (nI k), .int (nI al), .int (nI be), .int ea, .int pr, .ref mas, .int nq, .int po, .int (nI en), .ref mso, .ref mon, .ref mot, .ref man, .int th, .int xd, .ref mst, .ref msm, .ref mtb, .ref mti, .ref mfr, .ref mbn, .ref mbs, .ref mde, .int sF, .int sN, .int sS, .int ig, .long xa, .long xb, .ref maa, .ref mab, .ref mba, .ref mbb]))] H := hP
    replace hD : va_D A [(ms, .inl (cs 0, 288, .inl f)), (hm, .inr (12, [.ref ms, .ref mkp, .int (nI km), .ref mtr, .int (nI n), .int (nI k), .int (nI al), .int (nI be), .int ea, .int pr, .ref mas, .int nq, .int po, .int (nI en), .ref mso, .ref mon, .ref mot, .ref man, .int th, .int xd, .ref mst, .ref msm, .ref mtb, .ref mti, .ref mfr, .ref mbn, .ref mbs, .ref mde, .int sF, .int sN, .int sS, .int ig, .long xa, .long xb, .ref maa, .ref mab, .ref mba, .ref mbb]))] := hD
    refine lv_aload_n hx hb dX12_canPoll_8 rfl (lv_at hl 0 rfl) ?_
    refine lv_iload_n hx hb dX12_canPoll_9 rfl (lv_at hl 2 rfl) ?_
    refine xi (wr := [(ms, .inl (cs 0, 288, .inl f))]) (xV (As := [.int y]) (rest := []) C (c_X12_isEntry l D cs hm ms mkp mtr mas mso mon mot man mst msm mtb mti mfr mbn mbs mde maa mab mba mbb n k al be km en ea pr nq po th xd sF sN sS ig xa xb y hen) kX12_319 hP hD [1] rfl (by decide +kernel) 0 rfl rfl rfl ⟨Nat.le_of_ble_eq_true rfl, Nat.le_of_ble_eq_true rfl⟩ rfl hl.1 rfl (Nat.le_of_ble_eq_true rfl) dX12_canPoll_10 ⟨Nat.le_of_ble_eq_true rfl, Nat.le_of_ble_eq_true rfl⟩) hP hD hS hA [1] [0] rfl rfl (by decide +kernel) (by decide +kernel) ?_
    clear hP hD hS
    try clear locs
    try clear H
    intro r_4 u_5 H locs hw_r_4 hP hD hS
    have hw_r_4 : PQ (okN en y) r_4 (nI 1) (nI 0) := hw_r_4
    refine W.widen (k := 0) (n := 0) (Nat.le_of_ble_eq_true rfl) (Nat.le_of_ble_eq_true rfl) ?_
    replace hP : va_P D vwCl [(ms, .inl (cs 0, 288, .inl f)), (hm, .inr (12, [.ref ms, .ref mkp, .int (nI km), .ref mtr, .int (nI n), .int (nI k), .int (nI al), .int (nI be), .int ea, .int pr, .ref mas, .int nq, .int po, .int (nI en), .ref mso, .ref mon, .ref mot, .ref man, .int th, .int xd, .ref mst, .ref msm, .ref mtb, .ref mti, .ref mfr, .ref mbn, .ref mbs, .ref mde, .int sF, .int sN, .int sS, .int ig, .long xa, .long xb, .ref maa, .ref mab, .ref mba, .ref mbb]))] H := hP
    replace hD : va_D A [(ms, .inl (cs 0, 288, .inl f)), (hm, .inr (12, [.ref ms, .ref mkp, .int (nI km), .ref mtr, .int (nI n), .int (nI k), .int (nI al), .int (nI be), .int ea, .int pr, .ref mas, .int nq, .int po, .int (nI en), .ref mso, .ref mon, .ref mot, .ref man, .int th, .int xd, .ref mst, .ref msm, .ref mtb, .ref mti, .ref mfr, .ref mbn, .ref mbs, .ref mde, .int sF, .int sN, .int sS, .int ig, .long xa, .long xb, .ref maa, .ref mab, .ref mba, .ref mbb]))] := hD
    refine lv_if_eq (tgt := 57) hx hb dX12_canPoll_13 (by decide) (fun c_6 => ?_) (fun c_6 => ?_)
    · -- 13 t
      refine lv_iconst (v := nI 0) hx hb dX12_canPoll_57 (by decide) ?_
      exact xreti C () (⟨by decide, fun q => absurd q (by decide)⟩) (xP_map hP [1, 0] rfl) (hD.sub [1, 0] (by decide +kernel) rfl) hS (Nat.le_of_ble_eq_true rfl) (Nat.le_of_ble_eq_true rfl) (by decide) dX12_canPoll_58
    · -- 13 f
      have hok_j2 : okN en y := PQ.yes hw_r_4 c_6
      obtain ⟨j2, h_j2, rfl⟩ := okN_of hok_j2 (by omega)
      replace hP : va_P D vwCl [(ms, .inl (cs 0, 288, .inl f)), (hm, .inr (12, [.ref ms, .ref mkp, .int (nI km), .ref mtr, .int (nI n), .int (nI k), .int (nI al), .int (nI be), .int ea, .int pr, .ref mas, .int nq, .int po, .int (nI en), .ref mso, .ref mon, .ref mot, .ref man, .int th, .int xd, .ref mst, .ref msm, .ref mtb, .ref mti, .ref mfr, .ref mbn, .ref mbs, .ref mde, .int sF, .int sN, .int sS, .int ig, .long xa, .long xb, .ref maa, .ref mab, .ref mba, .ref mbb]))] H := hP
      replace hD : va_D A [(ms, .inl (cs 0, 288, .inl f)), (hm, .inr (12, [.ref ms, .ref mkp, .int (nI km), .ref mtr, .int (nI n), .int (nI k), .int (nI al), .int (nI be), .int ea, .int pr, .ref mas, .int nq, .int po, .int (nI en), .ref mso, .ref mon, .ref mot, .ref man, .int th, .int xd, .ref mst, .ref msm, .ref mtb, .ref mti, .ref mfr, .ref mbn, .ref mbs, .ref mde, .int sF, .int sN, .int sS, .int ig, .long xa, .long xb, .ref maa, .ref mab, .ref mba, .ref mbb]))] := hD
      refine lv_aload_n hx hb dX12_canPoll_16 rfl (lv_at hl 0 rfl) ?_
      refine lv_iload_n hx hb dX12_canPoll_17 rfl (lv_at hl 1 rfl) ?_
      refine lv_iload_n hx hb dX12_canPoll_18 rfl (lv_at hl 3 rfl) ?_
      refine xi (wr := [(ms, .inl (cs 0, 288, .inl f))]) (xV (As := [.int (nI j), .int b]) (rest := []) C (c_X12_isSample l D cs hm ms mkp mtr mas mso mon mot man mst msm mtb mti mfr mbn mbs mde maa mab mba mbb n k al be km en ea pr nq po th xd sF sN sS ig xa xb j b) kX12_139 hP hD [1] rfl (by decide +kernel) 0 rfl rfl rfl ⟨Nat.le_of_ble_eq_true rfl, Nat.le_of_ble_eq_true rfl⟩ rfl hl.1 rfl (Nat.le_of_ble_eq_true rfl) dX12_canPoll_19 ⟨Nat.le_of_ble_eq_true rfl, Nat.le_of_ble_eq_true rfl⟩) hP hD hS hA [1] [0] rfl rfl (by decide +kernel) (by decide +kernel) ?_
      clear hP hD hS
      try clear locs
      try clear H
      intro r_7 u_8 H locs hw_r_7 hP hD hS
      have hw_r_7 : (r_7 = nI 0 ∨ r_7 = nI 1) := hw_r_7
      refine W.widen (k := 0) (n := 0) (Nat.le_of_ble_eq_true rfl) (Nat.le_of_ble_eq_true rfl) ?_
      replace hP : va_P D vwCl [(ms, .inl (cs 0, 288, .inl f)), (hm, .inr (12, [.ref ms, .ref mkp, .int (nI km), .ref mtr, .int (nI n), .int (nI k), .int (nI al), .int (nI be), .int ea, .int pr, .ref mas, .int nq, .int po, .int (nI en), .ref mso, .ref mon, .ref mot, .ref man, .int th, .int xd, .ref mst, .ref msm, .ref mtb, .ref mti, .ref mfr, .ref mbn, .ref mbs, .ref mde, .int sF, .int sN, .int sS, .int ig, .long xa, .long xb, .ref maa, .ref mab, .ref mba, .ref mbb]))] H := hP
      replace hD : va_D A [(ms, .inl (cs 0, 288, .inl f)), (hm, .inr (12, [.ref ms, .ref mkp, .int (nI km), .ref mtr, .int (nI n), .int (nI k), .int (nI al), .int (nI be), .int ea, .int pr, .ref mas, .int nq, .int po, .int (nI en), .ref mso, .ref mon, .ref mot, .ref man, .int th, .int xd, .ref mst, .ref msm, .ref mtb, .ref mti, .ref mfr, .ref mbn, .ref mbs, .ref mde, .int sF, .int sN, .int sS, .int ig, .long xa, .long xb, .ref maa, .ref mab, .ref mba, .ref mbb]))] := hD
      refine lv_if_eq (tgt := 57) hx hb dX12_canPoll_22 (by decide) (fun c_9 => ?_) (fun c_9 => ?_)
      · -- 22 t
        refine lv_iconst (v := nI 0) hx hb dX12_canPoll_57 (by decide) ?_
        exact xreti C () (⟨by decide, fun q => absurd q (by decide)⟩) (xP_map hP [1, 0] rfl) (hD.sub [1, 0] (by decide +kernel) rfl) hS (Nat.le_of_ble_eq_true rfl) (Nat.le_of_ble_eq_true rfl) (by decide) dX12_canPoll_58
      · -- 22 f
        refine lv_aload_n hx hb dX12_canPoll_25 rfl (lv_at hl 0 rfl) ?_
        refine xget C hP 1 rfl rfl zuX12 0 (by decide) zw5_213 rfl dX12_canPoll_26 ?_
        refine lv_bipush (v := nI 48) hx hb dX12_canPoll_29 (by decide) ?_
        refine lv_iload_n hx hb dX12_canPoll_31 rfl (lv_at hl 1 rfl) ?_
        refine lv_iadd hx hb dX12_canPoll_32 ?_
        refine lv_topi (nm_r (e' := nI (48 + j)) (nI_add _ _) ?_)
        refine xiald C hP 0 rfl (48 + j) rfl (by omega) (by decide) dX12_canPoll_33 ?_
        refine lv_if_ne (tgt := 57) hx hb dX12_canPoll_34 (by decide) (fun c_10 => ?_) (fun c_10 => ?_)
        · -- 34 t
          refine lv_iconst (v := nI 0) hx hb dX12_canPoll_57 (by decide) ?_
          exact xreti C () (⟨by decide, fun q => absurd q (by decide)⟩) (xP_map hP [1, 0] rfl) (hD.sub [1, 0] (by decide +kernel) rfl) hS (Nat.le_of_ble_eq_true rfl) (Nat.le_of_ble_eq_true rfl) (by decide) dX12_canPoll_58
        · -- 34 f
          refine lv_aload_n hx hb dX12_canPoll_37 rfl (lv_at hl 0 rfl) ?_
          refine xget C hP 1 rfl rfl zuX12 0 (by decide) zw5_213 rfl dX12_canPoll_38 ?_
          refine lv_bipush (v := nI 72) hx hb dX12_canPoll_41 (by decide) ?_
          refine lv_iload_n hx hb dX12_canPoll_43 rfl (lv_at hl 1 rfl) ?_
          refine lv_iadd hx hb dX12_canPoll_44 ?_
          refine lv_topi (nm_r (e' := nI (72 + j)) (nI_add _ _) ?_)
          refine xiald C hP 0 rfl (72 + j) rfl (by omega) (by decide) dX12_canPoll_45 ?_
          refine lv_iload_n hx hb dX12_canPoll_46 rfl (lv_at hl 2 rfl) ?_
          refine xi (wr := [(ms, .inl (cs 0, 288, .inl f)), (hm, .inr (12, [.ref ms, .ref mkp, .int (nI km), .ref mtr, .int (nI n), .int (nI k), .int (nI al), .int (nI be), .int ea, .int pr, .ref mas, .int nq, .int po, .int (nI en), .ref mso, .ref mon, .ref mot, .ref man, .int th, .int xd, .ref mst, .ref msm, .ref mtb, .ref mti, .ref mfr, .ref mbn, .ref mbs, .ref mde, .int sF, .int sN, .int sS, .int ig, .long xa, .long xb, .ref maa, .ref mab, .ref mba, .ref mbb]))]) (xS (As := [.int (f (72 + j)), .int (nI j2)]) (rest := []) C (c_X12_has l D cs (f (72 + j)) j2) kX12_100 hP hD [] rfl (by decide +kernel) ⟨Nat.le_of_ble_eq_true rfl, Nat.le_of_ble_eq_true rfl⟩ rfl hl.1 rfl (Nat.le_of_ble_eq_true rfl) dX12_canPoll_47 ⟨Nat.le_of_ble_eq_true rfl, Nat.le_of_ble_eq_true rfl⟩) hP hD hS hA [] [0, 1] rfl rfl (by decide +kernel) (by decide +kernel) ?_
          clear hP hD hS
          try clear locs
          try clear H
          intro r_11 u_12 H locs hw_r_11 hP hD hS
          have hw_r_11 : PQ (hasB (f (72 + j)) j2) r_11 (nI 1) (nI 0) := hw_r_11
          refine W.widen (k := 0) (n := 0) (Nat.le_of_ble_eq_true rfl) (Nat.le_of_ble_eq_true rfl) ?_
          replace hP : va_P D vwCl [(ms, .inl (cs 0, 288, .inl f)), (hm, .inr (12, [.ref ms, .ref mkp, .int (nI km), .ref mtr, .int (nI n), .int (nI k), .int (nI al), .int (nI be), .int ea, .int pr, .ref mas, .int nq, .int po, .int (nI en), .ref mso, .ref mon, .ref mot, .ref man, .int th, .int xd, .ref mst, .ref msm, .ref mtb, .ref mti, .ref mfr, .ref mbn, .ref mbs, .ref mde, .int sF, .int sN, .int sS, .int ig, .long xa, .long xb, .ref maa, .ref mab, .ref mba, .ref mbb]))] H := hP
          replace hD : va_D A [(ms, .inl (cs 0, 288, .inl f)), (hm, .inr (12, [.ref ms, .ref mkp, .int (nI km), .ref mtr, .int (nI n), .int (nI k), .int (nI al), .int (nI be), .int ea, .int pr, .ref mas, .int nq, .int po, .int (nI en), .ref mso, .ref mon, .ref mot, .ref man, .int th, .int xd, .ref mst, .ref msm, .ref mtb, .ref mti, .ref mfr, .ref mbn, .ref mbs, .ref mde, .int sF, .int sN, .int sS, .int ig, .long xa, .long xb, .ref maa, .ref mab, .ref mba, .ref mbb]))] := hD
          refine lv_if_ne (tgt := 57) hx hb dX12_canPoll_50 (by decide) (fun c_13 => ?_) (fun c_13 => ?_)
          · -- 50 t
            refine lv_iconst (v := nI 0) hx hb dX12_canPoll_57 (by decide) ?_
            exact xreti C () (⟨by decide, fun q => absurd q (by decide)⟩) (xP_map hP [1, 0] rfl) (hD.sub [1, 0] (by decide +kernel) rfl) hS (Nat.le_of_ble_eq_true rfl) (Nat.le_of_ble_eq_true rfl) (by decide) dX12_canPoll_58
          · -- 50 f
            refine lv_iconst (v := nI 1) hx hb dX12_canPoll_53 (by decide) ?_
            refine lv_goto (tgt := 58) hx hb dX12_canPoll_54 (by decide) ?_
            exact xreti C () (⟨by decide, fun _ => ⟨okN_nI h_j (by omega), okN_nI h_j2 (by omega)⟩⟩) (xP_map hP [1, 0] rfl) (hD.sub [1, 0] (by decide +kernel) rfl) hS (Nat.le_of_ble_eq_true rfl) (Nat.le_of_ble_eq_true rfl) (by decide) dX12_canPoll_58

set_option maxHeartbeats 4000000 in
set_option maxRecDepth 100000 in
theorem c_X12_marks (l : Launch) (D : va_G) (cs : Nat → ClassId) (hm ms mkp mtr mas mso mon mot man mst msm mtb mti mfr mbn mbs mde maa mab mba mbb : Nat) (n k al be km en : Nat) (ea pr nq po th xd sF sN sS ig : Int32) (xa xb : Int64) (f : Nat → Int32) (a k9 : Nat) (x : Int32) (sof anf : Nat → Int32) (hen : en ≤ 16) (hso : inP 16 8 sof) (hs : colP f) (ha : a < 8) (hk9 : k9 < 16) : xMet l D cs yX12_marks cX12_marks 5 none ({ frames := 3, cells := 0, slots := 0, locals := 66 } : Room) [.ref hm, .int (nI a), .int (nI k9), .int x] [(hm, .inr (12, [.ref ms, .ref mkp, .int (nI km), .ref mtr, .int (nI n), .int (nI k), .int (nI al), .int (nI be), .int ea, .int pr, .ref mas, .int nq, .int po, .int (nI en), .ref mso, .ref mon, .ref mot, .ref man, .int th, .int xd, .ref mst, .ref msm, .ref mtb, .ref mti, .ref mfr, .ref mbn, .ref mbs, .ref mde, .int sF, .int sN, .int sS, .int ig, .long xa, .long xb, .ref maa, .ref mab, .ref mba, .ref mbb])), (ms, .inl (cs 0, 288, .inl f)), (mso, .inl (cs 0, 16, .inl sof)), (man, .inl (cs 0, 16, .inl anf))] (xQv D (fun (fz : (Nat → Int32)) => colP fz) (fun (fz : (Nat → Int32)) => [(hm, .inr (12, [.ref ms, .ref mkp, .int (nI km), .ref mtr, .int (nI n), .int (nI k), .int (nI al), .int (nI be), .int ea, .int pr, .ref mas, .int nq, .int po, .int (nI en), .ref mso, .ref mon, .ref mot, .ref man, .int th, .int xd, .ref mst, .ref msm, .ref mtb, .ref mti, .ref mfr, .ref mbn, .ref mbs, .ref mde, .int sF, .int sN, .int sS, .int ig, .long xa, .long xb, .ref maa, .ref mab, .ref mba, .ref mbb])), (ms, .inl (cs 0, 288, .inl fz)), (mso, .inl (cs 0, 16, .inl sof)), (man, .inl (cs 0, 16, .inl anf))])) := by
  refine xMet.intro (by decide) (Nat.le_of_ble_eq_true rfl) ?_
  intro p e s m args below meth c A ls C hP hD hS hl
  have hx := C.1
  have hb := C.2.1
  have hz := C.2.2.2.2.1
  have hown := C.2.2.2.1
  have hA := C.2.2.2.2.2.2.2.2.2
  have hAO := C.2.2.2.2.2.2.2.2.1.2.2
  replace hl : lv_has ls 5 [(0, .ref hm), (1, .int (nI a)), (2, .int (nI k9)), (3, .int x)] := hl
  obtain ⟨H, hH⟩ : ∃ H, H = s.heap := ⟨_, rfl⟩
  replace hP : va_P D vwCl [(hm, .inr (12, [.ref ms, .ref mkp, .int (nI km), .ref mtr, .int (nI n), .int (nI k), .int (nI al), .int (nI be), .int ea, .int pr, .ref mas, .int nq, .int po, .int (nI en), .ref mso, .ref mon, .ref mot, .ref man, .int th, .int xd, .ref mst, .ref msm, .ref mtb, .ref mti, .ref mfr, .ref mbn, .ref mbs, .ref mde, .int sF, .int sN, .int sS, .int ig, .long xa, .long xb, .ref maa, .ref mab, .ref mba, .ref mbb])), (ms, .inl (cs 0, 288, .inl f)), (mso, .inl (cs 0, 16, .inl sof)), (man, .inl (cs 0, 16, .inl anf))] H := by rw [hH]; exact hP
  replace hS : va_S A s.heap H [] := by rw [hH]; exact hS
  obtain ⟨locs, hlocs⟩ : ∃ z : List Loc, z = [] := ⟨_, rfl⟩
  rw [← hlocs] at hS
  suffices hW : W p l e ({ frames := 3, cells := 0, slots := 0, locals := 66 } : Room) s m args below meth c H locs 0 0 (MQ below ((xQv D (fun (fz : (Nat → Int32)) => colP fz) (fun (fz : (Nat → Int32)) => [(hm, .inr (12, [.ref ms, .ref mkp, .int (nI km), .ref mtr, .int (nI n), .int (nI k), .int (nI al), .int (nI be), .int ea, .int pr, .ref mas, .int nq, .int po, .int (nI en), .ref mso, .ref mon, .ref mot, .ref man, .int th, .int xd, .ref mst, .ref msm, .ref mtb, .ref mti, .ref mfr, .ref mbn, .ref mbs, .ref mde, .int sF, .int sN, .int sS, .int ig, .long xa, .long xb, .ref maa, .ref mab, .ref mba, .ref mbb])), (ms, .inl (cs 0, 288, .inl fz)), (mso, .inl (cs 0, 16, .inl sof)), (man, .inl (cs 0, 16, .inl anf))])) A) args s 0 0 A) (F0 m 0 ls []) by rw [hlocs, hH] at hW; exact hW
  clear hH hlocs
  refine lv_bipush (v := nI 8) hx hb dX12_marks_0 (by decide) ?_
  refine lv_iload_n hx hb dX12_marks_2 rfl (lv_at hl 1 rfl) ?_
  refine lv_imul hx hb dX12_marks_3 ?_
  refine lv_topi (nm_r (e' := nI (8 * a)) (pk_mul _ _) ?_)
  refine lv_aload_n hx hb dX12_marks_4 rfl (lv_at hl 0 rfl) ?_
  refine xget C hP 0 rfl rfl zuX12 14 (by decide) zw5_227 rfl dX12_marks_5 ?_
  refine lv_iload_n hx hb dX12_marks_8 rfl (lv_at hl 2 rfl) ?_
  refine xiald C hP 2 rfl k9 rfl (by omega) (by decide) dX12_marks_9 ?_
  obtain ⟨t_1, h_t_1, e_t_1⟩ := (hso k9 (by omega))
  refine lv_topi (nm_r (e' := nI t_1) e_t_1 ?_)
  refine lv_iadd hx hb dX12_marks_10 ?_
  refine lv_topi (nm_r (e' := nI ((8 * a) + t_1)) (nI_add _ _) ?_)
  refine lv_istore (lv' := [(4, .int (nI ((8 * a) + t_1))), (0, .ref hm), (1, .int (nI a)), (2, .int (nI k9)), (3, .int x)]) hx hb dX12_marks_11 hl (by decide) rfl ?_
  clear hl
  try clear ls
  intro ls hl
  refine lv_iload_n hx hb dX12_marks_13 rfl (lv_at hl 4 rfl) ?_
  refine lv_if_ne (tgt := 30) hx hb dX12_marks_14 (by decide) (fun c_2 => ?_) (fun c_2 => ?_)
  · -- 14 t
    refine lv_aload_n hx hb dX12_marks_30 rfl (lv_at hl 1 rfl) ?_
    refine lv_iload_n hx hb dX12_marks_31 rfl (lv_at hl 2 rfl) ?_
    refine lv_iload_n hx hb dX12_marks_32 rfl (lv_at hl 3 rfl) ?_
    refine xi (wr := [(mso, .inl (cs 0, 16, .inl sof))]) (xV (As := [.int (nI a), .int (nI k9)]) (rest := []) C (c_X12_confOf l D cs hm ms mkp mtr mas mso mon mot man mst msm mtb mti mfr mbn mbs mde maa mab mba mbb n k al be km en ea pr nq po th xd sF sN sS ig xa xb f a (nI k9) anf hen ha) kX12_336 hP hD [0, 1, 3] rfl (by decide +kernel) 0 rfl rfl rfl ⟨Nat.le_of_ble_eq_true rfl, Nat.le_of_ble_eq_true rfl⟩ rfl hl.1 rfl (Nat.le_of_ble_eq_true rfl) dX12_marks_33 ⟨Nat.le_of_ble_eq_true rfl, Nat.le_of_ble_eq_true rfl⟩) hP hD hS hA [0, 1, 3] [2] rfl rfl (by decide +kernel) (by decide +kernel) ?_
    clear hP hD hS
    try clear locs
    try clear H
    intro r_3 u_4 H locs hw_r_3 hP hD hS
    refine W.widen (k := 0) (n := 0) (Nat.le_of_ble_eq_true rfl) (Nat.le_of_ble_eq_true rfl) ?_
    replace hP : va_P D vwCl [(mso, .inl (cs 0, 16, .inl sof)), (hm, .inr (12, [.ref ms, .ref mkp, .int (nI km), .ref mtr, .int (nI n), .int (nI k), .int (nI al), .int (nI be), .int ea, .int pr, .ref mas, .int nq, .int po, .int (nI en), .ref mso, .ref mon, .ref mot, .ref man, .int th, .int xd, .ref mst, .ref msm, .ref mtb, .ref mti, .ref mfr, .ref mbn, .ref mbs, .ref mde, .int sF, .int sN, .int sS, .int ig, .long xa, .long xb, .ref maa, .ref mab, .ref mba, .ref mbb])), (ms, .inl (cs 0, 288, .inl f)), (man, .inl (cs 0, 16, .inl anf))] H := hP
    replace hD : va_D A [(mso, .inl (cs 0, 16, .inl sof)), (hm, .inr (12, [.ref ms, .ref mkp, .int (nI km), .ref mtr, .int (nI n), .int (nI k), .int (nI al), .int (nI be), .int ea, .int pr, .ref mas, .int nq, .int po, .int (nI en), .ref mso, .ref mon, .ref mot, .ref man, .int th, .int xd, .ref mst, .ref msm, .ref mtb, .ref mti, .ref mfr, .ref mbn, .ref mbs, .ref mde, .int sF, .int sN, .int sS, .int ig, .long xa, .long xb, .ref maa, .ref mab, .ref mba, .ref mbb])), (ms, .inl (cs 0, 288, .inl f)), (man, .inl (cs 0, 16, .inl anf))] := hD
    refine lv_aload_n hx hb dX12_marks_36 rfl (lv_at hl 1 rfl) ?_
    refine lv_iload_n hx hb dX12_marks_37 rfl (lv_at hl 2 rfl) ?_
    refine lv_aload_n hx hb dX12_marks_38 rfl (lv_at hl 1 rfl) ?_
    refine xget C hP 1 rfl rfl zuX12 0 (by decide) zw5_213 rfl dX12_marks_39 ?_
    refine lv_bipush (v := nI 96) hx hb dX12_marks_42 (by decide) ?_
    refine lv_iload hx hb dX12_marks_44 (lv_at hl 0 rfl) ?_
    refine lv_iadd hx hb dX12_marks_46 ?_
    refine lv_topi (nm_r (e' := nI (96 + ((8 * a) + t_1))) (nI_add _ _) ?_)
    refine xiald C hP 2 rfl (96 + ((8 * a) + t_1)) rfl (by omega) (by decide) dX12_marks_47 ?_
    refine xi (wr := [(mso, .inl (cs 0, 16, .inl sof))]) (xV (As := [.int (nI a), .int (f (96 + ((8 * a) + t_1)))]) (rest := [.int r_3]) C (c_X12_confOf l D cs hm ms mkp mtr mas mso mon mot man mst msm mtb mti mfr mbn mbs mde maa mab mba mbb n k al be km en ea pr nq po th xd sF sN sS ig xa xb f a (f (96 + ((8 * a) + t_1))) anf hen ha) kX12_336 hP hD [1, 2, 3] rfl (by decide +kernel) 0 rfl rfl rfl ⟨Nat.le_of_ble_eq_true rfl, Nat.le_of_ble_eq_true rfl⟩ rfl hl.1 rfl (Nat.le_of_ble_eq_true rfl) dX12_marks_48 ⟨Nat.le_of_ble_eq_true rfl, Nat.le_of_ble_eq_true rfl⟩) hP hD hS hA [1, 2, 3] [0] rfl rfl (by decide +kernel) (by decide +kernel) ?_
    clear hP hD hS
    try clear locs
    try clear H
    intro r_5 u_6 H locs hw_r_5 hP hD hS
    refine W.widen (k := 0) (n := 0) (Nat.le_of_ble_eq_true rfl) (Nat.le_of_ble_eq_true rfl) ?_
    replace hP : va_P D vwCl [(mso, .inl (cs 0, 16, .inl sof)), (hm, .inr (12, [.ref ms, .ref mkp, .int (nI km), .ref mtr, .int (nI n), .int (nI k), .int (nI al), .int (nI be), .int ea, .int pr, .ref mas, .int nq, .int po, .int (nI en), .ref mso, .ref mon, .ref mot, .ref man, .int th, .int xd, .ref mst, .ref msm, .ref mtb, .ref mti, .ref mfr, .ref mbn, .ref mbs, .ref mde, .int sF, .int sN, .int sS, .int ig, .long xa, .long xb, .ref maa, .ref mab, .ref mba, .ref mbb])), (ms, .inl (cs 0, 288, .inl f)), (man, .inl (cs 0, 16, .inl anf))] H := hP
    replace hD : va_D A [(mso, .inl (cs 0, 16, .inl sof)), (hm, .inr (12, [.ref ms, .ref mkp, .int (nI km), .ref mtr, .int (nI n), .int (nI k), .int (nI al), .int (nI be), .int ea, .int pr, .ref mas, .int nq, .int po, .int (nI en), .ref mso, .ref mon, .ref mot, .ref man, .int th, .int xd, .ref mst, .ref msm, .ref mtb, .ref mti, .ref mfr, .ref mbn, .ref mbs, .ref mde, .int sF, .int sN, .int sS, .int ig, .long xa, .long xb, .ref maa, .ref mab, .ref mba, .ref mbb])), (ms, .inl (cs 0, 288, .inl f)), (man, .inl (cs 0, 16, .inl anf))] := hD
    refine lv_icmp_le (tgt := 65) hx hb dX12_marks_51 (by decide) (fun c_7 => ?_) (fun c_7 => ?_)
    · -- 51 t
      refine lv_aload_n hx hb dX12_marks_65 rfl (lv_at hl 1 rfl) ?_
      refine xget C hP 1 rfl rfl zuX12 0 (by decide) zw5_213 rfl dX12_marks_66 ?_
      refine lv_sipush (v := nI 160) hx hb dX12_marks_69 (by decide) ?_
      refine lv_iload hx hb dX12_marks_72 (lv_at hl 0 rfl) ?_
      refine lv_iadd hx hb dX12_marks_74 ?_
      refine lv_topi (nm_r (e' := nI (160 + ((8 * a) + t_1))) (nI_add _ _) ?_)
      refine xiald C hP 2 rfl (160 + ((8 * a) + t_1)) rfl (by omega) (by decide) dX12_marks_75 ?_
      refine lv_iload_n hx hb dX12_marks_76 rfl (lv_at hl 3 rfl) ?_
      refine lv_icmp_ne (tgt := 98) hx hb dX12_marks_77 (by decide) (fun c_8 => ?_) (fun c_8 => ?_)
      · -- 77 t
        refine lv_aload_n hx hb dX12_marks_98 rfl (lv_at hl 1 rfl) ?_
        refine xget C hP 1 rfl rfl zuX12 0 (by decide) zw5_213 rfl dX12_marks_99 ?_
        refine lv_sipush (v := nI 160) hx hb dX12_marks_102 (by decide) ?_
        refine lv_iload hx hb dX12_marks_105 (lv_at hl 0 rfl) ?_
        refine lv_iadd hx hb dX12_marks_107 ?_
        refine lv_topi (nm_r (e' := nI (160 + ((8 * a) + t_1))) (nI_add _ _) ?_)
        refine lv_iload_n hx hb dX12_marks_108 rfl (lv_at hl 3 rfl) ?_
        refine xiast C hP hD hS 2 rfl (160 + ((8 * a) + t_1)) rfl (by omega) (by decide) dX12_marks_109 ?_
        clear hP hD hS
        try clear locs
        try clear H
        intro H locs hP hD hS
        replace hP : va_P D vwCl [(mso, .inl (cs 0, 16, .inl sof)), (hm, .inr (12, [.ref ms, .ref mkp, .int (nI km), .ref mtr, .int (nI n), .int (nI k), .int (nI al), .int (nI be), .int ea, .int pr, .ref mas, .int nq, .int po, .int (nI en), .ref mso, .ref mon, .ref mot, .ref man, .int th, .int xd, .ref mst, .ref msm, .ref mtb, .ref mti, .ref mfr, .ref mbn, .ref mbs, .ref mde, .int sF, .int sN, .int sS, .int ig, .long xa, .long xb, .ref maa, .ref mab, .ref mba, .ref mbb])), (ms, .inl (cs 0, 288, .inl (upd f (160 + ((8 * a) + t_1)) (nI k9)))), (man, .inl (cs 0, 16, .inl anf))] H := hP
        replace hD : va_D A [(mso, .inl (cs 0, 16, .inl sof)), (hm, .inr (12, [.ref ms, .ref mkp, .int (nI km), .ref mtr, .int (nI n), .int (nI k), .int (nI al), .int (nI be), .int ea, .int pr, .ref mas, .int nq, .int po, .int (nI en), .ref mso, .ref mon, .ref mot, .ref man, .int th, .int xd, .ref mst, .ref msm, .ref mtb, .ref mti, .ref mfr, .ref mbn, .ref mbs, .ref mde, .int sF, .int sN, .int sS, .int ig, .long xa, .long xb, .ref maa, .ref mab, .ref mba, .ref mbb])), (ms, .inl (cs 0, 288, .inl (upd f (160 + ((8 * a) + t_1)) (nI k9)))), (man, .inl (cs 0, 16, .inl anf))] := hD
        refine lv_aload_n hx hb dX12_marks_110 rfl (lv_at hl 1 rfl) ?_
        refine xget C hP 1 rfl rfl zuX12 0 (by decide) zw5_213 rfl dX12_marks_111 ?_
        refine lv_sipush (v := nI 224) hx hb dX12_marks_114 (by decide) ?_
        refine lv_iload hx hb dX12_marks_117 (lv_at hl 0 rfl) ?_
        refine lv_iadd hx hb dX12_marks_119 ?_
        refine lv_topi (nm_r (e' := nI (224 + ((8 * a) + t_1))) (nI_add _ _) ?_)
        refine lv_iconst (v := nI 1) hx hb dX12_marks_120 (by decide) ?_
        refine xiast C hP hD hS 2 rfl (224 + ((8 * a) + t_1)) rfl (by omega) (by decide) dX12_marks_121 ?_
        clear hP hD hS
        try clear locs
        try clear H
        intro H locs hP hD hS
        replace hP : va_P D vwCl [(mso, .inl (cs 0, 16, .inl sof)), (hm, .inr (12, [.ref ms, .ref mkp, .int (nI km), .ref mtr, .int (nI n), .int (nI k), .int (nI al), .int (nI be), .int ea, .int pr, .ref mas, .int nq, .int po, .int (nI en), .ref mso, .ref mon, .ref mot, .ref man, .int th, .int xd, .ref mst, .ref msm, .ref mtb, .ref mti, .ref mfr, .ref mbn, .ref mbs, .ref mde, .int sF, .int sN, .int sS, .int ig, .long xa, .long xb, .ref maa, .ref mab, .ref mba, .ref mbb])), (ms, .inl (cs 0, 288, .inl (upd (upd f (160 + ((8 * a) + t_1)) (nI k9)) (224 + ((8 * a) + t_1)) (nI 1)))), (man, .inl (cs 0, 16, .inl anf))] H := hP
        replace hD : va_D A [(mso, .inl (cs 0, 16, .inl sof)), (hm, .inr (12, [.ref ms, .ref mkp, .int (nI km), .ref mtr, .int (nI n), .int (nI k), .int (nI al), .int (nI be), .int ea, .int pr, .ref mas, .int nq, .int po, .int (nI en), .ref mso, .ref mon, .ref mot, .ref man, .int th, .int xd, .ref mst, .ref msm, .ref mtb, .ref mti, .ref mfr, .ref mbn, .ref mbs, .ref mde, .int sF, .int sN, .int sS, .int ig, .long xa, .long xb, .ref maa, .ref mab, .ref mba, .ref mbb])), (ms, .inl (cs 0, 288, .inl (upd (upd f (160 + ((8 * a) + t_1)) (nI k9)) (224 + ((8 * a) + t_1)) (nI 1)))), (man, .inl (cs 0, 16, .inl anf))] := hD
        exact xretv C (upd (upd f (160 + ((8 * a) + t_1)) (nI k9)) (224 + ((8 * a) + t_1)) (nI 1)) (colP_hi (i := 224 + ((8 * a) + t_1)) (colP_hi (i := 160 + ((8 * a) + t_1)) hs (nI k9) (by omega)) (nI 1) (by omega)) (xP_map hP [1, 2, 0, 3] rfl) (hD.sub [1, 2, 0, 3] (by decide +kernel) rfl) hS (Nat.le_of_ble_eq_true rfl) (Nat.le_of_ble_eq_true rfl) dX12_marks_122
      · -- 77 f
        refine lv_aload_n hx hb dX12_marks_80 rfl (lv_at hl 1 rfl) ?_
        refine xget C hP 1 rfl rfl zuX12 0 (by decide) zw5_213 rfl dX12_marks_81 ?_
        refine lv_sipush (v := nI 224) hx hb dX12_marks_84 (by decide) ?_
        refine lv_iload hx hb dX12_marks_87 (lv_at hl 0 rfl) ?_
        refine lv_iadd hx hb dX12_marks_89 ?_
        refine lv_topi (nm_r (e' := nI (224 + ((8 * a) + t_1))) (nI_add _ _) ?_)
        refine lv_dup2_11 hx hb dX12_marks_90 rfl rfl ?_
        refine xiald C hP 2 rfl (224 + ((8 * a) + t_1)) rfl (by omega) (by decide) dX12_marks_91 ?_
        refine lv_iconst (v := nI 1) hx hb dX12_marks_92 (by decide) ?_
        refine lv_iadd hx hb dX12_marks_93 ?_
        refine xiast C hP hD hS 2 rfl (224 + ((8 * a) + t_1)) rfl (by omega) (by decide) dX12_marks_94 ?_
        clear hP hD hS
        try clear locs
        try clear H
        intro H locs hP hD hS
        replace hP : va_P D vwCl [(mso, .inl (cs 0, 16, .inl sof)), (hm, .inr (12, [.ref ms, .ref mkp, .int (nI km), .ref mtr, .int (nI n), .int (nI k), .int (nI al), .int (nI be), .int ea, .int pr, .ref mas, .int nq, .int po, .int (nI en), .ref mso, .ref mon, .ref mot, .ref man, .int th, .int xd, .ref mst, .ref msm, .ref mtb, .ref mti, .ref mfr, .ref mbn, .ref mbs, .ref mde, .int sF, .int sN, .int sS, .int ig, .long xa, .long xb, .ref maa, .ref mab, .ref mba, .ref mbb])), (ms, .inl (cs 0, 288, .inl (upd f (224 + ((8 * a) + t_1)) ((f (224 + ((8 * a) + t_1))) + (nI 1))))), (man, .inl (cs 0, 16, .inl anf))] H := hP
        replace hD : va_D A [(mso, .inl (cs 0, 16, .inl sof)), (hm, .inr (12, [.ref ms, .ref mkp, .int (nI km), .ref mtr, .int (nI n), .int (nI k), .int (nI al), .int (nI be), .int ea, .int pr, .ref mas, .int nq, .int po, .int (nI en), .ref mso, .ref mon, .ref mot, .ref man, .int th, .int xd, .ref mst, .ref msm, .ref mtb, .ref mti, .ref mfr, .ref mbn, .ref mbs, .ref mde, .int sF, .int sN, .int sS, .int ig, .long xa, .long xb, .ref maa, .ref mab, .ref mba, .ref mbb])), (ms, .inl (cs 0, 288, .inl (upd f (224 + ((8 * a) + t_1)) ((f (224 + ((8 * a) + t_1))) + (nI 1))))), (man, .inl (cs 0, 16, .inl anf))] := hD
        refine lv_goto (tgt := 122) hx hb dX12_marks_95 (by decide) ?_
        exact xretv C (upd f (224 + ((8 * a) + t_1)) ((f (224 + ((8 * a) + t_1))) + (nI 1))) (colP_hi (i := 224 + ((8 * a) + t_1)) hs ((f (224 + ((8 * a) + t_1))) + (nI 1)) (by omega)) (xP_map hP [1, 2, 0, 3] rfl) (hD.sub [1, 2, 0, 3] (by decide +kernel) rfl) hS (Nat.le_of_ble_eq_true rfl) (Nat.le_of_ble_eq_true rfl) dX12_marks_122
    · -- 51 f
      refine lv_aload_n hx hb dX12_marks_54 rfl (lv_at hl 1 rfl) ?_
      refine xget C hP 1 rfl rfl zuX12 0 (by decide) zw5_213 rfl dX12_marks_55 ?_
      refine lv_bipush (v := nI 96) hx hb dX12_marks_58 (by decide) ?_
      refine lv_iload hx hb dX12_marks_60 (lv_at hl 0 rfl) ?_
      refine lv_iadd hx hb dX12_marks_62 ?_
      refine lv_topi (nm_r (e' := nI (96 + ((8 * a) + t_1))) (nI_add _ _) ?_)
      refine lv_iload_n hx hb dX12_marks_63 rfl (lv_at hl 3 rfl) ?_
      refine xiast C hP hD hS 2 rfl (96 + ((8 * a) + t_1)) rfl (by omega) (by decide) dX12_marks_64 ?_
      clear hP hD hS
      try clear locs
      try clear H
      intro H locs hP hD hS
      replace hP : va_P D vwCl [(mso, .inl (cs 0, 16, .inl sof)), (hm, .inr (12, [.ref ms, .ref mkp, .int (nI km), .ref mtr, .int (nI n), .int (nI k), .int (nI al), .int (nI be), .int ea, .int pr, .ref mas, .int nq, .int po, .int (nI en), .ref mso, .ref mon, .ref mot, .ref man, .int th, .int xd, .ref mst, .ref msm, .ref mtb, .ref mti, .ref mfr, .ref mbn, .ref mbs, .ref mde, .int sF, .int sN, .int sS, .int ig, .long xa, .long xb, .ref maa, .ref mab, .ref mba, .ref mbb])), (ms, .inl (cs 0, 288, .inl (upd f (96 + ((8 * a) + t_1)) (nI k9)))), (man, .inl (cs 0, 16, .inl anf))] H := hP
      replace hD : va_D A [(mso, .inl (cs 0, 16, .inl sof)), (hm, .inr (12, [.ref ms, .ref mkp, .int (nI km), .ref mtr, .int (nI n), .int (nI k), .int (nI al), .int (nI be), .int ea, .int pr, .ref mas, .int nq, .int po, .int (nI en), .ref mso, .ref mon, .ref mot, .ref man, .int th, .int xd, .ref mst, .ref msm, .ref mtb, .ref mti, .ref mfr, .ref mbn, .ref mbs, .ref mde, .int sF, .int sN, .int sS, .int ig, .long xa, .long xb, .ref maa, .ref mab, .ref mba, .ref mbb])), (ms, .inl (cs 0, 288, .inl (upd f (96 + ((8 * a) + t_1)) (nI k9)))), (man, .inl (cs 0, 16, .inl anf))] := hD
      refine lv_aload_n hx hb dX12_marks_65 rfl (lv_at hl 1 rfl) ?_
      refine xget C hP 1 rfl rfl zuX12 0 (by decide) zw5_213 rfl dX12_marks_66 ?_
      refine lv_sipush (v := nI 160) hx hb dX12_marks_69 (by decide) ?_
      refine lv_iload hx hb dX12_marks_72 (lv_at hl 0 rfl) ?_
      refine lv_iadd hx hb dX12_marks_74 ?_
      refine lv_topi (nm_r (e' := nI (160 + ((8 * a) + t_1))) (nI_add _ _) ?_)
      refine xiald C hP 2 rfl (160 + ((8 * a) + t_1)) rfl (by omega) (by decide) dX12_marks_75 ?_
      refine lv_iload_n hx hb dX12_marks_76 rfl (lv_at hl 3 rfl) ?_
      refine lv_icmp_ne (tgt := 98) hx hb dX12_marks_77 (by decide) (fun c_9 => ?_) (fun c_9 => ?_)
      · -- 77 t
        refine lv_aload_n hx hb dX12_marks_98 rfl (lv_at hl 1 rfl) ?_
        refine xget C hP 1 rfl rfl zuX12 0 (by decide) zw5_213 rfl dX12_marks_99 ?_
        refine lv_sipush (v := nI 160) hx hb dX12_marks_102 (by decide) ?_
        refine lv_iload hx hb dX12_marks_105 (lv_at hl 0 rfl) ?_
        refine lv_iadd hx hb dX12_marks_107 ?_
        refine lv_topi (nm_r (e' := nI (160 + ((8 * a) + t_1))) (nI_add _ _) ?_)
        refine lv_iload_n hx hb dX12_marks_108 rfl (lv_at hl 3 rfl) ?_
        refine xiast C hP hD hS 2 rfl (160 + ((8 * a) + t_1)) rfl (by omega) (by decide) dX12_marks_109 ?_
        clear hP hD hS
        try clear locs
        try clear H
        intro H locs hP hD hS
        replace hP : va_P D vwCl [(mso, .inl (cs 0, 16, .inl sof)), (hm, .inr (12, [.ref ms, .ref mkp, .int (nI km), .ref mtr, .int (nI n), .int (nI k), .int (nI al), .int (nI be), .int ea, .int pr, .ref mas, .int nq, .int po, .int (nI en), .ref mso, .ref mon, .ref mot, .ref man, .int th, .int xd, .ref mst, .ref msm, .ref mtb, .ref mti, .ref mfr, .ref mbn, .ref mbs, .ref mde, .int sF, .int sN, .int sS, .int ig, .long xa, .long xb, .ref maa, .ref mab, .ref mba, .ref mbb])), (ms, .inl (cs 0, 288, .inl (upd (upd f (96 + ((8 * a) + t_1)) (nI k9)) (160 + ((8 * a) + t_1)) (nI k9)))), (man, .inl (cs 0, 16, .inl anf))] H := hP
        replace hD : va_D A [(mso, .inl (cs 0, 16, .inl sof)), (hm, .inr (12, [.ref ms, .ref mkp, .int (nI km), .ref mtr, .int (nI n), .int (nI k), .int (nI al), .int (nI be), .int ea, .int pr, .ref mas, .int nq, .int po, .int (nI en), .ref mso, .ref mon, .ref mot, .ref man, .int th, .int xd, .ref mst, .ref msm, .ref mtb, .ref mti, .ref mfr, .ref mbn, .ref mbs, .ref mde, .int sF, .int sN, .int sS, .int ig, .long xa, .long xb, .ref maa, .ref mab, .ref mba, .ref mbb])), (ms, .inl (cs 0, 288, .inl (upd (upd f (96 + ((8 * a) + t_1)) (nI k9)) (160 + ((8 * a) + t_1)) (nI k9)))), (man, .inl (cs 0, 16, .inl anf))] := hD
        refine lv_aload_n hx hb dX12_marks_110 rfl (lv_at hl 1 rfl) ?_
        refine xget C hP 1 rfl rfl zuX12 0 (by decide) zw5_213 rfl dX12_marks_111 ?_
        refine lv_sipush (v := nI 224) hx hb dX12_marks_114 (by decide) ?_
        refine lv_iload hx hb dX12_marks_117 (lv_at hl 0 rfl) ?_
        refine lv_iadd hx hb dX12_marks_119 ?_
        refine lv_topi (nm_r (e' := nI (224 + ((8 * a) + t_1))) (nI_add _ _) ?_)
        refine lv_iconst (v := nI 1) hx hb dX12_marks_120 (by decide) ?_
        refine xiast C hP hD hS 2 rfl (224 + ((8 * a) + t_1)) rfl (by omega) (by decide) dX12_marks_121 ?_
        clear hP hD hS
        try clear locs
        try clear H
        intro H locs hP hD hS
        replace hP : va_P D vwCl [(mso, .inl (cs 0, 16, .inl sof)), (hm, .inr (12, [.ref ms, .ref mkp, .int (nI km), .ref mtr, .int (nI n), .int (nI k), .int (nI al), .int (nI be), .int ea, .int pr, .ref mas, .int nq, .int po, .int (nI en), .ref mso, .ref mon, .ref mot, .ref man, .int th, .int xd, .ref mst, .ref msm, .ref mtb, .ref mti, .ref mfr, .ref mbn, .ref mbs, .ref mde, .int sF, .int sN, .int sS, .int ig, .long xa, .long xb, .ref maa, .ref mab, .ref mba, .ref mbb])), (ms, .inl (cs 0, 288, .inl (upd (upd (upd f (96 + ((8 * a) + t_1)) (nI k9)) (160 + ((8 * a) + t_1)) (nI k9)) (224 + ((8 * a) + t_1)) (nI 1)))), (man, .inl (cs 0, 16, .inl anf))] H := hP
        replace hD : va_D A [(mso, .inl (cs 0, 16, .inl sof)), (hm, .inr (12, [.ref ms, .ref mkp, .int (nI km), .ref mtr, .int (nI n), .int (nI k), .int (nI al), .int (nI be), .int ea, .int pr, .ref mas, .int nq, .int po, .int (nI en), .ref mso, .ref mon, .ref mot, .ref man, .int th, .int xd, .ref mst, .ref msm, .ref mtb, .ref mti, .ref mfr, .ref mbn, .ref mbs, .ref mde, .int sF, .int sN, .int sS, .int ig, .long xa, .long xb, .ref maa, .ref mab, .ref mba, .ref mbb])), (ms, .inl (cs 0, 288, .inl (upd (upd (upd f (96 + ((8 * a) + t_1)) (nI k9)) (160 + ((8 * a) + t_1)) (nI k9)) (224 + ((8 * a) + t_1)) (nI 1)))), (man, .inl (cs 0, 16, .inl anf))] := hD
        exact xretv C (upd (upd (upd f (96 + ((8 * a) + t_1)) (nI k9)) (160 + ((8 * a) + t_1)) (nI k9)) (224 + ((8 * a) + t_1)) (nI 1)) (colP_hi (i := 224 + ((8 * a) + t_1)) (colP_hi (i := 160 + ((8 * a) + t_1)) (colP_hi (i := 96 + ((8 * a) + t_1)) hs (nI k9) (by omega)) (nI k9) (by omega)) (nI 1) (by omega)) (xP_map hP [1, 2, 0, 3] rfl) (hD.sub [1, 2, 0, 3] (by decide +kernel) rfl) hS (Nat.le_of_ble_eq_true rfl) (Nat.le_of_ble_eq_true rfl) dX12_marks_122
      · -- 77 f
        refine lv_aload_n hx hb dX12_marks_80 rfl (lv_at hl 1 rfl) ?_
        refine xget C hP 1 rfl rfl zuX12 0 (by decide) zw5_213 rfl dX12_marks_81 ?_
        refine lv_sipush (v := nI 224) hx hb dX12_marks_84 (by decide) ?_
        refine lv_iload hx hb dX12_marks_87 (lv_at hl 0 rfl) ?_
        refine lv_iadd hx hb dX12_marks_89 ?_
        refine lv_topi (nm_r (e' := nI (224 + ((8 * a) + t_1))) (nI_add _ _) ?_)
        refine lv_dup2_11 hx hb dX12_marks_90 rfl rfl ?_
        refine xiald C hP 2 rfl (224 + ((8 * a) + t_1)) rfl (by omega) (by decide) dX12_marks_91 ?_
        refine lv_iconst (v := nI 1) hx hb dX12_marks_92 (by decide) ?_
        refine lv_iadd hx hb dX12_marks_93 ?_
        refine xiast C hP hD hS 2 rfl (224 + ((8 * a) + t_1)) rfl (by omega) (by decide) dX12_marks_94 ?_
        clear hP hD hS
        try clear locs
        try clear H
        intro H locs hP hD hS
        replace hP : va_P D vwCl [(mso, .inl (cs 0, 16, .inl sof)), (hm, .inr (12, [.ref ms, .ref mkp, .int (nI km), .ref mtr, .int (nI n), .int (nI k), .int (nI al), .int (nI be), .int ea, .int pr, .ref mas, .int nq, .int po, .int (nI en), .ref mso, .ref mon, .ref mot, .ref man, .int th, .int xd, .ref mst, .ref msm, .ref mtb, .ref mti, .ref mfr, .ref mbn, .ref mbs, .ref mde, .int sF, .int sN, .int sS, .int ig, .long xa, .long xb, .ref maa, .ref mab, .ref mba, .ref mbb])), (ms, .inl (cs 0, 288, .inl (upd (upd f (96 + ((8 * a) + t_1)) (nI k9)) (224 + ((8 * a) + t_1)) (((upd f (96 + ((8 * a) + t_1)) (nI k9)) (224 + ((8 * a) + t_1))) + (nI 1))))), (man, .inl (cs 0, 16, .inl anf))] H := hP
        replace hD : va_D A [(mso, .inl (cs 0, 16, .inl sof)), (hm, .inr (12, [.ref ms, .ref mkp, .int (nI km), .ref mtr, .int (nI n), .int (nI k), .int (nI al), .int (nI be), .int ea, .int pr, .ref mas, .int nq, .int po, .int (nI en), .ref mso, .ref mon, .ref mot, .ref man, .int th, .int xd, .ref mst, .ref msm, .ref mtb, .ref mti, .ref mfr, .ref mbn, .ref mbs, .ref mde, .int sF, .int sN, .int sS, .int ig, .long xa, .long xb, .ref maa, .ref mab, .ref mba, .ref mbb])), (ms, .inl (cs 0, 288, .inl (upd (upd f (96 + ((8 * a) + t_1)) (nI k9)) (224 + ((8 * a) + t_1)) (((upd f (96 + ((8 * a) + t_1)) (nI k9)) (224 + ((8 * a) + t_1))) + (nI 1))))), (man, .inl (cs 0, 16, .inl anf))] := hD
        refine lv_goto (tgt := 122) hx hb dX12_marks_95 (by decide) ?_
        exact xretv C (upd (upd f (96 + ((8 * a) + t_1)) (nI k9)) (224 + ((8 * a) + t_1)) (((upd f (96 + ((8 * a) + t_1)) (nI k9)) (224 + ((8 * a) + t_1))) + (nI 1))) (colP_hi (i := 224 + ((8 * a) + t_1)) (colP_hi (i := 96 + ((8 * a) + t_1)) hs (nI k9) (by omega)) (((upd f (96 + ((8 * a) + t_1)) (nI k9)) (224 + ((8 * a) + t_1))) + (nI 1)) (by omega)) (xP_map hP [1, 2, 0, 3] rfl) (hD.sub [1, 2, 0, 3] (by decide +kernel) rfl) hS (Nat.le_of_ble_eq_true rfl) (Nat.le_of_ble_eq_true rfl) dX12_marks_122
  · -- 14 f
    refine lv_aload_n hx hb dX12_marks_17 rfl (lv_at hl 1 rfl) ?_
    refine xget C hP 0 rfl rfl zuX12 0 (by decide) zw5_213 rfl dX12_marks_18 ?_
    refine lv_sipush (v := nI 224) hx hb dX12_marks_21 (by decide) ?_
    refine lv_iload hx hb dX12_marks_24 (lv_at hl 0 rfl) ?_
    refine lv_iadd hx hb dX12_marks_26 ?_
    refine lv_topi (nm_r (e' := nI (224 + ((8 * a) + t_1))) (nI_add _ _) ?_)
    refine lv_iconst (v := nI 0) hx hb dX12_marks_27 (by decide) ?_
    refine xiast C hP hD hS 1 rfl (224 + ((8 * a) + t_1)) rfl (by omega) (by decide) dX12_marks_28 ?_
    clear hP hD hS
    try clear locs
    try clear H
    intro H locs hP hD hS
    replace hP : va_P D vwCl [(hm, .inr (12, [.ref ms, .ref mkp, .int (nI km), .ref mtr, .int (nI n), .int (nI k), .int (nI al), .int (nI be), .int ea, .int pr, .ref mas, .int nq, .int po, .int (nI en), .ref mso, .ref mon, .ref mot, .ref man, .int th, .int xd, .ref mst, .ref msm, .ref mtb, .ref mti, .ref mfr, .ref mbn, .ref mbs, .ref mde, .int sF, .int sN, .int sS, .int ig, .long xa, .long xb, .ref maa, .ref mab, .ref mba, .ref mbb])), (ms, .inl (cs 0, 288, .inl (upd f (224 + ((8 * a) + t_1)) (nI 0)))), (mso, .inl (cs 0, 16, .inl sof)), (man, .inl (cs 0, 16, .inl anf))] H := hP
    replace hD : va_D A [(hm, .inr (12, [.ref ms, .ref mkp, .int (nI km), .ref mtr, .int (nI n), .int (nI k), .int (nI al), .int (nI be), .int ea, .int pr, .ref mas, .int nq, .int po, .int (nI en), .ref mso, .ref mon, .ref mot, .ref man, .int th, .int xd, .ref mst, .ref msm, .ref mtb, .ref mti, .ref mfr, .ref mbn, .ref mbs, .ref mde, .int sF, .int sN, .int sS, .int ig, .long xa, .long xb, .ref maa, .ref mab, .ref mba, .ref mbb])), (ms, .inl (cs 0, 288, .inl (upd f (224 + ((8 * a) + t_1)) (nI 0)))), (mso, .inl (cs 0, 16, .inl sof)), (man, .inl (cs 0, 16, .inl anf))] := hD
    exact xretv C (upd f (224 + ((8 * a) + t_1)) (nI 0)) (colP_hi (i := 224 + ((8 * a) + t_1)) hs (nI 0) (by omega)) hP hD hS (Nat.le_of_ble_eq_true rfl) (Nat.le_of_ble_eq_true rfl) dX12_marks_29

set_option maxHeartbeats 4000000 in
set_option maxRecDepth 100000 in
theorem c_X12_isAlone (l : Launch) (D : va_G) (cs : Nat → ClassId) (hm ms mkp mtr mas mso mon mot man mst msm mtb mti mfr mbn mbs mde maa mab mba mbb : Nat) (n k al be km en : Nat) (ea pr nq po th xd sF sN sS ig : Int32) (xa xb : Int64) (e0 : Nat) (sof : Nat → Int32) (hen : en ≤ 16) (he : e0 < 16) : xMet l D cs yX12_isAlone cX12_isAlone 3 (some .boolean) ({ frames := 0, cells := 0, slots := 0, locals := 0 } : Room) [.ref hm, .int (nI e0)] [(hm, .inr (12, [.ref ms, .ref mkp, .int (nI km), .ref mtr, .int (nI n), .int (nI k), .int (nI al), .int (nI be), .int ea, .int pr, .ref mas, .int nq, .int po, .int (nI en), .ref mso, .ref mon, .ref mot, .ref man, .int th, .int xd, .ref mst, .ref msm, .ref mtb, .ref mti, .ref mfr, .ref mbn, .ref mbs, .ref mde, .int sF, .int sN, .int sS, .int ig, .long xa, .long xb, .ref maa, .ref mab, .ref mba, .ref mbb])), (mso, .inl (cs 0, 16, .inl sof))] (xQi D (fun (r : Int32) (_u : Unit) => (r = nI 0 ∨ r = nI 1)) (fun (_u : Unit) => [(hm, .inr (12, [.ref ms, .ref mkp, .int (nI km), .ref mtr, .int (nI n), .int (nI k), .int (nI al), .int (nI be), .int ea, .int pr, .ref mas, .int nq, .int po, .int (nI en), .ref mso, .ref mon, .ref mot, .ref man, .int th, .int xd, .ref mst, .ref msm, .ref mtb, .ref mti, .ref mfr, .ref mbn, .ref mbs, .ref mde, .int sF, .int sN, .int sS, .int ig, .long xa, .long xb, .ref maa, .ref mab, .ref mba, .ref mbb])), (mso, .inl (cs 0, 16, .inl sof))])) := by
  refine xMet.intro (by decide) (Nat.le_of_ble_eq_true rfl) ?_
  intro p e s m args below meth c A ls C hP hD hS hl
  have hx := C.1
  have hb := C.2.1
  have hz := C.2.2.2.2.1
  have hown := C.2.2.2.1
  have hA := C.2.2.2.2.2.2.2.2.2
  have hAO := C.2.2.2.2.2.2.2.2.1.2.2
  replace hl : lv_has ls 3 [(0, .ref hm), (1, .int (nI e0))] := hl
  obtain ⟨H, hH⟩ : ∃ H, H = s.heap := ⟨_, rfl⟩
  replace hP : va_P D vwCl [(hm, .inr (12, [.ref ms, .ref mkp, .int (nI km), .ref mtr, .int (nI n), .int (nI k), .int (nI al), .int (nI be), .int ea, .int pr, .ref mas, .int nq, .int po, .int (nI en), .ref mso, .ref mon, .ref mot, .ref man, .int th, .int xd, .ref mst, .ref msm, .ref mtb, .ref mti, .ref mfr, .ref mbn, .ref mbs, .ref mde, .int sF, .int sN, .int sS, .int ig, .long xa, .long xb, .ref maa, .ref mab, .ref mba, .ref mbb])), (mso, .inl (cs 0, 16, .inl sof))] H := by rw [hH]; exact hP
  replace hS : va_S A s.heap H [] := by rw [hH]; exact hS
  obtain ⟨locs, hlocs⟩ : ∃ z : List Loc, z = [] := ⟨_, rfl⟩
  rw [← hlocs] at hS
  suffices hW : W p l e ({ frames := 0, cells := 0, slots := 0, locals := 0 } : Room) s m args below meth c H locs 0 0 (MQ below ((xQi D (fun (r : Int32) (_u : Unit) => (r = nI 0 ∨ r = nI 1)) (fun (_u : Unit) => [(hm, .inr (12, [.ref ms, .ref mkp, .int (nI km), .ref mtr, .int (nI n), .int (nI k), .int (nI al), .int (nI be), .int ea, .int pr, .ref mas, .int nq, .int po, .int (nI en), .ref mso, .ref mon, .ref mot, .ref man, .int th, .int xd, .ref mst, .ref msm, .ref mtb, .ref mti, .ref mfr, .ref mbn, .ref mbs, .ref mde, .int sF, .int sN, .int sS, .int ig, .long xa, .long xb, .ref maa, .ref mab, .ref mba, .ref mbb])), (mso, .inl (cs 0, 16, .inl sof))])) A) args s 0 0 A) (F0 m 0 ls []) by rw [hlocs, hH] at hW; exact hW
  clear hH hlocs
  refine lv_iconst (v := nI 0) hx hb dX12_isAlone_0 (by decide) ?_
  refine lv_istore_n (lv' := [(2, .int (nI 0)), (0, .ref hm), (1, .int (nI e0))]) hx hb dX12_isAlone_1 rfl hl (by decide) rfl ?_
  clear hl
  try clear ls
  intro ls hl
  have loop_1 : ∀ (n_loop_1 : Nat) (o : Nat), (o ≤ en) → en - o < n_loop_1 → ∀ (H : Heap) (locs : List Loc) (ls : Array Slot), va_P D vwCl [(hm, .inr (12, [.ref ms, .ref mkp, .int (nI km), .ref mtr, .int (nI n), .int (nI k), .int (nI al), .int (nI be), .int ea, .int pr, .ref mas, .int nq, .int po, .int (nI en), .ref mso, .ref mon, .ref mot, .ref man, .int th, .int xd, .ref mst, .ref msm, .ref mtb, .ref mti, .ref mfr, .ref mbn, .ref mbs, .ref mde, .int sF, .int sN, .int sS, .int ig, .long xa, .long xb, .ref maa, .ref mab, .ref mba, .ref mbb])), (mso, .inl (cs 0, 16, .inl sof))] H → va_D A [(hm, .inr (12, [.ref ms, .ref mkp, .int (nI km), .ref mtr, .int (nI n), .int (nI k), .int (nI al), .int (nI be), .int ea, .int pr, .ref mas, .int nq, .int po, .int (nI en), .ref mso, .ref mon, .ref mot, .ref man, .int th, .int xd, .ref mst, .ref msm, .ref mtb, .ref mti, .ref mfr, .ref mbn, .ref mbs, .ref mde, .int sF, .int sN, .int sS, .int ig, .long xa, .long xb, .ref maa, .ref mab, .ref mba, .ref mbb])), (mso, .inl (cs 0, 16, .inl sof))] → va_S A s.heap H locs → lv_has ls 3 [(2, .int (nI o)), (0, .ref hm), (1, .int (nI e0))] → W p l e ({ frames := 0, cells := 0, slots := 0, locals := 0 } : Room) s m args below meth c H locs 0 0 (MQ below ((xQi D (fun (r : Int32) (_u : Unit) => (r = nI 0 ∨ r = nI 1)) (fun (_u : Unit) => [(hm, .inr (12, [.ref ms, .ref mkp, .int (nI km), .ref mtr, .int (nI n), .int (nI k), .int (nI al), .int (nI be), .int ea, .int pr, .ref mas, .int nq, .int po, .int (nI en), .ref mso, .ref mon, .ref mot, .ref man, .int th, .int xd, .ref mst, .ref msm, .ref mtb, .ref mti, .ref mfr, .ref mbn, .ref mbs, .ref mde, .int sF, .int sN, .int sS, .int ig, .long xa, .long xb, .ref maa, .ref mab, .ref mba, .ref mbb])), (mso, .inl (cs 0, 16, .inl sof))])) A) args s 0 0 A) (F0 m 2 ls []) := by
    intro n_loop_1
    induction n_loop_1 with
    | zero => intro o h_o hlt H locs ls hP hD hS hl; exact absurd hlt (Nat.not_lt_zero _)
    | succ n_loop_1 ih_loop_1 =>
      intro o h_o hlt_loop_1 H locs ls hP hD hS hl
      refine lv_iload_n hx hb dX12_isAlone_2 rfl (lv_at hl 0 rfl) ?_
      refine lv_aload_n hx hb dX12_isAlone_3 rfl (lv_at hl 1 rfl) ?_
      refine xget C hP 0 rfl rfl zuX12 13 (by decide) zw5_226 rfl dX12_isAlone_4 ?_
      refine lv_icmp_ge (tgt := 38) hx hb dX12_isAlone_7 (by decide) (fun c_2 => ?_) (fun c_2 => ?_)
      · -- 7 t
        have fc_2 : en ≤ o := nf_le (by omega) (by omega) c_2
        refine lv_iconst (v := nI 1) hx hb dX12_isAlone_38 (by decide) ?_
        exact xreti C () (by decide) hP hD hS (Nat.le_of_ble_eq_true rfl) (Nat.le_of_ble_eq_true rfl) (by decide) dX12_isAlone_39
      · -- 7 f
        have fc_2 : o < en := nf_nle (by omega) (by omega) c_2
        refine lv_iload_n hx hb dX12_isAlone_10 rfl (lv_at hl 0 rfl) ?_
        refine lv_iload_n hx hb dX12_isAlone_11 rfl (lv_at hl 2 rfl) ?_
        refine lv_icmp_eq (tgt := 32) hx hb dX12_isAlone_12 (by decide) (fun c_3 => ?_) (fun c_3 => ?_)
        · -- 12 t
          have fc_3 : o = e0 := nf_eq (by omega) (by omega) c_3
          refine lv_iinc (v := nI (o + 1)) (lv' := [(2, .int (nI (o + 1))), (0, .ref hm), (1, .int (nI e0))]) hx hb dX12_isAlone_32 hl (k := 0) rfl (nI_add o 1) (by decide) rfl ?_
          clear hl
          try clear ls
          intro ls hl
          refine lv_goto (tgt := 2) hx hb dX12_isAlone_35 (by decide) ?_
          exact ih_loop_1 (o + 1) (by omega) (by omega) H locs ls hP hD hS (lv_sub hl [0, 1, 2] rfl)
        · -- 12 f
          have fc_3 : o ≠ e0 := nf_ne (by omega) (by omega) c_3
          refine lv_aload_n hx hb dX12_isAlone_15 rfl (lv_at hl 1 rfl) ?_
          refine xget C hP 0 rfl rfl zuX12 14 (by decide) zw5_227 rfl dX12_isAlone_16 ?_
          refine lv_iload_n hx hb dX12_isAlone_19 rfl (lv_at hl 0 rfl) ?_
          refine xiald C hP 1 rfl o rfl (by omega) (by decide) dX12_isAlone_20 ?_
          refine lv_aload_n hx hb dX12_isAlone_21 rfl (lv_at hl 1 rfl) ?_
          refine xget C hP 0 rfl rfl zuX12 14 (by decide) zw5_227 rfl dX12_isAlone_22 ?_
          refine lv_iload_n hx hb dX12_isAlone_25 rfl (lv_at hl 2 rfl) ?_
          refine xiald C hP 1 rfl e0 rfl (by omega) (by decide) dX12_isAlone_26 ?_
          refine lv_icmp_ne (tgt := 32) hx hb dX12_isAlone_27 (by decide) (fun c_4 => ?_) (fun c_4 => ?_)
          · -- 27 t
            refine lv_iinc (v := nI (o + 1)) (lv' := [(2, .int (nI (o + 1))), (0, .ref hm), (1, .int (nI e0))]) hx hb dX12_isAlone_32 hl (k := 0) rfl (nI_add o 1) (by decide) rfl ?_
            clear hl
            try clear ls
            intro ls hl
            refine lv_goto (tgt := 2) hx hb dX12_isAlone_35 (by decide) ?_
            exact ih_loop_1 (o + 1) (by omega) (by omega) H locs ls hP hD hS (lv_sub hl [0, 1, 2] rfl)
          · -- 27 f
            refine lv_iconst (v := nI 0) hx hb dX12_isAlone_30 (by decide) ?_
            exact xreti C () (by decide) hP hD hS (Nat.le_of_ble_eq_true rfl) (Nat.le_of_ble_eq_true rfl) (by decide) dX12_isAlone_31
  exact loop_1 _ 0 (by omega) (Nat.lt_succ_self _) H locs ls hP hD hS (lv_sub hl [0, 1, 2] rfl)

set_option maxHeartbeats 4000000 in
set_option maxRecDepth 100000 in
theorem c_X12_areParentsAccepted (l : Launch) (D : va_G) (cs : Nat → ClassId) (hm ms mkp mtr mas mso mon mot man mst msm mtb mti mfr mbn mbs mde maa mab mba mbb : Nat) (n k al be km en : Nat) (ea pr nq po th xd sF sN sS ig : Int32) (xa xb : Int64) (f : Nat → Int32) (a e0 : Nat) (onf otf : Nat → Int32) (ha : a < 8) (he : e0 < 16) : xMet l D cs yX12_areParentsAccepted cX12_areParentsAccepted 3 (some .boolean) ({ frames := 1, cells := 0, slots := 0, locals := 21 } : Room) [.ref hm, .int (nI a), .int (nI e0)] [(hm, .inr (12, [.ref ms, .ref mkp, .int (nI km), .ref mtr, .int (nI n), .int (nI k), .int (nI al), .int (nI be), .int ea, .int pr, .ref mas, .int nq, .int po, .int (nI en), .ref mso, .ref mon, .ref mot, .ref man, .int th, .int xd, .ref mst, .ref msm, .ref mtb, .ref mti, .ref mfr, .ref mbn, .ref mbs, .ref mde, .int sF, .int sN, .int sS, .int ig, .long xa, .long xb, .ref maa, .ref mab, .ref mba, .ref mbb])), (ms, .inl (cs 0, 288, .inl f)), (mon, .inl (cs 0, 16, .inl onf)), (mot, .inl (cs 0, 16, .inl otf))] (xQi D (fun (r : Int32) (_u : Unit) => (r = nI 0 ∨ r = nI 1)) (fun (_u : Unit) => [(hm, .inr (12, [.ref ms, .ref mkp, .int (nI km), .ref mtr, .int (nI n), .int (nI k), .int (nI al), .int (nI be), .int ea, .int pr, .ref mas, .int nq, .int po, .int (nI en), .ref mso, .ref mon, .ref mot, .ref man, .int th, .int xd, .ref mst, .ref msm, .ref mtb, .ref mti, .ref mfr, .ref mbn, .ref mbs, .ref mde, .int sF, .int sN, .int sS, .int ig, .long xa, .long xb, .ref maa, .ref mab, .ref mba, .ref mbb])), (ms, .inl (cs 0, 288, .inl f)), (mon, .inl (cs 0, 16, .inl onf)), (mot, .inl (cs 0, 16, .inl otf))])) := by
  refine xMet.intro (by decide) (Nat.le_of_ble_eq_true rfl) ?_
  intro p e s m args below meth c A ls C hP hD hS hl
  have hx := C.1
  have hb := C.2.1
  have hz := C.2.2.2.2.1
  have hown := C.2.2.2.1
  have hA := C.2.2.2.2.2.2.2.2.2
  have hAO := C.2.2.2.2.2.2.2.2.1.2.2
  replace hl : lv_has ls 3 [(0, .ref hm), (1, .int (nI a)), (2, .int (nI e0))] := hl
  obtain ⟨H, hH⟩ : ∃ H, H = s.heap := ⟨_, rfl⟩
  replace hP : va_P D vwCl [(hm, .inr (12, [.ref ms, .ref mkp, .int (nI km), .ref mtr, .int (nI n), .int (nI k), .int (nI al), .int (nI be), .int ea, .int pr, .ref mas, .int nq, .int po, .int (nI en), .ref mso, .ref mon, .ref mot, .ref man, .int th, .int xd, .ref mst, .ref msm, .ref mtb, .ref mti, .ref mfr, .ref mbn, .ref mbs, .ref mde, .int sF, .int sN, .int sS, .int ig, .long xa, .long xb, .ref maa, .ref mab, .ref mba, .ref mbb])), (ms, .inl (cs 0, 288, .inl f)), (mon, .inl (cs 0, 16, .inl onf)), (mot, .inl (cs 0, 16, .inl otf))] H := by rw [hH]; exact hP
  replace hS : va_S A s.heap H [] := by rw [hH]; exact hS
  obtain ⟨locs, hlocs⟩ : ∃ z : List Loc, z = [] := ⟨_, rfl⟩
  rw [← hlocs] at hS
  suffices hW : W p l e ({ frames := 1, cells := 0, slots := 0, locals := 21 } : Room) s m args below meth c H locs 0 0 (MQ below ((xQi D (fun (r : Int32) (_u : Unit) => (r = nI 0 ∨ r = nI 1)) (fun (_u : Unit) => [(hm, .inr (12, [.ref ms, .ref mkp, .int (nI km), .ref mtr, .int (nI n), .int (nI k), .int (nI al), .int (nI be), .int ea, .int pr, .ref mas, .int nq, .int po, .int (nI en), .ref mso, .ref mon, .ref mot, .ref man, .int th, .int xd, .ref mst, .ref msm, .ref mtb, .ref mti, .ref mfr, .ref mbn, .ref mbs, .ref mde, .int sF, .int sN, .int sS, .int ig, .long xa, .long xb, .ref maa, .ref mab, .ref mba, .ref mbb])), (ms, .inl (cs 0, 288, .inl f)), (mon, .inl (cs 0, 16, .inl onf)), (mot, .inl (cs 0, 16, .inl otf))])) A) args s 0 0 A) (F0 m 0 ls []) by rw [hlocs, hH] at hW; exact hW
  clear hH hlocs
  refine lv_aload_n hx hb dX12_areParentsAccepted_0 rfl (lv_at hl 0 rfl) ?_
  refine xget C hP 0 rfl rfl zuX12 15 (by decide) zw5_228 rfl dX12_areParentsAccepted_1 ?_
  refine lv_iload_n hx hb dX12_areParentsAccepted_4 rfl (lv_at hl 2 rfl) ?_
  refine xiald C hP 2 rfl e0 rfl (by omega) (by decide) dX12_areParentsAccepted_5 ?_
  refine lv_if_lt (tgt := 32) hx hb dX12_areParentsAccepted_6 (by decide) (fun c_1 => ?_) (fun c_1 => ?_)
  · -- 6 t
    refine lv_aload_n hx hb dX12_areParentsAccepted_32 rfl (lv_at hl 0 rfl) ?_
    refine xget C hP 0 rfl rfl zuX12 16 (by decide) zw5_229 rfl dX12_areParentsAccepted_33 ?_
    refine lv_iload_n hx hb dX12_areParentsAccepted_36 rfl (lv_at hl 2 rfl) ?_
    refine xiald C hP 3 rfl e0 rfl (by omega) (by decide) dX12_areParentsAccepted_37 ?_
    refine lv_if_lt (tgt := 62) hx hb dX12_areParentsAccepted_38 (by decide) (fun c_2 => ?_) (fun c_2 => ?_)
    · -- 38 t
      refine lv_iconst (v := nI 1) hx hb dX12_areParentsAccepted_62 (by decide) ?_
      refine lv_goto (tgt := 67) hx hb dX12_areParentsAccepted_63 (by decide) ?_
      exact xreti C () (by decide) hP hD hS (Nat.le_of_ble_eq_true rfl) (Nat.le_of_ble_eq_true rfl) (by decide) dX12_areParentsAccepted_67
    · -- 38 f
      refine lv_aload_n hx hb dX12_areParentsAccepted_41 rfl (lv_at hl 0 rfl) ?_
      refine xget C hP 0 rfl rfl zuX12 0 (by decide) zw5_213 rfl dX12_areParentsAccepted_42 ?_
      refine lv_bipush (v := nI 80) hx hb dX12_areParentsAccepted_45 (by decide) ?_
      refine lv_iload_n hx hb dX12_areParentsAccepted_47 rfl (lv_at hl 1 rfl) ?_
      refine lv_iadd hx hb dX12_areParentsAccepted_48 ?_
      refine lv_topi (nm_r (e' := nI (80 + a)) (nI_add _ _) ?_)
      refine xiald C hP 1 rfl (80 + a) rfl (by omega) (by decide) dX12_areParentsAccepted_49 ?_
      refine lv_aload_n hx hb dX12_areParentsAccepted_50 rfl (lv_at hl 0 rfl) ?_
      refine xget C hP 0 rfl rfl zuX12 16 (by decide) zw5_229 rfl dX12_areParentsAccepted_51 ?_
      refine lv_iload_n hx hb dX12_areParentsAccepted_54 rfl (lv_at hl 2 rfl) ?_
      refine xiald C hP 3 rfl e0 rfl (by omega) (by decide) dX12_areParentsAccepted_55 ?_
      refine xi (wr := [(hm, .inr (12, [.ref ms, .ref mkp, .int (nI km), .ref mtr, .int (nI n), .int (nI k), .int (nI al), .int (nI be), .int ea, .int pr, .ref mas, .int nq, .int po, .int (nI en), .ref mso, .ref mon, .ref mot, .ref man, .int th, .int xd, .ref mst, .ref msm, .ref mtb, .ref mti, .ref mfr, .ref mbn, .ref mbs, .ref mde, .int sF, .int sN, .int sS, .int ig, .long xa, .long xb, .ref maa, .ref mab, .ref mba, .ref mbb])), (ms, .inl (cs 0, 288, .inl f)), (mon, .inl (cs 0, 16, .inl onf)), (mot, .inl (cs 0, 16, .inl otf))]) (xS (As := [.int (f (80 + a)), .int (otf e0)]) (rest := []) C (c_X12_has_any l D cs (f (80 + a)) (otf e0)) kX12_100 hP hD [] rfl (by decide +kernel) ⟨Nat.le_of_ble_eq_true rfl, Nat.le_of_ble_eq_true rfl⟩ rfl hl.1 rfl (Nat.le_of_ble_eq_true rfl) dX12_areParentsAccepted_56 ⟨Nat.le_of_ble_eq_true rfl, Nat.le_of_ble_eq_true rfl⟩) hP hD hS hA [] [0, 1, 2, 3] rfl rfl (by decide +kernel) (by decide +kernel) ?_
      clear hP hD hS
      try clear locs
      try clear H
      intro r_3 u_4 H locs hw_r_3 hP hD hS
      have hw_r_3 : (r_3 = nI 0 ∨ r_3 = nI 1) := hw_r_3
      refine W.widen (k := 0) (n := 0) (Nat.le_of_ble_eq_true rfl) (Nat.le_of_ble_eq_true rfl) ?_
      replace hP : va_P D vwCl [(hm, .inr (12, [.ref ms, .ref mkp, .int (nI km), .ref mtr, .int (nI n), .int (nI k), .int (nI al), .int (nI be), .int ea, .int pr, .ref mas, .int nq, .int po, .int (nI en), .ref mso, .ref mon, .ref mot, .ref man, .int th, .int xd, .ref mst, .ref msm, .ref mtb, .ref mti, .ref mfr, .ref mbn, .ref mbs, .ref mde, .int sF, .int sN, .int sS, .int ig, .long xa, .long xb, .ref maa, .ref mab, .ref mba, .ref mbb])), (ms, .inl (cs 0, 288, .inl f)), (mon, .inl (cs 0, 16, .inl onf)), (mot, .inl (cs 0, 16, .inl otf))] H := hP
      replace hD : va_D A [(hm, .inr (12, [.ref ms, .ref mkp, .int (nI km), .ref mtr, .int (nI n), .int (nI k), .int (nI al), .int (nI be), .int ea, .int pr, .ref mas, .int nq, .int po, .int (nI en), .ref mso, .ref mon, .ref mot, .ref man, .int th, .int xd, .ref mst, .ref msm, .ref mtb, .ref mti, .ref mfr, .ref mbn, .ref mbs, .ref mde, .int sF, .int sN, .int sS, .int ig, .long xa, .long xb, .ref maa, .ref mab, .ref mba, .ref mbb])), (ms, .inl (cs 0, 288, .inl f)), (mon, .inl (cs 0, 16, .inl onf)), (mot, .inl (cs 0, 16, .inl otf))] := hD
      refine lv_if_eq (tgt := 66) hx hb dX12_areParentsAccepted_59 (by decide) (fun c_5 => ?_) (fun c_5 => ?_)
      · -- 59 t
        refine lv_iconst (v := nI 0) hx hb dX12_areParentsAccepted_66 (by decide) ?_
        exact xreti C () (by decide) hP hD hS (Nat.le_of_ble_eq_true rfl) (Nat.le_of_ble_eq_true rfl) (by decide) dX12_areParentsAccepted_67
      · -- 59 f
        refine lv_iconst (v := nI 1) hx hb dX12_areParentsAccepted_62 (by decide) ?_
        refine lv_goto (tgt := 67) hx hb dX12_areParentsAccepted_63 (by decide) ?_
        exact xreti C () (by decide) hP hD hS (Nat.le_of_ble_eq_true rfl) (Nat.le_of_ble_eq_true rfl) (by decide) dX12_areParentsAccepted_67
  · -- 6 f
    refine lv_aload_n hx hb dX12_areParentsAccepted_9 rfl (lv_at hl 0 rfl) ?_
    refine xget C hP 0 rfl rfl zuX12 0 (by decide) zw5_213 rfl dX12_areParentsAccepted_10 ?_
    refine lv_bipush (v := nI 80) hx hb dX12_areParentsAccepted_13 (by decide) ?_
    refine lv_iload_n hx hb dX12_areParentsAccepted_15 rfl (lv_at hl 1 rfl) ?_
    refine lv_iadd hx hb dX12_areParentsAccepted_16 ?_
    refine lv_topi (nm_r (e' := nI (80 + a)) (nI_add _ _) ?_)
    refine xiald C hP 1 rfl (80 + a) rfl (by omega) (by decide) dX12_areParentsAccepted_17 ?_
    refine lv_aload_n hx hb dX12_areParentsAccepted_18 rfl (lv_at hl 0 rfl) ?_
    refine xget C hP 0 rfl rfl zuX12 15 (by decide) zw5_228 rfl dX12_areParentsAccepted_19 ?_
    refine lv_iload_n hx hb dX12_areParentsAccepted_22 rfl (lv_at hl 2 rfl) ?_
    refine xiald C hP 2 rfl e0 rfl (by omega) (by decide) dX12_areParentsAccepted_23 ?_
    refine xi (wr := [(hm, .inr (12, [.ref ms, .ref mkp, .int (nI km), .ref mtr, .int (nI n), .int (nI k), .int (nI al), .int (nI be), .int ea, .int pr, .ref mas, .int nq, .int po, .int (nI en), .ref mso, .ref mon, .ref mot, .ref man, .int th, .int xd, .ref mst, .ref msm, .ref mtb, .ref mti, .ref mfr, .ref mbn, .ref mbs, .ref mde, .int sF, .int sN, .int sS, .int ig, .long xa, .long xb, .ref maa, .ref mab, .ref mba, .ref mbb])), (ms, .inl (cs 0, 288, .inl f)), (mon, .inl (cs 0, 16, .inl onf)), (mot, .inl (cs 0, 16, .inl otf))]) (xS (As := [.int (f (80 + a)), .int (onf e0)]) (rest := []) C (c_X12_has_any l D cs (f (80 + a)) (onf e0)) kX12_100 hP hD [] rfl (by decide +kernel) ⟨Nat.le_of_ble_eq_true rfl, Nat.le_of_ble_eq_true rfl⟩ rfl hl.1 rfl (Nat.le_of_ble_eq_true rfl) dX12_areParentsAccepted_24 ⟨Nat.le_of_ble_eq_true rfl, Nat.le_of_ble_eq_true rfl⟩) hP hD hS hA [] [0, 1, 2, 3] rfl rfl (by decide +kernel) (by decide +kernel) ?_
    clear hP hD hS
    try clear locs
    try clear H
    intro r_6 u_7 H locs hw_r_6 hP hD hS
    have hw_r_6 : (r_6 = nI 0 ∨ r_6 = nI 1) := hw_r_6
    refine W.widen (k := 0) (n := 0) (Nat.le_of_ble_eq_true rfl) (Nat.le_of_ble_eq_true rfl) ?_
    replace hP : va_P D vwCl [(hm, .inr (12, [.ref ms, .ref mkp, .int (nI km), .ref mtr, .int (nI n), .int (nI k), .int (nI al), .int (nI be), .int ea, .int pr, .ref mas, .int nq, .int po, .int (nI en), .ref mso, .ref mon, .ref mot, .ref man, .int th, .int xd, .ref mst, .ref msm, .ref mtb, .ref mti, .ref mfr, .ref mbn, .ref mbs, .ref mde, .int sF, .int sN, .int sS, .int ig, .long xa, .long xb, .ref maa, .ref mab, .ref mba, .ref mbb])), (ms, .inl (cs 0, 288, .inl f)), (mon, .inl (cs 0, 16, .inl onf)), (mot, .inl (cs 0, 16, .inl otf))] H := hP
    replace hD : va_D A [(hm, .inr (12, [.ref ms, .ref mkp, .int (nI km), .ref mtr, .int (nI n), .int (nI k), .int (nI al), .int (nI be), .int ea, .int pr, .ref mas, .int nq, .int po, .int (nI en), .ref mso, .ref mon, .ref mot, .ref man, .int th, .int xd, .ref mst, .ref msm, .ref mtb, .ref mti, .ref mfr, .ref mbn, .ref mbs, .ref mde, .int sF, .int sN, .int sS, .int ig, .long xa, .long xb, .ref maa, .ref mab, .ref mba, .ref mbb])), (ms, .inl (cs 0, 288, .inl f)), (mon, .inl (cs 0, 16, .inl onf)), (mot, .inl (cs 0, 16, .inl otf))] := hD
    refine lv_if_ne (tgt := 32) hx hb dX12_areParentsAccepted_27 (by decide) (fun c_8 => ?_) (fun c_8 => ?_)
    · -- 27 t
      refine lv_aload_n hx hb dX12_areParentsAccepted_32 rfl (lv_at hl 0 rfl) ?_
      refine xget C hP 0 rfl rfl zuX12 16 (by decide) zw5_229 rfl dX12_areParentsAccepted_33 ?_
      refine lv_iload_n hx hb dX12_areParentsAccepted_36 rfl (lv_at hl 2 rfl) ?_
      refine xiald C hP 3 rfl e0 rfl (by omega) (by decide) dX12_areParentsAccepted_37 ?_
      refine lv_if_lt (tgt := 62) hx hb dX12_areParentsAccepted_38 (by decide) (fun c_9 => ?_) (fun c_9 => ?_)
      · -- 38 t
        refine lv_iconst (v := nI 1) hx hb dX12_areParentsAccepted_62 (by decide) ?_
        refine lv_goto (tgt := 67) hx hb dX12_areParentsAccepted_63 (by decide) ?_
        exact xreti C () (by decide) hP hD hS (Nat.le_of_ble_eq_true rfl) (Nat.le_of_ble_eq_true rfl) (by decide) dX12_areParentsAccepted_67
      · -- 38 f
        refine lv_aload_n hx hb dX12_areParentsAccepted_41 rfl (lv_at hl 0 rfl) ?_
        refine xget C hP 0 rfl rfl zuX12 0 (by decide) zw5_213 rfl dX12_areParentsAccepted_42 ?_
        refine lv_bipush (v := nI 80) hx hb dX12_areParentsAccepted_45 (by decide) ?_
        refine lv_iload_n hx hb dX12_areParentsAccepted_47 rfl (lv_at hl 1 rfl) ?_
        refine lv_iadd hx hb dX12_areParentsAccepted_48 ?_
        refine lv_topi (nm_r (e' := nI (80 + a)) (nI_add _ _) ?_)
        refine xiald C hP 1 rfl (80 + a) rfl (by omega) (by decide) dX12_areParentsAccepted_49 ?_
        refine lv_aload_n hx hb dX12_areParentsAccepted_50 rfl (lv_at hl 0 rfl) ?_
        refine xget C hP 0 rfl rfl zuX12 16 (by decide) zw5_229 rfl dX12_areParentsAccepted_51 ?_
        refine lv_iload_n hx hb dX12_areParentsAccepted_54 rfl (lv_at hl 2 rfl) ?_
        refine xiald C hP 3 rfl e0 rfl (by omega) (by decide) dX12_areParentsAccepted_55 ?_
        refine xi (wr := [(hm, .inr (12, [.ref ms, .ref mkp, .int (nI km), .ref mtr, .int (nI n), .int (nI k), .int (nI al), .int (nI be), .int ea, .int pr, .ref mas, .int nq, .int po, .int (nI en), .ref mso, .ref mon, .ref mot, .ref man, .int th, .int xd, .ref mst, .ref msm, .ref mtb, .ref mti, .ref mfr, .ref mbn, .ref mbs, .ref mde, .int sF, .int sN, .int sS, .int ig, .long xa, .long xb, .ref maa, .ref mab, .ref mba, .ref mbb])), (ms, .inl (cs 0, 288, .inl f)), (mon, .inl (cs 0, 16, .inl onf)), (mot, .inl (cs 0, 16, .inl otf))]) (xS (As := [.int (f (80 + a)), .int (otf e0)]) (rest := []) C (c_X12_has_any l D cs (f (80 + a)) (otf e0)) kX12_100 hP hD [] rfl (by decide +kernel) ⟨Nat.le_of_ble_eq_true rfl, Nat.le_of_ble_eq_true rfl⟩ rfl hl.1 rfl (Nat.le_of_ble_eq_true rfl) dX12_areParentsAccepted_56 ⟨Nat.le_of_ble_eq_true rfl, Nat.le_of_ble_eq_true rfl⟩) hP hD hS hA [] [0, 1, 2, 3] rfl rfl (by decide +kernel) (by decide +kernel) ?_
        clear hP hD hS
        try clear locs
        try clear H
        intro r_10 u_11 H locs hw_r_10 hP hD hS
        have hw_r_10 : (r_10 = nI 0 ∨ r_10 = nI 1) := hw_r_10
        refine W.widen (k := 0) (n := 0) (Nat.le_of_ble_eq_true rfl) (Nat.le_of_ble_eq_true rfl) ?_
        replace hP : va_P D vwCl [(hm, .inr (12, [.ref ms, .ref mkp, .int (nI km), .ref mtr, .int (nI n), .int (nI k), .int (nI al), .int (nI be), .int ea, .int pr, .ref mas, .int nq, .int po, .int (nI en), .ref mso, .ref mon, .ref mot, .ref man, .int th, .int xd, .ref mst, .ref msm, .ref mtb, .ref mti, .ref mfr, .ref mbn, .ref mbs, .ref mde, .int sF, .int sN, .int sS, .int ig, .long xa, .long xb, .ref maa, .ref mab, .ref mba, .ref mbb])), (ms, .inl (cs 0, 288, .inl f)), (mon, .inl (cs 0, 16, .inl onf)), (mot, .inl (cs 0, 16, .inl otf))] H := hP
        replace hD : va_D A [(hm, .inr (12, [.ref ms, .ref mkp, .int (nI km), .ref mtr, .int (nI n), .int (nI k), .int (nI al), .int (nI be), .int ea, .int pr, .ref mas, .int nq, .int po, .int (nI en), .ref mso, .ref mon, .ref mot, .ref man, .int th, .int xd, .ref mst, .ref msm, .ref mtb, .ref mti, .ref mfr, .ref mbn, .ref mbs, .ref mde, .int sF, .int sN, .int sS, .int ig, .long xa, .long xb, .ref maa, .ref mab, .ref mba, .ref mbb])), (ms, .inl (cs 0, 288, .inl f)), (mon, .inl (cs 0, 16, .inl onf)), (mot, .inl (cs 0, 16, .inl otf))] := hD
        refine lv_if_eq (tgt := 66) hx hb dX12_areParentsAccepted_59 (by decide) (fun c_12 => ?_) (fun c_12 => ?_)
        · -- 59 t
          refine lv_iconst (v := nI 0) hx hb dX12_areParentsAccepted_66 (by decide) ?_
          exact xreti C () (by decide) hP hD hS (Nat.le_of_ble_eq_true rfl) (Nat.le_of_ble_eq_true rfl) (by decide) dX12_areParentsAccepted_67
        · -- 59 f
          refine lv_iconst (v := nI 1) hx hb dX12_areParentsAccepted_62 (by decide) ?_
          refine lv_goto (tgt := 67) hx hb dX12_areParentsAccepted_63 (by decide) ?_
          exact xreti C () (by decide) hP hD hS (Nat.le_of_ble_eq_true rfl) (Nat.le_of_ble_eq_true rfl) (by decide) dX12_areParentsAccepted_67
    · -- 27 f
      refine lv_iconst (v := nI 0) hx hb dX12_areParentsAccepted_30 (by decide) ?_
      exact xreti C () (by decide) hP hD hS (Nat.le_of_ble_eq_true rfl) (Nat.le_of_ble_eq_true rfl) (by decide) dX12_areParentsAccepted_31

set_option maxHeartbeats 4000000 in
set_option maxRecDepth 100000 in
theorem c_X12_accepts (l : Launch) (D : va_G) (cs : Nat → ClassId) (hm ms mkp mtr mas mso mon mot man mst msm mtb mti mfr mbn mbs mde maa mab mba mbb : Nat) (n k al be km en : Nat) (ea pr nq po th xd sF sN sS ig : Int32) (xa xb : Int64) (f : Nat → Int32) (sof onf otf : Nat → Int32) (a k9 : Nat) (hen : en ≤ 16) (hso : inP 16 8 sof) (hs : colP f) (ha : a < 8) (hk9 : k9 < 16) : xMet l D cs yX12_accepts cX12_accepts 6 (some .boolean) ({ frames := 2, cells := 0, slots := 0, locals := 44 } : Room) [.ref hm, .int (nI a), .int (nI k9)] [(hm, .inr (12, [.ref ms, .ref mkp, .int (nI km), .ref mtr, .int (nI n), .int (nI k), .int (nI al), .int (nI be), .int ea, .int pr, .ref mas, .int nq, .int po, .int (nI en), .ref mso, .ref mon, .ref mot, .ref man, .int th, .int xd, .ref mst, .ref msm, .ref mtb, .ref mti, .ref mfr, .ref mbn, .ref mbs, .ref mde, .int sF, .int sN, .int sS, .int ig, .long xa, .long xb, .ref maa, .ref mab, .ref mba, .ref mbb])), (ms, .inl (cs 0, 288, .inl f)), (mso, .inl (cs 0, 16, .inl sof)), (mon, .inl (cs 0, 16, .inl onf)), (mot, .inl (cs 0, 16, .inl otf))] (xQi D (fun (r : Int32) (fz : (Nat → Int32)) => (r = nI 0 ∨ r = nI 1) ∧ colP fz) (fun (fz : (Nat → Int32)) => [(hm, .inr (12, [.ref ms, .ref mkp, .int (nI km), .ref mtr, .int (nI n), .int (nI k), .int (nI al), .int (nI be), .int ea, .int pr, .ref mas, .int nq, .int po, .int (nI en), .ref mso, .ref mon, .ref mot, .ref man, .int th, .int xd, .ref mst, .ref msm, .ref mtb, .ref mti, .ref mfr, .ref mbn, .ref mbs, .ref mde, .int sF, .int sN, .int sS, .int ig, .long xa, .long xb, .ref maa, .ref mab, .ref mba, .ref mbb])), (ms, .inl (cs 0, 288, .inl fz)), (mso, .inl (cs 0, 16, .inl sof)), (mon, .inl (cs 0, 16, .inl onf)), (mot, .inl (cs 0, 16, .inl otf))])) := by
  refine xMet.intro (by decide) (Nat.le_of_ble_eq_true rfl) ?_
  intro p e s m args below meth c A ls C hP hD hS hl
  have hx := C.1
  have hb := C.2.1
  have hz := C.2.2.2.2.1
  have hown := C.2.2.2.1
  have hA := C.2.2.2.2.2.2.2.2.2
  have hAO := C.2.2.2.2.2.2.2.2.1.2.2
  replace hl : lv_has ls 6 [(0, .ref hm), (1, .int (nI a)), (2, .int (nI k9))] := hl
  obtain ⟨H, hH⟩ : ∃ H, H = s.heap := ⟨_, rfl⟩
  replace hP : va_P D vwCl [(hm, .inr (12, [.ref ms, .ref mkp, .int (nI km), .ref mtr, .int (nI n), .int (nI k), .int (nI al), .int (nI be), .int ea, .int pr, .ref mas, .int nq, .int po, .int (nI en), .ref mso, .ref mon, .ref mot, .ref man, .int th, .int xd, .ref mst, .ref msm, .ref mtb, .ref mti, .ref mfr, .ref mbn, .ref mbs, .ref mde, .int sF, .int sN, .int sS, .int ig, .long xa, .long xb, .ref maa, .ref mab, .ref mba, .ref mbb])), (ms, .inl (cs 0, 288, .inl f)), (mso, .inl (cs 0, 16, .inl sof)), (mon, .inl (cs 0, 16, .inl onf)), (mot, .inl (cs 0, 16, .inl otf))] H := by rw [hH]; exact hP
  replace hS : va_S A s.heap H [] := by rw [hH]; exact hS
  obtain ⟨locs, hlocs⟩ : ∃ z : List Loc, z = [] := ⟨_, rfl⟩
  rw [← hlocs] at hS
  suffices hW : W p l e ({ frames := 2, cells := 0, slots := 0, locals := 44 } : Room) s m args below meth c H locs 0 0 (MQ below ((xQi D (fun (r : Int32) (fz : (Nat → Int32)) => (r = nI 0 ∨ r = nI 1) ∧ colP fz) (fun (fz : (Nat → Int32)) => [(hm, .inr (12, [.ref ms, .ref mkp, .int (nI km), .ref mtr, .int (nI n), .int (nI k), .int (nI al), .int (nI be), .int ea, .int pr, .ref mas, .int nq, .int po, .int (nI en), .ref mso, .ref mon, .ref mot, .ref man, .int th, .int xd, .ref mst, .ref msm, .ref mtb, .ref mti, .ref mfr, .ref mbn, .ref mbs, .ref mde, .int sF, .int sN, .int sS, .int ig, .long xa, .long xb, .ref maa, .ref mab, .ref mba, .ref mbb])), (ms, .inl (cs 0, 288, .inl fz)), (mso, .inl (cs 0, 16, .inl sof)), (mon, .inl (cs 0, 16, .inl onf)), (mot, .inl (cs 0, 16, .inl otf))])) A) args s 0 0 A) (F0 m 0 ls []) by rw [hlocs, hH] at hW; exact hW
  clear hH hlocs
  refine lv_bipush (v := nI 8) hx hb dX12_accepts_0 (by decide) ?_
  refine lv_iload_n hx hb dX12_accepts_2 rfl (lv_at hl 1 rfl) ?_
  refine lv_imul hx hb dX12_accepts_3 ?_
  refine lv_topi (nm_r (e' := nI (8 * a)) (pk_mul _ _) ?_)
  refine lv_aload_n hx hb dX12_accepts_4 rfl (lv_at hl 0 rfl) ?_
  refine xget C hP 0 rfl rfl zuX12 14 (by decide) zw5_227 rfl dX12_accepts_5 ?_
  refine lv_iload_n hx hb dX12_accepts_8 rfl (lv_at hl 2 rfl) ?_
  refine xiald C hP 2 rfl k9 rfl (by omega) (by decide) dX12_accepts_9 ?_
  obtain ⟨t_1, h_t_1, e_t_1⟩ := (hso k9 (by omega))
  refine lv_topi (nm_r (e' := nI t_1) e_t_1 ?_)
  refine lv_iadd hx hb dX12_accepts_10 ?_
  refine lv_topi (nm_r (e' := nI ((8 * a) + t_1)) (nI_add _ _) ?_)
  refine lv_istore_n (lv' := [(3, .int (nI ((8 * a) + t_1))), (0, .ref hm), (1, .int (nI a)), (2, .int (nI k9))]) hx hb dX12_accepts_11 rfl hl (by decide) rfl ?_
  clear hl
  try clear ls
  intro ls hl
  refine lv_aload_n hx hb dX12_accepts_12 rfl (lv_at hl 1 rfl) ?_
  refine lv_iload_n hx hb dX12_accepts_13 rfl (lv_at hl 2 rfl) ?_
  refine lv_aload_n hx hb dX12_accepts_14 rfl (lv_at hl 1 rfl) ?_
  refine xget C hP 0 rfl rfl zuX12 14 (by decide) zw5_227 rfl dX12_accepts_15 ?_
  refine lv_iload_n hx hb dX12_accepts_18 rfl (lv_at hl 3 rfl) ?_
  refine xiald C hP 2 rfl k9 rfl (by omega) (by decide) dX12_accepts_19 ?_
  refine lv_topi (nm_r (e' := nI t_1) e_t_1 ?_)
  refine xi (wr := [(mon, .inl (cs 0, 16, .inl onf)), (mot, .inl (cs 0, 16, .inl otf))]) (xV (As := [.int (nI a), .int (nI t_1)]) (rest := []) C (c_X12_acceptedOf l D cs hm ms mkp mtr mas mso mon mot man mst msm mtb mti mfr mbn mbs mde maa mab mba mbb n k al be km en ea pr nq po th xd sF sN sS ig xa xb f a (nI t_1) sof hen ha) kX12_310 hP hD [0, 1, 2] rfl (by decide +kernel) 0 rfl rfl rfl ⟨Nat.le_of_ble_eq_true rfl, Nat.le_of_ble_eq_true rfl⟩ rfl hl.1 rfl (Nat.le_of_ble_eq_true rfl) dX12_accepts_20 ⟨Nat.le_of_ble_eq_true rfl, Nat.le_of_ble_eq_true rfl⟩) hP hD hS hA [0, 1, 2] [3, 4] rfl rfl (by decide +kernel) (by decide +kernel) ?_
  clear hP hD hS
  try clear locs
  try clear H
  intro r_2 u_3 H locs hw_r_2 hP hD hS
  have hw_r_2 : r_2 = -1 ∨ ∃ e, e < en ∧ r_2 = nI e := hw_r_2
  refine W.widen (k := 0) (n := 0) (Nat.le_of_ble_eq_true rfl) (Nat.le_of_ble_eq_true rfl) ?_
  replace hP : va_P D vwCl [(mon, .inl (cs 0, 16, .inl onf)), (mot, .inl (cs 0, 16, .inl otf)), (hm, .inr (12, [.ref ms, .ref mkp, .int (nI km), .ref mtr, .int (nI n), .int (nI k), .int (nI al), .int (nI be), .int ea, .int pr, .ref mas, .int nq, .int po, .int (nI en), .ref mso, .ref mon, .ref mot, .ref man, .int th, .int xd, .ref mst, .ref msm, .ref mtb, .ref mti, .ref mfr, .ref mbn, .ref mbs, .ref mde, .int sF, .int sN, .int sS, .int ig, .long xa, .long xb, .ref maa, .ref mab, .ref mba, .ref mbb])), (ms, .inl (cs 0, 288, .inl f)), (mso, .inl (cs 0, 16, .inl sof))] H := hP
  replace hD : va_D A [(mon, .inl (cs 0, 16, .inl onf)), (mot, .inl (cs 0, 16, .inl otf)), (hm, .inr (12, [.ref ms, .ref mkp, .int (nI km), .ref mtr, .int (nI n), .int (nI k), .int (nI al), .int (nI be), .int ea, .int pr, .ref mas, .int nq, .int po, .int (nI en), .ref mso, .ref mon, .ref mot, .ref man, .int th, .int xd, .ref mst, .ref msm, .ref mtb, .ref mti, .ref mfr, .ref mbn, .ref mbs, .ref mde, .int sF, .int sN, .int sS, .int ig, .long xa, .long xb, .ref maa, .ref mab, .ref mba, .ref mbb])), (ms, .inl (cs 0, 288, .inl f)), (mso, .inl (cs 0, 16, .inl sof))] := hD
  refine lv_if_ge (tgt := 53) hx hb dX12_accepts_23 (by decide) (fun c_4 => ?_) (fun c_4 => ?_)
  · -- 23 t
    refine lv_iconst (v := nI 0) hx hb dX12_accepts_53 (by decide) ?_
    exact xreti C f (⟨by decide, hs⟩) (xP_map hP [2, 3, 4, 0, 1] rfl) (hD.sub [2, 3, 4, 0, 1] (by decide +kernel) rfl) hS (Nat.le_of_ble_eq_true rfl) (Nat.le_of_ble_eq_true rfl) (by decide) dX12_accepts_54
  · -- 23 f
    refine lv_aload_n hx hb dX12_accepts_26 rfl (lv_at hl 1 rfl) ?_
    refine xget C hP 2 rfl rfl zuX12 0 (by decide) zw5_213 rfl dX12_accepts_27 ?_
    refine lv_sipush (v := nI 160) hx hb dX12_accepts_30 (by decide) ?_
    refine lv_iload_n hx hb dX12_accepts_33 rfl (lv_at hl 0 rfl) ?_
    refine lv_iadd hx hb dX12_accepts_34 ?_
    refine lv_topi (nm_r (e' := nI (160 + ((8 * a) + t_1))) (nI_add _ _) ?_)
    refine xiald C hP 3 rfl (160 + ((8 * a) + t_1)) rfl (by omega) (by decide) dX12_accepts_35 ?_
    refine lv_iload_n hx hb dX12_accepts_36 rfl (lv_at hl 3 rfl) ?_
    refine lv_icmp_ne (tgt := 53) hx hb dX12_accepts_37 (by decide) (fun c_5 => ?_) (fun c_5 => ?_)
    · -- 37 t
      refine lv_iconst (v := nI 0) hx hb dX12_accepts_53 (by decide) ?_
      exact xreti C f (⟨by decide, hs⟩) (xP_map hP [2, 3, 4, 0, 1] rfl) (hD.sub [2, 3, 4, 0, 1] (by decide +kernel) rfl) hS (Nat.le_of_ble_eq_true rfl) (Nat.le_of_ble_eq_true rfl) (by decide) dX12_accepts_54
    · -- 37 f
      refine lv_aload_n hx hb dX12_accepts_40 rfl (lv_at hl 1 rfl) ?_
      refine xget C hP 2 rfl rfl zuX12 0 (by decide) zw5_213 rfl dX12_accepts_41 ?_
      refine lv_bipush (v := nI 96) hx hb dX12_accepts_44 (by decide) ?_
      refine lv_iload_n hx hb dX12_accepts_46 rfl (lv_at hl 0 rfl) ?_
      refine lv_iadd hx hb dX12_accepts_47 ?_
      refine lv_topi (nm_r (e' := nI (96 + ((8 * a) + t_1))) (nI_add _ _) ?_)
      refine xiald C hP 3 rfl (96 + ((8 * a) + t_1)) rfl (by omega) (by decide) dX12_accepts_48 ?_
      refine lv_iload_n hx hb dX12_accepts_49 rfl (lv_at hl 3 rfl) ?_
      refine lv_icmp_eq (tgt := 55) hx hb dX12_accepts_50 (by decide) (fun c_6 => ?_) (fun c_6 => ?_)
      · -- 50 t
        refine lv_aload_n hx hb dX12_accepts_55 rfl (lv_at hl 1 rfl) ?_
        refine lv_iload_n hx hb dX12_accepts_56 rfl (lv_at hl 3 rfl) ?_
        refine xi (wr := [(mon, .inl (cs 0, 16, .inl onf)), (mot, .inl (cs 0, 16, .inl otf)), (ms, .inl (cs 0, 288, .inl f))]) (xV (As := [.int (nI k9)]) (rest := []) C (c_X12_isAlone l D cs hm ms mkp mtr mas mso mon mot man mst msm mtb mti mfr mbn mbs mde maa mab mba mbb n k al be km en ea pr nq po th xd sF sN sS ig xa xb k9 sof hen hk9) kX12_339 hP hD [2, 4] rfl (by decide +kernel) 0 rfl rfl rfl ⟨Nat.le_of_ble_eq_true rfl, Nat.le_of_ble_eq_true rfl⟩ rfl hl.1 rfl (Nat.le_of_ble_eq_true rfl) dX12_accepts_57 ⟨Nat.le_of_ble_eq_true rfl, Nat.le_of_ble_eq_true rfl⟩) hP hD hS hA [2, 4] [0, 1, 3] rfl rfl (by decide +kernel) (by decide +kernel) ?_
        clear hP hD hS
        try clear locs
        try clear H
        intro r_7 u_8 H locs hw_r_7 hP hD hS
        have hw_r_7 : (r_7 = nI 0 ∨ r_7 = nI 1) := hw_r_7
        refine W.widen (k := 0) (n := 0) (Nat.le_of_ble_eq_true rfl) (Nat.le_of_ble_eq_true rfl) ?_
        replace hP : va_P D vwCl [(mon, .inl (cs 0, 16, .inl onf)), (mot, .inl (cs 0, 16, .inl otf)), (ms, .inl (cs 0, 288, .inl f)), (hm, .inr (12, [.ref ms, .ref mkp, .int (nI km), .ref mtr, .int (nI n), .int (nI k), .int (nI al), .int (nI be), .int ea, .int pr, .ref mas, .int nq, .int po, .int (nI en), .ref mso, .ref mon, .ref mot, .ref man, .int th, .int xd, .ref mst, .ref msm, .ref mtb, .ref mti, .ref mfr, .ref mbn, .ref mbs, .ref mde, .int sF, .int sN, .int sS, .int ig, .long xa, .long xb, .ref maa, .ref mab, .ref mba, .ref mbb])), (mso, .inl (cs 0, 16, .inl sof))] H := hP
        replace hD : va_D A [(mon, .inl (cs 0, 16, .inl onf)), (mot, .inl (cs 0, 16, .inl otf)), (ms, .inl (cs 0, 288, .inl f)), (hm, .inr (12, [.ref ms, .ref mkp, .int (nI km), .ref mtr, .int (nI n), .int (nI k), .int (nI al), .int (nI be), .int ea, .int pr, .ref mas, .int nq, .int po, .int (nI en), .ref mso, .ref mon, .ref mot, .ref man, .int th, .int xd, .ref mst, .ref msm, .ref mtb, .ref mti, .ref mfr, .ref mbn, .ref mbs, .ref mde, .int sF, .int sN, .int sS, .int ig, .long xa, .long xb, .ref maa, .ref mab, .ref mba, .ref mbb])), (mso, .inl (cs 0, 16, .inl sof))] := hD
        refine lv_if_eq (tgt := 93) hx hb dX12_accepts_60 (by decide) (fun c_9 => ?_) (fun c_9 => ?_)
        · -- 60 t
          refine lv_iconst (v := nI 0) hx hb dX12_accepts_93 (by decide) ?_
          refine lv_istore (lv' := [(4, .int (nI 0)), (3, .int (nI ((8 * a) + t_1))), (0, .ref hm), (1, .int (nI a)), (2, .int (nI k9))]) hx hb dX12_accepts_94 hl (by decide) rfl ?_
          clear hl
          try clear ls
          intro ls hl
          refine lv_aload_n hx hb dX12_accepts_96 rfl (lv_at hl 2 rfl) ?_
          refine xget C hP 3 rfl rfl zuX12 0 (by decide) zw5_213 rfl dX12_accepts_97 ?_
          refine lv_sipush (v := nI 224) hx hb dX12_accepts_100 (by decide) ?_
          refine lv_iload_n hx hb dX12_accepts_103 rfl (lv_at hl 1 rfl) ?_
          refine lv_iadd hx hb dX12_accepts_104 ?_
          refine lv_topi (nm_r (e' := nI (224 + ((8 * a) + t_1))) (nI_add _ _) ?_)
          refine xiald C hP 2 rfl (224 + ((8 * a) + t_1)) rfl (by omega) (by decide) dX12_accepts_105 ?_
          refine lv_aload_n hx hb dX12_accepts_106 rfl (lv_at hl 2 rfl) ?_
          refine xget C hP 3 rfl rfl zuX12 7 (by decide) zw5_220 rfl dX12_accepts_107 ?_
          refine lv_icmp_ge (tgt := 120) hx hb dX12_accepts_110 (by decide) (fun c_10 => ?_) (fun c_10 => ?_)
          · -- 110 t
            refine lv_aload_n hx hb dX12_accepts_120 rfl (lv_at hl 2 rfl) ?_
            refine xget C hP 3 rfl rfl zuX12 0 (by decide) zw5_213 rfl dX12_accepts_121 ?_
            refine lv_bipush (v := nI 80) hx hb dX12_accepts_124 (by decide) ?_
            refine lv_iload_n hx hb dX12_accepts_126 rfl (lv_at hl 3 rfl) ?_
            refine lv_iadd hx hb dX12_accepts_127 ?_
            refine lv_topi (nm_r (e' := nI (80 + a)) (nI_add _ _) ?_)
            refine lv_dup2_11 hx hb dX12_accepts_128 rfl rfl ?_
            refine xiald C hP 2 rfl (80 + a) rfl (by omega) (by decide) dX12_accepts_129 ?_
            refine lv_iconst (v := nI 1) hx hb dX12_accepts_130 (by decide) ?_
            refine lv_iload_n hx hb dX12_accepts_131 rfl (lv_at hl 4 rfl) ?_
            refine lv_ishl hx hb dX12_accepts_132 ?_
            refine lv_ior hx hb dX12_accepts_133 ?_
            refine xiast C hP hD hS 2 rfl (80 + a) rfl (by omega) (by decide) dX12_accepts_134 ?_
            clear hP hD hS
            try clear locs
            try clear H
            intro H locs hP hD hS
            replace hP : va_P D vwCl [(mon, .inl (cs 0, 16, .inl onf)), (mot, .inl (cs 0, 16, .inl otf)), (ms, .inl (cs 0, 288, .inl (upd f (80 + a) ((f (80 + a)) ||| ((nI 1) <<< ((nI k9) &&& 31)))))), (hm, .inr (12, [.ref ms, .ref mkp, .int (nI km), .ref mtr, .int (nI n), .int (nI k), .int (nI al), .int (nI be), .int ea, .int pr, .ref mas, .int nq, .int po, .int (nI en), .ref mso, .ref mon, .ref mot, .ref man, .int th, .int xd, .ref mst, .ref msm, .ref mtb, .ref mti, .ref mfr, .ref mbn, .ref mbs, .ref mde, .int sF, .int sN, .int sS, .int ig, .long xa, .long xb, .ref maa, .ref mab, .ref mba, .ref mbb])), (mso, .inl (cs 0, 16, .inl sof))] H := hP
            replace hD : va_D A [(mon, .inl (cs 0, 16, .inl onf)), (mot, .inl (cs 0, 16, .inl otf)), (ms, .inl (cs 0, 288, .inl (upd f (80 + a) ((f (80 + a)) ||| ((nI 1) <<< ((nI k9) &&& 31)))))), (hm, .inr (12, [.ref ms, .ref mkp, .int (nI km), .ref mtr, .int (nI n), .int (nI k), .int (nI al), .int (nI be), .int ea, .int pr, .ref mas, .int nq, .int po, .int (nI en), .ref mso, .ref mon, .ref mot, .ref man, .int th, .int xd, .ref mst, .ref msm, .ref mtb, .ref mti, .ref mfr, .ref mbn, .ref mbs, .ref mde, .int sF, .int sN, .int sS, .int ig, .long xa, .long xb, .ref maa, .ref mab, .ref mba, .ref mbb])), (mso, .inl (cs 0, 16, .inl sof))] := hD
            refine lv_iconst (v := nI 0) hx hb dX12_accepts_135 (by decide) ?_
            refine lv_istore (lv' := [(5, .int (nI 0)), (4, .int (nI 0)), (3, .int (nI ((8 * a) + t_1))), (0, .ref hm), (1, .int (nI a)), (2, .int (nI k9))]) hx hb dX12_accepts_136 hl (by decide) rfl ?_
            clear hl
            try clear ls
            intro ls hl
            have loop_11 : ∀ (n_loop_11 : Nat) (o : Nat) (f9 : Nat → Int32), (o ≤ en) → (colP f9) → en - o < n_loop_11 → ∀ (H : Heap) (locs : List Loc) (ls : Array Slot), va_P D vwCl [(mon, .inl (cs 0, 16, .inl onf)), (mot, .inl (cs 0, 16, .inl otf)), (ms, .inl (cs 0, 288, .inl f9)), (hm, .inr (12, [.ref ms, .ref mkp, .int (nI km), .ref mtr, .int (nI n), .int (nI k), .int (nI al), .int (nI be), .int ea, .int pr, .ref mas, .int nq, .int po, .int (nI en), .ref mso, .ref mon, .ref mot, .ref man, .int th, .int xd, .ref mst, .ref msm, .ref mtb, .ref mti, .ref mfr, .ref mbn, .ref mbs, .ref mde, .int sF, .int sN, .int sS, .int ig, .long xa, .long xb, .ref maa, .ref mab, .ref mba, .ref mbb])), (mso, .inl (cs 0, 16, .inl sof))] H → va_D A [(mon, .inl (cs 0, 16, .inl onf)), (mot, .inl (cs 0, 16, .inl otf)), (ms, .inl (cs 0, 288, .inl f9)), (hm, .inr (12, [.ref ms, .ref mkp, .int (nI km), .ref mtr, .int (nI n), .int (nI k), .int (nI al), .int (nI be), .int ea, .int pr, .ref mas, .int nq, .int po, .int (nI en), .ref mso, .ref mon, .ref mot, .ref man, .int th, .int xd, .ref mst, .ref msm, .ref mtb, .ref mti, .ref mfr, .ref mbn, .ref mbs, .ref mde, .int sF, .int sN, .int sS, .int ig, .long xa, .long xb, .ref maa, .ref mab, .ref mba, .ref mbb])), (mso, .inl (cs 0, 16, .inl sof))] → va_S A s.heap H locs → lv_has ls 6 [(5, .int (nI o)), (4, .int (nI 0)), (3, .int (nI ((8 * a) + t_1))), (0, .ref hm), (1, .int (nI a)), (2, .int (nI k9))] → W p l e ({ frames := 2, cells := 0, slots := 0, locals := 44 } : Room) s m args below meth c H locs 0 0 (MQ below ((xQi D (fun (r : Int32) (fz : (Nat → Int32)) => (r = nI 0 ∨ r = nI 1) ∧ colP fz) (fun (fz : (Nat → Int32)) => [(hm, .inr (12, [.ref ms, .ref mkp, .int (nI km), .ref mtr, .int (nI n), .int (nI k), .int (nI al), .int (nI be), .int ea, .int pr, .ref mas, .int nq, .int po, .int (nI en), .ref mso, .ref mon, .ref mot, .ref man, .int th, .int xd, .ref mst, .ref msm, .ref mtb, .ref mti, .ref mfr, .ref mbn, .ref mbs, .ref mde, .int sF, .int sN, .int sS, .int ig, .long xa, .long xb, .ref maa, .ref mab, .ref mba, .ref mbb])), (ms, .inl (cs 0, 288, .inl fz)), (mso, .inl (cs 0, 16, .inl sof)), (mon, .inl (cs 0, 16, .inl onf)), (mot, .inl (cs 0, 16, .inl otf))])) A) args s 0 0 A) (F0 m 138 ls []) := by
              intro n_loop_11
              induction n_loop_11 with
              | zero => intro o f9 h_o hs9 hlt H locs ls hP hD hS hl; exact absurd hlt (Nat.not_lt_zero _)
              | succ n_loop_11 ih_loop_11 =>
                intro o f9 h_o hs9 hlt_loop_11 H locs ls hP hD hS hl
                refine lv_iload hx hb dX12_accepts_138 (lv_at hl 0 rfl) ?_
                refine lv_aload_n hx hb dX12_accepts_140 rfl (lv_at hl 3 rfl) ?_
                refine xget C hP 3 rfl rfl zuX12 13 (by decide) zw5_226 rfl dX12_accepts_141 ?_
                refine lv_icmp_ge (tgt := 191) hx hb dX12_accepts_144 (by decide) (fun c_12 => ?_) (fun c_12 => ?_)
                · -- 144 t
                  have fc_12 : en ≤ o := nf_le (by omega) (by omega) c_12
                  refine lv_iconst (v := nI 1) hx hb dX12_accepts_191 (by decide) ?_
                  exact xreti C f9 (⟨by decide, hs9⟩) (xP_map hP [3, 2, 4, 0, 1] rfl) (hD.sub [3, 2, 4, 0, 1] (by decide +kernel) rfl) hS (Nat.le_of_ble_eq_true rfl) (Nat.le_of_ble_eq_true rfl) (by decide) dX12_accepts_192
                · -- 144 f
                  have fc_12 : o < en := nf_nle (by omega) (by omega) c_12
                  refine lv_iload hx hb dX12_accepts_147 (lv_at hl 0 rfl) ?_
                  refine lv_iload_n hx hb dX12_accepts_149 rfl (lv_at hl 5 rfl) ?_
                  refine lv_icmp_eq (tgt := 185) hx hb dX12_accepts_150 (by decide) (fun c_13 => ?_) (fun c_13 => ?_)
                  · -- 150 t
                    have fc_13 : o = k9 := nf_eq (by omega) (by omega) c_13
                    refine lv_iinc (v := nI (o + 1)) (lv' := [(5, .int (nI (o + 1))), (4, .int (nI 0)), (3, .int (nI ((8 * a) + t_1))), (0, .ref hm), (1, .int (nI a)), (2, .int (nI k9))]) hx hb dX12_accepts_185 hl (k := 0) rfl (nI_add o 1) (by decide) rfl ?_
                    clear hl
                    try clear ls
                    intro ls hl
                    refine lv_goto (tgt := 138) hx hb dX12_accepts_188 (by decide) ?_
                    exact ih_loop_11 (o + 1) f9 (by omega) hs9 (by omega) H locs ls hP hD hS (lv_sub hl [0, 1, 2, 3, 4, 5] rfl)
                  · -- 150 f
                    have fc_13 : o ≠ k9 := nf_ne (by omega) (by omega) c_13
                    refine lv_aload_n hx hb dX12_accepts_153 rfl (lv_at hl 3 rfl) ?_
                    refine xget C hP 3 rfl rfl zuX12 14 (by decide) zw5_227 rfl dX12_accepts_154 ?_
                    refine lv_iload hx hb dX12_accepts_157 (lv_at hl 0 rfl) ?_
                    refine xiald C hP 4 rfl o rfl (by omega) (by decide) dX12_accepts_159 ?_
                    refine lv_aload_n hx hb dX12_accepts_160 rfl (lv_at hl 3 rfl) ?_
                    refine xget C hP 3 rfl rfl zuX12 14 (by decide) zw5_227 rfl dX12_accepts_161 ?_
                    refine lv_iload_n hx hb dX12_accepts_164 rfl (lv_at hl 5 rfl) ?_
                    refine xiald C hP 4 rfl k9 rfl (by omega) (by decide) dX12_accepts_165 ?_
                    refine lv_icmp_ne (tgt := 185) hx hb dX12_accepts_166 (by decide) (fun c_14 => ?_) (fun c_14 => ?_)
                    · -- 166 t
                      refine lv_iinc (v := nI (o + 1)) (lv' := [(5, .int (nI (o + 1))), (4, .int (nI 0)), (3, .int (nI ((8 * a) + t_1))), (0, .ref hm), (1, .int (nI a)), (2, .int (nI k9))]) hx hb dX12_accepts_185 hl (k := 0) rfl (nI_add o 1) (by decide) rfl ?_
                      clear hl
                      try clear ls
                      intro ls hl
                      refine lv_goto (tgt := 138) hx hb dX12_accepts_188 (by decide) ?_
                      exact ih_loop_11 (o + 1) f9 (by omega) hs9 (by omega) H locs ls hP hD hS (lv_sub hl [0, 1, 2, 3, 4, 5] rfl)
                    · -- 166 f
                      refine lv_aload_n hx hb dX12_accepts_169 rfl (lv_at hl 3 rfl) ?_
                      refine xget C hP 3 rfl rfl zuX12 0 (by decide) zw5_213 rfl dX12_accepts_170 ?_
                      refine lv_bipush (v := nI 88) hx hb dX12_accepts_173 (by decide) ?_
                      refine lv_iload_n hx hb dX12_accepts_175 rfl (lv_at hl 4 rfl) ?_
                      refine lv_iadd hx hb dX12_accepts_176 ?_
                      refine lv_topi (nm_r (e' := nI (88 + a)) (nI_add _ _) ?_)
                      refine lv_dup2_11 hx hb dX12_accepts_177 rfl rfl ?_
                      refine xiald C hP 2 rfl (88 + a) rfl (by omega) (by decide) dX12_accepts_178 ?_
                      refine lv_iconst (v := nI 1) hx hb dX12_accepts_179 (by decide) ?_
                      refine lv_iload hx hb dX12_accepts_180 (lv_at hl 0 rfl) ?_
                      refine lv_ishl hx hb dX12_accepts_182 ?_
                      refine lv_ior hx hb dX12_accepts_183 ?_
                      refine xiast C hP hD hS 2 rfl (88 + a) rfl (by omega) (by decide) dX12_accepts_184 ?_
                      clear hP hD hS
                      try clear locs
                      try clear H
                      intro H locs hP hD hS
                      replace hP : va_P D vwCl [(mon, .inl (cs 0, 16, .inl onf)), (mot, .inl (cs 0, 16, .inl otf)), (ms, .inl (cs 0, 288, .inl (upd f9 (88 + a) ((f9 (88 + a)) ||| ((nI 1) <<< ((nI o) &&& 31)))))), (hm, .inr (12, [.ref ms, .ref mkp, .int (nI km), .ref mtr, .int (nI n), .int (nI k), .int (nI al), .int (nI be), .int ea, .int pr, .ref mas, .int nq, .int po, .int (nI en), .ref mso, .ref mon, .ref mot, .ref man, .int th, .int xd, .ref mst, .ref msm, .ref mtb, .ref mti, .ref mfr, .ref mbn, .ref mbs, .ref mde, .int sF, .int sN, .int sS, .int ig, .long xa, .long xb, .ref maa, .ref mab, .ref mba, .ref mbb])), (mso, .inl (cs 0, 16, .inl sof))] H := hP
                      replace hD : va_D A [(mon, .inl (cs 0, 16, .inl onf)), (mot, .inl (cs 0, 16, .inl otf)), (ms, .inl (cs 0, 288, .inl (upd f9 (88 + a) ((f9 (88 + a)) ||| ((nI 1) <<< ((nI o) &&& 31)))))), (hm, .inr (12, [.ref ms, .ref mkp, .int (nI km), .ref mtr, .int (nI n), .int (nI k), .int (nI al), .int (nI be), .int ea, .int pr, .ref mas, .int nq, .int po, .int (nI en), .ref mso, .ref mon, .ref mot, .ref man, .int th, .int xd, .ref mst, .ref msm, .ref mtb, .ref mti, .ref mfr, .ref mbn, .ref mbs, .ref mde, .int sF, .int sN, .int sS, .int ig, .long xa, .long xb, .ref maa, .ref mab, .ref mba, .ref mbb])), (mso, .inl (cs 0, 16, .inl sof))] := hD
                      refine lv_iinc (v := nI (o + 1)) (lv' := [(5, .int (nI (o + 1))), (4, .int (nI 0)), (3, .int (nI ((8 * a) + t_1))), (0, .ref hm), (1, .int (nI a)), (2, .int (nI k9))]) hx hb dX12_accepts_185 hl (k := 0) rfl (nI_add o 1) (by decide) rfl ?_
                      clear hl
                      try clear ls
                      intro ls hl
                      refine lv_goto (tgt := 138) hx hb dX12_accepts_188 (by decide) ?_
                      exact ih_loop_11 (o + 1) (upd f9 (88 + a) ((f9 (88 + a)) ||| ((nI 1) <<< ((nI o) &&& 31)))) (by omega) (colP_hi (i := 88 + a) hs9 ((f9 (88 + a)) ||| ((nI 1) <<< ((nI o) &&& 31))) (by omega)) (by omega) H locs ls hP hD hS (lv_sub hl [0, 1, 2, 3, 4, 5] rfl)
            exact loop_11 _ 0 (upd f (80 + a) ((f (80 + a)) ||| ((nI 1) <<< ((nI k9) &&& 31)))) (by omega) (colP_hi (i := 80 + a) hs ((f (80 + a)) ||| ((nI 1) <<< ((nI k9) &&& 31))) (by omega)) (Nat.lt_succ_self _) H locs ls hP hD hS (lv_sub hl [0, 1, 2, 3, 4, 5] rfl)
          · -- 110 f
            refine lv_iload hx hb dX12_accepts_113 (lv_at hl 0 rfl) ?_
            refine lv_if_ne (tgt := 120) hx hb dX12_accepts_115 (by decide) (fun c => absurd (by decide) c) (fun _ => ?_)
            refine lv_iconst (v := nI 0) hx hb dX12_accepts_118 (by decide) ?_
            exact xreti C f (⟨by decide, hs⟩) (xP_map hP [3, 2, 4, 0, 1] rfl) (hD.sub [3, 2, 4, 0, 1] (by decide +kernel) rfl) hS (Nat.le_of_ble_eq_true rfl) (Nat.le_of_ble_eq_true rfl) (by decide) dX12_accepts_119
        · -- 60 f
          refine lv_aload_n hx hb dX12_accepts_63 rfl (lv_at hl 1 rfl) ?_
          refine lv_iload_n hx hb dX12_accepts_64 rfl (lv_at hl 2 rfl) ?_
          refine lv_iload_n hx hb dX12_accepts_65 rfl (lv_at hl 3 rfl) ?_
          refine xi (wr := [(mso, .inl (cs 0, 16, .inl sof))]) (xV (As := [.int (nI a), .int (nI k9)]) (rest := []) C (c_X12_areParentsAccepted l D cs hm ms mkp mtr mas mso mon mot man mst msm mtb mti mfr mbn mbs mde maa mab mba mbb n k al be km en ea pr nq po th xd sF sN sS ig xa xb f a k9 onf otf ha hk9) kX12_342 hP hD [3, 2, 0, 1] rfl (by decide +kernel) 0 rfl rfl rfl ⟨Nat.le_of_ble_eq_true rfl, Nat.le_of_ble_eq_true rfl⟩ rfl hl.1 rfl (Nat.le_of_ble_eq_true rfl) dX12_accepts_66 ⟨Nat.le_of_ble_eq_true rfl, Nat.le_of_ble_eq_true rfl⟩) hP hD hS hA [3, 2, 0, 1] [4] rfl rfl (by decide +kernel) (by decide +kernel) ?_
          clear hP hD hS
          try clear locs
          try clear H
          intro r_15 u_16 H locs hw_r_15 hP hD hS
          have hw_r_15 : (r_15 = nI 0 ∨ r_15 = nI 1) := hw_r_15
          refine W.widen (k := 0) (n := 0) (Nat.le_of_ble_eq_true rfl) (Nat.le_of_ble_eq_true rfl) ?_
          replace hP : va_P D vwCl [(mso, .inl (cs 0, 16, .inl sof)), (hm, .inr (12, [.ref ms, .ref mkp, .int (nI km), .ref mtr, .int (nI n), .int (nI k), .int (nI al), .int (nI be), .int ea, .int pr, .ref mas, .int nq, .int po, .int (nI en), .ref mso, .ref mon, .ref mot, .ref man, .int th, .int xd, .ref mst, .ref msm, .ref mtb, .ref mti, .ref mfr, .ref mbn, .ref mbs, .ref mde, .int sF, .int sN, .int sS, .int ig, .long xa, .long xb, .ref maa, .ref mab, .ref mba, .ref mbb])), (ms, .inl (cs 0, 288, .inl f)), (mon, .inl (cs 0, 16, .inl onf)), (mot, .inl (cs 0, 16, .inl otf))] H := hP
          replace hD : va_D A [(mso, .inl (cs 0, 16, .inl sof)), (hm, .inr (12, [.ref ms, .ref mkp, .int (nI km), .ref mtr, .int (nI n), .int (nI k), .int (nI al), .int (nI be), .int ea, .int pr, .ref mas, .int nq, .int po, .int (nI en), .ref mso, .ref mon, .ref mot, .ref man, .int th, .int xd, .ref mst, .ref msm, .ref mtb, .ref mti, .ref mfr, .ref mbn, .ref mbs, .ref mde, .int sF, .int sN, .int sS, .int ig, .long xa, .long xb, .ref maa, .ref mab, .ref mba, .ref mbb])), (ms, .inl (cs 0, 288, .inl f)), (mon, .inl (cs 0, 16, .inl onf)), (mot, .inl (cs 0, 16, .inl otf))] := hD
          refine lv_if_eq (tgt := 93) hx hb dX12_accepts_69 (by decide) (fun c_17 => ?_) (fun c_17 => ?_)
          · -- 69 t
            refine lv_iconst (v := nI 0) hx hb dX12_accepts_93 (by decide) ?_
            refine lv_istore (lv' := [(4, .int (nI 0)), (3, .int (nI ((8 * a) + t_1))), (0, .ref hm), (1, .int (nI a)), (2, .int (nI k9))]) hx hb dX12_accepts_94 hl (by decide) rfl ?_
            clear hl
            try clear ls
            intro ls hl
            refine lv_aload_n hx hb dX12_accepts_96 rfl (lv_at hl 2 rfl) ?_
            refine xget C hP 1 rfl rfl zuX12 0 (by decide) zw5_213 rfl dX12_accepts_97 ?_
            refine lv_sipush (v := nI 224) hx hb dX12_accepts_100 (by decide) ?_
            refine lv_iload_n hx hb dX12_accepts_103 rfl (lv_at hl 1 rfl) ?_
            refine lv_iadd hx hb dX12_accepts_104 ?_
            refine lv_topi (nm_r (e' := nI (224 + ((8 * a) + t_1))) (nI_add _ _) ?_)
            refine xiald C hP 2 rfl (224 + ((8 * a) + t_1)) rfl (by omega) (by decide) dX12_accepts_105 ?_
            refine lv_aload_n hx hb dX12_accepts_106 rfl (lv_at hl 2 rfl) ?_
            refine xget C hP 1 rfl rfl zuX12 7 (by decide) zw5_220 rfl dX12_accepts_107 ?_
            refine lv_icmp_ge (tgt := 120) hx hb dX12_accepts_110 (by decide) (fun c_18 => ?_) (fun c_18 => ?_)
            · -- 110 t
              refine lv_aload_n hx hb dX12_accepts_120 rfl (lv_at hl 2 rfl) ?_
              refine xget C hP 1 rfl rfl zuX12 0 (by decide) zw5_213 rfl dX12_accepts_121 ?_
              refine lv_bipush (v := nI 80) hx hb dX12_accepts_124 (by decide) ?_
              refine lv_iload_n hx hb dX12_accepts_126 rfl (lv_at hl 3 rfl) ?_
              refine lv_iadd hx hb dX12_accepts_127 ?_
              refine lv_topi (nm_r (e' := nI (80 + a)) (nI_add _ _) ?_)
              refine lv_dup2_11 hx hb dX12_accepts_128 rfl rfl ?_
              refine xiald C hP 2 rfl (80 + a) rfl (by omega) (by decide) dX12_accepts_129 ?_
              refine lv_iconst (v := nI 1) hx hb dX12_accepts_130 (by decide) ?_
              refine lv_iload_n hx hb dX12_accepts_131 rfl (lv_at hl 4 rfl) ?_
              refine lv_ishl hx hb dX12_accepts_132 ?_
              refine lv_ior hx hb dX12_accepts_133 ?_
              refine xiast C hP hD hS 2 rfl (80 + a) rfl (by omega) (by decide) dX12_accepts_134 ?_
              clear hP hD hS
              try clear locs
              try clear H
              intro H locs hP hD hS
              replace hP : va_P D vwCl [(mso, .inl (cs 0, 16, .inl sof)), (hm, .inr (12, [.ref ms, .ref mkp, .int (nI km), .ref mtr, .int (nI n), .int (nI k), .int (nI al), .int (nI be), .int ea, .int pr, .ref mas, .int nq, .int po, .int (nI en), .ref mso, .ref mon, .ref mot, .ref man, .int th, .int xd, .ref mst, .ref msm, .ref mtb, .ref mti, .ref mfr, .ref mbn, .ref mbs, .ref mde, .int sF, .int sN, .int sS, .int ig, .long xa, .long xb, .ref maa, .ref mab, .ref mba, .ref mbb])), (ms, .inl (cs 0, 288, .inl (upd f (80 + a) ((f (80 + a)) ||| ((nI 1) <<< ((nI k9) &&& 31)))))), (mon, .inl (cs 0, 16, .inl onf)), (mot, .inl (cs 0, 16, .inl otf))] H := hP
              replace hD : va_D A [(mso, .inl (cs 0, 16, .inl sof)), (hm, .inr (12, [.ref ms, .ref mkp, .int (nI km), .ref mtr, .int (nI n), .int (nI k), .int (nI al), .int (nI be), .int ea, .int pr, .ref mas, .int nq, .int po, .int (nI en), .ref mso, .ref mon, .ref mot, .ref man, .int th, .int xd, .ref mst, .ref msm, .ref mtb, .ref mti, .ref mfr, .ref mbn, .ref mbs, .ref mde, .int sF, .int sN, .int sS, .int ig, .long xa, .long xb, .ref maa, .ref mab, .ref mba, .ref mbb])), (ms, .inl (cs 0, 288, .inl (upd f (80 + a) ((f (80 + a)) ||| ((nI 1) <<< ((nI k9) &&& 31)))))), (mon, .inl (cs 0, 16, .inl onf)), (mot, .inl (cs 0, 16, .inl otf))] := hD
              refine lv_iconst (v := nI 0) hx hb dX12_accepts_135 (by decide) ?_
              refine lv_istore (lv' := [(5, .int (nI 0)), (4, .int (nI 0)), (3, .int (nI ((8 * a) + t_1))), (0, .ref hm), (1, .int (nI a)), (2, .int (nI k9))]) hx hb dX12_accepts_136 hl (by decide) rfl ?_
              clear hl
              try clear ls
              intro ls hl
              have loop_19 : ∀ (n_loop_19 : Nat) (o : Nat) (f9 : Nat → Int32), (o ≤ en) → (colP f9) → en - o < n_loop_19 → ∀ (H : Heap) (locs : List Loc) (ls : Array Slot), va_P D vwCl [(mso, .inl (cs 0, 16, .inl sof)), (hm, .inr (12, [.ref ms, .ref mkp, .int (nI km), .ref mtr, .int (nI n), .int (nI k), .int (nI al), .int (nI be), .int ea, .int pr, .ref mas, .int nq, .int po, .int (nI en), .ref mso, .ref mon, .ref mot, .ref man, .int th, .int xd, .ref mst, .ref msm, .ref mtb, .ref mti, .ref mfr, .ref mbn, .ref mbs, .ref mde, .int sF, .int sN, .int sS, .int ig, .long xa, .long xb, .ref maa, .ref mab, .ref mba, .ref mbb])), (ms, .inl (cs 0, 288, .inl f9)), (mon, .inl (cs 0, 16, .inl onf)), (mot, .inl (cs 0, 16, .inl otf))] H → va_D A [(mso, .inl (cs 0, 16, .inl sof)), (hm, .inr (12, [.ref ms, .ref mkp, .int (nI km), .ref mtr, .int (nI n), .int (nI k), .int (nI al), .int (nI be), .int ea, .int pr, .ref mas, .int nq, .int po, .int (nI en), .ref mso, .ref mon, .ref mot, .ref man, .int th, .int xd, .ref mst, .ref msm, .ref mtb, .ref mti, .ref mfr, .ref mbn, .ref mbs, .ref mde, .int sF, .int sN, .int sS, .int ig, .long xa, .long xb, .ref maa, .ref mab, .ref mba, .ref mbb])), (ms, .inl (cs 0, 288, .inl f9)), (mon, .inl (cs 0, 16, .inl onf)), (mot, .inl (cs 0, 16, .inl otf))] → va_S A s.heap H locs → lv_has ls 6 [(5, .int (nI o)), (4, .int (nI 0)), (3, .int (nI ((8 * a) + t_1))), (0, .ref hm), (1, .int (nI a)), (2, .int (nI k9))] → W p l e ({ frames := 2, cells := 0, slots := 0, locals := 44 } : Room) s m args below meth c H locs 0 0 (MQ below ((xQi D (fun (r : Int32) (fz : (Nat → Int32)) => (r = nI 0 ∨ r = nI 1) ∧ colP fz) (fun (fz : (Nat → Int32)) => [(hm, .inr (12, [.ref ms, .ref mkp, .int (nI km), .ref mtr, .int (nI n), .int (nI k), .int (nI al), .int (nI be), .int ea, .int pr, .ref mas, .int nq, .int po, .int (nI en), .ref mso, .ref mon, .ref mot, .ref man, .int th, .int xd, .ref mst, .ref msm, .ref mtb, .ref mti, .ref mfr, .ref mbn, .ref mbs, .ref mde, .int sF, .int sN, .int sS, .int ig, .long xa, .long xb, .ref maa, .ref mab, .ref mba, .ref mbb])), (ms, .inl (cs 0, 288, .inl fz)), (mso, .inl (cs 0, 16, .inl sof)), (mon, .inl (cs 0, 16, .inl onf)), (mot, .inl (cs 0, 16, .inl otf))])) A) args s 0 0 A) (F0 m 138 ls []) := by
                intro n_loop_19
                induction n_loop_19 with
                | zero => intro o f9 h_o hs9 hlt H locs ls hP hD hS hl; exact absurd hlt (Nat.not_lt_zero _)
                | succ n_loop_19 ih_loop_19 =>
                  intro o f9 h_o hs9 hlt_loop_19 H locs ls hP hD hS hl
                  refine lv_iload hx hb dX12_accepts_138 (lv_at hl 0 rfl) ?_
                  refine lv_aload_n hx hb dX12_accepts_140 rfl (lv_at hl 3 rfl) ?_
                  refine xget C hP 1 rfl rfl zuX12 13 (by decide) zw5_226 rfl dX12_accepts_141 ?_
                  refine lv_icmp_ge (tgt := 191) hx hb dX12_accepts_144 (by decide) (fun c_20 => ?_) (fun c_20 => ?_)
                  · -- 144 t
                    have fc_20 : en ≤ o := nf_le (by omega) (by omega) c_20
                    refine lv_iconst (v := nI 1) hx hb dX12_accepts_191 (by decide) ?_
                    exact xreti C f9 (⟨by decide, hs9⟩) (xP_map hP [1, 2, 0, 3, 4] rfl) (hD.sub [1, 2, 0, 3, 4] (by decide +kernel) rfl) hS (Nat.le_of_ble_eq_true rfl) (Nat.le_of_ble_eq_true rfl) (by decide) dX12_accepts_192
                  · -- 144 f
                    have fc_20 : o < en := nf_nle (by omega) (by omega) c_20
                    refine lv_iload hx hb dX12_accepts_147 (lv_at hl 0 rfl) ?_
                    refine lv_iload_n hx hb dX12_accepts_149 rfl (lv_at hl 5 rfl) ?_
                    refine lv_icmp_eq (tgt := 185) hx hb dX12_accepts_150 (by decide) (fun c_21 => ?_) (fun c_21 => ?_)
                    · -- 150 t
                      have fc_21 : o = k9 := nf_eq (by omega) (by omega) c_21
                      refine lv_iinc (v := nI (o + 1)) (lv' := [(5, .int (nI (o + 1))), (4, .int (nI 0)), (3, .int (nI ((8 * a) + t_1))), (0, .ref hm), (1, .int (nI a)), (2, .int (nI k9))]) hx hb dX12_accepts_185 hl (k := 0) rfl (nI_add o 1) (by decide) rfl ?_
                      clear hl
                      try clear ls
                      intro ls hl
                      refine lv_goto (tgt := 138) hx hb dX12_accepts_188 (by decide) ?_
                      exact ih_loop_19 (o + 1) f9 (by omega) hs9 (by omega) H locs ls hP hD hS (lv_sub hl [0, 1, 2, 3, 4, 5] rfl)
                    · -- 150 f
                      have fc_21 : o ≠ k9 := nf_ne (by omega) (by omega) c_21
                      refine lv_aload_n hx hb dX12_accepts_153 rfl (lv_at hl 3 rfl) ?_
                      refine xget C hP 1 rfl rfl zuX12 14 (by decide) zw5_227 rfl dX12_accepts_154 ?_
                      refine lv_iload hx hb dX12_accepts_157 (lv_at hl 0 rfl) ?_
                      refine xiald C hP 0 rfl o rfl (by omega) (by decide) dX12_accepts_159 ?_
                      refine lv_aload_n hx hb dX12_accepts_160 rfl (lv_at hl 3 rfl) ?_
                      refine xget C hP 1 rfl rfl zuX12 14 (by decide) zw5_227 rfl dX12_accepts_161 ?_
                      refine lv_iload_n hx hb dX12_accepts_164 rfl (lv_at hl 5 rfl) ?_
                      refine xiald C hP 0 rfl k9 rfl (by omega) (by decide) dX12_accepts_165 ?_
                      refine lv_icmp_ne (tgt := 185) hx hb dX12_accepts_166 (by decide) (fun c_22 => ?_) (fun c_22 => ?_)
                      · -- 166 t
                        refine lv_iinc (v := nI (o + 1)) (lv' := [(5, .int (nI (o + 1))), (4, .int (nI 0)), (3, .int (nI ((8 * a) + t_1))), (0, .ref hm), (1, .int (nI a)), (2, .int (nI k9))]) hx hb dX12_accepts_185 hl (k := 0) rfl (nI_add o 1) (by decide) rfl ?_
                        clear hl
                        try clear ls
                        intro ls hl
                        refine lv_goto (tgt := 138) hx hb dX12_accepts_188 (by decide) ?_
                        exact ih_loop_19 (o + 1) f9 (by omega) hs9 (by omega) H locs ls hP hD hS (lv_sub hl [0, 1, 2, 3, 4, 5] rfl)
                      · -- 166 f
                        refine lv_aload_n hx hb dX12_accepts_169 rfl (lv_at hl 3 rfl) ?_
                        refine xget C hP 1 rfl rfl zuX12 0 (by decide) zw5_213 rfl dX12_accepts_170 ?_
                        refine lv_bipush (v := nI 88) hx hb dX12_accepts_173 (by decide) ?_
                        refine lv_iload_n hx hb dX12_accepts_175 rfl (lv_at hl 4 rfl) ?_
                        refine lv_iadd hx hb dX12_accepts_176 ?_
                        refine lv_topi (nm_r (e' := nI (88 + a)) (nI_add _ _) ?_)
                        refine lv_dup2_11 hx hb dX12_accepts_177 rfl rfl ?_
                        refine xiald C hP 2 rfl (88 + a) rfl (by omega) (by decide) dX12_accepts_178 ?_
                        refine lv_iconst (v := nI 1) hx hb dX12_accepts_179 (by decide) ?_
                        refine lv_iload hx hb dX12_accepts_180 (lv_at hl 0 rfl) ?_
                        refine lv_ishl hx hb dX12_accepts_182 ?_
                        refine lv_ior hx hb dX12_accepts_183 ?_
                        refine xiast C hP hD hS 2 rfl (88 + a) rfl (by omega) (by decide) dX12_accepts_184 ?_
                        clear hP hD hS
                        try clear locs
                        try clear H
                        intro H locs hP hD hS
                        replace hP : va_P D vwCl [(mso, .inl (cs 0, 16, .inl sof)), (hm, .inr (12, [.ref ms, .ref mkp, .int (nI km), .ref mtr, .int (nI n), .int (nI k), .int (nI al), .int (nI be), .int ea, .int pr, .ref mas, .int nq, .int po, .int (nI en), .ref mso, .ref mon, .ref mot, .ref man, .int th, .int xd, .ref mst, .ref msm, .ref mtb, .ref mti, .ref mfr, .ref mbn, .ref mbs, .ref mde, .int sF, .int sN, .int sS, .int ig, .long xa, .long xb, .ref maa, .ref mab, .ref mba, .ref mbb])), (ms, .inl (cs 0, 288, .inl (upd f9 (88 + a) ((f9 (88 + a)) ||| ((nI 1) <<< ((nI o) &&& 31)))))), (mon, .inl (cs 0, 16, .inl onf)), (mot, .inl (cs 0, 16, .inl otf))] H := hP
                        replace hD : va_D A [(mso, .inl (cs 0, 16, .inl sof)), (hm, .inr (12, [.ref ms, .ref mkp, .int (nI km), .ref mtr, .int (nI n), .int (nI k), .int (nI al), .int (nI be), .int ea, .int pr, .ref mas, .int nq, .int po, .int (nI en), .ref mso, .ref mon, .ref mot, .ref man, .int th, .int xd, .ref mst, .ref msm, .ref mtb, .ref mti, .ref mfr, .ref mbn, .ref mbs, .ref mde, .int sF, .int sN, .int sS, .int ig, .long xa, .long xb, .ref maa, .ref mab, .ref mba, .ref mbb])), (ms, .inl (cs 0, 288, .inl (upd f9 (88 + a) ((f9 (88 + a)) ||| ((nI 1) <<< ((nI o) &&& 31)))))), (mon, .inl (cs 0, 16, .inl onf)), (mot, .inl (cs 0, 16, .inl otf))] := hD
                        refine lv_iinc (v := nI (o + 1)) (lv' := [(5, .int (nI (o + 1))), (4, .int (nI 0)), (3, .int (nI ((8 * a) + t_1))), (0, .ref hm), (1, .int (nI a)), (2, .int (nI k9))]) hx hb dX12_accepts_185 hl (k := 0) rfl (nI_add o 1) (by decide) rfl ?_
                        clear hl
                        try clear ls
                        intro ls hl
                        refine lv_goto (tgt := 138) hx hb dX12_accepts_188 (by decide) ?_
                        exact ih_loop_19 (o + 1) (upd f9 (88 + a) ((f9 (88 + a)) ||| ((nI 1) <<< ((nI o) &&& 31)))) (by omega) (colP_hi (i := 88 + a) hs9 ((f9 (88 + a)) ||| ((nI 1) <<< ((nI o) &&& 31))) (by omega)) (by omega) H locs ls hP hD hS (lv_sub hl [0, 1, 2, 3, 4, 5] rfl)
              exact loop_19 _ 0 (upd f (80 + a) ((f (80 + a)) ||| ((nI 1) <<< ((nI k9) &&& 31)))) (by omega) (colP_hi (i := 80 + a) hs ((f (80 + a)) ||| ((nI 1) <<< ((nI k9) &&& 31))) (by omega)) (Nat.lt_succ_self _) H locs ls hP hD hS (lv_sub hl [0, 1, 2, 3, 4, 5] rfl)
            · -- 110 f
              refine lv_iload hx hb dX12_accepts_113 (lv_at hl 0 rfl) ?_
              refine lv_if_ne (tgt := 120) hx hb dX12_accepts_115 (by decide) (fun c => absurd (by decide) c) (fun _ => ?_)
              refine lv_iconst (v := nI 0) hx hb dX12_accepts_118 (by decide) ?_
              exact xreti C f (⟨by decide, hs⟩) (xP_map hP [1, 2, 0, 3, 4] rfl) (hD.sub [1, 2, 0, 3, 4] (by decide +kernel) rfl) hS (Nat.le_of_ble_eq_true rfl) (Nat.le_of_ble_eq_true rfl) (by decide) dX12_accepts_119
          · -- 69 f
            refine lv_aload_n hx hb dX12_accepts_72 rfl (lv_at hl 1 rfl) ?_
            refine xget C hP 1 rfl rfl zuX12 0 (by decide) zw5_213 rfl dX12_accepts_73 ?_
            refine lv_sipush (v := nI 224) hx hb dX12_accepts_76 (by decide) ?_
            refine lv_iload_n hx hb dX12_accepts_79 rfl (lv_at hl 0 rfl) ?_
            refine lv_iadd hx hb dX12_accepts_80 ?_
            refine lv_topi (nm_r (e' := nI (224 + ((8 * a) + t_1))) (nI_add _ _) ?_)
            refine xiald C hP 2 rfl (224 + ((8 * a) + t_1)) rfl (by omega) (by decide) dX12_accepts_81 ?_
            refine lv_aload_n hx hb dX12_accepts_82 rfl (lv_at hl 1 rfl) ?_
            refine xget C hP 1 rfl rfl zuX12 8 (by decide) zw5_221 rfl dX12_accepts_83 ?_
            refine lv_icmp_lt (tgt := 93) hx hb dX12_accepts_86 (by decide) (fun c_23 => ?_) (fun c_23 => ?_)
            · -- 86 t
              refine lv_iconst (v := nI 0) hx hb dX12_accepts_93 (by decide) ?_
              refine lv_istore (lv' := [(4, .int (nI 0)), (3, .int (nI ((8 * a) + t_1))), (0, .ref hm), (1, .int (nI a)), (2, .int (nI k9))]) hx hb dX12_accepts_94 hl (by decide) rfl ?_
              clear hl
              try clear ls
              intro ls hl
              refine lv_aload_n hx hb dX12_accepts_96 rfl (lv_at hl 2 rfl) ?_
              refine xget C hP 1 rfl rfl zuX12 0 (by decide) zw5_213 rfl dX12_accepts_97 ?_
              refine lv_sipush (v := nI 224) hx hb dX12_accepts_100 (by decide) ?_
              refine lv_iload_n hx hb dX12_accepts_103 rfl (lv_at hl 1 rfl) ?_
              refine lv_iadd hx hb dX12_accepts_104 ?_
              refine lv_topi (nm_r (e' := nI (224 + ((8 * a) + t_1))) (nI_add _ _) ?_)
              refine xiald C hP 2 rfl (224 + ((8 * a) + t_1)) rfl (by omega) (by decide) dX12_accepts_105 ?_
              refine lv_aload_n hx hb dX12_accepts_106 rfl (lv_at hl 2 rfl) ?_
              refine xget C hP 1 rfl rfl zuX12 7 (by decide) zw5_220 rfl dX12_accepts_107 ?_
              refine lv_icmp_ge (tgt := 120) hx hb dX12_accepts_110 (by decide) (fun c_24 => ?_) (fun c_24 => ?_)
              · -- 110 t
                refine lv_aload_n hx hb dX12_accepts_120 rfl (lv_at hl 2 rfl) ?_
                refine xget C hP 1 rfl rfl zuX12 0 (by decide) zw5_213 rfl dX12_accepts_121 ?_
                refine lv_bipush (v := nI 80) hx hb dX12_accepts_124 (by decide) ?_
                refine lv_iload_n hx hb dX12_accepts_126 rfl (lv_at hl 3 rfl) ?_
                refine lv_iadd hx hb dX12_accepts_127 ?_
                refine lv_topi (nm_r (e' := nI (80 + a)) (nI_add _ _) ?_)
                refine lv_dup2_11 hx hb dX12_accepts_128 rfl rfl ?_
                refine xiald C hP 2 rfl (80 + a) rfl (by omega) (by decide) dX12_accepts_129 ?_
                refine lv_iconst (v := nI 1) hx hb dX12_accepts_130 (by decide) ?_
                refine lv_iload_n hx hb dX12_accepts_131 rfl (lv_at hl 4 rfl) ?_
                refine lv_ishl hx hb dX12_accepts_132 ?_
                refine lv_ior hx hb dX12_accepts_133 ?_
                refine xiast C hP hD hS 2 rfl (80 + a) rfl (by omega) (by decide) dX12_accepts_134 ?_
                clear hP hD hS
                try clear locs
                try clear H
                intro H locs hP hD hS
                replace hP : va_P D vwCl [(mso, .inl (cs 0, 16, .inl sof)), (hm, .inr (12, [.ref ms, .ref mkp, .int (nI km), .ref mtr, .int (nI n), .int (nI k), .int (nI al), .int (nI be), .int ea, .int pr, .ref mas, .int nq, .int po, .int (nI en), .ref mso, .ref mon, .ref mot, .ref man, .int th, .int xd, .ref mst, .ref msm, .ref mtb, .ref mti, .ref mfr, .ref mbn, .ref mbs, .ref mde, .int sF, .int sN, .int sS, .int ig, .long xa, .long xb, .ref maa, .ref mab, .ref mba, .ref mbb])), (ms, .inl (cs 0, 288, .inl (upd f (80 + a) ((f (80 + a)) ||| ((nI 1) <<< ((nI k9) &&& 31)))))), (mon, .inl (cs 0, 16, .inl onf)), (mot, .inl (cs 0, 16, .inl otf))] H := hP
                replace hD : va_D A [(mso, .inl (cs 0, 16, .inl sof)), (hm, .inr (12, [.ref ms, .ref mkp, .int (nI km), .ref mtr, .int (nI n), .int (nI k), .int (nI al), .int (nI be), .int ea, .int pr, .ref mas, .int nq, .int po, .int (nI en), .ref mso, .ref mon, .ref mot, .ref man, .int th, .int xd, .ref mst, .ref msm, .ref mtb, .ref mti, .ref mfr, .ref mbn, .ref mbs, .ref mde, .int sF, .int sN, .int sS, .int ig, .long xa, .long xb, .ref maa, .ref mab, .ref mba, .ref mbb])), (ms, .inl (cs 0, 288, .inl (upd f (80 + a) ((f (80 + a)) ||| ((nI 1) <<< ((nI k9) &&& 31)))))), (mon, .inl (cs 0, 16, .inl onf)), (mot, .inl (cs 0, 16, .inl otf))] := hD
                refine lv_iconst (v := nI 0) hx hb dX12_accepts_135 (by decide) ?_
                refine lv_istore (lv' := [(5, .int (nI 0)), (4, .int (nI 0)), (3, .int (nI ((8 * a) + t_1))), (0, .ref hm), (1, .int (nI a)), (2, .int (nI k9))]) hx hb dX12_accepts_136 hl (by decide) rfl ?_
                clear hl
                try clear ls
                intro ls hl
                have loop_25 : ∀ (n_loop_25 : Nat) (o : Nat) (f9 : Nat → Int32), (o ≤ en) → (colP f9) → en - o < n_loop_25 → ∀ (H : Heap) (locs : List Loc) (ls : Array Slot), va_P D vwCl [(mso, .inl (cs 0, 16, .inl sof)), (hm, .inr (12, [.ref ms, .ref mkp, .int (nI km), .ref mtr, .int (nI n), .int (nI k), .int (nI al), .int (nI be), .int ea, .int pr, .ref mas, .int nq, .int po, .int (nI en), .ref mso, .ref mon, .ref mot, .ref man, .int th, .int xd, .ref mst, .ref msm, .ref mtb, .ref mti, .ref mfr, .ref mbn, .ref mbs, .ref mde, .int sF, .int sN, .int sS, .int ig, .long xa, .long xb, .ref maa, .ref mab, .ref mba, .ref mbb])), (ms, .inl (cs 0, 288, .inl f9)), (mon, .inl (cs 0, 16, .inl onf)), (mot, .inl (cs 0, 16, .inl otf))] H → va_D A [(mso, .inl (cs 0, 16, .inl sof)), (hm, .inr (12, [.ref ms, .ref mkp, .int (nI km), .ref mtr, .int (nI n), .int (nI k), .int (nI al), .int (nI be), .int ea, .int pr, .ref mas, .int nq, .int po, .int (nI en), .ref mso, .ref mon, .ref mot, .ref man, .int th, .int xd, .ref mst, .ref msm, .ref mtb, .ref mti, .ref mfr, .ref mbn, .ref mbs, .ref mde, .int sF, .int sN, .int sS, .int ig, .long xa, .long xb, .ref maa, .ref mab, .ref mba, .ref mbb])), (ms, .inl (cs 0, 288, .inl f9)), (mon, .inl (cs 0, 16, .inl onf)), (mot, .inl (cs 0, 16, .inl otf))] → va_S A s.heap H locs → lv_has ls 6 [(5, .int (nI o)), (4, .int (nI 0)), (3, .int (nI ((8 * a) + t_1))), (0, .ref hm), (1, .int (nI a)), (2, .int (nI k9))] → W p l e ({ frames := 2, cells := 0, slots := 0, locals := 44 } : Room) s m args below meth c H locs 0 0 (MQ below ((xQi D (fun (r : Int32) (fz : (Nat → Int32)) => (r = nI 0 ∨ r = nI 1) ∧ colP fz) (fun (fz : (Nat → Int32)) => [(hm, .inr (12, [.ref ms, .ref mkp, .int (nI km), .ref mtr, .int (nI n), .int (nI k), .int (nI al), .int (nI be), .int ea, .int pr, .ref mas, .int nq, .int po, .int (nI en), .ref mso, .ref mon, .ref mot, .ref man, .int th, .int xd, .ref mst, .ref msm, .ref mtb, .ref mti, .ref mfr, .ref mbn, .ref mbs, .ref mde, .int sF, .int sN, .int sS, .int ig, .long xa, .long xb, .ref maa, .ref mab, .ref mba, .ref mbb])), (ms, .inl (cs 0, 288, .inl fz)), (mso, .inl (cs 0, 16, .inl sof)), (mon, .inl (cs 0, 16, .inl onf)), (mot, .inl (cs 0, 16, .inl otf))])) A) args s 0 0 A) (F0 m 138 ls []) := by
                  intro n_loop_25
                  induction n_loop_25 with
                  | zero => intro o f9 h_o hs9 hlt H locs ls hP hD hS hl; exact absurd hlt (Nat.not_lt_zero _)
                  | succ n_loop_25 ih_loop_25 =>
                    intro o f9 h_o hs9 hlt_loop_25 H locs ls hP hD hS hl
                    refine lv_iload hx hb dX12_accepts_138 (lv_at hl 0 rfl) ?_
                    refine lv_aload_n hx hb dX12_accepts_140 rfl (lv_at hl 3 rfl) ?_
                    refine xget C hP 1 rfl rfl zuX12 13 (by decide) zw5_226 rfl dX12_accepts_141 ?_
                    refine lv_icmp_ge (tgt := 191) hx hb dX12_accepts_144 (by decide) (fun c_26 => ?_) (fun c_26 => ?_)
                    · -- 144 t
                      have fc_26 : en ≤ o := nf_le (by omega) (by omega) c_26
                      refine lv_iconst (v := nI 1) hx hb dX12_accepts_191 (by decide) ?_
                      exact xreti C f9 (⟨by decide, hs9⟩) (xP_map hP [1, 2, 0, 3, 4] rfl) (hD.sub [1, 2, 0, 3, 4] (by decide +kernel) rfl) hS (Nat.le_of_ble_eq_true rfl) (Nat.le_of_ble_eq_true rfl) (by decide) dX12_accepts_192
                    · -- 144 f
                      have fc_26 : o < en := nf_nle (by omega) (by omega) c_26
                      refine lv_iload hx hb dX12_accepts_147 (lv_at hl 0 rfl) ?_
                      refine lv_iload_n hx hb dX12_accepts_149 rfl (lv_at hl 5 rfl) ?_
                      refine lv_icmp_eq (tgt := 185) hx hb dX12_accepts_150 (by decide) (fun c_27 => ?_) (fun c_27 => ?_)
                      · -- 150 t
                        have fc_27 : o = k9 := nf_eq (by omega) (by omega) c_27
                        refine lv_iinc (v := nI (o + 1)) (lv' := [(5, .int (nI (o + 1))), (4, .int (nI 0)), (3, .int (nI ((8 * a) + t_1))), (0, .ref hm), (1, .int (nI a)), (2, .int (nI k9))]) hx hb dX12_accepts_185 hl (k := 0) rfl (nI_add o 1) (by decide) rfl ?_
                        clear hl
                        try clear ls
                        intro ls hl
                        refine lv_goto (tgt := 138) hx hb dX12_accepts_188 (by decide) ?_
                        exact ih_loop_25 (o + 1) f9 (by omega) hs9 (by omega) H locs ls hP hD hS (lv_sub hl [0, 1, 2, 3, 4, 5] rfl)
                      · -- 150 f
                        have fc_27 : o ≠ k9 := nf_ne (by omega) (by omega) c_27
                        refine lv_aload_n hx hb dX12_accepts_153 rfl (lv_at hl 3 rfl) ?_
                        refine xget C hP 1 rfl rfl zuX12 14 (by decide) zw5_227 rfl dX12_accepts_154 ?_
                        refine lv_iload hx hb dX12_accepts_157 (lv_at hl 0 rfl) ?_
                        refine xiald C hP 0 rfl o rfl (by omega) (by decide) dX12_accepts_159 ?_
                        refine lv_aload_n hx hb dX12_accepts_160 rfl (lv_at hl 3 rfl) ?_
                        refine xget C hP 1 rfl rfl zuX12 14 (by decide) zw5_227 rfl dX12_accepts_161 ?_
                        refine lv_iload_n hx hb dX12_accepts_164 rfl (lv_at hl 5 rfl) ?_
                        refine xiald C hP 0 rfl k9 rfl (by omega) (by decide) dX12_accepts_165 ?_
                        refine lv_icmp_ne (tgt := 185) hx hb dX12_accepts_166 (by decide) (fun c_28 => ?_) (fun c_28 => ?_)
                        · -- 166 t
                          refine lv_iinc (v := nI (o + 1)) (lv' := [(5, .int (nI (o + 1))), (4, .int (nI 0)), (3, .int (nI ((8 * a) + t_1))), (0, .ref hm), (1, .int (nI a)), (2, .int (nI k9))]) hx hb dX12_accepts_185 hl (k := 0) rfl (nI_add o 1) (by decide) rfl ?_
                          clear hl
                          try clear ls
                          intro ls hl
                          refine lv_goto (tgt := 138) hx hb dX12_accepts_188 (by decide) ?_
                          exact ih_loop_25 (o + 1) f9 (by omega) hs9 (by omega) H locs ls hP hD hS (lv_sub hl [0, 1, 2, 3, 4, 5] rfl)
                        · -- 166 f
                          refine lv_aload_n hx hb dX12_accepts_169 rfl (lv_at hl 3 rfl) ?_
                          refine xget C hP 1 rfl rfl zuX12 0 (by decide) zw5_213 rfl dX12_accepts_170 ?_
                          refine lv_bipush (v := nI 88) hx hb dX12_accepts_173 (by decide) ?_
                          refine lv_iload_n hx hb dX12_accepts_175 rfl (lv_at hl 4 rfl) ?_
                          refine lv_iadd hx hb dX12_accepts_176 ?_
                          refine lv_topi (nm_r (e' := nI (88 + a)) (nI_add _ _) ?_)
                          refine lv_dup2_11 hx hb dX12_accepts_177 rfl rfl ?_
                          refine xiald C hP 2 rfl (88 + a) rfl (by omega) (by decide) dX12_accepts_178 ?_
                          refine lv_iconst (v := nI 1) hx hb dX12_accepts_179 (by decide) ?_
                          refine lv_iload hx hb dX12_accepts_180 (lv_at hl 0 rfl) ?_
                          refine lv_ishl hx hb dX12_accepts_182 ?_
                          refine lv_ior hx hb dX12_accepts_183 ?_
                          refine xiast C hP hD hS 2 rfl (88 + a) rfl (by omega) (by decide) dX12_accepts_184 ?_
                          clear hP hD hS
                          try clear locs
                          try clear H
                          intro H locs hP hD hS
                          replace hP : va_P D vwCl [(mso, .inl (cs 0, 16, .inl sof)), (hm, .inr (12, [.ref ms, .ref mkp, .int (nI km), .ref mtr, .int (nI n), .int (nI k), .int (nI al), .int (nI be), .int ea, .int pr, .ref mas, .int nq, .int po, .int (nI en), .ref mso, .ref mon, .ref mot, .ref man, .int th, .int xd, .ref mst, .ref msm, .ref mtb, .ref mti, .ref mfr, .ref mbn, .ref mbs, .ref mde, .int sF, .int sN, .int sS, .int ig, .long xa, .long xb, .ref maa, .ref mab, .ref mba, .ref mbb])), (ms, .inl (cs 0, 288, .inl (upd f9 (88 + a) ((f9 (88 + a)) ||| ((nI 1) <<< ((nI o) &&& 31)))))), (mon, .inl (cs 0, 16, .inl onf)), (mot, .inl (cs 0, 16, .inl otf))] H := hP
                          replace hD : va_D A [(mso, .inl (cs 0, 16, .inl sof)), (hm, .inr (12, [.ref ms, .ref mkp, .int (nI km), .ref mtr, .int (nI n), .int (nI k), .int (nI al), .int (nI be), .int ea, .int pr, .ref mas, .int nq, .int po, .int (nI en), .ref mso, .ref mon, .ref mot, .ref man, .int th, .int xd, .ref mst, .ref msm, .ref mtb, .ref mti, .ref mfr, .ref mbn, .ref mbs, .ref mde, .int sF, .int sN, .int sS, .int ig, .long xa, .long xb, .ref maa, .ref mab, .ref mba, .ref mbb])), (ms, .inl (cs 0, 288, .inl (upd f9 (88 + a) ((f9 (88 + a)) ||| ((nI 1) <<< ((nI o) &&& 31)))))), (mon, .inl (cs 0, 16, .inl onf)), (mot, .inl (cs 0, 16, .inl otf))] := hD
                          refine lv_iinc (v := nI (o + 1)) (lv' := [(5, .int (nI (o + 1))), (4, .int (nI 0)), (3, .int (nI ((8 * a) + t_1))), (0, .ref hm), (1, .int (nI a)), (2, .int (nI k9))]) hx hb dX12_accepts_185 hl (k := 0) rfl (nI_add o 1) (by decide) rfl ?_
                          clear hl
                          try clear ls
                          intro ls hl
                          refine lv_goto (tgt := 138) hx hb dX12_accepts_188 (by decide) ?_
                          exact ih_loop_25 (o + 1) (upd f9 (88 + a) ((f9 (88 + a)) ||| ((nI 1) <<< ((nI o) &&& 31)))) (by omega) (colP_hi (i := 88 + a) hs9 ((f9 (88 + a)) ||| ((nI 1) <<< ((nI o) &&& 31))) (by omega)) (by omega) H locs ls hP hD hS (lv_sub hl [0, 1, 2, 3, 4, 5] rfl)
                exact loop_25 _ 0 (upd f (80 + a) ((f (80 + a)) ||| ((nI 1) <<< ((nI k9) &&& 31)))) (by omega) (colP_hi (i := 80 + a) hs ((f (80 + a)) ||| ((nI 1) <<< ((nI k9) &&& 31))) (by omega)) (Nat.lt_succ_self _) H locs ls hP hD hS (lv_sub hl [0, 1, 2, 3, 4, 5] rfl)
              · -- 110 f
                refine lv_iload hx hb dX12_accepts_113 (lv_at hl 0 rfl) ?_
                refine lv_if_ne (tgt := 120) hx hb dX12_accepts_115 (by decide) (fun c => absurd (by decide) c) (fun _ => ?_)
                refine lv_iconst (v := nI 0) hx hb dX12_accepts_118 (by decide) ?_
                exact xreti C f (⟨by decide, hs⟩) (xP_map hP [1, 2, 0, 3, 4] rfl) (hD.sub [1, 2, 0, 3, 4] (by decide +kernel) rfl) hS (Nat.le_of_ble_eq_true rfl) (Nat.le_of_ble_eq_true rfl) (by decide) dX12_accepts_119
            · -- 86 f
              refine lv_iconst (v := nI 1) hx hb dX12_accepts_89 (by decide) ?_
              refine lv_goto (tgt := 94) hx hb dX12_accepts_90 (by decide) ?_
              refine lv_istore (lv' := [(4, .int (nI 1)), (3, .int (nI ((8 * a) + t_1))), (0, .ref hm), (1, .int (nI a)), (2, .int (nI k9))]) hx hb dX12_accepts_94 hl (by decide) rfl ?_
              clear hl
              try clear ls
              intro ls hl
              refine lv_aload_n hx hb dX12_accepts_96 rfl (lv_at hl 2 rfl) ?_
              refine xget C hP 1 rfl rfl zuX12 0 (by decide) zw5_213 rfl dX12_accepts_97 ?_
              refine lv_sipush (v := nI 224) hx hb dX12_accepts_100 (by decide) ?_
              refine lv_iload_n hx hb dX12_accepts_103 rfl (lv_at hl 1 rfl) ?_
              refine lv_iadd hx hb dX12_accepts_104 ?_
              refine lv_topi (nm_r (e' := nI (224 + ((8 * a) + t_1))) (nI_add _ _) ?_)
              refine xiald C hP 2 rfl (224 + ((8 * a) + t_1)) rfl (by omega) (by decide) dX12_accepts_105 ?_
              refine lv_aload_n hx hb dX12_accepts_106 rfl (lv_at hl 2 rfl) ?_
              refine xget C hP 1 rfl rfl zuX12 7 (by decide) zw5_220 rfl dX12_accepts_107 ?_
              refine lv_icmp_ge (tgt := 120) hx hb dX12_accepts_110 (by decide) (fun c_29 => ?_) (fun c_29 => ?_)
              · -- 110 t
                refine lv_aload_n hx hb dX12_accepts_120 rfl (lv_at hl 2 rfl) ?_
                refine xget C hP 1 rfl rfl zuX12 0 (by decide) zw5_213 rfl dX12_accepts_121 ?_
                refine lv_bipush (v := nI 80) hx hb dX12_accepts_124 (by decide) ?_
                refine lv_iload_n hx hb dX12_accepts_126 rfl (lv_at hl 3 rfl) ?_
                refine lv_iadd hx hb dX12_accepts_127 ?_
                refine lv_topi (nm_r (e' := nI (80 + a)) (nI_add _ _) ?_)
                refine lv_dup2_11 hx hb dX12_accepts_128 rfl rfl ?_
                refine xiald C hP 2 rfl (80 + a) rfl (by omega) (by decide) dX12_accepts_129 ?_
                refine lv_iconst (v := nI 1) hx hb dX12_accepts_130 (by decide) ?_
                refine lv_iload_n hx hb dX12_accepts_131 rfl (lv_at hl 4 rfl) ?_
                refine lv_ishl hx hb dX12_accepts_132 ?_
                refine lv_ior hx hb dX12_accepts_133 ?_
                refine xiast C hP hD hS 2 rfl (80 + a) rfl (by omega) (by decide) dX12_accepts_134 ?_
                clear hP hD hS
                try clear locs
                try clear H
                intro H locs hP hD hS
                replace hP : va_P D vwCl [(mso, .inl (cs 0, 16, .inl sof)), (hm, .inr (12, [.ref ms, .ref mkp, .int (nI km), .ref mtr, .int (nI n), .int (nI k), .int (nI al), .int (nI be), .int ea, .int pr, .ref mas, .int nq, .int po, .int (nI en), .ref mso, .ref mon, .ref mot, .ref man, .int th, .int xd, .ref mst, .ref msm, .ref mtb, .ref mti, .ref mfr, .ref mbn, .ref mbs, .ref mde, .int sF, .int sN, .int sS, .int ig, .long xa, .long xb, .ref maa, .ref mab, .ref mba, .ref mbb])), (ms, .inl (cs 0, 288, .inl (upd f (80 + a) ((f (80 + a)) ||| ((nI 1) <<< ((nI k9) &&& 31)))))), (mon, .inl (cs 0, 16, .inl onf)), (mot, .inl (cs 0, 16, .inl otf))] H := hP
                replace hD : va_D A [(mso, .inl (cs 0, 16, .inl sof)), (hm, .inr (12, [.ref ms, .ref mkp, .int (nI km), .ref mtr, .int (nI n), .int (nI k), .int (nI al), .int (nI be), .int ea, .int pr, .ref mas, .int nq, .int po, .int (nI en), .ref mso, .ref mon, .ref mot, .ref man, .int th, .int xd, .ref mst, .ref msm, .ref mtb, .ref mti, .ref mfr, .ref mbn, .ref mbs, .ref mde, .int sF, .int sN, .int sS, .int ig, .long xa, .long xb, .ref maa, .ref mab, .ref mba, .ref mbb])), (ms, .inl (cs 0, 288, .inl (upd f (80 + a) ((f (80 + a)) ||| ((nI 1) <<< ((nI k9) &&& 31)))))), (mon, .inl (cs 0, 16, .inl onf)), (mot, .inl (cs 0, 16, .inl otf))] := hD
                refine lv_iconst (v := nI 0) hx hb dX12_accepts_135 (by decide) ?_
                refine lv_istore (lv' := [(5, .int (nI 0)), (4, .int (nI 1)), (3, .int (nI ((8 * a) + t_1))), (0, .ref hm), (1, .int (nI a)), (2, .int (nI k9))]) hx hb dX12_accepts_136 hl (by decide) rfl ?_
                clear hl
                try clear ls
                intro ls hl
                have loop_30 : ∀ (n_loop_30 : Nat) (o : Nat) (f9 : Nat → Int32), (o ≤ en) → (colP f9) → en - o < n_loop_30 → ∀ (H : Heap) (locs : List Loc) (ls : Array Slot), va_P D vwCl [(mso, .inl (cs 0, 16, .inl sof)), (hm, .inr (12, [.ref ms, .ref mkp, .int (nI km), .ref mtr, .int (nI n), .int (nI k), .int (nI al), .int (nI be), .int ea, .int pr, .ref mas, .int nq, .int po, .int (nI en), .ref mso, .ref mon, .ref mot, .ref man, .int th, .int xd, .ref mst, .ref msm, .ref mtb, .ref mti, .ref mfr, .ref mbn, .ref mbs, .ref mde, .int sF, .int sN, .int sS, .int ig, .long xa, .long xb, .ref maa, .ref mab, .ref mba, .ref mbb])), (ms, .inl (cs 0, 288, .inl f9)), (mon, .inl (cs 0, 16, .inl onf)), (mot, .inl (cs 0, 16, .inl otf))] H → va_D A [(mso, .inl (cs 0, 16, .inl sof)), (hm, .inr (12, [.ref ms, .ref mkp, .int (nI km), .ref mtr, .int (nI n), .int (nI k), .int (nI al), .int (nI be), .int ea, .int pr, .ref mas, .int nq, .int po, .int (nI en), .ref mso, .ref mon, .ref mot, .ref man, .int th, .int xd, .ref mst, .ref msm, .ref mtb, .ref mti, .ref mfr, .ref mbn, .ref mbs, .ref mde, .int sF, .int sN, .int sS, .int ig, .long xa, .long xb, .ref maa, .ref mab, .ref mba, .ref mbb])), (ms, .inl (cs 0, 288, .inl f9)), (mon, .inl (cs 0, 16, .inl onf)), (mot, .inl (cs 0, 16, .inl otf))] → va_S A s.heap H locs → lv_has ls 6 [(5, .int (nI o)), (4, .int (nI 1)), (3, .int (nI ((8 * a) + t_1))), (0, .ref hm), (1, .int (nI a)), (2, .int (nI k9))] → W p l e ({ frames := 2, cells := 0, slots := 0, locals := 44 } : Room) s m args below meth c H locs 0 0 (MQ below ((xQi D (fun (r : Int32) (fz : (Nat → Int32)) => (r = nI 0 ∨ r = nI 1) ∧ colP fz) (fun (fz : (Nat → Int32)) => [(hm, .inr (12, [.ref ms, .ref mkp, .int (nI km), .ref mtr, .int (nI n), .int (nI k), .int (nI al), .int (nI be), .int ea, .int pr, .ref mas, .int nq, .int po, .int (nI en), .ref mso, .ref mon, .ref mot, .ref man, .int th, .int xd, .ref mst, .ref msm, .ref mtb, .ref mti, .ref mfr, .ref mbn, .ref mbs, .ref mde, .int sF, .int sN, .int sS, .int ig, .long xa, .long xb, .ref maa, .ref mab, .ref mba, .ref mbb])), (ms, .inl (cs 0, 288, .inl fz)), (mso, .inl (cs 0, 16, .inl sof)), (mon, .inl (cs 0, 16, .inl onf)), (mot, .inl (cs 0, 16, .inl otf))])) A) args s 0 0 A) (F0 m 138 ls []) := by
                  intro n_loop_30
                  induction n_loop_30 with
                  | zero => intro o f9 h_o hs9 hlt H locs ls hP hD hS hl; exact absurd hlt (Nat.not_lt_zero _)
                  | succ n_loop_30 ih_loop_30 =>
                    intro o f9 h_o hs9 hlt_loop_30 H locs ls hP hD hS hl
                    refine lv_iload hx hb dX12_accepts_138 (lv_at hl 0 rfl) ?_
                    refine lv_aload_n hx hb dX12_accepts_140 rfl (lv_at hl 3 rfl) ?_
                    refine xget C hP 1 rfl rfl zuX12 13 (by decide) zw5_226 rfl dX12_accepts_141 ?_
                    refine lv_icmp_ge (tgt := 191) hx hb dX12_accepts_144 (by decide) (fun c_31 => ?_) (fun c_31 => ?_)
                    · -- 144 t
                      have fc_31 : en ≤ o := nf_le (by omega) (by omega) c_31
                      refine lv_iconst (v := nI 1) hx hb dX12_accepts_191 (by decide) ?_
                      exact xreti C f9 (⟨by decide, hs9⟩) (xP_map hP [1, 2, 0, 3, 4] rfl) (hD.sub [1, 2, 0, 3, 4] (by decide +kernel) rfl) hS (Nat.le_of_ble_eq_true rfl) (Nat.le_of_ble_eq_true rfl) (by decide) dX12_accepts_192
                    · -- 144 f
                      have fc_31 : o < en := nf_nle (by omega) (by omega) c_31
                      refine lv_iload hx hb dX12_accepts_147 (lv_at hl 0 rfl) ?_
                      refine lv_iload_n hx hb dX12_accepts_149 rfl (lv_at hl 5 rfl) ?_
                      refine lv_icmp_eq (tgt := 185) hx hb dX12_accepts_150 (by decide) (fun c_32 => ?_) (fun c_32 => ?_)
                      · -- 150 t
                        have fc_32 : o = k9 := nf_eq (by omega) (by omega) c_32
                        refine lv_iinc (v := nI (o + 1)) (lv' := [(5, .int (nI (o + 1))), (4, .int (nI 1)), (3, .int (nI ((8 * a) + t_1))), (0, .ref hm), (1, .int (nI a)), (2, .int (nI k9))]) hx hb dX12_accepts_185 hl (k := 0) rfl (nI_add o 1) (by decide) rfl ?_
                        clear hl
                        try clear ls
                        intro ls hl
                        refine lv_goto (tgt := 138) hx hb dX12_accepts_188 (by decide) ?_
                        exact ih_loop_30 (o + 1) f9 (by omega) hs9 (by omega) H locs ls hP hD hS (lv_sub hl [0, 1, 2, 3, 4, 5] rfl)
                      · -- 150 f
                        have fc_32 : o ≠ k9 := nf_ne (by omega) (by omega) c_32
                        refine lv_aload_n hx hb dX12_accepts_153 rfl (lv_at hl 3 rfl) ?_
                        refine xget C hP 1 rfl rfl zuX12 14 (by decide) zw5_227 rfl dX12_accepts_154 ?_
                        refine lv_iload hx hb dX12_accepts_157 (lv_at hl 0 rfl) ?_
                        refine xiald C hP 0 rfl o rfl (by omega) (by decide) dX12_accepts_159 ?_
                        refine lv_aload_n hx hb dX12_accepts_160 rfl (lv_at hl 3 rfl) ?_
                        refine xget C hP 1 rfl rfl zuX12 14 (by decide) zw5_227 rfl dX12_accepts_161 ?_
                        refine lv_iload_n hx hb dX12_accepts_164 rfl (lv_at hl 5 rfl) ?_
                        refine xiald C hP 0 rfl k9 rfl (by omega) (by decide) dX12_accepts_165 ?_
                        refine lv_icmp_ne (tgt := 185) hx hb dX12_accepts_166 (by decide) (fun c_33 => ?_) (fun c_33 => ?_)
                        · -- 166 t
                          refine lv_iinc (v := nI (o + 1)) (lv' := [(5, .int (nI (o + 1))), (4, .int (nI 1)), (3, .int (nI ((8 * a) + t_1))), (0, .ref hm), (1, .int (nI a)), (2, .int (nI k9))]) hx hb dX12_accepts_185 hl (k := 0) rfl (nI_add o 1) (by decide) rfl ?_
                          clear hl
                          try clear ls
                          intro ls hl
                          refine lv_goto (tgt := 138) hx hb dX12_accepts_188 (by decide) ?_
                          exact ih_loop_30 (o + 1) f9 (by omega) hs9 (by omega) H locs ls hP hD hS (lv_sub hl [0, 1, 2, 3, 4, 5] rfl)
                        · -- 166 f
                          refine lv_aload_n hx hb dX12_accepts_169 rfl (lv_at hl 3 rfl) ?_
                          refine xget C hP 1 rfl rfl zuX12 0 (by decide) zw5_213 rfl dX12_accepts_170 ?_
                          refine lv_bipush (v := nI 88) hx hb dX12_accepts_173 (by decide) ?_
                          refine lv_iload_n hx hb dX12_accepts_175 rfl (lv_at hl 4 rfl) ?_
                          refine lv_iadd hx hb dX12_accepts_176 ?_
                          refine lv_topi (nm_r (e' := nI (88 + a)) (nI_add _ _) ?_)
                          refine lv_dup2_11 hx hb dX12_accepts_177 rfl rfl ?_
                          refine xiald C hP 2 rfl (88 + a) rfl (by omega) (by decide) dX12_accepts_178 ?_
                          refine lv_iconst (v := nI 1) hx hb dX12_accepts_179 (by decide) ?_
                          refine lv_iload hx hb dX12_accepts_180 (lv_at hl 0 rfl) ?_
                          refine lv_ishl hx hb dX12_accepts_182 ?_
                          refine lv_ior hx hb dX12_accepts_183 ?_
                          refine xiast C hP hD hS 2 rfl (88 + a) rfl (by omega) (by decide) dX12_accepts_184 ?_
                          clear hP hD hS
                          try clear locs
                          try clear H
                          intro H locs hP hD hS
                          replace hP : va_P D vwCl [(mso, .inl (cs 0, 16, .inl sof)), (hm, .inr (12, [.ref ms, .ref mkp, .int (nI km), .ref mtr, .int (nI n), .int (nI k), .int (nI al), .int (nI be), .int ea, .int pr, .ref mas, .int nq, .int po, .int (nI en), .ref mso, .ref mon, .ref mot, .ref man, .int th, .int xd, .ref mst, .ref msm, .ref mtb, .ref mti, .ref mfr, .ref mbn, .ref mbs, .ref mde, .int sF, .int sN, .int sS, .int ig, .long xa, .long xb, .ref maa, .ref mab, .ref mba, .ref mbb])), (ms, .inl (cs 0, 288, .inl (upd f9 (88 + a) ((f9 (88 + a)) ||| ((nI 1) <<< ((nI o) &&& 31)))))), (mon, .inl (cs 0, 16, .inl onf)), (mot, .inl (cs 0, 16, .inl otf))] H := hP
                          replace hD : va_D A [(mso, .inl (cs 0, 16, .inl sof)), (hm, .inr (12, [.ref ms, .ref mkp, .int (nI km), .ref mtr, .int (nI n), .int (nI k), .int (nI al), .int (nI be), .int ea, .int pr, .ref mas, .int nq, .int po, .int (nI en), .ref mso, .ref mon, .ref mot, .ref man, .int th, .int xd, .ref mst, .ref msm, .ref mtb, .ref mti, .ref mfr, .ref mbn, .ref mbs, .ref mde, .int sF, .int sN, .int sS, .int ig, .long xa, .long xb, .ref maa, .ref mab, .ref mba, .ref mbb])), (ms, .inl (cs 0, 288, .inl (upd f9 (88 + a) ((f9 (88 + a)) ||| ((nI 1) <<< ((nI o) &&& 31)))))), (mon, .inl (cs 0, 16, .inl onf)), (mot, .inl (cs 0, 16, .inl otf))] := hD
                          refine lv_iinc (v := nI (o + 1)) (lv' := [(5, .int (nI (o + 1))), (4, .int (nI 1)), (3, .int (nI ((8 * a) + t_1))), (0, .ref hm), (1, .int (nI a)), (2, .int (nI k9))]) hx hb dX12_accepts_185 hl (k := 0) rfl (nI_add o 1) (by decide) rfl ?_
                          clear hl
                          try clear ls
                          intro ls hl
                          refine lv_goto (tgt := 138) hx hb dX12_accepts_188 (by decide) ?_
                          exact ih_loop_30 (o + 1) (upd f9 (88 + a) ((f9 (88 + a)) ||| ((nI 1) <<< ((nI o) &&& 31)))) (by omega) (colP_hi (i := 88 + a) hs9 ((f9 (88 + a)) ||| ((nI 1) <<< ((nI o) &&& 31))) (by omega)) (by omega) H locs ls hP hD hS (lv_sub hl [0, 1, 2, 3, 4, 5] rfl)
                exact loop_30 _ 0 (upd f (80 + a) ((f (80 + a)) ||| ((nI 1) <<< ((nI k9) &&& 31)))) (by omega) (colP_hi (i := 80 + a) hs ((f (80 + a)) ||| ((nI 1) <<< ((nI k9) &&& 31))) (by omega)) (Nat.lt_succ_self _) H locs ls hP hD hS (lv_sub hl [0, 1, 2, 3, 4, 5] rfl)
              · -- 110 f
                refine lv_iload hx hb dX12_accepts_113 (lv_at hl 0 rfl) ?_
                refine lv_if_ne (tgt := 120) hx hb dX12_accepts_115 (by decide) (fun _ => ?_) (fun c => absurd c (by decide))
                refine lv_aload_n hx hb dX12_accepts_120 rfl (lv_at hl 2 rfl) ?_
                refine xget C hP 1 rfl rfl zuX12 0 (by decide) zw5_213 rfl dX12_accepts_121 ?_
                refine lv_bipush (v := nI 80) hx hb dX12_accepts_124 (by decide) ?_
                refine lv_iload_n hx hb dX12_accepts_126 rfl (lv_at hl 3 rfl) ?_
                refine lv_iadd hx hb dX12_accepts_127 ?_
                refine lv_topi (nm_r (e' := nI (80 + a)) (nI_add _ _) ?_)
                refine lv_dup2_11 hx hb dX12_accepts_128 rfl rfl ?_
                refine xiald C hP 2 rfl (80 + a) rfl (by omega) (by decide) dX12_accepts_129 ?_
                refine lv_iconst (v := nI 1) hx hb dX12_accepts_130 (by decide) ?_
                refine lv_iload_n hx hb dX12_accepts_131 rfl (lv_at hl 4 rfl) ?_
                refine lv_ishl hx hb dX12_accepts_132 ?_
                refine lv_ior hx hb dX12_accepts_133 ?_
                refine xiast C hP hD hS 2 rfl (80 + a) rfl (by omega) (by decide) dX12_accepts_134 ?_
                clear hP hD hS
                try clear locs
                try clear H
                intro H locs hP hD hS
                replace hP : va_P D vwCl [(mso, .inl (cs 0, 16, .inl sof)), (hm, .inr (12, [.ref ms, .ref mkp, .int (nI km), .ref mtr, .int (nI n), .int (nI k), .int (nI al), .int (nI be), .int ea, .int pr, .ref mas, .int nq, .int po, .int (nI en), .ref mso, .ref mon, .ref mot, .ref man, .int th, .int xd, .ref mst, .ref msm, .ref mtb, .ref mti, .ref mfr, .ref mbn, .ref mbs, .ref mde, .int sF, .int sN, .int sS, .int ig, .long xa, .long xb, .ref maa, .ref mab, .ref mba, .ref mbb])), (ms, .inl (cs 0, 288, .inl (upd f (80 + a) ((f (80 + a)) ||| ((nI 1) <<< ((nI k9) &&& 31)))))), (mon, .inl (cs 0, 16, .inl onf)), (mot, .inl (cs 0, 16, .inl otf))] H := hP
                replace hD : va_D A [(mso, .inl (cs 0, 16, .inl sof)), (hm, .inr (12, [.ref ms, .ref mkp, .int (nI km), .ref mtr, .int (nI n), .int (nI k), .int (nI al), .int (nI be), .int ea, .int pr, .ref mas, .int nq, .int po, .int (nI en), .ref mso, .ref mon, .ref mot, .ref man, .int th, .int xd, .ref mst, .ref msm, .ref mtb, .ref mti, .ref mfr, .ref mbn, .ref mbs, .ref mde, .int sF, .int sN, .int sS, .int ig, .long xa, .long xb, .ref maa, .ref mab, .ref mba, .ref mbb])), (ms, .inl (cs 0, 288, .inl (upd f (80 + a) ((f (80 + a)) ||| ((nI 1) <<< ((nI k9) &&& 31)))))), (mon, .inl (cs 0, 16, .inl onf)), (mot, .inl (cs 0, 16, .inl otf))] := hD
                refine lv_iconst (v := nI 0) hx hb dX12_accepts_135 (by decide) ?_
                refine lv_istore (lv' := [(5, .int (nI 0)), (4, .int (nI 1)), (3, .int (nI ((8 * a) + t_1))), (0, .ref hm), (1, .int (nI a)), (2, .int (nI k9))]) hx hb dX12_accepts_136 hl (by decide) rfl ?_
                clear hl
                try clear ls
                intro ls hl
                have loop_34 : ∀ (n_loop_34 : Nat) (o : Nat) (f9 : Nat → Int32), (o ≤ en) → (colP f9) → en - o < n_loop_34 → ∀ (H : Heap) (locs : List Loc) (ls : Array Slot), va_P D vwCl [(mso, .inl (cs 0, 16, .inl sof)), (hm, .inr (12, [.ref ms, .ref mkp, .int (nI km), .ref mtr, .int (nI n), .int (nI k), .int (nI al), .int (nI be), .int ea, .int pr, .ref mas, .int nq, .int po, .int (nI en), .ref mso, .ref mon, .ref mot, .ref man, .int th, .int xd, .ref mst, .ref msm, .ref mtb, .ref mti, .ref mfr, .ref mbn, .ref mbs, .ref mde, .int sF, .int sN, .int sS, .int ig, .long xa, .long xb, .ref maa, .ref mab, .ref mba, .ref mbb])), (ms, .inl (cs 0, 288, .inl f9)), (mon, .inl (cs 0, 16, .inl onf)), (mot, .inl (cs 0, 16, .inl otf))] H → va_D A [(mso, .inl (cs 0, 16, .inl sof)), (hm, .inr (12, [.ref ms, .ref mkp, .int (nI km), .ref mtr, .int (nI n), .int (nI k), .int (nI al), .int (nI be), .int ea, .int pr, .ref mas, .int nq, .int po, .int (nI en), .ref mso, .ref mon, .ref mot, .ref man, .int th, .int xd, .ref mst, .ref msm, .ref mtb, .ref mti, .ref mfr, .ref mbn, .ref mbs, .ref mde, .int sF, .int sN, .int sS, .int ig, .long xa, .long xb, .ref maa, .ref mab, .ref mba, .ref mbb])), (ms, .inl (cs 0, 288, .inl f9)), (mon, .inl (cs 0, 16, .inl onf)), (mot, .inl (cs 0, 16, .inl otf))] → va_S A s.heap H locs → lv_has ls 6 [(5, .int (nI o)), (4, .int (nI 1)), (3, .int (nI ((8 * a) + t_1))), (0, .ref hm), (1, .int (nI a)), (2, .int (nI k9))] → W p l e ({ frames := 2, cells := 0, slots := 0, locals := 44 } : Room) s m args below meth c H locs 0 0 (MQ below ((xQi D (fun (r : Int32) (fz : (Nat → Int32)) => (r = nI 0 ∨ r = nI 1) ∧ colP fz) (fun (fz : (Nat → Int32)) => [(hm, .inr (12, [.ref ms, .ref mkp, .int (nI km), .ref mtr, .int (nI n), .int (nI k), .int (nI al), .int (nI be), .int ea, .int pr, .ref mas, .int nq, .int po, .int (nI en), .ref mso, .ref mon, .ref mot, .ref man, .int th, .int xd, .ref mst, .ref msm, .ref mtb, .ref mti, .ref mfr, .ref mbn, .ref mbs, .ref mde, .int sF, .int sN, .int sS, .int ig, .long xa, .long xb, .ref maa, .ref mab, .ref mba, .ref mbb])), (ms, .inl (cs 0, 288, .inl fz)), (mso, .inl (cs 0, 16, .inl sof)), (mon, .inl (cs 0, 16, .inl onf)), (mot, .inl (cs 0, 16, .inl otf))])) A) args s 0 0 A) (F0 m 138 ls []) := by
                  intro n_loop_34
                  induction n_loop_34 with
                  | zero => intro o f9 h_o hs9 hlt H locs ls hP hD hS hl; exact absurd hlt (Nat.not_lt_zero _)
                  | succ n_loop_34 ih_loop_34 =>
                    intro o f9 h_o hs9 hlt_loop_34 H locs ls hP hD hS hl
                    refine lv_iload hx hb dX12_accepts_138 (lv_at hl 0 rfl) ?_
                    refine lv_aload_n hx hb dX12_accepts_140 rfl (lv_at hl 3 rfl) ?_
                    refine xget C hP 1 rfl rfl zuX12 13 (by decide) zw5_226 rfl dX12_accepts_141 ?_
                    refine lv_icmp_ge (tgt := 191) hx hb dX12_accepts_144 (by decide) (fun c_35 => ?_) (fun c_35 => ?_)
                    · -- 144 t
                      have fc_35 : en ≤ o := nf_le (by omega) (by omega) c_35
                      refine lv_iconst (v := nI 1) hx hb dX12_accepts_191 (by decide) ?_
                      exact xreti C f9 (⟨by decide, hs9⟩) (xP_map hP [1, 2, 0, 3, 4] rfl) (hD.sub [1, 2, 0, 3, 4] (by decide +kernel) rfl) hS (Nat.le_of_ble_eq_true rfl) (Nat.le_of_ble_eq_true rfl) (by decide) dX12_accepts_192
                    · -- 144 f
                      have fc_35 : o < en := nf_nle (by omega) (by omega) c_35
                      refine lv_iload hx hb dX12_accepts_147 (lv_at hl 0 rfl) ?_
                      refine lv_iload_n hx hb dX12_accepts_149 rfl (lv_at hl 5 rfl) ?_
                      refine lv_icmp_eq (tgt := 185) hx hb dX12_accepts_150 (by decide) (fun c_36 => ?_) (fun c_36 => ?_)
                      · -- 150 t
                        have fc_36 : o = k9 := nf_eq (by omega) (by omega) c_36
                        refine lv_iinc (v := nI (o + 1)) (lv' := [(5, .int (nI (o + 1))), (4, .int (nI 1)), (3, .int (nI ((8 * a) + t_1))), (0, .ref hm), (1, .int (nI a)), (2, .int (nI k9))]) hx hb dX12_accepts_185 hl (k := 0) rfl (nI_add o 1) (by decide) rfl ?_
                        clear hl
                        try clear ls
                        intro ls hl
                        refine lv_goto (tgt := 138) hx hb dX12_accepts_188 (by decide) ?_
                        exact ih_loop_34 (o + 1) f9 (by omega) hs9 (by omega) H locs ls hP hD hS (lv_sub hl [0, 1, 2, 3, 4, 5] rfl)
                      · -- 150 f
                        have fc_36 : o ≠ k9 := nf_ne (by omega) (by omega) c_36
                        refine lv_aload_n hx hb dX12_accepts_153 rfl (lv_at hl 3 rfl) ?_
                        refine xget C hP 1 rfl rfl zuX12 14 (by decide) zw5_227 rfl dX12_accepts_154 ?_
                        refine lv_iload hx hb dX12_accepts_157 (lv_at hl 0 rfl) ?_
                        refine xiald C hP 0 rfl o rfl (by omega) (by decide) dX12_accepts_159 ?_
                        refine lv_aload_n hx hb dX12_accepts_160 rfl (lv_at hl 3 rfl) ?_
                        refine xget C hP 1 rfl rfl zuX12 14 (by decide) zw5_227 rfl dX12_accepts_161 ?_
                        refine lv_iload_n hx hb dX12_accepts_164 rfl (lv_at hl 5 rfl) ?_
                        refine xiald C hP 0 rfl k9 rfl (by omega) (by decide) dX12_accepts_165 ?_
                        refine lv_icmp_ne (tgt := 185) hx hb dX12_accepts_166 (by decide) (fun c_37 => ?_) (fun c_37 => ?_)
                        · -- 166 t
                          refine lv_iinc (v := nI (o + 1)) (lv' := [(5, .int (nI (o + 1))), (4, .int (nI 1)), (3, .int (nI ((8 * a) + t_1))), (0, .ref hm), (1, .int (nI a)), (2, .int (nI k9))]) hx hb dX12_accepts_185 hl (k := 0) rfl (nI_add o 1) (by decide) rfl ?_
                          clear hl
                          try clear ls
                          intro ls hl
                          refine lv_goto (tgt := 138) hx hb dX12_accepts_188 (by decide) ?_
                          exact ih_loop_34 (o + 1) f9 (by omega) hs9 (by omega) H locs ls hP hD hS (lv_sub hl [0, 1, 2, 3, 4, 5] rfl)
                        · -- 166 f
                          refine lv_aload_n hx hb dX12_accepts_169 rfl (lv_at hl 3 rfl) ?_
                          refine xget C hP 1 rfl rfl zuX12 0 (by decide) zw5_213 rfl dX12_accepts_170 ?_
                          refine lv_bipush (v := nI 88) hx hb dX12_accepts_173 (by decide) ?_
                          refine lv_iload_n hx hb dX12_accepts_175 rfl (lv_at hl 4 rfl) ?_
                          refine lv_iadd hx hb dX12_accepts_176 ?_
                          refine lv_topi (nm_r (e' := nI (88 + a)) (nI_add _ _) ?_)
                          refine lv_dup2_11 hx hb dX12_accepts_177 rfl rfl ?_
                          refine xiald C hP 2 rfl (88 + a) rfl (by omega) (by decide) dX12_accepts_178 ?_
                          refine lv_iconst (v := nI 1) hx hb dX12_accepts_179 (by decide) ?_
                          refine lv_iload hx hb dX12_accepts_180 (lv_at hl 0 rfl) ?_
                          refine lv_ishl hx hb dX12_accepts_182 ?_
                          refine lv_ior hx hb dX12_accepts_183 ?_
                          refine xiast C hP hD hS 2 rfl (88 + a) rfl (by omega) (by decide) dX12_accepts_184 ?_
                          clear hP hD hS
                          try clear locs
                          try clear H
                          intro H locs hP hD hS
                          replace hP : va_P D vwCl [(mso, .inl (cs 0, 16, .inl sof)), (hm, .inr (12, [.ref ms, .ref mkp, .int (nI km), .ref mtr, .int (nI n), .int (nI k), .int (nI al), .int (nI be), .int ea, .int pr, .ref mas, .int nq, .int po, .int (nI en), .ref mso, .ref mon, .ref mot, .ref man, .int th, .int xd, .ref mst, .ref msm, .ref mtb, .ref mti, .ref mfr, .ref mbn, .ref mbs, .ref mde, .int sF, .int sN, .int sS, .int ig, .long xa, .long xb, .ref maa, .ref mab, .ref mba, .ref mbb])), (ms, .inl (cs 0, 288, .inl (upd f9 (88 + a) ((f9 (88 + a)) ||| ((nI 1) <<< ((nI o) &&& 31)))))), (mon, .inl (cs 0, 16, .inl onf)), (mot, .inl (cs 0, 16, .inl otf))] H := hP
                          replace hD : va_D A [(mso, .inl (cs 0, 16, .inl sof)), (hm, .inr (12, [.ref ms, .ref mkp, .int (nI km), .ref mtr, .int (nI n), .int (nI k), .int (nI al), .int (nI be), .int ea, .int pr, .ref mas, .int nq, .int po, .int (nI en), .ref mso, .ref mon, .ref mot, .ref man, .int th, .int xd, .ref mst, .ref msm, .ref mtb, .ref mti, .ref mfr, .ref mbn, .ref mbs, .ref mde, .int sF, .int sN, .int sS, .int ig, .long xa, .long xb, .ref maa, .ref mab, .ref mba, .ref mbb])), (ms, .inl (cs 0, 288, .inl (upd f9 (88 + a) ((f9 (88 + a)) ||| ((nI 1) <<< ((nI o) &&& 31)))))), (mon, .inl (cs 0, 16, .inl onf)), (mot, .inl (cs 0, 16, .inl otf))] := hD
                          refine lv_iinc (v := nI (o + 1)) (lv' := [(5, .int (nI (o + 1))), (4, .int (nI 1)), (3, .int (nI ((8 * a) + t_1))), (0, .ref hm), (1, .int (nI a)), (2, .int (nI k9))]) hx hb dX12_accepts_185 hl (k := 0) rfl (nI_add o 1) (by decide) rfl ?_
                          clear hl
                          try clear ls
                          intro ls hl
                          refine lv_goto (tgt := 138) hx hb dX12_accepts_188 (by decide) ?_
                          exact ih_loop_34 (o + 1) (upd f9 (88 + a) ((f9 (88 + a)) ||| ((nI 1) <<< ((nI o) &&& 31)))) (by omega) (colP_hi (i := 88 + a) hs9 ((f9 (88 + a)) ||| ((nI 1) <<< ((nI o) &&& 31))) (by omega)) (by omega) H locs ls hP hD hS (lv_sub hl [0, 1, 2, 3, 4, 5] rfl)
                exact loop_34 _ 0 (upd f (80 + a) ((f (80 + a)) ||| ((nI 1) <<< ((nI k9) &&& 31)))) (by omega) (colP_hi (i := 80 + a) hs ((f (80 + a)) ||| ((nI 1) <<< ((nI k9) &&& 31))) (by omega)) (Nat.lt_succ_self _) H locs ls hP hD hS (lv_sub hl [0, 1, 2, 3, 4, 5] rfl)
      · -- 50 f
        refine lv_iconst (v := nI 0) hx hb dX12_accepts_53 (by decide) ?_
        exact xreti C f (⟨by decide, hs⟩) (xP_map hP [2, 3, 4, 0, 1] rfl) (hD.sub [2, 3, 4, 0, 1] (by decide +kernel) rfl) hS (Nat.le_of_ble_eq_true rfl) (Nat.le_of_ble_eq_true rfl) (by decide) dX12_accepts_54
