set_option maxHeartbeats 4000000 in
set_option maxRecDepth 100000 in
theorem c_X12_progeny_f (l : Launch) (D : va_G) (cs : Nat → ClassId) (hm ms mkp mtr mas mso mon mot man mst msm mtb mti mfr mbn mbs mde maa mab mba mbb : Nat) (n k al be km en : Nat) (ea pr nq po th xd sF sN sS ig : Int32) (xa xb : Int64) (e0 : Nat) (anf : Nat → Int32) (hen : en ≤ 16) : xMet l D cs yX12_progeny cX12_progeny 4 (some .int) ({ frames := 1, cells := 0, slots := 0, locals := 21 } : Room) [.ref hm, .int (nI e0)] [(hm, .inr (12, [.ref ms, .ref mkp, .int (nI km), .ref mtr, .int (nI n), .int (nI k), .int (nI al), .int (nI be), .int ea, .int pr, .ref mas, .int nq, .int po, .int (nI en), .ref mso, .ref mon, .ref mot, .ref man, .int th, .int xd, .ref mst, .ref msm, .ref mtb, .ref mti, .ref mfr, .ref mbn, .ref mbs, .ref mde, .int sF, .int sN, .int sS, .int ig, .long xa, .long xb, .ref maa, .ref mab, .ref mba, .ref mbb])), (man, .inl (cs 0, 16, .inl anf))] (xQi D (fun (r : Int32) (_u : Unit) => prgP en anf e0 r) (fun (_u : Unit) => [(hm, .inr (12, [.ref ms, .ref mkp, .int (nI km), .ref mtr, .int (nI n), .int (nI k), .int (nI al), .int (nI be), .int ea, .int pr, .ref mas, .int nq, .int po, .int (nI en), .ref mso, .ref mon, .ref mot, .ref man, .int th, .int xd, .ref mst, .ref msm, .ref mtb, .ref mti, .ref mfr, .ref mbn, .ref mbs, .ref mde, .int sF, .int sN, .int sS, .int ig, .long xa, .long xb, .ref maa, .ref mab, .ref mba, .ref mbb])), (man, .inl (cs 0, 16, .inl anf))])) := by
  refine xMet.intro (by decide) (Nat.le_of_ble_eq_true rfl) ?_
  intro p e s m args below meth c A ls C hP hD hS hl
  have hx := C.1
  have hb := C.2.1
  have hz := C.2.2.2.2.1
  have hown := C.2.2.2.1
  have hA := C.2.2.2.2.2.2.2.2.2
  have hAO := C.2.2.2.2.2.2.2.2.1.2.2
  replace hl : lv_has ls 4 [(0, .ref hm), (1, .int (nI e0))] := hl
  obtain ⟨H, hH⟩ : ∃ H, H = s.heap := ⟨_, rfl⟩
  replace hP : va_P D vwCl [(hm, .inr (12, [.ref ms, .ref mkp, .int (nI km), .ref mtr, .int (nI n), .int (nI k), .int (nI al), .int (nI be), .int ea, .int pr, .ref mas, .int nq, .int po, .int (nI en), .ref mso, .ref mon, .ref mot, .ref man, .int th, .int xd, .ref mst, .ref msm, .ref mtb, .ref mti, .ref mfr, .ref mbn, .ref mbs, .ref mde, .int sF, .int sN, .int sS, .int ig, .long xa, .long xb, .ref maa, .ref mab, .ref mba, .ref mbb])), (man, .inl (cs 0, 16, .inl anf))] H := by rw [hH]; exact hP
  replace hS : va_S A s.heap H [] := by rw [hH]; exact hS
  obtain ⟨locs, hlocs⟩ : ∃ z : List Loc, z = [] := ⟨_, rfl⟩
  rw [← hlocs] at hS
  suffices hW : W p l e ({ frames := 1, cells := 0, slots := 0, locals := 21 } : Room) s m args below meth c H locs 0 0 (MQ below ((xQi D (fun (r : Int32) (_u : Unit) => prgP en anf e0 r) (fun (_u : Unit) => [(hm, .inr (12, [.ref ms, .ref mkp, .int (nI km), .ref mtr, .int (nI n), .int (nI k), .int (nI al), .int (nI be), .int ea, .int pr, .ref mas, .int nq, .int po, .int (nI en), .ref mso, .ref mon, .ref mot, .ref man, .int th, .int xd, .ref mst, .ref msm, .ref mtb, .ref mti, .ref mfr, .ref mbn, .ref mbs, .ref mde, .int sF, .int sN, .int sS, .int ig, .long xa, .long xb, .ref maa, .ref mab, .ref mba, .ref mbb])), (man, .inl (cs 0, 16, .inl anf))])) A) args s 0 0 A) (F0 m 0 ls []) by rw [hlocs, hH] at hW; exact hW
  clear hH hlocs
  refine lv_iconst (v := nI 0) hx hb dX12_progeny_0 (by decide) ?_
  refine lv_istore_n (lv' := [(2, .int (nI 0)), (0, .ref hm), (1, .int (nI e0))]) hx hb dX12_progeny_1 rfl hl (by decide) rfl ?_
  clear hl
  try clear ls
  intro ls hl
  refine lv_iconst (v := nI 0) hx hb dX12_progeny_2 (by decide) ?_
  refine lv_istore_n (lv' := [(3, .int (nI 0)), (2, .int (nI 0)), (0, .ref hm), (1, .int (nI e0))]) hx hb dX12_progeny_3 rfl hl (by decide) rfl ?_
  clear hl
  try clear ls
  intro ls hl
  have loop_1 : ∀ (n_loop_1 : Nat) (o : Nat) (b9 : Int32), (o ≤ en) → (∀ k, k < 32 → (hasB b9 k ↔ k < o ∧ hasB (anf k) e0)) → en - o < n_loop_1 → ∀ (H : Heap) (locs : List Loc) (ls : Array Slot), va_P D vwCl [(hm, .inr (12, [.ref ms, .ref mkp, .int (nI km), .ref mtr, .int (nI n), .int (nI k), .int (nI al), .int (nI be), .int ea, .int pr, .ref mas, .int nq, .int po, .int (nI en), .ref mso, .ref mon, .ref mot, .ref man, .int th, .int xd, .ref mst, .ref msm, .ref mtb, .ref mti, .ref mfr, .ref mbn, .ref mbs, .ref mde, .int sF, .int sN, .int sS, .int ig, .long xa, .long xb, .ref maa, .ref mab, .ref mba, .ref mbb])), (man, .inl (cs 0, 16, .inl anf))] H → va_D A [(hm, .inr (12, [.ref ms, .ref mkp, .int (nI km), .ref mtr, .int (nI n), .int (nI k), .int (nI al), .int (nI be), .int ea, .int pr, .ref mas, .int nq, .int po, .int (nI en), .ref mso, .ref mon, .ref mot, .ref man, .int th, .int xd, .ref mst, .ref msm, .ref mtb, .ref mti, .ref mfr, .ref mbn, .ref mbs, .ref mde, .int sF, .int sN, .int sS, .int ig, .long xa, .long xb, .ref maa, .ref mab, .ref mba, .ref mbb])), (man, .inl (cs 0, 16, .inl anf))] → va_S A s.heap H locs → lv_has ls 4 [(3, .int (nI o)), (2, .int b9), (0, .ref hm), (1, .int (nI e0))] → W p l e ({ frames := 1, cells := 0, slots := 0, locals := 21 } : Room) s m args below meth c H locs 0 0 (MQ below ((xQi D (fun (r : Int32) (_u : Unit) => prgP en anf e0 r) (fun (_u : Unit) => [(hm, .inr (12, [.ref ms, .ref mkp, .int (nI km), .ref mtr, .int (nI n), .int (nI k), .int (nI al), .int (nI be), .int ea, .int pr, .ref mas, .int nq, .int po, .int (nI en), .ref mso, .ref mon, .ref mot, .ref man, .int th, .int xd, .ref mst, .ref msm, .ref mtb, .ref mti, .ref mfr, .ref mbn, .ref mbs, .ref mde, .int sF, .int sN, .int sS, .int ig, .long xa, .long xb, .ref maa, .ref mab, .ref mba, .ref mbb])), (man, .inl (cs 0, 16, .inl anf))])) A) args s 0 0 A) (F0 m 4 ls []) := by
    intro n_loop_1
    induction n_loop_1 with
    | zero => intro o b9 h_o hpg9 hlt H locs ls hP hD hS hl; exact absurd hlt (Nat.not_lt_zero _)
    | succ n_loop_1 ih_loop_1 =>
      intro o b9 h_o hpg9 hlt_loop_1 H locs ls hP hD hS hl
      refine lv_iload_n hx hb dX12_progeny_4 rfl (lv_at hl 0 rfl) ?_
      refine lv_aload_n hx hb dX12_progeny_5 rfl (lv_at hl 2 rfl) ?_
      refine xget C hP 0 rfl rfl zuX12 13 (by decide) zw5_226 rfl dX12_progeny_6 ?_
      refine lv_icmp_ge (tgt := 37) hx hb dX12_progeny_9 (by decide) (fun c_2 => ?_) (fun c_2 => ?_)
      · -- 9 t
        have fc_2 : en ≤ o := nf_le (by omega) (by omega) c_2
        refine lv_iload_n hx hb dX12_progeny_37 rfl (lv_at hl 1 rfl) ?_
        exact xreti C () (by have q7 : o = en := (by omega); rw [← q7]; exact hpg9) hP hD hS (Nat.le_of_ble_eq_true rfl) (Nat.le_of_ble_eq_true rfl) rfl dX12_progeny_38
      · -- 9 f
        have fc_2 : o < en := nf_nle (by omega) (by omega) c_2
        refine lv_aload_n hx hb dX12_progeny_12 rfl (lv_at hl 2 rfl) ?_
        refine xget C hP 0 rfl rfl zuX12 17 (by decide) zw5_230 rfl dX12_progeny_13 ?_
        refine lv_iload_n hx hb dX12_progeny_16 rfl (lv_at hl 0 rfl) ?_
        refine xiald C hP 1 rfl o rfl (by omega) (by decide) dX12_progeny_17 ?_
        refine lv_iload_n hx hb dX12_progeny_18 rfl (lv_at hl 3 rfl) ?_
        refine xi (wr := [(hm, .inr (12, [.ref ms, .ref mkp, .int (nI km), .ref mtr, .int (nI n), .int (nI k), .int (nI al), .int (nI be), .int ea, .int pr, .ref mas, .int nq, .int po, .int (nI en), .ref mso, .ref mon, .ref mot, .ref man, .int th, .int xd, .ref mst, .ref msm, .ref mtb, .ref mti, .ref mfr, .ref mbn, .ref mbs, .ref mde, .int sF, .int sN, .int sS, .int ig, .long xa, .long xb, .ref maa, .ref mab, .ref mba, .ref mbb])), (man, .inl (cs 0, 16, .inl anf))]) (xS (As := [.int (anf o), .int (nI e0)]) (rest := []) C (c_X12_has l D cs (anf o) e0) kX12_100 hP hD [] rfl (by decide) ⟨Nat.le_of_ble_eq_true rfl, Nat.le_of_ble_eq_true rfl⟩ rfl hl.1 rfl (Nat.le_of_ble_eq_true rfl) dX12_progeny_19 ⟨Nat.le_of_ble_eq_true rfl, Nat.le_of_ble_eq_true rfl⟩) hP hD hS hA [] [0, 1] rfl rfl (by decide) (by decide) ?_
        clear hP hD hS
        try clear locs
        try clear H
        intro r_3 u_4 H locs hw_r_3 hP hD hS
        have hw_r_3 : PQ (hasB (anf o) e0) r_3 (nI 1) (nI 0) := hw_r_3
        refine W.widen (k := 0) (n := 0) (Nat.le_of_ble_eq_true rfl) (Nat.le_of_ble_eq_true rfl) ?_
        replace hP : va_P D vwCl [(hm, .inr (12, [.ref ms, .ref mkp, .int (nI km), .ref mtr, .int (nI n), .int (nI k), .int (nI al), .int (nI be), .int ea, .int pr, .ref mas, .int nq, .int po, .int (nI en), .ref mso, .ref mon, .ref mot, .ref man, .int th, .int xd, .ref mst, .ref msm, .ref mtb, .ref mti, .ref mfr, .ref mbn, .ref mbs, .ref mde, .int sF, .int sN, .int sS, .int ig, .long xa, .long xb, .ref maa, .ref mab, .ref mba, .ref mbb])), (man, .inl (cs 0, 16, .inl anf))] H := hP
        replace hD : va_D A [(hm, .inr (12, [.ref ms, .ref mkp, .int (nI km), .ref mtr, .int (nI n), .int (nI k), .int (nI al), .int (nI be), .int ea, .int pr, .ref mas, .int nq, .int po, .int (nI en), .ref mso, .ref mon, .ref mot, .ref man, .int th, .int xd, .ref mst, .ref msm, .ref mtb, .ref mti, .ref mfr, .ref mbn, .ref mbs, .ref mde, .int sF, .int sN, .int sS, .int ig, .long xa, .long xb, .ref maa, .ref mab, .ref mba, .ref mbb])), (man, .inl (cs 0, 16, .inl anf))] := hD
        refine lv_if_eq (tgt := 31) hx hb dX12_progeny_22 (by decide) (fun c_5 => ?_) (fun c_5 => ?_)
        · -- 22 t
          refine lv_iinc (v := nI (o + 1)) (lv' := [(3, .int (nI (o + 1))), (2, .int b9), (0, .ref hm), (1, .int (nI e0))]) hx hb dX12_progeny_31 hl (k := 0) rfl (nI_add o 1) (by decide) rfl ?_
          clear hl
          try clear ls
          intro ls hl
          refine lv_goto (tgt := 4) hx hb dX12_progeny_34 (by decide) ?_
          exact ih_loop_1 (o + 1) b9 (by omega) (bits_no hpg9 (PQ.no hw_r_3 c_5 (by decide))) (by omega) H locs ls hP hD hS (lv_sub hl [0, 1, 2, 3] rfl)
        · -- 22 f
          refine lv_iload_n hx hb dX12_progeny_25 rfl (lv_at hl 1 rfl) ?_
          refine lv_iconst (v := nI 1) hx hb dX12_progeny_26 (by decide) ?_
          refine lv_iload_n hx hb dX12_progeny_27 rfl (lv_at hl 0 rfl) ?_
          refine lv_ishl hx hb dX12_progeny_28 ?_
          refine lv_ior hx hb dX12_progeny_29 ?_
          refine lv_istore_n (lv' := [(2, .int (b9 ||| ((nI 1) <<< ((nI o) &&& 31)))), (3, .int (nI o)), (0, .ref hm), (1, .int (nI e0))]) hx hb dX12_progeny_30 rfl hl (by decide) rfl ?_
          clear hl
          try clear ls
          intro ls hl
          refine lv_iinc (v := nI (o + 1)) (lv' := [(3, .int (nI (o + 1))), (2, .int (b9 ||| ((nI 1) <<< ((nI o) &&& 31)))), (0, .ref hm), (1, .int (nI e0))]) hx hb dX12_progeny_31 hl (k := 1) rfl (nI_add o 1) (by decide) rfl ?_
          clear hl
          try clear ls
          intro ls hl
          refine lv_goto (tgt := 4) hx hb dX12_progeny_34 (by decide) ?_
          exact ih_loop_1 (o + 1) (b9 ||| ((nI 1) <<< ((nI o) &&& 31))) (by omega) (bits_yes hpg9 (by omega) (PQ.yes hw_r_3 c_5)) (by omega) H locs ls hP hD hS (lv_sub hl [0, 1, 2, 3] rfl)
  exact loop_1 _ 0 (nI 0) (by omega) (bits_0 _) (Nat.lt_succ_self _) H locs ls hP hD hS (lv_sub hl [0, 1, 2, 3] rfl)

set_option maxHeartbeats 4000000 in
set_option maxRecDepth 100000 in
theorem c_X12_acceptedOf_f (l : Launch) (D : va_G) (cs : Nat → ClassId) (hm ms mkp mtr mas mso mon mot man mst msm mtb mti mfr mbn mbs mde maa mab mba mbb : Nat) (n k al be km en : Nat) (ea pr nq po th xd sF sN sS ig : Int32) (xa xb : Int64) (f : Nat → Int32) (v : Nat) (x : Int32) (sof : Nat → Int32) (hen : en ≤ 16) (hv : v < 8) : xMet l D cs yX12_acceptedOf cX12_acceptedOf 4 (some .int) ({ frames := 1, cells := 0, slots := 0, locals := 21 } : Room) [.ref hm, .int (nI v), .int x] [(hm, .inr (12, [.ref ms, .ref mkp, .int (nI km), .ref mtr, .int (nI n), .int (nI k), .int (nI al), .int (nI be), .int ea, .int pr, .ref mas, .int nq, .int po, .int (nI en), .ref mso, .ref mon, .ref mot, .ref man, .int th, .int xd, .ref mst, .ref msm, .ref mtb, .ref mti, .ref mfr, .ref mbn, .ref mbs, .ref mde, .int sF, .int sN, .int sS, .int ig, .long xa, .long xb, .ref maa, .ref mab, .ref mba, .ref mbb])), (ms, .inl (cs 0, 288, .inl f)), (mso, .inl (cs 0, 16, .inl sof))] (xQi D (fun (r : Int32) (_u : Unit) => accM en sof f v x r) (fun (_u : Unit) => [(hm, .inr (12, [.ref ms, .ref mkp, .int (nI km), .ref mtr, .int (nI n), .int (nI k), .int (nI al), .int (nI be), .int ea, .int pr, .ref mas, .int nq, .int po, .int (nI en), .ref mso, .ref mon, .ref mot, .ref man, .int th, .int xd, .ref mst, .ref msm, .ref mtb, .ref mti, .ref mfr, .ref mbn, .ref mbs, .ref mde, .int sF, .int sN, .int sS, .int ig, .long xa, .long xb, .ref maa, .ref mab, .ref mba, .ref mbb])), (ms, .inl (cs 0, 288, .inl f)), (mso, .inl (cs 0, 16, .inl sof))])) := by
  refine xMet.intro (by decide) (Nat.le_of_ble_eq_true rfl) ?_
  intro p e s m args below meth c A ls C hP hD hS hl
  have hx := C.1
  have hb := C.2.1
  have hz := C.2.2.2.2.1
  have hown := C.2.2.2.1
  have hA := C.2.2.2.2.2.2.2.2.2
  have hAO := C.2.2.2.2.2.2.2.2.1.2.2
  replace hl : lv_has ls 4 [(0, .ref hm), (1, .int (nI v)), (2, .int x)] := hl
  obtain ⟨H, hH⟩ : ∃ H, H = s.heap := ⟨_, rfl⟩
  replace hP : va_P D vwCl [(hm, .inr (12, [.ref ms, .ref mkp, .int (nI km), .ref mtr, .int (nI n), .int (nI k), .int (nI al), .int (nI be), .int ea, .int pr, .ref mas, .int nq, .int po, .int (nI en), .ref mso, .ref mon, .ref mot, .ref man, .int th, .int xd, .ref mst, .ref msm, .ref mtb, .ref mti, .ref mfr, .ref mbn, .ref mbs, .ref mde, .int sF, .int sN, .int sS, .int ig, .long xa, .long xb, .ref maa, .ref mab, .ref mba, .ref mbb])), (ms, .inl (cs 0, 288, .inl f)), (mso, .inl (cs 0, 16, .inl sof))] H := by rw [hH]; exact hP
  replace hS : va_S A s.heap H [] := by rw [hH]; exact hS
  obtain ⟨locs, hlocs⟩ : ∃ z : List Loc, z = [] := ⟨_, rfl⟩
  rw [← hlocs] at hS
  suffices hW : W p l e ({ frames := 1, cells := 0, slots := 0, locals := 21 } : Room) s m args below meth c H locs 0 0 (MQ below ((xQi D (fun (r : Int32) (_u : Unit) => accM en sof f v x r) (fun (_u : Unit) => [(hm, .inr (12, [.ref ms, .ref mkp, .int (nI km), .ref mtr, .int (nI n), .int (nI k), .int (nI al), .int (nI be), .int ea, .int pr, .ref mas, .int nq, .int po, .int (nI en), .ref mso, .ref mon, .ref mot, .ref man, .int th, .int xd, .ref mst, .ref msm, .ref mtb, .ref mti, .ref mfr, .ref mbn, .ref mbs, .ref mde, .int sF, .int sN, .int sS, .int ig, .long xa, .long xb, .ref maa, .ref mab, .ref mba, .ref mbb])), (ms, .inl (cs 0, 288, .inl f)), (mso, .inl (cs 0, 16, .inl sof))])) A) args s 0 0 A) (F0 m 0 ls []) by rw [hlocs, hH] at hW; exact hW
  clear hH hlocs
  refine lv_iconst (v := nI 0) hx hb dX12_acceptedOf_0 (by decide) ?_
  refine lv_istore_n (lv' := [(3, .int (nI 0)), (0, .ref hm), (1, .int (nI v)), (2, .int x)]) hx hb dX12_acceptedOf_1 rfl hl (by decide) rfl ?_
  clear hl
  try clear ls
  intro ls hl
  have loop_1 : ∀ (n_loop_1 : Nat) (o : Nat), (o ≤ en) → (∀ i, i < o → sof i = x → ¬ hasB (f (80 + v)) i) → en - o < n_loop_1 → ∀ (H : Heap) (locs : List Loc) (ls : Array Slot), va_P D vwCl [(hm, .inr (12, [.ref ms, .ref mkp, .int (nI km), .ref mtr, .int (nI n), .int (nI k), .int (nI al), .int (nI be), .int ea, .int pr, .ref mas, .int nq, .int po, .int (nI en), .ref mso, .ref mon, .ref mot, .ref man, .int th, .int xd, .ref mst, .ref msm, .ref mtb, .ref mti, .ref mfr, .ref mbn, .ref mbs, .ref mde, .int sF, .int sN, .int sS, .int ig, .long xa, .long xb, .ref maa, .ref mab, .ref mba, .ref mbb])), (ms, .inl (cs 0, 288, .inl f)), (mso, .inl (cs 0, 16, .inl sof))] H → va_D A [(hm, .inr (12, [.ref ms, .ref mkp, .int (nI km), .ref mtr, .int (nI n), .int (nI k), .int (nI al), .int (nI be), .int ea, .int pr, .ref mas, .int nq, .int po, .int (nI en), .ref mso, .ref mon, .ref mot, .ref man, .int th, .int xd, .ref mst, .ref msm, .ref mtb, .ref mti, .ref mfr, .ref mbn, .ref mbs, .ref mde, .int sF, .int sN, .int sS, .int ig, .long xa, .long xb, .ref maa, .ref mab, .ref mba, .ref mbb])), (ms, .inl (cs 0, 288, .inl f)), (mso, .inl (cs 0, 16, .inl sof))] → va_S A s.heap H locs → lv_has ls 4 [(3, .int (nI o)), (0, .ref hm), (1, .int (nI v)), (2, .int x)] → W p l e ({ frames := 1, cells := 0, slots := 0, locals := 21 } : Room) s m args below meth c H locs 0 0 (MQ below ((xQi D (fun (r : Int32) (_u : Unit) => accM en sof f v x r) (fun (_u : Unit) => [(hm, .inr (12, [.ref ms, .ref mkp, .int (nI km), .ref mtr, .int (nI n), .int (nI k), .int (nI al), .int (nI be), .int ea, .int pr, .ref mas, .int nq, .int po, .int (nI en), .ref mso, .ref mon, .ref mot, .ref man, .int th, .int xd, .ref mst, .ref msm, .ref mtb, .ref mti, .ref mfr, .ref mbn, .ref mbs, .ref mde, .int sF, .int sN, .int sS, .int ig, .long xa, .long xb, .ref maa, .ref mab, .ref mba, .ref mbb])), (ms, .inl (cs 0, 288, .inl f)), (mso, .inl (cs 0, 16, .inl sof))])) A) args s 0 0 A) (F0 m 2 ls []) := by
    intro n_loop_1
    induction n_loop_1 with
    | zero => intro o h_o hao9 hlt H locs ls hP hD hS hl; exact absurd hlt (Nat.not_lt_zero _)
    | succ n_loop_1 ih_loop_1 =>
      intro o h_o hao9 hlt_loop_1 H locs ls hP hD hS hl
      refine lv_iload_n hx hb dX12_acceptedOf_2 rfl (lv_at hl 0 rfl) ?_
      refine lv_aload_n hx hb dX12_acceptedOf_3 rfl (lv_at hl 1 rfl) ?_
      refine xget C hP 0 rfl rfl zuX12 13 (by decide) zw5_226 rfl dX12_acceptedOf_4 ?_
      refine lv_icmp_ge (tgt := 44) hx hb dX12_acceptedOf_7 (by decide) (fun c_2 => ?_) (fun c_2 => ?_)
      · -- 7 t
        have fc_2 : en ≤ o := nf_le (by omega) (by omega) c_2
        refine lv_iconst (v := (-1)) hx hb dX12_acceptedOf_44 (by decide) ?_
        exact xreti C () (Or.inr ⟨fun i hi hx => hao9 i (by omega) hx, rfl⟩) hP hD hS (Nat.le_of_ble_eq_true rfl) (Nat.le_of_ble_eq_true rfl) rfl dX12_acceptedOf_45
      · -- 7 f
        have fc_2 : o < en := nf_nle (by omega) (by omega) c_2
        refine lv_aload_n hx hb dX12_acceptedOf_10 rfl (lv_at hl 1 rfl) ?_
        refine xget C hP 0 rfl rfl zuX12 14 (by decide) zw5_227 rfl dX12_acceptedOf_11 ?_
        refine lv_iload_n hx hb dX12_acceptedOf_14 rfl (lv_at hl 0 rfl) ?_
        refine xiald C hP 2 rfl o rfl (by omega) (by decide) dX12_acceptedOf_15 ?_
        refine lv_iload_n hx hb dX12_acceptedOf_16 rfl (lv_at hl 3 rfl) ?_
        refine lv_icmp_ne (tgt := 38) hx hb dX12_acceptedOf_17 (by decide) (fun c_3 => ?_) (fun c_3 => ?_)
        · -- 17 t
          refine lv_iinc (v := nI (o + 1)) (lv' := [(3, .int (nI (o + 1))), (0, .ref hm), (1, .int (nI v)), (2, .int x)]) hx hb dX12_acceptedOf_38 hl (k := 0) rfl (nI_add o 1) (by decide) rfl ?_
          clear hl
          try clear ls
          intro ls hl
          refine lv_goto (tgt := 2) hx hb dX12_acceptedOf_41 (by decide) ?_
          exact ih_loop_1 (o + 1) (by omega) (fun i hi hx => by by_cases q : i = o; subst q; exact absurd hx c_3; exact hao9 i (by omega) hx) (by omega) H locs ls hP hD hS (lv_sub hl [0, 1, 2, 3] rfl)
        · -- 17 f
          refine lv_aload_n hx hb dX12_acceptedOf_20 rfl (lv_at hl 1 rfl) ?_
          refine xget C hP 0 rfl rfl zuX12 0 (by decide) zw5_213 rfl dX12_acceptedOf_21 ?_
          refine lv_bipush (v := nI 80) hx hb dX12_acceptedOf_24 (by decide) ?_
          refine lv_iload_n hx hb dX12_acceptedOf_26 rfl (lv_at hl 2 rfl) ?_
          refine lv_iadd hx hb dX12_acceptedOf_27 ?_
          refine lv_topi (nm_r (e' := nI (80 + v)) (nI_add _ _) ?_)
          refine xiald C hP 1 rfl (80 + v) rfl (by omega) (by decide) dX12_acceptedOf_28 ?_
          refine lv_iload_n hx hb dX12_acceptedOf_29 rfl (lv_at hl 0 rfl) ?_
          refine xi (wr := [(hm, .inr (12, [.ref ms, .ref mkp, .int (nI km), .ref mtr, .int (nI n), .int (nI k), .int (nI al), .int (nI be), .int ea, .int pr, .ref mas, .int nq, .int po, .int (nI en), .ref mso, .ref mon, .ref mot, .ref man, .int th, .int xd, .ref mst, .ref msm, .ref mtb, .ref mti, .ref mfr, .ref mbn, .ref mbs, .ref mde, .int sF, .int sN, .int sS, .int ig, .long xa, .long xb, .ref maa, .ref mab, .ref mba, .ref mbb])), (ms, .inl (cs 0, 288, .inl f)), (mso, .inl (cs 0, 16, .inl sof))]) (xS (As := [.int (f (80 + v)), .int (nI o)]) (rest := []) C (c_X12_has l D cs (f (80 + v)) o) kX12_100 hP hD [] rfl (by decide) ⟨Nat.le_of_ble_eq_true rfl, Nat.le_of_ble_eq_true rfl⟩ rfl hl.1 rfl (Nat.le_of_ble_eq_true rfl) dX12_acceptedOf_30 ⟨Nat.le_of_ble_eq_true rfl, Nat.le_of_ble_eq_true rfl⟩) hP hD hS hA [] [0, 1, 2] rfl rfl (by decide) (by decide) ?_
          clear hP hD hS
          try clear locs
          try clear H
          intro r_4 u_5 H locs hw_r_4 hP hD hS
          have hw_r_4 : PQ (hasB (f (80 + v)) o) r_4 (nI 1) (nI 0) := hw_r_4
          refine W.widen (k := 0) (n := 0) (Nat.le_of_ble_eq_true rfl) (Nat.le_of_ble_eq_true rfl) ?_
          replace hP : va_P D vwCl [(hm, .inr (12, [.ref ms, .ref mkp, .int (nI km), .ref mtr, .int (nI n), .int (nI k), .int (nI al), .int (nI be), .int ea, .int pr, .ref mas, .int nq, .int po, .int (nI en), .ref mso, .ref mon, .ref mot, .ref man, .int th, .int xd, .ref mst, .ref msm, .ref mtb, .ref mti, .ref mfr, .ref mbn, .ref mbs, .ref mde, .int sF, .int sN, .int sS, .int ig, .long xa, .long xb, .ref maa, .ref mab, .ref mba, .ref mbb])), (ms, .inl (cs 0, 288, .inl f)), (mso, .inl (cs 0, 16, .inl sof))] H := hP
          replace hD : va_D A [(hm, .inr (12, [.ref ms, .ref mkp, .int (nI km), .ref mtr, .int (nI n), .int (nI k), .int (nI al), .int (nI be), .int ea, .int pr, .ref mas, .int nq, .int po, .int (nI en), .ref mso, .ref mon, .ref mot, .ref man, .int th, .int xd, .ref mst, .ref msm, .ref mtb, .ref mti, .ref mfr, .ref mbn, .ref mbs, .ref mde, .int sF, .int sN, .int sS, .int ig, .long xa, .long xb, .ref maa, .ref mab, .ref mba, .ref mbb])), (ms, .inl (cs 0, 288, .inl f)), (mso, .inl (cs 0, 16, .inl sof))] := hD
          refine lv_if_eq (tgt := 38) hx hb dX12_acceptedOf_33 (by decide) (fun c_6 => ?_) (fun c_6 => ?_)
          · -- 33 t
            refine lv_iinc (v := nI (o + 1)) (lv' := [(3, .int (nI (o + 1))), (0, .ref hm), (1, .int (nI v)), (2, .int x)]) hx hb dX12_acceptedOf_38 hl (k := 0) rfl (nI_add o 1) (by decide) rfl ?_
            clear hl
            try clear ls
            intro ls hl
            refine lv_goto (tgt := 2) hx hb dX12_acceptedOf_41 (by decide) ?_
            exact ih_loop_1 (o + 1) (by omega) (fun i hi hx => by by_cases q : i = o; subst q; exact PQ.no hw_r_4 c_6 (by decide); exact hao9 i (by omega) hx) (by omega) H locs ls hP hD hS (lv_sub hl [0, 1, 2, 3] rfl)
          · -- 33 f
            refine lv_iload_n hx hb dX12_acceptedOf_36 rfl (lv_at hl 0 rfl) ?_
            exact xreti C () (Or.inl ⟨o, by omega, c_3, PQ.yes hw_r_4 c_6, rfl⟩) hP hD hS (Nat.le_of_ble_eq_true rfl) (Nat.le_of_ble_eq_true rfl) rfl dX12_acceptedOf_37
  exact loop_1 _ 0 (by omega) (fun i hi => absurd hi (Nat.not_lt_zero _)) (Nat.lt_succ_self _) H locs ls hP hD hS (lv_sub hl [0, 1, 2, 3] rfl)

set_option maxHeartbeats 4000000 in
set_option maxRecDepth 100000 in
theorem c_X12_confOf_f (l : Launch) (D : va_G) (cs : Nat → ClassId) (hm ms mkp mtr mas mso mon mot man mst msm mtb mti mfr mbn mbs mde maa mab mba mbb : Nat) (n k al be km en : Nat) (ea pr nq po th xd sF sN sS ig : Int32) (xa xb : Int64) (f : Nat → Int32) (v e0 : Nat) (anf : Nat → Int32) (hen : en ≤ 16) (hv : v < 8) : xMet l D cs yX12_confOf cX12_confOf 3 (some .int) ({ frames := 2, cells := 0, slots := 0, locals := 44 } : Room) [.ref hm, .int (nI v), .int (nI e0)] [(hm, .inr (12, [.ref ms, .ref mkp, .int (nI km), .ref mtr, .int (nI n), .int (nI k), .int (nI al), .int (nI be), .int ea, .int pr, .ref mas, .int nq, .int po, .int (nI en), .ref mso, .ref mon, .ref mot, .ref man, .int th, .int xd, .ref mst, .ref msm, .ref mtb, .ref mti, .ref mfr, .ref mbn, .ref mbs, .ref mde, .int sF, .int sN, .int sS, .int ig, .long xa, .long xb, .ref maa, .ref mab, .ref mba, .ref mbb])), (ms, .inl (cs 0, 288, .inl f)), (man, .inl (cs 0, 16, .inl anf))] (xQi D (fun (r : Int32) (_u : Unit) => ∃ c, c ≤ 16 ∧ r = nI c ∧ cnfM en anf f v e0 c) (fun (_u : Unit) => [(hm, .inr (12, [.ref ms, .ref mkp, .int (nI km), .ref mtr, .int (nI n), .int (nI k), .int (nI al), .int (nI be), .int ea, .int pr, .ref mas, .int nq, .int po, .int (nI en), .ref mso, .ref mon, .ref mot, .ref man, .int th, .int xd, .ref mst, .ref msm, .ref mtb, .ref mti, .ref mfr, .ref mbn, .ref mbs, .ref mde, .int sF, .int sN, .int sS, .int ig, .long xa, .long xb, .ref maa, .ref mab, .ref mba, .ref mbb])), (ms, .inl (cs 0, 288, .inl f)), (man, .inl (cs 0, 16, .inl anf))])) := by
  refine xMet.intro (by decide) (Nat.le_of_ble_eq_true rfl) ?_
  intro p e s m args below meth c A ls C hP hD hS hl
  have hx := C.1
  have hb := C.2.1
  have hz := C.2.2.2.2.1
  have hown := C.2.2.2.1
  have hA := C.2.2.2.2.2.2.2.2.2
  have hAO := C.2.2.2.2.2.2.2.2.1.2.2
  replace hl : lv_has ls 3 [(0, .ref hm), (1, .int (nI v)), (2, .int (nI e0))] := hl
  obtain ⟨H, hH⟩ : ∃ H, H = s.heap := ⟨_, rfl⟩
  replace hP : va_P D vwCl [(hm, .inr (12, [.ref ms, .ref mkp, .int (nI km), .ref mtr, .int (nI n), .int (nI k), .int (nI al), .int (nI be), .int ea, .int pr, .ref mas, .int nq, .int po, .int (nI en), .ref mso, .ref mon, .ref mot, .ref man, .int th, .int xd, .ref mst, .ref msm, .ref mtb, .ref mti, .ref mfr, .ref mbn, .ref mbs, .ref mde, .int sF, .int sN, .int sS, .int ig, .long xa, .long xb, .ref maa, .ref mab, .ref mba, .ref mbb])), (ms, .inl (cs 0, 288, .inl f)), (man, .inl (cs 0, 16, .inl anf))] H := by rw [hH]; exact hP
  replace hS : va_S A s.heap H [] := by rw [hH]; exact hS
  obtain ⟨locs, hlocs⟩ : ∃ z : List Loc, z = [] := ⟨_, rfl⟩
  rw [← hlocs] at hS
  suffices hW : W p l e ({ frames := 2, cells := 0, slots := 0, locals := 44 } : Room) s m args below meth c H locs 0 0 (MQ below ((xQi D (fun (r : Int32) (_u : Unit) => ∃ c, c ≤ 16 ∧ r = nI c ∧ cnfM en anf f v e0 c) (fun (_u : Unit) => [(hm, .inr (12, [.ref ms, .ref mkp, .int (nI km), .ref mtr, .int (nI n), .int (nI k), .int (nI al), .int (nI be), .int ea, .int pr, .ref mas, .int nq, .int po, .int (nI en), .ref mso, .ref mon, .ref mot, .ref man, .int th, .int xd, .ref mst, .ref msm, .ref mtb, .ref mti, .ref mfr, .ref mbn, .ref mbs, .ref mde, .int sF, .int sN, .int sS, .int ig, .long xa, .long xb, .ref maa, .ref mab, .ref mba, .ref mbb])), (ms, .inl (cs 0, 288, .inl f)), (man, .inl (cs 0, 16, .inl anf))])) A) args s 0 0 A) (F0 m 0 ls []) by rw [hlocs, hH] at hW; exact hW
  clear hH hlocs
  refine lv_aload_n hx hb dX12_confOf_0 rfl (lv_at hl 0 rfl) ?_
  refine xget C hP 0 rfl rfl zuX12 0 (by decide) zw5_213 rfl dX12_confOf_1 ?_
  refine lv_bipush (v := nI 64) hx hb dX12_confOf_4 (by decide) ?_
  refine lv_iload_n hx hb dX12_confOf_6 rfl (lv_at hl 1 rfl) ?_
  refine lv_iadd hx hb dX12_confOf_7 ?_
  refine lv_topi (nm_r (e' := nI (64 + v)) (nI_add _ _) ?_)
  refine xiald C hP 1 rfl (64 + v) rfl (by omega) (by decide) dX12_confOf_8 ?_
  refine lv_aload_n hx hb dX12_confOf_9 rfl (lv_at hl 0 rfl) ?_
  refine lv_iload_n hx hb dX12_confOf_10 rfl (lv_at hl 2 rfl) ?_
  refine xi (wr := [(ms, .inl (cs 0, 288, .inl f))]) (xV (As := [.int (nI e0)]) (rest := [.int (f (64 + v))]) C (c_X12_progeny_f l D cs hm ms mkp mtr mas mso mon mot man mst msm mtb mti mfr mbn mbs mde maa mab mba mbb n k al be km en ea pr nq po th xd sF sN sS ig xa xb e0 anf hen) kX12_313 hP hD [0, 2] rfl (by decide) 0 rfl rfl rfl ⟨Nat.le_of_ble_eq_true rfl, Nat.le_of_ble_eq_true rfl⟩ rfl hl.1 rfl (Nat.le_of_ble_eq_true rfl) dX12_confOf_11 ⟨Nat.le_of_ble_eq_true rfl, Nat.le_of_ble_eq_true rfl⟩) hP hD hS hA [0, 2] [1] rfl rfl (by decide) (by decide) ?_
  clear hP hD hS
  try clear locs
  try clear H
  intro r_1 u_2 H locs hw_r_1 hP hD hS
  have hw_r_1 : prgP en anf e0 r_1 := hw_r_1
  refine W.widen (k := 0) (n := 0) (Nat.le_of_ble_eq_true rfl) (Nat.le_of_ble_eq_true rfl) ?_
  replace hP : va_P D vwCl [(ms, .inl (cs 0, 288, .inl f)), (hm, .inr (12, [.ref ms, .ref mkp, .int (nI km), .ref mtr, .int (nI n), .int (nI k), .int (nI al), .int (nI be), .int ea, .int pr, .ref mas, .int nq, .int po, .int (nI en), .ref mso, .ref mon, .ref mot, .ref man, .int th, .int xd, .ref mst, .ref msm, .ref mtb, .ref mti, .ref mfr, .ref mbn, .ref mbs, .ref mde, .int sF, .int sN, .int sS, .int ig, .long xa, .long xb, .ref maa, .ref mab, .ref mba, .ref mbb])), (man, .inl (cs 0, 16, .inl anf))] H := hP
  replace hD : va_D A [(ms, .inl (cs 0, 288, .inl f)), (hm, .inr (12, [.ref ms, .ref mkp, .int (nI km), .ref mtr, .int (nI n), .int (nI k), .int (nI al), .int (nI be), .int ea, .int pr, .ref mas, .int nq, .int po, .int (nI en), .ref mso, .ref mon, .ref mot, .ref man, .int th, .int xd, .ref mst, .ref msm, .ref mtb, .ref mti, .ref mfr, .ref mbn, .ref mbs, .ref mde, .int sF, .int sN, .int sS, .int ig, .long xa, .long xb, .ref maa, .ref mab, .ref mba, .ref mbb])), (man, .inl (cs 0, 16, .inl anf))] := hD
  refine lv_iconst (v := nI 1) hx hb dX12_confOf_14 (by decide) ?_
  refine lv_iload_n hx hb dX12_confOf_15 rfl (lv_at hl 2 rfl) ?_
  refine lv_ishl hx hb dX12_confOf_16 ?_
  refine lv_ior hx hb dX12_confOf_17 ?_
  refine lv_iand hx hb dX12_confOf_18 ?_
  refine xi (wr := [(ms, .inl (cs 0, 288, .inl f)), (hm, .inr (12, [.ref ms, .ref mkp, .int (nI km), .ref mtr, .int (nI n), .int (nI k), .int (nI al), .int (nI be), .int ea, .int pr, .ref mas, .int nq, .int po, .int (nI en), .ref mso, .ref mon, .ref mot, .ref man, .int th, .int xd, .ref mst, .ref msm, .ref mtb, .ref mti, .ref mfr, .ref mbn, .ref mbs, .ref mde, .int sF, .int sN, .int sS, .int ig, .long xa, .long xb, .ref maa, .ref mab, .ref mba, .ref mbb])), (man, .inl (cs 0, 16, .inl anf))]) (xS (As := [.int ((f (64 + v)) &&& (r_1 ||| ((nI 1) <<< ((nI e0) &&& 31))))]) (rest := []) C (c_X12_many l D cs ((f (64 + v)) &&& (r_1 ||| ((nI 1) <<< ((nI e0) &&& 31))))) kX12_127 hP hD [] rfl (by decide) ⟨Nat.le_of_ble_eq_true rfl, Nat.le_of_ble_eq_true rfl⟩ rfl hl.1 rfl (Nat.le_of_ble_eq_true rfl) dX12_confOf_19 ⟨Nat.le_of_ble_eq_true rfl, Nat.le_of_ble_eq_true rfl⟩) hP hD hS hA [] [0, 1, 2] rfl rfl (by decide) (by decide) ?_
  clear hP hD hS
  try clear locs
  try clear H
  intro r_3 u_4 H locs hw_r_3 hP hD hS
  have hw_r_3 : r_3 = nI (cntL ((f (64 + v)) &&& (r_1 ||| ((nI 1) <<< ((nI e0) &&& 31)))) 16) := hw_r_3
  refine W.widen (k := 0) (n := 0) (Nat.le_of_ble_eq_true rfl) (Nat.le_of_ble_eq_true rfl) ?_
  replace hP : va_P D vwCl [(ms, .inl (cs 0, 288, .inl f)), (hm, .inr (12, [.ref ms, .ref mkp, .int (nI km), .ref mtr, .int (nI n), .int (nI k), .int (nI al), .int (nI be), .int ea, .int pr, .ref mas, .int nq, .int po, .int (nI en), .ref mso, .ref mon, .ref mot, .ref man, .int th, .int xd, .ref mst, .ref msm, .ref mtb, .ref mti, .ref mfr, .ref mbn, .ref mbs, .ref mde, .int sF, .int sN, .int sS, .int ig, .long xa, .long xb, .ref maa, .ref mab, .ref mba, .ref mbb])), (man, .inl (cs 0, 16, .inl anf))] H := hP
  replace hD : va_D A [(ms, .inl (cs 0, 288, .inl f)), (hm, .inr (12, [.ref ms, .ref mkp, .int (nI km), .ref mtr, .int (nI n), .int (nI k), .int (nI al), .int (nI be), .int ea, .int pr, .ref mas, .int nq, .int po, .int (nI en), .ref mso, .ref mon, .ref mot, .ref man, .int th, .int xd, .ref mst, .ref msm, .ref mtb, .ref mti, .ref mfr, .ref mbn, .ref mbs, .ref mde, .int sF, .int sN, .int sS, .int ig, .long xa, .long xb, .ref maa, .ref mab, .ref mba, .ref mbb])), (man, .inl (cs 0, 16, .inl anf))] := hD
  exact xreti C () (⟨_, cnt_le _ 16, hw_r_3, _, hw_r_1, rfl⟩) (xP_map hP [1, 0, 2] rfl) (hD.sub [1, 0, 2] (by decide) rfl) hS (Nat.le_of_ble_eq_true rfl) (Nat.le_of_ble_eq_true rfl) rfl dX12_confOf_22

set_option maxHeartbeats 4000000 in
set_option maxRecDepth 100000 in
theorem c_X12_isStrong_f (l : Launch) (D : va_G) (cs : Nat → ClassId) (hm ms mkp mtr mas mso mon mot man mst msm mtb mti mfr mbn mbs mde maa mab mba mbb : Nat) (n k al be km en : Nat) (ea pr nq po th xd sF sN sS ig : Int32) (xa xb : Int64) (f : Nat → Int32) (v e0 : Nat) (sof anf : Nat → Int32) (hen : en ≤ 16) (hso : inP 16 8 sof) (hv : v < 8) (he : e0 < 16) : xMet l D cs yX12_isStrong cX12_isStrong 4 (some .boolean) ({ frames := 1, cells := 0, slots := 0, locals := 21 } : Room) [.ref hm, .int (nI v), .int (nI e0)] [(hm, .inr (12, [.ref ms, .ref mkp, .int (nI km), .ref mtr, .int (nI n), .int (nI k), .int (nI al), .int (nI be), .int ea, .int pr, .ref mas, .int nq, .int po, .int (nI en), .ref mso, .ref mon, .ref mot, .ref man, .int th, .int xd, .ref mst, .ref msm, .ref mtb, .ref mti, .ref mfr, .ref mbn, .ref mbs, .ref mde, .int sF, .int sN, .int sS, .int ig, .long xa, .long xb, .ref maa, .ref mab, .ref mba, .ref mbb])), (ms, .inl (cs 0, 288, .inl f)), (mso, .inl (cs 0, 16, .inl sof)), (man, .inl (cs 0, 16, .inl anf))] (xQi D (fun (r : Int32) (_u : Unit) => PQ (strM en sof anf f v e0) r (nI 1) (nI 0)) (fun (_u : Unit) => [(hm, .inr (12, [.ref ms, .ref mkp, .int (nI km), .ref mtr, .int (nI n), .int (nI k), .int (nI al), .int (nI be), .int ea, .int pr, .ref mas, .int nq, .int po, .int (nI en), .ref mso, .ref mon, .ref mot, .ref man, .int th, .int xd, .ref mst, .ref msm, .ref mtb, .ref mti, .ref mfr, .ref mbn, .ref mbs, .ref mde, .int sF, .int sN, .int sS, .int ig, .long xa, .long xb, .ref maa, .ref mab, .ref mba, .ref mbb])), (ms, .inl (cs 0, 288, .inl f)), (mso, .inl (cs 0, 16, .inl sof)), (man, .inl (cs 0, 16, .inl anf))])) := by
  refine xMet.intro (by decide) (Nat.le_of_ble_eq_true rfl) ?_
  intro p e s m args below meth c A ls C hP hD hS hl
  have hx := C.1
  have hb := C.2.1
  have hz := C.2.2.2.2.1
  have hown := C.2.2.2.1
  have hA := C.2.2.2.2.2.2.2.2.2
  have hAO := C.2.2.2.2.2.2.2.2.1.2.2
  replace hl : lv_has ls 4 [(0, .ref hm), (1, .int (nI v)), (2, .int (nI e0))] := hl
  obtain ⟨H, hH⟩ : ∃ H, H = s.heap := ⟨_, rfl⟩
  replace hP : va_P D vwCl [(hm, .inr (12, [.ref ms, .ref mkp, .int (nI km), .ref mtr, .int (nI n), .int (nI k), .int (nI al), .int (nI be), .int ea, .int pr, .ref mas, .int nq, .int po, .int (nI en), .ref mso, .ref mon, .ref mot, .ref man, .int th, .int xd, .ref mst, .ref msm, .ref mtb, .ref mti, .ref mfr, .ref mbn, .ref mbs, .ref mde, .int sF, .int sN, .int sS, .int ig, .long xa, .long xb, .ref maa, .ref mab, .ref mba, .ref mbb])), (ms, .inl (cs 0, 288, .inl f)), (mso, .inl (cs 0, 16, .inl sof)), (man, .inl (cs 0, 16, .inl anf))] H := by rw [hH]; exact hP
  replace hS : va_S A s.heap H [] := by rw [hH]; exact hS
  obtain ⟨locs, hlocs⟩ : ∃ z : List Loc, z = [] := ⟨_, rfl⟩
  rw [← hlocs] at hS
  suffices hW : W p l e ({ frames := 1, cells := 0, slots := 0, locals := 21 } : Room) s m args below meth c H locs 0 0 (MQ below ((xQi D (fun (r : Int32) (_u : Unit) => PQ (strM en sof anf f v e0) r (nI 1) (nI 0)) (fun (_u : Unit) => [(hm, .inr (12, [.ref ms, .ref mkp, .int (nI km), .ref mtr, .int (nI n), .int (nI k), .int (nI al), .int (nI be), .int ea, .int pr, .ref mas, .int nq, .int po, .int (nI en), .ref mso, .ref mon, .ref mot, .ref man, .int th, .int xd, .ref mst, .ref msm, .ref mtb, .ref mti, .ref mfr, .ref mbn, .ref mbs, .ref mde, .int sF, .int sN, .int sS, .int ig, .long xa, .long xb, .ref maa, .ref mab, .ref mba, .ref mbb])), (ms, .inl (cs 0, 288, .inl f)), (mso, .inl (cs 0, 16, .inl sof)), (man, .inl (cs 0, 16, .inl anf))])) A) args s 0 0 A) (F0 m 0 ls []) by rw [hlocs, hH] at hW; exact hW
  clear hH hlocs
  refine lv_iconst (v := nI 0) hx hb dX12_isStrong_0 (by decide) ?_
  refine lv_istore_n (lv' := [(3, .int (nI 0)), (0, .ref hm), (1, .int (nI v)), (2, .int (nI e0))]) hx hb dX12_isStrong_1 rfl hl (by decide) rfl ?_
  clear hl
  try clear ls
  intro ls hl
  have loop_1 : ∀ (n_loop_1 : Nat) (o : Nat), (o ≤ en) → (∀ i, i < o → hasB (anf e0 ||| bitI e0) i → f (96 + 8 * v + sT sof i) = nI i) → en - o < n_loop_1 → ∀ (H : Heap) (locs : List Loc) (ls : Array Slot), va_P D vwCl [(hm, .inr (12, [.ref ms, .ref mkp, .int (nI km), .ref mtr, .int (nI n), .int (nI k), .int (nI al), .int (nI be), .int ea, .int pr, .ref mas, .int nq, .int po, .int (nI en), .ref mso, .ref mon, .ref mot, .ref man, .int th, .int xd, .ref mst, .ref msm, .ref mtb, .ref mti, .ref mfr, .ref mbn, .ref mbs, .ref mde, .int sF, .int sN, .int sS, .int ig, .long xa, .long xb, .ref maa, .ref mab, .ref mba, .ref mbb])), (ms, .inl (cs 0, 288, .inl f)), (mso, .inl (cs 0, 16, .inl sof)), (man, .inl (cs 0, 16, .inl anf))] H → va_D A [(hm, .inr (12, [.ref ms, .ref mkp, .int (nI km), .ref mtr, .int (nI n), .int (nI k), .int (nI al), .int (nI be), .int ea, .int pr, .ref mas, .int nq, .int po, .int (nI en), .ref mso, .ref mon, .ref mot, .ref man, .int th, .int xd, .ref mst, .ref msm, .ref mtb, .ref mti, .ref mfr, .ref mbn, .ref mbs, .ref mde, .int sF, .int sN, .int sS, .int ig, .long xa, .long xb, .ref maa, .ref mab, .ref mba, .ref mbb])), (ms, .inl (cs 0, 288, .inl f)), (mso, .inl (cs 0, 16, .inl sof)), (man, .inl (cs 0, 16, .inl anf))] → va_S A s.heap H locs → lv_has ls 4 [(3, .int (nI o)), (0, .ref hm), (1, .int (nI v)), (2, .int (nI e0))] → W p l e ({ frames := 1, cells := 0, slots := 0, locals := 21 } : Room) s m args below meth c H locs 0 0 (MQ below ((xQi D (fun (r : Int32) (_u : Unit) => PQ (strM en sof anf f v e0) r (nI 1) (nI 0)) (fun (_u : Unit) => [(hm, .inr (12, [.ref ms, .ref mkp, .int (nI km), .ref mtr, .int (nI n), .int (nI k), .int (nI al), .int (nI be), .int ea, .int pr, .ref mas, .int nq, .int po, .int (nI en), .ref mso, .ref mon, .ref mot, .ref man, .int th, .int xd, .ref mst, .ref msm, .ref mtb, .ref mti, .ref mfr, .ref mbn, .ref mbs, .ref mde, .int sF, .int sN, .int sS, .int ig, .long xa, .long xb, .ref maa, .ref mab, .ref mba, .ref mbb])), (ms, .inl (cs 0, 288, .inl f)), (mso, .inl (cs 0, 16, .inl sof)), (man, .inl (cs 0, 16, .inl anf))])) A) args s 0 0 A) (F0 m 2 ls []) := by
    intro n_loop_1
    induction n_loop_1 with
    | zero => intro o h_o hst9 hlt H locs ls hP hD hS hl; exact absurd hlt (Nat.not_lt_zero _)
    | succ n_loop_1 ih_loop_1 =>
      intro o h_o hst9 hlt_loop_1 H locs ls hP hD hS hl
      refine lv_iload_n hx hb dX12_isStrong_2 rfl (lv_at hl 0 rfl) ?_
      refine lv_aload_n hx hb dX12_isStrong_3 rfl (lv_at hl 1 rfl) ?_
      refine xget C hP 0 rfl rfl zuX12 13 (by decide) zw5_226 rfl dX12_isStrong_4 ?_
      refine lv_icmp_ge (tgt := 58) hx hb dX12_isStrong_7 (by decide) (fun c_2 => ?_) (fun c_2 => ?_)
      · -- 7 t
        have fc_2 : en ≤ o := nf_le (by omega) (by omega) c_2
        refine lv_iconst (v := nI 1) hx hb dX12_isStrong_58 (by decide) ?_
        exact xreti C () (Or.inl ⟨fun i hi hb => hst9 i (by omega) hb, rfl⟩) hP hD hS (Nat.le_of_ble_eq_true rfl) (Nat.le_of_ble_eq_true rfl) (by decide) dX12_isStrong_59
      · -- 7 f
        have fc_2 : o < en := nf_nle (by omega) (by omega) c_2
        refine lv_aload_n hx hb dX12_isStrong_10 rfl (lv_at hl 1 rfl) ?_
        refine xget C hP 0 rfl rfl zuX12 17 (by decide) zw5_230 rfl dX12_isStrong_11 ?_
        refine lv_iload_n hx hb dX12_isStrong_14 rfl (lv_at hl 3 rfl) ?_
        refine xiald C hP 3 rfl e0 rfl (by omega) (by decide) dX12_isStrong_15 ?_
        refine lv_iconst (v := nI 1) hx hb dX12_isStrong_16 (by decide) ?_
        refine lv_iload_n hx hb dX12_isStrong_17 rfl (lv_at hl 3 rfl) ?_
        refine lv_ishl hx hb dX12_isStrong_18 ?_
        refine lv_ior hx hb dX12_isStrong_19 ?_
        refine lv_iload_n hx hb dX12_isStrong_20 rfl (lv_at hl 0 rfl) ?_
        refine xi (wr := [(hm, .inr (12, [.ref ms, .ref mkp, .int (nI km), .ref mtr, .int (nI n), .int (nI k), .int (nI al), .int (nI be), .int ea, .int pr, .ref mas, .int nq, .int po, .int (nI en), .ref mso, .ref mon, .ref mot, .ref man, .int th, .int xd, .ref mst, .ref msm, .ref mtb, .ref mti, .ref mfr, .ref mbn, .ref mbs, .ref mde, .int sF, .int sN, .int sS, .int ig, .long xa, .long xb, .ref maa, .ref mab, .ref mba, .ref mbb])), (ms, .inl (cs 0, 288, .inl f)), (mso, .inl (cs 0, 16, .inl sof)), (man, .inl (cs 0, 16, .inl anf))]) (xS (As := [.int ((anf e0) ||| ((nI 1) <<< ((nI e0) &&& 31))), .int (nI o)]) (rest := []) C (c_X12_has l D cs ((anf e0) ||| ((nI 1) <<< ((nI e0) &&& 31))) o) kX12_100 hP hD [] rfl (by decide) ⟨Nat.le_of_ble_eq_true rfl, Nat.le_of_ble_eq_true rfl⟩ rfl hl.1 rfl (Nat.le_of_ble_eq_true rfl) dX12_isStrong_21 ⟨Nat.le_of_ble_eq_true rfl, Nat.le_of_ble_eq_true rfl⟩) hP hD hS hA [] [0, 1, 2, 3] rfl rfl (by decide) (by decide) ?_
        clear hP hD hS
        try clear locs
        try clear H
        intro r_3 u_4 H locs hw_r_3 hP hD hS
        have hw_r_3 : PQ (hasB ((anf e0) ||| ((nI 1) <<< ((nI e0) &&& 31))) o) r_3 (nI 1) (nI 0) := hw_r_3
        refine W.widen (k := 0) (n := 0) (Nat.le_of_ble_eq_true rfl) (Nat.le_of_ble_eq_true rfl) ?_
        replace hP : va_P D vwCl [(hm, .inr (12, [.ref ms, .ref mkp, .int (nI km), .ref mtr, .int (nI n), .int (nI k), .int (nI al), .int (nI be), .int ea, .int pr, .ref mas, .int nq, .int po, .int (nI en), .ref mso, .ref mon, .ref mot, .ref man, .int th, .int xd, .ref mst, .ref msm, .ref mtb, .ref mti, .ref mfr, .ref mbn, .ref mbs, .ref mde, .int sF, .int sN, .int sS, .int ig, .long xa, .long xb, .ref maa, .ref mab, .ref mba, .ref mbb])), (ms, .inl (cs 0, 288, .inl f)), (mso, .inl (cs 0, 16, .inl sof)), (man, .inl (cs 0, 16, .inl anf))] H := hP
        replace hD : va_D A [(hm, .inr (12, [.ref ms, .ref mkp, .int (nI km), .ref mtr, .int (nI n), .int (nI k), .int (nI al), .int (nI be), .int ea, .int pr, .ref mas, .int nq, .int po, .int (nI en), .ref mso, .ref mon, .ref mot, .ref man, .int th, .int xd, .ref mst, .ref msm, .ref mtb, .ref mti, .ref mfr, .ref mbn, .ref mbs, .ref mde, .int sF, .int sN, .int sS, .int ig, .long xa, .long xb, .ref maa, .ref mab, .ref mba, .ref mbb])), (ms, .inl (cs 0, 288, .inl f)), (mso, .inl (cs 0, 16, .inl sof)), (man, .inl (cs 0, 16, .inl anf))] := hD
        refine lv_if_eq (tgt := 52) hx hb dX12_isStrong_24 (by decide) (fun c_5 => ?_) (fun c_5 => ?_)
        · -- 24 t
          refine lv_iinc (v := nI (o + 1)) (lv' := [(3, .int (nI (o + 1))), (0, .ref hm), (1, .int (nI v)), (2, .int (nI e0))]) hx hb dX12_isStrong_52 hl (k := 0) rfl (nI_add o 1) (by decide) rfl ?_
          clear hl
          try clear ls
          intro ls hl
          refine lv_goto (tgt := 2) hx hb dX12_isStrong_55 (by decide) ?_
          exact ih_loop_1 (o + 1) (by omega) (fun i hi hb => by by_cases q : i = o; subst q; exact absurd hb (PQ.no hw_r_3 c_5 (by decide)); exact hst9 i (by omega) hb) (by omega) H locs ls hP hD hS (lv_sub hl [0, 1, 2, 3] rfl)
        · -- 24 f
          refine lv_aload_n hx hb dX12_isStrong_27 rfl (lv_at hl 1 rfl) ?_
          refine xget C hP 0 rfl rfl zuX12 0 (by decide) zw5_213 rfl dX12_isStrong_28 ?_
          refine lv_bipush (v := nI 96) hx hb dX12_isStrong_31 (by decide) ?_
          refine lv_bipush (v := nI 8) hx hb dX12_isStrong_33 (by decide) ?_
          refine lv_iload_n hx hb dX12_isStrong_35 rfl (lv_at hl 2 rfl) ?_
          refine lv_imul hx hb dX12_isStrong_36 ?_
          refine lv_topi (nm_r (e' := nI (8 * v)) (pk_mul _ _) ?_)
          refine lv_iadd hx hb dX12_isStrong_37 ?_
          refine lv_topi (nm_r (e' := nI (96 + (8 * v))) (nI_add _ _) ?_)
          refine lv_aload_n hx hb dX12_isStrong_38 rfl (lv_at hl 1 rfl) ?_
          refine xget C hP 0 rfl rfl zuX12 14 (by decide) zw5_227 rfl dX12_isStrong_39 ?_
          refine lv_iload_n hx hb dX12_isStrong_42 rfl (lv_at hl 0 rfl) ?_
          refine xiald C hP 2 rfl o rfl (by omega) (by decide) dX12_isStrong_43 ?_
          refine lv_topi (nm_r (e' := nI (sT sof o)) ((sT_eq hso (by omega)).2) ?_)
          have h8t := (sT_eq hso (show o < 16 by omega)).1
          refine lv_iadd hx hb dX12_isStrong_44 ?_
          refine lv_topi (nm_r (e' := nI ((96 + (8 * v)) + (sT sof o))) (nI_add _ _) ?_)
          refine xiald C hP 1 rfl ((96 + (8 * v)) + (sT sof o)) rfl (by omega) (by decide) dX12_isStrong_45 ?_
          refine lv_iload_n hx hb dX12_isStrong_46 rfl (lv_at hl 0 rfl) ?_
          refine lv_icmp_eq (tgt := 52) hx hb dX12_isStrong_47 (by decide) (fun c_6 => ?_) (fun c_6 => ?_)
          · -- 47 t
            refine lv_iinc (v := nI (o + 1)) (lv' := [(3, .int (nI (o + 1))), (0, .ref hm), (1, .int (nI v)), (2, .int (nI e0))]) hx hb dX12_isStrong_52 hl (k := 0) rfl (nI_add o 1) (by decide) rfl ?_
            clear hl
            try clear ls
            intro ls hl
            refine lv_goto (tgt := 2) hx hb dX12_isStrong_55 (by decide) ?_
            exact ih_loop_1 (o + 1) (by omega) (fun i hi hb => by by_cases q : i = o; subst q; exact c_6; exact hst9 i (by omega) hb) (by omega) H locs ls hP hD hS (lv_sub hl [0, 1, 2, 3] rfl)
          · -- 47 f
            refine lv_iconst (v := nI 0) hx hb dX12_isStrong_50 (by decide) ?_
            exact xreti C () (Or.inr ⟨fun q => c_6 (q o (by omega) (PQ.yes hw_r_3 c_5)), rfl⟩) hP hD hS (Nat.le_of_ble_eq_true rfl) (Nat.le_of_ble_eq_true rfl) (by decide) dX12_isStrong_51
  exact loop_1 _ 0 (by omega) (fun i hi => absurd hi (Nat.not_lt_zero _)) (Nat.lt_succ_self _) H locs ls hP hD hS (lv_sub hl [0, 1, 2, 3] rfl)

set_option maxHeartbeats 4000000 in
set_option maxRecDepth 100000 in
theorem c_X12_saysYes_f (l : Launch) (D : va_G) (cs : Nat → ClassId) (hm ms mkp mtr mas mso mon mot man mst msm mtb mti mfr mbn mbs mde maa mab mba mbb : Nat) (n k al be km en : Nat) (ea pr nq po th xd sF sN sS ig : Int32) (xa xb : Int64) (f : Nat → Int32) (b a e0 : Nat) (sof anf : Nat → Int32) (hen : en ≤ 16) (hso : inP 16 8 sof) (hb8 : b < 8) (ha : a < 8) (he : e0 < 16) : xMet l D cs yX12_saysYes cX12_saysYes 5 (some .boolean) ({ frames := 2, cells := 0, slots := 0, locals := 44 } : Room) [.ref hm, .int (nI b), .int (nI a), .int (nI e0)] [(hm, .inr (12, [.ref ms, .ref mkp, .int (nI km), .ref mtr, .int (nI n), .int (nI k), .int (nI al), .int (nI be), .int ea, .int pr, .ref mas, .int nq, .int po, .int (nI en), .ref mso, .ref mon, .ref mot, .ref man, .int th, .int xd, .ref mst, .ref msm, .ref mtb, .ref mti, .ref mfr, .ref mbn, .ref mbs, .ref mde, .int sF, .int sN, .int sS, .int ig, .long xa, .long xb, .ref maa, .ref mab, .ref mba, .ref mbb])), (ms, .inl (cs 0, 288, .inl f)), (mso, .inl (cs 0, 16, .inl sof)), (man, .inl (cs 0, 16, .inl anf))] (xQi D (fun (r : Int32) (_u : Unit) => PQ (sysM en sof anf f b a e0) r (nI 1) (nI 0)) (fun (_u : Unit) => [(hm, .inr (12, [.ref ms, .ref mkp, .int (nI km), .ref mtr, .int (nI n), .int (nI k), .int (nI al), .int (nI be), .int ea, .int pr, .ref mas, .int nq, .int po, .int (nI en), .ref mso, .ref mon, .ref mot, .ref man, .int th, .int xd, .ref mst, .ref msm, .ref mtb, .ref mti, .ref mfr, .ref mbn, .ref mbs, .ref mde, .int sF, .int sN, .int sS, .int ig, .long xa, .long xb, .ref maa, .ref mab, .ref mba, .ref mbb])), (ms, .inl (cs 0, 288, .inl f)), (mso, .inl (cs 0, 16, .inl sof)), (man, .inl (cs 0, 16, .inl anf))])) := by
  refine xMet.intro (by decide) (Nat.le_of_ble_eq_true rfl) ?_
  intro p e s m args below meth c A ls C hP hD hS hl
  have hx := C.1
  have hb := C.2.1
  have hz := C.2.2.2.2.1
  have hown := C.2.2.2.1
  have hA := C.2.2.2.2.2.2.2.2.2
  have hAO := C.2.2.2.2.2.2.2.2.1.2.2
  replace hl : lv_has ls 5 [(0, .ref hm), (1, .int (nI b)), (2, .int (nI a)), (3, .int (nI e0))] := hl
  obtain ⟨H, hH⟩ : ∃ H, H = s.heap := ⟨_, rfl⟩
  replace hP : va_P D vwCl [(hm, .inr (12, [.ref ms, .ref mkp, .int (nI km), .ref mtr, .int (nI n), .int (nI k), .int (nI al), .int (nI be), .int ea, .int pr, .ref mas, .int nq, .int po, .int (nI en), .ref mso, .ref mon, .ref mot, .ref man, .int th, .int xd, .ref mst, .ref msm, .ref mtb, .ref mti, .ref mfr, .ref mbn, .ref mbs, .ref mde, .int sF, .int sN, .int sS, .int ig, .long xa, .long xb, .ref maa, .ref mab, .ref mba, .ref mbb])), (ms, .inl (cs 0, 288, .inl f)), (mso, .inl (cs 0, 16, .inl sof)), (man, .inl (cs 0, 16, .inl anf))] H := by rw [hH]; exact hP
  replace hS : va_S A s.heap H [] := by rw [hH]; exact hS
  obtain ⟨locs, hlocs⟩ : ∃ z : List Loc, z = [] := ⟨_, rfl⟩
  rw [← hlocs] at hS
  suffices hW : W p l e ({ frames := 2, cells := 0, slots := 0, locals := 44 } : Room) s m args below meth c H locs 0 0 (MQ below ((xQi D (fun (r : Int32) (_u : Unit) => PQ (sysM en sof anf f b a e0) r (nI 1) (nI 0)) (fun (_u : Unit) => [(hm, .inr (12, [.ref ms, .ref mkp, .int (nI km), .ref mtr, .int (nI n), .int (nI k), .int (nI al), .int (nI be), .int ea, .int pr, .ref mas, .int nq, .int po, .int (nI en), .ref mso, .ref mon, .ref mot, .ref man, .int th, .int xd, .ref mst, .ref msm, .ref mtb, .ref mti, .ref mfr, .ref mbn, .ref mbs, .ref mde, .int sF, .int sN, .int sS, .int ig, .long xa, .long xb, .ref maa, .ref mab, .ref mba, .ref mbb])), (ms, .inl (cs 0, 288, .inl f)), (mso, .inl (cs 0, 16, .inl sof)), (man, .inl (cs 0, 16, .inl anf))])) A) args s 0 0 A) (F0 m 0 ls []) by rw [hlocs, hH] at hW; exact hW
  clear hH hlocs
  refine lv_aload_n hx hb dX12_saysYes_0 rfl (lv_at hl 0 rfl) ?_
  refine xget C hP 0 rfl rfl zuX12 0 (by decide) zw5_213 rfl dX12_saysYes_1 ?_
  refine lv_bipush (v := nI 56) hx hb dX12_saysYes_4 (by decide) ?_
  refine lv_iload_n hx hb dX12_saysYes_6 rfl (lv_at hl 2 rfl) ?_
  refine lv_iadd hx hb dX12_saysYes_7 ?_
  refine lv_topi (nm_r (e' := nI (56 + a)) (nI_add _ _) ?_)
  refine xiald C hP 1 rfl (56 + a) rfl (by omega) (by decide) dX12_saysYes_8 ?_
  refine lv_iload_n hx hb dX12_saysYes_9 rfl (lv_at hl 1 rfl) ?_
  refine xi (wr := [(hm, .inr (12, [.ref ms, .ref mkp, .int (nI km), .ref mtr, .int (nI n), .int (nI k), .int (nI al), .int (nI be), .int ea, .int pr, .ref mas, .int nq, .int po, .int (nI en), .ref mso, .ref mon, .ref mot, .ref man, .int th, .int xd, .ref mst, .ref msm, .ref mtb, .ref mti, .ref mfr, .ref mbn, .ref mbs, .ref mde, .int sF, .int sN, .int sS, .int ig, .long xa, .long xb, .ref maa, .ref mab, .ref mba, .ref mbb])), (ms, .inl (cs 0, 288, .inl f)), (mso, .inl (cs 0, 16, .inl sof)), (man, .inl (cs 0, 16, .inl anf))]) (xS (As := [.int (f (56 + a)), .int (nI b)]) (rest := []) C (c_X12_has l D cs (f (56 + a)) b) kX12_100 hP hD [] rfl (by decide) ⟨Nat.le_of_ble_eq_true rfl, Nat.le_of_ble_eq_true rfl⟩ rfl hl.1 rfl (Nat.le_of_ble_eq_true rfl) dX12_saysYes_10 ⟨Nat.le_of_ble_eq_true rfl, Nat.le_of_ble_eq_true rfl⟩) hP hD hS hA [] [0, 1, 2, 3] rfl rfl (by decide) (by decide) ?_
  clear hP hD hS
  try clear locs
  try clear H
  intro r_1 u_2 H locs hw_r_1 hP hD hS
  have hw_r_1 : PQ (hasB (f (56 + a)) b) r_1 (nI 1) (nI 0) := hw_r_1
  refine W.widen (k := 0) (n := 0) (Nat.le_of_ble_eq_true rfl) (Nat.le_of_ble_eq_true rfl) ?_
  replace hP : va_P D vwCl [(hm, .inr (12, [.ref ms, .ref mkp, .int (nI km), .ref mtr, .int (nI n), .int (nI k), .int (nI al), .int (nI be), .int ea, .int pr, .ref mas, .int nq, .int po, .int (nI en), .ref mso, .ref mon, .ref mot, .ref man, .int th, .int xd, .ref mst, .ref msm, .ref mtb, .ref mti, .ref mfr, .ref mbn, .ref mbs, .ref mde, .int sF, .int sN, .int sS, .int ig, .long xa, .long xb, .ref maa, .ref mab, .ref mba, .ref mbb])), (ms, .inl (cs 0, 288, .inl f)), (mso, .inl (cs 0, 16, .inl sof)), (man, .inl (cs 0, 16, .inl anf))] H := hP
  replace hD : va_D A [(hm, .inr (12, [.ref ms, .ref mkp, .int (nI km), .ref mtr, .int (nI n), .int (nI k), .int (nI al), .int (nI be), .int ea, .int pr, .ref mas, .int nq, .int po, .int (nI en), .ref mso, .ref mon, .ref mot, .ref man, .int th, .int xd, .ref mst, .ref msm, .ref mtb, .ref mti, .ref mfr, .ref mbn, .ref mbs, .ref mde, .int sF, .int sN, .int sS, .int ig, .long xa, .long xb, .ref maa, .ref mab, .ref mba, .ref mbb])), (ms, .inl (cs 0, 288, .inl f)), (mso, .inl (cs 0, 16, .inl sof)), (man, .inl (cs 0, 16, .inl anf))] := hD
  refine lv_if_ne (tgt := 18) hx hb dX12_saysYes_13 (by decide) (fun c_3 => ?_) (fun c_3 => ?_)
  · -- 13 t
    refine lv_aload_n hx hb dX12_saysYes_18 rfl (lv_at hl 0 rfl) ?_
    refine xget C hP 0 rfl rfl zuX12 0 (by decide) zw5_213 rfl dX12_saysYes_19 ?_
    refine lv_bipush (v := nI 48) hx hb dX12_saysYes_22 (by decide) ?_
    refine lv_iload_n hx hb dX12_saysYes_24 rfl (lv_at hl 1 rfl) ?_
    refine lv_iadd hx hb dX12_saysYes_25 ?_
    refine lv_topi (nm_r (e' := nI (48 + b)) (nI_add _ _) ?_)
    refine xiald C hP 1 rfl (48 + b) rfl (by omega) (by decide) dX12_saysYes_26 ?_
    refine lv_istore (lv' := [(4, .int (f (48 + b))), (0, .ref hm), (1, .int (nI b)), (2, .int (nI a)), (3, .int (nI e0))]) hx hb dX12_saysYes_27 hl (by decide) rfl ?_
    clear hl
    try clear ls
    intro ls hl
    refine lv_iload hx hb dX12_saysYes_29 (lv_at hl 0 rfl) ?_
    refine lv_if_ne (tgt := 43) hx hb dX12_saysYes_31 (by decide) (fun c_4 => ?_) (fun c_4 => ?_)
    · -- 31 t
      refine lv_iload hx hb dX12_saysYes_43 (lv_at hl 0 rfl) ?_
      refine lv_iconst (v := nI 2) hx hb dX12_saysYes_45 (by decide) ?_
      refine lv_icmp_eq (tgt := 64) hx hb dX12_saysYes_46 (by decide) (fun c_5 => ?_) (fun c_5 => ?_)
      · -- 46 t
        refine lv_iconst (v := nI 1) hx hb dX12_saysYes_64 (by decide) ?_
        refine lv_goto (tgt := 69) hx hb dX12_saysYes_65 (by decide) ?_
        exact xreti C () (Or.inl ⟨⟨PQ.yes hw_r_1 c_3, Or.inr (Or.inl c_5)⟩, rfl⟩) hP hD hS (Nat.le_of_ble_eq_true rfl) (Nat.le_of_ble_eq_true rfl) (by decide) dX12_saysYes_69
      · -- 46 f
        refine lv_iload hx hb dX12_saysYes_49 (lv_at hl 0 rfl) ?_
        refine lv_iconst (v := nI 3) hx hb dX12_saysYes_51 (by decide) ?_
        refine lv_icmp_ne (tgt := 68) hx hb dX12_saysYes_52 (by decide) (fun c_6 => ?_) (fun c_6 => ?_)
        · -- 52 t
          refine lv_iconst (v := nI 0) hx hb dX12_saysYes_68 (by decide) ?_
          exact xreti C () (Or.inr ⟨fun q => q.2.elim (fun z => c_4 z.1) (fun z => z.elim c_5 (fun y9 => c_6 y9.1)), rfl⟩) hP hD hS (Nat.le_of_ble_eq_true rfl) (Nat.le_of_ble_eq_true rfl) (by decide) dX12_saysYes_69
        · -- 52 f
          refine lv_aload_n hx hb dX12_saysYes_55 rfl (lv_at hl 1 rfl) ?_
          refine lv_iload_n hx hb dX12_saysYes_56 rfl (lv_at hl 3 rfl) ?_
          refine lv_iload_n hx hb dX12_saysYes_57 rfl (lv_at hl 4 rfl) ?_
          refine xi (wr := []) (xV (As := [.int (nI a), .int (nI e0)]) (rest := []) C (c_X12_isStrong_f l D cs hm ms mkp mtr mas mso mon mot man mst msm mtb mti mfr mbn mbs mde maa mab mba mbb n k al be km en ea pr nq po th xd sF sN sS ig xa xb f a e0 sof anf hen hso ha he) kX12_316 hP hD [0, 1, 2, 3] rfl (by decide) 0 rfl rfl rfl ⟨Nat.le_of_ble_eq_true rfl, Nat.le_of_ble_eq_true rfl⟩ rfl hl.1 rfl (Nat.le_of_ble_eq_true rfl) dX12_saysYes_58 ⟨Nat.le_of_ble_eq_true rfl, Nat.le_of_ble_eq_true rfl⟩) hP hD hS hA [0, 1, 2, 3] [] rfl rfl (by decide) (by decide) ?_
          clear hP hD hS
          try clear locs
          try clear H
          intro r_7 u_8 H locs hw_r_7 hP hD hS
          have hw_r_7 : PQ (strM en sof anf f a e0) r_7 (nI 1) (nI 0) := hw_r_7
          refine W.widen (k := 0) (n := 0) (Nat.le_of_ble_eq_true rfl) (Nat.le_of_ble_eq_true rfl) ?_
          replace hP : va_P D vwCl [(hm, .inr (12, [.ref ms, .ref mkp, .int (nI km), .ref mtr, .int (nI n), .int (nI k), .int (nI al), .int (nI be), .int ea, .int pr, .ref mas, .int nq, .int po, .int (nI en), .ref mso, .ref mon, .ref mot, .ref man, .int th, .int xd, .ref mst, .ref msm, .ref mtb, .ref mti, .ref mfr, .ref mbn, .ref mbs, .ref mde, .int sF, .int sN, .int sS, .int ig, .long xa, .long xb, .ref maa, .ref mab, .ref mba, .ref mbb])), (ms, .inl (cs 0, 288, .inl f)), (mso, .inl (cs 0, 16, .inl sof)), (man, .inl (cs 0, 16, .inl anf))] H := hP
          replace hD : va_D A [(hm, .inr (12, [.ref ms, .ref mkp, .int (nI km), .ref mtr, .int (nI n), .int (nI k), .int (nI al), .int (nI be), .int ea, .int pr, .ref mas, .int nq, .int po, .int (nI en), .ref mso, .ref mon, .ref mot, .ref man, .int th, .int xd, .ref mst, .ref msm, .ref mtb, .ref mti, .ref mfr, .ref mbn, .ref mbs, .ref mde, .int sF, .int sN, .int sS, .int ig, .long xa, .long xb, .ref maa, .ref mab, .ref mba, .ref mbb])), (ms, .inl (cs 0, 288, .inl f)), (mso, .inl (cs 0, 16, .inl sof)), (man, .inl (cs 0, 16, .inl anf))] := hD
          refine lv_if_ne (tgt := 68) hx hb dX12_saysYes_61 (by decide) (fun c_9 => ?_) (fun c_9 => ?_)
          · -- 61 t
            refine lv_iconst (v := nI 0) hx hb dX12_saysYes_68 (by decide) ?_
            exact xreti C () (Or.inr ⟨fun q => q.2.elim (fun z => c_4 z.1) (fun z => z.elim c_5 (fun y9 => y9.2 (PQ.yes hw_r_7 c_9))), rfl⟩) hP hD hS (Nat.le_of_ble_eq_true rfl) (Nat.le_of_ble_eq_true rfl) (by decide) dX12_saysYes_69
          · -- 61 f
            refine lv_iconst (v := nI 1) hx hb dX12_saysYes_64 (by decide) ?_
            refine lv_goto (tgt := 69) hx hb dX12_saysYes_65 (by decide) ?_
            exact xreti C () (Or.inl ⟨⟨PQ.yes hw_r_1 c_3, Or.inr (Or.inr ⟨c_6, PQ.no hw_r_7 c_9 (by decide)⟩)⟩, rfl⟩) hP hD hS (Nat.le_of_ble_eq_true rfl) (Nat.le_of_ble_eq_true rfl) (by decide) dX12_saysYes_69
    · -- 31 f
      refine lv_aload_n hx hb dX12_saysYes_34 rfl (lv_at hl 1 rfl) ?_
      refine lv_iload_n hx hb dX12_saysYes_35 rfl (lv_at hl 2 rfl) ?_
      refine lv_iload_n hx hb dX12_saysYes_36 rfl (lv_at hl 4 rfl) ?_
      refine xi (wr := []) (xV (As := [.int (nI b), .int (nI e0)]) (rest := []) C (c_X12_isStrong_f l D cs hm ms mkp mtr mas mso mon mot man mst msm mtb mti mfr mbn mbs mde maa mab mba mbb n k al be km en ea pr nq po th xd sF sN sS ig xa xb f b e0 sof anf hen hso hb8 he) kX12_316 hP hD [0, 1, 2, 3] rfl (by decide) 0 rfl rfl rfl ⟨Nat.le_of_ble_eq_true rfl, Nat.le_of_ble_eq_true rfl⟩ rfl hl.1 rfl (Nat.le_of_ble_eq_true rfl) dX12_saysYes_37 ⟨Nat.le_of_ble_eq_true rfl, Nat.le_of_ble_eq_true rfl⟩) hP hD hS hA [0, 1, 2, 3] [] rfl rfl (by decide) (by decide) ?_
      clear hP hD hS
      try clear locs
      try clear H
      intro r_10 u_11 H locs hw_r_10 hP hD hS
      have hw_r_10 : PQ (strM en sof anf f b e0) r_10 (nI 1) (nI 0) := hw_r_10
      refine W.widen (k := 0) (n := 0) (Nat.le_of_ble_eq_true rfl) (Nat.le_of_ble_eq_true rfl) ?_
      replace hP : va_P D vwCl [(hm, .inr (12, [.ref ms, .ref mkp, .int (nI km), .ref mtr, .int (nI n), .int (nI k), .int (nI al), .int (nI be), .int ea, .int pr, .ref mas, .int nq, .int po, .int (nI en), .ref mso, .ref mon, .ref mot, .ref man, .int th, .int xd, .ref mst, .ref msm, .ref mtb, .ref mti, .ref mfr, .ref mbn, .ref mbs, .ref mde, .int sF, .int sN, .int sS, .int ig, .long xa, .long xb, .ref maa, .ref mab, .ref mba, .ref mbb])), (ms, .inl (cs 0, 288, .inl f)), (mso, .inl (cs 0, 16, .inl sof)), (man, .inl (cs 0, 16, .inl anf))] H := hP
      replace hD : va_D A [(hm, .inr (12, [.ref ms, .ref mkp, .int (nI km), .ref mtr, .int (nI n), .int (nI k), .int (nI al), .int (nI be), .int ea, .int pr, .ref mas, .int nq, .int po, .int (nI en), .ref mso, .ref mon, .ref mot, .ref man, .int th, .int xd, .ref mst, .ref msm, .ref mtb, .ref mti, .ref mfr, .ref mbn, .ref mbs, .ref mde, .int sF, .int sN, .int sS, .int ig, .long xa, .long xb, .ref maa, .ref mab, .ref mba, .ref mbb])), (ms, .inl (cs 0, 288, .inl f)), (mso, .inl (cs 0, 16, .inl sof)), (man, .inl (cs 0, 16, .inl anf))] := hD
      refine lv_goto (tgt := 69) hx hb dX12_saysYes_40 (by decide) ?_
      exact xreti C () (PQ.iff ⟨fun q => ⟨PQ.yes hw_r_1 c_3, Or.inl ⟨c_4, q⟩⟩, fun q => q.2.elim (fun z => z.2) (fun z => z.elim (fun y9 => absurd (c_4.symm.trans y9) (by decide)) (fun y9 => absurd (c_4.symm.trans y9.1) (by decide)))⟩ hw_r_10) hP hD hS (Nat.le_of_ble_eq_true rfl) (Nat.le_of_ble_eq_true rfl) (nb_of (PQ.b01 hw_r_10)) dX12_saysYes_69
  · -- 13 f
    refine lv_iconst (v := nI 0) hx hb dX12_saysYes_16 (by decide) ?_
    exact xreti C () (Or.inr ⟨fun q => PQ.no hw_r_1 c_3 (by decide) q.1, rfl⟩) hP hD hS (Nat.le_of_ble_eq_true rfl) (Nat.le_of_ble_eq_true rfl) (by decide) dX12_saysYes_17

set_option maxHeartbeats 4000000 in
set_option maxRecDepth 100000 in
theorem c_X12_yesOf_f (l : Launch) (D : va_G) (cs : Nat → ClassId) (hm ms mkp mtr mas mso mon mot man mst msm mtb mti mfr mbn mbs mde maa mab mba mbb : Nat) (n k al be km en : Nat) (ea pr nq po th xd sF sN sS ig : Int32) (xa xb : Int64) (f : Nat → Int32) (a e0 : Nat) (x : Int32) (sof anf : Nat → Int32) (hn : 2 ≤ n ∧ n ≤ 8) (hen : en ≤ 16) (hso : inP 16 8 sof) (ha : a < 8) (he : e0 < 16) : xMet l D cs yX12_yesOf cX12_yesOf 6 (some .int) ({ frames := 3, cells := 0, slots := 0, locals := 68 } : Room) [.ref hm, .int (nI a), .int (nI e0), .int x] [(hm, .inr (12, [.ref ms, .ref mkp, .int (nI km), .ref mtr, .int (nI n), .int (nI k), .int (nI al), .int (nI be), .int ea, .int pr, .ref mas, .int nq, .int po, .int (nI en), .ref mso, .ref mon, .ref mot, .ref man, .int th, .int xd, .ref mst, .ref msm, .ref mtb, .ref mti, .ref mfr, .ref mbn, .ref mbs, .ref mde, .int sF, .int sN, .int sS, .int ig, .long xa, .long xb, .ref maa, .ref mab, .ref mba, .ref mbb])), (ms, .inl (cs 0, 288, .inl f)), (mso, .inl (cs 0, 16, .inl sof)), (man, .inl (cs 0, 16, .inl anf))] (xQi D (fun (r : Int32) (_u : Unit) => ∃ c, c ≤ 8 ∧ r = nI c ∧ yesM en sof anf f a e0 x n c) (fun (_u : Unit) => [(hm, .inr (12, [.ref ms, .ref mkp, .int (nI km), .ref mtr, .int (nI n), .int (nI k), .int (nI al), .int (nI be), .int ea, .int pr, .ref mas, .int nq, .int po, .int (nI en), .ref mso, .ref mon, .ref mot, .ref man, .int th, .int xd, .ref mst, .ref msm, .ref mtb, .ref mti, .ref mfr, .ref mbn, .ref mbs, .ref mde, .int sF, .int sN, .int sS, .int ig, .long xa, .long xb, .ref maa, .ref mab, .ref mba, .ref mbb])), (ms, .inl (cs 0, 288, .inl f)), (mso, .inl (cs 0, 16, .inl sof)), (man, .inl (cs 0, 16, .inl anf))])) := by
  refine xMet.intro (by decide) (Nat.le_of_ble_eq_true rfl) ?_
  intro p e s m args below meth c A ls C hP hD hS hl
  have hx := C.1
  have hb := C.2.1
  have hz := C.2.2.2.2.1
  have hown := C.2.2.2.1
  have hA := C.2.2.2.2.2.2.2.2.2
  have hAO := C.2.2.2.2.2.2.2.2.1.2.2
  replace hl : lv_has ls 6 [(0, .ref hm), (1, .int (nI a)), (2, .int (nI e0)), (3, .int x)] := hl
  obtain ⟨H, hH⟩ : ∃ H, H = s.heap := ⟨_, rfl⟩
  replace hP : va_P D vwCl [(hm, .inr (12, [.ref ms, .ref mkp, .int (nI km), .ref mtr, .int (nI n), .int (nI k), .int (nI al), .int (nI be), .int ea, .int pr, .ref mas, .int nq, .int po, .int (nI en), .ref mso, .ref mon, .ref mot, .ref man, .int th, .int xd, .ref mst, .ref msm, .ref mtb, .ref mti, .ref mfr, .ref mbn, .ref mbs, .ref mde, .int sF, .int sN, .int sS, .int ig, .long xa, .long xb, .ref maa, .ref mab, .ref mba, .ref mbb])), (ms, .inl (cs 0, 288, .inl f)), (mso, .inl (cs 0, 16, .inl sof)), (man, .inl (cs 0, 16, .inl anf))] H := by rw [hH]; exact hP
  replace hS : va_S A s.heap H [] := by rw [hH]; exact hS
  obtain ⟨locs, hlocs⟩ : ∃ z : List Loc, z = [] := ⟨_, rfl⟩
  rw [← hlocs] at hS
  suffices hW : W p l e ({ frames := 3, cells := 0, slots := 0, locals := 68 } : Room) s m args below meth c H locs 0 0 (MQ below ((xQi D (fun (r : Int32) (_u : Unit) => ∃ c, c ≤ 8 ∧ r = nI c ∧ yesM en sof anf f a e0 x n c) (fun (_u : Unit) => [(hm, .inr (12, [.ref ms, .ref mkp, .int (nI km), .ref mtr, .int (nI n), .int (nI k), .int (nI al), .int (nI be), .int ea, .int pr, .ref mas, .int nq, .int po, .int (nI en), .ref mso, .ref mon, .ref mot, .ref man, .int th, .int xd, .ref mst, .ref msm, .ref mtb, .ref mti, .ref mfr, .ref mbn, .ref mbs, .ref mde, .int sF, .int sN, .int sS, .int ig, .long xa, .long xb, .ref maa, .ref mab, .ref mba, .ref mbb])), (ms, .inl (cs 0, 288, .inl f)), (mso, .inl (cs 0, 16, .inl sof)), (man, .inl (cs 0, 16, .inl anf))])) A) args s 0 0 A) (F0 m 0 ls []) by rw [hlocs, hH] at hW; exact hW
  clear hH hlocs
  refine lv_iconst (v := nI 0) hx hb dX12_yesOf_0 (by decide) ?_
  refine lv_istore (lv' := [(4, .int (nI 0)), (0, .ref hm), (1, .int (nI a)), (2, .int (nI e0)), (3, .int x)]) hx hb dX12_yesOf_1 hl (by decide) rfl ?_
  clear hl
  try clear ls
  intro ls hl
  refine lv_iconst (v := nI 0) hx hb dX12_yesOf_3 (by decide) ?_
  refine lv_istore (lv' := [(5, .int (nI 0)), (4, .int (nI 0)), (0, .ref hm), (1, .int (nI a)), (2, .int (nI e0)), (3, .int x)]) hx hb dX12_yesOf_4 hl (by decide) rfl ?_
  clear hl
  try clear ls
  intro ls hl
  have loop_1 : ∀ (n_loop_1 : Nat) (o : Nat) (c9 : Nat), (o ≤ n) → (c9 ≤ o) → (yesM en sof anf f a e0 x o c9) → n - o < n_loop_1 → ∀ (H : Heap) (locs : List Loc) (ls : Array Slot), va_P D vwCl [(hm, .inr (12, [.ref ms, .ref mkp, .int (nI km), .ref mtr, .int (nI n), .int (nI k), .int (nI al), .int (nI be), .int ea, .int pr, .ref mas, .int nq, .int po, .int (nI en), .ref mso, .ref mon, .ref mot, .ref man, .int th, .int xd, .ref mst, .ref msm, .ref mtb, .ref mti, .ref mfr, .ref mbn, .ref mbs, .ref mde, .int sF, .int sN, .int sS, .int ig, .long xa, .long xb, .ref maa, .ref mab, .ref mba, .ref mbb])), (ms, .inl (cs 0, 288, .inl f)), (mso, .inl (cs 0, 16, .inl sof)), (man, .inl (cs 0, 16, .inl anf))] H → va_D A [(hm, .inr (12, [.ref ms, .ref mkp, .int (nI km), .ref mtr, .int (nI n), .int (nI k), .int (nI al), .int (nI be), .int ea, .int pr, .ref mas, .int nq, .int po, .int (nI en), .ref mso, .ref mon, .ref mot, .ref man, .int th, .int xd, .ref mst, .ref msm, .ref mtb, .ref mti, .ref mfr, .ref mbn, .ref mbs, .ref mde, .int sF, .int sN, .int sS, .int ig, .long xa, .long xb, .ref maa, .ref mab, .ref mba, .ref mbb])), (ms, .inl (cs 0, 288, .inl f)), (mso, .inl (cs 0, 16, .inl sof)), (man, .inl (cs 0, 16, .inl anf))] → va_S A s.heap H locs → lv_has ls 6 [(5, .int (nI o)), (4, .int (nI c9)), (0, .ref hm), (1, .int (nI a)), (2, .int (nI e0)), (3, .int x)] → W p l e ({ frames := 3, cells := 0, slots := 0, locals := 68 } : Room) s m args below meth c H locs 0 0 (MQ below ((xQi D (fun (r : Int32) (_u : Unit) => ∃ c, c ≤ 8 ∧ r = nI c ∧ yesM en sof anf f a e0 x n c) (fun (_u : Unit) => [(hm, .inr (12, [.ref ms, .ref mkp, .int (nI km), .ref mtr, .int (nI n), .int (nI k), .int (nI al), .int (nI be), .int ea, .int pr, .ref mas, .int nq, .int po, .int (nI en), .ref mso, .ref mon, .ref mot, .ref man, .int th, .int xd, .ref mst, .ref msm, .ref mtb, .ref mti, .ref mfr, .ref mbn, .ref mbs, .ref mde, .int sF, .int sN, .int sS, .int ig, .long xa, .long xb, .ref maa, .ref mab, .ref mba, .ref mbb])), (ms, .inl (cs 0, 288, .inl f)), (mso, .inl (cs 0, 16, .inl sof)), (man, .inl (cs 0, 16, .inl anf))])) A) args s 0 0 A) (F0 m 6 ls []) := by
    intro n_loop_1
    induction n_loop_1 with
    | zero => intro o c9 h_o hc9 hyo9 hlt H locs ls hP hD hS hl; exact absurd hlt (Nat.not_lt_zero _)
    | succ n_loop_1 ih_loop_1 =>
      intro o c9 h_o hc9 hyo9 hlt_loop_1 H locs ls hP hD hS hl
      refine lv_iload hx hb dX12_yesOf_6 (lv_at hl 0 rfl) ?_
      refine lv_aload_n hx hb dX12_yesOf_8 rfl (lv_at hl 2 rfl) ?_
      refine xget C hP 0 rfl rfl zuX12 4 (by decide) zw5_217 rfl dX12_yesOf_9 ?_
      refine lv_icmp_ge (tgt := 44) hx hb dX12_yesOf_12 (by decide) (fun c_2 => ?_) (fun c_2 => ?_)
      · -- 12 t
        have fc_2 : n ≤ o := nf_le (by omega) (by omega) c_2
        refine lv_iload hx hb dX12_yesOf_44 (lv_at hl 1 rfl) ?_
        exact xreti C () (⟨c9, by omega, rfl, by have q7 : o = n := (by omega); rw [← q7]; exact hyo9⟩) hP hD hS (Nat.le_of_ble_eq_true rfl) (Nat.le_of_ble_eq_true rfl) rfl dX12_yesOf_46
      · -- 12 f
        have fc_2 : o < n := nf_nle (by omega) (by omega) c_2
        refine lv_iload_n hx hb dX12_yesOf_15 rfl (lv_at hl 5 rfl) ?_
        refine lv_iload hx hb dX12_yesOf_16 (lv_at hl 0 rfl) ?_
        refine xi (wr := [(hm, .inr (12, [.ref ms, .ref mkp, .int (nI km), .ref mtr, .int (nI n), .int (nI k), .int (nI al), .int (nI be), .int ea, .int pr, .ref mas, .int nq, .int po, .int (nI en), .ref mso, .ref mon, .ref mot, .ref man, .int th, .int xd, .ref mst, .ref msm, .ref mtb, .ref mti, .ref mfr, .ref mbn, .ref mbs, .ref mde, .int sF, .int sN, .int sS, .int ig, .long xa, .long xb, .ref maa, .ref mab, .ref mba, .ref mbb])), (ms, .inl (cs 0, 288, .inl f)), (mso, .inl (cs 0, 16, .inl sof)), (man, .inl (cs 0, 16, .inl anf))]) (xS (As := [.int x, .int (nI o)]) (rest := []) C (c_X12_has l D cs x o) kX12_100 hP hD [] rfl (by decide) ⟨Nat.le_of_ble_eq_true rfl, Nat.le_of_ble_eq_true rfl⟩ rfl hl.1 rfl (Nat.le_of_ble_eq_true rfl) dX12_yesOf_18 ⟨Nat.le_of_ble_eq_true rfl, Nat.le_of_ble_eq_true rfl⟩) hP hD hS hA [] [0, 1, 2, 3] rfl rfl (by decide) (by decide) ?_
        clear hP hD hS
        try clear locs
        try clear H
        intro r_3 u_4 H locs hw_r_3 hP hD hS
        have hw_r_3 : PQ (hasB x o) r_3 (nI 1) (nI 0) := hw_r_3
        refine W.widen (k := 0) (n := 0) (Nat.le_of_ble_eq_true rfl) (Nat.le_of_ble_eq_true rfl) ?_
        replace hP : va_P D vwCl [(hm, .inr (12, [.ref ms, .ref mkp, .int (nI km), .ref mtr, .int (nI n), .int (nI k), .int (nI al), .int (nI be), .int ea, .int pr, .ref mas, .int nq, .int po, .int (nI en), .ref mso, .ref mon, .ref mot, .ref man, .int th, .int xd, .ref mst, .ref msm, .ref mtb, .ref mti, .ref mfr, .ref mbn, .ref mbs, .ref mde, .int sF, .int sN, .int sS, .int ig, .long xa, .long xb, .ref maa, .ref mab, .ref mba, .ref mbb])), (ms, .inl (cs 0, 288, .inl f)), (mso, .inl (cs 0, 16, .inl sof)), (man, .inl (cs 0, 16, .inl anf))] H := hP
        replace hD : va_D A [(hm, .inr (12, [.ref ms, .ref mkp, .int (nI km), .ref mtr, .int (nI n), .int (nI k), .int (nI al), .int (nI be), .int ea, .int pr, .ref mas, .int nq, .int po, .int (nI en), .ref mso, .ref mon, .ref mot, .ref man, .int th, .int xd, .ref mst, .ref msm, .ref mtb, .ref mti, .ref mfr, .ref mbn, .ref mbs, .ref mde, .int sF, .int sN, .int sS, .int ig, .long xa, .long xb, .ref maa, .ref mab, .ref mba, .ref mbb])), (ms, .inl (cs 0, 288, .inl f)), (mso, .inl (cs 0, 16, .inl sof)), (man, .inl (cs 0, 16, .inl anf))] := hD
        refine lv_if_eq (tgt := 38) hx hb dX12_yesOf_21 (by decide) (fun c_5 => ?_) (fun c_5 => ?_)
        · -- 21 t
          refine lv_iinc (v := nI (o + 1)) (lv' := [(5, .int (nI (o + 1))), (4, .int (nI c9)), (0, .ref hm), (1, .int (nI a)), (2, .int (nI e0)), (3, .int x)]) hx hb dX12_yesOf_38 hl (k := 0) rfl (nI_add o 1) (by decide) rfl ?_
          clear hl
          try clear ls
          intro ls hl
          refine lv_goto (tgt := 6) hx hb dX12_yesOf_41 (by decide) ?_
          exact ih_loop_1 (o + 1) c9 (by omega) (by omega) (⟨_, hyo9, Or.inr ⟨fun q => PQ.no hw_r_3 c_5 (by decide) q.1, rfl⟩⟩) (by omega) H locs ls hP hD hS (lv_sub hl [0, 1, 2, 3, 4, 5] rfl)
        · -- 21 f
          refine lv_aload_n hx hb dX12_yesOf_24 rfl (lv_at hl 2 rfl) ?_
          refine lv_iload hx hb dX12_yesOf_25 (lv_at hl 0 rfl) ?_
          refine lv_iload_n hx hb dX12_yesOf_27 rfl (lv_at hl 3 rfl) ?_
          refine lv_iload_n hx hb dX12_yesOf_28 rfl (lv_at hl 4 rfl) ?_
          refine xi (wr := []) (xV (As := [.int (nI o), .int (nI a), .int (nI e0)]) (rest := []) C (c_X12_saysYes_f l D cs hm ms mkp mtr mas mso mon mot man mst msm mtb mti mfr mbn mbs mde maa mab mba mbb n k al be km en ea pr nq po th xd sF sN sS ig xa xb f o a e0 sof anf hen hso (by omega) ha he) kX12_322 hP hD [0, 1, 2, 3] rfl (by decide) 0 rfl rfl rfl ⟨Nat.le_of_ble_eq_true rfl, Nat.le_of_ble_eq_true rfl⟩ rfl hl.1 rfl (Nat.le_of_ble_eq_true rfl) dX12_yesOf_29 ⟨Nat.le_of_ble_eq_true rfl, Nat.le_of_ble_eq_true rfl⟩) hP hD hS hA [0, 1, 2, 3] [] rfl rfl (by decide) (by decide) ?_
          clear hP hD hS
          try clear locs
          try clear H
          intro r_6 u_7 H locs hw_r_6 hP hD hS
          have hw_r_6 : PQ (sysM en sof anf f o a e0) r_6 (nI 1) (nI 0) := hw_r_6
          refine W.widen (k := 0) (n := 0) (Nat.le_of_ble_eq_true rfl) (Nat.le_of_ble_eq_true rfl) ?_
          replace hP : va_P D vwCl [(hm, .inr (12, [.ref ms, .ref mkp, .int (nI km), .ref mtr, .int (nI n), .int (nI k), .int (nI al), .int (nI be), .int ea, .int pr, .ref mas, .int nq, .int po, .int (nI en), .ref mso, .ref mon, .ref mot, .ref man, .int th, .int xd, .ref mst, .ref msm, .ref mtb, .ref mti, .ref mfr, .ref mbn, .ref mbs, .ref mde, .int sF, .int sN, .int sS, .int ig, .long xa, .long xb, .ref maa, .ref mab, .ref mba, .ref mbb])), (ms, .inl (cs 0, 288, .inl f)), (mso, .inl (cs 0, 16, .inl sof)), (man, .inl (cs 0, 16, .inl anf))] H := hP
          replace hD : va_D A [(hm, .inr (12, [.ref ms, .ref mkp, .int (nI km), .ref mtr, .int (nI n), .int (nI k), .int (nI al), .int (nI be), .int ea, .int pr, .ref mas, .int nq, .int po, .int (nI en), .ref mso, .ref mon, .ref mot, .ref man, .int th, .int xd, .ref mst, .ref msm, .ref mtb, .ref mti, .ref mfr, .ref mbn, .ref mbs, .ref mde, .int sF, .int sN, .int sS, .int ig, .long xa, .long xb, .ref maa, .ref mab, .ref mba, .ref mbb])), (ms, .inl (cs 0, 288, .inl f)), (mso, .inl (cs 0, 16, .inl sof)), (man, .inl (cs 0, 16, .inl anf))] := hD
          refine lv_if_eq (tgt := 38) hx hb dX12_yesOf_32 (by decide) (fun c_8 => ?_) (fun c_8 => ?_)
          · -- 32 t
            refine lv_iinc (v := nI (o + 1)) (lv' := [(5, .int (nI (o + 1))), (4, .int (nI c9)), (0, .ref hm), (1, .int (nI a)), (2, .int (nI e0)), (3, .int x)]) hx hb dX12_yesOf_38 hl (k := 0) rfl (nI_add o 1) (by decide) rfl ?_
            clear hl
            try clear ls
            intro ls hl
            refine lv_goto (tgt := 6) hx hb dX12_yesOf_41 (by decide) ?_
            exact ih_loop_1 (o + 1) c9 (by omega) (by omega) (⟨_, hyo9, Or.inr ⟨fun q => PQ.no hw_r_6 c_8 (by decide) q.2, rfl⟩⟩) (by omega) H locs ls hP hD hS (lv_sub hl [0, 1, 2, 3, 4, 5] rfl)
          · -- 32 f
            refine lv_iinc (v := nI (c9 + 1)) (lv' := [(4, .int (nI (c9 + 1))), (5, .int (nI o)), (0, .ref hm), (1, .int (nI a)), (2, .int (nI e0)), (3, .int x)]) hx hb dX12_yesOf_35 hl (k := 1) rfl (nI_add c9 1) (by decide) rfl ?_
            clear hl
            try clear ls
            intro ls hl
            refine lv_iinc (v := nI (o + 1)) (lv' := [(5, .int (nI (o + 1))), (4, .int (nI (c9 + 1))), (0, .ref hm), (1, .int (nI a)), (2, .int (nI e0)), (3, .int x)]) hx hb dX12_yesOf_38 hl (k := 1) rfl (nI_add o 1) (by decide) rfl ?_
            clear hl
            try clear ls
            intro ls hl
            refine lv_goto (tgt := 6) hx hb dX12_yesOf_41 (by decide) ?_
            exact ih_loop_1 (o + 1) (c9 + 1) (by omega) (by omega) (⟨_, hyo9, Or.inl ⟨⟨PQ.yes hw_r_3 c_5, PQ.yes hw_r_6 c_8⟩, rfl⟩⟩) (by omega) H locs ls hP hD hS (lv_sub hl [0, 1, 2, 3, 4, 5] rfl)
  exact loop_1 _ 0 0 (by omega) (Nat.le_refl 0) rfl (Nat.lt_succ_self _) H locs ls hP hD hS (lv_sub hl [0, 1, 2, 3, 4, 5] rfl)
