set_option maxHeartbeats 4000000 in
set_option maxRecDepth 100000 in
theorem c_X12_isDecided_z (l : Launch) (D : va_G) (cs : Nat → ClassId) (hm ms mkp mtr mas mso mon mot man mst msm mtb mti mfr mbn mbs mde maa mab mba mbb : Nat) (j : Nat) (hj : j < 8) : xMet l D cs yX12_isDecided cX12_isDecided 2 (some .boolean) ({ frames := 0, cells := 0, slots := 0, locals := 0 } : Room) [.ref hm, .int (nI j)] [(hm, .inr (12, [.ref ms, .ref mkp, .int (nI 0), .ref mtr, .int (nI 4), .int (nI 2), .int (nI 2), .int (nI 3), .int (nI 2), .int (nI 1), .ref mas, .int (nI 0), .int (nI 0), .int (nI 0), .ref mso, .ref mon, .ref mot, .ref man, .int (nI 0), .int (nI 0), .ref mst, .ref msm, .ref mtb, .ref mti, .ref mfr, .ref mbn, .ref mbs, .ref mde, .int (nI 0), .int (nI 0), .int (nI 0), .int (nI 0), .long 0, .long 0, .ref maa, .ref mab, .ref mba, .ref mbb])), (ms, .inl (cs 0, 288, .inl freshS))] (xQi D (fun (r : Int32) (_u : Unit) => r = nI 0) (fun (_u : Unit) => [(hm, .inr (12, [.ref ms, .ref mkp, .int (nI 0), .ref mtr, .int (nI 4), .int (nI 2), .int (nI 2), .int (nI 3), .int (nI 2), .int (nI 1), .ref mas, .int (nI 0), .int (nI 0), .int (nI 0), .ref mso, .ref mon, .ref mot, .ref man, .int (nI 0), .int (nI 0), .ref mst, .ref msm, .ref mtb, .ref mti, .ref mfr, .ref mbn, .ref mbs, .ref mde, .int (nI 0), .int (nI 0), .int (nI 0), .int (nI 0), .long 0, .long 0, .ref maa, .ref mab, .ref mba, .ref mbb])), (ms, .inl (cs 0, 288, .inl freshS))])) := by
  refine xMet.intro (by decide) (Nat.le_of_ble_eq_true rfl) ?_
  intro p e s m args below meth c A ls C hP hD hS hl
  have hx := C.1
  have hb := C.2.1
  have hz := C.2.2.2.2.1
  have hown := C.2.2.2.1
  have hA := C.2.2.2.2.2.2.2.2.2
  have hAO := C.2.2.2.2.2.2.2.2.1.2.2
  have hl : lv_has ls 2 [(0, .ref hm), (1, .int (nI j))] := hl
  obtain ⟨H, hH⟩ : ∃ H, H = s.heap := ⟨_, rfl⟩
  have hP : va_P D vwCl [(hm, .inr (12, [.ref ms, .ref mkp, .int (nI 0), .ref mtr, .int (nI 4), .int (nI 2), .int (nI 2), .int (nI 3), .int (nI 2), .int (nI 1), .ref mas, .int (nI 0), .int (nI 0), .int (nI 0), .ref mso, .ref mon, .ref mot, .ref man, .int (nI 0), .int (nI 0), .ref mst, .ref msm, .ref mtb, .ref mti, .ref mfr, .ref mbn, .ref mbs, .ref mde, .int (nI 0), .int (nI 0), .int (nI 0), .int (nI 0), .long 0, .long 0, .ref maa, .ref mab, .ref mba, .ref mbb])), (ms, .inl (cs 0, 288, .inl freshS))] H := by rw [hH]; exact hP
  have hS : va_S A s.heap H [] := by rw [hH]; exact hS
  obtain ⟨locs, hlocs⟩ : ∃ z : List Loc, z = [] := ⟨_, rfl⟩
  rw [← hlocs] at hS
  suffices hW : W p l e ({ frames := 0, cells := 0, slots := 0, locals := 0 } : Room) s m args below meth c H locs 0 0 (MQ below ((xQi D (fun (r : Int32) (_u : Unit) => r = nI 0) (fun (_u : Unit) => [(hm, .inr (12, [.ref ms, .ref mkp, .int (nI 0), .ref mtr, .int (nI 4), .int (nI 2), .int (nI 2), .int (nI 3), .int (nI 2), .int (nI 1), .ref mas, .int (nI 0), .int (nI 0), .int (nI 0), .ref mso, .ref mon, .ref mot, .ref man, .int (nI 0), .int (nI 0), .ref mst, .ref msm, .ref mtb, .ref mti, .ref mfr, .ref mbn, .ref mbs, .ref mde, .int (nI 0), .int (nI 0), .int (nI 0), .int (nI 0), .long 0, .long 0, .ref maa, .ref mab, .ref mba, .ref mbb])), (ms, .inl (cs 0, 288, .inl freshS))])) A) args s 0 0 A) (F0 m 0 ls []) by rw [hlocs, hH] at hW; exact hW
  refine lv_aload_n hx hb dX12_isDecided_0 rfl (lv_at hl 0 rfl) ?_
  refine xget C hP 0 rfl rfl zuX12 0 (by decide) zw5_213 rfl dX12_isDecided_1 ?_
  refine lv_bipush (v := nI 48) hx hb dX12_isDecided_4 (by decide) ?_
  refine lv_iload_n hx hb dX12_isDecided_6 rfl (lv_at hl 1 rfl) ?_
  refine lv_iadd hx hb dX12_isDecided_7 ?_
  refine lv_topi (nm_r (e' := nI (48 + j)) (nI_add _ _) ?_)
  refine xiald C hP 1 rfl (48 + j) rfl (by omega) (by decide) dX12_isDecided_8 ?_
  refine lv_topi (nm_r (e' := nI 0) (fS_z (by omega)) ?_)
  refine lv_if_ne (tgt := 29) hx hb dX12_isDecided_9 (by decide) (fun c => absurd (by decide) c) (fun _ => ?_)
  refine lv_aload_n hx hb dX12_isDecided_12 rfl (lv_at hl 0 rfl) ?_
  refine xget C hP 0 rfl rfl zuX12 0 (by decide) zw5_213 rfl dX12_isDecided_13 ?_
  refine lv_bipush (v := nI 40) hx hb dX12_isDecided_16 (by decide) ?_
  refine lv_iload_n hx hb dX12_isDecided_18 rfl (lv_at hl 1 rfl) ?_
  refine lv_iadd hx hb dX12_isDecided_19 ?_
  refine lv_topi (nm_r (e' := nI (40 + j)) (nI_add _ _) ?_)
  refine xiald C hP 1 rfl (40 + j) rfl (by omega) (by decide) dX12_isDecided_20 ?_
  refine lv_topi (nm_r (e' := nI 0) (fS_z (by omega)) ?_)
  refine lv_iconst (v := nI 1) hx hb dX12_isDecided_21 (by decide) ?_
  refine lv_icmp_ne (tgt := 29) hx hb dX12_isDecided_22 (by decide) (fun _ => ?_) (fun c => absurd c (by decide))
  refine lv_iconst (v := nI 0) hx hb dX12_isDecided_29 (by decide) ?_
  exact xreti C () rfl hP hD hS (Nat.le_of_ble_eq_true rfl) (Nat.le_of_ble_eq_true rfl) (by decide) dX12_isDecided_30

set_option maxHeartbeats 4000000 in
set_option maxRecDepth 100000 in
theorem c_X12_areSplit_z (l : Launch) (D : va_G) (cs : Nat → ClassId) (hm ms mkp mtr mas mso mon mot man mst msm mtb mti mfr mbn mbs mde maa mab mba mbb : Nat) : xMet l D cs yX12_areSplit cX12_areSplit 3 (some .boolean) ({ frames := 1, cells := 0, slots := 0, locals := 21 } : Room) [.ref hm] [(hm, .inr (12, [.ref ms, .ref mkp, .int (nI 0), .ref mtr, .int (nI 4), .int (nI 2), .int (nI 2), .int (nI 3), .int (nI 2), .int (nI 1), .ref mas, .int (nI 0), .int (nI 0), .int (nI 0), .ref mso, .ref mon, .ref mot, .ref man, .int (nI 0), .int (nI 0), .ref mst, .ref msm, .ref mtb, .ref mti, .ref mfr, .ref mbn, .ref mbs, .ref mde, .int (nI 0), .int (nI 0), .int (nI 0), .int (nI 0), .long 0, .long 0, .ref maa, .ref mab, .ref mba, .ref mbb])), (ms, .inl (cs 0, 288, .inl freshS))] (xQi D (fun (r : Int32) (_u : Unit) => r = nI 0) (fun (_u : Unit) => [(hm, .inr (12, [.ref ms, .ref mkp, .int (nI 0), .ref mtr, .int (nI 4), .int (nI 2), .int (nI 2), .int (nI 3), .int (nI 2), .int (nI 1), .ref mas, .int (nI 0), .int (nI 0), .int (nI 0), .ref mso, .ref mon, .ref mot, .ref man, .int (nI 0), .int (nI 0), .ref mst, .ref msm, .ref mtb, .ref mti, .ref mfr, .ref mbn, .ref mbs, .ref mde, .int (nI 0), .int (nI 0), .int (nI 0), .int (nI 0), .long 0, .long 0, .ref maa, .ref mab, .ref mba, .ref mbb])), (ms, .inl (cs 0, 288, .inl freshS))])) := by
  refine xMet.intro (by decide) (Nat.le_of_ble_eq_true rfl) ?_
  intro p e s m args below meth c A ls C hP hD hS hl
  have hx := C.1
  have hb := C.2.1
  have hz := C.2.2.2.2.1
  have hown := C.2.2.2.1
  have hA := C.2.2.2.2.2.2.2.2.2
  have hAO := C.2.2.2.2.2.2.2.2.1.2.2
  have hl : lv_has ls 3 [(0, .ref hm)] := hl
  obtain ⟨H, hH⟩ : ∃ H, H = s.heap := ⟨_, rfl⟩
  have hP : va_P D vwCl [(hm, .inr (12, [.ref ms, .ref mkp, .int (nI 0), .ref mtr, .int (nI 4), .int (nI 2), .int (nI 2), .int (nI 3), .int (nI 2), .int (nI 1), .ref mas, .int (nI 0), .int (nI 0), .int (nI 0), .ref mso, .ref mon, .ref mot, .ref man, .int (nI 0), .int (nI 0), .ref mst, .ref msm, .ref mtb, .ref mti, .ref mfr, .ref mbn, .ref mbs, .ref mde, .int (nI 0), .int (nI 0), .int (nI 0), .int (nI 0), .long 0, .long 0, .ref maa, .ref mab, .ref mba, .ref mbb])), (ms, .inl (cs 0, 288, .inl freshS))] H := by rw [hH]; exact hP
  have hS : va_S A s.heap H [] := by rw [hH]; exact hS
  obtain ⟨locs, hlocs⟩ : ∃ z : List Loc, z = [] := ⟨_, rfl⟩
  rw [← hlocs] at hS
  suffices hW : W p l e ({ frames := 1, cells := 0, slots := 0, locals := 21 } : Room) s m args below meth c H locs 0 0 (MQ below ((xQi D (fun (r : Int32) (_u : Unit) => r = nI 0) (fun (_u : Unit) => [(hm, .inr (12, [.ref ms, .ref mkp, .int (nI 0), .ref mtr, .int (nI 4), .int (nI 2), .int (nI 2), .int (nI 3), .int (nI 2), .int (nI 1), .ref mas, .int (nI 0), .int (nI 0), .int (nI 0), .ref mso, .ref mon, .ref mot, .ref man, .int (nI 0), .int (nI 0), .ref mst, .ref msm, .ref mtb, .ref mti, .ref mfr, .ref mbn, .ref mbs, .ref mde, .int (nI 0), .int (nI 0), .int (nI 0), .int (nI 0), .long 0, .long 0, .ref maa, .ref mab, .ref mba, .ref mbb])), (ms, .inl (cs 0, 288, .inl freshS))])) A) args s 0 0 A) (F0 m 0 ls []) by rw [hlocs, hH] at hW; exact hW
  refine lv_iconst (v := nI 0) hx hb dX12_areSplit_0 (by decide) ?_
  refine lv_istore_n (lv' := [(1, .int (nI 0)), (0, .ref hm)]) hx hb dX12_areSplit_1 rfl hl (by decide) rfl (fun ls hl => ?_)
  have loop_1 : ∀ (n_loop_1 : Nat) (i : Nat), (i ≤ 4) → 4 - i < n_loop_1 → ∀ (H : Heap) (locs : List Loc) (ls : Array Slot), va_P D vwCl [(hm, .inr (12, [.ref ms, .ref mkp, .int (nI 0), .ref mtr, .int (nI 4), .int (nI 2), .int (nI 2), .int (nI 3), .int (nI 2), .int (nI 1), .ref mas, .int (nI 0), .int (nI 0), .int (nI 0), .ref mso, .ref mon, .ref mot, .ref man, .int (nI 0), .int (nI 0), .ref mst, .ref msm, .ref mtb, .ref mti, .ref mfr, .ref mbn, .ref mbs, .ref mde, .int (nI 0), .int (nI 0), .int (nI 0), .int (nI 0), .long 0, .long 0, .ref maa, .ref mab, .ref mba, .ref mbb])), (ms, .inl (cs 0, 288, .inl freshS))] H → va_D A [(hm, .inr (12, [.ref ms, .ref mkp, .int (nI 0), .ref mtr, .int (nI 4), .int (nI 2), .int (nI 2), .int (nI 3), .int (nI 2), .int (nI 1), .ref mas, .int (nI 0), .int (nI 0), .int (nI 0), .ref mso, .ref mon, .ref mot, .ref man, .int (nI 0), .int (nI 0), .ref mst, .ref msm, .ref mtb, .ref mti, .ref mfr, .ref mbn, .ref mbs, .ref mde, .int (nI 0), .int (nI 0), .int (nI 0), .int (nI 0), .long 0, .long 0, .ref maa, .ref mab, .ref mba, .ref mbb])), (ms, .inl (cs 0, 288, .inl freshS))] → va_S A s.heap H locs → lv_has ls 3 [(1, .int (nI i)), (0, .ref hm)] → W p l e ({ frames := 1, cells := 0, slots := 0, locals := 21 } : Room) s m args below meth c H locs 0 0 (MQ below ((xQi D (fun (r : Int32) (_u : Unit) => r = nI 0) (fun (_u : Unit) => [(hm, .inr (12, [.ref ms, .ref mkp, .int (nI 0), .ref mtr, .int (nI 4), .int (nI 2), .int (nI 2), .int (nI 3), .int (nI 2), .int (nI 1), .ref mas, .int (nI 0), .int (nI 0), .int (nI 0), .ref mso, .ref mon, .ref mot, .ref man, .int (nI 0), .int (nI 0), .ref mst, .ref msm, .ref mtb, .ref mti, .ref mfr, .ref mbn, .ref mbs, .ref mde, .int (nI 0), .int (nI 0), .int (nI 0), .int (nI 0), .long 0, .long 0, .ref maa, .ref mab, .ref mba, .ref mbb])), (ms, .inl (cs 0, 288, .inl freshS))])) A) args s 0 0 A) (F0 m 2 ls []) := by
    intro n_loop_1
    induction n_loop_1 with
    | zero => intro i h_i hlt H locs ls hP hD hS hl; exact absurd hlt (Nat.not_lt_zero _)
    | succ n_loop_1 ih_loop_1 =>
      intro i h_i hlt_loop_1 H locs ls hP hD hS hl
      refine lv_iload_n hx hb dX12_areSplit_2 rfl (lv_at hl 0 rfl) ?_
      refine lv_aload_n hx hb dX12_areSplit_3 rfl (lv_at hl 1 rfl) ?_
      refine xget C hP 0 rfl rfl zuX12 4 (by decide) zw5_217 rfl dX12_areSplit_4 ?_
      refine lv_icmp_ge (tgt := 66) hx hb dX12_areSplit_7 (by decide) (fun c_2 => ?_) (fun c_2 => ?_)
      · -- 7 t
        have fc_2 : 4 ≤ i := nf_le (by omega) (by omega) c_2
        refine lv_iconst (v := nI 0) hx hb dX12_areSplit_66 (by decide) ?_
        exact xreti C () rfl hP hD hS (Nat.le_of_ble_eq_true rfl) (Nat.le_of_ble_eq_true rfl) (by decide) dX12_areSplit_67
      · -- 7 f
        have fc_2 : i < 4 := nf_nle (by omega) (by omega) c_2
        refine lv_iconst (v := nI 0) hx hb dX12_areSplit_10 (by decide) ?_
        refine lv_istore_n (lv' := [(2, .int (nI 0)), (1, .int (nI i)), (0, .ref hm)]) hx hb dX12_areSplit_11 rfl hl (by decide) rfl (fun ls hl => ?_)
        have loop_3 : ∀ (n_loop_3 : Nat) (k : Nat), (k ≤ i) → i - k < n_loop_3 → ∀ (H : Heap) (locs : List Loc) (ls : Array Slot), va_P D vwCl [(hm, .inr (12, [.ref ms, .ref mkp, .int (nI 0), .ref mtr, .int (nI 4), .int (nI 2), .int (nI 2), .int (nI 3), .int (nI 2), .int (nI 1), .ref mas, .int (nI 0), .int (nI 0), .int (nI 0), .ref mso, .ref mon, .ref mot, .ref man, .int (nI 0), .int (nI 0), .ref mst, .ref msm, .ref mtb, .ref mti, .ref mfr, .ref mbn, .ref mbs, .ref mde, .int (nI 0), .int (nI 0), .int (nI 0), .int (nI 0), .long 0, .long 0, .ref maa, .ref mab, .ref mba, .ref mbb])), (ms, .inl (cs 0, 288, .inl freshS))] H → va_D A [(hm, .inr (12, [.ref ms, .ref mkp, .int (nI 0), .ref mtr, .int (nI 4), .int (nI 2), .int (nI 2), .int (nI 3), .int (nI 2), .int (nI 1), .ref mas, .int (nI 0), .int (nI 0), .int (nI 0), .ref mso, .ref mon, .ref mot, .ref man, .int (nI 0), .int (nI 0), .ref mst, .ref msm, .ref mtb, .ref mti, .ref mfr, .ref mbn, .ref mbs, .ref mde, .int (nI 0), .int (nI 0), .int (nI 0), .int (nI 0), .long 0, .long 0, .ref maa, .ref mab, .ref mba, .ref mbb])), (ms, .inl (cs 0, 288, .inl freshS))] → va_S A s.heap H locs → lv_has ls 3 [(2, .int (nI k)), (1, .int (nI i)), (0, .ref hm)] → W p l e ({ frames := 1, cells := 0, slots := 0, locals := 21 } : Room) s m args below meth c H locs 0 0 (MQ below ((xQi D (fun (r : Int32) (_u : Unit) => r = nI 0) (fun (_u : Unit) => [(hm, .inr (12, [.ref ms, .ref mkp, .int (nI 0), .ref mtr, .int (nI 4), .int (nI 2), .int (nI 2), .int (nI 3), .int (nI 2), .int (nI 1), .ref mas, .int (nI 0), .int (nI 0), .int (nI 0), .ref mso, .ref mon, .ref mot, .ref man, .int (nI 0), .int (nI 0), .ref mst, .ref msm, .ref mtb, .ref mti, .ref mfr, .ref mbn, .ref mbs, .ref mde, .int (nI 0), .int (nI 0), .int (nI 0), .int (nI 0), .long 0, .long 0, .ref maa, .ref mab, .ref mba, .ref mbb])), (ms, .inl (cs 0, 288, .inl freshS))])) A) args s 0 0 A) (F0 m 12 ls []) := by
          intro n_loop_3
          induction n_loop_3 with
          | zero => intro k h_k hlt H locs ls hP hD hS hl; exact absurd hlt (Nat.not_lt_zero _)
          | succ n_loop_3 ih_loop_3 =>
            intro k h_k hlt_loop_3 H locs ls hP hD hS hl
            refine lv_iload_n hx hb dX12_areSplit_12 rfl (lv_at hl 0 rfl) ?_
            refine lv_iload_n hx hb dX12_areSplit_13 rfl (lv_at hl 1 rfl) ?_
            refine lv_icmp_ge (tgt := 60) hx hb dX12_areSplit_14 (by decide) (fun c_4 => ?_) (fun c_4 => ?_)
            · -- 14 t
              have fc_4 : i ≤ k := nf_le (by omega) (by omega) c_4
              refine lv_iinc (v := nI (i + 1)) (lv' := [(1, .int (nI (i + 1))), (2, .int (nI k)), (0, .ref hm)]) hx hb dX12_areSplit_60 hl (k := 1) rfl (nI_add i 1) (by decide) rfl (fun ls hl => ?_)
              refine lv_goto (tgt := 2) hx hb dX12_areSplit_63 (by decide) ?_
              exact ih_loop_1 (i + 1) (by omega) (by omega) H locs ls hP hD hS (lv_sub hl [0, 2] rfl)
            · -- 14 f
              have fc_4 : k < i := nf_nle (by omega) (by omega) c_4
              refine lv_aload_n hx hb dX12_areSplit_17 rfl (lv_at hl 2 rfl) ?_
              refine lv_iload_n hx hb dX12_areSplit_18 rfl (lv_at hl 1 rfl) ?_
              refine xi (wr := []) (xV (As := [.int (nI i)]) (rest := []) C (c_X12_isDecided_z l D cs hm ms mkp mtr mas mso mon mot man mst msm mtb mti mfr mbn mbs mde maa mab mba mbb i (by omega)) kX12_165 hP hD [0, 1] rfl (by decide +kernel) 0 rfl rfl rfl ⟨Nat.le_of_ble_eq_true rfl, Nat.le_of_ble_eq_true rfl⟩ rfl hl.1 rfl (Nat.le_of_ble_eq_true rfl) dX12_areSplit_19 ⟨Nat.le_of_ble_eq_true rfl, Nat.le_of_ble_eq_true rfl⟩) hP hD hS hA [0, 1] [] rfl rfl (by decide +kernel) (by decide +kernel) (fun r_5 u_6 H locs hw_r_5 hP hD hS => ?_)
              have hw_r_5 : r_5 = nI 0 := hw_r_5
              refine W.widen (k := 0) (n := 0) (Nat.le_of_ble_eq_true rfl) (Nat.le_of_ble_eq_true rfl) ?_
              have hP : va_P D vwCl [(hm, .inr (12, [.ref ms, .ref mkp, .int (nI 0), .ref mtr, .int (nI 4), .int (nI 2), .int (nI 2), .int (nI 3), .int (nI 2), .int (nI 1), .ref mas, .int (nI 0), .int (nI 0), .int (nI 0), .ref mso, .ref mon, .ref mot, .ref man, .int (nI 0), .int (nI 0), .ref mst, .ref msm, .ref mtb, .ref mti, .ref mfr, .ref mbn, .ref mbs, .ref mde, .int (nI 0), .int (nI 0), .int (nI 0), .int (nI 0), .long 0, .long 0, .ref maa, .ref mab, .ref mba, .ref mbb])), (ms, .inl (cs 0, 288, .inl freshS))] H := hP
              have hD : va_D A [(hm, .inr (12, [.ref ms, .ref mkp, .int (nI 0), .ref mtr, .int (nI 4), .int (nI 2), .int (nI 2), .int (nI 3), .int (nI 2), .int (nI 1), .ref mas, .int (nI 0), .int (nI 0), .int (nI 0), .ref mso, .ref mon, .ref mot, .ref man, .int (nI 0), .int (nI 0), .ref mst, .ref msm, .ref mtb, .ref mti, .ref mfr, .ref mbn, .ref mbs, .ref mde, .int (nI 0), .int (nI 0), .int (nI 0), .int (nI 0), .long 0, .long 0, .ref maa, .ref mab, .ref mba, .ref mbb])), (ms, .inl (cs 0, 288, .inl freshS))] := hD
              subst hw_r_5
              refine lv_if_eq (tgt := 54) hx hb dX12_areSplit_22 (by decide) (fun _ => ?_) (fun c => absurd (by decide) c)
              refine lv_iinc (v := nI (k + 1)) (lv' := [(2, .int (nI (k + 1))), (1, .int (nI i)), (0, .ref hm)]) hx hb dX12_areSplit_54 hl (k := 0) rfl (nI_add k 1) (by decide) rfl (fun ls hl => ?_)
              refine lv_goto (tgt := 12) hx hb dX12_areSplit_57 (by decide) ?_
              exact ih_loop_3 (k + 1) (by omega) (by omega) H locs ls hP hD hS (lv_sub hl [0, 1, 2] rfl)
        exact loop_3 _ 0 (by omega) (Nat.lt_succ_self _) H locs ls hP hD hS (lv_sub hl [0, 1, 2] rfl)
  exact loop_1 _ 0 (by omega) (Nat.lt_succ_self _) H locs ls hP hD hS (lv_sub hl [0, 1] rfl)

set_option maxHeartbeats 4000000 in
set_option maxRecDepth 100000 in
theorem c_X12_apart_z (l : Launch) (D : va_G) (cs : Nat → ClassId) (hm ms mkp mtr mas mso mon mot man mst msm mtb mti mfr mbn mbs mde maa mab mba mbb : Nat) : xMet l D cs yX12_apart cX12_apart 4 (some .int) ({ frames := 1, cells := 0, slots := 0, locals := 21 } : Room) [.ref hm] [(hm, .inr (12, [.ref ms, .ref mkp, .int (nI 0), .ref mtr, .int (nI 4), .int (nI 2), .int (nI 2), .int (nI 3), .int (nI 2), .int (nI 1), .ref mas, .int (nI 0), .int (nI 0), .int (nI 0), .ref mso, .ref mon, .ref mot, .ref man, .int (nI 0), .int (nI 0), .ref mst, .ref msm, .ref mtb, .ref mti, .ref mfr, .ref mbn, .ref mbs, .ref mde, .int (nI 0), .int (nI 0), .int (nI 0), .int (nI 0), .long 0, .long 0, .ref maa, .ref mab, .ref mba, .ref mbb])), (ms, .inl (cs 0, 288, .inl freshS))] (xQi D (fun (r : Int32) (_u : Unit) => r = nI 0) (fun (_u : Unit) => [(hm, .inr (12, [.ref ms, .ref mkp, .int (nI 0), .ref mtr, .int (nI 4), .int (nI 2), .int (nI 2), .int (nI 3), .int (nI 2), .int (nI 1), .ref mas, .int (nI 0), .int (nI 0), .int (nI 0), .ref mso, .ref mon, .ref mot, .ref man, .int (nI 0), .int (nI 0), .ref mst, .ref msm, .ref mtb, .ref mti, .ref mfr, .ref mbn, .ref mbs, .ref mde, .int (nI 0), .int (nI 0), .int (nI 0), .int (nI 0), .long 0, .long 0, .ref maa, .ref mab, .ref mba, .ref mbb])), (ms, .inl (cs 0, 288, .inl freshS))])) := by
  refine xMet.intro (by decide) (Nat.le_of_ble_eq_true rfl) ?_
  intro p e s m args below meth c A ls C hP hD hS hl
  have hx := C.1
  have hb := C.2.1
  have hz := C.2.2.2.2.1
  have hown := C.2.2.2.1
  have hA := C.2.2.2.2.2.2.2.2.2
  have hAO := C.2.2.2.2.2.2.2.2.1.2.2
  have hl : lv_has ls 4 [(0, .ref hm)] := hl
  obtain ⟨H, hH⟩ : ∃ H, H = s.heap := ⟨_, rfl⟩
  have hP : va_P D vwCl [(hm, .inr (12, [.ref ms, .ref mkp, .int (nI 0), .ref mtr, .int (nI 4), .int (nI 2), .int (nI 2), .int (nI 3), .int (nI 2), .int (nI 1), .ref mas, .int (nI 0), .int (nI 0), .int (nI 0), .ref mso, .ref mon, .ref mot, .ref man, .int (nI 0), .int (nI 0), .ref mst, .ref msm, .ref mtb, .ref mti, .ref mfr, .ref mbn, .ref mbs, .ref mde, .int (nI 0), .int (nI 0), .int (nI 0), .int (nI 0), .long 0, .long 0, .ref maa, .ref mab, .ref mba, .ref mbb])), (ms, .inl (cs 0, 288, .inl freshS))] H := by rw [hH]; exact hP
  have hS : va_S A s.heap H [] := by rw [hH]; exact hS
  obtain ⟨locs, hlocs⟩ : ∃ z : List Loc, z = [] := ⟨_, rfl⟩
  rw [← hlocs] at hS
  suffices hW : W p l e ({ frames := 1, cells := 0, slots := 0, locals := 21 } : Room) s m args below meth c H locs 0 0 (MQ below ((xQi D (fun (r : Int32) (_u : Unit) => r = nI 0) (fun (_u : Unit) => [(hm, .inr (12, [.ref ms, .ref mkp, .int (nI 0), .ref mtr, .int (nI 4), .int (nI 2), .int (nI 2), .int (nI 3), .int (nI 2), .int (nI 1), .ref mas, .int (nI 0), .int (nI 0), .int (nI 0), .ref mso, .ref mon, .ref mot, .ref man, .int (nI 0), .int (nI 0), .ref mst, .ref msm, .ref mtb, .ref mti, .ref mfr, .ref mbn, .ref mbs, .ref mde, .int (nI 0), .int (nI 0), .int (nI 0), .int (nI 0), .long 0, .long 0, .ref maa, .ref mab, .ref mba, .ref mbb])), (ms, .inl (cs 0, 288, .inl freshS))])) A) args s 0 0 A) (F0 m 0 ls []) by rw [hlocs, hH] at hW; exact hW
  refine lv_iconst (v := nI 0) hx hb dX12_apart_0 (by decide) ?_
  refine lv_istore_n (lv' := [(1, .int (nI 0)), (0, .ref hm)]) hx hb dX12_apart_1 rfl hl (by decide) rfl (fun ls hl => ?_)
  refine lv_iconst (v := nI 0) hx hb dX12_apart_2 (by decide) ?_
  refine lv_istore_n (lv' := [(2, .int (nI 0)), (1, .int (nI 0)), (0, .ref hm)]) hx hb dX12_apart_3 rfl hl (by decide) rfl (fun ls hl => ?_)
  have loop_1 : ∀ (n_loop_1 : Nat) (i : Nat), (i ≤ 4) → 4 - i < n_loop_1 → ∀ (H : Heap) (locs : List Loc) (ls : Array Slot), va_P D vwCl [(hm, .inr (12, [.ref ms, .ref mkp, .int (nI 0), .ref mtr, .int (nI 4), .int (nI 2), .int (nI 2), .int (nI 3), .int (nI 2), .int (nI 1), .ref mas, .int (nI 0), .int (nI 0), .int (nI 0), .ref mso, .ref mon, .ref mot, .ref man, .int (nI 0), .int (nI 0), .ref mst, .ref msm, .ref mtb, .ref mti, .ref mfr, .ref mbn, .ref mbs, .ref mde, .int (nI 0), .int (nI 0), .int (nI 0), .int (nI 0), .long 0, .long 0, .ref maa, .ref mab, .ref mba, .ref mbb])), (ms, .inl (cs 0, 288, .inl freshS))] H → va_D A [(hm, .inr (12, [.ref ms, .ref mkp, .int (nI 0), .ref mtr, .int (nI 4), .int (nI 2), .int (nI 2), .int (nI 3), .int (nI 2), .int (nI 1), .ref mas, .int (nI 0), .int (nI 0), .int (nI 0), .ref mso, .ref mon, .ref mot, .ref man, .int (nI 0), .int (nI 0), .ref mst, .ref msm, .ref mtb, .ref mti, .ref mfr, .ref mbn, .ref mbs, .ref mde, .int (nI 0), .int (nI 0), .int (nI 0), .int (nI 0), .long 0, .long 0, .ref maa, .ref mab, .ref mba, .ref mbb])), (ms, .inl (cs 0, 288, .inl freshS))] → va_S A s.heap H locs → lv_has ls 4 [(2, .int (nI i)), (1, .int (nI 0)), (0, .ref hm)] → W p l e ({ frames := 1, cells := 0, slots := 0, locals := 21 } : Room) s m args below meth c H locs 0 0 (MQ below ((xQi D (fun (r : Int32) (_u : Unit) => r = nI 0) (fun (_u : Unit) => [(hm, .inr (12, [.ref ms, .ref mkp, .int (nI 0), .ref mtr, .int (nI 4), .int (nI 2), .int (nI 2), .int (nI 3), .int (nI 2), .int (nI 1), .ref mas, .int (nI 0), .int (nI 0), .int (nI 0), .ref mso, .ref mon, .ref mot, .ref man, .int (nI 0), .int (nI 0), .ref mst, .ref msm, .ref mtb, .ref mti, .ref mfr, .ref mbn, .ref mbs, .ref mde, .int (nI 0), .int (nI 0), .int (nI 0), .int (nI 0), .long 0, .long 0, .ref maa, .ref mab, .ref mba, .ref mbb])), (ms, .inl (cs 0, 288, .inl freshS))])) A) args s 0 0 A) (F0 m 4 ls []) := by
    intro n_loop_1
    induction n_loop_1 with
    | zero => intro i h_i hlt H locs ls hP hD hS hl; exact absurd hlt (Nat.not_lt_zero _)
    | succ n_loop_1 ih_loop_1 =>
      intro i h_i hlt_loop_1 H locs ls hP hD hS hl
      refine lv_iload_n hx hb dX12_apart_4 rfl (lv_at hl 0 rfl) ?_
      refine lv_aload_n hx hb dX12_apart_5 rfl (lv_at hl 2 rfl) ?_
      refine xget C hP 0 rfl rfl zuX12 4 (by decide) zw5_217 rfl dX12_apart_6 ?_
      refine lv_icmp_ge (tgt := 50) hx hb dX12_apart_9 (by decide) (fun c_2 => ?_) (fun c_2 => ?_)
      · -- 9 t
        have fc_2 : 4 ≤ i := nf_le (by omega) (by omega) c_2
        refine lv_iload_n hx hb dX12_apart_50 rfl (lv_at hl 1 rfl) ?_
        exact xreti C () rfl hP hD hS (Nat.le_of_ble_eq_true rfl) (Nat.le_of_ble_eq_true rfl) rfl dX12_apart_51
      · -- 9 f
        have fc_2 : i < 4 := nf_nle (by omega) (by omega) c_2
        refine lv_iconst (v := nI 0) hx hb dX12_apart_12 (by decide) ?_
        refine lv_istore_n (lv' := [(3, .int (nI 0)), (2, .int (nI i)), (1, .int (nI 0)), (0, .ref hm)]) hx hb dX12_apart_13 rfl hl (by decide) rfl (fun ls hl => ?_)
        have loop_3 : ∀ (n_loop_3 : Nat) (k : Nat), (k ≤ i) → i - k < n_loop_3 → ∀ (H : Heap) (locs : List Loc) (ls : Array Slot), va_P D vwCl [(hm, .inr (12, [.ref ms, .ref mkp, .int (nI 0), .ref mtr, .int (nI 4), .int (nI 2), .int (nI 2), .int (nI 3), .int (nI 2), .int (nI 1), .ref mas, .int (nI 0), .int (nI 0), .int (nI 0), .ref mso, .ref mon, .ref mot, .ref man, .int (nI 0), .int (nI 0), .ref mst, .ref msm, .ref mtb, .ref mti, .ref mfr, .ref mbn, .ref mbs, .ref mde, .int (nI 0), .int (nI 0), .int (nI 0), .int (nI 0), .long 0, .long 0, .ref maa, .ref mab, .ref mba, .ref mbb])), (ms, .inl (cs 0, 288, .inl freshS))] H → va_D A [(hm, .inr (12, [.ref ms, .ref mkp, .int (nI 0), .ref mtr, .int (nI 4), .int (nI 2), .int (nI 2), .int (nI 3), .int (nI 2), .int (nI 1), .ref mas, .int (nI 0), .int (nI 0), .int (nI 0), .ref mso, .ref mon, .ref mot, .ref man, .int (nI 0), .int (nI 0), .ref mst, .ref msm, .ref mtb, .ref mti, .ref mfr, .ref mbn, .ref mbs, .ref mde, .int (nI 0), .int (nI 0), .int (nI 0), .int (nI 0), .long 0, .long 0, .ref maa, .ref mab, .ref mba, .ref mbb])), (ms, .inl (cs 0, 288, .inl freshS))] → va_S A s.heap H locs → lv_has ls 4 [(3, .int (nI k)), (2, .int (nI i)), (1, .int (nI 0)), (0, .ref hm)] → W p l e ({ frames := 1, cells := 0, slots := 0, locals := 21 } : Room) s m args below meth c H locs 0 0 (MQ below ((xQi D (fun (r : Int32) (_u : Unit) => r = nI 0) (fun (_u : Unit) => [(hm, .inr (12, [.ref ms, .ref mkp, .int (nI 0), .ref mtr, .int (nI 4), .int (nI 2), .int (nI 2), .int (nI 3), .int (nI 2), .int (nI 1), .ref mas, .int (nI 0), .int (nI 0), .int (nI 0), .ref mso, .ref mon, .ref mot, .ref man, .int (nI 0), .int (nI 0), .ref mst, .ref msm, .ref mtb, .ref mti, .ref mfr, .ref mbn, .ref mbs, .ref mde, .int (nI 0), .int (nI 0), .int (nI 0), .int (nI 0), .long 0, .long 0, .ref maa, .ref mab, .ref mba, .ref mbb])), (ms, .inl (cs 0, 288, .inl freshS))])) A) args s 0 0 A) (F0 m 14 ls []) := by
          intro n_loop_3
          induction n_loop_3 with
          | zero => intro k h_k hlt H locs ls hP hD hS hl; exact absurd hlt (Nat.not_lt_zero _)
          | succ n_loop_3 ih_loop_3 =>
            intro k h_k hlt_loop_3 H locs ls hP hD hS hl
            refine lv_iload_n hx hb dX12_apart_14 rfl (lv_at hl 0 rfl) ?_
            refine lv_iload_n hx hb dX12_apart_15 rfl (lv_at hl 1 rfl) ?_
            refine lv_icmp_ge (tgt := 44) hx hb dX12_apart_16 (by decide) (fun c_4 => ?_) (fun c_4 => ?_)
            · -- 16 t
              have fc_4 : i ≤ k := nf_le (by omega) (by omega) c_4
              refine lv_iinc (v := nI (i + 1)) (lv' := [(2, .int (nI (i + 1))), (3, .int (nI k)), (1, .int (nI 0)), (0, .ref hm)]) hx hb dX12_apart_44 hl (k := 1) rfl (nI_add i 1) (by decide) rfl (fun ls hl => ?_)
              refine lv_goto (tgt := 4) hx hb dX12_apart_47 (by decide) ?_
              exact ih_loop_1 (i + 1) (by omega) (by omega) H locs ls hP hD hS (lv_sub hl [0, 2, 3] rfl)
            · -- 16 f
              have fc_4 : k < i := nf_nle (by omega) (by omega) c_4
              refine lv_aload_n hx hb dX12_apart_19 rfl (lv_at hl 3 rfl) ?_
              refine xget C hP 0 rfl rfl zuX12 0 (by decide) zw5_213 rfl dX12_apart_20 ?_
              refine lv_bipush (v := nI 56) hx hb dX12_apart_23 (by decide) ?_
              refine lv_iload_n hx hb dX12_apart_25 rfl (lv_at hl 1 rfl) ?_
              refine lv_iadd hx hb dX12_apart_26 ?_
              refine lv_topi (nm_r (e' := nI (56 + i)) (nI_add _ _) ?_)
              refine xiald C hP 1 rfl (56 + i) rfl (by omega) (by decide) dX12_apart_27 ?_
              refine lv_topi (nm_r (e' := nI 255) (fS_56 (by omega)) ?_)
              refine lv_iload_n hx hb dX12_apart_28 rfl (lv_at hl 0 rfl) ?_
              refine xi (wr := [(hm, .inr (12, [.ref ms, .ref mkp, .int (nI 0), .ref mtr, .int (nI 4), .int (nI 2), .int (nI 2), .int (nI 3), .int (nI 2), .int (nI 1), .ref mas, .int (nI 0), .int (nI 0), .int (nI 0), .ref mso, .ref mon, .ref mot, .ref man, .int (nI 0), .int (nI 0), .ref mst, .ref msm, .ref mtb, .ref mti, .ref mfr, .ref mbn, .ref mbs, .ref mde, .int (nI 0), .int (nI 0), .int (nI 0), .int (nI 0), .long 0, .long 0, .ref maa, .ref mab, .ref mba, .ref mbb])), (ms, .inl (cs 0, 288, .inl freshS))]) (xS (As := [.int (nI 255), .int (nI k)]) (rest := []) C (c_X12_has l D cs (nI 255) (nI k)) kX12_100 hP hD [] rfl (by decide +kernel) ⟨Nat.le_of_ble_eq_true rfl, Nat.le_of_ble_eq_true rfl⟩ rfl hl.1 rfl (Nat.le_of_ble_eq_true rfl) dX12_apart_29 ⟨Nat.le_of_ble_eq_true rfl, Nat.le_of_ble_eq_true rfl⟩) hP hD hS hA [] [0, 1] rfl rfl (by decide +kernel) (by decide +kernel) (fun r_5 u_6 H locs hw_r_5 hP hD hS => ?_)
              have hw_r_5 : PQ (((nI 255) >>> ((nI k) &&& 31)) &&& nI 1 = nI 1) r_5 (nI 1) (nI 0) := hw_r_5
              refine W.widen (k := 0) (n := 0) (Nat.le_of_ble_eq_true rfl) (Nat.le_of_ble_eq_true rfl) ?_
              have hP : va_P D vwCl [(hm, .inr (12, [.ref ms, .ref mkp, .int (nI 0), .ref mtr, .int (nI 4), .int (nI 2), .int (nI 2), .int (nI 3), .int (nI 2), .int (nI 1), .ref mas, .int (nI 0), .int (nI 0), .int (nI 0), .ref mso, .ref mon, .ref mot, .ref man, .int (nI 0), .int (nI 0), .ref mst, .ref msm, .ref mtb, .ref mti, .ref mfr, .ref mbn, .ref mbs, .ref mde, .int (nI 0), .int (nI 0), .int (nI 0), .int (nI 0), .long 0, .long 0, .ref maa, .ref mab, .ref mba, .ref mbb])), (ms, .inl (cs 0, 288, .inl freshS))] H := hP
              have hD : va_D A [(hm, .inr (12, [.ref ms, .ref mkp, .int (nI 0), .ref mtr, .int (nI 4), .int (nI 2), .int (nI 2), .int (nI 3), .int (nI 2), .int (nI 1), .ref mas, .int (nI 0), .int (nI 0), .int (nI 0), .ref mso, .ref mon, .ref mot, .ref man, .int (nI 0), .int (nI 0), .ref mst, .ref msm, .ref mtb, .ref mti, .ref mfr, .ref mbn, .ref mbs, .ref mde, .int (nI 0), .int (nI 0), .int (nI 0), .int (nI 0), .long 0, .long 0, .ref maa, .ref mab, .ref mba, .ref mbb])), (ms, .inl (cs 0, 288, .inl freshS))] := hD
              obtain rfl : r_5 = nI 1 := by rcases hw_r_5 with ⟨_, q⟩ | ⟨q, _⟩; exact q; exact absurd (xhas k (by omega)) q
              refine lv_if_ne (tgt := 38) hx hb dX12_apart_32 (by decide) (fun _ => ?_) (fun c => absurd c (by decide))
              refine lv_iinc (v := nI (k + 1)) (lv' := [(3, .int (nI (k + 1))), (2, .int (nI i)), (1, .int (nI 0)), (0, .ref hm)]) hx hb dX12_apart_38 hl (k := 0) rfl (nI_add k 1) (by decide) rfl (fun ls hl => ?_)
              refine lv_goto (tgt := 14) hx hb dX12_apart_41 (by decide) ?_
              exact ih_loop_3 (k + 1) (by omega) (by omega) H locs ls hP hD hS (lv_sub hl [0, 1, 2, 3] rfl)
        exact loop_3 _ 0 (by omega) (Nat.lt_succ_self _) H locs ls hP hD hS (lv_sub hl [0, 1, 2, 3] rfl)
  exact loop_1 _ 0 (by omega) (Nat.lt_succ_self _) H locs ls hP hD hS (lv_sub hl [0, 1, 2] rfl)

set_option maxHeartbeats 4000000 in
set_option maxRecDepth 100000 in
theorem c_X12_acceptedOf_z (l : Launch) (D : va_G) (cs : Nat → ClassId) (hm ms mkp mtr mas mso mon mot man mst msm mtb mti mfr mbn mbs mde maa mab mba mbb : Nat) (x y : Int32) : xMet l D cs yX12_acceptedOf cX12_acceptedOf 4 (some .int) ({ frames := 0, cells := 0, slots := 0, locals := 0 } : Room) [.ref hm, .int x, .int y] [(hm, .inr (12, [.ref ms, .ref mkp, .int (nI 0), .ref mtr, .int (nI 4), .int (nI 2), .int (nI 2), .int (nI 3), .int (nI 2), .int (nI 1), .ref mas, .int (nI 0), .int (nI 0), .int (nI 0), .ref mso, .ref mon, .ref mot, .ref man, .int (nI 0), .int (nI 0), .ref mst, .ref msm, .ref mtb, .ref mti, .ref mfr, .ref mbn, .ref mbs, .ref mde, .int (nI 0), .int (nI 0), .int (nI 0), .int (nI 0), .long 0, .long 0, .ref maa, .ref mab, .ref mba, .ref mbb]))] (xQi D (fun (r : Int32) (_u : Unit) => r = -1) (fun (_u : Unit) => [(hm, .inr (12, [.ref ms, .ref mkp, .int (nI 0), .ref mtr, .int (nI 4), .int (nI 2), .int (nI 2), .int (nI 3), .int (nI 2), .int (nI 1), .ref mas, .int (nI 0), .int (nI 0), .int (nI 0), .ref mso, .ref mon, .ref mot, .ref man, .int (nI 0), .int (nI 0), .ref mst, .ref msm, .ref mtb, .ref mti, .ref mfr, .ref mbn, .ref mbs, .ref mde, .int (nI 0), .int (nI 0), .int (nI 0), .int (nI 0), .long 0, .long 0, .ref maa, .ref mab, .ref mba, .ref mbb]))])) := by
  refine xMet.intro (by decide) (Nat.le_of_ble_eq_true rfl) ?_
  intro p e s m args below meth c A ls C hP hD hS hl
  have hx := C.1
  have hb := C.2.1
  have hz := C.2.2.2.2.1
  have hown := C.2.2.2.1
  have hA := C.2.2.2.2.2.2.2.2.2
  have hAO := C.2.2.2.2.2.2.2.2.1.2.2
  have hl : lv_has ls 4 [(0, .ref hm), (1, .int x), (2, .int y)] := hl
  obtain ⟨H, hH⟩ : ∃ H, H = s.heap := ⟨_, rfl⟩
  have hP : va_P D vwCl [(hm, .inr (12, [.ref ms, .ref mkp, .int (nI 0), .ref mtr, .int (nI 4), .int (nI 2), .int (nI 2), .int (nI 3), .int (nI 2), .int (nI 1), .ref mas, .int (nI 0), .int (nI 0), .int (nI 0), .ref mso, .ref mon, .ref mot, .ref man, .int (nI 0), .int (nI 0), .ref mst, .ref msm, .ref mtb, .ref mti, .ref mfr, .ref mbn, .ref mbs, .ref mde, .int (nI 0), .int (nI 0), .int (nI 0), .int (nI 0), .long 0, .long 0, .ref maa, .ref mab, .ref mba, .ref mbb]))] H := by rw [hH]; exact hP
  have hS : va_S A s.heap H [] := by rw [hH]; exact hS
  obtain ⟨locs, hlocs⟩ : ∃ z : List Loc, z = [] := ⟨_, rfl⟩
  rw [← hlocs] at hS
  suffices hW : W p l e ({ frames := 0, cells := 0, slots := 0, locals := 0 } : Room) s m args below meth c H locs 0 0 (MQ below ((xQi D (fun (r : Int32) (_u : Unit) => r = -1) (fun (_u : Unit) => [(hm, .inr (12, [.ref ms, .ref mkp, .int (nI 0), .ref mtr, .int (nI 4), .int (nI 2), .int (nI 2), .int (nI 3), .int (nI 2), .int (nI 1), .ref mas, .int (nI 0), .int (nI 0), .int (nI 0), .ref mso, .ref mon, .ref mot, .ref man, .int (nI 0), .int (nI 0), .ref mst, .ref msm, .ref mtb, .ref mti, .ref mfr, .ref mbn, .ref mbs, .ref mde, .int (nI 0), .int (nI 0), .int (nI 0), .int (nI 0), .long 0, .long 0, .ref maa, .ref mab, .ref mba, .ref mbb]))])) A) args s 0 0 A) (F0 m 0 ls []) by rw [hlocs, hH] at hW; exact hW
  refine lv_iconst (v := nI 0) hx hb dX12_acceptedOf_0 (by decide) ?_
  refine lv_istore_n (lv' := [(3, .int (nI 0)), (0, .ref hm), (1, .int x), (2, .int y)]) hx hb dX12_acceptedOf_1 rfl hl (by decide) rfl (fun ls hl => ?_)
  refine lv_iload_n hx hb dX12_acceptedOf_2 rfl (lv_at hl 0 rfl) ?_
  refine lv_aload_n hx hb dX12_acceptedOf_3 rfl (lv_at hl 1 rfl) ?_
  refine xget C hP 0 rfl rfl zuX12 13 (by decide) zw5_226 rfl dX12_acceptedOf_4 ?_
  refine lv_icmp_ge (tgt := 44) hx hb dX12_acceptedOf_7 (by decide) (fun _ => ?_) (fun c => absurd (by decide) c)
  refine lv_iconst (v := (-1)) hx hb dX12_acceptedOf_44 (by decide) ?_
  exact xreti C () rfl hP hD hS (Nat.le_of_ble_eq_true rfl) (Nat.le_of_ble_eq_true rfl) rfl dX12_acceptedOf_45

set_option maxHeartbeats 4000000 in
set_option maxRecDepth 100000 in
theorem c_X12_splitSets_z (l : Launch) (D : va_G) (cs : Nat → ClassId) (hm ms mkp mtr mas mso mon mot man mst msm mtb mti mfr mbn mbs mde maa mab mba mbb : Nat) : xMet l D cs yX12_splitSets cX12_splitSets 6 (some .int) ({ frames := 1, cells := 0, slots := 0, locals := 23 } : Room) [.ref hm] [(hm, .inr (12, [.ref ms, .ref mkp, .int (nI 0), .ref mtr, .int (nI 4), .int (nI 2), .int (nI 2), .int (nI 3), .int (nI 2), .int (nI 1), .ref mas, .int (nI 0), .int (nI 0), .int (nI 0), .ref mso, .ref mon, .ref mot, .ref man, .int (nI 0), .int (nI 0), .ref mst, .ref msm, .ref mtb, .ref mti, .ref mfr, .ref mbn, .ref mbs, .ref mde, .int (nI 0), .int (nI 0), .int (nI 0), .int (nI 0), .long 0, .long 0, .ref maa, .ref mab, .ref mba, .ref mbb])), (ms, .inl (cs 0, 288, .inl freshS))] (xQi D (fun (r : Int32) (_u : Unit) => r = nI 0) (fun (_u : Unit) => [(hm, .inr (12, [.ref ms, .ref mkp, .int (nI 0), .ref mtr, .int (nI 4), .int (nI 2), .int (nI 2), .int (nI 3), .int (nI 2), .int (nI 1), .ref mas, .int (nI 0), .int (nI 0), .int (nI 0), .ref mso, .ref mon, .ref mot, .ref man, .int (nI 0), .int (nI 0), .ref mst, .ref msm, .ref mtb, .ref mti, .ref mfr, .ref mbn, .ref mbs, .ref mde, .int (nI 0), .int (nI 0), .int (nI 0), .int (nI 0), .long 0, .long 0, .ref maa, .ref mab, .ref mba, .ref mbb])), (ms, .inl (cs 0, 288, .inl freshS))])) := by
  refine xMet.intro (by decide) (Nat.le_of_ble_eq_true rfl) ?_
  intro p e s m args below meth c A ls C hP hD hS hl
  have hx := C.1
  have hb := C.2.1
  have hz := C.2.2.2.2.1
  have hown := C.2.2.2.1
  have hA := C.2.2.2.2.2.2.2.2.2
  have hAO := C.2.2.2.2.2.2.2.2.1.2.2
  have hl : lv_has ls 6 [(0, .ref hm)] := hl
  obtain ⟨H, hH⟩ : ∃ H, H = s.heap := ⟨_, rfl⟩
  have hP : va_P D vwCl [(hm, .inr (12, [.ref ms, .ref mkp, .int (nI 0), .ref mtr, .int (nI 4), .int (nI 2), .int (nI 2), .int (nI 3), .int (nI 2), .int (nI 1), .ref mas, .int (nI 0), .int (nI 0), .int (nI 0), .ref mso, .ref mon, .ref mot, .ref man, .int (nI 0), .int (nI 0), .ref mst, .ref msm, .ref mtb, .ref mti, .ref mfr, .ref mbn, .ref mbs, .ref mde, .int (nI 0), .int (nI 0), .int (nI 0), .int (nI 0), .long 0, .long 0, .ref maa, .ref mab, .ref mba, .ref mbb])), (ms, .inl (cs 0, 288, .inl freshS))] H := by rw [hH]; exact hP
  have hS : va_S A s.heap H [] := by rw [hH]; exact hS
  obtain ⟨locs, hlocs⟩ : ∃ z : List Loc, z = [] := ⟨_, rfl⟩
  rw [← hlocs] at hS
  suffices hW : W p l e ({ frames := 1, cells := 0, slots := 0, locals := 23 } : Room) s m args below meth c H locs 0 0 (MQ below ((xQi D (fun (r : Int32) (_u : Unit) => r = nI 0) (fun (_u : Unit) => [(hm, .inr (12, [.ref ms, .ref mkp, .int (nI 0), .ref mtr, .int (nI 4), .int (nI 2), .int (nI 2), .int (nI 3), .int (nI 2), .int (nI 1), .ref mas, .int (nI 0), .int (nI 0), .int (nI 0), .ref mso, .ref mon, .ref mot, .ref man, .int (nI 0), .int (nI 0), .ref mst, .ref msm, .ref mtb, .ref mti, .ref mfr, .ref mbn, .ref mbs, .ref mde, .int (nI 0), .int (nI 0), .int (nI 0), .int (nI 0), .long 0, .long 0, .ref maa, .ref mab, .ref mba, .ref mbb])), (ms, .inl (cs 0, 288, .inl freshS))])) A) args s 0 0 A) (F0 m 0 ls []) by rw [hlocs, hH] at hW; exact hW
  refine lv_iconst (v := nI 0) hx hb dX12_splitSets_0 (by decide) ?_
  refine lv_istore_n (lv' := [(1, .int (nI 0)), (0, .ref hm)]) hx hb dX12_splitSets_1 rfl hl (by decide) rfl (fun ls hl => ?_)
  refine lv_iconst (v := nI 0) hx hb dX12_splitSets_2 (by decide) ?_
  refine lv_istore_n (lv' := [(2, .int (nI 0)), (1, .int (nI 0)), (0, .ref hm)]) hx hb dX12_splitSets_3 rfl hl (by decide) rfl (fun ls hl => ?_)
  have loop_1 : ∀ (n_loop_1 : Nat) (i : Nat), (i ≤ 8) → 8 - i < n_loop_1 → ∀ (H : Heap) (locs : List Loc) (ls : Array Slot), va_P D vwCl [(hm, .inr (12, [.ref ms, .ref mkp, .int (nI 0), .ref mtr, .int (nI 4), .int (nI 2), .int (nI 2), .int (nI 3), .int (nI 2), .int (nI 1), .ref mas, .int (nI 0), .int (nI 0), .int (nI 0), .ref mso, .ref mon, .ref mot, .ref man, .int (nI 0), .int (nI 0), .ref mst, .ref msm, .ref mtb, .ref mti, .ref mfr, .ref mbn, .ref mbs, .ref mde, .int (nI 0), .int (nI 0), .int (nI 0), .int (nI 0), .long 0, .long 0, .ref maa, .ref mab, .ref mba, .ref mbb])), (ms, .inl (cs 0, 288, .inl freshS))] H → va_D A [(hm, .inr (12, [.ref ms, .ref mkp, .int (nI 0), .ref mtr, .int (nI 4), .int (nI 2), .int (nI 2), .int (nI 3), .int (nI 2), .int (nI 1), .ref mas, .int (nI 0), .int (nI 0), .int (nI 0), .ref mso, .ref mon, .ref mot, .ref man, .int (nI 0), .int (nI 0), .ref mst, .ref msm, .ref mtb, .ref mti, .ref mfr, .ref mbn, .ref mbs, .ref mde, .int (nI 0), .int (nI 0), .int (nI 0), .int (nI 0), .long 0, .long 0, .ref maa, .ref mab, .ref mba, .ref mbb])), (ms, .inl (cs 0, 288, .inl freshS))] → va_S A s.heap H locs → lv_has ls 6 [(2, .int (nI i)), (1, .int (nI 0)), (0, .ref hm)] → W p l e ({ frames := 1, cells := 0, slots := 0, locals := 23 } : Room) s m args below meth c H locs 0 0 (MQ below ((xQi D (fun (r : Int32) (_u : Unit) => r = nI 0) (fun (_u : Unit) => [(hm, .inr (12, [.ref ms, .ref mkp, .int (nI 0), .ref mtr, .int (nI 4), .int (nI 2), .int (nI 2), .int (nI 3), .int (nI 2), .int (nI 1), .ref mas, .int (nI 0), .int (nI 0), .int (nI 0), .ref mso, .ref mon, .ref mot, .ref man, .int (nI 0), .int (nI 0), .ref mst, .ref msm, .ref mtb, .ref mti, .ref mfr, .ref mbn, .ref mbs, .ref mde, .int (nI 0), .int (nI 0), .int (nI 0), .int (nI 0), .long 0, .long 0, .ref maa, .ref mab, .ref mba, .ref mbb])), (ms, .inl (cs 0, 288, .inl freshS))])) A) args s 0 0 A) (F0 m 4 ls []) := by
    intro n_loop_1
    induction n_loop_1 with
    | zero => intro i h_i hlt H locs ls hP hD hS hl; exact absurd hlt (Nat.not_lt_zero _)
    | succ n_loop_1 ih_loop_1 =>
      intro i h_i hlt_loop_1 H locs ls hP hD hS hl
      refine lv_iload_n hx hb dX12_splitSets_4 rfl (lv_at hl 0 rfl) ?_
      refine lv_bipush (v := nI 8) hx hb dX12_splitSets_5 (by decide) ?_
      refine lv_icmp_ge (tgt := 95) hx hb dX12_splitSets_7 (by decide) (fun c_2 => ?_) (fun c_2 => ?_)
      · -- 7 t
        have fc_2 : 8 ≤ i := nf_le (by omega) (by omega) c_2
        refine lv_iload_n hx hb dX12_splitSets_95 rfl (lv_at hl 1 rfl) ?_
        exact xreti C () rfl hP hD hS (Nat.le_of_ble_eq_true rfl) (Nat.le_of_ble_eq_true rfl) rfl dX12_splitSets_96
      · -- 7 f
        have fc_2 : i < 8 := nf_nle (by omega) (by omega) c_2
        refine lv_iconst (v := (-1)) hx hb dX12_splitSets_10 (by decide) ?_
        refine lv_istore_n (lv' := [(3, .int (-1)), (2, .int (nI i)), (1, .int (nI 0)), (0, .ref hm)]) hx hb dX12_splitSets_11 rfl hl (by decide) rfl (fun ls hl => ?_)
        refine lv_iconst (v := nI 0) hx hb dX12_splitSets_12 (by decide) ?_
        refine lv_istore (lv' := [(4, .int (nI 0)), (3, .int (-1)), (2, .int (nI i)), (1, .int (nI 0)), (0, .ref hm)]) hx hb dX12_splitSets_13 hl (by decide) rfl (fun ls hl => ?_)
        have loop_3 : ∀ (n_loop_3 : Nat) (k : Nat), (k ≤ 4) → 4 - k < n_loop_3 → ∀ (H : Heap) (locs : List Loc) (ls : Array Slot), va_P D vwCl [(hm, .inr (12, [.ref ms, .ref mkp, .int (nI 0), .ref mtr, .int (nI 4), .int (nI 2), .int (nI 2), .int (nI 3), .int (nI 2), .int (nI 1), .ref mas, .int (nI 0), .int (nI 0), .int (nI 0), .ref mso, .ref mon, .ref mot, .ref man, .int (nI 0), .int (nI 0), .ref mst, .ref msm, .ref mtb, .ref mti, .ref mfr, .ref mbn, .ref mbs, .ref mde, .int (nI 0), .int (nI 0), .int (nI 0), .int (nI 0), .long 0, .long 0, .ref maa, .ref mab, .ref mba, .ref mbb])), (ms, .inl (cs 0, 288, .inl freshS))] H → va_D A [(hm, .inr (12, [.ref ms, .ref mkp, .int (nI 0), .ref mtr, .int (nI 4), .int (nI 2), .int (nI 2), .int (nI 3), .int (nI 2), .int (nI 1), .ref mas, .int (nI 0), .int (nI 0), .int (nI 0), .ref mso, .ref mon, .ref mot, .ref man, .int (nI 0), .int (nI 0), .ref mst, .ref msm, .ref mtb, .ref mti, .ref mfr, .ref mbn, .ref mbs, .ref mde, .int (nI 0), .int (nI 0), .int (nI 0), .int (nI 0), .long 0, .long 0, .ref maa, .ref mab, .ref mba, .ref mbb])), (ms, .inl (cs 0, 288, .inl freshS))] → va_S A s.heap H locs → lv_has ls 6 [(4, .int (nI k)), (3, .int (-1)), (2, .int (nI i)), (1, .int (nI 0)), (0, .ref hm)] → W p l e ({ frames := 1, cells := 0, slots := 0, locals := 23 } : Room) s m args below meth c H locs 0 0 (MQ below ((xQi D (fun (r : Int32) (_u : Unit) => r = nI 0) (fun (_u : Unit) => [(hm, .inr (12, [.ref ms, .ref mkp, .int (nI 0), .ref mtr, .int (nI 4), .int (nI 2), .int (nI 2), .int (nI 3), .int (nI 2), .int (nI 1), .ref mas, .int (nI 0), .int (nI 0), .int (nI 0), .ref mso, .ref mon, .ref mot, .ref man, .int (nI 0), .int (nI 0), .ref mst, .ref msm, .ref mtb, .ref mti, .ref mfr, .ref mbn, .ref mbs, .ref mde, .int (nI 0), .int (nI 0), .int (nI 0), .int (nI 0), .long 0, .long 0, .ref maa, .ref mab, .ref mba, .ref mbb])), (ms, .inl (cs 0, 288, .inl freshS))])) A) args s 0 0 A) (F0 m 15 ls []) := by
          intro n_loop_3
          induction n_loop_3 with
          | zero => intro k h_k hlt H locs ls hP hD hS hl; exact absurd hlt (Nat.not_lt_zero _)
          | succ n_loop_3 ih_loop_3 =>
            intro k h_k hlt_loop_3 H locs ls hP hD hS hl
            refine lv_iload hx hb dX12_splitSets_15 (lv_at hl 0 rfl) ?_
            refine lv_aload_n hx hb dX12_splitSets_17 rfl (lv_at hl 4 rfl) ?_
            refine xget C hP 0 rfl rfl zuX12 4 (by decide) zw5_217 rfl dX12_splitSets_18 ?_
            refine lv_icmp_ge (tgt := 89) hx hb dX12_splitSets_21 (by decide) (fun c_4 => ?_) (fun c_4 => ?_)
            · -- 21 t
              have fc_4 : 4 ≤ k := nf_le (by omega) (by omega) c_4
              refine lv_iinc (v := nI (i + 1)) (lv' := [(2, .int (nI (i + 1))), (4, .int (nI k)), (3, .int (-1)), (1, .int (nI 0)), (0, .ref hm)]) hx hb dX12_splitSets_89 hl (k := 2) rfl (nI_add i 1) (by decide) rfl (fun ls hl => ?_)
              refine lv_goto (tgt := 4) hx hb dX12_splitSets_92 (by decide) ?_
              exact ih_loop_1 (i + 1) (by omega) (by omega) H locs ls hP hD hS (lv_sub hl [0, 3, 4] rfl)
            · -- 21 f
              have fc_4 : k < 4 := nf_nle (by omega) (by omega) c_4
              refine lv_aload_n hx hb dX12_splitSets_24 rfl (lv_at hl 4 rfl) ?_
              refine xget C hP 0 rfl rfl zuX12 0 (by decide) zw5_213 rfl dX12_splitSets_25 ?_
              refine lv_bipush (v := nI 48) hx hb dX12_splitSets_28 (by decide) ?_
              refine lv_iload hx hb dX12_splitSets_30 (lv_at hl 0 rfl) ?_
              refine lv_iadd hx hb dX12_splitSets_32 ?_
              refine lv_topi (nm_r (e' := nI (48 + k)) (nI_add _ _) ?_)
              refine xiald C hP 1 rfl (48 + k) rfl (by omega) (by decide) dX12_splitSets_33 ?_
              refine lv_topi (nm_r (e' := nI 0) (fS_z (by omega)) ?_)
              refine lv_if_ne (tgt := 47) hx hb dX12_splitSets_34 (by decide) (fun c => absurd (by decide) c) (fun _ => ?_)
              refine lv_aload_n hx hb dX12_splitSets_37 rfl (lv_at hl 4 rfl) ?_
              refine lv_iload hx hb dX12_splitSets_38 (lv_at hl 0 rfl) ?_
              refine lv_iload_n hx hb dX12_splitSets_40 rfl (lv_at hl 2 rfl) ?_
              refine xi (wr := [(ms, .inl (cs 0, 288, .inl freshS))]) (xV (As := [.int (nI k), .int (nI i)]) (rest := []) C (c_X12_acceptedOf_z l D cs hm ms mkp mtr mas mso mon mot man mst msm mtb mti mfr mbn mbs mde maa mab mba mbb (nI k) (nI i)) kX12_310 hP hD [0] rfl (by decide +kernel) 0 rfl rfl rfl ⟨Nat.le_of_ble_eq_true rfl, Nat.le_of_ble_eq_true rfl⟩ rfl hl.1 rfl (Nat.le_of_ble_eq_true rfl) dX12_splitSets_41 ⟨Nat.le_of_ble_eq_true rfl, Nat.le_of_ble_eq_true rfl⟩) hP hD hS hA [0] [1] rfl rfl (by decide +kernel) (by decide +kernel) (fun r_5 u_6 H locs hw_r_5 hP hD hS => ?_)
              have hw_r_5 : r_5 = -1 := hw_r_5
              refine W.widen (k := 0) (n := 0) (Nat.le_of_ble_eq_true rfl) (Nat.le_of_ble_eq_true rfl) ?_
              have hP : va_P D vwCl [(ms, .inl (cs 0, 288, .inl freshS)), (hm, .inr (12, [.ref ms, .ref mkp, .int (nI 0), .ref mtr, .int (nI 4), .int (nI 2), .int (nI 2), .int (nI 3), .int (nI 2), .int (nI 1), .ref mas, .int (nI 0), .int (nI 0), .int (nI 0), .ref mso, .ref mon, .ref mot, .ref man, .int (nI 0), .int (nI 0), .ref mst, .ref msm, .ref mtb, .ref mti, .ref mfr, .ref mbn, .ref mbs, .ref mde, .int (nI 0), .int (nI 0), .int (nI 0), .int (nI 0), .long 0, .long 0, .ref maa, .ref mab, .ref mba, .ref mbb]))] H := hP
              have hD : va_D A [(ms, .inl (cs 0, 288, .inl freshS)), (hm, .inr (12, [.ref ms, .ref mkp, .int (nI 0), .ref mtr, .int (nI 4), .int (nI 2), .int (nI 2), .int (nI 3), .int (nI 2), .int (nI 1), .ref mas, .int (nI 0), .int (nI 0), .int (nI 0), .ref mso, .ref mon, .ref mot, .ref man, .int (nI 0), .int (nI 0), .ref mst, .ref msm, .ref mtb, .ref mti, .ref mfr, .ref mbn, .ref mbs, .ref mde, .int (nI 0), .int (nI 0), .int (nI 0), .int (nI 0), .long 0, .long 0, .ref maa, .ref mab, .ref mba, .ref mbb]))] := hD
              subst hw_r_5
              refine lv_goto (tgt := 48) hx hb dX12_splitSets_44 (by decide) ?_
              refine lv_istore (lv' := [(5, .int (-1)), (4, .int (nI k)), (3, .int (-1)), (2, .int (nI i)), (1, .int (nI 0)), (0, .ref hm)]) hx hb dX12_splitSets_48 hl (by decide) rfl (fun ls hl => ?_)
              refine lv_iload hx hb dX12_splitSets_50 (lv_at hl 0 rfl) ?_
              refine lv_if_lt (tgt := 71) hx hb dX12_splitSets_52 (by decide) (fun _ => ?_) (fun c => absurd (by decide) c)
              refine lv_iload hx hb dX12_splitSets_71 (lv_at hl 0 rfl) ?_
              refine lv_if_lt (tgt := 83) hx hb dX12_splitSets_73 (by decide) (fun _ => ?_) (fun c => absurd (by decide) c)
              refine lv_iinc (v := nI (k + 1)) (lv' := [(4, .int (nI (k + 1))), (5, .int (-1)), (3, .int (-1)), (2, .int (nI i)), (1, .int (nI 0)), (0, .ref hm)]) hx hb dX12_splitSets_83 hl (k := 1) rfl (nI_add k 1) (by decide) rfl (fun ls hl => ?_)
              refine lv_goto (tgt := 15) hx hb dX12_splitSets_86 (by decide) ?_
              exact ih_loop_3 (k + 1) (by omega) (by omega) H locs ls (xP_map hP [1, 0] rfl) (hD.sub [1, 0] (by decide +kernel) rfl) hS (lv_sub hl [0, 2, 3, 4, 5] rfl)
        exact loop_3 _ 0 (by omega) (Nat.lt_succ_self _) H locs ls hP hD hS (lv_sub hl [0, 1, 2, 3, 4] rfl)
  exact loop_1 _ 0 (by omega) (Nat.lt_succ_self _) H locs ls hP hD hS (lv_sub hl [0, 1, 2] rfl)

set_option maxHeartbeats 4000000 in
set_option maxRecDepth 100000 in
theorem c_X12_coloured_z (l : Launch) (D : va_G) (cs : Nat → ClassId) (hm ms mkp mtr mas mso mon mot man mst msm mtb mti mfr mbn mbs mde maa mab mba mbb : Nat) : xMet l D cs yX12_coloured cX12_coloured 3 (some .int) ({ frames := 0, cells := 0, slots := 0, locals := 0 } : Room) [.ref hm] [(hm, .inr (12, [.ref ms, .ref mkp, .int (nI 0), .ref mtr, .int (nI 4), .int (nI 2), .int (nI 2), .int (nI 3), .int (nI 2), .int (nI 1), .ref mas, .int (nI 0), .int (nI 0), .int (nI 0), .ref mso, .ref mon, .ref mot, .ref man, .int (nI 0), .int (nI 0), .ref mst, .ref msm, .ref mtb, .ref mti, .ref mfr, .ref mbn, .ref mbs, .ref mde, .int (nI 0), .int (nI 0), .int (nI 0), .int (nI 0), .long 0, .long 0, .ref maa, .ref mab, .ref mba, .ref mbb])), (ms, .inl (cs 0, 288, .inl freshS))] (xQi D (fun (r : Int32) (_u : Unit) => r = nI 0) (fun (_u : Unit) => [(hm, .inr (12, [.ref ms, .ref mkp, .int (nI 0), .ref mtr, .int (nI 4), .int (nI 2), .int (nI 2), .int (nI 3), .int (nI 2), .int (nI 1), .ref mas, .int (nI 0), .int (nI 0), .int (nI 0), .ref mso, .ref mon, .ref mot, .ref man, .int (nI 0), .int (nI 0), .ref mst, .ref msm, .ref mtb, .ref mti, .ref mfr, .ref mbn, .ref mbs, .ref mde, .int (nI 0), .int (nI 0), .int (nI 0), .int (nI 0), .long 0, .long 0, .ref maa, .ref mab, .ref mba, .ref mbb])), (ms, .inl (cs 0, 288, .inl freshS))])) := by
  refine xMet.intro (by decide) (Nat.le_of_ble_eq_true rfl) ?_
  intro p e s m args below meth c A ls C hP hD hS hl
  have hx := C.1
  have hb := C.2.1
  have hz := C.2.2.2.2.1
  have hown := C.2.2.2.1
  have hA := C.2.2.2.2.2.2.2.2.2
  have hAO := C.2.2.2.2.2.2.2.2.1.2.2
  have hl : lv_has ls 3 [(0, .ref hm)] := hl
  obtain ⟨H, hH⟩ : ∃ H, H = s.heap := ⟨_, rfl⟩
  have hP : va_P D vwCl [(hm, .inr (12, [.ref ms, .ref mkp, .int (nI 0), .ref mtr, .int (nI 4), .int (nI 2), .int (nI 2), .int (nI 3), .int (nI 2), .int (nI 1), .ref mas, .int (nI 0), .int (nI 0), .int (nI 0), .ref mso, .ref mon, .ref mot, .ref man, .int (nI 0), .int (nI 0), .ref mst, .ref msm, .ref mtb, .ref mti, .ref mfr, .ref mbn, .ref mbs, .ref mde, .int (nI 0), .int (nI 0), .int (nI 0), .int (nI 0), .long 0, .long 0, .ref maa, .ref mab, .ref mba, .ref mbb])), (ms, .inl (cs 0, 288, .inl freshS))] H := by rw [hH]; exact hP
  have hS : va_S A s.heap H [] := by rw [hH]; exact hS
  obtain ⟨locs, hlocs⟩ : ∃ z : List Loc, z = [] := ⟨_, rfl⟩
  rw [← hlocs] at hS
  suffices hW : W p l e ({ frames := 0, cells := 0, slots := 0, locals := 0 } : Room) s m args below meth c H locs 0 0 (MQ below ((xQi D (fun (r : Int32) (_u : Unit) => r = nI 0) (fun (_u : Unit) => [(hm, .inr (12, [.ref ms, .ref mkp, .int (nI 0), .ref mtr, .int (nI 4), .int (nI 2), .int (nI 2), .int (nI 3), .int (nI 2), .int (nI 1), .ref mas, .int (nI 0), .int (nI 0), .int (nI 0), .ref mso, .ref mon, .ref mot, .ref man, .int (nI 0), .int (nI 0), .ref mst, .ref msm, .ref mtb, .ref mti, .ref mfr, .ref mbn, .ref mbs, .ref mde, .int (nI 0), .int (nI 0), .int (nI 0), .int (nI 0), .long 0, .long 0, .ref maa, .ref mab, .ref mba, .ref mbb])), (ms, .inl (cs 0, 288, .inl freshS))])) A) args s 0 0 A) (F0 m 0 ls []) by rw [hlocs, hH] at hW; exact hW
  refine lv_iconst (v := nI 0) hx hb dX12_coloured_0 (by decide) ?_
  refine lv_istore_n (lv' := [(1, .int (nI 0)), (0, .ref hm)]) hx hb dX12_coloured_1 rfl hl (by decide) rfl (fun ls hl => ?_)
  refine lv_iconst (v := nI 0) hx hb dX12_coloured_2 (by decide) ?_
  refine lv_istore_n (lv' := [(2, .int (nI 0)), (1, .int (nI 0)), (0, .ref hm)]) hx hb dX12_coloured_3 rfl hl (by decide) rfl (fun ls hl => ?_)
  have loop_1 : ∀ (n_loop_1 : Nat) (i : Nat), (i ≤ 4) → 4 - i < n_loop_1 → ∀ (H : Heap) (locs : List Loc) (ls : Array Slot), va_P D vwCl [(hm, .inr (12, [.ref ms, .ref mkp, .int (nI 0), .ref mtr, .int (nI 4), .int (nI 2), .int (nI 2), .int (nI 3), .int (nI 2), .int (nI 1), .ref mas, .int (nI 0), .int (nI 0), .int (nI 0), .ref mso, .ref mon, .ref mot, .ref man, .int (nI 0), .int (nI 0), .ref mst, .ref msm, .ref mtb, .ref mti, .ref mfr, .ref mbn, .ref mbs, .ref mde, .int (nI 0), .int (nI 0), .int (nI 0), .int (nI 0), .long 0, .long 0, .ref maa, .ref mab, .ref mba, .ref mbb])), (ms, .inl (cs 0, 288, .inl freshS))] H → va_D A [(hm, .inr (12, [.ref ms, .ref mkp, .int (nI 0), .ref mtr, .int (nI 4), .int (nI 2), .int (nI 2), .int (nI 3), .int (nI 2), .int (nI 1), .ref mas, .int (nI 0), .int (nI 0), .int (nI 0), .ref mso, .ref mon, .ref mot, .ref man, .int (nI 0), .int (nI 0), .ref mst, .ref msm, .ref mtb, .ref mti, .ref mfr, .ref mbn, .ref mbs, .ref mde, .int (nI 0), .int (nI 0), .int (nI 0), .int (nI 0), .long 0, .long 0, .ref maa, .ref mab, .ref mba, .ref mbb])), (ms, .inl (cs 0, 288, .inl freshS))] → va_S A s.heap H locs → lv_has ls 3 [(2, .int (nI i)), (1, .int (nI 0)), (0, .ref hm)] → W p l e ({ frames := 0, cells := 0, slots := 0, locals := 0 } : Room) s m args below meth c H locs 0 0 (MQ below ((xQi D (fun (r : Int32) (_u : Unit) => r = nI 0) (fun (_u : Unit) => [(hm, .inr (12, [.ref ms, .ref mkp, .int (nI 0), .ref mtr, .int (nI 4), .int (nI 2), .int (nI 2), .int (nI 3), .int (nI 2), .int (nI 1), .ref mas, .int (nI 0), .int (nI 0), .int (nI 0), .ref mso, .ref mon, .ref mot, .ref man, .int (nI 0), .int (nI 0), .ref mst, .ref msm, .ref mtb, .ref mti, .ref mfr, .ref mbn, .ref mbs, .ref mde, .int (nI 0), .int (nI 0), .int (nI 0), .int (nI 0), .long 0, .long 0, .ref maa, .ref mab, .ref mba, .ref mbb])), (ms, .inl (cs 0, 288, .inl freshS))])) A) args s 0 0 A) (F0 m 4 ls []) := by
    intro n_loop_1
    induction n_loop_1 with
    | zero => intro i h_i hlt H locs ls hP hD hS hl; exact absurd hlt (Nat.not_lt_zero _)
    | succ n_loop_1 ih_loop_1 =>
      intro i h_i hlt_loop_1 H locs ls hP hD hS hl
      refine lv_iload_n hx hb dX12_coloured_4 rfl (lv_at hl 0 rfl) ?_
      refine lv_aload_n hx hb dX12_coloured_5 rfl (lv_at hl 2 rfl) ?_
      refine xget C hP 0 rfl rfl zuX12 4 (by decide) zw5_217 rfl dX12_coloured_6 ?_
      refine lv_icmp_ge (tgt := 48) hx hb dX12_coloured_9 (by decide) (fun c_2 => ?_) (fun c_2 => ?_)
      · -- 9 t
        have fc_2 : 4 ≤ i := nf_le (by omega) (by omega) c_2
        refine lv_iload_n hx hb dX12_coloured_48 rfl (lv_at hl 1 rfl) ?_
        exact xreti C () rfl hP hD hS (Nat.le_of_ble_eq_true rfl) (Nat.le_of_ble_eq_true rfl) rfl dX12_coloured_49
      · -- 9 f
        have fc_2 : i < 4 := nf_nle (by omega) (by omega) c_2
        refine lv_aload_n hx hb dX12_coloured_12 rfl (lv_at hl 2 rfl) ?_
        refine xget C hP 0 rfl rfl zuX12 0 (by decide) zw5_213 rfl dX12_coloured_13 ?_
        refine lv_bipush (v := nI 48) hx hb dX12_coloured_16 (by decide) ?_
        refine lv_iload_n hx hb dX12_coloured_18 rfl (lv_at hl 0 rfl) ?_
        refine lv_iadd hx hb dX12_coloured_19 ?_
        refine lv_topi (nm_r (e' := nI (48 + i)) (nI_add _ _) ?_)
        refine xiald C hP 1 rfl (48 + i) rfl (by omega) (by decide) dX12_coloured_20 ?_
        refine lv_topi (nm_r (e' := nI 0) (fS_z (by omega)) ?_)
        refine lv_if_ne (tgt := 42) hx hb dX12_coloured_21 (by decide) (fun c => absurd (by decide) c) (fun _ => ?_)
        refine lv_aload_n hx hb dX12_coloured_24 rfl (lv_at hl 2 rfl) ?_
        refine xget C hP 0 rfl rfl zuX12 0 (by decide) zw5_213 rfl dX12_coloured_25 ?_
        refine lv_iconst (v := nI 0) hx hb dX12_coloured_28 (by decide) ?_
        refine lv_iload_n hx hb dX12_coloured_29 rfl (lv_at hl 0 rfl) ?_
        refine lv_iadd hx hb dX12_coloured_30 ?_
        refine lv_topi (nm_r (e' := nI (0 + i)) (nI_add _ _) ?_)
        refine xiald C hP 1 rfl (0 + i) rfl (by omega) (by decide) dX12_coloured_31 ?_
        refine lv_topi (nm_r (e' := (-1)) (fS_16 (by omega)) ?_)
        refine lv_iconst (v := nI 1) hx hb dX12_coloured_32 (by decide) ?_
        refine lv_icmp_ne (tgt := 42) hx hb dX12_coloured_33 (by decide) (fun _ => ?_) (fun c => absurd c (by decide))
        refine lv_iinc (v := nI (i + 1)) (lv' := [(2, .int (nI (i + 1))), (1, .int (nI 0)), (0, .ref hm)]) hx hb dX12_coloured_42 hl (k := 0) rfl (nI_add i 1) (by decide) rfl (fun ls hl => ?_)
        refine lv_goto (tgt := 4) hx hb dX12_coloured_45 (by decide) ?_
        exact ih_loop_1 (i + 1) (by omega) (by omega) H locs ls hP hD hS (lv_sub hl [0, 1, 2] rfl)
  exact loop_1 _ 0 (by omega) (Nat.lt_succ_self _) H locs ls hP hD hS (lv_sub hl [0, 1, 2] rfl)

set_option maxHeartbeats 4000000 in
set_option maxRecDepth 100000 in
theorem c_X12_ones_a (l : Launch) (D : va_G) (cs : Nat → ClassId) (hm ms mkp mtr mas mso mon mot man mst msm mtb mti mfr mbn mbs mde maa mab mba mbb : Nat) : xMet l D cs yX12_ones cX12_ones 5 (some .int) ({ frames := 0, cells := 0, slots := 0, locals := 0 } : Room) [.ref hm, .int (nI 48), .int (nI 0)] [(hm, .inr (12, [.ref ms, .ref mkp, .int (nI 0), .ref mtr, .int (nI 4), .int (nI 2), .int (nI 2), .int (nI 3), .int (nI 2), .int (nI 1), .ref mas, .int (nI 0), .int (nI 0), .int (nI 0), .ref mso, .ref mon, .ref mot, .ref man, .int (nI 0), .int (nI 0), .ref mst, .ref msm, .ref mtb, .ref mti, .ref mfr, .ref mbn, .ref mbs, .ref mde, .int (nI 0), .int (nI 0), .int (nI 0), .int (nI 0), .long 0, .long 0, .ref maa, .ref mab, .ref mba, .ref mbb])), (ms, .inl (cs 0, 288, .inl freshS))] (xQi D (fun (r : Int32) (_u : Unit) => r = nI 15) (fun (_u : Unit) => [(hm, .inr (12, [.ref ms, .ref mkp, .int (nI 0), .ref mtr, .int (nI 4), .int (nI 2), .int (nI 2), .int (nI 3), .int (nI 2), .int (nI 1), .ref mas, .int (nI 0), .int (nI 0), .int (nI 0), .ref mso, .ref mon, .ref mot, .ref man, .int (nI 0), .int (nI 0), .ref mst, .ref msm, .ref mtb, .ref mti, .ref mfr, .ref mbn, .ref mbs, .ref mde, .int (nI 0), .int (nI 0), .int (nI 0), .int (nI 0), .long 0, .long 0, .ref maa, .ref mab, .ref mba, .ref mbb])), (ms, .inl (cs 0, 288, .inl freshS))])) := by
  refine xMet.intro (by decide) (Nat.le_of_ble_eq_true rfl) ?_
  intro p e s m args below meth c A ls C hP hD hS hl
  have hx := C.1
  have hb := C.2.1
  have hz := C.2.2.2.2.1
  have hown := C.2.2.2.1
  have hA := C.2.2.2.2.2.2.2.2.2
  have hAO := C.2.2.2.2.2.2.2.2.1.2.2
  have hl : lv_has ls 5 [(0, .ref hm), (1, .int (nI 48)), (2, .int (nI 0))] := hl
  obtain ⟨H, hH⟩ : ∃ H, H = s.heap := ⟨_, rfl⟩
  have hP : va_P D vwCl [(hm, .inr (12, [.ref ms, .ref mkp, .int (nI 0), .ref mtr, .int (nI 4), .int (nI 2), .int (nI 2), .int (nI 3), .int (nI 2), .int (nI 1), .ref mas, .int (nI 0), .int (nI 0), .int (nI 0), .ref mso, .ref mon, .ref mot, .ref man, .int (nI 0), .int (nI 0), .ref mst, .ref msm, .ref mtb, .ref mti, .ref mfr, .ref mbn, .ref mbs, .ref mde, .int (nI 0), .int (nI 0), .int (nI 0), .int (nI 0), .long 0, .long 0, .ref maa, .ref mab, .ref mba, .ref mbb])), (ms, .inl (cs 0, 288, .inl freshS))] H := by rw [hH]; exact hP
  have hS : va_S A s.heap H [] := by rw [hH]; exact hS
  obtain ⟨locs, hlocs⟩ : ∃ z : List Loc, z = [] := ⟨_, rfl⟩
  rw [← hlocs] at hS
  suffices hW : W p l e ({ frames := 0, cells := 0, slots := 0, locals := 0 } : Room) s m args below meth c H locs 0 0 (MQ below ((xQi D (fun (r : Int32) (_u : Unit) => r = nI 15) (fun (_u : Unit) => [(hm, .inr (12, [.ref ms, .ref mkp, .int (nI 0), .ref mtr, .int (nI 4), .int (nI 2), .int (nI 2), .int (nI 3), .int (nI 2), .int (nI 1), .ref mas, .int (nI 0), .int (nI 0), .int (nI 0), .ref mso, .ref mon, .ref mot, .ref man, .int (nI 0), .int (nI 0), .ref mst, .ref msm, .ref mtb, .ref mti, .ref mfr, .ref mbn, .ref mbs, .ref mde, .int (nI 0), .int (nI 0), .int (nI 0), .int (nI 0), .long 0, .long 0, .ref maa, .ref mab, .ref mba, .ref mbb])), (ms, .inl (cs 0, 288, .inl freshS))])) A) args s 0 0 A) (F0 m 0 ls []) by rw [hlocs, hH] at hW; exact hW
  refine lv_iconst (v := nI 0) hx hb dX12_ones_0 (by decide) ?_
  refine lv_istore_n (lv' := [(3, .int (nI 0)), (0, .ref hm), (1, .int (nI 48)), (2, .int (nI 0))]) hx hb dX12_ones_1 rfl hl (by decide) rfl (fun ls hl => ?_)
  refine lv_iconst (v := nI 0) hx hb dX12_ones_2 (by decide) ?_
  refine lv_istore (lv' := [(4, .int (nI 0)), (3, .int (nI 0)), (0, .ref hm), (1, .int (nI 48)), (2, .int (nI 0))]) hx hb dX12_ones_3 hl (by decide) rfl (fun ls hl => ?_)
  refine lv_iload hx hb dX12_ones_5 (lv_at hl 0 rfl) ?_
  refine lv_aload_n hx hb dX12_ones_7 rfl (lv_at hl 2 rfl) ?_
  refine xget C hP 0 rfl rfl zuX12 4 (by decide) zw5_217 rfl dX12_ones_8 ?_
  refine lv_icmp_ge (tgt := 40) hx hb dX12_ones_11 (by decide) (fun c => absurd c (by decide)) (fun _ => ?_)
  refine lv_aload_n hx hb dX12_ones_14 rfl (lv_at hl 2 rfl) ?_
  refine xget C hP 0 rfl rfl zuX12 0 (by decide) zw5_213 rfl dX12_ones_15 ?_
  refine lv_iload_n hx hb dX12_ones_18 rfl (lv_at hl 3 rfl) ?_
  refine lv_iload hx hb dX12_ones_19 (lv_at hl 0 rfl) ?_
  refine lv_iadd hx hb dX12_ones_21 ?_
  refine lv_topi (nm_r (e' := nI 48) (by decide) ?_)
  refine xiald C hP 1 rfl 48 rfl (by decide) (by decide) dX12_ones_22 ?_
  refine lv_topi (nm_r (e' := nI 0) (fS_z (by omega)) ?_)
  refine lv_iload_n hx hb dX12_ones_23 rfl (lv_at hl 4 rfl) ?_
  refine lv_icmp_ne (tgt := 34) hx hb dX12_ones_24 (by decide) (fun c => absurd (by decide) c) (fun _ => ?_)
  refine lv_iload_n hx hb dX12_ones_27 rfl (lv_at hl 1 rfl) ?_
  refine lv_iconst (v := nI 1) hx hb dX12_ones_28 (by decide) ?_
  refine lv_iload hx hb dX12_ones_29 (lv_at hl 0 rfl) ?_
  refine lv_ishl hx hb dX12_ones_31 ?_
  refine lv_topi (nm_r (e' := nI 1) (by decide) ?_)
  refine lv_ior hx hb dX12_ones_32 ?_
  refine lv_topi (nm_r (e' := nI 1) (by decide) ?_)
  refine lv_istore_n (lv' := [(3, .int (nI 1)), (4, .int (nI 0)), (0, .ref hm), (1, .int (nI 48)), (2, .int (nI 0))]) hx hb dX12_ones_33 rfl hl (by decide) rfl (fun ls hl => ?_)
  refine lv_iinc (v := nI 1) (lv' := [(4, .int (nI 1)), (3, .int (nI 1)), (0, .ref hm), (1, .int (nI 48)), (2, .int (nI 0))]) hx hb dX12_ones_34 hl (k := 1) rfl (by decide) (by decide) rfl (fun ls hl => ?_)
  refine lv_goto (tgt := 5) hx hb dX12_ones_37 (by decide) ?_
  refine lv_iload hx hb dX12_ones_5 (lv_at hl 0 rfl) ?_
  refine lv_aload_n hx hb dX12_ones_7 rfl (lv_at hl 2 rfl) ?_
  refine xget C hP 0 rfl rfl zuX12 4 (by decide) zw5_217 rfl dX12_ones_8 ?_
  refine lv_icmp_ge (tgt := 40) hx hb dX12_ones_11 (by decide) (fun c => absurd c (by decide)) (fun _ => ?_)
  refine lv_aload_n hx hb dX12_ones_14 rfl (lv_at hl 2 rfl) ?_
  refine xget C hP 0 rfl rfl zuX12 0 (by decide) zw5_213 rfl dX12_ones_15 ?_
  refine lv_iload_n hx hb dX12_ones_18 rfl (lv_at hl 3 rfl) ?_
  refine lv_iload hx hb dX12_ones_19 (lv_at hl 0 rfl) ?_
  refine lv_iadd hx hb dX12_ones_21 ?_
  refine lv_topi (nm_r (e' := nI 49) (by decide) ?_)
  refine xiald C hP 1 rfl 49 rfl (by decide) (by decide) dX12_ones_22 ?_
  refine lv_topi (nm_r (e' := nI 0) (fS_z (by omega)) ?_)
  refine lv_iload_n hx hb dX12_ones_23 rfl (lv_at hl 4 rfl) ?_
  refine lv_icmp_ne (tgt := 34) hx hb dX12_ones_24 (by decide) (fun c => absurd (by decide) c) (fun _ => ?_)
  refine lv_iload_n hx hb dX12_ones_27 rfl (lv_at hl 1 rfl) ?_
  refine lv_iconst (v := nI 1) hx hb dX12_ones_28 (by decide) ?_
  refine lv_iload hx hb dX12_ones_29 (lv_at hl 0 rfl) ?_
  refine lv_ishl hx hb dX12_ones_31 ?_
  refine lv_topi (nm_r (e' := nI 2) (by decide) ?_)
  refine lv_ior hx hb dX12_ones_32 ?_
  refine lv_topi (nm_r (e' := nI 3) (by decide) ?_)
  refine lv_istore_n (lv' := [(3, .int (nI 3)), (4, .int (nI 1)), (0, .ref hm), (1, .int (nI 48)), (2, .int (nI 0))]) hx hb dX12_ones_33 rfl hl (by decide) rfl (fun ls hl => ?_)
  refine lv_iinc (v := nI 2) (lv' := [(4, .int (nI 2)), (3, .int (nI 3)), (0, .ref hm), (1, .int (nI 48)), (2, .int (nI 0))]) hx hb dX12_ones_34 hl (k := 1) rfl (by decide) (by decide) rfl (fun ls hl => ?_)
  refine lv_goto (tgt := 5) hx hb dX12_ones_37 (by decide) ?_
  refine lv_iload hx hb dX12_ones_5 (lv_at hl 0 rfl) ?_
  refine lv_aload_n hx hb dX12_ones_7 rfl (lv_at hl 2 rfl) ?_
  refine xget C hP 0 rfl rfl zuX12 4 (by decide) zw5_217 rfl dX12_ones_8 ?_
  refine lv_icmp_ge (tgt := 40) hx hb dX12_ones_11 (by decide) (fun c => absurd c (by decide)) (fun _ => ?_)
  refine lv_aload_n hx hb dX12_ones_14 rfl (lv_at hl 2 rfl) ?_
  refine xget C hP 0 rfl rfl zuX12 0 (by decide) zw5_213 rfl dX12_ones_15 ?_
  refine lv_iload_n hx hb dX12_ones_18 rfl (lv_at hl 3 rfl) ?_
  refine lv_iload hx hb dX12_ones_19 (lv_at hl 0 rfl) ?_
  refine lv_iadd hx hb dX12_ones_21 ?_
  refine lv_topi (nm_r (e' := nI 50) (by decide) ?_)
  refine xiald C hP 1 rfl 50 rfl (by decide) (by decide) dX12_ones_22 ?_
  refine lv_topi (nm_r (e' := nI 0) (fS_z (by omega)) ?_)
  refine lv_iload_n hx hb dX12_ones_23 rfl (lv_at hl 4 rfl) ?_
  refine lv_icmp_ne (tgt := 34) hx hb dX12_ones_24 (by decide) (fun c => absurd (by decide) c) (fun _ => ?_)
  refine lv_iload_n hx hb dX12_ones_27 rfl (lv_at hl 1 rfl) ?_
  refine lv_iconst (v := nI 1) hx hb dX12_ones_28 (by decide) ?_
  refine lv_iload hx hb dX12_ones_29 (lv_at hl 0 rfl) ?_
  refine lv_ishl hx hb dX12_ones_31 ?_
  refine lv_topi (nm_r (e' := nI 4) (by decide) ?_)
  refine lv_ior hx hb dX12_ones_32 ?_
  refine lv_topi (nm_r (e' := nI 7) (by decide) ?_)
  refine lv_istore_n (lv' := [(3, .int (nI 7)), (4, .int (nI 2)), (0, .ref hm), (1, .int (nI 48)), (2, .int (nI 0))]) hx hb dX12_ones_33 rfl hl (by decide) rfl (fun ls hl => ?_)
  refine lv_iinc (v := nI 3) (lv' := [(4, .int (nI 3)), (3, .int (nI 7)), (0, .ref hm), (1, .int (nI 48)), (2, .int (nI 0))]) hx hb dX12_ones_34 hl (k := 1) rfl (by decide) (by decide) rfl (fun ls hl => ?_)
  refine lv_goto (tgt := 5) hx hb dX12_ones_37 (by decide) ?_
  refine lv_iload hx hb dX12_ones_5 (lv_at hl 0 rfl) ?_
  refine lv_aload_n hx hb dX12_ones_7 rfl (lv_at hl 2 rfl) ?_
  refine xget C hP 0 rfl rfl zuX12 4 (by decide) zw5_217 rfl dX12_ones_8 ?_
  refine lv_icmp_ge (tgt := 40) hx hb dX12_ones_11 (by decide) (fun c => absurd c (by decide)) (fun _ => ?_)
  refine lv_aload_n hx hb dX12_ones_14 rfl (lv_at hl 2 rfl) ?_
  refine xget C hP 0 rfl rfl zuX12 0 (by decide) zw5_213 rfl dX12_ones_15 ?_
  refine lv_iload_n hx hb dX12_ones_18 rfl (lv_at hl 3 rfl) ?_
  refine lv_iload hx hb dX12_ones_19 (lv_at hl 0 rfl) ?_
  refine lv_iadd hx hb dX12_ones_21 ?_
  refine lv_topi (nm_r (e' := nI 51) (by decide) ?_)
  refine xiald C hP 1 rfl 51 rfl (by decide) (by decide) dX12_ones_22 ?_
  refine lv_topi (nm_r (e' := nI 0) (fS_z (by omega)) ?_)
  refine lv_iload_n hx hb dX12_ones_23 rfl (lv_at hl 4 rfl) ?_
  refine lv_icmp_ne (tgt := 34) hx hb dX12_ones_24 (by decide) (fun c => absurd (by decide) c) (fun _ => ?_)
  refine lv_iload_n hx hb dX12_ones_27 rfl (lv_at hl 1 rfl) ?_
  refine lv_iconst (v := nI 1) hx hb dX12_ones_28 (by decide) ?_
  refine lv_iload hx hb dX12_ones_29 (lv_at hl 0 rfl) ?_
  refine lv_ishl hx hb dX12_ones_31 ?_
  refine lv_topi (nm_r (e' := nI 8) (by decide) ?_)
  refine lv_ior hx hb dX12_ones_32 ?_
  refine lv_topi (nm_r (e' := nI 15) (by decide) ?_)
  refine lv_istore_n (lv' := [(3, .int (nI 15)), (4, .int (nI 3)), (0, .ref hm), (1, .int (nI 48)), (2, .int (nI 0))]) hx hb dX12_ones_33 rfl hl (by decide) rfl (fun ls hl => ?_)
  refine lv_iinc (v := nI 4) (lv' := [(4, .int (nI 4)), (3, .int (nI 15)), (0, .ref hm), (1, .int (nI 48)), (2, .int (nI 0))]) hx hb dX12_ones_34 hl (k := 1) rfl (by decide) (by decide) rfl (fun ls hl => ?_)
  refine lv_goto (tgt := 5) hx hb dX12_ones_37 (by decide) ?_
  refine lv_iload hx hb dX12_ones_5 (lv_at hl 0 rfl) ?_
  refine lv_aload_n hx hb dX12_ones_7 rfl (lv_at hl 2 rfl) ?_
  refine xget C hP 0 rfl rfl zuX12 4 (by decide) zw5_217 rfl dX12_ones_8 ?_
  refine lv_icmp_ge (tgt := 40) hx hb dX12_ones_11 (by decide) (fun _ => ?_) (fun c => absurd (by decide) c)
  refine lv_iload_n hx hb dX12_ones_40 rfl (lv_at hl 1 rfl) ?_
  exact xreti C () rfl hP hD hS (Nat.le_of_ble_eq_true rfl) (Nat.le_of_ble_eq_true rfl) rfl dX12_ones_41

set_option maxHeartbeats 4000000 in
set_option maxRecDepth 100000 in
theorem c_X12_ones_b (l : Launch) (D : va_G) (cs : Nat → ClassId) (hm ms mkp mtr mas mso mon mot man mst msm mtb mti mfr mbn mbs mde maa mab mba mbb : Nat) : xMet l D cs yX12_ones cX12_ones 5 (some .int) ({ frames := 0, cells := 0, slots := 0, locals := 0 } : Room) [.ref hm, .int (nI 40), .int (nI 1)] [(hm, .inr (12, [.ref ms, .ref mkp, .int (nI 0), .ref mtr, .int (nI 4), .int (nI 2), .int (nI 2), .int (nI 3), .int (nI 2), .int (nI 1), .ref mas, .int (nI 0), .int (nI 0), .int (nI 0), .ref mso, .ref mon, .ref mot, .ref man, .int (nI 0), .int (nI 0), .ref mst, .ref msm, .ref mtb, .ref mti, .ref mfr, .ref mbn, .ref mbs, .ref mde, .int (nI 0), .int (nI 0), .int (nI 0), .int (nI 0), .long 0, .long 0, .ref maa, .ref mab, .ref mba, .ref mbb])), (ms, .inl (cs 0, 288, .inl freshS))] (xQi D (fun (r : Int32) (_u : Unit) => r = nI 0) (fun (_u : Unit) => [(hm, .inr (12, [.ref ms, .ref mkp, .int (nI 0), .ref mtr, .int (nI 4), .int (nI 2), .int (nI 2), .int (nI 3), .int (nI 2), .int (nI 1), .ref mas, .int (nI 0), .int (nI 0), .int (nI 0), .ref mso, .ref mon, .ref mot, .ref man, .int (nI 0), .int (nI 0), .ref mst, .ref msm, .ref mtb, .ref mti, .ref mfr, .ref mbn, .ref mbs, .ref mde, .int (nI 0), .int (nI 0), .int (nI 0), .int (nI 0), .long 0, .long 0, .ref maa, .ref mab, .ref mba, .ref mbb])), (ms, .inl (cs 0, 288, .inl freshS))])) := by
  refine xMet.intro (by decide) (Nat.le_of_ble_eq_true rfl) ?_
  intro p e s m args below meth c A ls C hP hD hS hl
  have hx := C.1
  have hb := C.2.1
  have hz := C.2.2.2.2.1
  have hown := C.2.2.2.1
  have hA := C.2.2.2.2.2.2.2.2.2
  have hAO := C.2.2.2.2.2.2.2.2.1.2.2
  have hl : lv_has ls 5 [(0, .ref hm), (1, .int (nI 40)), (2, .int (nI 1))] := hl
  obtain ⟨H, hH⟩ : ∃ H, H = s.heap := ⟨_, rfl⟩
  have hP : va_P D vwCl [(hm, .inr (12, [.ref ms, .ref mkp, .int (nI 0), .ref mtr, .int (nI 4), .int (nI 2), .int (nI 2), .int (nI 3), .int (nI 2), .int (nI 1), .ref mas, .int (nI 0), .int (nI 0), .int (nI 0), .ref mso, .ref mon, .ref mot, .ref man, .int (nI 0), .int (nI 0), .ref mst, .ref msm, .ref mtb, .ref mti, .ref mfr, .ref mbn, .ref mbs, .ref mde, .int (nI 0), .int (nI 0), .int (nI 0), .int (nI 0), .long 0, .long 0, .ref maa, .ref mab, .ref mba, .ref mbb])), (ms, .inl (cs 0, 288, .inl freshS))] H := by rw [hH]; exact hP
  have hS : va_S A s.heap H [] := by rw [hH]; exact hS
  obtain ⟨locs, hlocs⟩ : ∃ z : List Loc, z = [] := ⟨_, rfl⟩
  rw [← hlocs] at hS
  suffices hW : W p l e ({ frames := 0, cells := 0, slots := 0, locals := 0 } : Room) s m args below meth c H locs 0 0 (MQ below ((xQi D (fun (r : Int32) (_u : Unit) => r = nI 0) (fun (_u : Unit) => [(hm, .inr (12, [.ref ms, .ref mkp, .int (nI 0), .ref mtr, .int (nI 4), .int (nI 2), .int (nI 2), .int (nI 3), .int (nI 2), .int (nI 1), .ref mas, .int (nI 0), .int (nI 0), .int (nI 0), .ref mso, .ref mon, .ref mot, .ref man, .int (nI 0), .int (nI 0), .ref mst, .ref msm, .ref mtb, .ref mti, .ref mfr, .ref mbn, .ref mbs, .ref mde, .int (nI 0), .int (nI 0), .int (nI 0), .int (nI 0), .long 0, .long 0, .ref maa, .ref mab, .ref mba, .ref mbb])), (ms, .inl (cs 0, 288, .inl freshS))])) A) args s 0 0 A) (F0 m 0 ls []) by rw [hlocs, hH] at hW; exact hW
  refine lv_iconst (v := nI 0) hx hb dX12_ones_0 (by decide) ?_
  refine lv_istore_n (lv' := [(3, .int (nI 0)), (0, .ref hm), (1, .int (nI 40)), (2, .int (nI 1))]) hx hb dX12_ones_1 rfl hl (by decide) rfl (fun ls hl => ?_)
  refine lv_iconst (v := nI 0) hx hb dX12_ones_2 (by decide) ?_
  refine lv_istore (lv' := [(4, .int (nI 0)), (3, .int (nI 0)), (0, .ref hm), (1, .int (nI 40)), (2, .int (nI 1))]) hx hb dX12_ones_3 hl (by decide) rfl (fun ls hl => ?_)
  refine lv_iload hx hb dX12_ones_5 (lv_at hl 0 rfl) ?_
  refine lv_aload_n hx hb dX12_ones_7 rfl (lv_at hl 2 rfl) ?_
  refine xget C hP 0 rfl rfl zuX12 4 (by decide) zw5_217 rfl dX12_ones_8 ?_
  refine lv_icmp_ge (tgt := 40) hx hb dX12_ones_11 (by decide) (fun c => absurd c (by decide)) (fun _ => ?_)
  refine lv_aload_n hx hb dX12_ones_14 rfl (lv_at hl 2 rfl) ?_
  refine xget C hP 0 rfl rfl zuX12 0 (by decide) zw5_213 rfl dX12_ones_15 ?_
  refine lv_iload_n hx hb dX12_ones_18 rfl (lv_at hl 3 rfl) ?_
  refine lv_iload hx hb dX12_ones_19 (lv_at hl 0 rfl) ?_
  refine lv_iadd hx hb dX12_ones_21 ?_
  refine lv_topi (nm_r (e' := nI 40) (by decide) ?_)
  refine xiald C hP 1 rfl 40 rfl (by decide) (by decide) dX12_ones_22 ?_
  refine lv_topi (nm_r (e' := nI 0) (fS_z (by omega)) ?_)
  refine lv_iload_n hx hb dX12_ones_23 rfl (lv_at hl 4 rfl) ?_
  refine lv_icmp_ne (tgt := 34) hx hb dX12_ones_24 (by decide) (fun _ => ?_) (fun c => absurd c (by decide))
  refine lv_iinc (v := nI 1) (lv' := [(4, .int (nI 1)), (3, .int (nI 0)), (0, .ref hm), (1, .int (nI 40)), (2, .int (nI 1))]) hx hb dX12_ones_34 hl (k := 0) rfl (by decide) (by decide) rfl (fun ls hl => ?_)
  refine lv_goto (tgt := 5) hx hb dX12_ones_37 (by decide) ?_
  refine lv_iload hx hb dX12_ones_5 (lv_at hl 0 rfl) ?_
  refine lv_aload_n hx hb dX12_ones_7 rfl (lv_at hl 2 rfl) ?_
  refine xget C hP 0 rfl rfl zuX12 4 (by decide) zw5_217 rfl dX12_ones_8 ?_
  refine lv_icmp_ge (tgt := 40) hx hb dX12_ones_11 (by decide) (fun c => absurd c (by decide)) (fun _ => ?_)
  refine lv_aload_n hx hb dX12_ones_14 rfl (lv_at hl 2 rfl) ?_
  refine xget C hP 0 rfl rfl zuX12 0 (by decide) zw5_213 rfl dX12_ones_15 ?_
  refine lv_iload_n hx hb dX12_ones_18 rfl (lv_at hl 3 rfl) ?_
  refine lv_iload hx hb dX12_ones_19 (lv_at hl 0 rfl) ?_
  refine lv_iadd hx hb dX12_ones_21 ?_
  refine lv_topi (nm_r (e' := nI 41) (by decide) ?_)
  refine xiald C hP 1 rfl 41 rfl (by decide) (by decide) dX12_ones_22 ?_
  refine lv_topi (nm_r (e' := nI 0) (fS_z (by omega)) ?_)
  refine lv_iload_n hx hb dX12_ones_23 rfl (lv_at hl 4 rfl) ?_
  refine lv_icmp_ne (tgt := 34) hx hb dX12_ones_24 (by decide) (fun _ => ?_) (fun c => absurd c (by decide))
  refine lv_iinc (v := nI 2) (lv' := [(4, .int (nI 2)), (3, .int (nI 0)), (0, .ref hm), (1, .int (nI 40)), (2, .int (nI 1))]) hx hb dX12_ones_34 hl (k := 0) rfl (by decide) (by decide) rfl (fun ls hl => ?_)
  refine lv_goto (tgt := 5) hx hb dX12_ones_37 (by decide) ?_
  refine lv_iload hx hb dX12_ones_5 (lv_at hl 0 rfl) ?_
  refine lv_aload_n hx hb dX12_ones_7 rfl (lv_at hl 2 rfl) ?_
  refine xget C hP 0 rfl rfl zuX12 4 (by decide) zw5_217 rfl dX12_ones_8 ?_
  refine lv_icmp_ge (tgt := 40) hx hb dX12_ones_11 (by decide) (fun c => absurd c (by decide)) (fun _ => ?_)
  refine lv_aload_n hx hb dX12_ones_14 rfl (lv_at hl 2 rfl) ?_
  refine xget C hP 0 rfl rfl zuX12 0 (by decide) zw5_213 rfl dX12_ones_15 ?_
  refine lv_iload_n hx hb dX12_ones_18 rfl (lv_at hl 3 rfl) ?_
  refine lv_iload hx hb dX12_ones_19 (lv_at hl 0 rfl) ?_
  refine lv_iadd hx hb dX12_ones_21 ?_
  refine lv_topi (nm_r (e' := nI 42) (by decide) ?_)
  refine xiald C hP 1 rfl 42 rfl (by decide) (by decide) dX12_ones_22 ?_
  refine lv_topi (nm_r (e' := nI 0) (fS_z (by omega)) ?_)
  refine lv_iload_n hx hb dX12_ones_23 rfl (lv_at hl 4 rfl) ?_
  refine lv_icmp_ne (tgt := 34) hx hb dX12_ones_24 (by decide) (fun _ => ?_) (fun c => absurd c (by decide))
  refine lv_iinc (v := nI 3) (lv' := [(4, .int (nI 3)), (3, .int (nI 0)), (0, .ref hm), (1, .int (nI 40)), (2, .int (nI 1))]) hx hb dX12_ones_34 hl (k := 0) rfl (by decide) (by decide) rfl (fun ls hl => ?_)
  refine lv_goto (tgt := 5) hx hb dX12_ones_37 (by decide) ?_
  refine lv_iload hx hb dX12_ones_5 (lv_at hl 0 rfl) ?_
  refine lv_aload_n hx hb dX12_ones_7 rfl (lv_at hl 2 rfl) ?_
  refine xget C hP 0 rfl rfl zuX12 4 (by decide) zw5_217 rfl dX12_ones_8 ?_
  refine lv_icmp_ge (tgt := 40) hx hb dX12_ones_11 (by decide) (fun c => absurd c (by decide)) (fun _ => ?_)
  refine lv_aload_n hx hb dX12_ones_14 rfl (lv_at hl 2 rfl) ?_
  refine xget C hP 0 rfl rfl zuX12 0 (by decide) zw5_213 rfl dX12_ones_15 ?_
  refine lv_iload_n hx hb dX12_ones_18 rfl (lv_at hl 3 rfl) ?_
  refine lv_iload hx hb dX12_ones_19 (lv_at hl 0 rfl) ?_
  refine lv_iadd hx hb dX12_ones_21 ?_
  refine lv_topi (nm_r (e' := nI 43) (by decide) ?_)
  refine xiald C hP 1 rfl 43 rfl (by decide) (by decide) dX12_ones_22 ?_
  refine lv_topi (nm_r (e' := nI 0) (fS_z (by omega)) ?_)
  refine lv_iload_n hx hb dX12_ones_23 rfl (lv_at hl 4 rfl) ?_
  refine lv_icmp_ne (tgt := 34) hx hb dX12_ones_24 (by decide) (fun _ => ?_) (fun c => absurd c (by decide))
  refine lv_iinc (v := nI 4) (lv' := [(4, .int (nI 4)), (3, .int (nI 0)), (0, .ref hm), (1, .int (nI 40)), (2, .int (nI 1))]) hx hb dX12_ones_34 hl (k := 0) rfl (by decide) (by decide) rfl (fun ls hl => ?_)
  refine lv_goto (tgt := 5) hx hb dX12_ones_37 (by decide) ?_
  refine lv_iload hx hb dX12_ones_5 (lv_at hl 0 rfl) ?_
  refine lv_aload_n hx hb dX12_ones_7 rfl (lv_at hl 2 rfl) ?_
  refine xget C hP 0 rfl rfl zuX12 4 (by decide) zw5_217 rfl dX12_ones_8 ?_
  refine lv_icmp_ge (tgt := 40) hx hb dX12_ones_11 (by decide) (fun _ => ?_) (fun c => absurd (by decide) c)
  refine lv_iload_n hx hb dX12_ones_40 rfl (lv_at hl 1 rfl) ?_
  exact xreti C () rfl hP hD hS (Nat.le_of_ble_eq_true rfl) (Nat.le_of_ble_eq_true rfl) rfl dX12_ones_41

set_option maxHeartbeats 4000000 in
set_option maxRecDepth 100000 in
theorem c_X12_many_z (l : Launch) (D : va_G) (cs : Nat → ClassId) (u0 : Nat) : xMet l D cs yX12_many cX12_many 3 (some .int) ({ frames := 1, cells := 0, slots := 0, locals := 21 } : Room) [.int (nI 0)] [] (xQi D (fun (r : Int32) (_u : Unit) => r = nI 0) (fun (_u : Unit) => [])) := by
  refine xMet.intro (by decide) (Nat.le_of_ble_eq_true rfl) ?_
  intro p e s m args below meth c A ls C hP hD hS hl
  have hx := C.1
  have hb := C.2.1
  have hz := C.2.2.2.2.1
  have hown := C.2.2.2.1
  have hA := C.2.2.2.2.2.2.2.2.2
  have hAO := C.2.2.2.2.2.2.2.2.1.2.2
  have hl : lv_has ls 3 [(0, .int (nI 0))] := hl
  obtain ⟨H, hH⟩ : ∃ H, H = s.heap := ⟨_, rfl⟩
  have hP : va_P D vwCl [] H := by rw [hH]; exact hP
  have hS : va_S A s.heap H [] := by rw [hH]; exact hS
  obtain ⟨locs, hlocs⟩ : ∃ z : List Loc, z = [] := ⟨_, rfl⟩
  rw [← hlocs] at hS
  suffices hW : W p l e ({ frames := 1, cells := 0, slots := 0, locals := 21 } : Room) s m args below meth c H locs 0 0 (MQ below ((xQi D (fun (r : Int32) (_u : Unit) => r = nI 0) (fun (_u : Unit) => [])) A) args s 0 0 A) (F0 m 0 ls []) by rw [hlocs, hH] at hW; exact hW
  refine lv_iconst (v := nI 0) hx hb dX12_many_0 (by decide) ?_
  refine lv_istore_n (lv' := [(1, .int (nI 0)), (0, .int (nI 0))]) hx hb dX12_many_1 rfl hl (by decide) rfl (fun ls hl => ?_)
  refine lv_iconst (v := nI 0) hx hb dX12_many_2 (by decide) ?_
  refine lv_istore_n (lv' := [(2, .int (nI 0)), (1, .int (nI 0)), (0, .int (nI 0))]) hx hb dX12_many_3 rfl hl (by decide) rfl (fun ls hl => ?_)
  have loop_1 : ∀ (n_loop_1 : Nat) (i : Nat), (i ≤ 16) → 16 - i < n_loop_1 → ∀ (H : Heap) (locs : List Loc) (ls : Array Slot), va_P D vwCl [] H → va_D A [] → va_S A s.heap H locs → lv_has ls 3 [(2, .int (nI i)), (1, .int (nI 0)), (0, .int (nI 0))] → W p l e ({ frames := 1, cells := 0, slots := 0, locals := 21 } : Room) s m args below meth c H locs 0 0 (MQ below ((xQi D (fun (r : Int32) (_u : Unit) => r = nI 0) (fun (_u : Unit) => [])) A) args s 0 0 A) (F0 m 4 ls []) := by
    intro n_loop_1
    induction n_loop_1 with
    | zero => intro i h_i hlt H locs ls hP hD hS hl; exact absurd hlt (Nat.not_lt_zero _)
    | succ n_loop_1 ih_loop_1 =>
      intro i h_i hlt_loop_1 H locs ls hP hD hS hl
      refine lv_iload_n hx hb dX12_many_4 rfl (lv_at hl 0 rfl) ?_
      refine lv_bipush (v := nI 16) hx hb dX12_many_5 (by decide) ?_
      refine lv_icmp_ge (tgt := 27) hx hb dX12_many_7 (by decide) (fun c_2 => ?_) (fun c_2 => ?_)
      · -- 7 t
        have fc_2 : 16 ≤ i := nf_le (by omega) (by omega) c_2
        refine lv_iload_n hx hb dX12_many_27 rfl (lv_at hl 1 rfl) ?_
        exact xreti C () rfl hP hD hS (Nat.le_of_ble_eq_true rfl) (Nat.le_of_ble_eq_true rfl) rfl dX12_many_28
      · -- 7 f
        have fc_2 : i < 16 := nf_nle (by omega) (by omega) c_2
        refine lv_iload_n hx hb dX12_many_10 rfl (lv_at hl 2 rfl) ?_
        refine lv_iload_n hx hb dX12_many_11 rfl (lv_at hl 0 rfl) ?_
        refine xi (wr := []) (xS (As := [.int (nI 0), .int (nI i)]) (rest := []) C (c_X12_has l D cs (nI 0) (nI i)) kX12_100 hP hD [] rfl (by decide +kernel) ⟨Nat.le_of_ble_eq_true rfl, Nat.le_of_ble_eq_true rfl⟩ rfl hl.1 rfl (Nat.le_of_ble_eq_true rfl) dX12_many_12 ⟨Nat.le_of_ble_eq_true rfl, Nat.le_of_ble_eq_true rfl⟩) hP hD hS hA [] [] rfl rfl (by decide +kernel) (by decide +kernel) (fun r_3 u_4 H locs hw_r_3 hP hD hS => ?_)
        have hw_r_3 : PQ (((nI 0) >>> ((nI i) &&& 31)) &&& nI 1 = nI 1) r_3 (nI 1) (nI 0) := hw_r_3
        refine W.widen (k := 0) (n := 0) (Nat.le_of_ble_eq_true rfl) (Nat.le_of_ble_eq_true rfl) ?_
        have hP : va_P D vwCl [] H := hP
        have hD : va_D A [] := hD
        obtain rfl : r_3 = nI 0 := by rcases hw_r_3 with ⟨q, _⟩ | ⟨_, q⟩; exact absurd q (xhas0 i (by omega)); exact q
        refine lv_if_eq (tgt := 21) hx hb dX12_many_15 (by decide) (fun _ => ?_) (fun c => absurd (by decide) c)
        refine lv_iinc (v := nI (i + 1)) (lv' := [(2, .int (nI (i + 1))), (1, .int (nI 0)), (0, .int (nI 0))]) hx hb dX12_many_21 hl (k := 0) rfl (nI_add i 1) (by decide) rfl (fun ls hl => ?_)
        refine lv_goto (tgt := 4) hx hb dX12_many_24 (by decide) ?_
        exact ih_loop_1 (i + 1) (by omega) (by omega) H locs ls hP hD hS (lv_sub hl [0, 1, 2] rfl)
  exact loop_1 _ 0 (by omega) (Nat.lt_succ_self _) H locs ls hP hD hS (lv_sub hl [0, 1, 2] rfl)
