theorem ok8 {x : Int32} : okN 8 x ↔ (¬ x < nI 0 ∧ x ≤ nI 7) := by
  constructor
  · rintro ⟨a, b⟩
    refine ⟨a, ?_⟩
    rw [Int32.le_iff_toInt_le] at b ⊢
    rw [nI_toInt (by decide)] at b ⊢
    omega
  · rintro ⟨a, b⟩
    refine ⟨a, ?_⟩
    rw [Int32.le_iff_toInt_le] at b ⊢
    rw [nI_toInt (by decide)] at b ⊢
    omega
theorem eqm1 {x h : Int32} (hh : h = -1) (q : ¬ x < -1 ∧ x ≤ h) : x = -1 := by
  subst hh
  exact Int32.le_antisymm q.2 (Int32.not_lt.mp q.1)

set_option maxHeartbeats 4000000 in
set_option maxRecDepth 100000 in
theorem c_X12_acceptedOf_e (l : Launch) (D : va_G) (cs : Nat → ClassId) (hm ms mkp mtr mas mso mon mot man mst msm mtb mti mfr mbn mbs mde maa mab mba mbb : Nat) (i : Nat) (y : Int32) (sf of : Nat → Int32) (hi : i < 8) : xMet l D cs yX12_acceptedOf cX12_acceptedOf 4 (some .int) ({ frames := 1, cells := 0, slots := 0, locals := 21 } : Room) [.ref hm, .int (nI i), .int y] [(hm, .inr (12, [.ref ms, .ref mkp, .int (nI 0), .ref mtr, .int (nI 4), .int (nI 2), .int (nI 2), .int (nI 3), .int (nI 2), .int (nI 1), .ref mas, .int (nI 0), .int (nI 0), .int (nI 1), .ref mso, .ref mon, .ref mot, .ref man, .int (nI 0), .int (nI 0), .ref mst, .ref msm, .ref mtb, .ref mti, .ref mfr, .ref mbn, .ref mbs, .ref mde, .int (nI 0), .int (nI 0), .int (nI 0), .int (nI 0), .long 0, .long 0, .ref maa, .ref mab, .ref mba, .ref mbb])), (ms, .inl (cs 0, 288, .inl sf)), (mso, .inl (cs 0, 16, .inl of))] (xQi D (fun (r : Int32) (_u : Unit) => True) (fun (_u : Unit) => [(hm, .inr (12, [.ref ms, .ref mkp, .int (nI 0), .ref mtr, .int (nI 4), .int (nI 2), .int (nI 2), .int (nI 3), .int (nI 2), .int (nI 1), .ref mas, .int (nI 0), .int (nI 0), .int (nI 1), .ref mso, .ref mon, .ref mot, .ref man, .int (nI 0), .int (nI 0), .ref mst, .ref msm, .ref mtb, .ref mti, .ref mfr, .ref mbn, .ref mbs, .ref mde, .int (nI 0), .int (nI 0), .int (nI 0), .int (nI 0), .long 0, .long 0, .ref maa, .ref mab, .ref mba, .ref mbb])), (ms, .inl (cs 0, 288, .inl sf)), (mso, .inl (cs 0, 16, .inl of))])) := by
  refine xMet.intro (by decide) (Nat.le_of_ble_eq_true rfl) ?_
  intro p e s m args below meth c A ls C hP hD hS hl
  have hx := C.1
  have hb := C.2.1
  have hz := C.2.2.2.2.1
  have hown := C.2.2.2.1
  have hA := C.2.2.2.2.2.2.2.2.2
  have hAO := C.2.2.2.2.2.2.2.2.1.2.2
  have hl : lv_has ls 4 [(0, .ref hm), (1, .int (nI i)), (2, .int y)] := hl
  obtain ⟨H, hH⟩ : ∃ H, H = s.heap := ⟨_, rfl⟩
  have hP : va_P D vwCl [(hm, .inr (12, [.ref ms, .ref mkp, .int (nI 0), .ref mtr, .int (nI 4), .int (nI 2), .int (nI 2), .int (nI 3), .int (nI 2), .int (nI 1), .ref mas, .int (nI 0), .int (nI 0), .int (nI 1), .ref mso, .ref mon, .ref mot, .ref man, .int (nI 0), .int (nI 0), .ref mst, .ref msm, .ref mtb, .ref mti, .ref mfr, .ref mbn, .ref mbs, .ref mde, .int (nI 0), .int (nI 0), .int (nI 0), .int (nI 0), .long 0, .long 0, .ref maa, .ref mab, .ref mba, .ref mbb])), (ms, .inl (cs 0, 288, .inl sf)), (mso, .inl (cs 0, 16, .inl of))] H := by rw [hH]; exact hP
  have hS : va_S A s.heap H [] := by rw [hH]; exact hS
  obtain ⟨locs, hlocs⟩ : ∃ z : List Loc, z = [] := ⟨_, rfl⟩
  rw [← hlocs] at hS
  suffices hW : W p l e ({ frames := 1, cells := 0, slots := 0, locals := 21 } : Room) s m args below meth c H locs 0 0 (MQ below ((xQi D (fun (r : Int32) (_u : Unit) => True) (fun (_u : Unit) => [(hm, .inr (12, [.ref ms, .ref mkp, .int (nI 0), .ref mtr, .int (nI 4), .int (nI 2), .int (nI 2), .int (nI 3), .int (nI 2), .int (nI 1), .ref mas, .int (nI 0), .int (nI 0), .int (nI 1), .ref mso, .ref mon, .ref mot, .ref man, .int (nI 0), .int (nI 0), .ref mst, .ref msm, .ref mtb, .ref mti, .ref mfr, .ref mbn, .ref mbs, .ref mde, .int (nI 0), .int (nI 0), .int (nI 0), .int (nI 0), .long 0, .long 0, .ref maa, .ref mab, .ref mba, .ref mbb])), (ms, .inl (cs 0, 288, .inl sf)), (mso, .inl (cs 0, 16, .inl of))])) A) args s 0 0 A) (F0 m 0 ls []) by rw [hlocs, hH] at hW; exact hW
  refine lv_iconst (v := nI 0) hx hb dX12_acceptedOf_0 (by decide) ?_
  refine lv_istore_n (lv' := [(3, .int (nI 0)), (0, .ref hm), (1, .int (nI i)), (2, .int y)]) hx hb dX12_acceptedOf_1 rfl hl (by decide) rfl (fun ls hl => ?_)
  refine lv_iload_n hx hb dX12_acceptedOf_2 rfl (lv_at hl 0 rfl) ?_
  refine lv_aload_n hx hb dX12_acceptedOf_3 rfl (lv_at hl 1 rfl) ?_
  refine xget C hP 0 rfl rfl zuX12 13 (by decide) zw5_226 rfl dX12_acceptedOf_4 ?_
  refine lv_icmp_ge (tgt := 44) hx hb dX12_acceptedOf_7 (by decide) (fun c => absurd c (by decide)) (fun _ => ?_)
  refine lv_aload_n hx hb dX12_acceptedOf_10 rfl (lv_at hl 1 rfl) ?_
  refine xget C hP 0 rfl rfl zuX12 14 (by decide) zw5_227 rfl dX12_acceptedOf_11 ?_
  refine lv_iload_n hx hb dX12_acceptedOf_14 rfl (lv_at hl 0 rfl) ?_
  refine xiald C hP 2 rfl 0 rfl (by decide) (by decide) dX12_acceptedOf_15 ?_
  refine lv_iload_n hx hb dX12_acceptedOf_16 rfl (lv_at hl 3 rfl) ?_
  refine lv_icmp_ne (tgt := 38) hx hb dX12_acceptedOf_17 (by decide) (fun c_1 => ?_) (fun c_1 => ?_)
  · -- 17 t
    refine lv_iinc (v := nI 1) (lv' := [(3, .int (nI 1)), (0, .ref hm), (1, .int (nI i)), (2, .int y)]) hx hb dX12_acceptedOf_38 hl (k := 0) rfl (by decide) (by decide) rfl (fun ls hl => ?_)
    refine lv_goto (tgt := 2) hx hb dX12_acceptedOf_41 (by decide) ?_
    refine lv_iload_n hx hb dX12_acceptedOf_2 rfl (lv_at hl 0 rfl) ?_
    refine lv_aload_n hx hb dX12_acceptedOf_3 rfl (lv_at hl 1 rfl) ?_
    refine xget C hP 0 rfl rfl zuX12 13 (by decide) zw5_226 rfl dX12_acceptedOf_4 ?_
    refine lv_icmp_ge (tgt := 44) hx hb dX12_acceptedOf_7 (by decide) (fun _ => ?_) (fun c => absurd (by decide) c)
    refine lv_iconst (v := (-1)) hx hb dX12_acceptedOf_44 (by decide) ?_
    exact xreti C () trivial hP hD hS (Nat.le_of_ble_eq_true rfl) (Nat.le_of_ble_eq_true rfl) rfl dX12_acceptedOf_45
  · -- 17 f
    refine lv_aload_n hx hb dX12_acceptedOf_20 rfl (lv_at hl 1 rfl) ?_
    refine xget C hP 0 rfl rfl zuX12 0 (by decide) zw5_213 rfl dX12_acceptedOf_21 ?_
    refine lv_bipush (v := nI 80) hx hb dX12_acceptedOf_24 (by decide) ?_
    refine lv_iload_n hx hb dX12_acceptedOf_26 rfl (lv_at hl 2 rfl) ?_
    refine lv_iadd hx hb dX12_acceptedOf_27 ?_
    refine lv_topi (nm_r (e' := nI (80 + i)) (nI_add _ _) ?_)
    refine xiald C hP 1 rfl (80 + i) rfl (by omega) (by decide) dX12_acceptedOf_28 ?_
    refine lv_iload_n hx hb dX12_acceptedOf_29 rfl (lv_at hl 0 rfl) ?_
    refine xi (wr := [(hm, .inr (12, [.ref ms, .ref mkp, .int (nI 0), .ref mtr, .int (nI 4), .int (nI 2), .int (nI 2), .int (nI 3), .int (nI 2), .int (nI 1), .ref mas, .int (nI 0), .int (nI 0), .int (nI 1), .ref mso, .ref mon, .ref mot, .ref man, .int (nI 0), .int (nI 0), .ref mst, .ref msm, .ref mtb, .ref mti, .ref mfr, .ref mbn, .ref mbs, .ref mde, .int (nI 0), .int (nI 0), .int (nI 0), .int (nI 0), .long 0, .long 0, .ref maa, .ref mab, .ref mba, .ref mbb])), (ms, .inl (cs 0, 288, .inl sf)), (mso, .inl (cs 0, 16, .inl of))]) (xS (As := [.int (sf (80 + i)), .int (nI 0)]) (rest := []) C (c_X12_has l D cs (sf (80 + i)) (nI 0)) kX12_100 hP hD [] rfl (by decide +kernel) ⟨Nat.le_of_ble_eq_true rfl, Nat.le_of_ble_eq_true rfl⟩ rfl hl.1 rfl (Nat.le_of_ble_eq_true rfl) dX12_acceptedOf_30 ⟨Nat.le_of_ble_eq_true rfl, Nat.le_of_ble_eq_true rfl⟩) hP hD hS hA [] [0, 1, 2] rfl rfl (by decide +kernel) (by decide +kernel) (fun r_2 u_3 H locs hw_r_2 hP hD hS => ?_)
    have hw_r_2 : PQ (((sf (80 + i)) >>> ((nI 0) &&& 31)) &&& nI 1 = nI 1) r_2 (nI 1) (nI 0) := hw_r_2
    refine W.widen (k := 0) (n := 0) (Nat.le_of_ble_eq_true rfl) (Nat.le_of_ble_eq_true rfl) ?_
    have hP : va_P D vwCl [(hm, .inr (12, [.ref ms, .ref mkp, .int (nI 0), .ref mtr, .int (nI 4), .int (nI 2), .int (nI 2), .int (nI 3), .int (nI 2), .int (nI 1), .ref mas, .int (nI 0), .int (nI 0), .int (nI 1), .ref mso, .ref mon, .ref mot, .ref man, .int (nI 0), .int (nI 0), .ref mst, .ref msm, .ref mtb, .ref mti, .ref mfr, .ref mbn, .ref mbs, .ref mde, .int (nI 0), .int (nI 0), .int (nI 0), .int (nI 0), .long 0, .long 0, .ref maa, .ref mab, .ref mba, .ref mbb])), (ms, .inl (cs 0, 288, .inl sf)), (mso, .inl (cs 0, 16, .inl of))] H := hP
    have hD : va_D A [(hm, .inr (12, [.ref ms, .ref mkp, .int (nI 0), .ref mtr, .int (nI 4), .int (nI 2), .int (nI 2), .int (nI 3), .int (nI 2), .int (nI 1), .ref mas, .int (nI 0), .int (nI 0), .int (nI 1), .ref mso, .ref mon, .ref mot, .ref man, .int (nI 0), .int (nI 0), .ref mst, .ref msm, .ref mtb, .ref mti, .ref mfr, .ref mbn, .ref mbs, .ref mde, .int (nI 0), .int (nI 0), .int (nI 0), .int (nI 0), .long 0, .long 0, .ref maa, .ref mab, .ref mba, .ref mbb])), (ms, .inl (cs 0, 288, .inl sf)), (mso, .inl (cs 0, 16, .inl of))] := hD
    refine lv_if_eq (tgt := 38) hx hb dX12_acceptedOf_33 (by decide) (fun c_4 => ?_) (fun c_4 => ?_)
    · -- 33 t
      refine lv_iinc (v := nI 1) (lv' := [(3, .int (nI 1)), (0, .ref hm), (1, .int (nI i)), (2, .int y)]) hx hb dX12_acceptedOf_38 hl (k := 0) rfl (by decide) (by decide) rfl (fun ls hl => ?_)
      refine lv_goto (tgt := 2) hx hb dX12_acceptedOf_41 (by decide) ?_
      refine lv_iload_n hx hb dX12_acceptedOf_2 rfl (lv_at hl 0 rfl) ?_
      refine lv_aload_n hx hb dX12_acceptedOf_3 rfl (lv_at hl 1 rfl) ?_
      refine xget C hP 0 rfl rfl zuX12 13 (by decide) zw5_226 rfl dX12_acceptedOf_4 ?_
      refine lv_icmp_ge (tgt := 44) hx hb dX12_acceptedOf_7 (by decide) (fun _ => ?_) (fun c => absurd (by decide) c)
      refine lv_iconst (v := (-1)) hx hb dX12_acceptedOf_44 (by decide) ?_
      exact xreti C () trivial hP hD hS (Nat.le_of_ble_eq_true rfl) (Nat.le_of_ble_eq_true rfl) rfl dX12_acceptedOf_45
    · -- 33 f
      refine lv_iload_n hx hb dX12_acceptedOf_36 rfl (lv_at hl 0 rfl) ?_
      exact xreti C () trivial hP hD hS (Nat.le_of_ble_eq_true rfl) (Nat.le_of_ble_eq_true rfl) rfl dX12_acceptedOf_37

set_option maxHeartbeats 4000000 in
set_option maxRecDepth 100000 in
theorem c_X12_entry_z (l : Launch) (D : va_G) (cs : Nat → ClassId) (hm ms mkp mtr mas mso mon mot man mst msm mtb mti mfr mbn mbs mde maa mab mba mbb : Nat) (x y z9 : Int32) : xMet l D cs yX12_entry cX12_entry 6 (some .int) ({ frames := 2, cells := 0, slots := 0, locals := 44 } : Room) [.ref hm, .int x, .int y, .int z9] [(hm, .inr (12, [.ref ms, .ref mkp, .int (nI 0), .ref mtr, .int (nI 4), .int (nI 2), .int (nI 2), .int (nI 3), .int (nI 2), .int (nI 1), .ref mas, .int (nI 0), .int (nI 0), .int (nI 0), .ref mso, .ref mon, .ref mot, .ref man, .int (nI 0), .int (nI 0), .ref mst, .ref msm, .ref mtb, .ref mti, .ref mfr, .ref mbn, .ref mbs, .ref mde, .int (nI 0), .int (nI 0), .int (nI 0), .int (nI 0), .long 0, .long 0, .ref maa, .ref mab, .ref mba, .ref mbb])), (ms, .inl (cs 0, 288, .inl freshS)), (mso, .inl (cs 0, 16, .inl (fun _ => 0))), (mon, .inl (cs 0, 16, .inl (fun _ => 0))), (mot, .inl (cs 0, 16, .inl (fun _ => 0))), (man, .inl (cs 0, 16, .inl (fun _ => 0)))] (xQi D (fun (r : Int32) (_u : Unit) => PQ (okN 8 x ∧ y = -1 ∧ z9 = -1) r (nI 0) (-1)) (fun (_u : Unit) => [])) := by
  refine xMet.intro (by decide) (Nat.le_of_ble_eq_true rfl) ?_
  intro p e s m args below meth c A ls C hP hD hS hl
  have hx := C.1
  have hb := C.2.1
  have hz := C.2.2.2.2.1
  have hown := C.2.2.2.1
  have hA := C.2.2.2.2.2.2.2.2.2
  have hAO := C.2.2.2.2.2.2.2.2.1.2.2
  have hl : lv_has ls 6 [(0, .ref hm), (1, .int x), (2, .int y), (3, .int z9)] := hl
  obtain ⟨H, hH⟩ : ∃ H, H = s.heap := ⟨_, rfl⟩
  have hP : va_P D vwCl [(hm, .inr (12, [.ref ms, .ref mkp, .int (nI 0), .ref mtr, .int (nI 4), .int (nI 2), .int (nI 2), .int (nI 3), .int (nI 2), .int (nI 1), .ref mas, .int (nI 0), .int (nI 0), .int (nI 0), .ref mso, .ref mon, .ref mot, .ref man, .int (nI 0), .int (nI 0), .ref mst, .ref msm, .ref mtb, .ref mti, .ref mfr, .ref mbn, .ref mbs, .ref mde, .int (nI 0), .int (nI 0), .int (nI 0), .int (nI 0), .long 0, .long 0, .ref maa, .ref mab, .ref mba, .ref mbb])), (ms, .inl (cs 0, 288, .inl freshS)), (mso, .inl (cs 0, 16, .inl (fun _ => 0))), (mon, .inl (cs 0, 16, .inl (fun _ => 0))), (mot, .inl (cs 0, 16, .inl (fun _ => 0))), (man, .inl (cs 0, 16, .inl (fun _ => 0)))] H := by rw [hH]; exact hP
  have hS : va_S A s.heap H [] := by rw [hH]; exact hS
  obtain ⟨locs, hlocs⟩ : ∃ z : List Loc, z = [] := ⟨_, rfl⟩
  rw [← hlocs] at hS
  suffices hW : W p l e ({ frames := 2, cells := 0, slots := 0, locals := 44 } : Room) s m args below meth c H locs 0 0 (MQ below ((xQi D (fun (r : Int32) (_u : Unit) => PQ (okN 8 x ∧ y = -1 ∧ z9 = -1) r (nI 0) (-1)) (fun (_u : Unit) => [])) A) args s 0 0 A) (F0 m 0 ls []) by rw [hlocs, hH] at hW; exact hW
  refine lv_aload_n hx hb dX12_entry_0 rfl (lv_at hl 0 rfl) ?_
  refine lv_iconst (v := nI 0) hx hb dX12_entry_1 (by decide) ?_
  refine xput C hP hD hS 0 rfl rfl zuX12 tyX12 tyX12_ok nmX12 18 (by decide) zw5_231 rfl rfl rfl (Nat.le_of_ble_eq_true rfl) dX12_entry_2 (fun H locs hP hD hS => ?_)
  have hP : va_P D vwCl [(hm, .inr (12, [.ref ms, .ref mkp, .int (nI 0), .ref mtr, .int (nI 4), .int (nI 2), .int (nI 2), .int (nI 3), .int (nI 2), .int (nI 1), .ref mas, .int (nI 0), .int (nI 0), .int (nI 0), .ref mso, .ref mon, .ref mot, .ref man, .int (nI 0), .int (nI 0), .ref mst, .ref msm, .ref mtb, .ref mti, .ref mfr, .ref mbn, .ref mbs, .ref mde, .int (nI 0), .int (nI 0), .int (nI 0), .int (nI 0), .long 0, .long 0, .ref maa, .ref mab, .ref mba, .ref mbb])), (ms, .inl (cs 0, 288, .inl freshS)), (mso, .inl (cs 0, 16, .inl (fun _ => 0))), (mon, .inl (cs 0, 16, .inl (fun _ => 0))), (mot, .inl (cs 0, 16, .inl (fun _ => 0))), (man, .inl (cs 0, 16, .inl (fun _ => 0)))] H := hP
  have hD : va_D A [(hm, .inr (12, [.ref ms, .ref mkp, .int (nI 0), .ref mtr, .int (nI 4), .int (nI 2), .int (nI 2), .int (nI 3), .int (nI 2), .int (nI 1), .ref mas, .int (nI 0), .int (nI 0), .int (nI 0), .ref mso, .ref mon, .ref mot, .ref man, .int (nI 0), .int (nI 0), .ref mst, .ref msm, .ref mtb, .ref mti, .ref mfr, .ref mbn, .ref mbs, .ref mde, .int (nI 0), .int (nI 0), .int (nI 0), .int (nI 0), .long 0, .long 0, .ref maa, .ref mab, .ref mba, .ref mbb])), (ms, .inl (cs 0, 288, .inl freshS)), (mso, .inl (cs 0, 16, .inl (fun _ => 0))), (mon, .inl (cs 0, 16, .inl (fun _ => 0))), (mot, .inl (cs 0, 16, .inl (fun _ => 0))), (man, .inl (cs 0, 16, .inl (fun _ => 0)))] := hD
  refine lv_iload_n hx hb dX12_entry_5 rfl (lv_at hl 1 rfl) ?_
  refine lv_iconst (v := nI 0) hx hb dX12_entry_6 (by decide) ?_
  refine lv_bipush (v := nI 7) hx hb dX12_entry_7 (by decide) ?_
  refine xi (wr := [(hm, .inr (12, [.ref ms, .ref mkp, .int (nI 0), .ref mtr, .int (nI 4), .int (nI 2), .int (nI 2), .int (nI 3), .int (nI 2), .int (nI 1), .ref mas, .int (nI 0), .int (nI 0), .int (nI 0), .ref mso, .ref mon, .ref mot, .ref man, .int (nI 0), .int (nI 0), .ref mst, .ref msm, .ref mtb, .ref mti, .ref mfr, .ref mbn, .ref mbs, .ref mde, .int (nI 0), .int (nI 0), .int (nI 0), .int (nI 0), .long 0, .long 0, .ref maa, .ref mab, .ref mba, .ref mbb])), (ms, .inl (cs 0, 288, .inl freshS)), (mso, .inl (cs 0, 16, .inl (fun _ => 0))), (mon, .inl (cs 0, 16, .inl (fun _ => 0))), (mot, .inl (cs 0, 16, .inl (fun _ => 0))), (man, .inl (cs 0, 16, .inl (fun _ => 0)))]) (xS (As := [.int x, .int (nI 0), .int (nI 7)]) (rest := []) C (c_X12_within l D cs x (nI 0) (nI 7)) kX12_116 hP hD [] rfl (by decide +kernel) ⟨Nat.le_of_ble_eq_true rfl, Nat.le_of_ble_eq_true rfl⟩ rfl hl.1 rfl (Nat.le_of_ble_eq_true rfl) dX12_entry_9 ⟨Nat.le_of_ble_eq_true rfl, Nat.le_of_ble_eq_true rfl⟩) hP hD hS hA [] [0, 1, 2, 3, 4, 5] rfl rfl (by decide +kernel) (by decide +kernel) (fun r_1 u_2 H locs hw_r_1 hP hD hS => ?_)
  have hw_r_1 : PQ (¬ x < (nI 0) ∧ x ≤ (nI 7)) r_1 (nI 1) (nI 0) := hw_r_1
  refine W.widen (k := 0) (n := 0) (Nat.le_of_ble_eq_true rfl) (Nat.le_of_ble_eq_true rfl) ?_
  have hP : va_P D vwCl [(hm, .inr (12, [.ref ms, .ref mkp, .int (nI 0), .ref mtr, .int (nI 4), .int (nI 2), .int (nI 2), .int (nI 3), .int (nI 2), .int (nI 1), .ref mas, .int (nI 0), .int (nI 0), .int (nI 0), .ref mso, .ref mon, .ref mot, .ref man, .int (nI 0), .int (nI 0), .ref mst, .ref msm, .ref mtb, .ref mti, .ref mfr, .ref mbn, .ref mbs, .ref mde, .int (nI 0), .int (nI 0), .int (nI 0), .int (nI 0), .long 0, .long 0, .ref maa, .ref mab, .ref mba, .ref mbb])), (ms, .inl (cs 0, 288, .inl freshS)), (mso, .inl (cs 0, 16, .inl (fun _ => 0))), (mon, .inl (cs 0, 16, .inl (fun _ => 0))), (mot, .inl (cs 0, 16, .inl (fun _ => 0))), (man, .inl (cs 0, 16, .inl (fun _ => 0)))] H := hP
  have hD : va_D A [(hm, .inr (12, [.ref ms, .ref mkp, .int (nI 0), .ref mtr, .int (nI 4), .int (nI 2), .int (nI 2), .int (nI 3), .int (nI 2), .int (nI 1), .ref mas, .int (nI 0), .int (nI 0), .int (nI 0), .ref mso, .ref mon, .ref mot, .ref man, .int (nI 0), .int (nI 0), .ref mst, .ref msm, .ref mtb, .ref mti, .ref mfr, .ref mbn, .ref mbs, .ref mde, .int (nI 0), .int (nI 0), .int (nI 0), .int (nI 0), .long 0, .long 0, .ref maa, .ref mab, .ref mba, .ref mbb])), (ms, .inl (cs 0, 288, .inl freshS)), (mso, .inl (cs 0, 16, .inl (fun _ => 0))), (mon, .inl (cs 0, 16, .inl (fun _ => 0))), (mot, .inl (cs 0, 16, .inl (fun _ => 0))), (man, .inl (cs 0, 16, .inl (fun _ => 0)))] := hD
  refine lv_if_eq (tgt := 61) hx hb dX12_entry_12 (by decide) (fun c_3 => ?_) (fun c_3 => ?_)
  · -- 12 t
    have hbad_j : ¬ okN 8 x := fun z => (PQ.no hw_r_1 c_3 (by decide)) (ok8.mp z)
    refine lv_iconst (v := (-1)) hx hb dX12_entry_61 (by decide) ?_
    exact xreti C () (Or.inr ⟨fun q => hbad_j q.1, rfl⟩) (xP_map hP [] rfl) (hD.sub [] (by decide +kernel) rfl) hS (Nat.le_of_ble_eq_true rfl) (Nat.le_of_ble_eq_true rfl) rfl dX12_entry_62
  · -- 12 f
    have hok_j : okN 8 x := ok8.mpr (PQ.yes hw_r_1 c_3)
    obtain ⟨j, h_j, rfl⟩ := okN_of hok_j (by decide)
    have hP : va_P D vwCl [(hm, .inr (12, [.ref ms, .ref mkp, .int (nI 0), .ref mtr, .int (nI 4), .int (nI 2), .int (nI 2), .int (nI 3), .int (nI 2), .int (nI 1), .ref mas, .int (nI 0), .int (nI 0), .int (nI 0), .ref mso, .ref mon, .ref mot, .ref man, .int (nI 0), .int (nI 0), .ref mst, .ref msm, .ref mtb, .ref mti, .ref mfr, .ref mbn, .ref mbs, .ref mde, .int (nI 0), .int (nI 0), .int (nI 0), .int (nI 0), .long 0, .long 0, .ref maa, .ref mab, .ref mba, .ref mbb])), (ms, .inl (cs 0, 288, .inl freshS)), (mso, .inl (cs 0, 16, .inl (fun _ => 0))), (mon, .inl (cs 0, 16, .inl (fun _ => 0))), (mot, .inl (cs 0, 16, .inl (fun _ => 0))), (man, .inl (cs 0, 16, .inl (fun _ => 0)))] H := hP
    have hD : va_D A [(hm, .inr (12, [.ref ms, .ref mkp, .int (nI 0), .ref mtr, .int (nI 4), .int (nI 2), .int (nI 2), .int (nI 3), .int (nI 2), .int (nI 1), .ref mas, .int (nI 0), .int (nI 0), .int (nI 0), .ref mso, .ref mon, .ref mot, .ref man, .int (nI 0), .int (nI 0), .ref mst, .ref msm, .ref mtb, .ref mti, .ref mfr, .ref mbn, .ref mbs, .ref mde, .int (nI 0), .int (nI 0), .int (nI 0), .int (nI 0), .long 0, .long 0, .ref maa, .ref mab, .ref mba, .ref mbb])), (ms, .inl (cs 0, 288, .inl freshS)), (mso, .inl (cs 0, 16, .inl (fun _ => 0))), (mon, .inl (cs 0, 16, .inl (fun _ => 0))), (mot, .inl (cs 0, 16, .inl (fun _ => 0))), (man, .inl (cs 0, 16, .inl (fun _ => 0)))] := hD
    refine lv_iload_n hx hb dX12_entry_15 rfl (lv_at hl 2 rfl) ?_
    refine lv_iconst (v := (-1)) hx hb dX12_entry_16 (by decide) ?_
    refine lv_aload_n hx hb dX12_entry_17 rfl (lv_at hl 0 rfl) ?_
    refine xget C hP 0 rfl rfl zuX12 13 (by decide) zw5_226 rfl dX12_entry_18 ?_
    refine lv_iconst (v := nI 1) hx hb dX12_entry_21 (by decide) ?_
    refine lv_isub hx hb dX12_entry_22 ?_
    refine lv_topi (nm_r (e' := (-1)) (by decide) ?_)
    refine xi (wr := [(hm, .inr (12, [.ref ms, .ref mkp, .int (nI 0), .ref mtr, .int (nI 4), .int (nI 2), .int (nI 2), .int (nI 3), .int (nI 2), .int (nI 1), .ref mas, .int (nI 0), .int (nI 0), .int (nI 0), .ref mso, .ref mon, .ref mot, .ref man, .int (nI 0), .int (nI 0), .ref mst, .ref msm, .ref mtb, .ref mti, .ref mfr, .ref mbn, .ref mbs, .ref mde, .int (nI 0), .int (nI 0), .int (nI 0), .int (nI 0), .long 0, .long 0, .ref maa, .ref mab, .ref mba, .ref mbb])), (ms, .inl (cs 0, 288, .inl freshS)), (mso, .inl (cs 0, 16, .inl (fun _ => 0))), (mon, .inl (cs 0, 16, .inl (fun _ => 0))), (mot, .inl (cs 0, 16, .inl (fun _ => 0))), (man, .inl (cs 0, 16, .inl (fun _ => 0)))]) (xS (As := [.int y, .int (-1), .int (-1)]) (rest := []) C (c_X12_within l D cs y (-1) (-1)) kX12_116 hP hD [] rfl (by decide +kernel) ⟨Nat.le_of_ble_eq_true rfl, Nat.le_of_ble_eq_true rfl⟩ rfl hl.1 rfl (Nat.le_of_ble_eq_true rfl) dX12_entry_23 ⟨Nat.le_of_ble_eq_true rfl, Nat.le_of_ble_eq_true rfl⟩) hP hD hS hA [] [0, 1, 2, 3, 4, 5] rfl rfl (by decide +kernel) (by decide +kernel) (fun r_4 u_5 H locs hw_r_4 hP hD hS => ?_)
    have hw_r_4 : PQ (¬ y < (-1) ∧ y ≤ (-1)) r_4 (nI 1) (nI 0) := hw_r_4
    refine W.widen (k := 0) (n := 0) (Nat.le_of_ble_eq_true rfl) (Nat.le_of_ble_eq_true rfl) ?_
    have hP : va_P D vwCl [(hm, .inr (12, [.ref ms, .ref mkp, .int (nI 0), .ref mtr, .int (nI 4), .int (nI 2), .int (nI 2), .int (nI 3), .int (nI 2), .int (nI 1), .ref mas, .int (nI 0), .int (nI 0), .int (nI 0), .ref mso, .ref mon, .ref mot, .ref man, .int (nI 0), .int (nI 0), .ref mst, .ref msm, .ref mtb, .ref mti, .ref mfr, .ref mbn, .ref mbs, .ref mde, .int (nI 0), .int (nI 0), .int (nI 0), .int (nI 0), .long 0, .long 0, .ref maa, .ref mab, .ref mba, .ref mbb])), (ms, .inl (cs 0, 288, .inl freshS)), (mso, .inl (cs 0, 16, .inl (fun _ => 0))), (mon, .inl (cs 0, 16, .inl (fun _ => 0))), (mot, .inl (cs 0, 16, .inl (fun _ => 0))), (man, .inl (cs 0, 16, .inl (fun _ => 0)))] H := hP
    have hD : va_D A [(hm, .inr (12, [.ref ms, .ref mkp, .int (nI 0), .ref mtr, .int (nI 4), .int (nI 2), .int (nI 2), .int (nI 3), .int (nI 2), .int (nI 1), .ref mas, .int (nI 0), .int (nI 0), .int (nI 0), .ref mso, .ref mon, .ref mot, .ref man, .int (nI 0), .int (nI 0), .ref mst, .ref msm, .ref mtb, .ref mti, .ref mfr, .ref mbn, .ref mbs, .ref mde, .int (nI 0), .int (nI 0), .int (nI 0), .int (nI 0), .long 0, .long 0, .ref maa, .ref mab, .ref mba, .ref mbb])), (ms, .inl (cs 0, 288, .inl freshS)), (mso, .inl (cs 0, 16, .inl (fun _ => 0))), (mon, .inl (cs 0, 16, .inl (fun _ => 0))), (mot, .inl (cs 0, 16, .inl (fun _ => 0))), (man, .inl (cs 0, 16, .inl (fun _ => 0)))] := hD
    refine lv_if_eq (tgt := 61) hx hb dX12_entry_26 (by decide) (fun c_6 => ?_) (fun c_6 => ?_)
    · -- 26 t
      have hne_b : ¬ y = -1 := fun e => (PQ.no hw_r_4 c_6 (by decide)) (by rw [e]; exact ⟨by decide, by decide⟩)
      refine lv_iconst (v := (-1)) hx hb dX12_entry_61 (by decide) ?_
      exact xreti C () (Or.inr ⟨fun q => hne_b q.2.1, rfl⟩) (xP_map hP [] rfl) (hD.sub [] (by decide +kernel) rfl) hS (Nat.le_of_ble_eq_true rfl) (Nat.le_of_ble_eq_true rfl) rfl dX12_entry_62
    · -- 26 f
      obtain rfl : y = -1 := eqm1 (by decide) (PQ.yes hw_r_4 c_6)
      have hP : va_P D vwCl [(hm, .inr (12, [.ref ms, .ref mkp, .int (nI 0), .ref mtr, .int (nI 4), .int (nI 2), .int (nI 2), .int (nI 3), .int (nI 2), .int (nI 1), .ref mas, .int (nI 0), .int (nI 0), .int (nI 0), .ref mso, .ref mon, .ref mot, .ref man, .int (nI 0), .int (nI 0), .ref mst, .ref msm, .ref mtb, .ref mti, .ref mfr, .ref mbn, .ref mbs, .ref mde, .int (nI 0), .int (nI 0), .int (nI 0), .int (nI 0), .long 0, .long 0, .ref maa, .ref mab, .ref mba, .ref mbb])), (ms, .inl (cs 0, 288, .inl freshS)), (mso, .inl (cs 0, 16, .inl (fun _ => 0))), (mon, .inl (cs 0, 16, .inl (fun _ => 0))), (mot, .inl (cs 0, 16, .inl (fun _ => 0))), (man, .inl (cs 0, 16, .inl (fun _ => 0)))] H := hP
      have hD : va_D A [(hm, .inr (12, [.ref ms, .ref mkp, .int (nI 0), .ref mtr, .int (nI 4), .int (nI 2), .int (nI 2), .int (nI 3), .int (nI 2), .int (nI 1), .ref mas, .int (nI 0), .int (nI 0), .int (nI 0), .ref mso, .ref mon, .ref mot, .ref man, .int (nI 0), .int (nI 0), .ref mst, .ref msm, .ref mtb, .ref mti, .ref mfr, .ref mbn, .ref mbs, .ref mde, .int (nI 0), .int (nI 0), .int (nI 0), .int (nI 0), .long 0, .long 0, .ref maa, .ref mab, .ref mba, .ref mbb])), (ms, .inl (cs 0, 288, .inl freshS)), (mso, .inl (cs 0, 16, .inl (fun _ => 0))), (mon, .inl (cs 0, 16, .inl (fun _ => 0))), (mot, .inl (cs 0, 16, .inl (fun _ => 0))), (man, .inl (cs 0, 16, .inl (fun _ => 0)))] := hD
      refine lv_iload_n hx hb dX12_entry_29 rfl (lv_at hl 3 rfl) ?_
      refine lv_iconst (v := (-1)) hx hb dX12_entry_30 (by decide) ?_
      refine lv_aload_n hx hb dX12_entry_31 rfl (lv_at hl 0 rfl) ?_
      refine xget C hP 0 rfl rfl zuX12 13 (by decide) zw5_226 rfl dX12_entry_32 ?_
      refine lv_iconst (v := nI 1) hx hb dX12_entry_35 (by decide) ?_
      refine lv_isub hx hb dX12_entry_36 ?_
      refine lv_topi (nm_r (e' := (-1)) (by decide) ?_)
      refine xi (wr := [(hm, .inr (12, [.ref ms, .ref mkp, .int (nI 0), .ref mtr, .int (nI 4), .int (nI 2), .int (nI 2), .int (nI 3), .int (nI 2), .int (nI 1), .ref mas, .int (nI 0), .int (nI 0), .int (nI 0), .ref mso, .ref mon, .ref mot, .ref man, .int (nI 0), .int (nI 0), .ref mst, .ref msm, .ref mtb, .ref mti, .ref mfr, .ref mbn, .ref mbs, .ref mde, .int (nI 0), .int (nI 0), .int (nI 0), .int (nI 0), .long 0, .long 0, .ref maa, .ref mab, .ref mba, .ref mbb])), (ms, .inl (cs 0, 288, .inl freshS)), (mso, .inl (cs 0, 16, .inl (fun _ => 0))), (mon, .inl (cs 0, 16, .inl (fun _ => 0))), (mot, .inl (cs 0, 16, .inl (fun _ => 0))), (man, .inl (cs 0, 16, .inl (fun _ => 0)))]) (xS (As := [.int z9, .int (-1), .int (-1)]) (rest := []) C (c_X12_within l D cs z9 (-1) (-1)) kX12_116 hP hD [] rfl (by decide +kernel) ⟨Nat.le_of_ble_eq_true rfl, Nat.le_of_ble_eq_true rfl⟩ rfl hl.1 rfl (Nat.le_of_ble_eq_true rfl) dX12_entry_37 ⟨Nat.le_of_ble_eq_true rfl, Nat.le_of_ble_eq_true rfl⟩) hP hD hS hA [] [0, 1, 2, 3, 4, 5] rfl rfl (by decide +kernel) (by decide +kernel) (fun r_7 u_8 H locs hw_r_7 hP hD hS => ?_)
      have hw_r_7 : PQ (¬ z9 < (-1) ∧ z9 ≤ (-1)) r_7 (nI 1) (nI 0) := hw_r_7
      refine W.widen (k := 0) (n := 0) (Nat.le_of_ble_eq_true rfl) (Nat.le_of_ble_eq_true rfl) ?_
      have hP : va_P D vwCl [(hm, .inr (12, [.ref ms, .ref mkp, .int (nI 0), .ref mtr, .int (nI 4), .int (nI 2), .int (nI 2), .int (nI 3), .int (nI 2), .int (nI 1), .ref mas, .int (nI 0), .int (nI 0), .int (nI 0), .ref mso, .ref mon, .ref mot, .ref man, .int (nI 0), .int (nI 0), .ref mst, .ref msm, .ref mtb, .ref mti, .ref mfr, .ref mbn, .ref mbs, .ref mde, .int (nI 0), .int (nI 0), .int (nI 0), .int (nI 0), .long 0, .long 0, .ref maa, .ref mab, .ref mba, .ref mbb])), (ms, .inl (cs 0, 288, .inl freshS)), (mso, .inl (cs 0, 16, .inl (fun _ => 0))), (mon, .inl (cs 0, 16, .inl (fun _ => 0))), (mot, .inl (cs 0, 16, .inl (fun _ => 0))), (man, .inl (cs 0, 16, .inl (fun _ => 0)))] H := hP
      have hD : va_D A [(hm, .inr (12, [.ref ms, .ref mkp, .int (nI 0), .ref mtr, .int (nI 4), .int (nI 2), .int (nI 2), .int (nI 3), .int (nI 2), .int (nI 1), .ref mas, .int (nI 0), .int (nI 0), .int (nI 0), .ref mso, .ref mon, .ref mot, .ref man, .int (nI 0), .int (nI 0), .ref mst, .ref msm, .ref mtb, .ref mti, .ref mfr, .ref mbn, .ref mbs, .ref mde, .int (nI 0), .int (nI 0), .int (nI 0), .int (nI 0), .long 0, .long 0, .ref maa, .ref mab, .ref mba, .ref mbb])), (ms, .inl (cs 0, 288, .inl freshS)), (mso, .inl (cs 0, 16, .inl (fun _ => 0))), (mon, .inl (cs 0, 16, .inl (fun _ => 0))), (mot, .inl (cs 0, 16, .inl (fun _ => 0))), (man, .inl (cs 0, 16, .inl (fun _ => 0)))] := hD
      refine lv_if_eq (tgt := 61) hx hb dX12_entry_40 (by decide) (fun c_9 => ?_) (fun c_9 => ?_)
      · -- 40 t
        have hne_c : ¬ z9 = -1 := fun e => (PQ.no hw_r_7 c_9 (by decide)) (by rw [e]; exact ⟨by decide, by decide⟩)
        refine lv_iconst (v := (-1)) hx hb dX12_entry_61 (by decide) ?_
        exact xreti C () (Or.inr ⟨fun q => hne_c q.2.2, rfl⟩) (xP_map hP [] rfl) (hD.sub [] (by decide +kernel) rfl) hS (Nat.le_of_ble_eq_true rfl) (Nat.le_of_ble_eq_true rfl) rfl dX12_entry_62
      · -- 40 f
        obtain rfl : z9 = -1 := eqm1 (by decide) (PQ.yes hw_r_7 c_9)
        have hP : va_P D vwCl [(hm, .inr (12, [.ref ms, .ref mkp, .int (nI 0), .ref mtr, .int (nI 4), .int (nI 2), .int (nI 2), .int (nI 3), .int (nI 2), .int (nI 1), .ref mas, .int (nI 0), .int (nI 0), .int (nI 0), .ref mso, .ref mon, .ref mot, .ref man, .int (nI 0), .int (nI 0), .ref mst, .ref msm, .ref mtb, .ref mti, .ref mfr, .ref mbn, .ref mbs, .ref mde, .int (nI 0), .int (nI 0), .int (nI 0), .int (nI 0), .long 0, .long 0, .ref maa, .ref mab, .ref mba, .ref mbb])), (ms, .inl (cs 0, 288, .inl freshS)), (mso, .inl (cs 0, 16, .inl (fun _ => 0))), (mon, .inl (cs 0, 16, .inl (fun _ => 0))), (mot, .inl (cs 0, 16, .inl (fun _ => 0))), (man, .inl (cs 0, 16, .inl (fun _ => 0)))] H := hP
        have hD : va_D A [(hm, .inr (12, [.ref ms, .ref mkp, .int (nI 0), .ref mtr, .int (nI 4), .int (nI 2), .int (nI 2), .int (nI 3), .int (nI 2), .int (nI 1), .ref mas, .int (nI 0), .int (nI 0), .int (nI 0), .ref mso, .ref mon, .ref mot, .ref man, .int (nI 0), .int (nI 0), .ref mst, .ref msm, .ref mtb, .ref mti, .ref mfr, .ref mbn, .ref mbs, .ref mde, .int (nI 0), .int (nI 0), .int (nI 0), .int (nI 0), .long 0, .long 0, .ref maa, .ref mab, .ref mba, .ref mbb])), (ms, .inl (cs 0, 288, .inl freshS)), (mso, .inl (cs 0, 16, .inl (fun _ => 0))), (mon, .inl (cs 0, 16, .inl (fun _ => 0))), (mot, .inl (cs 0, 16, .inl (fun _ => 0))), (man, .inl (cs 0, 16, .inl (fun _ => 0)))] := hD
        refine lv_iload_n hx hb dX12_entry_43 rfl (lv_at hl 2 rfl) ?_
        refine lv_if_lt (tgt := 52) hx hb dX12_entry_44 (by decide) (fun _ => ?_) (fun c => absurd (by decide) c)
        refine lv_aload_n hx hb dX12_entry_52 rfl (lv_at hl 0 rfl) ?_
        refine xget C hP 0 rfl rfl zuX12 13 (by decide) zw5_226 rfl dX12_entry_53 ?_
        refine lv_bipush (v := nI 16) hx hb dX12_entry_56 (by decide) ?_
        refine lv_icmp_ne (tgt := 63) hx hb dX12_entry_58 (by decide) (fun _ => ?_) (fun c => absurd c (by decide))
        refine lv_aload_n hx hb dX12_entry_63 rfl (lv_at hl 0 rfl) ?_
        refine xget C hP 0 rfl rfl zuX12 13 (by decide) zw5_226 rfl dX12_entry_64 ?_
        refine lv_istore (lv' := [(4, .int (nI 0)), (0, .ref hm), (1, .int (nI j)), (2, .int (-1 : Int32)), (3, .int (-1 : Int32))]) hx hb dX12_entry_67 hl (by decide) rfl (fun ls hl => ?_)
        refine lv_aload_n hx hb dX12_entry_69 rfl (lv_at hl 1 rfl) ?_
        refine xget C hP 0 rfl rfl zuX12 14 (by decide) zw5_227 rfl dX12_entry_70 ?_
        refine lv_iload hx hb dX12_entry_73 (lv_at hl 0 rfl) ?_
        refine lv_iload_n hx hb dX12_entry_75 rfl (lv_at hl 2 rfl) ?_
        refine xiast C hP hD hS 2 rfl 0 rfl (by decide) (by decide) dX12_entry_76 (fun H locs hP hD hS => ?_)
        have hP : va_P D vwCl [(hm, .inr (12, [.ref ms, .ref mkp, .int (nI 0), .ref mtr, .int (nI 4), .int (nI 2), .int (nI 2), .int (nI 3), .int (nI 2), .int (nI 1), .ref mas, .int (nI 0), .int (nI 0), .int (nI 0), .ref mso, .ref mon, .ref mot, .ref man, .int (nI 0), .int (nI 0), .ref mst, .ref msm, .ref mtb, .ref mti, .ref mfr, .ref mbn, .ref mbs, .ref mde, .int (nI 0), .int (nI 0), .int (nI 0), .int (nI 0), .long 0, .long 0, .ref maa, .ref mab, .ref mba, .ref mbb])), (ms, .inl (cs 0, 288, .inl freshS)), (mso, .inl (cs 0, 16, .inl (upd (fun _ => 0) 0 (nI j)))), (mon, .inl (cs 0, 16, .inl (fun _ => 0))), (mot, .inl (cs 0, 16, .inl (fun _ => 0))), (man, .inl (cs 0, 16, .inl (fun _ => 0)))] H := hP
        have hD : va_D A [(hm, .inr (12, [.ref ms, .ref mkp, .int (nI 0), .ref mtr, .int (nI 4), .int (nI 2), .int (nI 2), .int (nI 3), .int (nI 2), .int (nI 1), .ref mas, .int (nI 0), .int (nI 0), .int (nI 0), .ref mso, .ref mon, .ref mot, .ref man, .int (nI 0), .int (nI 0), .ref mst, .ref msm, .ref mtb, .ref mti, .ref mfr, .ref mbn, .ref mbs, .ref mde, .int (nI 0), .int (nI 0), .int (nI 0), .int (nI 0), .long 0, .long 0, .ref maa, .ref mab, .ref mba, .ref mbb])), (ms, .inl (cs 0, 288, .inl freshS)), (mso, .inl (cs 0, 16, .inl (upd (fun _ => 0) 0 (nI j)))), (mon, .inl (cs 0, 16, .inl (fun _ => 0))), (mot, .inl (cs 0, 16, .inl (fun _ => 0))), (man, .inl (cs 0, 16, .inl (fun _ => 0)))] := hD
        refine lv_aload_n hx hb dX12_entry_77 rfl (lv_at hl 1 rfl) ?_
        refine xget C hP 0 rfl rfl zuX12 15 (by decide) zw5_228 rfl dX12_entry_78 ?_
        refine lv_iload hx hb dX12_entry_81 (lv_at hl 0 rfl) ?_
        refine lv_iload_n hx hb dX12_entry_83 rfl (lv_at hl 3 rfl) ?_
        refine xiast C hP hD hS 3 rfl 0 rfl (by decide) (by decide) dX12_entry_84 (fun H locs hP hD hS => ?_)
        have hP : va_P D vwCl [(hm, .inr (12, [.ref ms, .ref mkp, .int (nI 0), .ref mtr, .int (nI 4), .int (nI 2), .int (nI 2), .int (nI 3), .int (nI 2), .int (nI 1), .ref mas, .int (nI 0), .int (nI 0), .int (nI 0), .ref mso, .ref mon, .ref mot, .ref man, .int (nI 0), .int (nI 0), .ref mst, .ref msm, .ref mtb, .ref mti, .ref mfr, .ref mbn, .ref mbs, .ref mde, .int (nI 0), .int (nI 0), .int (nI 0), .int (nI 0), .long 0, .long 0, .ref maa, .ref mab, .ref mba, .ref mbb])), (ms, .inl (cs 0, 288, .inl freshS)), (mso, .inl (cs 0, 16, .inl (upd (fun _ => 0) 0 (nI j)))), (mon, .inl (cs 0, 16, .inl (upd (fun _ => 0) 0 (-1 : Int32)))), (mot, .inl (cs 0, 16, .inl (fun _ => 0))), (man, .inl (cs 0, 16, .inl (fun _ => 0)))] H := hP
        have hD : va_D A [(hm, .inr (12, [.ref ms, .ref mkp, .int (nI 0), .ref mtr, .int (nI 4), .int (nI 2), .int (nI 2), .int (nI 3), .int (nI 2), .int (nI 1), .ref mas, .int (nI 0), .int (nI 0), .int (nI 0), .ref mso, .ref mon, .ref mot, .ref man, .int (nI 0), .int (nI 0), .ref mst, .ref msm, .ref mtb, .ref mti, .ref mfr, .ref mbn, .ref mbs, .ref mde, .int (nI 0), .int (nI 0), .int (nI 0), .int (nI 0), .long 0, .long 0, .ref maa, .ref mab, .ref mba, .ref mbb])), (ms, .inl (cs 0, 288, .inl freshS)), (mso, .inl (cs 0, 16, .inl (upd (fun _ => 0) 0 (nI j)))), (mon, .inl (cs 0, 16, .inl (upd (fun _ => 0) 0 (-1 : Int32)))), (mot, .inl (cs 0, 16, .inl (fun _ => 0))), (man, .inl (cs 0, 16, .inl (fun _ => 0)))] := hD
        refine lv_aload_n hx hb dX12_entry_85 rfl (lv_at hl 1 rfl) ?_
        refine xget C hP 0 rfl rfl zuX12 16 (by decide) zw5_229 rfl dX12_entry_86 ?_
        refine lv_iload hx hb dX12_entry_89 (lv_at hl 0 rfl) ?_
        refine lv_iload_n hx hb dX12_entry_91 rfl (lv_at hl 4 rfl) ?_
        refine xiast C hP hD hS 4 rfl 0 rfl (by decide) (by decide) dX12_entry_92 (fun H locs hP hD hS => ?_)
        have hP : va_P D vwCl [(hm, .inr (12, [.ref ms, .ref mkp, .int (nI 0), .ref mtr, .int (nI 4), .int (nI 2), .int (nI 2), .int (nI 3), .int (nI 2), .int (nI 1), .ref mas, .int (nI 0), .int (nI 0), .int (nI 0), .ref mso, .ref mon, .ref mot, .ref man, .int (nI 0), .int (nI 0), .ref mst, .ref msm, .ref mtb, .ref mti, .ref mfr, .ref mbn, .ref mbs, .ref mde, .int (nI 0), .int (nI 0), .int (nI 0), .int (nI 0), .long 0, .long 0, .ref maa, .ref mab, .ref mba, .ref mbb])), (ms, .inl (cs 0, 288, .inl freshS)), (mso, .inl (cs 0, 16, .inl (upd (fun _ => 0) 0 (nI j)))), (mon, .inl (cs 0, 16, .inl (upd (fun _ => 0) 0 (-1 : Int32)))), (mot, .inl (cs 0, 16, .inl (upd (fun _ => 0) 0 (-1 : Int32)))), (man, .inl (cs 0, 16, .inl (fun _ => 0)))] H := hP
        have hD : va_D A [(hm, .inr (12, [.ref ms, .ref mkp, .int (nI 0), .ref mtr, .int (nI 4), .int (nI 2), .int (nI 2), .int (nI 3), .int (nI 2), .int (nI 1), .ref mas, .int (nI 0), .int (nI 0), .int (nI 0), .ref mso, .ref mon, .ref mot, .ref man, .int (nI 0), .int (nI 0), .ref mst, .ref msm, .ref mtb, .ref mti, .ref mfr, .ref mbn, .ref mbs, .ref mde, .int (nI 0), .int (nI 0), .int (nI 0), .int (nI 0), .long 0, .long 0, .ref maa, .ref mab, .ref mba, .ref mbb])), (ms, .inl (cs 0, 288, .inl freshS)), (mso, .inl (cs 0, 16, .inl (upd (fun _ => 0) 0 (nI j)))), (mon, .inl (cs 0, 16, .inl (upd (fun _ => 0) 0 (-1 : Int32)))), (mot, .inl (cs 0, 16, .inl (upd (fun _ => 0) 0 (-1 : Int32)))), (man, .inl (cs 0, 16, .inl (fun _ => 0)))] := hD
        refine lv_aload_n hx hb dX12_entry_93 rfl (lv_at hl 1 rfl) ?_
        refine xget C hP 0 rfl rfl zuX12 17 (by decide) zw5_230 rfl dX12_entry_94 ?_
        refine lv_iload hx hb dX12_entry_97 (lv_at hl 0 rfl) ?_
        refine lv_iconst (v := nI 0) hx hb dX12_entry_99 (by decide) ?_
        refine xiast C hP hD hS 5 rfl 0 rfl (by decide) (by decide) dX12_entry_100 (fun H locs hP hD hS => ?_)
        have hP : va_P D vwCl [(hm, .inr (12, [.ref ms, .ref mkp, .int (nI 0), .ref mtr, .int (nI 4), .int (nI 2), .int (nI 2), .int (nI 3), .int (nI 2), .int (nI 1), .ref mas, .int (nI 0), .int (nI 0), .int (nI 0), .ref mso, .ref mon, .ref mot, .ref man, .int (nI 0), .int (nI 0), .ref mst, .ref msm, .ref mtb, .ref mti, .ref mfr, .ref mbn, .ref mbs, .ref mde, .int (nI 0), .int (nI 0), .int (nI 0), .int (nI 0), .long 0, .long 0, .ref maa, .ref mab, .ref mba, .ref mbb])), (ms, .inl (cs 0, 288, .inl freshS)), (mso, .inl (cs 0, 16, .inl (upd (fun _ => 0) 0 (nI j)))), (mon, .inl (cs 0, 16, .inl (upd (fun _ => 0) 0 (-1 : Int32)))), (mot, .inl (cs 0, 16, .inl (upd (fun _ => 0) 0 (-1 : Int32)))), (man, .inl (cs 0, 16, .inl (upd (fun _ => 0) 0 (nI 0))))] H := hP
        have hD : va_D A [(hm, .inr (12, [.ref ms, .ref mkp, .int (nI 0), .ref mtr, .int (nI 4), .int (nI 2), .int (nI 2), .int (nI 3), .int (nI 2), .int (nI 1), .ref mas, .int (nI 0), .int (nI 0), .int (nI 0), .ref mso, .ref mon, .ref mot, .ref man, .int (nI 0), .int (nI 0), .ref mst, .ref msm, .ref mtb, .ref mti, .ref mfr, .ref mbn, .ref mbs, .ref mde, .int (nI 0), .int (nI 0), .int (nI 0), .int (nI 0), .long 0, .long 0, .ref maa, .ref mab, .ref mba, .ref mbb])), (ms, .inl (cs 0, 288, .inl freshS)), (mso, .inl (cs 0, 16, .inl (upd (fun _ => 0) 0 (nI j)))), (mon, .inl (cs 0, 16, .inl (upd (fun _ => 0) 0 (-1 : Int32)))), (mot, .inl (cs 0, 16, .inl (upd (fun _ => 0) 0 (-1 : Int32)))), (man, .inl (cs 0, 16, .inl (upd (fun _ => 0) 0 (nI 0))))] := hD
        refine lv_iload_n hx hb dX12_entry_101 rfl (lv_at hl 3 rfl) ?_
        refine lv_if_lt (tgt := 125) hx hb dX12_entry_102 (by decide) (fun _ => ?_) (fun c => absurd (by decide) c)
        refine lv_iload_n hx hb dX12_entry_125 rfl (lv_at hl 4 rfl) ?_
        refine lv_if_lt (tgt := 149) hx hb dX12_entry_126 (by decide) (fun _ => ?_) (fun c => absurd (by decide) c)
        refine lv_aload_n hx hb dX12_entry_149 rfl (lv_at hl 1 rfl) ?_
        refine lv_dup hx hb dX12_entry_150 rfl ?_
        refine xget C hP 0 rfl rfl zuX12 13 (by decide) zw5_226 rfl dX12_entry_151 ?_
        refine lv_iconst (v := nI 1) hx hb dX12_entry_154 (by decide) ?_
        refine lv_iadd hx hb dX12_entry_155 ?_
        refine lv_topi (nm_r (e' := nI 1) (by decide) ?_)
        refine xput C hP hD hS 0 rfl rfl zuX12 tyX12 tyX12_ok nmX12 13 (by decide) zw5_226 rfl rfl rfl (Nat.le_of_ble_eq_true rfl) dX12_entry_156 (fun H locs hP hD hS => ?_)
        have hP : va_P D vwCl [(hm, .inr (12, [.ref ms, .ref mkp, .int (nI 0), .ref mtr, .int (nI 4), .int (nI 2), .int (nI 2), .int (nI 3), .int (nI 2), .int (nI 1), .ref mas, .int (nI 0), .int (nI 0), .int (nI 1), .ref mso, .ref mon, .ref mot, .ref man, .int (nI 0), .int (nI 0), .ref mst, .ref msm, .ref mtb, .ref mti, .ref mfr, .ref mbn, .ref mbs, .ref mde, .int (nI 0), .int (nI 0), .int (nI 0), .int (nI 0), .long 0, .long 0, .ref maa, .ref mab, .ref mba, .ref mbb])), (ms, .inl (cs 0, 288, .inl freshS)), (mso, .inl (cs 0, 16, .inl (upd (fun _ => 0) 0 (nI j)))), (mon, .inl (cs 0, 16, .inl (upd (fun _ => 0) 0 (-1 : Int32)))), (mot, .inl (cs 0, 16, .inl (upd (fun _ => 0) 0 (-1 : Int32)))), (man, .inl (cs 0, 16, .inl (upd (fun _ => 0) 0 (nI 0))))] H := hP
        have hD : va_D A [(hm, .inr (12, [.ref ms, .ref mkp, .int (nI 0), .ref mtr, .int (nI 4), .int (nI 2), .int (nI 2), .int (nI 3), .int (nI 2), .int (nI 1), .ref mas, .int (nI 0), .int (nI 0), .int (nI 1), .ref mso, .ref mon, .ref mot, .ref man, .int (nI 0), .int (nI 0), .ref mst, .ref msm, .ref mtb, .ref mti, .ref mfr, .ref mbn, .ref mbs, .ref mde, .int (nI 0), .int (nI 0), .int (nI 0), .int (nI 0), .long 0, .long 0, .ref maa, .ref mab, .ref mba, .ref mbb])), (ms, .inl (cs 0, 288, .inl freshS)), (mso, .inl (cs 0, 16, .inl (upd (fun _ => 0) 0 (nI j)))), (mon, .inl (cs 0, 16, .inl (upd (fun _ => 0) 0 (-1 : Int32)))), (mot, .inl (cs 0, 16, .inl (upd (fun _ => 0) 0 (-1 : Int32)))), (man, .inl (cs 0, 16, .inl (upd (fun _ => 0) 0 (nI 0))))] := hD
        refine lv_iconst (v := nI 0) hx hb dX12_entry_159 (by decide) ?_
        refine lv_istore (lv' := [(5, .int (nI 0)), (4, .int (nI 0)), (0, .ref hm), (1, .int (nI j)), (2, .int (-1 : Int32)), (3, .int (-1 : Int32))]) hx hb dX12_entry_160 hl (by decide) rfl (fun ls hl => ?_)
        have loop_10 : ∀ (n_loop_10 : Nat) (i : Nat) (sfv : Nat → Int32), (i ≤ 8) → 8 - i < n_loop_10 → ∀ (H : Heap) (locs : List Loc) (ls : Array Slot), va_P D vwCl [(hm, .inr (12, [.ref ms, .ref mkp, .int (nI 0), .ref mtr, .int (nI 4), .int (nI 2), .int (nI 2), .int (nI 3), .int (nI 2), .int (nI 1), .ref mas, .int (nI 0), .int (nI 0), .int (nI 1), .ref mso, .ref mon, .ref mot, .ref man, .int (nI 0), .int (nI 0), .ref mst, .ref msm, .ref mtb, .ref mti, .ref mfr, .ref mbn, .ref mbs, .ref mde, .int (nI 0), .int (nI 0), .int (nI 0), .int (nI 0), .long 0, .long 0, .ref maa, .ref mab, .ref mba, .ref mbb])), (ms, .inl (cs 0, 288, .inl sfv)), (mso, .inl (cs 0, 16, .inl (upd (fun _ => 0) 0 (nI j)))), (mon, .inl (cs 0, 16, .inl (upd (fun _ => 0) 0 (-1 : Int32)))), (mot, .inl (cs 0, 16, .inl (upd (fun _ => 0) 0 (-1 : Int32)))), (man, .inl (cs 0, 16, .inl (upd (fun _ => 0) 0 (nI 0))))] H → va_D A [(hm, .inr (12, [.ref ms, .ref mkp, .int (nI 0), .ref mtr, .int (nI 4), .int (nI 2), .int (nI 2), .int (nI 3), .int (nI 2), .int (nI 1), .ref mas, .int (nI 0), .int (nI 0), .int (nI 1), .ref mso, .ref mon, .ref mot, .ref man, .int (nI 0), .int (nI 0), .ref mst, .ref msm, .ref mtb, .ref mti, .ref mfr, .ref mbn, .ref mbs, .ref mde, .int (nI 0), .int (nI 0), .int (nI 0), .int (nI 0), .long 0, .long 0, .ref maa, .ref mab, .ref mba, .ref mbb])), (ms, .inl (cs 0, 288, .inl sfv)), (mso, .inl (cs 0, 16, .inl (upd (fun _ => 0) 0 (nI j)))), (mon, .inl (cs 0, 16, .inl (upd (fun _ => 0) 0 (-1 : Int32)))), (mot, .inl (cs 0, 16, .inl (upd (fun _ => 0) 0 (-1 : Int32)))), (man, .inl (cs 0, 16, .inl (upd (fun _ => 0) 0 (nI 0))))] → va_S A s.heap H locs → lv_has ls 6 [(5, .int (nI i)), (4, .int (nI 0)), (0, .ref hm), (1, .int (nI j)), (2, .int (-1 : Int32)), (3, .int (-1 : Int32))] → W p l e ({ frames := 2, cells := 0, slots := 0, locals := 44 } : Room) s m args below meth c H locs 0 0 (MQ below ((xQi D (fun (r : Int32) (_u : Unit) => PQ (okN 8 (nI j) ∧ (-1 : Int32) = -1 ∧ (-1 : Int32) = -1) r (nI 0) (-1)) (fun (_u : Unit) => [])) A) args s 0 0 A) (F0 m 162 ls []) := by
          intro n_loop_10
          induction n_loop_10 with
          | zero => intro i sfv h_i hlt H locs ls hP hD hS hl; exact absurd hlt (Nat.not_lt_zero _)
          | succ n_loop_10 ih_loop_10 =>
            intro i sfv h_i hlt_loop_10 H locs ls hP hD hS hl
            refine lv_iload hx hb dX12_entry_162 (lv_at hl 0 rfl) ?_
            refine lv_bipush (v := nI 8) hx hb dX12_entry_164 (by decide) ?_
            refine lv_icmp_ge (tgt := 237) hx hb dX12_entry_166 (by decide) (fun c_11 => ?_) (fun c_11 => ?_)
            · -- 166 t
              have fc_11 : 8 ≤ i := nf_le (by omega) (by omega) c_11
              refine lv_aload_n hx hb dX12_entry_237 rfl (lv_at hl 2 rfl) ?_
              refine lv_iconst (v := nI 0) hx hb dX12_entry_238 (by decide) ?_
              refine xput C hP hD hS 0 rfl rfl zuX12 tyX12 tyX12_ok nmX12 2 (by decide) zw5_215 rfl rfl rfl (Nat.le_of_ble_eq_true rfl) dX12_entry_239 (fun H locs hP hD hS => ?_)
              have hP : va_P D vwCl [(hm, .inr (12, [.ref ms, .ref mkp, .int (nI 0), .ref mtr, .int (nI 4), .int (nI 2), .int (nI 2), .int (nI 3), .int (nI 2), .int (nI 1), .ref mas, .int (nI 0), .int (nI 0), .int (nI 1), .ref mso, .ref mon, .ref mot, .ref man, .int (nI 0), .int (nI 0), .ref mst, .ref msm, .ref mtb, .ref mti, .ref mfr, .ref mbn, .ref mbs, .ref mde, .int (nI 0), .int (nI 0), .int (nI 0), .int (nI 0), .long 0, .long 0, .ref maa, .ref mab, .ref mba, .ref mbb])), (ms, .inl (cs 0, 288, .inl sfv)), (mso, .inl (cs 0, 16, .inl (upd (fun _ => 0) 0 (nI j)))), (mon, .inl (cs 0, 16, .inl (upd (fun _ => 0) 0 (-1 : Int32)))), (mot, .inl (cs 0, 16, .inl (upd (fun _ => 0) 0 (-1 : Int32)))), (man, .inl (cs 0, 16, .inl (upd (fun _ => 0) 0 (nI 0))))] H := hP
              have hD : va_D A [(hm, .inr (12, [.ref ms, .ref mkp, .int (nI 0), .ref mtr, .int (nI 4), .int (nI 2), .int (nI 2), .int (nI 3), .int (nI 2), .int (nI 1), .ref mas, .int (nI 0), .int (nI 0), .int (nI 1), .ref mso, .ref mon, .ref mot, .ref man, .int (nI 0), .int (nI 0), .ref mst, .ref msm, .ref mtb, .ref mti, .ref mfr, .ref mbn, .ref mbs, .ref mde, .int (nI 0), .int (nI 0), .int (nI 0), .int (nI 0), .long 0, .long 0, .ref maa, .ref mab, .ref mba, .ref mbb])), (ms, .inl (cs 0, 288, .inl sfv)), (mso, .inl (cs 0, 16, .inl (upd (fun _ => 0) 0 (nI j)))), (mon, .inl (cs 0, 16, .inl (upd (fun _ => 0) 0 (-1 : Int32)))), (mot, .inl (cs 0, 16, .inl (upd (fun _ => 0) 0 (-1 : Int32)))), (man, .inl (cs 0, 16, .inl (upd (fun _ => 0) 0 (nI 0))))] := hD
              refine lv_iload hx hb dX12_entry_242 (lv_at hl 1 rfl) ?_
              exact xreti C () (Or.inl ⟨⟨hok_j, rfl, rfl⟩, rfl⟩) (xP_map hP [] rfl) (hD.sub [] (by decide +kernel) rfl) hS (Nat.le_of_ble_eq_true rfl) (Nat.le_of_ble_eq_true rfl) rfl dX12_entry_244
            · -- 166 f
              have fc_11 : i < 8 := nf_nle (by omega) (by omega) c_11
              refine lv_aload_n hx hb dX12_entry_169 rfl (lv_at hl 2 rfl) ?_
              refine xget C hP 0 rfl rfl zuX12 0 (by decide) zw5_213 rfl dX12_entry_170 ?_
              refine lv_bipush (v := nI 96) hx hb dX12_entry_173 (by decide) ?_
              refine lv_bipush (v := nI 8) hx hb dX12_entry_175 (by decide) ?_
              refine lv_iload hx hb dX12_entry_177 (lv_at hl 0 rfl) ?_
              refine lv_imul hx hb dX12_entry_179 ?_
              refine lv_topi (nm_r (e' := nI (8 * i)) (pk_mul _ _) ?_)
              refine lv_iadd hx hb dX12_entry_180 ?_
              refine lv_topi (nm_r (e' := nI (96 + (8 * i))) (nI_add _ _) ?_)
              refine lv_iload_n hx hb dX12_entry_181 rfl (lv_at hl 3 rfl) ?_
              refine lv_iadd hx hb dX12_entry_182 ?_
              refine lv_topi (nm_r (e' := nI ((96 + (8 * i)) + j)) (nI_add _ _) ?_)
              refine xiald C hP 1 rfl ((96 + (8 * i)) + j) rfl (by omega) (by decide) dX12_entry_183 ?_
              refine lv_if_ge (tgt := 204) hx hb dX12_entry_184 (by decide) (fun c_12 => ?_) (fun c_12 => ?_)
              · -- 184 t
                refine lv_aload_n hx hb dX12_entry_204 rfl (lv_at hl 2 rfl) ?_
                refine lv_iload hx hb dX12_entry_205 (lv_at hl 0 rfl) ?_
                refine lv_iload_n hx hb dX12_entry_207 rfl (lv_at hl 3 rfl) ?_
                refine xi (wr := [(mon, .inl (cs 0, 16, .inl (upd (fun _ => 0) 0 (-1 : Int32)))), (mot, .inl (cs 0, 16, .inl (upd (fun _ => 0) 0 (-1 : Int32)))), (man, .inl (cs 0, 16, .inl (upd (fun _ => 0) 0 (nI 0))))]) (xV (As := [.int (nI i), .int (nI j)]) (rest := []) C (c_X12_acceptedOf_e l D cs hm ms mkp mtr mas mso mon mot man mst msm mtb mti mfr mbn mbs mde maa mab mba mbb i (nI j) sfv (upd (fun _ => 0) 0 (nI j)) (by omega)) kX12_310 hP hD [0, 1, 2] rfl (by decide +kernel) 0 rfl rfl rfl ⟨Nat.le_of_ble_eq_true rfl, Nat.le_of_ble_eq_true rfl⟩ rfl hl.1 rfl (Nat.le_of_ble_eq_true rfl) dX12_entry_208 ⟨Nat.le_of_ble_eq_true rfl, Nat.le_of_ble_eq_true rfl⟩) hP hD hS hA [0, 1, 2] [3, 4, 5] rfl rfl (by decide +kernel) (by decide +kernel) (fun r_13 u_14 H locs hw_r_13 hP hD hS => ?_)
                refine W.widen (k := 0) (n := 0) (Nat.le_of_ble_eq_true rfl) (Nat.le_of_ble_eq_true rfl) ?_
                have hP : va_P D vwCl [(mon, .inl (cs 0, 16, .inl (upd (fun _ => 0) 0 (-1 : Int32)))), (mot, .inl (cs 0, 16, .inl (upd (fun _ => 0) 0 (-1 : Int32)))), (man, .inl (cs 0, 16, .inl (upd (fun _ => 0) 0 (nI 0)))), (hm, .inr (12, [.ref ms, .ref mkp, .int (nI 0), .ref mtr, .int (nI 4), .int (nI 2), .int (nI 2), .int (nI 3), .int (nI 2), .int (nI 1), .ref mas, .int (nI 0), .int (nI 0), .int (nI 1), .ref mso, .ref mon, .ref mot, .ref man, .int (nI 0), .int (nI 0), .ref mst, .ref msm, .ref mtb, .ref mti, .ref mfr, .ref mbn, .ref mbs, .ref mde, .int (nI 0), .int (nI 0), .int (nI 0), .int (nI 0), .long 0, .long 0, .ref maa, .ref mab, .ref mba, .ref mbb])), (ms, .inl (cs 0, 288, .inl sfv)), (mso, .inl (cs 0, 16, .inl (upd (fun _ => 0) 0 (nI j))))] H := hP
                have hD : va_D A [(mon, .inl (cs 0, 16, .inl (upd (fun _ => 0) 0 (-1 : Int32)))), (mot, .inl (cs 0, 16, .inl (upd (fun _ => 0) 0 (-1 : Int32)))), (man, .inl (cs 0, 16, .inl (upd (fun _ => 0) 0 (nI 0)))), (hm, .inr (12, [.ref ms, .ref mkp, .int (nI 0), .ref mtr, .int (nI 4), .int (nI 2), .int (nI 2), .int (nI 3), .int (nI 2), .int (nI 1), .ref mas, .int (nI 0), .int (nI 0), .int (nI 1), .ref mso, .ref mon, .ref mot, .ref man, .int (nI 0), .int (nI 0), .ref mst, .ref msm, .ref mtb, .ref mti, .ref mfr, .ref mbn, .ref mbs, .ref mde, .int (nI 0), .int (nI 0), .int (nI 0), .int (nI 0), .long 0, .long 0, .ref maa, .ref mab, .ref mba, .ref mbb])), (ms, .inl (cs 0, 288, .inl sfv)), (mso, .inl (cs 0, 16, .inl (upd (fun _ => 0) 0 (nI j))))] := hD
                refine lv_if_lt (tgt := 231) hx hb dX12_entry_211 (by decide) (fun c_15 => ?_) (fun c_15 => ?_)
                · -- 211 t
                  refine lv_iinc (v := nI (i + 1)) (lv' := [(5, .int (nI (i + 1))), (4, .int (nI 0)), (0, .ref hm), (1, .int (nI j)), (2, .int (-1 : Int32)), (3, .int (-1 : Int32))]) hx hb dX12_entry_231 hl (k := 0) rfl (nI_add i 1) (by decide) rfl (fun ls hl => ?_)
                  refine lv_goto (tgt := 162) hx hb dX12_entry_234 (by decide) ?_
                  exact ih_loop_10 (i + 1) sfv (by omega) (by omega) H locs ls (xP_map hP [3, 4, 5, 0, 1, 2] rfl) (hD.sub [3, 4, 5, 0, 1, 2] (by decide +kernel) rfl) hS (lv_sub hl [0, 1, 2, 3, 4, 5] rfl)
                · -- 211 f
                  refine lv_aload_n hx hb dX12_entry_214 rfl (lv_at hl 2 rfl) ?_
                  refine xget C hP 3 rfl rfl zuX12 0 (by decide) zw5_213 rfl dX12_entry_215 ?_
                  refine lv_bipush (v := nI 88) hx hb dX12_entry_218 (by decide) ?_
                  refine lv_iload hx hb dX12_entry_220 (lv_at hl 0 rfl) ?_
                  refine lv_iadd hx hb dX12_entry_222 ?_
                  refine lv_topi (nm_r (e' := nI (88 + i)) (nI_add _ _) ?_)
                  refine lv_dup2_11 hx hb dX12_entry_223 rfl rfl ?_
                  refine xiald C hP 4 rfl (88 + i) rfl (by omega) (by decide) dX12_entry_224 ?_
                  refine lv_iconst (v := nI 1) hx hb dX12_entry_225 (by decide) ?_
                  refine lv_iload hx hb dX12_entry_226 (lv_at hl 1 rfl) ?_
                  refine lv_ishl hx hb dX12_entry_228 ?_
                  refine lv_topi (nm_r (e' := nI 1) (by decide) ?_)
                  refine lv_ior hx hb dX12_entry_229 ?_
                  refine xiast C hP hD hS 4 rfl (88 + i) rfl (by omega) (by decide) dX12_entry_230 (fun H locs hP hD hS => ?_)
                  have hP : va_P D vwCl [(mon, .inl (cs 0, 16, .inl (upd (fun _ => 0) 0 (-1 : Int32)))), (mot, .inl (cs 0, 16, .inl (upd (fun _ => 0) 0 (-1 : Int32)))), (man, .inl (cs 0, 16, .inl (upd (fun _ => 0) 0 (nI 0)))), (hm, .inr (12, [.ref ms, .ref mkp, .int (nI 0), .ref mtr, .int (nI 4), .int (nI 2), .int (nI 2), .int (nI 3), .int (nI 2), .int (nI 1), .ref mas, .int (nI 0), .int (nI 0), .int (nI 1), .ref mso, .ref mon, .ref mot, .ref man, .int (nI 0), .int (nI 0), .ref mst, .ref msm, .ref mtb, .ref mti, .ref mfr, .ref mbn, .ref mbs, .ref mde, .int (nI 0), .int (nI 0), .int (nI 0), .int (nI 0), .long 0, .long 0, .ref maa, .ref mab, .ref mba, .ref mbb])), (ms, .inl (cs 0, 288, .inl (upd sfv (88 + i) ((sfv (88 + i)) ||| (nI 1))))), (mso, .inl (cs 0, 16, .inl (upd (fun _ => 0) 0 (nI j))))] H := hP
                  have hD : va_D A [(mon, .inl (cs 0, 16, .inl (upd (fun _ => 0) 0 (-1 : Int32)))), (mot, .inl (cs 0, 16, .inl (upd (fun _ => 0) 0 (-1 : Int32)))), (man, .inl (cs 0, 16, .inl (upd (fun _ => 0) 0 (nI 0)))), (hm, .inr (12, [.ref ms, .ref mkp, .int (nI 0), .ref mtr, .int (nI 4), .int (nI 2), .int (nI 2), .int (nI 3), .int (nI 2), .int (nI 1), .ref mas, .int (nI 0), .int (nI 0), .int (nI 1), .ref mso, .ref mon, .ref mot, .ref man, .int (nI 0), .int (nI 0), .ref mst, .ref msm, .ref mtb, .ref mti, .ref mfr, .ref mbn, .ref mbs, .ref mde, .int (nI 0), .int (nI 0), .int (nI 0), .int (nI 0), .long 0, .long 0, .ref maa, .ref mab, .ref mba, .ref mbb])), (ms, .inl (cs 0, 288, .inl (upd sfv (88 + i) ((sfv (88 + i)) ||| (nI 1))))), (mso, .inl (cs 0, 16, .inl (upd (fun _ => 0) 0 (nI j))))] := hD
                  refine lv_iinc (v := nI (i + 1)) (lv' := [(5, .int (nI (i + 1))), (4, .int (nI 0)), (0, .ref hm), (1, .int (nI j)), (2, .int (-1 : Int32)), (3, .int (-1 : Int32))]) hx hb dX12_entry_231 hl (k := 0) rfl (nI_add i 1) (by decide) rfl (fun ls hl => ?_)
                  refine lv_goto (tgt := 162) hx hb dX12_entry_234 (by decide) ?_
                  exact ih_loop_10 (i + 1) (upd sfv (88 + i) ((sfv (88 + i)) ||| (nI 1))) (by omega) (by omega) H locs ls (xP_map hP [3, 4, 5, 0, 1, 2] rfl) (hD.sub [3, 4, 5, 0, 1, 2] (by decide +kernel) rfl) hS (lv_sub hl [0, 1, 2, 3, 4, 5] rfl)
              · -- 184 f
                refine lv_aload_n hx hb dX12_entry_187 rfl (lv_at hl 2 rfl) ?_
                refine xget C hP 0 rfl rfl zuX12 0 (by decide) zw5_213 rfl dX12_entry_188 ?_
                refine lv_bipush (v := nI 96) hx hb dX12_entry_191 (by decide) ?_
                refine lv_bipush (v := nI 8) hx hb dX12_entry_193 (by decide) ?_
                refine lv_iload hx hb dX12_entry_195 (lv_at hl 0 rfl) ?_
                refine lv_imul hx hb dX12_entry_197 ?_
                refine lv_topi (nm_r (e' := nI (8 * i)) (pk_mul _ _) ?_)
                refine lv_iadd hx hb dX12_entry_198 ?_
                refine lv_topi (nm_r (e' := nI (96 + (8 * i))) (nI_add _ _) ?_)
                refine lv_iload_n hx hb dX12_entry_199 rfl (lv_at hl 3 rfl) ?_
                refine lv_iadd hx hb dX12_entry_200 ?_
                refine lv_topi (nm_r (e' := nI ((96 + (8 * i)) + j)) (nI_add _ _) ?_)
                refine lv_iload hx hb dX12_entry_201 (lv_at hl 1 rfl) ?_
                refine xiast C hP hD hS 1 rfl ((96 + (8 * i)) + j) rfl (by omega) (by decide) dX12_entry_203 (fun H locs hP hD hS => ?_)
                have hP : va_P D vwCl [(hm, .inr (12, [.ref ms, .ref mkp, .int (nI 0), .ref mtr, .int (nI 4), .int (nI 2), .int (nI 2), .int (nI 3), .int (nI 2), .int (nI 1), .ref mas, .int (nI 0), .int (nI 0), .int (nI 1), .ref mso, .ref mon, .ref mot, .ref man, .int (nI 0), .int (nI 0), .ref mst, .ref msm, .ref mtb, .ref mti, .ref mfr, .ref mbn, .ref mbs, .ref mde, .int (nI 0), .int (nI 0), .int (nI 0), .int (nI 0), .long 0, .long 0, .ref maa, .ref mab, .ref mba, .ref mbb])), (ms, .inl (cs 0, 288, .inl (upd sfv ((96 + (8 * i)) + j) (nI 0)))), (mso, .inl (cs 0, 16, .inl (upd (fun _ => 0) 0 (nI j)))), (mon, .inl (cs 0, 16, .inl (upd (fun _ => 0) 0 (-1 : Int32)))), (mot, .inl (cs 0, 16, .inl (upd (fun _ => 0) 0 (-1 : Int32)))), (man, .inl (cs 0, 16, .inl (upd (fun _ => 0) 0 (nI 0))))] H := hP
                have hD : va_D A [(hm, .inr (12, [.ref ms, .ref mkp, .int (nI 0), .ref mtr, .int (nI 4), .int (nI 2), .int (nI 2), .int (nI 3), .int (nI 2), .int (nI 1), .ref mas, .int (nI 0), .int (nI 0), .int (nI 1), .ref mso, .ref mon, .ref mot, .ref man, .int (nI 0), .int (nI 0), .ref mst, .ref msm, .ref mtb, .ref mti, .ref mfr, .ref mbn, .ref mbs, .ref mde, .int (nI 0), .int (nI 0), .int (nI 0), .int (nI 0), .long 0, .long 0, .ref maa, .ref mab, .ref mba, .ref mbb])), (ms, .inl (cs 0, 288, .inl (upd sfv ((96 + (8 * i)) + j) (nI 0)))), (mso, .inl (cs 0, 16, .inl (upd (fun _ => 0) 0 (nI j)))), (mon, .inl (cs 0, 16, .inl (upd (fun _ => 0) 0 (-1 : Int32)))), (mot, .inl (cs 0, 16, .inl (upd (fun _ => 0) 0 (-1 : Int32)))), (man, .inl (cs 0, 16, .inl (upd (fun _ => 0) 0 (nI 0))))] := hD
                refine lv_aload_n hx hb dX12_entry_204 rfl (lv_at hl 2 rfl) ?_
                refine lv_iload hx hb dX12_entry_205 (lv_at hl 0 rfl) ?_
                refine lv_iload_n hx hb dX12_entry_207 rfl (lv_at hl 3 rfl) ?_
                refine xi (wr := [(mon, .inl (cs 0, 16, .inl (upd (fun _ => 0) 0 (-1 : Int32)))), (mot, .inl (cs 0, 16, .inl (upd (fun _ => 0) 0 (-1 : Int32)))), (man, .inl (cs 0, 16, .inl (upd (fun _ => 0) 0 (nI 0))))]) (xV (As := [.int (nI i), .int (nI j)]) (rest := []) C (c_X12_acceptedOf_e l D cs hm ms mkp mtr mas mso mon mot man mst msm mtb mti mfr mbn mbs mde maa mab mba mbb i (nI j) (upd sfv ((96 + (8 * i)) + j) (nI 0)) (upd (fun _ => 0) 0 (nI j)) (by omega)) kX12_310 hP hD [0, 1, 2] rfl (by decide +kernel) 0 rfl rfl rfl ⟨Nat.le_of_ble_eq_true rfl, Nat.le_of_ble_eq_true rfl⟩ rfl hl.1 rfl (Nat.le_of_ble_eq_true rfl) dX12_entry_208 ⟨Nat.le_of_ble_eq_true rfl, Nat.le_of_ble_eq_true rfl⟩) hP hD hS hA [0, 1, 2] [3, 4, 5] rfl rfl (by decide +kernel) (by decide +kernel) (fun r_16 u_17 H locs hw_r_16 hP hD hS => ?_)
                refine W.widen (k := 0) (n := 0) (Nat.le_of_ble_eq_true rfl) (Nat.le_of_ble_eq_true rfl) ?_
                have hP : va_P D vwCl [(mon, .inl (cs 0, 16, .inl (upd (fun _ => 0) 0 (-1 : Int32)))), (mot, .inl (cs 0, 16, .inl (upd (fun _ => 0) 0 (-1 : Int32)))), (man, .inl (cs 0, 16, .inl (upd (fun _ => 0) 0 (nI 0)))), (hm, .inr (12, [.ref ms, .ref mkp, .int (nI 0), .ref mtr, .int (nI 4), .int (nI 2), .int (nI 2), .int (nI 3), .int (nI 2), .int (nI 1), .ref mas, .int (nI 0), .int (nI 0), .int (nI 1), .ref mso, .ref mon, .ref mot, .ref man, .int (nI 0), .int (nI 0), .ref mst, .ref msm, .ref mtb, .ref mti, .ref mfr, .ref mbn, .ref mbs, .ref mde, .int (nI 0), .int (nI 0), .int (nI 0), .int (nI 0), .long 0, .long 0, .ref maa, .ref mab, .ref mba, .ref mbb])), (ms, .inl (cs 0, 288, .inl (upd sfv ((96 + (8 * i)) + j) (nI 0)))), (mso, .inl (cs 0, 16, .inl (upd (fun _ => 0) 0 (nI j))))] H := hP
                have hD : va_D A [(mon, .inl (cs 0, 16, .inl (upd (fun _ => 0) 0 (-1 : Int32)))), (mot, .inl (cs 0, 16, .inl (upd (fun _ => 0) 0 (-1 : Int32)))), (man, .inl (cs 0, 16, .inl (upd (fun _ => 0) 0 (nI 0)))), (hm, .inr (12, [.ref ms, .ref mkp, .int (nI 0), .ref mtr, .int (nI 4), .int (nI 2), .int (nI 2), .int (nI 3), .int (nI 2), .int (nI 1), .ref mas, .int (nI 0), .int (nI 0), .int (nI 1), .ref mso, .ref mon, .ref mot, .ref man, .int (nI 0), .int (nI 0), .ref mst, .ref msm, .ref mtb, .ref mti, .ref mfr, .ref mbn, .ref mbs, .ref mde, .int (nI 0), .int (nI 0), .int (nI 0), .int (nI 0), .long 0, .long 0, .ref maa, .ref mab, .ref mba, .ref mbb])), (ms, .inl (cs 0, 288, .inl (upd sfv ((96 + (8 * i)) + j) (nI 0)))), (mso, .inl (cs 0, 16, .inl (upd (fun _ => 0) 0 (nI j))))] := hD
                refine lv_if_lt (tgt := 231) hx hb dX12_entry_211 (by decide) (fun c_18 => ?_) (fun c_18 => ?_)
                · -- 211 t
                  refine lv_iinc (v := nI (i + 1)) (lv' := [(5, .int (nI (i + 1))), (4, .int (nI 0)), (0, .ref hm), (1, .int (nI j)), (2, .int (-1 : Int32)), (3, .int (-1 : Int32))]) hx hb dX12_entry_231 hl (k := 0) rfl (nI_add i 1) (by decide) rfl (fun ls hl => ?_)
                  refine lv_goto (tgt := 162) hx hb dX12_entry_234 (by decide) ?_
                  exact ih_loop_10 (i + 1) (upd sfv ((96 + (8 * i)) + j) (nI 0)) (by omega) (by omega) H locs ls (xP_map hP [3, 4, 5, 0, 1, 2] rfl) (hD.sub [3, 4, 5, 0, 1, 2] (by decide +kernel) rfl) hS (lv_sub hl [0, 1, 2, 3, 4, 5] rfl)
                · -- 211 f
                  refine lv_aload_n hx hb dX12_entry_214 rfl (lv_at hl 2 rfl) ?_
                  refine xget C hP 3 rfl rfl zuX12 0 (by decide) zw5_213 rfl dX12_entry_215 ?_
                  refine lv_bipush (v := nI 88) hx hb dX12_entry_218 (by decide) ?_
                  refine lv_iload hx hb dX12_entry_220 (lv_at hl 0 rfl) ?_
                  refine lv_iadd hx hb dX12_entry_222 ?_
                  refine lv_topi (nm_r (e' := nI (88 + i)) (nI_add _ _) ?_)
                  refine lv_dup2_11 hx hb dX12_entry_223 rfl rfl ?_
                  refine xiald C hP 4 rfl (88 + i) rfl (by omega) (by decide) dX12_entry_224 ?_
                  refine lv_iconst (v := nI 1) hx hb dX12_entry_225 (by decide) ?_
                  refine lv_iload hx hb dX12_entry_226 (lv_at hl 1 rfl) ?_
                  refine lv_ishl hx hb dX12_entry_228 ?_
                  refine lv_topi (nm_r (e' := nI 1) (by decide) ?_)
                  refine lv_ior hx hb dX12_entry_229 ?_
                  refine xiast C hP hD hS 4 rfl (88 + i) rfl (by omega) (by decide) dX12_entry_230 (fun H locs hP hD hS => ?_)
                  have hP : va_P D vwCl [(mon, .inl (cs 0, 16, .inl (upd (fun _ => 0) 0 (-1 : Int32)))), (mot, .inl (cs 0, 16, .inl (upd (fun _ => 0) 0 (-1 : Int32)))), (man, .inl (cs 0, 16, .inl (upd (fun _ => 0) 0 (nI 0)))), (hm, .inr (12, [.ref ms, .ref mkp, .int (nI 0), .ref mtr, .int (nI 4), .int (nI 2), .int (nI 2), .int (nI 3), .int (nI 2), .int (nI 1), .ref mas, .int (nI 0), .int (nI 0), .int (nI 1), .ref mso, .ref mon, .ref mot, .ref man, .int (nI 0), .int (nI 0), .ref mst, .ref msm, .ref mtb, .ref mti, .ref mfr, .ref mbn, .ref mbs, .ref mde, .int (nI 0), .int (nI 0), .int (nI 0), .int (nI 0), .long 0, .long 0, .ref maa, .ref mab, .ref mba, .ref mbb])), (ms, .inl (cs 0, 288, .inl (upd (upd sfv ((96 + (8 * i)) + j) (nI 0)) (88 + i) (((upd sfv ((96 + (8 * i)) + j) (nI 0)) (88 + i)) ||| (nI 1))))), (mso, .inl (cs 0, 16, .inl (upd (fun _ => 0) 0 (nI j))))] H := hP
                  have hD : va_D A [(mon, .inl (cs 0, 16, .inl (upd (fun _ => 0) 0 (-1 : Int32)))), (mot, .inl (cs 0, 16, .inl (upd (fun _ => 0) 0 (-1 : Int32)))), (man, .inl (cs 0, 16, .inl (upd (fun _ => 0) 0 (nI 0)))), (hm, .inr (12, [.ref ms, .ref mkp, .int (nI 0), .ref mtr, .int (nI 4), .int (nI 2), .int (nI 2), .int (nI 3), .int (nI 2), .int (nI 1), .ref mas, .int (nI 0), .int (nI 0), .int (nI 1), .ref mso, .ref mon, .ref mot, .ref man, .int (nI 0), .int (nI 0), .ref mst, .ref msm, .ref mtb, .ref mti, .ref mfr, .ref mbn, .ref mbs, .ref mde, .int (nI 0), .int (nI 0), .int (nI 0), .int (nI 0), .long 0, .long 0, .ref maa, .ref mab, .ref mba, .ref mbb])), (ms, .inl (cs 0, 288, .inl (upd (upd sfv ((96 + (8 * i)) + j) (nI 0)) (88 + i) (((upd sfv ((96 + (8 * i)) + j) (nI 0)) (88 + i)) ||| (nI 1))))), (mso, .inl (cs 0, 16, .inl (upd (fun _ => 0) 0 (nI j))))] := hD
                  refine lv_iinc (v := nI (i + 1)) (lv' := [(5, .int (nI (i + 1))), (4, .int (nI 0)), (0, .ref hm), (1, .int (nI j)), (2, .int (-1 : Int32)), (3, .int (-1 : Int32))]) hx hb dX12_entry_231 hl (k := 0) rfl (nI_add i 1) (by decide) rfl (fun ls hl => ?_)
                  refine lv_goto (tgt := 162) hx hb dX12_entry_234 (by decide) ?_
                  exact ih_loop_10 (i + 1) (upd (upd sfv ((96 + (8 * i)) + j) (nI 0)) (88 + i) (((upd sfv ((96 + (8 * i)) + j) (nI 0)) (88 + i)) ||| (nI 1))) (by omega) (by omega) H locs ls (xP_map hP [3, 4, 5, 0, 1, 2] rfl) (hD.sub [3, 4, 5, 0, 1, 2] (by decide +kernel) rfl) hS (lv_sub hl [0, 1, 2, 3, 4, 5] rfl)
        exact loop_10 _ 0 freshS (by omega) (Nat.lt_succ_self _) H locs ls hP hD hS (lv_sub hl [0, 1, 2, 3, 4, 5] rfl)
