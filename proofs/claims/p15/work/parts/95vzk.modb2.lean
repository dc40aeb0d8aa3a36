set_option maxHeartbeats 4000000 in
set_option maxRecDepth 100000 in
theorem c_X12_marks_b (l : Launch) (D : va_G) (cs : Nat → ClassId) (hm ms mkp mtr mas mso mon mot man mst msm mtb mti mfr mbn mbs mde maa mab mba mbb : Nat) (n k al be km en : Nat) (ea pr nq po th xd sF sN sS ig : Int32) (xa xb : Int64) (f : Nat → Int32) (a k9 : Nat) (x : Int32) (sof anf : Nat → Int32) (hen : en ≤ 16) (hso : inP 16 8 sof) (ha : a < 8) (hk9 : k9 < 16) (hpf : ∃ p, p < 16 ∧ f (96 + (8 * a + sT sof k9)) = nI p) : xMet l D cs yX12_marks cX12_marks 5 none ({ frames := 3, cells := 0, slots := 0, locals := 66 } : Room) [.ref hm, .int (nI a), .int (nI k9), .int x] [(hm, .inr (12, [.ref ms, .ref mkp, .int (nI km), .ref mtr, .int (nI n), .int (nI k), .int (nI al), .int (nI be), .int ea, .int pr, .ref mas, .int nq, .int po, .int (nI en), .ref mso, .ref mon, .ref mot, .ref man, .int th, .int xd, .ref mst, .ref msm, .ref mtb, .ref mti, .ref mfr, .ref mbn, .ref mbs, .ref mde, .int sF, .int sN, .int sS, .int ig, .long xa, .long xb, .ref maa, .ref mab, .ref mba, .ref mbb])), (ms, .inl (cs 0, 288, .inl f)), (mso, .inl (cs 0, 16, .inl sof)), (man, .inl (cs 0, 16, .inl anf))] (xQv D (fun (fz : (Nat → Int32)) => mrkM en sof anf a k9 x f fz) (fun (fz : (Nat → Int32)) => [(hm, .inr (12, [.ref ms, .ref mkp, .int (nI km), .ref mtr, .int (nI n), .int (nI k), .int (nI al), .int (nI be), .int ea, .int pr, .ref mas, .int nq, .int po, .int (nI en), .ref mso, .ref mon, .ref mot, .ref man, .int th, .int xd, .ref mst, .ref msm, .ref mtb, .ref mti, .ref mfr, .ref mbn, .ref mbs, .ref mde, .int sF, .int sN, .int sS, .int ig, .long xa, .long xb, .ref maa, .ref mab, .ref mba, .ref mbb])), (ms, .inl (cs 0, 288, .inl fz)), (mso, .inl (cs 0, 16, .inl sof)), (man, .inl (cs 0, 16, .inl anf))])) := by
  refine xMet.intro (by decide) (Nat.le_of_ble_eq_true rfl) ?_
  intro p e s m args below meth c A ls C hP hD hS hl
  have hx := C.1
  have hb := C.2.1
  have hz := C.2.2.2.2.1
  have hown := C.2.2.2.1
  have hA := C.2.2.2.2.2.2.2.2.2
  have hAO := C.2.2.2.2.2.2.2.2.1.2.2
  replace hl : lv_has ls 5 [(0, .ref hm), (1, .int (nI a)), (2, .int (nI k9)), (3, .int x)] := hl
  obtain ⟨H, hH⟩ : ∃ H, H = s.heap := ⟨_, rfl⟩
  replace hP : va_P D vwCl [(hm, .inr (12, [.ref ms, .ref mkp, .int (nI km), .ref mtr, .int (nI n), .int (nI k), .int (nI al), .int (nI be), .int ea, .int pr, .ref mas, .int nq, .int po, .int (nI en), .ref mso, .ref mon, .ref mot, .ref man, .int th, .int xd, .ref mst, .ref msm, .ref mtb, .ref mti, .ref mfr, .ref mbn, .ref mbs, .ref mde, .int sF, .int sN, .int sS, .int ig, .long xa, .long xb, .ref maa, .ref mab, .ref mba, .ref mbb])), (ms, .inl (cs 0, 288, .inl f)), (mso, .inl (cs 0, 16, .inl sof)), (man, .inl (cs 0, 16, .inl anf))] H := by rw [hH]; exact hP
  replace hS : va_S A s.heap H [] := by rw [hH]; exact hS
  obtain ⟨locs, hlocs⟩ : ∃ z : List Loc, z = [] := ⟨_, rfl⟩
  rw [← hlocs] at hS
  suffices hW : W p l e ({ frames := 3, cells := 0, slots := 0, locals := 66 } : Room) s m args below meth c H locs 0 0 (MQ below ((xQv D (fun (fz : (Nat → Int32)) => mrkM en sof anf a k9 x f fz) (fun (fz : (Nat → Int32)) => [(hm, .inr (12, [.ref ms, .ref mkp, .int (nI km), .ref mtr, .int (nI n), .int (nI k), .int (nI al), .int (nI be), .int ea, .int pr, .ref mas, .int nq, .int po, .int (nI en), .ref mso, .ref mon, .ref mot, .ref man, .int th, .int xd, .ref mst, .ref msm, .ref mtb, .ref mti, .ref mfr, .ref mbn, .ref mbs, .ref mde, .int sF, .int sN, .int sS, .int ig, .long xa, .long xb, .ref maa, .ref mab, .ref mba, .ref mbb])), (ms, .inl (cs 0, 288, .inl fz)), (mso, .inl (cs 0, 16, .inl sof)), (man, .inl (cs 0, 16, .inl anf))])) A) args s 0 0 A) (F0 m 0 ls []) by rw [hlocs, hH] at hW; exact hW
  clear hH hlocs
  refine lv_bipush (v := nI 8) hx hb dX12_marks_0 (by decide) ?_
  refine lv_iload_n hx hb dX12_marks_2 rfl (lv_at hl 1 rfl) ?_
  refine lv_imul hx hb dX12_marks_3 ?_
  refine lv_topi (nm_r (e' := nI (8 * a)) (pk_mul _ _) ?_)
  refine lv_aload_n hx hb dX12_marks_4 rfl (lv_at hl 0 rfl) ?_
  refine xget C hP 0 rfl rfl zuX12 14 (by decide) zw5_227 rfl dX12_marks_5 ?_
  refine lv_iload_n hx hb dX12_marks_8 rfl (lv_at hl 2 rfl) ?_
  refine xiald C hP 2 rfl k9 rfl (by omega) (by decide) dX12_marks_9 ?_
  refine lv_topi (nm_r (e' := nI (sT sof k9)) ((sT_eq hso (by omega)).2) ?_)
  have h8t := (sT_eq hso hk9).1
  refine lv_iadd hx hb dX12_marks_10 ?_
  refine lv_topi (nm_r (e' := nI ((8 * a) + (sT sof k9))) (nI_add _ _) ?_)
  refine lv_istore (lv' := [(4, .int (nI ((8 * a) + (sT sof k9)))), (0, .ref hm), (1, .int (nI a)), (2, .int (nI k9)), (3, .int x)]) hx hb dX12_marks_11 hl (by decide) rfl ?_
  clear hl
  try clear ls
  intro ls hl
  refine lv_iload_n hx hb dX12_marks_13 rfl (lv_at hl 4 rfl) ?_
  refine lv_if_ne (tgt := 30) hx hb dX12_marks_14 (by decide) (fun c_1 => ?_) (fun c_1 => ?_)
  · -- 14 t
    refine lv_aload_n hx hb dX12_marks_30 rfl (lv_at hl 1 rfl) ?_
    refine lv_iload_n hx hb dX12_marks_31 rfl (lv_at hl 2 rfl) ?_
    refine lv_iload_n hx hb dX12_marks_32 rfl (lv_at hl 3 rfl) ?_
    refine xi (wr := [(mso, .inl (cs 0, 16, .inl sof))]) (xV (As := [.int (nI a), .int (nI k9)]) (rest := []) C (c_X12_confOf_f l D cs hm ms mkp mtr mas mso mon mot man mst msm mtb mti mfr mbn mbs mde maa mab mba mbb n k al be km en ea pr nq po th xd sF sN sS ig xa xb f a k9 anf hen ha) kX12_336 hP hD [0, 1, 3] rfl (by decide) 0 rfl rfl rfl ⟨Nat.le_of_ble_eq_true rfl, Nat.le_of_ble_eq_true rfl⟩ rfl hl.1 rfl (Nat.le_of_ble_eq_true rfl) dX12_marks_33 ⟨Nat.le_of_ble_eq_true rfl, Nat.le_of_ble_eq_true rfl⟩) hP hD hS hA [0, 1, 3] [2] rfl rfl (by decide) (by decide) ?_
    clear hP hD hS
    try clear locs
    try clear H
    intro r_2 u_3 H locs hw_r_2 hP hD hS
    have hw_r_2 : ∃ c, c ≤ 16 ∧ r_2 = nI c ∧ cnfM en anf f a k9 c := hw_r_2
    refine W.widen (k := 0) (n := 0) (Nat.le_of_ble_eq_true rfl) (Nat.le_of_ble_eq_true rfl) ?_
    replace hP : va_P D vwCl [(mso, .inl (cs 0, 16, .inl sof)), (hm, .inr (12, [.ref ms, .ref mkp, .int (nI km), .ref mtr, .int (nI n), .int (nI k), .int (nI al), .int (nI be), .int ea, .int pr, .ref mas, .int nq, .int po, .int (nI en), .ref mso, .ref mon, .ref mot, .ref man, .int th, .int xd, .ref mst, .ref msm, .ref mtb, .ref mti, .ref mfr, .ref mbn, .ref mbs, .ref mde, .int sF, .int sN, .int sS, .int ig, .long xa, .long xb, .ref maa, .ref mab, .ref mba, .ref mbb])), (ms, .inl (cs 0, 288, .inl f)), (man, .inl (cs 0, 16, .inl anf))] H := hP
    replace hD : va_D A [(mso, .inl (cs 0, 16, .inl sof)), (hm, .inr (12, [.ref ms, .ref mkp, .int (nI km), .ref mtr, .int (nI n), .int (nI k), .int (nI al), .int (nI be), .int ea, .int pr, .ref mas, .int nq, .int po, .int (nI en), .ref mso, .ref mon, .ref mot, .ref man, .int th, .int xd, .ref mst, .ref msm, .ref mtb, .ref mti, .ref mfr, .ref mbn, .ref mbs, .ref mde, .int sF, .int sN, .int sS, .int ig, .long xa, .long xb, .ref maa, .ref mab, .ref mba, .ref mbb])), (ms, .inl (cs 0, 288, .inl f)), (man, .inl (cs 0, 16, .inl anf))] := hD
    obtain ⟨c_a, hc_a, rfl, hcf_a⟩ := hw_r_2
    replace hP : va_P D vwCl [(mso, .inl (cs 0, 16, .inl sof)), (hm, .inr (12, [.ref ms, .ref mkp, .int (nI km), .ref mtr, .int (nI n), .int (nI k), .int (nI al), .int (nI be), .int ea, .int pr, .ref mas, .int nq, .int po, .int (nI en), .ref mso, .ref mon, .ref mot, .ref man, .int th, .int xd, .ref mst, .ref msm, .ref mtb, .ref mti, .ref mfr, .ref mbn, .ref mbs, .ref mde, .int sF, .int sN, .int sS, .int ig, .long xa, .long xb, .ref maa, .ref mab, .ref mba, .ref mbb])), (ms, .inl (cs 0, 288, .inl f)), (man, .inl (cs 0, 16, .inl anf))] H := hP
    replace hD : va_D A [(mso, .inl (cs 0, 16, .inl sof)), (hm, .inr (12, [.ref ms, .ref mkp, .int (nI km), .ref mtr, .int (nI n), .int (nI k), .int (nI al), .int (nI be), .int ea, .int pr, .ref mas, .int nq, .int po, .int (nI en), .ref mso, .ref mon, .ref mot, .ref man, .int th, .int xd, .ref mst, .ref msm, .ref mtb, .ref mti, .ref mfr, .ref mbn, .ref mbs, .ref mde, .int sF, .int sN, .int sS, .int ig, .long xa, .long xb, .ref maa, .ref mab, .ref mba, .ref mbb])), (ms, .inl (cs 0, 288, .inl f)), (man, .inl (cs 0, 16, .inl anf))] := hD
    refine lv_aload_n hx hb dX12_marks_36 rfl (lv_at hl 1 rfl) ?_
    refine lv_iload_n hx hb dX12_marks_37 rfl (lv_at hl 2 rfl) ?_
    refine lv_aload_n hx hb dX12_marks_38 rfl (lv_at hl 1 rfl) ?_
    refine xget C hP 1 rfl rfl zuX12 0 (by decide) zw5_213 rfl dX12_marks_39 ?_
    refine lv_bipush (v := nI 96) hx hb dX12_marks_42 (by decide) ?_
    refine lv_iload hx hb dX12_marks_44 (lv_at hl 0 rfl) ?_
    obtain ⟨p9, hp9, e_p9⟩ := hpf
    refine lv_iadd hx hb dX12_marks_46 ?_
    refine lv_topi (nm_r (e' := nI (96 + ((8 * a) + (sT sof k9)))) (nI_add _ _) ?_)
    refine xiald C hP 2 rfl (96 + ((8 * a) + (sT sof k9))) rfl (by omega) (by decide) dX12_marks_47 ?_
    refine lv_topi (nm_r (e' := nI p9) e_p9 ?_)
    refine xi (wr := [(mso, .inl (cs 0, 16, .inl sof))]) (xV (As := [.int (nI a), .int (nI p9)]) (rest := [.int (nI c_a)]) C (c_X12_confOf_f l D cs hm ms mkp mtr mas mso mon mot man mst msm mtb mti mfr mbn mbs mde maa mab mba mbb n k al be km en ea pr nq po th xd sF sN sS ig xa xb f a p9 anf hen ha) kX12_336 hP hD [1, 2, 3] rfl (by decide) 0 rfl rfl rfl ⟨Nat.le_of_ble_eq_true rfl, Nat.le_of_ble_eq_true rfl⟩ rfl hl.1 rfl (Nat.le_of_ble_eq_true rfl) dX12_marks_48 ⟨Nat.le_of_ble_eq_true rfl, Nat.le_of_ble_eq_true rfl⟩) hP hD hS hA [1, 2, 3] [0] rfl rfl (by decide) (by decide) ?_
    clear hP hD hS
    try clear locs
    try clear H
    intro r_4 u_5 H locs hw_r_4 hP hD hS
    have hw_r_4 : ∃ c, c ≤ 16 ∧ r_4 = nI c ∧ cnfM en anf f a p9 c := hw_r_4
    refine W.widen (k := 0) (n := 0) (Nat.le_of_ble_eq_true rfl) (Nat.le_of_ble_eq_true rfl) ?_
    replace hP : va_P D vwCl [(mso, .inl (cs 0, 16, .inl sof)), (hm, .inr (12, [.ref ms, .ref mkp, .int (nI km), .ref mtr, .int (nI n), .int (nI k), .int (nI al), .int (nI be), .int ea, .int pr, .ref mas, .int nq, .int po, .int (nI en), .ref mso, .ref mon, .ref mot, .ref man, .int th, .int xd, .ref mst, .ref msm, .ref mtb, .ref mti, .ref mfr, .ref mbn, .ref mbs, .ref mde, .int sF, .int sN, .int sS, .int ig, .long xa, .long xb, .ref maa, .ref mab, .ref mba, .ref mbb])), (ms, .inl (cs 0, 288, .inl f)), (man, .inl (cs 0, 16, .inl anf))] H := hP
    replace hD : va_D A [(mso, .inl (cs 0, 16, .inl sof)), (hm, .inr (12, [.ref ms, .ref mkp, .int (nI km), .ref mtr, .int (nI n), .int (nI k), .int (nI al), .int (nI be), .int ea, .int pr, .ref mas, .int nq, .int po, .int (nI en), .ref mso, .ref mon, .ref mot, .ref man, .int th, .int xd, .ref mst, .ref msm, .ref mtb, .ref mti, .ref mfr, .ref mbn, .ref mbs, .ref mde, .int sF, .int sN, .int sS, .int ig, .long xa, .long xb, .ref maa, .ref mab, .ref mba, .ref mbb])), (ms, .inl (cs 0, 288, .inl f)), (man, .inl (cs 0, 16, .inl anf))] := hD
    obtain ⟨c_b, hc_b, rfl, hcf_b⟩ := hw_r_4
    replace hP : va_P D vwCl [(mso, .inl (cs 0, 16, .inl sof)), (hm, .inr (12, [.ref ms, .ref mkp, .int (nI km), .ref mtr, .int (nI n), .int (nI k), .int (nI al), .int (nI be), .int ea, .int pr, .ref mas, .int nq, .int po, .int (nI en), .ref mso, .ref mon, .ref mot, .ref man, .int th, .int xd, .ref mst, .ref msm, .ref mtb, .ref mti, .ref mfr, .ref mbn, .ref mbs, .ref mde, .int sF, .int sN, .int sS, .int ig, .long xa, .long xb, .ref maa, .ref mab, .ref mba, .ref mbb])), (ms, .inl (cs 0, 288, .inl f)), (man, .inl (cs 0, 16, .inl anf))] H := hP
    replace hD : va_D A [(mso, .inl (cs 0, 16, .inl sof)), (hm, .inr (12, [.ref ms, .ref mkp, .int (nI km), .ref mtr, .int (nI n), .int (nI k), .int (nI al), .int (nI be), .int ea, .int pr, .ref mas, .int nq, .int po, .int (nI en), .ref mso, .ref mon, .ref mot, .ref man, .int th, .int xd, .ref mst, .ref msm, .ref mtb, .ref mti, .ref mfr, .ref mbn, .ref mbs, .ref mde, .int sF, .int sN, .int sS, .int ig, .long xa, .long xb, .ref maa, .ref mab, .ref mba, .ref mbb])), (ms, .inl (cs 0, 288, .inl f)), (man, .inl (cs 0, 16, .inl anf))] := hD
    refine lv_icmp_le (tgt := 65) hx hb dX12_marks_51 (by decide) (fun c_6 => ?_) (fun c_6 => ?_)
    · -- 51 t
      have fc_6 : c_a ≤ c_b := nf_le (by omega) (by omega) c_6
      refine lv_aload_n hx hb dX12_marks_65 rfl (lv_at hl 1 rfl) ?_
      refine xget C hP 1 rfl rfl zuX12 0 (by decide) zw5_213 rfl dX12_marks_66 ?_
      refine lv_sipush (v := nI 160) hx hb dX12_marks_69 (by decide) ?_
      refine lv_iload hx hb dX12_marks_72 (lv_at hl 0 rfl) ?_
      refine lv_iadd hx hb dX12_marks_74 ?_
      refine lv_topi (nm_r (e' := nI (160 + ((8 * a) + (sT sof k9)))) (nI_add _ _) ?_)
      refine xiald C hP 2 rfl (160 + ((8 * a) + (sT sof k9))) rfl (by omega) (by decide) dX12_marks_75 ?_
      refine lv_iload_n hx hb dX12_marks_76 rfl (lv_at hl 3 rfl) ?_
      refine lv_icmp_ne (tgt := 98) hx hb dX12_marks_77 (by decide) (fun c_7 => ?_) (fun c_7 => ?_)
      · -- 77 t
        refine lv_aload_n hx hb dX12_marks_98 rfl (lv_at hl 1 rfl) ?_
        refine xget C hP 1 rfl rfl zuX12 0 (by decide) zw5_213 rfl dX12_marks_99 ?_
        refine lv_sipush (v := nI 160) hx hb dX12_marks_102 (by decide) ?_
        refine lv_iload hx hb dX12_marks_105 (lv_at hl 0 rfl) ?_
        refine lv_iadd hx hb dX12_marks_107 ?_
        refine lv_topi (nm_r (e' := nI (160 + ((8 * a) + (sT sof k9)))) (nI_add _ _) ?_)
        refine lv_iload_n hx hb dX12_marks_108 rfl (lv_at hl 3 rfl) ?_
        refine xiast C hP hD hS 2 rfl (160 + ((8 * a) + (sT sof k9))) rfl (by omega) (by decide) dX12_marks_109 ?_
        clear hP hD hS
        try clear locs
        try clear H
        intro H locs hP hD hS
        replace hP : va_P D vwCl [(mso, .inl (cs 0, 16, .inl sof)), (hm, .inr (12, [.ref ms, .ref mkp, .int (nI km), .ref mtr, .int (nI n), .int (nI k), .int (nI al), .int (nI be), .int ea, .int pr, .ref mas, .int nq, .int po, .int (nI en), .ref mso, .ref mon, .ref mot, .ref man, .int th, .int xd, .ref mst, .ref msm, .ref mtb, .ref mti, .ref mfr, .ref mbn, .ref mbs, .ref mde, .int sF, .int sN, .int sS, .int ig, .long xa, .long xb, .ref maa, .ref mab, .ref mba, .ref mbb])), (ms, .inl (cs 0, 288, .inl (upd f (160 + ((8 * a) + (sT sof k9))) (nI k9)))), (man, .inl (cs 0, 16, .inl anf))] H := hP
        replace hD : va_D A [(mso, .inl (cs 0, 16, .inl sof)), (hm, .inr (12, [.ref ms, .ref mkp, .int (nI km), .ref mtr, .int (nI n), .int (nI k), .int (nI al), .int (nI be), .int ea, .int pr, .ref mas, .int nq, .int po, .int (nI en), .ref mso, .ref mon, .ref mot, .ref man, .int th, .int xd, .ref mst, .ref msm, .ref mtb, .ref mti, .ref mfr, .ref mbn, .ref mbs, .ref mde, .int sF, .int sN, .int sS, .int ig, .long xa, .long xb, .ref maa, .ref mab, .ref mba, .ref mbb])), (ms, .inl (cs 0, 288, .inl (upd f (160 + ((8 * a) + (sT sof k9))) (nI k9)))), (man, .inl (cs 0, 16, .inl anf))] := hD
        refine lv_aload_n hx hb dX12_marks_110 rfl (lv_at hl 1 rfl) ?_
        refine xget C hP 1 rfl rfl zuX12 0 (by decide) zw5_213 rfl dX12_marks_111 ?_
        refine lv_sipush (v := nI 224) hx hb dX12_marks_114 (by decide) ?_
        refine lv_iload hx hb dX12_marks_117 (lv_at hl 0 rfl) ?_
        refine lv_iadd hx hb dX12_marks_119 ?_
        refine lv_topi (nm_r (e' := nI (224 + ((8 * a) + (sT sof k9)))) (nI_add _ _) ?_)
        refine lv_iconst (v := nI 1) hx hb dX12_marks_120 (by decide) ?_
        refine xiast C hP hD hS 2 rfl (224 + ((8 * a) + (sT sof k9))) rfl (by omega) (by decide) dX12_marks_121 ?_
        clear hP hD hS
        try clear locs
        try clear H
        intro H locs hP hD hS
        replace hP : va_P D vwCl [(mso, .inl (cs 0, 16, .inl sof)), (hm, .inr (12, [.ref ms, .ref mkp, .int (nI km), .ref mtr, .int (nI n), .int (nI k), .int (nI al), .int (nI be), .int ea, .int pr, .ref mas, .int nq, .int po, .int (nI en), .ref mso, .ref mon, .ref mot, .ref man, .int th, .int xd, .ref mst, .ref msm, .ref mtb, .ref mti, .ref mfr, .ref mbn, .ref mbs, .ref mde, .int sF, .int sN, .int sS, .int ig, .long xa, .long xb, .ref maa, .ref mab, .ref mba, .ref mbb])), (ms, .inl (cs 0, 288, .inl (upd (upd f (160 + ((8 * a) + (sT sof k9))) (nI k9)) (224 + ((8 * a) + (sT sof k9))) (nI 1)))), (man, .inl (cs 0, 16, .inl anf))] H := hP
        replace hD : va_D A [(mso, .inl (cs 0, 16, .inl sof)), (hm, .inr (12, [.ref ms, .ref mkp, .int (nI km), .ref mtr, .int (nI n), .int (nI k), .int (nI al), .int (nI be), .int ea, .int pr, .ref mas, .int nq, .int po, .int (nI en), .ref mso, .ref mon, .ref mot, .ref man, .int th, .int xd, .ref mst, .ref msm, .ref mtb, .ref mti, .ref mfr, .ref mbn, .ref mbs, .ref mde, .int sF, .int sN, .int sS, .int ig, .long xa, .long xb, .ref maa, .ref mab, .ref mba, .ref mbb])), (ms, .inl (cs 0, 288, .inl (upd (upd f (160 + ((8 * a) + (sT sof k9))) (nI k9)) (224 + ((8 * a) + (sT sof k9))) (nI 1)))), (man, .inl (cs 0, 16, .inl anf))] := hD
        exact xretv C (upd (upd f (160 + ((8 * a) + (sT sof k9))) (nI k9)) (224 + ((8 * a) + (sT sof k9))) (nI 1)) (Or.inr ⟨c_1, p9, c_a, c_b, _, hp9, hc_a, hc_b, e_p9, hcf_a, hcf_b, Or.inr ⟨Nat.not_lt.mpr fc_6, rfl⟩, Or.inr ⟨c_7, rfl⟩⟩) (xP_map hP [1, 2, 0, 3] rfl) (hD.sub [1, 2, 0, 3] (by decide) rfl) hS (Nat.le_of_ble_eq_true rfl) (Nat.le_of_ble_eq_true rfl) dX12_marks_122
      · -- 77 f
        refine lv_aload_n hx hb dX12_marks_80 rfl (lv_at hl 1 rfl) ?_
        refine xget C hP 1 rfl rfl zuX12 0 (by decide) zw5_213 rfl dX12_marks_81 ?_
        refine lv_sipush (v := nI 224) hx hb dX12_marks_84 (by decide) ?_
        refine lv_iload hx hb dX12_marks_87 (lv_at hl 0 rfl) ?_
        refine lv_iadd hx hb dX12_marks_89 ?_
        refine lv_topi (nm_r (e' := nI (224 + ((8 * a) + (sT sof k9)))) (nI_add _ _) ?_)
        refine lv_dup2_11 hx hb dX12_marks_90 rfl rfl ?_
        refine xiald C hP 2 rfl (224 + ((8 * a) + (sT sof k9))) rfl (by omega) (by decide) dX12_marks_91 ?_
        refine lv_iconst (v := nI 1) hx hb dX12_marks_92 (by decide) ?_
        refine lv_iadd hx hb dX12_marks_93 ?_
        refine xiast C hP hD hS 2 rfl (224 + ((8 * a) + (sT sof k9))) rfl (by omega) (by decide) dX12_marks_94 ?_
        clear hP hD hS
        try clear locs
        try clear H
        intro H locs hP hD hS
        replace hP : va_P D vwCl [(mso, .inl (cs 0, 16, .inl sof)), (hm, .inr (12, [.ref ms, .ref mkp, .int (nI km), .ref mtr, .int (nI n), .int (nI k), .int (nI al), .int (nI be), .int ea, .int pr, .ref mas, .int nq, .int po, .int (nI en), .ref mso, .ref mon, .ref mot, .ref man, .int th, .int xd, .ref mst, .ref msm, .ref mtb, .ref mti, .ref mfr, .ref mbn, .ref mbs, .ref mde, .int sF, .int sN, .int sS, .int ig, .long xa, .long xb, .ref maa, .ref mab, .ref mba, .ref mbb])), (ms, .inl (cs 0, 288, .inl (upd f (224 + ((8 * a) + (sT sof k9))) ((f (224 + ((8 * a) + (sT sof k9)))) + (nI 1))))), (man, .inl (cs 0, 16, .inl anf))] H := hP
        replace hD : va_D A [(mso, .inl (cs 0, 16, .inl sof)), (hm, .inr (12, [.ref ms, .ref mkp, .int (nI km), .ref mtr, .int (nI n), .int (nI k), .int (nI al), .int (nI be), .int ea, .int pr, .ref mas, .int nq, .int po, .int (nI en), .ref mso, .ref mon, .ref mot, .ref man, .int th, .int xd, .ref mst, .ref msm, .ref mtb, .ref mti, .ref mfr, .ref mbn, .ref mbs, .ref mde, .int sF, .int sN, .int sS, .int ig, .long xa, .long xb, .ref maa, .ref mab, .ref mba, .ref mbb])), (ms, .inl (cs 0, 288, .inl (upd f (224 + ((8 * a) + (sT sof k9))) ((f (224 + ((8 * a) + (sT sof k9)))) + (nI 1))))), (man, .inl (cs 0, 16, .inl anf))] := hD
        refine lv_goto (tgt := 122) hx hb dX12_marks_95 (by decide) ?_
        exact xretv C (upd f (224 + ((8 * a) + (sT sof k9))) ((f (224 + ((8 * a) + (sT sof k9)))) + (nI 1))) (Or.inr ⟨c_1, p9, c_a, c_b, _, hp9, hc_a, hc_b, e_p9, hcf_a, hcf_b, Or.inr ⟨Nat.not_lt.mpr fc_6, rfl⟩, Or.inl ⟨c_7, rfl⟩⟩) (xP_map hP [1, 2, 0, 3] rfl) (hD.sub [1, 2, 0, 3] (by decide) rfl) hS (Nat.le_of_ble_eq_true rfl) (Nat.le_of_ble_eq_true rfl) dX12_marks_122
    · -- 51 f
      have fc_6 : c_b < c_a := nf_nle (by omega) (by omega) c_6
      refine lv_aload_n hx hb dX12_marks_54 rfl (lv_at hl 1 rfl) ?_
      refine xget C hP 1 rfl rfl zuX12 0 (by decide) zw5_213 rfl dX12_marks_55 ?_
      refine lv_bipush (v := nI 96) hx hb dX12_marks_58 (by decide) ?_
      refine lv_iload hx hb dX12_marks_60 (lv_at hl 0 rfl) ?_
      refine lv_iadd hx hb dX12_marks_62 ?_
      refine lv_topi (nm_r (e' := nI (96 + ((8 * a) + (sT sof k9)))) (nI_add _ _) ?_)
      refine lv_iload_n hx hb dX12_marks_63 rfl (lv_at hl 3 rfl) ?_
      refine xiast C hP hD hS 2 rfl (96 + ((8 * a) + (sT sof k9))) rfl (by omega) (by decide) dX12_marks_64 ?_
      clear hP hD hS
      try clear locs
      try clear H
      intro H locs hP hD hS
      replace hP : va_P D vwCl [(mso, .inl (cs 0, 16, .inl sof)), (hm, .inr (12, [.ref ms, .ref mkp, .int (nI km), .ref mtr, .int (nI n), .int (nI k), .int (nI al), .int (nI be), .int ea, .int pr, .ref mas, .int nq, .int po, .int (nI en), .ref mso, .ref mon, .ref mot, .ref man, .int th, .int xd, .ref mst, .ref msm, .ref mtb, .ref mti, .ref mfr, .ref mbn, .ref mbs, .ref mde, .int sF, .int sN, .int sS, .int ig, .long xa, .long xb, .ref maa, .ref mab, .ref mba, .ref mbb])), (ms, .inl (cs 0, 288, .inl (upd f (96 + ((8 * a) + (sT sof k9))) (nI k9)))), (man, .inl (cs 0, 16, .inl anf))] H := hP
      replace hD : va_D A [(mso, .inl (cs 0, 16, .inl sof)), (hm, .inr (12, [.ref ms, .ref mkp, .int (nI km), .ref mtr, .int (nI n), .int (nI k), .int (nI al), .int (nI be), .int ea, .int pr, .ref mas, .int nq, .int po, .int (nI en), .ref mso, .ref mon, .ref mot, .ref man, .int th, .int xd, .ref mst, .ref msm, .ref mtb, .ref mti, .ref mfr, .ref mbn, .ref mbs, .ref mde, .int sF, .int sN, .int sS, .int ig, .long xa, .long xb, .ref maa, .ref mab, .ref mba, .ref mbb])), (ms, .inl (cs 0, 288, .inl (upd f (96 + ((8 * a) + (sT sof k9))) (nI k9)))), (man, .inl (cs 0, 16, .inl anf))] := hD
      refine lv_aload_n hx hb dX12_marks_65 rfl (lv_at hl 1 rfl) ?_
      refine xget C hP 1 rfl rfl zuX12 0 (by decide) zw5_213 rfl dX12_marks_66 ?_
      refine lv_sipush (v := nI 160) hx hb dX12_marks_69 (by decide) ?_
      refine lv_iload hx hb dX12_marks_72 (lv_at hl 0 rfl) ?_
      refine lv_iadd hx hb dX12_marks_74 ?_
      refine lv_topi (nm_r (e' := nI (160 + ((8 * a) + (sT sof k9)))) (nI_add _ _) ?_)
      refine xiald C hP 2 rfl (160 + ((8 * a) + (sT sof k9))) rfl (by omega) (by decide) dX12_marks_75 ?_
      refine lv_iload_n hx hb dX12_marks_76 rfl (lv_at hl 3 rfl) ?_
      refine lv_icmp_ne (tgt := 98) hx hb dX12_marks_77 (by decide) (fun c_8 => ?_) (fun c_8 => ?_)
      · -- 77 t
        refine lv_aload_n hx hb dX12_marks_98 rfl (lv_at hl 1 rfl) ?_
        refine xget C hP 1 rfl rfl zuX12 0 (by decide) zw5_213 rfl dX12_marks_99 ?_
        refine lv_sipush (v := nI 160) hx hb dX12_marks_102 (by decide) ?_
        refine lv_iload hx hb dX12_marks_105 (lv_at hl 0 rfl) ?_
        refine lv_iadd hx hb dX12_marks_107 ?_
        refine lv_topi (nm_r (e' := nI (160 + ((8 * a) + (sT sof k9)))) (nI_add _ _) ?_)
        refine lv_iload_n hx hb dX12_marks_108 rfl (lv_at hl 3 rfl) ?_
        refine xiast C hP hD hS 2 rfl (160 + ((8 * a) + (sT sof k9))) rfl (by omega) (by decide) dX12_marks_109 ?_
        clear hP hD hS
        try clear locs
        try clear H
        intro H locs hP hD hS
        replace hP : va_P D vwCl [(mso, .inl (cs 0, 16, .inl sof)), (hm, .inr (12, [.ref ms, .ref mkp, .int (nI km), .ref mtr, .int (nI n), .int (nI k), .int (nI al), .int (nI be), .int ea, .int pr, .ref mas, .int nq, .int po, .int (nI en), .ref mso, .ref mon, .ref mot, .ref man, .int th, .int xd, .ref mst, .ref msm, .ref mtb, .ref mti, .ref mfr, .ref mbn, .ref mbs, .ref mde, .int sF, .int sN, .int sS, .int ig, .long xa, .long xb, .ref maa, .ref mab, .ref mba, .ref mbb])), (ms, .inl (cs 0, 288, .inl (upd (upd f (96 + ((8 * a) + (sT sof k9))) (nI k9)) (160 + ((8 * a) + (sT sof k9))) (nI k9)))), (man, .inl (cs 0, 16, .inl anf))] H := hP
        replace hD : va_D A [(mso, .inl (cs 0, 16, .inl sof)), (hm, .inr (12, [.ref ms, .ref mkp, .int (nI km), .ref mtr, .int (nI n), .int (nI k), .int (nI al), .int (nI be), .int ea, .int pr, .ref mas, .int nq, .int po, .int (nI en), .ref mso, .ref mon, .ref mot, .ref man, .int th, .int xd, .ref mst, .ref msm, .ref mtb, .ref mti, .ref mfr, .ref mbn, .ref mbs, .ref mde, .int sF, .int sN, .int sS, .int ig, .long xa, .long xb, .ref maa, .ref mab, .ref mba, .ref mbb])), (ms, .inl (cs 0, 288, .inl (upd (upd f (96 + ((8 * a) + (sT sof k9))) (nI k9)) (160 + ((8 * a) + (sT sof k9))) (nI k9)))), (man, .inl (cs 0, 16, .inl anf))] := hD
        refine lv_aload_n hx hb dX12_marks_110 rfl (lv_at hl 1 rfl) ?_
        refine xget C hP 1 rfl rfl zuX12 0 (by decide) zw5_213 rfl dX12_marks_111 ?_
        refine lv_sipush (v := nI 224) hx hb dX12_marks_114 (by decide) ?_
        refine lv_iload hx hb dX12_marks_117 (lv_at hl 0 rfl) ?_
        refine lv_iadd hx hb dX12_marks_119 ?_
        refine lv_topi (nm_r (e' := nI (224 + ((8 * a) + (sT sof k9)))) (nI_add _ _) ?_)
        refine lv_iconst (v := nI 1) hx hb dX12_marks_120 (by decide) ?_
        refine xiast C hP hD hS 2 rfl (224 + ((8 * a) + (sT sof k9))) rfl (by omega) (by decide) dX12_marks_121 ?_
        clear hP hD hS
        try clear locs
        try clear H
        intro H locs hP hD hS
        replace hP : va_P D vwCl [(mso, .inl (cs 0, 16, .inl sof)), (hm, .inr (12, [.ref ms, .ref mkp, .int (nI km), .ref mtr, .int (nI n), .int (nI k), .int (nI al), .int (nI be), .int ea, .int pr, .ref mas, .int nq, .int po, .int (nI en), .ref mso, .ref mon, .ref mot, .ref man, .int th, .int xd, .ref mst, .ref msm, .ref mtb, .ref mti, .ref mfr, .ref mbn, .ref mbs, .ref mde, .int sF, .int sN, .int sS, .int ig, .long xa, .long xb, .ref maa, .ref mab, .ref mba, .ref mbb])), (ms, .inl (cs 0, 288, .inl (upd (upd (upd f (96 + ((8 * a) + (sT sof k9))) (nI k9)) (160 + ((8 * a) + (sT sof k9))) (nI k9)) (224 + ((8 * a) + (sT sof k9))) (nI 1)))), (man, .inl (cs 0, 16, .inl anf))] H := hP
        replace hD : va_D A [(mso, .inl (cs 0, 16, .inl sof)), (hm, .inr (12, [.ref ms, .ref mkp, .int (nI km), .ref mtr, .int (nI n), .int (nI k), .int (nI al), .int (nI be), .int ea, .int pr, .ref mas, .int nq, .int po, .int (nI en), .ref mso, .ref mon, .ref mot, .ref man, .int th, .int xd, .ref mst, .ref msm, .ref mtb, .ref mti, .ref mfr, .ref mbn, .ref mbs, .ref mde, .int sF, .int sN, .int sS, .int ig, .long xa, .long xb, .ref maa, .ref mab, .ref mba, .ref mbb])), (ms, .inl (cs 0, 288, .inl (upd (upd (upd f (96 + ((8 * a) + (sT sof k9))) (nI k9)) (160 + ((8 * a) + (sT sof k9))) (nI k9)) (224 + ((8 * a) + (sT sof k9))) (nI 1)))), (man, .inl (cs 0, 16, .inl anf))] := hD
        exact xretv C (upd (upd (upd f (96 + ((8 * a) + (sT sof k9))) (nI k9)) (160 + ((8 * a) + (sT sof k9))) (nI k9)) (224 + ((8 * a) + (sT sof k9))) (nI 1)) (Or.inr ⟨c_1, p9, c_a, c_b, _, hp9, hc_a, hc_b, e_p9, hcf_a, hcf_b, Or.inl ⟨fc_6, rfl⟩, Or.inr ⟨c_8, rfl⟩⟩) (xP_map hP [1, 2, 0, 3] rfl) (hD.sub [1, 2, 0, 3] (by decide) rfl) hS (Nat.le_of_ble_eq_true rfl) (Nat.le_of_ble_eq_true rfl) dX12_marks_122
      · -- 77 f
        refine lv_aload_n hx hb dX12_marks_80 rfl (lv_at hl 1 rfl) ?_
        refine xget C hP 1 rfl rfl zuX12 0 (by decide) zw5_213 rfl dX12_marks_81 ?_
        refine lv_sipush (v := nI 224) hx hb dX12_marks_84 (by decide) ?_
        refine lv_iload hx hb dX12_marks_87 (lv_at hl 0 rfl) ?_
        refine lv_iadd hx hb dX12_marks_89 ?_
        refine lv_topi (nm_r (e' := nI (224 + ((8 * a) + (sT sof k9)))) (nI_add _ _) ?_)
        refine lv_dup2_11 hx hb dX12_marks_90 rfl rfl ?_
        refine xiald C hP 2 rfl (224 + ((8 * a) + (sT sof k9))) rfl (by omega) (by decide) dX12_marks_91 ?_
        refine lv_iconst (v := nI 1) hx hb dX12_marks_92 (by decide) ?_
        refine lv_iadd hx hb dX12_marks_93 ?_
        refine xiast C hP hD hS 2 rfl (224 + ((8 * a) + (sT sof k9))) rfl (by omega) (by decide) dX12_marks_94 ?_
        clear hP hD hS
        try clear locs
        try clear H
        intro H locs hP hD hS
        replace hP : va_P D vwCl [(mso, .inl (cs 0, 16, .inl sof)), (hm, .inr (12, [.ref ms, .ref mkp, .int (nI km), .ref mtr, .int (nI n), .int (nI k), .int (nI al), .int (nI be), .int ea, .int pr, .ref mas, .int nq, .int po, .int (nI en), .ref mso, .ref mon, .ref mot, .ref man, .int th, .int xd, .ref mst, .ref msm, .ref mtb, .ref mti, .ref mfr, .ref mbn, .ref mbs, .ref mde, .int sF, .int sN, .int sS, .int ig, .long xa, .long xb, .ref maa, .ref mab, .ref mba, .ref mbb])), (ms, .inl (cs 0, 288, .inl (upd (upd f (96 + ((8 * a) + (sT sof k9))) (nI k9)) (224 + ((8 * a) + (sT sof k9))) (((upd f (96 + ((8 * a) + (sT sof k9))) (nI k9)) (224 + ((8 * a) + (sT sof k9)))) + (nI 1))))), (man, .inl (cs 0, 16, .inl anf))] H := hP
        replace hD : va_D A [(mso, .inl (cs 0, 16, .inl sof)), (hm, .inr (12, [.ref ms, .ref mkp, .int (nI km), .ref mtr, .int (nI n), .int (nI k), .int (nI al), .int (nI be), .int ea, .int pr, .ref mas, .int nq, .int po, .int (nI en), .ref mso, .ref mon, .ref mot, .ref man, .int th, .int xd, .ref mst, .ref msm, .ref mtb, .ref mti, .ref mfr, .ref mbn, .ref mbs, .ref mde, .int sF, .int sN, .int sS, .int ig, .long xa, .long xb, .ref maa, .ref mab, .ref mba, .ref mbb])), (ms, .inl (cs 0, 288, .inl (upd (upd f (96 + ((8 * a) + (sT sof k9))) (nI k9)) (224 + ((8 * a) + (sT sof k9))) (((upd f (96 + ((8 * a) + (sT sof k9))) (nI k9)) (224 + ((8 * a) + (sT sof k9)))) + (nI 1))))), (man, .inl (cs 0, 16, .inl anf))] := hD
        refine lv_goto (tgt := 122) hx hb dX12_marks_95 (by decide) ?_
        exact xretv C (upd (upd f (96 + ((8 * a) + (sT sof k9))) (nI k9)) (224 + ((8 * a) + (sT sof k9))) (((upd f (96 + ((8 * a) + (sT sof k9))) (nI k9)) (224 + ((8 * a) + (sT sof k9)))) + (nI 1))) (Or.inr ⟨c_1, p9, c_a, c_b, _, hp9, hc_a, hc_b, e_p9, hcf_a, hcf_b, Or.inl ⟨fc_6, rfl⟩, Or.inl ⟨c_8, rfl⟩⟩) (xP_map hP [1, 2, 0, 3] rfl) (hD.sub [1, 2, 0, 3] (by decide) rfl) hS (Nat.le_of_ble_eq_true rfl) (Nat.le_of_ble_eq_true rfl) dX12_marks_122
  · -- 14 f
    refine lv_aload_n hx hb dX12_marks_17 rfl (lv_at hl 1 rfl) ?_
    refine xget C hP 0 rfl rfl zuX12 0 (by decide) zw5_213 rfl dX12_marks_18 ?_
    refine lv_sipush (v := nI 224) hx hb dX12_marks_21 (by decide) ?_
    refine lv_iload hx hb dX12_marks_24 (lv_at hl 0 rfl) ?_
    refine lv_iadd hx hb dX12_marks_26 ?_
    refine lv_topi (nm_r (e' := nI (224 + ((8 * a) + (sT sof k9)))) (nI_add _ _) ?_)
    refine lv_iconst (v := nI 0) hx hb dX12_marks_27 (by decide) ?_
    refine xiast C hP hD hS 1 rfl (224 + ((8 * a) + (sT sof k9))) rfl (by omega) (by decide) dX12_marks_28 ?_
    clear hP hD hS
    try clear locs
    try clear H
    intro H locs hP hD hS
    replace hP : va_P D vwCl [(hm, .inr (12, [.ref ms, .ref mkp, .int (nI km), .ref mtr, .int (nI n), .int (nI k), .int (nI al), .int (nI be), .int ea, .int pr, .ref mas, .int nq, .int po, .int (nI en), .ref mso, .ref mon, .ref mot, .ref man, .int th, .int xd, .ref mst, .ref msm, .ref mtb, .ref mti, .ref mfr, .ref mbn, .ref mbs, .ref mde, .int sF, .int sN, .int sS, .int ig, .long xa, .long xb, .ref maa, .ref mab, .ref mba, .ref mbb])), (ms, .inl (cs 0, 288, .inl (upd f (224 + ((8 * a) + (sT sof k9))) (nI 0)))), (mso, .inl (cs 0, 16, .inl sof)), (man, .inl (cs 0, 16, .inl anf))] H := hP
    replace hD : va_D A [(hm, .inr (12, [.ref ms, .ref mkp, .int (nI km), .ref mtr, .int (nI n), .int (nI k), .int (nI al), .int (nI be), .int ea, .int pr, .ref mas, .int nq, .int po, .int (nI en), .ref mso, .ref mon, .ref mot, .ref man, .int th, .int xd, .ref mst, .ref msm, .ref mtb, .ref mti, .ref mfr, .ref mbn, .ref mbs, .ref mde, .int sF, .int sN, .int sS, .int ig, .long xa, .long xb, .ref maa, .ref mab, .ref mba, .ref mbb])), (ms, .inl (cs 0, 288, .inl (upd f (224 + ((8 * a) + (sT sof k9))) (nI 0)))), (mso, .inl (cs 0, 16, .inl sof)), (man, .inl (cs 0, 16, .inl anf))] := hD
    exact xretv C (upd f (224 + ((8 * a) + (sT sof k9))) (nI 0)) (Or.inl ⟨c_1, rfl⟩) hP hD hS (Nat.le_of_ble_eq_true rfl) (Nat.le_of_ble_eq_true rfl) dX12_marks_29

set_option maxHeartbeats 4000000 in
set_option maxRecDepth 100000 in
theorem c_X12_isAlone_f (l : Launch) (D : va_G) (cs : Nat → ClassId) (hm ms mkp mtr mas mso mon mot man mst msm mtb mti mfr mbn mbs mde maa mab mba mbb : Nat) (n k al be km en : Nat) (ea pr nq po th xd sF sN sS ig : Int32) (xa xb : Int64) (e0 : Nat) (sof : Nat → Int32) (hen : en ≤ 16) (he : e0 < 16) : xMet l D cs yX12_isAlone cX12_isAlone 3 (some .boolean) ({ frames := 0, cells := 0, slots := 0, locals := 0 } : Room) [.ref hm, .int (nI e0)] [(hm, .inr (12, [.ref ms, .ref mkp, .int (nI km), .ref mtr, .int (nI n), .int (nI k), .int (nI al), .int (nI be), .int ea, .int pr, .ref mas, .int nq, .int po, .int (nI en), .ref mso, .ref mon, .ref mot, .ref man, .int th, .int xd, .ref mst, .ref msm, .ref mtb, .ref mti, .ref mfr, .ref mbn, .ref mbs, .ref mde, .int sF, .int sN, .int sS, .int ig, .long xa, .long xb, .ref maa, .ref mab, .ref mba, .ref mbb])), (mso, .inl (cs 0, 16, .inl sof))] (xQi D (fun (r : Int32) (_u : Unit) => PQ (aloM en sof e0) r (nI 1) (nI 0)) (fun (_u : Unit) => [(hm, .inr (12, [.ref ms, .ref mkp, .int (nI km), .ref mtr, .int (nI n), .int (nI k), .int (nI al), .int (nI be), .int ea, .int pr, .ref mas, .int nq, .int po, .int (nI en), .ref mso, .ref mon, .ref mot, .ref man, .int th, .int xd, .ref mst, .ref msm, .ref mtb, .ref mti, .ref mfr, .ref mbn, .ref mbs, .ref mde, .int sF, .int sN, .int sS, .int ig, .long xa, .long xb, .ref maa, .ref mab, .ref mba, .ref mbb])), (mso, .inl (cs 0, 16, .inl sof))])) := by
  refine xMet.intro (by decide) (Nat.le_of_ble_eq_true rfl) ?_
  intro p e s m args below meth c A ls C hP hD hS hl
  have hx := C.1
  have hb := C.2.1
  have hz := C.2.2.2.2.1
  have hown := C.2.2.2.1
  have hA := C.2.2.2.2.2.2.2.2.2
  have hAO := C.2.2.2.2.2.2.2.2.1.2.2
  replace hl : lv_has ls 3 [(0, .ref hm), (1, .int (nI e0))] := hl
  obtain ⟨H, hH⟩ : ∃ H, H = s.heap := ⟨_, rfl⟩
  replace hP : va_P D vwCl [(hm, .inr (12, [.ref ms, .ref mkp, .int (nI km), .ref mtr, .int (nI n), .int (nI k), .int (nI al), .int (nI be), .int ea, .int pr, .ref mas, .int nq, .int po, .int (nI en), .ref mso, .ref mon, .ref mot, .ref man, .int th, .int xd, .ref mst, .ref msm, .ref mtb, .ref mti, .ref mfr, .ref mbn, .ref mbs, .ref mde, .int sF, .int sN, .int sS, .int ig, .long xa, .long xb, .ref maa, .ref mab, .ref mba, .ref mbb])), (mso, .inl (cs 0, 16, .inl sof))] H := by rw [hH]; exact hP
  replace hS : va_S A s.heap H [] := by rw [hH]; exact hS
  obtain ⟨locs, hlocs⟩ : ∃ z : List Loc, z = [] := ⟨_, rfl⟩
  rw [← hlocs] at hS
  suffices hW : W p l e ({ frames := 0, cells := 0, slots := 0, locals := 0 } : Room) s m args below meth c H locs 0 0 (MQ below ((xQi D (fun (r : Int32) (_u : Unit) => PQ (aloM en sof e0) r (nI 1) (nI 0)) (fun (_u : Unit) => [(hm, .inr (12, [.ref ms, .ref mkp, .int (nI km), .ref mtr, .int (nI n), .int (nI k), .int (nI al), .int (nI be), .int ea, .int pr, .ref mas, .int nq, .int po, .int (nI en), .ref mso, .ref mon, .ref mot, .ref man, .int th, .int xd, .ref mst, .ref msm, .ref mtb, .ref mti, .ref mfr, .ref mbn, .ref mbs, .ref mde, .int sF, .int sN, .int sS, .int ig, .long xa, .long xb, .ref maa, .ref mab, .ref mba, .ref mbb])), (mso, .inl (cs 0, 16, .inl sof))])) A) args s 0 0 A) (F0 m 0 ls []) by rw [hlocs, hH] at hW; exact hW
  clear hH hlocs
  refine lv_iconst (v := nI 0) hx hb dX12_isAlone_0 (by decide) ?_
  refine lv_istore_n (lv' := [(2, .int (nI 0)), (0, .ref hm), (1, .int (nI e0))]) hx hb dX12_isAlone_1 rfl hl (by decide) rfl ?_
  clear hl
  try clear ls
  intro ls hl
  have loop_1 : ∀ (n_loop_1 : Nat) (o : Nat), (o ≤ en) → (∀ i, i < o → ¬ i = e0 → ¬ sof i = sof e0) → en - o < n_loop_1 → ∀ (H : Heap) (locs : List Loc) (ls : Array Slot), va_P D vwCl [(hm, .inr (12, [.ref ms, .ref mkp, .int (nI km), .ref mtr, .int (nI n), .int (nI k), .int (nI al), .int (nI be), .int ea, .int pr, .ref mas, .int nq, .int po, .int (nI en), .ref mso, .ref mon, .ref mot, .ref man, .int th, .int xd, .ref mst, .ref msm, .ref mtb, .ref mti, .ref mfr, .ref mbn, .ref mbs, .ref mde, .int sF, .int sN, .int sS, .int ig, .long xa, .long xb, .ref maa, .ref mab, .ref mba, .ref mbb])), (mso, .inl (cs 0, 16, .inl sof))] H → va_D A [(hm, .inr (12, [.ref ms, .ref mkp, .int (nI km), .ref mtr, .int (nI n), .int (nI k), .int (nI al), .int (nI be), .int ea, .int pr, .ref mas, .int nq, .int po, .int (nI en), .ref mso, .ref mon, .ref mot, .ref man, .int th, .int xd, .ref mst, .ref msm, .ref mtb, .ref mti, .ref mfr, .ref mbn, .ref mbs, .ref mde, .int sF, .int sN, .int sS, .int ig, .long xa, .long xb, .ref maa, .ref mab, .ref mba, .ref mbb])), (mso, .inl (cs 0, 16, .inl sof))] → va_S A s.heap H locs → lv_has ls 3 [(2, .int (nI o)), (0, .ref hm), (1, .int (nI e0))] → W p l e ({ frames := 0, cells := 0, slots := 0, locals := 0 } : Room) s m args below meth c H locs 0 0 (MQ below ((xQi D (fun (r : Int32) (_u : Unit) => PQ (aloM en sof e0) r (nI 1) (nI 0)) (fun (_u : Unit) => [(hm, .inr (12, [.ref ms, .ref mkp, .int (nI km), .ref mtr, .int (nI n), .int (nI k), .int (nI al), .int (nI be), .int ea, .int pr, .ref mas, .int nq, .int po, .int (nI en), .ref mso, .ref mon, .ref mot, .ref man, .int th, .int xd, .ref mst, .ref msm, .ref mtb, .ref mti, .ref mfr, .ref mbn, .ref mbs, .ref mde, .int sF, .int sN, .int sS, .int ig, .long xa, .long xb, .ref maa, .ref mab, .ref mba, .ref mbb])), (mso, .inl (cs 0, 16, .inl sof))])) A) args s 0 0 A) (F0 m 2 ls []) := by
    intro n_loop_1
    induction n_loop_1 with
    | zero => intro o h_o hal9 hlt H locs ls hP hD hS hl; exact absurd hlt (Nat.not_lt_zero _)
    | succ n_loop_1 ih_loop_1 =>
      intro o h_o hal9 hlt_loop_1 H locs ls hP hD hS hl
      refine lv_iload_n hx hb dX12_isAlone_2 rfl (lv_at hl 0 rfl) ?_
      refine lv_aload_n hx hb dX12_isAlone_3 rfl (lv_at hl 1 rfl) ?_
      refine xget C hP 0 rfl rfl zuX12 13 (by decide) zw5_226 rfl dX12_isAlone_4 ?_
      refine lv_icmp_ge (tgt := 38) hx hb dX12_isAlone_7 (by decide) (fun c_2 => ?_) (fun c_2 => ?_)
      · -- 7 t
        have fc_2 : en ≤ o := nf_le (by omega) (by omega) c_2
        refine lv_iconst (v := nI 1) hx hb dX12_isAlone_38 (by decide) ?_
        exact xreti C () (Or.inl ⟨fun i hi hne => hal9 i (by omega) hne, rfl⟩) hP hD hS (Nat.le_of_ble_eq_true rfl) (Nat.le_of_ble_eq_true rfl) (by decide) dX12_isAlone_39
      · -- 7 f
        have fc_2 : o < en := nf_nle (by omega) (by omega) c_2
        refine lv_iload_n hx hb dX12_isAlone_10 rfl (lv_at hl 0 rfl) ?_
        refine lv_iload_n hx hb dX12_isAlone_11 rfl (lv_at hl 2 rfl) ?_
        refine lv_icmp_eq (tgt := 32) hx hb dX12_isAlone_12 (by decide) (fun c_3 => ?_) (fun c_3 => ?_)
        · -- 12 t
          have fc_3 : o = e0 := nf_eq (by omega) (by omega) c_3
          refine lv_iinc (v := nI (o + 1)) (lv' := [(2, .int (nI (o + 1))), (0, .ref hm), (1, .int (nI e0))]) hx hb dX12_isAlone_32 hl (k := 0) rfl (nI_add o 1) (by decide) rfl ?_
          clear hl
          try clear ls
          intro ls hl
          refine lv_goto (tgt := 2) hx hb dX12_isAlone_35 (by decide) ?_
          exact ih_loop_1 (o + 1) (by omega) (fun i hi hne => by by_cases q : i = o; subst q; exact absurd fc_3 hne; exact hal9 i (by omega) hne) (by omega) H locs ls hP hD hS (lv_sub hl [0, 1, 2] rfl)
        · -- 12 f
          have fc_3 : o ≠ e0 := nf_ne (by omega) (by omega) c_3
          refine lv_aload_n hx hb dX12_isAlone_15 rfl (lv_at hl 1 rfl) ?_
          refine xget C hP 0 rfl rfl zuX12 14 (by decide) zw5_227 rfl dX12_isAlone_16 ?_
          refine lv_iload_n hx hb dX12_isAlone_19 rfl (lv_at hl 0 rfl) ?_
          refine xiald C hP 1 rfl o rfl (by omega) (by decide) dX12_isAlone_20 ?_
          refine lv_aload_n hx hb dX12_isAlone_21 rfl (lv_at hl 1 rfl) ?_
          refine xget C hP 0 rfl rfl zuX12 14 (by decide) zw5_227 rfl dX12_isAlone_22 ?_
          refine lv_iload_n hx hb dX12_isAlone_25 rfl (lv_at hl 2 rfl) ?_
          refine xiald C hP 1 rfl e0 rfl (by omega) (by decide) dX12_isAlone_26 ?_
          refine lv_icmp_ne (tgt := 32) hx hb dX12_isAlone_27 (by decide) (fun c_4 => ?_) (fun c_4 => ?_)
          · -- 27 t
            refine lv_iinc (v := nI (o + 1)) (lv' := [(2, .int (nI (o + 1))), (0, .ref hm), (1, .int (nI e0))]) hx hb dX12_isAlone_32 hl (k := 0) rfl (nI_add o 1) (by decide) rfl ?_
            clear hl
            try clear ls
            intro ls hl
            refine lv_goto (tgt := 2) hx hb dX12_isAlone_35 (by decide) ?_
            exact ih_loop_1 (o + 1) (by omega) (fun i hi hne => by by_cases q : i = o; subst q; exact c_4; exact hal9 i (by omega) hne) (by omega) H locs ls hP hD hS (lv_sub hl [0, 1, 2] rfl)
          · -- 27 f
            refine lv_iconst (v := nI 0) hx hb dX12_isAlone_30 (by decide) ?_
            exact xreti C () (Or.inr ⟨fun q => q o (by omega) fc_3 c_4, rfl⟩) hP hD hS (Nat.le_of_ble_eq_true rfl) (Nat.le_of_ble_eq_true rfl) (by decide) dX12_isAlone_31
  exact loop_1 _ 0 (by omega) (fun i hi => absurd hi (Nat.not_lt_zero _)) (Nat.lt_succ_self _) H locs ls hP hD hS (lv_sub hl [0, 1, 2] rfl)

set_option maxHeartbeats 4000000 in
set_option maxRecDepth 100000 in
theorem c_X12_areParentsAccepted_f (l : Launch) (D : va_G) (cs : Nat → ClassId) (hm ms mkp mtr mas mso mon mot man mst msm mtb mti mfr mbn mbs mde maa mab mba mbb : Nat) (n k al be km en : Nat) (ea pr nq po th xd sF sN sS ig : Int32) (xa xb : Int64) (f : Nat → Int32) (a e0 : Nat) (onf otf : Nat → Int32) (hen : en ≤ 16) (ha : a < 8) (he : e0 < en) (hon : parF en onf) (hot : parF en otf) : xMet l D cs yX12_areParentsAccepted cX12_areParentsAccepted 3 (some .boolean) ({ frames := 1, cells := 0, slots := 0, locals := 21 } : Room) [.ref hm, .int (nI a), .int (nI e0)] [(hm, .inr (12, [.ref ms, .ref mkp, .int (nI km), .ref mtr, .int (nI n), .int (nI k), .int (nI al), .int (nI be), .int ea, .int pr, .ref mas, .int nq, .int po, .int (nI en), .ref mso, .ref mon, .ref mot, .ref man, .int th, .int xd, .ref mst, .ref msm, .ref mtb, .ref mti, .ref mfr, .ref mbn, .ref mbs, .ref mde, .int sF, .int sN, .int sS, .int ig, .long xa, .long xb, .ref maa, .ref mab, .ref mba, .ref mbb])), (ms, .inl (cs 0, 288, .inl f)), (mon, .inl (cs 0, 16, .inl onf)), (mot, .inl (cs 0, 16, .inl otf))] (xQi D (fun (r : Int32) (_u : Unit) => PQ (araM onf otf f a e0) r (nI 1) (nI 0)) (fun (_u : Unit) => [(hm, .inr (12, [.ref ms, .ref mkp, .int (nI km), .ref mtr, .int (nI n), .int (nI k), .int (nI al), .int (nI be), .int ea, .int pr, .ref mas, .int nq, .int po, .int (nI en), .ref mso, .ref mon, .ref mot, .ref man, .int th, .int xd, .ref mst, .ref msm, .ref mtb, .ref mti, .ref mfr, .ref mbn, .ref mbs, .ref mde, .int sF, .int sN, .int sS, .int ig, .long xa, .long xb, .ref maa, .ref mab, .ref mba, .ref mbb])), (ms, .inl (cs 0, 288, .inl f)), (mon, .inl (cs 0, 16, .inl onf)), (mot, .inl (cs 0, 16, .inl otf))])) := by
  refine xMet.intro (by decide) (Nat.le_of_ble_eq_true rfl) ?_
  intro p e s m args below meth c A ls C hP hD hS hl
  have hx := C.1
  have hb := C.2.1
  have hz := C.2.2.2.2.1
  have hown := C.2.2.2.1
  have hA := C.2.2.2.2.2.2.2.2.2
  have hAO := C.2.2.2.2.2.2.2.2.1.2.2
  replace hl : lv_has ls 3 [(0, .ref hm), (1, .int (nI a)), (2, .int (nI e0))] := hl
  obtain ⟨H, hH⟩ : ∃ H, H = s.heap := ⟨_, rfl⟩
  replace hP : va_P D vwCl [(hm, .inr (12, [.ref ms, .ref mkp, .int (nI km), .ref mtr, .int (nI n), .int (nI k), .int (nI al), .int (nI be), .int ea, .int pr, .ref mas, .int nq, .int po, .int (nI en), .ref mso, .ref mon, .ref mot, .ref man, .int th, .int xd, .ref mst, .ref msm, .ref mtb, .ref mti, .ref mfr, .ref mbn, .ref mbs, .ref mde, .int sF, .int sN, .int sS, .int ig, .long xa, .long xb, .ref maa, .ref mab, .ref mba, .ref mbb])), (ms, .inl (cs 0, 288, .inl f)), (mon, .inl (cs 0, 16, .inl onf)), (mot, .inl (cs 0, 16, .inl otf))] H := by rw [hH]; exact hP
  replace hS : va_S A s.heap H [] := by rw [hH]; exact hS
  obtain ⟨locs, hlocs⟩ : ∃ z : List Loc, z = [] := ⟨_, rfl⟩
  rw [← hlocs] at hS
  suffices hW : W p l e ({ frames := 1, cells := 0, slots := 0, locals := 21 } : Room) s m args below meth c H locs 0 0 (MQ below ((xQi D (fun (r : Int32) (_u : Unit) => PQ (araM onf otf f a e0) r (nI 1) (nI 0)) (fun (_u : Unit) => [(hm, .inr (12, [.ref ms, .ref mkp, .int (nI km), .ref mtr, .int (nI n), .int (nI k), .int (nI al), .int (nI be), .int ea, .int pr, .ref mas, .int nq, .int po, .int (nI en), .ref mso, .ref mon, .ref mot, .ref man, .int th, .int xd, .ref mst, .ref msm, .ref mtb, .ref mti, .ref mfr, .ref mbn, .ref mbs, .ref mde, .int sF, .int sN, .int sS, .int ig, .long xa, .long xb, .ref maa, .ref mab, .ref mba, .ref mbb])), (ms, .inl (cs 0, 288, .inl f)), (mon, .inl (cs 0, 16, .inl onf)), (mot, .inl (cs 0, 16, .inl otf))])) A) args s 0 0 A) (F0 m 0 ls []) by rw [hlocs, hH] at hW; exact hW
  clear hH hlocs
  refine lv_aload_n hx hb dX12_areParentsAccepted_0 rfl (lv_at hl 0 rfl) ?_
  refine xget C hP 0 rfl rfl zuX12 15 (by decide) zw5_228 rfl dX12_areParentsAccepted_1 ?_
  refine lv_iload_n hx hb dX12_areParentsAccepted_4 rfl (lv_at hl 2 rfl) ?_
  refine xiald C hP 2 rfl e0 rfl (by omega) (by decide) dX12_areParentsAccepted_5 ?_
  refine lv_if_lt (tgt := 32) hx hb dX12_areParentsAccepted_6 (by decide) (fun c_1 => ?_) (fun c_1 => ?_)
  · -- 6 t
    refine lv_aload_n hx hb dX12_areParentsAccepted_32 rfl (lv_at hl 0 rfl) ?_
    refine xget C hP 0 rfl rfl zuX12 16 (by decide) zw5_229 rfl dX12_areParentsAccepted_33 ?_
    refine lv_iload_n hx hb dX12_areParentsAccepted_36 rfl (lv_at hl 2 rfl) ?_
    refine xiald C hP 3 rfl e0 rfl (by omega) (by decide) dX12_areParentsAccepted_37 ?_
    refine lv_if_lt (tgt := 62) hx hb dX12_areParentsAccepted_38 (by decide) (fun c_2 => ?_) (fun c_2 => ?_)
    · -- 38 t
      refine lv_iconst (v := nI 1) hx hb dX12_areParentsAccepted_62 (by decide) ?_
      refine lv_goto (tgt := 67) hx hb dX12_areParentsAccepted_63 (by decide) ?_
      exact xreti C () (Or.inl ⟨⟨(fun j hj e => by rw [e] at c_1; exact absurd c_1 (Int32.not_lt.mpr ((nI_leI (a := 0) (by decide) (by omega)).mpr (Nat.zero_le _)))), (fun j hj e => by rw [e] at c_2; exact absurd c_2 (Int32.not_lt.mpr ((nI_leI (a := 0) (by decide) (by omega)).mpr (Nat.zero_le _))))⟩, rfl⟩) hP hD hS (Nat.le_of_ble_eq_true rfl) (Nat.le_of_ble_eq_true rfl) (by decide) dX12_areParentsAccepted_67
    · -- 38 f
      obtain ⟨j2, h_j2, e_j2⟩ : ∃ j, j < 16 ∧ otf e0 = nI j := by
        obtain ⟨j, hj, e⟩ := (hot e0 he).resolve_left (fun q => by rw [q] at c_2; exact c_2 (by decide))
        exact ⟨j, by omega, e⟩
      refine lv_aload_n hx hb dX12_areParentsAccepted_41 rfl (lv_at hl 0 rfl) ?_
      refine xget C hP 0 rfl rfl zuX12 0 (by decide) zw5_213 rfl dX12_areParentsAccepted_42 ?_
      refine lv_bipush (v := nI 80) hx hb dX12_areParentsAccepted_45 (by decide) ?_
      refine lv_iload_n hx hb dX12_areParentsAccepted_47 rfl (lv_at hl 1 rfl) ?_
      refine lv_iadd hx hb dX12_areParentsAccepted_48 ?_
      refine lv_topi (nm_r (e' := nI (80 + a)) (nI_add _ _) ?_)
      refine xiald C hP 1 rfl (80 + a) rfl (by omega) (by decide) dX12_areParentsAccepted_49 ?_
      refine lv_aload_n hx hb dX12_areParentsAccepted_50 rfl (lv_at hl 0 rfl) ?_
      refine xget C hP 0 rfl rfl zuX12 16 (by decide) zw5_229 rfl dX12_areParentsAccepted_51 ?_
      refine lv_iload_n hx hb dX12_areParentsAccepted_54 rfl (lv_at hl 2 rfl) ?_
      refine xiald C hP 3 rfl e0 rfl (by omega) (by decide) dX12_areParentsAccepted_55 ?_
      refine lv_topi (nm_r (e' := nI j2) e_j2 ?_)
      refine xi (wr := [(hm, .inr (12, [.ref ms, .ref mkp, .int (nI km), .ref mtr, .int (nI n), .int (nI k), .int (nI al), .int (nI be), .int ea, .int pr, .ref mas, .int nq, .int po, .int (nI en), .ref mso, .ref mon, .ref mot, .ref man, .int th, .int xd, .ref mst, .ref msm, .ref mtb, .ref mti, .ref mfr, .ref mbn, .ref mbs, .ref mde, .int sF, .int sN, .int sS, .int ig, .long xa, .long xb, .ref maa, .ref mab, .ref mba, .ref mbb])), (ms, .inl (cs 0, 288, .inl f)), (mon, .inl (cs 0, 16, .inl onf)), (mot, .inl (cs 0, 16, .inl otf))]) (xS (As := [.int (f (80 + a)), .int (nI j2)]) (rest := []) C (c_X12_has l D cs (f (80 + a)) j2) kX12_100 hP hD [] rfl (by decide) ⟨Nat.le_of_ble_eq_true rfl, Nat.le_of_ble_eq_true rfl⟩ rfl hl.1 rfl (Nat.le_of_ble_eq_true rfl) dX12_areParentsAccepted_56 ⟨Nat.le_of_ble_eq_true rfl, Nat.le_of_ble_eq_true rfl⟩) hP hD hS hA [] [0, 1, 2, 3] rfl rfl (by decide) (by decide) ?_
      clear hP hD hS
      try clear locs
      try clear H
      intro r_3 u_4 H locs hw_r_3 hP hD hS
      have hw_r_3 : PQ (hasB (f (80 + a)) j2) r_3 (nI 1) (nI 0) := hw_r_3
      refine W.widen (k := 0) (n := 0) (Nat.le_of_ble_eq_true rfl) (Nat.le_of_ble_eq_true rfl) ?_
      replace hP : va_P D vwCl [(hm, .inr (12, [.ref ms, .ref mkp, .int (nI km), .ref mtr, .int (nI n), .int (nI k), .int (nI al), .int (nI be), .int ea, .int pr, .ref mas, .int nq, .int po, .int (nI en), .ref mso, .ref mon, .ref mot, .ref man, .int th, .int xd, .ref mst, .ref msm, .ref mtb, .ref mti, .ref mfr, .ref mbn, .ref mbs, .ref mde, .int sF, .int sN, .int sS, .int ig, .long xa, .long xb, .ref maa, .ref mab, .ref mba, .ref mbb])), (ms, .inl (cs 0, 288, .inl f)), (mon, .inl (cs 0, 16, .inl onf)), (mot, .inl (cs 0, 16, .inl otf))] H := hP
      replace hD : va_D A [(hm, .inr (12, [.ref ms, .ref mkp, .int (nI km), .ref mtr, .int (nI n), .int (nI k), .int (nI al), .int (nI be), .int ea, .int pr, .ref mas, .int nq, .int po, .int (nI en), .ref mso, .ref mon, .ref mot, .ref man, .int th, .int xd, .ref mst, .ref msm, .ref mtb, .ref mti, .ref mfr, .ref mbn, .ref mbs, .ref mde, .int sF, .int sN, .int sS, .int ig, .long xa, .long xb, .ref maa, .ref mab, .ref mba, .ref mbb])), (ms, .inl (cs 0, 288, .inl f)), (mon, .inl (cs 0, 16, .inl onf)), (mot, .inl (cs 0, 16, .inl otf))] := hD
      refine lv_if_eq (tgt := 66) hx hb dX12_areParentsAccepted_59 (by decide) (fun c_5 => ?_) (fun c_5 => ?_)
      · -- 59 t
        refine lv_iconst (v := nI 0) hx hb dX12_areParentsAccepted_66 (by decide) ?_
        exact xreti C () (Or.inr ⟨fun q => PQ.no hw_r_3 c_5 (by decide) (q.2 j2 h_j2 e_j2), rfl⟩) hP hD hS (Nat.le_of_ble_eq_true rfl) (Nat.le_of_ble_eq_true rfl) (by decide) dX12_areParentsAccepted_67
      · -- 59 f
        refine lv_iconst (v := nI 1) hx hb dX12_areParentsAccepted_62 (by decide) ?_
        refine lv_goto (tgt := 67) hx hb dX12_areParentsAccepted_63 (by decide) ?_
        exact xreti C () (Or.inl ⟨⟨(fun j hj e => by rw [e] at c_1; exact absurd c_1 (Int32.not_lt.mpr ((nI_leI (a := 0) (by decide) (by omega)).mpr (Nat.zero_le _)))), (fun j hj e => by obtain rfl : j2 = j := (nI_eq (by omega) (by omega)).mp (e_j2.symm.trans e); exact PQ.yes hw_r_3 c_5)⟩, rfl⟩) hP hD hS (Nat.le_of_ble_eq_true rfl) (Nat.le_of_ble_eq_true rfl) (by decide) dX12_areParentsAccepted_67
  · -- 6 f
    obtain ⟨j1, h_j1, e_j1⟩ : ∃ j, j < 16 ∧ onf e0 = nI j := by
      obtain ⟨j, hj, e⟩ := (hon e0 he).resolve_left (fun q => by rw [q] at c_1; exact c_1 (by decide))
      exact ⟨j, by omega, e⟩
    refine lv_aload_n hx hb dX12_areParentsAccepted_9 rfl (lv_at hl 0 rfl) ?_
    refine xget C hP 0 rfl rfl zuX12 0 (by decide) zw5_213 rfl dX12_areParentsAccepted_10 ?_
    refine lv_bipush (v := nI 80) hx hb dX12_areParentsAccepted_13 (by decide) ?_
    refine lv_iload_n hx hb dX12_areParentsAccepted_15 rfl (lv_at hl 1 rfl) ?_
    refine lv_iadd hx hb dX12_areParentsAccepted_16 ?_
    refine lv_topi (nm_r (e' := nI (80 + a)) (nI_add _ _) ?_)
    refine xiald C hP 1 rfl (80 + a) rfl (by omega) (by decide) dX12_areParentsAccepted_17 ?_
    refine lv_aload_n hx hb dX12_areParentsAccepted_18 rfl (lv_at hl 0 rfl) ?_
    refine xget C hP 0 rfl rfl zuX12 15 (by decide) zw5_228 rfl dX12_areParentsAccepted_19 ?_
    refine lv_iload_n hx hb dX12_areParentsAccepted_22 rfl (lv_at hl 2 rfl) ?_
    refine xiald C hP 2 rfl e0 rfl (by omega) (by decide) dX12_areParentsAccepted_23 ?_
    refine lv_topi (nm_r (e' := nI j1) e_j1 ?_)
    refine xi (wr := [(hm, .inr (12, [.ref ms, .ref mkp, .int (nI km), .ref mtr, .int (nI n), .int (nI k), .int (nI al), .int (nI be), .int ea, .int pr, .ref mas, .int nq, .int po, .int (nI en), .ref mso, .ref mon, .ref mot, .ref man, .int th, .int xd, .ref mst, .ref msm, .ref mtb, .ref mti, .ref mfr, .ref mbn, .ref mbs, .ref mde, .int sF, .int sN, .int sS, .int ig, .long xa, .long xb, .ref maa, .ref mab, .ref mba, .ref mbb])), (ms, .inl (cs 0, 288, .inl f)), (mon, .inl (cs 0, 16, .inl onf)), (mot, .inl (cs 0, 16, .inl otf))]) (xS (As := [.int (f (80 + a)), .int (nI j1)]) (rest := []) C (c_X12_has l D cs (f (80 + a)) j1) kX12_100 hP hD [] rfl (by decide) ⟨Nat.le_of_ble_eq_true rfl, Nat.le_of_ble_eq_true rfl⟩ rfl hl.1 rfl (Nat.le_of_ble_eq_true rfl) dX12_areParentsAccepted_24 ⟨Nat.le_of_ble_eq_true rfl, Nat.le_of_ble_eq_true rfl⟩) hP hD hS hA [] [0, 1, 2, 3] rfl rfl (by decide) (by decide) ?_
    clear hP hD hS
    try clear locs
    try clear H
    intro r_6 u_7 H locs hw_r_6 hP hD hS
    have hw_r_6 : PQ (hasB (f (80 + a)) j1) r_6 (nI 1) (nI 0) := hw_r_6
    refine W.widen (k := 0) (n := 0) (Nat.le_of_ble_eq_true rfl) (Nat.le_of_ble_eq_true rfl) ?_
    replace hP : va_P D vwCl [(hm, .inr (12, [.ref ms, .ref mkp, .int (nI km), .ref mtr, .int (nI n), .int (nI k), .int (nI al), .int (nI be), .int ea, .int pr, .ref mas, .int nq, .int po, .int (nI en), .ref mso, .ref mon, .ref mot, .ref man, .int th, .int xd, .ref mst, .ref msm, .ref mtb, .ref mti, .ref mfr, .ref mbn, .ref mbs, .ref mde, .int sF, .int sN, .int sS, .int ig, .long xa, .long xb, .ref maa, .ref mab, .ref mba, .ref mbb])), (ms, .inl (cs 0, 288, .inl f)), (mon, .inl (cs 0, 16, .inl onf)), (mot, .inl (cs 0, 16, .inl otf))] H := hP
    replace hD : va_D A [(hm, .inr (12, [.ref ms, .ref mkp, .int (nI km), .ref mtr, .int (nI n), .int (nI k), .int (nI al), .int (nI be), .int ea, .int pr, .ref mas, .int nq, .int po, .int (nI en), .ref mso, .ref mon, .ref mot, .ref man, .int th, .int xd, .ref mst, .ref msm, .ref mtb, .ref mti, .ref mfr, .ref mbn, .ref mbs, .ref mde, .int sF, .int sN, .int sS, .int ig, .long xa, .long xb, .ref maa, .ref mab, .ref mba, .ref mbb])), (ms, .inl (cs 0, 288, .inl f)), (mon, .inl (cs 0, 16, .inl onf)), (mot, .inl (cs 0, 16, .inl otf))] := hD
    refine lv_if_ne (tgt := 32) hx hb dX12_areParentsAccepted_27 (by decide) (fun c_8 => ?_) (fun c_8 => ?_)
    · -- 27 t
      refine lv_aload_n hx hb dX12_areParentsAccepted_32 rfl (lv_at hl 0 rfl) ?_
      refine xget C hP 0 rfl rfl zuX12 16 (by decide) zw5_229 rfl dX12_areParentsAccepted_33 ?_
      refine lv_iload_n hx hb dX12_areParentsAccepted_36 rfl (lv_at hl 2 rfl) ?_
      refine xiald C hP 3 rfl e0 rfl (by omega) (by decide) dX12_areParentsAccepted_37 ?_
      refine lv_if_lt (tgt := 62) hx hb dX12_areParentsAccepted_38 (by decide) (fun c_9 => ?_) (fun c_9 => ?_)
      · -- 38 t
        refine lv_iconst (v := nI 1) hx hb dX12_areParentsAccepted_62 (by decide) ?_
        refine lv_goto (tgt := 67) hx hb dX12_areParentsAccepted_63 (by decide) ?_
        exact xreti C () (Or.inl ⟨⟨(fun j hj e => by obtain rfl : j1 = j := (nI_eq (by omega) (by omega)).mp (e_j1.symm.trans e); exact PQ.yes hw_r_6 c_8), (fun j hj e => by rw [e] at c_9; exact absurd c_9 (Int32.not_lt.mpr ((nI_leI (a := 0) (by decide) (by omega)).mpr (Nat.zero_le _))))⟩, rfl⟩) hP hD hS (Nat.le_of_ble_eq_true rfl) (Nat.le_of_ble_eq_true rfl) (by decide) dX12_areParentsAccepted_67
      · -- 38 f
        obtain ⟨j2, h_j2, e_j2⟩ : ∃ j, j < 16 ∧ otf e0 = nI j := by
          obtain ⟨j, hj, e⟩ := (hot e0 he).resolve_left (fun q => by rw [q] at c_9; exact c_9 (by decide))
          exact ⟨j, by omega, e⟩
        refine lv_aload_n hx hb dX12_areParentsAccepted_41 rfl (lv_at hl 0 rfl) ?_
        refine xget C hP 0 rfl rfl zuX12 0 (by decide) zw5_213 rfl dX12_areParentsAccepted_42 ?_
        refine lv_bipush (v := nI 80) hx hb dX12_areParentsAccepted_45 (by decide) ?_
        refine lv_iload_n hx hb dX12_areParentsAccepted_47 rfl (lv_at hl 1 rfl) ?_
        refine lv_iadd hx hb dX12_areParentsAccepted_48 ?_
        refine lv_topi (nm_r (e' := nI (80 + a)) (nI_add _ _) ?_)
        refine xiald C hP 1 rfl (80 + a) rfl (by omega) (by decide) dX12_areParentsAccepted_49 ?_
        refine lv_aload_n hx hb dX12_areParentsAccepted_50 rfl (lv_at hl 0 rfl) ?_
        refine xget C hP 0 rfl rfl zuX12 16 (by decide) zw5_229 rfl dX12_areParentsAccepted_51 ?_
        refine lv_iload_n hx hb dX12_areParentsAccepted_54 rfl (lv_at hl 2 rfl) ?_
        refine xiald C hP 3 rfl e0 rfl (by omega) (by decide) dX12_areParentsAccepted_55 ?_
        refine lv_topi (nm_r (e' := nI j2) e_j2 ?_)
        refine xi (wr := [(hm, .inr (12, [.ref ms, .ref mkp, .int (nI km), .ref mtr, .int (nI n), .int (nI k), .int (nI al), .int (nI be), .int ea, .int pr, .ref mas, .int nq, .int po, .int (nI en), .ref mso, .ref mon, .ref mot, .ref man, .int th, .int xd, .ref mst, .ref msm, .ref mtb, .ref mti, .ref mfr, .ref mbn, .ref mbs, .ref mde, .int sF, .int sN, .int sS, .int ig, .long xa, .long xb, .ref maa, .ref mab, .ref mba, .ref mbb])), (ms, .inl (cs 0, 288, .inl f)), (mon, .inl (cs 0, 16, .inl onf)), (mot, .inl (cs 0, 16, .inl otf))]) (xS (As := [.int (f (80 + a)), .int (nI j2)]) (rest := []) C (c_X12_has l D cs (f (80 + a)) j2) kX12_100 hP hD [] rfl (by decide) ⟨Nat.le_of_ble_eq_true rfl, Nat.le_of_ble_eq_true rfl⟩ rfl hl.1 rfl (Nat.le_of_ble_eq_true rfl) dX12_areParentsAccepted_56 ⟨Nat.le_of_ble_eq_true rfl, Nat.le_of_ble_eq_true rfl⟩) hP hD hS hA [] [0, 1, 2, 3] rfl rfl (by decide) (by decide) ?_
        clear hP hD hS
        try clear locs
        try clear H
        intro r_10 u_11 H locs hw_r_10 hP hD hS
        have hw_r_10 : PQ (hasB (f (80 + a)) j2) r_10 (nI 1) (nI 0) := hw_r_10
        refine W.widen (k := 0) (n := 0) (Nat.le_of_ble_eq_true rfl) (Nat.le_of_ble_eq_true rfl) ?_
        replace hP : va_P D vwCl [(hm, .inr (12, [.ref ms, .ref mkp, .int (nI km), .ref mtr, .int (nI n), .int (nI k), .int (nI al), .int (nI be), .int ea, .int pr, .ref mas, .int nq, .int po, .int (nI en), .ref mso, .ref mon, .ref mot, .ref man, .int th, .int xd, .ref mst, .ref msm, .ref mtb, .ref mti, .ref mfr, .ref mbn, .ref mbs, .ref mde, .int sF, .int sN, .int sS, .int ig, .long xa, .long xb, .ref maa, .ref mab, .ref mba, .ref mbb])), (ms, .inl (cs 0, 288, .inl f)), (mon, .inl (cs 0, 16, .inl onf)), (mot, .inl (cs 0, 16, .inl otf))] H := hP
        replace hD : va_D A [(hm, .inr (12, [.ref ms, .ref mkp, .int (nI km), .ref mtr, .int (nI n), .int (nI k), .int (nI al), .int (nI be), .int ea, .int pr, .ref mas, .int nq, .int po, .int (nI en), .ref mso, .ref mon, .ref mot, .ref man, .int th, .int xd, .ref mst, .ref msm, .ref mtb, .ref mti, .ref mfr, .ref mbn, .ref mbs, .ref mde, .int sF, .int sN, .int sS, .int ig, .long xa, .long xb, .ref maa, .ref mab, .ref mba, .ref mbb])), (ms, .inl (cs 0, 288, .inl f)), (mon, .inl (cs 0, 16, .inl onf)), (mot, .inl (cs 0, 16, .inl otf))] := hD
        refine lv_if_eq (tgt := 66) hx hb dX12_areParentsAccepted_59 (by decide) (fun c_12 => ?_) (fun c_12 => ?_)
        · -- 59 t
          refine lv_iconst (v := nI 0) hx hb dX12_areParentsAccepted_66 (by decide) ?_
          exact xreti C () (Or.inr ⟨fun q => PQ.no hw_r_10 c_12 (by decide) (q.2 j2 h_j2 e_j2), rfl⟩) hP hD hS (Nat.le_of_ble_eq_true rfl) (Nat.le_of_ble_eq_true rfl) (by decide) dX12_areParentsAccepted_67
        · -- 59 f
          refine lv_iconst (v := nI 1) hx hb dX12_areParentsAccepted_62 (by decide) ?_
          refine lv_goto (tgt := 67) hx hb dX12_areParentsAccepted_63 (by decide) ?_
          exact xreti C () (Or.inl ⟨⟨(fun j hj e => by obtain rfl : j1 = j := (nI_eq (by omega) (by omega)).mp (e_j1.symm.trans e); exact PQ.yes hw_r_6 c_8), (fun j hj e => by obtain rfl : j2 = j := (nI_eq (by omega) (by omega)).mp (e_j2.symm.trans e); exact PQ.yes hw_r_10 c_12)⟩, rfl⟩) hP hD hS (Nat.le_of_ble_eq_true rfl) (Nat.le_of_ble_eq_true rfl) (by decide) dX12_areParentsAccepted_67
    · -- 27 f
      refine lv_iconst (v := nI 0) hx hb dX12_areParentsAccepted_30 (by decide) ?_
      exact xreti C () (Or.inr ⟨fun q => PQ.no hw_r_6 c_8 (by decide) (q.1 j1 h_j1 e_j1), rfl⟩) hP hD hS (Nat.le_of_ble_eq_true rfl) (Nat.le_of_ble_eq_true rfl) (by decide) dX12_areParentsAccepted_31

theorem accM.none {en v : Nat} {sof f : Nat → Int32} {x r : Int32} (hen : en ≤ 16) (h : accM en sof f v x r) (c : ¬ (0 : Int32) ≤ r) : ∀ e, e < en → sof e = x → ¬ hasB (f (80 + v)) e := by
  rcases h with ⟨e, he, _, _, rfl⟩ | ⟨h, _⟩
  · exact absurd ((nI_leI (a := 0) (by decide) (by omega)).mpr (Nat.zero_le e)) c
  · exact h
theorem accM.some {en v : Nat} {sof f : Nat → Int32} {x r : Int32} (h : accM en sof f v x r) (c : (0 : Int32) ≤ r) : ¬ ∀ e, e < en → sof e = x → ¬ hasB (f (80 + v)) e := by
  rcases h with ⟨e, he, h1, h2, rfl⟩ | ⟨_, rfl⟩
  · exact fun q => q e he h1 h2
  · exact absurd c (by decide)

set_option maxHeartbeats 4000000 in
set_option maxRecDepth 100000 in
theorem c_X12_accepts_b (l : Launch) (D : va_G) (cs : Nat → ClassId) (hm ms mkp mtr mas mso mon mot man mst msm mtb mti mfr mbn mbs mde maa mab mba mbb : Nat) (n k al be km en : Nat) (ea pr nq po th xd sF sN sS ig : Int32) (xa xb : Int64) (f : Nat → Int32) (sof onf otf : Nat → Int32) (a k9 : Nat) (hen : en ≤ 16) (hso : inP 16 8 sof) (ha : a < 8) (hk9e : k9 < en) (hon : parF en onf) (hot : parF en otf) : xMet l D cs yX12_accepts cX12_accepts 6 (some .boolean) ({ frames := 2, cells := 0, slots := 0, locals := 44 } : Room) [.ref hm, .int (nI a), .int (nI k9)] [(hm, .inr (12, [.ref ms, .ref mkp, .int (nI km), .ref mtr, .int (nI n), .int (nI k), .int (nI al), .int (nI be), .int ea, .int pr, .ref mas, .int nq, .int po, .int (nI en), .ref mso, .ref mon, .ref mot, .ref man, .int th, .int xd, .ref mst, .ref msm, .ref mtb, .ref mti, .ref mfr, .ref mbn, .ref mbs, .ref mde, .int sF, .int sN, .int sS, .int ig, .long xa, .long xb, .ref maa, .ref mab, .ref mba, .ref mbb])), (ms, .inl (cs 0, 288, .inl f)), (mso, .inl (cs 0, 16, .inl sof)), (mon, .inl (cs 0, 16, .inl onf)), (mot, .inl (cs 0, 16, .inl otf))] (xQi D (fun (r : Int32) (fz : (Nat → Int32)) => (ripM en be ea sof onf otf a k9 f ∧ r = nI 1 ∧ rejM en sof a k9 f fz) ∨ (¬ ripM en be ea sof onf otf a k9 f ∧ r = nI 0 ∧ fz = f)) (fun (fz : (Nat → Int32)) => [(hm, .inr (12, [.ref ms, .ref mkp, .int (nI km), .ref mtr, .int (nI n), .int (nI k), .int (nI al), .int (nI be), .int ea, .int pr, .ref mas, .int nq, .int po, .int (nI en), .ref mso, .ref mon, .ref mot, .ref man, .int th, .int xd, .ref mst, .ref msm, .ref mtb, .ref mti, .ref mfr, .ref mbn, .ref mbs, .ref mde, .int sF, .int sN, .int sS, .int ig, .long xa, .long xb, .ref maa, .ref mab, .ref mba, .ref mbb])), (ms, .inl (cs 0, 288, .inl fz)), (mso, .inl (cs 0, 16, .inl sof)), (mon, .inl (cs 0, 16, .inl onf)), (mot, .inl (cs 0, 16, .inl otf))])) := by
  refine xMet.intro (by decide) (Nat.le_of_ble_eq_true rfl) ?_
  intro p e s m args below meth c A ls C hP hD hS hl
  have hx := C.1
  have hb := C.2.1
  have hz := C.2.2.2.2.1
  have hown := C.2.2.2.1
  have hA := C.2.2.2.2.2.2.2.2.2
  have hAO := C.2.2.2.2.2.2.2.2.1.2.2
  replace hl : lv_has ls 6 [(0, .ref hm), (1, .int (nI a)), (2, .int (nI k9))] := hl
  obtain ⟨H, hH⟩ : ∃ H, H = s.heap := ⟨_, rfl⟩
  replace hP : va_P D vwCl [(hm, .inr (12, [.ref ms, .ref mkp, .int (nI km), .ref mtr, .int (nI n), .int (nI k), .int (nI al), .int (nI be), .int ea, .int pr, .ref mas, .int nq, .int po, .int (nI en), .ref mso, .ref mon, .ref mot, .ref man, .int th, .int xd, .ref mst, .ref msm, .ref mtb, .ref mti, .ref mfr, .ref mbn, .ref mbs, .ref mde, .int sF, .int sN, .int sS, .int ig, .long xa, .long xb, .ref maa, .ref mab, .ref mba, .ref mbb])), (ms, .inl (cs 0, 288, .inl f)), (mso, .inl (cs 0, 16, .inl sof)), (mon, .inl (cs 0, 16, .inl onf)), (mot, .inl (cs 0, 16, .inl otf))] H := by rw [hH]; exact hP
  replace hS : va_S A s.heap H [] := by rw [hH]; exact hS
  obtain ⟨locs, hlocs⟩ : ∃ z : List Loc, z = [] := ⟨_, rfl⟩
  rw [← hlocs] at hS
  suffices hW : W p l e ({ frames := 2, cells := 0, slots := 0, locals := 44 } : Room) s m args below meth c H locs 0 0 (MQ below ((xQi D (fun (r : Int32) (fz : (Nat → Int32)) => (ripM en be ea sof onf otf a k9 f ∧ r = nI 1 ∧ rejM en sof a k9 f fz) ∨ (¬ ripM en be ea sof onf otf a k9 f ∧ r = nI 0 ∧ fz = f)) (fun (fz : (Nat → Int32)) => [(hm, .inr (12, [.ref ms, .ref mkp, .int (nI km), .ref mtr, .int (nI n), .int (nI k), .int (nI al), .int (nI be), .int ea, .int pr, .ref mas, .int nq, .int po, .int (nI en), .ref mso, .ref mon, .ref mot, .ref man, .int th, .int xd, .ref mst, .ref msm, .ref mtb, .ref mti, .ref mfr, .ref mbn, .ref mbs, .ref mde, .int sF, .int sN, .int sS, .int ig, .long xa, .long xb, .ref maa, .ref mab, .ref mba, .ref mbb])), (ms, .inl (cs 0, 288, .inl fz)), (mso, .inl (cs 0, 16, .inl sof)), (mon, .inl (cs 0, 16, .inl onf)), (mot, .inl (cs 0, 16, .inl otf))])) A) args s 0 0 A) (F0 m 0 ls []) by rw [hlocs, hH] at hW; exact hW
  clear hH hlocs
  have hk9 : k9 < 16 := by omega
  have h8t := (sT_eq hso hk9).1
  refine lv_bipush (v := nI 8) hx hb dX12_accepts_0 (by decide) ?_
  refine lv_iload_n hx hb dX12_accepts_2 rfl (lv_at hl 1 rfl) ?_
  refine lv_imul hx hb dX12_accepts_3 ?_
  refine lv_topi (nm_r (e' := nI (8 * a)) (pk_mul _ _) ?_)
  refine lv_aload_n hx hb dX12_accepts_4 rfl (lv_at hl 0 rfl) ?_
  refine xget C hP 0 rfl rfl zuX12 14 (by decide) zw5_227 rfl dX12_accepts_5 ?_
  refine lv_iload_n hx hb dX12_accepts_8 rfl (lv_at hl 2 rfl) ?_
  refine xiald C hP 2 rfl k9 rfl (by omega) (by decide) dX12_accepts_9 ?_
  refine lv_topi (nm_r (e' := nI (sT sof k9)) ((sT_eq hso (by omega)).2) ?_)
  refine lv_iadd hx hb dX12_accepts_10 ?_
  refine lv_topi (nm_r (e' := nI ((8 * a) + (sT sof k9))) (nI_add _ _) ?_)
  refine lv_istore_n (lv' := [(3, .int (nI ((8 * a) + (sT sof k9)))), (0, .ref hm), (1, .int (nI a)), (2, .int (nI k9))]) hx hb dX12_accepts_11 rfl hl (by decide) rfl ?_
  clear hl
  try clear ls
  intro ls hl
  refine lv_aload_n hx hb dX12_accepts_12 rfl (lv_at hl 1 rfl) ?_
  refine lv_iload_n hx hb dX12_accepts_13 rfl (lv_at hl 2 rfl) ?_
  refine lv_aload_n hx hb dX12_accepts_14 rfl (lv_at hl 1 rfl) ?_
  refine xget C hP 0 rfl rfl zuX12 14 (by decide) zw5_227 rfl dX12_accepts_15 ?_
  refine lv_iload_n hx hb dX12_accepts_18 rfl (lv_at hl 3 rfl) ?_
  refine xiald C hP 2 rfl k9 rfl (by omega) (by decide) dX12_accepts_19 ?_
  refine lv_topi (nm_r (e' := nI (sT sof k9)) ((sT_eq hso (by omega)).2) ?_)
  refine xi (wr := [(mon, .inl (cs 0, 16, .inl onf)), (mot, .inl (cs 0, 16, .inl otf))]) (xV (As := [.int (nI a), .int (nI (sT sof k9))]) (rest := []) C (c_X12_acceptedOf_f l D cs hm ms mkp mtr mas mso mon mot man mst msm mtb mti mfr mbn mbs mde maa mab mba mbb n k al be km en ea pr nq po th xd sF sN sS ig xa xb f a (nI (sT sof k9)) sof hen ha) kX12_310 hP hD [0, 1, 2] rfl (by decide) 0 rfl rfl rfl ⟨Nat.le_of_ble_eq_true rfl, Nat.le_of_ble_eq_true rfl⟩ rfl hl.1 rfl (Nat.le_of_ble_eq_true rfl) dX12_accepts_20 ⟨Nat.le_of_ble_eq_true rfl, Nat.le_of_ble_eq_true rfl⟩) hP hD hS hA [0, 1, 2] [3, 4] rfl rfl (by decide) (by decide) ?_
  clear hP hD hS
  try clear locs
  try clear H
  intro r_1 u_2 H locs hw_r_1 hP hD hS
  have hw_r_1 : accM en sof f a (nI (sT sof k9)) r_1 := hw_r_1
  refine W.widen (k := 0) (n := 0) (Nat.le_of_ble_eq_true rfl) (Nat.le_of_ble_eq_true rfl) ?_
  replace hP : va_P D vwCl [(mon, .inl (cs 0, 16, .inl onf)), (mot, .inl (cs 0, 16, .inl otf)), (hm, .inr (12, [.ref ms, .ref mkp, .int (nI km), .ref mtr, .int (nI n), .int (nI k), .int (nI al), .int (nI be), .int ea, .int pr, .ref mas, .int nq, .int po, .int (nI en), .ref mso, .ref mon, .ref mot, .ref man, .int th, .int xd, .ref mst, .ref msm, .ref mtb, .ref mti, .ref mfr, .ref mbn, .ref mbs, .ref mde, .int sF, .int sN, .int sS, .int ig, .long xa, .long xb, .ref maa, .ref mab, .ref mba, .ref mbb])), (ms, .inl (cs 0, 288, .inl f)), (mso, .inl (cs 0, 16, .inl sof))] H := hP
  replace hD : va_D A [(mon, .inl (cs 0, 16, .inl onf)), (mot, .inl (cs 0, 16, .inl otf)), (hm, .inr (12, [.ref ms, .ref mkp, .int (nI km), .ref mtr, .int (nI n), .int (nI k), .int (nI al), .int (nI be), .int ea, .int pr, .ref mas, .int nq, .int po, .int (nI en), .ref mso, .ref mon, .ref mot, .ref man, .int th, .int xd, .ref mst, .ref msm, .ref mtb, .ref mti, .ref mfr, .ref mbn, .ref mbs, .ref mde, .int sF, .int sN, .int sS, .int ig, .long xa, .long xb, .ref maa, .ref mab, .ref mba, .ref mbb])), (ms, .inl (cs 0, 288, .inl f)), (mso, .inl (cs 0, 16, .inl sof))] := hD
  refine lv_if_ge (tgt := 53) hx hb dX12_accepts_23 (by decide) (fun c_3 => ?_) (fun c_3 => ?_)
  · -- 23 t
    refine lv_iconst (v := nI 0) hx hb dX12_accepts_53 (by decide) ?_
    exact xreti C f (Or.inr ⟨fun q => accM.some hw_r_1 c_3 (fun e he hx => q.1 e he (hx.trans (sT_eq hso hk9).2.symm)), rfl, rfl⟩) (xP_map hP [2, 3, 4, 0, 1] rfl) (hD.sub [2, 3, 4, 0, 1] (by decide) rfl) hS (Nat.le_of_ble_eq_true rfl) (Nat.le_of_ble_eq_true rfl) (by decide) dX12_accepts_54
  · -- 23 f
    refine lv_aload_n hx hb dX12_accepts_26 rfl (lv_at hl 1 rfl) ?_
    refine xget C hP 2 rfl rfl zuX12 0 (by decide) zw5_213 rfl dX12_accepts_27 ?_
    refine lv_sipush (v := nI 160) hx hb dX12_accepts_30 (by decide) ?_
    refine lv_iload_n hx hb dX12_accepts_33 rfl (lv_at hl 0 rfl) ?_
    refine lv_iadd hx hb dX12_accepts_34 ?_
    refine lv_topi (nm_r (e' := nI (160 + ((8 * a) + (sT sof k9)))) (nI_add _ _) ?_)
    refine xiald C hP 3 rfl (160 + ((8 * a) + (sT sof k9))) rfl (by omega) (by decide) dX12_accepts_35 ?_
    refine lv_iload_n hx hb dX12_accepts_36 rfl (lv_at hl 3 rfl) ?_
    refine lv_icmp_ne (tgt := 53) hx hb dX12_accepts_37 (by decide) (fun c_4 => ?_) (fun c_4 => ?_)
    · -- 37 t
      refine lv_iconst (v := nI 0) hx hb dX12_accepts_53 (by decide) ?_
      exact xreti C f (Or.inr ⟨fun q => c_4 q.2.1, rfl, rfl⟩) (xP_map hP [2, 3, 4, 0, 1] rfl) (hD.sub [2, 3, 4, 0, 1] (by decide) rfl) hS (Nat.le_of_ble_eq_true rfl) (Nat.le_of_ble_eq_true rfl) (by decide) dX12_accepts_54
    · -- 37 f
      refine lv_aload_n hx hb dX12_accepts_40 rfl (lv_at hl 1 rfl) ?_
      refine xget C hP 2 rfl rfl zuX12 0 (by decide) zw5_213 rfl dX12_accepts_41 ?_
      refine lv_bipush (v := nI 96) hx hb dX12_accepts_44 (by decide) ?_
      refine lv_iload_n hx hb dX12_accepts_46 rfl (lv_at hl 0 rfl) ?_
      refine lv_iadd hx hb dX12_accepts_47 ?_
      refine lv_topi (nm_r (e' := nI (96 + ((8 * a) + (sT sof k9)))) (nI_add _ _) ?_)
      refine xiald C hP 3 rfl (96 + ((8 * a) + (sT sof k9))) rfl (by omega) (by decide) dX12_accepts_48 ?_
      refine lv_iload_n hx hb dX12_accepts_49 rfl (lv_at hl 3 rfl) ?_
      refine lv_icmp_eq (tgt := 55) hx hb dX12_accepts_50 (by decide) (fun c_5 => ?_) (fun c_5 => ?_)
      · -- 50 t
        refine lv_aload_n hx hb dX12_accepts_55 rfl (lv_at hl 1 rfl) ?_
        refine lv_iload_n hx hb dX12_accepts_56 rfl (lv_at hl 3 rfl) ?_
        refine xi (wr := [(mon, .inl (cs 0, 16, .inl onf)), (mot, .inl (cs 0, 16, .inl otf)), (ms, .inl (cs 0, 288, .inl f))]) (xV (As := [.int (nI k9)]) (rest := []) C (c_X12_isAlone_f l D cs hm ms mkp mtr mas mso mon mot man mst msm mtb mti mfr mbn mbs mde maa mab mba mbb n k al be km en ea pr nq po th xd sF sN sS ig xa xb k9 sof hen hk9) kX12_339 hP hD [2, 4] rfl (by decide) 0 rfl rfl rfl ⟨Nat.le_of_ble_eq_true rfl, Nat.le_of_ble_eq_true rfl⟩ rfl hl.1 rfl (Nat.le_of_ble_eq_true rfl) dX12_accepts_57 ⟨Nat.le_of_ble_eq_true rfl, Nat.le_of_ble_eq_true rfl⟩) hP hD hS hA [2, 4] [0, 1, 3] rfl rfl (by decide) (by decide) ?_
        clear hP hD hS
        try clear locs
        try clear H
        intro r_6 u_7 H locs hw_r_6 hP hD hS
        have hw_r_6 : PQ (aloM en sof k9) r_6 (nI 1) (nI 0) := hw_r_6
        refine W.widen (k := 0) (n := 0) (Nat.le_of_ble_eq_true rfl) (Nat.le_of_ble_eq_true rfl) ?_
        replace hP : va_P D vwCl [(mon, .inl (cs 0, 16, .inl onf)), (mot, .inl (cs 0, 16, .inl otf)), (ms, .inl (cs 0, 288, .inl f)), (hm, .inr (12, [.ref ms, .ref mkp, .int (nI km), .ref mtr, .int (nI n), .int (nI k), .int (nI al), .int (nI be), .int ea, .int pr, .ref mas, .int nq, .int po, .int (nI en), .ref mso, .ref mon, .ref mot, .ref man, .int th, .int xd, .ref mst, .ref msm, .ref mtb, .ref mti, .ref mfr, .ref mbn, .ref mbs, .ref mde, .int sF, .int sN, .int sS, .int ig, .long xa, .long xb, .ref maa, .ref mab, .ref mba, .ref mbb])), (mso, .inl (cs 0, 16, .inl sof))] H := hP
        replace hD : va_D A [(mon, .inl (cs 0, 16, .inl onf)), (mot, .inl (cs 0, 16, .inl otf)), (ms, .inl (cs 0, 288, .inl f)), (hm, .inr (12, [.ref ms, .ref mkp, .int (nI km), .ref mtr, .int (nI n), .int (nI k), .int (nI al), .int (nI be), .int ea, .int pr, .ref mas, .int nq, .int po, .int (nI en), .ref mso, .ref mon, .ref mot, .ref man, .int th, .int xd, .ref mst, .ref msm, .ref mtb, .ref mti, .ref mfr, .ref mbn, .ref mbs, .ref mde, .int sF, .int sN, .int sS, .int ig, .long xa, .long xb, .ref maa, .ref mab, .ref mba, .ref mbb])), (mso, .inl (cs 0, 16, .inl sof))] := hD
        refine lv_if_eq (tgt := 93) hx hb dX12_accepts_60 (by decide) (fun c_8 => ?_) (fun c_8 => ?_)
        · -- 60 t
          refine lv_iconst (v := nI 0) hx hb dX12_accepts_93 (by decide) ?_
          refine lv_istore (lv' := [(4, .int (nI 0)), (3, .int (nI ((8 * a) + (sT sof k9)))), (0, .ref hm), (1, .int (nI a)), (2, .int (nI k9))]) hx hb dX12_accepts_94 hl (by decide) rfl ?_
          clear hl
          try clear ls
          intro ls hl
          refine lv_aload_n hx hb dX12_accepts_96 rfl (lv_at hl 2 rfl) ?_
          refine xget C hP 3 rfl rfl zuX12 0 (by decide) zw5_213 rfl dX12_accepts_97 ?_
          refine lv_sipush (v := nI 224) hx hb dX12_accepts_100 (by decide) ?_
          refine lv_iload_n hx hb dX12_accepts_103 rfl (lv_at hl 1 rfl) ?_
          refine lv_iadd hx hb dX12_accepts_104 ?_
          refine lv_topi (nm_r (e' := nI (224 + ((8 * a) + (sT sof k9)))) (nI_add _ _) ?_)
          refine xiald C hP 2 rfl (224 + ((8 * a) + (sT sof k9))) rfl (by omega) (by decide) dX12_accepts_105 ?_
          refine lv_aload_n hx hb dX12_accepts_106 rfl (lv_at hl 2 rfl) ?_
          refine xget C hP 3 rfl rfl zuX12 7 (by decide) zw5_220 rfl dX12_accepts_107 ?_
          refine lv_icmp_ge (tgt := 120) hx hb dX12_accepts_110 (by decide) (fun c_9 => ?_) (fun c_9 => ?_)
          · -- 110 t
            refine lv_aload_n hx hb dX12_accepts_120 rfl (lv_at hl 2 rfl) ?_
            refine xget C hP 3 rfl rfl zuX12 0 (by decide) zw5_213 rfl dX12_accepts_121 ?_
            refine lv_bipush (v := nI 80) hx hb dX12_accepts_124 (by decide) ?_
            refine lv_iload_n hx hb dX12_accepts_126 rfl (lv_at hl 3 rfl) ?_
            refine lv_iadd hx hb dX12_accepts_127 ?_
            refine lv_topi (nm_r (e' := nI (80 + a)) (nI_add _ _) ?_)
            refine lv_dup2_11 hx hb dX12_accepts_128 rfl rfl ?_
            refine xiald C hP 2 rfl (80 + a) rfl (by omega) (by decide) dX12_accepts_129 ?_
            refine lv_iconst (v := nI 1) hx hb dX12_accepts_130 (by decide) ?_
            refine lv_iload_n hx hb dX12_accepts_131 rfl (lv_at hl 4 rfl) ?_
            refine lv_ishl hx hb dX12_accepts_132 ?_
            refine lv_ior hx hb dX12_accepts_133 ?_
            refine xiast C hP hD hS 2 rfl (80 + a) rfl (by omega) (by decide) dX12_accepts_134 ?_
            clear hP hD hS
            try clear locs
            try clear H
            intro H locs hP hD hS
            replace hP : va_P D vwCl [(mon, .inl (cs 0, 16, .inl onf)), (mot, .inl (cs 0, 16, .inl otf)), (ms, .inl (cs 0, 288, .inl (upd f (80 + a) ((f (80 + a)) ||| ((nI 1) <<< ((nI k9) &&& 31)))))), (hm, .inr (12, [.ref ms, .ref mkp, .int (nI km), .ref mtr, .int (nI n), .int (nI k), .int (nI al), .int (nI be), .int ea, .int pr, .ref mas, .int nq, .int po, .int (nI en), .ref mso, .ref mon, .ref mot, .ref man, .int th, .int xd, .ref mst, .ref msm, .ref mtb, .ref mti, .ref mfr, .ref mbn, .ref mbs, .ref mde, .int sF, .int sN, .int sS, .int ig, .long xa, .long xb, .ref maa, .ref mab, .ref mba, .ref mbb])), (mso, .inl (cs 0, 16, .inl sof))] H := hP
            replace hD : va_D A [(mon, .inl (cs 0, 16, .inl onf)), (mot, .inl (cs 0, 16, .inl otf)), (ms, .inl (cs 0, 288, .inl (upd f (80 + a) ((f (80 + a)) ||| ((nI 1) <<< ((nI k9) &&& 31)))))), (hm, .inr (12, [.ref ms, .ref mkp, .int (nI km), .ref mtr, .int (nI n), .int (nI k), .int (nI al), .int (nI be), .int ea, .int pr, .ref mas, .int nq, .int po, .int (nI en), .ref mso, .ref mon, .ref mot, .ref man, .int th, .int xd, .ref mst, .ref msm, .ref mtb, .ref mti, .ref mfr, .ref mbn, .ref mbs, .ref mde, .int sF, .int sN, .int sS, .int ig, .long xa, .long xb, .ref maa, .ref mab, .ref mba, .ref mbb])), (mso, .inl (cs 0, 16, .inl sof))] := hD
            refine lv_iconst (v := nI 0) hx hb dX12_accepts_135 (by decide) ?_
            refine lv_istore (lv' := [(5, .int (nI 0)), (4, .int (nI 0)), (3, .int (nI ((8 * a) + (sT sof k9)))), (0, .ref hm), (1, .int (nI a)), (2, .int (nI k9))]) hx hb dX12_accepts_136 hl (by decide) rfl ?_
            clear hl
            try clear ls
            intro ls hl
            have loop_10 : ∀ (n_loop_10 : Nat) (o : Nat) (f9 : Nat → Int32), (o ≤ en) → (∀ j, ¬ j = 88 + a → f9 j = upd f (80 + a) (f (80 + a) ||| bitI k9) j) → (∀ i, i < 32 → (hasB (f9 (88 + a)) i ↔ hasB (f (88 + a)) i ∨ (i < o ∧ ¬ i = k9 ∧ sof i = sof k9))) → en - o < n_loop_10 → ∀ (H : Heap) (locs : List Loc) (ls : Array Slot), va_P D vwCl [(mon, .inl (cs 0, 16, .inl onf)), (mot, .inl (cs 0, 16, .inl otf)), (ms, .inl (cs 0, 288, .inl f9)), (hm, .inr (12, [.ref ms, .ref mkp, .int (nI km), .ref mtr, .int (nI n), .int (nI k), .int (nI al), .int (nI be), .int ea, .int pr, .ref mas, .int nq, .int po, .int (nI en), .ref mso, .ref mon, .ref mot, .ref man, .int th, .int xd, .ref mst, .ref msm, .ref mtb, .ref mti, .ref mfr, .ref mbn, .ref mbs, .ref mde, .int sF, .int sN, .int sS, .int ig, .long xa, .long xb, .ref maa, .ref mab, .ref mba, .ref mbb])), (mso, .inl (cs 0, 16, .inl sof))] H → va_D A [(mon, .inl (cs 0, 16, .inl onf)), (mot, .inl (cs 0, 16, .inl otf)), (ms, .inl (cs 0, 288, .inl f9)), (hm, .inr (12, [.ref ms, .ref mkp, .int (nI km), .ref mtr, .int (nI n), .int (nI k), .int (nI al), .int (nI be), .int ea, .int pr, .ref mas, .int nq, .int po, .int (nI en), .ref mso, .ref mon, .ref mot, .ref man, .int th, .int xd, .ref mst, .ref msm, .ref mtb, .ref mti, .ref mfr, .ref mbn, .ref mbs, .ref mde, .int sF, .int sN, .int sS, .int ig, .long xa, .long xb, .ref maa, .ref mab, .ref mba, .ref mbb])), (mso, .inl (cs 0, 16, .inl sof))] → va_S A s.heap H locs → lv_has ls 6 [(5, .int (nI o)), (4, .int (nI 0)), (3, .int (nI ((8 * a) + (sT sof k9)))), (0, .ref hm), (1, .int (nI a)), (2, .int (nI k9))] → W p l e ({ frames := 2, cells := 0, slots := 0, locals := 44 } : Room) s m args below meth c H locs 0 0 (MQ below ((xQi D (fun (r : Int32) (fz : (Nat → Int32)) => (ripM en be ea sof onf otf a k9 f ∧ r = nI 1 ∧ rejM en sof a k9 f fz) ∨ (¬ ripM en be ea sof onf otf a k9 f ∧ r = nI 0 ∧ fz = f)) (fun (fz : (Nat → Int32)) => [(hm, .inr (12, [.ref ms, .ref mkp, .int (nI km), .ref mtr, .int (nI n), .int (nI k), .int (nI al), .int (nI be), .int ea, .int pr, .ref mas, .int nq, .int po, .int (nI en), .ref mso, .ref mon, .ref mot, .ref man, .int th, .int xd, .ref mst, .ref msm, .ref mtb, .ref mti, .ref mfr, .ref mbn, .ref mbs, .ref mde, .int sF, .int sN, .int sS, .int ig, .long xa, .long xb, .ref maa, .ref mab, .ref mba, .ref mbb])), (ms, .inl (cs 0, 288, .inl fz)), (mso, .inl (cs 0, 16, .inl sof)), (mon, .inl (cs 0, 16, .inl onf)), (mot, .inl (cs 0, 16, .inl otf))])) A) args s 0 0 A) (F0 m 138 ls []) := by
              intro n_loop_10
              induction n_loop_10 with
              | zero => intro o f9 h_o hrj9 hrb9 hlt H locs ls hP hD hS hl; exact absurd hlt (Nat.not_lt_zero _)
              | succ n_loop_10 ih_loop_10 =>
                intro o f9 h_o hrj9 hrb9 hlt_loop_10 H locs ls hP hD hS hl
                refine lv_iload hx hb dX12_accepts_138 (lv_at hl 0 rfl) ?_
                refine lv_aload_n hx hb dX12_accepts_140 rfl (lv_at hl 3 rfl) ?_
                refine xget C hP 3 rfl rfl zuX12 13 (by decide) zw5_226 rfl dX12_accepts_141 ?_
                refine lv_icmp_ge (tgt := 191) hx hb dX12_accepts_144 (by decide) (fun c_11 => ?_) (fun c_11 => ?_)
                · -- 144 t
                  have fc_11 : en ≤ o := nf_le (by omega) (by omega) c_11
                  refine lv_iconst (v := nI 1) hx hb dX12_accepts_191 (by decide) ?_
                  exact xreti C f9 (Or.inl ⟨⟨fun e he hx => accM.none hen hw_r_1 c_3 e he (hx.trans (sT_eq hso hk9).2), c_4, c_5, Or.inl c_9⟩, rfl, hrj9, fun i hi => by have q7 : o = en := (by omega); rw [← q7]; exact hrb9 i hi⟩) (xP_map hP [3, 2, 4, 0, 1] rfl) (hD.sub [3, 2, 4, 0, 1] (by decide) rfl) hS (Nat.le_of_ble_eq_true rfl) (Nat.le_of_ble_eq_true rfl) (by decide) dX12_accepts_192
                · -- 144 f
                  have fc_11 : o < en := nf_nle (by omega) (by omega) c_11
                  refine lv_iload hx hb dX12_accepts_147 (lv_at hl 0 rfl) ?_
                  refine lv_iload_n hx hb dX12_accepts_149 rfl (lv_at hl 5 rfl) ?_
                  refine lv_icmp_eq (tgt := 185) hx hb dX12_accepts_150 (by decide) (fun c_12 => ?_) (fun c_12 => ?_)
                  · -- 150 t
                    have fc_12 : o = k9 := nf_eq (by omega) (by omega) c_12
                    refine lv_iinc (v := nI (o + 1)) (lv' := [(5, .int (nI (o + 1))), (4, .int (nI 0)), (3, .int (nI ((8 * a) + (sT sof k9)))), (0, .ref hm), (1, .int (nI a)), (2, .int (nI k9))]) hx hb dX12_accepts_185 hl (k := 0) rfl (nI_add o 1) (by decide) rfl ?_
                    clear hl
                    try clear ls
                    intro ls hl
                    refine lv_goto (tgt := 138) hx hb dX12_accepts_188 (by decide) ?_
                    exact ih_loop_10 (o + 1) f9 (by omega) hrj9 (fun i hi => (hrb9 i hi).trans (or_congr Iff.rfl ⟨fun q => ⟨by omega, q.2⟩, fun q => ⟨by have := q.1; have := q.2.1; omega, q.2⟩⟩)) (by omega) H locs ls hP hD hS (lv_sub hl [0, 1, 2, 3, 4, 5] rfl)
                  · -- 150 f
                    have fc_12 : o ≠ k9 := nf_ne (by omega) (by omega) c_12
                    refine lv_aload_n hx hb dX12_accepts_153 rfl (lv_at hl 3 rfl) ?_
                    refine xget C hP 3 rfl rfl zuX12 14 (by decide) zw5_227 rfl dX12_accepts_154 ?_
                    refine lv_iload hx hb dX12_accepts_157 (lv_at hl 0 rfl) ?_
                    refine xiald C hP 4 rfl o rfl (by omega) (by decide) dX12_accepts_159 ?_
                    refine lv_aload_n hx hb dX12_accepts_160 rfl (lv_at hl 3 rfl) ?_
                    refine xget C hP 3 rfl rfl zuX12 14 (by decide) zw5_227 rfl dX12_accepts_161 ?_
                    refine lv_iload_n hx hb dX12_accepts_164 rfl (lv_at hl 5 rfl) ?_
                    refine xiald C hP 4 rfl k9 rfl (by omega) (by decide) dX12_accepts_165 ?_
                    refine lv_icmp_ne (tgt := 185) hx hb dX12_accepts_166 (by decide) (fun c_13 => ?_) (fun c_13 => ?_)
                    · -- 166 t
                      refine lv_iinc (v := nI (o + 1)) (lv' := [(5, .int (nI (o + 1))), (4, .int (nI 0)), (3, .int (nI ((8 * a) + (sT sof k9)))), (0, .ref hm), (1, .int (nI a)), (2, .int (nI k9))]) hx hb dX12_accepts_185 hl (k := 0) rfl (nI_add o 1) (by decide) rfl ?_
                      clear hl
                      try clear ls
                      intro ls hl
                      refine lv_goto (tgt := 138) hx hb dX12_accepts_188 (by decide) ?_
                      exact ih_loop_10 (o + 1) f9 (by omega) hrj9 (fun i hi => (hrb9 i hi).trans (or_congr Iff.rfl ⟨fun q => ⟨by omega, q.2⟩, fun q => ⟨by by_cases z : i = o; subst z; exact absurd ((fun z9 => z9) q.2.2) c_13; have := q.1; omega, q.2⟩⟩)) (by omega) H locs ls hP hD hS (lv_sub hl [0, 1, 2, 3, 4, 5] rfl)
                    · -- 166 f
                      refine lv_aload_n hx hb dX12_accepts_169 rfl (lv_at hl 3 rfl) ?_
                      refine xget C hP 3 rfl rfl zuX12 0 (by decide) zw5_213 rfl dX12_accepts_170 ?_
                      refine lv_bipush (v := nI 88) hx hb dX12_accepts_173 (by decide) ?_
                      refine lv_iload_n hx hb dX12_accepts_175 rfl (lv_at hl 4 rfl) ?_
                      refine lv_iadd hx hb dX12_accepts_176 ?_
                      refine lv_topi (nm_r (e' := nI (88 + a)) (nI_add _ _) ?_)
                      refine lv_dup2_11 hx hb dX12_accepts_177 rfl rfl ?_
                      refine xiald C hP 2 rfl (88 + a) rfl (by omega) (by decide) dX12_accepts_178 ?_
                      refine lv_iconst (v := nI 1) hx hb dX12_accepts_179 (by decide) ?_
                      refine lv_iload hx hb dX12_accepts_180 (lv_at hl 0 rfl) ?_
                      refine lv_ishl hx hb dX12_accepts_182 ?_
                      refine lv_ior hx hb dX12_accepts_183 ?_
                      refine xiast C hP hD hS 2 rfl (88 + a) rfl (by omega) (by decide) dX12_accepts_184 ?_
                      clear hP hD hS
                      try clear locs
                      try clear H
                      intro H locs hP hD hS
                      replace hP : va_P D vwCl [(mon, .inl (cs 0, 16, .inl onf)), (mot, .inl (cs 0, 16, .inl otf)), (ms, .inl (cs 0, 288, .inl (upd f9 (88 + a) ((f9 (88 + a)) ||| ((nI 1) <<< ((nI o) &&& 31)))))), (hm, .inr (12, [.ref ms, .ref mkp, .int (nI km), .ref mtr, .int (nI n), .int (nI k), .int (nI al), .int (nI be), .int ea, .int pr, .ref mas, .int nq, .int po, .int (nI en), .ref mso, .ref mon, .ref mot, .ref man, .int th, .int xd, .ref mst, .ref msm, .ref mtb, .ref mti, .ref mfr, .ref mbn, .ref mbs, .ref mde, .int sF, .int sN, .int sS, .int ig, .long xa, .long xb, .ref maa, .ref mab, .ref mba, .ref mbb])), (mso, .inl (cs 0, 16, .inl sof))] H := hP
                      replace hD : va_D A [(mon, .inl (cs 0, 16, .inl onf)), (mot, .inl (cs 0, 16, .inl otf)), (ms, .inl (cs 0, 288, .inl (upd f9 (88 + a) ((f9 (88 + a)) ||| ((nI 1) <<< ((nI o) &&& 31)))))), (hm, .inr (12, [.ref ms, .ref mkp, .int (nI km), .ref mtr, .int (nI n), .int (nI k), .int (nI al), .int (nI be), .int ea, .int pr, .ref mas, .int nq, .int po, .int (nI en), .ref mso, .ref mon, .ref mot, .ref man, .int th, .int xd, .ref mst, .ref msm, .ref mtb, .ref mti, .ref mfr, .ref mbn, .ref mbs, .ref mde, .int sF, .int sN, .int sS, .int ig, .long xa, .long xb, .ref maa, .ref mab, .ref mba, .ref mbb])), (mso, .inl (cs 0, 16, .inl sof))] := hD
                      refine lv_iinc (v := nI (o + 1)) (lv' := [(5, .int (nI (o + 1))), (4, .int (nI 0)), (3, .int (nI ((8 * a) + (sT sof k9)))), (0, .ref hm), (1, .int (nI a)), (2, .int (nI k9))]) hx hb dX12_accepts_185 hl (k := 0) rfl (nI_add o 1) (by decide) rfl ?_
                      clear hl
                      try clear ls
                      intro ls hl
                      refine lv_goto (tgt := 138) hx hb dX12_accepts_188 (by decide) ?_
                      exact ih_loop_10 (o + 1) (upd f9 (88 + a) ((f9 (88 + a)) ||| ((nI 1) <<< ((nI o) &&& 31)))) (by omega) (fun j hj => (show upd f9 (88 + a) _ j = _ by unfold upd; rw [if_neg hj]; exact hrj9 j hj)) (fun i hi => by rw [show upd f9 (88 + a) (f9 (88 + a) ||| bitI o) (88 + a) = f9 (88 + a) ||| bitI o from if_pos rfl, hasB_orbit (by omega) hi, hrb9 i hi]; constructor; (rintro ((q | q) | q); exact Or.inl q; exact Or.inr ⟨by omega, q.2⟩; exact Or.inr ⟨by omega, by rw [q]; exact fc_12, by rw [q]; exact c_13⟩); (rintro (q | q); exact Or.inl (Or.inl q); by_cases z : i = o; exact Or.inr z; exact Or.inl (Or.inr ⟨by have := q.1; omega, q.2⟩))) (by omega) H locs ls hP hD hS (lv_sub hl [0, 1, 2, 3, 4, 5] rfl)
            exact loop_10 _ 0 (upd f (80 + a) ((f (80 + a)) ||| ((nI 1) <<< ((nI k9) &&& 31)))) (by omega) (fun j hj => rfl) (fun i hi => by rw [show (upd f (80 + a) (f (80 + a) ||| bitI k9)) (88 + a) = f (88 + a) from if_neg (by omega)]; exact ⟨Or.inl, fun q => q.elim id (fun z => absurd z.1 (Nat.not_lt_zero _))⟩) (Nat.lt_succ_self _) H locs ls hP hD hS (lv_sub hl [0, 1, 2, 3, 4, 5] rfl)
          · -- 110 f
            refine lv_iload hx hb dX12_accepts_113 (lv_at hl 0 rfl) ?_
            refine lv_if_ne (tgt := 120) hx hb dX12_accepts_115 (by decide) (fun c => absurd (by decide) c) (fun _ => ?_)
            refine lv_iconst (v := nI 0) hx hb dX12_accepts_118 (by decide) ?_
            exact xreti C f (Or.inr ⟨fun q => q.2.2.2.elim c_9 (fun z => PQ.no hw_r_6 c_8 (by decide) z.1), rfl, rfl⟩) (xP_map hP [3, 2, 4, 0, 1] rfl) (hD.sub [3, 2, 4, 0, 1] (by decide) rfl) hS (Nat.le_of_ble_eq_true rfl) (Nat.le_of_ble_eq_true rfl) (by decide) dX12_accepts_119
        · -- 60 f
          refine lv_aload_n hx hb dX12_accepts_63 rfl (lv_at hl 1 rfl) ?_
          refine lv_iload_n hx hb dX12_accepts_64 rfl (lv_at hl 2 rfl) ?_
          refine lv_iload_n hx hb dX12_accepts_65 rfl (lv_at hl 3 rfl) ?_
          refine xi (wr := [(mso, .inl (cs 0, 16, .inl sof))]) (xV (As := [.int (nI a), .int (nI k9)]) (rest := []) C (c_X12_areParentsAccepted_f l D cs hm ms mkp mtr mas mso mon mot man mst msm mtb mti mfr mbn mbs mde maa mab mba mbb n k al be km en ea pr nq po th xd sF sN sS ig xa xb f a k9 onf otf hen ha hk9e hon hot) kX12_342 hP hD [3, 2, 0, 1] rfl (by decide) 0 rfl rfl rfl ⟨Nat.le_of_ble_eq_true rfl, Nat.le_of_ble_eq_true rfl⟩ rfl hl.1 rfl (Nat.le_of_ble_eq_true rfl) dX12_accepts_66 ⟨Nat.le_of_ble_eq_true rfl, Nat.le_of_ble_eq_true rfl⟩) hP hD hS hA [3, 2, 0, 1] [4] rfl rfl (by decide) (by decide) ?_
          clear hP hD hS
          try clear locs
          try clear H
          intro r_14 u_15 H locs hw_r_14 hP hD hS
          have hw_r_14 : PQ (araM onf otf f a k9) r_14 (nI 1) (nI 0) := hw_r_14
          refine W.widen (k := 0) (n := 0) (Nat.le_of_ble_eq_true rfl) (Nat.le_of_ble_eq_true rfl) ?_
          replace hP : va_P D vwCl [(mso, .inl (cs 0, 16, .inl sof)), (hm, .inr (12, [.ref ms, .ref mkp, .int (nI km), .ref mtr, .int (nI n), .int (nI k), .int (nI al), .int (nI be), .int ea, .int pr, .ref mas, .int nq, .int po, .int (nI en), .ref mso, .ref mon, .ref mot, .ref man, .int th, .int xd, .ref mst, .ref msm, .ref mtb, .ref mti, .ref mfr, .ref mbn, .ref mbs, .ref mde, .int sF, .int sN, .int sS, .int ig, .long xa, .long xb, .ref maa, .ref mab, .ref mba, .ref mbb])), (ms, .inl (cs 0, 288, .inl f)), (mon, .inl (cs 0, 16, .inl onf)), (mot, .inl (cs 0, 16, .inl otf))] H := hP
          replace hD : va_D A [(mso, .inl (cs 0, 16, .inl sof)), (hm, .inr (12, [.ref ms, .ref mkp, .int (nI km), .ref mtr, .int (nI n), .int (nI k), .int (nI al), .int (nI be), .int ea, .int pr, .ref mas, .int nq, .int po, .int (nI en), .ref mso, .ref mon, .ref mot, .ref man, .int th, .int xd, .ref mst, .ref msm, .ref mtb, .ref mti, .ref mfr, .ref mbn, .ref mbs, .ref mde, .int sF, .int sN, .int sS, .int ig, .long xa, .long xb, .ref maa, .ref mab, .ref mba, .ref mbb])), (ms, .inl (cs 0, 288, .inl f)), (mon, .inl (cs 0, 16, .inl onf)), (mot, .inl (cs 0, 16, .inl otf))] := hD
          refine lv_if_eq (tgt := 93) hx hb dX12_accepts_69 (by decide) (fun c_16 => ?_) (fun c_16 => ?_)
          · -- 69 t
            refine lv_iconst (v := nI 0) hx hb dX12_accepts_93 (by decide) ?_
            refine lv_istore (lv' := [(4, .int (nI 0)), (3, .int (nI ((8 * a) + (sT sof k9)))), (0, .ref hm), (1, .int (nI a)), (2, .int (nI k9))]) hx hb dX12_accepts_94 hl (by decide) rfl ?_
            clear hl
            try clear ls
            intro ls hl
            refine lv_aload_n hx hb dX12_accepts_96 rfl (lv_at hl 2 rfl) ?_
            refine xget C hP 1 rfl rfl zuX12 0 (by decide) zw5_213 rfl dX12_accepts_97 ?_
            refine lv_sipush (v := nI 224) hx hb dX12_accepts_100 (by decide) ?_
            refine lv_iload_n hx hb dX12_accepts_103 rfl (lv_at hl 1 rfl) ?_
            refine lv_iadd hx hb dX12_accepts_104 ?_
            refine lv_topi (nm_r (e' := nI (224 + ((8 * a) + (sT sof k9)))) (nI_add _ _) ?_)
            refine xiald C hP 2 rfl (224 + ((8 * a) + (sT sof k9))) rfl (by omega) (by decide) dX12_accepts_105 ?_
            refine lv_aload_n hx hb dX12_accepts_106 rfl (lv_at hl 2 rfl) ?_
            refine xget C hP 1 rfl rfl zuX12 7 (by decide) zw5_220 rfl dX12_accepts_107 ?_
            refine lv_icmp_ge (tgt := 120) hx hb dX12_accepts_110 (by decide) (fun c_17 => ?_) (fun c_17 => ?_)
            · -- 110 t
              refine lv_aload_n hx hb dX12_accepts_120 rfl (lv_at hl 2 rfl) ?_
              refine xget C hP 1 rfl rfl zuX12 0 (by decide) zw5_213 rfl dX12_accepts_121 ?_
              refine lv_bipush (v := nI 80) hx hb dX12_accepts_124 (by decide) ?_
              refine lv_iload_n hx hb dX12_accepts_126 rfl (lv_at hl 3 rfl) ?_
              refine lv_iadd hx hb dX12_accepts_127 ?_
              refine lv_topi (nm_r (e' := nI (80 + a)) (nI_add _ _) ?_)
              refine lv_dup2_11 hx hb dX12_accepts_128 rfl rfl ?_
              refine xiald C hP 2 rfl (80 + a) rfl (by omega) (by decide) dX12_accepts_129 ?_
              refine lv_iconst (v := nI 1) hx hb dX12_accepts_130 (by decide) ?_
              refine lv_iload_n hx hb dX12_accepts_131 rfl (lv_at hl 4 rfl) ?_
              refine lv_ishl hx hb dX12_accepts_132 ?_
              refine lv_ior hx hb dX12_accepts_133 ?_
              refine xiast C hP hD hS 2 rfl (80 + a) rfl (by omega) (by decide) dX12_accepts_134 ?_
              clear hP hD hS
              try clear locs
              try clear H
              intro H locs hP hD hS
              replace hP : va_P D vwCl [(mso, .inl (cs 0, 16, .inl sof)), (hm, .inr (12, [.ref ms, .ref mkp, .int (nI km), .ref mtr, .int (nI n), .int (nI k), .int (nI al), .int (nI be), .int ea, .int pr, .ref mas, .int nq, .int po, .int (nI en), .ref mso, .ref mon, .ref mot, .ref man, .int th, .int xd, .ref mst, .ref msm, .ref mtb, .ref mti, .ref mfr, .ref mbn, .ref mbs, .ref mde, .int sF, .int sN, .int sS, .int ig, .long xa, .long xb, .ref maa, .ref mab, .ref mba, .ref mbb])), (ms, .inl (cs 0, 288, .inl (upd f (80 + a) ((f (80 + a)) ||| ((nI 1) <<< ((nI k9) &&& 31)))))), (mon, .inl (cs 0, 16, .inl onf)), (mot, .inl (cs 0, 16, .inl otf))] H := hP
              replace hD : va_D A [(mso, .inl (cs 0, 16, .inl sof)), (hm, .inr (12, [.ref ms, .ref mkp, .int (nI km), .ref mtr, .int (nI n), .int (nI k), .int (nI al), .int (nI be), .int ea, .int pr, .ref mas, .int nq, .int po, .int (nI en), .ref mso, .ref mon, .ref mot, .ref man, .int th, .int xd, .ref mst, .ref msm, .ref mtb, .ref mti, .ref mfr, .ref mbn, .ref mbs, .ref mde, .int sF, .int sN, .int sS, .int ig, .long xa, .long xb, .ref maa, .ref mab, .ref mba, .ref mbb])), (ms, .inl (cs 0, 288, .inl (upd f (80 + a) ((f (80 + a)) ||| ((nI 1) <<< ((nI k9) &&& 31)))))), (mon, .inl (cs 0, 16, .inl onf)), (mot, .inl (cs 0, 16, .inl otf))] := hD
              refine lv_iconst (v := nI 0) hx hb dX12_accepts_135 (by decide) ?_
              refine lv_istore (lv' := [(5, .int (nI 0)), (4, .int (nI 0)), (3, .int (nI ((8 * a) + (sT sof k9)))), (0, .ref hm), (1, .int (nI a)), (2, .int (nI k9))]) hx hb dX12_accepts_136 hl (by decide) rfl ?_
              clear hl
              try clear ls
              intro ls hl
              have loop_18 : ∀ (n_loop_18 : Nat) (o : Nat) (f9 : Nat → Int32), (o ≤ en) → (∀ j, ¬ j = 88 + a → f9 j = upd f (80 + a) (f (80 + a) ||| bitI k9) j) → (∀ i, i < 32 → (hasB (f9 (88 + a)) i ↔ hasB (f (88 + a)) i ∨ (i < o ∧ ¬ i = k9 ∧ sof i = sof k9))) → en - o < n_loop_18 → ∀ (H : Heap) (locs : List Loc) (ls : Array Slot), va_P D vwCl [(mso, .inl (cs 0, 16, .inl sof)), (hm, .inr (12, [.ref ms, .ref mkp, .int (nI km), .ref mtr, .int (nI n), .int (nI k), .int (nI al), .int (nI be), .int ea, .int pr, .ref mas, .int nq, .int po, .int (nI en), .ref mso, .ref mon, .ref mot, .ref man, .int th, .int xd, .ref mst, .ref msm, .ref mtb, .ref mti, .ref mfr, .ref mbn, .ref mbs, .ref mde, .int sF, .int sN, .int sS, .int ig, .long xa, .long xb, .ref maa, .ref mab, .ref mba, .ref mbb])), (ms, .inl (cs 0, 288, .inl f9)), (mon, .inl (cs 0, 16, .inl onf)), (mot, .inl (cs 0, 16, .inl otf))] H → va_D A [(mso, .inl (cs 0, 16, .inl sof)), (hm, .inr (12, [.ref ms, .ref mkp, .int (nI km), .ref mtr, .int (nI n), .int (nI k), .int (nI al), .int (nI be), .int ea, .int pr, .ref mas, .int nq, .int po, .int (nI en), .ref mso, .ref mon, .ref mot, .ref man, .int th, .int xd, .ref mst, .ref msm, .ref mtb, .ref mti, .ref mfr, .ref mbn, .ref mbs, .ref mde, .int sF, .int sN, .int sS, .int ig, .long xa, .long xb, .ref maa, .ref mab, .ref mba, .ref mbb])), (ms, .inl (cs 0, 288, .inl f9)), (mon, .inl (cs 0, 16, .inl onf)), (mot, .inl (cs 0, 16, .inl otf))] → va_S A s.heap H locs → lv_has ls 6 [(5, .int (nI o)), (4, .int (nI 0)), (3, .int (nI ((8 * a) + (sT sof k9)))), (0, .ref hm), (1, .int (nI a)), (2, .int (nI k9))] → W p l e ({ frames := 2, cells := 0, slots := 0, locals := 44 } : Room) s m args below meth c H locs 0 0 (MQ below ((xQi D (fun (r : Int32) (fz : (Nat → Int32)) => (ripM en be ea sof onf otf a k9 f ∧ r = nI 1 ∧ rejM en sof a k9 f fz) ∨ (¬ ripM en be ea sof onf otf a k9 f ∧ r = nI 0 ∧ fz = f)) (fun (fz : (Nat → Int32)) => [(hm, .inr (12, [.ref ms, .ref mkp, .int (nI km), .ref mtr, .int (nI n), .int (nI k), .int (nI al), .int (nI be), .int ea, .int pr, .ref mas, .int nq, .int po, .int (nI en), .ref mso, .ref mon, .ref mot, .ref man, .int th, .int xd, .ref mst, .ref msm, .ref mtb, .ref mti, .ref mfr, .ref mbn, .ref mbs, .ref mde, .int sF, .int sN, .int sS, .int ig, .long xa, .long xb, .ref maa, .ref mab, .ref mba, .ref mbb])), (ms, .inl (cs 0, 288, .inl fz)), (mso, .inl (cs 0, 16, .inl sof)), (mon, .inl (cs 0, 16, .inl onf)), (mot, .inl (cs 0, 16, .inl otf))])) A) args s 0 0 A) (F0 m 138 ls []) := by
                intro n_loop_18
                induction n_loop_18 with
                | zero => intro o f9 h_o hrj9 hrb9 hlt H locs ls hP hD hS hl; exact absurd hlt (Nat.not_lt_zero _)
                | succ n_loop_18 ih_loop_18 =>
                  intro o f9 h_o hrj9 hrb9 hlt_loop_18 H locs ls hP hD hS hl
                  refine lv_iload hx hb dX12_accepts_138 (lv_at hl 0 rfl) ?_
                  refine lv_aload_n hx hb dX12_accepts_140 rfl (lv_at hl 3 rfl) ?_
                  refine xget C hP 1 rfl rfl zuX12 13 (by decide) zw5_226 rfl dX12_accepts_141 ?_
                  refine lv_icmp_ge (tgt := 191) hx hb dX12_accepts_144 (by decide) (fun c_19 => ?_) (fun c_19 => ?_)
                  · -- 144 t
                    have fc_19 : en ≤ o := nf_le (by omega) (by omega) c_19
                    refine lv_iconst (v := nI 1) hx hb dX12_accepts_191 (by decide) ?_
                    exact xreti C f9 (Or.inl ⟨⟨fun e he hx => accM.none hen hw_r_1 c_3 e he (hx.trans (sT_eq hso hk9).2), c_4, c_5, Or.inl c_17⟩, rfl, hrj9, fun i hi => by have q7 : o = en := (by omega); rw [← q7]; exact hrb9 i hi⟩) (xP_map hP [1, 2, 0, 3, 4] rfl) (hD.sub [1, 2, 0, 3, 4] (by decide) rfl) hS (Nat.le_of_ble_eq_true rfl) (Nat.le_of_ble_eq_true rfl) (by decide) dX12_accepts_192
                  · -- 144 f
                    have fc_19 : o < en := nf_nle (by omega) (by omega) c_19
                    refine lv_iload hx hb dX12_accepts_147 (lv_at hl 0 rfl) ?_
                    refine lv_iload_n hx hb dX12_accepts_149 rfl (lv_at hl 5 rfl) ?_
                    refine lv_icmp_eq (tgt := 185) hx hb dX12_accepts_150 (by decide) (fun c_20 => ?_) (fun c_20 => ?_)
                    · -- 150 t
                      have fc_20 : o = k9 := nf_eq (by omega) (by omega) c_20
                      refine lv_iinc (v := nI (o + 1)) (lv' := [(5, .int (nI (o + 1))), (4, .int (nI 0)), (3, .int (nI ((8 * a) + (sT sof k9)))), (0, .ref hm), (1, .int (nI a)), (2, .int (nI k9))]) hx hb dX12_accepts_185 hl (k := 0) rfl (nI_add o 1) (by decide) rfl ?_
                      clear hl
                      try clear ls
                      intro ls hl
                      refine lv_goto (tgt := 138) hx hb dX12_accepts_188 (by decide) ?_
                      exact ih_loop_18 (o + 1) f9 (by omega) hrj9 (fun i hi => (hrb9 i hi).trans (or_congr Iff.rfl ⟨fun q => ⟨by omega, q.2⟩, fun q => ⟨by have := q.1; have := q.2.1; omega, q.2⟩⟩)) (by omega) H locs ls hP hD hS (lv_sub hl [0, 1, 2, 3, 4, 5] rfl)
                    · -- 150 f
                      have fc_20 : o ≠ k9 := nf_ne (by omega) (by omega) c_20
                      refine lv_aload_n hx hb dX12_accepts_153 rfl (lv_at hl 3 rfl) ?_
                      refine xget C hP 1 rfl rfl zuX12 14 (by decide) zw5_227 rfl dX12_accepts_154 ?_
                      refine lv_iload hx hb dX12_accepts_157 (lv_at hl 0 rfl) ?_
                      refine xiald C hP 0 rfl o rfl (by omega) (by decide) dX12_accepts_159 ?_
                      refine lv_aload_n hx hb dX12_accepts_160 rfl (lv_at hl 3 rfl) ?_
                      refine xget C hP 1 rfl rfl zuX12 14 (by decide) zw5_227 rfl dX12_accepts_161 ?_
                      refine lv_iload_n hx hb dX12_accepts_164 rfl (lv_at hl 5 rfl) ?_
                      refine xiald C hP 0 rfl k9 rfl (by omega) (by decide) dX12_accepts_165 ?_
                      refine lv_icmp_ne (tgt := 185) hx hb dX12_accepts_166 (by decide) (fun c_21 => ?_) (fun c_21 => ?_)
                      · -- 166 t
                        refine lv_iinc (v := nI (o + 1)) (lv' := [(5, .int (nI (o + 1))), (4, .int (nI 0)), (3, .int (nI ((8 * a) + (sT sof k9)))), (0, .ref hm), (1, .int (nI a)), (2, .int (nI k9))]) hx hb dX12_accepts_185 hl (k := 0) rfl (nI_add o 1) (by decide) rfl ?_
                        clear hl
                        try clear ls
                        intro ls hl
                        refine lv_goto (tgt := 138) hx hb dX12_accepts_188 (by decide) ?_
                        exact ih_loop_18 (o + 1) f9 (by omega) hrj9 (fun i hi => (hrb9 i hi).trans (or_congr Iff.rfl ⟨fun q => ⟨by omega, q.2⟩, fun q => ⟨by by_cases z : i = o; subst z; exact absurd ((fun z9 => z9) q.2.2) c_21; have := q.1; omega, q.2⟩⟩)) (by omega) H locs ls hP hD hS (lv_sub hl [0, 1, 2, 3, 4, 5] rfl)
                      · -- 166 f
                        refine lv_aload_n hx hb dX12_accepts_169 rfl (lv_at hl 3 rfl) ?_
                        refine xget C hP 1 rfl rfl zuX12 0 (by decide) zw5_213 rfl dX12_accepts_170 ?_
                        refine lv_bipush (v := nI 88) hx hb dX12_accepts_173 (by decide) ?_
                        refine lv_iload_n hx hb dX12_accepts_175 rfl (lv_at hl 4 rfl) ?_
                        refine lv_iadd hx hb dX12_accepts_176 ?_
                        refine lv_topi (nm_r (e' := nI (88 + a)) (nI_add _ _) ?_)
                        refine lv_dup2_11 hx hb dX12_accepts_177 rfl rfl ?_
                        refine xiald C hP 2 rfl (88 + a) rfl (by omega) (by decide) dX12_accepts_178 ?_
                        refine lv_iconst (v := nI 1) hx hb dX12_accepts_179 (by decide) ?_
                        refine lv_iload hx hb dX12_accepts_180 (lv_at hl 0 rfl) ?_
                        refine lv_ishl hx hb dX12_accepts_182 ?_
                        refine lv_ior hx hb dX12_accepts_183 ?_
                        refine xiast C hP hD hS 2 rfl (88 + a) rfl (by omega) (by decide) dX12_accepts_184 ?_
                        clear hP hD hS
                        try clear locs
                        try clear H
                        intro H locs hP hD hS
                        replace hP : va_P D vwCl [(mso, .inl (cs 0, 16, .inl sof)), (hm, .inr (12, [.ref ms, .ref mkp, .int (nI km), .ref mtr, .int (nI n), .int (nI k), .int (nI al), .int (nI be), .int ea, .int pr, .ref mas, .int nq, .int po, .int (nI en), .ref mso, .ref mon, .ref mot, .ref man, .int th, .int xd, .ref mst, .ref msm, .ref mtb, .ref mti, .ref mfr, .ref mbn, .ref mbs, .ref mde, .int sF, .int sN, .int sS, .int ig, .long xa, .long xb, .ref maa, .ref mab, .ref mba, .ref mbb])), (ms, .inl (cs 0, 288, .inl (upd f9 (88 + a) ((f9 (88 + a)) ||| ((nI 1) <<< ((nI o) &&& 31)))))), (mon, .inl (cs 0, 16, .inl onf)), (mot, .inl (cs 0, 16, .inl otf))] H := hP
                        replace hD : va_D A [(mso, .inl (cs 0, 16, .inl sof)), (hm, .inr (12, [.ref ms, .ref mkp, .int (nI km), .ref mtr, .int (nI n), .int (nI k), .int (nI al), .int (nI be), .int ea, .int pr, .ref mas, .int nq, .int po, .int (nI en), .ref mso, .ref mon, .ref mot, .ref man, .int th, .int xd, .ref mst, .ref msm, .ref mtb, .ref mti, .ref mfr, .ref mbn, .ref mbs, .ref mde, .int sF, .int sN, .int sS, .int ig, .long xa, .long xb, .ref maa, .ref mab, .ref mba, .ref mbb])), (ms, .inl (cs 0, 288, .inl (upd f9 (88 + a) ((f9 (88 + a)) ||| ((nI 1) <<< ((nI o) &&& 31)))))), (mon, .inl (cs 0, 16, .inl onf)), (mot, .inl (cs 0, 16, .inl otf))] := hD
                        refine lv_iinc (v := nI (o + 1)) (lv' := [(5, .int (nI (o + 1))), (4, .int (nI 0)), (3, .int (nI ((8 * a) + (sT sof k9)))), (0, .ref hm), (1, .int (nI a)), (2, .int (nI k9))]) hx hb dX12_accepts_185 hl (k := 0) rfl (nI_add o 1) (by decide) rfl ?_
                        clear hl
                        try clear ls
                        intro ls hl
                        refine lv_goto (tgt := 138) hx hb dX12_accepts_188 (by decide) ?_
                        exact ih_loop_18 (o + 1) (upd f9 (88 + a) ((f9 (88 + a)) ||| ((nI 1) <<< ((nI o) &&& 31)))) (by omega) (fun j hj => (show upd f9 (88 + a) _ j = _ by unfold upd; rw [if_neg hj]; exact hrj9 j hj)) (fun i hi => by rw [show upd f9 (88 + a) (f9 (88 + a) ||| bitI o) (88 + a) = f9 (88 + a) ||| bitI o from if_pos rfl, hasB_orbit (by omega) hi, hrb9 i hi]; constructor; (rintro ((q | q) | q); exact Or.inl q; exact Or.inr ⟨by omega, q.2⟩; exact Or.inr ⟨by omega, by rw [q]; exact fc_20, by rw [q]; exact c_21⟩); (rintro (q | q); exact Or.inl (Or.inl q); by_cases z : i = o; exact Or.inr z; exact Or.inl (Or.inr ⟨by have := q.1; omega, q.2⟩))) (by omega) H locs ls hP hD hS (lv_sub hl [0, 1, 2, 3, 4, 5] rfl)
              exact loop_18 _ 0 (upd f (80 + a) ((f (80 + a)) ||| ((nI 1) <<< ((nI k9) &&& 31)))) (by omega) (fun j hj => rfl) (fun i hi => by rw [show (upd f (80 + a) (f (80 + a) ||| bitI k9)) (88 + a) = f (88 + a) from if_neg (by omega)]; exact ⟨Or.inl, fun q => q.elim id (fun z => absurd z.1 (Nat.not_lt_zero _))⟩) (Nat.lt_succ_self _) H locs ls hP hD hS (lv_sub hl [0, 1, 2, 3, 4, 5] rfl)
            · -- 110 f
              refine lv_iload hx hb dX12_accepts_113 (lv_at hl 0 rfl) ?_
              refine lv_if_ne (tgt := 120) hx hb dX12_accepts_115 (by decide) (fun c => absurd (by decide) c) (fun _ => ?_)
              refine lv_iconst (v := nI 0) hx hb dX12_accepts_118 (by decide) ?_
              exact xreti C f (Or.inr ⟨fun q => q.2.2.2.elim c_17 (fun z => PQ.no hw_r_14 c_16 (by decide) z.2.1), rfl, rfl⟩) (xP_map hP [1, 2, 0, 3, 4] rfl) (hD.sub [1, 2, 0, 3, 4] (by decide) rfl) hS (Nat.le_of_ble_eq_true rfl) (Nat.le_of_ble_eq_true rfl) (by decide) dX12_accepts_119
          · -- 69 f
            refine lv_aload_n hx hb dX12_accepts_72 rfl (lv_at hl 1 rfl) ?_
            refine xget C hP 1 rfl rfl zuX12 0 (by decide) zw5_213 rfl dX12_accepts_73 ?_
            refine lv_sipush (v := nI 224) hx hb dX12_accepts_76 (by decide) ?_
            refine lv_iload_n hx hb dX12_accepts_79 rfl (lv_at hl 0 rfl) ?_
            refine lv_iadd hx hb dX12_accepts_80 ?_
            refine lv_topi (nm_r (e' := nI (224 + ((8 * a) + (sT sof k9)))) (nI_add _ _) ?_)
            refine xiald C hP 2 rfl (224 + ((8 * a) + (sT sof k9))) rfl (by omega) (by decide) dX12_accepts_81 ?_
            refine lv_aload_n hx hb dX12_accepts_82 rfl (lv_at hl 1 rfl) ?_
            refine xget C hP 1 rfl rfl zuX12 8 (by decide) zw5_221 rfl dX12_accepts_83 ?_
            refine lv_icmp_lt (tgt := 93) hx hb dX12_accepts_86 (by decide) (fun c_22 => ?_) (fun c_22 => ?_)
            · -- 86 t
              refine lv_iconst (v := nI 0) hx hb dX12_accepts_93 (by decide) ?_
              refine lv_istore (lv' := [(4, .int (nI 0)), (3, .int (nI ((8 * a) + (sT sof k9)))), (0, .ref hm), (1, .int (nI a)), (2, .int (nI k9))]) hx hb dX12_accepts_94 hl (by decide) rfl ?_
              clear hl
              try clear ls
              intro ls hl
              refine lv_aload_n hx hb dX12_accepts_96 rfl (lv_at hl 2 rfl) ?_
              refine xget C hP 1 rfl rfl zuX12 0 (by decide) zw5_213 rfl dX12_accepts_97 ?_
              refine lv_sipush (v := nI 224) hx hb dX12_accepts_100 (by decide) ?_
              refine lv_iload_n hx hb dX12_accepts_103 rfl (lv_at hl 1 rfl) ?_
              refine lv_iadd hx hb dX12_accepts_104 ?_
              refine lv_topi (nm_r (e' := nI (224 + ((8 * a) + (sT sof k9)))) (nI_add _ _) ?_)
              refine xiald C hP 2 rfl (224 + ((8 * a) + (sT sof k9))) rfl (by omega) (by decide) dX12_accepts_105 ?_
              refine lv_aload_n hx hb dX12_accepts_106 rfl (lv_at hl 2 rfl) ?_
              refine xget C hP 1 rfl rfl zuX12 7 (by decide) zw5_220 rfl dX12_accepts_107 ?_
              refine lv_icmp_ge (tgt := 120) hx hb dX12_accepts_110 (by decide) (fun c_23 => ?_) (fun c_23 => ?_)
              · -- 110 t
                refine lv_aload_n hx hb dX12_accepts_120 rfl (lv_at hl 2 rfl) ?_
                refine xget C hP 1 rfl rfl zuX12 0 (by decide) zw5_213 rfl dX12_accepts_121 ?_
                refine lv_bipush (v := nI 80) hx hb dX12_accepts_124 (by decide) ?_
                refine lv_iload_n hx hb dX12_accepts_126 rfl (lv_at hl 3 rfl) ?_
                refine lv_iadd hx hb dX12_accepts_127 ?_
                refine lv_topi (nm_r (e' := nI (80 + a)) (nI_add _ _) ?_)
                refine lv_dup2_11 hx hb dX12_accepts_128 rfl rfl ?_
                refine xiald C hP 2 rfl (80 + a) rfl (by omega) (by decide) dX12_accepts_129 ?_
                refine lv_iconst (v := nI 1) hx hb dX12_accepts_130 (by decide) ?_
                refine lv_iload_n hx hb dX12_accepts_131 rfl (lv_at hl 4 rfl) ?_
                refine lv_ishl hx hb dX12_accepts_132 ?_
                refine lv_ior hx hb dX12_accepts_133 ?_
                refine xiast C hP hD hS 2 rfl (80 + a) rfl (by omega) (by decide) dX12_accepts_134 ?_
                clear hP hD hS
                try clear locs
                try clear H
                intro H locs hP hD hS
                replace hP : va_P D vwCl [(mso, .inl (cs 0, 16, .inl sof)), (hm, .inr (12, [.ref ms, .ref mkp, .int (nI km), .ref mtr, .int (nI n), .int (nI k), .int (nI al), .int (nI be), .int ea, .int pr, .ref mas, .int nq, .int po, .int (nI en), .ref mso, .ref mon, .ref mot, .ref man, .int th, .int xd, .ref mst, .ref msm, .ref mtb, .ref mti, .ref mfr, .ref mbn, .ref mbs, .ref mde, .int sF, .int sN, .int sS, .int ig, .long xa, .long xb, .ref maa, .ref mab, .ref mba, .ref mbb])), (ms, .inl (cs 0, 288, .inl (upd f (80 + a) ((f (80 + a)) ||| ((nI 1) <<< ((nI k9) &&& 31)))))), (mon, .inl (cs 0, 16, .inl onf)), (mot, .inl (cs 0, 16, .inl otf))] H := hP
                replace hD : va_D A [(mso, .inl (cs 0, 16, .inl sof)), (hm, .inr (12, [.ref ms, .ref mkp, .int (nI km), .ref mtr, .int (nI n), .int (nI k), .int (nI al), .int (nI be), .int ea, .int pr, .ref mas, .int nq, .int po, .int (nI en), .ref mso, .ref mon, .ref mot, .ref man, .int th, .int xd, .ref mst, .ref msm, .ref mtb, .ref mti, .ref mfr, .ref mbn, .ref mbs, .ref mde, .int sF, .int sN, .int sS, .int ig, .long xa, .long xb, .ref maa, .ref mab, .ref mba, .ref mbb])), (ms, .inl (cs 0, 288, .inl (upd f (80 + a) ((f (80 + a)) ||| ((nI 1) <<< ((nI k9) &&& 31)))))), (mon, .inl (cs 0, 16, .inl onf)), (mot, .inl (cs 0, 16, .inl otf))] := hD
                refine lv_iconst (v := nI 0) hx hb dX12_accepts_135 (by decide) ?_
                refine lv_istore (lv' := [(5, .int (nI 0)), (4, .int (nI 0)), (3, .int (nI ((8 * a) + (sT sof k9)))), (0, .ref hm), (1, .int (nI a)), (2, .int (nI k9))]) hx hb dX12_accepts_136 hl (by decide) rfl ?_
                clear hl
                try clear ls
                intro ls hl
                have loop_24 : ∀ (n_loop_24 : Nat) (o : Nat) (f9 : Nat → Int32), (o ≤ en) → (∀ j, ¬ j = 88 + a → f9 j = upd f (80 + a) (f (80 + a) ||| bitI k9) j) → (∀ i, i < 32 → (hasB (f9 (88 + a)) i ↔ hasB (f (88 + a)) i ∨ (i < o ∧ ¬ i = k9 ∧ sof i = sof k9))) → en - o < n_loop_24 → ∀ (H : Heap) (locs : List Loc) (ls : Array Slot), va_P D vwCl [(mso, .inl (cs 0, 16, .inl sof)), (hm, .inr (12, [.ref ms, .ref mkp, .int (nI km), .ref mtr, .int (nI n), .int (nI k), .int (nI al), .int (nI be), .int ea, .int pr, .ref mas, .int nq, .int po, .int (nI en), .ref mso, .ref mon, .ref mot, .ref man, .int th, .int xd, .ref mst, .ref msm, .ref mtb, .ref mti, .ref mfr, .ref mbn, .ref mbs, .ref mde, .int sF, .int sN, .int sS, .int ig, .long xa, .long xb, .ref maa, .ref mab, .ref mba, .ref mbb])), (ms, .inl (cs 0, 288, .inl f9)), (mon, .inl (cs 0, 16, .inl onf)), (mot, .inl (cs 0, 16, .inl otf))] H → va_D A [(mso, .inl (cs 0, 16, .inl sof)), (hm, .inr (12, [.ref ms, .ref mkp, .int (nI km), .ref mtr, .int (nI n), .int (nI k), .int (nI al), .int (nI be), .int ea, .int pr, .ref mas, .int nq, .int po, .int (nI en), .ref mso, .ref mon, .ref mot, .ref man, .int th, .int xd, .ref mst, .ref msm, .ref mtb, .ref mti, .ref mfr, .ref mbn, .ref mbs, .ref mde, .int sF, .int sN, .int sS, .int ig, .long xa, .long xb, .ref maa, .ref mab, .ref mba, .ref mbb])), (ms, .inl (cs 0, 288, .inl f9)), (mon, .inl (cs 0, 16, .inl onf)), (mot, .inl (cs 0, 16, .inl otf))] → va_S A s.heap H locs → lv_has ls 6 [(5, .int (nI o)), (4, .int (nI 0)), (3, .int (nI ((8 * a) + (sT sof k9)))), (0, .ref hm), (1, .int (nI a)), (2, .int (nI k9))] → W p l e ({ frames := 2, cells := 0, slots := 0, locals := 44 } : Room) s m args below meth c H locs 0 0 (MQ below ((xQi D (fun (r : Int32) (fz : (Nat → Int32)) => (ripM en be ea sof onf otf a k9 f ∧ r = nI 1 ∧ rejM en sof a k9 f fz) ∨ (¬ ripM en be ea sof onf otf a k9 f ∧ r = nI 0 ∧ fz = f)) (fun (fz : (Nat → Int32)) => [(hm, .inr (12, [.ref ms, .ref mkp, .int (nI km), .ref mtr, .int (nI n), .int (nI k), .int (nI al), .int (nI be), .int ea, .int pr, .ref mas, .int nq, .int po, .int (nI en), .ref mso, .ref mon, .ref mot, .ref man, .int th, .int xd, .ref mst, .ref msm, .ref mtb, .ref mti, .ref mfr, .ref mbn, .ref mbs, .ref mde, .int sF, .int sN, .int sS, .int ig, .long xa, .long xb, .ref maa, .ref mab, .ref mba, .ref mbb])), (ms, .inl (cs 0, 288, .inl fz)), (mso, .inl (cs 0, 16, .inl sof)), (mon, .inl (cs 0, 16, .inl onf)), (mot, .inl (cs 0, 16, .inl otf))])) A) args s 0 0 A) (F0 m 138 ls []) := by
                  intro n_loop_24
                  induction n_loop_24 with
                  | zero => intro o f9 h_o hrj9 hrb9 hlt H locs ls hP hD hS hl; exact absurd hlt (Nat.not_lt_zero _)
                  | succ n_loop_24 ih_loop_24 =>
                    intro o f9 h_o hrj9 hrb9 hlt_loop_24 H locs ls hP hD hS hl
                    refine lv_iload hx hb dX12_accepts_138 (lv_at hl 0 rfl) ?_
                    refine lv_aload_n hx hb dX12_accepts_140 rfl (lv_at hl 3 rfl) ?_
                    refine xget C hP 1 rfl rfl zuX12 13 (by decide) zw5_226 rfl dX12_accepts_141 ?_
                    refine lv_icmp_ge (tgt := 191) hx hb dX12_accepts_144 (by decide) (fun c_25 => ?_) (fun c_25 => ?_)
                    · -- 144 t
                      have fc_25 : en ≤ o := nf_le (by omega) (by omega) c_25
                      refine lv_iconst (v := nI 1) hx hb dX12_accepts_191 (by decide) ?_
                      exact xreti C f9 (Or.inl ⟨⟨fun e he hx => accM.none hen hw_r_1 c_3 e he (hx.trans (sT_eq hso hk9).2), c_4, c_5, Or.inl c_23⟩, rfl, hrj9, fun i hi => by have q7 : o = en := (by omega); rw [← q7]; exact hrb9 i hi⟩) (xP_map hP [1, 2, 0, 3, 4] rfl) (hD.sub [1, 2, 0, 3, 4] (by decide) rfl) hS (Nat.le_of_ble_eq_true rfl) (Nat.le_of_ble_eq_true rfl) (by decide) dX12_accepts_192
                    · -- 144 f
                      have fc_25 : o < en := nf_nle (by omega) (by omega) c_25
                      refine lv_iload hx hb dX12_accepts_147 (lv_at hl 0 rfl) ?_
                      refine lv_iload_n hx hb dX12_accepts_149 rfl (lv_at hl 5 rfl) ?_
                      refine lv_icmp_eq (tgt := 185) hx hb dX12_accepts_150 (by decide) (fun c_26 => ?_) (fun c_26 => ?_)
                      · -- 150 t
                        have fc_26 : o = k9 := nf_eq (by omega) (by omega) c_26
                        refine lv_iinc (v := nI (o + 1)) (lv' := [(5, .int (nI (o + 1))), (4, .int (nI 0)), (3, .int (nI ((8 * a) + (sT sof k9)))), (0, .ref hm), (1, .int (nI a)), (2, .int (nI k9))]) hx hb dX12_accepts_185 hl (k := 0) rfl (nI_add o 1) (by decide) rfl ?_
                        clear hl
                        try clear ls
                        intro ls hl
                        refine lv_goto (tgt := 138) hx hb dX12_accepts_188 (by decide) ?_
                        exact ih_loop_24 (o + 1) f9 (by omega) hrj9 (fun i hi => (hrb9 i hi).trans (or_congr Iff.rfl ⟨fun q => ⟨by omega, q.2⟩, fun q => ⟨by have := q.1; have := q.2.1; omega, q.2⟩⟩)) (by omega) H locs ls hP hD hS (lv_sub hl [0, 1, 2, 3, 4, 5] rfl)
                      · -- 150 f
                        have fc_26 : o ≠ k9 := nf_ne (by omega) (by omega) c_26
                        refine lv_aload_n hx hb dX12_accepts_153 rfl (lv_at hl 3 rfl) ?_
                        refine xget C hP 1 rfl rfl zuX12 14 (by decide) zw5_227 rfl dX12_accepts_154 ?_
                        refine lv_iload hx hb dX12_accepts_157 (lv_at hl 0 rfl) ?_
                        refine xiald C hP 0 rfl o rfl (by omega) (by decide) dX12_accepts_159 ?_
                        refine lv_aload_n hx hb dX12_accepts_160 rfl (lv_at hl 3 rfl) ?_
                        refine xget C hP 1 rfl rfl zuX12 14 (by decide) zw5_227 rfl dX12_accepts_161 ?_
                        refine lv_iload_n hx hb dX12_accepts_164 rfl (lv_at hl 5 rfl) ?_
                        refine xiald C hP 0 rfl k9 rfl (by omega) (by decide) dX12_accepts_165 ?_
                        refine lv_icmp_ne (tgt := 185) hx hb dX12_accepts_166 (by decide) (fun c_27 => ?_) (fun c_27 => ?_)
                        · -- 166 t
                          refine lv_iinc (v := nI (o + 1)) (lv' := [(5, .int (nI (o + 1))), (4, .int (nI 0)), (3, .int (nI ((8 * a) + (sT sof k9)))), (0, .ref hm), (1, .int (nI a)), (2, .int (nI k9))]) hx hb dX12_accepts_185 hl (k := 0) rfl (nI_add o 1) (by decide) rfl ?_
                          clear hl
                          try clear ls
                          intro ls hl
                          refine lv_goto (tgt := 138) hx hb dX12_accepts_188 (by decide) ?_
                          exact ih_loop_24 (o + 1) f9 (by omega) hrj9 (fun i hi => (hrb9 i hi).trans (or_congr Iff.rfl ⟨fun q => ⟨by omega, q.2⟩, fun q => ⟨by by_cases z : i = o; subst z; exact absurd ((fun z9 => z9) q.2.2) c_27; have := q.1; omega, q.2⟩⟩)) (by omega) H locs ls hP hD hS (lv_sub hl [0, 1, 2, 3, 4, 5] rfl)
                        · -- 166 f
                          refine lv_aload_n hx hb dX12_accepts_169 rfl (lv_at hl 3 rfl) ?_
                          refine xget C hP 1 rfl rfl zuX12 0 (by decide) zw5_213 rfl dX12_accepts_170 ?_
                          refine lv_bipush (v := nI 88) hx hb dX12_accepts_173 (by decide) ?_
                          refine lv_iload_n hx hb dX12_accepts_175 rfl (lv_at hl 4 rfl) ?_
                          refine lv_iadd hx hb dX12_accepts_176 ?_
                          refine lv_topi (nm_r (e' := nI (88 + a)) (nI_add _ _) ?_)
                          refine lv_dup2_11 hx hb dX12_accepts_177 rfl rfl ?_
                          refine xiald C hP 2 rfl (88 + a) rfl (by omega) (by decide) dX12_accepts_178 ?_
                          refine lv_iconst (v := nI 1) hx hb dX12_accepts_179 (by decide) ?_
                          refine lv_iload hx hb dX12_accepts_180 (lv_at hl 0 rfl) ?_
                          refine lv_ishl hx hb dX12_accepts_182 ?_
                          refine lv_ior hx hb dX12_accepts_183 ?_
                          refine xiast C hP hD hS 2 rfl (88 + a) rfl (by omega) (by decide) dX12_accepts_184 ?_
                          clear hP hD hS
                          try clear locs
                          try clear H
                          intro H locs hP hD hS
                          replace hP : va_P D vwCl [(mso, .inl (cs 0, 16, .inl sof)), (hm, .inr (12, [.ref ms, .ref mkp, .int (nI km), .ref mtr, .int (nI n), .int (nI k), .int (nI al), .int (nI be), .int ea, .int pr, .ref mas, .int nq, .int po, .int (nI en), .ref mso, .ref mon, .ref mot, .ref man, .int th, .int xd, .ref mst, .ref msm, .ref mtb, .ref mti, .ref mfr, .ref mbn, .ref mbs, .ref mde, .int sF, .int sN, .int sS, .int ig, .long xa, .long xb, .ref maa, .ref mab, .ref mba, .ref mbb])), (ms, .inl (cs 0, 288, .inl (upd f9 (88 + a) ((f9 (88 + a)) ||| ((nI 1) <<< ((nI o) &&& 31)))))), (mon, .inl (cs 0, 16, .inl onf)), (mot, .inl (cs 0, 16, .inl otf))] H := hP
                          replace hD : va_D A [(mso, .inl (cs 0, 16, .inl sof)), (hm, .inr (12, [.ref ms, .ref mkp, .int (nI km), .ref mtr, .int (nI n), .int (nI k), .int (nI al), .int (nI be), .int ea, .int pr, .ref mas, .int nq, .int po, .int (nI en), .ref mso, .ref mon, .ref mot, .ref man, .int th, .int xd, .ref mst, .ref msm, .ref mtb, .ref mti, .ref mfr, .ref mbn, .ref mbs, .ref mde, .int sF, .int sN, .int sS, .int ig, .long xa, .long xb, .ref maa, .ref mab, .ref mba, .ref mbb])), (ms, .inl (cs 0, 288, .inl (upd f9 (88 + a) ((f9 (88 + a)) ||| ((nI 1) <<< ((nI o) &&& 31)))))), (mon, .inl (cs 0, 16, .inl onf)), (mot, .inl (cs 0, 16, .inl otf))] := hD
                          refine lv_iinc (v := nI (o + 1)) (lv' := [(5, .int (nI (o + 1))), (4, .int (nI 0)), (3, .int (nI ((8 * a) + (sT sof k9)))), (0, .ref hm), (1, .int (nI a)), (2, .int (nI k9))]) hx hb dX12_accepts_185 hl (k := 0) rfl (nI_add o 1) (by decide) rfl ?_
                          clear hl
                          try clear ls
                          intro ls hl
                          refine lv_goto (tgt := 138) hx hb dX12_accepts_188 (by decide) ?_
                          exact ih_loop_24 (o + 1) (upd f9 (88 + a) ((f9 (88 + a)) ||| ((nI 1) <<< ((nI o) &&& 31)))) (by omega) (fun j hj => (show upd f9 (88 + a) _ j = _ by unfold upd; rw [if_neg hj]; exact hrj9 j hj)) (fun i hi => by rw [show upd f9 (88 + a) (f9 (88 + a) ||| bitI o) (88 + a) = f9 (88 + a) ||| bitI o from if_pos rfl, hasB_orbit (by omega) hi, hrb9 i hi]; constructor; (rintro ((q | q) | q); exact Or.inl q; exact Or.inr ⟨by omega, q.2⟩; exact Or.inr ⟨by omega, by rw [q]; exact fc_26, by rw [q]; exact c_27⟩); (rintro (q | q); exact Or.inl (Or.inl q); by_cases z : i = o; exact Or.inr z; exact Or.inl (Or.inr ⟨by have := q.1; omega, q.2⟩))) (by omega) H locs ls hP hD hS (lv_sub hl [0, 1, 2, 3, 4, 5] rfl)
                exact loop_24 _ 0 (upd f (80 + a) ((f (80 + a)) ||| ((nI 1) <<< ((nI k9) &&& 31)))) (by omega) (fun j hj => rfl) (fun i hi => by rw [show (upd f (80 + a) (f (80 + a) ||| bitI k9)) (88 + a) = f (88 + a) from if_neg (by omega)]; exact ⟨Or.inl, fun q => q.elim id (fun z => absurd z.1 (Nat.not_lt_zero _))⟩) (Nat.lt_succ_self _) H locs ls hP hD hS (lv_sub hl [0, 1, 2, 3, 4, 5] rfl)
              · -- 110 f
                refine lv_iload hx hb dX12_accepts_113 (lv_at hl 0 rfl) ?_
                refine lv_if_ne (tgt := 120) hx hb dX12_accepts_115 (by decide) (fun c => absurd (by decide) c) (fun _ => ?_)
                refine lv_iconst (v := nI 0) hx hb dX12_accepts_118 (by decide) ?_
                exact xreti C f (Or.inr ⟨fun q => q.2.2.2.elim c_23 (fun z => absurd z.2.2 (Int32.not_le.mpr c_22)), rfl, rfl⟩) (xP_map hP [1, 2, 0, 3, 4] rfl) (hD.sub [1, 2, 0, 3, 4] (by decide) rfl) hS (Nat.le_of_ble_eq_true rfl) (Nat.le_of_ble_eq_true rfl) (by decide) dX12_accepts_119
            · -- 86 f
              refine lv_iconst (v := nI 1) hx hb dX12_accepts_89 (by decide) ?_
              refine lv_goto (tgt := 94) hx hb dX12_accepts_90 (by decide) ?_
              refine lv_istore (lv' := [(4, .int (nI 1)), (3, .int (nI ((8 * a) + (sT sof k9)))), (0, .ref hm), (1, .int (nI a)), (2, .int (nI k9))]) hx hb dX12_accepts_94 hl (by decide) rfl ?_
              clear hl
              try clear ls
              intro ls hl
              refine lv_aload_n hx hb dX12_accepts_96 rfl (lv_at hl 2 rfl) ?_
              refine xget C hP 1 rfl rfl zuX12 0 (by decide) zw5_213 rfl dX12_accepts_97 ?_
              refine lv_sipush (v := nI 224) hx hb dX12_accepts_100 (by decide) ?_
              refine lv_iload_n hx hb dX12_accepts_103 rfl (lv_at hl 1 rfl) ?_
              refine lv_iadd hx hb dX12_accepts_104 ?_
              refine lv_topi (nm_r (e' := nI (224 + ((8 * a) + (sT sof k9)))) (nI_add _ _) ?_)
              refine xiald C hP 2 rfl (224 + ((8 * a) + (sT sof k9))) rfl (by omega) (by decide) dX12_accepts_105 ?_
              refine lv_aload_n hx hb dX12_accepts_106 rfl (lv_at hl 2 rfl) ?_
              refine xget C hP 1 rfl rfl zuX12 7 (by decide) zw5_220 rfl dX12_accepts_107 ?_
              refine lv_icmp_ge (tgt := 120) hx hb dX12_accepts_110 (by decide) (fun c_28 => ?_) (fun c_28 => ?_)
              · -- 110 t
                refine lv_aload_n hx hb dX12_accepts_120 rfl (lv_at hl 2 rfl) ?_
                refine xget C hP 1 rfl rfl zuX12 0 (by decide) zw5_213 rfl dX12_accepts_121 ?_
                refine lv_bipush (v := nI 80) hx hb dX12_accepts_124 (by decide) ?_
                refine lv_iload_n hx hb dX12_accepts_126 rfl (lv_at hl 3 rfl) ?_
                refine lv_iadd hx hb dX12_accepts_127 ?_
                refine lv_topi (nm_r (e' := nI (80 + a)) (nI_add _ _) ?_)
                refine lv_dup2_11 hx hb dX12_accepts_128 rfl rfl ?_
                refine xiald C hP 2 rfl (80 + a) rfl (by omega) (by decide) dX12_accepts_129 ?_
                refine lv_iconst (v := nI 1) hx hb dX12_accepts_130 (by decide) ?_
                refine lv_iload_n hx hb dX12_accepts_131 rfl (lv_at hl 4 rfl) ?_
                refine lv_ishl hx hb dX12_accepts_132 ?_
                refine lv_ior hx hb dX12_accepts_133 ?_
                refine xiast C hP hD hS 2 rfl (80 + a) rfl (by omega) (by decide) dX12_accepts_134 ?_
                clear hP hD hS
                try clear locs
                try clear H
                intro H locs hP hD hS
                replace hP : va_P D vwCl [(mso, .inl (cs 0, 16, .inl sof)), (hm, .inr (12, [.ref ms, .ref mkp, .int (nI km), .ref mtr, .int (nI n), .int (nI k), .int (nI al), .int (nI be), .int ea, .int pr, .ref mas, .int nq, .int po, .int (nI en), .ref mso, .ref mon, .ref mot, .ref man, .int th, .int xd, .ref mst, .ref msm, .ref mtb, .ref mti, .ref mfr, .ref mbn, .ref mbs, .ref mde, .int sF, .int sN, .int sS, .int ig, .long xa, .long xb, .ref maa, .ref mab, .ref mba, .ref mbb])), (ms, .inl (cs 0, 288, .inl (upd f (80 + a) ((f (80 + a)) ||| ((nI 1) <<< ((nI k9) &&& 31)))))), (mon, .inl (cs 0, 16, .inl onf)), (mot, .inl (cs 0, 16, .inl otf))] H := hP
                replace hD : va_D A [(mso, .inl (cs 0, 16, .inl sof)), (hm, .inr (12, [.ref ms, .ref mkp, .int (nI km), .ref mtr, .int (nI n), .int (nI k), .int (nI al), .int (nI be), .int ea, .int pr, .ref mas, .int nq, .int po, .int (nI en), .ref mso, .ref mon, .ref mot, .ref man, .int th, .int xd, .ref mst, .ref msm, .ref mtb, .ref mti, .ref mfr, .ref mbn, .ref mbs, .ref mde, .int sF, .int sN, .int sS, .int ig, .long xa, .long xb, .ref maa, .ref mab, .ref mba, .ref mbb])), (ms, .inl (cs 0, 288, .inl (upd f (80 + a) ((f (80 + a)) ||| ((nI 1) <<< ((nI k9) &&& 31)))))), (mon, .inl (cs 0, 16, .inl onf)), (mot, .inl (cs 0, 16, .inl otf))] := hD
                refine lv_iconst (v := nI 0) hx hb dX12_accepts_135 (by decide) ?_
                refine lv_istore (lv' := [(5, .int (nI 0)), (4, .int (nI 1)), (3, .int (nI ((8 * a) + (sT sof k9)))), (0, .ref hm), (1, .int (nI a)), (2, .int (nI k9))]) hx hb dX12_accepts_136 hl (by decide) rfl ?_
                clear hl
                try clear ls
                intro ls hl
                have loop_29 : ∀ (n_loop_29 : Nat) (o : Nat) (f9 : Nat → Int32), (o ≤ en) → (∀ j, ¬ j = 88 + a → f9 j = upd f (80 + a) (f (80 + a) ||| bitI k9) j) → (∀ i, i < 32 → (hasB (f9 (88 + a)) i ↔ hasB (f (88 + a)) i ∨ (i < o ∧ ¬ i = k9 ∧ sof i = sof k9))) → en - o < n_loop_29 → ∀ (H : Heap) (locs : List Loc) (ls : Array Slot), va_P D vwCl [(mso, .inl (cs 0, 16, .inl sof)), (hm, .inr (12, [.ref ms, .ref mkp, .int (nI km), .ref mtr, .int (nI n), .int (nI k), .int (nI al), .int (nI be), .int ea, .int pr, .ref mas, .int nq, .int po, .int (nI en), .ref mso, .ref mon, .ref mot, .ref man, .int th, .int xd, .ref mst, .ref msm, .ref mtb, .ref mti, .ref mfr, .ref mbn, .ref mbs, .ref mde, .int sF, .int sN, .int sS, .int ig, .long xa, .long xb, .ref maa, .ref mab, .ref mba, .ref mbb])), (ms, .inl (cs 0, 288, .inl f9)), (mon, .inl (cs 0, 16, .inl onf)), (mot, .inl (cs 0, 16, .inl otf))] H → va_D A [(mso, .inl (cs 0, 16, .inl sof)), (hm, .inr (12, [.ref ms, .ref mkp, .int (nI km), .ref mtr, .int (nI n), .int (nI k), .int (nI al), .int (nI be), .int ea, .int pr, .ref mas, .int nq, .int po, .int (nI en), .ref mso, .ref mon, .ref mot, .ref man, .int th, .int xd, .ref mst, .ref msm, .ref mtb, .ref mti, .ref mfr, .ref mbn, .ref mbs, .ref mde, .int sF, .int sN, .int sS, .int ig, .long xa, .long xb, .ref maa, .ref mab, .ref mba, .ref mbb])), (ms, .inl (cs 0, 288, .inl f9)), (mon, .inl (cs 0, 16, .inl onf)), (mot, .inl (cs 0, 16, .inl otf))] → va_S A s.heap H locs → lv_has ls 6 [(5, .int (nI o)), (4, .int (nI 1)), (3, .int (nI ((8 * a) + (sT sof k9)))), (0, .ref hm), (1, .int (nI a)), (2, .int (nI k9))] → W p l e ({ frames := 2, cells := 0, slots := 0, locals := 44 } : Room) s m args below meth c H locs 0 0 (MQ below ((xQi D (fun (r : Int32) (fz : (Nat → Int32)) => (ripM en be ea sof onf otf a k9 f ∧ r = nI 1 ∧ rejM en sof a k9 f fz) ∨ (¬ ripM en be ea sof onf otf a k9 f ∧ r = nI 0 ∧ fz = f)) (fun (fz : (Nat → Int32)) => [(hm, .inr (12, [.ref ms, .ref mkp, .int (nI km), .ref mtr, .int (nI n), .int (nI k), .int (nI al), .int (nI be), .int ea, .int pr, .ref mas, .int nq, .int po, .int (nI en), .ref mso, .ref mon, .ref mot, .ref man, .int th, .int xd, .ref mst, .ref msm, .ref mtb, .ref mti, .ref mfr, .ref mbn, .ref mbs, .ref mde, .int sF, .int sN, .int sS, .int ig, .long xa, .long xb, .ref maa, .ref mab, .ref mba, .ref mbb])), (ms, .inl (cs 0, 288, .inl fz)), (mso, .inl (cs 0, 16, .inl sof)), (mon, .inl (cs 0, 16, .inl onf)), (mot, .inl (cs 0, 16, .inl otf))])) A) args s 0 0 A) (F0 m 138 ls []) := by
                  intro n_loop_29
                  induction n_loop_29 with
                  | zero => intro o f9 h_o hrj9 hrb9 hlt H locs ls hP hD hS hl; exact absurd hlt (Nat.not_lt_zero _)
                  | succ n_loop_29 ih_loop_29 =>
                    intro o f9 h_o hrj9 hrb9 hlt_loop_29 H locs ls hP hD hS hl
                    refine lv_iload hx hb dX12_accepts_138 (lv_at hl 0 rfl) ?_
                    refine lv_aload_n hx hb dX12_accepts_140 rfl (lv_at hl 3 rfl) ?_
                    refine xget C hP 1 rfl rfl zuX12 13 (by decide) zw5_226 rfl dX12_accepts_141 ?_
                    refine lv_icmp_ge (tgt := 191) hx hb dX12_accepts_144 (by decide) (fun c_30 => ?_) (fun c_30 => ?_)
                    · -- 144 t
                      have fc_30 : en ≤ o := nf_le (by omega) (by omega) c_30
                      refine lv_iconst (v := nI 1) hx hb dX12_accepts_191 (by decide) ?_
                      exact xreti C f9 (Or.inl ⟨⟨fun e he hx => accM.none hen hw_r_1 c_3 e he (hx.trans (sT_eq hso hk9).2), c_4, c_5, Or.inl c_28⟩, rfl, hrj9, fun i hi => by have q7 : o = en := (by omega); rw [← q7]; exact hrb9 i hi⟩) (xP_map hP [1, 2, 0, 3, 4] rfl) (hD.sub [1, 2, 0, 3, 4] (by decide) rfl) hS (Nat.le_of_ble_eq_true rfl) (Nat.le_of_ble_eq_true rfl) (by decide) dX12_accepts_192
                    · -- 144 f
                      have fc_30 : o < en := nf_nle (by omega) (by omega) c_30
                      refine lv_iload hx hb dX12_accepts_147 (lv_at hl 0 rfl) ?_
                      refine lv_iload_n hx hb dX12_accepts_149 rfl (lv_at hl 5 rfl) ?_
                      refine lv_icmp_eq (tgt := 185) hx hb dX12_accepts_150 (by decide) (fun c_31 => ?_) (fun c_31 => ?_)
                      · -- 150 t
                        have fc_31 : o = k9 := nf_eq (by omega) (by omega) c_31
                        refine lv_iinc (v := nI (o + 1)) (lv' := [(5, .int (nI (o + 1))), (4, .int (nI 1)), (3, .int (nI ((8 * a) + (sT sof k9)))), (0, .ref hm), (1, .int (nI a)), (2, .int (nI k9))]) hx hb dX12_accepts_185 hl (k := 0) rfl (nI_add o 1) (by decide) rfl ?_
                        clear hl
                        try clear ls
                        intro ls hl
                        refine lv_goto (tgt := 138) hx hb dX12_accepts_188 (by decide) ?_
                        exact ih_loop_29 (o + 1) f9 (by omega) hrj9 (fun i hi => (hrb9 i hi).trans (or_congr Iff.rfl ⟨fun q => ⟨by omega, q.2⟩, fun q => ⟨by have := q.1; have := q.2.1; omega, q.2⟩⟩)) (by omega) H locs ls hP hD hS (lv_sub hl [0, 1, 2, 3, 4, 5] rfl)
                      · -- 150 f
                        have fc_31 : o ≠ k9 := nf_ne (by omega) (by omega) c_31
                        refine lv_aload_n hx hb dX12_accepts_153 rfl (lv_at hl 3 rfl) ?_
                        refine xget C hP 1 rfl rfl zuX12 14 (by decide) zw5_227 rfl dX12_accepts_154 ?_
                        refine lv_iload hx hb dX12_accepts_157 (lv_at hl 0 rfl) ?_
                        refine xiald C hP 0 rfl o rfl (by omega) (by decide) dX12_accepts_159 ?_
                        refine lv_aload_n hx hb dX12_accepts_160 rfl (lv_at hl 3 rfl) ?_
                        refine xget C hP 1 rfl rfl zuX12 14 (by decide) zw5_227 rfl dX12_accepts_161 ?_
                        refine lv_iload_n hx hb dX12_accepts_164 rfl (lv_at hl 5 rfl) ?_
                        refine xiald C hP 0 rfl k9 rfl (by omega) (by decide) dX12_accepts_165 ?_
                        refine lv_icmp_ne (tgt := 185) hx hb dX12_accepts_166 (by decide) (fun c_32 => ?_) (fun c_32 => ?_)
                        · -- 166 t
                          refine lv_iinc (v := nI (o + 1)) (lv' := [(5, .int (nI (o + 1))), (4, .int (nI 1)), (3, .int (nI ((8 * a) + (sT sof k9)))), (0, .ref hm), (1, .int (nI a)), (2, .int (nI k9))]) hx hb dX12_accepts_185 hl (k := 0) rfl (nI_add o 1) (by decide) rfl ?_
                          clear hl
                          try clear ls
                          intro ls hl
                          refine lv_goto (tgt := 138) hx hb dX12_accepts_188 (by decide) ?_
                          exact ih_loop_29 (o + 1) f9 (by omega) hrj9 (fun i hi => (hrb9 i hi).trans (or_congr Iff.rfl ⟨fun q => ⟨by omega, q.2⟩, fun q => ⟨by by_cases z : i = o; subst z; exact absurd ((fun z9 => z9) q.2.2) c_32; have := q.1; omega, q.2⟩⟩)) (by omega) H locs ls hP hD hS (lv_sub hl [0, 1, 2, 3, 4, 5] rfl)
                        · -- 166 f
                          refine lv_aload_n hx hb dX12_accepts_169 rfl (lv_at hl 3 rfl) ?_
                          refine xget C hP 1 rfl rfl zuX12 0 (by decide) zw5_213 rfl dX12_accepts_170 ?_
                          refine lv_bipush (v := nI 88) hx hb dX12_accepts_173 (by decide) ?_
                          refine lv_iload_n hx hb dX12_accepts_175 rfl (lv_at hl 4 rfl) ?_
                          refine lv_iadd hx hb dX12_accepts_176 ?_
                          refine lv_topi (nm_r (e' := nI (88 + a)) (nI_add _ _) ?_)
                          refine lv_dup2_11 hx hb dX12_accepts_177 rfl rfl ?_
                          refine xiald C hP 2 rfl (88 + a) rfl (by omega) (by decide) dX12_accepts_178 ?_
                          refine lv_iconst (v := nI 1) hx hb dX12_accepts_179 (by decide) ?_
                          refine lv_iload hx hb dX12_accepts_180 (lv_at hl 0 rfl) ?_
                          refine lv_ishl hx hb dX12_accepts_182 ?_
                          refine lv_ior hx hb dX12_accepts_183 ?_
                          refine xiast C hP hD hS 2 rfl (88 + a) rfl (by omega) (by decide) dX12_accepts_184 ?_
                          clear hP hD hS
                          try clear locs
                          try clear H
                          intro H locs hP hD hS
                          replace hP : va_P D vwCl [(mso, .inl (cs 0, 16, .inl sof)), (hm, .inr (12, [.ref ms, .ref mkp, .int (nI km), .ref mtr, .int (nI n), .int (nI k), .int (nI al), .int (nI be), .int ea, .int pr, .ref mas, .int nq, .int po, .int (nI en), .ref mso, .ref mon, .ref mot, .ref man, .int th, .int xd, .ref mst, .ref msm, .ref mtb, .ref mti, .ref mfr, .ref mbn, .ref mbs, .ref mde, .int sF, .int sN, .int sS, .int ig, .long xa, .long xb, .ref maa, .ref mab, .ref mba, .ref mbb])), (ms, .inl (cs 0, 288, .inl (upd f9 (88 + a) ((f9 (88 + a)) ||| ((nI 1) <<< ((nI o) &&& 31)))))), (mon, .inl (cs 0, 16, .inl onf)), (mot, .inl (cs 0, 16, .inl otf))] H := hP
                          replace hD : va_D A [(mso, .inl (cs 0, 16, .inl sof)), (hm, .inr (12, [.ref ms, .ref mkp, .int (nI km), .ref mtr, .int (nI n), .int (nI k), .int (nI al), .int (nI be), .int ea, .int pr, .ref mas, .int nq, .int po, .int (nI en), .ref mso, .ref mon, .ref mot, .ref man, .int th, .int xd, .ref mst, .ref msm, .ref mtb, .ref mti, .ref mfr, .ref mbn, .ref mbs, .ref mde, .int sF, .int sN, .int sS, .int ig, .long xa, .long xb, .ref maa, .ref mab, .ref mba, .ref mbb])), (ms, .inl (cs 0, 288, .inl (upd f9 (88 + a) ((f9 (88 + a)) ||| ((nI 1) <<< ((nI o) &&& 31)))))), (mon, .inl (cs 0, 16, .inl onf)), (mot, .inl (cs 0, 16, .inl otf))] := hD
                          refine lv_iinc (v := nI (o + 1)) (lv' := [(5, .int (nI (o + 1))), (4, .int (nI 1)), (3, .int (nI ((8 * a) + (sT sof k9)))), (0, .ref hm), (1, .int (nI a)), (2, .int (nI k9))]) hx hb dX12_accepts_185 hl (k := 0) rfl (nI_add o 1) (by decide) rfl ?_
                          clear hl
                          try clear ls
                          intro ls hl
                          refine lv_goto (tgt := 138) hx hb dX12_accepts_188 (by decide) ?_
                          exact ih_loop_29 (o + 1) (upd f9 (88 + a) ((f9 (88 + a)) ||| ((nI 1) <<< ((nI o) &&& 31)))) (by omega) (fun j hj => (show upd f9 (88 + a) _ j = _ by unfold upd; rw [if_neg hj]; exact hrj9 j hj)) (fun i hi => by rw [show upd f9 (88 + a) (f9 (88 + a) ||| bitI o) (88 + a) = f9 (88 + a) ||| bitI o from if_pos rfl, hasB_orbit (by omega) hi, hrb9 i hi]; constructor; (rintro ((q | q) | q); exact Or.inl q; exact Or.inr ⟨by omega, q.2⟩; exact Or.inr ⟨by omega, by rw [q]; exact fc_31, by rw [q]; exact c_32⟩); (rintro (q | q); exact Or.inl (Or.inl q); by_cases z : i = o; exact Or.inr z; exact Or.inl (Or.inr ⟨by have := q.1; omega, q.2⟩))) (by omega) H locs ls hP hD hS (lv_sub hl [0, 1, 2, 3, 4, 5] rfl)
                exact loop_29 _ 0 (upd f (80 + a) ((f (80 + a)) ||| ((nI 1) <<< ((nI k9) &&& 31)))) (by omega) (fun j hj => rfl) (fun i hi => by rw [show (upd f (80 + a) (f (80 + a) ||| bitI k9)) (88 + a) = f (88 + a) from if_neg (by omega)]; exact ⟨Or.inl, fun q => q.elim id (fun z => absurd z.1 (Nat.not_lt_zero _))⟩) (Nat.lt_succ_self _) H locs ls hP hD hS (lv_sub hl [0, 1, 2, 3, 4, 5] rfl)
              · -- 110 f
                refine lv_iload hx hb dX12_accepts_113 (lv_at hl 0 rfl) ?_
                refine lv_if_ne (tgt := 120) hx hb dX12_accepts_115 (by decide) (fun _ => ?_) (fun c => absurd c (by decide))
                refine lv_aload_n hx hb dX12_accepts_120 rfl (lv_at hl 2 rfl) ?_
                refine xget C hP 1 rfl rfl zuX12 0 (by decide) zw5_213 rfl dX12_accepts_121 ?_
                refine lv_bipush (v := nI 80) hx hb dX12_accepts_124 (by decide) ?_
                refine lv_iload_n hx hb dX12_accepts_126 rfl (lv_at hl 3 rfl) ?_
                refine lv_iadd hx hb dX12_accepts_127 ?_
                refine lv_topi (nm_r (e' := nI (80 + a)) (nI_add _ _) ?_)
                refine lv_dup2_11 hx hb dX12_accepts_128 rfl rfl ?_
                refine xiald C hP 2 rfl (80 + a) rfl (by omega) (by decide) dX12_accepts_129 ?_
                refine lv_iconst (v := nI 1) hx hb dX12_accepts_130 (by decide) ?_
                refine lv_iload_n hx hb dX12_accepts_131 rfl (lv_at hl 4 rfl) ?_
                refine lv_ishl hx hb dX12_accepts_132 ?_
                refine lv_ior hx hb dX12_accepts_133 ?_
                refine xiast C hP hD hS 2 rfl (80 + a) rfl (by omega) (by decide) dX12_accepts_134 ?_
                clear hP hD hS
                try clear locs
                try clear H
                intro H locs hP hD hS
                replace hP : va_P D vwCl [(mso, .inl (cs 0, 16, .inl sof)), (hm, .inr (12, [.ref ms, .ref mkp, .int (nI km), .ref mtr, .int (nI n), .int (nI k), .int (nI al), .int (nI be), .int ea, .int pr, .ref mas, .int nq, .int po, .int (nI en), .ref mso, .ref mon, .ref mot, .ref man, .int th, .int xd, .ref mst, .ref msm, .ref mtb, .ref mti, .ref mfr, .ref mbn, .ref mbs, .ref mde, .int sF, .int sN, .int sS, .int ig, .long xa, .long xb, .ref maa, .ref mab, .ref mba, .ref mbb])), (ms, .inl (cs 0, 288, .inl (upd f (80 + a) ((f (80 + a)) ||| ((nI 1) <<< ((nI k9) &&& 31)))))), (mon, .inl (cs 0, 16, .inl onf)), (mot, .inl (cs 0, 16, .inl otf))] H := hP
                replace hD : va_D A [(mso, .inl (cs 0, 16, .inl sof)), (hm, .inr (12, [.ref ms, .ref mkp, .int (nI km), .ref mtr, .int (nI n), .int (nI k), .int (nI al), .int (nI be), .int ea, .int pr, .ref mas, .int nq, .int po, .int (nI en), .ref mso, .ref mon, .ref mot, .ref man, .int th, .int xd, .ref mst, .ref msm, .ref mtb, .ref mti, .ref mfr, .ref mbn, .ref mbs, .ref mde, .int sF, .int sN, .int sS, .int ig, .long xa, .long xb, .ref maa, .ref mab, .ref mba, .ref mbb])), (ms, .inl (cs 0, 288, .inl (upd f (80 + a) ((f (80 + a)) ||| ((nI 1) <<< ((nI k9) &&& 31)))))), (mon, .inl (cs 0, 16, .inl onf)), (mot, .inl (cs 0, 16, .inl otf))] := hD
                refine lv_iconst (v := nI 0) hx hb dX12_accepts_135 (by decide) ?_
                refine lv_istore (lv' := [(5, .int (nI 0)), (4, .int (nI 1)), (3, .int (nI ((8 * a) + (sT sof k9)))), (0, .ref hm), (1, .int (nI a)), (2, .int (nI k9))]) hx hb dX12_accepts_136 hl (by decide) rfl ?_
                clear hl
                try clear ls
                intro ls hl
                have loop_33 : ∀ (n_loop_33 : Nat) (o : Nat) (f9 : Nat → Int32), (o ≤ en) → (∀ j, ¬ j = 88 + a → f9 j = upd f (80 + a) (f (80 + a) ||| bitI k9) j) → (∀ i, i < 32 → (hasB (f9 (88 + a)) i ↔ hasB (f (88 + a)) i ∨ (i < o ∧ ¬ i = k9 ∧ sof i = sof k9))) → en - o < n_loop_33 → ∀ (H : Heap) (locs : List Loc) (ls : Array Slot), va_P D vwCl [(mso, .inl (cs 0, 16, .inl sof)), (hm, .inr (12, [.ref ms, .ref mkp, .int (nI km), .ref mtr, .int (nI n), .int (nI k), .int (nI al), .int (nI be), .int ea, .int pr, .ref mas, .int nq, .int po, .int (nI en), .ref mso, .ref mon, .ref mot, .ref man, .int th, .int xd, .ref mst, .ref msm, .ref mtb, .ref mti, .ref mfr, .ref mbn, .ref mbs, .ref mde, .int sF, .int sN, .int sS, .int ig, .long xa, .long xb, .ref maa, .ref mab, .ref mba, .ref mbb])), (ms, .inl (cs 0, 288, .inl f9)), (mon, .inl (cs 0, 16, .inl onf)), (mot, .inl (cs 0, 16, .inl otf))] H → va_D A [(mso, .inl (cs 0, 16, .inl sof)), (hm, .inr (12, [.ref ms, .ref mkp, .int (nI km), .ref mtr, .int (nI n), .int (nI k), .int (nI al), .int (nI be), .int ea, .int pr, .ref mas, .int nq, .int po, .int (nI en), .ref mso, .ref mon, .ref mot, .ref man, .int th, .int xd, .ref mst, .ref msm, .ref mtb, .ref mti, .ref mfr, .ref mbn, .ref mbs, .ref mde, .int sF, .int sN, .int sS, .int ig, .long xa, .long xb, .ref maa, .ref mab, .ref mba, .ref mbb])), (ms, .inl (cs 0, 288, .inl f9)), (mon, .inl (cs 0, 16, .inl onf)), (mot, .inl (cs 0, 16, .inl otf))] → va_S A s.heap H locs → lv_has ls 6 [(5, .int (nI o)), (4, .int (nI 1)), (3, .int (nI ((8 * a) + (sT sof k9)))), (0, .ref hm), (1, .int (nI a)), (2, .int (nI k9))] → W p l e ({ frames := 2, cells := 0, slots := 0, locals := 44 } : Room) s m args below meth c H locs 0 0 (MQ below ((xQi D (fun (r : Int32) (fz : (Nat → Int32)) => (ripM en be ea sof onf otf a k9 f ∧ r = nI 1 ∧ rejM en sof a k9 f fz) ∨ (¬ ripM en be ea sof onf otf a k9 f ∧ r = nI 0 ∧ fz = f)) (fun (fz : (Nat → Int32)) => [(hm, .inr (12, [.ref ms, .ref mkp, .int (nI km), .ref mtr, .int (nI n), .int (nI k), .int (nI al), .int (nI be), .int ea, .int pr, .ref mas, .int nq, .int po, .int (nI en), .ref mso, .ref mon, .ref mot, .ref man, .int th, .int xd, .ref mst, .ref msm, .ref mtb, .ref mti, .ref mfr, .ref mbn, .ref mbs, .ref mde, .int sF, .int sN, .int sS, .int ig, .long xa, .long xb, .ref maa, .ref mab, .ref mba, .ref mbb])), (ms, .inl (cs 0, 288, .inl fz)), (mso, .inl (cs 0, 16, .inl sof)), (mon, .inl (cs 0, 16, .inl onf)), (mot, .inl (cs 0, 16, .inl otf))])) A) args s 0 0 A) (F0 m 138 ls []) := by
                  intro n_loop_33
                  induction n_loop_33 with
                  | zero => intro o f9 h_o hrj9 hrb9 hlt H locs ls hP hD hS hl; exact absurd hlt (Nat.not_lt_zero _)
                  | succ n_loop_33 ih_loop_33 =>
                    intro o f9 h_o hrj9 hrb9 hlt_loop_33 H locs ls hP hD hS hl
                    refine lv_iload hx hb dX12_accepts_138 (lv_at hl 0 rfl) ?_
                    refine lv_aload_n hx hb dX12_accepts_140 rfl (lv_at hl 3 rfl) ?_
                    refine xget C hP 1 rfl rfl zuX12 13 (by decide) zw5_226 rfl dX12_accepts_141 ?_
                    refine lv_icmp_ge (tgt := 191) hx hb dX12_accepts_144 (by decide) (fun c_34 => ?_) (fun c_34 => ?_)
                    · -- 144 t
                      have fc_34 : en ≤ o := nf_le (by omega) (by omega) c_34
                      refine lv_iconst (v := nI 1) hx hb dX12_accepts_191 (by decide) ?_
                      exact xreti C f9 (Or.inl ⟨⟨fun e he hx => accM.none hen hw_r_1 c_3 e he (hx.trans (sT_eq hso hk9).2), c_4, c_5, Or.inr ⟨PQ.yes hw_r_6 c_8, PQ.yes hw_r_14 c_16, Int32.not_lt.mp c_22⟩⟩, rfl, hrj9, fun i hi => by have q7 : o = en := (by omega); rw [← q7]; exact hrb9 i hi⟩) (xP_map hP [1, 2, 0, 3, 4] rfl) (hD.sub [1, 2, 0, 3, 4] (by decide) rfl) hS (Nat.le_of_ble_eq_true rfl) (Nat.le_of_ble_eq_true rfl) (by decide) dX12_accepts_192
                    · -- 144 f
                      have fc_34 : o < en := nf_nle (by omega) (by omega) c_34
                      refine lv_iload hx hb dX12_accepts_147 (lv_at hl 0 rfl) ?_
                      refine lv_iload_n hx hb dX12_accepts_149 rfl (lv_at hl 5 rfl) ?_
                      refine lv_icmp_eq (tgt := 185) hx hb dX12_accepts_150 (by decide) (fun c_35 => ?_) (fun c_35 => ?_)
                      · -- 150 t
                        have fc_35 : o = k9 := nf_eq (by omega) (by omega) c_35
                        refine lv_iinc (v := nI (o + 1)) (lv' := [(5, .int (nI (o + 1))), (4, .int (nI 1)), (3, .int (nI ((8 * a) + (sT sof k9)))), (0, .ref hm), (1, .int (nI a)), (2, .int (nI k9))]) hx hb dX12_accepts_185 hl (k := 0) rfl (nI_add o 1) (by decide) rfl ?_
                        clear hl
                        try clear ls
                        intro ls hl
                        refine lv_goto (tgt := 138) hx hb dX12_accepts_188 (by decide) ?_
                        exact ih_loop_33 (o + 1) f9 (by omega) hrj9 (fun i hi => (hrb9 i hi).trans (or_congr Iff.rfl ⟨fun q => ⟨by omega, q.2⟩, fun q => ⟨by have := q.1; have := q.2.1; omega, q.2⟩⟩)) (by omega) H locs ls hP hD hS (lv_sub hl [0, 1, 2, 3, 4, 5] rfl)
                      · -- 150 f
                        have fc_35 : o ≠ k9 := nf_ne (by omega) (by omega) c_35
                        refine lv_aload_n hx hb dX12_accepts_153 rfl (lv_at hl 3 rfl) ?_
                        refine xget C hP 1 rfl rfl zuX12 14 (by decide) zw5_227 rfl dX12_accepts_154 ?_
                        refine lv_iload hx hb dX12_accepts_157 (lv_at hl 0 rfl) ?_
                        refine xiald C hP 0 rfl o rfl (by omega) (by decide) dX12_accepts_159 ?_
                        refine lv_aload_n hx hb dX12_accepts_160 rfl (lv_at hl 3 rfl) ?_
                        refine xget C hP 1 rfl rfl zuX12 14 (by decide) zw5_227 rfl dX12_accepts_161 ?_
                        refine lv_iload_n hx hb dX12_accepts_164 rfl (lv_at hl 5 rfl) ?_
                        refine xiald C hP 0 rfl k9 rfl (by omega) (by decide) dX12_accepts_165 ?_
                        refine lv_icmp_ne (tgt := 185) hx hb dX12_accepts_166 (by decide) (fun c_36 => ?_) (fun c_36 => ?_)
                        · -- 166 t
                          refine lv_iinc (v := nI (o + 1)) (lv' := [(5, .int (nI (o + 1))), (4, .int (nI 1)), (3, .int (nI ((8 * a) + (sT sof k9)))), (0, .ref hm), (1, .int (nI a)), (2, .int (nI k9))]) hx hb dX12_accepts_185 hl (k := 0) rfl (nI_add o 1) (by decide) rfl ?_
                          clear hl
                          try clear ls
                          intro ls hl
                          refine lv_goto (tgt := 138) hx hb dX12_accepts_188 (by decide) ?_
                          exact ih_loop_33 (o + 1) f9 (by omega) hrj9 (fun i hi => (hrb9 i hi).trans (or_congr Iff.rfl ⟨fun q => ⟨by omega, q.2⟩, fun q => ⟨by by_cases z : i = o; subst z; exact absurd ((fun z9 => z9) q.2.2) c_36; have := q.1; omega, q.2⟩⟩)) (by omega) H locs ls hP hD hS (lv_sub hl [0, 1, 2, 3, 4, 5] rfl)
                        · -- 166 f
                          refine lv_aload_n hx hb dX12_accepts_169 rfl (lv_at hl 3 rfl) ?_
                          refine xget C hP 1 rfl rfl zuX12 0 (by decide) zw5_213 rfl dX12_accepts_170 ?_
                          refine lv_bipush (v := nI 88) hx hb dX12_accepts_173 (by decide) ?_
                          refine lv_iload_n hx hb dX12_accepts_175 rfl (lv_at hl 4 rfl) ?_
                          refine lv_iadd hx hb dX12_accepts_176 ?_
                          refine lv_topi (nm_r (e' := nI (88 + a)) (nI_add _ _) ?_)
                          refine lv_dup2_11 hx hb dX12_accepts_177 rfl rfl ?_
                          refine xiald C hP 2 rfl (88 + a) rfl (by omega) (by decide) dX12_accepts_178 ?_
                          refine lv_iconst (v := nI 1) hx hb dX12_accepts_179 (by decide) ?_
                          refine lv_iload hx hb dX12_accepts_180 (lv_at hl 0 rfl) ?_
                          refine lv_ishl hx hb dX12_accepts_182 ?_
                          refine lv_ior hx hb dX12_accepts_183 ?_
                          refine xiast C hP hD hS 2 rfl (88 + a) rfl (by omega) (by decide) dX12_accepts_184 ?_
                          clear hP hD hS
                          try clear locs
                          try clear H
                          intro H locs hP hD hS
                          replace hP : va_P D vwCl [(mso, .inl (cs 0, 16, .inl sof)), (hm, .inr (12, [.ref ms, .ref mkp, .int (nI km), .ref mtr, .int (nI n), .int (nI k), .int (nI al), .int (nI be), .int ea, .int pr, .ref mas, .int nq, .int po, .int (nI en), .ref mso, .ref mon, .ref mot, .ref man, .int th, .int xd, .ref mst, .ref msm, .ref mtb, .ref mti, .ref mfr, .ref mbn, .ref mbs, .ref mde, .int sF, .int sN, .int sS, .int ig, .long xa, .long xb, .ref maa, .ref mab, .ref mba, .ref mbb])), (ms, .inl (cs 0, 288, .inl (upd f9 (88 + a) ((f9 (88 + a)) ||| ((nI 1) <<< ((nI o) &&& 31)))))), (mon, .inl (cs 0, 16, .inl onf)), (mot, .inl (cs 0, 16, .inl otf))] H := hP
                          replace hD : va_D A [(mso, .inl (cs 0, 16, .inl sof)), (hm, .inr (12, [.ref ms, .ref mkp, .int (nI km), .ref mtr, .int (nI n), .int (nI k), .int (nI al), .int (nI be), .int ea, .int pr, .ref mas, .int nq, .int po, .int (nI en), .ref mso, .ref mon, .ref mot, .ref man, .int th, .int xd, .ref mst, .ref msm, .ref mtb, .ref mti, .ref mfr, .ref mbn, .ref mbs, .ref mde, .int sF, .int sN, .int sS, .int ig, .long xa, .long xb, .ref maa, .ref mab, .ref mba, .ref mbb])), (ms, .inl (cs 0, 288, .inl (upd f9 (88 + a) ((f9 (88 + a)) ||| ((nI 1) <<< ((nI o) &&& 31)))))), (mon, .inl (cs 0, 16, .inl onf)), (mot, .inl (cs 0, 16, .inl otf))] := hD
                          refine lv_iinc (v := nI (o + 1)) (lv' := [(5, .int (nI (o + 1))), (4, .int (nI 1)), (3, .int (nI ((8 * a) + (sT sof k9)))), (0, .ref hm), (1, .int (nI a)), (2, .int (nI k9))]) hx hb dX12_accepts_185 hl (k := 0) rfl (nI_add o 1) (by decide) rfl ?_
                          clear hl
                          try clear ls
                          intro ls hl
                          refine lv_goto (tgt := 138) hx hb dX12_accepts_188 (by decide) ?_
                          exact ih_loop_33 (o + 1) (upd f9 (88 + a) ((f9 (88 + a)) ||| ((nI 1) <<< ((nI o) &&& 31)))) (by omega) (fun j hj => (show upd f9 (88 + a) _ j = _ by unfold upd; rw [if_neg hj]; exact hrj9 j hj)) (fun i hi => by rw [show upd f9 (88 + a) (f9 (88 + a) ||| bitI o) (88 + a) = f9 (88 + a) ||| bitI o from if_pos rfl, hasB_orbit (by omega) hi, hrb9 i hi]; constructor; (rintro ((q | q) | q); exact Or.inl q; exact Or.inr ⟨by omega, q.2⟩; exact Or.inr ⟨by omega, by rw [q]; exact fc_35, by rw [q]; exact c_36⟩); (rintro (q | q); exact Or.inl (Or.inl q); by_cases z : i = o; exact Or.inr z; exact Or.inl (Or.inr ⟨by have := q.1; omega, q.2⟩))) (by omega) H locs ls hP hD hS (lv_sub hl [0, 1, 2, 3, 4, 5] rfl)
                exact loop_33 _ 0 (upd f (80 + a) ((f (80 + a)) ||| ((nI 1) <<< ((nI k9) &&& 31)))) (by omega) (fun j hj => rfl) (fun i hi => by rw [show (upd f (80 + a) (f (80 + a) ||| bitI k9)) (88 + a) = f (88 + a) from if_neg (by omega)]; exact ⟨Or.inl, fun q => q.elim id (fun z => absurd z.1 (Nat.not_lt_zero _))⟩) (Nat.lt_succ_self _) H locs ls hP hD hS (lv_sub hl [0, 1, 2, 3, 4, 5] rfl)
      · -- 50 f
        refine lv_iconst (v := nI 0) hx hb dX12_accepts_53 (by decide) ?_
        exact xreti C f (Or.inr ⟨fun q => c_5 q.2.2.1, rfl, rfl⟩) (xP_map hP [2, 3, 4, 0, 1] rfl) (hD.sub [2, 3, 4, 0, 1] (by decide) rfl) hS (Nat.le_of_ble_eq_true rfl) (Nat.le_of_ble_eq_true rfl) (by decide) dX12_accepts_54
