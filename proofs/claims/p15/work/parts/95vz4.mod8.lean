set_option maxHeartbeats 4000000 in
set_option maxRecDepth 100000 in
theorem c_X12_marks_f (l : Launch) (D : va_G) (cs : Nat → ClassId) (hm ms mkp mtr mas mso mon mot man mst msm mtb mti mfr mbn mbs mde maa mab mba mbb : Nat) (n k al be km en : Nat) (ea pr nq po th xd sF sN sS ig : Int32) (xa xb : Int64) (f : Nat → Int32) (a k9 : Nat) (x : Int32) (sof anf : Nat → Int32) (hen : en ≤ 16) (hso : inP 16 8 sof) (ha : a < 8) (hk9 : k9 < 16) : xMet l D cs yX12_marks cX12_marks 5 none ({ frames := 3, cells := 0, slots := 0, locals := 66 } : Room) [.ref hm, .int (nI a), .int (nI k9), .int x] [(hm, .inr (12, [.ref ms, .ref mkp, .int (nI km), .ref mtr, .int (nI n), .int (nI k), .int (nI al), .int (nI be), .int ea, .int pr, .ref mas, .int nq, .int po, .int (nI en), .ref mso, .ref mon, .ref mot, .ref man, .int th, .int xd, .ref mst, .ref msm, .ref mtb, .ref mti, .ref mfr, .ref mbn, .ref mbs, .ref mde, .int sF, .int sN, .int sS, .int ig, .long xa, .long xb, .ref maa, .ref mab, .ref mba, .ref mbb])), (ms, .inl (cs 0, 288, .inl f)), (mso, .inl (cs 0, 16, .inl sof)), (man, .inl (cs 0, 16, .inl anf))] (xQv D (fun (fz : (Nat → Int32)) => lowE f fz) (fun (fz : (Nat → Int32)) => [(hm, .inr (12, [.ref ms, .ref mkp, .int (nI km), .ref mtr, .int (nI n), .int (nI k), .int (nI al), .int (nI be), .int ea, .int pr, .ref mas, .int nq, .int po, .int (nI en), .ref mso, .ref mon, .ref mot, .ref man, .int th, .int xd, .ref mst, .ref msm, .ref mtb, .ref mti, .ref mfr, .ref mbn, .ref mbs, .ref mde, .int sF, .int sN, .int sS, .int ig, .long xa, .long xb, .ref maa, .ref mab, .ref mba, .ref mbb])), (ms, .inl (cs 0, 288, .inl fz)), (mso, .inl (cs 0, 16, .inl sof)), (man, .inl (cs 0, 16, .inl anf))])) := by
  refine xMet.intro (by decide) (Nat.le_of_ble_eq_true rfl) ?_
  intro p e s m args below meth c A ls C hP hD hS hl
  have hx := C.1
  have hb := C.2.1
  have hz := C.2.2.2.2.1
  have hown := C.2.2.2.1
  have hA := C.2.2.2.2.2.2.2.2.2
  have hAO := C.2.2.2.2.2.2.2.2.1.2.2
  replace hl : lv_has ls 5 [(0, .ref hm), (1, .int (nI a)), (2, .int (nI k9)), (3, .int x)] := hl
  obtain ⟨H, hH⟩ : ∃ H, H = s.heap := ⟨_, rfl⟩
  replace hP : va_P D vwCl [(hm, .inr (12, [.ref ms, .ref mkp, .int (nI km), .ref mtr, .int (nI n), .int (nI k), .int (nI al), .int (nI be), .int ea, .int pr, .ref mas, .int nq, .int po, .int (nI en), .ref mso, .ref mon, .ref mot, .ref man, .int th, .int xd, .ref mst, .ref msm, .ref mtb, .ref mti, .ref mfr, .ref mbn, .ref mbs, .ref mde, .int sF, .int sN, .int sS, .int ig, .long xa, .long xb, .ref maa, .ref mab, .ref mba, .ref mbb])), (ms, .inl (cs 0, 288, .inl f)), (mso, .inl (cs 0, 16, .inl sof)), (man, .inl (cs 0, 16, .inl anf))] H := by rw [hH]; exact hP
  replace hS : va_S A s.heap H [] := by rw [hH]; exact hS
  obtain ⟨locs, hlocs⟩ : ∃ z : List Loc, z = [] := ⟨_, rfl⟩
  rw [← hlocs] at hS
  suffices hW : W p l e ({ frames := 3, cells := 0, slots := 0, locals := 66 } : Room) s m args below meth c H locs 0 0 (MQ below ((xQv D (fun (fz : (Nat → Int32)) => lowE f fz) (fun (fz : (Nat → Int32)) => [(hm, .inr (12, [.ref ms, .ref mkp, .int (nI km), .ref mtr, .int (nI n), .int (nI k), .int (nI al), .int (nI be), .int ea, .int pr, .ref mas, .int nq, .int po, .int (nI en), .ref mso, .ref mon, .ref mot, .ref man, .int th, .int xd, .ref mst, .ref msm, .ref mtb, .ref mti, .ref mfr, .ref mbn, .ref mbs, .ref mde, .int sF, .int sN, .int sS, .int ig, .long xa, .long xb, .ref maa, .ref mab, .ref mba, .ref mbb])), (ms, .inl (cs 0, 288, .inl fz)), (mso, .inl (cs 0, 16, .inl sof)), (man, .inl (cs 0, 16, .inl anf))])) A) args s 0 0 A) (F0 m 0 ls []) by rw [hlocs, hH] at hW; exact hW
  clear hH hlocs
  refine lv_bipush (v := nI 8) hx hb dX12_marks_0 (by decide) ?_
  refine lv_iload_n hx hb dX12_marks_2 rfl (lv_at hl 1 rfl) ?_
  refine lv_imul hx hb dX12_marks_3 ?_
  refine lv_topi (nm_r (e' := nI (8 * a)) (pk_mul _ _) ?_)
  refine lv_aload_n hx hb dX12_marks_4 rfl (lv_at hl 0 rfl) ?_
  refine xget C hP 0 rfl rfl zuX12 14 (by decide) zw5_227 rfl dX12_marks_5 ?_
  refine lv_iload_n hx hb dX12_marks_8 rfl (lv_at hl 2 rfl) ?_
  refine xiald C hP 2 rfl k9 rfl (by omega) (by decide) dX12_marks_9 ?_
  obtain ⟨t_1, h_t_1, e_t_1⟩ := (hso k9 (by omega))
  refine lv_topi (nm_r (e' := nI t_1) e_t_1 ?_)
  refine lv_iadd hx hb dX12_marks_10 ?_
  refine lv_topi (nm_r (e' := nI ((8 * a) + t_1)) (nI_add _ _) ?_)
  refine lv_istore (lv' := [(4, .int (nI ((8 * a) + t_1))), (0, .ref hm), (1, .int (nI a)), (2, .int (nI k9)), (3, .int x)]) hx hb dX12_marks_11 hl (by decide) rfl ?_
  clear hl
  try clear ls
  intro ls hl
  refine lv_iload_n hx hb dX12_marks_13 rfl (lv_at hl 4 rfl) ?_
  refine lv_if_ne (tgt := 30) hx hb dX12_marks_14 (by decide) (fun c_2 => ?_) (fun c_2 => ?_)
  · -- 14 t
    refine lv_aload_n hx hb dX12_marks_30 rfl (lv_at hl 1 rfl) ?_
    refine lv_iload_n hx hb dX12_marks_31 rfl (lv_at hl 2 rfl) ?_
    refine lv_iload_n hx hb dX12_marks_32 rfl (lv_at hl 3 rfl) ?_
    refine xi (wr := [(mso, .inl (cs 0, 16, .inl sof))]) (xV (As := [.int (nI a), .int (nI k9)]) (rest := []) C (c_X12_confOf l D cs hm ms mkp mtr mas mso mon mot man mst msm mtb mti mfr mbn mbs mde maa mab mba mbb n k al be km en ea pr nq po th xd sF sN sS ig xa xb f a (nI k9) anf hen ha) kX12_336 hP hD [0, 1, 3] rfl (by decide) 0 rfl rfl rfl ⟨Nat.le_of_ble_eq_true rfl, Nat.le_of_ble_eq_true rfl⟩ rfl hl.1 rfl (Nat.le_of_ble_eq_true rfl) dX12_marks_33 ⟨Nat.le_of_ble_eq_true rfl, Nat.le_of_ble_eq_true rfl⟩) hP hD hS hA [0, 1, 3] [2] rfl rfl (by decide) (by decide) ?_
    clear hP hD hS
    try clear locs
    try clear H
    intro r_3 u_4 H locs hw_r_3 hP hD hS
    refine W.widen (k := 0) (n := 0) (Nat.le_of_ble_eq_true rfl) (Nat.le_of_ble_eq_true rfl) ?_
    replace hP : va_P D vwCl [(mso, .inl (cs 0, 16, .inl sof)), (hm, .inr (12, [.ref ms, .ref mkp, .int (nI km), .ref mtr, .int (nI n), .int (nI k), .int (nI al), .int (nI be), .int ea, .int pr, .ref mas, .int nq, .int po, .int (nI en), .ref mso, .ref mon, .ref mot, .ref man, .int th, .int xd, .ref mst, .ref msm, .ref mtb, .ref mti, .ref mfr, .ref mbn, .ref mbs, .ref mde, .int sF, .int sN, .int sS, .int ig, .long xa, .long xb, .ref maa, .ref mab, .ref mba, .ref mbb])), (ms, .inl (cs 0, 288, .inl f)), (man, .inl (cs 0, 16, .inl anf))] H := hP
    replace hD : va_D A [(mso, .inl (cs 0, 16, .inl sof)), (hm, .inr (12, [.ref ms, .ref mkp, .int (nI km), .ref mtr, .int (nI n), .int (nI k), .int (nI al), .int (nI be), .int ea, .int pr, .ref mas, .int nq, .int po, .int (nI en), .ref mso, .ref mon, .ref mot, .ref man, .int th, .int xd, .ref mst, .ref msm, .ref mtb, .ref mti, .ref mfr, .ref mbn, .ref mbs, .ref mde, .int sF, .int sN, .int sS, .int ig, .long xa, .long xb, .ref maa, .ref mab, .ref mba, .ref mbb])), (ms, .inl (cs 0, 288, .inl f)), (man, .inl (cs 0, 16, .inl anf))] := hD
    refine lv_aload_n hx hb dX12_marks_36 rfl (lv_at hl 1 rfl) ?_
    refine lv_iload_n hx hb dX12_marks_37 rfl (lv_at hl 2 rfl) ?_
    refine lv_aload_n hx hb dX12_marks_38 rfl (lv_at hl 1 rfl) ?_
    refine xget C hP 1 rfl rfl zuX12 0 (by decide) zw5_213 rfl dX12_marks_39 ?_
    refine lv_bipush (v := nI 96) hx hb dX12_marks_42 (by decide) ?_
    refine lv_iload hx hb dX12_marks_44 (lv_at hl 0 rfl) ?_
    refine lv_iadd hx hb dX12_marks_46 ?_
    refine lv_topi (nm_r (e' := nI (96 + ((8 * a) + t_1))) (nI_add _ _) ?_)
    refine xiald C hP 2 rfl (96 + ((8 * a) + t_1)) rfl (by omega) (by decide) dX12_marks_47 ?_
    refine xi (wr := [(mso, .inl (cs 0, 16, .inl sof))]) (xV (As := [.int (nI a), .int (f (96 + ((8 * a) + t_1)))]) (rest := [.int r_3]) C (c_X12_confOf l D cs hm ms mkp mtr mas mso mon mot man mst msm mtb mti mfr mbn mbs mde maa mab mba mbb n k al be km en ea pr nq po th xd sF sN sS ig xa xb f a (f (96 + ((8 * a) + t_1))) anf hen ha) kX12_336 hP hD [1, 2, 3] rfl (by decide) 0 rfl rfl rfl ⟨Nat.le_of_ble_eq_true rfl, Nat.le_of_ble_eq_true rfl⟩ rfl hl.1 rfl (Nat.le_of_ble_eq_true rfl) dX12_marks_48 ⟨Nat.le_of_ble_eq_true rfl, Nat.le_of_ble_eq_true rfl⟩) hP hD hS hA [1, 2, 3] [0] rfl rfl (by decide) (by decide) ?_
    clear hP hD hS
    try clear locs
    try clear H
    intro r_5 u_6 H locs hw_r_5 hP hD hS
    refine W.widen (k := 0) (n := 0) (Nat.le_of_ble_eq_true rfl) (Nat.le_of_ble_eq_true rfl) ?_
    replace hP : va_P D vwCl [(mso, .inl (cs 0, 16, .inl sof)), (hm, .inr (12, [.ref ms, .ref mkp, .int (nI km), .ref mtr, .int (nI n), .int (nI k), .int (nI al), .int (nI be), .int ea, .int pr, .ref mas, .int nq, .int po, .int (nI en), .ref mso, .ref mon, .ref mot, .ref man, .int th, .int xd, .ref mst, .ref msm, .ref mtb, .ref mti, .ref mfr, .ref mbn, .ref mbs, .ref mde, .int sF, .int sN, .int sS, .int ig, .long xa, .long xb, .ref maa, .ref mab, .ref mba, .ref mbb])), (ms, .inl (cs 0, 288, .inl f)), (man, .inl (cs 0, 16, .inl anf))] H := hP
    replace hD : va_D A [(mso, .inl (cs 0, 16, .inl sof)), (hm, .inr (12, [.ref ms, .ref mkp, .int (nI km), .ref mtr, .int (nI n), .int (nI k), .int (nI al), .int (nI be), .int ea, .int pr, .ref mas, .int nq, .int po, .int (nI en), .ref mso, .ref mon, .ref mot, .ref man, .int th, .int xd, .ref mst, .ref msm, .ref mtb, .ref mti, .ref mfr, .ref mbn, .ref mbs, .ref mde, .int sF, .int sN, .int sS, .int ig, .long xa, .long xb, .ref maa, .ref mab, .ref mba, .ref mbb])), (ms, .inl (cs 0, 288, .inl f)), (man, .inl (cs 0, 16, .inl anf))] := hD
    refine lv_icmp_le (tgt := 65) hx hb dX12_marks_51 (by decide) (fun c_7 => ?_) (fun c_7 => ?_)
    · -- 51 t
      refine lv_aload_n hx hb dX12_marks_65 rfl (lv_at hl 1 rfl) ?_
      refine xget C hP 1 rfl rfl zuX12 0 (by decide) zw5_213 rfl dX12_marks_66 ?_
      refine lv_sipush (v := nI 160) hx hb dX12_marks_69 (by decide) ?_
      refine lv_iload hx hb dX12_marks_72 (lv_at hl 0 rfl) ?_
      refine lv_iadd hx hb dX12_marks_74 ?_
      refine lv_topi (nm_r (e' := nI (160 + ((8 * a) + t_1))) (nI_add _ _) ?_)
      refine xiald C hP 2 rfl (160 + ((8 * a) + t_1)) rfl (by omega) (by decide) dX12_marks_75 ?_
      refine lv_iload_n hx hb dX12_marks_76 rfl (lv_at hl 3 rfl) ?_
      refine lv_icmp_ne (tgt := 98) hx hb dX12_marks_77 (by decide) (fun c_8 => ?_) (fun c_8 => ?_)
      · -- 77 t
        refine lv_aload_n hx hb dX12_marks_98 rfl (lv_at hl 1 rfl) ?_
        refine xget C hP 1 rfl rfl zuX12 0 (by decide) zw5_213 rfl dX12_marks_99 ?_
        refine lv_sipush (v := nI 160) hx hb dX12_marks_102 (by decide) ?_
        refine lv_iload hx hb dX12_marks_105 (lv_at hl 0 rfl) ?_
        refine lv_iadd hx hb dX12_marks_107 ?_
        refine lv_topi (nm_r (e' := nI (160 + ((8 * a) + t_1))) (nI_add _ _) ?_)
        refine lv_iload_n hx hb dX12_marks_108 rfl (lv_at hl 3 rfl) ?_
        refine xiast C hP hD hS 2 rfl (160 + ((8 * a) + t_1)) rfl (by omega) (by decide) dX12_marks_109 ?_
        clear hP hD hS
        try clear locs
        try clear H
        intro H locs hP hD hS
        replace hP : va_P D vwCl [(mso, .inl (cs 0, 16, .inl sof)), (hm, .inr (12, [.ref ms, .ref mkp, .int (nI km), .ref mtr, .int (nI n), .int (nI k), .int (nI al), .int (nI be), .int ea, .int pr, .ref mas, .int nq, .int po, .int (nI en), .ref mso, .ref mon, .ref mot, .ref man, .int th, .int xd, .ref mst, .ref msm, .ref mtb, .ref mti, .ref mfr, .ref mbn, .ref mbs, .ref mde, .int sF, .int sN, .int sS, .int ig, .long xa, .long xb, .ref maa, .ref mab, .ref mba, .ref mbb])), (ms, .inl (cs 0, 288, .inl (upd f (160 + ((8 * a) + t_1)) (nI k9)))), (man, .inl (cs 0, 16, .inl anf))] H := hP
        replace hD : va_D A [(mso, .inl (cs 0, 16, .inl sof)), (hm, .inr (12, [.ref ms, .ref mkp, .int (nI km), .ref mtr, .int (nI n), .int (nI k), .int (nI al), .int (nI be), .int ea, .int pr, .ref mas, .int nq, .int po, .int (nI en), .ref mso, .ref mon, .ref mot, .ref man, .int th, .int xd, .ref mst, .ref msm, .ref mtb, .ref mti, .ref mfr, .ref mbn, .ref mbs, .ref mde, .int sF, .int sN, .int sS, .int ig, .long xa, .long xb, .ref maa, .ref mab, .ref mba, .ref mbb])), (ms, .inl (cs 0, 288, .inl (upd f (160 + ((8 * a) + t_1)) (nI k9)))), (man, .inl (cs 0, 16, .inl anf))] := hD
        refine lv_aload_n hx hb dX12_marks_110 rfl (lv_at hl 1 rfl) ?_
        refine xget C hP 1 rfl rfl zuX12 0 (by decide) zw5_213 rfl dX12_marks_111 ?_
        refine lv_sipush (v := nI 224) hx hb dX12_marks_114 (by decide) ?_
        refine lv_iload hx hb dX12_marks_117 (lv_at hl 0 rfl) ?_
        refine lv_iadd hx hb dX12_marks_119 ?_
        refine lv_topi (nm_r (e' := nI (224 + ((8 * a) + t_1))) (nI_add _ _) ?_)
        refine lv_iconst (v := nI 1) hx hb dX12_marks_120 (by decide) ?_
        refine xiast C hP hD hS 2 rfl (224 + ((8 * a) + t_1)) rfl (by omega) (by decide) dX12_marks_121 ?_
        clear hP hD hS
        try clear locs
        try clear H
        intro H locs hP hD hS
        replace hP : va_P D vwCl [(mso, .inl (cs 0, 16, .inl sof)), (hm, .inr (12, [.ref ms, .ref mkp, .int (nI km), .ref mtr, .int (nI n), .int (nI k), .int (nI al), .int (nI be), .int ea, .int pr, .ref mas, .int nq, .int po, .int (nI en), .ref mso, .ref mon, .ref mot, .ref man, .int th, .int xd, .ref mst, .ref msm, .ref mtb, .ref mti, .ref mfr, .ref mbn, .ref mbs, .ref mde, .int sF, .int sN, .int sS, .int ig, .long xa, .long xb, .ref maa, .ref mab, .ref mba, .ref mbb])), (ms, .inl (cs 0, 288, .inl (upd (upd f (160 + ((8 * a) + t_1)) (nI k9)) (224 + ((8 * a) + t_1)) (nI 1)))), (man, .inl (cs 0, 16, .inl anf))] H := hP
        replace hD : va_D A [(mso, .inl (cs 0, 16, .inl sof)), (hm, .inr (12, [.ref ms, .ref mkp, .int (nI km), .ref mtr, .int (nI n), .int (nI k), .int (nI al), .int (nI be), .int ea, .int pr, .ref mas, .int nq, .int po, .int (nI en), .ref mso, .ref mon, .ref mot, .ref man, .int th, .int xd, .ref mst, .ref msm, .ref mtb, .ref mti, .ref mfr, .ref mbn, .ref mbs, .ref mde, .int sF, .int sN, .int sS, .int ig, .long xa, .long xb, .ref maa, .ref mab, .ref mba, .ref mbb])), (ms, .inl (cs 0, 288, .inl (upd (upd f (160 + ((8 * a) + t_1)) (nI k9)) (224 + ((8 * a) + t_1)) (nI 1)))), (man, .inl (cs 0, 16, .inl anf))] := hD
        exact xretv C (upd (upd f (160 + ((8 * a) + t_1)) (nI k9)) (224 + ((8 * a) + t_1)) (nI 1)) (lowE.up (lowE.up (lowE.refl f) (by omega) (nI k9)) (by omega) (nI 1)) (xP_map hP [1, 2, 0, 3] rfl) (hD.sub [1, 2, 0, 3] (by decide) rfl) hS (Nat.le_of_ble_eq_true rfl) (Nat.le_of_ble_eq_true rfl) dX12_marks_122
      · -- 77 f
        refine lv_aload_n hx hb dX12_marks_80 rfl (lv_at hl 1 rfl) ?_
        refine xget C hP 1 rfl rfl zuX12 0 (by decide) zw5_213 rfl dX12_marks_81 ?_
        refine lv_sipush (v := nI 224) hx hb dX12_marks_84 (by decide) ?_
        refine lv_iload hx hb dX12_marks_87 (lv_at hl 0 rfl) ?_
        refine lv_iadd hx hb dX12_marks_89 ?_
        refine lv_topi (nm_r (e' := nI (224 + ((8 * a) + t_1))) (nI_add _ _) ?_)
        refine lv_dup2_11 hx hb dX12_marks_90 rfl rfl ?_
        refine xiald C hP 2 rfl (224 + ((8 * a) + t_1)) rfl (by omega) (by decide) dX12_marks_91 ?_
        refine lv_iconst (v := nI 1) hx hb dX12_marks_92 (by decide) ?_
        refine lv_iadd hx hb dX12_marks_93 ?_
        refine xiast C hP hD hS 2 rfl (224 + ((8 * a) + t_1)) rfl (by omega) (by decide) dX12_marks_94 ?_
        clear hP hD hS
        try clear locs
        try clear H
        intro H locs hP hD hS
        replace hP : va_P D vwCl [(mso, .inl (cs 0, 16, .inl sof)), (hm, .inr (12, [.ref ms, .ref mkp, .int (nI km), .ref mtr, .int (nI n), .int (nI k), .int (nI al), .int (nI be), .int ea, .int pr, .ref mas, .int nq, .int po, .int (nI en), .ref mso, .ref mon, .ref mot, .ref man, .int th, .int xd, .ref mst, .ref msm, .ref mtb, .ref mti, .ref mfr, .ref mbn, .ref mbs, .ref mde, .int sF, .int sN, .int sS, .int ig, .long xa, .long xb, .ref maa, .ref mab, .ref mba, .ref mbb])), (ms, .inl (cs 0, 288, .inl (upd f (224 + ((8 * a) + t_1)) ((f (224 + ((8 * a) + t_1))) + (nI 1))))), (man, .inl (cs 0, 16, .inl anf))] H := hP
        replace hD : va_D A [(mso, .inl (cs 0, 16, .inl sof)), (hm, .inr (12, [.ref ms, .ref mkp, .int (nI km), .ref mtr, .int (nI n), .int (nI k), .int (nI al), .int (nI be), .int ea, .int pr, .ref mas, .int nq, .int po, .int (nI en), .ref mso, .ref mon, .ref mot, .ref man, .int th, .int xd, .ref mst, .ref msm, .ref mtb, .ref mti, .ref mfr, .ref mbn, .ref mbs, .ref mde, .int sF, .int sN, .int sS, .int ig, .long xa, .long xb, .ref maa, .ref mab, .ref mba, .ref mbb])), (ms, .inl (cs 0, 288, .inl (upd f (224 + ((8 * a) + t_1)) ((f (224 + ((8 * a) + t_1))) + (nI 1))))), (man, .inl (cs 0, 16, .inl anf))] := hD
        refine lv_goto (tgt := 122) hx hb dX12_marks_95 (by decide) ?_
        exact xretv C (upd f (224 + ((8 * a) + t_1)) ((f (224 + ((8 * a) + t_1))) + (nI 1))) (lowE.up (lowE.refl f) (by omega) ((f (224 + ((8 * a) + t_1))) + (nI 1))) (xP_map hP [1, 2, 0, 3] rfl) (hD.sub [1, 2, 0, 3] (by decide) rfl) hS (Nat.le_of_ble_eq_true rfl) (Nat.le_of_ble_eq_true rfl) dX12_marks_122
    · -- 51 f
      refine lv_aload_n hx hb dX12_marks_54 rfl (lv_at hl 1 rfl) ?_
      refine xget C hP 1 rfl rfl zuX12 0 (by decide) zw5_213 rfl dX12_marks_55 ?_
      refine lv_bipush (v := nI 96) hx hb dX12_marks_58 (by decide) ?_
      refine lv_iload hx hb dX12_marks_60 (lv_at hl 0 rfl) ?_
      refine lv_iadd hx hb dX12_marks_62 ?_
      refine lv_topi (nm_r (e' := nI (96 + ((8 * a) + t_1))) (nI_add _ _) ?_)
      refine lv_iload_n hx hb dX12_marks_63 rfl (lv_at hl 3 rfl) ?_
      refine xiast C hP hD hS 2 rfl (96 + ((8 * a) + t_1)) rfl (by omega) (by decide) dX12_marks_64 ?_
      clear hP hD hS
      try clear locs
      try clear H
      intro H locs hP hD hS
      replace hP : va_P D vwCl [(mso, .inl (cs 0, 16, .inl sof)), (hm, .inr (12, [.ref ms, .ref mkp, .int (nI km), .ref mtr, .int (nI n), .int (nI k), .int (nI al), .int (nI be), .int ea, .int pr, .ref mas, .int nq, .int po, .int (nI en), .ref mso, .ref mon, .ref mot, .ref man, .int th, .int xd, .ref mst, .ref msm, .ref mtb, .ref mti, .ref mfr, .ref mbn, .ref mbs, .ref mde, .int sF, .int sN, .int sS, .int ig, .long xa, .long xb, .ref maa, .ref mab, .ref mba, .ref mbb])), (ms, .inl (cs 0, 288, .inl (upd f (96 + ((8 * a) + t_1)) (nI k9)))), (man, .inl (cs 0, 16, .inl anf))] H := hP
      replace hD : va_D A [(mso, .inl (cs 0, 16, .inl sof)), (hm, .inr (12, [.ref ms, .ref mkp, .int (nI km), .ref mtr, .int (nI n), .int (nI k), .int (nI al), .int (nI be), .int ea, .int pr, .ref mas, .int nq, .int po, .int (nI en), .ref mso, .ref mon, .ref mot, .ref man, .int th, .int xd, .ref mst, .ref msm, .ref mtb, .ref mti, .ref mfr, .ref mbn, .ref mbs, .ref mde, .int sF, .int sN, .int sS, .int ig, .long xa, .long xb, .ref maa, .ref mab, .ref mba, .ref mbb])), (ms, .inl (cs 0, 288, .inl (upd f (96 + ((8 * a) + t_1)) (nI k9)))), (man, .inl (cs 0, 16, .inl anf))] := hD
      refine lv_aload_n hx hb dX12_marks_65 rfl (lv_at hl 1 rfl) ?_
      refine xget C hP 1 rfl rfl zuX12 0 (by decide) zw5_213 rfl dX12_marks_66 ?_
      refine lv_sipush (v := nI 160) hx hb dX12_marks_69 (by decide) ?_
      refine lv_iload hx hb dX12_marks_72 (lv_at hl 0 rfl) ?_
      refine lv_iadd hx hb dX12_marks_74 ?_
      refine lv_topi (nm_r (e' := nI (160 + ((8 * a) + t_1))) (nI_add _ _) ?_)
      refine xiald C hP 2 rfl (160 + ((8 * a) + t_1)) rfl (by omega) (by decide) dX12_marks_75 ?_
      refine lv_iload_n hx hb dX12_marks_76 rfl (lv_at hl 3 rfl) ?_
      refine lv_icmp_ne (tgt := 98) hx hb dX12_marks_77 (by decide) (fun c_9 => ?_) (fun c_9 => ?_)
      · -- 77 t
        refine lv_aload_n hx hb dX12_marks_98 rfl (lv_at hl 1 rfl) ?_
        refine xget C hP 1 rfl rfl zuX12 0 (by decide) zw5_213 rfl dX12_marks_99 ?_
        refine lv_sipush (v := nI 160) hx hb dX12_marks_102 (by decide) ?_
        refine lv_iload hx hb dX12_marks_105 (lv_at hl 0 rfl) ?_
        refine lv_iadd hx hb dX12_marks_107 ?_
        refine lv_topi (nm_r (e' := nI (160 + ((8 * a) + t_1))) (nI_add _ _) ?_)
        refine lv_iload_n hx hb dX12_marks_108 rfl (lv_at hl 3 rfl) ?_
        refine xiast C hP hD hS 2 rfl (160 + ((8 * a) + t_1)) rfl (by omega) (by decide) dX12_marks_109 ?_
        clear hP hD hS
        try clear locs
        try clear H
        intro H locs hP hD hS
        replace hP : va_P D vwCl [(mso, .inl (cs 0, 16, .inl sof)), (hm, .inr (12, [.ref ms, .ref mkp, .int (nI km), .ref mtr, .int (nI n), .int (nI k), .int (nI al), .int (nI be), .int ea, .int pr, .ref mas, .int nq, .int po, .int (nI en), .ref mso, .ref mon, .ref mot, .ref man, .int th, .int xd, .ref mst, .ref msm, .ref mtb, .ref mti, .ref mfr, .ref mbn, .ref mbs, .ref mde, .int sF, .int sN, .int sS, .int ig, .long xa, .long xb, .ref maa, .ref mab, .ref mba, .ref mbb])), (ms, .inl (cs 0, 288, .inl (upd (upd f (96 + ((8 * a) + t_1)) (nI k9)) (160 + ((8 * a) + t_1)) (nI k9)))), (man, .inl (cs 0, 16, .inl anf))] H := hP
        replace hD : va_D A [(mso, .inl (cs 0, 16, .inl sof)), (hm, .inr (12, [.ref ms, .ref mkp, .int (nI km), .ref mtr, .int (nI n), .int (nI k), .int (nI al), .int (nI be), .int ea, .int pr, .ref mas, .int nq, .int po, .int (nI en), .ref mso, .ref mon, .ref mot, .ref man, .int th, .int xd, .ref mst, .ref msm, .ref mtb, .ref mti, .ref mfr, .ref mbn, .ref mbs, .ref mde, .int sF, .int sN, .int sS, .int ig, .long xa, .long xb, .ref maa, .ref mab, .ref mba, .ref mbb])), (ms, .inl (cs 0, 288, .inl (upd (upd f (96 + ((8 * a) + t_1)) (nI k9)) (160 + ((8 * a) + t_1)) (nI k9)))), (man, .inl (cs 0, 16, .inl anf))] := hD
        refine lv_aload_n hx hb dX12_marks_110 rfl (lv_at hl 1 rfl) ?_
        refine xget C hP 1 rfl rfl zuX12 0 (by decide) zw5_213 rfl dX12_marks_111 ?_
        refine lv_sipush (v := nI 224) hx hb dX12_marks_114 (by decide) ?_
        refine lv_iload hx hb dX12_marks_117 (lv_at hl 0 rfl) ?_
        refine lv_iadd hx hb dX12_marks_119 ?_
        refine lv_topi (nm_r (e' := nI (224 + ((8 * a) + t_1))) (nI_add _ _) ?_)
        refine lv_iconst (v := nI 1) hx hb dX12_marks_120 (by decide) ?_
        refine xiast C hP hD hS 2 rfl (224 + ((8 * a) + t_1)) rfl (by omega) (by decide) dX12_marks_121 ?_
        clear hP hD hS
        try clear locs
        try clear H
        intro H locs hP hD hS
        replace hP : va_P D vwCl [(mso, .inl (cs 0, 16, .inl sof)), (hm, .inr (12, [.ref ms, .ref mkp, .int (nI km), .ref mtr, .int (nI n), .int (nI k), .int (nI al), .int (nI be), .int ea, .int pr, .ref mas, .int nq, .int po, .int (nI en), .ref mso, .ref mon, .ref mot, .ref man, .int th, .int xd, .ref mst, .ref msm, .ref mtb, .ref mti, .ref mfr, .ref mbn, .ref mbs, .ref mde, .int sF, .int sN, .int sS, .int ig, .long xa, .long xb, .ref maa, .ref mab, .ref mba, .ref mbb])), (ms, .inl (cs 0, 288, .inl (upd (upd (upd f (96 + ((8 * a) + t_1)) (nI k9)) (160 + ((8 * a) + t_1)) (nI k9)) (224 + ((8 * a) + t_1)) (nI 1)))), (man, .inl (cs 0, 16, .inl anf))] H := hP
        replace hD : va_D A [(mso, .inl (cs 0, 16, .inl sof)), (hm, .inr (12, [.ref ms, .ref mkp, .int (nI km), .ref mtr, .int (nI n), .int (nI k), .int (nI al), .int (nI be), .int ea, .int pr, .ref mas, .int nq, .int po, .int (nI en), .ref mso, .ref mon, .ref mot, .ref man, .int th, .int xd, .ref mst, .ref msm, .ref mtb, .ref mti, .ref mfr, .ref mbn, .ref mbs, .ref mde, .int sF, .int sN, .int sS, .int ig, .long xa, .long xb, .ref maa, .ref mab, .ref mba, .ref mbb])), (ms, .inl (cs 0, 288, .inl (upd (upd (upd f (96 + ((8 * a) + t_1)) (nI k9)) (160 + ((8 * a) + t_1)) (nI k9)) (224 + ((8 * a) + t_1)) (nI 1)))), (man, .inl (cs 0, 16, .inl anf))] := hD
        exact xretv C (upd (upd (upd f (96 + ((8 * a) + t_1)) (nI k9)) (160 + ((8 * a) + t_1)) (nI k9)) (224 + ((8 * a) + t_1)) (nI 1)) (lowE.up (lowE.up (lowE.up (lowE.refl f) (by omega) (nI k9)) (by omega) (nI k9)) (by omega) (nI 1)) (xP_map hP [1, 2, 0, 3] rfl) (hD.sub [1, 2, 0, 3] (by decide) rfl) hS (Nat.le_of_ble_eq_true rfl) (Nat.le_of_ble_eq_true rfl) dX12_marks_122
      · -- 77 f
        refine lv_aload_n hx hb dX12_marks_80 rfl (lv_at hl 1 rfl) ?_
        refine xget C hP 1 rfl rfl zuX12 0 (by decide) zw5_213 rfl dX12_marks_81 ?_
        refine lv_sipush (v := nI 224) hx hb dX12_marks_84 (by decide) ?_
        refine lv_iload hx hb dX12_marks_87 (lv_at hl 0 rfl) ?_
        refine lv_iadd hx hb dX12_marks_89 ?_
        refine lv_topi (nm_r (e' := nI (224 + ((8 * a) + t_1))) (nI_add _ _) ?_)
        refine lv_dup2_11 hx hb dX12_marks_90 rfl rfl ?_
        refine xiald C hP 2 rfl (224 + ((8 * a) + t_1)) rfl (by omega) (by decide) dX12_marks_91 ?_
        refine lv_iconst (v := nI 1) hx hb dX12_marks_92 (by decide) ?_
        refine lv_iadd hx hb dX12_marks_93 ?_
        refine xiast C hP hD hS 2 rfl (224 + ((8 * a) + t_1)) rfl (by omega) (by decide) dX12_marks_94 ?_
        clear hP hD hS
        try clear locs
        try clear H
        intro H locs hP hD hS
        replace hP : va_P D vwCl [(mso, .inl (cs 0, 16, .inl sof)), (hm, .inr (12, [.ref ms, .ref mkp, .int (nI km), .ref mtr, .int (nI n), .int (nI k), .int (nI al), .int (nI be), .int ea, .int pr, .ref mas, .int nq, .int po, .int (nI en), .ref mso, .ref mon, .ref mot, .ref man, .int th, .int xd, .ref mst, .ref msm, .ref mtb, .ref mti, .ref mfr, .ref mbn, .ref mbs, .ref mde, .int sF, .int sN, .int sS, .int ig, .long xa, .long xb, .ref maa, .ref mab, .ref mba, .ref mbb])), (ms, .inl (cs 0, 288, .inl (upd (upd f (96 + ((8 * a) + t_1)) (nI k9)) (224 + ((8 * a) + t_1)) (((upd f (96 + ((8 * a) + t_1)) (nI k9)) (224 + ((8 * a) + t_1))) + (nI 1))))), (man, .inl (cs 0, 16, .inl anf))] H := hP
        replace hD : va_D A [(mso, .inl (cs 0, 16, .inl sof)), (hm, .inr (12, [.ref ms, .ref mkp, .int (nI km), .ref mtr, .int (nI n), .int (nI k), .int (nI al), .int (nI be), .int ea, .int pr, .ref mas, .int nq, .int po, .int (nI en), .ref mso, .ref mon, .ref mot, .ref man, .int th, .int xd, .ref mst, .ref msm, .ref mtb, .ref mti, .ref mfr, .ref mbn, .ref mbs, .ref mde, .int sF, .int sN, .int sS, .int ig, .long xa, .long xb, .ref maa, .ref mab, .ref mba, .ref mbb])), (ms, .inl (cs 0, 288, .inl (upd (upd f (96 + ((8 * a) + t_1)) (nI k9)) (224 + ((8 * a) + t_1)) (((upd f (96 + ((8 * a) + t_1)) (nI k9)) (224 + ((8 * a) + t_1))) + (nI 1))))), (man, .inl (cs 0, 16, .inl anf))] := hD
        refine lv_goto (tgt := 122) hx hb dX12_marks_95 (by decide) ?_
        exact xretv C (upd (upd f (96 + ((8 * a) + t_1)) (nI k9)) (224 + ((8 * a) + t_1)) (((upd f (96 + ((8 * a) + t_1)) (nI k9)) (224 + ((8 * a) + t_1))) + (nI 1))) (lowE.up (lowE.up (lowE.refl f) (by omega) (nI k9)) (by omega) (((upd f (96 + ((8 * a) + t_1)) (nI k9)) (224 + ((8 * a) + t_1))) + (nI 1))) (xP_map hP [1, 2, 0, 3] rfl) (hD.sub [1, 2, 0, 3] (by decide) rfl) hS (Nat.le_of_ble_eq_true rfl) (Nat.le_of_ble_eq_true rfl) dX12_marks_122
  · -- 14 f
    refine lv_aload_n hx hb dX12_marks_17 rfl (lv_at hl 1 rfl) ?_
    refine xget C hP 0 rfl rfl zuX12 0 (by decide) zw5_213 rfl dX12_marks_18 ?_
    refine lv_sipush (v := nI 224) hx hb dX12_marks_21 (by decide) ?_
    refine lv_iload hx hb dX12_marks_24 (lv_at hl 0 rfl) ?_
    refine lv_iadd hx hb dX12_marks_26 ?_
    refine lv_topi (nm_r (e' := nI (224 + ((8 * a) + t_1))) (nI_add _ _) ?_)
    refine lv_iconst (v := nI 0) hx hb dX12_marks_27 (by decide) ?_
    refine xiast C hP hD hS 1 rfl (224 + ((8 * a) + t_1)) rfl (by omega) (by decide) dX12_marks_28 ?_
    clear hP hD hS
    try clear locs
    try clear H
    intro H locs hP hD hS
    replace hP : va_P D vwCl [(hm, .inr (12, [.ref ms, .ref mkp, .int (nI km), .ref mtr, .int (nI n), .int (nI k), .int (nI al), .int (nI be), .int ea, .int pr, .ref mas, .int nq, .int po, .int (nI en), .ref mso, .ref mon, .ref mot, .ref man, .int th, .int xd, .ref mst, .ref msm, .ref mtb, .ref mti, .ref mfr, .ref mbn, .ref mbs, .ref mde, .int sF, .int sN, .int sS, .int ig, .long xa, .long xb, .ref maa, .ref mab, .ref mba, .ref mbb])), (ms, .inl (cs 0, 288, .inl (upd f (224 + ((8 * a) + t_1)) (nI 0)))), (mso, .inl (cs 0, 16, .inl sof)), (man, .inl (cs 0, 16, .inl anf))] H := hP
    replace hD : va_D A [(hm, .inr (12, [.ref ms, .ref mkp, .int (nI km), .ref mtr, .int (nI n), .int (nI k), .int (nI al), .int (nI be), .int ea, .int pr, .ref mas, .int nq, .int po, .int (nI en), .ref mso, .ref mon, .ref mot, .ref man, .int th, .int xd, .ref mst, .ref msm, .ref mtb, .ref mti, .ref mfr, .ref mbn, .ref mbs, .ref mde, .int sF, .int sN, .int sS, .int ig, .long xa, .long xb, .ref maa, .ref mab, .ref mba, .ref mbb])), (ms, .inl (cs 0, 288, .inl (upd f (224 + ((8 * a) + t_1)) (nI 0)))), (mso, .inl (cs 0, 16, .inl sof)), (man, .inl (cs 0, 16, .inl anf))] := hD
    exact xretv C (upd f (224 + ((8 * a) + t_1)) (nI 0)) (lowE.up (lowE.refl f) (by omega) (nI 0)) hP hD hS (Nat.le_of_ble_eq_true rfl) (Nat.le_of_ble_eq_true rfl) dX12_marks_29

set_option maxHeartbeats 4000000 in
set_option maxRecDepth 100000 in
theorem c_X12_accepts_f (l : Launch) (D : va_G) (cs : Nat → ClassId) (hm ms mkp mtr mas mso mon mot man mst msm mtb mti mfr mbn mbs mde maa mab mba mbb : Nat) (n k al be km en : Nat) (ea pr nq po th xd sF sN sS ig : Int32) (xa xb : Int64) (f : Nat → Int32) (sof onf otf : Nat → Int32) (a k9 : Nat) (hen : en ≤ 16) (hso : inP 16 8 sof) (ha : a < 8) (hk9 : k9 < 16) : xMet l D cs yX12_accepts cX12_accepts 6 (some .boolean) ({ frames := 2, cells := 0, slots := 0, locals := 44 } : Room) [.ref hm, .int (nI a), .int (nI k9)] [(hm, .inr (12, [.ref ms, .ref mkp, .int (nI km), .ref mtr, .int (nI n), .int (nI k), .int (nI al), .int (nI be), .int ea, .int pr, .ref mas, .int nq, .int po, .int (nI en), .ref mso, .ref mon, .ref mot, .ref man, .int th, .int xd, .ref mst, .ref msm, .ref mtb, .ref mti, .ref mfr, .ref mbn, .ref mbs, .ref mde, .int sF, .int sN, .int sS, .int ig, .long xa, .long xb, .ref maa, .ref mab, .ref mba, .ref mbb])), (ms, .inl (cs 0, 288, .inl f)), (mso, .inl (cs 0, 16, .inl sof)), (mon, .inl (cs 0, 16, .inl onf)), (mot, .inl (cs 0, 16, .inl otf))] (xQi D (fun (r : Int32) (fz : (Nat → Int32)) => (r = nI 0 ∨ r = nI 1) ∧ lowE f fz) (fun (fz : (Nat → Int32)) => [(hm, .inr (12, [.ref ms, .ref mkp, .int (nI km), .ref mtr, .int (nI n), .int (nI k), .int (nI al), .int (nI be), .int ea, .int pr, .ref mas, .int nq, .int po, .int (nI en), .ref mso, .ref mon, .ref mot, .ref man, .int th, .int xd, .ref mst, .ref msm, .ref mtb, .ref mti, .ref mfr, .ref mbn, .ref mbs, .ref mde, .int sF, .int sN, .int sS, .int ig, .long xa, .long xb, .ref maa, .ref mab, .ref mba, .ref mbb])), (ms, .inl (cs 0, 288, .inl fz)), (mso, .inl (cs 0, 16, .inl sof)), (mon, .inl (cs 0, 16, .inl onf)), (mot, .inl (cs 0, 16, .inl otf))])) := by
  refine xMet.intro (by decide) (Nat.le_of_ble_eq_true rfl) ?_
  intro p e s m args below meth c A ls C hP hD hS hl
  have hx := C.1
  have hb := C.2.1
  have hz := C.2.2.2.2.1
  have hown := C.2.2.2.1
  have hA := C.2.2.2.2.2.2.2.2.2
  have hAO := C.2.2.2.2.2.2.2.2.1.2.2
  replace hl : lv_has ls 6 [(0, .ref hm), (1, .int (nI a)), (2, .int (nI k9))] := hl
  obtain ⟨H, hH⟩ : ∃ H, H = s.heap := ⟨_, rfl⟩
  replace hP : va_P D vwCl [(hm, .inr (12, [.ref ms, .ref mkp, .int (nI km), .ref mtr, .int (nI n), .int (nI k), .int (nI al), .int (nI be), .int ea, .int pr, .ref mas, .int nq, .int po, .int (nI en), .ref mso, .ref mon, .ref mot, .ref man, .int th, .int xd, .ref mst, .ref msm, .ref mtb, .ref mti, .ref mfr, .ref mbn, .ref mbs, .ref mde, .int sF, .int sN, .int sS, .int ig, .long xa, .long xb, .ref maa, .ref mab, .ref mba, .ref mbb])), (ms, .inl (cs 0, 288, .inl f)), (mso, .inl (cs 0, 16, .inl sof)), (mon, .inl (cs 0, 16, .inl onf)), (mot, .inl (cs 0, 16, .inl otf))] H := by rw [hH]; exact hP
  replace hS : va_S A s.heap H [] := by rw [hH]; exact hS
  obtain ⟨locs, hlocs⟩ : ∃ z : List Loc, z = [] := ⟨_, rfl⟩
  rw [← hlocs] at hS
  suffices hW : W p l e ({ frames := 2, cells := 0, slots := 0, locals := 44 } : Room) s m args below meth c H locs 0 0 (MQ below ((xQi D (fun (r : Int32) (fz : (Nat → Int32)) => (r = nI 0 ∨ r = nI 1) ∧ lowE f fz) (fun (fz : (Nat → Int32)) => [(hm, .inr (12, [.ref ms, .ref mkp, .int (nI km), .ref mtr, .int (nI n), .int (nI k), .int (nI al), .int (nI be), .int ea, .int pr, .ref mas, .int nq, .int po, .int (nI en), .ref mso, .ref mon, .ref mot, .ref man, .int th, .int xd, .ref mst, .ref msm, .ref mtb, .ref mti, .ref mfr, .ref mbn, .ref mbs, .ref mde, .int sF, .int sN, .int sS, .int ig, .long xa, .long xb, .ref maa, .ref mab, .ref mba, .ref mbb])), (ms, .inl (cs 0, 288, .inl fz)), (mso, .inl (cs 0, 16, .inl sof)), (mon, .inl (cs 0, 16, .inl onf)), (mot, .inl (cs 0, 16, .inl otf))])) A) args s 0 0 A) (F0 m 0 ls []) by rw [hlocs, hH] at hW; exact hW
  clear hH hlocs
  refine lv_bipush (v := nI 8) hx hb dX12_accepts_0 (by decide) ?_
  refine lv_iload_n hx hb dX12_accepts_2 rfl (lv_at hl 1 rfl) ?_
  refine lv_imul hx hb dX12_accepts_3 ?_
  refine lv_topi (nm_r (e' := nI (8 * a)) (pk_mul _ _) ?_)
  refine lv_aload_n hx hb dX12_accepts_4 rfl (lv_at hl 0 rfl) ?_
  refine xget C hP 0 rfl rfl zuX12 14 (by decide) zw5_227 rfl dX12_accepts_5 ?_
  refine lv_iload_n hx hb dX12_accepts_8 rfl (lv_at hl 2 rfl) ?_
  refine xiald C hP 2 rfl k9 rfl (by omega) (by decide) dX12_accepts_9 ?_
  obtain ⟨t_1, h_t_1, e_t_1⟩ := (hso k9 (by omega))
  refine lv_topi (nm_r (e' := nI t_1) e_t_1 ?_)
  refine lv_iadd hx hb dX12_accepts_10 ?_
  refine lv_topi (nm_r (e' := nI ((8 * a) + t_1)) (nI_add _ _) ?_)
  refine lv_istore_n (lv' := [(3, .int (nI ((8 * a) + t_1))), (0, .ref hm), (1, .int (nI a)), (2, .int (nI k9))]) hx hb dX12_accepts_11 rfl hl (by decide) rfl ?_
  clear hl
  try clear ls
  intro ls hl
  refine lv_aload_n hx hb dX12_accepts_12 rfl (lv_at hl 1 rfl) ?_
  refine lv_iload_n hx hb dX12_accepts_13 rfl (lv_at hl 2 rfl) ?_
  refine lv_aload_n hx hb dX12_accepts_14 rfl (lv_at hl 1 rfl) ?_
  refine xget C hP 0 rfl rfl zuX12 14 (by decide) zw5_227 rfl dX12_accepts_15 ?_
  refine lv_iload_n hx hb dX12_accepts_18 rfl (lv_at hl 3 rfl) ?_
  refine xiald C hP 2 rfl k9 rfl (by omega) (by decide) dX12_accepts_19 ?_
  refine lv_topi (nm_r (e' := nI t_1) e_t_1 ?_)
  refine xi (wr := [(mon, .inl (cs 0, 16, .inl onf)), (mot, .inl (cs 0, 16, .inl otf))]) (xV (As := [.int (nI a), .int (nI t_1)]) (rest := []) C (c_X12_acceptedOf l D cs hm ms mkp mtr mas mso mon mot man mst msm mtb mti mfr mbn mbs mde maa mab mba mbb n k al be km en ea pr nq po th xd sF sN sS ig xa xb f a (nI t_1) sof hen ha) kX12_310 hP hD [0, 1, 2] rfl (by decide) 0 rfl rfl rfl ⟨Nat.le_of_ble_eq_true rfl, Nat.le_of_ble_eq_true rfl⟩ rfl hl.1 rfl (Nat.le_of_ble_eq_true rfl) dX12_accepts_20 ⟨Nat.le_of_ble_eq_true rfl, Nat.le_of_ble_eq_true rfl⟩) hP hD hS hA [0, 1, 2] [3, 4] rfl rfl (by decide) (by decide) ?_
  clear hP hD hS
  try clear locs
  try clear H
  intro r_2 u_3 H locs hw_r_2 hP hD hS
  have hw_r_2 : r_2 = -1 ∨ ∃ e, e < en ∧ r_2 = nI e := hw_r_2
  refine W.widen (k := 0) (n := 0) (Nat.le_of_ble_eq_true rfl) (Nat.le_of_ble_eq_true rfl) ?_
  replace hP : va_P D vwCl [(mon, .inl (cs 0, 16, .inl onf)), (mot, .inl (cs 0, 16, .inl otf)), (hm, .inr (12, [.ref ms, .ref mkp, .int (nI km), .ref mtr, .int (nI n), .int (nI k), .int (nI al), .int (nI be), .int ea, .int pr, .ref mas, .int nq, .int po, .int (nI en), .ref mso, .ref mon, .ref mot, .ref man, .int th, .int xd, .ref mst, .ref msm, .ref mtb, .ref mti, .ref mfr, .ref mbn, .ref mbs, .ref mde, .int sF, .int sN, .int sS, .int ig, .long xa, .long xb, .ref maa, .ref mab, .ref mba, .ref mbb])), (ms, .inl (cs 0, 288, .inl f)), (mso, .inl (cs 0, 16, .inl sof))] H := hP
  replace hD : va_D A [(mon, .inl (cs 0, 16, .inl onf)), (mot, .inl (cs 0, 16, .inl otf)), (hm, .inr (12, [.ref ms, .ref mkp, .int (nI km), .ref mtr, .int (nI n), .int (nI k), .int (nI al), .int (nI be), .int ea, .int pr, .ref mas, .int nq, .int po, .int (nI en), .ref mso, .ref mon, .ref mot, .ref man, .int th, .int xd, .ref mst, .ref msm, .ref mtb, .ref mti, .ref mfr, .ref mbn, .ref mbs, .ref mde, .int sF, .int sN, .int sS, .int ig, .long xa, .long xb, .ref maa, .ref mab, .ref mba, .ref mbb])), (ms, .inl (cs 0, 288, .inl f)), (mso, .inl (cs 0, 16, .inl sof))] := hD
  refine lv_if_ge (tgt := 53) hx hb dX12_accepts_23 (by decide) (fun c_4 => ?_) (fun c_4 => ?_)
  · -- 23 t
    refine lv_iconst (v := nI 0) hx hb dX12_accepts_53 (by decide) ?_
    exact xreti C f (⟨by decide, (lowE.refl f)⟩) (xP_map hP [2, 3, 4, 0, 1] rfl) (hD.sub [2, 3, 4, 0, 1] (by decide) rfl) hS (Nat.le_of_ble_eq_true rfl) (Nat.le_of_ble_eq_true rfl) (by decide) dX12_accepts_54
  · -- 23 f
    refine lv_aload_n hx hb dX12_accepts_26 rfl (lv_at hl 1 rfl) ?_
    refine xget C hP 2 rfl rfl zuX12 0 (by decide) zw5_213 rfl dX12_accepts_27 ?_
    refine lv_sipush (v := nI 160) hx hb dX12_accepts_30 (by decide) ?_
    refine lv_iload_n hx hb dX12_accepts_33 rfl (lv_at hl 0 rfl) ?_
    refine lv_iadd hx hb dX12_accepts_34 ?_
    refine lv_topi (nm_r (e' := nI (160 + ((8 * a) + t_1))) (nI_add _ _) ?_)
    refine xiald C hP 3 rfl (160 + ((8 * a) + t_1)) rfl (by omega) (by decide) dX12_accepts_35 ?_
    refine lv_iload_n hx hb dX12_accepts_36 rfl (lv_at hl 3 rfl) ?_
    refine lv_icmp_ne (tgt := 53) hx hb dX12_accepts_37 (by decide) (fun c_5 => ?_) (fun c_5 => ?_)
    · -- 37 t
      refine lv_iconst (v := nI 0) hx hb dX12_accepts_53 (by decide) ?_
      exact xreti C f (⟨by decide, (lowE.refl f)⟩) (xP_map hP [2, 3, 4, 0, 1] rfl) (hD.sub [2, 3, 4, 0, 1] (by decide) rfl) hS (Nat.le_of_ble_eq_true rfl) (Nat.le_of_ble_eq_true rfl) (by decide) dX12_accepts_54
    · -- 37 f
      refine lv_aload_n hx hb dX12_accepts_40 rfl (lv_at hl 1 rfl) ?_
      refine xget C hP 2 rfl rfl zuX12 0 (by decide) zw5_213 rfl dX12_accepts_41 ?_
      refine lv_bipush (v := nI 96) hx hb dX12_accepts_44 (by decide) ?_
      refine lv_iload_n hx hb dX12_accepts_46 rfl (lv_at hl 0 rfl) ?_
      refine lv_iadd hx hb dX12_accepts_47 ?_
      refine lv_topi (nm_r (e' := nI (96 + ((8 * a) + t_1))) (nI_add _ _) ?_)
      refine xiald C hP 3 rfl (96 + ((8 * a) + t_1)) rfl (by omega) (by decide) dX12_accepts_48 ?_
      refine lv_iload_n hx hb dX12_accepts_49 rfl (lv_at hl 3 rfl) ?_
      refine lv_icmp_eq (tgt := 55) hx hb dX12_accepts_50 (by decide) (fun c_6 => ?_) (fun c_6 => ?_)
      · -- 50 t
        refine lv_aload_n hx hb dX12_accepts_55 rfl (lv_at hl 1 rfl) ?_
        refine lv_iload_n hx hb dX12_accepts_56 rfl (lv_at hl 3 rfl) ?_
        refine xi (wr := [(mon, .inl (cs 0, 16, .inl onf)), (mot, .inl (cs 0, 16, .inl otf)), (ms, .inl (cs 0, 288, .inl f))]) (xV (As := [.int (nI k9)]) (rest := []) C (c_X12_isAlone l D cs hm ms mkp mtr mas mso mon mot man mst msm mtb mti mfr mbn mbs mde maa mab mba mbb n k al be km en ea pr nq po th xd sF sN sS ig xa xb k9 sof hen hk9) kX12_339 hP hD [2, 4] rfl (by decide) 0 rfl rfl rfl ⟨Nat.le_of_ble_eq_true rfl, Nat.le_of_ble_eq_true rfl⟩ rfl hl.1 rfl (Nat.le_of_ble_eq_true rfl) dX12_accepts_57 ⟨Nat.le_of_ble_eq_true rfl, Nat.le_of_ble_eq_true rfl⟩) hP hD hS hA [2, 4] [0, 1, 3] rfl rfl (by decide) (by decide) ?_
        clear hP hD hS
        try clear locs
        try clear H
        intro r_7 u_8 H locs hw_r_7 hP hD hS
        have hw_r_7 : (r_7 = nI 0 ∨ r_7 = nI 1) := hw_r_7
        refine W.widen (k := 0) (n := 0) (Nat.le_of_ble_eq_true rfl) (Nat.le_of_ble_eq_true rfl) ?_
        replace hP : va_P D vwCl [(mon, .inl (cs 0, 16, .inl onf)), (mot, .inl (cs 0, 16, .inl otf)), (ms, .inl (cs 0, 288, .inl f)), (hm, .inr (12, [.ref ms, .ref mkp, .int (nI km), .ref mtr, .int (nI n), .int (nI k), .int (nI al), .int (nI be), .int ea, .int pr, .ref mas, .int nq, .int po, .int (nI en), .ref mso, .ref mon, .ref mot, .ref man, .int th, .int xd, .ref mst, .ref msm, .ref mtb, .ref mti, .ref mfr, .ref mbn, .ref mbs, .ref mde, .int sF, .int sN, .int sS, .int ig, .long xa, .long xb, .ref maa, .ref mab, .ref mba, .ref mbb])), (mso, .inl (cs 0, 16, .inl sof))] H := hP
        replace hD : va_D A [(mon, .inl (cs 0, 16, .inl onf)), (mot, .inl (cs 0, 16, .inl otf)), (ms, .inl (cs 0, 288, .inl f)), (hm, .inr (12, [.ref ms, .ref mkp, .int (nI km), .ref mtr, .int (nI n), .int (nI k), .int (nI al), .int (nI be), .int ea, .int pr, .ref mas, .int nq, .int po, .int (nI en), .ref mso, .ref mon, .ref mot, .ref man, .int th, .int xd, .ref mst, .ref msm, .ref mtb, .ref mti, .ref mfr, .ref mbn, .ref mbs, .ref mde, .int sF, .int sN, .int sS, .int ig, .long xa, .long xb, .ref maa, .ref mab, .ref mba, .ref mbb])), (mso, .inl (cs 0, 16, .inl sof))] := hD
        refine lv_if_eq (tgt := 93) hx hb dX12_accepts_60 (by decide) (fun c_9 => ?_) (fun c_9 => ?_)
        · -- 60 t
          refine lv_iconst (v := nI 0) hx hb dX12_accepts_93 (by decide) ?_
          refine lv_istore (lv' := [(4, .int (nI 0)), (3, .int (nI ((8 * a) + t_1))), (0, .ref hm), (1, .int (nI a)), (2, .int (nI k9))]) hx hb dX12_accepts_94 hl (by decide) rfl ?_
          clear hl
          try clear ls
          intro ls hl
          refine lv_aload_n hx hb dX12_accepts_96 rfl (lv_at hl 2 rfl) ?_
          refine xget C hP 3 rfl rfl zuX12 0 (by decide) zw5_213 rfl dX12_accepts_97 ?_
          refine lv_sipush (v := nI 224) hx hb dX12_accepts_100 (by decide) ?_
          refine lv_iload_n hx hb dX12_accepts_103 rfl (lv_at hl 1 rfl) ?_
          refine lv_iadd hx hb dX12_accepts_104 ?_
          refine lv_topi (nm_r (e' := nI (224 + ((8 * a) + t_1))) (nI_add _ _) ?_)
          refine xiald C hP 2 rfl (224 + ((8 * a) + t_1)) rfl (by omega) (by decide) dX12_accepts_105 ?_
          refine lv_aload_n hx hb dX12_accepts_106 rfl (lv_at hl 2 rfl) ?_
          refine xget C hP 3 rfl rfl zuX12 7 (by decide) zw5_220 rfl dX12_accepts_107 ?_
          refine lv_icmp_ge (tgt := 120) hx hb dX12_accepts_110 (by decide) (fun c_10 => ?_) (fun c_10 => ?_)
          · -- 110 t
            refine lv_aload_n hx hb dX12_accepts_120 rfl (lv_at hl 2 rfl) ?_
            refine xget C hP 3 rfl rfl zuX12 0 (by decide) zw5_213 rfl dX12_accepts_121 ?_
            refine lv_bipush (v := nI 80) hx hb dX12_accepts_124 (by decide) ?_
            refine lv_iload_n hx hb dX12_accepts_126 rfl (lv_at hl 3 rfl) ?_
            refine lv_iadd hx hb dX12_accepts_127 ?_
            refine lv_topi (nm_r (e' := nI (80 + a)) (nI_add _ _) ?_)
            refine lv_dup2_11 hx hb dX12_accepts_128 rfl rfl ?_
            refine xiald C hP 2 rfl (80 + a) rfl (by omega) (by decide) dX12_accepts_129 ?_
            refine lv_iconst (v := nI 1) hx hb dX12_accepts_130 (by decide) ?_
            refine lv_iload_n hx hb dX12_accepts_131 rfl (lv_at hl 4 rfl) ?_
            refine lv_ishl hx hb dX12_accepts_132 ?_
            refine lv_ior hx hb dX12_accepts_133 ?_
            refine xiast C hP hD hS 2 rfl (80 + a) rfl (by omega) (by decide) dX12_accepts_134 ?_
            clear hP hD hS
            try clear locs
            try clear H
            intro H locs hP hD hS
            replace hP : va_P D vwCl [(mon, .inl (cs 0, 16, .inl onf)), (mot, .inl (cs 0, 16, .inl otf)), (ms, .inl (cs 0, 288, .inl (upd f (80 + a) ((f (80 + a)) ||| ((nI 1) <<< ((nI k9) &&& 31)))))), (hm, .inr (12, [.ref ms, .ref mkp, .int (nI km), .ref mtr, .int (nI n), .int (nI k), .int (nI al), .int (nI be), .int ea, .int pr, .ref mas, .int nq, .int po, .int (nI en), .ref mso, .ref mon, .ref mot, .ref man, .int th, .int xd, .ref mst, .ref msm, .ref mtb, .ref mti, .ref mfr, .ref mbn, .ref mbs, .ref mde, .int sF, .int sN, .int sS, .int ig, .long xa, .long xb, .ref maa, .ref mab, .ref mba, .ref mbb])), (mso, .inl (cs 0, 16, .inl sof))] H := hP
            replace hD : va_D A [(mon, .inl (cs 0, 16, .inl onf)), (mot, .inl (cs 0, 16, .inl otf)), (ms, .inl (cs 0, 288, .inl (upd f (80 + a) ((f (80 + a)) ||| ((nI 1) <<< ((nI k9) &&& 31)))))), (hm, .inr (12, [.ref ms, .ref mkp, .int (nI km), .ref mtr, .int (nI n), .int (nI k), .int (nI al), .int (nI be), .int ea, .int pr, .ref mas, .int nq, .int po, .int (nI en), .ref mso, .ref mon, .ref mot, .ref man, .int th, .int xd, .ref mst, .ref msm, .ref mtb, .ref mti, .ref mfr, .ref mbn, .ref mbs, .ref mde, .int sF, .int sN, .int sS, .int ig, .long xa, .long xb, .ref maa, .ref mab, .ref mba, .ref mbb])), (mso, .inl (cs 0, 16, .inl sof))] := hD
            refine lv_iconst (v := nI 0) hx hb dX12_accepts_135 (by decide) ?_
            refine lv_istore (lv' := [(5, .int (nI 0)), (4, .int (nI 0)), (3, .int (nI ((8 * a) + t_1))), (0, .ref hm), (1, .int (nI a)), (2, .int (nI k9))]) hx hb dX12_accepts_136 hl (by decide) rfl ?_
            clear hl
            try clear ls
            intro ls hl
            have loop_11 : ∀ (n_loop_11 : Nat) (o : Nat) (f9 : Nat → Int32), (o ≤ en) → (lowE f f9) → en - o < n_loop_11 → ∀ (H : Heap) (locs : List Loc) (ls : Array Slot), va_P D vwCl [(mon, .inl (cs 0, 16, .inl onf)), (mot, .inl (cs 0, 16, .inl otf)), (ms, .inl (cs 0, 288, .inl f9)), (hm, .inr (12, [.ref ms, .ref mkp, .int (nI km), .ref mtr, .int (nI n), .int (nI k), .int (nI al), .int (nI be), .int ea, .int pr, .ref mas, .int nq, .int po, .int (nI en), .ref mso, .ref mon, .ref mot, .ref man, .int th, .int xd, .ref mst, .ref msm, .ref mtb, .ref mti, .ref mfr, .ref mbn, .ref mbs, .ref mde, .int sF, .int sN, .int sS, .int ig, .long xa, .long xb, .ref maa, .ref mab, .ref mba, .ref mbb])), (mso, .inl (cs 0, 16, .inl sof))] H → va_D A [(mon, .inl (cs 0, 16, .inl onf)), (mot, .inl (cs 0, 16, .inl otf)), (ms, .inl (cs 0, 288, .inl f9)), (hm, .inr (12, [.ref ms, .ref mkp, .int (nI km), .ref mtr, .int (nI n), .int (nI k), .int (nI al), .int (nI be), .int ea, .int pr, .ref mas, .int nq, .int po, .int (nI en), .ref mso, .ref mon, .ref mot, .ref man, .int th, .int xd, .ref mst, .ref msm, .ref mtb, .ref mti, .ref mfr, .ref mbn, .ref mbs, .ref mde, .int sF, .int sN, .int sS, .int ig, .long xa, .long xb, .ref maa, .ref mab, .ref mba, .ref mbb])), (mso, .inl (cs 0, 16, .inl sof))] → va_S A s.heap H locs → lv_has ls 6 [(5, .int (nI o)), (4, .int (nI 0)), (3, .int (nI ((8 * a) + t_1))), (0, .ref hm), (1, .int (nI a)), (2, .int (nI k9))] → W p l e ({ frames := 2, cells := 0, slots := 0, locals := 44 } : Room) s m args below meth c H locs 0 0 (MQ below ((xQi D (fun (r : Int32) (fz : (Nat → Int32)) => (r = nI 0 ∨ r = nI 1) ∧ lowE f fz) (fun (fz : (Nat → Int32)) => [(hm, .inr (12, [.ref ms, .ref mkp, .int (nI km), .ref mtr, .int (nI n), .int (nI k), .int (nI al), .int (nI be), .int ea, .int pr, .ref mas, .int nq, .int po, .int (nI en), .ref mso, .ref mon, .ref mot, .ref man, .int th, .int xd, .ref mst, .ref msm, .ref mtb, .ref mti, .ref mfr, .ref mbn, .ref mbs, .ref mde, .int sF, .int sN, .int sS, .int ig, .long xa, .long xb, .ref maa, .ref mab, .ref mba, .ref mbb])), (ms, .inl (cs 0, 288, .inl fz)), (mso, .inl (cs 0, 16, .inl sof)), (mon, .inl (cs 0, 16, .inl onf)), (mot, .inl (cs 0, 16, .inl otf))])) A) args s 0 0 A) (F0 m 138 ls []) := by
              intro n_loop_11
              induction n_loop_11 with
              | zero => intro o f9 h_o hw9 hlt H locs ls hP hD hS hl; exact absurd hlt (Nat.not_lt_zero _)
              | succ n_loop_11 ih_loop_11 =>
                intro o f9 h_o hw9 hlt_loop_11 H locs ls hP hD hS hl
                refine lv_iload hx hb dX12_accepts_138 (lv_at hl 0 rfl) ?_
                refine lv_aload_n hx hb dX12_accepts_140 rfl (lv_at hl 3 rfl) ?_
                refine xget C hP 3 rfl rfl zuX12 13 (by decide) zw5_226 rfl dX12_accepts_141 ?_
                refine lv_icmp_ge (tgt := 191) hx hb dX12_accepts_144 (by decide) (fun c_12 => ?_) (fun c_12 => ?_)
                · -- 144 t
                  have fc_12 : en ≤ o := nf_le (by omega) (by omega) c_12
                  refine lv_iconst (v := nI 1) hx hb dX12_accepts_191 (by decide) ?_
                  exact xreti C f9 (⟨by decide, hw9⟩) (xP_map hP [3, 2, 4, 0, 1] rfl) (hD.sub [3, 2, 4, 0, 1] (by decide) rfl) hS (Nat.le_of_ble_eq_true rfl) (Nat.le_of_ble_eq_true rfl) (by decide) dX12_accepts_192
                · -- 144 f
                  have fc_12 : o < en := nf_nle (by omega) (by omega) c_12
                  refine lv_iload hx hb dX12_accepts_147 (lv_at hl 0 rfl) ?_
                  refine lv_iload_n hx hb dX12_accepts_149 rfl (lv_at hl 5 rfl) ?_
                  refine lv_icmp_eq (tgt := 185) hx hb dX12_accepts_150 (by decide) (fun c_13 => ?_) (fun c_13 => ?_)
                  · -- 150 t
                    have fc_13 : o = k9 := nf_eq (by omega) (by omega) c_13
                    refine lv_iinc (v := nI (o + 1)) (lv' := [(5, .int (nI (o + 1))), (4, .int (nI 0)), (3, .int (nI ((8 * a) + t_1))), (0, .ref hm), (1, .int (nI a)), (2, .int (nI k9))]) hx hb dX12_accepts_185 hl (k := 0) rfl (nI_add o 1) (by decide) rfl ?_
                    clear hl
                    try clear ls
                    intro ls hl
                    refine lv_goto (tgt := 138) hx hb dX12_accepts_188 (by decide) ?_
                    exact ih_loop_11 (o + 1) f9 (by omega) hw9 (by omega) H locs ls hP hD hS (lv_sub hl [0, 1, 2, 3, 4, 5] rfl)
                  · -- 150 f
                    have fc_13 : o ≠ k9 := nf_ne (by omega) (by omega) c_13
                    refine lv_aload_n hx hb dX12_accepts_153 rfl (lv_at hl 3 rfl) ?_
                    refine xget C hP 3 rfl rfl zuX12 14 (by decide) zw5_227 rfl dX12_accepts_154 ?_
                    refine lv_iload hx hb dX12_accepts_157 (lv_at hl 0 rfl) ?_
                    refine xiald C hP 4 rfl o rfl (by omega) (by decide) dX12_accepts_159 ?_
                    refine lv_aload_n hx hb dX12_accepts_160 rfl (lv_at hl 3 rfl) ?_
                    refine xget C hP 3 rfl rfl zuX12 14 (by decide) zw5_227 rfl dX12_accepts_161 ?_
                    refine lv_iload_n hx hb dX12_accepts_164 rfl (lv_at hl 5 rfl) ?_
                    refine xiald C hP 4 rfl k9 rfl (by omega) (by decide) dX12_accepts_165 ?_
                    refine lv_icmp_ne (tgt := 185) hx hb dX12_accepts_166 (by decide) (fun c_14 => ?_) (fun c_14 => ?_)
                    · -- 166 t
                      refine lv_iinc (v := nI (o + 1)) (lv' := [(5, .int (nI (o + 1))), (4, .int (nI 0)), (3, .int (nI ((8 * a) + t_1))), (0, .ref hm), (1, .int (nI a)), (2, .int (nI k9))]) hx hb dX12_accepts_185 hl (k := 0) rfl (nI_add o 1) (by decide) rfl ?_
                      clear hl
                      try clear ls
                      intro ls hl
                      refine lv_goto (tgt := 138) hx hb dX12_accepts_188 (by decide) ?_
                      exact ih_loop_11 (o + 1) f9 (by omega) hw9 (by omega) H locs ls hP hD hS (lv_sub hl [0, 1, 2, 3, 4, 5] rfl)
                    · -- 166 f
                      refine lv_aload_n hx hb dX12_accepts_169 rfl (lv_at hl 3 rfl) ?_
                      refine xget C hP 3 rfl rfl zuX12 0 (by decide) zw5_213 rfl dX12_accepts_170 ?_
                      refine lv_bipush (v := nI 88) hx hb dX12_accepts_173 (by decide) ?_
                      refine lv_iload_n hx hb dX12_accepts_175 rfl (lv_at hl 4 rfl) ?_
                      refine lv_iadd hx hb dX12_accepts_176 ?_
                      refine lv_topi (nm_r (e' := nI (88 + a)) (nI_add _ _) ?_)
                      refine lv_dup2_11 hx hb dX12_accepts_177 rfl rfl ?_
                      refine xiald C hP 2 rfl (88 + a) rfl (by omega) (by decide) dX12_accepts_178 ?_
                      refine lv_iconst (v := nI 1) hx hb dX12_accepts_179 (by decide) ?_
                      refine lv_iload hx hb dX12_accepts_180 (lv_at hl 0 rfl) ?_
                      refine lv_ishl hx hb dX12_accepts_182 ?_
                      refine lv_ior hx hb dX12_accepts_183 ?_
                      refine xiast C hP hD hS 2 rfl (88 + a) rfl (by omega) (by decide) dX12_accepts_184 ?_
                      clear hP hD hS
                      try clear locs
                      try clear H
                      intro H locs hP hD hS
                      replace hP : va_P D vwCl [(mon, .inl (cs 0, 16, .inl onf)), (mot, .inl (cs 0, 16, .inl otf)), (ms, .inl (cs 0, 288, .inl (upd f9 (88 + a) ((f9 (88 + a)) ||| ((nI 1) <<< ((nI o) &&& 31)))))), (hm, .inr (12, [.ref ms, .ref mkp, .int (nI km), .ref mtr, .int (nI n), .int (nI k), .int (nI al), .int (nI be), .int ea, .int pr, .ref mas, .int nq, .int po, .int (nI en), .ref mso, .ref mon, .ref mot, .ref man, .int th, .int xd, .ref mst, .ref msm, .ref mtb, .ref mti, .ref mfr, .ref mbn, .ref mbs, .ref mde, .int sF, .int sN, .int sS, .int ig, .long xa, .long xb, .ref maa, .ref mab, .ref mba, .ref mbb])), (mso, .inl (cs 0, 16, .inl sof))] H := hP
                      replace hD : va_D A [(mon, .inl (cs 0, 16, .inl onf)), (mot, .inl (cs 0, 16, .inl otf)), (ms, .inl (cs 0, 288, .inl (upd f9 (88 + a) ((f9 (88 + a)) ||| ((nI 1) <<< ((nI o) &&& 31)))))), (hm, .inr (12, [.ref ms, .ref mkp, .int (nI km), .ref mtr, .int (nI n), .int (nI k), .int (nI al), .int (nI be), .int ea, .int pr, .ref mas, .int nq, .int po, .int (nI en), .ref mso, .ref mon, .ref mot, .ref man, .int th, .int xd, .ref mst, .ref msm, .ref mtb, .ref mti, .ref mfr, .ref mbn, .ref mbs, .ref mde, .int sF, .int sN, .int sS, .int ig, .long xa, .long xb, .ref maa, .ref mab, .ref mba, .ref mbb])), (mso, .inl (cs 0, 16, .inl sof))] := hD
                      refine lv_iinc (v := nI (o + 1)) (lv' := [(5, .int (nI (o + 1))), (4, .int (nI 0)), (3, .int (nI ((8 * a) + t_1))), (0, .ref hm), (1, .int (nI a)), (2, .int (nI k9))]) hx hb dX12_accepts_185 hl (k := 0) rfl (nI_add o 1) (by decide) rfl ?_
                      clear hl
                      try clear ls
                      intro ls hl
                      refine lv_goto (tgt := 138) hx hb dX12_accepts_188 (by decide) ?_
                      exact ih_loop_11 (o + 1) (upd f9 (88 + a) ((f9 (88 + a)) ||| ((nI 1) <<< ((nI o) &&& 31)))) (by omega) (lowE.up hw9 (by omega) ((f9 (88 + a)) ||| ((nI 1) <<< ((nI o) &&& 31)))) (by omega) H locs ls hP hD hS (lv_sub hl [0, 1, 2, 3, 4, 5] rfl)
            exact loop_11 _ 0 (upd f (80 + a) ((f (80 + a)) ||| ((nI 1) <<< ((nI k9) &&& 31)))) (by omega) (lowE.up (lowE.refl f) (by omega) ((f (80 + a)) ||| ((nI 1) <<< ((nI k9) &&& 31)))) (Nat.lt_succ_self _) H locs ls hP hD hS (lv_sub hl [0, 1, 2, 3, 4, 5] rfl)
          · -- 110 f
            refine lv_iload hx hb dX12_accepts_113 (lv_at hl 0 rfl) ?_
            refine lv_if_ne (tgt := 120) hx hb dX12_accepts_115 (by decide) (fun c => absurd (by decide) c) (fun _ => ?_)
            refine lv_iconst (v := nI 0) hx hb dX12_accepts_118 (by decide) ?_
            exact xreti C f (⟨by decide, (lowE.refl f)⟩) (xP_map hP [3, 2, 4, 0, 1] rfl) (hD.sub [3, 2, 4, 0, 1] (by decide) rfl) hS (Nat.le_of_ble_eq_true rfl) (Nat.le_of_ble_eq_true rfl) (by decide) dX12_accepts_119
        · -- 60 f
          refine lv_aload_n hx hb dX12_accepts_63 rfl (lv_at hl 1 rfl) ?_
          refine lv_iload_n hx hb dX12_accepts_64 rfl (lv_at hl 2 rfl) ?_
          refine lv_iload_n hx hb dX12_accepts_65 rfl (lv_at hl 3 rfl) ?_
          refine xi (wr := [(mso, .inl (cs 0, 16, .inl sof))]) (xV (As := [.int (nI a), .int (nI k9)]) (rest := []) C (c_X12_areParentsAccepted l D cs hm ms mkp mtr mas mso mon mot man mst msm mtb mti mfr mbn mbs mde maa mab mba mbb n k al be km en ea pr nq po th xd sF sN sS ig xa xb f a k9 onf otf ha hk9) kX12_342 hP hD [3, 2, 0, 1] rfl (by decide) 0 rfl rfl rfl ⟨Nat.le_of_ble_eq_true rfl, Nat.le_of_ble_eq_true rfl⟩ rfl hl.1 rfl (Nat.le_of_ble_eq_true rfl) dX12_accepts_66 ⟨Nat.le_of_ble_eq_true rfl, Nat.le_of_ble_eq_true rfl⟩) hP hD hS hA [3, 2, 0, 1] [4] rfl rfl (by decide) (by decide) ?_
          clear hP hD hS
          try clear locs
          try clear H
          intro r_15 u_16 H locs hw_r_15 hP hD hS
          have hw_r_15 : (r_15 = nI 0 ∨ r_15 = nI 1) := hw_r_15
          refine W.widen (k := 0) (n := 0) (Nat.le_of_ble_eq_true rfl) (Nat.le_of_ble_eq_true rfl) ?_
          replace hP : va_P D vwCl [(mso, .inl (cs 0, 16, .inl sof)), (hm, .inr (12, [.ref ms, .ref mkp, .int (nI km), .ref mtr, .int (nI n), .int (nI k), .int (nI al), .int (nI be), .int ea, .int pr, .ref mas, .int nq, .int po, .int (nI en), .ref mso, .ref mon, .ref mot, .ref man, .int th, .int xd, .ref mst, .ref msm, .ref mtb, .ref mti, .ref mfr, .ref mbn, .ref mbs, .ref mde, .int sF, .int sN, .int sS, .int ig, .long xa, .long xb, .ref maa, .ref mab, .ref mba, .ref mbb])), (ms, .inl (cs 0, 288, .inl f)), (mon, .inl (cs 0, 16, .inl onf)), (mot, .inl (cs 0, 16, .inl otf))] H := hP
          replace hD : va_D A [(mso, .inl (cs 0, 16, .inl sof)), (hm, .inr (12, [.ref ms, .ref mkp, .int (nI km), .ref mtr, .int (nI n), .int (nI k), .int (nI al), .int (nI be), .int ea, .int pr, .ref mas, .int nq, .int po, .int (nI en), .ref mso, .ref mon, .ref mot, .ref man, .int th, .int xd, .ref mst, .ref msm, .ref mtb, .ref mti, .ref mfr, .ref mbn, .ref mbs, .ref mde, .int sF, .int sN, .int sS, .int ig, .long xa, .long xb, .ref maa, .ref mab, .ref mba, .ref mbb])), (ms, .inl (cs 0, 288, .inl f)), (mon, .inl (cs 0, 16, .inl onf)), (mot, .inl (cs 0, 16, .inl otf))] := hD
          refine lv_if_eq (tgt := 93) hx hb dX12_accepts_69 (by decide) (fun c_17 => ?_) (fun c_17 => ?_)
          · -- 69 t
            refine lv_iconst (v := nI 0) hx hb dX12_accepts_93 (by decide) ?_
            refine lv_istore (lv' := [(4, .int (nI 0)), (3, .int (nI ((8 * a) + t_1))), (0, .ref hm), (1, .int (nI a)), (2, .int (nI k9))]) hx hb dX12_accepts_94 hl (by decide) rfl ?_
            clear hl
            try clear ls
            intro ls hl
            refine lv_aload_n hx hb dX12_accepts_96 rfl (lv_at hl 2 rfl) ?_
            refine xget C hP 1 rfl rfl zuX12 0 (by decide) zw5_213 rfl dX12_accepts_97 ?_
            refine lv_sipush (v := nI 224) hx hb dX12_accepts_100 (by decide) ?_
            refine lv_iload_n hx hb dX12_accepts_103 rfl (lv_at hl 1 rfl) ?_
            refine lv_iadd hx hb dX12_accepts_104 ?_
            refine lv_topi (nm_r (e' := nI (224 + ((8 * a) + t_1))) (nI_add _ _) ?_)
            refine xiald C hP 2 rfl (224 + ((8 * a) + t_1)) rfl (by omega) (by decide) dX12_accepts_105 ?_
            refine lv_aload_n hx hb dX12_accepts_106 rfl (lv_at hl 2 rfl) ?_
            refine xget C hP 1 rfl rfl zuX12 7 (by decide) zw5_220 rfl dX12_accepts_107 ?_
            refine lv_icmp_ge (tgt := 120) hx hb dX12_accepts_110 (by decide) (fun c_18 => ?_) (fun c_18 => ?_)
            · -- 110 t
              refine lv_aload_n hx hb dX12_accepts_120 rfl (lv_at hl 2 rfl) ?_
              refine xget C hP 1 rfl rfl zuX12 0 (by decide) zw5_213 rfl dX12_accepts_121 ?_
              refine lv_bipush (v := nI 80) hx hb dX12_accepts_124 (by decide) ?_
              refine lv_iload_n hx hb dX12_accepts_126 rfl (lv_at hl 3 rfl) ?_
              refine lv_iadd hx hb dX12_accepts_127 ?_
              refine lv_topi (nm_r (e' := nI (80 + a)) (nI_add _ _) ?_)
              refine lv_dup2_11 hx hb dX12_accepts_128 rfl rfl ?_
              refine xiald C hP 2 rfl (80 + a) rfl (by omega) (by decide) dX12_accepts_129 ?_
              refine lv_iconst (v := nI 1) hx hb dX12_accepts_130 (by decide) ?_
              refine lv_iload_n hx hb dX12_accepts_131 rfl (lv_at hl 4 rfl) ?_
              refine lv_ishl hx hb dX12_accepts_132 ?_
              refine lv_ior hx hb dX12_accepts_133 ?_
              refine xiast C hP hD hS 2 rfl (80 + a) rfl (by omega) (by decide) dX12_accepts_134 ?_
              clear hP hD hS
              try clear locs
              try clear H
              intro H locs hP hD hS
              replace hP : va_P D vwCl [(mso, .inl (cs 0, 16, .inl sof)), (hm, .inr (12, [.ref ms, .ref mkp, .int (nI km), .ref mtr, .int (nI n), .int (nI k), .int (nI al), .int (nI be), .int ea, .int pr, .ref mas, .int nq, .int po, .int (nI en), .ref mso, .ref mon, .ref mot, .ref man, .int th, .int xd, .ref mst, .ref msm, .ref mtb, .ref mti, .ref mfr, .ref mbn, .ref mbs, .ref mde, .int sF, .int sN, .int sS, .int ig, .long xa, .long xb, .ref maa, .ref mab, .ref mba, .ref mbb])), (ms, .inl (cs 0, 288, .inl (upd f (80 + a) ((f (80 + a)) ||| ((nI 1) <<< ((nI k9) &&& 31)))))), (mon, .inl (cs 0, 16, .inl onf)), (mot, .inl (cs 0, 16, .inl otf))] H := hP
              replace hD : va_D A [(mso, .inl (cs 0, 16, .inl sof)), (hm, .inr (12, [.ref ms, .ref mkp, .int (nI km), .ref mtr, .int (nI n), .int (nI k), .int (nI al), .int (nI be), .int ea, .int pr, .ref mas, .int nq, .int po, .int (nI en), .ref mso, .ref mon, .ref mot, .ref man, .int th, .int xd, .ref mst, .ref msm, .ref mtb, .ref mti, .ref mfr, .ref mbn, .ref mbs, .ref mde, .int sF, .int sN, .int sS, .int ig, .long xa, .long xb, .ref maa, .ref mab, .ref mba, .ref mbb])), (ms, .inl (cs 0, 288, .inl (upd f (80 + a) ((f (80 + a)) ||| ((nI 1) <<< ((nI k9) &&& 31)))))), (mon, .inl (cs 0, 16, .inl onf)), (mot, .inl (cs 0, 16, .inl otf))] := hD
              refine lv_iconst (v := nI 0) hx hb dX12_accepts_135 (by decide) ?_
              refine lv_istore (lv' := [(5, .int (nI 0)), (4, .int (nI 0)), (3, .int (nI ((8 * a) + t_1))), (0, .ref hm), (1, .int (nI a)), (2, .int (nI k9))]) hx hb dX12_accepts_136 hl (by decide) rfl ?_
              clear hl
              try clear ls
              intro ls hl
              have loop_19 : ∀ (n_loop_19 : Nat) (o : Nat) (f9 : Nat → Int32), (o ≤ en) → (lowE f f9) → en - o < n_loop_19 → ∀ (H : Heap) (locs : List Loc) (ls : Array Slot), va_P D vwCl [(mso, .inl (cs 0, 16, .inl sof)), (hm, .inr (12, [.ref ms, .ref mkp, .int (nI km), .ref mtr, .int (nI n), .int (nI k), .int (nI al), .int (nI be), .int ea, .int pr, .ref mas, .int nq, .int po, .int (nI en), .ref mso, .ref mon, .ref mot, .ref man, .int th, .int xd, .ref mst, .ref msm, .ref mtb, .ref mti, .ref mfr, .ref mbn, .ref mbs, .ref mde, .int sF, .int sN, .int sS, .int ig, .long xa, .long xb, .ref maa, .ref mab, .ref mba, .ref mbb])), (ms, .inl (cs 0, 288, .inl f9)), (mon, .inl (cs 0, 16, .inl onf)), (mot, .inl (cs 0, 16, .inl otf))] H → va_D A [(mso, .inl (cs 0, 16, .inl sof)), (hm, .inr (12, [.ref ms, .ref mkp, .int (nI km), .ref mtr, .int (nI n), .int (nI k), .int (nI al), .int (nI be), .int ea, .int pr, .ref mas, .int nq, .int po, .int (nI en), .ref mso, .ref mon, .ref mot, .ref man, .int th, .int xd, .ref mst, .ref msm, .ref mtb, .ref mti, .ref mfr, .ref mbn, .ref mbs, .ref mde, .int sF, .int sN, .int sS, .int ig, .long xa, .long xb, .ref maa, .ref mab, .ref mba, .ref mbb])), (ms, .inl (cs 0, 288, .inl f9)), (mon, .inl (cs 0, 16, .inl onf)), (mot, .inl (cs 0, 16, .inl otf))] → va_S A s.heap H locs → lv_has ls 6 [(5, .int (nI o)), (4, .int (nI 0)), (3, .int (nI ((8 * a) + t_1))), (0, .ref hm), (1, .int (nI a)), (2, .int (nI k9))] → W p l e ({ frames := 2, cells := 0, slots := 0, locals := 44 } : Room) s m args below meth c H locs 0 0 (MQ below ((xQi D (fun (r : Int32) (fz : (Nat → Int32)) => (r = nI 0 ∨ r = nI 1) ∧ lowE f fz) (fun (fz : (Nat → Int32)) => [(hm, .inr (12, [.ref ms, .ref mkp, .int (nI km), .ref mtr, .int (nI n), .int (nI k), .int (nI al), .int (nI be), .int ea, .int pr, .ref mas, .int nq, .int po, .int (nI en), .ref mso, .ref mon, .ref mot, .ref man, .int th, .int xd, .ref mst, .ref msm, .ref mtb, .ref mti, .ref mfr, .ref mbn, .ref mbs, .ref mde, .int sF, .int sN, .int sS, .int ig, .long xa, .long xb, .ref maa, .ref mab, .ref mba, .ref mbb])), (ms, .inl (cs 0, 288, .inl fz)), (mso, .inl (cs 0, 16, .inl sof)), (mon, .inl (cs 0, 16, .inl onf)), (mot, .inl (cs 0, 16, .inl otf))])) A) args s 0 0 A) (F0 m 138 ls []) := by
                intro n_loop_19
                induction n_loop_19 with
                | zero => intro o f9 h_o hw9 hlt H locs ls hP hD hS hl; exact absurd hlt (Nat.not_lt_zero _)
                | succ n_loop_19 ih_loop_19 =>
                  intro o f9 h_o hw9 hlt_loop_19 H locs ls hP hD hS hl
                  refine lv_iload hx hb dX12_accepts_138 (lv_at hl 0 rfl) ?_
                  refine lv_aload_n hx hb dX12_accepts_140 rfl (lv_at hl 3 rfl) ?_
                  refine xget C hP 1 rfl rfl zuX12 13 (by decide) zw5_226 rfl dX12_accepts_141 ?_
                  refine lv_icmp_ge (tgt := 191) hx hb dX12_accepts_144 (by decide) (fun c_20 => ?_) (fun c_20 => ?_)
                  · -- 144 t
                    have fc_20 : en ≤ o := nf_le (by omega) (by omega) c_20
                    refine lv_iconst (v := nI 1) hx hb dX12_accepts_191 (by decide) ?_
                    exact xreti C f9 (⟨by decide, hw9⟩) (xP_map hP [1, 2, 0, 3, 4] rfl) (hD.sub [1, 2, 0, 3, 4] (by decide) rfl) hS (Nat.le_of_ble_eq_true rfl) (Nat.le_of_ble_eq_true rfl) (by decide) dX12_accepts_192
                  · -- 144 f
                    have fc_20 : o < en := nf_nle (by omega) (by omega) c_20
                    refine lv_iload hx hb dX12_accepts_147 (lv_at hl 0 rfl) ?_
                    refine lv_iload_n hx hb dX12_accepts_149 rfl (lv_at hl 5 rfl) ?_
                    refine lv_icmp_eq (tgt := 185) hx hb dX12_accepts_150 (by decide) (fun c_21 => ?_) (fun c_21 => ?_)
                    · -- 150 t
                      have fc_21 : o = k9 := nf_eq (by omega) (by omega) c_21
                      refine lv_iinc (v := nI (o + 1)) (lv' := [(5, .int (nI (o + 1))), (4, .int (nI 0)), (3, .int (nI ((8 * a) + t_1))), (0, .ref hm), (1, .int (nI a)), (2, .int (nI k9))]) hx hb dX12_accepts_185 hl (k := 0) rfl (nI_add o 1) (by decide) rfl ?_
                      clear hl
                      try clear ls
                      intro ls hl
                      refine lv_goto (tgt := 138) hx hb dX12_accepts_188 (by decide) ?_
                      exact ih_loop_19 (o + 1) f9 (by omega) hw9 (by omega) H locs ls hP hD hS (lv_sub hl [0, 1, 2, 3, 4, 5] rfl)
                    · -- 150 f
                      have fc_21 : o ≠ k9 := nf_ne (by omega) (by omega) c_21
                      refine lv_aload_n hx hb dX12_accepts_153 rfl (lv_at hl 3 rfl) ?_
                      refine xget C hP 1 rfl rfl zuX12 14 (by decide) zw5_227 rfl dX12_accepts_154 ?_
                      refine lv_iload hx hb dX12_accepts_157 (lv_at hl 0 rfl) ?_
                      refine xiald C hP 0 rfl o rfl (by omega) (by decide) dX12_accepts_159 ?_
                      refine lv_aload_n hx hb dX12_accepts_160 rfl (lv_at hl 3 rfl) ?_
                      refine xget C hP 1 rfl rfl zuX12 14 (by decide) zw5_227 rfl dX12_accepts_161 ?_
                      refine lv_iload_n hx hb dX12_accepts_164 rfl (lv_at hl 5 rfl) ?_
                      refine xiald C hP 0 rfl k9 rfl (by omega) (by decide) dX12_accepts_165 ?_
                      refine lv_icmp_ne (tgt := 185) hx hb dX12_accepts_166 (by decide) (fun c_22 => ?_) (fun c_22 => ?_)
                      · -- 166 t
                        refine lv_iinc (v := nI (o + 1)) (lv' := [(5, .int (nI (o + 1))), (4, .int (nI 0)), (3, .int (nI ((8 * a) + t_1))), (0, .ref hm), (1, .int (nI a)), (2, .int (nI k9))]) hx hb dX12_accepts_185 hl (k := 0) rfl (nI_add o 1) (by decide) rfl ?_
                        clear hl
                        try clear ls
                        intro ls hl
                        refine lv_goto (tgt := 138) hx hb dX12_accepts_188 (by decide) ?_
                        exact ih_loop_19 (o + 1) f9 (by omega) hw9 (by omega) H locs ls hP hD hS (lv_sub hl [0, 1, 2, 3, 4, 5] rfl)
                      · -- 166 f
                        refine lv_aload_n hx hb dX12_accepts_169 rfl (lv_at hl 3 rfl) ?_
                        refine xget C hP 1 rfl rfl zuX12 0 (by decide) zw5_213 rfl dX12_accepts_170 ?_
                        refine lv_bipush (v := nI 88) hx hb dX12_accepts_173 (by decide) ?_
                        refine lv_iload_n hx hb dX12_accepts_175 rfl (lv_at hl 4 rfl) ?_
                        refine lv_iadd hx hb dX12_accepts_176 ?_
                        refine lv_topi (nm_r (e' := nI (88 + a)) (nI_add _ _) ?_)
                        refine lv_dup2_11 hx hb dX12_accepts_177 rfl rfl ?_
                        refine xiald C hP 2 rfl (88 + a) rfl (by omega) (by decide) dX12_accepts_178 ?_
                        refine lv_iconst (v := nI 1) hx hb dX12_accepts_179 (by decide) ?_
                        refine lv_iload hx hb dX12_accepts_180 (lv_at hl 0 rfl) ?_
                        refine lv_ishl hx hb dX12_accepts_182 ?_
                        refine lv_ior hx hb dX12_accepts_183 ?_
                        refine xiast C hP hD hS 2 rfl (88 + a) rfl (by omega) (by decide) dX12_accepts_184 ?_
                        clear hP hD hS
                        try clear locs
                        try clear H
                        intro H locs hP hD hS
                        replace hP : va_P D vwCl [(mso, .inl (cs 0, 16, .inl sof)), (hm, .inr (12, [.ref ms, .ref mkp, .int (nI km), .ref mtr, .int (nI n), .int (nI k), .int (nI al), .int (nI be), .int ea, .int pr, .ref mas, .int nq, .int po, .int (nI en), .ref mso, .ref mon, .ref mot, .ref man, .int th, .int xd, .ref mst, .ref msm, .ref mtb, .ref mti, .ref mfr, .ref mbn, .ref mbs, .ref mde, .int sF, .int sN, .int sS, .int ig, .long xa, .long xb, .ref maa, .ref mab, .ref mba, .ref mbb])), (ms, .inl (cs 0, 288, .inl (upd f9 (88 + a) ((f9 (88 + a)) ||| ((nI 1) <<< ((nI o) &&& 31)))))), (mon, .inl (cs 0, 16, .inl onf)), (mot, .inl (cs 0, 16, .inl otf))] H := hP
                        replace hD : va_D A [(mso, .inl (cs 0, 16, .inl sof)), (hm, .inr (12, [.ref ms, .ref mkp, .int (nI km), .ref mtr, .int (nI n), .int (nI k), .int (nI al), .int (nI be), .int ea, .int pr, .ref mas, .int nq, .int po, .int (nI en), .ref mso, .ref mon, .ref mot, .ref man, .int th, .int xd, .ref mst, .ref msm, .ref mtb, .ref mti, .ref mfr, .ref mbn, .ref mbs, .ref mde, .int sF, .int sN, .int sS, .int ig, .long xa, .long xb, .ref maa, .ref mab, .ref mba, .ref mbb])), (ms, .inl (cs 0, 288, .inl (upd f9 (88 + a) ((f9 (88 + a)) ||| ((nI 1) <<< ((nI o) &&& 31)))))), (mon, .inl (cs 0, 16, .inl onf)), (mot, .inl (cs 0, 16, .inl otf))] := hD
                        refine lv_iinc (v := nI (o + 1)) (lv' := [(5, .int (nI (o + 1))), (4, .int (nI 0)), (3, .int (nI ((8 * a) + t_1))), (0, .ref hm), (1, .int (nI a)), (2, .int (nI k9))]) hx hb dX12_accepts_185 hl (k := 0) rfl (nI_add o 1) (by decide) rfl ?_
                        clear hl
                        try clear ls
                        intro ls hl
                        refine lv_goto (tgt := 138) hx hb dX12_accepts_188 (by decide) ?_
                        exact ih_loop_19 (o + 1) (upd f9 (88 + a) ((f9 (88 + a)) ||| ((nI 1) <<< ((nI o) &&& 31)))) (by omega) (lowE.up hw9 (by omega) ((f9 (88 + a)) ||| ((nI 1) <<< ((nI o) &&& 31)))) (by omega) H locs ls hP hD hS (lv_sub hl [0, 1, 2, 3, 4, 5] rfl)
              exact loop_19 _ 0 (upd f (80 + a) ((f (80 + a)) ||| ((nI 1) <<< ((nI k9) &&& 31)))) (by omega) (lowE.up (lowE.refl f) (by omega) ((f (80 + a)) ||| ((nI 1) <<< ((nI k9) &&& 31)))) (Nat.lt_succ_self _) H locs ls hP hD hS (lv_sub hl [0, 1, 2, 3, 4, 5] rfl)
            · -- 110 f
              refine lv_iload hx hb dX12_accepts_113 (lv_at hl 0 rfl) ?_
              refine lv_if_ne (tgt := 120) hx hb dX12_accepts_115 (by decide) (fun c => absurd (by decide) c) (fun _ => ?_)
              refine lv_iconst (v := nI 0) hx hb dX12_accepts_118 (by decide) ?_
              exact xreti C f (⟨by decide, (lowE.refl f)⟩) (xP_map hP [1, 2, 0, 3, 4] rfl) (hD.sub [1, 2, 0, 3, 4] (by decide) rfl) hS (Nat.le_of_ble_eq_true rfl) (Nat.le_of_ble_eq_true rfl) (by decide) dX12_accepts_119
          · -- 69 f
            refine lv_aload_n hx hb dX12_accepts_72 rfl (lv_at hl 1 rfl) ?_
            refine xget C hP 1 rfl rfl zuX12 0 (by decide) zw5_213 rfl dX12_accepts_73 ?_
            refine lv_sipush (v := nI 224) hx hb dX12_accepts_76 (by decide) ?_
            refine lv_iload_n hx hb dX12_accepts_79 rfl (lv_at hl 0 rfl) ?_
            refine lv_iadd hx hb dX12_accepts_80 ?_
            refine lv_topi (nm_r (e' := nI (224 + ((8 * a) + t_1))) (nI_add _ _) ?_)
            refine xiald C hP 2 rfl (224 + ((8 * a) + t_1)) rfl (by omega) (by decide) dX12_accepts_81 ?_
            refine lv_aload_n hx hb dX12_accepts_82 rfl (lv_at hl 1 rfl) ?_
            refine xget C hP 1 rfl rfl zuX12 8 (by decide) zw5_221 rfl dX12_accepts_83 ?_
            refine lv_icmp_lt (tgt := 93) hx hb dX12_accepts_86 (by decide) (fun c_23 => ?_) (fun c_23 => ?_)
            · -- 86 t
              refine lv_iconst (v := nI 0) hx hb dX12_accepts_93 (by decide) ?_
              refine lv_istore (lv' := [(4, .int (nI 0)), (3, .int (nI ((8 * a) + t_1))), (0, .ref hm), (1, .int (nI a)), (2, .int (nI k9))]) hx hb dX12_accepts_94 hl (by decide) rfl ?_
              clear hl
              try clear ls
              intro ls hl
              refine lv_aload_n hx hb dX12_accepts_96 rfl (lv_at hl 2 rfl) ?_
              refine xget C hP 1 rfl rfl zuX12 0 (by decide) zw5_213 rfl dX12_accepts_97 ?_
              refine lv_sipush (v := nI 224) hx hb dX12_accepts_100 (by decide) ?_
              refine lv_iload_n hx hb dX12_accepts_103 rfl (lv_at hl 1 rfl) ?_
              refine lv_iadd hx hb dX12_accepts_104 ?_
              refine lv_topi (nm_r (e' := nI (224 + ((8 * a) + t_1))) (nI_add _ _) ?_)
              refine xiald C hP 2 rfl (224 + ((8 * a) + t_1)) rfl (by omega) (by decide) dX12_accepts_105 ?_
              refine lv_aload_n hx hb dX12_accepts_106 rfl (lv_at hl 2 rfl) ?_
              refine xget C hP 1 rfl rfl zuX12 7 (by decide) zw5_220 rfl dX12_accepts_107 ?_
              refine lv_icmp_ge (tgt := 120) hx hb dX12_accepts_110 (by decide) (fun c_24 => ?_) (fun c_24 => ?_)
              · -- 110 t
                refine lv_aload_n hx hb dX12_accepts_120 rfl (lv_at hl 2 rfl) ?_
                refine xget C hP 1 rfl rfl zuX12 0 (by decide) zw5_213 rfl dX12_accepts_121 ?_
                refine lv_bipush (v := nI 80) hx hb dX12_accepts_124 (by decide) ?_
                refine lv_iload_n hx hb dX12_accepts_126 rfl (lv_at hl 3 rfl) ?_
                refine lv_iadd hx hb dX12_accepts_127 ?_
                refine lv_topi (nm_r (e' := nI (80 + a)) (nI_add _ _) ?_)
                refine lv_dup2_11 hx hb dX12_accepts_128 rfl rfl ?_
                refine xiald C hP 2 rfl (80 + a) rfl (by omega) (by decide) dX12_accepts_129 ?_
                refine lv_iconst (v := nI 1) hx hb dX12_accepts_130 (by decide) ?_
                refine lv_iload_n hx hb dX12_accepts_131 rfl (lv_at hl 4 rfl) ?_
                refine lv_ishl hx hb dX12_accepts_132 ?_
                refine lv_ior hx hb dX12_accepts_133 ?_
                refine xiast C hP hD hS 2 rfl (80 + a) rfl (by omega) (by decide) dX12_accepts_134 ?_
                clear hP hD hS
                try clear locs
                try clear H
                intro H locs hP hD hS
                replace hP : va_P D vwCl [(mso, .inl (cs 0, 16, .inl sof)), (hm, .inr (12, [.ref ms, .ref mkp, .int (nI km), .ref mtr, .int (nI n), .int (nI k), .int (nI al), .int (nI be), .int ea, .int pr, .ref mas, .int nq, .int po, .int (nI en), .ref mso, .ref mon, .ref mot, .ref man, .int th, .int xd, .ref mst, .ref msm, .ref mtb, .ref mti, .ref mfr, .ref mbn, .ref mbs, .ref mde, .int sF, .int sN, .int sS, .int ig, .long xa, .long xb, .ref maa, .ref mab, .ref mba, .ref mbb])), (ms, .inl (cs 0, 288, .inl (upd f (80 + a) ((f (80 + a)) ||| ((nI 1) <<< ((nI k9) &&& 31)))))), (mon, .inl (cs 0, 16, .inl onf)), (mot, .inl (cs 0, 16, .inl otf))] H := hP
                replace hD : va_D A [(mso, .inl (cs 0, 16, .inl sof)), (hm, .inr (12, [.ref ms, .ref mkp, .int (nI km), .ref mtr, .int (nI n), .int (nI k), .int (nI al), .int (nI be), .int ea, .int pr, .ref mas, .int nq, .int po, .int (nI en), .ref mso, .ref mon, .ref mot, .ref man, .int th, .int xd, .ref mst, .ref msm, .ref mtb, .ref mti, .ref mfr, .ref mbn, .ref mbs, .ref mde, .int sF, .int sN, .int sS, .int ig, .long xa, .long xb, .ref maa, .ref mab, .ref mba, .ref mbb])), (ms, .inl (cs 0, 288, .inl (upd f (80 + a) ((f (80 + a)) ||| ((nI 1) <<< ((nI k9) &&& 31)))))), (mon, .inl (cs 0, 16, .inl onf)), (mot, .inl (cs 0, 16, .inl otf))] := hD
                refine lv_iconst (v := nI 0) hx hb dX12_accepts_135 (by decide) ?_
                refine lv_istore (lv' := [(5, .int (nI 0)), (4, .int (nI 0)), (3, .int (nI ((8 * a) + t_1))), (0, .ref hm), (1, .int (nI a)), (2, .int (nI k9))]) hx hb dX12_accepts_136 hl (by decide) rfl ?_
                clear hl
                try clear ls
                intro ls hl
                have loop_25 : ∀ (n_loop_25 : Nat) (o : Nat) (f9 : Nat → Int32), (o ≤ en) → (lowE f f9) → en - o < n_loop_25 → ∀ (H : Heap) (locs : List Loc) (ls : Array Slot), va_P D vwCl [(mso, .inl (cs 0, 16, .inl sof)), (hm, .inr (12, [.ref ms, .ref mkp, .int (nI km), .ref mtr, .int (nI n), .int (nI k), .int (nI al), .int (nI be), .int ea, .int pr, .ref mas, .int nq, .int po, .int (nI en), .ref mso, .ref mon, .ref mot, .ref man, .int th, .int xd, .ref mst, .ref msm, .ref mtb, .ref mti, .ref mfr, .ref mbn, .ref mbs, .ref mde, .int sF, .int sN, .int sS, .int ig, .long xa, .long xb, .ref maa, .ref mab, .ref mba, .ref mbb])), (ms, .inl (cs 0, 288, .inl f9)), (mon, .inl (cs 0, 16, .inl onf)), (mot, .inl (cs 0, 16, .inl otf))] H → va_D A [(mso, .inl (cs 0, 16, .inl sof)), (hm, .inr (12, [.ref ms, .ref mkp, .int (nI km), .ref mtr, .int (nI n), .int (nI k), .int (nI al), .int (nI be), .int ea, .int pr, .ref mas, .int nq, .int po, .int (nI en), .ref mso, .ref mon, .ref mot, .ref man, .int th, .int xd, .ref mst, .ref msm, .ref mtb, .ref mti, .ref mfr, .ref mbn, .ref mbs, .ref mde, .int sF, .int sN, .int sS, .int ig, .long xa, .long xb, .ref maa, .ref mab, .ref mba, .ref mbb])), (ms, .inl (cs 0, 288, .inl f9)), (mon, .inl (cs 0, 16, .inl onf)), (mot, .inl (cs 0, 16, .inl otf))] → va_S A s.heap H locs → lv_has ls 6 [(5, .int (nI o)), (4, .int (nI 0)), (3, .int (nI ((8 * a) + t_1))), (0, .ref hm), (1, .int (nI a)), (2, .int (nI k9))] → W p l e ({ frames := 2, cells := 0, slots := 0, locals := 44 } : Room) s m args below meth c H locs 0 0 (MQ below ((xQi D (fun (r : Int32) (fz : (Nat → Int32)) => (r = nI 0 ∨ r = nI 1) ∧ lowE f fz) (fun (fz : (Nat → Int32)) => [(hm, .inr (12, [.ref ms, .ref mkp, .int (nI km), .ref mtr, .int (nI n), .int (nI k), .int (nI al), .int (nI be), .int ea, .int pr, .ref mas, .int nq, .int po, .int (nI en), .ref mso, .ref mon, .ref mot, .ref man, .int th, .int xd, .ref mst, .ref msm, .ref mtb, .ref mti, .ref mfr, .ref mbn, .ref mbs, .ref mde, .int sF, .int sN, .int sS, .int ig, .long xa, .long xb, .ref maa, .ref mab, .ref mba, .ref mbb])), (ms, .inl (cs 0, 288, .inl fz)), (mso, .inl (cs 0, 16, .inl sof)), (mon, .inl (cs 0, 16, .inl onf)), (mot, .inl (cs 0, 16, .inl otf))])) A) args s 0 0 A) (F0 m 138 ls []) := by
                  intro n_loop_25
                  induction n_loop_25 with
                  | zero => intro o f9 h_o hw9 hlt H locs ls hP hD hS hl; exact absurd hlt (Nat.not_lt_zero _)
                  | succ n_loop_25 ih_loop_25 =>
                    intro o f9 h_o hw9 hlt_loop_25 H locs ls hP hD hS hl
                    refine lv_iload hx hb dX12_accepts_138 (lv_at hl 0 rfl) ?_
                    refine lv_aload_n hx hb dX12_accepts_140 rfl (lv_at hl 3 rfl) ?_
                    refine xget C hP 1 rfl rfl zuX12 13 (by decide) zw5_226 rfl dX12_accepts_141 ?_
                    refine lv_icmp_ge (tgt := 191) hx hb dX12_accepts_144 (by decide) (fun c_26 => ?_) (fun c_26 => ?_)
                    · -- 144 t
                      have fc_26 : en ≤ o := nf_le (by omega) (by omega) c_26
                      refine lv_iconst (v := nI 1) hx hb dX12_accepts_191 (by decide) ?_
                      exact xreti C f9 (⟨by decide, hw9⟩) (xP_map hP [1, 2, 0, 3, 4] rfl) (hD.sub [1, 2, 0, 3, 4] (by decide) rfl) hS (Nat.le_of_ble_eq_true rfl) (Nat.le_of_ble_eq_true rfl) (by decide) dX12_accepts_192
                    · -- 144 f
                      have fc_26 : o < en := nf_nle (by omega) (by omega) c_26
                      refine lv_iload hx hb dX12_accepts_147 (lv_at hl 0 rfl) ?_
                      refine lv_iload_n hx hb dX12_accepts_149 rfl (lv_at hl 5 rfl) ?_
                      refine lv_icmp_eq (tgt := 185) hx hb dX12_accepts_150 (by decide) (fun c_27 => ?_) (fun c_27 => ?_)
                      · -- 150 t
                        have fc_27 : o = k9 := nf_eq (by omega) (by omega) c_27
                        refine lv_iinc (v := nI (o + 1)) (lv' := [(5, .int (nI (o + 1))), (4, .int (nI 0)), (3, .int (nI ((8 * a) + t_1))), (0, .ref hm), (1, .int (nI a)), (2, .int (nI k9))]) hx hb dX12_accepts_185 hl (k := 0) rfl (nI_add o 1) (by decide) rfl ?_
                        clear hl
                        try clear ls
                        intro ls hl
                        refine lv_goto (tgt := 138) hx hb dX12_accepts_188 (by decide) ?_
                        exact ih_loop_25 (o + 1) f9 (by omega) hw9 (by omega) H locs ls hP hD hS (lv_sub hl [0, 1, 2, 3, 4, 5] rfl)
                      · -- 150 f
                        have fc_27 : o ≠ k9 := nf_ne (by omega) (by omega) c_27
                        refine lv_aload_n hx hb dX12_accepts_153 rfl (lv_at hl 3 rfl) ?_
                        refine xget C hP 1 rfl rfl zuX12 14 (by decide) zw5_227 rfl dX12_accepts_154 ?_
                        refine lv_iload hx hb dX12_accepts_157 (lv_at hl 0 rfl) ?_
                        refine xiald C hP 0 rfl o rfl (by omega) (by decide) dX12_accepts_159 ?_
                        refine lv_aload_n hx hb dX12_accepts_160 rfl (lv_at hl 3 rfl) ?_
                        refine xget C hP 1 rfl rfl zuX12 14 (by decide) zw5_227 rfl dX12_accepts_161 ?_
                        refine lv_iload_n hx hb dX12_accepts_164 rfl (lv_at hl 5 rfl) ?_
                        refine xiald C hP 0 rfl k9 rfl (by omega) (by decide) dX12_accepts_165 ?_
                        refine lv_icmp_ne (tgt := 185) hx hb dX12_accepts_166 (by decide) (fun c_28 => ?_) (fun c_28 => ?_)
                        · -- 166 t
                          refine lv_iinc (v := nI (o + 1)) (lv' := [(5, .int (nI (o + 1))), (4, .int (nI 0)), (3, .int (nI ((8 * a) + t_1))), (0, .ref hm), (1, .int (nI a)), (2, .int (nI k9))]) hx hb dX12_accepts_185 hl (k := 0) rfl (nI_add o 1) (by decide) rfl ?_
                          clear hl
                          try clear ls
                          intro ls hl
                          refine lv_goto (tgt := 138) hx hb dX12_accepts_188 (by decide) ?_
                          exact ih_loop_25 (o + 1) f9 (by omega) hw9 (by omega) H locs ls hP hD hS (lv_sub hl [0, 1, 2, 3, 4, 5] rfl)
                        · -- 166 f
                          refine lv_aload_n hx hb dX12_accepts_169 rfl (lv_at hl 3 rfl) ?_
                          refine xget C hP 1 rfl rfl zuX12 0 (by decide) zw5_213 rfl dX12_accepts_170 ?_
                          refine lv_bipush (v := nI 88) hx hb dX12_accepts_173 (by decide) ?_
                          refine lv_iload_n hx hb dX12_accepts_175 rfl (lv_at hl 4 rfl) ?_
                          refine lv_iadd hx hb dX12_accepts_176 ?_
                          refine lv_topi (nm_r (e' := nI (88 + a)) (nI_add _ _) ?_)
                          refine lv_dup2_11 hx hb dX12_accepts_177 rfl rfl ?_
                          refine xiald C hP 2 rfl (88 + a) rfl (by omega) (by decide) dX12_accepts_178 ?_
                          refine lv_iconst (v := nI 1) hx hb dX12_accepts_179 (by decide) ?_
                          refine lv_iload hx hb dX12_accepts_180 (lv_at hl 0 rfl) ?_
                          refine lv_ishl hx hb dX12_accepts_182 ?_
                          refine lv_ior hx hb dX12_accepts_183 ?_
                          refine xiast C hP hD hS 2 rfl (88 + a) rfl (by omega) (by decide) dX12_accepts_184 ?_
                          clear hP hD hS
                          try clear locs
                          try clear H
                          intro H locs hP hD hS
                          replace hP : va_P D vwCl [(mso, .inl (cs 0, 16, .inl sof)), (hm, .inr (12, [.ref ms, .ref mkp, .int (nI km), .ref mtr, .int (nI n), .int (nI k), .int (nI al), .int (nI be), .int ea, .int pr, .ref mas, .int nq, .int po, .int (nI en), .ref mso, .ref mon, .ref mot, .ref man, .int th, .int xd, .ref mst, .ref msm, .ref mtb, .ref mti, .ref mfr, .ref mbn, .ref mbs, .ref mde, .int sF, .int sN, .int sS, .int ig, .long xa, .long xb, .ref maa, .ref mab, .ref mba, .ref mbb])), (ms, .inl (cs 0, 288, .inl (upd f9 (88 + a) ((f9 (88 + a)) ||| ((nI 1) <<< ((nI o) &&& 31)))))), (mon, .inl (cs 0, 16, .inl onf)), (mot, .inl (cs 0, 16, .inl otf))] H := hP
                          replace hD : va_D A [(mso, .inl (cs 0, 16, .inl sof)), (hm, .inr (12, [.ref ms, .ref mkp, .int (nI km), .ref mtr, .int (nI n), .int (nI k), .int (nI al), .int (nI be), .int ea, .int pr, .ref mas, .int nq, .int po, .int (nI en), .ref mso, .ref mon, .ref mot, .ref man, .int th, .int xd, .ref mst, .ref msm, .ref mtb, .ref mti, .ref mfr, .ref mbn, .ref mbs, .ref mde, .int sF, .int sN, .int sS, .int ig, .long xa, .long xb, .ref maa, .ref mab, .ref mba, .ref mbb])), (ms, .inl (cs 0, 288, .inl (upd f9 (88 + a) ((f9 (88 + a)) ||| ((nI 1) <<< ((nI o) &&& 31)))))), (mon, .inl (cs 0, 16, .inl onf)), (mot, .inl (cs 0, 16, .inl otf))] := hD
                          refine lv_iinc (v := nI (o + 1)) (lv' := [(5, .int (nI (o + 1))), (4, .int (nI 0)), (3, .int (nI ((8 * a) + t_1))), (0, .ref hm), (1, .int (nI a)), (2, .int (nI k9))]) hx hb dX12_accepts_185 hl (k := 0) rfl (nI_add o 1) (by decide) rfl ?_
                          clear hl
                          try clear ls
                          intro ls hl
                          refine lv_goto (tgt := 138) hx hb dX12_accepts_188 (by decide) ?_
                          exact ih_loop_25 (o + 1) (upd f9 (88 + a) ((f9 (88 + a)) ||| ((nI 1) <<< ((nI o) &&& 31)))) (by omega) (lowE.up hw9 (by omega) ((f9 (88 + a)) ||| ((nI 1) <<< ((nI o) &&& 31)))) (by omega) H locs ls hP hD hS (lv_sub hl [0, 1, 2, 3, 4, 5] rfl)
                exact loop_25 _ 0 (upd f (80 + a) ((f (80 + a)) ||| ((nI 1) <<< ((nI k9) &&& 31)))) (by omega) (lowE.up (lowE.refl f) (by omega) ((f (80 + a)) ||| ((nI 1) <<< ((nI k9) &&& 31)))) (Nat.lt_succ_self _) H locs ls hP hD hS (lv_sub hl [0, 1, 2, 3, 4, 5] rfl)
              · -- 110 f
                refine lv_iload hx hb dX12_accepts_113 (lv_at hl 0 rfl) ?_
                refine lv_if_ne (tgt := 120) hx hb dX12_accepts_115 (by decide) (fun c => absurd (by decide) c) (fun _ => ?_)
                refine lv_iconst (v := nI 0) hx hb dX12_accepts_118 (by decide) ?_
                exact xreti C f (⟨by decide, (lowE.refl f)⟩) (xP_map hP [1, 2, 0, 3, 4] rfl) (hD.sub [1, 2, 0, 3, 4] (by decide) rfl) hS (Nat.le_of_ble_eq_true rfl) (Nat.le_of_ble_eq_true rfl) (by decide) dX12_accepts_119
            · -- 86 f
              refine lv_iconst (v := nI 1) hx hb dX12_accepts_89 (by decide) ?_
              refine lv_goto (tgt := 94) hx hb dX12_accepts_90 (by decide) ?_
              refine lv_istore (lv' := [(4, .int (nI 1)), (3, .int (nI ((8 * a) + t_1))), (0, .ref hm), (1, .int (nI a)), (2, .int (nI k9))]) hx hb dX12_accepts_94 hl (by decide) rfl ?_
              clear hl
              try clear ls
              intro ls hl
              refine lv_aload_n hx hb dX12_accepts_96 rfl (lv_at hl 2 rfl) ?_
              refine xget C hP 1 rfl rfl zuX12 0 (by decide) zw5_213 rfl dX12_accepts_97 ?_
              refine lv_sipush (v := nI 224) hx hb dX12_accepts_100 (by decide) ?_
              refine lv_iload_n hx hb dX12_accepts_103 rfl (lv_at hl 1 rfl) ?_
              refine lv_iadd hx hb dX12_accepts_104 ?_
              refine lv_topi (nm_r (e' := nI (224 + ((8 * a) + t_1))) (nI_add _ _) ?_)
              refine xiald C hP 2 rfl (224 + ((8 * a) + t_1)) rfl (by omega) (by decide) dX12_accepts_105 ?_
              refine lv_aload_n hx hb dX12_accepts_106 rfl (lv_at hl 2 rfl) ?_
              refine xget C hP 1 rfl rfl zuX12 7 (by decide) zw5_220 rfl dX12_accepts_107 ?_
              refine lv_icmp_ge (tgt := 120) hx hb dX12_accepts_110 (by decide) (fun c_29 => ?_) (fun c_29 => ?_)
              · -- 110 t
                refine lv_aload_n hx hb dX12_accepts_120 rfl (lv_at hl 2 rfl) ?_
                refine xget C hP 1 rfl rfl zuX12 0 (by decide) zw5_213 rfl dX12_accepts_121 ?_
                refine lv_bipush (v := nI 80) hx hb dX12_accepts_124 (by decide) ?_
                refine lv_iload_n hx hb dX12_accepts_126 rfl (lv_at hl 3 rfl) ?_
                refine lv_iadd hx hb dX12_accepts_127 ?_
                refine lv_topi (nm_r (e' := nI (80 + a)) (nI_add _ _) ?_)
                refine lv_dup2_11 hx hb dX12_accepts_128 rfl rfl ?_
                refine xiald C hP 2 rfl (80 + a) rfl (by omega) (by decide) dX12_accepts_129 ?_
                refine lv_iconst (v := nI 1) hx hb dX12_accepts_130 (by decide) ?_
                refine lv_iload_n hx hb dX12_accepts_131 rfl (lv_at hl 4 rfl) ?_
                refine lv_ishl hx hb dX12_accepts_132 ?_
                refine lv_ior hx hb dX12_accepts_133 ?_
                refine xiast C hP hD hS 2 rfl (80 + a) rfl (by omega) (by decide) dX12_accepts_134 ?_
                clear hP hD hS
                try clear locs
                try clear H
                intro H locs hP hD hS
                replace hP : va_P D vwCl [(mso, .inl (cs 0, 16, .inl sof)), (hm, .inr (12, [.ref ms, .ref mkp, .int (nI km), .ref mtr, .int (nI n), .int (nI k), .int (nI al), .int (nI be), .int ea, .int pr, .ref mas, .int nq, .int po, .int (nI en), .ref mso, .ref mon, .ref mot, .ref man, .int th, .int xd, .ref mst, .ref msm, .ref mtb, .ref mti, .ref mfr, .ref mbn, .ref mbs, .ref mde, .int sF, .int sN, .int sS, .int ig, .long xa, .long xb, .ref maa, .ref mab, .ref mba, .ref mbb])), (ms, .inl (cs 0, 288, .inl (upd f (80 + a) ((f (80 + a)) ||| ((nI 1) <<< ((nI k9) &&& 31)))))), (mon, .inl (cs 0, 16, .inl onf)), (mot, .inl (cs 0, 16, .inl otf))] H := hP
                replace hD : va_D A [(mso, .inl (cs 0, 16, .inl sof)), (hm, .inr (12, [.ref ms, .ref mkp, .int (nI km), .ref mtr, .int (nI n), .int (nI k), .int (nI al), .int (nI be), .int ea, .int pr, .ref mas, .int nq, .int po, .int (nI en), .ref mso, .ref mon, .ref mot, .ref man, .int th, .int xd, .ref mst, .ref msm, .ref mtb, .ref mti, .ref mfr, .ref mbn, .ref mbs, .ref mde, .int sF, .int sN, .int sS, .int ig, .long xa, .long xb, .ref maa, .ref mab, .ref mba, .ref mbb])), (ms, .inl (cs 0, 288, .inl (upd f (80 + a) ((f (80 + a)) ||| ((nI 1) <<< ((nI k9) &&& 31)))))), (mon, .inl (cs 0, 16, .inl onf)), (mot, .inl (cs 0, 16, .inl otf))] := hD
                refine lv_iconst (v := nI 0) hx hb dX12_accepts_135 (by decide) ?_
                refine lv_istore (lv' := [(5, .int (nI 0)), (4, .int (nI 1)), (3, .int (nI ((8 * a) + t_1))), (0, .ref hm), (1, .int (nI a)), (2, .int (nI k9))]) hx hb dX12_accepts_136 hl (by decide) rfl ?_
                clear hl
                try clear ls
                intro ls hl
                have loop_30 : ∀ (n_loop_30 : Nat) (o : Nat) (f9 : Nat → Int32), (o ≤ en) → (lowE f f9) → en - o < n_loop_30 → ∀ (H : Heap) (locs : List Loc) (ls : Array Slot), va_P D vwCl [(mso, .inl (cs 0, 16, .inl sof)), (hm, .inr (12, [.ref ms, .ref mkp, .int (nI km), .ref mtr, .int (nI n), .int (nI k), .int (nI al), .int (nI be), .int ea, .int pr, .ref mas, .int nq, .int po, .int (nI en), .ref mso, .ref mon, .ref mot, .ref man, .int th, .int xd, .ref mst, .ref msm, .ref mtb, .ref mti, .ref mfr, .ref mbn, .ref mbs, .ref mde, .int sF, .int sN, .int sS, .int ig, .long xa, .long xb, .ref maa, .ref mab, .ref mba, .ref mbb])), (ms, .inl (cs 0, 288, .inl f9)), (mon, .inl (cs 0, 16, .inl onf)), (mot, .inl (cs 0, 16, .inl otf))] H → va_D A [(mso, .inl (cs 0, 16, .inl sof)), (hm, .inr (12, [.ref ms, .ref mkp, .int (nI km), .ref mtr, .int (nI n), .int (nI k), .int (nI al), .int (nI be), .int ea, .int pr, .ref mas, .int nq, .int po, .int (nI en), .ref mso, .ref mon, .ref mot, .ref man, .int th, .int xd, .ref mst, .ref msm, .ref mtb, .ref mti, .ref mfr, .ref mbn, .ref mbs, .ref mde, .int sF, .int sN, .int sS, .int ig, .long xa, .long xb, .ref maa, .ref mab, .ref mba, .ref mbb])), (ms, .inl (cs 0, 288, .inl f9)), (mon, .inl (cs 0, 16, .inl onf)), (mot, .inl (cs 0, 16, .inl otf))] → va_S A s.heap H locs → lv_has ls 6 [(5, .int (nI o)), (4, .int (nI 1)), (3, .int (nI ((8 * a) + t_1))), (0, .ref hm), (1, .int (nI a)), (2, .int (nI k9))] → W p l e ({ frames := 2, cells := 0, slots := 0, locals := 44 } : Room) s m args below meth c H locs 0 0 (MQ below ((xQi D (fun (r : Int32) (fz : (Nat → Int32)) => (r = nI 0 ∨ r = nI 1) ∧ lowE f fz) (fun (fz : (Nat → Int32)) => [(hm, .inr (12, [.ref ms, .ref mkp, .int (nI km), .ref mtr, .int (nI n), .int (nI k), .int (nI al), .int (nI be), .int ea, .int pr, .ref mas, .int nq, .int po, .int (nI en), .ref mso, .ref mon, .ref mot, .ref man, .int th, .int xd, .ref mst, .ref msm, .ref mtb, .ref mti, .ref mfr, .ref mbn, .ref mbs, .ref mde, .int sF, .int sN, .int sS, .int ig, .long xa, .long xb, .ref maa, .ref mab, .ref mba, .ref mbb])), (ms, .inl (cs 0, 288, .inl fz)), (mso, .inl (cs 0, 16, .inl sof)), (mon, .inl (cs 0, 16, .inl onf)), (mot, .inl (cs 0, 16, .inl otf))])) A) args s 0 0 A) (F0 m 138 ls []) := by
                  intro n_loop_30
                  induction n_loop_30 with
                  | zero => intro o f9 h_o hw9 hlt H locs ls hP hD hS hl; exact absurd hlt (Nat.not_lt_zero _)
                  | succ n_loop_30 ih_loop_30 =>
                    intro o f9 h_o hw9 hlt_loop_30 H locs ls hP hD hS hl
                    refine lv_iload hx hb dX12_accepts_138 (lv_at hl 0 rfl) ?_
                    refine lv_aload_n hx hb dX12_accepts_140 rfl (lv_at hl 3 rfl) ?_
                    refine xget C hP 1 rfl rfl zuX12 13 (by decide) zw5_226 rfl dX12_accepts_141 ?_
                    refine lv_icmp_ge (tgt := 191) hx hb dX12_accepts_144 (by decide) (fun c_31 => ?_) (fun c_31 => ?_)
                    · -- 144 t
                      have fc_31 : en ≤ o := nf_le (by omega) (by omega) c_31
                      refine lv_iconst (v := nI 1) hx hb dX12_accepts_191 (by decide) ?_
                      exact xreti C f9 (⟨by decide, hw9⟩) (xP_map hP [1, 2, 0, 3, 4] rfl) (hD.sub [1, 2, 0, 3, 4] (by decide) rfl) hS (Nat.le_of_ble_eq_true rfl) (Nat.le_of_ble_eq_true rfl) (by decide) dX12_accepts_192
                    · -- 144 f
                      have fc_31 : o < en := nf_nle (by omega) (by omega) c_31
                      refine lv_iload hx hb dX12_accepts_147 (lv_at hl 0 rfl) ?_
                      refine lv_iload_n hx hb dX12_accepts_149 rfl (lv_at hl 5 rfl) ?_
                      refine lv_icmp_eq (tgt := 185) hx hb dX12_accepts_150 (by decide) (fun c_32 => ?_) (fun c_32 => ?_)
                      · -- 150 t
                        have fc_32 : o = k9 := nf_eq (by omega) (by omega) c_32
                        refine lv_iinc (v := nI (o + 1)) (lv' := [(5, .int (nI (o + 1))), (4, .int (nI 1)), (3, .int (nI ((8 * a) + t_1))), (0, .ref hm), (1, .int (nI a)), (2, .int (nI k9))]) hx hb dX12_accepts_185 hl (k := 0) rfl (nI_add o 1) (by decide) rfl ?_
                        clear hl
                        try clear ls
                        intro ls hl
                        refine lv_goto (tgt := 138) hx hb dX12_accepts_188 (by decide) ?_
                        exact ih_loop_30 (o + 1) f9 (by omega) hw9 (by omega) H locs ls hP hD hS (lv_sub hl [0, 1, 2, 3, 4, 5] rfl)
                      · -- 150 f
                        have fc_32 : o ≠ k9 := nf_ne (by omega) (by omega) c_32
                        refine lv_aload_n hx hb dX12_accepts_153 rfl (lv_at hl 3 rfl) ?_
                        refine xget C hP 1 rfl rfl zuX12 14 (by decide) zw5_227 rfl dX12_accepts_154 ?_
                        refine lv_iload hx hb dX12_accepts_157 (lv_at hl 0 rfl) ?_
                        refine xiald C hP 0 rfl o rfl (by omega) (by decide) dX12_accepts_159 ?_
                        refine lv_aload_n hx hb dX12_accepts_160 rfl (lv_at hl 3 rfl) ?_
                        refine xget C hP 1 rfl rfl zuX12 14 (by decide) zw5_227 rfl dX12_accepts_161 ?_
                        refine lv_iload_n hx hb dX12_accepts_164 rfl (lv_at hl 5 rfl) ?_
                        refine xiald C hP 0 rfl k9 rfl (by omega) (by decide) dX12_accepts_165 ?_
                        refine lv_icmp_ne (tgt := 185) hx hb dX12_accepts_166 (by decide) (fun c_33 => ?_) (fun c_33 => ?_)
                        · -- 166 t
                          refine lv_iinc (v := nI (o + 1)) (lv' := [(5, .int (nI (o + 1))), (4, .int (nI 1)), (3, .int (nI ((8 * a) + t_1))), (0, .ref hm), (1, .int (nI a)), (2, .int (nI k9))]) hx hb dX12_accepts_185 hl (k := 0) rfl (nI_add o 1) (by decide) rfl ?_
                          clear hl
                          try clear ls
                          intro ls hl
                          refine lv_goto (tgt := 138) hx hb dX12_accepts_188 (by decide) ?_
                          exact ih_loop_30 (o + 1) f9 (by omega) hw9 (by omega) H locs ls hP hD hS (lv_sub hl [0, 1, 2, 3, 4, 5] rfl)
                        · -- 166 f
                          refine lv_aload_n hx hb dX12_accepts_169 rfl (lv_at hl 3 rfl) ?_
                          refine xget C hP 1 rfl rfl zuX12 0 (by decide) zw5_213 rfl dX12_accepts_170 ?_
                          refine lv_bipush (v := nI 88) hx hb dX12_accepts_173 (by decide) ?_
                          refine lv_iload_n hx hb dX12_accepts_175 rfl (lv_at hl 4 rfl) ?_
                          refine lv_iadd hx hb dX12_accepts_176 ?_
                          refine lv_topi (nm_r (e' := nI (88 + a)) (nI_add _ _) ?_)
                          refine lv_dup2_11 hx hb dX12_accepts_177 rfl rfl ?_
                          refine xiald C hP 2 rfl (88 + a) rfl (by omega) (by decide) dX12_accepts_178 ?_
                          refine lv_iconst (v := nI 1) hx hb dX12_accepts_179 (by decide) ?_
                          refine lv_iload hx hb dX12_accepts_180 (lv_at hl 0 rfl) ?_
                          refine lv_ishl hx hb dX12_accepts_182 ?_
                          refine lv_ior hx hb dX12_accepts_183 ?_
                          refine xiast C hP hD hS 2 rfl (88 + a) rfl (by omega) (by decide) dX12_accepts_184 ?_
                          clear hP hD hS
                          try clear locs
                          try clear H
                          intro H locs hP hD hS
                          replace hP : va_P D vwCl [(mso, .inl (cs 0, 16, .inl sof)), (hm, .inr (12, [.ref ms, .ref mkp, .int (nI km), .ref mtr, .int (nI n), .int (nI k), .int (nI al), .int (nI be), .int ea, .int pr, .ref mas, .int nq, .int po, .int (nI en), .ref mso, .ref mon, .ref mot, .ref man, .int th, .int xd, .ref mst, .ref msm, .ref mtb, .ref mti, .ref mfr, .ref mbn, .ref mbs, .ref mde, .int sF, .int sN, .int sS, .int ig, .long xa, .long xb, .ref maa, .ref mab, .ref mba, .ref mbb])), (ms, .inl (cs 0, 288, .inl (upd f9 (88 + a) ((f9 (88 + a)) ||| ((nI 1) <<< ((nI o) &&& 31)))))), (mon, .inl (cs 0, 16, .inl onf)), (mot, .inl (cs 0, 16, .inl otf))] H := hP
                          replace hD : va_D A [(mso, .inl (cs 0, 16, .inl sof)), (hm, .inr (12, [.ref ms, .ref mkp, .int (nI km), .ref mtr, .int (nI n), .int (nI k), .int (nI al), .int (nI be), .int ea, .int pr, .ref mas, .int nq, .int po, .int (nI en), .ref mso, .ref mon, .ref mot, .ref man, .int th, .int xd, .ref mst, .ref msm, .ref mtb, .ref mti, .ref mfr, .ref mbn, .ref mbs, .ref mde, .int sF, .int sN, .int sS, .int ig, .long xa, .long xb, .ref maa, .ref mab, .ref mba, .ref mbb])), (ms, .inl (cs 0, 288, .inl (upd f9 (88 + a) ((f9 (88 + a)) ||| ((nI 1) <<< ((nI o) &&& 31)))))), (mon, .inl (cs 0, 16, .inl onf)), (mot, .inl (cs 0, 16, .inl otf))] := hD
                          refine lv_iinc (v := nI (o + 1)) (lv' := [(5, .int (nI (o + 1))), (4, .int (nI 1)), (3, .int (nI ((8 * a) + t_1))), (0, .ref hm), (1, .int (nI a)), (2, .int (nI k9))]) hx hb dX12_accepts_185 hl (k := 0) rfl (nI_add o 1) (by decide) rfl ?_
                          clear hl
                          try clear ls
                          intro ls hl
                          refine lv_goto (tgt := 138) hx hb dX12_accepts_188 (by decide) ?_
                          exact ih_loop_30 (o + 1) (upd f9 (88 + a) ((f9 (88 + a)) ||| ((nI 1) <<< ((nI o) &&& 31)))) (by omega) (lowE.up hw9 (by omega) ((f9 (88 + a)) ||| ((nI 1) <<< ((nI o) &&& 31)))) (by omega) H locs ls hP hD hS (lv_sub hl [0, 1, 2, 3, 4, 5] rfl)
                exact loop_30 _ 0 (upd f (80 + a) ((f (80 + a)) ||| ((nI 1) <<< ((nI k9) &&& 31)))) (by omega) (lowE.up (lowE.refl f) (by omega) ((f (80 + a)) ||| ((nI 1) <<< ((nI k9) &&& 31)))) (Nat.lt_succ_self _) H locs ls hP hD hS (lv_sub hl [0, 1, 2, 3, 4, 5] rfl)
              · -- 110 f
                refine lv_iload hx hb dX12_accepts_113 (lv_at hl 0 rfl) ?_
                refine lv_if_ne (tgt := 120) hx hb dX12_accepts_115 (by decide) (fun _ => ?_) (fun c => absurd c (by decide))
                refine lv_aload_n hx hb dX12_accepts_120 rfl (lv_at hl 2 rfl) ?_
                refine xget C hP 1 rfl rfl zuX12 0 (by decide) zw5_213 rfl dX12_accepts_121 ?_
                refine lv_bipush (v := nI 80) hx hb dX12_accepts_124 (by decide) ?_
                refine lv_iload_n hx hb dX12_accepts_126 rfl (lv_at hl 3 rfl) ?_
                refine lv_iadd hx hb dX12_accepts_127 ?_
                refine lv_topi (nm_r (e' := nI (80 + a)) (nI_add _ _) ?_)
                refine lv_dup2_11 hx hb dX12_accepts_128 rfl rfl ?_
                refine xiald C hP 2 rfl (80 + a) rfl (by omega) (by decide) dX12_accepts_129 ?_
                refine lv_iconst (v := nI 1) hx hb dX12_accepts_130 (by decide) ?_
                refine lv_iload_n hx hb dX12_accepts_131 rfl (lv_at hl 4 rfl) ?_
                refine lv_ishl hx hb dX12_accepts_132 ?_
                refine lv_ior hx hb dX12_accepts_133 ?_
                refine xiast C hP hD hS 2 rfl (80 + a) rfl (by omega) (by decide) dX12_accepts_134 ?_
                clear hP hD hS
                try clear locs
                try clear H
                intro H locs hP hD hS
                replace hP : va_P D vwCl [(mso, .inl (cs 0, 16, .inl sof)), (hm, .inr (12, [.ref ms, .ref mkp, .int (nI km), .ref mtr, .int (nI n), .int (nI k), .int (nI al), .int (nI be), .int ea, .int pr, .ref mas, .int nq, .int po, .int (nI en), .ref mso, .ref mon, .ref mot, .ref man, .int th, .int xd, .ref mst, .ref msm, .ref mtb, .ref mti, .ref mfr, .ref mbn, .ref mbs, .ref mde, .int sF, .int sN, .int sS, .int ig, .long xa, .long xb, .ref maa, .ref mab, .ref mba, .ref mbb])), (ms, .inl (cs 0, 288, .inl (upd f (80 + a) ((f (80 + a)) ||| ((nI 1) <<< ((nI k9) &&& 31)))))), (mon, .inl (cs 0, 16, .inl onf)), (mot, .inl (cs 0, 16, .inl otf))] H := hP
                replace hD : va_D A [(mso, .inl (cs 0, 16, .inl sof)), (hm, .inr (12, [.ref ms, .ref mkp, .int (nI km), .ref mtr, .int (nI n), .int (nI k), .int (nI al), .int (nI be), .int ea, .int pr, .ref mas, .int nq, .int po, .int (nI en), .ref mso, .ref mon, .ref mot, .ref man, .int th, .int xd, .ref mst, .ref msm, .ref mtb, .ref mti, .ref mfr, .ref mbn, .ref mbs, .ref mde, .int sF, .int sN, .int sS, .int ig, .long xa, .long xb, .ref maa, .ref mab, .ref mba, .ref mbb])), (ms, .inl (cs 0, 288, .inl (upd f (80 + a) ((f (80 + a)) ||| ((nI 1) <<< ((nI k9) &&& 31)))))), (mon, .inl (cs 0, 16, .inl onf)), (mot, .inl (cs 0, 16, .inl otf))] := hD
                refine lv_iconst (v := nI 0) hx hb dX12_accepts_135 (by decide) ?_
                refine lv_istore (lv' := [(5, .int (nI 0)), (4, .int (nI 1)), (3, .int (nI ((8 * a) + t_1))), (0, .ref hm), (1, .int (nI a)), (2, .int (nI k9))]) hx hb dX12_accepts_136 hl (by decide) rfl ?_
                clear hl
                try clear ls
                intro ls hl
                have loop_34 : ∀ (n_loop_34 : Nat) (o : Nat) (f9 : Nat → Int32), (o ≤ en) → (lowE f f9) → en - o < n_loop_34 → ∀ (H : Heap) (locs : List Loc) (ls : Array Slot), va_P D vwCl [(mso, .inl (cs 0, 16, .inl sof)), (hm, .inr (12, [.ref ms, .ref mkp, .int (nI km), .ref mtr, .int (nI n), .int (nI k), .int (nI al), .int (nI be), .int ea, .int pr, .ref mas, .int nq, .int po, .int (nI en), .ref mso, .ref mon, .ref mot, .ref man, .int th, .int xd, .ref mst, .ref msm, .ref mtb, .ref mti, .ref mfr, .ref mbn, .ref mbs, .ref mde, .int sF, .int sN, .int sS, .int ig, .long xa, .long xb, .ref maa, .ref mab, .ref mba, .ref mbb])), (ms, .inl (cs 0, 288, .inl f9)), (mon, .inl (cs 0, 16, .inl onf)), (mot, .inl (cs 0, 16, .inl otf))] H → va_D A [(mso, .inl (cs 0, 16, .inl sof)), (hm, .inr (12, [.ref ms, .ref mkp, .int (nI km), .ref mtr, .int (nI n), .int (nI k), .int (nI al), .int (nI be), .int ea, .int pr, .ref mas, .int nq, .int po, .int (nI en), .ref mso, .ref mon, .ref mot, .ref man, .int th, .int xd, .ref mst, .ref msm, .ref mtb, .ref mti, .ref mfr, .ref mbn, .ref mbs, .ref mde, .int sF, .int sN, .int sS, .int ig, .long xa, .long xb, .ref maa, .ref mab, .ref mba, .ref mbb])), (ms, .inl (cs 0, 288, .inl f9)), (mon, .inl (cs 0, 16, .inl onf)), (mot, .inl (cs 0, 16, .inl otf))] → va_S A s.heap H locs → lv_has ls 6 [(5, .int (nI o)), (4, .int (nI 1)), (3, .int (nI ((8 * a) + t_1))), (0, .ref hm), (1, .int (nI a)), (2, .int (nI k9))] → W p l e ({ frames := 2, cells := 0, slots := 0, locals := 44 } : Room) s m args below meth c H locs 0 0 (MQ below ((xQi D (fun (r : Int32) (fz : (Nat → Int32)) => (r = nI 0 ∨ r = nI 1) ∧ lowE f fz) (fun (fz : (Nat → Int32)) => [(hm, .inr (12, [.ref ms, .ref mkp, .int (nI km), .ref mtr, .int (nI n), .int (nI k), .int (nI al), .int (nI be), .int ea, .int pr, .ref mas, .int nq, .int po, .int (nI en), .ref mso, .ref mon, .ref mot, .ref man, .int th, .int xd, .ref mst, .ref msm, .ref mtb, .ref mti, .ref mfr, .ref mbn, .ref mbs, .ref mde, .int sF, .int sN, .int sS, .int ig, .long xa, .long xb, .ref maa, .ref mab, .ref mba, .ref mbb])), (ms, .inl (cs 0, 288, .inl fz)), (mso, .inl (cs 0, 16, .inl sof)), (mon, .inl (cs 0, 16, .inl onf)), (mot, .inl (cs 0, 16, .inl otf))])) A) args s 0 0 A) (F0 m 138 ls []) := by
                  intro n_loop_34
                  induction n_loop_34 with
                  | zero => intro o f9 h_o hw9 hlt H locs ls hP hD hS hl; exact absurd hlt (Nat.not_lt_zero _)
                  | succ n_loop_34 ih_loop_34 =>
                    intro o f9 h_o hw9 hlt_loop_34 H locs ls hP hD hS hl
                    refine lv_iload hx hb dX12_accepts_138 (lv_at hl 0 rfl) ?_
                    refine lv_aload_n hx hb dX12_accepts_140 rfl (lv_at hl 3 rfl) ?_
                    refine xget C hP 1 rfl rfl zuX12 13 (by decide) zw5_226 rfl dX12_accepts_141 ?_
                    refine lv_icmp_ge (tgt := 191) hx hb dX12_accepts_144 (by decide) (fun c_35 => ?_) (fun c_35 => ?_)
                    · -- 144 t
                      have fc_35 : en ≤ o := nf_le (by omega) (by omega) c_35
                      refine lv_iconst (v := nI 1) hx hb dX12_accepts_191 (by decide) ?_
                      exact xreti C f9 (⟨by decide, hw9⟩) (xP_map hP [1, 2, 0, 3, 4] rfl) (hD.sub [1, 2, 0, 3, 4] (by decide) rfl) hS (Nat.le_of_ble_eq_true rfl) (Nat.le_of_ble_eq_true rfl) (by decide) dX12_accepts_192
                    · -- 144 f
                      have fc_35 : o < en := nf_nle (by omega) (by omega) c_35
                      refine lv_iload hx hb dX12_accepts_147 (lv_at hl 0 rfl) ?_
                      refine lv_iload_n hx hb dX12_accepts_149 rfl (lv_at hl 5 rfl) ?_
                      refine lv_icmp_eq (tgt := 185) hx hb dX12_accepts_150 (by decide) (fun c_36 => ?_) (fun c_36 => ?_)
                      · -- 150 t
                        have fc_36 : o = k9 := nf_eq (by omega) (by omega) c_36
                        refine lv_iinc (v := nI (o + 1)) (lv' := [(5, .int (nI (o + 1))), (4, .int (nI 1)), (3, .int (nI ((8 * a) + t_1))), (0, .ref hm), (1, .int (nI a)), (2, .int (nI k9))]) hx hb dX12_accepts_185 hl (k := 0) rfl (nI_add o 1) (by decide) rfl ?_
                        clear hl
                        try clear ls
                        intro ls hl
                        refine lv_goto (tgt := 138) hx hb dX12_accepts_188 (by decide) ?_
                        exact ih_loop_34 (o + 1) f9 (by omega) hw9 (by omega) H locs ls hP hD hS (lv_sub hl [0, 1, 2, 3, 4, 5] rfl)
                      · -- 150 f
                        have fc_36 : o ≠ k9 := nf_ne (by omega) (by omega) c_36
                        refine lv_aload_n hx hb dX12_accepts_153 rfl (lv_at hl 3 rfl) ?_
                        refine xget C hP 1 rfl rfl zuX12 14 (by decide) zw5_227 rfl dX12_accepts_154 ?_
                        refine lv_iload hx hb dX12_accepts_157 (lv_at hl 0 rfl) ?_
                        refine xiald C hP 0 rfl o rfl (by omega) (by decide) dX12_accepts_159 ?_
                        refine lv_aload_n hx hb dX12_accepts_160 rfl (lv_at hl 3 rfl) ?_
                        refine xget C hP 1 rfl rfl zuX12 14 (by decide) zw5_227 rfl dX12_accepts_161 ?_
                        refine lv_iload_n hx hb dX12_accepts_164 rfl (lv_at hl 5 rfl) ?_
                        refine xiald C hP 0 rfl k9 rfl (by omega) (by decide) dX12_accepts_165 ?_
                        refine lv_icmp_ne (tgt := 185) hx hb dX12_accepts_166 (by decide) (fun c_37 => ?_) (fun c_37 => ?_)
                        · -- 166 t
                          refine lv_iinc (v := nI (o + 1)) (lv' := [(5, .int (nI (o + 1))), (4, .int (nI 1)), (3, .int (nI ((8 * a) + t_1))), (0, .ref hm), (1, .int (nI a)), (2, .int (nI k9))]) hx hb dX12_accepts_185 hl (k := 0) rfl (nI_add o 1) (by decide) rfl ?_
                          clear hl
                          try clear ls
                          intro ls hl
                          refine lv_goto (tgt := 138) hx hb dX12_accepts_188 (by decide) ?_
                          exact ih_loop_34 (o + 1) f9 (by omega) hw9 (by omega) H locs ls hP hD hS (lv_sub hl [0, 1, 2, 3, 4, 5] rfl)
                        · -- 166 f
                          refine lv_aload_n hx hb dX12_accepts_169 rfl (lv_at hl 3 rfl) ?_
                          refine xget C hP 1 rfl rfl zuX12 0 (by decide) zw5_213 rfl dX12_accepts_170 ?_
                          refine lv_bipush (v := nI 88) hx hb dX12_accepts_173 (by decide) ?_
                          refine lv_iload_n hx hb dX12_accepts_175 rfl (lv_at hl 4 rfl) ?_
                          refine lv_iadd hx hb dX12_accepts_176 ?_
                          refine lv_topi (nm_r (e' := nI (88 + a)) (nI_add _ _) ?_)
                          refine lv_dup2_11 hx hb dX12_accepts_177 rfl rfl ?_
                          refine xiald C hP 2 rfl (88 + a) rfl (by omega) (by decide) dX12_accepts_178 ?_
                          refine lv_iconst (v := nI 1) hx hb dX12_accepts_179 (by decide) ?_
                          refine lv_iload hx hb dX12_accepts_180 (lv_at hl 0 rfl) ?_
                          refine lv_ishl hx hb dX12_accepts_182 ?_
                          refine lv_ior hx hb dX12_accepts_183 ?_
                          refine xiast C hP hD hS 2 rfl (88 + a) rfl (by omega) (by decide) dX12_accepts_184 ?_
                          clear hP hD hS
                          try clear locs
                          try clear H
                          intro H locs hP hD hS
                          replace hP : va_P D vwCl [(mso, .inl (cs 0, 16, .inl sof)), (hm, .inr (12, [.ref ms, .ref mkp, .int (nI km), .ref mtr, .int (nI n), .int (nI k), .int (nI al), .int (nI be), .int ea, .int pr, .ref mas, .int nq, .int po, .int (nI en), .ref mso, .ref mon, .ref mot, .ref man, .int th, .int xd, .ref mst, .ref msm, .ref mtb, .ref mti, .ref mfr, .ref mbn, .ref mbs, .ref mde, .int sF, .int sN, .int sS, .int ig, .long xa, .long xb, .ref maa, .ref mab, .ref mba, .ref mbb])), (ms, .inl (cs 0, 288, .inl (upd f9 (88 + a) ((f9 (88 + a)) ||| ((nI 1) <<< ((nI o) &&& 31)))))), (mon, .inl (cs 0, 16, .inl onf)), (mot, .inl (cs 0, 16, .inl otf))] H := hP
                          replace hD : va_D A [(mso, .inl (cs 0, 16, .inl sof)), (hm, .inr (12, [.ref ms, .ref mkp, .int (nI km), .ref mtr, .int (nI n), .int (nI k), .int (nI al), .int (nI be), .int ea, .int pr, .ref mas, .int nq, .int po, .int (nI en), .ref mso, .ref mon, .ref mot, .ref man, .int th, .int xd, .ref mst, .ref msm, .ref mtb, .ref mti, .ref mfr, .ref mbn, .ref mbs, .ref mde, .int sF, .int sN, .int sS, .int ig, .long xa, .long xb, .ref maa, .ref mab, .ref mba, .ref mbb])), (ms, .inl (cs 0, 288, .inl (upd f9 (88 + a) ((f9 (88 + a)) ||| ((nI 1) <<< ((nI o) &&& 31)))))), (mon, .inl (cs 0, 16, .inl onf)), (mot, .inl (cs 0, 16, .inl otf))] := hD
                          refine lv_iinc (v := nI (o + 1)) (lv' := [(5, .int (nI (o + 1))), (4, .int (nI 1)), (3, .int (nI ((8 * a) + t_1))), (0, .ref hm), (1, .int (nI a)), (2, .int (nI k9))]) hx hb dX12_accepts_185 hl (k := 0) rfl (nI_add o 1) (by decide) rfl ?_
                          clear hl
                          try clear ls
                          intro ls hl
                          refine lv_goto (tgt := 138) hx hb dX12_accepts_188 (by decide) ?_
                          exact ih_loop_34 (o + 1) (upd f9 (88 + a) ((f9 (88 + a)) ||| ((nI 1) <<< ((nI o) &&& 31)))) (by omega) (lowE.up hw9 (by omega) ((f9 (88 + a)) ||| ((nI 1) <<< ((nI o) &&& 31)))) (by omega) H locs ls hP hD hS (lv_sub hl [0, 1, 2, 3, 4, 5] rfl)
                exact loop_34 _ 0 (upd f (80 + a) ((f (80 + a)) ||| ((nI 1) <<< ((nI k9) &&& 31)))) (by omega) (lowE.up (lowE.refl f) (by omega) ((f (80 + a)) ||| ((nI 1) <<< ((nI k9) &&& 31)))) (Nat.lt_succ_self _) H locs ls hP hD hS (lv_sub hl [0, 1, 2, 3, 4, 5] rfl)
      · -- 50 f
        refine lv_iconst (v := nI 0) hx hb dX12_accepts_53 (by decide) ?_
        exact xreti C f (⟨by decide, (lowE.refl f)⟩) (xP_map hP [2, 3, 4, 0, 1] rfl) (hD.sub [2, 3, 4, 0, 1] (by decide) rfl) hS (Nat.le_of_ble_eq_true rfl) (Nat.le_of_ble_eq_true rfl) (by decide) dX12_accepts_54

set_option maxHeartbeats 4000000 in
set_option maxRecDepth 100000 in
theorem c_X12_pollsOne_f (l : Launch) (D : va_G) (cs : Nat → ClassId) (hm ms mkp mtr mas mso mon mot man mst msm mtb mti mfr mbn mbs mde maa mab mba mbb : Nat) (n k al be km en : Nat) (ea pr nq po th xd sF sN sS ig : Int32) (xa xb : Int64) (f : Nat → Int32) (sof onf otf anf : Nat → Int32) (a e0 : Nat) (x : Int32) (hn : 2 ≤ n ∧ n ≤ 8) (hen : en ≤ 16) (hso : inP 16 8 sof) (ha : a < 8) (he : e0 < 16) : xMet l D cs yX12_pollsOne cX12_pollsOne 8 (some .int) ({ frames := 4, cells := 0, slots := 0, locals := 93 } : Room) [.ref hm, .int (nI a), .int (nI e0), .int x] [(hm, .inr (12, [.ref ms, .ref mkp, .int (nI km), .ref mtr, .int (nI n), .int (nI k), .int (nI al), .int (nI be), .int ea, .int pr, .ref mas, .int nq, .int po, .int (nI en), .ref mso, .ref mon, .ref mot, .ref man, .int th, .int xd, .ref mst, .ref msm, .ref mtb, .ref mti, .ref mfr, .ref mbn, .ref mbs, .ref mde, .int sF, .int sN, .int sS, .int ig, .long xa, .long xb, .ref maa, .ref mab, .ref mba, .ref mbb])), (ms, .inl (cs 0, 288, .inl f)), (mso, .inl (cs 0, 16, .inl sof)), (mon, .inl (cs 0, 16, .inl onf)), (mot, .inl (cs 0, 16, .inl otf)), (man, .inl (cs 0, 16, .inl anf))] (xQi D (fun (r : Int32) (u : (Nat → Int32) × Int32) => match u with | (fz, poz) => lowE (upd f (72 + a) ((f (72 + a)) ||| ((nI 1) <<< ((nI e0) &&& 31)))) fz) (fun (u : (Nat → Int32) × Int32) => match u with | (fz, poz) => [(hm, .inr (12, [.ref ms, .ref mkp, .int (nI km), .ref mtr, .int (nI n), .int (nI k), .int (nI al), .int (nI be), .int ea, .int pr, .ref mas, .int nq, .int poz, .int (nI en), .ref mso, .ref mon, .ref mot, .ref man, .int th, .int xd, .ref mst, .ref msm, .ref mtb, .ref mti, .ref mfr, .ref mbn, .ref mbs, .ref mde, .int sF, .int sN, .int sS, .int ig, .long xa, .long xb, .ref maa, .ref mab, .ref mba, .ref mbb])), (ms, .inl (cs 0, 288, .inl fz)), (mso, .inl (cs 0, 16, .inl sof)), (mon, .inl (cs 0, 16, .inl onf)), (mot, .inl (cs 0, 16, .inl otf)), (man, .inl (cs 0, 16, .inl anf))])) := by
  refine xMet.intro (by decide) (Nat.le_of_ble_eq_true rfl) ?_
  intro p e s m args below meth c A ls C hP hD hS hl
  have hx := C.1
  have hb := C.2.1
  have hz := C.2.2.2.2.1
  have hown := C.2.2.2.1
  have hA := C.2.2.2.2.2.2.2.2.2
  have hAO := C.2.2.2.2.2.2.2.2.1.2.2
  replace hl : lv_has ls 8 [(0, .ref hm), (1, .int (nI a)), (2, .int (nI e0)), (3, .int x)] := hl
  obtain ⟨H, hH⟩ : ∃ H, H = s.heap := ⟨_, rfl⟩
  replace hP : va_P D vwCl [(hm, .inr (12, [.ref ms, .ref mkp, .int (nI km), .ref mtr, .int (nI n), .int (nI k), .int (nI al), .int (nI be), .int ea, .int pr, .ref mas, .int nq, .int po, .int (nI en), .ref mso, .ref mon, .ref mot, .ref man, .int th, .int xd, .ref mst, .ref msm, .ref mtb, .ref mti, .ref mfr, .ref mbn, .ref mbs, .ref mde, .int sF, .int sN, .int sS, .int ig, .long xa, .long xb, .ref maa, .ref mab, .ref mba, .ref mbb])), (ms, .inl (cs 0, 288, .inl f)), (mso, .inl (cs 0, 16, .inl sof)), (mon, .inl (cs 0, 16, .inl onf)), (mot, .inl (cs 0, 16, .inl otf)), (man, .inl (cs 0, 16, .inl anf))] H := by rw [hH]; exact hP
  replace hS : va_S A s.heap H [] := by rw [hH]; exact hS
  obtain ⟨locs, hlocs⟩ : ∃ z : List Loc, z = [] := ⟨_, rfl⟩
  rw [← hlocs] at hS
  suffices hW : W p l e ({ frames := 4, cells := 0, slots := 0, locals := 93 } : Room) s m args below meth c H locs 0 0 (MQ below ((xQi D (fun (r : Int32) (u : (Nat → Int32) × Int32) => match u with | (fz, poz) => lowE (upd f (72 + a) ((f (72 + a)) ||| ((nI 1) <<< ((nI e0) &&& 31)))) fz) (fun (u : (Nat → Int32) × Int32) => match u with | (fz, poz) => [(hm, .inr (12, [.ref ms, .ref mkp, .int (nI km), .ref mtr, .int (nI n), .int (nI k), .int (nI al), .int (nI be), .int ea, .int pr, .ref mas, .int nq, .int poz, .int (nI en), .ref mso, .ref mon, .ref mot, .ref man, .int th, .int xd, .ref mst, .ref msm, .ref mtb, .ref mti, .ref mfr, .ref mbn, .ref mbs, .ref mde, .int sF, .int sN, .int sS, .int ig, .long xa, .long xb, .ref maa, .ref mab, .ref mba, .ref mbb])), (ms, .inl (cs 0, 288, .inl fz)), (mso, .inl (cs 0, 16, .inl sof)), (mon, .inl (cs 0, 16, .inl onf)), (mot, .inl (cs 0, 16, .inl otf)), (man, .inl (cs 0, 16, .inl anf))])) A) args s 0 0 A) (F0 m 0 ls []) by rw [hlocs, hH] at hW; exact hW
  clear hH hlocs
  refine lv_aload_n hx hb dX12_pollsOne_0 rfl (lv_at hl 0 rfl) ?_
  refine lv_iload_n hx hb dX12_pollsOne_1 rfl (lv_at hl 1 rfl) ?_
  refine lv_iload_n hx hb dX12_pollsOne_2 rfl (lv_at hl 2 rfl) ?_
  refine lv_iload_n hx hb dX12_pollsOne_3 rfl (lv_at hl 3 rfl) ?_
  refine xi (wr := [(mon, .inl (cs 0, 16, .inl onf)), (mot, .inl (cs 0, 16, .inl otf))]) (xV (As := [.int (nI a), .int (nI e0), .int x]) (rest := []) C (c_X12_yesOf l D cs hm ms mkp mtr mas mso mon mot man mst msm mtb mti mfr mbn mbs mde maa mab mba mbb n k al be km en ea pr nq po th xd sF sN sS ig xa xb f a e0 x sof anf hn hen hso ha he) kX12_325 hP hD [0, 1, 2, 5] rfl (by decide) 0 rfl rfl rfl ⟨Nat.le_of_ble_eq_true rfl, Nat.le_of_ble_eq_true rfl⟩ rfl hl.1 rfl (Nat.le_of_ble_eq_true rfl) dX12_pollsOne_4 ⟨Nat.le_of_ble_eq_true rfl, Nat.le_of_ble_eq_true rfl⟩) hP hD hS hA [0, 1, 2, 5] [3, 4] rfl rfl (by decide) (by decide) ?_
  clear hP hD hS
  try clear locs
  try clear H
  intro r_1 u_2 H locs hw_r_1 hP hD hS
  refine W.widen (k := 0) (n := 0) (Nat.le_of_ble_eq_true rfl) (Nat.le_of_ble_eq_true rfl) ?_
  replace hP : va_P D vwCl [(mon, .inl (cs 0, 16, .inl onf)), (mot, .inl (cs 0, 16, .inl otf)), (hm, .inr (12, [.ref ms, .ref mkp, .int (nI km), .ref mtr, .int (nI n), .int (nI k), .int (nI al), .int (nI be), .int ea, .int pr, .ref mas, .int nq, .int po, .int (nI en), .ref mso, .ref mon, .ref mot, .ref man, .int th, .int xd, .ref mst, .ref msm, .ref mtb, .ref mti, .ref mfr, .ref mbn, .ref mbs, .ref mde, .int sF, .int sN, .int sS, .int ig, .long xa, .long xb, .ref maa, .ref mab, .ref mba, .ref mbb])), (ms, .inl (cs 0, 288, .inl f)), (mso, .inl (cs 0, 16, .inl sof)), (man, .inl (cs 0, 16, .inl anf))] H := hP
  replace hD : va_D A [(mon, .inl (cs 0, 16, .inl onf)), (mot, .inl (cs 0, 16, .inl otf)), (hm, .inr (12, [.ref ms, .ref mkp, .int (nI km), .ref mtr, .int (nI n), .int (nI k), .int (nI al), .int (nI be), .int ea, .int pr, .ref mas, .int nq, .int po, .int (nI en), .ref mso, .ref mon, .ref mot, .ref man, .int th, .int xd, .ref mst, .ref msm, .ref mtb, .ref mti, .ref mfr, .ref mbn, .ref mbs, .ref mde, .int sF, .int sN, .int sS, .int ig, .long xa, .long xb, .ref maa, .ref mab, .ref mba, .ref mbb])), (ms, .inl (cs 0, 288, .inl f)), (mso, .inl (cs 0, 16, .inl sof)), (man, .inl (cs 0, 16, .inl anf))] := hD
  refine lv_aload_n hx hb dX12_pollsOne_7 rfl (lv_at hl 0 rfl) ?_
  refine xget C hP 2 rfl rfl zuX12 6 (by decide) zw5_219 rfl dX12_pollsOne_8 ?_
  refine lv_icmp_lt (tgt := 18) hx hb dX12_pollsOne_11 (by decide) (fun c_3 => ?_) (fun c_3 => ?_)
  · -- 11 t
    refine lv_iconst (v := nI 0) hx hb dX12_pollsOne_18 (by decide) ?_
    refine lv_istore (lv' := [(4, .int (nI 0)), (0, .ref hm), (1, .int (nI a)), (2, .int (nI e0)), (3, .int x)]) hx hb dX12_pollsOne_19 hl (by decide) rfl ?_
    clear hl
    try clear ls
    intro ls hl
    refine lv_aload_n hx hb dX12_pollsOne_21 rfl (lv_at hl 1 rfl) ?_
    refine xget C hP 2 rfl rfl zuX12 0 (by decide) zw5_213 rfl dX12_pollsOne_22 ?_
    refine lv_bipush (v := nI 72) hx hb dX12_pollsOne_25 (by decide) ?_
    refine lv_iload_n hx hb dX12_pollsOne_27 rfl (lv_at hl 2 rfl) ?_
    refine lv_iadd hx hb dX12_pollsOne_28 ?_
    refine lv_topi (nm_r (e' := nI (72 + a)) (nI_add _ _) ?_)
    refine lv_dup2_11 hx hb dX12_pollsOne_29 rfl rfl ?_
    refine xiald C hP 3 rfl (72 + a) rfl (by omega) (by decide) dX12_pollsOne_30 ?_
    refine lv_iconst (v := nI 1) hx hb dX12_pollsOne_31 (by decide) ?_
    refine lv_iload_n hx hb dX12_pollsOne_32 rfl (lv_at hl 3 rfl) ?_
    refine lv_ishl hx hb dX12_pollsOne_33 ?_
    refine lv_ior hx hb dX12_pollsOne_34 ?_
    refine xiast C hP hD hS 3 rfl (72 + a) rfl (by omega) (by decide) dX12_pollsOne_35 ?_
    clear hP hD hS
    try clear locs
    try clear H
    intro H locs hP hD hS
    replace hP : va_P D vwCl [(mon, .inl (cs 0, 16, .inl onf)), (mot, .inl (cs 0, 16, .inl otf)), (hm, .inr (12, [.ref ms, .ref mkp, .int (nI km), .ref mtr, .int (nI n), .int (nI k), .int (nI al), .int (nI be), .int ea, .int pr, .ref mas, .int nq, .int po, .int (nI en), .ref mso, .ref mon, .ref mot, .ref man, .int th, .int xd, .ref mst, .ref msm, .ref mtb, .ref mti, .ref mfr, .ref mbn, .ref mbs, .ref mde, .int sF, .int sN, .int sS, .int ig, .long xa, .long xb, .ref maa, .ref mab, .ref mba, .ref mbb])), (ms, .inl (cs 0, 288, .inl (upd f (72 + a) ((f (72 + a)) ||| ((nI 1) <<< ((nI e0) &&& 31)))))), (mso, .inl (cs 0, 16, .inl sof)), (man, .inl (cs 0, 16, .inl anf))] H := hP
    replace hD : va_D A [(mon, .inl (cs 0, 16, .inl onf)), (mot, .inl (cs 0, 16, .inl otf)), (hm, .inr (12, [.ref ms, .ref mkp, .int (nI km), .ref mtr, .int (nI n), .int (nI k), .int (nI al), .int (nI be), .int ea, .int pr, .ref mas, .int nq, .int po, .int (nI en), .ref mso, .ref mon, .ref mot, .ref man, .int th, .int xd, .ref mst, .ref msm, .ref mtb, .ref mti, .ref mfr, .ref mbn, .ref mbs, .ref mde, .int sF, .int sN, .int sS, .int ig, .long xa, .long xb, .ref maa, .ref mab, .ref mba, .ref mbb])), (ms, .inl (cs 0, 288, .inl (upd f (72 + a) ((f (72 + a)) ||| ((nI 1) <<< ((nI e0) &&& 31)))))), (mso, .inl (cs 0, 16, .inl sof)), (man, .inl (cs 0, 16, .inl anf))] := hD
    refine lv_aload_n hx hb dX12_pollsOne_36 rfl (lv_at hl 1 rfl) ?_
    refine lv_dup hx hb dX12_pollsOne_37 rfl ?_
    refine xget C hP 2 rfl rfl zuX12 12 (by decide) zw5_225 rfl dX12_pollsOne_38 ?_
    refine lv_iconst (v := nI 1) hx hb dX12_pollsOne_41 (by decide) ?_
    refine lv_iadd hx hb dX12_pollsOne_42 ?_
    refine xput C hP hD hS 2 rfl rfl zuX12 tyX12 tyX12_ok nmX12 12 (by decide) zw5_225 rfl rfl rfl (Nat.le_of_ble_eq_true rfl) dX12_pollsOne_43 ?_
    clear hP hD hS
    try clear locs
    try clear H
    intro H locs hP hD hS
    replace hP : va_P D vwCl [(mon, .inl (cs 0, 16, .inl onf)), (mot, .inl (cs 0, 16, .inl otf)), (hm, .inr (12, [.ref ms, .ref mkp, .int (nI km), .ref mtr, .int (nI n), .int (nI k), .int (nI al), .int (nI be), .int ea, .int pr, .ref mas, .int nq, .int (po + (nI 1)), .int (nI en), .ref mso, .ref mon, .ref mot, .ref man, .int th, .int xd, .ref mst, .ref msm, .ref mtb, .ref mti, .ref mfr, .ref mbn, .ref mbs, .ref mde, .int sF, .int sN, .int sS, .int ig, .long xa, .long xb, .ref maa, .ref mab, .ref mba, .ref mbb])), (ms, .inl (cs 0, 288, .inl (upd f (72 + a) ((f (72 + a)) ||| ((nI 1) <<< ((nI e0) &&& 31)))))), (mso, .inl (cs 0, 16, .inl sof)), (man, .inl (cs 0, 16, .inl anf))] H := hP
    replace hD : va_D A [(mon, .inl (cs 0, 16, .inl onf)), (mot, .inl (cs 0, 16, .inl otf)), (hm, .inr (12, [.ref ms, .ref mkp, .int (nI km), .ref mtr, .int (nI n), .int (nI k), .int (nI al), .int (nI be), .int ea, .int pr, .ref mas, .int nq, .int (po + (nI 1)), .int (nI en), .ref mso, .ref mon, .ref mot, .ref man, .int th, .int xd, .ref mst, .ref msm, .ref mtb, .ref mti, .ref mfr, .ref mbn, .ref mbs, .ref mde, .int sF, .int sN, .int sS, .int ig, .long xa, .long xb, .ref maa, .ref mab, .ref mba, .ref mbb])), (ms, .inl (cs 0, 288, .inl (upd f (72 + a) ((f (72 + a)) ||| ((nI 1) <<< ((nI e0) &&& 31)))))), (mso, .inl (cs 0, 16, .inl sof)), (man, .inl (cs 0, 16, .inl anf))] := hD
    refine lv_iload hx hb dX12_pollsOne_46 (lv_at hl 0 rfl) ?_
    refine lv_if_eq (tgt := 66) hx hb dX12_pollsOne_48 (by decide) (fun _ => ?_) (fun c => absurd (by decide) c)
    refine lv_aload_n hx hb dX12_pollsOne_66 rfl (lv_at hl 1 rfl) ?_
    refine xget C hP 2 rfl rfl zuX12 17 (by decide) zw5_230 rfl dX12_pollsOne_67 ?_
    refine lv_iload_n hx hb dX12_pollsOne_70 rfl (lv_at hl 3 rfl) ?_
    refine xiald C hP 5 rfl e0 rfl (by omega) (by decide) dX12_pollsOne_71 ?_
    refine lv_iconst (v := nI 1) hx hb dX12_pollsOne_72 (by decide) ?_
    refine lv_iload_n hx hb dX12_pollsOne_73 rfl (lv_at hl 3 rfl) ?_
    refine lv_ishl hx hb dX12_pollsOne_74 ?_
    refine lv_ior hx hb dX12_pollsOne_75 ?_
    refine lv_istore (lv' := [(5, .int ((anf e0) ||| ((nI 1) <<< ((nI e0) &&& 31)))), (4, .int (nI 0)), (0, .ref hm), (1, .int (nI a)), (2, .int (nI e0)), (3, .int x)]) hx hb dX12_pollsOne_76 hl (by decide) rfl ?_
    clear hl
    try clear ls
    intro ls hl
    refine lv_iconst (v := nI 0) hx hb dX12_pollsOne_78 (by decide) ?_
    refine lv_istore (lv' := [(6, .int (nI 0)), (5, .int ((anf e0) ||| ((nI 1) <<< ((nI e0) &&& 31)))), (4, .int (nI 0)), (0, .ref hm), (1, .int (nI a)), (2, .int (nI e0)), (3, .int x)]) hx hb dX12_pollsOne_79 hl (by decide) rfl ?_
    clear hl
    try clear ls
    intro ls hl
    have loop_4 : ∀ (n_loop_4 : Nat) (o : Nat) (f9 : Nat → Int32), (o ≤ en) → (lowE (upd f (72 + a) ((f (72 + a)) ||| ((nI 1) <<< ((nI e0) &&& 31)))) f9) → en - o < n_loop_4 → ∀ (H : Heap) (locs : List Loc) (ls : Array Slot), va_P D vwCl [(mon, .inl (cs 0, 16, .inl onf)), (mot, .inl (cs 0, 16, .inl otf)), (hm, .inr (12, [.ref ms, .ref mkp, .int (nI km), .ref mtr, .int (nI n), .int (nI k), .int (nI al), .int (nI be), .int ea, .int pr, .ref mas, .int nq, .int (po + (nI 1)), .int (nI en), .ref mso, .ref mon, .ref mot, .ref man, .int th, .int xd, .ref mst, .ref msm, .ref mtb, .ref mti, .ref mfr, .ref mbn, .ref mbs, .ref mde, .int sF, .int sN, .int sS, .int ig, .long xa, .long xb, .ref maa, .ref mab, .ref mba, .ref mbb])), (ms, .inl (cs 0, 288, .inl f9)), (mso, .inl (cs 0, 16, .inl sof)), (man, .inl (cs 0, 16, .inl anf))] H → va_D A [(mon, .inl (cs 0, 16, .inl onf)), (mot, .inl (cs 0, 16, .inl otf)), (hm, .inr (12, [.ref ms, .ref mkp, .int (nI km), .ref mtr, .int (nI n), .int (nI k), .int (nI al), .int (nI be), .int ea, .int pr, .ref mas, .int nq, .int (po + (nI 1)), .int (nI en), .ref mso, .ref mon, .ref mot, .ref man, .int th, .int xd, .ref mst, .ref msm, .ref mtb, .ref mti, .ref mfr, .ref mbn, .ref mbs, .ref mde, .int sF, .int sN, .int sS, .int ig, .long xa, .long xb, .ref maa, .ref mab, .ref mba, .ref mbb])), (ms, .inl (cs 0, 288, .inl f9)), (mso, .inl (cs 0, 16, .inl sof)), (man, .inl (cs 0, 16, .inl anf))] → va_S A s.heap H locs → lv_has ls 8 [(6, .int (nI o)), (5, .int ((anf e0) ||| ((nI 1) <<< ((nI e0) &&& 31)))), (4, .int (nI 0)), (0, .ref hm), (1, .int (nI a)), (2, .int (nI e0)), (3, .int x)] → W p l e ({ frames := 4, cells := 0, slots := 0, locals := 93 } : Room) s m args below meth c H locs 0 0 (MQ below ((xQi D (fun (r : Int32) (u : (Nat → Int32) × Int32) => match u with | (fz, poz) => lowE (upd f (72 + a) ((f (72 + a)) ||| ((nI 1) <<< ((nI e0) &&& 31)))) fz) (fun (u : (Nat → Int32) × Int32) => match u with | (fz, poz) => [(hm, .inr (12, [.ref ms, .ref mkp, .int (nI km), .ref mtr, .int (nI n), .int (nI k), .int (nI al), .int (nI be), .int ea, .int pr, .ref mas, .int nq, .int poz, .int (nI en), .ref mso, .ref mon, .ref mot, .ref man, .int th, .int xd, .ref mst, .ref msm, .ref mtb, .ref mti, .ref mfr, .ref mbn, .ref mbs, .ref mde, .int sF, .int sN, .int sS, .int ig, .long xa, .long xb, .ref maa, .ref mab, .ref mba, .ref mbb])), (ms, .inl (cs 0, 288, .inl fz)), (mso, .inl (cs 0, 16, .inl sof)), (mon, .inl (cs 0, 16, .inl onf)), (mot, .inl (cs 0, 16, .inl otf)), (man, .inl (cs 0, 16, .inl anf))])) A) args s 0 0 A) (F0 m 81 ls []) := by
      intro n_loop_4
      induction n_loop_4 with
      | zero => intro o f9 h_o hw9 hlt H locs ls hP hD hS hl; exact absurd hlt (Nat.not_lt_zero _)
      | succ n_loop_4 ih_loop_4 =>
        intro o f9 h_o hw9 hlt_loop_4 H locs ls hP hD hS hl
        refine lv_iload hx hb dX12_pollsOne_81 (lv_at hl 0 rfl) ?_
        refine lv_aload_n hx hb dX12_pollsOne_83 rfl (lv_at hl 3 rfl) ?_
        refine xget C hP 2 rfl rfl zuX12 13 (by decide) zw5_226 rfl dX12_pollsOne_84 ?_
        refine lv_icmp_ge (tgt := 130) hx hb dX12_pollsOne_87 (by decide) (fun c_5 => ?_) (fun c_5 => ?_)
        · -- 87 t
          have fc_5 : en ≤ o := nf_le (by omega) (by omega) c_5
          refine lv_iconst (v := nI 0) hx hb dX12_pollsOne_130 (by decide) ?_
          refine lv_istore (lv' := [(6, .int (nI 0)), (5, .int ((anf e0) ||| ((nI 1) <<< ((nI e0) &&& 31)))), (4, .int (nI 0)), (0, .ref hm), (1, .int (nI a)), (2, .int (nI e0)), (3, .int x)]) hx hb dX12_pollsOne_131 hl (by decide) rfl ?_
          clear hl
          try clear ls
          intro ls hl
          refine lv_iconst (v := nI 0) hx hb dX12_pollsOne_133 (by decide) ?_
          refine lv_istore (lv' := [(7, .int (nI 0)), (6, .int (nI 0)), (5, .int ((anf e0) ||| ((nI 1) <<< ((nI e0) &&& 31)))), (4, .int (nI 0)), (0, .ref hm), (1, .int (nI a)), (2, .int (nI e0)), (3, .int x)]) hx hb dX12_pollsOne_134 hl (by decide) rfl ?_
          clear hl
          try clear ls
          intro ls hl
          have loop_6 : ∀ (n_loop_6 : Nat) (o2 : Nat) (f8 : Nat → Int32) (i9 : Int32), (o2 ≤ en) → (lowE (upd f (72 + a) ((f (72 + a)) ||| ((nI 1) <<< ((nI e0) &&& 31)))) f8) → en - o2 < n_loop_6 → ∀ (H : Heap) (locs : List Loc) (ls : Array Slot), va_P D vwCl [(mon, .inl (cs 0, 16, .inl onf)), (mot, .inl (cs 0, 16, .inl otf)), (hm, .inr (12, [.ref ms, .ref mkp, .int (nI km), .ref mtr, .int (nI n), .int (nI k), .int (nI al), .int (nI be), .int ea, .int pr, .ref mas, .int nq, .int (po + (nI 1)), .int (nI en), .ref mso, .ref mon, .ref mot, .ref man, .int th, .int xd, .ref mst, .ref msm, .ref mtb, .ref mti, .ref mfr, .ref mbn, .ref mbs, .ref mde, .int sF, .int sN, .int sS, .int ig, .long xa, .long xb, .ref maa, .ref mab, .ref mba, .ref mbb])), (ms, .inl (cs 0, 288, .inl f8)), (mso, .inl (cs 0, 16, .inl sof)), (man, .inl (cs 0, 16, .inl anf))] H → va_D A [(mon, .inl (cs 0, 16, .inl onf)), (mot, .inl (cs 0, 16, .inl otf)), (hm, .inr (12, [.ref ms, .ref mkp, .int (nI km), .ref mtr, .int (nI n), .int (nI k), .int (nI al), .int (nI be), .int ea, .int pr, .ref mas, .int nq, .int (po + (nI 1)), .int (nI en), .ref mso, .ref mon, .ref mot, .ref man, .int th, .int xd, .ref mst, .ref msm, .ref mtb, .ref mti, .ref mfr, .ref mbn, .ref mbs, .ref mde, .int sF, .int sN, .int sS, .int ig, .long xa, .long xb, .ref maa, .ref mab, .ref mba, .ref mbb])), (ms, .inl (cs 0, 288, .inl f8)), (mso, .inl (cs 0, 16, .inl sof)), (man, .inl (cs 0, 16, .inl anf))] → va_S A s.heap H locs → lv_has ls 8 [(7, .int (nI o2)), (6, .int i9), (5, .int ((anf e0) ||| ((nI 1) <<< ((nI e0) &&& 31)))), (4, .int (nI 0)), (0, .ref hm), (1, .int (nI a)), (2, .int (nI e0)), (3, .int x)] → W p l e ({ frames := 4, cells := 0, slots := 0, locals := 93 } : Room) s m args below meth c H locs 0 0 (MQ below ((xQi D (fun (r : Int32) (u : (Nat → Int32) × Int32) => match u with | (fz, poz) => lowE (upd f (72 + a) ((f (72 + a)) ||| ((nI 1) <<< ((nI e0) &&& 31)))) fz) (fun (u : (Nat → Int32) × Int32) => match u with | (fz, poz) => [(hm, .inr (12, [.ref ms, .ref mkp, .int (nI km), .ref mtr, .int (nI n), .int (nI k), .int (nI al), .int (nI be), .int ea, .int pr, .ref mas, .int nq, .int poz, .int (nI en), .ref mso, .ref mon, .ref mot, .ref man, .int th, .int xd, .ref mst, .ref msm, .ref mtb, .ref mti, .ref mfr, .ref mbn, .ref mbs, .ref mde, .int sF, .int sN, .int sS, .int ig, .long xa, .long xb, .ref maa, .ref mab, .ref mba, .ref mbb])), (ms, .inl (cs 0, 288, .inl fz)), (mso, .inl (cs 0, 16, .inl sof)), (mon, .inl (cs 0, 16, .inl onf)), (mot, .inl (cs 0, 16, .inl otf)), (man, .inl (cs 0, 16, .inl anf))])) A) args s 0 0 A) (F0 m 136 ls []) := by
            intro n_loop_6
            induction n_loop_6 with
            | zero => intro o2 f8 i9 h_o2 hw8 hlt H locs ls hP hD hS hl; exact absurd hlt (Nat.not_lt_zero _)
            | succ n_loop_6 ih_loop_6 =>
              intro o2 f8 i9 h_o2 hw8 hlt_loop_6 H locs ls hP hD hS hl
              refine lv_iload hx hb dX12_pollsOne_136 (lv_at hl 0 rfl) ?_
              refine lv_aload_n hx hb dX12_pollsOne_138 rfl (lv_at hl 4 rfl) ?_
              refine xget C hP 2 rfl rfl zuX12 13 (by decide) zw5_226 rfl dX12_pollsOne_139 ?_
              refine lv_icmp_ge (tgt := 174) hx hb dX12_pollsOne_142 (by decide) (fun c_7 => ?_) (fun c_7 => ?_)
              · -- 142 t
                have fc_7 : en ≤ o2 := nf_le (by omega) (by omega) c_7
                refine lv_iload hx hb dX12_pollsOne_174 (lv_at hl 1 rfl) ?_
                refine lv_if_eq (tgt := 183) hx hb dX12_pollsOne_176 (by decide) (fun c_8 => ?_) (fun c_8 => ?_)
                · -- 176 t
                  refine lv_iload hx hb dX12_pollsOne_183 (lv_at hl 3 rfl) ?_
                  refine lv_if_eq (tgt := 192) hx hb dX12_pollsOne_185 (by decide) (fun _ => ?_) (fun c => absurd (by decide) c)
                  refine lv_iconst (v := nI 0) hx hb dX12_pollsOne_192 (by decide) ?_
                  exact xreti C (⟨f8, (po + (nI 1))⟩) hw8 (xP_map hP [2, 3, 4, 0, 1, 5] rfl) (hD.sub [2, 3, 4, 0, 1, 5] (by decide) rfl) hS (Nat.le_of_ble_eq_true rfl) (Nat.le_of_ble_eq_true rfl) rfl dX12_pollsOne_193
                · -- 176 f
                  refine lv_iconst (v := nI 2) hx hb dX12_pollsOne_179 (by decide) ?_
                  refine lv_goto (tgt := 193) hx hb dX12_pollsOne_180 (by decide) ?_
                  exact xreti C (⟨f8, (po + (nI 1))⟩) hw8 (xP_map hP [2, 3, 4, 0, 1, 5] rfl) (hD.sub [2, 3, 4, 0, 1, 5] (by decide) rfl) hS (Nat.le_of_ble_eq_true rfl) (Nat.le_of_ble_eq_true rfl) rfl dX12_pollsOne_193
              · -- 142 f
                have fc_7 : o2 < en := nf_nle (by omega) (by omega) c_7
                refine lv_iload hx hb dX12_pollsOne_145 (lv_at hl 2 rfl) ?_
                refine lv_iload hx hb dX12_pollsOne_147 (lv_at hl 0 rfl) ?_
                refine xi (wr := [(mon, .inl (cs 0, 16, .inl onf)), (mot, .inl (cs 0, 16, .inl otf)), (hm, .inr (12, [.ref ms, .ref mkp, .int (nI km), .ref mtr, .int (nI n), .int (nI k), .int (nI al), .int (nI be), .int ea, .int pr, .ref mas, .int nq, .int (po + (nI 1)), .int (nI en), .ref mso, .ref mon, .ref mot, .ref man, .int th, .int xd, .ref mst, .ref msm, .ref mtb, .ref mti, .ref mfr, .ref mbn, .ref mbs, .ref mde, .int sF, .int sN, .int sS, .int ig, .long xa, .long xb, .ref maa, .ref mab, .ref mba, .ref mbb])), (ms, .inl (cs 0, 288, .inl f8)), (mso, .inl (cs 0, 16, .inl sof)), (man, .inl (cs 0, 16, .inl anf))]) (xS (As := [.int ((anf e0) ||| ((nI 1) <<< ((nI e0) &&& 31))), .int (nI o2)]) (rest := []) C (c_X12_has l D cs ((anf e0) ||| ((nI 1) <<< ((nI e0) &&& 31))) o2) kX12_100 hP hD [] rfl (by decide) ⟨Nat.le_of_ble_eq_true rfl, Nat.le_of_ble_eq_true rfl⟩ rfl hl.1 rfl (Nat.le_of_ble_eq_true rfl) dX12_pollsOne_149 ⟨Nat.le_of_ble_eq_true rfl, Nat.le_of_ble_eq_true rfl⟩) hP hD hS hA [] [0, 1, 2, 3, 4, 5] rfl rfl (by decide) (by decide) ?_
                clear hP hD hS
                try clear locs
                try clear H
                intro r_9 u_10 H locs hw_r_9 hP hD hS
                have hw_r_9 : PQ (hasB ((anf e0) ||| ((nI 1) <<< ((nI e0) &&& 31))) o2) r_9 (nI 1) (nI 0) := hw_r_9
                refine W.widen (k := 0) (n := 0) (Nat.le_of_ble_eq_true rfl) (Nat.le_of_ble_eq_true rfl) ?_
                replace hP : va_P D vwCl [(mon, .inl (cs 0, 16, .inl onf)), (mot, .inl (cs 0, 16, .inl otf)), (hm, .inr (12, [.ref ms, .ref mkp, .int (nI km), .ref mtr, .int (nI n), .int (nI k), .int (nI al), .int (nI be), .int ea, .int pr, .ref mas, .int nq, .int (po + (nI 1)), .int (nI en), .ref mso, .ref mon, .ref mot, .ref man, .int th, .int xd, .ref mst, .ref msm, .ref mtb, .ref mti, .ref mfr, .ref mbn, .ref mbs, .ref mde, .int sF, .int sN, .int sS, .int ig, .long xa, .long xb, .ref maa, .ref mab, .ref mba, .ref mbb])), (ms, .inl (cs 0, 288, .inl f8)), (mso, .inl (cs 0, 16, .inl sof)), (man, .inl (cs 0, 16, .inl anf))] H := hP
                replace hD : va_D A [(mon, .inl (cs 0, 16, .inl onf)), (mot, .inl (cs 0, 16, .inl otf)), (hm, .inr (12, [.ref ms, .ref mkp, .int (nI km), .ref mtr, .int (nI n), .int (nI k), .int (nI al), .int (nI be), .int ea, .int pr, .ref mas, .int nq, .int (po + (nI 1)), .int (nI en), .ref mso, .ref mon, .ref mot, .ref man, .int th, .int xd, .ref mst, .ref msm, .ref mtb, .ref mti, .ref mfr, .ref mbn, .ref mbs, .ref mde, .int sF, .int sN, .int sS, .int ig, .long xa, .long xb, .ref maa, .ref mab, .ref mba, .ref mbb])), (ms, .inl (cs 0, 288, .inl f8)), (mso, .inl (cs 0, 16, .inl sof)), (man, .inl (cs 0, 16, .inl anf))] := hD
                refine lv_if_eq (tgt := 168) hx hb dX12_pollsOne_152 (by decide) (fun c_11 => ?_) (fun c_11 => ?_)
                · -- 152 t
                  refine lv_iinc (v := nI (o2 + 1)) (lv' := [(7, .int (nI (o2 + 1))), (6, .int i9), (5, .int ((anf e0) ||| ((nI 1) <<< ((nI e0) &&& 31)))), (4, .int (nI 0)), (0, .ref hm), (1, .int (nI a)), (2, .int (nI e0)), (3, .int x)]) hx hb dX12_pollsOne_168 hl (k := 0) rfl (nI_add o2 1) (by decide) rfl ?_
                  clear hl
                  try clear ls
                  intro ls hl
                  refine lv_goto (tgt := 136) hx hb dX12_pollsOne_171 (by decide) ?_
                  exact ih_loop_6 (o2 + 1) f8 i9 (by omega) hw8 (by omega) H locs ls hP hD hS (lv_sub hl [0, 1, 2, 3, 4, 5, 6, 7] rfl)
                · -- 152 f
                  refine lv_aload_n hx hb dX12_pollsOne_155 rfl (lv_at hl 4 rfl) ?_
                  refine lv_iload_n hx hb dX12_pollsOne_156 rfl (lv_at hl 5 rfl) ?_
                  refine lv_iload hx hb dX12_pollsOne_157 (lv_at hl 0 rfl) ?_
                  refine xi (wr := [(man, .inl (cs 0, 16, .inl anf))]) (xV (As := [.int (nI a), .int (nI o2)]) (rest := []) C (c_X12_accepts_f l D cs hm ms mkp mtr mas mso mon mot man mst msm mtb mti mfr mbn mbs mde maa mab mba mbb n k al be km en ea pr nq (po + (nI 1)) th xd sF sN sS ig xa xb f8 sof onf otf a o2 hen hso ha (by omega)) kX12_333 hP hD [2, 3, 4, 0, 1] rfl (by decide) 0 rfl rfl rfl ⟨Nat.le_of_ble_eq_true rfl, Nat.le_of_ble_eq_true rfl⟩ rfl hl.1 rfl (Nat.le_of_ble_eq_true rfl) dX12_pollsOne_159 ⟨Nat.le_of_ble_eq_true rfl, Nat.le_of_ble_eq_true rfl⟩) hP hD hS hA [2, 3, 4, 0, 1] [5] rfl rfl (by decide) (by decide) ?_
                  clear hP hD hS
                  try clear locs
                  try clear H
                  intro r_12 u_13 H locs hw_r_12 hP hD hS
                  have hw_r_12 : (r_12 = nI 0 ∨ r_12 = nI 1) ∧ lowE f8 u_13 := hw_r_12
                  refine W.widen (k := 0) (n := 0) (Nat.le_of_ble_eq_true rfl) (Nat.le_of_ble_eq_true rfl) ?_
                  replace hP : va_P D vwCl [(man, .inl (cs 0, 16, .inl anf)), (hm, .inr (12, [.ref ms, .ref mkp, .int (nI km), .ref mtr, .int (nI n), .int (nI k), .int (nI al), .int (nI be), .int ea, .int pr, .ref mas, .int nq, .int (po + (nI 1)), .int (nI en), .ref mso, .ref mon, .ref mot, .ref man, .int th, .int xd, .ref mst, .ref msm, .ref mtb, .ref mti, .ref mfr, .ref mbn, .ref mbs, .ref mde, .int sF, .int sN, .int sS, .int ig, .long xa, .long xb, .ref maa, .ref mab, .ref mba, .ref mbb])), (ms, .inl (cs 0, 288, .inl u_13)), (mso, .inl (cs 0, 16, .inl sof)), (mon, .inl (cs 0, 16, .inl onf)), (mot, .inl (cs 0, 16, .inl otf))] H := hP
                  replace hD : va_D A [(man, .inl (cs 0, 16, .inl anf)), (hm, .inr (12, [.ref ms, .ref mkp, .int (nI km), .ref mtr, .int (nI n), .int (nI k), .int (nI al), .int (nI be), .int ea, .int pr, .ref mas, .int nq, .int (po + (nI 1)), .int (nI en), .ref mso, .ref mon, .ref mot, .ref man, .int th, .int xd, .ref mst, .ref msm, .ref mtb, .ref mti, .ref mfr, .ref mbn, .ref mbs, .ref mde, .int sF, .int sN, .int sS, .int ig, .long xa, .long xb, .ref maa, .ref mab, .ref mba, .ref mbb])), (ms, .inl (cs 0, 288, .inl u_13)), (mso, .inl (cs 0, 16, .inl sof)), (mon, .inl (cs 0, 16, .inl onf)), (mot, .inl (cs 0, 16, .inl otf))] := hD
                  refine lv_if_eq (tgt := 168) hx hb dX12_pollsOne_162 (by decide) (fun c_14 => ?_) (fun c_14 => ?_)
                  · -- 162 t
                    refine lv_iinc (v := nI (o2 + 1)) (lv' := [(7, .int (nI (o2 + 1))), (6, .int i9), (5, .int ((anf e0) ||| ((nI 1) <<< ((nI e0) &&& 31)))), (4, .int (nI 0)), (0, .ref hm), (1, .int (nI a)), (2, .int (nI e0)), (3, .int x)]) hx hb dX12_pollsOne_168 hl (k := 0) rfl (nI_add o2 1) (by decide) rfl ?_
                    clear hl
                    try clear ls
                    intro ls hl
                    refine lv_goto (tgt := 136) hx hb dX12_pollsOne_171 (by decide) ?_
                    exact ih_loop_6 (o2 + 1) u_13 i9 (by omega) ((hw8).trans hw_r_12.2) (by omega) H locs ls (xP_map hP [4, 5, 1, 2, 3, 0] rfl) (hD.sub [4, 5, 1, 2, 3, 0] (by decide) rfl) hS (lv_sub hl [0, 1, 2, 3, 4, 5, 6, 7] rfl)
                  · -- 162 f
                    refine lv_iconst (v := nI 1) hx hb dX12_pollsOne_165 (by decide) ?_
                    refine lv_istore (lv' := [(6, .int (nI 1)), (7, .int (nI o2)), (5, .int ((anf e0) ||| ((nI 1) <<< ((nI e0) &&& 31)))), (4, .int (nI 0)), (0, .ref hm), (1, .int (nI a)), (2, .int (nI e0)), (3, .int x)]) hx hb dX12_pollsOne_166 hl (by decide) rfl ?_
                    clear hl
                    try clear ls
                    intro ls hl
                    refine lv_iinc (v := nI (o2 + 1)) (lv' := [(7, .int (nI (o2 + 1))), (6, .int (nI 1)), (5, .int ((anf e0) ||| ((nI 1) <<< ((nI e0) &&& 31)))), (4, .int (nI 0)), (0, .ref hm), (1, .int (nI a)), (2, .int (nI e0)), (3, .int x)]) hx hb dX12_pollsOne_168 hl (k := 1) rfl (nI_add o2 1) (by decide) rfl ?_
                    clear hl
                    try clear ls
                    intro ls hl
                    refine lv_goto (tgt := 136) hx hb dX12_pollsOne_171 (by decide) ?_
                    exact ih_loop_6 (o2 + 1) u_13 (nI 1) (by omega) ((hw8).trans hw_r_12.2) (by omega) H locs ls (xP_map hP [4, 5, 1, 2, 3, 0] rfl) (hD.sub [4, 5, 1, 2, 3, 0] (by decide) rfl) hS (lv_sub hl [0, 1, 2, 3, 4, 5, 6, 7] rfl)
          exact loop_6 _ 0 f9 (nI 0) (by omega) hw9 (Nat.lt_succ_self _) H locs ls hP hD hS (lv_sub hl [0, 1, 2, 3, 4, 5, 6, 7] rfl)
        · -- 87 f
          have fc_5 : o < en := nf_nle (by omega) (by omega) c_5
          refine lv_iload hx hb dX12_pollsOne_90 (lv_at hl 1 rfl) ?_
          refine lv_iload hx hb dX12_pollsOne_92 (lv_at hl 0 rfl) ?_
          refine xi (wr := [(mon, .inl (cs 0, 16, .inl onf)), (mot, .inl (cs 0, 16, .inl otf)), (hm, .inr (12, [.ref ms, .ref mkp, .int (nI km), .ref mtr, .int (nI n), .int (nI k), .int (nI al), .int (nI be), .int ea, .int pr, .ref mas, .int nq, .int (po + (nI 1)), .int (nI en), .ref mso, .ref mon, .ref mot, .ref man, .int th, .int xd, .ref mst, .ref msm, .ref mtb, .ref mti, .ref mfr, .ref mbn, .ref mbs, .ref mde, .int sF, .int sN, .int sS, .int ig, .long xa, .long xb, .ref maa, .ref mab, .ref mba, .ref mbb])), (ms, .inl (cs 0, 288, .inl f9)), (mso, .inl (cs 0, 16, .inl sof)), (man, .inl (cs 0, 16, .inl anf))]) (xS (As := [.int ((anf e0) ||| ((nI 1) <<< ((nI e0) &&& 31))), .int (nI o)]) (rest := []) C (c_X12_has l D cs ((anf e0) ||| ((nI 1) <<< ((nI e0) &&& 31))) o) kX12_100 hP hD [] rfl (by decide) ⟨Nat.le_of_ble_eq_true rfl, Nat.le_of_ble_eq_true rfl⟩ rfl hl.1 rfl (Nat.le_of_ble_eq_true rfl) dX12_pollsOne_94 ⟨Nat.le_of_ble_eq_true rfl, Nat.le_of_ble_eq_true rfl⟩) hP hD hS hA [] [0, 1, 2, 3, 4, 5] rfl rfl (by decide) (by decide) ?_
          clear hP hD hS
          try clear locs
          try clear H
          intro r_15 u_16 H locs hw_r_15 hP hD hS
          have hw_r_15 : PQ (hasB ((anf e0) ||| ((nI 1) <<< ((nI e0) &&& 31))) o) r_15 (nI 1) (nI 0) := hw_r_15
          refine W.widen (k := 0) (n := 0) (Nat.le_of_ble_eq_true rfl) (Nat.le_of_ble_eq_true rfl) ?_
          replace hP : va_P D vwCl [(mon, .inl (cs 0, 16, .inl onf)), (mot, .inl (cs 0, 16, .inl otf)), (hm, .inr (12, [.ref ms, .ref mkp, .int (nI km), .ref mtr, .int (nI n), .int (nI k), .int (nI al), .int (nI be), .int ea, .int pr, .ref mas, .int nq, .int (po + (nI 1)), .int (nI en), .ref mso, .ref mon, .ref mot, .ref man, .int th, .int xd, .ref mst, .ref msm, .ref mtb, .ref mti, .ref mfr, .ref mbn, .ref mbs, .ref mde, .int sF, .int sN, .int sS, .int ig, .long xa, .long xb, .ref maa, .ref mab, .ref mba, .ref mbb])), (ms, .inl (cs 0, 288, .inl f9)), (mso, .inl (cs 0, 16, .inl sof)), (man, .inl (cs 0, 16, .inl anf))] H := hP
          replace hD : va_D A [(mon, .inl (cs 0, 16, .inl onf)), (mot, .inl (cs 0, 16, .inl otf)), (hm, .inr (12, [.ref ms, .ref mkp, .int (nI km), .ref mtr, .int (nI n), .int (nI k), .int (nI al), .int (nI be), .int ea, .int pr, .ref mas, .int nq, .int (po + (nI 1)), .int (nI en), .ref mso, .ref mon, .ref mot, .ref man, .int th, .int xd, .ref mst, .ref msm, .ref mtb, .ref mti, .ref mfr, .ref mbn, .ref mbs, .ref mde, .int sF, .int sN, .int sS, .int ig, .long xa, .long xb, .ref maa, .ref mab, .ref mba, .ref mbb])), (ms, .inl (cs 0, 288, .inl f9)), (mso, .inl (cs 0, 16, .inl sof)), (man, .inl (cs 0, 16, .inl anf))] := hD
          refine lv_if_eq (tgt := 124) hx hb dX12_pollsOne_97 (by decide) (fun c_17 => ?_) (fun c_17 => ?_)
          · -- 97 t
            refine lv_iinc (v := nI (o + 1)) (lv' := [(6, .int (nI (o + 1))), (5, .int ((anf e0) ||| ((nI 1) <<< ((nI e0) &&& 31)))), (4, .int (nI 0)), (0, .ref hm), (1, .int (nI a)), (2, .int (nI e0)), (3, .int x)]) hx hb dX12_pollsOne_124 hl (k := 0) rfl (nI_add o 1) (by decide) rfl ?_
            clear hl
            try clear ls
            intro ls hl
            refine lv_goto (tgt := 81) hx hb dX12_pollsOne_127 (by decide) ?_
            exact ih_loop_4 (o + 1) f9 (by omega) hw9 (by omega) H locs ls hP hD hS (lv_sub hl [0, 1, 2, 3, 4, 5, 6] rfl)
          · -- 97 f
            refine lv_aload_n hx hb dX12_pollsOne_100 rfl (lv_at hl 3 rfl) ?_
            refine lv_iload_n hx hb dX12_pollsOne_101 rfl (lv_at hl 4 rfl) ?_
            refine lv_aload_n hx hb dX12_pollsOne_102 rfl (lv_at hl 3 rfl) ?_
            refine xget C hP 2 rfl rfl zuX12 14 (by decide) zw5_227 rfl dX12_pollsOne_103 ?_
            refine lv_iload hx hb dX12_pollsOne_106 (lv_at hl 0 rfl) ?_
            refine xiald C hP 4 rfl o rfl (by omega) (by decide) dX12_pollsOne_108 ?_
            obtain ⟨t_18, h_t_18, e_t_18⟩ := (hso o (by omega))
            refine lv_topi (nm_r (e' := nI t_18) e_t_18 ?_)
            refine xi (wr := [(mon, .inl (cs 0, 16, .inl onf)), (mot, .inl (cs 0, 16, .inl otf)), (man, .inl (cs 0, 16, .inl anf))]) (xV (As := [.int (nI a), .int (nI t_18)]) (rest := []) C (c_X12_acceptedOf l D cs hm ms mkp mtr mas mso mon mot man mst msm mtb mti mfr mbn mbs mde maa mab mba mbb n k al be km en ea pr nq (po + (nI 1)) th xd sF sN sS ig xa xb f9 a (nI t_18) sof hen ha) kX12_310 hP hD [2, 3, 4] rfl (by decide) 0 rfl rfl rfl ⟨Nat.le_of_ble_eq_true rfl, Nat.le_of_ble_eq_true rfl⟩ rfl hl.1 rfl (Nat.le_of_ble_eq_true rfl) dX12_pollsOne_109 ⟨Nat.le_of_ble_eq_true rfl, Nat.le_of_ble_eq_true rfl⟩) hP hD hS hA [2, 3, 4] [0, 1, 5] rfl rfl (by decide) (by decide) ?_
            clear hP hD hS
            try clear locs
            try clear H
            intro r_19 u_20 H locs hw_r_19 hP hD hS
            have hw_r_19 : r_19 = -1 ∨ ∃ e, e < en ∧ r_19 = nI e := hw_r_19
            refine W.widen (k := 0) (n := 0) (Nat.le_of_ble_eq_true rfl) (Nat.le_of_ble_eq_true rfl) ?_
            replace hP : va_P D vwCl [(mon, .inl (cs 0, 16, .inl onf)), (mot, .inl (cs 0, 16, .inl otf)), (man, .inl (cs 0, 16, .inl anf)), (hm, .inr (12, [.ref ms, .ref mkp, .int (nI km), .ref mtr, .int (nI n), .int (nI k), .int (nI al), .int (nI be), .int ea, .int pr, .ref mas, .int nq, .int (po + (nI 1)), .int (nI en), .ref mso, .ref mon, .ref mot, .ref man, .int th, .int xd, .ref mst, .ref msm, .ref mtb, .ref mti, .ref mfr, .ref mbn, .ref mbs, .ref mde, .int sF, .int sN, .int sS, .int ig, .long xa, .long xb, .ref maa, .ref mab, .ref mba, .ref mbb])), (ms, .inl (cs 0, 288, .inl f9)), (mso, .inl (cs 0, 16, .inl sof))] H := hP
            replace hD : va_D A [(mon, .inl (cs 0, 16, .inl onf)), (mot, .inl (cs 0, 16, .inl otf)), (man, .inl (cs 0, 16, .inl anf)), (hm, .inr (12, [.ref ms, .ref mkp, .int (nI km), .ref mtr, .int (nI n), .int (nI k), .int (nI al), .int (nI be), .int ea, .int pr, .ref mas, .int nq, .int (po + (nI 1)), .int (nI en), .ref mso, .ref mon, .ref mot, .ref man, .int th, .int xd, .ref mst, .ref msm, .ref mtb, .ref mti, .ref mfr, .ref mbn, .ref mbs, .ref mde, .int sF, .int sN, .int sS, .int ig, .long xa, .long xb, .ref maa, .ref mab, .ref mba, .ref mbb])), (ms, .inl (cs 0, 288, .inl f9)), (mso, .inl (cs 0, 16, .inl sof))] := hD
            refine lv_if_ge (tgt := 124) hx hb dX12_pollsOne_112 (by decide) (fun c_21 => ?_) (fun c_21 => ?_)
            · -- 112 t
              refine lv_iinc (v := nI (o + 1)) (lv' := [(6, .int (nI (o + 1))), (5, .int ((anf e0) ||| ((nI 1) <<< ((nI e0) &&& 31)))), (4, .int (nI 0)), (0, .ref hm), (1, .int (nI a)), (2, .int (nI e0)), (3, .int x)]) hx hb dX12_pollsOne_124 hl (k := 0) rfl (nI_add o 1) (by decide) rfl ?_
              clear hl
              try clear ls
              intro ls hl
              refine lv_goto (tgt := 81) hx hb dX12_pollsOne_127 (by decide) ?_
              exact ih_loop_4 (o + 1) f9 (by omega) hw9 (by omega) H locs ls (xP_map hP [0, 1, 3, 4, 5, 2] rfl) (hD.sub [0, 1, 3, 4, 5, 2] (by decide) rfl) hS (lv_sub hl [0, 1, 2, 3, 4, 5, 6] rfl)
            · -- 112 f
              refine lv_aload_n hx hb dX12_pollsOne_115 rfl (lv_at hl 3 rfl) ?_
              refine lv_iload_n hx hb dX12_pollsOne_116 rfl (lv_at hl 4 rfl) ?_
              refine lv_iload hx hb dX12_pollsOne_117 (lv_at hl 0 rfl) ?_
              refine lv_iload hx hb dX12_pollsOne_119 (lv_at hl 2 rfl) ?_
              refine xv (wr := [(mon, .inl (cs 0, 16, .inl onf)), (mot, .inl (cs 0, 16, .inl otf))]) (xV (As := [.int (nI a), .int (nI o), .int (nI 0)]) (rest := []) C (c_X12_marks_f l D cs hm ms mkp mtr mas mso mon mot man mst msm mtb mti mfr mbn mbs mde maa mab mba mbb n k al be km en ea pr nq (po + (nI 1)) th xd sF sN sS ig xa xb f9 a o (nI 0) sof anf hen hso ha (by omega)) kX12_329 hP hD [3, 4, 5, 2] rfl (by decide) 0 rfl rfl rfl ⟨Nat.le_of_ble_eq_true rfl, Nat.le_of_ble_eq_true rfl⟩ rfl hl.1 rfl (Nat.le_of_ble_eq_true rfl) dX12_pollsOne_121 ⟨Nat.le_of_ble_eq_true rfl, Nat.le_of_ble_eq_true rfl⟩) hP hD hS hA [3, 4, 5, 2] [0, 1] rfl rfl (by decide) (by decide) ?_
              clear hP hD hS
              try clear locs
              try clear H
              intro u_23 H locs hw_r_22 hP hD hS
              have hw_r_22 : lowE f9 u_23 := hw_r_22
              refine W.widen (k := 0) (n := 0) (Nat.le_of_ble_eq_true rfl) (Nat.le_of_ble_eq_true rfl) ?_
              replace hP : va_P D vwCl [(mon, .inl (cs 0, 16, .inl onf)), (mot, .inl (cs 0, 16, .inl otf)), (hm, .inr (12, [.ref ms, .ref mkp, .int (nI km), .ref mtr, .int (nI n), .int (nI k), .int (nI al), .int (nI be), .int ea, .int pr, .ref mas, .int nq, .int (po + (nI 1)), .int (nI en), .ref mso, .ref mon, .ref mot, .ref man, .int th, .int xd, .ref mst, .ref msm, .ref mtb, .ref mti, .ref mfr, .ref mbn, .ref mbs, .ref mde, .int sF, .int sN, .int sS, .int ig, .long xa, .long xb, .ref maa, .ref mab, .ref mba, .ref mbb])), (ms, .inl (cs 0, 288, .inl u_23)), (mso, .inl (cs 0, 16, .inl sof)), (man, .inl (cs 0, 16, .inl anf))] H := hP
              replace hD : va_D A [(mon, .inl (cs 0, 16, .inl onf)), (mot, .inl (cs 0, 16, .inl otf)), (hm, .inr (12, [.ref ms, .ref mkp, .int (nI km), .ref mtr, .int (nI n), .int (nI k), .int (nI al), .int (nI be), .int ea, .int pr, .ref mas, .int nq, .int (po + (nI 1)), .int (nI en), .ref mso, .ref mon, .ref mot, .ref man, .int th, .int xd, .ref mst, .ref msm, .ref mtb, .ref mti, .ref mfr, .ref mbn, .ref mbs, .ref mde, .int sF, .int sN, .int sS, .int ig, .long xa, .long xb, .ref maa, .ref mab, .ref mba, .ref mbb])), (ms, .inl (cs 0, 288, .inl u_23)), (mso, .inl (cs 0, 16, .inl sof)), (man, .inl (cs 0, 16, .inl anf))] := hD
              refine lv_iinc (v := nI (o + 1)) (lv' := [(6, .int (nI (o + 1))), (5, .int ((anf e0) ||| ((nI 1) <<< ((nI e0) &&& 31)))), (4, .int (nI 0)), (0, .ref hm), (1, .int (nI a)), (2, .int (nI e0)), (3, .int x)]) hx hb dX12_pollsOne_124 hl (k := 0) rfl (nI_add o 1) (by decide) rfl ?_
              clear hl
              try clear ls
              intro ls hl
              refine lv_goto (tgt := 81) hx hb dX12_pollsOne_127 (by decide) ?_
              exact ih_loop_4 (o + 1) u_23 (by omega) ((hw9).trans hw_r_22) (by omega) H locs ls hP hD hS (lv_sub hl [0, 1, 2, 3, 4, 5, 6] rfl)
    exact loop_4 _ 0 (upd f (72 + a) ((f (72 + a)) ||| ((nI 1) <<< ((nI e0) &&& 31)))) (by omega) (lowE.refl _) (Nat.lt_succ_self _) H locs ls hP hD hS (lv_sub hl [0, 1, 2, 3, 4, 5, 6] rfl)
  · -- 11 f
    refine lv_iconst (v := nI 1) hx hb dX12_pollsOne_14 (by decide) ?_
    refine lv_goto (tgt := 19) hx hb dX12_pollsOne_15 (by decide) ?_
    refine lv_istore (lv' := [(4, .int (nI 1)), (0, .ref hm), (1, .int (nI a)), (2, .int (nI e0)), (3, .int x)]) hx hb dX12_pollsOne_19 hl (by decide) rfl ?_
    clear hl
    try clear ls
    intro ls hl
    refine lv_aload_n hx hb dX12_pollsOne_21 rfl (lv_at hl 1 rfl) ?_
    refine xget C hP 2 rfl rfl zuX12 0 (by decide) zw5_213 rfl dX12_pollsOne_22 ?_
    refine lv_bipush (v := nI 72) hx hb dX12_pollsOne_25 (by decide) ?_
    refine lv_iload_n hx hb dX12_pollsOne_27 rfl (lv_at hl 2 rfl) ?_
    refine lv_iadd hx hb dX12_pollsOne_28 ?_
    refine lv_topi (nm_r (e' := nI (72 + a)) (nI_add _ _) ?_)
    refine lv_dup2_11 hx hb dX12_pollsOne_29 rfl rfl ?_
    refine xiald C hP 3 rfl (72 + a) rfl (by omega) (by decide) dX12_pollsOne_30 ?_
    refine lv_iconst (v := nI 1) hx hb dX12_pollsOne_31 (by decide) ?_
    refine lv_iload_n hx hb dX12_pollsOne_32 rfl (lv_at hl 3 rfl) ?_
    refine lv_ishl hx hb dX12_pollsOne_33 ?_
    refine lv_ior hx hb dX12_pollsOne_34 ?_
    refine xiast C hP hD hS 3 rfl (72 + a) rfl (by omega) (by decide) dX12_pollsOne_35 ?_
    clear hP hD hS
    try clear locs
    try clear H
    intro H locs hP hD hS
    replace hP : va_P D vwCl [(mon, .inl (cs 0, 16, .inl onf)), (mot, .inl (cs 0, 16, .inl otf)), (hm, .inr (12, [.ref ms, .ref mkp, .int (nI km), .ref mtr, .int (nI n), .int (nI k), .int (nI al), .int (nI be), .int ea, .int pr, .ref mas, .int nq, .int po, .int (nI en), .ref mso, .ref mon, .ref mot, .ref man, .int th, .int xd, .ref mst, .ref msm, .ref mtb, .ref mti, .ref mfr, .ref mbn, .ref mbs, .ref mde, .int sF, .int sN, .int sS, .int ig, .long xa, .long xb, .ref maa, .ref mab, .ref mba, .ref mbb])), (ms, .inl (cs 0, 288, .inl (upd f (72 + a) ((f (72 + a)) ||| ((nI 1) <<< ((nI e0) &&& 31)))))), (mso, .inl (cs 0, 16, .inl sof)), (man, .inl (cs 0, 16, .inl anf))] H := hP
    replace hD : va_D A [(mon, .inl (cs 0, 16, .inl onf)), (mot, .inl (cs 0, 16, .inl otf)), (hm, .inr (12, [.ref ms, .ref mkp, .int (nI km), .ref mtr, .int (nI n), .int (nI k), .int (nI al), .int (nI be), .int ea, .int pr, .ref mas, .int nq, .int po, .int (nI en), .ref mso, .ref mon, .ref mot, .ref man, .int th, .int xd, .ref mst, .ref msm, .ref mtb, .ref mti, .ref mfr, .ref mbn, .ref mbs, .ref mde, .int sF, .int sN, .int sS, .int ig, .long xa, .long xb, .ref maa, .ref mab, .ref mba, .ref mbb])), (ms, .inl (cs 0, 288, .inl (upd f (72 + a) ((f (72 + a)) ||| ((nI 1) <<< ((nI e0) &&& 31)))))), (mso, .inl (cs 0, 16, .inl sof)), (man, .inl (cs 0, 16, .inl anf))] := hD
    refine lv_aload_n hx hb dX12_pollsOne_36 rfl (lv_at hl 1 rfl) ?_
    refine lv_dup hx hb dX12_pollsOne_37 rfl ?_
    refine xget C hP 2 rfl rfl zuX12 12 (by decide) zw5_225 rfl dX12_pollsOne_38 ?_
    refine lv_iconst (v := nI 1) hx hb dX12_pollsOne_41 (by decide) ?_
    refine lv_iadd hx hb dX12_pollsOne_42 ?_
    refine xput C hP hD hS 2 rfl rfl zuX12 tyX12 tyX12_ok nmX12 12 (by decide) zw5_225 rfl rfl rfl (Nat.le_of_ble_eq_true rfl) dX12_pollsOne_43 ?_
    clear hP hD hS
    try clear locs
    try clear H
    intro H locs hP hD hS
    replace hP : va_P D vwCl [(mon, .inl (cs 0, 16, .inl onf)), (mot, .inl (cs 0, 16, .inl otf)), (hm, .inr (12, [.ref ms, .ref mkp, .int (nI km), .ref mtr, .int (nI n), .int (nI k), .int (nI al), .int (nI be), .int ea, .int pr, .ref mas, .int nq, .int (po + (nI 1)), .int (nI en), .ref mso, .ref mon, .ref mot, .ref man, .int th, .int xd, .ref mst, .ref msm, .ref mtb, .ref mti, .ref mfr, .ref mbn, .ref mbs, .ref mde, .int sF, .int sN, .int sS, .int ig, .long xa, .long xb, .ref maa, .ref mab, .ref mba, .ref mbb])), (ms, .inl (cs 0, 288, .inl (upd f (72 + a) ((f (72 + a)) ||| ((nI 1) <<< ((nI e0) &&& 31)))))), (mso, .inl (cs 0, 16, .inl sof)), (man, .inl (cs 0, 16, .inl anf))] H := hP
    replace hD : va_D A [(mon, .inl (cs 0, 16, .inl onf)), (mot, .inl (cs 0, 16, .inl otf)), (hm, .inr (12, [.ref ms, .ref mkp, .int (nI km), .ref mtr, .int (nI n), .int (nI k), .int (nI al), .int (nI be), .int ea, .int pr, .ref mas, .int nq, .int (po + (nI 1)), .int (nI en), .ref mso, .ref mon, .ref mot, .ref man, .int th, .int xd, .ref mst, .ref msm, .ref mtb, .ref mti, .ref mfr, .ref mbn, .ref mbs, .ref mde, .int sF, .int sN, .int sS, .int ig, .long xa, .long xb, .ref maa, .ref mab, .ref mba, .ref mbb])), (ms, .inl (cs 0, 288, .inl (upd f (72 + a) ((f (72 + a)) ||| ((nI 1) <<< ((nI e0) &&& 31)))))), (mso, .inl (cs 0, 16, .inl sof)), (man, .inl (cs 0, 16, .inl anf))] := hD
    refine lv_iload hx hb dX12_pollsOne_46 (lv_at hl 0 rfl) ?_
    refine lv_if_eq (tgt := 66) hx hb dX12_pollsOne_48 (by decide) (fun c => absurd c (by decide)) (fun _ => ?_)
    refine lv_aload_n hx hb dX12_pollsOne_51 rfl (lv_at hl 1 rfl) ?_
    refine xget C hP 2 rfl rfl zuX12 0 (by decide) zw5_213 rfl dX12_pollsOne_52 ?_
    refine lv_bipush (v := nI 64) hx hb dX12_pollsOne_55 (by decide) ?_
    refine lv_iload_n hx hb dX12_pollsOne_57 rfl (lv_at hl 2 rfl) ?_
    refine lv_iadd hx hb dX12_pollsOne_58 ?_
    refine lv_topi (nm_r (e' := nI (64 + a)) (nI_add _ _) ?_)
    refine lv_dup2_11 hx hb dX12_pollsOne_59 rfl rfl ?_
    refine xiald C hP 3 rfl (64 + a) rfl (by omega) (by decide) dX12_pollsOne_60 ?_
    refine lv_iconst (v := nI 1) hx hb dX12_pollsOne_61 (by decide) ?_
    refine lv_iload_n hx hb dX12_pollsOne_62 rfl (lv_at hl 3 rfl) ?_
    refine lv_ishl hx hb dX12_pollsOne_63 ?_
    refine lv_ior hx hb dX12_pollsOne_64 ?_
    refine xiast C hP hD hS 3 rfl (64 + a) rfl (by omega) (by decide) dX12_pollsOne_65 ?_
    clear hP hD hS
    try clear locs
    try clear H
    intro H locs hP hD hS
    replace hP : va_P D vwCl [(mon, .inl (cs 0, 16, .inl onf)), (mot, .inl (cs 0, 16, .inl otf)), (hm, .inr (12, [.ref ms, .ref mkp, .int (nI km), .ref mtr, .int (nI n), .int (nI k), .int (nI al), .int (nI be), .int ea, .int pr, .ref mas, .int nq, .int (po + (nI 1)), .int (nI en), .ref mso, .ref mon, .ref mot, .ref man, .int th, .int xd, .ref mst, .ref msm, .ref mtb, .ref mti, .ref mfr, .ref mbn, .ref mbs, .ref mde, .int sF, .int sN, .int sS, .int ig, .long xa, .long xb, .ref maa, .ref mab, .ref mba, .ref mbb])), (ms, .inl (cs 0, 288, .inl (upd (upd f (72 + a) ((f (72 + a)) ||| ((nI 1) <<< ((nI e0) &&& 31)))) (64 + a) (((upd f (72 + a) ((f (72 + a)) ||| ((nI 1) <<< ((nI e0) &&& 31)))) (64 + a)) ||| ((nI 1) <<< ((nI e0) &&& 31)))))), (mso, .inl (cs 0, 16, .inl sof)), (man, .inl (cs 0, 16, .inl anf))] H := hP
    replace hD : va_D A [(mon, .inl (cs 0, 16, .inl onf)), (mot, .inl (cs 0, 16, .inl otf)), (hm, .inr (12, [.ref ms, .ref mkp, .int (nI km), .ref mtr, .int (nI n), .int (nI k), .int (nI al), .int (nI be), .int ea, .int pr, .ref mas, .int nq, .int (po + (nI 1)), .int (nI en), .ref mso, .ref mon, .ref mot, .ref man, .int th, .int xd, .ref mst, .ref msm, .ref mtb, .ref mti, .ref mfr, .ref mbn, .ref mbs, .ref mde, .int sF, .int sN, .int sS, .int ig, .long xa, .long xb, .ref maa, .ref mab, .ref mba, .ref mbb])), (ms, .inl (cs 0, 288, .inl (upd (upd f (72 + a) ((f (72 + a)) ||| ((nI 1) <<< ((nI e0) &&& 31)))) (64 + a) (((upd f (72 + a) ((f (72 + a)) ||| ((nI 1) <<< ((nI e0) &&& 31)))) (64 + a)) ||| ((nI 1) <<< ((nI e0) &&& 31)))))), (mso, .inl (cs 0, 16, .inl sof)), (man, .inl (cs 0, 16, .inl anf))] := hD
    refine lv_aload_n hx hb dX12_pollsOne_66 rfl (lv_at hl 1 rfl) ?_
    refine xget C hP 2 rfl rfl zuX12 17 (by decide) zw5_230 rfl dX12_pollsOne_67 ?_
    refine lv_iload_n hx hb dX12_pollsOne_70 rfl (lv_at hl 3 rfl) ?_
    refine xiald C hP 5 rfl e0 rfl (by omega) (by decide) dX12_pollsOne_71 ?_
    refine lv_iconst (v := nI 1) hx hb dX12_pollsOne_72 (by decide) ?_
    refine lv_iload_n hx hb dX12_pollsOne_73 rfl (lv_at hl 3 rfl) ?_
    refine lv_ishl hx hb dX12_pollsOne_74 ?_
    refine lv_ior hx hb dX12_pollsOne_75 ?_
    refine lv_istore (lv' := [(5, .int ((anf e0) ||| ((nI 1) <<< ((nI e0) &&& 31)))), (4, .int (nI 1)), (0, .ref hm), (1, .int (nI a)), (2, .int (nI e0)), (3, .int x)]) hx hb dX12_pollsOne_76 hl (by decide) rfl ?_
    clear hl
    try clear ls
    intro ls hl
    refine lv_iconst (v := nI 0) hx hb dX12_pollsOne_78 (by decide) ?_
    refine lv_istore (lv' := [(6, .int (nI 0)), (5, .int ((anf e0) ||| ((nI 1) <<< ((nI e0) &&& 31)))), (4, .int (nI 1)), (0, .ref hm), (1, .int (nI a)), (2, .int (nI e0)), (3, .int x)]) hx hb dX12_pollsOne_79 hl (by decide) rfl ?_
    clear hl
    try clear ls
    intro ls hl
    have loop_24 : ∀ (n_loop_24 : Nat) (o : Nat) (f9 : Nat → Int32), (o ≤ en) → (lowE (upd f (72 + a) ((f (72 + a)) ||| ((nI 1) <<< ((nI e0) &&& 31)))) f9) → en - o < n_loop_24 → ∀ (H : Heap) (locs : List Loc) (ls : Array Slot), va_P D vwCl [(mon, .inl (cs 0, 16, .inl onf)), (mot, .inl (cs 0, 16, .inl otf)), (hm, .inr (12, [.ref ms, .ref mkp, .int (nI km), .ref mtr, .int (nI n), .int (nI k), .int (nI al), .int (nI be), .int ea, .int pr, .ref mas, .int nq, .int (po + (nI 1)), .int (nI en), .ref mso, .ref mon, .ref mot, .ref man, .int th, .int xd, .ref mst, .ref msm, .ref mtb, .ref mti, .ref mfr, .ref mbn, .ref mbs, .ref mde, .int sF, .int sN, .int sS, .int ig, .long xa, .long xb, .ref maa, .ref mab, .ref mba, .ref mbb])), (ms, .inl (cs 0, 288, .inl f9)), (mso, .inl (cs 0, 16, .inl sof)), (man, .inl (cs 0, 16, .inl anf))] H → va_D A [(mon, .inl (cs 0, 16, .inl onf)), (mot, .inl (cs 0, 16, .inl otf)), (hm, .inr (12, [.ref ms, .ref mkp, .int (nI km), .ref mtr, .int (nI n), .int (nI k), .int (nI al), .int (nI be), .int ea, .int pr, .ref mas, .int nq, .int (po + (nI 1)), .int (nI en), .ref mso, .ref mon, .ref mot, .ref man, .int th, .int xd, .ref mst, .ref msm, .ref mtb, .ref mti, .ref mfr, .ref mbn, .ref mbs, .ref mde, .int sF, .int sN, .int sS, .int ig, .long xa, .long xb, .ref maa, .ref mab, .ref mba, .ref mbb])), (ms, .inl (cs 0, 288, .inl f9)), (mso, .inl (cs 0, 16, .inl sof)), (man, .inl (cs 0, 16, .inl anf))] → va_S A s.heap H locs → lv_has ls 8 [(6, .int (nI o)), (5, .int ((anf e0) ||| ((nI 1) <<< ((nI e0) &&& 31)))), (4, .int (nI 1)), (0, .ref hm), (1, .int (nI a)), (2, .int (nI e0)), (3, .int x)] → W p l e ({ frames := 4, cells := 0, slots := 0, locals := 93 } : Room) s m args below meth c H locs 0 0 (MQ below ((xQi D (fun (r : Int32) (u : (Nat → Int32) × Int32) => match u with | (fz, poz) => lowE (upd f (72 + a) ((f (72 + a)) ||| ((nI 1) <<< ((nI e0) &&& 31)))) fz) (fun (u : (Nat → Int32) × Int32) => match u with | (fz, poz) => [(hm, .inr (12, [.ref ms, .ref mkp, .int (nI km), .ref mtr, .int (nI n), .int (nI k), .int (nI al), .int (nI be), .int ea, .int pr, .ref mas, .int nq, .int poz, .int (nI en), .ref mso, .ref mon, .ref mot, .ref man, .int th, .int xd, .ref mst, .ref msm, .ref mtb, .ref mti, .ref mfr, .ref mbn, .ref mbs, .ref mde, .int sF, .int sN, .int sS, .int ig, .long xa, .long xb, .ref maa, .ref mab, .ref mba, .ref mbb])), (ms, .inl (cs 0, 288, .inl fz)), (mso, .inl (cs 0, 16, .inl sof)), (mon, .inl (cs 0, 16, .inl onf)), (mot, .inl (cs 0, 16, .inl otf)), (man, .inl (cs 0, 16, .inl anf))])) A) args s 0 0 A) (F0 m 81 ls []) := by
      intro n_loop_24
      induction n_loop_24 with
      | zero => intro o f9 h_o hw9 hlt H locs ls hP hD hS hl; exact absurd hlt (Nat.not_lt_zero _)
      | succ n_loop_24 ih_loop_24 =>
        intro o f9 h_o hw9 hlt_loop_24 H locs ls hP hD hS hl
        refine lv_iload hx hb dX12_pollsOne_81 (lv_at hl 0 rfl) ?_
        refine lv_aload_n hx hb dX12_pollsOne_83 rfl (lv_at hl 3 rfl) ?_
        refine xget C hP 2 rfl rfl zuX12 13 (by decide) zw5_226 rfl dX12_pollsOne_84 ?_
        refine lv_icmp_ge (tgt := 130) hx hb dX12_pollsOne_87 (by decide) (fun c_25 => ?_) (fun c_25 => ?_)
        · -- 87 t
          have fc_25 : en ≤ o := nf_le (by omega) (by omega) c_25
          refine lv_iconst (v := nI 0) hx hb dX12_pollsOne_130 (by decide) ?_
          refine lv_istore (lv' := [(6, .int (nI 0)), (5, .int ((anf e0) ||| ((nI 1) <<< ((nI e0) &&& 31)))), (4, .int (nI 1)), (0, .ref hm), (1, .int (nI a)), (2, .int (nI e0)), (3, .int x)]) hx hb dX12_pollsOne_131 hl (by decide) rfl ?_
          clear hl
          try clear ls
          intro ls hl
          refine lv_iconst (v := nI 0) hx hb dX12_pollsOne_133 (by decide) ?_
          refine lv_istore (lv' := [(7, .int (nI 0)), (6, .int (nI 0)), (5, .int ((anf e0) ||| ((nI 1) <<< ((nI e0) &&& 31)))), (4, .int (nI 1)), (0, .ref hm), (1, .int (nI a)), (2, .int (nI e0)), (3, .int x)]) hx hb dX12_pollsOne_134 hl (by decide) rfl ?_
          clear hl
          try clear ls
          intro ls hl
          have loop_26 : ∀ (n_loop_26 : Nat) (o2 : Nat) (f8 : Nat → Int32) (i9 : Int32), (o2 ≤ en) → (lowE (upd f (72 + a) ((f (72 + a)) ||| ((nI 1) <<< ((nI e0) &&& 31)))) f8) → en - o2 < n_loop_26 → ∀ (H : Heap) (locs : List Loc) (ls : Array Slot), va_P D vwCl [(mon, .inl (cs 0, 16, .inl onf)), (mot, .inl (cs 0, 16, .inl otf)), (hm, .inr (12, [.ref ms, .ref mkp, .int (nI km), .ref mtr, .int (nI n), .int (nI k), .int (nI al), .int (nI be), .int ea, .int pr, .ref mas, .int nq, .int (po + (nI 1)), .int (nI en), .ref mso, .ref mon, .ref mot, .ref man, .int th, .int xd, .ref mst, .ref msm, .ref mtb, .ref mti, .ref mfr, .ref mbn, .ref mbs, .ref mde, .int sF, .int sN, .int sS, .int ig, .long xa, .long xb, .ref maa, .ref mab, .ref mba, .ref mbb])), (ms, .inl (cs 0, 288, .inl f8)), (mso, .inl (cs 0, 16, .inl sof)), (man, .inl (cs 0, 16, .inl anf))] H → va_D A [(mon, .inl (cs 0, 16, .inl onf)), (mot, .inl (cs 0, 16, .inl otf)), (hm, .inr (12, [.ref ms, .ref mkp, .int (nI km), .ref mtr, .int (nI n), .int (nI k), .int (nI al), .int (nI be), .int ea, .int pr, .ref mas, .int nq, .int (po + (nI 1)), .int (nI en), .ref mso, .ref mon, .ref mot, .ref man, .int th, .int xd, .ref mst, .ref msm, .ref mtb, .ref mti, .ref mfr, .ref mbn, .ref mbs, .ref mde, .int sF, .int sN, .int sS, .int ig, .long xa, .long xb, .ref maa, .ref mab, .ref mba, .ref mbb])), (ms, .inl (cs 0, 288, .inl f8)), (mso, .inl (cs 0, 16, .inl sof)), (man, .inl (cs 0, 16, .inl anf))] → va_S A s.heap H locs → lv_has ls 8 [(7, .int (nI o2)), (6, .int i9), (5, .int ((anf e0) ||| ((nI 1) <<< ((nI e0) &&& 31)))), (4, .int (nI 1)), (0, .ref hm), (1, .int (nI a)), (2, .int (nI e0)), (3, .int x)] → W p l e ({ frames := 4, cells := 0, slots := 0, locals := 93 } : Room) s m args below meth c H locs 0 0 (MQ below ((xQi D (fun (r : Int32) (u : (Nat → Int32) × Int32) => match u with | (fz, poz) => lowE (upd f (72 + a) ((f (72 + a)) ||| ((nI 1) <<< ((nI e0) &&& 31)))) fz) (fun (u : (Nat → Int32) × Int32) => match u with | (fz, poz) => [(hm, .inr (12, [.ref ms, .ref mkp, .int (nI km), .ref mtr, .int (nI n), .int (nI k), .int (nI al), .int (nI be), .int ea, .int pr, .ref mas, .int nq, .int poz, .int (nI en), .ref mso, .ref mon, .ref mot, .ref man, .int th, .int xd, .ref mst, .ref msm, .ref mtb, .ref mti, .ref mfr, .ref mbn, .ref mbs, .ref mde, .int sF, .int sN, .int sS, .int ig, .long xa, .long xb, .ref maa, .ref mab, .ref mba, .ref mbb])), (ms, .inl (cs 0, 288, .inl fz)), (mso, .inl (cs 0, 16, .inl sof)), (mon, .inl (cs 0, 16, .inl onf)), (mot, .inl (cs 0, 16, .inl otf)), (man, .inl (cs 0, 16, .inl anf))])) A) args s 0 0 A) (F0 m 136 ls []) := by
            intro n_loop_26
            induction n_loop_26 with
            | zero => intro o2 f8 i9 h_o2 hw8 hlt H locs ls hP hD hS hl; exact absurd hlt (Nat.not_lt_zero _)
            | succ n_loop_26 ih_loop_26 =>
              intro o2 f8 i9 h_o2 hw8 hlt_loop_26 H locs ls hP hD hS hl
              refine lv_iload hx hb dX12_pollsOne_136 (lv_at hl 0 rfl) ?_
              refine lv_aload_n hx hb dX12_pollsOne_138 rfl (lv_at hl 4 rfl) ?_
              refine xget C hP 2 rfl rfl zuX12 13 (by decide) zw5_226 rfl dX12_pollsOne_139 ?_
              refine lv_icmp_ge (tgt := 174) hx hb dX12_pollsOne_142 (by decide) (fun c_27 => ?_) (fun c_27 => ?_)
              · -- 142 t
                have fc_27 : en ≤ o2 := nf_le (by omega) (by omega) c_27
                refine lv_iload hx hb dX12_pollsOne_174 (lv_at hl 1 rfl) ?_
                refine lv_if_eq (tgt := 183) hx hb dX12_pollsOne_176 (by decide) (fun c_28 => ?_) (fun c_28 => ?_)
                · -- 176 t
                  refine lv_iload hx hb dX12_pollsOne_183 (lv_at hl 3 rfl) ?_
                  refine lv_if_eq (tgt := 192) hx hb dX12_pollsOne_185 (by decide) (fun c => absurd c (by decide)) (fun _ => ?_)
                  refine lv_iconst (v := nI 1) hx hb dX12_pollsOne_188 (by decide) ?_
                  refine lv_goto (tgt := 193) hx hb dX12_pollsOne_189 (by decide) ?_
                  exact xreti C (⟨f8, (po + (nI 1))⟩) hw8 (xP_map hP [2, 3, 4, 0, 1, 5] rfl) (hD.sub [2, 3, 4, 0, 1, 5] (by decide) rfl) hS (Nat.le_of_ble_eq_true rfl) (Nat.le_of_ble_eq_true rfl) rfl dX12_pollsOne_193
                · -- 176 f
                  refine lv_iconst (v := nI 2) hx hb dX12_pollsOne_179 (by decide) ?_
                  refine lv_goto (tgt := 193) hx hb dX12_pollsOne_180 (by decide) ?_
                  exact xreti C (⟨f8, (po + (nI 1))⟩) hw8 (xP_map hP [2, 3, 4, 0, 1, 5] rfl) (hD.sub [2, 3, 4, 0, 1, 5] (by decide) rfl) hS (Nat.le_of_ble_eq_true rfl) (Nat.le_of_ble_eq_true rfl) rfl dX12_pollsOne_193
              · -- 142 f
                have fc_27 : o2 < en := nf_nle (by omega) (by omega) c_27
                refine lv_iload hx hb dX12_pollsOne_145 (lv_at hl 2 rfl) ?_
                refine lv_iload hx hb dX12_pollsOne_147 (lv_at hl 0 rfl) ?_
                refine xi (wr := [(mon, .inl (cs 0, 16, .inl onf)), (mot, .inl (cs 0, 16, .inl otf)), (hm, .inr (12, [.ref ms, .ref mkp, .int (nI km), .ref mtr, .int (nI n), .int (nI k), .int (nI al), .int (nI be), .int ea, .int pr, .ref mas, .int nq, .int (po + (nI 1)), .int (nI en), .ref mso, .ref mon, .ref mot, .ref man, .int th, .int xd, .ref mst, .ref msm, .ref mtb, .ref mti, .ref mfr, .ref mbn, .ref mbs, .ref mde, .int sF, .int sN, .int sS, .int ig, .long xa, .long xb, .ref maa, .ref mab, .ref mba, .ref mbb])), (ms, .inl (cs 0, 288, .inl f8)), (mso, .inl (cs 0, 16, .inl sof)), (man, .inl (cs 0, 16, .inl anf))]) (xS (As := [.int ((anf e0) ||| ((nI 1) <<< ((nI e0) &&& 31))), .int (nI o2)]) (rest := []) C (c_X12_has l D cs ((anf e0) ||| ((nI 1) <<< ((nI e0) &&& 31))) o2) kX12_100 hP hD [] rfl (by decide) ⟨Nat.le_of_ble_eq_true rfl, Nat.le_of_ble_eq_true rfl⟩ rfl hl.1 rfl (Nat.le_of_ble_eq_true rfl) dX12_pollsOne_149 ⟨Nat.le_of_ble_eq_true rfl, Nat.le_of_ble_eq_true rfl⟩) hP hD hS hA [] [0, 1, 2, 3, 4, 5] rfl rfl (by decide) (by decide) ?_
                clear hP hD hS
                try clear locs
                try clear H
                intro r_29 u_30 H locs hw_r_29 hP hD hS
                have hw_r_29 : PQ (hasB ((anf e0) ||| ((nI 1) <<< ((nI e0) &&& 31))) o2) r_29 (nI 1) (nI 0) := hw_r_29
                refine W.widen (k := 0) (n := 0) (Nat.le_of_ble_eq_true rfl) (Nat.le_of_ble_eq_true rfl) ?_
                replace hP : va_P D vwCl [(mon, .inl (cs 0, 16, .inl onf)), (mot, .inl (cs 0, 16, .inl otf)), (hm, .inr (12, [.ref ms, .ref mkp, .int (nI km), .ref mtr, .int (nI n), .int (nI k), .int (nI al), .int (nI be), .int ea, .int pr, .ref mas, .int nq, .int (po + (nI 1)), .int (nI en), .ref mso, .ref mon, .ref mot, .ref man, .int th, .int xd, .ref mst, .ref msm, .ref mtb, .ref mti, .ref mfr, .ref mbn, .ref mbs, .ref mde, .int sF, .int sN, .int sS, .int ig, .long xa, .long xb, .ref maa, .ref mab, .ref mba, .ref mbb])), (ms, .inl (cs 0, 288, .inl f8)), (mso, .inl (cs 0, 16, .inl sof)), (man, .inl (cs 0, 16, .inl anf))] H := hP
                replace hD : va_D A [(mon, .inl (cs 0, 16, .inl onf)), (mot, .inl (cs 0, 16, .inl otf)), (hm, .inr (12, [.ref ms, .ref mkp, .int (nI km), .ref mtr, .int (nI n), .int (nI k), .int (nI al), .int (nI be), .int ea, .int pr, .ref mas, .int nq, .int (po + (nI 1)), .int (nI en), .ref mso, .ref mon, .ref mot, .ref man, .int th, .int xd, .ref mst, .ref msm, .ref mtb, .ref mti, .ref mfr, .ref mbn, .ref mbs, .ref mde, .int sF, .int sN, .int sS, .int ig, .long xa, .long xb, .ref maa, .ref mab, .ref mba, .ref mbb])), (ms, .inl (cs 0, 288, .inl f8)), (mso, .inl (cs 0, 16, .inl sof)), (man, .inl (cs 0, 16, .inl anf))] := hD
                refine lv_if_eq (tgt := 168) hx hb dX12_pollsOne_152 (by decide) (fun c_31 => ?_) (fun c_31 => ?_)
                · -- 152 t
                  refine lv_iinc (v := nI (o2 + 1)) (lv' := [(7, .int (nI (o2 + 1))), (6, .int i9), (5, .int ((anf e0) ||| ((nI 1) <<< ((nI e0) &&& 31)))), (4, .int (nI 1)), (0, .ref hm), (1, .int (nI a)), (2, .int (nI e0)), (3, .int x)]) hx hb dX12_pollsOne_168 hl (k := 0) rfl (nI_add o2 1) (by decide) rfl ?_
                  clear hl
                  try clear ls
                  intro ls hl
                  refine lv_goto (tgt := 136) hx hb dX12_pollsOne_171 (by decide) ?_
                  exact ih_loop_26 (o2 + 1) f8 i9 (by omega) hw8 (by omega) H locs ls hP hD hS (lv_sub hl [0, 1, 2, 3, 4, 5, 6, 7] rfl)
                · -- 152 f
                  refine lv_aload_n hx hb dX12_pollsOne_155 rfl (lv_at hl 4 rfl) ?_
                  refine lv_iload_n hx hb dX12_pollsOne_156 rfl (lv_at hl 5 rfl) ?_
                  refine lv_iload hx hb dX12_pollsOne_157 (lv_at hl 0 rfl) ?_
                  refine xi (wr := [(man, .inl (cs 0, 16, .inl anf))]) (xV (As := [.int (nI a), .int (nI o2)]) (rest := []) C (c_X12_accepts_f l D cs hm ms mkp mtr mas mso mon mot man mst msm mtb mti mfr mbn mbs mde maa mab mba mbb n k al be km en ea pr nq (po + (nI 1)) th xd sF sN sS ig xa xb f8 sof onf otf a o2 hen hso ha (by omega)) kX12_333 hP hD [2, 3, 4, 0, 1] rfl (by decide) 0 rfl rfl rfl ⟨Nat.le_of_ble_eq_true rfl, Nat.le_of_ble_eq_true rfl⟩ rfl hl.1 rfl (Nat.le_of_ble_eq_true rfl) dX12_pollsOne_159 ⟨Nat.le_of_ble_eq_true rfl, Nat.le_of_ble_eq_true rfl⟩) hP hD hS hA [2, 3, 4, 0, 1] [5] rfl rfl (by decide) (by decide) ?_
                  clear hP hD hS
                  try clear locs
                  try clear H
                  intro r_32 u_33 H locs hw_r_32 hP hD hS
                  have hw_r_32 : (r_32 = nI 0 ∨ r_32 = nI 1) ∧ lowE f8 u_33 := hw_r_32
                  refine W.widen (k := 0) (n := 0) (Nat.le_of_ble_eq_true rfl) (Nat.le_of_ble_eq_true rfl) ?_
                  replace hP : va_P D vwCl [(man, .inl (cs 0, 16, .inl anf)), (hm, .inr (12, [.ref ms, .ref mkp, .int (nI km), .ref mtr, .int (nI n), .int (nI k), .int (nI al), .int (nI be), .int ea, .int pr, .ref mas, .int nq, .int (po + (nI 1)), .int (nI en), .ref mso, .ref mon, .ref mot, .ref man, .int th, .int xd, .ref mst, .ref msm, .ref mtb, .ref mti, .ref mfr, .ref mbn, .ref mbs, .ref mde, .int sF, .int sN, .int sS, .int ig, .long xa, .long xb, .ref maa, .ref mab, .ref mba, .ref mbb])), (ms, .inl (cs 0, 288, .inl u_33)), (mso, .inl (cs 0, 16, .inl sof)), (mon, .inl (cs 0, 16, .inl onf)), (mot, .inl (cs 0, 16, .inl otf))] H := hP
                  replace hD : va_D A [(man, .inl (cs 0, 16, .inl anf)), (hm, .inr (12, [.ref ms, .ref mkp, .int (nI km), .ref mtr, .int (nI n), .int (nI k), .int (nI al), .int (nI be), .int ea, .int pr, .ref mas, .int nq, .int (po + (nI 1)), .int (nI en), .ref mso, .ref mon, .ref mot, .ref man, .int th, .int xd, .ref mst, .ref msm, .ref mtb, .ref mti, .ref mfr, .ref mbn, .ref mbs, .ref mde, .int sF, .int sN, .int sS, .int ig, .long xa, .long xb, .ref maa, .ref mab, .ref mba, .ref mbb])), (ms, .inl (cs 0, 288, .inl u_33)), (mso, .inl (cs 0, 16, .inl sof)), (mon, .inl (cs 0, 16, .inl onf)), (mot, .inl (cs 0, 16, .inl otf))] := hD
                  refine lv_if_eq (tgt := 168) hx hb dX12_pollsOne_162 (by decide) (fun c_34 => ?_) (fun c_34 => ?_)
                  · -- 162 t
                    refine lv_iinc (v := nI (o2 + 1)) (lv' := [(7, .int (nI (o2 + 1))), (6, .int i9), (5, .int ((anf e0) ||| ((nI 1) <<< ((nI e0) &&& 31)))), (4, .int (nI 1)), (0, .ref hm), (1, .int (nI a)), (2, .int (nI e0)), (3, .int x)]) hx hb dX12_pollsOne_168 hl (k := 0) rfl (nI_add o2 1) (by decide) rfl ?_
                    clear hl
                    try clear ls
                    intro ls hl
                    refine lv_goto (tgt := 136) hx hb dX12_pollsOne_171 (by decide) ?_
                    exact ih_loop_26 (o2 + 1) u_33 i9 (by omega) ((hw8).trans hw_r_32.2) (by omega) H locs ls (xP_map hP [4, 5, 1, 2, 3, 0] rfl) (hD.sub [4, 5, 1, 2, 3, 0] (by decide) rfl) hS (lv_sub hl [0, 1, 2, 3, 4, 5, 6, 7] rfl)
                  · -- 162 f
                    refine lv_iconst (v := nI 1) hx hb dX12_pollsOne_165 (by decide) ?_
                    refine lv_istore (lv' := [(6, .int (nI 1)), (7, .int (nI o2)), (5, .int ((anf e0) ||| ((nI 1) <<< ((nI e0) &&& 31)))), (4, .int (nI 1)), (0, .ref hm), (1, .int (nI a)), (2, .int (nI e0)), (3, .int x)]) hx hb dX12_pollsOne_166 hl (by decide) rfl ?_
                    clear hl
                    try clear ls
                    intro ls hl
                    refine lv_iinc (v := nI (o2 + 1)) (lv' := [(7, .int (nI (o2 + 1))), (6, .int (nI 1)), (5, .int ((anf e0) ||| ((nI 1) <<< ((nI e0) &&& 31)))), (4, .int (nI 1)), (0, .ref hm), (1, .int (nI a)), (2, .int (nI e0)), (3, .int x)]) hx hb dX12_pollsOne_168 hl (k := 1) rfl (nI_add o2 1) (by decide) rfl ?_
                    clear hl
                    try clear ls
                    intro ls hl
                    refine lv_goto (tgt := 136) hx hb dX12_pollsOne_171 (by decide) ?_
                    exact ih_loop_26 (o2 + 1) u_33 (nI 1) (by omega) ((hw8).trans hw_r_32.2) (by omega) H locs ls (xP_map hP [4, 5, 1, 2, 3, 0] rfl) (hD.sub [4, 5, 1, 2, 3, 0] (by decide) rfl) hS (lv_sub hl [0, 1, 2, 3, 4, 5, 6, 7] rfl)
          exact loop_26 _ 0 f9 (nI 0) (by omega) hw9 (Nat.lt_succ_self _) H locs ls hP hD hS (lv_sub hl [0, 1, 2, 3, 4, 5, 6, 7] rfl)
        · -- 87 f
          have fc_25 : o < en := nf_nle (by omega) (by omega) c_25
          refine lv_iload hx hb dX12_pollsOne_90 (lv_at hl 1 rfl) ?_
          refine lv_iload hx hb dX12_pollsOne_92 (lv_at hl 0 rfl) ?_
          refine xi (wr := [(mon, .inl (cs 0, 16, .inl onf)), (mot, .inl (cs 0, 16, .inl otf)), (hm, .inr (12, [.ref ms, .ref mkp, .int (nI km), .ref mtr, .int (nI n), .int (nI k), .int (nI al), .int (nI be), .int ea, .int pr, .ref mas, .int nq, .int (po + (nI 1)), .int (nI en), .ref mso, .ref mon, .ref mot, .ref man, .int th, .int xd, .ref mst, .ref msm, .ref mtb, .ref mti, .ref mfr, .ref mbn, .ref mbs, .ref mde, .int sF, .int sN, .int sS, .int ig, .long xa, .long xb, .ref maa, .ref mab, .ref mba, .ref mbb])), (ms, .inl (cs 0, 288, .inl f9)), (mso, .inl (cs 0, 16, .inl sof)), (man, .inl (cs 0, 16, .inl anf))]) (xS (As := [.int ((anf e0) ||| ((nI 1) <<< ((nI e0) &&& 31))), .int (nI o)]) (rest := []) C (c_X12_has l D cs ((anf e0) ||| ((nI 1) <<< ((nI e0) &&& 31))) o) kX12_100 hP hD [] rfl (by decide) ⟨Nat.le_of_ble_eq_true rfl, Nat.le_of_ble_eq_true rfl⟩ rfl hl.1 rfl (Nat.le_of_ble_eq_true rfl) dX12_pollsOne_94 ⟨Nat.le_of_ble_eq_true rfl, Nat.le_of_ble_eq_true rfl⟩) hP hD hS hA [] [0, 1, 2, 3, 4, 5] rfl rfl (by decide) (by decide) ?_
          clear hP hD hS
          try clear locs
          try clear H
          intro r_35 u_36 H locs hw_r_35 hP hD hS
          have hw_r_35 : PQ (hasB ((anf e0) ||| ((nI 1) <<< ((nI e0) &&& 31))) o) r_35 (nI 1) (nI 0) := hw_r_35
          refine W.widen (k := 0) (n := 0) (Nat.le_of_ble_eq_true rfl) (Nat.le_of_ble_eq_true rfl) ?_
          replace hP : va_P D vwCl [(mon, .inl (cs 0, 16, .inl onf)), (mot, .inl (cs 0, 16, .inl otf)), (hm, .inr (12, [.ref ms, .ref mkp, .int (nI km), .ref mtr, .int (nI n), .int (nI k), .int (nI al), .int (nI be), .int ea, .int pr, .ref mas, .int nq, .int (po + (nI 1)), .int (nI en), .ref mso, .ref mon, .ref mot, .ref man, .int th, .int xd, .ref mst, .ref msm, .ref mtb, .ref mti, .ref mfr, .ref mbn, .ref mbs, .ref mde, .int sF, .int sN, .int sS, .int ig, .long xa, .long xb, .ref maa, .ref mab, .ref mba, .ref mbb])), (ms, .inl (cs 0, 288, .inl f9)), (mso, .inl (cs 0, 16, .inl sof)), (man, .inl (cs 0, 16, .inl anf))] H := hP
          replace hD : va_D A [(mon, .inl (cs 0, 16, .inl onf)), (mot, .inl (cs 0, 16, .inl otf)), (hm, .inr (12, [.ref ms, .ref mkp, .int (nI km), .ref mtr, .int (nI n), .int (nI k), .int (nI al), .int (nI be), .int ea, .int pr, .ref mas, .int nq, .int (po + (nI 1)), .int (nI en), .ref mso, .ref mon, .ref mot, .ref man, .int th, .int xd, .ref mst, .ref msm, .ref mtb, .ref mti, .ref mfr, .ref mbn, .ref mbs, .ref mde, .int sF, .int sN, .int sS, .int ig, .long xa, .long xb, .ref maa, .ref mab, .ref mba, .ref mbb])), (ms, .inl (cs 0, 288, .inl f9)), (mso, .inl (cs 0, 16, .inl sof)), (man, .inl (cs 0, 16, .inl anf))] := hD
          refine lv_if_eq (tgt := 124) hx hb dX12_pollsOne_97 (by decide) (fun c_37 => ?_) (fun c_37 => ?_)
          · -- 97 t
            refine lv_iinc (v := nI (o + 1)) (lv' := [(6, .int (nI (o + 1))), (5, .int ((anf e0) ||| ((nI 1) <<< ((nI e0) &&& 31)))), (4, .int (nI 1)), (0, .ref hm), (1, .int (nI a)), (2, .int (nI e0)), (3, .int x)]) hx hb dX12_pollsOne_124 hl (k := 0) rfl (nI_add o 1) (by decide) rfl ?_
            clear hl
            try clear ls
            intro ls hl
            refine lv_goto (tgt := 81) hx hb dX12_pollsOne_127 (by decide) ?_
            exact ih_loop_24 (o + 1) f9 (by omega) hw9 (by omega) H locs ls hP hD hS (lv_sub hl [0, 1, 2, 3, 4, 5, 6] rfl)
          · -- 97 f
            refine lv_aload_n hx hb dX12_pollsOne_100 rfl (lv_at hl 3 rfl) ?_
            refine lv_iload_n hx hb dX12_pollsOne_101 rfl (lv_at hl 4 rfl) ?_
            refine lv_aload_n hx hb dX12_pollsOne_102 rfl (lv_at hl 3 rfl) ?_
            refine xget C hP 2 rfl rfl zuX12 14 (by decide) zw5_227 rfl dX12_pollsOne_103 ?_
            refine lv_iload hx hb dX12_pollsOne_106 (lv_at hl 0 rfl) ?_
            refine xiald C hP 4 rfl o rfl (by omega) (by decide) dX12_pollsOne_108 ?_
            obtain ⟨t_38, h_t_38, e_t_38⟩ := (hso o (by omega))
            refine lv_topi (nm_r (e' := nI t_38) e_t_38 ?_)
            refine xi (wr := [(mon, .inl (cs 0, 16, .inl onf)), (mot, .inl (cs 0, 16, .inl otf)), (man, .inl (cs 0, 16, .inl anf))]) (xV (As := [.int (nI a), .int (nI t_38)]) (rest := []) C (c_X12_acceptedOf l D cs hm ms mkp mtr mas mso mon mot man mst msm mtb mti mfr mbn mbs mde maa mab mba mbb n k al be km en ea pr nq (po + (nI 1)) th xd sF sN sS ig xa xb f9 a (nI t_38) sof hen ha) kX12_310 hP hD [2, 3, 4] rfl (by decide) 0 rfl rfl rfl ⟨Nat.le_of_ble_eq_true rfl, Nat.le_of_ble_eq_true rfl⟩ rfl hl.1 rfl (Nat.le_of_ble_eq_true rfl) dX12_pollsOne_109 ⟨Nat.le_of_ble_eq_true rfl, Nat.le_of_ble_eq_true rfl⟩) hP hD hS hA [2, 3, 4] [0, 1, 5] rfl rfl (by decide) (by decide) ?_
            clear hP hD hS
            try clear locs
            try clear H
            intro r_39 u_40 H locs hw_r_39 hP hD hS
            have hw_r_39 : r_39 = -1 ∨ ∃ e, e < en ∧ r_39 = nI e := hw_r_39
            refine W.widen (k := 0) (n := 0) (Nat.le_of_ble_eq_true rfl) (Nat.le_of_ble_eq_true rfl) ?_
            replace hP : va_P D vwCl [(mon, .inl (cs 0, 16, .inl onf)), (mot, .inl (cs 0, 16, .inl otf)), (man, .inl (cs 0, 16, .inl anf)), (hm, .inr (12, [.ref ms, .ref mkp, .int (nI km), .ref mtr, .int (nI n), .int (nI k), .int (nI al), .int (nI be), .int ea, .int pr, .ref mas, .int nq, .int (po + (nI 1)), .int (nI en), .ref mso, .ref mon, .ref mot, .ref man, .int th, .int xd, .ref mst, .ref msm, .ref mtb, .ref mti, .ref mfr, .ref mbn, .ref mbs, .ref mde, .int sF, .int sN, .int sS, .int ig, .long xa, .long xb, .ref maa, .ref mab, .ref mba, .ref mbb])), (ms, .inl (cs 0, 288, .inl f9)), (mso, .inl (cs 0, 16, .inl sof))] H := hP
            replace hD : va_D A [(mon, .inl (cs 0, 16, .inl onf)), (mot, .inl (cs 0, 16, .inl otf)), (man, .inl (cs 0, 16, .inl anf)), (hm, .inr (12, [.ref ms, .ref mkp, .int (nI km), .ref mtr, .int (nI n), .int (nI k), .int (nI al), .int (nI be), .int ea, .int pr, .ref mas, .int nq, .int (po + (nI 1)), .int (nI en), .ref mso, .ref mon, .ref mot, .ref man, .int th, .int xd, .ref mst, .ref msm, .ref mtb, .ref mti, .ref mfr, .ref mbn, .ref mbs, .ref mde, .int sF, .int sN, .int sS, .int ig, .long xa, .long xb, .ref maa, .ref mab, .ref mba, .ref mbb])), (ms, .inl (cs 0, 288, .inl f9)), (mso, .inl (cs 0, 16, .inl sof))] := hD
            refine lv_if_ge (tgt := 124) hx hb dX12_pollsOne_112 (by decide) (fun c_41 => ?_) (fun c_41 => ?_)
            · -- 112 t
              refine lv_iinc (v := nI (o + 1)) (lv' := [(6, .int (nI (o + 1))), (5, .int ((anf e0) ||| ((nI 1) <<< ((nI e0) &&& 31)))), (4, .int (nI 1)), (0, .ref hm), (1, .int (nI a)), (2, .int (nI e0)), (3, .int x)]) hx hb dX12_pollsOne_124 hl (k := 0) rfl (nI_add o 1) (by decide) rfl ?_
              clear hl
              try clear ls
              intro ls hl
              refine lv_goto (tgt := 81) hx hb dX12_pollsOne_127 (by decide) ?_
              exact ih_loop_24 (o + 1) f9 (by omega) hw9 (by omega) H locs ls (xP_map hP [0, 1, 3, 4, 5, 2] rfl) (hD.sub [0, 1, 3, 4, 5, 2] (by decide) rfl) hS (lv_sub hl [0, 1, 2, 3, 4, 5, 6] rfl)
            · -- 112 f
              refine lv_aload_n hx hb dX12_pollsOne_115 rfl (lv_at hl 3 rfl) ?_
              refine lv_iload_n hx hb dX12_pollsOne_116 rfl (lv_at hl 4 rfl) ?_
              refine lv_iload hx hb dX12_pollsOne_117 (lv_at hl 0 rfl) ?_
              refine lv_iload hx hb dX12_pollsOne_119 (lv_at hl 2 rfl) ?_
              refine xv (wr := [(mon, .inl (cs 0, 16, .inl onf)), (mot, .inl (cs 0, 16, .inl otf))]) (xV (As := [.int (nI a), .int (nI o), .int (nI 1)]) (rest := []) C (c_X12_marks_f l D cs hm ms mkp mtr mas mso mon mot man mst msm mtb mti mfr mbn mbs mde maa mab mba mbb n k al be km en ea pr nq (po + (nI 1)) th xd sF sN sS ig xa xb f9 a o (nI 1) sof anf hen hso ha (by omega)) kX12_329 hP hD [3, 4, 5, 2] rfl (by decide) 0 rfl rfl rfl ⟨Nat.le_of_ble_eq_true rfl, Nat.le_of_ble_eq_true rfl⟩ rfl hl.1 rfl (Nat.le_of_ble_eq_true rfl) dX12_pollsOne_121 ⟨Nat.le_of_ble_eq_true rfl, Nat.le_of_ble_eq_true rfl⟩) hP hD hS hA [3, 4, 5, 2] [0, 1] rfl rfl (by decide) (by decide) ?_
              clear hP hD hS
              try clear locs
              try clear H
              intro u_43 H locs hw_r_42 hP hD hS
              have hw_r_42 : lowE f9 u_43 := hw_r_42
              refine W.widen (k := 0) (n := 0) (Nat.le_of_ble_eq_true rfl) (Nat.le_of_ble_eq_true rfl) ?_
              replace hP : va_P D vwCl [(mon, .inl (cs 0, 16, .inl onf)), (mot, .inl (cs 0, 16, .inl otf)), (hm, .inr (12, [.ref ms, .ref mkp, .int (nI km), .ref mtr, .int (nI n), .int (nI k), .int (nI al), .int (nI be), .int ea, .int pr, .ref mas, .int nq, .int (po + (nI 1)), .int (nI en), .ref mso, .ref mon, .ref mot, .ref man, .int th, .int xd, .ref mst, .ref msm, .ref mtb, .ref mti, .ref mfr, .ref mbn, .ref mbs, .ref mde, .int sF, .int sN, .int sS, .int ig, .long xa, .long xb, .ref maa, .ref mab, .ref mba, .ref mbb])), (ms, .inl (cs 0, 288, .inl u_43)), (mso, .inl (cs 0, 16, .inl sof)), (man, .inl (cs 0, 16, .inl anf))] H := hP
              replace hD : va_D A [(mon, .inl (cs 0, 16, .inl onf)), (mot, .inl (cs 0, 16, .inl otf)), (hm, .inr (12, [.ref ms, .ref mkp, .int (nI km), .ref mtr, .int (nI n), .int (nI k), .int (nI al), .int (nI be), .int ea, .int pr, .ref mas, .int nq, .int (po + (nI 1)), .int (nI en), .ref mso, .ref mon, .ref mot, .ref man, .int th, .int xd, .ref mst, .ref msm, .ref mtb, .ref mti, .ref mfr, .ref mbn, .ref mbs, .ref mde, .int sF, .int sN, .int sS, .int ig, .long xa, .long xb, .ref maa, .ref mab, .ref mba, .ref mbb])), (ms, .inl (cs 0, 288, .inl u_43)), (mso, .inl (cs 0, 16, .inl sof)), (man, .inl (cs 0, 16, .inl anf))] := hD
              refine lv_iinc (v := nI (o + 1)) (lv' := [(6, .int (nI (o + 1))), (5, .int ((anf e0) ||| ((nI 1) <<< ((nI e0) &&& 31)))), (4, .int (nI 1)), (0, .ref hm), (1, .int (nI a)), (2, .int (nI e0)), (3, .int x)]) hx hb dX12_pollsOne_124 hl (k := 0) rfl (nI_add o 1) (by decide) rfl ?_
              clear hl
              try clear ls
              intro ls hl
              refine lv_goto (tgt := 81) hx hb dX12_pollsOne_127 (by decide) ?_
              exact ih_loop_24 (o + 1) u_43 (by omega) ((hw9).trans hw_r_42) (by omega) H locs ls hP hD hS (lv_sub hl [0, 1, 2, 3, 4, 5, 6] rfl)
    exact loop_24 _ 0 (upd (upd f (72 + a) ((f (72 + a)) ||| ((nI 1) <<< ((nI e0) &&& 31)))) (64 + a) (((upd f (72 + a) ((f (72 + a)) ||| ((nI 1) <<< ((nI e0) &&& 31)))) (64 + a)) ||| ((nI 1) <<< ((nI e0) &&& 31)))) (by omega) (lowE.up (lowE.refl _) (by omega) (((upd f (72 + a) ((f (72 + a)) ||| ((nI 1) <<< ((nI e0) &&& 31)))) (64 + a)) ||| ((nI 1) <<< ((nI e0) &&& 31)))) (Nat.lt_succ_self _) H locs ls hP hD hS (lv_sub hl [0, 1, 2, 3, 4, 5, 6] rfl)

set_option maxHeartbeats 4000000 in
set_option maxRecDepth 100000 in
theorem c_X12_canPoll_f (l : Launch) (D : va_G) (cs : Nat → ClassId) (hm ms mkp mtr mas mso mon mot man mst msm mtb mti mfr mbn mbs mde maa mab mba mbb : Nat) (n k al be km en : Nat) (ea pr nq po th xd sF sN sS ig : Int32) (xa xb : Int64) (f : Nat → Int32) (x y b : Int32) (hn : 2 ≤ n ∧ n ≤ 8) (hen : en ≤ 16) : xMet l D cs yX12_canPoll cX12_canPoll 4 (some .boolean) ({ frames := 3, cells := 0, slots := 0, locals := 65 } : Room) [.ref hm, .int x, .int y, .int b] [(hm, .inr (12, [.ref ms, .ref mkp, .int (nI km), .ref mtr, .int (nI n), .int (nI k), .int (nI al), .int (nI be), .int ea, .int pr, .ref mas, .int nq, .int po, .int (nI en), .ref mso, .ref mon, .ref mot, .ref man, .int th, .int xd, .ref mst, .ref msm, .ref mtb, .ref mti, .ref mfr, .ref mbn, .ref mbs, .ref mde, .int sF, .int sN, .int sS, .int ig, .long xa, .long xb, .ref maa, .ref mab, .ref mba, .ref mbb])), (ms, .inl (cs 0, 288, .inl f))] (xQi D (fun (r : Int32) (_u : Unit) => (∃ a e, a < n ∧ e < en ∧ x = nI a ∧ y = nI e ∧ mcpP n k f b a e ∧ r = nI 1) ∨ (¬ mcpA n k en f x y b ∧ r = nI 0)) (fun (_u : Unit) => [(hm, .inr (12, [.ref ms, .ref mkp, .int (nI km), .ref mtr, .int (nI n), .int (nI k), .int (nI al), .int (nI be), .int ea, .int pr, .ref mas, .int nq, .int po, .int (nI en), .ref mso, .ref mon, .ref mot, .ref man, .int th, .int xd, .ref mst, .ref msm, .ref mtb, .ref mti, .ref mfr, .ref mbn, .ref mbs, .ref mde, .int sF, .int sN, .int sS, .int ig, .long xa, .long xb, .ref maa, .ref mab, .ref mba, .ref mbb])), (ms, .inl (cs 0, 288, .inl f))])) := by
  refine xMet.intro (by decide) (Nat.le_of_ble_eq_true rfl) ?_
  intro p e s m args below meth c A ls C hP hD hS hl
  have hx := C.1
  have hb := C.2.1
  have hz := C.2.2.2.2.1
  have hown := C.2.2.2.1
  have hA := C.2.2.2.2.2.2.2.2.2
  have hAO := C.2.2.2.2.2.2.2.2.1.2.2
  replace hl : lv_has ls 4 [(0, .ref hm), (1, .int x), (2, .int y), (3, .int b)] := hl
  obtain ⟨H, hH⟩ : ∃ H, H = s.heap := ⟨_, rfl⟩
  replace hP : va_P D vwCl [(hm, .inr (12, [.ref ms, .ref mkp, .int (nI km), .ref mtr, .int (nI n), .int (nI k), .int (nI al), .int (nI be), .int ea, .int pr, .ref mas, .int nq, .int po, .int (nI en), .ref mso, .ref mon, .ref mot, .ref man, .int th, .int xd, .ref mst, .ref msm, .ref mtb, .ref mti, .ref mfr, .ref mbn, .ref mbs, .ref mde, .int sF, .int sN, .int sS, .int ig, .long xa, .long xb, .ref maa, .ref mab, .ref mba, .ref mbb])), (ms, .inl (cs 0, 288, .inl f))] H := by rw [hH]; exact hP
  replace hS : va_S A s.heap H [] := by rw [hH]; exact hS
  obtain ⟨locs, hlocs⟩ : ∃ z : List Loc, z = [] := ⟨_, rfl⟩
  rw [← hlocs] at hS
  suffices hW : W p l e ({ frames := 3, cells := 0, slots := 0, locals := 65 } : Room) s m args below meth c H locs 0 0 (MQ below ((xQi D (fun (r : Int32) (_u : Unit) => (∃ a e, a < n ∧ e < en ∧ x = nI a ∧ y = nI e ∧ mcpP n k f b a e ∧ r = nI 1) ∨ (¬ mcpA n k en f x y b ∧ r = nI 0)) (fun (_u : Unit) => [(hm, .inr (12, [.ref ms, .ref mkp, .int (nI km), .ref mtr, .int (nI n), .int (nI k), .int (nI al), .int (nI be), .int ea, .int pr, .ref mas, .int nq, .int po, .int (nI en), .ref mso, .ref mon, .ref mot, .ref man, .int th, .int xd, .ref mst, .ref msm, .ref mtb, .ref mti, .ref mfr, .ref mbn, .ref mbs, .ref mde, .int sF, .int sN, .int sS, .int ig, .long xa, .long xb, .ref maa, .ref mab, .ref mba, .ref mbb])), (ms, .inl (cs 0, 288, .inl f))])) A) args s 0 0 A) (F0 m 0 ls []) by rw [hlocs, hH] at hW; exact hW
  clear hH hlocs
  refine lv_aload_n hx hb dX12_canPoll_0 rfl (lv_at hl 0 rfl) ?_
  refine lv_iload_n hx hb dX12_canPoll_1 rfl (lv_at hl 1 rfl) ?_
  refine xi (wr := [(ms, .inl (cs 0, 288, .inl f))]) (xV (As := [.int x]) (rest := []) C (c_X12_isNode l D cs hm ms mkp mtr mas mso mon mot man mst msm mtb mti mfr mbn mbs mde maa mab mba mbb n k al be km en ea pr nq po th xd sF sN sS ig xa xb x hn) kX12_120 hP hD [0] rfl (by decide) 0 rfl rfl rfl ⟨Nat.le_of_ble_eq_true rfl, Nat.le_of_ble_eq_true rfl⟩ rfl hl.1 rfl (Nat.le_of_ble_eq_true rfl) dX12_canPoll_2 ⟨Nat.le_of_ble_eq_true rfl, Nat.le_of_ble_eq_true rfl⟩) hP hD hS hA [0] [1] rfl rfl (by decide) (by decide) ?_
  clear hP hD hS
  try clear locs
  try clear H
  intro r_1 u_2 H locs hw_r_1 hP hD hS
  have hw_r_1 : PQ (okN n x) r_1 (nI 1) (nI 0) := hw_r_1
  refine W.widen (k := 0) (n := 0) (Nat.le_of_ble_eq_true rfl) (Nat.le_of_ble_eq_true rfl) ?_
  replace hP : va_P D vwCl [(ms, .inl (cs 0, 288, .inl f)), (hm, .inr (12, [.ref ms, .ref mkp, .int (nI km), .ref mtr, .int (nI n), .int (nI k), .int (nI al), .int (nI be), .int ea, .int pr, .ref mas, .int nq, .int po, .int (nI en), .ref mso, .ref mon, .ref mot, .ref man, .int th, .int xd, .ref mst, .ref msm, .ref mtb, .ref mti, .ref mfr, .ref mbn, .ref mbs, .ref mde, .int sF, .int sN, .int sS, .int ig, .long xa, .long xb, .ref maa, .ref mab, .ref mba, .ref mbb]))] H := hP
  replace hD : va_D A [(ms, .inl (cs 0, 288, .inl f)), (hm, .inr (12, [.ref ms, .ref mkp, .int (nI km), .ref mtr, .int (nI n), .int (nI k), .int (nI al), .int (nI be), .int ea, .int pr, .ref mas, .int nq, .int po, .int (nI en), .ref mso, .ref mon, .ref mot, .ref man, .int th, .int xd, .ref mst, .ref msm, .ref mtb, .ref mti, .ref mfr, .ref mbn, .ref mbs, .ref mde, .int sF, .int sN, .int sS, .int ig, .long xa, .long xb, .ref maa, .ref mab, .ref mba, .ref mbb]))] := hD
  refine lv_if_eq (tgt := 57) hx hb dX12_canPoll_5 (by decide) (fun c_3 => ?_) (fun c_3 => ?_)
  · -- 5 t
    have hbad_jx : ¬ okN n x := PQ.no hw_r_1 c_3 (by decide)
    refine lv_iconst (v := nI 0) hx hb dX12_canPoll_57 (by decide) ?_
    exact xreti C () (Or.inr ⟨fun q => hbad_jx q.1, rfl⟩) (xP_map hP [1, 0] rfl) (hD.sub [1, 0] (by decide) rfl) hS (Nat.le_of_ble_eq_true rfl) (Nat.le_of_ble_eq_true rfl) (by decide) dX12_canPoll_58
  · -- 5 f
    have hok_jx : okN n x := PQ.yes hw_r_1 c_3
    obtain ⟨jx, h_jx, rfl⟩ := okN_of hok_jx (by omega)
    replace hP : va_P D vwCl [(ms, .inl (cs 0, 288, .inl f)), (hm, .inr (12, [.ref ms, .ref mkp, .int (nI km), .ref mtr, .int (nI n), .int (nI k), .int (nI al), .int (nI be), .int ea, .int pr, .ref mas, .int nq, .int po, .int (nI en), .ref mso, .ref mon, .ref mot, .ref man, .int th, .int xd, .ref mst, .ref msm, .ref mtb, .ref mti, .ref mfr, .ref mbn, .ref mbs, .ref mde, .int sF, .int sN, .int sS, .int ig, .long xa, .long xb, .ref maa, .ref mab, .ref mba, .ref mbb]))] H := hP
    replace hD : va_D A [(ms, .inl (cs 0, 288, .inl f)), (hm, .inr (12, [.ref ms, .ref mkp, .int (nI km), .ref mtr, .int (nI n), .int (nI k), .int (nI al), .int (nI be), .int ea, .int pr, .ref mas, .int nq, .int po, .int (nI en), .ref mso, .ref mon, .ref mot, .ref man, .int th, .int xd, .ref mst, .ref msm, .ref mtb, .ref mti, .ref mfr, .ref mbn, .ref mbs, .ref mde, .int sF, .int sN, .int sS, .int ig, .long xa, .long xb, .ref maa, .ref mab, .ref mba, .ref mbb]))] := hD
    refine lv_aload_n hx hb dX12_canPoll_8 rfl (lv_at hl 0 rfl) ?_
    refine lv_iload_n hx hb dX12_canPoll_9 rfl (lv_at hl 2 rfl) ?_
    refine xi (wr := [(ms, .inl (cs 0, 288, .inl f))]) (xV (As := [.int y]) (rest := []) C (c_X12_isEntry l D cs hm ms mkp mtr mas mso mon mot man mst msm mtb mti mfr mbn mbs mde maa mab mba mbb n k al be km en ea pr nq po th xd sF sN sS ig xa xb y hen) kX12_319 hP hD [1] rfl (by decide) 0 rfl rfl rfl ⟨Nat.le_of_ble_eq_true rfl, Nat.le_of_ble_eq_true rfl⟩ rfl hl.1 rfl (Nat.le_of_ble_eq_true rfl) dX12_canPoll_10 ⟨Nat.le_of_ble_eq_true rfl, Nat.le_of_ble_eq_true rfl⟩) hP hD hS hA [1] [0] rfl rfl (by decide) (by decide) ?_
    clear hP hD hS
    try clear locs
    try clear H
    intro r_4 u_5 H locs hw_r_4 hP hD hS
    have hw_r_4 : PQ (okN en y) r_4 (nI 1) (nI 0) := hw_r_4
    refine W.widen (k := 0) (n := 0) (Nat.le_of_ble_eq_true rfl) (Nat.le_of_ble_eq_true rfl) ?_
    replace hP : va_P D vwCl [(ms, .inl (cs 0, 288, .inl f)), (hm, .inr (12, [.ref ms, .ref mkp, .int (nI km), .ref mtr, .int (nI n), .int (nI k), .int (nI al), .int (nI be), .int ea, .int pr, .ref mas, .int nq, .int po, .int (nI en), .ref mso, .ref mon, .ref mot, .ref man, .int th, .int xd, .ref mst, .ref msm, .ref mtb, .ref mti, .ref mfr, .ref mbn, .ref mbs, .ref mde, .int sF, .int sN, .int sS, .int ig, .long xa, .long xb, .ref maa, .ref mab, .ref mba, .ref mbb]))] H := hP
    replace hD : va_D A [(ms, .inl (cs 0, 288, .inl f)), (hm, .inr (12, [.ref ms, .ref mkp, .int (nI km), .ref mtr, .int (nI n), .int (nI k), .int (nI al), .int (nI be), .int ea, .int pr, .ref mas, .int nq, .int po, .int (nI en), .ref mso, .ref mon, .ref mot, .ref man, .int th, .int xd, .ref mst, .ref msm, .ref mtb, .ref mti, .ref mfr, .ref mbn, .ref mbs, .ref mde, .int sF, .int sN, .int sS, .int ig, .long xa, .long xb, .ref maa, .ref mab, .ref mba, .ref mbb]))] := hD
    refine lv_if_eq (tgt := 57) hx hb dX12_canPoll_13 (by decide) (fun c_6 => ?_) (fun c_6 => ?_)
    · -- 13 t
      have hbad_jy : ¬ okN en y := PQ.no hw_r_4 c_6 (by decide)
      refine lv_iconst (v := nI 0) hx hb dX12_canPoll_57 (by decide) ?_
      exact xreti C () (Or.inr ⟨fun q => hbad_jy q.2.1, rfl⟩) (xP_map hP [1, 0] rfl) (hD.sub [1, 0] (by decide) rfl) hS (Nat.le_of_ble_eq_true rfl) (Nat.le_of_ble_eq_true rfl) (by decide) dX12_canPoll_58
    · -- 13 f
      have hok_jy : okN en y := PQ.yes hw_r_4 c_6
      obtain ⟨jy, h_jy, rfl⟩ := okN_of hok_jy (by omega)
      replace hP : va_P D vwCl [(ms, .inl (cs 0, 288, .inl f)), (hm, .inr (12, [.ref ms, .ref mkp, .int (nI km), .ref mtr, .int (nI n), .int (nI k), .int (nI al), .int (nI be), .int ea, .int pr, .ref mas, .int nq, .int po, .int (nI en), .ref mso, .ref mon, .ref mot, .ref man, .int th, .int xd, .ref mst, .ref msm, .ref mtb, .ref mti, .ref mfr, .ref mbn, .ref mbs, .ref mde, .int sF, .int sN, .int sS, .int ig, .long xa, .long xb, .ref maa, .ref mab, .ref mba, .ref mbb]))] H := hP
      replace hD : va_D A [(ms, .inl (cs 0, 288, .inl f)), (hm, .inr (12, [.ref ms, .ref mkp, .int (nI km), .ref mtr, .int (nI n), .int (nI k), .int (nI al), .int (nI be), .int ea, .int pr, .ref mas, .int nq, .int po, .int (nI en), .ref mso, .ref mon, .ref mot, .ref man, .int th, .int xd, .ref mst, .ref msm, .ref mtb, .ref mti, .ref mfr, .ref mbn, .ref mbs, .ref mde, .int sF, .int sN, .int sS, .int ig, .long xa, .long xb, .ref maa, .ref mab, .ref mba, .ref mbb]))] := hD
      refine lv_aload_n hx hb dX12_canPoll_16 rfl (lv_at hl 0 rfl) ?_
      refine lv_iload_n hx hb dX12_canPoll_17 rfl (lv_at hl 1 rfl) ?_
      refine lv_iload_n hx hb dX12_canPoll_18 rfl (lv_at hl 3 rfl) ?_
      refine xi (wr := [(ms, .inl (cs 0, 288, .inl f))]) (xV (As := [.int (nI jx), .int b]) (rest := []) C (c_X12_isSample_f l D cs hm ms mkp mtr mas mso mon mot man mst msm mtb mti mfr mbn mbs mde maa mab mba mbb n k al be km en ea pr nq po th xd sF sN sS ig xa xb jx b) kX12_139 hP hD [1] rfl (by decide) 0 rfl rfl rfl ⟨Nat.le_of_ble_eq_true rfl, Nat.le_of_ble_eq_true rfl⟩ rfl hl.1 rfl (Nat.le_of_ble_eq_true rfl) dX12_canPoll_19 ⟨Nat.le_of_ble_eq_true rfl, Nat.le_of_ble_eq_true rfl⟩) hP hD hS hA [1] [0] rfl rfl (by decide) (by decide) ?_
      clear hP hD hS
      try clear locs
      try clear H
      intro r_7 u_8 H locs hw_r_7 hP hD hS
      have hw_r_7 : PQ (msmP n k jx b) r_7 (nI 1) (nI 0) := hw_r_7
      refine W.widen (k := 0) (n := 0) (Nat.le_of_ble_eq_true rfl) (Nat.le_of_ble_eq_true rfl) ?_
      replace hP : va_P D vwCl [(ms, .inl (cs 0, 288, .inl f)), (hm, .inr (12, [.ref ms, .ref mkp, .int (nI km), .ref mtr, .int (nI n), .int (nI k), .int (nI al), .int (nI be), .int ea, .int pr, .ref mas, .int nq, .int po, .int (nI en), .ref mso, .ref mon, .ref mot, .ref man, .int th, .int xd, .ref mst, .ref msm, .ref mtb, .ref mti, .ref mfr, .ref mbn, .ref mbs, .ref mde, .int sF, .int sN, .int sS, .int ig, .long xa, .long xb, .ref maa, .ref mab, .ref mba, .ref mbb]))] H := hP
      replace hD : va_D A [(ms, .inl (cs 0, 288, .inl f)), (hm, .inr (12, [.ref ms, .ref mkp, .int (nI km), .ref mtr, .int (nI n), .int (nI k), .int (nI al), .int (nI be), .int ea, .int pr, .ref mas, .int nq, .int po, .int (nI en), .ref mso, .ref mon, .ref mot, .ref man, .int th, .int xd, .ref mst, .ref msm, .ref mtb, .ref mti, .ref mfr, .ref mbn, .ref mbs, .ref mde, .int sF, .int sN, .int sS, .int ig, .long xa, .long xb, .ref maa, .ref mab, .ref mba, .ref mbb]))] := hD
      refine lv_if_eq (tgt := 57) hx hb dX12_canPoll_22 (by decide) (fun c_9 => ?_) (fun c_9 => ?_)
      · -- 22 t
        refine lv_iconst (v := nI 0) hx hb dX12_canPoll_57 (by decide) ?_
        exact xreti C () (Or.inr ⟨fun q => (fun z : mcpP n k f b jx jy => PQ.no hw_r_7 c_9 (by decide) z.1) (q.2.2 jx jy h_jx h_jy rfl rfl), rfl⟩) (xP_map hP [1, 0] rfl) (hD.sub [1, 0] (by decide) rfl) hS (Nat.le_of_ble_eq_true rfl) (Nat.le_of_ble_eq_true rfl) (by decide) dX12_canPoll_58
      · -- 22 f
        refine lv_aload_n hx hb dX12_canPoll_25 rfl (lv_at hl 0 rfl) ?_
        refine xget C hP 1 rfl rfl zuX12 0 (by decide) zw5_213 rfl dX12_canPoll_26 ?_
        refine lv_bipush (v := nI 48) hx hb dX12_canPoll_29 (by decide) ?_
        refine lv_iload_n hx hb dX12_canPoll_31 rfl (lv_at hl 1 rfl) ?_
        refine lv_iadd hx hb dX12_canPoll_32 ?_
        refine lv_topi (nm_r (e' := nI (48 + jx)) (nI_add _ _) ?_)
        refine xiald C hP 0 rfl (48 + jx) rfl (by omega) (by decide) dX12_canPoll_33 ?_
        refine lv_if_ne (tgt := 57) hx hb dX12_canPoll_34 (by decide) (fun c_10 => ?_) (fun c_10 => ?_)
        · -- 34 t
          refine lv_iconst (v := nI 0) hx hb dX12_canPoll_57 (by decide) ?_
          exact xreti C () (Or.inr ⟨fun q => (fun z : mcpP n k f b jx jy => c_10 z.2.1) (q.2.2 jx jy h_jx h_jy rfl rfl), rfl⟩) (xP_map hP [1, 0] rfl) (hD.sub [1, 0] (by decide) rfl) hS (Nat.le_of_ble_eq_true rfl) (Nat.le_of_ble_eq_true rfl) (by decide) dX12_canPoll_58
        · -- 34 f
          refine lv_aload_n hx hb dX12_canPoll_37 rfl (lv_at hl 0 rfl) ?_
          refine xget C hP 1 rfl rfl zuX12 0 (by decide) zw5_213 rfl dX12_canPoll_38 ?_
          refine lv_bipush (v := nI 72) hx hb dX12_canPoll_41 (by decide) ?_
          refine lv_iload_n hx hb dX12_canPoll_43 rfl (lv_at hl 1 rfl) ?_
          refine lv_iadd hx hb dX12_canPoll_44 ?_
          refine lv_topi (nm_r (e' := nI (72 + jx)) (nI_add _ _) ?_)
          refine xiald C hP 0 rfl (72 + jx) rfl (by omega) (by decide) dX12_canPoll_45 ?_
          refine lv_iload_n hx hb dX12_canPoll_46 rfl (lv_at hl 2 rfl) ?_
          refine xi (wr := [(ms, .inl (cs 0, 288, .inl f)), (hm, .inr (12, [.ref ms, .ref mkp, .int (nI km), .ref mtr, .int (nI n), .int (nI k), .int (nI al), .int (nI be), .int ea, .int pr, .ref mas, .int nq, .int po, .int (nI en), .ref mso, .ref mon, .ref mot, .ref man, .int th, .int xd, .ref mst, .ref msm, .ref mtb, .ref mti, .ref mfr, .ref mbn, .ref mbs, .ref mde, .int sF, .int sN, .int sS, .int ig, .long xa, .long xb, .ref maa, .ref mab, .ref mba, .ref mbb]))]) (xS (As := [.int (f (72 + jx)), .int (nI jy)]) (rest := []) C (c_X12_has l D cs (f (72 + jx)) jy) kX12_100 hP hD [] rfl (by decide) ⟨Nat.le_of_ble_eq_true rfl, Nat.le_of_ble_eq_true rfl⟩ rfl hl.1 rfl (Nat.le_of_ble_eq_true rfl) dX12_canPoll_47 ⟨Nat.le_of_ble_eq_true rfl, Nat.le_of_ble_eq_true rfl⟩) hP hD hS hA [] [0, 1] rfl rfl (by decide) (by decide) ?_
          clear hP hD hS
          try clear locs
          try clear H
          intro r_11 u_12 H locs hw_r_11 hP hD hS
          have hw_r_11 : PQ (hasB (f (72 + jx)) jy) r_11 (nI 1) (nI 0) := hw_r_11
          refine W.widen (k := 0) (n := 0) (Nat.le_of_ble_eq_true rfl) (Nat.le_of_ble_eq_true rfl) ?_
          replace hP : va_P D vwCl [(ms, .inl (cs 0, 288, .inl f)), (hm, .inr (12, [.ref ms, .ref mkp, .int (nI km), .ref mtr, .int (nI n), .int (nI k), .int (nI al), .int (nI be), .int ea, .int pr, .ref mas, .int nq, .int po, .int (nI en), .ref mso, .ref mon, .ref mot, .ref man, .int th, .int xd, .ref mst, .ref msm, .ref mtb, .ref mti, .ref mfr, .ref mbn, .ref mbs, .ref mde, .int sF, .int sN, .int sS, .int ig, .long xa, .long xb, .ref maa, .ref mab, .ref mba, .ref mbb]))] H := hP
          replace hD : va_D A [(ms, .inl (cs 0, 288, .inl f)), (hm, .inr (12, [.ref ms, .ref mkp, .int (nI km), .ref mtr, .int (nI n), .int (nI k), .int (nI al), .int (nI be), .int ea, .int pr, .ref mas, .int nq, .int po, .int (nI en), .ref mso, .ref mon, .ref mot, .ref man, .int th, .int xd, .ref mst, .ref msm, .ref mtb, .ref mti, .ref mfr, .ref mbn, .ref mbs, .ref mde, .int sF, .int sN, .int sS, .int ig, .long xa, .long xb, .ref maa, .ref mab, .ref mba, .ref mbb]))] := hD
          refine lv_if_ne (tgt := 57) hx hb dX12_canPoll_50 (by decide) (fun c_13 => ?_) (fun c_13 => ?_)
          · -- 50 t
            refine lv_iconst (v := nI 0) hx hb dX12_canPoll_57 (by decide) ?_
            exact xreti C () (Or.inr ⟨fun q => (fun z : mcpP n k f b jx jy => z.2.2 (PQ.yes hw_r_11 c_13)) (q.2.2 jx jy h_jx h_jy rfl rfl), rfl⟩) (xP_map hP [1, 0] rfl) (hD.sub [1, 0] (by decide) rfl) hS (Nat.le_of_ble_eq_true rfl) (Nat.le_of_ble_eq_true rfl) (by decide) dX12_canPoll_58
          · -- 50 f
            refine lv_iconst (v := nI 1) hx hb dX12_canPoll_53 (by decide) ?_
            refine lv_goto (tgt := 58) hx hb dX12_canPoll_54 (by decide) ?_
            exact xreti C () (Or.inl ⟨jx, jy, h_jx, h_jy, rfl, rfl, ⟨PQ.yes hw_r_7 c_9, c_10, PQ.no hw_r_11 c_13 (by decide)⟩, rfl⟩) (xP_map hP [1, 0] rfl) (hD.sub [1, 0] (by decide) rfl) hS (Nat.le_of_ble_eq_true rfl) (Nat.le_of_ble_eq_true rfl) (by decide) dX12_canPoll_58
