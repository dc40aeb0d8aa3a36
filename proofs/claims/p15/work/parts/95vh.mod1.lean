set_option maxHeartbeats 4000000 in
set_option maxRecDepth 100000 in
theorem c_X12_says_f (l : Launch) (D : va_G) (cs : Nat → ClassId) (hm ms mkp mtr mas mso mon mot man mst msm mtb mti mfr mbn mbs mde maa mab mba mbb : Nat) (n k al be km en : Nat) (ea pr nq po th xd sF sN sS ig : Int32) (xa xb : Int64) (f : Nat → Int32) (b a : Nat) (ha : a < 8) (hb : b < 8) (hs : colP f) : xMet l D cs yX12_says cX12_says 5 (some .int) ({ frames := 1, cells := 0, slots := 0, locals := 21 } : Room) [.ref hm, .int (nI b), .int (nI a)] [(hm, .inr (12, [.ref ms, .ref mkp, .int (nI km), .ref mtr, .int (nI n), .int (nI k), .int (nI al), .int (nI be), .int ea, .int pr, .ref mas, .int nq, .int po, .int (nI en), .ref mso, .ref mon, .ref mot, .ref man, .int th, .int xd, .ref mst, .ref msm, .ref mtb, .ref mti, .ref mfr, .ref mbn, .ref mbs, .ref mde, .int sF, .int sN, .int sS, .int ig, .long xa, .long xb, .ref maa, .ref mab, .ref mba, .ref mbb])), (ms, .inl (cs 0, 288, .inl f))] (xQi D (fun (r : Int32) (fz : (Nat → Int32)) => fz = sayG f a b ∧ r = sayR f a b ∧ colP fz ∧ ∀ i, i < 8 → ¬ f i < 0 → fz i = f i) (fun (fz : (Nat → Int32)) => [(hm, .inr (12, [.ref ms, .ref mkp, .int (nI km), .ref mtr, .int (nI n), .int (nI k), .int (nI al), .int (nI be), .int ea, .int pr, .ref mas, .int nq, .int po, .int (nI en), .ref mso, .ref mon, .ref mot, .ref man, .int th, .int xd, .ref mst, .ref msm, .ref mtb, .ref mti, .ref mfr, .ref mbn, .ref mbs, .ref mde, .int sF, .int sN, .int sS, .int ig, .long xa, .long xb, .ref maa, .ref mab, .ref mba, .ref mbb])), (ms, .inl (cs 0, 288, .inl fz))])) := by
  refine xMet.intro (by decide) (Nat.le_of_ble_eq_true rfl) ?_
  intro p e s m args below meth c A ls C hP hD hS hl
  have hx := C.1
  have hb := C.2.1
  have hz := C.2.2.2.2.1
  have hown := C.2.2.2.1
  have hA := C.2.2.2.2.2.2.2.2.2
  have hAO := C.2.2.2.2.2.2.2.2.1.2.2
  replace hl : lv_has ls 5 [(0, .ref hm), (1, .int (nI b)), (2, .int (nI a))] := hl
  obtain ⟨H, hH⟩ : ∃ H, H = s.heap := ⟨_, rfl⟩
  replace hP : va_P D vwCl [(hm, .inr (12, [.ref ms, .ref mkp, .int (nI km), .ref mtr, .int (nI n), .int (nI k), .int (nI al), .int (nI be), .int ea, .int pr, .ref mas, .int nq, .int po, .int (nI en), .ref mso, .ref mon, .ref mot, .ref man, .int th, .int xd, .ref mst, .ref msm, .ref mtb, .ref mti, .ref mfr, .ref mbn, .ref mbs, .ref mde, .int sF, .int sN, .int sS, .int ig, .long xa, .long xb, .ref maa, .ref mab, .ref mba, .ref mbb])), (ms, .inl (cs 0, 288, .inl f))] H := by rw [hH]; exact hP
  replace hS : va_S A s.heap H [] := by rw [hH]; exact hS
  obtain ⟨locs, hlocs⟩ : ∃ z : List Loc, z = [] := ⟨_, rfl⟩
  rw [← hlocs] at hS
  suffices hW : W p l e ({ frames := 1, cells := 0, slots := 0, locals := 21 } : Room) s m args below meth c H locs 0 0 (MQ below ((xQi D (fun (r : Int32) (fz : (Nat → Int32)) => fz = sayG f a b ∧ r = sayR f a b ∧ colP fz ∧ ∀ i, i < 8 → ¬ f i < 0 → fz i = f i) (fun (fz : (Nat → Int32)) => [(hm, .inr (12, [.ref ms, .ref mkp, .int (nI km), .ref mtr, .int (nI n), .int (nI k), .int (nI al), .int (nI be), .int ea, .int pr, .ref mas, .int nq, .int po, .int (nI en), .ref mso, .ref mon, .ref mot, .ref man, .int th, .int xd, .ref mst, .ref msm, .ref mtb, .ref mti, .ref mfr, .ref mbn, .ref mbs, .ref mde, .int sF, .int sN, .int sS, .int ig, .long xa, .long xb, .ref maa, .ref mab, .ref mba, .ref mbb])), (ms, .inl (cs 0, 288, .inl fz))])) A) args s 0 0 A) (F0 m 0 ls []) by rw [hlocs, hH] at hW; exact hW
  clear hH hlocs
  refine lv_aload_n hx hb dX12_says_0 rfl (lv_at hl 0 rfl) ?_
  refine xget C hP 0 rfl rfl zuX12 0 (by decide) zw5_213 rfl dX12_says_1 ?_
  refine lv_bipush (v := nI 56) hx hb dX12_says_4 (by decide) ?_
  refine lv_iload_n hx hb dX12_says_6 rfl (lv_at hl 2 rfl) ?_
  refine lv_iadd hx hb dX12_says_7 ?_
  refine lv_topi (nm_r (e' := nI (56 + a)) (nI_add _ _) ?_)
  refine xiald C hP 1 rfl (56 + a) rfl (by omega) (by decide) dX12_says_8 ?_
  refine lv_iload_n hx hb dX12_says_9 rfl (lv_at hl 1 rfl) ?_
  refine xi (wr := [(hm, .inr (12, [.ref ms, .ref mkp, .int (nI km), .ref mtr, .int (nI n), .int (nI k), .int (nI al), .int (nI be), .int ea, .int pr, .ref mas, .int nq, .int po, .int (nI en), .ref mso, .ref mon, .ref mot, .ref man, .int th, .int xd, .ref mst, .ref msm, .ref mtb, .ref mti, .ref mfr, .ref mbn, .ref mbs, .ref mde, .int sF, .int sN, .int sS, .int ig, .long xa, .long xb, .ref maa, .ref mab, .ref mba, .ref mbb])), (ms, .inl (cs 0, 288, .inl f))]) (xS (As := [.int (f (56 + a)), .int (nI b)]) (rest := []) C (c_X12_has l D cs (f (56 + a)) b) kX12_100 hP hD [] rfl (by decide) ⟨Nat.le_of_ble_eq_true rfl, Nat.le_of_ble_eq_true rfl⟩ rfl hl.1 rfl (Nat.le_of_ble_eq_true rfl) dX12_says_10 ⟨Nat.le_of_ble_eq_true rfl, Nat.le_of_ble_eq_true rfl⟩) hP hD hS hA [] [0, 1] rfl rfl (by decide) (by decide) ?_
  clear hP hD hS
  try clear locs
  try clear H
  intro r_1 u_2 H locs hw_r_1 hP hD hS
  have hw_r_1 : PQ (hasB (f (56 + a)) b) r_1 (nI 1) (nI 0) := hw_r_1
  refine W.widen (k := 0) (n := 0) (Nat.le_of_ble_eq_true rfl) (Nat.le_of_ble_eq_true rfl) ?_
  replace hP : va_P D vwCl [(hm, .inr (12, [.ref ms, .ref mkp, .int (nI km), .ref mtr, .int (nI n), .int (nI k), .int (nI al), .int (nI be), .int ea, .int pr, .ref mas, .int nq, .int po, .int (nI en), .ref mso, .ref mon, .ref mot, .ref man, .int th, .int xd, .ref mst, .ref msm, .ref mtb, .ref mti, .ref mfr, .ref mbn, .ref mbs, .ref mde, .int sF, .int sN, .int sS, .int ig, .long xa, .long xb, .ref maa, .ref mab, .ref mba, .ref mbb])), (ms, .inl (cs 0, 288, .inl f))] H := hP
  replace hD : va_D A [(hm, .inr (12, [.ref ms, .ref mkp, .int (nI km), .ref mtr, .int (nI n), .int (nI k), .int (nI al), .int (nI be), .int ea, .int pr, .ref mas, .int nq, .int po, .int (nI en), .ref mso, .ref mon, .ref mot, .ref man, .int th, .int xd, .ref mst, .ref msm, .ref mtb, .ref mti, .ref mfr, .ref mbn, .ref mbs, .ref mde, .int sF, .int sN, .int sS, .int ig, .long xa, .long xb, .ref maa, .ref mab, .ref mba, .ref mbb])), (ms, .inl (cs 0, 288, .inl f))] := hD
  refine lv_if_ne (tgt := 18) hx hb dX12_says_13 (by decide) (fun c_3 => ?_) (fun c_3 => ?_)
  · -- 13 t
    refine lv_aload_n hx hb dX12_says_18 rfl (lv_at hl 0 rfl) ?_
    refine xget C hP 0 rfl rfl zuX12 0 (by decide) zw5_213 rfl dX12_says_19 ?_
    refine lv_iconst (v := nI 0) hx hb dX12_says_22 (by decide) ?_
    refine lv_iload_n hx hb dX12_says_23 rfl (lv_at hl 2 rfl) ?_
    refine lv_iadd hx hb dX12_says_24 ?_
    refine lv_topi (nm_r (e' := nI (0 + a)) (nI_add _ _) ?_)
    refine xiald C hP 1 rfl (0 + a) rfl (by omega) (by decide) dX12_says_25 ?_
    refine lv_istore_n (lv' := [(3, .int (f (0 + a))), (0, .ref hm), (1, .int (nI b)), (2, .int (nI a))]) hx hb dX12_says_26 rfl hl (by decide) rfl ?_
    clear hl
    try clear ls
    intro ls hl
    refine lv_aload_n hx hb dX12_says_27 rfl (lv_at hl 1 rfl) ?_
    refine xget C hP 0 rfl rfl zuX12 0 (by decide) zw5_213 rfl dX12_says_28 ?_
    refine lv_bipush (v := nI 48) hx hb dX12_says_31 (by decide) ?_
    refine lv_iload_n hx hb dX12_says_33 rfl (lv_at hl 2 rfl) ?_
    refine lv_iadd hx hb dX12_says_34 ?_
    refine lv_topi (nm_r (e' := nI (48 + b)) (nI_add _ _) ?_)
    refine xiald C hP 1 rfl (48 + b) rfl (by omega) (by decide) dX12_says_35 ?_
    refine lv_istore (lv' := [(4, .int (f (48 + b))), (3, .int (f (0 + a))), (0, .ref hm), (1, .int (nI b)), (2, .int (nI a))]) hx hb dX12_says_36 hl (by decide) rfl ?_
    clear hl
    try clear ls
    intro ls hl
    refine lv_iload hx hb dX12_says_38 (lv_at hl 0 rfl) ?_
    refine lv_if_ne (tgt := 72) hx hb dX12_says_40 (by decide) (fun c_4 => ?_) (fun c_4 => ?_)
    · -- 40 t
      refine lv_iload hx hb dX12_says_72 (lv_at hl 0 rfl) ?_
      refine lv_iconst (v := nI 1) hx hb dX12_says_74 (by decide) ?_
      refine lv_icmp_ne (tgt := 82) hx hb dX12_says_75 (by decide) (fun c_5 => ?_) (fun c_5 => ?_)
      · -- 75 t
        refine lv_iload hx hb dX12_says_82 (lv_at hl 0 rfl) ?_
        refine lv_iconst (v := nI 2) hx hb dX12_says_84 (by decide) ?_
        refine lv_icmp_ne (tgt := 92) hx hb dX12_says_85 (by decide) (fun c_6 => ?_) (fun c_6 => ?_)
        · -- 85 t
          refine lv_iload hx hb dX12_says_92 (lv_at hl 0 rfl) ?_
          refine lv_iconst (v := nI 3) hx hb dX12_says_94 (by decide) ?_
          refine lv_icmp_ne (tgt := 104) hx hb dX12_says_95 (by decide) (fun c_7 => ?_) (fun c_7 => ?_)
          · -- 95 t
            refine lv_iconst (v := (-1)) hx hb dX12_says_104 (by decide) ?_
            exact xreti C f (⟨(if_neg (fun q => c_4 q.2.1)).symm, ((if_pos (PQ.yes hw_r_1 c_3)).trans ((((if_neg c_4).trans (if_neg c_5)).trans (if_neg c_6)).trans (if_neg c_7))).symm, hs, fun _ _ _ => rfl⟩) hP hD hS (Nat.le_of_ble_eq_true rfl) (Nat.le_of_ble_eq_true rfl) rfl dX12_says_105
          · -- 95 f
            refine lv_iconst (v := nI 1) hx hb dX12_says_98 (by decide) ?_
            refine lv_iload_n hx hb dX12_says_99 rfl (lv_at hl 1 rfl) ?_
            refine lv_isub hx hb dX12_says_100 ?_
            refine lv_goto (tgt := 105) hx hb dX12_says_101 (by decide) ?_
            exact xreti C f (⟨(if_neg (fun q => c_4 q.2.1)).symm, ((if_pos (PQ.yes hw_r_1 c_3)).trans ((((if_neg c_4).trans (if_neg c_5)).trans (if_neg c_6)).trans (if_pos c_7))).symm, hs, fun _ _ _ => rfl⟩) hP hD hS (Nat.le_of_ble_eq_true rfl) (Nat.le_of_ble_eq_true rfl) rfl dX12_says_105
        · -- 85 f
          refine lv_iconst (v := nI 1) hx hb dX12_says_88 (by decide) ?_
          refine lv_goto (tgt := 105) hx hb dX12_says_89 (by decide) ?_
          exact xreti C f (⟨(if_neg (fun q => c_4 q.2.1)).symm, ((if_pos (PQ.yes hw_r_1 c_3)).trans (((if_neg c_4).trans (if_neg c_5)).trans (if_pos c_6))).symm, hs, fun _ _ _ => rfl⟩) hP hD hS (Nat.le_of_ble_eq_true rfl) (Nat.le_of_ble_eq_true rfl) rfl dX12_says_105
      · -- 75 f
        refine lv_iconst (v := nI 0) hx hb dX12_says_78 (by decide) ?_
        refine lv_goto (tgt := 105) hx hb dX12_says_79 (by decide) ?_
        exact xreti C f (⟨(if_neg (fun q => c_4 q.2.1)).symm, ((if_pos (PQ.yes hw_r_1 c_3)).trans ((if_neg c_4).trans (if_pos c_5))).symm, hs, fun _ _ _ => rfl⟩) hP hD hS (Nat.le_of_ble_eq_true rfl) (Nat.le_of_ble_eq_true rfl) rfl dX12_says_105
    · -- 40 f
      refine lv_aload_n hx hb dX12_says_43 rfl (lv_at hl 2 rfl) ?_
      refine xget C hP 0 rfl rfl zuX12 0 (by decide) zw5_213 rfl dX12_says_44 ?_
      refine lv_iconst (v := nI 0) hx hb dX12_says_47 (by decide) ?_
      refine lv_iload_n hx hb dX12_says_48 rfl (lv_at hl 3 rfl) ?_
      refine lv_iadd hx hb dX12_says_49 ?_
      refine lv_topi (nm_r (e' := nI (0 + b)) (nI_add _ _) ?_)
      refine xiald C hP 1 rfl (0 + b) rfl (by omega) (by decide) dX12_says_50 ?_
      refine lv_if_ge (tgt := 63) hx hb dX12_says_51 (by decide) (fun c_8 => ?_) (fun c_8 => ?_)
      · -- 51 t
        refine lv_aload_n hx hb dX12_says_63 rfl (lv_at hl 2 rfl) ?_
        refine xget C hP 0 rfl rfl zuX12 0 (by decide) zw5_213 rfl dX12_says_64 ?_
        refine lv_iconst (v := nI 0) hx hb dX12_says_67 (by decide) ?_
        refine lv_iload_n hx hb dX12_says_68 rfl (lv_at hl 3 rfl) ?_
        refine lv_iadd hx hb dX12_says_69 ?_
        refine lv_topi (nm_r (e' := nI (0 + b)) (nI_add _ _) ?_)
        refine xiald C hP 1 rfl (0 + b) rfl (by omega) (by decide) dX12_says_70 ?_
        exact xreti C f (⟨(if_neg (fun q => absurd q.2.2 (Int32.not_lt.mpr c_8))).symm, ((if_pos (PQ.yes hw_r_1 c_3)).trans ((if_pos c_4).trans (if_neg (Int32.not_lt.mpr c_8)))).symm, hs, fun _ _ _ => rfl⟩) hP hD hS (Nat.le_of_ble_eq_true rfl) (Nat.le_of_ble_eq_true rfl) rfl dX12_says_71
      · -- 51 f
        refine lv_aload_n hx hb dX12_says_54 rfl (lv_at hl 2 rfl) ?_
        refine xget C hP 0 rfl rfl zuX12 0 (by decide) zw5_213 rfl dX12_says_55 ?_
        refine lv_iconst (v := nI 0) hx hb dX12_says_58 (by decide) ?_
        refine lv_iload_n hx hb dX12_says_59 rfl (lv_at hl 3 rfl) ?_
        refine lv_iadd hx hb dX12_says_60 ?_
        refine lv_topi (nm_r (e' := nI (0 + b)) (nI_add _ _) ?_)
        refine lv_iload_n hx hb dX12_says_61 rfl (lv_at hl 1 rfl) ?_
        refine xiast C hP hD hS 1 rfl (0 + b) rfl (by omega) (by decide) dX12_says_62 ?_
        clear hP hD hS
        try clear locs
        try clear H
        intro H locs hP hD hS
        replace hP : va_P D vwCl [(hm, .inr (12, [.ref ms, .ref mkp, .int (nI km), .ref mtr, .int (nI n), .int (nI k), .int (nI al), .int (nI be), .int ea, .int pr, .ref mas, .int nq, .int po, .int (nI en), .ref mso, .ref mon, .ref mot, .ref man, .int th, .int xd, .ref mst, .ref msm, .ref mtb, .ref mti, .ref mfr, .ref mbn, .ref mbs, .ref mde, .int sF, .int sN, .int sS, .int ig, .long xa, .long xb, .ref maa, .ref mab, .ref mba, .ref mbb])), (ms, .inl (cs 0, 288, .inl (upd f (0 + b) (f (0 + a)))))] H := hP
        replace hD : va_D A [(hm, .inr (12, [.ref ms, .ref mkp, .int (nI km), .ref mtr, .int (nI n), .int (nI k), .int (nI al), .int (nI be), .int ea, .int pr, .ref mas, .int nq, .int po, .int (nI en), .ref mso, .ref mon, .ref mot, .ref man, .int th, .int xd, .ref mst, .ref msm, .ref mtb, .ref mti, .ref mfr, .ref mbn, .ref mbs, .ref mde, .int sF, .int sN, .int sS, .int ig, .long xa, .long xb, .ref maa, .ref mab, .ref mba, .ref mbb])), (ms, .inl (cs 0, 288, .inl (upd f (0 + b) (f (0 + a)))))] := hD
        refine lv_aload_n hx hb dX12_says_63 rfl (lv_at hl 2 rfl) ?_
        refine xget C hP 0 rfl rfl zuX12 0 (by decide) zw5_213 rfl dX12_says_64 ?_
        refine lv_iconst (v := nI 0) hx hb dX12_says_67 (by decide) ?_
        refine lv_iload_n hx hb dX12_says_68 rfl (lv_at hl 3 rfl) ?_
        refine lv_iadd hx hb dX12_says_69 ?_
        refine lv_topi (nm_r (e' := nI (0 + b)) (nI_add _ _) ?_)
        refine xiald C hP 1 rfl (0 + b) rfl (by omega) (by decide) dX12_says_70 ?_
        exact xreti C (upd f (0 + b) (f (0 + a))) (⟨(if_pos ⟨(PQ.yes hw_r_1 c_3), c_4, (Int32.not_le.mp c_8)⟩).symm, ((if_pos rfl).trans ((if_pos (PQ.yes hw_r_1 c_3)).trans ((if_pos c_4).trans (if_pos (Int32.not_le.mp c_8)))).symm), colP_up hs _ (hs _ (by omega)), fun i _ hi => by unfold upd; rw [if_neg (fun q => hi (by rw [q]; exact (Int32.not_le.mp c_8)))]⟩) hP hD hS (Nat.le_of_ble_eq_true rfl) (Nat.le_of_ble_eq_true rfl) rfl dX12_says_71
  · -- 13 f
    refine lv_iconst (v := (-1)) hx hb dX12_says_16 (by decide) ?_
    exact xreti C f (⟨(if_neg (fun q => (PQ.no hw_r_1 c_3 (by decide)) q.1)).symm, (if_neg (PQ.no hw_r_1 c_3 (by decide))).symm, hs, fun _ _ _ => rfl⟩) hP hD hS (Nat.le_of_ble_eq_true rfl) (Nat.le_of_ble_eq_true rfl) rfl dX12_says_17

set_option maxHeartbeats 4000000 in
set_option maxRecDepth 100000 in
theorem c_X12_counts_f (l : Launch) (D : va_G) (cs : Nat → ClassId) (hm ms mkp mtr mas mso mon mot man mst msm mtb mti mfr mbn mbs mde maa mab mba mbb : Nat) (n k al be km en : Nat) (ea pr nq po th xd sF sN sS ig : Int32) (xa xb : Int64) (f : Nat → Int32) (a : Nat) (x : Int32) (u : Nat → Nat) (ha : a < 8) (hs : colP f) (hna : ¬ f (0 + a) < 0) (hcw : colV x) (hpr : pr = nI 1 ∨ pr = nI 2) (hu : rowU f a u) (h0 : u 0 = 1 ∨ u 0 = 2) (h1 : u 1 < 3) (h2 : u 2 < 15) (h3 : u 3 ≤ 999) (h4 : u 4 ≤ 999) : xMet l D cs yX12_counts cX12_counts 5 none ({ frames := 0, cells := 0, slots := 0, locals := 0 } : Room) [.ref hm, .int (nI a), .int x] [(hm, .inr (12, [.ref ms, .ref mkp, .int (nI km), .ref mtr, .int (nI n), .int (nI k), .int (nI al), .int (nI be), .int ea, .int pr, .ref mas, .int nq, .int po, .int (nI en), .ref mso, .ref mon, .ref mot, .ref man, .int th, .int xd, .ref mst, .ref msm, .ref mtb, .ref mti, .ref mfr, .ref mbn, .ref mbs, .ref mde, .int sF, .int sN, .int sS, .int ig, .long xa, .long xb, .ref maa, .ref mab, .ref mba, .ref mbb])), (ms, .inl (cs 0, 288, .inl f))] (xQv D (fun (fz : (Nat → Int32)) => rowU fz a (cntU pr (cdI x) u) ∧ (∀ j, ¬ j = 0 + a → ¬ j = 8 + a → ¬ j = 16 + a → ¬ j = 24 + a → ¬ j = 32 + a → fz j = f j) ∧ colP fz) (fun (fz : (Nat → Int32)) => [(hm, .inr (12, [.ref ms, .ref mkp, .int (nI km), .ref mtr, .int (nI n), .int (nI k), .int (nI al), .int (nI be), .int ea, .int pr, .ref mas, .int nq, .int po, .int (nI en), .ref mso, .ref mon, .ref mot, .ref man, .int th, .int xd, .ref mst, .ref msm, .ref mtb, .ref mti, .ref mfr, .ref mbn, .ref mbs, .ref mde, .int sF, .int sN, .int sS, .int ig, .long xa, .long xb, .ref maa, .ref mab, .ref mba, .ref mbb])), (ms, .inl (cs 0, 288, .inl fz))])) := by
  refine xMet.intro (by decide) (Nat.le_of_ble_eq_true rfl) ?_
  intro p e s m args below meth c A ls C hP hD hS hl
  have hx := C.1
  have hb := C.2.1
  have hz := C.2.2.2.2.1
  have hown := C.2.2.2.1
  have hA := C.2.2.2.2.2.2.2.2.2
  have hAO := C.2.2.2.2.2.2.2.2.1.2.2
  replace hl : lv_has ls 5 [(0, .ref hm), (1, .int (nI a)), (2, .int x)] := hl
  obtain ⟨H, hH⟩ : ∃ H, H = s.heap := ⟨_, rfl⟩
  replace hP : va_P D vwCl [(hm, .inr (12, [.ref ms, .ref mkp, .int (nI km), .ref mtr, .int (nI n), .int (nI k), .int (nI al), .int (nI be), .int ea, .int pr, .ref mas, .int nq, .int po, .int (nI en), .ref mso, .ref mon, .ref mot, .ref man, .int th, .int xd, .ref mst, .ref msm, .ref mtb, .ref mti, .ref mfr, .ref mbn, .ref mbs, .ref mde, .int sF, .int sN, .int sS, .int ig, .long xa, .long xb, .ref maa, .ref mab, .ref mba, .ref mbb])), (ms, .inl (cs 0, 288, .inl f))] H := by rw [hH]; exact hP
  replace hS : va_S A s.heap H [] := by rw [hH]; exact hS
  obtain ⟨locs, hlocs⟩ : ∃ z : List Loc, z = [] := ⟨_, rfl⟩
  rw [← hlocs] at hS
  suffices hW : W p l e ({ frames := 0, cells := 0, slots := 0, locals := 0 } : Room) s m args below meth c H locs 0 0 (MQ below ((xQv D (fun (fz : (Nat → Int32)) => rowU fz a (cntU pr (cdI x) u) ∧ (∀ j, ¬ j = 0 + a → ¬ j = 8 + a → ¬ j = 16 + a → ¬ j = 24 + a → ¬ j = 32 + a → fz j = f j) ∧ colP fz) (fun (fz : (Nat → Int32)) => [(hm, .inr (12, [.ref ms, .ref mkp, .int (nI km), .ref mtr, .int (nI n), .int (nI k), .int (nI al), .int (nI be), .int ea, .int pr, .ref mas, .int nq, .int po, .int (nI en), .ref mso, .ref mon, .ref mot, .ref man, .int th, .int xd, .ref mst, .ref msm, .ref mtb, .ref mti, .ref mfr, .ref mbn, .ref mbs, .ref mde, .int sF, .int sN, .int sS, .int ig, .long xa, .long xb, .ref maa, .ref mab, .ref mba, .ref mbb])), (ms, .inl (cs 0, 288, .inl fz))])) A) args s 0 0 A) (F0 m 0 ls []) by rw [hlocs, hH] at hW; exact hW
  clear hH hlocs
  rcases hcw with rfl | rfl | rfl
  · -- split
    replace hP : va_P D vwCl [(hm, .inr (12, [.ref ms, .ref mkp, .int (nI km), .ref mtr, .int (nI n), .int (nI k), .int (nI al), .int (nI be), .int ea, .int pr, .ref mas, .int nq, .int po, .int (nI en), .ref mso, .ref mon, .ref mot, .ref man, .int th, .int xd, .ref mst, .ref msm, .ref mtb, .ref mti, .ref mfr, .ref mbn, .ref mbs, .ref mde, .int sF, .int sN, .int sS, .int ig, .long xa, .long xb, .ref maa, .ref mab, .ref mba, .ref mbb])), (ms, .inl (cs 0, 288, .inl f))] H := hP
    replace hD : va_D A [(hm, .inr (12, [.ref ms, .ref mkp, .int (nI km), .ref mtr, .int (nI n), .int (nI k), .int (nI al), .int (nI be), .int ea, .int pr, .ref mas, .int nq, .int po, .int (nI en), .ref mso, .ref mon, .ref mot, .ref man, .int th, .int xd, .ref mst, .ref msm, .ref mtb, .ref mti, .ref mfr, .ref mbn, .ref mbs, .ref mde, .int sF, .int sN, .int sS, .int ig, .long xa, .long xb, .ref maa, .ref mab, .ref mba, .ref mbb])), (ms, .inl (cs 0, 288, .inl f))] := hD
    refine lv_iload_n hx hb dX12_counts_0 rfl (lv_at hl 2 rfl) ?_
    refine lv_if_ge (tgt := 15) hx hb dX12_counts_1 (by decide) (fun c => absurd c (by decide)) (fun _ => ?_)
    refine lv_aload_n hx hb dX12_counts_4 rfl (lv_at hl 0 rfl) ?_
    refine xget C hP 0 rfl rfl zuX12 0 (by decide) zw5_213 rfl dX12_counts_5 ?_
    refine lv_bipush (v := nI 16) hx hb dX12_counts_8 (by decide) ?_
    refine lv_iload_n hx hb dX12_counts_10 rfl (lv_at hl 1 rfl) ?_
    refine lv_iadd hx hb dX12_counts_11 ?_
    refine lv_topi (nm_r (e' := nI (16 + a)) (nI_add _ _) ?_)
    refine lv_iconst (v := nI 0) hx hb dX12_counts_12 (by decide) ?_
    refine xiast C hP hD hS 1 rfl (16 + a) rfl (by omega) (by decide) dX12_counts_13 ?_
    clear hP hD hS
    try clear locs
    try clear H
    intro H locs hP hD hS
    replace hP : va_P D vwCl [(hm, .inr (12, [.ref ms, .ref mkp, .int (nI km), .ref mtr, .int (nI n), .int (nI k), .int (nI al), .int (nI be), .int ea, .int pr, .ref mas, .int nq, .int po, .int (nI en), .ref mso, .ref mon, .ref mot, .ref man, .int th, .int xd, .ref mst, .ref msm, .ref mtb, .ref mti, .ref mfr, .ref mbn, .ref mbs, .ref mde, .int sF, .int sN, .int sS, .int ig, .long xa, .long xb, .ref maa, .ref mab, .ref mba, .ref mbb])), (ms, .inl (cs 0, 288, .inl (upd f (16 + a) (nI 0))))] H := hP
    replace hD : va_D A [(hm, .inr (12, [.ref ms, .ref mkp, .int (nI km), .ref mtr, .int (nI n), .int (nI k), .int (nI al), .int (nI be), .int ea, .int pr, .ref mas, .int nq, .int po, .int (nI en), .ref mso, .ref mon, .ref mot, .ref man, .int th, .int xd, .ref mst, .ref msm, .ref mtb, .ref mti, .ref mfr, .ref mbn, .ref mbs, .ref mde, .int sF, .int sN, .int sS, .int ig, .long xa, .long xb, .ref maa, .ref mab, .ref mba, .ref mbb])), (ms, .inl (cs 0, 288, .inl (upd f (16 + a) (nI 0))))] := hD
    exact xretv C (upd f (16 + a) (nI 0)) (⟨(by rw [show cdI (-1) = 0 from by decide]; exact hu.n ha 0), (fun j q1 q2 q3 q4 q5 => by simp only [upd]; repeat (first | rfl | rw [if_neg q1] | rw [if_neg q2] | rw [if_neg q3] | rw [if_neg q4] | rw [if_neg q5])), (colP_hi (i := 16 + a) hs (nI 0) (by omega))⟩) hP hD hS (Nat.le_of_ble_eq_true rfl) (Nat.le_of_ble_eq_true rfl) dX12_counts_14
  · -- split
    replace hP : va_P D vwCl [(hm, .inr (12, [.ref ms, .ref mkp, .int (nI km), .ref mtr, .int (nI n), .int (nI k), .int (nI al), .int (nI be), .int ea, .int pr, .ref mas, .int nq, .int po, .int (nI en), .ref mso, .ref mon, .ref mot, .ref man, .int th, .int xd, .ref mst, .ref msm, .ref mtb, .ref mti, .ref mfr, .ref mbn, .ref mbs, .ref mde, .int sF, .int sN, .int sS, .int ig, .long xa, .long xb, .ref maa, .ref mab, .ref mba, .ref mbb])), (ms, .inl (cs 0, 288, .inl f))] H := hP
    replace hD : va_D A [(hm, .inr (12, [.ref ms, .ref mkp, .int (nI km), .ref mtr, .int (nI n), .int (nI k), .int (nI al), .int (nI be), .int ea, .int pr, .ref mas, .int nq, .int po, .int (nI en), .ref mso, .ref mon, .ref mot, .ref man, .int th, .int xd, .ref mst, .ref msm, .ref mtb, .ref mti, .ref mfr, .ref mbn, .ref mbs, .ref mde, .int sF, .int sN, .int sS, .int ig, .long xa, .long xb, .ref maa, .ref mab, .ref mba, .ref mbb])), (ms, .inl (cs 0, 288, .inl f))] := hD
    refine lv_iload_n hx hb dX12_counts_0 rfl (lv_at hl 2 rfl) ?_
    refine lv_if_ge (tgt := 15) hx hb dX12_counts_1 (by decide) (fun _ => ?_) (fun c => absurd (by decide) c)
    refine lv_aload_n hx hb dX12_counts_15 rfl (lv_at hl 0 rfl) ?_
    refine xget C hP 0 rfl rfl zuX12 9 (by decide) zw5_222 rfl dX12_counts_16 ?_
    refine lv_iconst (v := nI 2) hx hb dX12_counts_19 (by decide) ?_
    refine lv_icmp_ne (tgt := 30) hx hb dX12_counts_20 (by decide) (fun c_1 => ?_) (fun c_1 => ?_)
    · -- 20 t
      refine lv_iconst (v := nI 0) hx hb dX12_counts_30 (by decide) ?_
      refine lv_iload_n hx hb dX12_counts_31 rfl (lv_at hl 1 rfl) ?_
      refine lv_iadd hx hb dX12_counts_32 ?_
      refine lv_topi (nm_r (e' := nI (0 + a)) (nI_add _ _) ?_)
      refine lv_istore_n (lv' := [(3, .int (nI (0 + a))), (0, .ref hm), (1, .int (nI a)), (2, .int (nI 0))]) hx hb dX12_counts_33 rfl hl (by decide) rfl ?_
      clear hl
      try clear ls
      intro ls hl
      refine lv_aload_n hx hb dX12_counts_34 rfl (lv_at hl 1 rfl) ?_
      refine xget C hP 0 rfl rfl zuX12 9 (by decide) zw5_222 rfl dX12_counts_35 ?_
      refine lv_iconst (v := nI 2) hx hb dX12_counts_38 (by decide) ?_
      refine lv_icmp_ne (tgt := 117) hx hb dX12_counts_39 (by decide) (fun _ => ?_) (fun c => absurd c c_1)
      refine lv_aload_n hx hb dX12_counts_117 rfl (lv_at hl 1 rfl) ?_
      refine xget C hP 0 rfl rfl zuX12 0 (by decide) zw5_213 rfl dX12_counts_118 ?_
      refine lv_iload_n hx hb dX12_counts_121 rfl (lv_at hl 0 rfl) ?_
      refine xiald C hP 1 rfl (0 + a) rfl (by omega) (by decide) dX12_counts_122 ?_
      refine lv_iload_n hx hb dX12_counts_123 rfl (lv_at hl 3 rfl) ?_
      refine lv_icmp_ne (tgt := 143) hx hb dX12_counts_124 (by decide) (fun c_2 => ?_) (fun c_2 => ?_)
      · -- 124 t
        refine lv_aload_n hx hb dX12_counts_143 rfl (lv_at hl 1 rfl) ?_
        refine xget C hP 0 rfl rfl zuX12 0 (by decide) zw5_213 rfl dX12_counts_144 ?_
        refine lv_iload_n hx hb dX12_counts_147 rfl (lv_at hl 0 rfl) ?_
        refine lv_iload_n hx hb dX12_counts_148 rfl (lv_at hl 3 rfl) ?_
        refine xiast C hP hD hS 1 rfl (0 + a) rfl (by omega) (by decide) dX12_counts_149 ?_
        clear hP hD hS
        try clear locs
        try clear H
        intro H locs hP hD hS
        replace hP : va_P D vwCl [(hm, .inr (12, [.ref ms, .ref mkp, .int (nI km), .ref mtr, .int (nI n), .int (nI k), .int (nI al), .int (nI be), .int ea, .int pr, .ref mas, .int nq, .int po, .int (nI en), .ref mso, .ref mon, .ref mot, .ref man, .int th, .int xd, .ref mst, .ref msm, .ref mtb, .ref mti, .ref mfr, .ref mbn, .ref mbs, .ref mde, .int sF, .int sN, .int sS, .int ig, .long xa, .long xb, .ref maa, .ref mab, .ref mba, .ref mbb])), (ms, .inl (cs 0, 288, .inl (upd f (0 + a) (nI 0))))] H := hP
        replace hD : va_D A [(hm, .inr (12, [.ref ms, .ref mkp, .int (nI km), .ref mtr, .int (nI n), .int (nI k), .int (nI al), .int (nI be), .int ea, .int pr, .ref mas, .int nq, .int po, .int (nI en), .ref mso, .ref mon, .ref mot, .ref man, .int th, .int xd, .ref mst, .ref msm, .ref mtb, .ref mti, .ref mfr, .ref mbn, .ref mbs, .ref mde, .int sF, .int sN, .int sS, .int ig, .long xa, .long xb, .ref maa, .ref mab, .ref mba, .ref mbb])), (ms, .inl (cs 0, 288, .inl (upd f (0 + a) (nI 0))))] := hD
        refine lv_aload_n hx hb dX12_counts_150 rfl (lv_at hl 1 rfl) ?_
        refine xget C hP 0 rfl rfl zuX12 0 (by decide) zw5_213 rfl dX12_counts_151 ?_
        refine lv_bipush (v := nI 16) hx hb dX12_counts_154 (by decide) ?_
        refine lv_iload_n hx hb dX12_counts_156 rfl (lv_at hl 2 rfl) ?_
        refine lv_iadd hx hb dX12_counts_157 ?_
        refine lv_topi (nm_r (e' := nI (16 + a)) (nI_add _ _) ?_)
        refine lv_iconst (v := nI 1) hx hb dX12_counts_158 (by decide) ?_
        refine xiast C hP hD hS 1 rfl (16 + a) rfl (by omega) (by decide) dX12_counts_159 ?_
        clear hP hD hS
        try clear locs
        try clear H
        intro H locs hP hD hS
        replace hP : va_P D vwCl [(hm, .inr (12, [.ref ms, .ref mkp, .int (nI km), .ref mtr, .int (nI n), .int (nI k), .int (nI al), .int (nI be), .int ea, .int pr, .ref mas, .int nq, .int po, .int (nI en), .ref mso, .ref mon, .ref mot, .ref man, .int th, .int xd, .ref mst, .ref msm, .ref mtb, .ref mti, .ref mfr, .ref mbn, .ref mbs, .ref mde, .int sF, .int sN, .int sS, .int ig, .long xa, .long xb, .ref maa, .ref mab, .ref mba, .ref mbb])), (ms, .inl (cs 0, 288, .inl (upd (upd f (0 + a) (nI 0)) (16 + a) (nI 1))))] H := hP
        replace hD : va_D A [(hm, .inr (12, [.ref ms, .ref mkp, .int (nI km), .ref mtr, .int (nI n), .int (nI k), .int (nI al), .int (nI be), .int ea, .int pr, .ref mas, .int nq, .int po, .int (nI en), .ref mso, .ref mon, .ref mot, .ref man, .int th, .int xd, .ref mst, .ref msm, .ref mtb, .ref mti, .ref mfr, .ref mbn, .ref mbs, .ref mde, .int sF, .int sN, .int sS, .int ig, .long xa, .long xb, .ref maa, .ref mab, .ref mba, .ref mbb])), (ms, .inl (cs 0, 288, .inl (upd (upd f (0 + a) (nI 0)) (16 + a) (nI 1))))] := hD
        exact xretv C (upd (upd f (0 + a) (nI 0)) (16 + a) (nI 1)) (⟨(by rw [show cdI (nI 0) = 1 from by decide, cntU_f (by decide) (hpr.resolve_right c_1)]; exact hu.flk_f ha (s := 0) rfl c_2), (fun j q1 q2 q3 q4 q5 => by simp only [upd]; repeat (first | rfl | rw [if_neg q1] | rw [if_neg q2] | rw [if_neg q3] | rw [if_neg q4] | rw [if_neg q5])), (colP_hi (i := 16 + a) (colP_up hs (0 + a) colV_0) (nI 1) (by omega))⟩) hP hD hS (Nat.le_of_ble_eq_true rfl) (Nat.le_of_ble_eq_true rfl) dX12_counts_160
      · -- 124 f
        refine lv_aload_n hx hb dX12_counts_127 rfl (lv_at hl 1 rfl) ?_
        refine xget C hP 0 rfl rfl zuX12 0 (by decide) zw5_213 rfl dX12_counts_128 ?_
        refine lv_bipush (v := nI 16) hx hb dX12_counts_131 (by decide) ?_
        refine lv_iload_n hx hb dX12_counts_133 rfl (lv_at hl 2 rfl) ?_
        refine lv_iadd hx hb dX12_counts_134 ?_
        refine lv_topi (nm_r (e' := nI (16 + a)) (nI_add _ _) ?_)
        refine lv_dup2_11 hx hb dX12_counts_135 rfl rfl ?_
        refine xiald C hP 1 rfl (16 + a) rfl (by omega) (by decide) dX12_counts_136 ?_
        refine lv_iconst (v := nI 1) hx hb dX12_counts_137 (by decide) ?_
        refine lv_iadd hx hb dX12_counts_138 ?_
        refine xiast C hP hD hS 1 rfl (16 + a) rfl (by omega) (by decide) dX12_counts_139 ?_
        clear hP hD hS
        try clear locs
        try clear H
        intro H locs hP hD hS
        replace hP : va_P D vwCl [(hm, .inr (12, [.ref ms, .ref mkp, .int (nI km), .ref mtr, .int (nI n), .int (nI k), .int (nI al), .int (nI be), .int ea, .int pr, .ref mas, .int nq, .int po, .int (nI en), .ref mso, .ref mon, .ref mot, .ref man, .int th, .int xd, .ref mst, .ref msm, .ref mtb, .ref mti, .ref mfr, .ref mbn, .ref mbs, .ref mde, .int sF, .int sN, .int sS, .int ig, .long xa, .long xb, .ref maa, .ref mab, .ref mba, .ref mbb])), (ms, .inl (cs 0, 288, .inl (upd f (16 + a) ((f (16 + a)) + (nI 1)))))] H := hP
        replace hD : va_D A [(hm, .inr (12, [.ref ms, .ref mkp, .int (nI km), .ref mtr, .int (nI n), .int (nI k), .int (nI al), .int (nI be), .int ea, .int pr, .ref mas, .int nq, .int po, .int (nI en), .ref mso, .ref mon, .ref mot, .ref man, .int th, .int xd, .ref mst, .ref msm, .ref mtb, .ref mti, .ref mfr, .ref mbn, .ref mbs, .ref mde, .int sF, .int sN, .int sS, .int ig, .long xa, .long xb, .ref maa, .ref mab, .ref mba, .ref mbb])), (ms, .inl (cs 0, 288, .inl (upd f (16 + a) ((f (16 + a)) + (nI 1)))))] := hD
        refine lv_goto (tgt := 160) hx hb dX12_counts_140 (by decide) ?_
        exact xretv C (upd f (16 + a) ((f (16 + a)) + (nI 1))) (⟨(by rw [show cdI (nI 0) = 1 from by decide, cntU_f (by decide) (hpr.resolve_right c_1)]; exact hu.flk_t ha (s := 0) rfl (by decide) (by omega) c_2), (fun j q1 q2 q3 q4 q5 => by simp only [upd]; repeat (first | rfl | rw [if_neg q1] | rw [if_neg q2] | rw [if_neg q3] | rw [if_neg q4] | rw [if_neg q5])), (colP_hi (i := 16 + a) hs ((f (16 + a)) + (nI 1)) (by omega))⟩) hP hD hS (Nat.le_of_ble_eq_true rfl) (Nat.le_of_ble_eq_true rfl) dX12_counts_160
    · -- 20 f
      refine lv_bipush (v := nI 8) hx hb dX12_counts_23 (by decide) ?_
      refine lv_iload_n hx hb dX12_counts_25 rfl (lv_at hl 1 rfl) ?_
      refine lv_iadd hx hb dX12_counts_26 ?_
      refine lv_topi (nm_r (e' := nI (8 + a)) (nI_add _ _) ?_)
      refine lv_goto (tgt := 33) hx hb dX12_counts_27 (by decide) ?_
      refine lv_istore_n (lv' := [(3, .int (nI (8 + a))), (0, .ref hm), (1, .int (nI a)), (2, .int (nI 0))]) hx hb dX12_counts_33 rfl hl (by decide) rfl ?_
      clear hl
      try clear ls
      intro ls hl
      refine lv_aload_n hx hb dX12_counts_34 rfl (lv_at hl 1 rfl) ?_
      refine xget C hP 0 rfl rfl zuX12 9 (by decide) zw5_222 rfl dX12_counts_35 ?_
      refine lv_iconst (v := nI 2) hx hb dX12_counts_38 (by decide) ?_
      refine lv_icmp_ne (tgt := 117) hx hb dX12_counts_39 (by decide) (fun c => absurd c_1 c) (fun _ => ?_)
      refine lv_bipush (v := nI 24) hx hb dX12_counts_42 (by decide) ?_
      refine lv_bipush (v := nI 8) hx hb dX12_counts_44 (by decide) ?_
      refine lv_iload_n hx hb dX12_counts_46 rfl (lv_at hl 3 rfl) ?_
      refine lv_imul hx hb dX12_counts_47 ?_
      refine lv_topi (nm_r (e' := nI 0) (by decide) ?_)
      refine lv_iadd hx hb dX12_counts_48 ?_
      refine lv_topi (nm_r (e' := nI 24) (by decide) ?_)
      refine lv_iload_n hx hb dX12_counts_49 rfl (lv_at hl 2 rfl) ?_
      refine lv_iadd hx hb dX12_counts_50 ?_
      refine lv_topi (nm_r (e' := nI (24 + a)) (nI_add _ _) ?_)
      refine lv_istore (lv' := [(4, .int (nI (24 + a))), (3, .int (nI (8 + a))), (0, .ref hm), (1, .int (nI a)), (2, .int (nI 0))]) hx hb dX12_counts_51 hl (by decide) rfl ?_
      clear hl
      try clear ls
      intro ls hl
      refine lv_aload_n hx hb dX12_counts_53 rfl (lv_at hl 2 rfl) ?_
      refine xget C hP 0 rfl rfl zuX12 0 (by decide) zw5_213 rfl dX12_counts_54 ?_
      refine lv_iload hx hb dX12_counts_57 (lv_at hl 0 rfl) ?_
      refine xiald C hP 1 rfl (24 + a) rfl (by omega) (by decide) dX12_counts_59 ?_
      refine lv_sipush (v := nI 999) hx hb dX12_counts_60 (by decide) ?_
      refine lv_icmp_ge (tgt := 77) hx hb dX12_counts_63 (by decide) (fun c_3 => ?_) (fun c_3 => ?_)
      · -- 63 t
        have hb1 : rowU f a (bpU 1 u) := hu.bp_t (t := 0) (by decide) h3 c_3
        refine lv_aload_n hx hb dX12_counts_77 rfl (lv_at hl 2 rfl) ?_
        refine xget C hP 0 rfl rfl zuX12 0 (by decide) zw5_213 rfl dX12_counts_78 ?_
        refine lv_iload hx hb dX12_counts_81 (lv_at hl 0 rfl) ?_
        refine xiald C hP 1 rfl (24 + a) rfl (by omega) (by decide) dX12_counts_83 ?_
        refine lv_aload_n hx hb dX12_counts_84 rfl (lv_at hl 2 rfl) ?_
        refine xget C hP 0 rfl rfl zuX12 0 (by decide) zw5_213 rfl dX12_counts_85 ?_
        refine lv_bipush (v := nI 24) hx hb dX12_counts_88 (by decide) ?_
        refine lv_bipush (v := nI 8) hx hb dX12_counts_90 (by decide) ?_
        refine lv_aload_n hx hb dX12_counts_92 rfl (lv_at hl 2 rfl) ?_
        refine xget C hP 0 rfl rfl zuX12 0 (by decide) zw5_213 rfl dX12_counts_93 ?_
        refine lv_iconst (v := nI 0) hx hb dX12_counts_96 (by decide) ?_
        refine lv_iload_n hx hb dX12_counts_97 rfl (lv_at hl 3 rfl) ?_
        refine lv_iadd hx hb dX12_counts_98 ?_
        refine lv_topi (nm_r (e' := nI (0 + a)) (nI_add _ _) ?_)
        refine xiald C hP 1 rfl (0 + a) rfl (by omega) (by decide) dX12_counts_99 ?_
        obtain ⟨t_4, h_t_4, e_t_4⟩ := (col_nat (hs (0 + a) (by omega)) (by first | exact hna | (unfold upd; rw [if_neg (by omega)]; exact hna)))
        refine lv_topi (nm_r (e' := nI t_4) e_t_4 ?_)
        refine lv_imul hx hb dX12_counts_100 ?_
        refine lv_topi (nm_r (e' := nI (8 * t_4)) (pk_mul _ _) ?_)
        refine lv_iadd hx hb dX12_counts_101 ?_
        refine lv_topi (nm_r (e' := nI (24 + (8 * t_4))) (nI_add _ _) ?_)
        refine lv_iload_n hx hb dX12_counts_102 rfl (lv_at hl 3 rfl) ?_
        refine lv_iadd hx hb dX12_counts_103 ?_
        refine lv_topi (nm_r (e' := nI ((24 + (8 * t_4)) + a)) (nI_add _ _) ?_)
        refine xiald C hP 1 rfl ((24 + (8 * t_4)) + a) rfl (by omega) (by decide) dX12_counts_104 ?_
        refine lv_icmp_le (tgt := 117) hx hb dX12_counts_105 (by decide) (fun c_5 => ?_) (fun c_5 => ?_)
        · -- 105 t
          have hb2 : rowU f a (bcU 1 u) := hb1.bc_t (W := 1) (s := 0) rfl (by decide) h_t_4 (by rw [bpU_ne _ _ (by decide)]; omega) (bp_ok h3 h4).1 (bp_ok h3 h4).2 e_t_4 c_5
          refine lv_aload_n hx hb dX12_counts_117 rfl (lv_at hl 2 rfl) ?_
          refine xget C hP 0 rfl rfl zuX12 0 (by decide) zw5_213 rfl dX12_counts_118 ?_
          refine lv_iload_n hx hb dX12_counts_121 rfl (lv_at hl 1 rfl) ?_
          refine xiald C hP 1 rfl (8 + a) rfl (by omega) (by decide) dX12_counts_122 ?_
          refine lv_iload_n hx hb dX12_counts_123 rfl (lv_at hl 4 rfl) ?_
          refine lv_icmp_ne (tgt := 143) hx hb dX12_counts_124 (by decide) (fun c_6 => ?_) (fun c_6 => ?_)
          · -- 124 t
            refine lv_aload_n hx hb dX12_counts_143 rfl (lv_at hl 2 rfl) ?_
            refine xget C hP 0 rfl rfl zuX12 0 (by decide) zw5_213 rfl dX12_counts_144 ?_
            refine lv_iload_n hx hb dX12_counts_147 rfl (lv_at hl 1 rfl) ?_
            refine lv_iload_n hx hb dX12_counts_148 rfl (lv_at hl 4 rfl) ?_
            refine xiast C hP hD hS 1 rfl (8 + a) rfl (by omega) (by decide) dX12_counts_149 ?_
            clear hP hD hS
            try clear locs
            try clear H
            intro H locs hP hD hS
            replace hP : va_P D vwCl [(hm, .inr (12, [.ref ms, .ref mkp, .int (nI km), .ref mtr, .int (nI n), .int (nI k), .int (nI al), .int (nI be), .int ea, .int pr, .ref mas, .int nq, .int po, .int (nI en), .ref mso, .ref mon, .ref mot, .ref man, .int th, .int xd, .ref mst, .ref msm, .ref mtb, .ref mti, .ref mfr, .ref mbn, .ref mbs, .ref mde, .int sF, .int sN, .int sS, .int ig, .long xa, .long xb, .ref maa, .ref mab, .ref mba, .ref mbb])), (ms, .inl (cs 0, 288, .inl (upd f (8 + a) (nI 0))))] H := hP
            replace hD : va_D A [(hm, .inr (12, [.ref ms, .ref mkp, .int (nI km), .ref mtr, .int (nI n), .int (nI k), .int (nI al), .int (nI be), .int ea, .int pr, .ref mas, .int nq, .int po, .int (nI en), .ref mso, .ref mon, .ref mot, .ref man, .int th, .int xd, .ref mst, .ref msm, .ref mtb, .ref mti, .ref mfr, .ref mbn, .ref mbs, .ref mde, .int sF, .int sN, .int sS, .int ig, .long xa, .long xb, .ref maa, .ref mab, .ref mba, .ref mbb])), (ms, .inl (cs 0, 288, .inl (upd f (8 + a) (nI 0))))] := hD
            refine lv_aload_n hx hb dX12_counts_150 rfl (lv_at hl 2 rfl) ?_
            refine xget C hP 0 rfl rfl zuX12 0 (by decide) zw5_213 rfl dX12_counts_151 ?_
            refine lv_bipush (v := nI 16) hx hb dX12_counts_154 (by decide) ?_
            refine lv_iload_n hx hb dX12_counts_156 rfl (lv_at hl 3 rfl) ?_
            refine lv_iadd hx hb dX12_counts_157 ?_
            refine lv_topi (nm_r (e' := nI (16 + a)) (nI_add _ _) ?_)
            refine lv_iconst (v := nI 1) hx hb dX12_counts_158 (by decide) ?_
            refine xiast C hP hD hS 1 rfl (16 + a) rfl (by omega) (by decide) dX12_counts_159 ?_
            clear hP hD hS
            try clear locs
            try clear H
            intro H locs hP hD hS
            replace hP : va_P D vwCl [(hm, .inr (12, [.ref ms, .ref mkp, .int (nI km), .ref mtr, .int (nI n), .int (nI k), .int (nI al), .int (nI be), .int ea, .int pr, .ref mas, .int nq, .int po, .int (nI en), .ref mso, .ref mon, .ref mot, .ref man, .int th, .int xd, .ref mst, .ref msm, .ref mtb, .ref mti, .ref mfr, .ref mbn, .ref mbs, .ref mde, .int sF, .int sN, .int sS, .int ig, .long xa, .long xb, .ref maa, .ref mab, .ref mba, .ref mbb])), (ms, .inl (cs 0, 288, .inl (upd (upd f (8 + a) (nI 0)) (16 + a) (nI 1))))] H := hP
            replace hD : va_D A [(hm, .inr (12, [.ref ms, .ref mkp, .int (nI km), .ref mtr, .int (nI n), .int (nI k), .int (nI al), .int (nI be), .int ea, .int pr, .ref mas, .int nq, .int po, .int (nI en), .ref mso, .ref mon, .ref mot, .ref man, .int th, .int xd, .ref mst, .ref msm, .ref mtb, .ref mti, .ref mfr, .ref mbn, .ref mbs, .ref mde, .int sF, .int sN, .int sS, .int ig, .long xa, .long xb, .ref maa, .ref mab, .ref mba, .ref mbb])), (ms, .inl (cs 0, 288, .inl (upd (upd f (8 + a) (nI 0)) (16 + a) (nI 1))))] := hD
            exact xretv C (upd (upd f (8 + a) (nI 0)) (16 + a) (nI 1)) (⟨(by rw [show cdI (nI 0) = 1 from by decide, cntU_b (by decide) c_1]; exact hb2.bal_f ha (s := 0) rfl c_6), (fun j q1 q2 q3 q4 q5 => by simp only [upd]; repeat (first | rfl | rw [if_neg q1] | rw [if_neg q2] | rw [if_neg q3] | rw [if_neg q4] | rw [if_neg q5])), (colP_hi (i := 16 + a) (colP_hi (i := 8 + a) hs (nI 0) (by omega)) (nI 1) (by omega))⟩) hP hD hS (Nat.le_of_ble_eq_true rfl) (Nat.le_of_ble_eq_true rfl) dX12_counts_160
          · -- 124 f
            refine lv_aload_n hx hb dX12_counts_127 rfl (lv_at hl 2 rfl) ?_
            refine xget C hP 0 rfl rfl zuX12 0 (by decide) zw5_213 rfl dX12_counts_128 ?_
            refine lv_bipush (v := nI 16) hx hb dX12_counts_131 (by decide) ?_
            refine lv_iload_n hx hb dX12_counts_133 rfl (lv_at hl 3 rfl) ?_
            refine lv_iadd hx hb dX12_counts_134 ?_
            refine lv_topi (nm_r (e' := nI (16 + a)) (nI_add _ _) ?_)
            refine lv_dup2_11 hx hb dX12_counts_135 rfl rfl ?_
            refine xiald C hP 1 rfl (16 + a) rfl (by omega) (by decide) dX12_counts_136 ?_
            refine lv_iconst (v := nI 1) hx hb dX12_counts_137 (by decide) ?_
            refine lv_iadd hx hb dX12_counts_138 ?_
            refine xiast C hP hD hS 1 rfl (16 + a) rfl (by omega) (by decide) dX12_counts_139 ?_
            clear hP hD hS
            try clear locs
            try clear H
            intro H locs hP hD hS
            replace hP : va_P D vwCl [(hm, .inr (12, [.ref ms, .ref mkp, .int (nI km), .ref mtr, .int (nI n), .int (nI k), .int (nI al), .int (nI be), .int ea, .int pr, .ref mas, .int nq, .int po, .int (nI en), .ref mso, .ref mon, .ref mot, .ref man, .int th, .int xd, .ref mst, .ref msm, .ref mtb, .ref mti, .ref mfr, .ref mbn, .ref mbs, .ref mde, .int sF, .int sN, .int sS, .int ig, .long xa, .long xb, .ref maa, .ref mab, .ref mba, .ref mbb])), (ms, .inl (cs 0, 288, .inl (upd f (16 + a) ((f (16 + a)) + (nI 1)))))] H := hP
            replace hD : va_D A [(hm, .inr (12, [.ref ms, .ref mkp, .int (nI km), .ref mtr, .int (nI n), .int (nI k), .int (nI al), .int (nI be), .int ea, .int pr, .ref mas, .int nq, .int po, .int (nI en), .ref mso, .ref mon, .ref mot, .ref man, .int th, .int xd, .ref mst, .ref msm, .ref mtb, .ref mti, .ref mfr, .ref mbn, .ref mbs, .ref mde, .int sF, .int sN, .int sS, .int ig, .long xa, .long xb, .ref maa, .ref mab, .ref mba, .ref mbb])), (ms, .inl (cs 0, 288, .inl (upd f (16 + a) ((f (16 + a)) + (nI 1)))))] := hD
            refine lv_goto (tgt := 160) hx hb dX12_counts_140 (by decide) ?_
            exact xretv C (upd f (16 + a) ((f (16 + a)) + (nI 1))) (⟨(by rw [show cdI (nI 0) = 1 from by decide, cntU_b (by decide) c_1]; exact hb2.bal_t ha (s := 0) rfl (by decide) (by rw [bcU_ne _ _ (by decide) (by decide)]; exact h1) c_6), (fun j q1 q2 q3 q4 q5 => by simp only [upd]; repeat (first | rfl | rw [if_neg q1] | rw [if_neg q2] | rw [if_neg q3] | rw [if_neg q4] | rw [if_neg q5])), (colP_hi (i := 16 + a) hs ((f (16 + a)) + (nI 1)) (by omega))⟩) hP hD hS (Nat.le_of_ble_eq_true rfl) (Nat.le_of_ble_eq_true rfl) dX12_counts_160
        · -- 105 f
          refine lv_aload_n hx hb dX12_counts_108 rfl (lv_at hl 2 rfl) ?_
          refine xget C hP 0 rfl rfl zuX12 0 (by decide) zw5_213 rfl dX12_counts_109 ?_
          refine lv_iconst (v := nI 0) hx hb dX12_counts_112 (by decide) ?_
          refine lv_iload_n hx hb dX12_counts_113 rfl (lv_at hl 3 rfl) ?_
          refine lv_iadd hx hb dX12_counts_114 ?_
          refine lv_topi (nm_r (e' := nI (0 + a)) (nI_add _ _) ?_)
          refine lv_iload_n hx hb dX12_counts_115 rfl (lv_at hl 4 rfl) ?_
          refine xiast C hP hD hS 1 rfl (0 + a) rfl (by omega) (by decide) dX12_counts_116 ?_
          clear hP hD hS
          try clear locs
          try clear H
          intro H locs hP hD hS
          replace hP : va_P D vwCl [(hm, .inr (12, [.ref ms, .ref mkp, .int (nI km), .ref mtr, .int (nI n), .int (nI k), .int (nI al), .int (nI be), .int ea, .int pr, .ref mas, .int nq, .int po, .int (nI en), .ref mso, .ref mon, .ref mot, .ref man, .int th, .int xd, .ref mst, .ref msm, .ref mtb, .ref mti, .ref mfr, .ref mbn, .ref mbs, .ref mde, .int sF, .int sN, .int sS, .int ig, .long xa, .long xb, .ref maa, .ref mab, .ref mba, .ref mbb])), (ms, .inl (cs 0, 288, .inl (upd f (0 + a) (nI 0))))] H := hP
          replace hD : va_D A [(hm, .inr (12, [.ref ms, .ref mkp, .int (nI km), .ref mtr, .int (nI n), .int (nI k), .int (nI al), .int (nI be), .int ea, .int pr, .ref mas, .int nq, .int po, .int (nI en), .ref mso, .ref mon, .ref mot, .ref man, .int th, .int xd, .ref mst, .ref msm, .ref mtb, .ref mti, .ref mfr, .ref mbn, .ref mbs, .ref mde, .int sF, .int sN, .int sS, .int ig, .long xa, .long xb, .ref maa, .ref mab, .ref mba, .ref mbb])), (ms, .inl (cs 0, 288, .inl (upd f (0 + a) (nI 0))))] := hD
          have hb2 : rowU (upd f (0 + a) (nI 0)) a (bcU 1 u) := hb1.bc_f ha (W := 1) (s := 0) rfl (by decide) h_t_4 (by rw [bpU_ne _ _ (by decide)]; omega) (bp_ok h3 h4).1 (bp_ok h3 h4).2 e_t_4 c_5
          refine lv_aload_n hx hb dX12_counts_117 rfl (lv_at hl 2 rfl) ?_
          refine xget C hP 0 rfl rfl zuX12 0 (by decide) zw5_213 rfl dX12_counts_118 ?_
          refine lv_iload_n hx hb dX12_counts_121 rfl (lv_at hl 1 rfl) ?_
          refine xiald C hP 1 rfl (8 + a) rfl (by omega) (by decide) dX12_counts_122 ?_
          refine lv_iload_n hx hb dX12_counts_123 rfl (lv_at hl 4 rfl) ?_
          refine lv_icmp_ne (tgt := 143) hx hb dX12_counts_124 (by decide) (fun c_7 => ?_) (fun c_7 => ?_)
          · -- 124 t
            refine lv_aload_n hx hb dX12_counts_143 rfl (lv_at hl 2 rfl) ?_
            refine xget C hP 0 rfl rfl zuX12 0 (by decide) zw5_213 rfl dX12_counts_144 ?_
            refine lv_iload_n hx hb dX12_counts_147 rfl (lv_at hl 1 rfl) ?_
            refine lv_iload_n hx hb dX12_counts_148 rfl (lv_at hl 4 rfl) ?_
            refine xiast C hP hD hS 1 rfl (8 + a) rfl (by omega) (by decide) dX12_counts_149 ?_
            clear hP hD hS
            try clear locs
            try clear H
            intro H locs hP hD hS
            replace hP : va_P D vwCl [(hm, .inr (12, [.ref ms, .ref mkp, .int (nI km), .ref mtr, .int (nI n), .int (nI k), .int (nI al), .int (nI be), .int ea, .int pr, .ref mas, .int nq, .int po, .int (nI en), .ref mso, .ref mon, .ref mot, .ref man, .int th, .int xd, .ref mst, .ref msm, .ref mtb, .ref mti, .ref mfr, .ref mbn, .ref mbs, .ref mde, .int sF, .int sN, .int sS, .int ig, .long xa, .long xb, .ref maa, .ref mab, .ref mba, .ref mbb])), (ms, .inl (cs 0, 288, .inl (upd (upd f (0 + a) (nI 0)) (8 + a) (nI 0))))] H := hP
            replace hD : va_D A [(hm, .inr (12, [.ref ms, .ref mkp, .int (nI km), .ref mtr, .int (nI n), .int (nI k), .int (nI al), .int (nI be), .int ea, .int pr, .ref mas, .int nq, .int po, .int (nI en), .ref mso, .ref mon, .ref mot, .ref man, .int th, .int xd, .ref mst, .ref msm, .ref mtb, .ref mti, .ref mfr, .ref mbn, .ref mbs, .ref mde, .int sF, .int sN, .int sS, .int ig, .long xa, .long xb, .ref maa, .ref mab, .ref mba, .ref mbb])), (ms, .inl (cs 0, 288, .inl (upd (upd f (0 + a) (nI 0)) (8 + a) (nI 0))))] := hD
            refine lv_aload_n hx hb dX12_counts_150 rfl (lv_at hl 2 rfl) ?_
            refine xget C hP 0 rfl rfl zuX12 0 (by decide) zw5_213 rfl dX12_counts_151 ?_
            refine lv_bipush (v := nI 16) hx hb dX12_counts_154 (by decide) ?_
            refine lv_iload_n hx hb dX12_counts_156 rfl (lv_at hl 3 rfl) ?_
            refine lv_iadd hx hb dX12_counts_157 ?_
            refine lv_topi (nm_r (e' := nI (16 + a)) (nI_add _ _) ?_)
            refine lv_iconst (v := nI 1) hx hb dX12_counts_158 (by decide) ?_
            refine xiast C hP hD hS 1 rfl (16 + a) rfl (by omega) (by decide) dX12_counts_159 ?_
            clear hP hD hS
            try clear locs
            try clear H
            intro H locs hP hD hS
            replace hP : va_P D vwCl [(hm, .inr (12, [.ref ms, .ref mkp, .int (nI km), .ref mtr, .int (nI n), .int (nI k), .int (nI al), .int (nI be), .int ea, .int pr, .ref mas, .int nq, .int po, .int (nI en), .ref mso, .ref mon, .ref mot, .ref man, .int th, .int xd, .ref mst, .ref msm, .ref mtb, .ref mti, .ref mfr, .ref mbn, .ref mbs, .ref mde, .int sF, .int sN, .int sS, .int ig, .long xa, .long xb, .ref maa, .ref mab, .ref mba, .ref mbb])), (ms, .inl (cs 0, 288, .inl (upd (upd (upd f (0 + a) (nI 0)) (8 + a) (nI 0)) (16 + a) (nI 1))))] H := hP
            replace hD : va_D A [(hm, .inr (12, [.ref ms, .ref mkp, .int (nI km), .ref mtr, .int (nI n), .int (nI k), .int (nI al), .int (nI be), .int ea, .int pr, .ref mas, .int nq, .int po, .int (nI en), .ref mso, .ref mon, .ref mot, .ref man, .int th, .int xd, .ref mst, .ref msm, .ref mtb, .ref mti, .ref mfr, .ref mbn, .ref mbs, .ref mde, .int sF, .int sN, .int sS, .int ig, .long xa, .long xb, .ref maa, .ref mab, .ref mba, .ref mbb])), (ms, .inl (cs 0, 288, .inl (upd (upd (upd f (0 + a) (nI 0)) (8 + a) (nI 0)) (16 + a) (nI 1))))] := hD
            exact xretv C (upd (upd (upd f (0 + a) (nI 0)) (8 + a) (nI 0)) (16 + a) (nI 1)) (⟨(by rw [show cdI (nI 0) = 1 from by decide, cntU_b (by decide) c_1]; exact hb2.bal_f ha (s := 0) rfl c_7), (fun j q1 q2 q3 q4 q5 => by simp only [upd]; repeat (first | rfl | rw [if_neg q1] | rw [if_neg q2] | rw [if_neg q3] | rw [if_neg q4] | rw [if_neg q5])), (colP_hi (i := 16 + a) (colP_hi (i := 8 + a) (colP_up hs (0 + a) colV_0) (nI 0) (by omega)) (nI 1) (by omega))⟩) hP hD hS (Nat.le_of_ble_eq_true rfl) (Nat.le_of_ble_eq_true rfl) dX12_counts_160
          · -- 124 f
            refine lv_aload_n hx hb dX12_counts_127 rfl (lv_at hl 2 rfl) ?_
            refine xget C hP 0 rfl rfl zuX12 0 (by decide) zw5_213 rfl dX12_counts_128 ?_
            refine lv_bipush (v := nI 16) hx hb dX12_counts_131 (by decide) ?_
            refine lv_iload_n hx hb dX12_counts_133 rfl (lv_at hl 3 rfl) ?_
            refine lv_iadd hx hb dX12_counts_134 ?_
            refine lv_topi (nm_r (e' := nI (16 + a)) (nI_add _ _) ?_)
            refine lv_dup2_11 hx hb dX12_counts_135 rfl rfl ?_
            refine xiald C hP 1 rfl (16 + a) rfl (by omega) (by decide) dX12_counts_136 ?_
            refine lv_iconst (v := nI 1) hx hb dX12_counts_137 (by decide) ?_
            refine lv_iadd hx hb dX12_counts_138 ?_
            refine xiast C hP hD hS 1 rfl (16 + a) rfl (by omega) (by decide) dX12_counts_139 ?_
            clear hP hD hS
            try clear locs
            try clear H
            intro H locs hP hD hS
            replace hP : va_P D vwCl [(hm, .inr (12, [.ref ms, .ref mkp, .int (nI km), .ref mtr, .int (nI n), .int (nI k), .int (nI al), .int (nI be), .int ea, .int pr, .ref mas, .int nq, .int po, .int (nI en), .ref mso, .ref mon, .ref mot, .ref man, .int th, .int xd, .ref mst, .ref msm, .ref mtb, .ref mti, .ref mfr, .ref mbn, .ref mbs, .ref mde, .int sF, .int sN, .int sS, .int ig, .long xa, .long xb, .ref maa, .ref mab, .ref mba, .ref mbb])), (ms, .inl (cs 0, 288, .inl (upd (upd f (0 + a) (nI 0)) (16 + a) (((upd f (0 + a) (nI 0)) (16 + a)) + (nI 1)))))] H := hP
            replace hD : va_D A [(hm, .inr (12, [.ref ms, .ref mkp, .int (nI km), .ref mtr, .int (nI n), .int (nI k), .int (nI al), .int (nI be), .int ea, .int pr, .ref mas, .int nq, .int po, .int (nI en), .ref mso, .ref mon, .ref mot, .ref man, .int th, .int xd, .ref mst, .ref msm, .ref mtb, .ref mti, .ref mfr, .ref mbn, .ref mbs, .ref mde, .int sF, .int sN, .int sS, .int ig, .long xa, .long xb, .ref maa, .ref mab, .ref mba, .ref mbb])), (ms, .inl (cs 0, 288, .inl (upd (upd f (0 + a) (nI 0)) (16 + a) (((upd f (0 + a) (nI 0)) (16 + a)) + (nI 1)))))] := hD
            refine lv_goto (tgt := 160) hx hb dX12_counts_140 (by decide) ?_
            exact xretv C (upd (upd f (0 + a) (nI 0)) (16 + a) (((upd f (0 + a) (nI 0)) (16 + a)) + (nI 1))) (⟨(by rw [show cdI (nI 0) = 1 from by decide, cntU_b (by decide) c_1]; exact hb2.bal_t ha (s := 0) rfl (by decide) (by rw [bcU_ne _ _ (by decide) (by decide)]; exact h1) c_7), (fun j q1 q2 q3 q4 q5 => by simp only [upd]; repeat (first | rfl | rw [if_neg q1] | rw [if_neg q2] | rw [if_neg q3] | rw [if_neg q4] | rw [if_neg q5])), (colP_hi (i := 16 + a) (colP_up hs (0 + a) colV_0) (((upd f (0 + a) (nI 0)) (16 + a)) + (nI 1)) (by omega))⟩) hP hD hS (Nat.le_of_ble_eq_true rfl) (Nat.le_of_ble_eq_true rfl) dX12_counts_160
      · -- 63 f
        refine lv_aload_n hx hb dX12_counts_66 rfl (lv_at hl 2 rfl) ?_
        refine xget C hP 0 rfl rfl zuX12 0 (by decide) zw5_213 rfl dX12_counts_67 ?_
        refine lv_iload hx hb dX12_counts_70 (lv_at hl 0 rfl) ?_
        refine lv_dup2_11 hx hb dX12_counts_72 rfl rfl ?_
        refine xiald C hP 1 rfl (24 + a) rfl (by omega) (by decide) dX12_counts_73 ?_
        refine lv_iconst (v := nI 1) hx hb dX12_counts_74 (by decide) ?_
        refine lv_iadd hx hb dX12_counts_75 ?_
        refine xiast C hP hD hS 1 rfl (24 + a) rfl (by omega) (by decide) dX12_counts_76 ?_
        clear hP hD hS
        try clear locs
        try clear H
        intro H locs hP hD hS
        replace hP : va_P D vwCl [(hm, .inr (12, [.ref ms, .ref mkp, .int (nI km), .ref mtr, .int (nI n), .int (nI k), .int (nI al), .int (nI be), .int ea, .int pr, .ref mas, .int nq, .int po, .int (nI en), .ref mso, .ref mon, .ref mot, .ref man, .int th, .int xd, .ref mst, .ref msm, .ref mtb, .ref mti, .ref mfr, .ref mbn, .ref mbs, .ref mde, .int sF, .int sN, .int sS, .int ig, .long xa, .long xb, .ref maa, .ref mab, .ref mba, .ref mbb])), (ms, .inl (cs 0, 288, .inl (upd f (24 + a) ((f (24 + a)) + (nI 1)))))] H := hP
        replace hD : va_D A [(hm, .inr (12, [.ref ms, .ref mkp, .int (nI km), .ref mtr, .int (nI n), .int (nI k), .int (nI al), .int (nI be), .int ea, .int pr, .ref mas, .int nq, .int po, .int (nI en), .ref mso, .ref mon, .ref mot, .ref man, .int th, .int xd, .ref mst, .ref msm, .ref mtb, .ref mti, .ref mfr, .ref mbn, .ref mbs, .ref mde, .int sF, .int sN, .int sS, .int ig, .long xa, .long xb, .ref maa, .ref mab, .ref mba, .ref mbb])), (ms, .inl (cs 0, 288, .inl (upd f (24 + a) ((f (24 + a)) + (nI 1)))))] := hD
        have hb1 : rowU (upd f (24 + a) ((f (24 + a)) + (nI 1))) a (bpU 1 u) := hu.bp_f ha (t := 0) (by decide) h3 c_3
        refine lv_aload_n hx hb dX12_counts_77 rfl (lv_at hl 2 rfl) ?_
        refine xget C hP 0 rfl rfl zuX12 0 (by decide) zw5_213 rfl dX12_counts_78 ?_
        refine lv_iload hx hb dX12_counts_81 (lv_at hl 0 rfl) ?_
        refine xiald C hP 1 rfl (24 + a) rfl (by omega) (by decide) dX12_counts_83 ?_
        refine lv_aload_n hx hb dX12_counts_84 rfl (lv_at hl 2 rfl) ?_
        refine xget C hP 0 rfl rfl zuX12 0 (by decide) zw5_213 rfl dX12_counts_85 ?_
        refine lv_bipush (v := nI 24) hx hb dX12_counts_88 (by decide) ?_
        refine lv_bipush (v := nI 8) hx hb dX12_counts_90 (by decide) ?_
        refine lv_aload_n hx hb dX12_counts_92 rfl (lv_at hl 2 rfl) ?_
        refine xget C hP 0 rfl rfl zuX12 0 (by decide) zw5_213 rfl dX12_counts_93 ?_
        refine lv_iconst (v := nI 0) hx hb dX12_counts_96 (by decide) ?_
        refine lv_iload_n hx hb dX12_counts_97 rfl (lv_at hl 3 rfl) ?_
        refine lv_iadd hx hb dX12_counts_98 ?_
        refine lv_topi (nm_r (e' := nI (0 + a)) (nI_add _ _) ?_)
        refine xiald C hP 1 rfl (0 + a) rfl (by omega) (by decide) dX12_counts_99 ?_
        obtain ⟨t_8, h_t_8, e_t_8⟩ := (col_nat ((colP_hi (i := 24 + a) hs ((f (24 + a)) + (nI 1)) (by omega)) (0 + a) (by omega)) (by first | exact hna | (unfold upd; rw [if_neg (by omega)]; exact hna)))
        refine lv_topi (nm_r (e' := nI t_8) e_t_8 ?_)
        refine lv_imul hx hb dX12_counts_100 ?_
        refine lv_topi (nm_r (e' := nI (8 * t_8)) (pk_mul _ _) ?_)
        refine lv_iadd hx hb dX12_counts_101 ?_
        refine lv_topi (nm_r (e' := nI (24 + (8 * t_8))) (nI_add _ _) ?_)
        refine lv_iload_n hx hb dX12_counts_102 rfl (lv_at hl 3 rfl) ?_
        refine lv_iadd hx hb dX12_counts_103 ?_
        refine lv_topi (nm_r (e' := nI ((24 + (8 * t_8)) + a)) (nI_add _ _) ?_)
        refine xiald C hP 1 rfl ((24 + (8 * t_8)) + a) rfl (by omega) (by decide) dX12_counts_104 ?_
        refine lv_icmp_le (tgt := 117) hx hb dX12_counts_105 (by decide) (fun c_9 => ?_) (fun c_9 => ?_)
        · -- 105 t
          have hb2 : rowU (upd f (24 + a) ((f (24 + a)) + (nI 1))) a (bcU 1 u) := hb1.bc_t (W := 1) (s := 0) rfl (by decide) h_t_8 (by rw [bpU_ne _ _ (by decide)]; omega) (bp_ok h3 h4).1 (bp_ok h3 h4).2 e_t_8 c_9
          refine lv_aload_n hx hb dX12_counts_117 rfl (lv_at hl 2 rfl) ?_
          refine xget C hP 0 rfl rfl zuX12 0 (by decide) zw5_213 rfl dX12_counts_118 ?_
          refine lv_iload_n hx hb dX12_counts_121 rfl (lv_at hl 1 rfl) ?_
          refine xiald C hP 1 rfl (8 + a) rfl (by omega) (by decide) dX12_counts_122 ?_
          refine lv_iload_n hx hb dX12_counts_123 rfl (lv_at hl 4 rfl) ?_
          refine lv_icmp_ne (tgt := 143) hx hb dX12_counts_124 (by decide) (fun c_10 => ?_) (fun c_10 => ?_)
          · -- 124 t
            refine lv_aload_n hx hb dX12_counts_143 rfl (lv_at hl 2 rfl) ?_
            refine xget C hP 0 rfl rfl zuX12 0 (by decide) zw5_213 rfl dX12_counts_144 ?_
            refine lv_iload_n hx hb dX12_counts_147 rfl (lv_at hl 1 rfl) ?_
            refine lv_iload_n hx hb dX12_counts_148 rfl (lv_at hl 4 rfl) ?_
            refine xiast C hP hD hS 1 rfl (8 + a) rfl (by omega) (by decide) dX12_counts_149 ?_
            clear hP hD hS
            try clear locs
            try clear H
            intro H locs hP hD hS
            replace hP : va_P D vwCl [(hm, .inr (12, [.ref ms, .ref mkp, .int (nI km), .ref mtr, .int (nI n), .int (nI k), .int (nI al), .int (nI be), .int ea, .int pr, .ref mas, .int nq, .int po, .int (nI en), .ref mso, .ref mon, .ref mot, .ref man, .int th, .int xd, .ref mst, .ref msm, .ref mtb, .ref mti, .ref mfr, .ref mbn, .ref mbs, .ref mde, .int sF, .int sN, .int sS, .int ig, .long xa, .long xb, .ref maa, .ref mab, .ref mba, .ref mbb])), (ms, .inl (cs 0, 288, .inl (upd (upd f (24 + a) ((f (24 + a)) + (nI 1))) (8 + a) (nI 0))))] H := hP
            replace hD : va_D A [(hm, .inr (12, [.ref ms, .ref mkp, .int (nI km), .ref mtr, .int (nI n), .int (nI k), .int (nI al), .int (nI be), .int ea, .int pr, .ref mas, .int nq, .int po, .int (nI en), .ref mso, .ref mon, .ref mot, .ref man, .int th, .int xd, .ref mst, .ref msm, .ref mtb, .ref mti, .ref mfr, .ref mbn, .ref mbs, .ref mde, .int sF, .int sN, .int sS, .int ig, .long xa, .long xb, .ref maa, .ref mab, .ref mba, .ref mbb])), (ms, .inl (cs 0, 288, .inl (upd (upd f (24 + a) ((f (24 + a)) + (nI 1))) (8 + a) (nI 0))))] := hD
            refine lv_aload_n hx hb dX12_counts_150 rfl (lv_at hl 2 rfl) ?_
            refine xget C hP 0 rfl rfl zuX12 0 (by decide) zw5_213 rfl dX12_counts_151 ?_
            refine lv_bipush (v := nI 16) hx hb dX12_counts_154 (by decide) ?_
            refine lv_iload_n hx hb dX12_counts_156 rfl (lv_at hl 3 rfl) ?_
            refine lv_iadd hx hb dX12_counts_157 ?_
            refine lv_topi (nm_r (e' := nI (16 + a)) (nI_add _ _) ?_)
            refine lv_iconst (v := nI 1) hx hb dX12_counts_158 (by decide) ?_
            refine xiast C hP hD hS 1 rfl (16 + a) rfl (by omega) (by decide) dX12_counts_159 ?_
            clear hP hD hS
            try clear locs
            try clear H
            intro H locs hP hD hS
            replace hP : va_P D vwCl [(hm, .inr (12, [.ref ms, .ref mkp, .int (nI km), .ref mtr, .int (nI n), .int (nI k), .int (nI al), .int (nI be), .int ea, .int pr, .ref mas, .int nq, .int po, .int (nI en), .ref mso, .ref mon, .ref mot, .ref man, .int th, .int xd, .ref mst, .ref msm, .ref mtb, .ref mti, .ref mfr, .ref mbn, .ref mbs, .ref mde, .int sF, .int sN, .int sS, .int ig, .long xa, .long xb, .ref maa, .ref mab, .ref mba, .ref mbb])), (ms, .inl (cs 0, 288, .inl (upd (upd (upd f (24 + a) ((f (24 + a)) + (nI 1))) (8 + a) (nI 0)) (16 + a) (nI 1))))] H := hP
            replace hD : va_D A [(hm, .inr (12, [.ref ms, .ref mkp, .int (nI km), .ref mtr, .int (nI n), .int (nI k), .int (nI al), .int (nI be), .int ea, .int pr, .ref mas, .int nq, .int po, .int (nI en), .ref mso, .ref mon, .ref mot, .ref man, .int th, .int xd, .ref mst, .ref msm, .ref mtb, .ref mti, .ref mfr, .ref mbn, .ref mbs, .ref mde, .int sF, .int sN, .int sS, .int ig, .long xa, .long xb, .ref maa, .ref mab, .ref mba, .ref mbb])), (ms, .inl (cs 0, 288, .inl (upd (upd (upd f (24 + a) ((f (24 + a)) + (nI 1))) (8 + a) (nI 0)) (16 + a) (nI 1))))] := hD
            exact xretv C (upd (upd (upd f (24 + a) ((f (24 + a)) + (nI 1))) (8 + a) (nI 0)) (16 + a) (nI 1)) (⟨(by rw [show cdI (nI 0) = 1 from by decide, cntU_b (by decide) c_1]; exact hb2.bal_f ha (s := 0) rfl c_10), (fun j q1 q2 q3 q4 q5 => by simp only [upd]; repeat (first | rfl | rw [if_neg q1] | rw [if_neg q2] | rw [if_neg q3] | rw [if_neg q4] | rw [if_neg q5])), (colP_hi (i := 16 + a) (colP_hi (i := 8 + a) (colP_hi (i := 24 + a) hs ((f (24 + a)) + (nI 1)) (by omega)) (nI 0) (by omega)) (nI 1) (by omega))⟩) hP hD hS (Nat.le_of_ble_eq_true rfl) (Nat.le_of_ble_eq_true rfl) dX12_counts_160
          · -- 124 f
            refine lv_aload_n hx hb dX12_counts_127 rfl (lv_at hl 2 rfl) ?_
            refine xget C hP 0 rfl rfl zuX12 0 (by decide) zw5_213 rfl dX12_counts_128 ?_
            refine lv_bipush (v := nI 16) hx hb dX12_counts_131 (by decide) ?_
            refine lv_iload_n hx hb dX12_counts_133 rfl (lv_at hl 3 rfl) ?_
            refine lv_iadd hx hb dX12_counts_134 ?_
            refine lv_topi (nm_r (e' := nI (16 + a)) (nI_add _ _) ?_)
            refine lv_dup2_11 hx hb dX12_counts_135 rfl rfl ?_
            refine xiald C hP 1 rfl (16 + a) rfl (by omega) (by decide) dX12_counts_136 ?_
            refine lv_iconst (v := nI 1) hx hb dX12_counts_137 (by decide) ?_
            refine lv_iadd hx hb dX12_counts_138 ?_
            refine xiast C hP hD hS 1 rfl (16 + a) rfl (by omega) (by decide) dX12_counts_139 ?_
            clear hP hD hS
            try clear locs
            try clear H
            intro H locs hP hD hS
            replace hP : va_P D vwCl [(hm, .inr (12, [.ref ms, .ref mkp, .int (nI km), .ref mtr, .int (nI n), .int (nI k), .int (nI al), .int (nI be), .int ea, .int pr, .ref mas, .int nq, .int po, .int (nI en), .ref mso, .ref mon, .ref mot, .ref man, .int th, .int xd, .ref mst, .ref msm, .ref mtb, .ref mti, .ref mfr, .ref mbn, .ref mbs, .ref mde, .int sF, .int sN, .int sS, .int ig, .long xa, .long xb, .ref maa, .ref mab, .ref mba, .ref mbb])), (ms, .inl (cs 0, 288, .inl (upd (upd f (24 + a) ((f (24 + a)) + (nI 1))) (16 + a) (((upd f (24 + a) ((f (24 + a)) + (nI 1))) (16 + a)) + (nI 1)))))] H := hP
            replace hD : va_D A [(hm, .inr (12, [.ref ms, .ref mkp, .int (nI km), .ref mtr, .int (nI n), .int (nI k), .int (nI al), .int (nI be), .int ea, .int pr, .ref mas, .int nq, .int po, .int (nI en), .ref mso, .ref mon, .ref mot, .ref man, .int th, .int xd, .ref mst, .ref msm, .ref mtb, .ref mti, .ref mfr, .ref mbn, .ref mbs, .ref mde, .int sF, .int sN, .int sS, .int ig, .long xa, .long xb, .ref maa, .ref mab, .ref mba, .ref mbb])), (ms, .inl (cs 0, 288, .inl (upd (upd f (24 + a) ((f (24 + a)) + (nI 1))) (16 + a) (((upd f (24 + a) ((f (24 + a)) + (nI 1))) (16 + a)) + (nI 1)))))] := hD
            refine lv_goto (tgt := 160) hx hb dX12_counts_140 (by decide) ?_
            exact xretv C (upd (upd f (24 + a) ((f (24 + a)) + (nI 1))) (16 + a) (((upd f (24 + a) ((f (24 + a)) + (nI 1))) (16 + a)) + (nI 1))) (⟨(by rw [show cdI (nI 0) = 1 from by decide, cntU_b (by decide) c_1]; exact hb2.bal_t ha (s := 0) rfl (by decide) (by rw [bcU_ne _ _ (by decide) (by decide)]; exact h1) c_10), (fun j q1 q2 q3 q4 q5 => by simp only [upd]; repeat (first | rfl | rw [if_neg q1] | rw [if_neg q2] | rw [if_neg q3] | rw [if_neg q4] | rw [if_neg q5])), (colP_hi (i := 16 + a) (colP_hi (i := 24 + a) hs ((f (24 + a)) + (nI 1)) (by omega)) (((upd f (24 + a) ((f (24 + a)) + (nI 1))) (16 + a)) + (nI 1)) (by omega))⟩) hP hD hS (Nat.le_of_ble_eq_true rfl) (Nat.le_of_ble_eq_true rfl) dX12_counts_160
        · -- 105 f
          refine lv_aload_n hx hb dX12_counts_108 rfl (lv_at hl 2 rfl) ?_
          refine xget C hP 0 rfl rfl zuX12 0 (by decide) zw5_213 rfl dX12_counts_109 ?_
          refine lv_iconst (v := nI 0) hx hb dX12_counts_112 (by decide) ?_
          refine lv_iload_n hx hb dX12_counts_113 rfl (lv_at hl 3 rfl) ?_
          refine lv_iadd hx hb dX12_counts_114 ?_
          refine lv_topi (nm_r (e' := nI (0 + a)) (nI_add _ _) ?_)
          refine lv_iload_n hx hb dX12_counts_115 rfl (lv_at hl 4 rfl) ?_
          refine xiast C hP hD hS 1 rfl (0 + a) rfl (by omega) (by decide) dX12_counts_116 ?_
          clear hP hD hS
          try clear locs
          try clear H
          intro H locs hP hD hS
          replace hP : va_P D vwCl [(hm, .inr (12, [.ref ms, .ref mkp, .int (nI km), .ref mtr, .int (nI n), .int (nI k), .int (nI al), .int (nI be), .int ea, .int pr, .ref mas, .int nq, .int po, .int (nI en), .ref mso, .ref mon, .ref mot, .ref man, .int th, .int xd, .ref mst, .ref msm, .ref mtb, .ref mti, .ref mfr, .ref mbn, .ref mbs, .ref mde, .int sF, .int sN, .int sS, .int ig, .long xa, .long xb, .ref maa, .ref mab, .ref mba, .ref mbb])), (ms, .inl (cs 0, 288, .inl (upd (upd f (24 + a) ((f (24 + a)) + (nI 1))) (0 + a) (nI 0))))] H := hP
          replace hD : va_D A [(hm, .inr (12, [.ref ms, .ref mkp, .int (nI km), .ref mtr, .int (nI n), .int (nI k), .int (nI al), .int (nI be), .int ea, .int pr, .ref mas, .int nq, .int po, .int (nI en), .ref mso, .ref mon, .ref mot, .ref man, .int th, .int xd, .ref mst, .ref msm, .ref mtb, .ref mti, .ref mfr, .ref mbn, .ref mbs, .ref mde, .int sF, .int sN, .int sS, .int ig, .long xa, .long xb, .ref maa, .ref mab, .ref mba, .ref mbb])), (ms, .inl (cs 0, 288, .inl (upd (upd f (24 + a) ((f (24 + a)) + (nI 1))) (0 + a) (nI 0))))] := hD
          have hb2 : rowU (upd (upd f (24 + a) ((f (24 + a)) + (nI 1))) (0 + a) (nI 0)) a (bcU 1 u) := hb1.bc_f ha (W := 1) (s := 0) rfl (by decide) h_t_8 (by rw [bpU_ne _ _ (by decide)]; omega) (bp_ok h3 h4).1 (bp_ok h3 h4).2 e_t_8 c_9
          refine lv_aload_n hx hb dX12_counts_117 rfl (lv_at hl 2 rfl) ?_
          refine xget C hP 0 rfl rfl zuX12 0 (by decide) zw5_213 rfl dX12_counts_118 ?_
          refine lv_iload_n hx hb dX12_counts_121 rfl (lv_at hl 1 rfl) ?_
          refine xiald C hP 1 rfl (8 + a) rfl (by omega) (by decide) dX12_counts_122 ?_
          refine lv_iload_n hx hb dX12_counts_123 rfl (lv_at hl 4 rfl) ?_
          refine lv_icmp_ne (tgt := 143) hx hb dX12_counts_124 (by decide) (fun c_11 => ?_) (fun c_11 => ?_)
          · -- 124 t
            refine lv_aload_n hx hb dX12_counts_143 rfl (lv_at hl 2 rfl) ?_
            refine xget C hP 0 rfl rfl zuX12 0 (by decide) zw5_213 rfl dX12_counts_144 ?_
            refine lv_iload_n hx hb dX12_counts_147 rfl (lv_at hl 1 rfl) ?_
            refine lv_iload_n hx hb dX12_counts_148 rfl (lv_at hl 4 rfl) ?_
            refine xiast C hP hD hS 1 rfl (8 + a) rfl (by omega) (by decide) dX12_counts_149 ?_
            clear hP hD hS
            try clear locs
            try clear H
            intro H locs hP hD hS
            replace hP : va_P D vwCl [(hm, .inr (12, [.ref ms, .ref mkp, .int (nI km), .ref mtr, .int (nI n), .int (nI k), .int (nI al), .int (nI be), .int ea, .int pr, .ref mas, .int nq, .int po, .int (nI en), .ref mso, .ref mon, .ref mot, .ref man, .int th, .int xd, .ref mst, .ref msm, .ref mtb, .ref mti, .ref mfr, .ref mbn, .ref mbs, .ref mde, .int sF, .int sN, .int sS, .int ig, .long xa, .long xb, .ref maa, .ref mab, .ref mba, .ref mbb])), (ms, .inl (cs 0, 288, .inl (upd (upd (upd f (24 + a) ((f (24 + a)) + (nI 1))) (0 + a) (nI 0)) (8 + a) (nI 0))))] H := hP
            replace hD : va_D A [(hm, .inr (12, [.ref ms, .ref mkp, .int (nI km), .ref mtr, .int (nI n), .int (nI k), .int (nI al), .int (nI be), .int ea, .int pr, .ref mas, .int nq, .int po, .int (nI en), .ref mso, .ref mon, .ref mot, .ref man, .int th, .int xd, .ref mst, .ref msm, .ref mtb, .ref mti, .ref mfr, .ref mbn, .ref mbs, .ref mde, .int sF, .int sN, .int sS, .int ig, .long xa, .long xb, .ref maa, .ref mab, .ref mba, .ref mbb])), (ms, .inl (cs 0, 288, .inl (upd (upd (upd f (24 + a) ((f (24 + a)) + (nI 1))) (0 + a) (nI 0)) (8 + a) (nI 0))))] := hD
            refine lv_aload_n hx hb dX12_counts_150 rfl (lv_at hl 2 rfl) ?_
            refine xget C hP 0 rfl rfl zuX12 0 (by decide) zw5_213 rfl dX12_counts_151 ?_
            refine lv_bipush (v := nI 16) hx hb dX12_counts_154 (by decide) ?_
            refine lv_iload_n hx hb dX12_counts_156 rfl (lv_at hl 3 rfl) ?_
            refine lv_iadd hx hb dX12_counts_157 ?_
            refine lv_topi (nm_r (e' := nI (16 + a)) (nI_add _ _) ?_)
            refine lv_iconst (v := nI 1) hx hb dX12_counts_158 (by decide) ?_
            refine xiast C hP hD hS 1 rfl (16 + a) rfl (by omega) (by decide) dX12_counts_159 ?_
            clear hP hD hS
            try clear locs
            try clear H
            intro H locs hP hD hS
            replace hP : va_P D vwCl [(hm, .inr (12, [.ref ms, .ref mkp, .int (nI km), .ref mtr, .int (nI n), .int (nI k), .int (nI al), .int (nI be), .int ea, .int pr, .ref mas, .int nq, .int po, .int (nI en), .ref mso, .ref mon, .ref mot, .ref man, .int th, .int xd, .ref mst, .ref msm, .ref mtb, .ref mti, .ref mfr, .ref mbn, .ref mbs, .ref mde, .int sF, .int sN, .int sS, .int ig, .long xa, .long xb, .ref maa, .ref mab, .ref mba, .ref mbb])), (ms, .inl (cs 0, 288, .inl (upd (upd (upd (upd f (24 + a) ((f (24 + a)) + (nI 1))) (0 + a) (nI 0)) (8 + a) (nI 0)) (16 + a) (nI 1))))] H := hP
            replace hD : va_D A [(hm, .inr (12, [.ref ms, .ref mkp, .int (nI km), .ref mtr, .int (nI n), .int (nI k), .int (nI al), .int (nI be), .int ea, .int pr, .ref mas, .int nq, .int po, .int (nI en), .ref mso, .ref mon, .ref mot, .ref man, .int th, .int xd, .ref mst, .ref msm, .ref mtb, .ref mti, .ref mfr, .ref mbn, .ref mbs, .ref mde, .int sF, .int sN, .int sS, .int ig, .long xa, .long xb, .ref maa, .ref mab, .ref mba, .ref mbb])), (ms, .inl (cs 0, 288, .inl (upd (upd (upd (upd f (24 + a) ((f (24 + a)) + (nI 1))) (0 + a) (nI 0)) (8 + a) (nI 0)) (16 + a) (nI 1))))] := hD
            exact xretv C (upd (upd (upd (upd f (24 + a) ((f (24 + a)) + (nI 1))) (0 + a) (nI 0)) (8 + a) (nI 0)) (16 + a) (nI 1)) (⟨(by rw [show cdI (nI 0) = 1 from by decide, cntU_b (by decide) c_1]; exact hb2.bal_f ha (s := 0) rfl c_11), (fun j q1 q2 q3 q4 q5 => by simp only [upd]; repeat (first | rfl | rw [if_neg q1] | rw [if_neg q2] | rw [if_neg q3] | rw [if_neg q4] | rw [if_neg q5])), (colP_hi (i := 16 + a) (colP_hi (i := 8 + a) (colP_up (colP_hi (i := 24 + a) hs ((f (24 + a)) + (nI 1)) (by omega)) (0 + a) colV_0) (nI 0) (by omega)) (nI 1) (by omega))⟩) hP hD hS (Nat.le_of_ble_eq_true rfl) (Nat.le_of_ble_eq_true rfl) dX12_counts_160
          · -- 124 f
            refine lv_aload_n hx hb dX12_counts_127 rfl (lv_at hl 2 rfl) ?_
            refine xget C hP 0 rfl rfl zuX12 0 (by decide) zw5_213 rfl dX12_counts_128 ?_
            refine lv_bipush (v := nI 16) hx hb dX12_counts_131 (by decide) ?_
            refine lv_iload_n hx hb dX12_counts_133 rfl (lv_at hl 3 rfl) ?_
            refine lv_iadd hx hb dX12_counts_134 ?_
            refine lv_topi (nm_r (e' := nI (16 + a)) (nI_add _ _) ?_)
            refine lv_dup2_11 hx hb dX12_counts_135 rfl rfl ?_
            refine xiald C hP 1 rfl (16 + a) rfl (by omega) (by decide) dX12_counts_136 ?_
            refine lv_iconst (v := nI 1) hx hb dX12_counts_137 (by decide) ?_
            refine lv_iadd hx hb dX12_counts_138 ?_
            refine xiast C hP hD hS 1 rfl (16 + a) rfl (by omega) (by decide) dX12_counts_139 ?_
            clear hP hD hS
            try clear locs
            try clear H
            intro H locs hP hD hS
            replace hP : va_P D vwCl [(hm, .inr (12, [.ref ms, .ref mkp, .int (nI km), .ref mtr, .int (nI n), .int (nI k), .int (nI al), .int (nI be), .int ea, .int pr, .ref mas, .int nq, .int po, .int (nI en), .ref mso, .ref mon, .ref mot, .ref man, .int th, .int xd, .ref mst, .ref msm, .ref mtb, .ref mti, .ref mfr, .ref mbn, .ref mbs, .ref mde, .int sF, .int sN, .int sS, .int ig, .long xa, .long xb, .ref maa, .ref mab, .ref mba, .ref mbb])), (ms, .inl (cs 0, 288, .inl (upd (upd (upd f (24 + a) ((f (24 + a)) + (nI 1))) (0 + a) (nI 0)) (16 + a) (((upd (upd f (24 + a) ((f (24 + a)) + (nI 1))) (0 + a) (nI 0)) (16 + a)) + (nI 1)))))] H := hP
            replace hD : va_D A [(hm, .inr (12, [.ref ms, .ref mkp, .int (nI km), .ref mtr, .int (nI n), .int (nI k), .int (nI al), .int (nI be), .int ea, .int pr, .ref mas, .int nq, .int po, .int (nI en), .ref mso, .ref mon, .ref mot, .ref man, .int th, .int xd, .ref mst, .ref msm, .ref mtb, .ref mti, .ref mfr, .ref mbn, .ref mbs, .ref mde, .int sF, .int sN, .int sS, .int ig, .long xa, .long xb, .ref maa, .ref mab, .ref mba, .ref mbb])), (ms, .inl (cs 0, 288, .inl (upd (upd (upd f (24 + a) ((f (24 + a)) + (nI 1))) (0 + a) (nI 0)) (16 + a) (((upd (upd f (24 + a) ((f (24 + a)) + (nI 1))) (0 + a) (nI 0)) (16 + a)) + (nI 1)))))] := hD
            refine lv_goto (tgt := 160) hx hb dX12_counts_140 (by decide) ?_
            exact xretv C (upd (upd (upd f (24 + a) ((f (24 + a)) + (nI 1))) (0 + a) (nI 0)) (16 + a) (((upd (upd f (24 + a) ((f (24 + a)) + (nI 1))) (0 + a) (nI 0)) (16 + a)) + (nI 1))) (⟨(by rw [show cdI (nI 0) = 1 from by decide, cntU_b (by decide) c_1]; exact hb2.bal_t ha (s := 0) rfl (by decide) (by rw [bcU_ne _ _ (by decide) (by decide)]; exact h1) c_11), (fun j q1 q2 q3 q4 q5 => by simp only [upd]; repeat (first | rfl | rw [if_neg q1] | rw [if_neg q2] | rw [if_neg q3] | rw [if_neg q4] | rw [if_neg q5])), (colP_hi (i := 16 + a) (colP_up (colP_hi (i := 24 + a) hs ((f (24 + a)) + (nI 1)) (by omega)) (0 + a) colV_0) (((upd (upd f (24 + a) ((f (24 + a)) + (nI 1))) (0 + a) (nI 0)) (16 + a)) + (nI 1)) (by omega))⟩) hP hD hS (Nat.le_of_ble_eq_true rfl) (Nat.le_of_ble_eq_true rfl) dX12_counts_160
  · -- split
    replace hP : va_P D vwCl [(hm, .inr (12, [.ref ms, .ref mkp, .int (nI km), .ref mtr, .int (nI n), .int (nI k), .int (nI al), .int (nI be), .int ea, .int pr, .ref mas, .int nq, .int po, .int (nI en), .ref mso, .ref mon, .ref mot, .ref man, .int th, .int xd, .ref mst, .ref msm, .ref mtb, .ref mti, .ref mfr, .ref mbn, .ref mbs, .ref mde, .int sF, .int sN, .int sS, .int ig, .long xa, .long xb, .ref maa, .ref mab, .ref mba, .ref mbb])), (ms, .inl (cs 0, 288, .inl f))] H := hP
    replace hD : va_D A [(hm, .inr (12, [.ref ms, .ref mkp, .int (nI km), .ref mtr, .int (nI n), .int (nI k), .int (nI al), .int (nI be), .int ea, .int pr, .ref mas, .int nq, .int po, .int (nI en), .ref mso, .ref mon, .ref mot, .ref man, .int th, .int xd, .ref mst, .ref msm, .ref mtb, .ref mti, .ref mfr, .ref mbn, .ref mbs, .ref mde, .int sF, .int sN, .int sS, .int ig, .long xa, .long xb, .ref maa, .ref mab, .ref mba, .ref mbb])), (ms, .inl (cs 0, 288, .inl f))] := hD
    refine lv_iload_n hx hb dX12_counts_0 rfl (lv_at hl 2 rfl) ?_
    refine lv_if_ge (tgt := 15) hx hb dX12_counts_1 (by decide) (fun _ => ?_) (fun c => absurd (by decide) c)
    refine lv_aload_n hx hb dX12_counts_15 rfl (lv_at hl 0 rfl) ?_
    refine xget C hP 0 rfl rfl zuX12 9 (by decide) zw5_222 rfl dX12_counts_16 ?_
    refine lv_iconst (v := nI 2) hx hb dX12_counts_19 (by decide) ?_
    refine lv_icmp_ne (tgt := 30) hx hb dX12_counts_20 (by decide) (fun c_12 => ?_) (fun c_12 => ?_)
    · -- 20 t
      refine lv_iconst (v := nI 0) hx hb dX12_counts_30 (by decide) ?_
      refine lv_iload_n hx hb dX12_counts_31 rfl (lv_at hl 1 rfl) ?_
      refine lv_iadd hx hb dX12_counts_32 ?_
      refine lv_topi (nm_r (e' := nI (0 + a)) (nI_add _ _) ?_)
      refine lv_istore_n (lv' := [(3, .int (nI (0 + a))), (0, .ref hm), (1, .int (nI a)), (2, .int (nI 1))]) hx hb dX12_counts_33 rfl hl (by decide) rfl ?_
      clear hl
      try clear ls
      intro ls hl
      refine lv_aload_n hx hb dX12_counts_34 rfl (lv_at hl 1 rfl) ?_
      refine xget C hP 0 rfl rfl zuX12 9 (by decide) zw5_222 rfl dX12_counts_35 ?_
      refine lv_iconst (v := nI 2) hx hb dX12_counts_38 (by decide) ?_
      refine lv_icmp_ne (tgt := 117) hx hb dX12_counts_39 (by decide) (fun _ => ?_) (fun c => absurd c c_12)
      refine lv_aload_n hx hb dX12_counts_117 rfl (lv_at hl 1 rfl) ?_
      refine xget C hP 0 rfl rfl zuX12 0 (by decide) zw5_213 rfl dX12_counts_118 ?_
      refine lv_iload_n hx hb dX12_counts_121 rfl (lv_at hl 0 rfl) ?_
      refine xiald C hP 1 rfl (0 + a) rfl (by omega) (by decide) dX12_counts_122 ?_
      refine lv_iload_n hx hb dX12_counts_123 rfl (lv_at hl 3 rfl) ?_
      refine lv_icmp_ne (tgt := 143) hx hb dX12_counts_124 (by decide) (fun c_13 => ?_) (fun c_13 => ?_)
      · -- 124 t
        refine lv_aload_n hx hb dX12_counts_143 rfl (lv_at hl 1 rfl) ?_
        refine xget C hP 0 rfl rfl zuX12 0 (by decide) zw5_213 rfl dX12_counts_144 ?_
        refine lv_iload_n hx hb dX12_counts_147 rfl (lv_at hl 0 rfl) ?_
        refine lv_iload_n hx hb dX12_counts_148 rfl (lv_at hl 3 rfl) ?_
        refine xiast C hP hD hS 1 rfl (0 + a) rfl (by omega) (by decide) dX12_counts_149 ?_
        clear hP hD hS
        try clear locs
        try clear H
        intro H locs hP hD hS
        replace hP : va_P D vwCl [(hm, .inr (12, [.ref ms, .ref mkp, .int (nI km), .ref mtr, .int (nI n), .int (nI k), .int (nI al), .int (nI be), .int ea, .int pr, .ref mas, .int nq, .int po, .int (nI en), .ref mso, .ref mon, .ref mot, .ref man, .int th, .int xd, .ref mst, .ref msm, .ref mtb, .ref mti, .ref mfr, .ref mbn, .ref mbs, .ref mde, .int sF, .int sN, .int sS, .int ig, .long xa, .long xb, .ref maa, .ref mab, .ref mba, .ref mbb])), (ms, .inl (cs 0, 288, .inl (upd f (0 + a) (nI 1))))] H := hP
        replace hD : va_D A [(hm, .inr (12, [.ref ms, .ref mkp, .int (nI km), .ref mtr, .int (nI n), .int (nI k), .int (nI al), .int (nI be), .int ea, .int pr, .ref mas, .int nq, .int po, .int (nI en), .ref mso, .ref mon, .ref mot, .ref man, .int th, .int xd, .ref mst, .ref msm, .ref mtb, .ref mti, .ref mfr, .ref mbn, .ref mbs, .ref mde, .int sF, .int sN, .int sS, .int ig, .long xa, .long xb, .ref maa, .ref mab, .ref mba, .ref mbb])), (ms, .inl (cs 0, 288, .inl (upd f (0 + a) (nI 1))))] := hD
        refine lv_aload_n hx hb dX12_counts_150 rfl (lv_at hl 1 rfl) ?_
        refine xget C hP 0 rfl rfl zuX12 0 (by decide) zw5_213 rfl dX12_counts_151 ?_
        refine lv_bipush (v := nI 16) hx hb dX12_counts_154 (by decide) ?_
        refine lv_iload_n hx hb dX12_counts_156 rfl (lv_at hl 2 rfl) ?_
        refine lv_iadd hx hb dX12_counts_157 ?_
        refine lv_topi (nm_r (e' := nI (16 + a)) (nI_add _ _) ?_)
        refine lv_iconst (v := nI 1) hx hb dX12_counts_158 (by decide) ?_
        refine xiast C hP hD hS 1 rfl (16 + a) rfl (by omega) (by decide) dX12_counts_159 ?_
        clear hP hD hS
        try clear locs
        try clear H
        intro H locs hP hD hS
        replace hP : va_P D vwCl [(hm, .inr (12, [.ref ms, .ref mkp, .int (nI km), .ref mtr, .int (nI n), .int (nI k), .int (nI al), .int (nI be), .int ea, .int pr, .ref mas, .int nq, .int po, .int (nI en), .ref mso, .ref mon, .ref mot, .ref man, .int th, .int xd, .ref mst, .ref msm, .ref mtb, .ref mti, .ref mfr, .ref mbn, .ref mbs, .ref mde, .int sF, .int sN, .int sS, .int ig, .long xa, .long xb, .ref maa, .ref mab, .ref mba, .ref mbb])), (ms, .inl (cs 0, 288, .inl (upd (upd f (0 + a) (nI 1)) (16 + a) (nI 1))))] H := hP
        replace hD : va_D A [(hm, .inr (12, [.ref ms, .ref mkp, .int (nI km), .ref mtr, .int (nI n), .int (nI k), .int (nI al), .int (nI be), .int ea, .int pr, .ref mas, .int nq, .int po, .int (nI en), .ref mso, .ref mon, .ref mot, .ref man, .int th, .int xd, .ref mst, .ref msm, .ref mtb, .ref mti, .ref mfr, .ref mbn, .ref mbs, .ref mde, .int sF, .int sN, .int sS, .int ig, .long xa, .long xb, .ref maa, .ref mab, .ref mba, .ref mbb])), (ms, .inl (cs 0, 288, .inl (upd (upd f (0 + a) (nI 1)) (16 + a) (nI 1))))] := hD
        exact xretv C (upd (upd f (0 + a) (nI 1)) (16 + a) (nI 1)) (⟨(by rw [show cdI (nI 1) = 2 from by decide, cntU_f (by decide) (hpr.resolve_right c_12)]; exact hu.flk_f ha (s := 1) rfl c_13), (fun j q1 q2 q3 q4 q5 => by simp only [upd]; repeat (first | rfl | rw [if_neg q1] | rw [if_neg q2] | rw [if_neg q3] | rw [if_neg q4] | rw [if_neg q5])), (colP_hi (i := 16 + a) (colP_up hs (0 + a) colV_1) (nI 1) (by omega))⟩) hP hD hS (Nat.le_of_ble_eq_true rfl) (Nat.le_of_ble_eq_true rfl) dX12_counts_160
      · -- 124 f
        refine lv_aload_n hx hb dX12_counts_127 rfl (lv_at hl 1 rfl) ?_
        refine xget C hP 0 rfl rfl zuX12 0 (by decide) zw5_213 rfl dX12_counts_128 ?_
        refine lv_bipush (v := nI 16) hx hb dX12_counts_131 (by decide) ?_
        refine lv_iload_n hx hb dX12_counts_133 rfl (lv_at hl 2 rfl) ?_
        refine lv_iadd hx hb dX12_counts_134 ?_
        refine lv_topi (nm_r (e' := nI (16 + a)) (nI_add _ _) ?_)
        refine lv_dup2_11 hx hb dX12_counts_135 rfl rfl ?_
        refine xiald C hP 1 rfl (16 + a) rfl (by omega) (by decide) dX12_counts_136 ?_
        refine lv_iconst (v := nI 1) hx hb dX12_counts_137 (by decide) ?_
        refine lv_iadd hx hb dX12_counts_138 ?_
        refine xiast C hP hD hS 1 rfl (16 + a) rfl (by omega) (by decide) dX12_counts_139 ?_
        clear hP hD hS
        try clear locs
        try clear H
        intro H locs hP hD hS
        replace hP : va_P D vwCl [(hm, .inr (12, [.ref ms, .ref mkp, .int (nI km), .ref mtr, .int (nI n), .int (nI k), .int (nI al), .int (nI be), .int ea, .int pr, .ref mas, .int nq, .int po, .int (nI en), .ref mso, .ref mon, .ref mot, .ref man, .int th, .int xd, .ref mst, .ref msm, .ref mtb, .ref mti, .ref mfr, .ref mbn, .ref mbs, .ref mde, .int sF, .int sN, .int sS, .int ig, .long xa, .long xb, .ref maa, .ref mab, .ref mba, .ref mbb])), (ms, .inl (cs 0, 288, .inl (upd f (16 + a) ((f (16 + a)) + (nI 1)))))] H := hP
        replace hD : va_D A [(hm, .inr (12, [.ref ms, .ref mkp, .int (nI km), .ref mtr, .int (nI n), .int (nI k), .int (nI al), .int (nI be), .int ea, .int pr, .ref mas, .int nq, .int po, .int (nI en), .ref mso, .ref mon, .ref mot, .ref man, .int th, .int xd, .ref mst, .ref msm, .ref mtb, .ref mti, .ref mfr, .ref mbn, .ref mbs, .ref mde, .int sF, .int sN, .int sS, .int ig, .long xa, .long xb, .ref maa, .ref mab, .ref mba, .ref mbb])), (ms, .inl (cs 0, 288, .inl (upd f (16 + a) ((f (16 + a)) + (nI 1)))))] := hD
        refine lv_goto (tgt := 160) hx hb dX12_counts_140 (by decide) ?_
        exact xretv C (upd f (16 + a) ((f (16 + a)) + (nI 1))) (⟨(by rw [show cdI (nI 1) = 2 from by decide, cntU_f (by decide) (hpr.resolve_right c_12)]; exact hu.flk_t ha (s := 1) rfl (by decide) (by omega) c_13), (fun j q1 q2 q3 q4 q5 => by simp only [upd]; repeat (first | rfl | rw [if_neg q1] | rw [if_neg q2] | rw [if_neg q3] | rw [if_neg q4] | rw [if_neg q5])), (colP_hi (i := 16 + a) hs ((f (16 + a)) + (nI 1)) (by omega))⟩) hP hD hS (Nat.le_of_ble_eq_true rfl) (Nat.le_of_ble_eq_true rfl) dX12_counts_160
    · -- 20 f
      refine lv_bipush (v := nI 8) hx hb dX12_counts_23 (by decide) ?_
      refine lv_iload_n hx hb dX12_counts_25 rfl (lv_at hl 1 rfl) ?_
      refine lv_iadd hx hb dX12_counts_26 ?_
      refine lv_topi (nm_r (e' := nI (8 + a)) (nI_add _ _) ?_)
      refine lv_goto (tgt := 33) hx hb dX12_counts_27 (by decide) ?_
      refine lv_istore_n (lv' := [(3, .int (nI (8 + a))), (0, .ref hm), (1, .int (nI a)), (2, .int (nI 1))]) hx hb dX12_counts_33 rfl hl (by decide) rfl ?_
      clear hl
      try clear ls
      intro ls hl
      refine lv_aload_n hx hb dX12_counts_34 rfl (lv_at hl 1 rfl) ?_
      refine xget C hP 0 rfl rfl zuX12 9 (by decide) zw5_222 rfl dX12_counts_35 ?_
      refine lv_iconst (v := nI 2) hx hb dX12_counts_38 (by decide) ?_
      refine lv_icmp_ne (tgt := 117) hx hb dX12_counts_39 (by decide) (fun c => absurd c_12 c) (fun _ => ?_)
      refine lv_bipush (v := nI 24) hx hb dX12_counts_42 (by decide) ?_
      refine lv_bipush (v := nI 8) hx hb dX12_counts_44 (by decide) ?_
      refine lv_iload_n hx hb dX12_counts_46 rfl (lv_at hl 3 rfl) ?_
      refine lv_imul hx hb dX12_counts_47 ?_
      refine lv_topi (nm_r (e' := nI 8) (by decide) ?_)
      refine lv_iadd hx hb dX12_counts_48 ?_
      refine lv_topi (nm_r (e' := nI 32) (by decide) ?_)
      refine lv_iload_n hx hb dX12_counts_49 rfl (lv_at hl 2 rfl) ?_
      refine lv_iadd hx hb dX12_counts_50 ?_
      refine lv_topi (nm_r (e' := nI (32 + a)) (nI_add _ _) ?_)
      refine lv_istore (lv' := [(4, .int (nI (32 + a))), (3, .int (nI (8 + a))), (0, .ref hm), (1, .int (nI a)), (2, .int (nI 1))]) hx hb dX12_counts_51 hl (by decide) rfl ?_
      clear hl
      try clear ls
      intro ls hl
      refine lv_aload_n hx hb dX12_counts_53 rfl (lv_at hl 2 rfl) ?_
      refine xget C hP 0 rfl rfl zuX12 0 (by decide) zw5_213 rfl dX12_counts_54 ?_
      refine lv_iload hx hb dX12_counts_57 (lv_at hl 0 rfl) ?_
      refine xiald C hP 1 rfl (32 + a) rfl (by omega) (by decide) dX12_counts_59 ?_
      refine lv_sipush (v := nI 999) hx hb dX12_counts_60 (by decide) ?_
      refine lv_icmp_ge (tgt := 77) hx hb dX12_counts_63 (by decide) (fun c_14 => ?_) (fun c_14 => ?_)
      · -- 63 t
        have hb1 : rowU f a (bpU 2 u) := hu.bp_t (t := 1) (by decide) h4 c_14
        refine lv_aload_n hx hb dX12_counts_77 rfl (lv_at hl 2 rfl) ?_
        refine xget C hP 0 rfl rfl zuX12 0 (by decide) zw5_213 rfl dX12_counts_78 ?_
        refine lv_iload hx hb dX12_counts_81 (lv_at hl 0 rfl) ?_
        refine xiald C hP 1 rfl (32 + a) rfl (by omega) (by decide) dX12_counts_83 ?_
        refine lv_aload_n hx hb dX12_counts_84 rfl (lv_at hl 2 rfl) ?_
        refine xget C hP 0 rfl rfl zuX12 0 (by decide) zw5_213 rfl dX12_counts_85 ?_
        refine lv_bipush (v := nI 24) hx hb dX12_counts_88 (by decide) ?_
        refine lv_bipush (v := nI 8) hx hb dX12_counts_90 (by decide) ?_
        refine lv_aload_n hx hb dX12_counts_92 rfl (lv_at hl 2 rfl) ?_
        refine xget C hP 0 rfl rfl zuX12 0 (by decide) zw5_213 rfl dX12_counts_93 ?_
        refine lv_iconst (v := nI 0) hx hb dX12_counts_96 (by decide) ?_
        refine lv_iload_n hx hb dX12_counts_97 rfl (lv_at hl 3 rfl) ?_
        refine lv_iadd hx hb dX12_counts_98 ?_
        refine lv_topi (nm_r (e' := nI (0 + a)) (nI_add _ _) ?_)
        refine xiald C hP 1 rfl (0 + a) rfl (by omega) (by decide) dX12_counts_99 ?_
        obtain ⟨t_15, h_t_15, e_t_15⟩ := (col_nat (hs (0 + a) (by omega)) (by first | exact hna | (unfold upd; rw [if_neg (by omega)]; exact hna)))
        refine lv_topi (nm_r (e' := nI t_15) e_t_15 ?_)
        refine lv_imul hx hb dX12_counts_100 ?_
        refine lv_topi (nm_r (e' := nI (8 * t_15)) (pk_mul _ _) ?_)
        refine lv_iadd hx hb dX12_counts_101 ?_
        refine lv_topi (nm_r (e' := nI (24 + (8 * t_15))) (nI_add _ _) ?_)
        refine lv_iload_n hx hb dX12_counts_102 rfl (lv_at hl 3 rfl) ?_
        refine lv_iadd hx hb dX12_counts_103 ?_
        refine lv_topi (nm_r (e' := nI ((24 + (8 * t_15)) + a)) (nI_add _ _) ?_)
        refine xiald C hP 1 rfl ((24 + (8 * t_15)) + a) rfl (by omega) (by decide) dX12_counts_104 ?_
        refine lv_icmp_le (tgt := 117) hx hb dX12_counts_105 (by decide) (fun c_16 => ?_) (fun c_16 => ?_)
        · -- 105 t
          have hb2 : rowU f a (bcU 2 u) := hb1.bc_t (W := 2) (s := 1) rfl (by decide) h_t_15 (by rw [bpU_ne _ _ (by decide)]; omega) (bp_ok h3 h4).1 (bp_ok h3 h4).2 e_t_15 c_16
          refine lv_aload_n hx hb dX12_counts_117 rfl (lv_at hl 2 rfl) ?_
          refine xget C hP 0 rfl rfl zuX12 0 (by decide) zw5_213 rfl dX12_counts_118 ?_
          refine lv_iload_n hx hb dX12_counts_121 rfl (lv_at hl 1 rfl) ?_
          refine xiald C hP 1 rfl (8 + a) rfl (by omega) (by decide) dX12_counts_122 ?_
          refine lv_iload_n hx hb dX12_counts_123 rfl (lv_at hl 4 rfl) ?_
          refine lv_icmp_ne (tgt := 143) hx hb dX12_counts_124 (by decide) (fun c_17 => ?_) (fun c_17 => ?_)
          · -- 124 t
            refine lv_aload_n hx hb dX12_counts_143 rfl (lv_at hl 2 rfl) ?_
            refine xget C hP 0 rfl rfl zuX12 0 (by decide) zw5_213 rfl dX12_counts_144 ?_
            refine lv_iload_n hx hb dX12_counts_147 rfl (lv_at hl 1 rfl) ?_
            refine lv_iload_n hx hb dX12_counts_148 rfl (lv_at hl 4 rfl) ?_
            refine xiast C hP hD hS 1 rfl (8 + a) rfl (by omega) (by decide) dX12_counts_149 ?_
            clear hP hD hS
            try clear locs
            try clear H
            intro H locs hP hD hS
            replace hP : va_P D vwCl [(hm, .inr (12, [.ref ms, .ref mkp, .int (nI km), .ref mtr, .int (nI n), .int (nI k), .int (nI al), .int (nI be), .int ea, .int pr, .ref mas, .int nq, .int po, .int (nI en), .ref mso, .ref mon, .ref mot, .ref man, .int th, .int xd, .ref mst, .ref msm, .ref mtb, .ref mti, .ref mfr, .ref mbn, .ref mbs, .ref mde, .int sF, .int sN, .int sS, .int ig, .long xa, .long xb, .ref maa, .ref mab, .ref mba, .ref mbb])), (ms, .inl (cs 0, 288, .inl (upd f (8 + a) (nI 1))))] H := hP
            replace hD : va_D A [(hm, .inr (12, [.ref ms, .ref mkp, .int (nI km), .ref mtr, .int (nI n), .int (nI k), .int (nI al), .int (nI be), .int ea, .int pr, .ref mas, .int nq, .int po, .int (nI en), .ref mso, .ref mon, .ref mot, .ref man, .int th, .int xd, .ref mst, .ref msm, .ref mtb, .ref mti, .ref mfr, .ref mbn, .ref mbs, .ref mde, .int sF, .int sN, .int sS, .int ig, .long xa, .long xb, .ref maa, .ref mab, .ref mba, .ref mbb])), (ms, .inl (cs 0, 288, .inl (upd f (8 + a) (nI 1))))] := hD
            refine lv_aload_n hx hb dX12_counts_150 rfl (lv_at hl 2 rfl) ?_
            refine xget C hP 0 rfl rfl zuX12 0 (by decide) zw5_213 rfl dX12_counts_151 ?_
            refine lv_bipush (v := nI 16) hx hb dX12_counts_154 (by decide) ?_
            refine lv_iload_n hx hb dX12_counts_156 rfl (lv_at hl 3 rfl) ?_
            refine lv_iadd hx hb dX12_counts_157 ?_
            refine lv_topi (nm_r (e' := nI (16 + a)) (nI_add _ _) ?_)
            refine lv_iconst (v := nI 1) hx hb dX12_counts_158 (by decide) ?_
            refine xiast C hP hD hS 1 rfl (16 + a) rfl (by omega) (by decide) dX12_counts_159 ?_
            clear hP hD hS
            try clear locs
            try clear H
            intro H locs hP hD hS
            replace hP : va_P D vwCl [(hm, .inr (12, [.ref ms, .ref mkp, .int (nI km), .ref mtr, .int (nI n), .int (nI k), .int (nI al), .int (nI be), .int ea, .int pr, .ref mas, .int nq, .int po, .int (nI en), .ref mso, .ref mon, .ref mot, .ref man, .int th, .int xd, .ref mst, .ref msm, .ref mtb, .ref mti, .ref mfr, .ref mbn, .ref mbs, .ref mde, .int sF, .int sN, .int sS, .int ig, .long xa, .long xb, .ref maa, .ref mab, .ref mba, .ref mbb])), (ms, .inl (cs 0, 288, .inl (upd (upd f (8 + a) (nI 1)) (16 + a) (nI 1))))] H := hP
            replace hD : va_D A [(hm, .inr (12, [.ref ms, .ref mkp, .int (nI km), .ref mtr, .int (nI n), .int (nI k), .int (nI al), .int (nI be), .int ea, .int pr, .ref mas, .int nq, .int po, .int (nI en), .ref mso, .ref mon, .ref mot, .ref man, .int th, .int xd, .ref mst, .ref msm, .ref mtb, .ref mti, .ref mfr, .ref mbn, .ref mbs, .ref mde, .int sF, .int sN, .int sS, .int ig, .long xa, .long xb, .ref maa, .ref mab, .ref mba, .ref mbb])), (ms, .inl (cs 0, 288, .inl (upd (upd f (8 + a) (nI 1)) (16 + a) (nI 1))))] := hD
            exact xretv C (upd (upd f (8 + a) (nI 1)) (16 + a) (nI 1)) (⟨(by rw [show cdI (nI 1) = 2 from by decide, cntU_b (by decide) c_12]; exact hb2.bal_f ha (s := 1) rfl c_17), (fun j q1 q2 q3 q4 q5 => by simp only [upd]; repeat (first | rfl | rw [if_neg q1] | rw [if_neg q2] | rw [if_neg q3] | rw [if_neg q4] | rw [if_neg q5])), (colP_hi (i := 16 + a) (colP_hi (i := 8 + a) hs (nI 1) (by omega)) (nI 1) (by omega))⟩) hP hD hS (Nat.le_of_ble_eq_true rfl) (Nat.le_of_ble_eq_true rfl) dX12_counts_160
          · -- 124 f
            refine lv_aload_n hx hb dX12_counts_127 rfl (lv_at hl 2 rfl) ?_
            refine xget C hP 0 rfl rfl zuX12 0 (by decide) zw5_213 rfl dX12_counts_128 ?_
            refine lv_bipush (v := nI 16) hx hb dX12_counts_131 (by decide) ?_
            refine lv_iload_n hx hb dX12_counts_133 rfl (lv_at hl 3 rfl) ?_
            refine lv_iadd hx hb dX12_counts_134 ?_
            refine lv_topi (nm_r (e' := nI (16 + a)) (nI_add _ _) ?_)
            refine lv_dup2_11 hx hb dX12_counts_135 rfl rfl ?_
            refine xiald C hP 1 rfl (16 + a) rfl (by omega) (by decide) dX12_counts_136 ?_
            refine lv_iconst (v := nI 1) hx hb dX12_counts_137 (by decide) ?_
            refine lv_iadd hx hb dX12_counts_138 ?_
            refine xiast C hP hD hS 1 rfl (16 + a) rfl (by omega) (by decide) dX12_counts_139 ?_
            clear hP hD hS
            try clear locs
            try clear H
            intro H locs hP hD hS
            replace hP : va_P D vwCl [(hm, .inr (12, [.ref ms, .ref mkp, .int (nI km), .ref mtr, .int (nI n), .int (nI k), .int (nI al), .int (nI be), .int ea, .int pr, .ref mas, .int nq, .int po, .int (nI en), .ref mso, .ref mon, .ref mot, .ref man, .int th, .int xd, .ref mst, .ref msm, .ref mtb, .ref mti, .ref mfr, .ref mbn, .ref mbs, .ref mde, .int sF, .int sN, .int sS, .int ig, .long xa, .long xb, .ref maa, .ref mab, .ref mba, .ref mbb])), (ms, .inl (cs 0, 288, .inl (upd f (16 + a) ((f (16 + a)) + (nI 1)))))] H := hP
            replace hD : va_D A [(hm, .inr (12, [.ref ms, .ref mkp, .int (nI km), .ref mtr, .int (nI n), .int (nI k), .int (nI al), .int (nI be), .int ea, .int pr, .ref mas, .int nq, .int po, .int (nI en), .ref mso, .ref mon, .ref mot, .ref man, .int th, .int xd, .ref mst, .ref msm, .ref mtb, .ref mti, .ref mfr, .ref mbn, .ref mbs, .ref mde, .int sF, .int sN, .int sS, .int ig, .long xa, .long xb, .ref maa, .ref mab, .ref mba, .ref mbb])), (ms, .inl (cs 0, 288, .inl (upd f (16 + a) ((f (16 + a)) + (nI 1)))))] := hD
            refine lv_goto (tgt := 160) hx hb dX12_counts_140 (by decide) ?_
            exact xretv C (upd f (16 + a) ((f (16 + a)) + (nI 1))) (⟨(by rw [show cdI (nI 1) = 2 from by decide, cntU_b (by decide) c_12]; exact hb2.bal_t ha (s := 1) rfl (by decide) (by rw [bcU_ne _ _ (by decide) (by decide)]; exact h1) c_17), (fun j q1 q2 q3 q4 q5 => by simp only [upd]; repeat (first | rfl | rw [if_neg q1] | rw [if_neg q2] | rw [if_neg q3] | rw [if_neg q4] | rw [if_neg q5])), (colP_hi (i := 16 + a) hs ((f (16 + a)) + (nI 1)) (by omega))⟩) hP hD hS (Nat.le_of_ble_eq_true rfl) (Nat.le_of_ble_eq_true rfl) dX12_counts_160
        · -- 105 f
          refine lv_aload_n hx hb dX12_counts_108 rfl (lv_at hl 2 rfl) ?_
          refine xget C hP 0 rfl rfl zuX12 0 (by decide) zw5_213 rfl dX12_counts_109 ?_
          refine lv_iconst (v := nI 0) hx hb dX12_counts_112 (by decide) ?_
          refine lv_iload_n hx hb dX12_counts_113 rfl (lv_at hl 3 rfl) ?_
          refine lv_iadd hx hb dX12_counts_114 ?_
          refine lv_topi (nm_r (e' := nI (0 + a)) (nI_add _ _) ?_)
          refine lv_iload_n hx hb dX12_counts_115 rfl (lv_at hl 4 rfl) ?_
          refine xiast C hP hD hS 1 rfl (0 + a) rfl (by omega) (by decide) dX12_counts_116 ?_
          clear hP hD hS
          try clear locs
          try clear H
          intro H locs hP hD hS
          replace hP : va_P D vwCl [(hm, .inr (12, [.ref ms, .ref mkp, .int (nI km), .ref mtr, .int (nI n), .int (nI k), .int (nI al), .int (nI be), .int ea, .int pr, .ref mas, .int nq, .int po, .int (nI en), .ref mso, .ref mon, .ref mot, .ref man, .int th, .int xd, .ref mst, .ref msm, .ref mtb, .ref mti, .ref mfr, .ref mbn, .ref mbs, .ref mde, .int sF, .int sN, .int sS, .int ig, .long xa, .long xb, .ref maa, .ref mab, .ref mba, .ref mbb])), (ms, .inl (cs 0, 288, .inl (upd f (0 + a) (nI 1))))] H := hP
          replace hD : va_D A [(hm, .inr (12, [.ref ms, .ref mkp, .int (nI km), .ref mtr, .int (nI n), .int (nI k), .int (nI al), .int (nI be), .int ea, .int pr, .ref mas, .int nq, .int po, .int (nI en), .ref mso, .ref mon, .ref mot, .ref man, .int th, .int xd, .ref mst, .ref msm, .ref mtb, .ref mti, .ref mfr, .ref mbn, .ref mbs, .ref mde, .int sF, .int sN, .int sS, .int ig, .long xa, .long xb, .ref maa, .ref mab, .ref mba, .ref mbb])), (ms, .inl (cs 0, 288, .inl (upd f (0 + a) (nI 1))))] := hD
          have hb2 : rowU (upd f (0 + a) (nI 1)) a (bcU 2 u) := hb1.bc_f ha (W := 2) (s := 1) rfl (by decide) h_t_15 (by rw [bpU_ne _ _ (by decide)]; omega) (bp_ok h3 h4).1 (bp_ok h3 h4).2 e_t_15 c_16
          refine lv_aload_n hx hb dX12_counts_117 rfl (lv_at hl 2 rfl) ?_
          refine xget C hP 0 rfl rfl zuX12 0 (by decide) zw5_213 rfl dX12_counts_118 ?_
          refine lv_iload_n hx hb dX12_counts_121 rfl (lv_at hl 1 rfl) ?_
          refine xiald C hP 1 rfl (8 + a) rfl (by omega) (by decide) dX12_counts_122 ?_
          refine lv_iload_n hx hb dX12_counts_123 rfl (lv_at hl 4 rfl) ?_
          refine lv_icmp_ne (tgt := 143) hx hb dX12_counts_124 (by decide) (fun c_18 => ?_) (fun c_18 => ?_)
          · -- 124 t
            refine lv_aload_n hx hb dX12_counts_143 rfl (lv_at hl 2 rfl) ?_
            refine xget C hP 0 rfl rfl zuX12 0 (by decide) zw5_213 rfl dX12_counts_144 ?_
            refine lv_iload_n hx hb dX12_counts_147 rfl (lv_at hl 1 rfl) ?_
            refine lv_iload_n hx hb dX12_counts_148 rfl (lv_at hl 4 rfl) ?_
            refine xiast C hP hD hS 1 rfl (8 + a) rfl (by omega) (by decide) dX12_counts_149 ?_
            clear hP hD hS
            try clear locs
            try clear H
            intro H locs hP hD hS
            replace hP : va_P D vwCl [(hm, .inr (12, [.ref ms, .ref mkp, .int (nI km), .ref mtr, .int (nI n), .int (nI k), .int (nI al), .int (nI be), .int ea, .int pr, .ref mas, .int nq, .int po, .int (nI en), .ref mso, .ref mon, .ref mot, .ref man, .int th, .int xd, .ref mst, .ref msm, .ref mtb, .ref mti, .ref mfr, .ref mbn, .ref mbs, .ref mde, .int sF, .int sN, .int sS, .int ig, .long xa, .long xb, .ref maa, .ref mab, .ref mba, .ref mbb])), (ms, .inl (cs 0, 288, .inl (upd (upd f (0 + a) (nI 1)) (8 + a) (nI 1))))] H := hP
            replace hD : va_D A [(hm, .inr (12, [.ref ms, .ref mkp, .int (nI km), .ref mtr, .int (nI n), .int (nI k), .int (nI al), .int (nI be), .int ea, .int pr, .ref mas, .int nq, .int po, .int (nI en), .ref mso, .ref mon, .ref mot, .ref man, .int th, .int xd, .ref mst, .ref msm, .ref mtb, .ref mti, .ref mfr, .ref mbn, .ref mbs, .ref mde, .int sF, .int sN, .int sS, .int ig, .long xa, .long xb, .ref maa, .ref mab, .ref mba, .ref mbb])), (ms, .inl (cs 0, 288, .inl (upd (upd f (0 + a) (nI 1)) (8 + a) (nI 1))))] := hD
            refine lv_aload_n hx hb dX12_counts_150 rfl (lv_at hl 2 rfl) ?_
            refine xget C hP 0 rfl rfl zuX12 0 (by decide) zw5_213 rfl dX12_counts_151 ?_
            refine lv_bipush (v := nI 16) hx hb dX12_counts_154 (by decide) ?_
            refine lv_iload_n hx hb dX12_counts_156 rfl (lv_at hl 3 rfl) ?_
            refine lv_iadd hx hb dX12_counts_157 ?_
            refine lv_topi (nm_r (e' := nI (16 + a)) (nI_add _ _) ?_)
            refine lv_iconst (v := nI 1) hx hb dX12_counts_158 (by decide) ?_
            refine xiast C hP hD hS 1 rfl (16 + a) rfl (by omega) (by decide) dX12_counts_159 ?_
            clear hP hD hS
            try clear locs
            try clear H
            intro H locs hP hD hS
            replace hP : va_P D vwCl [(hm, .inr (12, [.ref ms, .ref mkp, .int (nI km), .ref mtr, .int (nI n), .int (nI k), .int (nI al), .int (nI be), .int ea, .int pr, .ref mas, .int nq, .int po, .int (nI en), .ref mso, .ref mon, .ref mot, .ref man, .int th, .int xd, .ref mst, .ref msm, .ref mtb, .ref mti, .ref mfr, .ref mbn, .ref mbs, .ref mde, .int sF, .int sN, .int sS, .int ig, .long xa, .long xb, .ref maa, .ref mab, .ref mba, .ref mbb])), (ms, .inl (cs 0, 288, .inl (upd (upd (upd f (0 + a) (nI 1)) (8 + a) (nI 1)) (16 + a) (nI 1))))] H := hP
            replace hD : va_D A [(hm, .inr (12, [.ref ms, .ref mkp, .int (nI km), .ref mtr, .int (nI n), .int (nI k), .int (nI al), .int (nI be), .int ea, .int pr, .ref mas, .int nq, .int po, .int (nI en), .ref mso, .ref mon, .ref mot, .ref man, .int th, .int xd, .ref mst, .ref msm, .ref mtb, .ref mti, .ref mfr, .ref mbn, .ref mbs, .ref mde, .int sF, .int sN, .int sS, .int ig, .long xa, .long xb, .ref maa, .ref mab, .ref mba, .ref mbb])), (ms, .inl (cs 0, 288, .inl (upd (upd (upd f (0 + a) (nI 1)) (8 + a) (nI 1)) (16 + a) (nI 1))))] := hD
            exact xretv C (upd (upd (upd f (0 + a) (nI 1)) (8 + a) (nI 1)) (16 + a) (nI 1)) (⟨(by rw [show cdI (nI 1) = 2 from by decide, cntU_b (by decide) c_12]; exact hb2.bal_f ha (s := 1) rfl c_18), (fun j q1 q2 q3 q4 q5 => by simp only [upd]; repeat (first | rfl | rw [if_neg q1] | rw [if_neg q2] | rw [if_neg q3] | rw [if_neg q4] | rw [if_neg q5])), (colP_hi (i := 16 + a) (colP_hi (i := 8 + a) (colP_up hs (0 + a) colV_1) (nI 1) (by omega)) (nI 1) (by omega))⟩) hP hD hS (Nat.le_of_ble_eq_true rfl) (Nat.le_of_ble_eq_true rfl) dX12_counts_160
          · -- 124 f
            refine lv_aload_n hx hb dX12_counts_127 rfl (lv_at hl 2 rfl) ?_
            refine xget C hP 0 rfl rfl zuX12 0 (by decide) zw5_213 rfl dX12_counts_128 ?_
            refine lv_bipush (v := nI 16) hx hb dX12_counts_131 (by decide) ?_
            refine lv_iload_n hx hb dX12_counts_133 rfl (lv_at hl 3 rfl) ?_
            refine lv_iadd hx hb dX12_counts_134 ?_
            refine lv_topi (nm_r (e' := nI (16 + a)) (nI_add _ _) ?_)
            refine lv_dup2_11 hx hb dX12_counts_135 rfl rfl ?_
            refine xiald C hP 1 rfl (16 + a) rfl (by omega) (by decide) dX12_counts_136 ?_
            refine lv_iconst (v := nI 1) hx hb dX12_counts_137 (by decide) ?_
            refine lv_iadd hx hb dX12_counts_138 ?_
            refine xiast C hP hD hS 1 rfl (16 + a) rfl (by omega) (by decide) dX12_counts_139 ?_
            clear hP hD hS
            try clear locs
            try clear H
            intro H locs hP hD hS
            replace hP : va_P D vwCl [(hm, .inr (12, [.ref ms, .ref mkp, .int (nI km), .ref mtr, .int (nI n), .int (nI k), .int (nI al), .int (nI be), .int ea, .int pr, .ref mas, .int nq, .int po, .int (nI en), .ref mso, .ref mon, .ref mot, .ref man, .int th, .int xd, .ref mst, .ref msm, .ref mtb, .ref mti, .ref mfr, .ref mbn, .ref mbs, .ref mde, .int sF, .int sN, .int sS, .int ig, .long xa, .long xb, .ref maa, .ref mab, .ref mba, .ref mbb])), (ms, .inl (cs 0, 288, .inl (upd (upd f (0 + a) (nI 1)) (16 + a) (((upd f (0 + a) (nI 1)) (16 + a)) + (nI 1)))))] H := hP
            replace hD : va_D A [(hm, .inr (12, [.ref ms, .ref mkp, .int (nI km), .ref mtr, .int (nI n), .int (nI k), .int (nI al), .int (nI be), .int ea, .int pr, .ref mas, .int nq, .int po, .int (nI en), .ref mso, .ref mon, .ref mot, .ref man, .int th, .int xd, .ref mst, .ref msm, .ref mtb, .ref mti, .ref mfr, .ref mbn, .ref mbs, .ref mde, .int sF, .int sN, .int sS, .int ig, .long xa, .long xb, .ref maa, .ref mab, .ref mba, .ref mbb])), (ms, .inl (cs 0, 288, .inl (upd (upd f (0 + a) (nI 1)) (16 + a) (((upd f (0 + a) (nI 1)) (16 + a)) + (nI 1)))))] := hD
            refine lv_goto (tgt := 160) hx hb dX12_counts_140 (by decide) ?_
            exact xretv C (upd (upd f (0 + a) (nI 1)) (16 + a) (((upd f (0 + a) (nI 1)) (16 + a)) + (nI 1))) (⟨(by rw [show cdI (nI 1) = 2 from by decide, cntU_b (by decide) c_12]; exact hb2.bal_t ha (s := 1) rfl (by decide) (by rw [bcU_ne _ _ (by decide) (by decide)]; exact h1) c_18), (fun j q1 q2 q3 q4 q5 => by simp only [upd]; repeat (first | rfl | rw [if_neg q1] | rw [if_neg q2] | rw [if_neg q3] | rw [if_neg q4] | rw [if_neg q5])), (colP_hi (i := 16 + a) (colP_up hs (0 + a) colV_1) (((upd f (0 + a) (nI 1)) (16 + a)) + (nI 1)) (by omega))⟩) hP hD hS (Nat.le_of_ble_eq_true rfl) (Nat.le_of_ble_eq_true rfl) dX12_counts_160
      · -- 63 f
        refine lv_aload_n hx hb dX12_counts_66 rfl (lv_at hl 2 rfl) ?_
        refine xget C hP 0 rfl rfl zuX12 0 (by decide) zw5_213 rfl dX12_counts_67 ?_
        refine lv_iload hx hb dX12_counts_70 (lv_at hl 0 rfl) ?_
        refine lv_dup2_11 hx hb dX12_counts_72 rfl rfl ?_
        refine xiald C hP 1 rfl (32 + a) rfl (by omega) (by decide) dX12_counts_73 ?_
        refine lv_iconst (v := nI 1) hx hb dX12_counts_74 (by decide) ?_
        refine lv_iadd hx hb dX12_counts_75 ?_
        refine xiast C hP hD hS 1 rfl (32 + a) rfl (by omega) (by decide) dX12_counts_76 ?_
        clear hP hD hS
        try clear locs
        try clear H
        intro H locs hP hD hS
        replace hP : va_P D vwCl [(hm, .inr (12, [.ref ms, .ref mkp, .int (nI km), .ref mtr, .int (nI n), .int (nI k), .int (nI al), .int (nI be), .int ea, .int pr, .ref mas, .int nq, .int po, .int (nI en), .ref mso, .ref mon, .ref mot, .ref man, .int th, .int xd, .ref mst, .ref msm, .ref mtb, .ref mti, .ref mfr, .ref mbn, .ref mbs, .ref mde, .int sF, .int sN, .int sS, .int ig, .long xa, .long xb, .ref maa, .ref mab, .ref mba, .ref mbb])), (ms, .inl (cs 0, 288, .inl (upd f (32 + a) ((f (32 + a)) + (nI 1)))))] H := hP
        replace hD : va_D A [(hm, .inr (12, [.ref ms, .ref mkp, .int (nI km), .ref mtr, .int (nI n), .int (nI k), .int (nI al), .int (nI be), .int ea, .int pr, .ref mas, .int nq, .int po, .int (nI en), .ref mso, .ref mon, .ref mot, .ref man, .int th, .int xd, .ref mst, .ref msm, .ref mtb, .ref mti, .ref mfr, .ref mbn, .ref mbs, .ref mde, .int sF, .int sN, .int sS, .int ig, .long xa, .long xb, .ref maa, .ref mab, .ref mba, .ref mbb])), (ms, .inl (cs 0, 288, .inl (upd f (32 + a) ((f (32 + a)) + (nI 1)))))] := hD
        have hb1 : rowU (upd f (32 + a) ((f (32 + a)) + (nI 1))) a (bpU 2 u) := hu.bp_f ha (t := 1) (by decide) h4 c_14
        refine lv_aload_n hx hb dX12_counts_77 rfl (lv_at hl 2 rfl) ?_
        refine xget C hP 0 rfl rfl zuX12 0 (by decide) zw5_213 rfl dX12_counts_78 ?_
        refine lv_iload hx hb dX12_counts_81 (lv_at hl 0 rfl) ?_
        refine xiald C hP 1 rfl (32 + a) rfl (by omega) (by decide) dX12_counts_83 ?_
        refine lv_aload_n hx hb dX12_counts_84 rfl (lv_at hl 2 rfl) ?_
        refine xget C hP 0 rfl rfl zuX12 0 (by decide) zw5_213 rfl dX12_counts_85 ?_
        refine lv_bipush (v := nI 24) hx hb dX12_counts_88 (by decide) ?_
        refine lv_bipush (v := nI 8) hx hb dX12_counts_90 (by decide) ?_
        refine lv_aload_n hx hb dX12_counts_92 rfl (lv_at hl 2 rfl) ?_
        refine xget C hP 0 rfl rfl zuX12 0 (by decide) zw5_213 rfl dX12_counts_93 ?_
        refine lv_iconst (v := nI 0) hx hb dX12_counts_96 (by decide) ?_
        refine lv_iload_n hx hb dX12_counts_97 rfl (lv_at hl 3 rfl) ?_
        refine lv_iadd hx hb dX12_counts_98 ?_
        refine lv_topi (nm_r (e' := nI (0 + a)) (nI_add _ _) ?_)
        refine xiald C hP 1 rfl (0 + a) rfl (by omega) (by decide) dX12_counts_99 ?_
        obtain ⟨t_19, h_t_19, e_t_19⟩ := (col_nat ((colP_hi (i := 32 + a) hs ((f (32 + a)) + (nI 1)) (by omega)) (0 + a) (by omega)) (by first | exact hna | (unfold upd; rw [if_neg (by omega)]; exact hna)))
        refine lv_topi (nm_r (e' := nI t_19) e_t_19 ?_)
        refine lv_imul hx hb dX12_counts_100 ?_
        refine lv_topi (nm_r (e' := nI (8 * t_19)) (pk_mul _ _) ?_)
        refine lv_iadd hx hb dX12_counts_101 ?_
        refine lv_topi (nm_r (e' := nI (24 + (8 * t_19))) (nI_add _ _) ?_)
        refine lv_iload_n hx hb dX12_counts_102 rfl (lv_at hl 3 rfl) ?_
        refine lv_iadd hx hb dX12_counts_103 ?_
        refine lv_topi (nm_r (e' := nI ((24 + (8 * t_19)) + a)) (nI_add _ _) ?_)
        refine xiald C hP 1 rfl ((24 + (8 * t_19)) + a) rfl (by omega) (by decide) dX12_counts_104 ?_
        refine lv_icmp_le (tgt := 117) hx hb dX12_counts_105 (by decide) (fun c_20 => ?_) (fun c_20 => ?_)
        · -- 105 t
          have hb2 : rowU (upd f (32 + a) ((f (32 + a)) + (nI 1))) a (bcU 2 u) := hb1.bc_t (W := 2) (s := 1) rfl (by decide) h_t_19 (by rw [bpU_ne _ _ (by decide)]; omega) (bp_ok h3 h4).1 (bp_ok h3 h4).2 e_t_19 c_20
          refine lv_aload_n hx hb dX12_counts_117 rfl (lv_at hl 2 rfl) ?_
          refine xget C hP 0 rfl rfl zuX12 0 (by decide) zw5_213 rfl dX12_counts_118 ?_
          refine lv_iload_n hx hb dX12_counts_121 rfl (lv_at hl 1 rfl) ?_
          refine xiald C hP 1 rfl (8 + a) rfl (by omega) (by decide) dX12_counts_122 ?_
          refine lv_iload_n hx hb dX12_counts_123 rfl (lv_at hl 4 rfl) ?_
          refine lv_icmp_ne (tgt := 143) hx hb dX12_counts_124 (by decide) (fun c_21 => ?_) (fun c_21 => ?_)
          · -- 124 t
            refine lv_aload_n hx hb dX12_counts_143 rfl (lv_at hl 2 rfl) ?_
            refine xget C hP 0 rfl rfl zuX12 0 (by decide) zw5_213 rfl dX12_counts_144 ?_
            refine lv_iload_n hx hb dX12_counts_147 rfl (lv_at hl 1 rfl) ?_
            refine lv_iload_n hx hb dX12_counts_148 rfl (lv_at hl 4 rfl) ?_
            refine xiast C hP hD hS 1 rfl (8 + a) rfl (by omega) (by decide) dX12_counts_149 ?_
            clear hP hD hS
            try clear locs
            try clear H
            intro H locs hP hD hS
            replace hP : va_P D vwCl [(hm, .inr (12, [.ref ms, .ref mkp, .int (nI km), .ref mtr, .int (nI n), .int (nI k), .int (nI al), .int (nI be), .int ea, .int pr, .ref mas, .int nq, .int po, .int (nI en), .ref mso, .ref mon, .ref mot, .ref man, .int th, .int xd, .ref mst, .ref msm, .ref mtb, .ref mti, .ref mfr, .ref mbn, .ref mbs, .ref mde, .int sF, .int sN, .int sS, .int ig, .long xa, .long xb, .ref maa, .ref mab, .ref mba, .ref mbb])), (ms, .inl (cs 0, 288, .inl (upd (upd f (32 + a) ((f (32 + a)) + (nI 1))) (8 + a) (nI 1))))] H := hP
            replace hD : va_D A [(hm, .inr (12, [.ref ms, .ref mkp, .int (nI km), .ref mtr, .int (nI n), .int (nI k), .int (nI al), .int (nI be), .int ea, .int pr, .ref mas, .int nq, .int po, .int (nI en), .ref mso, .ref mon, .ref mot, .ref man, .int th, .int xd, .ref mst, .ref msm, .ref mtb, .ref mti, .ref mfr, .ref mbn, .ref mbs, .ref mde, .int sF, .int sN, .int sS, .int ig, .long xa, .long xb, .ref maa, .ref mab, .ref mba, .ref mbb])), (ms, .inl (cs 0, 288, .inl (upd (upd f (32 + a) ((f (32 + a)) + (nI 1))) (8 + a) (nI 1))))] := hD
            refine lv_aload_n hx hb dX12_counts_150 rfl (lv_at hl 2 rfl) ?_
            refine xget C hP 0 rfl rfl zuX12 0 (by decide) zw5_213 rfl dX12_counts_151 ?_
            refine lv_bipush (v := nI 16) hx hb dX12_counts_154 (by decide) ?_
            refine lv_iload_n hx hb dX12_counts_156 rfl (lv_at hl 3 rfl) ?_
            refine lv_iadd hx hb dX12_counts_157 ?_
            refine lv_topi (nm_r (e' := nI (16 + a)) (nI_add _ _) ?_)
            refine lv_iconst (v := nI 1) hx hb dX12_counts_158 (by decide) ?_
            refine xiast C hP hD hS 1 rfl (16 + a) rfl (by omega) (by decide) dX12_counts_159 ?_
            clear hP hD hS
            try clear locs
            try clear H
            intro H locs hP hD hS
            replace hP : va_P D vwCl [(hm, .inr (12, [.ref ms, .ref mkp, .int (nI km), .ref mtr, .int (nI n), .int (nI k), .int (nI al), .int (nI be), .int ea, .int pr, .ref mas, .int nq, .int po, .int (nI en), .ref mso, .ref mon, .ref mot, .ref man, .int th, .int xd, .ref mst, .ref msm, .ref mtb, .ref mti, .ref mfr, .ref mbn, .ref mbs, .ref mde, .int sF, .int sN, .int sS, .int ig, .long xa, .long xb, .ref maa, .ref mab, .ref mba, .ref mbb])), (ms, .inl (cs 0, 288, .inl (upd (upd (upd f (32 + a) ((f (32 + a)) + (nI 1))) (8 + a) (nI 1)) (16 + a) (nI 1))))] H := hP
            replace hD : va_D A [(hm, .inr (12, [.ref ms, .ref mkp, .int (nI km), .ref mtr, .int (nI n), .int (nI k), .int (nI al), .int (nI be), .int ea, .int pr, .ref mas, .int nq, .int po, .int (nI en), .ref mso, .ref mon, .ref mot, .ref man, .int th, .int xd, .ref mst, .ref msm, .ref mtb, .ref mti, .ref mfr, .ref mbn, .ref mbs, .ref mde, .int sF, .int sN, .int sS, .int ig, .long xa, .long xb, .ref maa, .ref mab, .ref mba, .ref mbb])), (ms, .inl (cs 0, 288, .inl (upd (upd (upd f (32 + a) ((f (32 + a)) + (nI 1))) (8 + a) (nI 1)) (16 + a) (nI 1))))] := hD
            exact xretv C (upd (upd (upd f (32 + a) ((f (32 + a)) + (nI 1))) (8 + a) (nI 1)) (16 + a) (nI 1)) (⟨(by rw [show cdI (nI 1) = 2 from by decide, cntU_b (by decide) c_12]; exact hb2.bal_f ha (s := 1) rfl c_21), (fun j q1 q2 q3 q4 q5 => by simp only [upd]; repeat (first | rfl | rw [if_neg q1] | rw [if_neg q2] | rw [if_neg q3] | rw [if_neg q4] | rw [if_neg q5])), (colP_hi (i := 16 + a) (colP_hi (i := 8 + a) (colP_hi (i := 32 + a) hs ((f (32 + a)) + (nI 1)) (by omega)) (nI 1) (by omega)) (nI 1) (by omega))⟩) hP hD hS (Nat.le_of_ble_eq_true rfl) (Nat.le_of_ble_eq_true rfl) dX12_counts_160
          · -- 124 f
            refine lv_aload_n hx hb dX12_counts_127 rfl (lv_at hl 2 rfl) ?_
            refine xget C hP 0 rfl rfl zuX12 0 (by decide) zw5_213 rfl dX12_counts_128 ?_
            refine lv_bipush (v := nI 16) hx hb dX12_counts_131 (by decide) ?_
            refine lv_iload_n hx hb dX12_counts_133 rfl (lv_at hl 3 rfl) ?_
            refine lv_iadd hx hb dX12_counts_134 ?_
            refine lv_topi (nm_r (e' := nI (16 + a)) (nI_add _ _) ?_)
            refine lv_dup2_11 hx hb dX12_counts_135 rfl rfl ?_
            refine xiald C hP 1 rfl (16 + a) rfl (by omega) (by decide) dX12_counts_136 ?_
            refine lv_iconst (v := nI 1) hx hb dX12_counts_137 (by decide) ?_
            refine lv_iadd hx hb dX12_counts_138 ?_
            refine xiast C hP hD hS 1 rfl (16 + a) rfl (by omega) (by decide) dX12_counts_139 ?_
            clear hP hD hS
            try clear locs
            try clear H
            intro H locs hP hD hS
            replace hP : va_P D vwCl [(hm, .inr (12, [.ref ms, .ref mkp, .int (nI km), .ref mtr, .int (nI n), .int (nI k), .int (nI al), .int (nI be), .int ea, .int pr, .ref mas, .int nq, .int po, .int (nI en), .ref mso, .ref mon, .ref mot, .ref man, .int th, .int xd, .ref mst, .ref msm, .ref mtb, .ref mti, .ref mfr, .ref mbn, .ref mbs, .ref mde, .int sF, .int sN, .int sS, .int ig, .long xa, .long xb, .ref maa, .ref mab, .ref mba, .ref mbb])), (ms, .inl (cs 0, 288, .inl (upd (upd f (32 + a) ((f (32 + a)) + (nI 1))) (16 + a) (((upd f (32 + a) ((f (32 + a)) + (nI 1))) (16 + a)) + (nI 1)))))] H := hP
            replace hD : va_D A [(hm, .inr (12, [.ref ms, .ref mkp, .int (nI km), .ref mtr, .int (nI n), .int (nI k), .int (nI al), .int (nI be), .int ea, .int pr, .ref mas, .int nq, .int po, .int (nI en), .ref mso, .ref mon, .ref mot, .ref man, .int th, .int xd, .ref mst, .ref msm, .ref mtb, .ref mti, .ref mfr, .ref mbn, .ref mbs, .ref mde, .int sF, .int sN, .int sS, .int ig, .long xa, .long xb, .ref maa, .ref mab, .ref mba, .ref mbb])), (ms, .inl (cs 0, 288, .inl (upd (upd f (32 + a) ((f (32 + a)) + (nI 1))) (16 + a) (((upd f (32 + a) ((f (32 + a)) + (nI 1))) (16 + a)) + (nI 1)))))] := hD
            refine lv_goto (tgt := 160) hx hb dX12_counts_140 (by decide) ?_
            exact xretv C (upd (upd f (32 + a) ((f (32 + a)) + (nI 1))) (16 + a) (((upd f (32 + a) ((f (32 + a)) + (nI 1))) (16 + a)) + (nI 1))) (⟨(by rw [show cdI (nI 1) = 2 from by decide, cntU_b (by decide) c_12]; exact hb2.bal_t ha (s := 1) rfl (by decide) (by rw [bcU_ne _ _ (by decide) (by decide)]; exact h1) c_21), (fun j q1 q2 q3 q4 q5 => by simp only [upd]; repeat (first | rfl | rw [if_neg q1] | rw [if_neg q2] | rw [if_neg q3] | rw [if_neg q4] | rw [if_neg q5])), (colP_hi (i := 16 + a) (colP_hi (i := 32 + a) hs ((f (32 + a)) + (nI 1)) (by omega)) (((upd f (32 + a) ((f (32 + a)) + (nI 1))) (16 + a)) + (nI 1)) (by omega))⟩) hP hD hS (Nat.le_of_ble_eq_true rfl) (Nat.le_of_ble_eq_true rfl) dX12_counts_160
        · -- 105 f
          refine lv_aload_n hx hb dX12_counts_108 rfl (lv_at hl 2 rfl) ?_
          refine xget C hP 0 rfl rfl zuX12 0 (by decide) zw5_213 rfl dX12_counts_109 ?_
          refine lv_iconst (v := nI 0) hx hb dX12_counts_112 (by decide) ?_
          refine lv_iload_n hx hb dX12_counts_113 rfl (lv_at hl 3 rfl) ?_
          refine lv_iadd hx hb dX12_counts_114 ?_
          refine lv_topi (nm_r (e' := nI (0 + a)) (nI_add _ _) ?_)
          refine lv_iload_n hx hb dX12_counts_115 rfl (lv_at hl 4 rfl) ?_
          refine xiast C hP hD hS 1 rfl (0 + a) rfl (by omega) (by decide) dX12_counts_116 ?_
          clear hP hD hS
          try clear locs
          try clear H
          intro H locs hP hD hS
          replace hP : va_P D vwCl [(hm, .inr (12, [.ref ms, .ref mkp, .int (nI km), .ref mtr, .int (nI n), .int (nI k), .int (nI al), .int (nI be), .int ea, .int pr, .ref mas, .int nq, .int po, .int (nI en), .ref mso, .ref mon, .ref mot, .ref man, .int th, .int xd, .ref mst, .ref msm, .ref mtb, .ref mti, .ref mfr, .ref mbn, .ref mbs, .ref mde, .int sF, .int sN, .int sS, .int ig, .long xa, .long xb, .ref maa, .ref mab, .ref mba, .ref mbb])), (ms, .inl (cs 0, 288, .inl (upd (upd f (32 + a) ((f (32 + a)) + (nI 1))) (0 + a) (nI 1))))] H := hP
          replace hD : va_D A [(hm, .inr (12, [.ref ms, .ref mkp, .int (nI km), .ref mtr, .int (nI n), .int (nI k), .int (nI al), .int (nI be), .int ea, .int pr, .ref mas, .int nq, .int po, .int (nI en), .ref mso, .ref mon, .ref mot, .ref man, .int th, .int xd, .ref mst, .ref msm, .ref mtb, .ref mti, .ref mfr, .ref mbn, .ref mbs, .ref mde, .int sF, .int sN, .int sS, .int ig, .long xa, .long xb, .ref maa, .ref mab, .ref mba, .ref mbb])), (ms, .inl (cs 0, 288, .inl (upd (upd f (32 + a) ((f (32 + a)) + (nI 1))) (0 + a) (nI 1))))] := hD
          have hb2 : rowU (upd (upd f (32 + a) ((f (32 + a)) + (nI 1))) (0 + a) (nI 1)) a (bcU 2 u) := hb1.bc_f ha (W := 2) (s := 1) rfl (by decide) h_t_19 (by rw [bpU_ne _ _ (by decide)]; omega) (bp_ok h3 h4).1 (bp_ok h3 h4).2 e_t_19 c_20
          refine lv_aload_n hx hb dX12_counts_117 rfl (lv_at hl 2 rfl) ?_
          refine xget C hP 0 rfl rfl zuX12 0 (by decide) zw5_213 rfl dX12_counts_118 ?_
          refine lv_iload_n hx hb dX12_counts_121 rfl (lv_at hl 1 rfl) ?_
          refine xiald C hP 1 rfl (8 + a) rfl (by omega) (by decide) dX12_counts_122 ?_
          refine lv_iload_n hx hb dX12_counts_123 rfl (lv_at hl 4 rfl) ?_
          refine lv_icmp_ne (tgt := 143) hx hb dX12_counts_124 (by decide) (fun c_22 => ?_) (fun c_22 => ?_)
          · -- 124 t
            refine lv_aload_n hx hb dX12_counts_143 rfl (lv_at hl 2 rfl) ?_
            refine xget C hP 0 rfl rfl zuX12 0 (by decide) zw5_213 rfl dX12_counts_144 ?_
            refine lv_iload_n hx hb dX12_counts_147 rfl (lv_at hl 1 rfl) ?_
            refine lv_iload_n hx hb dX12_counts_148 rfl (lv_at hl 4 rfl) ?_
            refine xiast C hP hD hS 1 rfl (8 + a) rfl (by omega) (by decide) dX12_counts_149 ?_
            clear hP hD hS
            try clear locs
            try clear H
            intro H locs hP hD hS
            replace hP : va_P D vwCl [(hm, .inr (12, [.ref ms, .ref mkp, .int (nI km), .ref mtr, .int (nI n), .int (nI k), .int (nI al), .int (nI be), .int ea, .int pr, .ref mas, .int nq, .int po, .int (nI en), .ref mso, .ref mon, .ref mot, .ref man, .int th, .int xd, .ref mst, .ref msm, .ref mtb, .ref mti, .ref mfr, .ref mbn, .ref mbs, .ref mde, .int sF, .int sN, .int sS, .int ig, .long xa, .long xb, .ref maa, .ref mab, .ref mba, .ref mbb])), (ms, .inl (cs 0, 288, .inl (upd (upd (upd f (32 + a) ((f (32 + a)) + (nI 1))) (0 + a) (nI 1)) (8 + a) (nI 1))))] H := hP
            replace hD : va_D A [(hm, .inr (12, [.ref ms, .ref mkp, .int (nI km), .ref mtr, .int (nI n), .int (nI k), .int (nI al), .int (nI be), .int ea, .int pr, .ref mas, .int nq, .int po, .int (nI en), .ref mso, .ref mon, .ref mot, .ref man, .int th, .int xd, .ref mst, .ref msm, .ref mtb, .ref mti, .ref mfr, .ref mbn, .ref mbs, .ref mde, .int sF, .int sN, .int sS, .int ig, .long xa, .long xb, .ref maa, .ref mab, .ref mba, .ref mbb])), (ms, .inl (cs 0, 288, .inl (upd (upd (upd f (32 + a) ((f (32 + a)) + (nI 1))) (0 + a) (nI 1)) (8 + a) (nI 1))))] := hD
            refine lv_aload_n hx hb dX12_counts_150 rfl (lv_at hl 2 rfl) ?_
            refine xget C hP 0 rfl rfl zuX12 0 (by decide) zw5_213 rfl dX12_counts_151 ?_
            refine lv_bipush (v := nI 16) hx hb dX12_counts_154 (by decide) ?_
            refine lv_iload_n hx hb dX12_counts_156 rfl (lv_at hl 3 rfl) ?_
            refine lv_iadd hx hb dX12_counts_157 ?_
            refine lv_topi (nm_r (e' := nI (16 + a)) (nI_add _ _) ?_)
            refine lv_iconst (v := nI 1) hx hb dX12_counts_158 (by decide) ?_
            refine xiast C hP hD hS 1 rfl (16 + a) rfl (by omega) (by decide) dX12_counts_159 ?_
            clear hP hD hS
            try clear locs
            try clear H
            intro H locs hP hD hS
            replace hP : va_P D vwCl [(hm, .inr (12, [.ref ms, .ref mkp, .int (nI km), .ref mtr, .int (nI n), .int (nI k), .int (nI al), .int (nI be), .int ea, .int pr, .ref mas, .int nq, .int po, .int (nI en), .ref mso, .ref mon, .ref mot, .ref man, .int th, .int xd, .ref mst, .ref msm, .ref mtb, .ref mti, .ref mfr, .ref mbn, .ref mbs, .ref mde, .int sF, .int sN, .int sS, .int ig, .long xa, .long xb, .ref maa, .ref mab, .ref mba, .ref mbb])), (ms, .inl (cs 0, 288, .inl (upd (upd (upd (upd f (32 + a) ((f (32 + a)) + (nI 1))) (0 + a) (nI 1)) (8 + a) (nI 1)) (16 + a) (nI 1))))] H := hP
            replace hD : va_D A [(hm, .inr (12, [.ref ms, .ref mkp, .int (nI km), .ref mtr, .int (nI n), .int (nI k), .int (nI al), .int (nI be), .int ea, .int pr, .ref mas, .int nq, .int po, .int (nI en), .ref mso, .ref mon, .ref mot, .ref man, .int th, .int xd, .ref mst, .ref msm, .ref mtb, .ref mti, .ref mfr, .ref mbn, .ref mbs, .ref mde, .int sF, .int sN, .int sS, .int ig, .long xa, .long xb, .ref maa, .ref mab, .ref mba, .ref mbb])), (ms, .inl (cs 0, 288, .inl (upd (upd (upd (upd f (32 + a) ((f (32 + a)) + (nI 1))) (0 + a) (nI 1)) (8 + a) (nI 1)) (16 + a) (nI 1))))] := hD
            exact xretv C (upd (upd (upd (upd f (32 + a) ((f (32 + a)) + (nI 1))) (0 + a) (nI 1)) (8 + a) (nI 1)) (16 + a) (nI 1)) (⟨(by rw [show cdI (nI 1) = 2 from by decide, cntU_b (by decide) c_12]; exact hb2.bal_f ha (s := 1) rfl c_22), (fun j q1 q2 q3 q4 q5 => by simp only [upd]; repeat (first | rfl | rw [if_neg q1] | rw [if_neg q2] | rw [if_neg q3] | rw [if_neg q4] | rw [if_neg q5])), (colP_hi (i := 16 + a) (colP_hi (i := 8 + a) (colP_up (colP_hi (i := 32 + a) hs ((f (32 + a)) + (nI 1)) (by omega)) (0 + a) colV_1) (nI 1) (by omega)) (nI 1) (by omega))⟩) hP hD hS (Nat.le_of_ble_eq_true rfl) (Nat.le_of_ble_eq_true rfl) dX12_counts_160
          · -- 124 f
            refine lv_aload_n hx hb dX12_counts_127 rfl (lv_at hl 2 rfl) ?_
            refine xget C hP 0 rfl rfl zuX12 0 (by decide) zw5_213 rfl dX12_counts_128 ?_
            refine lv_bipush (v := nI 16) hx hb dX12_counts_131 (by decide) ?_
            refine lv_iload_n hx hb dX12_counts_133 rfl (lv_at hl 3 rfl) ?_
            refine lv_iadd hx hb dX12_counts_134 ?_
            refine lv_topi (nm_r (e' := nI (16 + a)) (nI_add _ _) ?_)
            refine lv_dup2_11 hx hb dX12_counts_135 rfl rfl ?_
            refine xiald C hP 1 rfl (16 + a) rfl (by omega) (by decide) dX12_counts_136 ?_
            refine lv_iconst (v := nI 1) hx hb dX12_counts_137 (by decide) ?_
            refine lv_iadd hx hb dX12_counts_138 ?_
            refine xiast C hP hD hS 1 rfl (16 + a) rfl (by omega) (by decide) dX12_counts_139 ?_
            clear hP hD hS
            try clear locs
            try clear H
            intro H locs hP hD hS
            replace hP : va_P D vwCl [(hm, .inr (12, [.ref ms, .ref mkp, .int (nI km), .ref mtr, .int (nI n), .int (nI k), .int (nI al), .int (nI be), .int ea, .int pr, .ref mas, .int nq, .int po, .int (nI en), .ref mso, .ref mon, .ref mot, .ref man, .int th, .int xd, .ref mst, .ref msm, .ref mtb, .ref mti, .ref mfr, .ref mbn, .ref mbs, .ref mde, .int sF, .int sN, .int sS, .int ig, .long xa, .long xb, .ref maa, .ref mab, .ref mba, .ref mbb])), (ms, .inl (cs 0, 288, .inl (upd (upd (upd f (32 + a) ((f (32 + a)) + (nI 1))) (0 + a) (nI 1)) (16 + a) (((upd (upd f (32 + a) ((f (32 + a)) + (nI 1))) (0 + a) (nI 1)) (16 + a)) + (nI 1)))))] H := hP
            replace hD : va_D A [(hm, .inr (12, [.ref ms, .ref mkp, .int (nI km), .ref mtr, .int (nI n), .int (nI k), .int (nI al), .int (nI be), .int ea, .int pr, .ref mas, .int nq, .int po, .int (nI en), .ref mso, .ref mon, .ref mot, .ref man, .int th, .int xd, .ref mst, .ref msm, .ref mtb, .ref mti, .ref mfr, .ref mbn, .ref mbs, .ref mde, .int sF, .int sN, .int sS, .int ig, .long xa, .long xb, .ref maa, .ref mab, .ref mba, .ref mbb])), (ms, .inl (cs 0, 288, .inl (upd (upd (upd f (32 + a) ((f (32 + a)) + (nI 1))) (0 + a) (nI 1)) (16 + a) (((upd (upd f (32 + a) ((f (32 + a)) + (nI 1))) (0 + a) (nI 1)) (16 + a)) + (nI 1)))))] := hD
            refine lv_goto (tgt := 160) hx hb dX12_counts_140 (by decide) ?_
            exact xretv C (upd (upd (upd f (32 + a) ((f (32 + a)) + (nI 1))) (0 + a) (nI 1)) (16 + a) (((upd (upd f (32 + a) ((f (32 + a)) + (nI 1))) (0 + a) (nI 1)) (16 + a)) + (nI 1))) (⟨(by rw [show cdI (nI 1) = 2 from by decide, cntU_b (by decide) c_12]; exact hb2.bal_t ha (s := 1) rfl (by decide) (by rw [bcU_ne _ _ (by decide) (by decide)]; exact h1) c_22), (fun j q1 q2 q3 q4 q5 => by simp only [upd]; repeat (first | rfl | rw [if_neg q1] | rw [if_neg q2] | rw [if_neg q3] | rw [if_neg q4] | rw [if_neg q5])), (colP_hi (i := 16 + a) (colP_up (colP_hi (i := 32 + a) hs ((f (32 + a)) + (nI 1)) (by omega)) (0 + a) colV_1) (((upd (upd f (32 + a) ((f (32 + a)) + (nI 1))) (0 + a) (nI 1)) (16 + a)) + (nI 1)) (by omega))⟩) hP hD hS (Nat.le_of_ble_eq_true rfl) (Nat.le_of_ble_eq_true rfl) dX12_counts_160
