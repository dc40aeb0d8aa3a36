def prfM (en : Nat) (sof : Nat → Int32) (a : Nat) (f : Nat → Int32) : Prop := ∀ k, k < en → ∃ p, p < 16 ∧ f (96 + (8 * a + sT sof k)) = nI p
theorem prfM.of {en a : Nat} {sof f g : Nat → Int32} (h : prfM en sof a f) (e : ∀ i, i < 8 → g (96 + (8 * a + i)) = f (96 + (8 * a + i))) (hso : inP 16 8 sof) (hen : en ≤ 16) : prfM en sof a g := fun k hk => by
  obtain ⟨p, hp, h1⟩ := h k hk
  exact ⟨p, hp, (e _ (sT_eq hso (by omega)).1).trans h1⟩
theorem mrkM.prf {en a k : Nat} {sof anf f g : Nat → Int32} {x : Int32} (h : prfM en sof a f) (hk : k < 16) (ha : a < 8) (hso : inP 16 8 sof) (hen : en ≤ 16) (hm : mrkM en sof anf a k x f g) : prfM en sof a g := by
  have h8 := (sT_eq hso hk).1
  rcases hm with ⟨_, rfl⟩ | ⟨_, p, c1, c2, m, hp, _, _, hfp, _, _, h1, h2⟩
  · exact h.of (fun i hi => by unfold upd; rw [if_neg (by omega)]) hso hen
  · have hm : prfM en sof a m := by
      rcases h1 with ⟨_, rfl⟩ | ⟨_, rfl⟩
      · intro j hj
        unfold upd
        by_cases q : 96 + (8 * a + sT sof j) = 96 + (8 * a + sT sof k)
        · exact ⟨k, hk, if_pos q⟩
        · obtain ⟨p, hp, e⟩ := h j hj
          exact ⟨p, hp, (if_neg q).trans e⟩
      · exact h
    rcases h2 with ⟨_, rfl⟩ | ⟨_, rfl⟩
    · exact hm.of (fun i hi => by unfold upd; rw [if_neg (by omega)]) hso hen
    · exact hm.of (fun i hi => by unfold upd; rw [if_neg (by omega), if_neg (by omega)]) hso hen

set_option maxHeartbeats 4000000 in
set_option maxRecDepth 100000 in
theorem c_X12_pollsOne_b (l : Launch) (D : va_G) (cs : Nat → ClassId) (hm ms mkp mtr mas mso mon mot man mst msm mtb mti mfr mbn mbs mde maa mab mba mbb : Nat) (n k al be km en : Nat) (ea pr nq po th xd sF sN sS ig : Int32) (xa xb : Int64) (f : Nat → Int32) (sof onf otf anf : Nat → Int32) (a e0 : Nat) (x : Int32) (hn : 2 ≤ n ∧ n ≤ 8) (hen : en ≤ 16) (hso : inP 16 8 sof) (ha : a < 8) (he : e0 < en) (hon : parF en onf) (hot : parF en otf) (hprf : prfM en sof a f) (hal : al ≤ 8) : xMet l D cs yX12_pollsOne cX12_pollsOne 8 (some .int) ({ frames := 4, cells := 0, slots := 0, locals := 93 } : Room) [.ref hm, .int (nI a), .int (nI e0), .int x] [(hm, .inr (12, [.ref ms, .ref mkp, .int (nI km), .ref mtr, .int (nI n), .int (nI k), .int (nI al), .int (nI be), .int ea, .int pr, .ref mas, .int nq, .int po, .int (nI en), .ref mso, .ref mon, .ref mot, .ref man, .int th, .int xd, .ref mst, .ref msm, .ref mtb, .ref mti, .ref mfr, .ref mbn, .ref mbs, .ref mde, .int sF, .int sN, .int sS, .int ig, .long xa, .long xb, .ref maa, .ref mab, .ref mba, .ref mbb])), (ms, .inl (cs 0, 288, .inl f)), (mso, .inl (cs 0, 16, .inl sof)), (mon, .inl (cs 0, 16, .inl onf)), (mot, .inl (cs 0, 16, .inl otf)), (man, .inl (cs 0, 16, .inl anf))] (xQi D (fun (r : Int32) (u : (Nat → Int32) × Int32) => match u with | (fz, poz) => hldM n al be en ea sof onf otf anf a e0 x r f fz ∧ poz = po + nI 1) (fun (u : (Nat → Int32) × Int32) => match u with | (fz, poz) => [(hm, .inr (12, [.ref ms, .ref mkp, .int (nI km), .ref mtr, .int (nI n), .int (nI k), .int (nI al), .int (nI be), .int ea, .int pr, .ref mas, .int nq, .int poz, .int (nI en), .ref mso, .ref mon, .ref mot, .ref man, .int th, .int xd, .ref mst, .ref msm, .ref mtb, .ref mti, .ref mfr, .ref mbn, .ref mbs, .ref mde, .int sF, .int sN, .int sS, .int ig, .long xa, .long xb, .ref maa, .ref mab, .ref mba, .ref mbb])), (ms, .inl (cs 0, 288, .inl fz)), (mso, .inl (cs 0, 16, .inl sof)), (mon, .inl (cs 0, 16, .inl onf)), (mot, .inl (cs 0, 16, .inl otf)), (man, .inl (cs 0, 16, .inl anf))])) := by
  refine xMet.intro (by decide) (Nat.le_of_ble_eq_true rfl) ?_
  intro p e s m args below meth c A ls C hP hD hS hl
  have hx := C.1
  have hb := C.2.1
  have hz := C.2.2.2.2.1
  have hown := C.2.2.2.1
  have hA := C.2.2.2.2.2.2.2.2.2
  have hAO := C.2.2.2.2.2.2.2.2.1.2.2
  replace hl : lv_has ls 8 [(0, .ref hm), (1, .int (nI a)), (2, .int (nI e0)), (3, .int x)] := hl
  obtain ⟨H, hH⟩ : ∃ H, H = s.heap := ⟨_, rfl⟩
  replace hP : va_P D vwCl [(hm, .inr (12, [.ref ms, .ref mkp, .int (nI km), .ref mtr, .int (nI n), .int (nI k), .int (nI al), .int (nI be), .int ea, .int pr, .ref mas, .int nq, .int po, .int (nI en), .ref mso, .ref mon, .ref mot, .ref man, .int th, .int xd, .ref mst, .ref msm, .ref mtb, .ref mti, .ref mfr, .ref mbn, .ref mbs, .ref mde, .int sF, .int sN, .int sS, .int ig, .long xa, .long xb, .ref maa, .ref mab, .ref mba, .ref mbb])), (ms, .inl (cs 0, 288, .inl f)), (mso, .inl (cs 0, 16, .inl sof)), (mon, .inl (cs 0, 16, .inl onf)), (mot, .inl (cs 0, 16, .inl otf)), (man, .inl (cs 0, 16, .inl anf))] H := by rw [hH]; exact hP
  replace hS : va_S A s.heap H [] := by rw [hH]; exact hS
  obtain ⟨locs, hlocs⟩ : ∃ z : List Loc, z = [] := ⟨_, rfl⟩
  rw [← hlocs] at hS
  suffices hW : W p l e ({ frames := 4, cells := 0, slots := 0, locals := 93 } : Room) s m args below meth c H locs 0 0 (MQ below ((xQi D (fun (r : Int32) (u : (Nat → Int32) × Int32) => match u with | (fz, poz) => hldM n al be en ea sof onf otf anf a e0 x r f fz ∧ poz = po + nI 1) (fun (u : (Nat → Int32) × Int32) => match u with | (fz, poz) => [(hm, .inr (12, [.ref ms, .ref mkp, .int (nI km), .ref mtr, .int (nI n), .int (nI k), .int (nI al), .int (nI be), .int ea, .int pr, .ref mas, .int nq, .int poz, .int (nI en), .ref mso, .ref mon, .ref mot, .ref man, .int th, .int xd, .ref mst, .ref msm, .ref mtb, .ref mti, .ref mfr, .ref mbn, .ref mbs, .ref mde, .int sF, .int sN, .int sS, .int ig, .long xa, .long xb, .ref maa, .ref mab, .ref mba, .ref mbb])), (ms, .inl (cs 0, 288, .inl fz)), (mso, .inl (cs 0, 16, .inl sof)), (mon, .inl (cs 0, 16, .inl onf)), (mot, .inl (cs 0, 16, .inl otf)), (man, .inl (cs 0, 16, .inl anf))])) A) args s 0 0 A) (F0 m 0 ls []) by rw [hlocs, hH] at hW; exact hW
  clear hH hlocs
  refine lv_aload_n hx hb dX12_pollsOne_0 rfl (lv_at hl 0 rfl) ?_
  refine lv_iload_n hx hb dX12_pollsOne_1 rfl (lv_at hl 1 rfl) ?_
  refine lv_iload_n hx hb dX12_pollsOne_2 rfl (lv_at hl 2 rfl) ?_
  refine lv_iload_n hx hb dX12_pollsOne_3 rfl (lv_at hl 3 rfl) ?_
  refine xi (wr := [(mon, .inl (cs 0, 16, .inl onf)), (mot, .inl (cs 0, 16, .inl otf))]) (xV (As := [.int (nI a), .int (nI e0), .int x]) (rest := []) C (c_X12_yesOf_f l D cs hm ms mkp mtr mas mso mon mot man mst msm mtb mti mfr mbn mbs mde maa mab mba mbb n k al be km en ea pr nq po th xd sF sN sS ig xa xb f a e0 x sof anf hn hen hso ha (by omega)) kX12_325 hP hD [0, 1, 2, 5] rfl (by decide) 0 rfl rfl rfl ⟨Nat.le_of_ble_eq_true rfl, Nat.le_of_ble_eq_true rfl⟩ rfl hl.1 rfl (Nat.le_of_ble_eq_true rfl) dX12_pollsOne_4 ⟨Nat.le_of_ble_eq_true rfl, Nat.le_of_ble_eq_true rfl⟩) hP hD hS hA [0, 1, 2, 5] [3, 4] rfl rfl (by decide) (by decide) ?_
  clear hP hD hS
  try clear locs
  try clear H
  intro r_1 u_2 H locs hw_r_1 hP hD hS
  have hw_r_1 : ∃ c, c ≤ 8 ∧ r_1 = nI c ∧ yesM en sof anf f a e0 x n c := hw_r_1
  refine W.widen (k := 0) (n := 0) (Nat.le_of_ble_eq_true rfl) (Nat.le_of_ble_eq_true rfl) ?_
  replace hP : va_P D vwCl [(mon, .inl (cs 0, 16, .inl onf)), (mot, .inl (cs 0, 16, .inl otf)), (hm, .inr (12, [.ref ms, .ref mkp, .int (nI km), .ref mtr, .int (nI n), .int (nI k), .int (nI al), .int (nI be), .int ea, .int pr, .ref mas, .int nq, .int po, .int (nI en), .ref mso, .ref mon, .ref mot, .ref man, .int th, .int xd, .ref mst, .ref msm, .ref mtb, .ref mti, .ref mfr, .ref mbn, .ref mbs, .ref mde, .int sF, .int sN, .int sS, .int ig, .long xa, .long xb, .ref maa, .ref mab, .ref mba, .ref mbb])), (ms, .inl (cs 0, 288, .inl f)), (mso, .inl (cs 0, 16, .inl sof)), (man, .inl (cs 0, 16, .inl anf))] H := hP
  replace hD : va_D A [(mon, .inl (cs 0, 16, .inl onf)), (mot, .inl (cs 0, 16, .inl otf)), (hm, .inr (12, [.ref ms, .ref mkp, .int (nI km), .ref mtr, .int (nI n), .int (nI k), .int (nI al), .int (nI be), .int ea, .int pr, .ref mas, .int nq, .int po, .int (nI en), .ref mso, .ref mon, .ref mot, .ref man, .int th, .int xd, .ref mst, .ref msm, .ref mtb, .ref mti, .ref mfr, .ref mbn, .ref mbs, .ref mde, .int sF, .int sN, .int sS, .int ig, .long xa, .long xb, .ref maa, .ref mab, .ref mba, .ref mbb])), (ms, .inl (cs 0, 288, .inl f)), (mso, .inl (cs 0, 16, .inl sof)), (man, .inl (cs 0, 16, .inl anf))] := hD
  obtain ⟨c9, hc9, rfl, hyo⟩ := hw_r_1
  replace hP : va_P D vwCl [(mon, .inl (cs 0, 16, .inl onf)), (mot, .inl (cs 0, 16, .inl otf)), (hm, .inr (12, [.ref ms, .ref mkp, .int (nI km), .ref mtr, .int (nI n), .int (nI k), .int (nI al), .int (nI be), .int ea, .int pr, .ref mas, .int nq, .int po, .int (nI en), .ref mso, .ref mon, .ref mot, .ref man, .int th, .int xd, .ref mst, .ref msm, .ref mtb, .ref mti, .ref mfr, .ref mbn, .ref mbs, .ref mde, .int sF, .int sN, .int sS, .int ig, .long xa, .long xb, .ref maa, .ref mab, .ref mba, .ref mbb])), (ms, .inl (cs 0, 288, .inl f)), (mso, .inl (cs 0, 16, .inl sof)), (man, .inl (cs 0, 16, .inl anf))] H := hP
  replace hD : va_D A [(mon, .inl (cs 0, 16, .inl onf)), (mot, .inl (cs 0, 16, .inl otf)), (hm, .inr (12, [.ref ms, .ref mkp, .int (nI km), .ref mtr, .int (nI n), .int (nI k), .int (nI al), .int (nI be), .int ea, .int pr, .ref mas, .int nq, .int po, .int (nI en), .ref mso, .ref mon, .ref mot, .ref man, .int th, .int xd, .ref mst, .ref msm, .ref mtb, .ref mti, .ref mfr, .ref mbn, .ref mbs, .ref mde, .int sF, .int sN, .int sS, .int ig, .long xa, .long xb, .ref maa, .ref mab, .ref mba, .ref mbb])), (ms, .inl (cs 0, 288, .inl f)), (mso, .inl (cs 0, 16, .inl sof)), (man, .inl (cs 0, 16, .inl anf))] := hD
  refine lv_aload_n hx hb dX12_pollsOne_7 rfl (lv_at hl 0 rfl) ?_
  refine xget C hP 2 rfl rfl zuX12 6 (by decide) zw5_219 rfl dX12_pollsOne_8 ?_
  refine lv_icmp_lt (tgt := 18) hx hb dX12_pollsOne_11 (by decide) (fun c_3 => ?_) (fun c_3 => ?_)
  · -- 11 t
    have fc_3 : c9 < al := nf_lt (by omega) (by omega) c_3
    refine lv_iconst (v := nI 0) hx hb dX12_pollsOne_18 (by decide) ?_
    refine lv_istore (lv' := [(4, .int (nI 0)), (0, .ref hm), (1, .int (nI a)), (2, .int (nI e0)), (3, .int x)]) hx hb dX12_pollsOne_19 hl (by decide) rfl ?_
    clear hl
    try clear ls
    intro ls hl
    refine lv_aload_n hx hb dX12_pollsOne_21 rfl (lv_at hl 1 rfl) ?_
    refine xget C hP 2 rfl rfl zuX12 0 (by decide) zw5_213 rfl dX12_pollsOne_22 ?_
    refine lv_bipush (v := nI 72) hx hb dX12_pollsOne_25 (by decide) ?_
    refine lv_iload_n hx hb dX12_pollsOne_27 rfl (lv_at hl 2 rfl) ?_
    refine lv_iadd hx hb dX12_pollsOne_28 ?_
    refine lv_topi (nm_r (e' := nI (72 + a)) (nI_add _ _) ?_)
    refine lv_dup2_11 hx hb dX12_pollsOne_29 rfl rfl ?_
    refine xiald C hP 3 rfl (72 + a) rfl (by omega) (by decide) dX12_pollsOne_30 ?_
    refine lv_iconst (v := nI 1) hx hb dX12_pollsOne_31 (by decide) ?_
    refine lv_iload_n hx hb dX12_pollsOne_32 rfl (lv_at hl 3 rfl) ?_
    refine lv_ishl hx hb dX12_pollsOne_33 ?_
    refine lv_ior hx hb dX12_pollsOne_34 ?_
    refine xiast C hP hD hS 3 rfl (72 + a) rfl (by omega) (by decide) dX12_pollsOne_35 ?_
    clear hP hD hS
    try clear locs
    try clear H
    intro H locs hP hD hS
    replace hP : va_P D vwCl [(mon, .inl (cs 0, 16, .inl onf)), (mot, .inl (cs 0, 16, .inl otf)), (hm, .inr (12, [.ref ms, .ref mkp, .int (nI km), .ref mtr, .int (nI n), .int (nI k), .int (nI al), .int (nI be), .int ea, .int pr, .ref mas, .int nq, .int po, .int (nI en), .ref mso, .ref mon, .ref mot, .ref man, .int th, .int xd, .ref mst, .ref msm, .ref mtb, .ref mti, .ref mfr, .ref mbn, .ref mbs, .ref mde, .int sF, .int sN, .int sS, .int ig, .long xa, .long xb, .ref maa, .ref mab, .ref mba, .ref mbb])), (ms, .inl (cs 0, 288, .inl (upd f (72 + a) ((f (72 + a)) ||| ((nI 1) <<< ((nI e0) &&& 31)))))), (mso, .inl (cs 0, 16, .inl sof)), (man, .inl (cs 0, 16, .inl anf))] H := hP
    replace hD : va_D A [(mon, .inl (cs 0, 16, .inl onf)), (mot, .inl (cs 0, 16, .inl otf)), (hm, .inr (12, [.ref ms, .ref mkp, .int (nI km), .ref mtr, .int (nI n), .int (nI k), .int (nI al), .int (nI be), .int ea, .int pr, .ref mas, .int nq, .int po, .int (nI en), .ref mso, .ref mon, .ref mot, .ref man, .int th, .int xd, .ref mst, .ref msm, .ref mtb, .ref mti, .ref mfr, .ref mbn, .ref mbs, .ref mde, .int sF, .int sN, .int sS, .int ig, .long xa, .long xb, .ref maa, .ref mab, .ref mba, .ref mbb])), (ms, .inl (cs 0, 288, .inl (upd f (72 + a) ((f (72 + a)) ||| ((nI 1) <<< ((nI e0) &&& 31)))))), (mso, .inl (cs 0, 16, .inl sof)), (man, .inl (cs 0, 16, .inl anf))] := hD
    refine lv_aload_n hx hb dX12_pollsOne_36 rfl (lv_at hl 1 rfl) ?_
    refine lv_dup hx hb dX12_pollsOne_37 rfl ?_
    refine xget C hP 2 rfl rfl zuX12 12 (by decide) zw5_225 rfl dX12_pollsOne_38 ?_
    refine lv_iconst (v := nI 1) hx hb dX12_pollsOne_41 (by decide) ?_
    refine lv_iadd hx hb dX12_pollsOne_42 ?_
    refine xput C hP hD hS 2 rfl rfl zuX12 tyX12 tyX12_ok nmX12 12 (by decide) zw5_225 rfl rfl rfl (Nat.le_of_ble_eq_true rfl) dX12_pollsOne_43 ?_
    clear hP hD hS
    try clear locs
    try clear H
    intro H locs hP hD hS
    replace hP : va_P D vwCl [(mon, .inl (cs 0, 16, .inl onf)), (mot, .inl (cs 0, 16, .inl otf)), (hm, .inr (12, [.ref ms, .ref mkp, .int (nI km), .ref mtr, .int (nI n), .int (nI k), .int (nI al), .int (nI be), .int ea, .int pr, .ref mas, .int nq, .int (po + (nI 1)), .int (nI en), .ref mso, .ref mon, .ref mot, .ref man, .int th, .int xd, .ref mst, .ref msm, .ref mtb, .ref mti, .ref mfr, .ref mbn, .ref mbs, .ref mde, .int sF, .int sN, .int sS, .int ig, .long xa, .long xb, .ref maa, .ref mab, .ref mba, .ref mbb])), (ms, .inl (cs 0, 288, .inl (upd f (72 + a) ((f (72 + a)) ||| ((nI 1) <<< ((nI e0) &&& 31)))))), (mso, .inl (cs 0, 16, .inl sof)), (man, .inl (cs 0, 16, .inl anf))] H := hP
    replace hD : va_D A [(mon, .inl (cs 0, 16, .inl onf)), (mot, .inl (cs 0, 16, .inl otf)), (hm, .inr (12, [.ref ms, .ref mkp, .int (nI km), .ref mtr, .int (nI n), .int (nI k), .int (nI al), .int (nI be), .int ea, .int pr, .ref mas, .int nq, .int (po + (nI 1)), .int (nI en), .ref mso, .ref mon, .ref mot, .ref man, .int th, .int xd, .ref mst, .ref msm, .ref mtb, .ref mti, .ref mfr, .ref mbn, .ref mbs, .ref mde, .int sF, .int sN, .int sS, .int ig, .long xa, .long xb, .ref maa, .ref mab, .ref mba, .ref mbb])), (ms, .inl (cs 0, 288, .inl (upd f (72 + a) ((f (72 + a)) ||| ((nI 1) <<< ((nI e0) &&& 31)))))), (mso, .inl (cs 0, 16, .inl sof)), (man, .inl (cs 0, 16, .inl anf))] := hD
    refine lv_iload hx hb dX12_pollsOne_46 (lv_at hl 0 rfl) ?_
    refine lv_if_eq (tgt := 66) hx hb dX12_pollsOne_48 (by decide) (fun _ => ?_) (fun c => absurd (by decide) c)
    refine lv_aload_n hx hb dX12_pollsOne_66 rfl (lv_at hl 1 rfl) ?_
    refine xget C hP 2 rfl rfl zuX12 17 (by decide) zw5_230 rfl dX12_pollsOne_67 ?_
    refine lv_iload_n hx hb dX12_pollsOne_70 rfl (lv_at hl 3 rfl) ?_
    refine xiald C hP 5 rfl e0 rfl (by omega) (by decide) dX12_pollsOne_71 ?_
    refine lv_iconst (v := nI 1) hx hb dX12_pollsOne_72 (by decide) ?_
    refine lv_iload_n hx hb dX12_pollsOne_73 rfl (lv_at hl 3 rfl) ?_
    refine lv_ishl hx hb dX12_pollsOne_74 ?_
    refine lv_ior hx hb dX12_pollsOne_75 ?_
    refine lv_istore (lv' := [(5, .int ((anf e0) ||| ((nI 1) <<< ((nI e0) &&& 31)))), (4, .int (nI 0)), (0, .ref hm), (1, .int (nI a)), (2, .int (nI e0)), (3, .int x)]) hx hb dX12_pollsOne_76 hl (by decide) rfl ?_
    clear hl
    try clear ls
    intro ls hl
    refine lv_iconst (v := nI 0) hx hb dX12_pollsOne_78 (by decide) ?_
    refine lv_istore (lv' := [(6, .int (nI 0)), (5, .int ((anf e0) ||| ((nI 1) <<< ((nI e0) &&& 31)))), (4, .int (nI 0)), (0, .ref hm), (1, .int (nI a)), (2, .int (nI e0)), (3, .int x)]) hx hb dX12_pollsOne_79 hl (by decide) rfl ?_
    clear hl
    try clear ls
    intro ls hl
    have hpfH : prfM en sof a (upd f (72 + a) ((f (72 + a)) ||| ((nI 1) <<< ((nI e0) &&& 31)))) := hprf.of (fun i hi => by simp only [upd]; repeat rw [if_neg (by omega)]) hso hen
    have loop_4 : ∀ (n_loop_4 : Nat) (o : Nat) (f9 : Nat → Int32), (o ≤ en) → (prfM en sof a f9) → (mksM en sof anf a (anf e0 ||| bitI e0) (nI 0) o (upd f (72 + a) ((f (72 + a)) ||| ((nI 1) <<< ((nI e0) &&& 31)))) f9) → en - o < n_loop_4 → ∀ (H : Heap) (locs : List Loc) (ls : Array Slot), va_P D vwCl [(mon, .inl (cs 0, 16, .inl onf)), (mot, .inl (cs 0, 16, .inl otf)), (hm, .inr (12, [.ref ms, .ref mkp, .int (nI km), .ref mtr, .int (nI n), .int (nI k), .int (nI al), .int (nI be), .int ea, .int pr, .ref mas, .int nq, .int (po + (nI 1)), .int (nI en), .ref mso, .ref mon, .ref mot, .ref man, .int th, .int xd, .ref mst, .ref msm, .ref mtb, .ref mti, .ref mfr, .ref mbn, .ref mbs, .ref mde, .int sF, .int sN, .int sS, .int ig, .long xa, .long xb, .ref maa, .ref mab, .ref mba, .ref mbb])), (ms, .inl (cs 0, 288, .inl f9)), (mso, .inl (cs 0, 16, .inl sof)), (man, .inl (cs 0, 16, .inl anf))] H → va_D A [(mon, .inl (cs 0, 16, .inl onf)), (mot, .inl (cs 0, 16, .inl otf)), (hm, .inr (12, [.ref ms, .ref mkp, .int (nI km), .ref mtr, .int (nI n), .int (nI k), .int (nI al), .int (nI be), .int ea, .int pr, .ref mas, .int nq, .int (po + (nI 1)), .int (nI en), .ref mso, .ref mon, .ref mot, .ref man, .int th, .int xd, .ref mst, .ref msm, .ref mtb, .ref mti, .ref mfr, .ref mbn, .ref mbs, .ref mde, .int sF, .int sN, .int sS, .int ig, .long xa, .long xb, .ref maa, .ref mab, .ref mba, .ref mbb])), (ms, .inl (cs 0, 288, .inl f9)), (mso, .inl (cs 0, 16, .inl sof)), (man, .inl (cs 0, 16, .inl anf))] → va_S A s.heap H locs → lv_has ls 8 [(6, .int (nI o)), (5, .int ((anf e0) ||| ((nI 1) <<< ((nI e0) &&& 31)))), (4, .int (nI 0)), (0, .ref hm), (1, .int (nI a)), (2, .int (nI e0)), (3, .int x)] → W p l e ({ frames := 4, cells := 0, slots := 0, locals := 93 } : Room) s m args below meth c H locs 0 0 (MQ below ((xQi D (fun (r : Int32) (u : (Nat → Int32) × Int32) => match u with | (fz, poz) => hldM n al be en ea sof onf otf anf a e0 x r f fz ∧ poz = po + nI 1) (fun (u : (Nat → Int32) × Int32) => match u with | (fz, poz) => [(hm, .inr (12, [.ref ms, .ref mkp, .int (nI km), .ref mtr, .int (nI n), .int (nI k), .int (nI al), .int (nI be), .int ea, .int pr, .ref mas, .int nq, .int poz, .int (nI en), .ref mso, .ref mon, .ref mot, .ref man, .int th, .int xd, .ref mst, .ref msm, .ref mtb, .ref mti, .ref mfr, .ref mbn, .ref mbs, .ref mde, .int sF, .int sN, .int sS, .int ig, .long xa, .long xb, .ref maa, .ref mab, .ref mba, .ref mbb])), (ms, .inl (cs 0, 288, .inl fz)), (mso, .inl (cs 0, 16, .inl sof)), (mon, .inl (cs 0, 16, .inl onf)), (mot, .inl (cs 0, 16, .inl otf)), (man, .inl (cs 0, 16, .inl anf))])) A) args s 0 0 A) (F0 m 81 ls []) := by
      intro n_loop_4
      induction n_loop_4 with
      | zero => intro o f9 h_o hpf9 hmk9 hlt H locs ls hP hD hS hl; exact absurd hlt (Nat.not_lt_zero _)
      | succ n_loop_4 ih_loop_4 =>
        intro o f9 h_o hpf9 hmk9 hlt_loop_4 H locs ls hP hD hS hl
        refine lv_iload hx hb dX12_pollsOne_81 (lv_at hl 0 rfl) ?_
        refine lv_aload_n hx hb dX12_pollsOne_83 rfl (lv_at hl 3 rfl) ?_
        refine xget C hP 2 rfl rfl zuX12 13 (by decide) zw5_226 rfl dX12_pollsOne_84 ?_
        refine lv_icmp_ge (tgt := 130) hx hb dX12_pollsOne_87 (by decide) (fun c_5 => ?_) (fun c_5 => ?_)
        · -- 87 t
          have fc_5 : en ≤ o := nf_le (by omega) (by omega) c_5
          refine lv_iconst (v := nI 0) hx hb dX12_pollsOne_130 (by decide) ?_
          refine lv_istore (lv' := [(6, .int (nI 0)), (5, .int ((anf e0) ||| ((nI 1) <<< ((nI e0) &&& 31)))), (4, .int (nI 0)), (0, .ref hm), (1, .int (nI a)), (2, .int (nI e0)), (3, .int x)]) hx hb dX12_pollsOne_131 hl (by decide) rfl ?_
          clear hl
          try clear ls
          intro ls hl
          refine lv_iconst (v := nI 0) hx hb dX12_pollsOne_133 (by decide) ?_
          refine lv_istore (lv' := [(7, .int (nI 0)), (6, .int (nI 0)), (5, .int ((anf e0) ||| ((nI 1) <<< ((nI e0) &&& 31)))), (4, .int (nI 0)), (0, .ref hm), (1, .int (nI a)), (2, .int (nI e0)), (3, .int x)]) hx hb dX12_pollsOne_134 hl (by decide) rfl ?_
          clear hl
          try clear ls
          intro ls hl
          have q8 : o = en := by omega
          rw [q8] at hmk9
          have loop_6 : ∀ (n_loop_6 : Nat) (o2 : Nat) (f8 : Nat → Int32) (i9 : Nat), (o2 ≤ en) → (i9 ≤ 1) → (acsM en be ea sof onf otf a (anf e0 ||| bitI e0) o2 f9 f8 i9) → en - o2 < n_loop_6 → ∀ (H : Heap) (locs : List Loc) (ls : Array Slot), va_P D vwCl [(mon, .inl (cs 0, 16, .inl onf)), (mot, .inl (cs 0, 16, .inl otf)), (hm, .inr (12, [.ref ms, .ref mkp, .int (nI km), .ref mtr, .int (nI n), .int (nI k), .int (nI al), .int (nI be), .int ea, .int pr, .ref mas, .int nq, .int (po + (nI 1)), .int (nI en), .ref mso, .ref mon, .ref mot, .ref man, .int th, .int xd, .ref mst, .ref msm, .ref mtb, .ref mti, .ref mfr, .ref mbn, .ref mbs, .ref mde, .int sF, .int sN, .int sS, .int ig, .long xa, .long xb, .ref maa, .ref mab, .ref mba, .ref mbb])), (ms, .inl (cs 0, 288, .inl f8)), (mso, .inl (cs 0, 16, .inl sof)), (man, .inl (cs 0, 16, .inl anf))] H → va_D A [(mon, .inl (cs 0, 16, .inl onf)), (mot, .inl (cs 0, 16, .inl otf)), (hm, .inr (12, [.ref ms, .ref mkp, .int (nI km), .ref mtr, .int (nI n), .int (nI k), .int (nI al), .int (nI be), .int ea, .int pr, .ref mas, .int nq, .int (po + (nI 1)), .int (nI en), .ref mso, .ref mon, .ref mot, .ref man, .int th, .int xd, .ref mst, .ref msm, .ref mtb, .ref mti, .ref mfr, .ref mbn, .ref mbs, .ref mde, .int sF, .int sN, .int sS, .int ig, .long xa, .long xb, .ref maa, .ref mab, .ref mba, .ref mbb])), (ms, .inl (cs 0, 288, .inl f8)), (mso, .inl (cs 0, 16, .inl sof)), (man, .inl (cs 0, 16, .inl anf))] → va_S A s.heap H locs → lv_has ls 8 [(7, .int (nI o2)), (6, .int (nI i9)), (5, .int ((anf e0) ||| ((nI 1) <<< ((nI e0) &&& 31)))), (4, .int (nI 0)), (0, .ref hm), (1, .int (nI a)), (2, .int (nI e0)), (3, .int x)] → W p l e ({ frames := 4, cells := 0, slots := 0, locals := 93 } : Room) s m args below meth c H locs 0 0 (MQ below ((xQi D (fun (r : Int32) (u : (Nat → Int32) × Int32) => match u with | (fz, poz) => hldM n al be en ea sof onf otf anf a e0 x r f fz ∧ poz = po + nI 1) (fun (u : (Nat → Int32) × Int32) => match u with | (fz, poz) => [(hm, .inr (12, [.ref ms, .ref mkp, .int (nI km), .ref mtr, .int (nI n), .int (nI k), .int (nI al), .int (nI be), .int ea, .int pr, .ref mas, .int nq, .int poz, .int (nI en), .ref mso, .ref mon, .ref mot, .ref man, .int th, .int xd, .ref mst, .ref msm, .ref mtb, .ref mti, .ref mfr, .ref mbn, .ref mbs, .ref mde, .int sF, .int sN, .int sS, .int ig, .long xa, .long xb, .ref maa, .ref mab, .ref mba, .ref mbb])), (ms, .inl (cs 0, 288, .inl fz)), (mso, .inl (cs 0, 16, .inl sof)), (mon, .inl (cs 0, 16, .inl onf)), (mot, .inl (cs 0, 16, .inl otf)), (man, .inl (cs 0, 16, .inl anf))])) A) args s 0 0 A) (F0 m 136 ls []) := by
            intro n_loop_6
            induction n_loop_6 with
            | zero => intro o2 f8 i9 h_o2 hi9 has9 hlt H locs ls hP hD hS hl; exact absurd hlt (Nat.not_lt_zero _)
            | succ n_loop_6 ih_loop_6 =>
              intro o2 f8 i9 h_o2 hi9 has9 hlt_loop_6 H locs ls hP hD hS hl
              refine lv_iload hx hb dX12_pollsOne_136 (lv_at hl 0 rfl) ?_
              refine lv_aload_n hx hb dX12_pollsOne_138 rfl (lv_at hl 4 rfl) ?_
              refine xget C hP 2 rfl rfl zuX12 13 (by decide) zw5_226 rfl dX12_pollsOne_139 ?_
              refine lv_icmp_ge (tgt := 174) hx hb dX12_pollsOne_142 (by decide) (fun c_7 => ?_) (fun c_7 => ?_)
              · -- 142 t
                have fc_7 : en ≤ o2 := nf_le (by omega) (by omega) c_7
                refine lv_iload hx hb dX12_pollsOne_174 (lv_at hl 1 rfl) ?_
                refine lv_if_eq (tgt := 183) hx hb dX12_pollsOne_176 (by decide) (fun c_8 => ?_) (fun c_8 => ?_)
                · -- 176 t
                  have fc_8 : i9 = 0 := nf_eq (by omega) (by omega) c_8
                  refine lv_iload hx hb dX12_pollsOne_183 (lv_at hl 3 rfl) ?_
                  refine lv_if_eq (tgt := 192) hx hb dX12_pollsOne_185 (by decide) (fun _ => ?_) (fun c => absurd (by decide) c)
                  refine lv_iconst (v := nI 0) hx hb dX12_pollsOne_192 (by decide) ?_
                  exact xreti C (⟨f8, (po + (nI 1))⟩) (⟨⟨c9, i9, f9, _, hc9, hyo, Or.inl ⟨fc_3, rfl, hmk9⟩, by have q9 : o2 = en := (by omega); rw [q9] at has9; exact has9, Or.inr (Or.inr ⟨fc_8, fc_3, rfl⟩)⟩, rfl⟩) (xP_map hP [2, 3, 4, 0, 1, 5] rfl) (hD.sub [2, 3, 4, 0, 1, 5] (by decide) rfl) hS (Nat.le_of_ble_eq_true rfl) (Nat.le_of_ble_eq_true rfl) rfl dX12_pollsOne_193
                · -- 176 f
                  have fc_8 : i9 ≠ 0 := nf_ne (by omega) (by omega) c_8
                  refine lv_iconst (v := nI 2) hx hb dX12_pollsOne_179 (by decide) ?_
                  refine lv_goto (tgt := 193) hx hb dX12_pollsOne_180 (by decide) ?_
                  exact xreti C (⟨f8, (po + (nI 1))⟩) (⟨⟨c9, i9, f9, _, hc9, hyo, Or.inl ⟨fc_3, rfl, hmk9⟩, by have q9 : o2 = en := (by omega); rw [q9] at has9; exact has9, Or.inl ⟨fc_8, rfl⟩⟩, rfl⟩) (xP_map hP [2, 3, 4, 0, 1, 5] rfl) (hD.sub [2, 3, 4, 0, 1, 5] (by decide) rfl) hS (Nat.le_of_ble_eq_true rfl) (Nat.le_of_ble_eq_true rfl) rfl dX12_pollsOne_193
              · -- 142 f
                have fc_7 : o2 < en := nf_nle (by omega) (by omega) c_7
                refine lv_iload hx hb dX12_pollsOne_145 (lv_at hl 2 rfl) ?_
                refine lv_iload hx hb dX12_pollsOne_147 (lv_at hl 0 rfl) ?_
                refine xi (wr := [(mon, .inl (cs 0, 16, .inl onf)), (mot, .inl (cs 0, 16, .inl otf)), (hm, .inr (12, [.ref ms, .ref mkp, .int (nI km), .ref mtr, .int (nI n), .int (nI k), .int (nI al), .int (nI be), .int ea, .int pr, .ref mas, .int nq, .int (po + (nI 1)), .int (nI en), .ref mso, .ref mon, .ref mot, .ref man, .int th, .int xd, .ref mst, .ref msm, .ref mtb, .ref mti, .ref mfr, .ref mbn, .ref mbs, .ref mde, .int sF, .int sN, .int sS, .int ig, .long xa, .long xb, .ref maa, .ref mab, .ref mba, .ref mbb])), (ms, .inl (cs 0, 288, .inl f8)), (mso, .inl (cs 0, 16, .inl sof)), (man, .inl (cs 0, 16, .inl anf))]) (xS (As := [.int ((anf e0) ||| ((nI 1) <<< ((nI e0) &&& 31))), .int (nI o2)]) (rest := []) C (c_X12_has l D cs ((anf e0) ||| ((nI 1) <<< ((nI e0) &&& 31))) o2) kX12_100 hP hD [] rfl (by decide) ⟨Nat.le_of_ble_eq_true rfl, Nat.le_of_ble_eq_true rfl⟩ rfl hl.1 rfl (Nat.le_of_ble_eq_true rfl) dX12_pollsOne_149 ⟨Nat.le_of_ble_eq_true rfl, Nat.le_of_ble_eq_true rfl⟩) hP hD hS hA [] [0, 1, 2, 3, 4, 5] rfl rfl (by decide) (by decide) ?_
                clear hP hD hS
                try clear locs
                try clear H
                intro r_9 u_10 H locs hw_r_9 hP hD hS
                have hw_r_9 : PQ (hasB ((anf e0) ||| ((nI 1) <<< ((nI e0) &&& 31))) o2) r_9 (nI 1) (nI 0) := hw_r_9
                refine W.widen (k := 0) (n := 0) (Nat.le_of_ble_eq_true rfl) (Nat.le_of_ble_eq_true rfl) ?_
                replace hP : va_P D vwCl [(mon, .inl (cs 0, 16, .inl onf)), (mot, .inl (cs 0, 16, .inl otf)), (hm, .inr (12, [.ref ms, .ref mkp, .int (nI km), .ref mtr, .int (nI n), .int (nI k), .int (nI al), .int (nI be), .int ea, .int pr, .ref mas, .int nq, .int (po + (nI 1)), .int (nI en), .ref mso, .ref mon, .ref mot, .ref man, .int th, .int xd, .ref mst, .ref msm, .ref mtb, .ref mti, .ref mfr, .ref mbn, .ref mbs, .ref mde, .int sF, .int sN, .int sS, .int ig, .long xa, .long xb, .ref maa, .ref mab, .ref mba, .ref mbb])), (ms, .inl (cs 0, 288, .inl f8)), (mso, .inl (cs 0, 16, .inl sof)), (man, .inl (cs 0, 16, .inl anf))] H := hP
                replace hD : va_D A [(mon, .inl (cs 0, 16, .inl onf)), (mot, .inl (cs 0, 16, .inl otf)), (hm, .inr (12, [.ref ms, .ref mkp, .int (nI km), .ref mtr, .int (nI n), .int (nI k), .int (nI al), .int (nI be), .int ea, .int pr, .ref mas, .int nq, .int (po + (nI 1)), .int (nI en), .ref mso, .ref mon, .ref mot, .ref man, .int th, .int xd, .ref mst, .ref msm, .ref mtb, .ref mti, .ref mfr, .ref mbn, .ref mbs, .ref mde, .int sF, .int sN, .int sS, .int ig, .long xa, .long xb, .ref maa, .ref mab, .ref mba, .ref mbb])), (ms, .inl (cs 0, 288, .inl f8)), (mso, .inl (cs 0, 16, .inl sof)), (man, .inl (cs 0, 16, .inl anf))] := hD
                refine lv_if_eq (tgt := 168) hx hb dX12_pollsOne_152 (by decide) (fun c_11 => ?_) (fun c_11 => ?_)
                · -- 152 t
                  refine lv_iinc (v := nI (o2 + 1)) (lv' := [(7, .int (nI (o2 + 1))), (6, .int (nI i9)), (5, .int ((anf e0) ||| ((nI 1) <<< ((nI e0) &&& 31)))), (4, .int (nI 0)), (0, .ref hm), (1, .int (nI a)), (2, .int (nI e0)), (3, .int x)]) hx hb dX12_pollsOne_168 hl (k := 0) rfl (nI_add o2 1) (by decide) rfl ?_
                  clear hl
                  try clear ls
                  intro ls hl
                  refine lv_goto (tgt := 136) hx hb dX12_pollsOne_171 (by decide) ?_
                  exact ih_loop_6 (o2 + 1) f8 i9 (by omega) (by omega) (⟨_, _, has9, Or.inr ⟨fun q => PQ.no hw_r_9 c_11 (by decide) q.1, rfl, rfl⟩⟩) (by omega) H locs ls hP hD hS (lv_sub hl [0, 1, 2, 3, 4, 5, 6, 7] rfl)
                · -- 152 f
                  refine lv_aload_n hx hb dX12_pollsOne_155 rfl (lv_at hl 4 rfl) ?_
                  refine lv_iload_n hx hb dX12_pollsOne_156 rfl (lv_at hl 5 rfl) ?_
                  refine lv_iload hx hb dX12_pollsOne_157 (lv_at hl 0 rfl) ?_
                  refine xi (wr := [(man, .inl (cs 0, 16, .inl anf))]) (xV (As := [.int (nI a), .int (nI o2)]) (rest := []) C (c_X12_accepts_b l D cs hm ms mkp mtr mas mso mon mot man mst msm mtb mti mfr mbn mbs mde maa mab mba mbb n k al be km en ea pr nq (po + (nI 1)) th xd sF sN sS ig xa xb f8 sof onf otf a o2 hen hso ha (by omega) hon hot) kX12_333 hP hD [2, 3, 4, 0, 1] rfl (by decide) 0 rfl rfl rfl ⟨Nat.le_of_ble_eq_true rfl, Nat.le_of_ble_eq_true rfl⟩ rfl hl.1 rfl (Nat.le_of_ble_eq_true rfl) dX12_pollsOne_159 ⟨Nat.le_of_ble_eq_true rfl, Nat.le_of_ble_eq_true rfl⟩) hP hD hS hA [2, 3, 4, 0, 1] [5] rfl rfl (by decide) (by decide) ?_
                  clear hP hD hS
                  try clear locs
                  try clear H
                  intro r_12 u_13 H locs hw_r_12 hP hD hS
                  have hw_r_12 : (ripM en be ea sof onf otf a o2 f8 ∧ r_12 = nI 1 ∧ rejM en sof a o2 f8 u_13) ∨ (¬ ripM en be ea sof onf otf a o2 f8 ∧ r_12 = nI 0 ∧ u_13 = f8) := hw_r_12
                  refine W.widen (k := 0) (n := 0) (Nat.le_of_ble_eq_true rfl) (Nat.le_of_ble_eq_true rfl) ?_
                  replace hP : va_P D vwCl [(man, .inl (cs 0, 16, .inl anf)), (hm, .inr (12, [.ref ms, .ref mkp, .int (nI km), .ref mtr, .int (nI n), .int (nI k), .int (nI al), .int (nI be), .int ea, .int pr, .ref mas, .int nq, .int (po + (nI 1)), .int (nI en), .ref mso, .ref mon, .ref mot, .ref man, .int th, .int xd, .ref mst, .ref msm, .ref mtb, .ref mti, .ref mfr, .ref mbn, .ref mbs, .ref mde, .int sF, .int sN, .int sS, .int ig, .long xa, .long xb, .ref maa, .ref mab, .ref mba, .ref mbb])), (ms, .inl (cs 0, 288, .inl u_13)), (mso, .inl (cs 0, 16, .inl sof)), (mon, .inl (cs 0, 16, .inl onf)), (mot, .inl (cs 0, 16, .inl otf))] H := hP
                  replace hD : va_D A [(man, .inl (cs 0, 16, .inl anf)), (hm, .inr (12, [.ref ms, .ref mkp, .int (nI km), .ref mtr, .int (nI n), .int (nI k), .int (nI al), .int (nI be), .int ea, .int pr, .ref mas, .int nq, .int (po + (nI 1)), .int (nI en), .ref mso, .ref mon, .ref mot, .ref man, .int th, .int xd, .ref mst, .ref msm, .ref mtb, .ref mti, .ref mfr, .ref mbn, .ref mbs, .ref mde, .int sF, .int sN, .int sS, .int ig, .long xa, .long xb, .ref maa, .ref mab, .ref mba, .ref mbb])), (ms, .inl (cs 0, 288, .inl u_13)), (mso, .inl (cs 0, 16, .inl sof)), (mon, .inl (cs 0, 16, .inl onf)), (mot, .inl (cs 0, 16, .inl otf))] := hD
                  refine lv_if_eq (tgt := 168) hx hb dX12_pollsOne_162 (by decide) (fun c_14 => ?_) (fun c_14 => ?_)
                  · -- 162 t
                    refine lv_iinc (v := nI (o2 + 1)) (lv' := [(7, .int (nI (o2 + 1))), (6, .int (nI i9)), (5, .int ((anf e0) ||| ((nI 1) <<< ((nI e0) &&& 31)))), (4, .int (nI 0)), (0, .ref hm), (1, .int (nI a)), (2, .int (nI e0)), (3, .int x)]) hx hb dX12_pollsOne_168 hl (k := 0) rfl (nI_add o2 1) (by decide) rfl ?_
                    clear hl
                    try clear ls
                    intro ls hl
                    refine lv_goto (tgt := 136) hx hb dX12_pollsOne_171 (by decide) ?_
                    exact ih_loop_6 (o2 + 1) u_13 i9 (by omega) (by omega) (⟨_, _, has9, Or.inr ⟨fun q => (by rcases hw_r_12 with z | z; exact absurd (z.2.1.symm.trans c_14) (by decide); exact z.1 q.2), (by rcases hw_r_12 with z | z; exact absurd (z.2.1.symm.trans c_14) (by decide); exact z.2.2), rfl⟩⟩) (by omega) H locs ls (xP_map hP [4, 5, 1, 2, 3, 0] rfl) (hD.sub [4, 5, 1, 2, 3, 0] (by decide) rfl) hS (lv_sub hl [0, 1, 2, 3, 4, 5, 6, 7] rfl)
                  · -- 162 f
                    refine lv_iconst (v := nI 1) hx hb dX12_pollsOne_165 (by decide) ?_
                    refine lv_istore (lv' := [(6, .int (nI 1)), (7, .int (nI o2)), (5, .int ((anf e0) ||| ((nI 1) <<< ((nI e0) &&& 31)))), (4, .int (nI 0)), (0, .ref hm), (1, .int (nI a)), (2, .int (nI e0)), (3, .int x)]) hx hb dX12_pollsOne_166 hl (by decide) rfl ?_
                    clear hl
                    try clear ls
                    intro ls hl
                    refine lv_iinc (v := nI (o2 + 1)) (lv' := [(7, .int (nI (o2 + 1))), (6, .int (nI 1)), (5, .int ((anf e0) ||| ((nI 1) <<< ((nI e0) &&& 31)))), (4, .int (nI 0)), (0, .ref hm), (1, .int (nI a)), (2, .int (nI e0)), (3, .int x)]) hx hb dX12_pollsOne_168 hl (k := 1) rfl (nI_add o2 1) (by decide) rfl ?_
                    clear hl
                    try clear ls
                    intro ls hl
                    refine lv_goto (tgt := 136) hx hb dX12_pollsOne_171 (by decide) ?_
                    exact ih_loop_6 (o2 + 1) u_13 1 (by omega) (by omega) (⟨_, _, has9, Or.inl ⟨⟨PQ.yes hw_r_9 c_11, (by rcases hw_r_12 with z | z; exact z.1; exact absurd z.2.1 c_14)⟩, (by rcases hw_r_12 with z | z; exact z.2.2; exact absurd z.2.1 c_14), rfl⟩⟩) (by omega) H locs ls (xP_map hP [4, 5, 1, 2, 3, 0] rfl) (hD.sub [4, 5, 1, 2, 3, 0] (by decide) rfl) hS (lv_sub hl [0, 1, 2, 3, 4, 5, 6, 7] rfl)
          exact loop_6 _ 0 f9 0 (by omega) (by omega) (⟨rfl, rfl⟩) (Nat.lt_succ_self _) H locs ls hP hD hS (lv_sub hl [0, 1, 2, 3, 4, 5, 6, 7] rfl)
        · -- 87 f
          have fc_5 : o < en := nf_nle (by omega) (by omega) c_5
          refine lv_iload hx hb dX12_pollsOne_90 (lv_at hl 1 rfl) ?_
          refine lv_iload hx hb dX12_pollsOne_92 (lv_at hl 0 rfl) ?_
          refine xi (wr := [(mon, .inl (cs 0, 16, .inl onf)), (mot, .inl (cs 0, 16, .inl otf)), (hm, .inr (12, [.ref ms, .ref mkp, .int (nI km), .ref mtr, .int (nI n), .int (nI k), .int (nI al), .int (nI be), .int ea, .int pr, .ref mas, .int nq, .int (po + (nI 1)), .int (nI en), .ref mso, .ref mon, .ref mot, .ref man, .int th, .int xd, .ref mst, .ref msm, .ref mtb, .ref mti, .ref mfr, .ref mbn, .ref mbs, .ref mde, .int sF, .int sN, .int sS, .int ig, .long xa, .long xb, .ref maa, .ref mab, .ref mba, .ref mbb])), (ms, .inl (cs 0, 288, .inl f9)), (mso, .inl (cs 0, 16, .inl sof)), (man, .inl (cs 0, 16, .inl anf))]) (xS (As := [.int ((anf e0) ||| ((nI 1) <<< ((nI e0) &&& 31))), .int (nI o)]) (rest := []) C (c_X12_has l D cs ((anf e0) ||| ((nI 1) <<< ((nI e0) &&& 31))) o) kX12_100 hP hD [] rfl (by decide) ⟨Nat.le_of_ble_eq_true rfl, Nat.le_of_ble_eq_true rfl⟩ rfl hl.1 rfl (Nat.le_of_ble_eq_true rfl) dX12_pollsOne_94 ⟨Nat.le_of_ble_eq_true rfl, Nat.le_of_ble_eq_true rfl⟩) hP hD hS hA [] [0, 1, 2, 3, 4, 5] rfl rfl (by decide) (by decide) ?_
          clear hP hD hS
          try clear locs
          try clear H
          intro r_15 u_16 H locs hw_r_15 hP hD hS
          have hw_r_15 : PQ (hasB ((anf e0) ||| ((nI 1) <<< ((nI e0) &&& 31))) o) r_15 (nI 1) (nI 0) := hw_r_15
          refine W.widen (k := 0) (n := 0) (Nat.le_of_ble_eq_true rfl) (Nat.le_of_ble_eq_true rfl) ?_
          replace hP : va_P D vwCl [(mon, .inl (cs 0, 16, .inl onf)), (mot, .inl (cs 0, 16, .inl otf)), (hm, .inr (12, [.ref ms, .ref mkp, .int (nI km), .ref mtr, .int (nI n), .int (nI k), .int (nI al), .int (nI be), .int ea, .int pr, .ref mas, .int nq, .int (po + (nI 1)), .int (nI en), .ref mso, .ref mon, .ref mot, .ref man, .int th, .int xd, .ref mst, .ref msm, .ref mtb, .ref mti, .ref mfr, .ref mbn, .ref mbs, .ref mde, .int sF, .int sN, .int sS, .int ig, .long xa, .long xb, .ref maa, .ref mab, .ref mba, .ref mbb])), (ms, .inl (cs 0, 288, .inl f9)), (mso, .inl (cs 0, 16, .inl sof)), (man, .inl (cs 0, 16, .inl anf))] H := hP
          replace hD : va_D A [(mon, .inl (cs 0, 16, .inl onf)), (mot, .inl (cs 0, 16, .inl otf)), (hm, .inr (12, [.ref ms, .ref mkp, .int (nI km), .ref mtr, .int (nI n), .int (nI k), .int (nI al), .int (nI be), .int ea, .int pr, .ref mas, .int nq, .int (po + (nI 1)), .int (nI en), .ref mso, .ref mon, .ref mot, .ref man, .int th, .int xd, .ref mst, .ref msm, .ref mtb, .ref mti, .ref mfr, .ref mbn, .ref mbs, .ref mde, .int sF, .int sN, .int sS, .int ig, .long xa, .long xb, .ref maa, .ref mab, .ref mba, .ref mbb])), (ms, .inl (cs 0, 288, .inl f9)), (mso, .inl (cs 0, 16, .inl sof)), (man, .inl (cs 0, 16, .inl anf))] := hD
          refine lv_if_eq (tgt := 124) hx hb dX12_pollsOne_97 (by decide) (fun c_17 => ?_) (fun c_17 => ?_)
          · -- 97 t
            refine lv_iinc (v := nI (o + 1)) (lv' := [(6, .int (nI (o + 1))), (5, .int ((anf e0) ||| ((nI 1) <<< ((nI e0) &&& 31)))), (4, .int (nI 0)), (0, .ref hm), (1, .int (nI a)), (2, .int (nI e0)), (3, .int x)]) hx hb dX12_pollsOne_124 hl (k := 0) rfl (nI_add o 1) (by decide) rfl ?_
            clear hl
            try clear ls
            intro ls hl
            refine lv_goto (tgt := 81) hx hb dX12_pollsOne_127 (by decide) ?_
            exact ih_loop_4 (o + 1) f9 (by omega) hpf9 (⟨_, hmk9, Or.inr ⟨fun q => PQ.no hw_r_15 c_17 (by decide) q.1, rfl⟩⟩) (by omega) H locs ls hP hD hS (lv_sub hl [0, 1, 2, 3, 4, 5, 6] rfl)
          · -- 97 f
            refine lv_aload_n hx hb dX12_pollsOne_100 rfl (lv_at hl 3 rfl) ?_
            refine lv_iload_n hx hb dX12_pollsOne_101 rfl (lv_at hl 4 rfl) ?_
            refine lv_aload_n hx hb dX12_pollsOne_102 rfl (lv_at hl 3 rfl) ?_
            refine xget C hP 2 rfl rfl zuX12 14 (by decide) zw5_227 rfl dX12_pollsOne_103 ?_
            refine lv_iload hx hb dX12_pollsOne_106 (lv_at hl 0 rfl) ?_
            refine xiald C hP 4 rfl o rfl (by omega) (by decide) dX12_pollsOne_108 ?_
            refine xi (wr := [(mon, .inl (cs 0, 16, .inl onf)), (mot, .inl (cs 0, 16, .inl otf)), (man, .inl (cs 0, 16, .inl anf))]) (xV (As := [.int (nI a), .int (sof o)]) (rest := []) C (c_X12_acceptedOf_f l D cs hm ms mkp mtr mas mso mon mot man mst msm mtb mti mfr mbn mbs mde maa mab mba mbb n k al be km en ea pr nq (po + (nI 1)) th xd sF sN sS ig xa xb f9 a (sof o) sof hen ha) kX12_310 hP hD [2, 3, 4] rfl (by decide) 0 rfl rfl rfl ⟨Nat.le_of_ble_eq_true rfl, Nat.le_of_ble_eq_true rfl⟩ rfl hl.1 rfl (Nat.le_of_ble_eq_true rfl) dX12_pollsOne_109 ⟨Nat.le_of_ble_eq_true rfl, Nat.le_of_ble_eq_true rfl⟩) hP hD hS hA [2, 3, 4] [0, 1, 5] rfl rfl (by decide) (by decide) ?_
            clear hP hD hS
            try clear locs
            try clear H
            intro r_18 u_19 H locs hw_r_18 hP hD hS
            have hw_r_18 : accM en sof f9 a (sof o) r_18 := hw_r_18
            refine W.widen (k := 0) (n := 0) (Nat.le_of_ble_eq_true rfl) (Nat.le_of_ble_eq_true rfl) ?_
            replace hP : va_P D vwCl [(mon, .inl (cs 0, 16, .inl onf)), (mot, .inl (cs 0, 16, .inl otf)), (man, .inl (cs 0, 16, .inl anf)), (hm, .inr (12, [.ref ms, .ref mkp, .int (nI km), .ref mtr, .int (nI n), .int (nI k), .int (nI al), .int (nI be), .int ea, .int pr, .ref mas, .int nq, .int (po + (nI 1)), .int (nI en), .ref mso, .ref mon, .ref mot, .ref man, .int th, .int xd, .ref mst, .ref msm, .ref mtb, .ref mti, .ref mfr, .ref mbn, .ref mbs, .ref mde, .int sF, .int sN, .int sS, .int ig, .long xa, .long xb, .ref maa, .ref mab, .ref mba, .ref mbb])), (ms, .inl (cs 0, 288, .inl f9)), (mso, .inl (cs 0, 16, .inl sof))] H := hP
            replace hD : va_D A [(mon, .inl (cs 0, 16, .inl onf)), (mot, .inl (cs 0, 16, .inl otf)), (man, .inl (cs 0, 16, .inl anf)), (hm, .inr (12, [.ref ms, .ref mkp, .int (nI km), .ref mtr, .int (nI n), .int (nI k), .int (nI al), .int (nI be), .int ea, .int pr, .ref mas, .int nq, .int (po + (nI 1)), .int (nI en), .ref mso, .ref mon, .ref mot, .ref man, .int th, .int xd, .ref mst, .ref msm, .ref mtb, .ref mti, .ref mfr, .ref mbn, .ref mbs, .ref mde, .int sF, .int sN, .int sS, .int ig, .long xa, .long xb, .ref maa, .ref mab, .ref mba, .ref mbb])), (ms, .inl (cs 0, 288, .inl f9)), (mso, .inl (cs 0, 16, .inl sof))] := hD
            refine lv_if_ge (tgt := 124) hx hb dX12_pollsOne_112 (by decide) (fun c_20 => ?_) (fun c_20 => ?_)
            · -- 112 t
              refine lv_iinc (v := nI (o + 1)) (lv' := [(6, .int (nI (o + 1))), (5, .int ((anf e0) ||| ((nI 1) <<< ((nI e0) &&& 31)))), (4, .int (nI 0)), (0, .ref hm), (1, .int (nI a)), (2, .int (nI e0)), (3, .int x)]) hx hb dX12_pollsOne_124 hl (k := 0) rfl (nI_add o 1) (by decide) rfl ?_
              clear hl
              try clear ls
              intro ls hl
              refine lv_goto (tgt := 81) hx hb dX12_pollsOne_127 (by decide) ?_
              exact ih_loop_4 (o + 1) f9 (by omega) hpf9 (⟨_, hmk9, Or.inr ⟨fun q => accM.some hw_r_18 c_20 q.2, rfl⟩⟩) (by omega) H locs ls (xP_map hP [0, 1, 3, 4, 5, 2] rfl) (hD.sub [0, 1, 3, 4, 5, 2] (by decide) rfl) hS (lv_sub hl [0, 1, 2, 3, 4, 5, 6] rfl)
            · -- 112 f
              refine lv_aload_n hx hb dX12_pollsOne_115 rfl (lv_at hl 3 rfl) ?_
              refine lv_iload_n hx hb dX12_pollsOne_116 rfl (lv_at hl 4 rfl) ?_
              refine lv_iload hx hb dX12_pollsOne_117 (lv_at hl 0 rfl) ?_
              refine lv_iload hx hb dX12_pollsOne_119 (lv_at hl 2 rfl) ?_
              refine xv (wr := [(mon, .inl (cs 0, 16, .inl onf)), (mot, .inl (cs 0, 16, .inl otf))]) (xV (As := [.int (nI a), .int (nI o), .int (nI 0)]) (rest := []) C (c_X12_marks_b l D cs hm ms mkp mtr mas mso mon mot man mst msm mtb mti mfr mbn mbs mde maa mab mba mbb n k al be km en ea pr nq (po + (nI 1)) th xd sF sN sS ig xa xb f9 a o (nI 0) sof anf hen hso ha (by omega) (hpf9 o (by omega))) kX12_329 hP hD [3, 4, 5, 2] rfl (by decide) 0 rfl rfl rfl ⟨Nat.le_of_ble_eq_true rfl, Nat.le_of_ble_eq_true rfl⟩ rfl hl.1 rfl (Nat.le_of_ble_eq_true rfl) dX12_pollsOne_121 ⟨Nat.le_of_ble_eq_true rfl, Nat.le_of_ble_eq_true rfl⟩) hP hD hS hA [3, 4, 5, 2] [0, 1] rfl rfl (by decide) (by decide) ?_
              clear hP hD hS
              try clear locs
              try clear H
              intro u_22 H locs hw_r_21 hP hD hS
              have hw_r_21 : mrkM en sof anf a o (nI 0) f9 u_22 := hw_r_21
              refine W.widen (k := 0) (n := 0) (Nat.le_of_ble_eq_true rfl) (Nat.le_of_ble_eq_true rfl) ?_
              replace hP : va_P D vwCl [(mon, .inl (cs 0, 16, .inl onf)), (mot, .inl (cs 0, 16, .inl otf)), (hm, .inr (12, [.ref ms, .ref mkp, .int (nI km), .ref mtr, .int (nI n), .int (nI k), .int (nI al), .int (nI be), .int ea, .int pr, .ref mas, .int nq, .int (po + (nI 1)), .int (nI en), .ref mso, .ref mon, .ref mot, .ref man, .int th, .int xd, .ref mst, .ref msm, .ref mtb, .ref mti, .ref mfr, .ref mbn, .ref mbs, .ref mde, .int sF, .int sN, .int sS, .int ig, .long xa, .long xb, .ref maa, .ref mab, .ref mba, .ref mbb])), (ms, .inl (cs 0, 288, .inl u_22)), (mso, .inl (cs 0, 16, .inl sof)), (man, .inl (cs 0, 16, .inl anf))] H := hP
              replace hD : va_D A [(mon, .inl (cs 0, 16, .inl onf)), (mot, .inl (cs 0, 16, .inl otf)), (hm, .inr (12, [.ref ms, .ref mkp, .int (nI km), .ref mtr, .int (nI n), .int (nI k), .int (nI al), .int (nI be), .int ea, .int pr, .ref mas, .int nq, .int (po + (nI 1)), .int (nI en), .ref mso, .ref mon, .ref mot, .ref man, .int th, .int xd, .ref mst, .ref msm, .ref mtb, .ref mti, .ref mfr, .ref mbn, .ref mbs, .ref mde, .int sF, .int sN, .int sS, .int ig, .long xa, .long xb, .ref maa, .ref mab, .ref mba, .ref mbb])), (ms, .inl (cs 0, 288, .inl u_22)), (mso, .inl (cs 0, 16, .inl sof)), (man, .inl (cs 0, 16, .inl anf))] := hD
              refine lv_iinc (v := nI (o + 1)) (lv' := [(6, .int (nI (o + 1))), (5, .int ((anf e0) ||| ((nI 1) <<< ((nI e0) &&& 31)))), (4, .int (nI 0)), (0, .ref hm), (1, .int (nI a)), (2, .int (nI e0)), (3, .int x)]) hx hb dX12_pollsOne_124 hl (k := 0) rfl (nI_add o 1) (by decide) rfl ?_
              clear hl
              try clear ls
              intro ls hl
              refine lv_goto (tgt := 81) hx hb dX12_pollsOne_127 (by decide) ?_
              exact ih_loop_4 (o + 1) u_22 (by omega) (mrkM.prf hpf9 (by omega) ha hso hen hw_r_21) (⟨_, hmk9, Or.inl ⟨⟨PQ.yes hw_r_15 c_17, accM.none hen hw_r_18 c_20⟩, hw_r_21⟩⟩) (by omega) H locs ls hP hD hS (lv_sub hl [0, 1, 2, 3, 4, 5, 6] rfl)
    exact loop_4 _ 0 (upd f (72 + a) ((f (72 + a)) ||| ((nI 1) <<< ((nI e0) &&& 31)))) (by omega) hpfH rfl (Nat.lt_succ_self _) H locs ls hP hD hS (lv_sub hl [0, 1, 2, 3, 4, 5, 6] rfl)
  · -- 11 f
    have fc_3 : al ≤ c9 := nf_nlt (by omega) (by omega) c_3
    refine lv_iconst (v := nI 1) hx hb dX12_pollsOne_14 (by decide) ?_
    refine lv_goto (tgt := 19) hx hb dX12_pollsOne_15 (by decide) ?_
    refine lv_istore (lv' := [(4, .int (nI 1)), (0, .ref hm), (1, .int (nI a)), (2, .int (nI e0)), (3, .int x)]) hx hb dX12_pollsOne_19 hl (by decide) rfl ?_
    clear hl
    try clear ls
    intro ls hl
    refine lv_aload_n hx hb dX12_pollsOne_21 rfl (lv_at hl 1 rfl) ?_
    refine xget C hP 2 rfl rfl zuX12 0 (by decide) zw5_213 rfl dX12_pollsOne_22 ?_
    refine lv_bipush (v := nI 72) hx hb dX12_pollsOne_25 (by decide) ?_
    refine lv_iload_n hx hb dX12_pollsOne_27 rfl (lv_at hl 2 rfl) ?_
    refine lv_iadd hx hb dX12_pollsOne_28 ?_
    refine lv_topi (nm_r (e' := nI (72 + a)) (nI_add _ _) ?_)
    refine lv_dup2_11 hx hb dX12_pollsOne_29 rfl rfl ?_
    refine xiald C hP 3 rfl (72 + a) rfl (by omega) (by decide) dX12_pollsOne_30 ?_
    refine lv_iconst (v := nI 1) hx hb dX12_pollsOne_31 (by decide) ?_
    refine lv_iload_n hx hb dX12_pollsOne_32 rfl (lv_at hl 3 rfl) ?_
    refine lv_ishl hx hb dX12_pollsOne_33 ?_
    refine lv_ior hx hb dX12_pollsOne_34 ?_
    refine xiast C hP hD hS 3 rfl (72 + a) rfl (by omega) (by decide) dX12_pollsOne_35 ?_
    clear hP hD hS
    try clear locs
    try clear H
    intro H locs hP hD hS
    replace hP : va_P D vwCl [(mon, .inl (cs 0, 16, .inl onf)), (mot, .inl (cs 0, 16, .inl otf)), (hm, .inr (12, [.ref ms, .ref mkp, .int (nI km), .ref mtr, .int (nI n), .int (nI k), .int (nI al), .int (nI be), .int ea, .int pr, .ref mas, .int nq, .int po, .int (nI en), .ref mso, .ref mon, .ref mot, .ref man, .int th, .int xd, .ref mst, .ref msm, .ref mtb, .ref mti, .ref mfr, .ref mbn, .ref mbs, .ref mde, .int sF, .int sN, .int sS, .int ig, .long xa, .long xb, .ref maa, .ref mab, .ref mba, .ref mbb])), (ms, .inl (cs 0, 288, .inl (upd f (72 + a) ((f (72 + a)) ||| ((nI 1) <<< ((nI e0) &&& 31)))))), (mso, .inl (cs 0, 16, .inl sof)), (man, .inl (cs 0, 16, .inl anf))] H := hP
    replace hD : va_D A [(mon, .inl (cs 0, 16, .inl onf)), (mot, .inl (cs 0, 16, .inl otf)), (hm, .inr (12, [.ref ms, .ref mkp, .int (nI km), .ref mtr, .int (nI n), .int (nI k), .int (nI al), .int (nI be), .int ea, .int pr, .ref mas, .int nq, .int po, .int (nI en), .ref mso, .ref mon, .ref mot, .ref man, .int th, .int xd, .ref mst, .ref msm, .ref mtb, .ref mti, .ref mfr, .ref mbn, .ref mbs, .ref mde, .int sF, .int sN, .int sS, .int ig, .long xa, .long xb, .ref maa, .ref mab, .ref mba, .ref mbb])), (ms, .inl (cs 0, 288, .inl (upd f (72 + a) ((f (72 + a)) ||| ((nI 1) <<< ((nI e0) &&& 31)))))), (mso, .inl (cs 0, 16, .inl sof)), (man, .inl (cs 0, 16, .inl anf))] := hD
    refine lv_aload_n hx hb dX12_pollsOne_36 rfl (lv_at hl 1 rfl) ?_
    refine lv_dup hx hb dX12_pollsOne_37 rfl ?_
    refine xget C hP 2 rfl rfl zuX12 12 (by decide) zw5_225 rfl dX12_pollsOne_38 ?_
    refine lv_iconst (v := nI 1) hx hb dX12_pollsOne_41 (by decide) ?_
    refine lv_iadd hx hb dX12_pollsOne_42 ?_
    refine xput C hP hD hS 2 rfl rfl zuX12 tyX12 tyX12_ok nmX12 12 (by decide) zw5_225 rfl rfl rfl (Nat.le_of_ble_eq_true rfl) dX12_pollsOne_43 ?_
    clear hP hD hS
    try clear locs
    try clear H
    intro H locs hP hD hS
    replace hP : va_P D vwCl [(mon, .inl (cs 0, 16, .inl onf)), (mot, .inl (cs 0, 16, .inl otf)), (hm, .inr (12, [.ref ms, .ref mkp, .int (nI km), .ref mtr, .int (nI n), .int (nI k), .int (nI al), .int (nI be), .int ea, .int pr, .ref mas, .int nq, .int (po + (nI 1)), .int (nI en), .ref mso, .ref mon, .ref mot, .ref man, .int th, .int xd, .ref mst, .ref msm, .ref mtb, .ref mti, .ref mfr, .ref mbn, .ref mbs, .ref mde, .int sF, .int sN, .int sS, .int ig, .long xa, .long xb, .ref maa, .ref mab, .ref mba, .ref mbb])), (ms, .inl (cs 0, 288, .inl (upd f (72 + a) ((f (72 + a)) ||| ((nI 1) <<< ((nI e0) &&& 31)))))), (mso, .inl (cs 0, 16, .inl sof)), (man, .inl (cs 0, 16, .inl anf))] H := hP
    replace hD : va_D A [(mon, .inl (cs 0, 16, .inl onf)), (mot, .inl (cs 0, 16, .inl otf)), (hm, .inr (12, [.ref ms, .ref mkp, .int (nI km), .ref mtr, .int (nI n), .int (nI k), .int (nI al), .int (nI be), .int ea, .int pr, .ref mas, .int nq, .int (po + (nI 1)), .int (nI en), .ref mso, .ref mon, .ref mot, .ref man, .int th, .int xd, .ref mst, .ref msm, .ref mtb, .ref mti, .ref mfr, .ref mbn, .ref mbs, .ref mde, .int sF, .int sN, .int sS, .int ig, .long xa, .long xb, .ref maa, .ref mab, .ref mba, .ref mbb])), (ms, .inl (cs 0, 288, .inl (upd f (72 + a) ((f (72 + a)) ||| ((nI 1) <<< ((nI e0) &&& 31)))))), (mso, .inl (cs 0, 16, .inl sof)), (man, .inl (cs 0, 16, .inl anf))] := hD
    refine lv_iload hx hb dX12_pollsOne_46 (lv_at hl 0 rfl) ?_
    refine lv_if_eq (tgt := 66) hx hb dX12_pollsOne_48 (by decide) (fun c => absurd c (by decide)) (fun _ => ?_)
    refine lv_aload_n hx hb dX12_pollsOne_51 rfl (lv_at hl 1 rfl) ?_
    refine xget C hP 2 rfl rfl zuX12 0 (by decide) zw5_213 rfl dX12_pollsOne_52 ?_
    refine lv_bipush (v := nI 64) hx hb dX12_pollsOne_55 (by decide) ?_
    refine lv_iload_n hx hb dX12_pollsOne_57 rfl (lv_at hl 2 rfl) ?_
    refine lv_iadd hx hb dX12_pollsOne_58 ?_
    refine lv_topi (nm_r (e' := nI (64 + a)) (nI_add _ _) ?_)
    refine lv_dup2_11 hx hb dX12_pollsOne_59 rfl rfl ?_
    refine xiald C hP 3 rfl (64 + a) rfl (by omega) (by decide) dX12_pollsOne_60 ?_
    refine lv_iconst (v := nI 1) hx hb dX12_pollsOne_61 (by decide) ?_
    refine lv_iload_n hx hb dX12_pollsOne_62 rfl (lv_at hl 3 rfl) ?_
    refine lv_ishl hx hb dX12_pollsOne_63 ?_
    refine lv_ior hx hb dX12_pollsOne_64 ?_
    refine xiast C hP hD hS 3 rfl (64 + a) rfl (by omega) (by decide) dX12_pollsOne_65 ?_
    clear hP hD hS
    try clear locs
    try clear H
    intro H locs hP hD hS
    replace hP : va_P D vwCl [(mon, .inl (cs 0, 16, .inl onf)), (mot, .inl (cs 0, 16, .inl otf)), (hm, .inr (12, [.ref ms, .ref mkp, .int (nI km), .ref mtr, .int (nI n), .int (nI k), .int (nI al), .int (nI be), .int ea, .int pr, .ref mas, .int nq, .int (po + (nI 1)), .int (nI en), .ref mso, .ref mon, .ref mot, .ref man, .int th, .int xd, .ref mst, .ref msm, .ref mtb, .ref mti, .ref mfr, .ref mbn, .ref mbs, .ref mde, .int sF, .int sN, .int sS, .int ig, .long xa, .long xb, .ref maa, .ref mab, .ref mba, .ref mbb])), (ms, .inl (cs 0, 288, .inl (upd (upd f (72 + a) ((f (72 + a)) ||| ((nI 1) <<< ((nI e0) &&& 31)))) (64 + a) (((upd f (72 + a) ((f (72 + a)) ||| ((nI 1) <<< ((nI e0) &&& 31)))) (64 + a)) ||| ((nI 1) <<< ((nI e0) &&& 31)))))), (mso, .inl (cs 0, 16, .inl sof)), (man, .inl (cs 0, 16, .inl anf))] H := hP
    replace hD : va_D A [(mon, .inl (cs 0, 16, .inl onf)), (mot, .inl (cs 0, 16, .inl otf)), (hm, .inr (12, [.ref ms, .ref mkp, .int (nI km), .ref mtr, .int (nI n), .int (nI k), .int (nI al), .int (nI be), .int ea, .int pr, .ref mas, .int nq, .int (po + (nI 1)), .int (nI en), .ref mso, .ref mon, .ref mot, .ref man, .int th, .int xd, .ref mst, .ref msm, .ref mtb, .ref mti, .ref mfr, .ref mbn, .ref mbs, .ref mde, .int sF, .int sN, .int sS, .int ig, .long xa, .long xb, .ref maa, .ref mab, .ref mba, .ref mbb])), (ms, .inl (cs 0, 288, .inl (upd (upd f (72 + a) ((f (72 + a)) ||| ((nI 1) <<< ((nI e0) &&& 31)))) (64 + a) (((upd f (72 + a) ((f (72 + a)) ||| ((nI 1) <<< ((nI e0) &&& 31)))) (64 + a)) ||| ((nI 1) <<< ((nI e0) &&& 31)))))), (mso, .inl (cs 0, 16, .inl sof)), (man, .inl (cs 0, 16, .inl anf))] := hD
    refine lv_aload_n hx hb dX12_pollsOne_66 rfl (lv_at hl 1 rfl) ?_
    refine xget C hP 2 rfl rfl zuX12 17 (by decide) zw5_230 rfl dX12_pollsOne_67 ?_
    refine lv_iload_n hx hb dX12_pollsOne_70 rfl (lv_at hl 3 rfl) ?_
    refine xiald C hP 5 rfl e0 rfl (by omega) (by decide) dX12_pollsOne_71 ?_
    refine lv_iconst (v := nI 1) hx hb dX12_pollsOne_72 (by decide) ?_
    refine lv_iload_n hx hb dX12_pollsOne_73 rfl (lv_at hl 3 rfl) ?_
    refine lv_ishl hx hb dX12_pollsOne_74 ?_
    refine lv_ior hx hb dX12_pollsOne_75 ?_
    refine lv_istore (lv' := [(5, .int ((anf e0) ||| ((nI 1) <<< ((nI e0) &&& 31)))), (4, .int (nI 1)), (0, .ref hm), (1, .int (nI a)), (2, .int (nI e0)), (3, .int x)]) hx hb dX12_pollsOne_76 hl (by decide) rfl ?_
    clear hl
    try clear ls
    intro ls hl
    refine lv_iconst (v := nI 0) hx hb dX12_pollsOne_78 (by decide) ?_
    refine lv_istore (lv' := [(6, .int (nI 0)), (5, .int ((anf e0) ||| ((nI 1) <<< ((nI e0) &&& 31)))), (4, .int (nI 1)), (0, .ref hm), (1, .int (nI a)), (2, .int (nI e0)), (3, .int x)]) hx hb dX12_pollsOne_79 hl (by decide) rfl ?_
    clear hl
    try clear ls
    intro ls hl
    have hpfH : prfM en sof a (upd (upd f (72 + a) ((f (72 + a)) ||| ((nI 1) <<< ((nI e0) &&& 31)))) (64 + a) (((upd f (72 + a) ((f (72 + a)) ||| ((nI 1) <<< ((nI e0) &&& 31)))) (64 + a)) ||| ((nI 1) <<< ((nI e0) &&& 31)))) := hprf.of (fun i hi => by simp only [upd]; repeat rw [if_neg (by omega)]) hso hen
    have loop_23 : ∀ (n_loop_23 : Nat) (o : Nat) (f9 : Nat → Int32), (o ≤ en) → (prfM en sof a f9) → (mksM en sof anf a (anf e0 ||| bitI e0) (nI 1) o (upd (upd f (72 + a) ((f (72 + a)) ||| ((nI 1) <<< ((nI e0) &&& 31)))) (64 + a) (((upd f (72 + a) ((f (72 + a)) ||| ((nI 1) <<< ((nI e0) &&& 31)))) (64 + a)) ||| ((nI 1) <<< ((nI e0) &&& 31)))) f9) → en - o < n_loop_23 → ∀ (H : Heap) (locs : List Loc) (ls : Array Slot), va_P D vwCl [(mon, .inl (cs 0, 16, .inl onf)), (mot, .inl (cs 0, 16, .inl otf)), (hm, .inr (12, [.ref ms, .ref mkp, .int (nI km), .ref mtr, .int (nI n), .int (nI k), .int (nI al), .int (nI be), .int ea, .int pr, .ref mas, .int nq, .int (po + (nI 1)), .int (nI en), .ref mso, .ref mon, .ref mot, .ref man, .int th, .int xd, .ref mst, .ref msm, .ref mtb, .ref mti, .ref mfr, .ref mbn, .ref mbs, .ref mde, .int sF, .int sN, .int sS, .int ig, .long xa, .long xb, .ref maa, .ref mab, .ref mba, .ref mbb])), (ms, .inl (cs 0, 288, .inl f9)), (mso, .inl (cs 0, 16, .inl sof)), (man, .inl (cs 0, 16, .inl anf))] H → va_D A [(mon, .inl (cs 0, 16, .inl onf)), (mot, .inl (cs 0, 16, .inl otf)), (hm, .inr (12, [.ref ms, .ref mkp, .int (nI km), .ref mtr, .int (nI n), .int (nI k), .int (nI al), .int (nI be), .int ea, .int pr, .ref mas, .int nq, .int (po + (nI 1)), .int (nI en), .ref mso, .ref mon, .ref mot, .ref man, .int th, .int xd, .ref mst, .ref msm, .ref mtb, .ref mti, .ref mfr, .ref mbn, .ref mbs, .ref mde, .int sF, .int sN, .int sS, .int ig, .long xa, .long xb, .ref maa, .ref mab, .ref mba, .ref mbb])), (ms, .inl (cs 0, 288, .inl f9)), (mso, .inl (cs 0, 16, .inl sof)), (man, .inl (cs 0, 16, .inl anf))] → va_S A s.heap H locs → lv_has ls 8 [(6, .int (nI o)), (5, .int ((anf e0) ||| ((nI 1) <<< ((nI e0) &&& 31)))), (4, .int (nI 1)), (0, .ref hm), (1, .int (nI a)), (2, .int (nI e0)), (3, .int x)] → W p l e ({ frames := 4, cells := 0, slots := 0, locals := 93 } : Room) s m args below meth c H locs 0 0 (MQ below ((xQi D (fun (r : Int32) (u : (Nat → Int32) × Int32) => match u with | (fz, poz) => hldM n al be en ea sof onf otf anf a e0 x r f fz ∧ poz = po + nI 1) (fun (u : (Nat → Int32) × Int32) => match u with | (fz, poz) => [(hm, .inr (12, [.ref ms, .ref mkp, .int (nI km), .ref mtr, .int (nI n), .int (nI k), .int (nI al), .int (nI be), .int ea, .int pr, .ref mas, .int nq, .int poz, .int (nI en), .ref mso, .ref mon, .ref mot, .ref man, .int th, .int xd, .ref mst, .ref msm, .ref mtb, .ref mti, .ref mfr, .ref mbn, .ref mbs, .ref mde, .int sF, .int sN, .int sS, .int ig, .long xa, .long xb, .ref maa, .ref mab, .ref mba, .ref mbb])), (ms, .inl (cs 0, 288, .inl fz)), (mso, .inl (cs 0, 16, .inl sof)), (mon, .inl (cs 0, 16, .inl onf)), (mot, .inl (cs 0, 16, .inl otf)), (man, .inl (cs 0, 16, .inl anf))])) A) args s 0 0 A) (F0 m 81 ls []) := by
      intro n_loop_23
      induction n_loop_23 with
      | zero => intro o f9 h_o hpf9 hmk9 hlt H locs ls hP hD hS hl; exact absurd hlt (Nat.not_lt_zero _)
      | succ n_loop_23 ih_loop_23 =>
        intro o f9 h_o hpf9 hmk9 hlt_loop_23 H locs ls hP hD hS hl
        refine lv_iload hx hb dX12_pollsOne_81 (lv_at hl 0 rfl) ?_
        refine lv_aload_n hx hb dX12_pollsOne_83 rfl (lv_at hl 3 rfl) ?_
        refine xget C hP 2 rfl rfl zuX12 13 (by decide) zw5_226 rfl dX12_pollsOne_84 ?_
        refine lv_icmp_ge (tgt := 130) hx hb dX12_pollsOne_87 (by decide) (fun c_24 => ?_) (fun c_24 => ?_)
        · -- 87 t
          have fc_24 : en ≤ o := nf_le (by omega) (by omega) c_24
          refine lv_iconst (v := nI 0) hx hb dX12_pollsOne_130 (by decide) ?_
          refine lv_istore (lv' := [(6, .int (nI 0)), (5, .int ((anf e0) ||| ((nI 1) <<< ((nI e0) &&& 31)))), (4, .int (nI 1)), (0, .ref hm), (1, .int (nI a)), (2, .int (nI e0)), (3, .int x)]) hx hb dX12_pollsOne_131 hl (by decide) rfl ?_
          clear hl
          try clear ls
          intro ls hl
          refine lv_iconst (v := nI 0) hx hb dX12_pollsOne_133 (by decide) ?_
          refine lv_istore (lv' := [(7, .int (nI 0)), (6, .int (nI 0)), (5, .int ((anf e0) ||| ((nI 1) <<< ((nI e0) &&& 31)))), (4, .int (nI 1)), (0, .ref hm), (1, .int (nI a)), (2, .int (nI e0)), (3, .int x)]) hx hb dX12_pollsOne_134 hl (by decide) rfl ?_
          clear hl
          try clear ls
          intro ls hl
          have q8 : o = en := by omega
          rw [q8] at hmk9
          have loop_25 : ∀ (n_loop_25 : Nat) (o2 : Nat) (f8 : Nat → Int32) (i9 : Nat), (o2 ≤ en) → (i9 ≤ 1) → (acsM en be ea sof onf otf a (anf e0 ||| bitI e0) o2 f9 f8 i9) → en - o2 < n_loop_25 → ∀ (H : Heap) (locs : List Loc) (ls : Array Slot), va_P D vwCl [(mon, .inl (cs 0, 16, .inl onf)), (mot, .inl (cs 0, 16, .inl otf)), (hm, .inr (12, [.ref ms, .ref mkp, .int (nI km), .ref mtr, .int (nI n), .int (nI k), .int (nI al), .int (nI be), .int ea, .int pr, .ref mas, .int nq, .int (po + (nI 1)), .int (nI en), .ref mso, .ref mon, .ref mot, .ref man, .int th, .int xd, .ref mst, .ref msm, .ref mtb, .ref mti, .ref mfr, .ref mbn, .ref mbs, .ref mde, .int sF, .int sN, .int sS, .int ig, .long xa, .long xb, .ref maa, .ref mab, .ref mba, .ref mbb])), (ms, .inl (cs 0, 288, .inl f8)), (mso, .inl (cs 0, 16, .inl sof)), (man, .inl (cs 0, 16, .inl anf))] H → va_D A [(mon, .inl (cs 0, 16, .inl onf)), (mot, .inl (cs 0, 16, .inl otf)), (hm, .inr (12, [.ref ms, .ref mkp, .int (nI km), .ref mtr, .int (nI n), .int (nI k), .int (nI al), .int (nI be), .int ea, .int pr, .ref mas, .int nq, .int (po + (nI 1)), .int (nI en), .ref mso, .ref mon, .ref mot, .ref man, .int th, .int xd, .ref mst, .ref msm, .ref mtb, .ref mti, .ref mfr, .ref mbn, .ref mbs, .ref mde, .int sF, .int sN, .int sS, .int ig, .long xa, .long xb, .ref maa, .ref mab, .ref mba, .ref mbb])), (ms, .inl (cs 0, 288, .inl f8)), (mso, .inl (cs 0, 16, .inl sof)), (man, .inl (cs 0, 16, .inl anf))] → va_S A s.heap H locs → lv_has ls 8 [(7, .int (nI o2)), (6, .int (nI i9)), (5, .int ((anf e0) ||| ((nI 1) <<< ((nI e0) &&& 31)))), (4, .int (nI 1)), (0, .ref hm), (1, .int (nI a)), (2, .int (nI e0)), (3, .int x)] → W p l e ({ frames := 4, cells := 0, slots := 0, locals := 93 } : Room) s m args below meth c H locs 0 0 (MQ below ((xQi D (fun (r : Int32) (u : (Nat → Int32) × Int32) => match u with | (fz, poz) => hldM n al be en ea sof onf otf anf a e0 x r f fz ∧ poz = po + nI 1) (fun (u : (Nat → Int32) × Int32) => match u with | (fz, poz) => [(hm, .inr (12, [.ref ms, .ref mkp, .int (nI km), .ref mtr, .int (nI n), .int (nI k), .int (nI al), .int (nI be), .int ea, .int pr, .ref mas, .int nq, .int poz, .int (nI en), .ref mso, .ref mon, .ref mot, .ref man, .int th, .int xd, .ref mst, .ref msm, .ref mtb, .ref mti, .ref mfr, .ref mbn, .ref mbs, .ref mde, .int sF, .int sN, .int sS, .int ig, .long xa, .long xb, .ref maa, .ref mab, .ref mba, .ref mbb])), (ms, .inl (cs 0, 288, .inl fz)), (mso, .inl (cs 0, 16, .inl sof)), (mon, .inl (cs 0, 16, .inl onf)), (mot, .inl (cs 0, 16, .inl otf)), (man, .inl (cs 0, 16, .inl anf))])) A) args s 0 0 A) (F0 m 136 ls []) := by
            intro n_loop_25
            induction n_loop_25 with
            | zero => intro o2 f8 i9 h_o2 hi9 has9 hlt H locs ls hP hD hS hl; exact absurd hlt (Nat.not_lt_zero _)
            | succ n_loop_25 ih_loop_25 =>
              intro o2 f8 i9 h_o2 hi9 has9 hlt_loop_25 H locs ls hP hD hS hl
              refine lv_iload hx hb dX12_pollsOne_136 (lv_at hl 0 rfl) ?_
              refine lv_aload_n hx hb dX12_pollsOne_138 rfl (lv_at hl 4 rfl) ?_
              refine xget C hP 2 rfl rfl zuX12 13 (by decide) zw5_226 rfl dX12_pollsOne_139 ?_
              refine lv_icmp_ge (tgt := 174) hx hb dX12_pollsOne_142 (by decide) (fun c_26 => ?_) (fun c_26 => ?_)
              · -- 142 t
                have fc_26 : en ≤ o2 := nf_le (by omega) (by omega) c_26
                refine lv_iload hx hb dX12_pollsOne_174 (lv_at hl 1 rfl) ?_
                refine lv_if_eq (tgt := 183) hx hb dX12_pollsOne_176 (by decide) (fun c_27 => ?_) (fun c_27 => ?_)
                · -- 176 t
                  have fc_27 : i9 = 0 := nf_eq (by omega) (by omega) c_27
                  refine lv_iload hx hb dX12_pollsOne_183 (lv_at hl 3 rfl) ?_
                  refine lv_if_eq (tgt := 192) hx hb dX12_pollsOne_185 (by decide) (fun c => absurd c (by decide)) (fun _ => ?_)
                  refine lv_iconst (v := nI 1) hx hb dX12_pollsOne_188 (by decide) ?_
                  refine lv_goto (tgt := 193) hx hb dX12_pollsOne_189 (by decide) ?_
                  exact xreti C (⟨f8, (po + (nI 1))⟩) (⟨⟨c9, i9, f9, _, hc9, hyo, Or.inr ⟨Nat.not_lt.mpr fc_3, rfl, hmk9⟩, by have q9 : o2 = en := (by omega); rw [q9] at has9; exact has9, Or.inr (Or.inl ⟨fc_27, Nat.not_lt.mpr fc_3, rfl⟩)⟩, rfl⟩) (xP_map hP [2, 3, 4, 0, 1, 5] rfl) (hD.sub [2, 3, 4, 0, 1, 5] (by decide) rfl) hS (Nat.le_of_ble_eq_true rfl) (Nat.le_of_ble_eq_true rfl) rfl dX12_pollsOne_193
                · -- 176 f
                  have fc_27 : i9 ≠ 0 := nf_ne (by omega) (by omega) c_27
                  refine lv_iconst (v := nI 2) hx hb dX12_pollsOne_179 (by decide) ?_
                  refine lv_goto (tgt := 193) hx hb dX12_pollsOne_180 (by decide) ?_
                  exact xreti C (⟨f8, (po + (nI 1))⟩) (⟨⟨c9, i9, f9, _, hc9, hyo, Or.inr ⟨Nat.not_lt.mpr fc_3, rfl, hmk9⟩, by have q9 : o2 = en := (by omega); rw [q9] at has9; exact has9, Or.inl ⟨fc_27, rfl⟩⟩, rfl⟩) (xP_map hP [2, 3, 4, 0, 1, 5] rfl) (hD.sub [2, 3, 4, 0, 1, 5] (by decide) rfl) hS (Nat.le_of_ble_eq_true rfl) (Nat.le_of_ble_eq_true rfl) rfl dX12_pollsOne_193
              · -- 142 f
                have fc_26 : o2 < en := nf_nle (by omega) (by omega) c_26
                refine lv_iload hx hb dX12_pollsOne_145 (lv_at hl 2 rfl) ?_
                refine lv_iload hx hb dX12_pollsOne_147 (lv_at hl 0 rfl) ?_
                refine xi (wr := [(mon, .inl (cs 0, 16, .inl onf)), (mot, .inl (cs 0, 16, .inl otf)), (hm, .inr (12, [.ref ms, .ref mkp, .int (nI km), .ref mtr, .int (nI n), .int (nI k), .int (nI al), .int (nI be), .int ea, .int pr, .ref mas, .int nq, .int (po + (nI 1)), .int (nI en), .ref mso, .ref mon, .ref mot, .ref man, .int th, .int xd, .ref mst, .ref msm, .ref mtb, .ref mti, .ref mfr, .ref mbn, .ref mbs, .ref mde, .int sF, .int sN, .int sS, .int ig, .long xa, .long xb, .ref maa, .ref mab, .ref mba, .ref mbb])), (ms, .inl (cs 0, 288, .inl f8)), (mso, .inl (cs 0, 16, .inl sof)), (man, .inl (cs 0, 16, .inl anf))]) (xS (As := [.int ((anf e0) ||| ((nI 1) <<< ((nI e0) &&& 31))), .int (nI o2)]) (rest := []) C (c_X12_has l D cs ((anf e0) ||| ((nI 1) <<< ((nI e0) &&& 31))) o2) kX12_100 hP hD [] rfl (by decide) ⟨Nat.le_of_ble_eq_true rfl, Nat.le_of_ble_eq_true rfl⟩ rfl hl.1 rfl (Nat.le_of_ble_eq_true rfl) dX12_pollsOne_149 ⟨Nat.le_of_ble_eq_true rfl, Nat.le_of_ble_eq_true rfl⟩) hP hD hS hA [] [0, 1, 2, 3, 4, 5] rfl rfl (by decide) (by decide) ?_
                clear hP hD hS
                try clear locs
                try clear H
                intro r_28 u_29 H locs hw_r_28 hP hD hS
                have hw_r_28 : PQ (hasB ((anf e0) ||| ((nI 1) <<< ((nI e0) &&& 31))) o2) r_28 (nI 1) (nI 0) := hw_r_28
                refine W.widen (k := 0) (n := 0) (Nat.le_of_ble_eq_true rfl) (Nat.le_of_ble_eq_true rfl) ?_
                replace hP : va_P D vwCl [(mon, .inl (cs 0, 16, .inl onf)), (mot, .inl (cs 0, 16, .inl otf)), (hm, .inr (12, [.ref ms, .ref mkp, .int (nI km), .ref mtr, .int (nI n), .int (nI k), .int (nI al), .int (nI be), .int ea, .int pr, .ref mas, .int nq, .int (po + (nI 1)), .int (nI en), .ref mso, .ref mon, .ref mot, .ref man, .int th, .int xd, .ref mst, .ref msm, .ref mtb, .ref mti, .ref mfr, .ref mbn, .ref mbs, .ref mde, .int sF, .int sN, .int sS, .int ig, .long xa, .long xb, .ref maa, .ref mab, .ref mba, .ref mbb])), (ms, .inl (cs 0, 288, .inl f8)), (mso, .inl (cs 0, 16, .inl sof)), (man, .inl (cs 0, 16, .inl anf))] H := hP
                replace hD : va_D A [(mon, .inl (cs 0, 16, .inl onf)), (mot, .inl (cs 0, 16, .inl otf)), (hm, .inr (12, [.ref ms, .ref mkp, .int (nI km), .ref mtr, .int (nI n), .int (nI k), .int (nI al), .int (nI be), .int ea, .int pr, .ref mas, .int nq, .int (po + (nI 1)), .int (nI en), .ref mso, .ref mon, .ref mot, .ref man, .int th, .int xd, .ref mst, .ref msm, .ref mtb, .ref mti, .ref mfr, .ref mbn, .ref mbs, .ref mde, .int sF, .int sN, .int sS, .int ig, .long xa, .long xb, .ref maa, .ref mab, .ref mba, .ref mbb])), (ms, .inl (cs 0, 288, .inl f8)), (mso, .inl (cs 0, 16, .inl sof)), (man, .inl (cs 0, 16, .inl anf))] := hD
                refine lv_if_eq (tgt := 168) hx hb dX12_pollsOne_152 (by decide) (fun c_30 => ?_) (fun c_30 => ?_)
                · -- 152 t
                  refine lv_iinc (v := nI (o2 + 1)) (lv' := [(7, .int (nI (o2 + 1))), (6, .int (nI i9)), (5, .int ((anf e0) ||| ((nI 1) <<< ((nI e0) &&& 31)))), (4, .int (nI 1)), (0, .ref hm), (1, .int (nI a)), (2, .int (nI e0)), (3, .int x)]) hx hb dX12_pollsOne_168 hl (k := 0) rfl (nI_add o2 1) (by decide) rfl ?_
                  clear hl
                  try clear ls
                  intro ls hl
                  refine lv_goto (tgt := 136) hx hb dX12_pollsOne_171 (by decide) ?_
                  exact ih_loop_25 (o2 + 1) f8 i9 (by omega) (by omega) (⟨_, _, has9, Or.inr ⟨fun q => PQ.no hw_r_28 c_30 (by decide) q.1, rfl, rfl⟩⟩) (by omega) H locs ls hP hD hS (lv_sub hl [0, 1, 2, 3, 4, 5, 6, 7] rfl)
                · -- 152 f
                  refine lv_aload_n hx hb dX12_pollsOne_155 rfl (lv_at hl 4 rfl) ?_
                  refine lv_iload_n hx hb dX12_pollsOne_156 rfl (lv_at hl 5 rfl) ?_
                  refine lv_iload hx hb dX12_pollsOne_157 (lv_at hl 0 rfl) ?_
                  refine xi (wr := [(man, .inl (cs 0, 16, .inl anf))]) (xV (As := [.int (nI a), .int (nI o2)]) (rest := []) C (c_X12_accepts_b l D cs hm ms mkp mtr mas mso mon mot man mst msm mtb mti mfr mbn mbs mde maa mab mba mbb n k al be km en ea pr nq (po + (nI 1)) th xd sF sN sS ig xa xb f8 sof onf otf a o2 hen hso ha (by omega) hon hot) kX12_333 hP hD [2, 3, 4, 0, 1] rfl (by decide) 0 rfl rfl rfl ⟨Nat.le_of_ble_eq_true rfl, Nat.le_of_ble_eq_true rfl⟩ rfl hl.1 rfl (Nat.le_of_ble_eq_true rfl) dX12_pollsOne_159 ⟨Nat.le_of_ble_eq_true rfl, Nat.le_of_ble_eq_true rfl⟩) hP hD hS hA [2, 3, 4, 0, 1] [5] rfl rfl (by decide) (by decide) ?_
                  clear hP hD hS
                  try clear locs
                  try clear H
                  intro r_31 u_32 H locs hw_r_31 hP hD hS
                  have hw_r_31 : (ripM en be ea sof onf otf a o2 f8 ∧ r_31 = nI 1 ∧ rejM en sof a o2 f8 u_32) ∨ (¬ ripM en be ea sof onf otf a o2 f8 ∧ r_31 = nI 0 ∧ u_32 = f8) := hw_r_31
                  refine W.widen (k := 0) (n := 0) (Nat.le_of_ble_eq_true rfl) (Nat.le_of_ble_eq_true rfl) ?_
                  replace hP : va_P D vwCl [(man, .inl (cs 0, 16, .inl anf)), (hm, .inr (12, [.ref ms, .ref mkp, .int (nI km), .ref mtr, .int (nI n), .int (nI k), .int (nI al), .int (nI be), .int ea, .int pr, .ref mas, .int nq, .int (po + (nI 1)), .int (nI en), .ref mso, .ref mon, .ref mot, .ref man, .int th, .int xd, .ref mst, .ref msm, .ref mtb, .ref mti, .ref mfr, .ref mbn, .ref mbs, .ref mde, .int sF, .int sN, .int sS, .int ig, .long xa, .long xb, .ref maa, .ref mab, .ref mba, .ref mbb])), (ms, .inl (cs 0, 288, .inl u_32)), (mso, .inl (cs 0, 16, .inl sof)), (mon, .inl (cs 0, 16, .inl onf)), (mot, .inl (cs 0, 16, .inl otf))] H := hP
                  replace hD : va_D A [(man, .inl (cs 0, 16, .inl anf)), (hm, .inr (12, [.ref ms, .ref mkp, .int (nI km), .ref mtr, .int (nI n), .int (nI k), .int (nI al), .int (nI be), .int ea, .int pr, .ref mas, .int nq, .int (po + (nI 1)), .int (nI en), .ref mso, .ref mon, .ref mot, .ref man, .int th, .int xd, .ref mst, .ref msm, .ref mtb, .ref mti, .ref mfr, .ref mbn, .ref mbs, .ref mde, .int sF, .int sN, .int sS, .int ig, .long xa, .long xb, .ref maa, .ref mab, .ref mba, .ref mbb])), (ms, .inl (cs 0, 288, .inl u_32)), (mso, .inl (cs 0, 16, .inl sof)), (mon, .inl (cs 0, 16, .inl onf)), (mot, .inl (cs 0, 16, .inl otf))] := hD
                  refine lv_if_eq (tgt := 168) hx hb dX12_pollsOne_162 (by decide) (fun c_33 => ?_) (fun c_33 => ?_)
                  · -- 162 t
                    refine lv_iinc (v := nI (o2 + 1)) (lv' := [(7, .int (nI (o2 + 1))), (6, .int (nI i9)), (5, .int ((anf e0) ||| ((nI 1) <<< ((nI e0) &&& 31)))), (4, .int (nI 1)), (0, .ref hm), (1, .int (nI a)), (2, .int (nI e0)), (3, .int x)]) hx hb dX12_pollsOne_168 hl (k := 0) rfl (nI_add o2 1) (by decide) rfl ?_
                    clear hl
                    try clear ls
                    intro ls hl
                    refine lv_goto (tgt := 136) hx hb dX12_pollsOne_171 (by decide) ?_
                    exact ih_loop_25 (o2 + 1) u_32 i9 (by omega) (by omega) (⟨_, _, has9, Or.inr ⟨fun q => (by rcases hw_r_31 with z | z; exact absurd (z.2.1.symm.trans c_33) (by decide); exact z.1 q.2), (by rcases hw_r_31 with z | z; exact absurd (z.2.1.symm.trans c_33) (by decide); exact z.2.2), rfl⟩⟩) (by omega) H locs ls (xP_map hP [4, 5, 1, 2, 3, 0] rfl) (hD.sub [4, 5, 1, 2, 3, 0] (by decide) rfl) hS (lv_sub hl [0, 1, 2, 3, 4, 5, 6, 7] rfl)
                  · -- 162 f
                    refine lv_iconst (v := nI 1) hx hb dX12_pollsOne_165 (by decide) ?_
                    refine lv_istore (lv' := [(6, .int (nI 1)), (7, .int (nI o2)), (5, .int ((anf e0) ||| ((nI 1) <<< ((nI e0) &&& 31)))), (4, .int (nI 1)), (0, .ref hm), (1, .int (nI a)), (2, .int (nI e0)), (3, .int x)]) hx hb dX12_pollsOne_166 hl (by decide) rfl ?_
                    clear hl
                    try clear ls
                    intro ls hl
                    refine lv_iinc (v := nI (o2 + 1)) (lv' := [(7, .int (nI (o2 + 1))), (6, .int (nI 1)), (5, .int ((anf e0) ||| ((nI 1) <<< ((nI e0) &&& 31)))), (4, .int (nI 1)), (0, .ref hm), (1, .int (nI a)), (2, .int (nI e0)), (3, .int x)]) hx hb dX12_pollsOne_168 hl (k := 1) rfl (nI_add o2 1) (by decide) rfl ?_
                    clear hl
                    try clear ls
                    intro ls hl
                    refine lv_goto (tgt := 136) hx hb dX12_pollsOne_171 (by decide) ?_
                    exact ih_loop_25 (o2 + 1) u_32 1 (by omega) (by omega) (⟨_, _, has9, Or.inl ⟨⟨PQ.yes hw_r_28 c_30, (by rcases hw_r_31 with z | z; exact z.1; exact absurd z.2.1 c_33)⟩, (by rcases hw_r_31 with z | z; exact z.2.2; exact absurd z.2.1 c_33), rfl⟩⟩) (by omega) H locs ls (xP_map hP [4, 5, 1, 2, 3, 0] rfl) (hD.sub [4, 5, 1, 2, 3, 0] (by decide) rfl) hS (lv_sub hl [0, 1, 2, 3, 4, 5, 6, 7] rfl)
          exact loop_25 _ 0 f9 0 (by omega) (by omega) (⟨rfl, rfl⟩) (Nat.lt_succ_self _) H locs ls hP hD hS (lv_sub hl [0, 1, 2, 3, 4, 5, 6, 7] rfl)
        · -- 87 f
          have fc_24 : o < en := nf_nle (by omega) (by omega) c_24
          refine lv_iload hx hb dX12_pollsOne_90 (lv_at hl 1 rfl) ?_
          refine lv_iload hx hb dX12_pollsOne_92 (lv_at hl 0 rfl) ?_
          refine xi (wr := [(mon, .inl (cs 0, 16, .inl onf)), (mot, .inl (cs 0, 16, .inl otf)), (hm, .inr (12, [.ref ms, .ref mkp, .int (nI km), .ref mtr, .int (nI n), .int (nI k), .int (nI al), .int (nI be), .int ea, .int pr, .ref mas, .int nq, .int (po + (nI 1)), .int (nI en), .ref mso, .ref mon, .ref mot, .ref man, .int th, .int xd, .ref mst, .ref msm, .ref mtb, .ref mti, .ref mfr, .ref mbn, .ref mbs, .ref mde, .int sF, .int sN, .int sS, .int ig, .long xa, .long xb, .ref maa, .ref mab, .ref mba, .ref mbb])), (ms, .inl (cs 0, 288, .inl f9)), (mso, .inl (cs 0, 16, .inl sof)), (man, .inl (cs 0, 16, .inl anf))]) (xS (As := [.int ((anf e0) ||| ((nI 1) <<< ((nI e0) &&& 31))), .int (nI o)]) (rest := []) C (c_X12_has l D cs ((anf e0) ||| ((nI 1) <<< ((nI e0) &&& 31))) o) kX12_100 hP hD [] rfl (by decide) ⟨Nat.le_of_ble_eq_true rfl, Nat.le_of_ble_eq_true rfl⟩ rfl hl.1 rfl (Nat.le_of_ble_eq_true rfl) dX12_pollsOne_94 ⟨Nat.le_of_ble_eq_true rfl, Nat.le_of_ble_eq_true rfl⟩) hP hD hS hA [] [0, 1, 2, 3, 4, 5] rfl rfl (by decide) (by decide) ?_
          clear hP hD hS
          try clear locs
          try clear H
          intro r_34 u_35 H locs hw_r_34 hP hD hS
          have hw_r_34 : PQ (hasB ((anf e0) ||| ((nI 1) <<< ((nI e0) &&& 31))) o) r_34 (nI 1) (nI 0) := hw_r_34
          refine W.widen (k := 0) (n := 0) (Nat.le_of_ble_eq_true rfl) (Nat.le_of_ble_eq_true rfl) ?_
          replace hP : va_P D vwCl [(mon, .inl (cs 0, 16, .inl onf)), (mot, .inl (cs 0, 16, .inl otf)), (hm, .inr (12, [.ref ms, .ref mkp, .int (nI km), .ref mtr, .int (nI n), .int (nI k), .int (nI al), .int (nI be), .int ea, .int pr, .ref mas, .int nq, .int (po + (nI 1)), .int (nI en), .ref mso, .ref mon, .ref mot, .ref man, .int th, .int xd, .ref mst, .ref msm, .ref mtb, .ref mti, .ref mfr, .ref mbn, .ref mbs, .ref mde, .int sF, .int sN, .int sS, .int ig, .long xa, .long xb, .ref maa, .ref mab, .ref mba, .ref mbb])), (ms, .inl (cs 0, 288, .inl f9)), (mso, .inl (cs 0, 16, .inl sof)), (man, .inl (cs 0, 16, .inl anf))] H := hP
          replace hD : va_D A [(mon, .inl (cs 0, 16, .inl onf)), (mot, .inl (cs 0, 16, .inl otf)), (hm, .inr (12, [.ref ms, .ref mkp, .int (nI km), .ref mtr, .int (nI n), .int (nI k), .int (nI al), .int (nI be), .int ea, .int pr, .ref mas, .int nq, .int (po + (nI 1)), .int (nI en), .ref mso, .ref mon, .ref mot, .ref man, .int th, .int xd, .ref mst, .ref msm, .ref mtb, .ref mti, .ref mfr, .ref mbn, .ref mbs, .ref mde, .int sF, .int sN, .int sS, .int ig, .long xa, .long xb, .ref maa, .ref mab, .ref mba, .ref mbb])), (ms, .inl (cs 0, 288, .inl f9)), (mso, .inl (cs 0, 16, .inl sof)), (man, .inl (cs 0, 16, .inl anf))] := hD
          refine lv_if_eq (tgt := 124) hx hb dX12_pollsOne_97 (by decide) (fun c_36 => ?_) (fun c_36 => ?_)
          · -- 97 t
            refine lv_iinc (v := nI (o + 1)) (lv' := [(6, .int (nI (o + 1))), (5, .int ((anf e0) ||| ((nI 1) <<< ((nI e0) &&& 31)))), (4, .int (nI 1)), (0, .ref hm), (1, .int (nI a)), (2, .int (nI e0)), (3, .int x)]) hx hb dX12_pollsOne_124 hl (k := 0) rfl (nI_add o 1) (by decide) rfl ?_
            clear hl
            try clear ls
            intro ls hl
            refine lv_goto (tgt := 81) hx hb dX12_pollsOne_127 (by decide) ?_
            exact ih_loop_23 (o + 1) f9 (by omega) hpf9 (⟨_, hmk9, Or.inr ⟨fun q => PQ.no hw_r_34 c_36 (by decide) q.1, rfl⟩⟩) (by omega) H locs ls hP hD hS (lv_sub hl [0, 1, 2, 3, 4, 5, 6] rfl)
          · -- 97 f
            refine lv_aload_n hx hb dX12_pollsOne_100 rfl (lv_at hl 3 rfl) ?_
            refine lv_iload_n hx hb dX12_pollsOne_101 rfl (lv_at hl 4 rfl) ?_
            refine lv_aload_n hx hb dX12_pollsOne_102 rfl (lv_at hl 3 rfl) ?_
            refine xget C hP 2 rfl rfl zuX12 14 (by decide) zw5_227 rfl dX12_pollsOne_103 ?_
            refine lv_iload hx hb dX12_pollsOne_106 (lv_at hl 0 rfl) ?_
            refine xiald C hP 4 rfl o rfl (by omega) (by decide) dX12_pollsOne_108 ?_
            refine xi (wr := [(mon, .inl (cs 0, 16, .inl onf)), (mot, .inl (cs 0, 16, .inl otf)), (man, .inl (cs 0, 16, .inl anf))]) (xV (As := [.int (nI a), .int (sof o)]) (rest := []) C (c_X12_acceptedOf_f l D cs hm ms mkp mtr mas mso mon mot man mst msm mtb mti mfr mbn mbs mde maa mab mba mbb n k al be km en ea pr nq (po + (nI 1)) th xd sF sN sS ig xa xb f9 a (sof o) sof hen ha) kX12_310 hP hD [2, 3, 4] rfl (by decide) 0 rfl rfl rfl ⟨Nat.le_of_ble_eq_true rfl, Nat.le_of_ble_eq_true rfl⟩ rfl hl.1 rfl (Nat.le_of_ble_eq_true rfl) dX12_pollsOne_109 ⟨Nat.le_of_ble_eq_true rfl, Nat.le_of_ble_eq_true rfl⟩) hP hD hS hA [2, 3, 4] [0, 1, 5] rfl rfl (by decide) (by decide) ?_
            clear hP hD hS
            try clear locs
            try clear H
            intro r_37 u_38 H locs hw_r_37 hP hD hS
            have hw_r_37 : accM en sof f9 a (sof o) r_37 := hw_r_37
            refine W.widen (k := 0) (n := 0) (Nat.le_of_ble_eq_true rfl) (Nat.le_of_ble_eq_true rfl) ?_
            replace hP : va_P D vwCl [(mon, .inl (cs 0, 16, .inl onf)), (mot, .inl (cs 0, 16, .inl otf)), (man, .inl (cs 0, 16, .inl anf)), (hm, .inr (12, [.ref ms, .ref mkp, .int (nI km), .ref mtr, .int (nI n), .int (nI k), .int (nI al), .int (nI be), .int ea, .int pr, .ref mas, .int nq, .int (po + (nI 1)), .int (nI en), .ref mso, .ref mon, .ref mot, .ref man, .int th, .int xd, .ref mst, .ref msm, .ref mtb, .ref mti, .ref mfr, .ref mbn, .ref mbs, .ref mde, .int sF, .int sN, .int sS, .int ig, .long xa, .long xb, .ref maa, .ref mab, .ref mba, .ref mbb])), (ms, .inl (cs 0, 288, .inl f9)), (mso, .inl (cs 0, 16, .inl sof))] H := hP
            replace hD : va_D A [(mon, .inl (cs 0, 16, .inl onf)), (mot, .inl (cs 0, 16, .inl otf)), (man, .inl (cs 0, 16, .inl anf)), (hm, .inr (12, [.ref ms, .ref mkp, .int (nI km), .ref mtr, .int (nI n), .int (nI k), .int (nI al), .int (nI be), .int ea, .int pr, .ref mas, .int nq, .int (po + (nI 1)), .int (nI en), .ref mso, .ref mon, .ref mot, .ref man, .int th, .int xd, .ref mst, .ref msm, .ref mtb, .ref mti, .ref mfr, .ref mbn, .ref mbs, .ref mde, .int sF, .int sN, .int sS, .int ig, .long xa, .long xb, .ref maa, .ref mab, .ref mba, .ref mbb])), (ms, .inl (cs 0, 288, .inl f9)), (mso, .inl (cs 0, 16, .inl sof))] := hD
            refine lv_if_ge (tgt := 124) hx hb dX12_pollsOne_112 (by decide) (fun c_39 => ?_) (fun c_39 => ?_)
            · -- 112 t
              refine lv_iinc (v := nI (o + 1)) (lv' := [(6, .int (nI (o + 1))), (5, .int ((anf e0) ||| ((nI 1) <<< ((nI e0) &&& 31)))), (4, .int (nI 1)), (0, .ref hm), (1, .int (nI a)), (2, .int (nI e0)), (3, .int x)]) hx hb dX12_pollsOne_124 hl (k := 0) rfl (nI_add o 1) (by decide) rfl ?_
              clear hl
              try clear ls
              intro ls hl
              refine lv_goto (tgt := 81) hx hb dX12_pollsOne_127 (by decide) ?_
              exact ih_loop_23 (o + 1) f9 (by omega) hpf9 (⟨_, hmk9, Or.inr ⟨fun q => accM.some hw_r_37 c_39 q.2, rfl⟩⟩) (by omega) H locs ls (xP_map hP [0, 1, 3, 4, 5, 2] rfl) (hD.sub [0, 1, 3, 4, 5, 2] (by decide) rfl) hS (lv_sub hl [0, 1, 2, 3, 4, 5, 6] rfl)
            · -- 112 f
              refine lv_aload_n hx hb dX12_pollsOne_115 rfl (lv_at hl 3 rfl) ?_
              refine lv_iload_n hx hb dX12_pollsOne_116 rfl (lv_at hl 4 rfl) ?_
              refine lv_iload hx hb dX12_pollsOne_117 (lv_at hl 0 rfl) ?_
              refine lv_iload hx hb dX12_pollsOne_119 (lv_at hl 2 rfl) ?_
              refine xv (wr := [(mon, .inl (cs 0, 16, .inl onf)), (mot, .inl (cs 0, 16, .inl otf))]) (xV (As := [.int (nI a), .int (nI o), .int (nI 1)]) (rest := []) C (c_X12_marks_b l D cs hm ms mkp mtr mas mso mon mot man mst msm mtb mti mfr mbn mbs mde maa mab mba mbb n k al be km en ea pr nq (po + (nI 1)) th xd sF sN sS ig xa xb f9 a o (nI 1) sof anf hen hso ha (by omega) (hpf9 o (by omega))) kX12_329 hP hD [3, 4, 5, 2] rfl (by decide) 0 rfl rfl rfl ⟨Nat.le_of_ble_eq_true rfl, Nat.le_of_ble_eq_true rfl⟩ rfl hl.1 rfl (Nat.le_of_ble_eq_true rfl) dX12_pollsOne_121 ⟨Nat.le_of_ble_eq_true rfl, Nat.le_of_ble_eq_true rfl⟩) hP hD hS hA [3, 4, 5, 2] [0, 1] rfl rfl (by decide) (by decide) ?_
              clear hP hD hS
              try clear locs
              try clear H
              intro u_41 H locs hw_r_40 hP hD hS
              have hw_r_40 : mrkM en sof anf a o (nI 1) f9 u_41 := hw_r_40
              refine W.widen (k := 0) (n := 0) (Nat.le_of_ble_eq_true rfl) (Nat.le_of_ble_eq_true rfl) ?_
              replace hP : va_P D vwCl [(mon, .inl (cs 0, 16, .inl onf)), (mot, .inl (cs 0, 16, .inl otf)), (hm, .inr (12, [.ref ms, .ref mkp, .int (nI km), .ref mtr, .int (nI n), .int (nI k), .int (nI al), .int (nI be), .int ea, .int pr, .ref mas, .int nq, .int (po + (nI 1)), .int (nI en), .ref mso, .ref mon, .ref mot, .ref man, .int th, .int xd, .ref mst, .ref msm, .ref mtb, .ref mti, .ref mfr, .ref mbn, .ref mbs, .ref mde, .int sF, .int sN, .int sS, .int ig, .long xa, .long xb, .ref maa, .ref mab, .ref mba, .ref mbb])), (ms, .inl (cs 0, 288, .inl u_41)), (mso, .inl (cs 0, 16, .inl sof)), (man, .inl (cs 0, 16, .inl anf))] H := hP
              replace hD : va_D A [(mon, .inl (cs 0, 16, .inl onf)), (mot, .inl (cs 0, 16, .inl otf)), (hm, .inr (12, [.ref ms, .ref mkp, .int (nI km), .ref mtr, .int (nI n), .int (nI k), .int (nI al), .int (nI be), .int ea, .int pr, .ref mas, .int nq, .int (po + (nI 1)), .int (nI en), .ref mso, .ref mon, .ref mot, .ref man, .int th, .int xd, .ref mst, .ref msm, .ref mtb, .ref mti, .ref mfr, .ref mbn, .ref mbs, .ref mde, .int sF, .int sN, .int sS, .int ig, .long xa, .long xb, .ref maa, .ref mab, .ref mba, .ref mbb])), (ms, .inl (cs 0, 288, .inl u_41)), (mso, .inl (cs 0, 16, .inl sof)), (man, .inl (cs 0, 16, .inl anf))] := hD
              refine lv_iinc (v := nI (o + 1)) (lv' := [(6, .int (nI (o + 1))), (5, .int ((anf e0) ||| ((nI 1) <<< ((nI e0) &&& 31)))), (4, .int (nI 1)), (0, .ref hm), (1, .int (nI a)), (2, .int (nI e0)), (3, .int x)]) hx hb dX12_pollsOne_124 hl (k := 0) rfl (nI_add o 1) (by decide) rfl ?_
              clear hl
              try clear ls
              intro ls hl
              refine lv_goto (tgt := 81) hx hb dX12_pollsOne_127 (by decide) ?_
              exact ih_loop_23 (o + 1) u_41 (by omega) (mrkM.prf hpf9 (by omega) ha hso hen hw_r_40) (⟨_, hmk9, Or.inl ⟨⟨PQ.yes hw_r_34 c_36, accM.none hen hw_r_37 c_39⟩, hw_r_40⟩⟩) (by omega) H locs ls hP hD hS (lv_sub hl [0, 1, 2, 3, 4, 5, 6] rfl)
    exact loop_23 _ 0 (upd (upd f (72 + a) ((f (72 + a)) ||| ((nI 1) <<< ((nI e0) &&& 31)))) (64 + a) (((upd f (72 + a) ((f (72 + a)) ||| ((nI 1) <<< ((nI e0) &&& 31)))) (64 + a)) ||| ((nI 1) <<< ((nI e0) &&& 31)))) (by omega) hpfH rfl (Nat.lt_succ_self _) H locs ls hP hD hS (lv_sub hl [0, 1, 2, 3, 4, 5, 6] rfl)
