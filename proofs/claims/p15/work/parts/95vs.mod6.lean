theorem PQ.uniq {P : Prop} {a b x y : Int32} (h : PQ P a x y) (k : PQ P b x y) : a = b := by
  rcases h with ⟨p, e⟩ | ⟨p, e⟩ <;> rcases k with ⟨q, e2⟩ | ⟨q, e2⟩ <;> first | exact e.trans e2.symm | exact absurd p q | exact absurd q p
def linkG (f : Nat → Int32) (a b : Nat) : Nat → Int32 := upd (upd f (56 + a) ((f (56 + a)) ^^^ (bitI b))) (56 + b) (((upd f (56 + a) ((f (56 + a)) ^^^ (bitI b))) (56 + b)) ^^^ (bitI a))
def ndV (f q : Nat → Int32) (a : Nat) (y : Int32) : Int32 := if y = nI 0 then f (0 + a) else if y = nI 1 then f (8 + a) else if y = nI 2 then f (16 + a) else if y = nI 3 then f (24 + a) else if y = nI 4 then f (32 + a) else if y = nI 5 then f (40 + a) else if y = nI 6 then f (48 + a) else if y = nI 7 then q a else -2
theorem ndV_out (f q : Nat → Int32) (a : Nat) (y : Int32) (h : y.toInt < 0 ∨ ((8 : Nat) : Int) - 1 < y.toInt) : ndV f q a y = -2 := by
  have e : ∀ k, k < 8 → ¬ y = nI k := fun k hk z => by rw [z, nI_toInt (by omega)] at h; omega
  unfold ndV
  rw [if_neg (e 0 (by decide)), if_neg (e 1 (by decide)), if_neg (e 2 (by decide)), if_neg (e 3 (by decide)), if_neg (e 4 (by decide)), if_neg (e 5 (by decide)), if_neg (e 6 (by decide)), if_neg (e 7 (by decide))]

set_option maxHeartbeats 4000000 in
set_option maxRecDepth 100000 in
theorem c_X12_link_f (l : Launch) (D : va_G) (cs : Nat → ClassId) (hm ms mkp mtr mas mso mon mot man mst msm mtb mti mfr mbn mbs mde maa mab mba mbb : Nat) (n k al be km en : Nat) (ea pr nq po th xd sF sN sS ig : Int32) (xa xb : Int64) (f : Nat → Int32) (g : Nat → Int32) (x y z9 : Int32) (hn : 2 ≤ n ∧ n ≤ 8) (hs : colP f) (hk : keptP g) (hkm : km ≤ 8) : xMet l D cs yX12_link cX12_link 4 (some .boolean) ({ frames := 2, cells := 0, slots := 0, locals := 43 } : Room) [.ref hm, .int x, .int y, .int z9] [(hm, .inr (12, [.ref ms, .ref mkp, .int (nI km), .ref mtr, .int (nI n), .int (nI k), .int (nI al), .int (nI be), .int ea, .int pr, .ref mas, .int nq, .int po, .int (nI en), .ref mso, .ref mon, .ref mot, .ref man, .int th, .int xd, .ref mst, .ref msm, .ref mtb, .ref mti, .ref mfr, .ref mbn, .ref mbs, .ref mde, .int sF, .int sN, .int sS, .int ig, .long xa, .long xb, .ref maa, .ref mab, .ref mba, .ref mbb])), (ms, .inl (cs 0, 288, .inl f)), (mkp, .inl (cs 0, 2304, .inl g))] (xQi D (fun (r : Int32) (u : Nat × (Nat → Int32) × (Nat → Int32)) => match u with | (kmz, fz, gz) => (colP fz ∧ keptP gz ∧ kmz ≤ 8) ∧ ((∃ (a b : Nat) (h : Int32), a < n ∧ b < n ∧ x = nI a ∧ y = nI b ∧ ¬ nI a = nI b ∧ PQ (hasB (f (56 + a)) b) h (nI 1) (nI 0) ∧ ¬ h = z9 ∧ r = nI 1 ∧ fz = linkG f a b ∧ kpdP km f g kmz gz) ∨ (¬ (okN n x ∧ okN n y ∧ ¬ x = y ∧ ∀ a b, x = nI a → y = nI b → a < n → b < n → ∃ h, PQ (hasB (f (56 + a)) b) h (nI 1) (nI 0) ∧ ¬ h = z9) ∧ r = nI 0 ∧ fz = f ∧ gz = g ∧ kmz = km))) (fun (u : Nat × (Nat → Int32) × (Nat → Int32)) => match u with | (kmz, fz, gz) => [(hm, .inr (12, [.ref ms, .ref mkp, .int (nI kmz), .ref mtr, .int (nI n), .int (nI k), .int (nI al), .int (nI be), .int ea, .int pr, .ref mas, .int nq, .int po, .int (nI en), .ref mso, .ref mon, .ref mot, .ref man, .int (nI 0), .int xd, .ref mst, .ref msm, .ref mtb, .ref mti, .ref mfr, .ref mbn, .ref mbs, .ref mde, .int sF, .int sN, .int sS, .int ig, .long xa, .long xb, .ref maa, .ref mab, .ref mba, .ref mbb])), (ms, .inl (cs 0, 288, .inl fz)), (mkp, .inl (cs 0, 2304, .inl gz))])) := by
  refine xMet.intro (by decide) (Nat.le_of_ble_eq_true rfl) ?_
  intro p e s m args below meth c A ls C hP hD hS hl
  have hx := C.1
  have hb := C.2.1
  have hz := C.2.2.2.2.1
  have hown := C.2.2.2.1
  have hA := C.2.2.2.2.2.2.2.2.2
  have hAO := C.2.2.2.2.2.2.2.2.1.2.2
  replace hl : lv_has ls 4 [(0, .ref hm), (1, .int x), (2, .int y), (3, .int z9)] := hl
  obtain ⟨H, hH⟩ : ∃ H, H = s.heap := ⟨_, rfl⟩
  replace hP : va_P D vwCl [(hm, .inr (12, [.ref ms, .ref mkp, .int (nI km), .ref mtr, .int (nI n), .int (nI k), .int (nI al), .int (nI be), .int ea, .int pr, .ref mas, .int nq, .int po, .int (nI en), .ref mso, .ref mon, .ref mot, .ref man, .int th, .int xd, .ref mst, .ref msm, .ref mtb, .ref mti, .ref mfr, .ref mbn, .ref mbs, .ref mde, .int sF, .int sN, .int sS, .int ig, .long xa, .long xb, .ref maa, .ref mab, .ref mba, .ref mbb])), (ms, .inl (cs 0, 288, .inl f)), (mkp, .inl (cs 0, 2304, .inl g))] H := by rw [hH]; exact hP
  replace hS : va_S A s.heap H [] := by rw [hH]; exact hS
  obtain ⟨locs, hlocs⟩ : ∃ z : List Loc, z = [] := ⟨_, rfl⟩
  rw [← hlocs] at hS
  suffices hW : W p l e ({ frames := 2, cells := 0, slots := 0, locals := 43 } : Room) s m args below meth c H locs 0 0 (MQ below ((xQi D (fun (r : Int32) (u : Nat × (Nat → Int32) × (Nat → Int32)) => match u with | (kmz, fz, gz) => (colP fz ∧ keptP gz ∧ kmz ≤ 8) ∧ ((∃ (a b : Nat) (h : Int32), a < n ∧ b < n ∧ x = nI a ∧ y = nI b ∧ ¬ nI a = nI b ∧ PQ (hasB (f (56 + a)) b) h (nI 1) (nI 0) ∧ ¬ h = z9 ∧ r = nI 1 ∧ fz = linkG f a b ∧ kpdP km f g kmz gz) ∨ (¬ (okN n x ∧ okN n y ∧ ¬ x = y ∧ ∀ a b, x = nI a → y = nI b → a < n → b < n → ∃ h, PQ (hasB (f (56 + a)) b) h (nI 1) (nI 0) ∧ ¬ h = z9) ∧ r = nI 0 ∧ fz = f ∧ gz = g ∧ kmz = km))) (fun (u : Nat × (Nat → Int32) × (Nat → Int32)) => match u with | (kmz, fz, gz) => [(hm, .inr (12, [.ref ms, .ref mkp, .int (nI kmz), .ref mtr, .int (nI n), .int (nI k), .int (nI al), .int (nI be), .int ea, .int pr, .ref mas, .int nq, .int po, .int (nI en), .ref mso, .ref mon, .ref mot, .ref man, .int (nI 0), .int xd, .ref mst, .ref msm, .ref mtb, .ref mti, .ref mfr, .ref mbn, .ref mbs, .ref mde, .int sF, .int sN, .int sS, .int ig, .long xa, .long xb, .ref maa, .ref mab, .ref mba, .ref mbb])), (ms, .inl (cs 0, 288, .inl fz)), (mkp, .inl (cs 0, 2304, .inl gz))])) A) args s 0 0 A) (F0 m 0 ls []) by rw [hlocs, hH] at hW; exact hW
  clear hH hlocs
  refine lv_aload_n hx hb dX12_link_0 rfl (lv_at hl 0 rfl) ?_
  refine lv_iconst (v := nI 0) hx hb dX12_link_1 (by decide) ?_
  refine xput C hP hD hS 0 rfl rfl zuX12 tyX12 tyX12_ok nmX12 18 (by decide) zw5_231 rfl rfl rfl (Nat.le_of_ble_eq_true rfl) dX12_link_2 ?_
  clear hP hD hS
  try clear locs
  try clear H
  intro H locs hP hD hS
  replace hP : va_P D vwCl [(hm, .inr (12, [.ref ms, .ref mkp, .int (nI km), .ref mtr, .int (nI n), .int (nI k), .int (nI al), .int (nI be), .int ea, .int pr, .ref mas, .int nq, .int po, .int (nI en), .ref mso, .ref mon, .ref mot, .ref man, .int (nI 0), .int xd, .ref mst, .ref msm, .ref mtb, .ref mti, .ref mfr, .ref mbn, .ref mbs, .ref mde, .int sF, .int sN, .int sS, .int ig, .long xa, .long xb, .ref maa, .ref mab, .ref mba, .ref mbb])), (ms, .inl (cs 0, 288, .inl f)), (mkp, .inl (cs 0, 2304, .inl g))] H := hP
  replace hD : va_D A [(hm, .inr (12, [.ref ms, .ref mkp, .int (nI km), .ref mtr, .int (nI n), .int (nI k), .int (nI al), .int (nI be), .int ea, .int pr, .ref mas, .int nq, .int po, .int (nI en), .ref mso, .ref mon, .ref mot, .ref man, .int (nI 0), .int xd, .ref mst, .ref msm, .ref mtb, .ref mti, .ref mfr, .ref mbn, .ref mbs, .ref mde, .int sF, .int sN, .int sS, .int ig, .long xa, .long xb, .ref maa, .ref mab, .ref mba, .ref mbb])), (ms, .inl (cs 0, 288, .inl f)), (mkp, .inl (cs 0, 2304, .inl g))] := hD
  refine lv_aload_n hx hb dX12_link_5 rfl (lv_at hl 0 rfl) ?_
  refine lv_iload_n hx hb dX12_link_6 rfl (lv_at hl 1 rfl) ?_
  refine xi (wr := [(ms, .inl (cs 0, 288, .inl f)), (mkp, .inl (cs 0, 2304, .inl g))]) (xV (As := [.int x]) (rest := []) C (c_X12_isNode l D cs hm ms mkp mtr mas mso mon mot man mst msm mtb mti mfr mbn mbs mde maa mab mba mbb n k al be km en ea pr nq po (nI 0) xd sF sN sS ig xa xb x hn) kX12_120 hP hD [0] rfl (by decide) 0 rfl rfl rfl ⟨Nat.le_of_ble_eq_true rfl, Nat.le_of_ble_eq_true rfl⟩ rfl hl.1 rfl (Nat.le_of_ble_eq_true rfl) dX12_link_7 ⟨Nat.le_of_ble_eq_true rfl, Nat.le_of_ble_eq_true rfl⟩) hP hD hS hA [0] [1, 2] rfl rfl (by decide) (by decide) ?_
  clear hP hD hS
  try clear locs
  try clear H
  intro r_1 u_2 H locs hw_r_1 hP hD hS
  have hw_r_1 : PQ (okN n x) r_1 (nI 1) (nI 0) := hw_r_1
  refine W.widen (k := 0) (n := 0) (Nat.le_of_ble_eq_true rfl) (Nat.le_of_ble_eq_true rfl) ?_
  replace hP : va_P D vwCl [(ms, .inl (cs 0, 288, .inl f)), (mkp, .inl (cs 0, 2304, .inl g)), (hm, .inr (12, [.ref ms, .ref mkp, .int (nI km), .ref mtr, .int (nI n), .int (nI k), .int (nI al), .int (nI be), .int ea, .int pr, .ref mas, .int nq, .int po, .int (nI en), .ref mso, .ref mon, .ref mot, .ref man, .int (nI 0), .int xd, .ref mst, .ref msm, .ref mtb, .ref mti, .ref mfr, .ref mbn, .ref mbs, .ref mde, .int sF, .int sN, .int sS, .int ig, .long xa, .long xb, .ref maa, .ref mab, .ref mba, .ref mbb]))] H := hP
  replace hD : va_D A [(ms, .inl (cs 0, 288, .inl f)), (mkp, .inl (cs 0, 2304, .inl g)), (hm, .inr (12, [.ref ms, .ref mkp, .int (nI km), .ref mtr, .int (nI n), .int (nI k), .int (nI al), .int (nI be), .int ea, .int pr, .ref mas, .int nq, .int po, .int (nI en), .ref mso, .ref mon, .ref mot, .ref man, .int (nI 0), .int xd, .ref mst, .ref msm, .ref mtb, .ref mti, .ref mfr, .ref mbn, .ref mbs, .ref mde, .int sF, .int sN, .int sS, .int ig, .long xa, .long xb, .ref maa, .ref mab, .ref mba, .ref mbb]))] := hD
  refine lv_if_eq (tgt := 43) hx hb dX12_link_10 (by decide) (fun c_3 => ?_) (fun c_3 => ?_)
  · -- 10 t
    have hbad_jx : ¬ okN n x := PQ.no hw_r_1 c_3 (by decide)
    refine lv_iconst (v := nI 0) hx hb dX12_link_43 (by decide) ?_
    exact xreti C (⟨km, f, g⟩) (⟨⟨hs, hk, hkm⟩, Or.inr ⟨fun q => hbad_jx q.1, rfl, rfl, rfl, rfl⟩⟩) (xP_map hP [2, 0, 1] rfl) (hD.sub [2, 0, 1] (by decide) rfl) hS (Nat.le_of_ble_eq_true rfl) (Nat.le_of_ble_eq_true rfl) (by decide) dX12_link_44
  · -- 10 f
    have hok_jx : okN n x := PQ.yes hw_r_1 c_3
    obtain ⟨jx, h_jx, rfl⟩ := okN_of hok_jx (by omega)
    replace hP : va_P D vwCl [(ms, .inl (cs 0, 288, .inl f)), (mkp, .inl (cs 0, 2304, .inl g)), (hm, .inr (12, [.ref ms, .ref mkp, .int (nI km), .ref mtr, .int (nI n), .int (nI k), .int (nI al), .int (nI be), .int ea, .int pr, .ref mas, .int nq, .int po, .int (nI en), .ref mso, .ref mon, .ref mot, .ref man, .int (nI 0), .int xd, .ref mst, .ref msm, .ref mtb, .ref mti, .ref mfr, .ref mbn, .ref mbs, .ref mde, .int sF, .int sN, .int sS, .int ig, .long xa, .long xb, .ref maa, .ref mab, .ref mba, .ref mbb]))] H := hP
    replace hD : va_D A [(ms, .inl (cs 0, 288, .inl f)), (mkp, .inl (cs 0, 2304, .inl g)), (hm, .inr (12, [.ref ms, .ref mkp, .int (nI km), .ref mtr, .int (nI n), .int (nI k), .int (nI al), .int (nI be), .int ea, .int pr, .ref mas, .int nq, .int po, .int (nI en), .ref mso, .ref mon, .ref mot, .ref man, .int (nI 0), .int xd, .ref mst, .ref msm, .ref mtb, .ref mti, .ref mfr, .ref mbn, .ref mbs, .ref mde, .int sF, .int sN, .int sS, .int ig, .long xa, .long xb, .ref maa, .ref mab, .ref mba, .ref mbb]))] := hD
    refine lv_aload_n hx hb dX12_link_13 rfl (lv_at hl 0 rfl) ?_
    refine lv_iload_n hx hb dX12_link_14 rfl (lv_at hl 2 rfl) ?_
    refine xi (wr := [(ms, .inl (cs 0, 288, .inl f)), (mkp, .inl (cs 0, 2304, .inl g))]) (xV (As := [.int y]) (rest := []) C (c_X12_isNode l D cs hm ms mkp mtr mas mso mon mot man mst msm mtb mti mfr mbn mbs mde maa mab mba mbb n k al be km en ea pr nq po (nI 0) xd sF sN sS ig xa xb y hn) kX12_120 hP hD [2] rfl (by decide) 0 rfl rfl rfl ⟨Nat.le_of_ble_eq_true rfl, Nat.le_of_ble_eq_true rfl⟩ rfl hl.1 rfl (Nat.le_of_ble_eq_true rfl) dX12_link_15 ⟨Nat.le_of_ble_eq_true rfl, Nat.le_of_ble_eq_true rfl⟩) hP hD hS hA [2] [0, 1] rfl rfl (by decide) (by decide) ?_
    clear hP hD hS
    try clear locs
    try clear H
    intro r_4 u_5 H locs hw_r_4 hP hD hS
    have hw_r_4 : PQ (okN n y) r_4 (nI 1) (nI 0) := hw_r_4
    refine W.widen (k := 0) (n := 0) (Nat.le_of_ble_eq_true rfl) (Nat.le_of_ble_eq_true rfl) ?_
    replace hP : va_P D vwCl [(ms, .inl (cs 0, 288, .inl f)), (mkp, .inl (cs 0, 2304, .inl g)), (hm, .inr (12, [.ref ms, .ref mkp, .int (nI km), .ref mtr, .int (nI n), .int (nI k), .int (nI al), .int (nI be), .int ea, .int pr, .ref mas, .int nq, .int po, .int (nI en), .ref mso, .ref mon, .ref mot, .ref man, .int (nI 0), .int xd, .ref mst, .ref msm, .ref mtb, .ref mti, .ref mfr, .ref mbn, .ref mbs, .ref mde, .int sF, .int sN, .int sS, .int ig, .long xa, .long xb, .ref maa, .ref mab, .ref mba, .ref mbb]))] H := hP
    replace hD : va_D A [(ms, .inl (cs 0, 288, .inl f)), (mkp, .inl (cs 0, 2304, .inl g)), (hm, .inr (12, [.ref ms, .ref mkp, .int (nI km), .ref mtr, .int (nI n), .int (nI k), .int (nI al), .int (nI be), .int ea, .int pr, .ref mas, .int nq, .int po, .int (nI en), .ref mso, .ref mon, .ref mot, .ref man, .int (nI 0), .int xd, .ref mst, .ref msm, .ref mtb, .ref mti, .ref mfr, .ref mbn, .ref mbs, .ref mde, .int sF, .int sN, .int sS, .int ig, .long xa, .long xb, .ref maa, .ref mab, .ref mba, .ref mbb]))] := hD
    refine lv_if_eq (tgt := 43) hx hb dX12_link_18 (by decide) (fun c_6 => ?_) (fun c_6 => ?_)
    · -- 18 t
      have hbad_jy : ¬ okN n y := PQ.no hw_r_4 c_6 (by decide)
      refine lv_iconst (v := nI 0) hx hb dX12_link_43 (by decide) ?_
      exact xreti C (⟨km, f, g⟩) (⟨⟨hs, hk, hkm⟩, Or.inr ⟨fun q => hbad_jy q.2.1, rfl, rfl, rfl, rfl⟩⟩) (xP_map hP [2, 0, 1] rfl) (hD.sub [2, 0, 1] (by decide) rfl) hS (Nat.le_of_ble_eq_true rfl) (Nat.le_of_ble_eq_true rfl) (by decide) dX12_link_44
    · -- 18 f
      have hok_jy : okN n y := PQ.yes hw_r_4 c_6
      obtain ⟨jy, h_jy, rfl⟩ := okN_of hok_jy (by omega)
      replace hP : va_P D vwCl [(ms, .inl (cs 0, 288, .inl f)), (mkp, .inl (cs 0, 2304, .inl g)), (hm, .inr (12, [.ref ms, .ref mkp, .int (nI km), .ref mtr, .int (nI n), .int (nI k), .int (nI al), .int (nI be), .int ea, .int pr, .ref mas, .int nq, .int po, .int (nI en), .ref mso, .ref mon, .ref mot, .ref man, .int (nI 0), .int xd, .ref mst, .ref msm, .ref mtb, .ref mti, .ref mfr, .ref mbn, .ref mbs, .ref mde, .int sF, .int sN, .int sS, .int ig, .long xa, .long xb, .ref maa, .ref mab, .ref mba, .ref mbb]))] H := hP
      replace hD : va_D A [(ms, .inl (cs 0, 288, .inl f)), (mkp, .inl (cs 0, 2304, .inl g)), (hm, .inr (12, [.ref ms, .ref mkp, .int (nI km), .ref mtr, .int (nI n), .int (nI k), .int (nI al), .int (nI be), .int ea, .int pr, .ref mas, .int nq, .int po, .int (nI en), .ref mso, .ref mon, .ref mot, .ref man, .int (nI 0), .int xd, .ref mst, .ref msm, .ref mtb, .ref mti, .ref mfr, .ref mbn, .ref mbs, .ref mde, .int sF, .int sN, .int sS, .int ig, .long xa, .long xb, .ref maa, .ref mab, .ref mba, .ref mbb]))] := hD
      refine lv_iload_n hx hb dX12_link_21 rfl (lv_at hl 1 rfl) ?_
      refine lv_iload_n hx hb dX12_link_22 rfl (lv_at hl 2 rfl) ?_
      refine lv_icmp_eq (tgt := 43) hx hb dX12_link_23 (by decide) (fun c_7 => ?_) (fun c_7 => ?_)
      · -- 23 t
        have fc_7 : jx = jy := nf_eq (by omega) (by omega) c_7
        refine lv_iconst (v := nI 0) hx hb dX12_link_43 (by decide) ?_
        exact xreti C (⟨km, f, g⟩) (⟨⟨hs, hk, hkm⟩, Or.inr ⟨fun q => q.2.2.1 c_7, rfl, rfl, rfl, rfl⟩⟩) (xP_map hP [2, 0, 1] rfl) (hD.sub [2, 0, 1] (by decide) rfl) hS (Nat.le_of_ble_eq_true rfl) (Nat.le_of_ble_eq_true rfl) (by decide) dX12_link_44
      · -- 23 f
        have fc_7 : jx ≠ jy := nf_ne (by omega) (by omega) c_7
        refine lv_aload_n hx hb dX12_link_26 rfl (lv_at hl 0 rfl) ?_
        refine xget C hP 2 rfl rfl zuX12 0 (by decide) zw5_213 rfl dX12_link_27 ?_
        refine lv_bipush (v := nI 56) hx hb dX12_link_30 (by decide) ?_
        refine lv_iload_n hx hb dX12_link_32 rfl (lv_at hl 1 rfl) ?_
        refine lv_iadd hx hb dX12_link_33 ?_
        refine lv_topi (nm_r (e' := nI (56 + jx)) (nI_add _ _) ?_)
        refine xiald C hP 0 rfl (56 + jx) rfl (by omega) (by decide) dX12_link_34 ?_
        refine lv_iload_n hx hb dX12_link_35 rfl (lv_at hl 2 rfl) ?_
        refine xi (wr := [(ms, .inl (cs 0, 288, .inl f)), (mkp, .inl (cs 0, 2304, .inl g)), (hm, .inr (12, [.ref ms, .ref mkp, .int (nI km), .ref mtr, .int (nI n), .int (nI k), .int (nI al), .int (nI be), .int ea, .int pr, .ref mas, .int nq, .int po, .int (nI en), .ref mso, .ref mon, .ref mot, .ref man, .int (nI 0), .int xd, .ref mst, .ref msm, .ref mtb, .ref mti, .ref mfr, .ref mbn, .ref mbs, .ref mde, .int sF, .int sN, .int sS, .int ig, .long xa, .long xb, .ref maa, .ref mab, .ref mba, .ref mbb]))]) (xS (As := [.int (f (56 + jx)), .int (nI jy)]) (rest := []) C (c_X12_has l D cs (f (56 + jx)) jy) kX12_100 hP hD [] rfl (by decide) ⟨Nat.le_of_ble_eq_true rfl, Nat.le_of_ble_eq_true rfl⟩ rfl hl.1 rfl (Nat.le_of_ble_eq_true rfl) dX12_link_36 ⟨Nat.le_of_ble_eq_true rfl, Nat.le_of_ble_eq_true rfl⟩) hP hD hS hA [] [0, 1, 2] rfl rfl (by decide) (by decide) ?_
        clear hP hD hS
        try clear locs
        try clear H
        intro r_8 u_9 H locs hw_r_8 hP hD hS
        have hw_r_8 : PQ (hasB (f (56 + jx)) jy) r_8 (nI 1) (nI 0) := hw_r_8
        refine W.widen (k := 0) (n := 0) (Nat.le_of_ble_eq_true rfl) (Nat.le_of_ble_eq_true rfl) ?_
        replace hP : va_P D vwCl [(ms, .inl (cs 0, 288, .inl f)), (mkp, .inl (cs 0, 2304, .inl g)), (hm, .inr (12, [.ref ms, .ref mkp, .int (nI km), .ref mtr, .int (nI n), .int (nI k), .int (nI al), .int (nI be), .int ea, .int pr, .ref mas, .int nq, .int po, .int (nI en), .ref mso, .ref mon, .ref mot, .ref man, .int (nI 0), .int xd, .ref mst, .ref msm, .ref mtb, .ref mti, .ref mfr, .ref mbn, .ref mbs, .ref mde, .int sF, .int sN, .int sS, .int ig, .long xa, .long xb, .ref maa, .ref mab, .ref mba, .ref mbb]))] H := hP
        replace hD : va_D A [(ms, .inl (cs 0, 288, .inl f)), (mkp, .inl (cs 0, 2304, .inl g)), (hm, .inr (12, [.ref ms, .ref mkp, .int (nI km), .ref mtr, .int (nI n), .int (nI k), .int (nI al), .int (nI be), .int ea, .int pr, .ref mas, .int nq, .int po, .int (nI en), .ref mso, .ref mon, .ref mot, .ref man, .int (nI 0), .int xd, .ref mst, .ref msm, .ref mtb, .ref mti, .ref mfr, .ref mbn, .ref mbs, .ref mde, .int sF, .int sN, .int sS, .int ig, .long xa, .long xb, .ref maa, .ref mab, .ref mba, .ref mbb]))] := hD
        refine lv_iload_n hx hb dX12_link_39 rfl (lv_at hl 3 rfl) ?_
        refine lv_icmp_ne (tgt := 45) hx hb dX12_link_40 (by decide) (fun c_10 => ?_) (fun c_10 => ?_)
        · -- 40 t
          refine lv_aload_n hx hb dX12_link_45 rfl (lv_at hl 0 rfl) ?_
          refine xv (wr := []) (xV (As := []) (rest := []) C (c_X12_keeps_f l D cs hm ms mkp mtr mas mso mon mot man mst msm mtb mti mfr mbn mbs mde maa mab mba mbb n k al be km en ea pr nq po (nI 0) xd sF sN sS ig xa xb f g hs hk hkm) kX12_124 hP hD [2, 0, 1] rfl (by decide) 0 rfl rfl rfl ⟨Nat.le_of_ble_eq_true rfl, Nat.le_of_ble_eq_true rfl⟩ rfl hl.1 rfl (Nat.le_of_ble_eq_true rfl) dX12_link_46 ⟨Nat.le_of_ble_eq_true rfl, Nat.le_of_ble_eq_true rfl⟩) hP hD hS hA [2, 0, 1] [] rfl rfl (by decide) (by decide) ?_
          clear hP hD hS
          try clear locs
          try clear H
          intro u_12 H locs hw_r_11 hP hD hS
          obtain ⟨kmz_13, gz_14⟩ := u_12
          have hw_r_11 : (keptP gz_14 ∧ kmz_13 ≤ 8) ∧ kpdP km f g kmz_13 gz_14 := hw_r_11
          refine W.widen (k := 0) (n := 0) (Nat.le_of_ble_eq_true rfl) (Nat.le_of_ble_eq_true rfl) ?_
          replace hP : va_P D vwCl [(hm, .inr (12, [.ref ms, .ref mkp, .int (nI kmz_13), .ref mtr, .int (nI n), .int (nI k), .int (nI al), .int (nI be), .int ea, .int pr, .ref mas, .int nq, .int po, .int (nI en), .ref mso, .ref mon, .ref mot, .ref man, .int (nI 0), .int xd, .ref mst, .ref msm, .ref mtb, .ref mti, .ref mfr, .ref mbn, .ref mbs, .ref mde, .int sF, .int sN, .int sS, .int ig, .long xa, .long xb, .ref maa, .ref mab, .ref mba, .ref mbb])), (ms, .inl (cs 0, 288, .inl f)), (mkp, .inl (cs 0, 2304, .inl gz_14))] H := hP
          replace hD : va_D A [(hm, .inr (12, [.ref ms, .ref mkp, .int (nI kmz_13), .ref mtr, .int (nI n), .int (nI k), .int (nI al), .int (nI be), .int ea, .int pr, .ref mas, .int nq, .int po, .int (nI en), .ref mso, .ref mon, .ref mot, .ref man, .int (nI 0), .int xd, .ref mst, .ref msm, .ref mtb, .ref mti, .ref mfr, .ref mbn, .ref mbs, .ref mde, .int sF, .int sN, .int sS, .int ig, .long xa, .long xb, .ref maa, .ref mab, .ref mba, .ref mbb])), (ms, .inl (cs 0, 288, .inl f)), (mkp, .inl (cs 0, 2304, .inl gz_14))] := hD
          refine lv_aload_n hx hb dX12_link_49 rfl (lv_at hl 0 rfl) ?_
          refine xget C hP 0 rfl rfl zuX12 0 (by decide) zw5_213 rfl dX12_link_50 ?_
          refine lv_bipush (v := nI 56) hx hb dX12_link_53 (by decide) ?_
          refine lv_iload_n hx hb dX12_link_55 rfl (lv_at hl 1 rfl) ?_
          refine lv_iadd hx hb dX12_link_56 ?_
          refine lv_topi (nm_r (e' := nI (56 + jx)) (nI_add _ _) ?_)
          refine lv_dup2_11 hx hb dX12_link_57 rfl rfl ?_
          refine xiald C hP 1 rfl (56 + jx) rfl (by omega) (by decide) dX12_link_58 ?_
          refine lv_iconst (v := nI 1) hx hb dX12_link_59 (by decide) ?_
          refine lv_iload_n hx hb dX12_link_60 rfl (lv_at hl 2 rfl) ?_
          refine lv_ishl hx hb dX12_link_61 ?_
          refine lv_ixor hx hb dX12_link_62 ?_
          refine xiast C hP hD hS 1 rfl (56 + jx) rfl (by omega) (by decide) dX12_link_63 ?_
          clear hP hD hS
          try clear locs
          try clear H
          intro H locs hP hD hS
          replace hP : va_P D vwCl [(hm, .inr (12, [.ref ms, .ref mkp, .int (nI kmz_13), .ref mtr, .int (nI n), .int (nI k), .int (nI al), .int (nI be), .int ea, .int pr, .ref mas, .int nq, .int po, .int (nI en), .ref mso, .ref mon, .ref mot, .ref man, .int (nI 0), .int xd, .ref mst, .ref msm, .ref mtb, .ref mti, .ref mfr, .ref mbn, .ref mbs, .ref mde, .int sF, .int sN, .int sS, .int ig, .long xa, .long xb, .ref maa, .ref mab, .ref mba, .ref mbb])), (ms, .inl (cs 0, 288, .inl (upd f (56 + jx) ((f (56 + jx)) ^^^ ((nI 1) <<< ((nI jy) &&& 31)))))), (mkp, .inl (cs 0, 2304, .inl gz_14))] H := hP
          replace hD : va_D A [(hm, .inr (12, [.ref ms, .ref mkp, .int (nI kmz_13), .ref mtr, .int (nI n), .int (nI k), .int (nI al), .int (nI be), .int ea, .int pr, .ref mas, .int nq, .int po, .int (nI en), .ref mso, .ref mon, .ref mot, .ref man, .int (nI 0), .int xd, .ref mst, .ref msm, .ref mtb, .ref mti, .ref mfr, .ref mbn, .ref mbs, .ref mde, .int sF, .int sN, .int sS, .int ig, .long xa, .long xb, .ref maa, .ref mab, .ref mba, .ref mbb])), (ms, .inl (cs 0, 288, .inl (upd f (56 + jx) ((f (56 + jx)) ^^^ ((nI 1) <<< ((nI jy) &&& 31)))))), (mkp, .inl (cs 0, 2304, .inl gz_14))] := hD
          refine lv_aload_n hx hb dX12_link_64 rfl (lv_at hl 0 rfl) ?_
          refine xget C hP 0 rfl rfl zuX12 0 (by decide) zw5_213 rfl dX12_link_65 ?_
          refine lv_bipush (v := nI 56) hx hb dX12_link_68 (by decide) ?_
          refine lv_iload_n hx hb dX12_link_70 rfl (lv_at hl 2 rfl) ?_
          refine lv_iadd hx hb dX12_link_71 ?_
          refine lv_topi (nm_r (e' := nI (56 + jy)) (nI_add _ _) ?_)
          refine lv_dup2_11 hx hb dX12_link_72 rfl rfl ?_
          refine xiald C hP 1 rfl (56 + jy) rfl (by omega) (by decide) dX12_link_73 ?_
          refine lv_iconst (v := nI 1) hx hb dX12_link_74 (by decide) ?_
          refine lv_iload_n hx hb dX12_link_75 rfl (lv_at hl 1 rfl) ?_
          refine lv_ishl hx hb dX12_link_76 ?_
          refine lv_ixor hx hb dX12_link_77 ?_
          refine xiast C hP hD hS 1 rfl (56 + jy) rfl (by omega) (by decide) dX12_link_78 ?_
          clear hP hD hS
          try clear locs
          try clear H
          intro H locs hP hD hS
          replace hP : va_P D vwCl [(hm, .inr (12, [.ref ms, .ref mkp, .int (nI kmz_13), .ref mtr, .int (nI n), .int (nI k), .int (nI al), .int (nI be), .int ea, .int pr, .ref mas, .int nq, .int po, .int (nI en), .ref mso, .ref mon, .ref mot, .ref man, .int (nI 0), .int xd, .ref mst, .ref msm, .ref mtb, .ref mti, .ref mfr, .ref mbn, .ref mbs, .ref mde, .int sF, .int sN, .int sS, .int ig, .long xa, .long xb, .ref maa, .ref mab, .ref mba, .ref mbb])), (ms, .inl (cs 0, 288, .inl (upd (upd f (56 + jx) ((f (56 + jx)) ^^^ ((nI 1) <<< ((nI jy) &&& 31)))) (56 + jy) (((upd f (56 + jx) ((f (56 + jx)) ^^^ ((nI 1) <<< ((nI jy) &&& 31)))) (56 + jy)) ^^^ ((nI 1) <<< ((nI jx) &&& 31)))))), (mkp, .inl (cs 0, 2304, .inl gz_14))] H := hP
          replace hD : va_D A [(hm, .inr (12, [.ref ms, .ref mkp, .int (nI kmz_13), .ref mtr, .int (nI n), .int (nI k), .int (nI al), .int (nI be), .int ea, .int pr, .ref mas, .int nq, .int po, .int (nI en), .ref mso, .ref mon, .ref mot, .ref man, .int (nI 0), .int xd, .ref mst, .ref msm, .ref mtb, .ref mti, .ref mfr, .ref mbn, .ref mbs, .ref mde, .int sF, .int sN, .int sS, .int ig, .long xa, .long xb, .ref maa, .ref mab, .ref mba, .ref mbb])), (ms, .inl (cs 0, 288, .inl (upd (upd f (56 + jx) ((f (56 + jx)) ^^^ ((nI 1) <<< ((nI jy) &&& 31)))) (56 + jy) (((upd f (56 + jx) ((f (56 + jx)) ^^^ ((nI 1) <<< ((nI jy) &&& 31)))) (56 + jy)) ^^^ ((nI 1) <<< ((nI jx) &&& 31)))))), (mkp, .inl (cs 0, 2304, .inl gz_14))] := hD
          refine lv_iconst (v := nI 1) hx hb dX12_link_79 (by decide) ?_
          exact xreti C (⟨kmz_13, (upd (upd f (56 + jx) ((f (56 + jx)) ^^^ ((nI 1) <<< ((nI jy) &&& 31)))) (56 + jy) (((upd f (56 + jx) ((f (56 + jx)) ^^^ ((nI 1) <<< ((nI jy) &&& 31)))) (56 + jy)) ^^^ ((nI 1) <<< ((nI jx) &&& 31)))), gz_14⟩) (⟨⟨(colP_hi (i := 56 + jy) (colP_hi (i := 56 + jx) hs ((f (56 + jx)) ^^^ ((nI 1) <<< ((nI jy) &&& 31))) (by omega)) (((upd f (56 + jx) ((f (56 + jx)) ^^^ ((nI 1) <<< ((nI jy) &&& 31)))) (56 + jy)) ^^^ ((nI 1) <<< ((nI jx) &&& 31))) (by omega)), hw_r_11.1⟩, Or.inl ⟨jx, jy, _, h_jx, h_jy, rfl, rfl, c_7, hw_r_8, c_10, rfl, rfl, hw_r_11.2⟩⟩) hP hD hS (Nat.le_of_ble_eq_true rfl) (Nat.le_of_ble_eq_true rfl) (by decide) dX12_link_80
        · -- 40 f
          refine lv_iconst (v := nI 0) hx hb dX12_link_43 (by decide) ?_
          exact xreti C (⟨km, f, g⟩) (⟨⟨hs, hk, hkm⟩, Or.inr ⟨fun q => by obtain ⟨h, hh, hne⟩ := q.2.2.2 jx jy rfl rfl h_jx h_jy; exact hne ((PQ.uniq hh hw_r_8).trans c_10), rfl, rfl, rfl, rfl⟩⟩) (xP_map hP [2, 0, 1] rfl) (hD.sub [2, 0, 1] (by decide) rfl) hS (Nat.le_of_ble_eq_true rfl) (Nat.le_of_ble_eq_true rfl) (by decide) dX12_link_44

set_option maxHeartbeats 4000000 in
set_option maxRecDepth 100000 in
theorem c_X12_node_f (l : Launch) (D : va_G) (cs : Nat → ClassId) (hm ms mkp mtr mas mso mon mot man mst msm mtb mti mfr mbn mbs mde maa mab mba mbb : Nat) (n k al be km en : Nat) (ea pr nq po th xd sF sN sS ig : Int32) (xa xb : Int64) (f : Nat → Int32) (qq : Nat → Int32) (x y : Int32) (hn : 2 ≤ n ∧ n ≤ 8) : xMet l D cs yX12_node cX12_node 3 (some .int) ({ frames := 2, cells := 0, slots := 0, locals := 43 } : Room) [.ref hm, .int x, .int y] [(hm, .inr (12, [.ref ms, .ref mkp, .int (nI km), .ref mtr, .int (nI n), .int (nI k), .int (nI al), .int (nI be), .int ea, .int pr, .ref mas, .int nq, .int po, .int (nI en), .ref mso, .ref mon, .ref mot, .ref man, .int th, .int xd, .ref mst, .ref msm, .ref mtb, .ref mti, .ref mfr, .ref mbn, .ref mbs, .ref mde, .int sF, .int sN, .int sS, .int ig, .long xa, .long xb, .ref maa, .ref mab, .ref mba, .ref mbb])), (ms, .inl (cs 0, 288, .inl f)), (mas, .inl (cs 0, 8, .inl qq))] (xQi D (fun (r : Int32) (_u : Unit) => (∃ a, a < n ∧ x = nI a ∧ r = ndV f qq a y) ∨ (¬ okN n x ∧ r = -2)) (fun (_u : Unit) => [(hm, .inr (12, [.ref ms, .ref mkp, .int (nI km), .ref mtr, .int (nI n), .int (nI k), .int (nI al), .int (nI be), .int ea, .int pr, .ref mas, .int nq, .int po, .int (nI en), .ref mso, .ref mon, .ref mot, .ref man, .int (nI 0), .int xd, .ref mst, .ref msm, .ref mtb, .ref mti, .ref mfr, .ref mbn, .ref mbs, .ref mde, .int sF, .int sN, .int sS, .int ig, .long xa, .long xb, .ref maa, .ref mab, .ref mba, .ref mbb])), (ms, .inl (cs 0, 288, .inl f)), (mas, .inl (cs 0, 8, .inl qq))])) := by
  refine xMet.intro (by decide) (Nat.le_of_ble_eq_true rfl) ?_
  intro p e s m args below meth c A ls C hP hD hS hl
  have hx := C.1
  have hb := C.2.1
  have hz := C.2.2.2.2.1
  have hown := C.2.2.2.1
  have hA := C.2.2.2.2.2.2.2.2.2
  have hAO := C.2.2.2.2.2.2.2.2.1.2.2
  replace hl : lv_has ls 3 [(0, .ref hm), (1, .int x), (2, .int y)] := hl
  obtain ⟨H, hH⟩ : ∃ H, H = s.heap := ⟨_, rfl⟩
  replace hP : va_P D vwCl [(hm, .inr (12, [.ref ms, .ref mkp, .int (nI km), .ref mtr, .int (nI n), .int (nI k), .int (nI al), .int (nI be), .int ea, .int pr, .ref mas, .int nq, .int po, .int (nI en), .ref mso, .ref mon, .ref mot, .ref man, .int th, .int xd, .ref mst, .ref msm, .ref mtb, .ref mti, .ref mfr, .ref mbn, .ref mbs, .ref mde, .int sF, .int sN, .int sS, .int ig, .long xa, .long xb, .ref maa, .ref mab, .ref mba, .ref mbb])), (ms, .inl (cs 0, 288, .inl f)), (mas, .inl (cs 0, 8, .inl qq))] H := by rw [hH]; exact hP
  replace hS : va_S A s.heap H [] := by rw [hH]; exact hS
  obtain ⟨locs, hlocs⟩ : ∃ z : List Loc, z = [] := ⟨_, rfl⟩
  rw [← hlocs] at hS
  suffices hW : W p l e ({ frames := 2, cells := 0, slots := 0, locals := 43 } : Room) s m args below meth c H locs 0 0 (MQ below ((xQi D (fun (r : Int32) (_u : Unit) => (∃ a, a < n ∧ x = nI a ∧ r = ndV f qq a y) ∨ (¬ okN n x ∧ r = -2)) (fun (_u : Unit) => [(hm, .inr (12, [.ref ms, .ref mkp, .int (nI km), .ref mtr, .int (nI n), .int (nI k), .int (nI al), .int (nI be), .int ea, .int pr, .ref mas, .int nq, .int po, .int (nI en), .ref mso, .ref mon, .ref mot, .ref man, .int (nI 0), .int xd, .ref mst, .ref msm, .ref mtb, .ref mti, .ref mfr, .ref mbn, .ref mbs, .ref mde, .int sF, .int sN, .int sS, .int ig, .long xa, .long xb, .ref maa, .ref mab, .ref mba, .ref mbb])), (ms, .inl (cs 0, 288, .inl f)), (mas, .inl (cs 0, 8, .inl qq))])) A) args s 0 0 A) (F0 m 0 ls []) by rw [hlocs, hH] at hW; exact hW
  clear hH hlocs
  refine lv_aload_n hx hb dX12_node_0 rfl (lv_at hl 0 rfl) ?_
  refine lv_iconst (v := nI 0) hx hb dX12_node_1 (by decide) ?_
  refine xput C hP hD hS 0 rfl rfl zuX12 tyX12 tyX12_ok nmX12 18 (by decide) zw5_231 rfl rfl rfl (Nat.le_of_ble_eq_true rfl) dX12_node_2 ?_
  clear hP hD hS
  try clear locs
  try clear H
  intro H locs hP hD hS
  replace hP : va_P D vwCl [(hm, .inr (12, [.ref ms, .ref mkp, .int (nI km), .ref mtr, .int (nI n), .int (nI k), .int (nI al), .int (nI be), .int ea, .int pr, .ref mas, .int nq, .int po, .int (nI en), .ref mso, .ref mon, .ref mot, .ref man, .int (nI 0), .int xd, .ref mst, .ref msm, .ref mtb, .ref mti, .ref mfr, .ref mbn, .ref mbs, .ref mde, .int sF, .int sN, .int sS, .int ig, .long xa, .long xb, .ref maa, .ref mab, .ref mba, .ref mbb])), (ms, .inl (cs 0, 288, .inl f)), (mas, .inl (cs 0, 8, .inl qq))] H := hP
  replace hD : va_D A [(hm, .inr (12, [.ref ms, .ref mkp, .int (nI km), .ref mtr, .int (nI n), .int (nI k), .int (nI al), .int (nI be), .int ea, .int pr, .ref mas, .int nq, .int po, .int (nI en), .ref mso, .ref mon, .ref mot, .ref man, .int (nI 0), .int xd, .ref mst, .ref msm, .ref mtb, .ref mti, .ref mfr, .ref mbn, .ref mbs, .ref mde, .int sF, .int sN, .int sS, .int ig, .long xa, .long xb, .ref maa, .ref mab, .ref mba, .ref mbb])), (ms, .inl (cs 0, 288, .inl f)), (mas, .inl (cs 0, 8, .inl qq))] := hD
  refine lv_aload_n hx hb dX12_node_5 rfl (lv_at hl 0 rfl) ?_
  refine lv_iload_n hx hb dX12_node_6 rfl (lv_at hl 1 rfl) ?_
  refine xi (wr := [(ms, .inl (cs 0, 288, .inl f)), (mas, .inl (cs 0, 8, .inl qq))]) (xV (As := [.int x]) (rest := []) C (c_X12_isNode l D cs hm ms mkp mtr mas mso mon mot man mst msm mtb mti mfr mbn mbs mde maa mab mba mbb n k al be km en ea pr nq po (nI 0) xd sF sN sS ig xa xb x hn) kX12_120 hP hD [0] rfl (by decide) 0 rfl rfl rfl ⟨Nat.le_of_ble_eq_true rfl, Nat.le_of_ble_eq_true rfl⟩ rfl hl.1 rfl (Nat.le_of_ble_eq_true rfl) dX12_node_7 ⟨Nat.le_of_ble_eq_true rfl, Nat.le_of_ble_eq_true rfl⟩) hP hD hS hA [0] [1, 2] rfl rfl (by decide) (by decide) ?_
  clear hP hD hS
  try clear locs
  try clear H
  intro r_1 u_2 H locs hw_r_1 hP hD hS
  have hw_r_1 : PQ (okN n x) r_1 (nI 1) (nI 0) := hw_r_1
  refine W.widen (k := 0) (n := 0) (Nat.le_of_ble_eq_true rfl) (Nat.le_of_ble_eq_true rfl) ?_
  replace hP : va_P D vwCl [(ms, .inl (cs 0, 288, .inl f)), (mas, .inl (cs 0, 8, .inl qq)), (hm, .inr (12, [.ref ms, .ref mkp, .int (nI km), .ref mtr, .int (nI n), .int (nI k), .int (nI al), .int (nI be), .int ea, .int pr, .ref mas, .int nq, .int po, .int (nI en), .ref mso, .ref mon, .ref mot, .ref man, .int (nI 0), .int xd, .ref mst, .ref msm, .ref mtb, .ref mti, .ref mfr, .ref mbn, .ref mbs, .ref mde, .int sF, .int sN, .int sS, .int ig, .long xa, .long xb, .ref maa, .ref mab, .ref mba, .ref mbb]))] H := hP
  replace hD : va_D A [(ms, .inl (cs 0, 288, .inl f)), (mas, .inl (cs 0, 8, .inl qq)), (hm, .inr (12, [.ref ms, .ref mkp, .int (nI km), .ref mtr, .int (nI n), .int (nI k), .int (nI al), .int (nI be), .int ea, .int pr, .ref mas, .int nq, .int po, .int (nI en), .ref mso, .ref mon, .ref mot, .ref man, .int (nI 0), .int xd, .ref mst, .ref msm, .ref mtb, .ref mti, .ref mfr, .ref mbn, .ref mbs, .ref mde, .int sF, .int sN, .int sS, .int ig, .long xa, .long xb, .ref maa, .ref mab, .ref mba, .ref mbb]))] := hD
  refine lv_if_ne (tgt := 16) hx hb dX12_node_10 (by decide) (fun c_3 => ?_) (fun c_3 => ?_)
  · -- 10 t
    have hok_jx : okN n x := PQ.yes hw_r_1 c_3
    obtain ⟨jx, h_jx, rfl⟩ := okN_of hok_jx (by omega)
    replace hP : va_P D vwCl [(ms, .inl (cs 0, 288, .inl f)), (mas, .inl (cs 0, 8, .inl qq)), (hm, .inr (12, [.ref ms, .ref mkp, .int (nI km), .ref mtr, .int (nI n), .int (nI k), .int (nI al), .int (nI be), .int ea, .int pr, .ref mas, .int nq, .int po, .int (nI en), .ref mso, .ref mon, .ref mot, .ref man, .int (nI 0), .int xd, .ref mst, .ref msm, .ref mtb, .ref mti, .ref mfr, .ref mbn, .ref mbs, .ref mde, .int sF, .int sN, .int sS, .int ig, .long xa, .long xb, .ref maa, .ref mab, .ref mba, .ref mbb]))] H := hP
    replace hD : va_D A [(ms, .inl (cs 0, 288, .inl f)), (mas, .inl (cs 0, 8, .inl qq)), (hm, .inr (12, [.ref ms, .ref mkp, .int (nI km), .ref mtr, .int (nI n), .int (nI k), .int (nI al), .int (nI be), .int ea, .int pr, .ref mas, .int nq, .int po, .int (nI en), .ref mso, .ref mon, .ref mot, .ref man, .int (nI 0), .int xd, .ref mst, .ref msm, .ref mtb, .ref mti, .ref mfr, .ref mbn, .ref mbs, .ref mde, .int sF, .int sN, .int sS, .int ig, .long xa, .long xb, .ref maa, .ref mab, .ref mba, .ref mbb]))] := hD
    refine lv_iload_n hx hb dX12_node_16 rfl (lv_at hl 2 rfl) ?_
    rcases (xsw y 8 (by decide)) with ⟨k9, hk9, rfl⟩ | hout
    · -- split
      replace hP : va_P D vwCl [(ms, .inl (cs 0, 288, .inl f)), (mas, .inl (cs 0, 8, .inl qq)), (hm, .inr (12, [.ref ms, .ref mkp, .int (nI km), .ref mtr, .int (nI n), .int (nI k), .int (nI al), .int (nI be), .int ea, .int pr, .ref mas, .int nq, .int po, .int (nI en), .ref mso, .ref mon, .ref mot, .ref man, .int (nI 0), .int xd, .ref mst, .ref msm, .ref mtb, .ref mti, .ref mfr, .ref mbn, .ref mbs, .ref mde, .int sF, .int sN, .int sS, .int ig, .long xa, .long xb, .ref maa, .ref mab, .ref mba, .ref mbb]))] H := hP
      replace hD : va_D A [(ms, .inl (cs 0, 288, .inl f)), (mas, .inl (cs 0, 8, .inl qq)), (hm, .inr (12, [.ref ms, .ref mkp, .int (nI km), .ref mtr, .int (nI n), .int (nI k), .int (nI al), .int (nI be), .int ea, .int pr, .ref mas, .int nq, .int po, .int (nI en), .ref mso, .ref mon, .ref mot, .ref man, .int (nI 0), .int xd, .ref mst, .ref msm, .ref mtb, .ref mti, .ref mfr, .ref mbn, .ref mbs, .ref mde, .int sF, .int sN, .int sS, .int ig, .long xa, .long xb, .ref maa, .ref mab, .ref mba, .ref mbb]))] := hD
      rcases (show k9 = 0 ∨ k9 = 1 ∨ k9 = 2 ∨ k9 = 3 ∨ k9 = 4 ∨ k9 = 5 ∨ k9 = 6 ∨ k9 = 7 by omega) with rfl | rfl | rfl | rfl | rfl | rfl | rfl | rfl
      · -- k9 = 0
        replace hP : va_P D vwCl [(ms, .inl (cs 0, 288, .inl f)), (mas, .inl (cs 0, 8, .inl qq)), (hm, .inr (12, [.ref ms, .ref mkp, .int (nI km), .ref mtr, .int (nI n), .int (nI k), .int (nI al), .int (nI be), .int ea, .int pr, .ref mas, .int nq, .int po, .int (nI en), .ref mso, .ref mon, .ref mot, .ref man, .int (nI 0), .int xd, .ref mst, .ref msm, .ref mtb, .ref mti, .ref mfr, .ref mbn, .ref mbs, .ref mde, .int sF, .int sN, .int sS, .int ig, .long xa, .long xb, .ref maa, .ref mab, .ref mba, .ref mbb]))] H := hP
        replace hD : va_D A [(ms, .inl (cs 0, 288, .inl f)), (mas, .inl (cs 0, 8, .inl qq)), (hm, .inr (12, [.ref ms, .ref mkp, .int (nI km), .ref mtr, .int (nI n), .int (nI k), .int (nI al), .int (nI be), .int ea, .int pr, .ref mas, .int nq, .int po, .int (nI en), .ref mso, .ref mon, .ref mot, .ref man, .int (nI 0), .int xd, .ref mst, .ref msm, .ref mtb, .ref mti, .ref mfr, .ref mbn, .ref mbs, .ref mde, .int sF, .int sN, .int sS, .int ig, .long xa, .long xb, .ref maa, .ref mab, .ref mba, .ref mbb]))] := hD
        refine lv_tableIn (tgt := 64) hx hb dX12_node_17 (by decide) (by decide) rfl (by decide) ?_
        refine lv_aload_n hx hb dX12_node_64 rfl (lv_at hl 0 rfl) ?_
        refine xget C hP 2 rfl rfl zuX12 0 (by decide) zw5_213 rfl dX12_node_65 ?_
        refine lv_iconst (v := nI 0) hx hb dX12_node_68 (by decide) ?_
        refine lv_iload_n hx hb dX12_node_69 rfl (lv_at hl 1 rfl) ?_
        refine lv_iadd hx hb dX12_node_70 ?_
        refine lv_topi (nm_r (e' := nI (0 + jx)) (nI_add _ _) ?_)
        refine xiald C hP 0 rfl (0 + jx) rfl (by omega) (by decide) dX12_node_71 ?_
        exact xreti C () (Or.inl ⟨jx, h_jx, rfl, (by unfold ndV; rw [if_pos rfl])⟩) (xP_map hP [2, 0, 1] rfl) (hD.sub [2, 0, 1] (by decide) rfl) hS (Nat.le_of_ble_eq_true rfl) (Nat.le_of_ble_eq_true rfl) rfl dX12_node_72
      · -- k9 = 1
        replace hP : va_P D vwCl [(ms, .inl (cs 0, 288, .inl f)), (mas, .inl (cs 0, 8, .inl qq)), (hm, .inr (12, [.ref ms, .ref mkp, .int (nI km), .ref mtr, .int (nI n), .int (nI k), .int (nI al), .int (nI be), .int ea, .int pr, .ref mas, .int nq, .int po, .int (nI en), .ref mso, .ref mon, .ref mot, .ref man, .int (nI 0), .int xd, .ref mst, .ref msm, .ref mtb, .ref mti, .ref mfr, .ref mbn, .ref mbs, .ref mde, .int sF, .int sN, .int sS, .int ig, .long xa, .long xb, .ref maa, .ref mab, .ref mba, .ref mbb]))] H := hP
        replace hD : va_D A [(ms, .inl (cs 0, 288, .inl f)), (mas, .inl (cs 0, 8, .inl qq)), (hm, .inr (12, [.ref ms, .ref mkp, .int (nI km), .ref mtr, .int (nI n), .int (nI k), .int (nI al), .int (nI be), .int ea, .int pr, .ref mas, .int nq, .int po, .int (nI en), .ref mso, .ref mon, .ref mot, .ref man, .int (nI 0), .int xd, .ref mst, .ref msm, .ref mtb, .ref mti, .ref mfr, .ref mbn, .ref mbs, .ref mde, .int sF, .int sN, .int sS, .int ig, .long xa, .long xb, .ref maa, .ref mab, .ref mba, .ref mbb]))] := hD
        refine lv_tableIn (tgt := 73) hx hb dX12_node_17 (by decide) (by decide) rfl (by decide) ?_
        refine lv_aload_n hx hb dX12_node_73 rfl (lv_at hl 0 rfl) ?_
        refine xget C hP 2 rfl rfl zuX12 0 (by decide) zw5_213 rfl dX12_node_74 ?_
        refine lv_bipush (v := nI 8) hx hb dX12_node_77 (by decide) ?_
        refine lv_iload_n hx hb dX12_node_79 rfl (lv_at hl 1 rfl) ?_
        refine lv_iadd hx hb dX12_node_80 ?_
        refine lv_topi (nm_r (e' := nI (8 + jx)) (nI_add _ _) ?_)
        refine xiald C hP 0 rfl (8 + jx) rfl (by omega) (by decide) dX12_node_81 ?_
        exact xreti C () (Or.inl ⟨jx, h_jx, rfl, (by unfold ndV; rw [if_neg (by decide), if_pos rfl])⟩) (xP_map hP [2, 0, 1] rfl) (hD.sub [2, 0, 1] (by decide) rfl) hS (Nat.le_of_ble_eq_true rfl) (Nat.le_of_ble_eq_true rfl) rfl dX12_node_82
      · -- k9 = 2
        replace hP : va_P D vwCl [(ms, .inl (cs 0, 288, .inl f)), (mas, .inl (cs 0, 8, .inl qq)), (hm, .inr (12, [.ref ms, .ref mkp, .int (nI km), .ref mtr, .int (nI n), .int (nI k), .int (nI al), .int (nI be), .int ea, .int pr, .ref mas, .int nq, .int po, .int (nI en), .ref mso, .ref mon, .ref mot, .ref man, .int (nI 0), .int xd, .ref mst, .ref msm, .ref mtb, .ref mti, .ref mfr, .ref mbn, .ref mbs, .ref mde, .int sF, .int sN, .int sS, .int ig, .long xa, .long xb, .ref maa, .ref mab, .ref mba, .ref mbb]))] H := hP
        replace hD : va_D A [(ms, .inl (cs 0, 288, .inl f)), (mas, .inl (cs 0, 8, .inl qq)), (hm, .inr (12, [.ref ms, .ref mkp, .int (nI km), .ref mtr, .int (nI n), .int (nI k), .int (nI al), .int (nI be), .int ea, .int pr, .ref mas, .int nq, .int po, .int (nI en), .ref mso, .ref mon, .ref mot, .ref man, .int (nI 0), .int xd, .ref mst, .ref msm, .ref mtb, .ref mti, .ref mfr, .ref mbn, .ref mbs, .ref mde, .int sF, .int sN, .int sS, .int ig, .long xa, .long xb, .ref maa, .ref mab, .ref mba, .ref mbb]))] := hD
        refine lv_tableIn (tgt := 83) hx hb dX12_node_17 (by decide) (by decide) rfl (by decide) ?_
        refine lv_aload_n hx hb dX12_node_83 rfl (lv_at hl 0 rfl) ?_
        refine xget C hP 2 rfl rfl zuX12 0 (by decide) zw5_213 rfl dX12_node_84 ?_
        refine lv_bipush (v := nI 16) hx hb dX12_node_87 (by decide) ?_
        refine lv_iload_n hx hb dX12_node_89 rfl (lv_at hl 1 rfl) ?_
        refine lv_iadd hx hb dX12_node_90 ?_
        refine lv_topi (nm_r (e' := nI (16 + jx)) (nI_add _ _) ?_)
        refine xiald C hP 0 rfl (16 + jx) rfl (by omega) (by decide) dX12_node_91 ?_
        exact xreti C () (Or.inl ⟨jx, h_jx, rfl, (by unfold ndV; rw [if_neg (by decide), if_neg (by decide), if_pos rfl])⟩) (xP_map hP [2, 0, 1] rfl) (hD.sub [2, 0, 1] (by decide) rfl) hS (Nat.le_of_ble_eq_true rfl) (Nat.le_of_ble_eq_true rfl) rfl dX12_node_92
      · -- k9 = 3
        replace hP : va_P D vwCl [(ms, .inl (cs 0, 288, .inl f)), (mas, .inl (cs 0, 8, .inl qq)), (hm, .inr (12, [.ref ms, .ref mkp, .int (nI km), .ref mtr, .int (nI n), .int (nI k), .int (nI al), .int (nI be), .int ea, .int pr, .ref mas, .int nq, .int po, .int (nI en), .ref mso, .ref mon, .ref mot, .ref man, .int (nI 0), .int xd, .ref mst, .ref msm, .ref mtb, .ref mti, .ref mfr, .ref mbn, .ref mbs, .ref mde, .int sF, .int sN, .int sS, .int ig, .long xa, .long xb, .ref maa, .ref mab, .ref mba, .ref mbb]))] H := hP
        replace hD : va_D A [(ms, .inl (cs 0, 288, .inl f)), (mas, .inl (cs 0, 8, .inl qq)), (hm, .inr (12, [.ref ms, .ref mkp, .int (nI km), .ref mtr, .int (nI n), .int (nI k), .int (nI al), .int (nI be), .int ea, .int pr, .ref mas, .int nq, .int po, .int (nI en), .ref mso, .ref mon, .ref mot, .ref man, .int (nI 0), .int xd, .ref mst, .ref msm, .ref mtb, .ref mti, .ref mfr, .ref mbn, .ref mbs, .ref mde, .int sF, .int sN, .int sS, .int ig, .long xa, .long xb, .ref maa, .ref mab, .ref mba, .ref mbb]))] := hD
        refine lv_tableIn (tgt := 93) hx hb dX12_node_17 (by decide) (by decide) rfl (by decide) ?_
        refine lv_aload_n hx hb dX12_node_93 rfl (lv_at hl 0 rfl) ?_
        refine xget C hP 2 rfl rfl zuX12 0 (by decide) zw5_213 rfl dX12_node_94 ?_
        refine lv_bipush (v := nI 24) hx hb dX12_node_97 (by decide) ?_
        refine lv_iload_n hx hb dX12_node_99 rfl (lv_at hl 1 rfl) ?_
        refine lv_iadd hx hb dX12_node_100 ?_
        refine lv_topi (nm_r (e' := nI (24 + jx)) (nI_add _ _) ?_)
        refine xiald C hP 0 rfl (24 + jx) rfl (by omega) (by decide) dX12_node_101 ?_
        exact xreti C () (Or.inl ⟨jx, h_jx, rfl, (by unfold ndV; rw [if_neg (by decide), if_neg (by decide), if_neg (by decide), if_pos rfl])⟩) (xP_map hP [2, 0, 1] rfl) (hD.sub [2, 0, 1] (by decide) rfl) hS (Nat.le_of_ble_eq_true rfl) (Nat.le_of_ble_eq_true rfl) rfl dX12_node_102
      · -- k9 = 4
        replace hP : va_P D vwCl [(ms, .inl (cs 0, 288, .inl f)), (mas, .inl (cs 0, 8, .inl qq)), (hm, .inr (12, [.ref ms, .ref mkp, .int (nI km), .ref mtr, .int (nI n), .int (nI k), .int (nI al), .int (nI be), .int ea, .int pr, .ref mas, .int nq, .int po, .int (nI en), .ref mso, .ref mon, .ref mot, .ref man, .int (nI 0), .int xd, .ref mst, .ref msm, .ref mtb, .ref mti, .ref mfr, .ref mbn, .ref mbs, .ref mde, .int sF, .int sN, .int sS, .int ig, .long xa, .long xb, .ref maa, .ref mab, .ref mba, .ref mbb]))] H := hP
        replace hD : va_D A [(ms, .inl (cs 0, 288, .inl f)), (mas, .inl (cs 0, 8, .inl qq)), (hm, .inr (12, [.ref ms, .ref mkp, .int (nI km), .ref mtr, .int (nI n), .int (nI k), .int (nI al), .int (nI be), .int ea, .int pr, .ref mas, .int nq, .int po, .int (nI en), .ref mso, .ref mon, .ref mot, .ref man, .int (nI 0), .int xd, .ref mst, .ref msm, .ref mtb, .ref mti, .ref mfr, .ref mbn, .ref mbs, .ref mde, .int sF, .int sN, .int sS, .int ig, .long xa, .long xb, .ref maa, .ref mab, .ref mba, .ref mbb]))] := hD
        refine lv_tableIn (tgt := 103) hx hb dX12_node_17 (by decide) (by decide) rfl (by decide) ?_
        refine lv_aload_n hx hb dX12_node_103 rfl (lv_at hl 0 rfl) ?_
        refine xget C hP 2 rfl rfl zuX12 0 (by decide) zw5_213 rfl dX12_node_104 ?_
        refine lv_bipush (v := nI 32) hx hb dX12_node_107 (by decide) ?_
        refine lv_iload_n hx hb dX12_node_109 rfl (lv_at hl 1 rfl) ?_
        refine lv_iadd hx hb dX12_node_110 ?_
        refine lv_topi (nm_r (e' := nI (32 + jx)) (nI_add _ _) ?_)
        refine xiald C hP 0 rfl (32 + jx) rfl (by omega) (by decide) dX12_node_111 ?_
        exact xreti C () (Or.inl ⟨jx, h_jx, rfl, (by unfold ndV; rw [if_neg (by decide), if_neg (by decide), if_neg (by decide), if_neg (by decide), if_pos rfl])⟩) (xP_map hP [2, 0, 1] rfl) (hD.sub [2, 0, 1] (by decide) rfl) hS (Nat.le_of_ble_eq_true rfl) (Nat.le_of_ble_eq_true rfl) rfl dX12_node_112
      · -- k9 = 5
        replace hP : va_P D vwCl [(ms, .inl (cs 0, 288, .inl f)), (mas, .inl (cs 0, 8, .inl qq)), (hm, .inr (12, [.ref ms, .ref mkp, .int (nI km), .ref mtr, .int (nI n), .int (nI k), .int (nI al), .int (nI be), .int ea, .int pr, .ref mas, .int nq, .int po, .int (nI en), .ref mso, .ref mon, .ref mot, .ref man, .int (nI 0), .int xd, .ref mst, .ref msm, .ref mtb, .ref mti, .ref mfr, .ref mbn, .ref mbs, .ref mde, .int sF, .int sN, .int sS, .int ig, .long xa, .long xb, .ref maa, .ref mab, .ref mba, .ref mbb]))] H := hP
        replace hD : va_D A [(ms, .inl (cs 0, 288, .inl f)), (mas, .inl (cs 0, 8, .inl qq)), (hm, .inr (12, [.ref ms, .ref mkp, .int (nI km), .ref mtr, .int (nI n), .int (nI k), .int (nI al), .int (nI be), .int ea, .int pr, .ref mas, .int nq, .int po, .int (nI en), .ref mso, .ref mon, .ref mot, .ref man, .int (nI 0), .int xd, .ref mst, .ref msm, .ref mtb, .ref mti, .ref mfr, .ref mbn, .ref mbs, .ref mde, .int sF, .int sN, .int sS, .int ig, .long xa, .long xb, .ref maa, .ref mab, .ref mba, .ref mbb]))] := hD
        refine lv_tableIn (tgt := 113) hx hb dX12_node_17 (by decide) (by decide) rfl (by decide) ?_
        refine lv_aload_n hx hb dX12_node_113 rfl (lv_at hl 0 rfl) ?_
        refine xget C hP 2 rfl rfl zuX12 0 (by decide) zw5_213 rfl dX12_node_114 ?_
        refine lv_bipush (v := nI 40) hx hb dX12_node_117 (by decide) ?_
        refine lv_iload_n hx hb dX12_node_119 rfl (lv_at hl 1 rfl) ?_
        refine lv_iadd hx hb dX12_node_120 ?_
        refine lv_topi (nm_r (e' := nI (40 + jx)) (nI_add _ _) ?_)
        refine xiald C hP 0 rfl (40 + jx) rfl (by omega) (by decide) dX12_node_121 ?_
        exact xreti C () (Or.inl ⟨jx, h_jx, rfl, (by unfold ndV; rw [if_neg (by decide), if_neg (by decide), if_neg (by decide), if_neg (by decide), if_neg (by decide), if_pos rfl])⟩) (xP_map hP [2, 0, 1] rfl) (hD.sub [2, 0, 1] (by decide) rfl) hS (Nat.le_of_ble_eq_true rfl) (Nat.le_of_ble_eq_true rfl) rfl dX12_node_122
      · -- k9 = 6
        replace hP : va_P D vwCl [(ms, .inl (cs 0, 288, .inl f)), (mas, .inl (cs 0, 8, .inl qq)), (hm, .inr (12, [.ref ms, .ref mkp, .int (nI km), .ref mtr, .int (nI n), .int (nI k), .int (nI al), .int (nI be), .int ea, .int pr, .ref mas, .int nq, .int po, .int (nI en), .ref mso, .ref mon, .ref mot, .ref man, .int (nI 0), .int xd, .ref mst, .ref msm, .ref mtb, .ref mti, .ref mfr, .ref mbn, .ref mbs, .ref mde, .int sF, .int sN, .int sS, .int ig, .long xa, .long xb, .ref maa, .ref mab, .ref mba, .ref mbb]))] H := hP
        replace hD : va_D A [(ms, .inl (cs 0, 288, .inl f)), (mas, .inl (cs 0, 8, .inl qq)), (hm, .inr (12, [.ref ms, .ref mkp, .int (nI km), .ref mtr, .int (nI n), .int (nI k), .int (nI al), .int (nI be), .int ea, .int pr, .ref mas, .int nq, .int po, .int (nI en), .ref mso, .ref mon, .ref mot, .ref man, .int (nI 0), .int xd, .ref mst, .ref msm, .ref mtb, .ref mti, .ref mfr, .ref mbn, .ref mbs, .ref mde, .int sF, .int sN, .int sS, .int ig, .long xa, .long xb, .ref maa, .ref mab, .ref mba, .ref mbb]))] := hD
        refine lv_tableIn (tgt := 123) hx hb dX12_node_17 (by decide) (by decide) rfl (by decide) ?_
        refine lv_aload_n hx hb dX12_node_123 rfl (lv_at hl 0 rfl) ?_
        refine xget C hP 2 rfl rfl zuX12 0 (by decide) zw5_213 rfl dX12_node_124 ?_
        refine lv_bipush (v := nI 48) hx hb dX12_node_127 (by decide) ?_
        refine lv_iload_n hx hb dX12_node_129 rfl (lv_at hl 1 rfl) ?_
        refine lv_iadd hx hb dX12_node_130 ?_
        refine lv_topi (nm_r (e' := nI (48 + jx)) (nI_add _ _) ?_)
        refine xiald C hP 0 rfl (48 + jx) rfl (by omega) (by decide) dX12_node_131 ?_
        exact xreti C () (Or.inl ⟨jx, h_jx, rfl, (by unfold ndV; rw [if_neg (by decide), if_neg (by decide), if_neg (by decide), if_neg (by decide), if_neg (by decide), if_neg (by decide), if_pos rfl])⟩) (xP_map hP [2, 0, 1] rfl) (hD.sub [2, 0, 1] (by decide) rfl) hS (Nat.le_of_ble_eq_true rfl) (Nat.le_of_ble_eq_true rfl) rfl dX12_node_132
      · -- k9 = 7
        replace hP : va_P D vwCl [(ms, .inl (cs 0, 288, .inl f)), (mas, .inl (cs 0, 8, .inl qq)), (hm, .inr (12, [.ref ms, .ref mkp, .int (nI km), .ref mtr, .int (nI n), .int (nI k), .int (nI al), .int (nI be), .int ea, .int pr, .ref mas, .int nq, .int po, .int (nI en), .ref mso, .ref mon, .ref mot, .ref man, .int (nI 0), .int xd, .ref mst, .ref msm, .ref mtb, .ref mti, .ref mfr, .ref mbn, .ref mbs, .ref mde, .int sF, .int sN, .int sS, .int ig, .long xa, .long xb, .ref maa, .ref mab, .ref mba, .ref mbb]))] H := hP
        replace hD : va_D A [(ms, .inl (cs 0, 288, .inl f)), (mas, .inl (cs 0, 8, .inl qq)), (hm, .inr (12, [.ref ms, .ref mkp, .int (nI km), .ref mtr, .int (nI n), .int (nI k), .int (nI al), .int (nI be), .int ea, .int pr, .ref mas, .int nq, .int po, .int (nI en), .ref mso, .ref mon, .ref mot, .ref man, .int (nI 0), .int xd, .ref mst, .ref msm, .ref mtb, .ref mti, .ref mfr, .ref mbn, .ref mbs, .ref mde, .int sF, .int sN, .int sS, .int ig, .long xa, .long xb, .ref maa, .ref mab, .ref mba, .ref mbb]))] := hD
        refine lv_tableIn (tgt := 133) hx hb dX12_node_17 (by decide) (by decide) rfl (by decide) ?_
        refine lv_aload_n hx hb dX12_node_133 rfl (lv_at hl 0 rfl) ?_
        refine xget C hP 2 rfl rfl zuX12 10 (by decide) zw5_223 rfl dX12_node_134 ?_
        refine lv_iload_n hx hb dX12_node_137 rfl (lv_at hl 1 rfl) ?_
        refine xiald C hP 1 rfl jx rfl (by omega) (by decide) dX12_node_138 ?_
        exact xreti C () (Or.inl ⟨jx, h_jx, rfl, (by unfold ndV; rw [if_neg (by decide), if_neg (by decide), if_neg (by decide), if_neg (by decide), if_neg (by decide), if_neg (by decide), if_neg (by decide), if_pos rfl])⟩) (xP_map hP [2, 0, 1] rfl) (hD.sub [2, 0, 1] (by decide) rfl) hS (Nat.le_of_ble_eq_true rfl) (Nat.le_of_ble_eq_true rfl) rfl dX12_node_139
    · -- split
      refine lv_tableOut (tgt := 140) hx hb dX12_node_17 hout (by decide) ?_
      refine lv_bipush (v := (-2)) hx hb dX12_node_140 (by decide) ?_
      exact xreti C () (Or.inl ⟨jx, h_jx, rfl, (ndV_out _ _ _ _ hout).symm⟩) (xP_map hP [2, 0, 1] rfl) (hD.sub [2, 0, 1] (by decide) rfl) hS (Nat.le_of_ble_eq_true rfl) (Nat.le_of_ble_eq_true rfl) rfl dX12_node_142
  · -- 10 f
    have hbad_jx : ¬ okN n x := PQ.no hw_r_1 c_3 (by decide)
    refine lv_bipush (v := (-2)) hx hb dX12_node_13 (by decide) ?_
    exact xreti C () (Or.inr ⟨hbad_jx, rfl⟩) (xP_map hP [2, 0, 1] rfl) (hD.sub [2, 0, 1] (by decide) rfl) hS (Nat.le_of_ble_eq_true rfl) (Nat.le_of_ble_eq_true rfl) rfl dX12_node_15
