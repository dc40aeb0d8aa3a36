set_option maxHeartbeats 4000000 in
set_option maxRecDepth 100000 in
theorem c_X12_yes_f (l : Launch) (D : va_G) (cs : Nat → ClassId) (hm ms mkp mtr mas mso mon mot man mst msm mtb mti mfr mbn mbs mde maa mab mba mbb : Nat) (n k al be km en : Nat) (ea pr nq po th xd sF sN sS ig : Int32) (xa xb : Int64) (f : Nat → Int32) (sof anf : Nat → Int32) (x y b : Int32) (hn : 2 ≤ n ∧ n ≤ 8) (hen : en ≤ 16) (hso : inP 16 8 sof) : xMet l D cs yX12_yes cX12_yes 4 (some .int) ({ frames := 4, cells := 0, slots := 0, locals := 93 } : Room) [.ref hm, .int x, .int y, .int b] [(hm, .inr (12, [.ref ms, .ref mkp, .int (nI km), .ref mtr, .int (nI n), .int (nI k), .int (nI al), .int (nI be), .int ea, .int pr, .ref mas, .int nq, .int po, .int (nI en), .ref mso, .ref mon, .ref mot, .ref man, .int th, .int xd, .ref mst, .ref msm, .ref mtb, .ref mti, .ref mfr, .ref mbn, .ref mbs, .ref mde, .int sF, .int sN, .int sS, .int ig, .long xa, .long xb, .ref maa, .ref mab, .ref mba, .ref mbb])), (ms, .inl (cs 0, 288, .inl f)), (mso, .inl (cs 0, 16, .inl sof)), (man, .inl (cs 0, 16, .inl anf))] (xQi D (fun (r : Int32) (_u : Unit) => (∃ a e c, a < n ∧ e < en ∧ c ≤ 8 ∧ x = nI a ∧ y = nI e ∧ mcpP n k f b a e ∧ r = nI c ∧ yesM en sof anf f a e b n c) ∨ (¬ mcpA n k en f x y b ∧ r = -1)) (fun (_u : Unit) => [(hm, .inr (12, [.ref ms, .ref mkp, .int (nI km), .ref mtr, .int (nI n), .int (nI k), .int (nI al), .int (nI be), .int ea, .int pr, .ref mas, .int nq, .int po, .int (nI en), .ref mso, .ref mon, .ref mot, .ref man, .int (nI 0), .int xd, .ref mst, .ref msm, .ref mtb, .ref mti, .ref mfr, .ref mbn, .ref mbs, .ref mde, .int sF, .int sN, .int sS, .int ig, .long xa, .long xb, .ref maa, .ref mab, .ref mba, .ref mbb])), (ms, .inl (cs 0, 288, .inl f)), (mso, .inl (cs 0, 16, .inl sof)), (man, .inl (cs 0, 16, .inl anf))])) := by
  refine xMet.intro (by decide) (Nat.le_of_ble_eq_true rfl) ?_
  intro p e s m args below meth c A ls C hP hD hS hl
  have hx := C.1
  have hb := C.2.1
  have hz := C.2.2.2.2.1
  have hown := C.2.2.2.1
  have hA := C.2.2.2.2.2.2.2.2.2
  have hAO := C.2.2.2.2.2.2.2.2.1.2.2
  replace hl : lv_has ls 4 [(0, .ref hm), (1, .int x), (2, .int y), (3, .int b)] := hl
  obtain ⟨H, hH⟩ : ∃ H, H = s.heap := ⟨_, rfl⟩
  replace hP : va_P D vwCl [(hm, .inr (12, [.ref ms, .ref mkp, .int (nI km), .ref mtr, .int (nI n), .int (nI k), .int (nI al), .int (nI be), .int ea, .int pr, .ref mas, .int nq, .int po, .int (nI en), .ref mso, .ref mon, .ref mot, .ref man, .int th, .int xd, .ref mst, .ref msm, .ref mtb, .ref mti, .ref mfr, .ref mbn, .ref mbs, .ref mde, .int sF, .int sN, .int sS, .int ig, .long xa, .long xb, .ref maa, .ref mab, .ref mba, .ref mbb])), (ms, .inl (cs 0, 288, .inl f)), (mso, .inl (cs 0, 16, .inl sof)), (man, .inl (cs 0, 16, .inl anf))] H := by rw [hH]; exact hP
  replace hS : va_S A s.heap H [] := by rw [hH]; exact hS
  obtain ⟨locs, hlocs⟩ : ∃ z : List Loc, z = [] := ⟨_, rfl⟩
  rw [← hlocs] at hS
  suffices hW : W p l e ({ frames := 4, cells := 0, slots := 0, locals := 93 } : Room) s m args below meth c H locs 0 0 (MQ below ((xQi D (fun (r : Int32) (_u : Unit) => (∃ a e c, a < n ∧ e < en ∧ c ≤ 8 ∧ x = nI a ∧ y = nI e ∧ mcpP n k f b a e ∧ r = nI c ∧ yesM en sof anf f a e b n c) ∨ (¬ mcpA n k en f x y b ∧ r = -1)) (fun (_u : Unit) => [(hm, .inr (12, [.ref ms, .ref mkp, .int (nI km), .ref mtr, .int (nI n), .int (nI k), .int (nI al), .int (nI be), .int ea, .int pr, .ref mas, .int nq, .int po, .int (nI en), .ref mso, .ref mon, .ref mot, .ref man, .int (nI 0), .int xd, .ref mst, .ref msm, .ref mtb, .ref mti, .ref mfr, .ref mbn, .ref mbs, .ref mde, .int sF, .int sN, .int sS, .int ig, .long xa, .long xb, .ref maa, .ref mab, .ref mba, .ref mbb])), (ms, .inl (cs 0, 288, .inl f)), (mso, .inl (cs 0, 16, .inl sof)), (man, .inl (cs 0, 16, .inl anf))])) A) args s 0 0 A) (F0 m 0 ls []) by rw [hlocs, hH] at hW; exact hW
  clear hH hlocs
  refine lv_aload_n hx hb dX12_yes_0 rfl (lv_at hl 0 rfl) ?_
  refine lv_iconst (v := nI 0) hx hb dX12_yes_1 (by decide) ?_
  refine xput C hP hD hS 0 rfl rfl zuX12 tyX12 tyX12_ok nmX12 18 (by decide) zw5_231 rfl rfl rfl (Nat.le_of_ble_eq_true rfl) dX12_yes_2 ?_
  clear hP hD hS
  try clear locs
  try clear H
  intro H locs hP hD hS
  replace hP : va_P D vwCl [(hm, .inr (12, [.ref ms, .ref mkp, .int (nI km), .ref mtr, .int (nI n), .int (nI k), .int (nI al), .int (nI be), .int ea, .int pr, .ref mas, .int nq, .int po, .int (nI en), .ref mso, .ref mon, .ref mot, .ref man, .int (nI 0), .int xd, .ref mst, .ref msm, .ref mtb, .ref mti, .ref mfr, .ref mbn, .ref mbs, .ref mde, .int sF, .int sN, .int sS, .int ig, .long xa, .long xb, .ref maa, .ref mab, .ref mba, .ref mbb])), (ms, .inl (cs 0, 288, .inl f)), (mso, .inl (cs 0, 16, .inl sof)), (man, .inl (cs 0, 16, .inl anf))] H := hP
  replace hD : va_D A [(hm, .inr (12, [.ref ms, .ref mkp, .int (nI km), .ref mtr, .int (nI n), .int (nI k), .int (nI al), .int (nI be), .int ea, .int pr, .ref mas, .int nq, .int po, .int (nI en), .ref mso, .ref mon, .ref mot, .ref man, .int (nI 0), .int xd, .ref mst, .ref msm, .ref mtb, .ref mti, .ref mfr, .ref mbn, .ref mbs, .ref mde, .int sF, .int sN, .int sS, .int ig, .long xa, .long xb, .ref maa, .ref mab, .ref mba, .ref mbb])), (ms, .inl (cs 0, 288, .inl f)), (mso, .inl (cs 0, 16, .inl sof)), (man, .inl (cs 0, 16, .inl anf))] := hD
  refine lv_aload_n hx hb dX12_yes_5 rfl (lv_at hl 0 rfl) ?_
  refine lv_iload_n hx hb dX12_yes_6 rfl (lv_at hl 1 rfl) ?_
  refine lv_iload_n hx hb dX12_yes_7 rfl (lv_at hl 2 rfl) ?_
  refine lv_iload_n hx hb dX12_yes_8 rfl (lv_at hl 3 rfl) ?_
  refine xi (wr := [(mso, .inl (cs 0, 16, .inl sof)), (man, .inl (cs 0, 16, .inl anf))]) (xV (As := [.int x, .int y, .int b]) (rest := []) C (c_X12_canPoll_f l D cs hm ms mkp mtr mas mso mon mot man mst msm mtb mti mfr mbn mbs mde maa mab mba mbb n k al be km en ea pr nq po (nI 0) xd sF sN sS ig xa xb f x y b hn hen) kX12_345 hP hD [0, 1] rfl (by decide) 0 rfl rfl rfl ⟨Nat.le_of_ble_eq_true rfl, Nat.le_of_ble_eq_true rfl⟩ rfl hl.1 rfl (Nat.le_of_ble_eq_true rfl) dX12_yes_9 ⟨Nat.le_of_ble_eq_true rfl, Nat.le_of_ble_eq_true rfl⟩) hP hD hS hA [0, 1] [2, 3] rfl rfl (by decide) (by decide) ?_
  clear hP hD hS
  try clear locs
  try clear H
  intro r_1 u_2 H locs hw_r_1 hP hD hS
  have hw_r_1 : (∃ a e, a < n ∧ e < en ∧ x = nI a ∧ y = nI e ∧ mcpP n k f b a e ∧ r_1 = nI 1) ∨ (¬ mcpA n k en f x y b ∧ r_1 = nI 0) := hw_r_1
  refine W.widen (k := 0) (n := 0) (Nat.le_of_ble_eq_true rfl) (Nat.le_of_ble_eq_true rfl) ?_
  replace hP : va_P D vwCl [(mso, .inl (cs 0, 16, .inl sof)), (man, .inl (cs 0, 16, .inl anf)), (hm, .inr (12, [.ref ms, .ref mkp, .int (nI km), .ref mtr, .int (nI n), .int (nI k), .int (nI al), .int (nI be), .int ea, .int pr, .ref mas, .int nq, .int po, .int (nI en), .ref mso, .ref mon, .ref mot, .ref man, .int (nI 0), .int xd, .ref mst, .ref msm, .ref mtb, .ref mti, .ref mfr, .ref mbn, .ref mbs, .ref mde, .int sF, .int sN, .int sS, .int ig, .long xa, .long xb, .ref maa, .ref mab, .ref mba, .ref mbb])), (ms, .inl (cs 0, 288, .inl f))] H := hP
  replace hD : va_D A [(mso, .inl (cs 0, 16, .inl sof)), (man, .inl (cs 0, 16, .inl anf)), (hm, .inr (12, [.ref ms, .ref mkp, .int (nI km), .ref mtr, .int (nI n), .int (nI k), .int (nI al), .int (nI be), .int ea, .int pr, .ref mas, .int nq, .int po, .int (nI en), .ref mso, .ref mon, .ref mot, .ref man, .int (nI 0), .int xd, .ref mst, .ref msm, .ref mtb, .ref mti, .ref mfr, .ref mbn, .ref mbs, .ref mde, .int sF, .int sN, .int sS, .int ig, .long xa, .long xb, .ref maa, .ref mab, .ref mba, .ref mbb])), (ms, .inl (cs 0, 288, .inl f))] := hD
  refine lv_if_eq (tgt := 25) hx hb dX12_yes_12 (by decide) (fun c_3 => ?_) (fun c_3 => ?_)
  · -- 12 t
    have hncp : ¬ mcpA n k en f x y b := by
      rcases hw_r_1 with ⟨a, e, h1, h2, h3, h4, h5, h6⟩ | ⟨h6, _⟩
      · exact absurd (h6.symm.trans c_3) (by decide)
      · exact h6
    refine lv_iconst (v := (-1)) hx hb dX12_yes_25 (by decide) ?_
    exact xreti C () (Or.inr ⟨hncp, rfl⟩) (xP_map hP [2, 3, 0, 1] rfl) (hD.sub [2, 3, 0, 1] (by decide) rfl) hS (Nat.le_of_ble_eq_true rfl) (Nat.le_of_ble_eq_true rfl) rfl dX12_yes_26
  · -- 12 f
    obtain ⟨jx, jy, h_jx, h_jy, rfl, rfl, hcp⟩ : ∃ a e, a < n ∧ e < en ∧ x = nI a ∧ y = nI e ∧ mcpP n k f b a e := by
      rcases hw_r_1 with ⟨a, e, h1, h2, h3, h4, h5, h6⟩ | ⟨_, h6⟩
      · exact ⟨a, e, h1, h2, h3, h4, h5⟩
      · exact absurd h6 c_3
    replace hP : va_P D vwCl [(mso, .inl (cs 0, 16, .inl sof)), (man, .inl (cs 0, 16, .inl anf)), (hm, .inr (12, [.ref ms, .ref mkp, .int (nI km), .ref mtr, .int (nI n), .int (nI k), .int (nI al), .int (nI be), .int ea, .int pr, .ref mas, .int nq, .int po, .int (nI en), .ref mso, .ref mon, .ref mot, .ref man, .int (nI 0), .int xd, .ref mst, .ref msm, .ref mtb, .ref mti, .ref mfr, .ref mbn, .ref mbs, .ref mde, .int sF, .int sN, .int sS, .int ig, .long xa, .long xb, .ref maa, .ref mab, .ref mba, .ref mbb])), (ms, .inl (cs 0, 288, .inl f))] H := hP
    replace hD : va_D A [(mso, .inl (cs 0, 16, .inl sof)), (man, .inl (cs 0, 16, .inl anf)), (hm, .inr (12, [.ref ms, .ref mkp, .int (nI km), .ref mtr, .int (nI n), .int (nI k), .int (nI al), .int (nI be), .int ea, .int pr, .ref mas, .int nq, .int po, .int (nI en), .ref mso, .ref mon, .ref mot, .ref man, .int (nI 0), .int xd, .ref mst, .ref msm, .ref mtb, .ref mti, .ref mfr, .ref mbn, .ref mbs, .ref mde, .int sF, .int sN, .int sS, .int ig, .long xa, .long xb, .ref maa, .ref mab, .ref mba, .ref mbb])), (ms, .inl (cs 0, 288, .inl f))] := hD
    refine lv_aload_n hx hb dX12_yes_15 rfl (lv_at hl 0 rfl) ?_
    refine lv_iload_n hx hb dX12_yes_16 rfl (lv_at hl 1 rfl) ?_
    refine lv_iload_n hx hb dX12_yes_17 rfl (lv_at hl 2 rfl) ?_
    refine lv_iload_n hx hb dX12_yes_18 rfl (lv_at hl 3 rfl) ?_
    refine xi (wr := []) (xV (As := [.int (nI jx), .int (nI jy), .int b]) (rest := []) C (c_X12_yesOf_f l D cs hm ms mkp mtr mas mso mon mot man mst msm mtb mti mfr mbn mbs mde maa mab mba mbb n k al be km en ea pr nq po (nI 0) xd sF sN sS ig xa xb f jx jy b sof anf hn hen hso (by omega) (by omega)) kX12_325 hP hD [2, 3, 0, 1] rfl (by decide) 0 rfl rfl rfl ⟨Nat.le_of_ble_eq_true rfl, Nat.le_of_ble_eq_true rfl⟩ rfl hl.1 rfl (Nat.le_of_ble_eq_true rfl) dX12_yes_19 ⟨Nat.le_of_ble_eq_true rfl, Nat.le_of_ble_eq_true rfl⟩) hP hD hS hA [2, 3, 0, 1] [] rfl rfl (by decide) (by decide) ?_
    clear hP hD hS
    try clear locs
    try clear H
    intro r_4 u_5 H locs hw_r_4 hP hD hS
    have hw_r_4 : ∃ c, c ≤ 8 ∧ r_4 = nI c ∧ yesM en sof anf f jx jy b n c := hw_r_4
    refine W.widen (k := 0) (n := 0) (Nat.le_of_ble_eq_true rfl) (Nat.le_of_ble_eq_true rfl) ?_
    replace hP : va_P D vwCl [(hm, .inr (12, [.ref ms, .ref mkp, .int (nI km), .ref mtr, .int (nI n), .int (nI k), .int (nI al), .int (nI be), .int ea, .int pr, .ref mas, .int nq, .int po, .int (nI en), .ref mso, .ref mon, .ref mot, .ref man, .int (nI 0), .int xd, .ref mst, .ref msm, .ref mtb, .ref mti, .ref mfr, .ref mbn, .ref mbs, .ref mde, .int sF, .int sN, .int sS, .int ig, .long xa, .long xb, .ref maa, .ref mab, .ref mba, .ref mbb])), (ms, .inl (cs 0, 288, .inl f)), (mso, .inl (cs 0, 16, .inl sof)), (man, .inl (cs 0, 16, .inl anf))] H := hP
    replace hD : va_D A [(hm, .inr (12, [.ref ms, .ref mkp, .int (nI km), .ref mtr, .int (nI n), .int (nI k), .int (nI al), .int (nI be), .int ea, .int pr, .ref mas, .int nq, .int po, .int (nI en), .ref mso, .ref mon, .ref mot, .ref man, .int (nI 0), .int xd, .ref mst, .ref msm, .ref mtb, .ref mti, .ref mfr, .ref mbn, .ref mbs, .ref mde, .int sF, .int sN, .int sS, .int ig, .long xa, .long xb, .ref maa, .ref mab, .ref mba, .ref mbb])), (ms, .inl (cs 0, 288, .inl f)), (mso, .inl (cs 0, 16, .inl sof)), (man, .inl (cs 0, 16, .inl anf))] := hD
    refine lv_goto (tgt := 26) hx hb dX12_yes_22 (by decide) ?_
    exact xreti C () (by obtain ⟨c9, h1, h2, h3⟩ := hw_r_4; exact Or.inl ⟨jx, jy, c9, h_jx, h_jy, h1, rfl, rfl, hcp, h2, h3⟩) hP hD hS (Nat.le_of_ble_eq_true rfl) (Nat.le_of_ble_eq_true rfl) rfl dX12_yes_26

theorem hldM.col {n al be en a e : Nat} {ea x r : Int32} {sof onf otf anf f g : Nat → Int32} (hs : colP f) (ha : a < 8) (hso : inP 16 8 sof) (hen : en ≤ 16) (h : hldM n al be en ea sof onf otf anf a e x r f g) : colP g := by
  obtain ⟨c, b, m, h', _, _, hmm, hac, _⟩ := h
  intro j hj
  have hv : ¬ vCell a j := by unfold vCell; omega
  rw [acs_frame ha en g b hac j (by omega) hv]
  rcases hmm with ⟨_, rfl, q⟩ | ⟨_, rfl, q⟩
  · rw [mks_frame ha hso hen en (Nat.le_refl _) m q j (by omega) hv, upN _ _ (by omega)]; exact hs j hj
  · rw [mks_frame ha hso hen en (Nat.le_refl _) m q j (by omega) hv, upN _ _ (by omega), upN _ _ (by omega)]; exact hs j hj
theorem prfM.mks {en v : Nat} {th x : Int32} {sof anf f : Nat → Int32} (h : prfM en sof v f) (hv : v < 8) (hso : inP 16 8 sof) (hen : en ≤ 16) : ∀ o, o ≤ en → ∀ g, mksM en sof anf v th x o f g → prfM en sof v g := by
  intro o
  induction o with
  | zero => intro _ g e; replace e : g = f := e; rw [e]; exact h
  | succ o ih =>
    rintro ho g ⟨m, h1, h2⟩
    have hm := ih (by omega) m h1
    rcases h2 with ⟨_, h2⟩ | ⟨_, rfl⟩
    · exact mrkM.prf hm (by omega) hv hso hen h2
    · exact hm
theorem hldM.prf {n al be en a e : Nat} {ea x r : Int32} {sof onf otf anf f g : Nat → Int32} (hp : ∀ v, v < 8 → prfM en sof v f) (ha : a < 8) (hso : inP 16 8 sof) (hen : en ≤ 16) (h : hldM n al be en ea sof onf otf anf a e x r f g) : ∀ v, v < 8 → prfM en sof v g := by
  obtain ⟨c, b, m, h', _, _, hmm, hac, _⟩ := h
  intro v hv
  by_cases q : v = a
  · subst q
    have hm : prfM en sof v m := by
      rcases hmm with ⟨_, rfl, z⟩ | ⟨_, rfl, z⟩
      · exact ((hp v hv).of (fun i hi => upN _ _ (by omega)) hso hen).mks hv hso hen en (Nat.le_refl _) m z
      · exact ((hp v hv).of (fun i hi => (upN _ _ (by omega)).trans (upN _ _ (by omega))) hso hen).mks hv hso hen en (Nat.le_refl _) m z
    refine hm.of (fun i hi => ?_) hso hen
    have : ∀ o g b, acsM en be ea sof onf otf v (anf e ||| bitI e) o m g b → ∀ i, i < 8 → g (96 + (8 * v + i)) = m (96 + (8 * v + i)) := by
      intro o
      induction o with
      | zero => rintro g b ⟨e, _⟩ i _; rw [e]
      | succ o ih =>
        rintro g b ⟨m', c', h1, h2⟩ i hi
        have e := ih m' c' h1 i hi
        rcases h2 with ⟨_, q2, _⟩ | ⟨_, rfl, _⟩
        · rw [q2.1 _ (by omega), upN _ _ (by omega)]; exact e
        · exact e
    exact this en g b hac i hi
  · refine (hp v hv).of (fun i hi => ?_) hso hen
    have hvc : ¬ vCell a (96 + (8 * v + i)) := by unfold vCell; omega
    rw [acs_frame ha en g b hac _ (by omega) hvc]
    rcases hmm with ⟨_, rfl, z⟩ | ⟨_, rfl, z⟩
    · rw [mks_frame ha hso hen en (Nat.le_refl _) m z _ (by omega) hvc, upN _ _ (by omega)]
    · rw [mks_frame ha hso hen en (Nat.le_refl _) m z _ (by omega) hvc, upN _ _ (by omega), upN _ _ (by omega)]

set_option maxHeartbeats 4000000 in
set_option maxRecDepth 100000 in
theorem c_X12_poll_b (l : Launch) (D : va_G) (cs : Nat → ClassId) (hm ms mkp mtr mas mso mon mot man mst msm mtb mti mfr mbn mbs mde maa mab mba mbb : Nat) (n k al be km en : Nat) (ea pr nq po th xd sF sN sS ig : Int32) (xa xb : Int64) (f : Nat → Int32) (g : Nat → Int32) (sof onf otf anf : Nat → Int32) (x y b : Int32) (hn : 2 ≤ n ∧ n ≤ 8) (hen : en ≤ 16) (hso : inP 16 8 sof) (hs : colP f) (hk : keptP g) (hkm : km ≤ 8) (hon : parF en onf) (hot : parF en otf) (hprf : ∀ a, a < 8 → prfM en sof a f) (hal : al ≤ 8) : xMet l D cs yX12_poll cX12_poll 4 (some .int) ({ frames := 5, cells := 0, slots := 0, locals := 120 } : Room) [.ref hm, .int x, .int y, .int b] [(hm, .inr (12, [.ref ms, .ref mkp, .int (nI km), .ref mtr, .int (nI n), .int (nI k), .int (nI al), .int (nI be), .int ea, .int pr, .ref mas, .int nq, .int po, .int (nI en), .ref mso, .ref mon, .ref mot, .ref man, .int th, .int xd, .ref mst, .ref msm, .ref mtb, .ref mti, .ref mfr, .ref mbn, .ref mbs, .ref mde, .int sF, .int sN, .int sS, .int ig, .long xa, .long xb, .ref maa, .ref mab, .ref mba, .ref mbb])), (ms, .inl (cs 0, 288, .inl f)), (mkp, .inl (cs 0, 2304, .inl g)), (mso, .inl (cs 0, 16, .inl sof)), (mon, .inl (cs 0, 16, .inl onf)), (mot, .inl (cs 0, 16, .inl otf)), (man, .inl (cs 0, 16, .inl anf))] (xQi D (fun (r : Int32) (u : Nat × (Nat → Int32) × (Nat → Int32) × Int32) => match u with | (kmz, fz, gz, poz) => (colP fz ∧ keptP gz ∧ kmz ≤ 8) ∧ ((∃ a e, a < n ∧ e < en ∧ x = nI a ∧ y = nI e ∧ mcpP n k f b a e ∧ hldM n al be en ea sof onf otf anf a e b r f fz ∧ poz = po + nI 1 ∧ kpdP km f g kmz gz) ∨ (¬ mcpA n k en f x y b ∧ r = -1 ∧ (fz = f ∧ gz = g ∧ kmz = km) ∧ poz = po))) (fun (u : Nat × (Nat → Int32) × (Nat → Int32) × Int32) => match u with | (kmz, fz, gz, poz) => [(hm, .inr (12, [.ref ms, .ref mkp, .int (nI kmz), .ref mtr, .int (nI n), .int (nI k), .int (nI al), .int (nI be), .int ea, .int pr, .ref mas, .int nq, .int poz, .int (nI en), .ref mso, .ref mon, .ref mot, .ref man, .int (nI 0), .int xd, .ref mst, .ref msm, .ref mtb, .ref mti, .ref mfr, .ref mbn, .ref mbs, .ref mde, .int sF, .int sN, .int sS, .int ig, .long xa, .long xb, .ref maa, .ref mab, .ref mba, .ref mbb])), (ms, .inl (cs 0, 288, .inl fz)), (mkp, .inl (cs 0, 2304, .inl gz)), (mso, .inl (cs 0, 16, .inl sof)), (mon, .inl (cs 0, 16, .inl onf)), (mot, .inl (cs 0, 16, .inl otf)), (man, .inl (cs 0, 16, .inl anf))])) := by
  refine xMet.intro (by decide) (Nat.le_of_ble_eq_true rfl) ?_
  intro p e s m args below meth c A ls C hP hD hS hl
  have hx := C.1
  have hb := C.2.1
  have hz := C.2.2.2.2.1
  have hown := C.2.2.2.1
  have hA := C.2.2.2.2.2.2.2.2.2
  have hAO := C.2.2.2.2.2.2.2.2.1.2.2
  replace hl : lv_has ls 4 [(0, .ref hm), (1, .int x), (2, .int y), (3, .int b)] := hl
  obtain ⟨H, hH⟩ : ∃ H, H = s.heap := ⟨_, rfl⟩
  replace hP : va_P D vwCl [(hm, .inr (12, [.ref ms, .ref mkp, .int (nI km), .ref mtr, .int (nI n), .int (nI k), .int (nI al), .int (nI be), .int ea, .int pr, .ref mas, .int nq, .int po, .int (nI en), .ref mso, .ref mon, .ref mot, .ref man, .int th, .int xd, .ref mst, .ref msm, .ref mtb, .ref mti, .ref mfr, .ref mbn, .ref mbs, .ref mde, .int sF, .int sN, .int sS, .int ig, .long xa, .long xb, .ref maa, .ref mab, .ref mba, .ref mbb])), (ms, .inl (cs 0, 288, .inl f)), (mkp, .inl (cs 0, 2304, .inl g)), (mso, .inl (cs 0, 16, .inl sof)), (mon, .inl (cs 0, 16, .inl onf)), (mot, .inl (cs 0, 16, .inl otf)), (man, .inl (cs 0, 16, .inl anf))] H := by rw [hH]; exact hP
  replace hS : va_S A s.heap H [] := by rw [hH]; exact hS
  obtain ⟨locs, hlocs⟩ : ∃ z : List Loc, z = [] := ⟨_, rfl⟩
  rw [← hlocs] at hS
  suffices hW : W p l e ({ frames := 5, cells := 0, slots := 0, locals := 120 } : Room) s m args below meth c H locs 0 0 (MQ below ((xQi D (fun (r : Int32) (u : Nat × (Nat → Int32) × (Nat → Int32) × Int32) => match u with | (kmz, fz, gz, poz) => (colP fz ∧ keptP gz ∧ kmz ≤ 8) ∧ ((∃ a e, a < n ∧ e < en ∧ x = nI a ∧ y = nI e ∧ mcpP n k f b a e ∧ hldM n al be en ea sof onf otf anf a e b r f fz ∧ poz = po + nI 1 ∧ kpdP km f g kmz gz) ∨ (¬ mcpA n k en f x y b ∧ r = -1 ∧ (fz = f ∧ gz = g ∧ kmz = km) ∧ poz = po))) (fun (u : Nat × (Nat → Int32) × (Nat → Int32) × Int32) => match u with | (kmz, fz, gz, poz) => [(hm, .inr (12, [.ref ms, .ref mkp, .int (nI kmz), .ref mtr, .int (nI n), .int (nI k), .int (nI al), .int (nI be), .int ea, .int pr, .ref mas, .int nq, .int poz, .int (nI en), .ref mso, .ref mon, .ref mot, .ref man, .int (nI 0), .int xd, .ref mst, .ref msm, .ref mtb, .ref mti, .ref mfr, .ref mbn, .ref mbs, .ref mde, .int sF, .int sN, .int sS, .int ig, .long xa, .long xb, .ref maa, .ref mab, .ref mba, .ref mbb])), (ms, .inl (cs 0, 288, .inl fz)), (mkp, .inl (cs 0, 2304, .inl gz)), (mso, .inl (cs 0, 16, .inl sof)), (mon, .inl (cs 0, 16, .inl onf)), (mot, .inl (cs 0, 16, .inl otf)), (man, .inl (cs 0, 16, .inl anf))])) A) args s 0 0 A) (F0 m 0 ls []) by rw [hlocs, hH] at hW; exact hW
  clear hH hlocs
  refine lv_aload_n hx hb dX12_poll_0 rfl (lv_at hl 0 rfl) ?_
  refine lv_iconst (v := nI 0) hx hb dX12_poll_1 (by decide) ?_
  refine xput C hP hD hS 0 rfl rfl zuX12 tyX12 tyX12_ok nmX12 18 (by decide) zw5_231 rfl rfl rfl (Nat.le_of_ble_eq_true rfl) dX12_poll_2 ?_
  clear hP hD hS
  try clear locs
  try clear H
  intro H locs hP hD hS
  replace hP : va_P D vwCl [(hm, .inr (12, [.ref ms, .ref mkp, .int (nI km), .ref mtr, .int (nI n), .int (nI k), .int (nI al), .int (nI be), .int ea, .int pr, .ref mas, .int nq, .int po, .int (nI en), .ref mso, .ref mon, .ref mot, .ref man, .int (nI 0), .int xd, .ref mst, .ref msm, .ref mtb, .ref mti, .ref mfr, .ref mbn, .ref mbs, .ref mde, .int sF, .int sN, .int sS, .int ig, .long xa, .long xb, .ref maa, .ref mab, .ref mba, .ref mbb])), (ms, .inl (cs 0, 288, .inl f)), (mkp, .inl (cs 0, 2304, .inl g)), (mso, .inl (cs 0, 16, .inl sof)), (mon, .inl (cs 0, 16, .inl onf)), (mot, .inl (cs 0, 16, .inl otf)), (man, .inl (cs 0, 16, .inl anf))] H := hP
  replace hD : va_D A [(hm, .inr (12, [.ref ms, .ref mkp, .int (nI km), .ref mtr, .int (nI n), .int (nI k), .int (nI al), .int (nI be), .int ea, .int pr, .ref mas, .int nq, .int po, .int (nI en), .ref mso, .ref mon, .ref mot, .ref man, .int (nI 0), .int xd, .ref mst, .ref msm, .ref mtb, .ref mti, .ref mfr, .ref mbn, .ref mbs, .ref mde, .int sF, .int sN, .int sS, .int ig, .long xa, .long xb, .ref maa, .ref mab, .ref mba, .ref mbb])), (ms, .inl (cs 0, 288, .inl f)), (mkp, .inl (cs 0, 2304, .inl g)), (mso, .inl (cs 0, 16, .inl sof)), (mon, .inl (cs 0, 16, .inl onf)), (mot, .inl (cs 0, 16, .inl otf)), (man, .inl (cs 0, 16, .inl anf))] := hD
  refine lv_aload_n hx hb dX12_poll_5 rfl (lv_at hl 0 rfl) ?_
  refine lv_iload_n hx hb dX12_poll_6 rfl (lv_at hl 1 rfl) ?_
  refine lv_iload_n hx hb dX12_poll_7 rfl (lv_at hl 2 rfl) ?_
  refine lv_iload_n hx hb dX12_poll_8 rfl (lv_at hl 3 rfl) ?_
  refine xi (wr := [(mkp, .inl (cs 0, 2304, .inl g)), (mso, .inl (cs 0, 16, .inl sof)), (mon, .inl (cs 0, 16, .inl onf)), (mot, .inl (cs 0, 16, .inl otf)), (man, .inl (cs 0, 16, .inl anf))]) (xV (As := [.int x, .int y, .int b]) (rest := []) C (c_X12_canPoll_f l D cs hm ms mkp mtr mas mso mon mot man mst msm mtb mti mfr mbn mbs mde maa mab mba mbb n k al be km en ea pr nq po (nI 0) xd sF sN sS ig xa xb f x y b hn hen) kX12_345 hP hD [0, 1] rfl (by decide) 0 rfl rfl rfl ⟨Nat.le_of_ble_eq_true rfl, Nat.le_of_ble_eq_true rfl⟩ rfl hl.1 rfl (Nat.le_of_ble_eq_true rfl) dX12_poll_9 ⟨Nat.le_of_ble_eq_true rfl, Nat.le_of_ble_eq_true rfl⟩) hP hD hS hA [0, 1] [2, 3, 4, 5, 6] rfl rfl (by decide) (by decide) ?_
  clear hP hD hS
  try clear locs
  try clear H
  intro r_1 u_2 H locs hw_r_1 hP hD hS
  have hw_r_1 : (∃ a e, a < n ∧ e < en ∧ x = nI a ∧ y = nI e ∧ mcpP n k f b a e ∧ r_1 = nI 1) ∨ (¬ mcpA n k en f x y b ∧ r_1 = nI 0) := hw_r_1
  refine W.widen (k := 0) (n := 0) (Nat.le_of_ble_eq_true rfl) (Nat.le_of_ble_eq_true rfl) ?_
  replace hP : va_P D vwCl [(mkp, .inl (cs 0, 2304, .inl g)), (mso, .inl (cs 0, 16, .inl sof)), (mon, .inl (cs 0, 16, .inl onf)), (mot, .inl (cs 0, 16, .inl otf)), (man, .inl (cs 0, 16, .inl anf)), (hm, .inr (12, [.ref ms, .ref mkp, .int (nI km), .ref mtr, .int (nI n), .int (nI k), .int (nI al), .int (nI be), .int ea, .int pr, .ref mas, .int nq, .int po, .int (nI en), .ref mso, .ref mon, .ref mot, .ref man, .int (nI 0), .int xd, .ref mst, .ref msm, .ref mtb, .ref mti, .ref mfr, .ref mbn, .ref mbs, .ref mde, .int sF, .int sN, .int sS, .int ig, .long xa, .long xb, .ref maa, .ref mab, .ref mba, .ref mbb])), (ms, .inl (cs 0, 288, .inl f))] H := hP
  replace hD : va_D A [(mkp, .inl (cs 0, 2304, .inl g)), (mso, .inl (cs 0, 16, .inl sof)), (mon, .inl (cs 0, 16, .inl onf)), (mot, .inl (cs 0, 16, .inl otf)), (man, .inl (cs 0, 16, .inl anf)), (hm, .inr (12, [.ref ms, .ref mkp, .int (nI km), .ref mtr, .int (nI n), .int (nI k), .int (nI al), .int (nI be), .int ea, .int pr, .ref mas, .int nq, .int po, .int (nI en), .ref mso, .ref mon, .ref mot, .ref man, .int (nI 0), .int xd, .ref mst, .ref msm, .ref mtb, .ref mti, .ref mfr, .ref mbn, .ref mbs, .ref mde, .int sF, .int sN, .int sS, .int ig, .long xa, .long xb, .ref maa, .ref mab, .ref mba, .ref mbb])), (ms, .inl (cs 0, 288, .inl f))] := hD
  refine lv_if_ne (tgt := 17) hx hb dX12_poll_12 (by decide) (fun c_3 => ?_) (fun c_3 => ?_)
  · -- 12 t
    obtain ⟨jx, jy, h_jx, h_jy, rfl, rfl, hcp⟩ : ∃ a e, a < n ∧ e < en ∧ x = nI a ∧ y = nI e ∧ mcpP n k f b a e := by
      rcases hw_r_1 with ⟨a, e, h1, h2, h3, h4, h5, h6⟩ | ⟨_, h6⟩
      · exact ⟨a, e, h1, h2, h3, h4, h5⟩
      · exact absurd h6 c_3
    replace hP : va_P D vwCl [(mkp, .inl (cs 0, 2304, .inl g)), (mso, .inl (cs 0, 16, .inl sof)), (mon, .inl (cs 0, 16, .inl onf)), (mot, .inl (cs 0, 16, .inl otf)), (man, .inl (cs 0, 16, .inl anf)), (hm, .inr (12, [.ref ms, .ref mkp, .int (nI km), .ref mtr, .int (nI n), .int (nI k), .int (nI al), .int (nI be), .int ea, .int pr, .ref mas, .int nq, .int po, .int (nI en), .ref mso, .ref mon, .ref mot, .ref man, .int (nI 0), .int xd, .ref mst, .ref msm, .ref mtb, .ref mti, .ref mfr, .ref mbn, .ref mbs, .ref mde, .int sF, .int sN, .int sS, .int ig, .long xa, .long xb, .ref maa, .ref mab, .ref mba, .ref mbb])), (ms, .inl (cs 0, 288, .inl f))] H := hP
    replace hD : va_D A [(mkp, .inl (cs 0, 2304, .inl g)), (mso, .inl (cs 0, 16, .inl sof)), (mon, .inl (cs 0, 16, .inl onf)), (mot, .inl (cs 0, 16, .inl otf)), (man, .inl (cs 0, 16, .inl anf)), (hm, .inr (12, [.ref ms, .ref mkp, .int (nI km), .ref mtr, .int (nI n), .int (nI k), .int (nI al), .int (nI be), .int ea, .int pr, .ref mas, .int nq, .int po, .int (nI en), .ref mso, .ref mon, .ref mot, .ref man, .int (nI 0), .int xd, .ref mst, .ref msm, .ref mtb, .ref mti, .ref mfr, .ref mbn, .ref mbs, .ref mde, .int sF, .int sN, .int sS, .int ig, .long xa, .long xb, .ref maa, .ref mab, .ref mba, .ref mbb])), (ms, .inl (cs 0, 288, .inl f))] := hD
    refine lv_aload_n hx hb dX12_poll_17 rfl (lv_at hl 0 rfl) ?_
    refine xv (wr := [(mso, .inl (cs 0, 16, .inl sof)), (mon, .inl (cs 0, 16, .inl onf)), (mot, .inl (cs 0, 16, .inl otf)), (man, .inl (cs 0, 16, .inl anf))]) (xV (As := []) (rest := []) C (c_X12_keeps_f l D cs hm ms mkp mtr mas mso mon mot man mst msm mtb mti mfr mbn mbs mde maa mab mba mbb n k al be km en ea pr nq po (nI 0) xd sF sN sS ig xa xb f g hs hk hkm) kX12_124 hP hD [5, 6, 0] rfl (by decide) 0 rfl rfl rfl ⟨Nat.le_of_ble_eq_true rfl, Nat.le_of_ble_eq_true rfl⟩ rfl hl.1 rfl (Nat.le_of_ble_eq_true rfl) dX12_poll_18 ⟨Nat.le_of_ble_eq_true rfl, Nat.le_of_ble_eq_true rfl⟩) hP hD hS hA [5, 6, 0] [1, 2, 3, 4] rfl rfl (by decide) (by decide) ?_
    clear hP hD hS
    try clear locs
    try clear H
    intro u_5 H locs hw_r_4 hP hD hS
    obtain ⟨kmz_6, gz_7⟩ := u_5
    have hw_r_4 : (keptP gz_7 ∧ kmz_6 ≤ 8) ∧ kpdP km f g kmz_6 gz_7 := hw_r_4
    refine W.widen (k := 0) (n := 0) (Nat.le_of_ble_eq_true rfl) (Nat.le_of_ble_eq_true rfl) ?_
    replace hP : va_P D vwCl [(mso, .inl (cs 0, 16, .inl sof)), (mon, .inl (cs 0, 16, .inl onf)), (mot, .inl (cs 0, 16, .inl otf)), (man, .inl (cs 0, 16, .inl anf)), (hm, .inr (12, [.ref ms, .ref mkp, .int (nI kmz_6), .ref mtr, .int (nI n), .int (nI k), .int (nI al), .int (nI be), .int ea, .int pr, .ref mas, .int nq, .int po, .int (nI en), .ref mso, .ref mon, .ref mot, .ref man, .int (nI 0), .int xd, .ref mst, .ref msm, .ref mtb, .ref mti, .ref mfr, .ref mbn, .ref mbs, .ref mde, .int sF, .int sN, .int sS, .int ig, .long xa, .long xb, .ref maa, .ref mab, .ref mba, .ref mbb])), (ms, .inl (cs 0, 288, .inl f)), (mkp, .inl (cs 0, 2304, .inl gz_7))] H := hP
    replace hD : va_D A [(mso, .inl (cs 0, 16, .inl sof)), (mon, .inl (cs 0, 16, .inl onf)), (mot, .inl (cs 0, 16, .inl otf)), (man, .inl (cs 0, 16, .inl anf)), (hm, .inr (12, [.ref ms, .ref mkp, .int (nI kmz_6), .ref mtr, .int (nI n), .int (nI k), .int (nI al), .int (nI be), .int ea, .int pr, .ref mas, .int nq, .int po, .int (nI en), .ref mso, .ref mon, .ref mot, .ref man, .int (nI 0), .int xd, .ref mst, .ref msm, .ref mtb, .ref mti, .ref mfr, .ref mbn, .ref mbs, .ref mde, .int sF, .int sN, .int sS, .int ig, .long xa, .long xb, .ref maa, .ref mab, .ref mba, .ref mbb])), (ms, .inl (cs 0, 288, .inl f)), (mkp, .inl (cs 0, 2304, .inl gz_7))] := hD
    refine lv_aload_n hx hb dX12_poll_21 rfl (lv_at hl 0 rfl) ?_
    refine lv_iload_n hx hb dX12_poll_22 rfl (lv_at hl 1 rfl) ?_
    refine lv_iload_n hx hb dX12_poll_23 rfl (lv_at hl 2 rfl) ?_
    refine lv_iload_n hx hb dX12_poll_24 rfl (lv_at hl 3 rfl) ?_
    refine xi (wr := [(mkp, .inl (cs 0, 2304, .inl gz_7))]) (xV (As := [.int (nI jx), .int (nI jy), .int b]) (rest := []) C (c_X12_pollsOne_b l D cs hm ms mkp mtr mas mso mon mot man mst msm mtb mti mfr mbn mbs mde maa mab mba mbb n k al be kmz_6 en ea pr nq po (nI 0) xd sF sN sS ig xa xb f sof onf otf anf jx jy b hn hen hso (by omega) (by omega) hon hot (hprf _ (by omega)) hal) kX12_348 hP hD [4, 5, 0, 1, 2, 3] rfl (by decide) 0 rfl rfl rfl ⟨Nat.le_of_ble_eq_true rfl, Nat.le_of_ble_eq_true rfl⟩ rfl hl.1 rfl (Nat.le_of_ble_eq_true rfl) dX12_poll_25 ⟨Nat.le_of_ble_eq_true rfl, Nat.le_of_ble_eq_true rfl⟩) hP hD hS hA [4, 5, 0, 1, 2, 3] [6] rfl rfl (by decide) (by decide) ?_
    clear hP hD hS
    try clear locs
    try clear H
    intro r_8 u_9 H locs hw_r_8 hP hD hS
    obtain ⟨fz_10, poz_11⟩ := u_9
    have hw_r_8 : hldM n al be en ea sof onf otf anf jx jy b r_8 f fz_10 ∧ poz_11 = po + nI 1 := hw_r_8
    refine W.widen (k := 0) (n := 0) (Nat.le_of_ble_eq_true rfl) (Nat.le_of_ble_eq_true rfl) ?_
    replace hP : va_P D vwCl [(mkp, .inl (cs 0, 2304, .inl gz_7)), (hm, .inr (12, [.ref ms, .ref mkp, .int (nI kmz_6), .ref mtr, .int (nI n), .int (nI k), .int (nI al), .int (nI be), .int ea, .int pr, .ref mas, .int nq, .int poz_11, .int (nI en), .ref mso, .ref mon, .ref mot, .ref man, .int (nI 0), .int xd, .ref mst, .ref msm, .ref mtb, .ref mti, .ref mfr, .ref mbn, .ref mbs, .ref mde, .int sF, .int sN, .int sS, .int ig, .long xa, .long xb, .ref maa, .ref mab, .ref mba, .ref mbb])), (ms, .inl (cs 0, 288, .inl fz_10)), (mso, .inl (cs 0, 16, .inl sof)), (mon, .inl (cs 0, 16, .inl onf)), (mot, .inl (cs 0, 16, .inl otf)), (man, .inl (cs 0, 16, .inl anf))] H := hP
    replace hD : va_D A [(mkp, .inl (cs 0, 2304, .inl gz_7)), (hm, .inr (12, [.ref ms, .ref mkp, .int (nI kmz_6), .ref mtr, .int (nI n), .int (nI k), .int (nI al), .int (nI be), .int ea, .int pr, .ref mas, .int nq, .int poz_11, .int (nI en), .ref mso, .ref mon, .ref mot, .ref man, .int (nI 0), .int xd, .ref mst, .ref msm, .ref mtb, .ref mti, .ref mfr, .ref mbn, .ref mbs, .ref mde, .int sF, .int sN, .int sS, .int ig, .long xa, .long xb, .ref maa, .ref mab, .ref mba, .ref mbb])), (ms, .inl (cs 0, 288, .inl fz_10)), (mso, .inl (cs 0, 16, .inl sof)), (mon, .inl (cs 0, 16, .inl onf)), (mot, .inl (cs 0, 16, .inl otf)), (man, .inl (cs 0, 16, .inl anf))] := hD
    exact xreti C (⟨kmz_6, fz_10, gz_7, poz_11⟩) (⟨⟨hldM.col hs (by omega) hso hen hw_r_8.1, hw_r_4.1⟩, Or.inl ⟨jx, jy, h_jx, h_jy, rfl, rfl, hcp, hw_r_8.1, hw_r_8.2, hw_r_4.2⟩⟩) (xP_map hP [1, 2, 0, 3, 4, 5, 6] rfl) (hD.sub [1, 2, 0, 3, 4, 5, 6] (by decide) rfl) hS (Nat.le_of_ble_eq_true rfl) (Nat.le_of_ble_eq_true rfl) rfl dX12_poll_28
  · -- 12 f
    have hncp : ¬ mcpA n k en f x y b := by
      rcases hw_r_1 with ⟨a, e, h1, h2, h3, h4, h5, h6⟩ | ⟨h6, _⟩
      · exact absurd (h6.symm.trans c_3) (by decide)
      · exact h6
    refine lv_iconst (v := (-1)) hx hb dX12_poll_15 (by decide) ?_
    exact xreti C (⟨km, f, g, po⟩) (⟨⟨hs, hk, hkm⟩, Or.inr ⟨hncp, rfl, ⟨rfl, rfl, rfl⟩, rfl⟩⟩) (xP_map hP [5, 6, 0, 1, 2, 3, 4] rfl) (hD.sub [5, 6, 0, 1, 2, 3, 4] (by decide) rfl) hS (Nat.le_of_ble_eq_true rfl) (Nat.le_of_ble_eq_true rfl) rfl dX12_poll_16

set_option maxHeartbeats 4000000 in
set_option maxRecDepth 100000 in
theorem c_X12_polls_b (l : Launch) (D : va_G) (cs : Nat → ClassId) (hm ms mkp mtr mas mso mon mot man mst msm mtb mti mfr mbn mbs mde maa mab mba mbb : Nat) (n k al be km en : Nat) (ea pr nq po th xd sF sN sS ig : Int32) (xa xb : Int64) (f : Nat → Int32) (g : Nat → Int32) (sof onf otf anf : Nat → Int32) (x sd : Int32) (hn : 2 ≤ n ∧ n ≤ 8) (hen : en ≤ 16) (hso : inP 16 8 sof) (hs : colP f) (hk : keptP g) (hkm : km ≤ 8) (hon : parF en onf) (hot : parF en otf) (hprf : ∀ a, a < 8 → prfM en sof a f) (hal : al ≤ 8) (hkn : k < n) : xMet l D cs yX12_polls cX12_polls 9 (some .int) ({ frames := 5, cells := 0, slots := 0, locals := 120 } : Room) [.ref hm, .int x, .int sd] [(hm, .inr (12, [.ref ms, .ref mkp, .int (nI km), .ref mtr, .int (nI n), .int (nI k), .int (nI al), .int (nI be), .int ea, .int pr, .ref mas, .int nq, .int po, .int (nI en), .ref mso, .ref mon, .ref mot, .ref man, .int th, .int xd, .ref mst, .ref msm, .ref mtb, .ref mti, .ref mfr, .ref mbn, .ref mbs, .ref mde, .int sF, .int sN, .int sS, .int ig, .long xa, .long xb, .ref maa, .ref mab, .ref mba, .ref mbb])), (ms, .inl (cs 0, 288, .inl f)), (mkp, .inl (cs 0, 2304, .inl g)), (mso, .inl (cs 0, 16, .inl sof)), (mon, .inl (cs 0, 16, .inl onf)), (mot, .inl (cs 0, 16, .inl otf)), (man, .inl (cs 0, 16, .inl anf))] (xQi D (fun (r : Int32) (u : Nat × (Nat → Int32) × (Nat → Int32) × Int32 × Int32) => match u with | (kmz, fz, gz, poz, xdz) => (colP fz ∧ keptP gz ∧ kmz ≤ 8) ∧ ((∃ nm, nm ≤ 100 ∧ x = nI nm ∧ ¬ x < nI 1 ∧ polBM n k al be en ea sof onf otf anf nm (sd, f, po, nI 0) (xdz, fz, poz, r) ∧ kpdP km f g kmz gz) ∨ (¬ (¬ x < nI 1 ∧ x ≤ nI 100) ∧ r = -1 ∧ (fz = f ∧ gz = g ∧ kmz = km) ∧ poz = po ∧ xdz = xd))) (fun (u : Nat × (Nat → Int32) × (Nat → Int32) × Int32 × Int32) => match u with | (kmz, fz, gz, poz, xdz) => [(hm, .inr (12, [.ref ms, .ref mkp, .int (nI kmz), .ref mtr, .int (nI n), .int (nI k), .int (nI al), .int (nI be), .int ea, .int pr, .ref mas, .int nq, .int poz, .int (nI en), .ref mso, .ref mon, .ref mot, .ref man, .int (nI 0), .int xdz, .ref mst, .ref msm, .ref mtb, .ref mti, .ref mfr, .ref mbn, .ref mbs, .ref mde, .int sF, .int sN, .int sS, .int ig, .long xa, .long xb, .ref maa, .ref mab, .ref mba, .ref mbb])), (ms, .inl (cs 0, 288, .inl fz)), (mkp, .inl (cs 0, 2304, .inl gz)), (mso, .inl (cs 0, 16, .inl sof)), (mon, .inl (cs 0, 16, .inl onf)), (mot, .inl (cs 0, 16, .inl otf)), (man, .inl (cs 0, 16, .inl anf))])) := by
  refine xMet.intro (by decide) (Nat.le_of_ble_eq_true rfl) ?_
  intro p e s m args below meth c A ls C hP hD hS hl
  have hx := C.1
  have hb := C.2.1
  have hz := C.2.2.2.2.1
  have hown := C.2.2.2.1
  have hA := C.2.2.2.2.2.2.2.2.2
  have hAO := C.2.2.2.2.2.2.2.2.1.2.2
  replace hl : lv_has ls 9 [(0, .ref hm), (1, .int x), (2, .int sd)] := hl
  obtain ⟨H, hH⟩ : ∃ H, H = s.heap := ⟨_, rfl⟩
  replace hP : va_P D vwCl [(hm, .inr (12, [.ref ms, .ref mkp, .int (nI km), .ref mtr, .int (nI n), .int (nI k), .int (nI al), .int (nI be), .int ea, .int pr, .ref mas, .int nq, .int po, .int (nI en), .ref mso, .ref mon, .ref mot, .ref man, .int th, .int xd, .ref mst, .ref msm, .ref mtb, .ref mti, .ref mfr, .ref mbn, .ref mbs, .ref mde, .int sF, .int sN, .int sS, .int ig, .long xa, .long xb, .ref maa, .ref mab, .ref mba, .ref mbb])), (ms, .inl (cs 0, 288, .inl f)), (mkp, .inl (cs 0, 2304, .inl g)), (mso, .inl (cs 0, 16, .inl sof)), (mon, .inl (cs 0, 16, .inl onf)), (mot, .inl (cs 0, 16, .inl otf)), (man, .inl (cs 0, 16, .inl anf))] H := by rw [hH]; exact hP
  replace hS : va_S A s.heap H [] := by rw [hH]; exact hS
  obtain ⟨locs, hlocs⟩ : ∃ z : List Loc, z = [] := ⟨_, rfl⟩
  rw [← hlocs] at hS
  suffices hW : W p l e ({ frames := 5, cells := 0, slots := 0, locals := 120 } : Room) s m args below meth c H locs 0 0 (MQ below ((xQi D (fun (r : Int32) (u : Nat × (Nat → Int32) × (Nat → Int32) × Int32 × Int32) => match u with | (kmz, fz, gz, poz, xdz) => (colP fz ∧ keptP gz ∧ kmz ≤ 8) ∧ ((∃ nm, nm ≤ 100 ∧ x = nI nm ∧ ¬ x < nI 1 ∧ polBM n k al be en ea sof onf otf anf nm (sd, f, po, nI 0) (xdz, fz, poz, r) ∧ kpdP km f g kmz gz) ∨ (¬ (¬ x < nI 1 ∧ x ≤ nI 100) ∧ r = -1 ∧ (fz = f ∧ gz = g ∧ kmz = km) ∧ poz = po ∧ xdz = xd))) (fun (u : Nat × (Nat → Int32) × (Nat → Int32) × Int32 × Int32) => match u with | (kmz, fz, gz, poz, xdz) => [(hm, .inr (12, [.ref ms, .ref mkp, .int (nI kmz), .ref mtr, .int (nI n), .int (nI k), .int (nI al), .int (nI be), .int ea, .int pr, .ref mas, .int nq, .int poz, .int (nI en), .ref mso, .ref mon, .ref mot, .ref man, .int (nI 0), .int xdz, .ref mst, .ref msm, .ref mtb, .ref mti, .ref mfr, .ref mbn, .ref mbs, .ref mde, .int sF, .int sN, .int sS, .int ig, .long xa, .long xb, .ref maa, .ref mab, .ref mba, .ref mbb])), (ms, .inl (cs 0, 288, .inl fz)), (mkp, .inl (cs 0, 2304, .inl gz)), (mso, .inl (cs 0, 16, .inl sof)), (mon, .inl (cs 0, 16, .inl onf)), (mot, .inl (cs 0, 16, .inl otf)), (man, .inl (cs 0, 16, .inl anf))])) A) args s 0 0 A) (F0 m 0 ls []) by rw [hlocs, hH] at hW; exact hW
  clear hH hlocs
  refine lv_aload_n hx hb dX12_polls_0 rfl (lv_at hl 0 rfl) ?_
  refine lv_iconst (v := nI 0) hx hb dX12_polls_1 (by decide) ?_
  refine xput C hP hD hS 0 rfl rfl zuX12 tyX12 tyX12_ok nmX12 18 (by decide) zw5_231 rfl rfl rfl (Nat.le_of_ble_eq_true rfl) dX12_polls_2 ?_
  clear hP hD hS
  try clear locs
  try clear H
  intro H locs hP hD hS
  replace hP : va_P D vwCl [(hm, .inr (12, [.ref ms, .ref mkp, .int (nI km), .ref mtr, .int (nI n), .int (nI k), .int (nI al), .int (nI be), .int ea, .int pr, .ref mas, .int nq, .int po, .int (nI en), .ref mso, .ref mon, .ref mot, .ref man, .int (nI 0), .int xd, .ref mst, .ref msm, .ref mtb, .ref mti, .ref mfr, .ref mbn, .ref mbs, .ref mde, .int sF, .int sN, .int sS, .int ig, .long xa, .long xb, .ref maa, .ref mab, .ref mba, .ref mbb])), (ms, .inl (cs 0, 288, .inl f)), (mkp, .inl (cs 0, 2304, .inl g)), (mso, .inl (cs 0, 16, .inl sof)), (mon, .inl (cs 0, 16, .inl onf)), (mot, .inl (cs 0, 16, .inl otf)), (man, .inl (cs 0, 16, .inl anf))] H := hP
  replace hD : va_D A [(hm, .inr (12, [.ref ms, .ref mkp, .int (nI km), .ref mtr, .int (nI n), .int (nI k), .int (nI al), .int (nI be), .int ea, .int pr, .ref mas, .int nq, .int po, .int (nI en), .ref mso, .ref mon, .ref mot, .ref man, .int (nI 0), .int xd, .ref mst, .ref msm, .ref mtb, .ref mti, .ref mfr, .ref mbn, .ref mbs, .ref mde, .int sF, .int sN, .int sS, .int ig, .long xa, .long xb, .ref maa, .ref mab, .ref mba, .ref mbb])), (ms, .inl (cs 0, 288, .inl f)), (mkp, .inl (cs 0, 2304, .inl g)), (mso, .inl (cs 0, 16, .inl sof)), (mon, .inl (cs 0, 16, .inl onf)), (mot, .inl (cs 0, 16, .inl otf)), (man, .inl (cs 0, 16, .inl anf))] := hD
  refine lv_iload_n hx hb dX12_polls_5 rfl (lv_at hl 1 rfl) ?_
  refine lv_iconst (v := nI 1) hx hb dX12_polls_6 (by decide) ?_
  refine lv_bipush (v := nI 100) hx hb dX12_polls_7 (by decide) ?_
  refine xi (wr := [(hm, .inr (12, [.ref ms, .ref mkp, .int (nI km), .ref mtr, .int (nI n), .int (nI k), .int (nI al), .int (nI be), .int ea, .int pr, .ref mas, .int nq, .int po, .int (nI en), .ref mso, .ref mon, .ref mot, .ref man, .int (nI 0), .int xd, .ref mst, .ref msm, .ref mtb, .ref mti, .ref mfr, .ref mbn, .ref mbs, .ref mde, .int sF, .int sN, .int sS, .int ig, .long xa, .long xb, .ref maa, .ref mab, .ref mba, .ref mbb])), (ms, .inl (cs 0, 288, .inl f)), (mkp, .inl (cs 0, 2304, .inl g)), (mso, .inl (cs 0, 16, .inl sof)), (mon, .inl (cs 0, 16, .inl onf)), (mot, .inl (cs 0, 16, .inl otf)), (man, .inl (cs 0, 16, .inl anf))]) (xS (As := [.int x, .int (nI 1), .int (nI 100)]) (rest := []) C (c_X12_within l D cs x (nI 1) (nI 100)) kX12_116 hP hD [] rfl (by decide) ⟨Nat.le_of_ble_eq_true rfl, Nat.le_of_ble_eq_true rfl⟩ rfl hl.1 rfl (Nat.le_of_ble_eq_true rfl) dX12_polls_9 ⟨Nat.le_of_ble_eq_true rfl, Nat.le_of_ble_eq_true rfl⟩) hP hD hS hA [] [0, 1, 2, 3, 4, 5, 6] rfl rfl (by decide) (by decide) ?_
  clear hP hD hS
  try clear locs
  try clear H
  intro r_1 u_2 H locs hw_r_1 hP hD hS
  have hw_r_1 : PQ (¬ x < (nI 1) ∧ x ≤ (nI 100)) r_1 (nI 1) (nI 0) := hw_r_1
  refine W.widen (k := 0) (n := 0) (Nat.le_of_ble_eq_true rfl) (Nat.le_of_ble_eq_true rfl) ?_
  replace hP : va_P D vwCl [(hm, .inr (12, [.ref ms, .ref mkp, .int (nI km), .ref mtr, .int (nI n), .int (nI k), .int (nI al), .int (nI be), .int ea, .int pr, .ref mas, .int nq, .int po, .int (nI en), .ref mso, .ref mon, .ref mot, .ref man, .int (nI 0), .int xd, .ref mst, .ref msm, .ref mtb, .ref mti, .ref mfr, .ref mbn, .ref mbs, .ref mde, .int sF, .int sN, .int sS, .int ig, .long xa, .long xb, .ref maa, .ref mab, .ref mba, .ref mbb])), (ms, .inl (cs 0, 288, .inl f)), (mkp, .inl (cs 0, 2304, .inl g)), (mso, .inl (cs 0, 16, .inl sof)), (mon, .inl (cs 0, 16, .inl onf)), (mot, .inl (cs 0, 16, .inl otf)), (man, .inl (cs 0, 16, .inl anf))] H := hP
  replace hD : va_D A [(hm, .inr (12, [.ref ms, .ref mkp, .int (nI km), .ref mtr, .int (nI n), .int (nI k), .int (nI al), .int (nI be), .int ea, .int pr, .ref mas, .int nq, .int po, .int (nI en), .ref mso, .ref mon, .ref mot, .ref man, .int (nI 0), .int xd, .ref mst, .ref msm, .ref mtb, .ref mti, .ref mfr, .ref mbn, .ref mbs, .ref mde, .int sF, .int sN, .int sS, .int ig, .long xa, .long xb, .ref maa, .ref mab, .ref mba, .ref mbb])), (ms, .inl (cs 0, 288, .inl f)), (mkp, .inl (cs 0, 2304, .inl g)), (mso, .inl (cs 0, 16, .inl sof)), (mon, .inl (cs 0, 16, .inl onf)), (mot, .inl (cs 0, 16, .inl otf)), (man, .inl (cs 0, 16, .inl anf))] := hD
  refine lv_if_ne (tgt := 17) hx hb dX12_polls_12 (by decide) (fun c_3 => ?_) (fun c_3 => ?_)
  · -- 12 t
    have hyx := PQ.yes hw_r_1 c_3
    obtain ⟨nn, h_nn, rfl⟩ : ∃ j : Nat, j ≤ 100 ∧ x = nI j := nI_of2 (M := nI 100) (by decide) (fun q => hyx.1 (Int32.lt_trans q (by decide))) hyx.2
    replace hP : va_P D vwCl [(hm, .inr (12, [.ref ms, .ref mkp, .int (nI km), .ref mtr, .int (nI n), .int (nI k), .int (nI al), .int (nI be), .int ea, .int pr, .ref mas, .int nq, .int po, .int (nI en), .ref mso, .ref mon, .ref mot, .ref man, .int (nI 0), .int xd, .ref mst, .ref msm, .ref mtb, .ref mti, .ref mfr, .ref mbn, .ref mbs, .ref mde, .int sF, .int sN, .int sS, .int ig, .long xa, .long xb, .ref maa, .ref mab, .ref mba, .ref mbb])), (ms, .inl (cs 0, 288, .inl f)), (mkp, .inl (cs 0, 2304, .inl g)), (mso, .inl (cs 0, 16, .inl sof)), (mon, .inl (cs 0, 16, .inl onf)), (mot, .inl (cs 0, 16, .inl otf)), (man, .inl (cs 0, 16, .inl anf))] H := hP
    replace hD : va_D A [(hm, .inr (12, [.ref ms, .ref mkp, .int (nI km), .ref mtr, .int (nI n), .int (nI k), .int (nI al), .int (nI be), .int ea, .int pr, .ref mas, .int nq, .int po, .int (nI en), .ref mso, .ref mon, .ref mot, .ref man, .int (nI 0), .int xd, .ref mst, .ref msm, .ref mtb, .ref mti, .ref mfr, .ref mbn, .ref mbs, .ref mde, .int sF, .int sN, .int sS, .int ig, .long xa, .long xb, .ref maa, .ref mab, .ref mba, .ref mbb])), (ms, .inl (cs 0, 288, .inl f)), (mkp, .inl (cs 0, 2304, .inl g)), (mso, .inl (cs 0, 16, .inl sof)), (mon, .inl (cs 0, 16, .inl onf)), (mot, .inl (cs 0, 16, .inl otf)), (man, .inl (cs 0, 16, .inl anf))] := hD
    refine lv_aload_n hx hb dX12_polls_17 rfl (lv_at hl 0 rfl) ?_
    refine xv (wr := [(mso, .inl (cs 0, 16, .inl sof)), (mon, .inl (cs 0, 16, .inl onf)), (mot, .inl (cs 0, 16, .inl otf)), (man, .inl (cs 0, 16, .inl anf))]) (xV (As := []) (rest := []) C (c_X12_keeps_f l D cs hm ms mkp mtr mas mso mon mot man mst msm mtb mti mfr mbn mbs mde maa mab mba mbb n k al be km en ea pr nq po (nI 0) xd sF sN sS ig xa xb f g hs hk hkm) kX12_124 hP hD [0, 1, 2] rfl (by decide) 0 rfl rfl rfl ⟨Nat.le_of_ble_eq_true rfl, Nat.le_of_ble_eq_true rfl⟩ rfl hl.1 rfl (Nat.le_of_ble_eq_true rfl) dX12_polls_18 ⟨Nat.le_of_ble_eq_true rfl, Nat.le_of_ble_eq_true rfl⟩) hP hD hS hA [0, 1, 2] [3, 4, 5, 6] rfl rfl (by decide) (by decide) ?_
    clear hP hD hS
    try clear locs
    try clear H
    intro u_5 H locs hw_r_4 hP hD hS
    obtain ⟨kmz_6, gz_7⟩ := u_5
    have hw_r_4 : (keptP gz_7 ∧ kmz_6 ≤ 8) ∧ kpdP km f g kmz_6 gz_7 := hw_r_4
    refine W.widen (k := 0) (n := 0) (Nat.le_of_ble_eq_true rfl) (Nat.le_of_ble_eq_true rfl) ?_
    replace hP : va_P D vwCl [(mso, .inl (cs 0, 16, .inl sof)), (mon, .inl (cs 0, 16, .inl onf)), (mot, .inl (cs 0, 16, .inl otf)), (man, .inl (cs 0, 16, .inl anf)), (hm, .inr (12, [.ref ms, .ref mkp, .int (nI kmz_6), .ref mtr, .int (nI n), .int (nI k), .int (nI al), .int (nI be), .int ea, .int pr, .ref mas, .int nq, .int po, .int (nI en), .ref mso, .ref mon, .ref mot, .ref man, .int (nI 0), .int xd, .ref mst, .ref msm, .ref mtb, .ref mti, .ref mfr, .ref mbn, .ref mbs, .ref mde, .int sF, .int sN, .int sS, .int ig, .long xa, .long xb, .ref maa, .ref mab, .ref mba, .ref mbb])), (ms, .inl (cs 0, 288, .inl f)), (mkp, .inl (cs 0, 2304, .inl gz_7))] H := hP
    replace hD : va_D A [(mso, .inl (cs 0, 16, .inl sof)), (mon, .inl (cs 0, 16, .inl onf)), (mot, .inl (cs 0, 16, .inl otf)), (man, .inl (cs 0, 16, .inl anf)), (hm, .inr (12, [.ref ms, .ref mkp, .int (nI kmz_6), .ref mtr, .int (nI n), .int (nI k), .int (nI al), .int (nI be), .int ea, .int pr, .ref mas, .int nq, .int po, .int (nI en), .ref mso, .ref mon, .ref mot, .ref man, .int (nI 0), .int xd, .ref mst, .ref msm, .ref mtb, .ref mti, .ref mfr, .ref mbn, .ref mbs, .ref mde, .int sF, .int sN, .int sS, .int ig, .long xa, .long xb, .ref maa, .ref mab, .ref mba, .ref mbb])), (ms, .inl (cs 0, 288, .inl f)), (mkp, .inl (cs 0, 2304, .inl gz_7))] := hD
    refine lv_aload_n hx hb dX12_polls_21 rfl (lv_at hl 0 rfl) ?_
    refine lv_iload_n hx hb dX12_polls_22 rfl (lv_at hl 2 rfl) ?_
    refine xput C hP hD hS 4 rfl rfl zuX12 tyX12 tyX12_ok nmX12 19 (by decide) zw5_232 rfl rfl rfl (Nat.le_of_ble_eq_true rfl) dX12_polls_23 ?_
    clear hP hD hS
    try clear locs
    try clear H
    intro H locs hP hD hS
    replace hP : va_P D vwCl [(mso, .inl (cs 0, 16, .inl sof)), (mon, .inl (cs 0, 16, .inl onf)), (mot, .inl (cs 0, 16, .inl otf)), (man, .inl (cs 0, 16, .inl anf)), (hm, .inr (12, [.ref ms, .ref mkp, .int (nI kmz_6), .ref mtr, .int (nI n), .int (nI k), .int (nI al), .int (nI be), .int ea, .int pr, .ref mas, .int nq, .int po, .int (nI en), .ref mso, .ref mon, .ref mot, .ref man, .int (nI 0), .int sd, .ref mst, .ref msm, .ref mtb, .ref mti, .ref mfr, .ref mbn, .ref mbs, .ref mde, .int sF, .int sN, .int sS, .int ig, .long xa, .long xb, .ref maa, .ref mab, .ref mba, .ref mbb])), (ms, .inl (cs 0, 288, .inl f)), (mkp, .inl (cs 0, 2304, .inl gz_7))] H := hP
    replace hD : va_D A [(mso, .inl (cs 0, 16, .inl sof)), (mon, .inl (cs 0, 16, .inl onf)), (mot, .inl (cs 0, 16, .inl otf)), (man, .inl (cs 0, 16, .inl anf)), (hm, .inr (12, [.ref ms, .ref mkp, .int (nI kmz_6), .ref mtr, .int (nI n), .int (nI k), .int (nI al), .int (nI be), .int ea, .int pr, .ref mas, .int nq, .int po, .int (nI en), .ref mso, .ref mon, .ref mot, .ref man, .int (nI 0), .int sd, .ref mst, .ref msm, .ref mtb, .ref mti, .ref mfr, .ref mbn, .ref mbs, .ref mde, .int sF, .int sN, .int sS, .int ig, .long xa, .long xb, .ref maa, .ref mab, .ref mba, .ref mbb])), (ms, .inl (cs 0, 288, .inl f)), (mkp, .inl (cs 0, 2304, .inl gz_7))] := hD
    refine lv_iconst (v := nI 0) hx hb dX12_polls_26 (by decide) ?_
    refine lv_istore_n (lv' := [(3, .int (nI 0)), (0, .ref hm), (1, .int (nI nn)), (2, .int sd)]) hx hb dX12_polls_27 rfl hl (by decide) rfl ?_
    clear hl
    try clear ls
    intro ls hl
    refine lv_iconst (v := nI 0) hx hb dX12_polls_28 (by decide) ?_
    refine lv_istore (lv' := [(4, .int (nI 0)), (3, .int (nI 0)), (0, .ref hm), (1, .int (nI nn)), (2, .int sd)]) hx hb dX12_polls_29 hl (by decide) rfl ?_
    clear hl
    try clear ls
    intro ls hl
    have loop_8 : ∀ (n_loop_8 : Nat) (o : Nat) (f9 : Nat → Int32) (p9 : Int32) (d9 : Int32) (c9 : Int32), (o ≤ nn) → (colP f9) → (∀ a, a < 8 → prfM en sof a f9) → (polBM n k al be en ea sof onf otf anf o (sd, f, po, nI 0) (d9, f9, p9, c9)) → nn - o < n_loop_8 → ∀ (H : Heap) (locs : List Loc) (ls : Array Slot), va_P D vwCl [(mso, .inl (cs 0, 16, .inl sof)), (mon, .inl (cs 0, 16, .inl onf)), (mot, .inl (cs 0, 16, .inl otf)), (man, .inl (cs 0, 16, .inl anf)), (hm, .inr (12, [.ref ms, .ref mkp, .int (nI kmz_6), .ref mtr, .int (nI n), .int (nI k), .int (nI al), .int (nI be), .int ea, .int pr, .ref mas, .int nq, .int p9, .int (nI en), .ref mso, .ref mon, .ref mot, .ref man, .int (nI 0), .int d9, .ref mst, .ref msm, .ref mtb, .ref mti, .ref mfr, .ref mbn, .ref mbs, .ref mde, .int sF, .int sN, .int sS, .int ig, .long xa, .long xb, .ref maa, .ref mab, .ref mba, .ref mbb])), (ms, .inl (cs 0, 288, .inl f9)), (mkp, .inl (cs 0, 2304, .inl gz_7))] H → va_D A [(mso, .inl (cs 0, 16, .inl sof)), (mon, .inl (cs 0, 16, .inl onf)), (mot, .inl (cs 0, 16, .inl otf)), (man, .inl (cs 0, 16, .inl anf)), (hm, .inr (12, [.ref ms, .ref mkp, .int (nI kmz_6), .ref mtr, .int (nI n), .int (nI k), .int (nI al), .int (nI be), .int ea, .int pr, .ref mas, .int nq, .int p9, .int (nI en), .ref mso, .ref mon, .ref mot, .ref man, .int (nI 0), .int d9, .ref mst, .ref msm, .ref mtb, .ref mti, .ref mfr, .ref mbn, .ref mbs, .ref mde, .int sF, .int sN, .int sS, .int ig, .long xa, .long xb, .ref maa, .ref mab, .ref mba, .ref mbb])), (ms, .inl (cs 0, 288, .inl f9)), (mkp, .inl (cs 0, 2304, .inl gz_7))] → va_S A s.heap H locs → lv_has ls 9 [(4, .int (nI o)), (3, .int c9), (0, .ref hm), (1, .int (nI nn)), (2, .int sd)] → W p l e ({ frames := 5, cells := 0, slots := 0, locals := 120 } : Room) s m args below meth c H locs 0 0 (MQ below ((xQi D (fun (r : Int32) (u : Nat × (Nat → Int32) × (Nat → Int32) × Int32 × Int32) => match u with | (kmz, fz, gz, poz, xdz) => (colP fz ∧ keptP gz ∧ kmz ≤ 8) ∧ ((∃ nm, nm ≤ 100 ∧ (nI nn) = nI nm ∧ ¬ (nI nn) < nI 1 ∧ polBM n k al be en ea sof onf otf anf nm (sd, f, po, nI 0) (xdz, fz, poz, r) ∧ kpdP km f g kmz gz) ∨ (¬ (¬ (nI nn) < nI 1 ∧ (nI nn) ≤ nI 100) ∧ r = -1 ∧ (fz = f ∧ gz = g ∧ kmz = km) ∧ poz = po ∧ xdz = xd))) (fun (u : Nat × (Nat → Int32) × (Nat → Int32) × Int32 × Int32) => match u with | (kmz, fz, gz, poz, xdz) => [(hm, .inr (12, [.ref ms, .ref mkp, .int (nI kmz), .ref mtr, .int (nI n), .int (nI k), .int (nI al), .int (nI be), .int ea, .int pr, .ref mas, .int nq, .int poz, .int (nI en), .ref mso, .ref mon, .ref mot, .ref man, .int (nI 0), .int xdz, .ref mst, .ref msm, .ref mtb, .ref mti, .ref mfr, .ref mbn, .ref mbs, .ref mde, .int sF, .int sN, .int sS, .int ig, .long xa, .long xb, .ref maa, .ref mab, .ref mba, .ref mbb])), (ms, .inl (cs 0, 288, .inl fz)), (mkp, .inl (cs 0, 2304, .inl gz)), (mso, .inl (cs 0, 16, .inl sof)), (mon, .inl (cs 0, 16, .inl onf)), (mot, .inl (cs 0, 16, .inl otf)), (man, .inl (cs 0, 16, .inl anf))])) A) args s 0 0 A) (F0 m 31 ls []) := by
      intro n_loop_8
      induction n_loop_8 with
      | zero => intro o f9 p9 d9 c9 h_o hs9 hq9 hR9 hlt H locs ls hP hD hS hl; exact absurd hlt (Nat.not_lt_zero _)
      | succ n_loop_8 ih_loop_8 =>
        intro o f9 p9 d9 c9 h_o hs9 hq9 hR9 hlt_loop_8 H locs ls hP hD hS hl
        refine lv_iload hx hb dX12_polls_31 (lv_at hl 0 rfl) ?_
        refine lv_iload_n hx hb dX12_polls_33 rfl (lv_at hl 3 rfl) ?_
        refine lv_icmp_ge (tgt := 155) hx hb dX12_polls_34 (by decide) (fun c_9 => ?_) (fun c_9 => ?_)
        · -- 34 t
          have fc_9 : nn ≤ o := nf_le (by omega) (by omega) c_9
          refine lv_iload_n hx hb dX12_polls_155 rfl (lv_at hl 1 rfl) ?_
          exact xreti C (⟨kmz_6, f9, gz_7, p9, d9⟩) (⟨⟨hs9, hw_r_4.1⟩, Or.inl ⟨nn, h_nn, rfl, hyx.1, by have q7 : o = nn := (by omega); subst q7; exact hR9, hw_r_4.2⟩⟩) (xP_map hP [4, 5, 6, 0, 1, 2, 3] rfl) (hD.sub [4, 5, 6, 0, 1, 2, 3] (by decide) rfl) hS (Nat.le_of_ble_eq_true rfl) (Nat.le_of_ble_eq_true rfl) rfl dX12_polls_156
        · -- 34 f
          have fc_9 : o < nn := nf_nle (by omega) (by omega) c_9
          refine lv_aload_n hx hb dX12_polls_37 rfl (lv_at hl 2 rfl) ?_
          refine lv_aload_n hx hb dX12_polls_38 rfl (lv_at hl 2 rfl) ?_
          refine xget C hP 4 rfl rfl zuX12 4 (by decide) zw5_217 rfl dX12_polls_39 ?_
          refine xi (wr := [(mso, .inl (cs 0, 16, .inl sof)), (mon, .inl (cs 0, 16, .inl onf)), (mot, .inl (cs 0, 16, .inl otf)), (man, .inl (cs 0, 16, .inl anf)), (ms, .inl (cs 0, 288, .inl f9)), (mkp, .inl (cs 0, 2304, .inl gz_7))]) (xV (As := [.int (nI n)]) (rest := []) C (c_X12_draw_f l D cs hm ms mkp mtr mas mso mon mot man mst msm mtb mti mfr mbn mbs mde maa mab mba mbb n k al be kmz_6 en ea pr nq p9 (nI 0) d9 sF sN sS ig xa xb n (by omega) (by omega)) kX12_156 hP hD [4] rfl (by decide) 0 rfl rfl rfl ⟨Nat.le_of_ble_eq_true rfl, Nat.le_of_ble_eq_true rfl⟩ rfl hl.1 rfl (Nat.le_of_ble_eq_true rfl) dX12_polls_42 ⟨Nat.le_of_ble_eq_true rfl, Nat.le_of_ble_eq_true rfl⟩) hP hD hS hA [4] [0, 1, 2, 3, 5, 6] rfl rfl (by decide) (by decide) ?_
          clear hP hD hS
          try clear locs
          try clear H
          intro r_10 u_11 H locs hw_r_10 hP hD hS
          have hw_r_10 : u_11 = nxD d9 ∧ r_10 = drV (nxD d9) (nI n) ∧ ∃ j, j < n ∧ r_10 = nI j := hw_r_10
          refine W.widen (k := 0) (n := 0) (Nat.le_of_ble_eq_true rfl) (Nat.le_of_ble_eq_true rfl) ?_
          replace hP : va_P D vwCl [(mso, .inl (cs 0, 16, .inl sof)), (mon, .inl (cs 0, 16, .inl onf)), (mot, .inl (cs 0, 16, .inl otf)), (man, .inl (cs 0, 16, .inl anf)), (ms, .inl (cs 0, 288, .inl f9)), (mkp, .inl (cs 0, 2304, .inl gz_7)), (hm, .inr (12, [.ref ms, .ref mkp, .int (nI kmz_6), .ref mtr, .int (nI n), .int (nI k), .int (nI al), .int (nI be), .int ea, .int pr, .ref mas, .int nq, .int p9, .int (nI en), .ref mso, .ref mon, .ref mot, .ref man, .int (nI 0), .int u_11, .ref mst, .ref msm, .ref mtb, .ref mti, .ref mfr, .ref mbn, .ref mbs, .ref mde, .int sF, .int sN, .int sS, .int ig, .long xa, .long xb, .ref maa, .ref mab, .ref mba, .ref mbb]))] H := hP
          replace hD : va_D A [(mso, .inl (cs 0, 16, .inl sof)), (mon, .inl (cs 0, 16, .inl onf)), (mot, .inl (cs 0, 16, .inl otf)), (man, .inl (cs 0, 16, .inl anf)), (ms, .inl (cs 0, 288, .inl f9)), (mkp, .inl (cs 0, 2304, .inl gz_7)), (hm, .inr (12, [.ref ms, .ref mkp, .int (nI kmz_6), .ref mtr, .int (nI n), .int (nI k), .int (nI al), .int (nI be), .int ea, .int pr, .ref mas, .int nq, .int p9, .int (nI en), .ref mso, .ref mon, .ref mot, .ref man, .int (nI 0), .int u_11, .ref mst, .ref msm, .ref mtb, .ref mti, .ref mfr, .ref mbn, .ref mbs, .ref mde, .int sF, .int sN, .int sS, .int ig, .long xa, .long xb, .ref maa, .ref mab, .ref mba, .ref mbb]))] := hD
          obtain ⟨jx, h_jx, rfl⟩ := hw_r_10.2.2
          replace hP : va_P D vwCl [(mso, .inl (cs 0, 16, .inl sof)), (mon, .inl (cs 0, 16, .inl onf)), (mot, .inl (cs 0, 16, .inl otf)), (man, .inl (cs 0, 16, .inl anf)), (ms, .inl (cs 0, 288, .inl f9)), (mkp, .inl (cs 0, 2304, .inl gz_7)), (hm, .inr (12, [.ref ms, .ref mkp, .int (nI kmz_6), .ref mtr, .int (nI n), .int (nI k), .int (nI al), .int (nI be), .int ea, .int pr, .ref mas, .int nq, .int p9, .int (nI en), .ref mso, .ref mon, .ref mot, .ref man, .int (nI 0), .int u_11, .ref mst, .ref msm, .ref mtb, .ref mti, .ref mfr, .ref mbn, .ref mbs, .ref mde, .int sF, .int sN, .int sS, .int ig, .long xa, .long xb, .ref maa, .ref mab, .ref mba, .ref mbb]))] H := hP
          replace hD : va_D A [(mso, .inl (cs 0, 16, .inl sof)), (mon, .inl (cs 0, 16, .inl onf)), (mot, .inl (cs 0, 16, .inl otf)), (man, .inl (cs 0, 16, .inl anf)), (ms, .inl (cs 0, 288, .inl f9)), (mkp, .inl (cs 0, 2304, .inl gz_7)), (hm, .inr (12, [.ref ms, .ref mkp, .int (nI kmz_6), .ref mtr, .int (nI n), .int (nI k), .int (nI al), .int (nI be), .int ea, .int pr, .ref mas, .int nq, .int p9, .int (nI en), .ref mso, .ref mon, .ref mot, .ref man, .int (nI 0), .int u_11, .ref mst, .ref msm, .ref mtb, .ref mti, .ref mfr, .ref mbn, .ref mbs, .ref mde, .int sF, .int sN, .int sS, .int ig, .long xa, .long xb, .ref maa, .ref mab, .ref mba, .ref mbb]))] := hD
          refine lv_istore (lv' := [(5, .int (nI jx)), (4, .int (nI o)), (3, .int c9), (0, .ref hm), (1, .int (nI nn)), (2, .int sd)]) hx hb dX12_polls_45 hl (by decide) rfl ?_
          clear hl
          try clear ls
          intro ls hl
          refine lv_iconst (v := nI 1) hx hb dX12_polls_47 (by decide) ?_
          refine lv_aload_n hx hb dX12_polls_48 rfl (lv_at hl 3 rfl) ?_
          refine xget C hP 6 rfl rfl zuX12 13 (by decide) zw5_226 rfl dX12_polls_49 ?_
          refine lv_ishl hx hb dX12_polls_52 ?_
          refine lv_iconst (v := nI 1) hx hb dX12_polls_53 (by decide) ?_
          refine lv_isub hx hb dX12_polls_54 ?_
          refine lv_aload_n hx hb dX12_polls_55 rfl (lv_at hl 3 rfl) ?_
          refine xget C hP 6 rfl rfl zuX12 0 (by decide) zw5_213 rfl dX12_polls_56 ?_
          refine lv_bipush (v := nI 72) hx hb dX12_polls_59 (by decide) ?_
          refine lv_iload hx hb dX12_polls_61 (lv_at hl 0 rfl) ?_
          refine lv_iadd hx hb dX12_polls_63 ?_
          refine lv_topi (nm_r (e' := nI (72 + jx)) (nI_add _ _) ?_)
          refine xiald C hP 4 rfl (72 + jx) rfl (by omega) (by decide) dX12_polls_64 ?_
          refine lv_iconst (v := (-1)) hx hb dX12_polls_65 (by decide) ?_
          refine lv_ixor hx hb dX12_polls_66 ?_
          refine lv_iand hx hb dX12_polls_67 ?_
          refine lv_topi (nm_r (e' := leftF en (f9 (72 + jx))) rfl ?_)
          refine lv_istore (lv' := [(6, .int (leftF en (f9 (72 + jx)))), (5, .int (nI jx)), (4, .int (nI o)), (3, .int c9), (0, .ref hm), (1, .int (nI nn)), (2, .int sd)]) hx hb dX12_polls_68 hl (by decide) rfl ?_
          clear hl
          try clear ls
          intro ls hl
          refine lv_aload_n hx hb dX12_polls_70 rfl (lv_at hl 4 rfl) ?_
          refine xget C hP 6 rfl rfl zuX12 0 (by decide) zw5_213 rfl dX12_polls_71 ?_
          refine lv_bipush (v := nI 48) hx hb dX12_polls_74 (by decide) ?_
          refine lv_iload hx hb dX12_polls_76 (lv_at hl 1 rfl) ?_
          refine lv_iadd hx hb dX12_polls_78 ?_
          refine lv_topi (nm_r (e' := nI (48 + jx)) (nI_add _ _) ?_)
          refine xiald C hP 4 rfl (48 + jx) rfl (by omega) (by decide) dX12_polls_79 ?_
          refine lv_if_ne (tgt := 149) hx hb dX12_polls_80 (by decide) (fun c_12 => ?_) (fun c_12 => ?_)
          · -- 80 t
            refine lv_iinc (v := nI (o + 1)) (lv' := [(4, .int (nI (o + 1))), (6, .int (leftF en (f9 (72 + jx)))), (5, .int (nI jx)), (3, .int c9), (0, .ref hm), (1, .int (nI nn)), (2, .int sd)]) hx hb dX12_polls_149 hl (k := 2) rfl (nI_add o 1) (by decide) rfl ?_
            clear hl
            try clear ls
            intro ls hl
            refine lv_goto (tgt := 31) hx hb dX12_polls_152 (by decide) ?_
            exact ih_loop_8 (o + 1) f9 p9 u_11 c9 (by omega) hs9 hq9 (⟨_, hR9, jx, h_jx, hw_r_10.2.1, Or.inl ⟨fun q => c_12 q.1, by rw [hw_r_10.1]⟩⟩) (by omega) H locs ls (xP_map hP [0, 1, 2, 3, 6, 4, 5] rfl) (hD.sub [0, 1, 2, 3, 6, 4, 5] (by decide) rfl) hS (lv_sub hl [0, 3, 4, 5, 6] rfl)
          · -- 80 f
            refine lv_iload hx hb dX12_polls_83 (lv_at hl 0 rfl) ?_
            refine lv_if_ne (tgt := 91) hx hb dX12_polls_85 (by decide) (fun c_13 => ?_) (fun c_13 => ?_)
            · -- 85 t
              have hcm : 0 < cntL (leftF en (f9 (72 + jx))) 16 := cnt_pos c_13 (left_hi hen)
              refine lv_iload hx hb dX12_polls_91 (lv_at hl 0 rfl) ?_
              refine lv_aload_n hx hb dX12_polls_93 rfl (lv_at hl 4 rfl) ?_
              refine lv_iload hx hb dX12_polls_94 (lv_at hl 0 rfl) ?_
              refine xi (wr := [(mso, .inl (cs 0, 16, .inl sof)), (mon, .inl (cs 0, 16, .inl onf)), (mot, .inl (cs 0, 16, .inl otf)), (man, .inl (cs 0, 16, .inl anf)), (ms, .inl (cs 0, 288, .inl f9)), (mkp, .inl (cs 0, 2304, .inl gz_7)), (hm, .inr (12, [.ref ms, .ref mkp, .int (nI kmz_6), .ref mtr, .int (nI n), .int (nI k), .int (nI al), .int (nI be), .int ea, .int pr, .ref mas, .int nq, .int p9, .int (nI en), .ref mso, .ref mon, .ref mot, .ref man, .int (nI 0), .int u_11, .ref mst, .ref msm, .ref mtb, .ref mti, .ref mfr, .ref mbn, .ref mbs, .ref mde, .int sF, .int sN, .int sS, .int ig, .long xa, .long xb, .ref maa, .ref mab, .ref mba, .ref mbb]))]) (xS (As := [.int (leftF en (f9 (72 + jx)))]) (rest := [.ref hm, .int (leftF en (f9 (72 + jx)))]) C (c_X12_many l D cs (leftF en (f9 (72 + jx)))) kX12_127 hP hD [] rfl (by decide) ⟨Nat.le_of_ble_eq_true rfl, Nat.le_of_ble_eq_true rfl⟩ rfl hl.1 rfl (Nat.le_of_ble_eq_true rfl) dX12_polls_96 ⟨Nat.le_of_ble_eq_true rfl, Nat.le_of_ble_eq_true rfl⟩) hP hD hS hA [] [0, 1, 2, 3, 4, 5, 6] rfl rfl (by decide) (by decide) ?_
              clear hP hD hS
              try clear locs
              try clear H
              intro r_14 u_15 H locs hw_r_14 hP hD hS
              have hw_r_14 : r_14 = nI (cntL (leftF en (f9 (72 + jx))) 16) := hw_r_14
              refine W.widen (k := 0) (n := 0) (Nat.le_of_ble_eq_true rfl) (Nat.le_of_ble_eq_true rfl) ?_
              replace hP : va_P D vwCl [(mso, .inl (cs 0, 16, .inl sof)), (mon, .inl (cs 0, 16, .inl onf)), (mot, .inl (cs 0, 16, .inl otf)), (man, .inl (cs 0, 16, .inl anf)), (ms, .inl (cs 0, 288, .inl f9)), (mkp, .inl (cs 0, 2304, .inl gz_7)), (hm, .inr (12, [.ref ms, .ref mkp, .int (nI kmz_6), .ref mtr, .int (nI n), .int (nI k), .int (nI al), .int (nI be), .int ea, .int pr, .ref mas, .int nq, .int p9, .int (nI en), .ref mso, .ref mon, .ref mot, .ref man, .int (nI 0), .int u_11, .ref mst, .ref msm, .ref mtb, .ref mti, .ref mfr, .ref mbn, .ref mbs, .ref mde, .int sF, .int sN, .int sS, .int ig, .long xa, .long xb, .ref maa, .ref mab, .ref mba, .ref mbb]))] H := hP
              replace hD : va_D A [(mso, .inl (cs 0, 16, .inl sof)), (mon, .inl (cs 0, 16, .inl onf)), (mot, .inl (cs 0, 16, .inl otf)), (man, .inl (cs 0, 16, .inl anf)), (ms, .inl (cs 0, 288, .inl f9)), (mkp, .inl (cs 0, 2304, .inl gz_7)), (hm, .inr (12, [.ref ms, .ref mkp, .int (nI kmz_6), .ref mtr, .int (nI n), .int (nI k), .int (nI al), .int (nI be), .int ea, .int pr, .ref mas, .int nq, .int p9, .int (nI en), .ref mso, .ref mon, .ref mot, .ref man, .int (nI 0), .int u_11, .ref mst, .ref msm, .ref mtb, .ref mti, .ref mfr, .ref mbn, .ref mbs, .ref mde, .int sF, .int sN, .int sS, .int ig, .long xa, .long xb, .ref maa, .ref mab, .ref mba, .ref mbb]))] := hD
              subst hw_r_14
              replace hP : va_P D vwCl [(mso, .inl (cs 0, 16, .inl sof)), (mon, .inl (cs 0, 16, .inl onf)), (mot, .inl (cs 0, 16, .inl otf)), (man, .inl (cs 0, 16, .inl anf)), (ms, .inl (cs 0, 288, .inl f9)), (mkp, .inl (cs 0, 2304, .inl gz_7)), (hm, .inr (12, [.ref ms, .ref mkp, .int (nI kmz_6), .ref mtr, .int (nI n), .int (nI k), .int (nI al), .int (nI be), .int ea, .int pr, .ref mas, .int nq, .int p9, .int (nI en), .ref mso, .ref mon, .ref mot, .ref man, .int (nI 0), .int u_11, .ref mst, .ref msm, .ref mtb, .ref mti, .ref mfr, .ref mbn, .ref mbs, .ref mde, .int sF, .int sN, .int sS, .int ig, .long xa, .long xb, .ref maa, .ref mab, .ref mba, .ref mbb]))] H := hP
              replace hD : va_D A [(mso, .inl (cs 0, 16, .inl sof)), (mon, .inl (cs 0, 16, .inl onf)), (mot, .inl (cs 0, 16, .inl otf)), (man, .inl (cs 0, 16, .inl anf)), (ms, .inl (cs 0, 288, .inl f9)), (mkp, .inl (cs 0, 2304, .inl gz_7)), (hm, .inr (12, [.ref ms, .ref mkp, .int (nI kmz_6), .ref mtr, .int (nI n), .int (nI k), .int (nI al), .int (nI be), .int ea, .int pr, .ref mas, .int nq, .int p9, .int (nI en), .ref mso, .ref mon, .ref mot, .ref man, .int (nI 0), .int u_11, .ref mst, .ref msm, .ref mtb, .ref mti, .ref mfr, .ref mbn, .ref mbs, .ref mde, .int sF, .int sN, .int sS, .int ig, .long xa, .long xb, .ref maa, .ref mab, .ref mba, .ref mbb]))] := hD
              refine xi (wr := [(mso, .inl (cs 0, 16, .inl sof)), (mon, .inl (cs 0, 16, .inl onf)), (mot, .inl (cs 0, 16, .inl otf)), (man, .inl (cs 0, 16, .inl anf)), (ms, .inl (cs 0, 288, .inl f9)), (mkp, .inl (cs 0, 2304, .inl gz_7))]) (xV (As := [.int (nI (cntL (leftF en (f9 (72 + jx))) 16))]) (rest := [.int (leftF en (f9 (72 + jx)))]) C (c_X12_draw_f l D cs hm ms mkp mtr mas mso mon mot man mst msm mtb mti mfr mbn mbs mde maa mab mba mbb n k al be kmz_6 en ea pr nq p9 (nI 0) u_11 sF sN sS ig xa xb (cntL (leftF en (f9 (72 + jx))) 16) hcm (Nat.lt_of_le_of_lt (cnt_le _ 16) (by decide))) kX12_156 hP hD [6] rfl (by decide) 0 rfl rfl rfl ⟨Nat.le_of_ble_eq_true rfl, Nat.le_of_ble_eq_true rfl⟩ rfl hl.1 rfl (Nat.le_of_ble_eq_true rfl) dX12_polls_99 ⟨Nat.le_of_ble_eq_true rfl, Nat.le_of_ble_eq_true rfl⟩) hP hD hS hA [6] [0, 1, 2, 3, 4, 5] rfl rfl (by decide) (by decide) ?_
              clear hP hD hS
              try clear locs
              try clear H
              intro r_16 u_17 H locs hw_r_16 hP hD hS
              have hw_r_16 : u_17 = nxD u_11 ∧ r_16 = drV (nxD u_11) (nI (cntL (leftF en (f9 (72 + jx))) 16)) ∧ ∃ j, j < (cntL (leftF en (f9 (72 + jx))) 16) ∧ r_16 = nI j := hw_r_16
              refine W.widen (k := 0) (n := 0) (Nat.le_of_ble_eq_true rfl) (Nat.le_of_ble_eq_true rfl) ?_
              replace hP : va_P D vwCl [(mso, .inl (cs 0, 16, .inl sof)), (mon, .inl (cs 0, 16, .inl onf)), (mot, .inl (cs 0, 16, .inl otf)), (man, .inl (cs 0, 16, .inl anf)), (ms, .inl (cs 0, 288, .inl f9)), (mkp, .inl (cs 0, 2304, .inl gz_7)), (hm, .inr (12, [.ref ms, .ref mkp, .int (nI kmz_6), .ref mtr, .int (nI n), .int (nI k), .int (nI al), .int (nI be), .int ea, .int pr, .ref mas, .int nq, .int p9, .int (nI en), .ref mso, .ref mon, .ref mot, .ref man, .int (nI 0), .int u_17, .ref mst, .ref msm, .ref mtb, .ref mti, .ref mfr, .ref mbn, .ref mbs, .ref mde, .int sF, .int sN, .int sS, .int ig, .long xa, .long xb, .ref maa, .ref mab, .ref mba, .ref mbb]))] H := hP
              replace hD : va_D A [(mso, .inl (cs 0, 16, .inl sof)), (mon, .inl (cs 0, 16, .inl onf)), (mot, .inl (cs 0, 16, .inl otf)), (man, .inl (cs 0, 16, .inl anf)), (ms, .inl (cs 0, 288, .inl f9)), (mkp, .inl (cs 0, 2304, .inl gz_7)), (hm, .inr (12, [.ref ms, .ref mkp, .int (nI kmz_6), .ref mtr, .int (nI n), .int (nI k), .int (nI al), .int (nI be), .int ea, .int pr, .ref mas, .int nq, .int p9, .int (nI en), .ref mso, .ref mon, .ref mot, .ref man, .int (nI 0), .int u_17, .ref mst, .ref msm, .ref mtb, .ref mti, .ref mfr, .ref mbn, .ref mbs, .ref mde, .int sF, .int sN, .int sS, .int ig, .long xa, .long xb, .ref maa, .ref mab, .ref mba, .ref mbb]))] := hD
              obtain ⟨ji, h_ji, rfl⟩ := hw_r_16.2.2
              replace hP : va_P D vwCl [(mso, .inl (cs 0, 16, .inl sof)), (mon, .inl (cs 0, 16, .inl onf)), (mot, .inl (cs 0, 16, .inl otf)), (man, .inl (cs 0, 16, .inl anf)), (ms, .inl (cs 0, 288, .inl f9)), (mkp, .inl (cs 0, 2304, .inl gz_7)), (hm, .inr (12, [.ref ms, .ref mkp, .int (nI kmz_6), .ref mtr, .int (nI n), .int (nI k), .int (nI al), .int (nI be), .int ea, .int pr, .ref mas, .int nq, .int p9, .int (nI en), .ref mso, .ref mon, .ref mot, .ref man, .int (nI 0), .int u_17, .ref mst, .ref msm, .ref mtb, .ref mti, .ref mfr, .ref mbn, .ref mbs, .ref mde, .int sF, .int sN, .int sS, .int ig, .long xa, .long xb, .ref maa, .ref mab, .ref mba, .ref mbb]))] H := hP
              replace hD : va_D A [(mso, .inl (cs 0, 16, .inl sof)), (mon, .inl (cs 0, 16, .inl onf)), (mot, .inl (cs 0, 16, .inl otf)), (man, .inl (cs 0, 16, .inl anf)), (ms, .inl (cs 0, 288, .inl f9)), (mkp, .inl (cs 0, 2304, .inl gz_7)), (hm, .inr (12, [.ref ms, .ref mkp, .int (nI kmz_6), .ref mtr, .int (nI n), .int (nI k), .int (nI al), .int (nI be), .int ea, .int pr, .ref mas, .int nq, .int p9, .int (nI en), .ref mso, .ref mon, .ref mot, .ref man, .int (nI 0), .int u_17, .ref mst, .ref msm, .ref mtb, .ref mti, .ref mfr, .ref mbn, .ref mbs, .ref mde, .int sF, .int sN, .int sS, .int ig, .long xa, .long xb, .ref maa, .ref mab, .ref mba, .ref mbb]))] := hD
              refine xi (wr := [(mso, .inl (cs 0, 16, .inl sof)), (mon, .inl (cs 0, 16, .inl onf)), (mot, .inl (cs 0, 16, .inl otf)), (man, .inl (cs 0, 16, .inl anf)), (ms, .inl (cs 0, 288, .inl f9)), (mkp, .inl (cs 0, 2304, .inl gz_7)), (hm, .inr (12, [.ref ms, .ref mkp, .int (nI kmz_6), .ref mtr, .int (nI n), .int (nI k), .int (nI al), .int (nI be), .int ea, .int pr, .ref mas, .int nq, .int p9, .int (nI en), .ref mso, .ref mon, .ref mot, .ref man, .int (nI 0), .int u_17, .ref mst, .ref msm, .ref mtb, .ref mti, .ref mfr, .ref mbn, .ref mbs, .ref mde, .int sF, .int sN, .int sS, .int ig, .long xa, .long xb, .ref maa, .ref mab, .ref mba, .ref mbb]))]) (xS (As := [.int (leftF en (f9 (72 + jx))), .int (nI ji)]) (rest := []) C (c_X12_nth_f l D cs (leftF en (f9 (72 + jx))) ji (by assumption)) kX12_159 hP hD [] rfl (by decide) ⟨Nat.le_of_ble_eq_true rfl, Nat.le_of_ble_eq_true rfl⟩ rfl hl.1 rfl (Nat.le_of_ble_eq_true rfl) dX12_polls_102 ⟨Nat.le_of_ble_eq_true rfl, Nat.le_of_ble_eq_true rfl⟩) hP hD hS hA [] [0, 1, 2, 3, 4, 5, 6] rfl rfl (by decide) (by decide) ?_
              clear hP hD hS
              try clear locs
              try clear H
              intro r_18 u_19 H locs hw_r_18 hP hD hS
              have hw_r_18 : ∃ b, b < 16 ∧ r_18 = nI b ∧ hasB (leftF en (f9 (72 + jx))) b ∧ b = nthB (leftF en (f9 (72 + jx))) 31 (nI ji) := hw_r_18
              refine W.widen (k := 0) (n := 0) (Nat.le_of_ble_eq_true rfl) (Nat.le_of_ble_eq_true rfl) ?_
              replace hP : va_P D vwCl [(mso, .inl (cs 0, 16, .inl sof)), (mon, .inl (cs 0, 16, .inl onf)), (mot, .inl (cs 0, 16, .inl otf)), (man, .inl (cs 0, 16, .inl anf)), (ms, .inl (cs 0, 288, .inl f9)), (mkp, .inl (cs 0, 2304, .inl gz_7)), (hm, .inr (12, [.ref ms, .ref mkp, .int (nI kmz_6), .ref mtr, .int (nI n), .int (nI k), .int (nI al), .int (nI be), .int ea, .int pr, .ref mas, .int nq, .int p9, .int (nI en), .ref mso, .ref mon, .ref mot, .ref man, .int (nI 0), .int u_17, .ref mst, .ref msm, .ref mtb, .ref mti, .ref mfr, .ref mbn, .ref mbs, .ref mde, .int sF, .int sN, .int sS, .int ig, .long xa, .long xb, .ref maa, .ref mab, .ref mba, .ref mbb]))] H := hP
              replace hD : va_D A [(mso, .inl (cs 0, 16, .inl sof)), (mon, .inl (cs 0, 16, .inl onf)), (mot, .inl (cs 0, 16, .inl otf)), (man, .inl (cs 0, 16, .inl anf)), (ms, .inl (cs 0, 288, .inl f9)), (mkp, .inl (cs 0, 2304, .inl gz_7)), (hm, .inr (12, [.ref ms, .ref mkp, .int (nI kmz_6), .ref mtr, .int (nI n), .int (nI k), .int (nI al), .int (nI be), .int ea, .int pr, .ref mas, .int nq, .int p9, .int (nI en), .ref mso, .ref mon, .ref mot, .ref man, .int (nI 0), .int u_17, .ref mst, .ref msm, .ref mtb, .ref mti, .ref mfr, .ref mbn, .ref mbs, .ref mde, .int sF, .int sN, .int sS, .int ig, .long xa, .long xb, .ref maa, .ref mab, .ref mba, .ref mbb]))] := hD
              obtain ⟨e9, h_e9, rfl, hbe, hne9⟩ := hw_r_18
              replace hP : va_P D vwCl [(mso, .inl (cs 0, 16, .inl sof)), (mon, .inl (cs 0, 16, .inl onf)), (mot, .inl (cs 0, 16, .inl otf)), (man, .inl (cs 0, 16, .inl anf)), (ms, .inl (cs 0, 288, .inl f9)), (mkp, .inl (cs 0, 2304, .inl gz_7)), (hm, .inr (12, [.ref ms, .ref mkp, .int (nI kmz_6), .ref mtr, .int (nI n), .int (nI k), .int (nI al), .int (nI be), .int ea, .int pr, .ref mas, .int nq, .int p9, .int (nI en), .ref mso, .ref mon, .ref mot, .ref man, .int (nI 0), .int u_17, .ref mst, .ref msm, .ref mtb, .ref mti, .ref mfr, .ref mbn, .ref mbs, .ref mde, .int sF, .int sN, .int sS, .int ig, .long xa, .long xb, .ref maa, .ref mab, .ref mba, .ref mbb]))] H := hP
              replace hD : va_D A [(mso, .inl (cs 0, 16, .inl sof)), (mon, .inl (cs 0, 16, .inl onf)), (mot, .inl (cs 0, 16, .inl otf)), (man, .inl (cs 0, 16, .inl anf)), (ms, .inl (cs 0, 288, .inl f9)), (mkp, .inl (cs 0, 2304, .inl gz_7)), (hm, .inr (12, [.ref ms, .ref mkp, .int (nI kmz_6), .ref mtr, .int (nI n), .int (nI k), .int (nI al), .int (nI be), .int ea, .int pr, .ref mas, .int nq, .int p9, .int (nI en), .ref mso, .ref mon, .ref mot, .ref man, .int (nI 0), .int u_17, .ref mst, .ref msm, .ref mtb, .ref mti, .ref mfr, .ref mbn, .ref mbs, .ref mde, .int sF, .int sN, .int sS, .int ig, .long xa, .long xb, .ref maa, .ref mab, .ref mba, .ref mbb]))] := hD
              have hee : e9 < en := ((left_bit hen (by omega)).mp hbe).1
              refine lv_istore (lv' := [(7, .int (nI e9)), (6, .int (leftF en (f9 (72 + jx)))), (5, .int (nI jx)), (4, .int (nI o)), (3, .int c9), (0, .ref hm), (1, .int (nI nn)), (2, .int sd)]) hx hb dX12_polls_105 hl (by decide) rfl ?_
              clear hl
              try clear ls
              intro ls hl
              refine lv_aload_n hx hb dX12_polls_107 rfl (lv_at hl 5 rfl) ?_
              refine lv_iload hx hb dX12_polls_108 (lv_at hl 2 rfl) ?_
              refine xi (wr := [(mso, .inl (cs 0, 16, .inl sof)), (mon, .inl (cs 0, 16, .inl onf)), (mot, .inl (cs 0, 16, .inl otf)), (man, .inl (cs 0, 16, .inl anf)), (ms, .inl (cs 0, 288, .inl f9)), (mkp, .inl (cs 0, 2304, .inl gz_7))]) (xV (As := [.int (nI jx)]) (rest := []) C (c_X12_drawSample_f l D cs hm ms mkp mtr mas mso mon mot man mst msm mtb mti mfr mbn mbs mde maa mab mba mbb n k al be kmz_6 en ea pr nq p9 (nI 0) u_17 sF sN sS ig xa xb jx hn hkn (by omega)) kX12_162 hP hD [6] rfl (by decide) 0 rfl rfl rfl ⟨Nat.le_of_ble_eq_true rfl, Nat.le_of_ble_eq_true rfl⟩ rfl hl.1 rfl (Nat.le_of_ble_eq_true rfl) dX12_polls_110 ⟨Nat.le_of_ble_eq_true rfl, Nat.le_of_ble_eq_true rfl⟩) hP hD hS hA [6] [0, 1, 2, 3, 4, 5] rfl rfl (by decide) (by decide) ?_
              clear hP hD hS
              try clear locs
              try clear H
              intro r_20 u_21 H locs hw_r_20 hP hD hS
              have hw_r_20 : ∃ l9, dsI n (u_17, lefI n jx, nI 0) k u_21 l9 r_20 := hw_r_20
              refine W.widen (k := 0) (n := 0) (Nat.le_of_ble_eq_true rfl) (Nat.le_of_ble_eq_true rfl) ?_
              replace hP : va_P D vwCl [(mso, .inl (cs 0, 16, .inl sof)), (mon, .inl (cs 0, 16, .inl onf)), (mot, .inl (cs 0, 16, .inl otf)), (man, .inl (cs 0, 16, .inl anf)), (ms, .inl (cs 0, 288, .inl f9)), (mkp, .inl (cs 0, 2304, .inl gz_7)), (hm, .inr (12, [.ref ms, .ref mkp, .int (nI kmz_6), .ref mtr, .int (nI n), .int (nI k), .int (nI al), .int (nI be), .int ea, .int pr, .ref mas, .int nq, .int p9, .int (nI en), .ref mso, .ref mon, .ref mot, .ref man, .int (nI 0), .int u_21, .ref mst, .ref msm, .ref mtb, .ref mti, .ref mfr, .ref mbn, .ref mbs, .ref mde, .int sF, .int sN, .int sS, .int ig, .long xa, .long xb, .ref maa, .ref mab, .ref mba, .ref mbb]))] H := hP
              replace hD : va_D A [(mso, .inl (cs 0, 16, .inl sof)), (mon, .inl (cs 0, 16, .inl onf)), (mot, .inl (cs 0, 16, .inl otf)), (man, .inl (cs 0, 16, .inl anf)), (ms, .inl (cs 0, 288, .inl f9)), (mkp, .inl (cs 0, 2304, .inl gz_7)), (hm, .inr (12, [.ref ms, .ref mkp, .int (nI kmz_6), .ref mtr, .int (nI n), .int (nI k), .int (nI al), .int (nI be), .int ea, .int pr, .ref mas, .int nq, .int p9, .int (nI en), .ref mso, .ref mon, .ref mot, .ref man, .int (nI 0), .int u_21, .ref mst, .ref msm, .ref mtb, .ref mti, .ref mfr, .ref mbn, .ref mbs, .ref mde, .int sF, .int sN, .int sS, .int ig, .long xa, .long xb, .ref maa, .ref mab, .ref mba, .ref mbb]))] := hD
              obtain ⟨l8, hl8⟩ := hw_r_20
              refine lv_istore (lv' := [(8, .int r_20), (7, .int (nI e9)), (6, .int (leftF en (f9 (72 + jx)))), (5, .int (nI jx)), (4, .int (nI o)), (3, .int c9), (0, .ref hm), (1, .int (nI nn)), (2, .int sd)]) hx hb dX12_polls_113 hl (by decide) rfl ?_
              clear hl
              try clear ls
              intro ls hl
              refine lv_aload_n hx hb dX12_polls_115 rfl (lv_at hl 6 rfl) ?_
              refine lv_iload hx hb dX12_polls_116 (lv_at hl 3 rfl) ?_
              refine lv_iload hx hb dX12_polls_118 (lv_at hl 1 rfl) ?_
              refine lv_iload hx hb dX12_polls_120 (lv_at hl 0 rfl) ?_
              refine xi (wr := [(mkp, .inl (cs 0, 2304, .inl gz_7))]) (xV (As := [.int (nI jx), .int (nI e9), .int r_20]) (rest := []) C (c_X12_pollsOne_b l D cs hm ms mkp mtr mas mso mon mot man mst msm mtb mti mfr mbn mbs mde maa mab mba mbb n k al be kmz_6 en ea pr nq p9 (nI 0) u_21 sF sN sS ig xa xb f9 sof onf otf anf jx e9 r_20 hn hen hso (by omega) (by omega) hon hot (hq9 _ (by omega)) hal) kX12_348 hP hD [6, 4, 0, 1, 2, 3] rfl (by decide) 0 rfl rfl rfl ⟨Nat.le_of_ble_eq_true rfl, Nat.le_of_ble_eq_true rfl⟩ rfl hl.1 rfl (Nat.le_of_ble_eq_true rfl) dX12_polls_122 ⟨Nat.le_of_ble_eq_true rfl, Nat.le_of_ble_eq_true rfl⟩) hP hD hS hA [6, 4, 0, 1, 2, 3] [5] rfl rfl (by decide) (by decide) ?_
              clear hP hD hS
              try clear locs
              try clear H
              intro r_22 u_23 H locs hw_r_22 hP hD hS
              obtain ⟨fz_24, poz_25⟩ := u_23
              have hw_r_22 : hldM n al be en ea sof onf otf anf jx e9 r_20 r_22 f9 fz_24 ∧ poz_25 = p9 + nI 1 := hw_r_22
              refine W.widen (k := 0) (n := 0) (Nat.le_of_ble_eq_true rfl) (Nat.le_of_ble_eq_true rfl) ?_
              replace hP : va_P D vwCl [(mkp, .inl (cs 0, 2304, .inl gz_7)), (hm, .inr (12, [.ref ms, .ref mkp, .int (nI kmz_6), .ref mtr, .int (nI n), .int (nI k), .int (nI al), .int (nI be), .int ea, .int pr, .ref mas, .int nq, .int poz_25, .int (nI en), .ref mso, .ref mon, .ref mot, .ref man, .int (nI 0), .int u_21, .ref mst, .ref msm, .ref mtb, .ref mti, .ref mfr, .ref mbn, .ref mbs, .ref mde, .int sF, .int sN, .int sS, .int ig, .long xa, .long xb, .ref maa, .ref mab, .ref mba, .ref mbb])), (ms, .inl (cs 0, 288, .inl fz_24)), (mso, .inl (cs 0, 16, .inl sof)), (mon, .inl (cs 0, 16, .inl onf)), (mot, .inl (cs 0, 16, .inl otf)), (man, .inl (cs 0, 16, .inl anf))] H := hP
              replace hD : va_D A [(mkp, .inl (cs 0, 2304, .inl gz_7)), (hm, .inr (12, [.ref ms, .ref mkp, .int (nI kmz_6), .ref mtr, .int (nI n), .int (nI k), .int (nI al), .int (nI be), .int ea, .int pr, .ref mas, .int nq, .int poz_25, .int (nI en), .ref mso, .ref mon, .ref mot, .ref man, .int (nI 0), .int u_21, .ref mst, .ref msm, .ref mtb, .ref mti, .ref mfr, .ref mbn, .ref mbs, .ref mde, .int sF, .int sN, .int sS, .int ig, .long xa, .long xb, .ref maa, .ref mab, .ref mba, .ref mbb])), (ms, .inl (cs 0, 288, .inl fz_24)), (mso, .inl (cs 0, 16, .inl sof)), (mon, .inl (cs 0, 16, .inl onf)), (mot, .inl (cs 0, 16, .inl otf)), (man, .inl (cs 0, 16, .inl anf))] := hD
              refine lv_if_le (tgt := 149) hx hb dX12_polls_125 (by decide) (fun c_26 => ?_) (fun c_26 => ?_)
              · -- 125 t
                refine lv_iinc (v := nI (o + 1)) (lv' := [(4, .int (nI (o + 1))), (8, .int r_20), (7, .int (nI e9)), (6, .int (leftF en (f9 (72 + jx)))), (5, .int (nI jx)), (3, .int c9), (0, .ref hm), (1, .int (nI nn)), (2, .int sd)]) hx hb dX12_polls_149 hl (k := 4) rfl (nI_add o 1) (by decide) rfl ?_
                clear hl
                try clear ls
                intro ls hl
                refine lv_goto (tgt := 31) hx hb dX12_polls_152 (by decide) ?_
                exact ih_loop_8 (o + 1) fz_24 poz_25 u_21 c9 (by omega) (hldM.col hs9 (by omega) hso hen hw_r_22.1) (hldM.prf hq9 (by omega) hso hen hw_r_22.1) (⟨_, hR9, jx, h_jx, hw_r_10.2.1, Or.inr ⟨c_12, c_13, e9, l8, _, _, hee, by rw [hne9, ← hw_r_10.1, ← hw_r_16.2.1], by rw [← hw_r_10.1, ← hw_r_16.1]; exact hl8, hw_r_22.1, hw_r_22.2, Or.inr ⟨fun q => absurd q.1 (Int32.not_lt.mpr c_26), rfl⟩⟩⟩) (by omega) H locs ls (xP_map hP [3, 4, 5, 6, 1, 2, 0] rfl) (hD.sub [3, 4, 5, 6, 1, 2, 0] (by decide) rfl) hS (lv_sub hl [0, 5, 6, 7, 8] rfl)
              · -- 125 f
                refine lv_aload_n hx hb dX12_polls_128 rfl (lv_at hl 6 rfl) ?_
                refine xget C hP 1 rfl rfl zuX12 0 (by decide) zw5_213 rfl dX12_polls_129 ?_
                refine lv_bipush (v := nI 64) hx hb dX12_polls_132 (by decide) ?_
                refine lv_iload hx hb dX12_polls_134 (lv_at hl 3 rfl) ?_
                refine lv_iadd hx hb dX12_polls_136 ?_
                refine lv_topi (nm_r (e' := nI (64 + jx)) (nI_add _ _) ?_)
                refine xiald C hP 2 rfl (64 + jx) rfl (by omega) (by decide) dX12_polls_137 ?_
                refine lv_iload hx hb dX12_polls_138 (lv_at hl 1 rfl) ?_
                refine xi (wr := [(mkp, .inl (cs 0, 2304, .inl gz_7)), (hm, .inr (12, [.ref ms, .ref mkp, .int (nI kmz_6), .ref mtr, .int (nI n), .int (nI k), .int (nI al), .int (nI be), .int ea, .int pr, .ref mas, .int nq, .int poz_25, .int (nI en), .ref mso, .ref mon, .ref mot, .ref man, .int (nI 0), .int u_21, .ref mst, .ref msm, .ref mtb, .ref mti, .ref mfr, .ref mbn, .ref mbs, .ref mde, .int sF, .int sN, .int sS, .int ig, .long xa, .long xb, .ref maa, .ref mab, .ref mba, .ref mbb])), (ms, .inl (cs 0, 288, .inl fz_24)), (mso, .inl (cs 0, 16, .inl sof)), (mon, .inl (cs 0, 16, .inl onf)), (mot, .inl (cs 0, 16, .inl otf)), (man, .inl (cs 0, 16, .inl anf))]) (xS (As := [.int (fz_24 (64 + jx)), .int (nI e9)]) (rest := []) C (c_X12_has l D cs (fz_24 (64 + jx)) e9) kX12_100 hP hD [] rfl (by decide) ⟨Nat.le_of_ble_eq_true rfl, Nat.le_of_ble_eq_true rfl⟩ rfl hl.1 rfl (Nat.le_of_ble_eq_true rfl) dX12_polls_140 ⟨Nat.le_of_ble_eq_true rfl, Nat.le_of_ble_eq_true rfl⟩) hP hD hS hA [] [0, 1, 2, 3, 4, 5, 6] rfl rfl (by decide) (by decide) ?_
                clear hP hD hS
                try clear locs
                try clear H
                intro r_27 u_28 H locs hw_r_27 hP hD hS
                have hw_r_27 : PQ (hasB (fz_24 (64 + jx)) e9) r_27 (nI 1) (nI 0) := hw_r_27
                refine W.widen (k := 0) (n := 0) (Nat.le_of_ble_eq_true rfl) (Nat.le_of_ble_eq_true rfl) ?_
                replace hP : va_P D vwCl [(mkp, .inl (cs 0, 2304, .inl gz_7)), (hm, .inr (12, [.ref ms, .ref mkp, .int (nI kmz_6), .ref mtr, .int (nI n), .int (nI k), .int (nI al), .int (nI be), .int ea, .int pr, .ref mas, .int nq, .int poz_25, .int (nI en), .ref mso, .ref mon, .ref mot, .ref man, .int (nI 0), .int u_21, .ref mst, .ref msm, .ref mtb, .ref mti, .ref mfr, .ref mbn, .ref mbs, .ref mde, .int sF, .int sN, .int sS, .int ig, .long xa, .long xb, .ref maa, .ref mab, .ref mba, .ref mbb])), (ms, .inl (cs 0, 288, .inl fz_24)), (mso, .inl (cs 0, 16, .inl sof)), (mon, .inl (cs 0, 16, .inl onf)), (mot, .inl (cs 0, 16, .inl otf)), (man, .inl (cs 0, 16, .inl anf))] H := hP
                replace hD : va_D A [(mkp, .inl (cs 0, 2304, .inl gz_7)), (hm, .inr (12, [.ref ms, .ref mkp, .int (nI kmz_6), .ref mtr, .int (nI n), .int (nI k), .int (nI al), .int (nI be), .int ea, .int pr, .ref mas, .int nq, .int poz_25, .int (nI en), .ref mso, .ref mon, .ref mot, .ref man, .int (nI 0), .int u_21, .ref mst, .ref msm, .ref mtb, .ref mti, .ref mfr, .ref mbn, .ref mbs, .ref mde, .int sF, .int sN, .int sS, .int ig, .long xa, .long xb, .ref maa, .ref mab, .ref mba, .ref mbb])), (ms, .inl (cs 0, 288, .inl fz_24)), (mso, .inl (cs 0, 16, .inl sof)), (mon, .inl (cs 0, 16, .inl onf)), (mot, .inl (cs 0, 16, .inl otf)), (man, .inl (cs 0, 16, .inl anf))] := hD
                refine lv_if_eq (tgt := 149) hx hb dX12_polls_143 (by decide) (fun c_29 => ?_) (fun c_29 => ?_)
                · -- 143 t
                  refine lv_iinc (v := nI (o + 1)) (lv' := [(4, .int (nI (o + 1))), (8, .int r_20), (7, .int (nI e9)), (6, .int (leftF en (f9 (72 + jx)))), (5, .int (nI jx)), (3, .int c9), (0, .ref hm), (1, .int (nI nn)), (2, .int sd)]) hx hb dX12_polls_149 hl (k := 4) rfl (nI_add o 1) (by decide) rfl ?_
                  clear hl
                  try clear ls
                  intro ls hl
                  refine lv_goto (tgt := 31) hx hb dX12_polls_152 (by decide) ?_
                  exact ih_loop_8 (o + 1) fz_24 poz_25 u_21 c9 (by omega) (hldM.col hs9 (by omega) hso hen hw_r_22.1) (hldM.prf hq9 (by omega) hso hen hw_r_22.1) (⟨_, hR9, jx, h_jx, hw_r_10.2.1, Or.inr ⟨c_12, c_13, e9, l8, _, _, hee, by rw [hne9, ← hw_r_10.1, ← hw_r_16.2.1], by rw [← hw_r_10.1, ← hw_r_16.1]; exact hl8, hw_r_22.1, hw_r_22.2, Or.inr ⟨fun q => PQ.no hw_r_27 c_29 (by decide) q.2, rfl⟩⟩⟩) (by omega) H locs ls (xP_map hP [3, 4, 5, 6, 1, 2, 0] rfl) (hD.sub [3, 4, 5, 6, 1, 2, 0] (by decide) rfl) hS (lv_sub hl [0, 5, 6, 7, 8] rfl)
                · -- 143 f
                  refine lv_iinc (v := c9 + 1) (lv' := [(3, .int (c9 + 1)), (8, .int r_20), (7, .int (nI e9)), (6, .int (leftF en (f9 (72 + jx)))), (5, .int (nI jx)), (4, .int (nI o)), (0, .ref hm), (1, .int (nI nn)), (2, .int sd)]) hx hb dX12_polls_146 hl (k := 5) rfl rfl (by decide) rfl ?_
                  clear hl
                  try clear ls
                  intro ls hl
                  refine lv_iinc (v := nI (o + 1)) (lv' := [(4, .int (nI (o + 1))), (3, .int (c9 + 1)), (8, .int r_20), (7, .int (nI e9)), (6, .int (leftF en (f9 (72 + jx)))), (5, .int (nI jx)), (0, .ref hm), (1, .int (nI nn)), (2, .int sd)]) hx hb dX12_polls_149 hl (k := 5) rfl (nI_add o 1) (by decide) rfl ?_
                  clear hl
                  try clear ls
                  intro ls hl
                  refine lv_goto (tgt := 31) hx hb dX12_polls_152 (by decide) ?_
                  exact ih_loop_8 (o + 1) fz_24 poz_25 u_21 (c9 + 1) (by omega) (hldM.col hs9 (by omega) hso hen hw_r_22.1) (hldM.prf hq9 (by omega) hso hen hw_r_22.1) (⟨_, hR9, jx, h_jx, hw_r_10.2.1, Or.inr ⟨c_12, c_13, e9, l8, _, _, hee, by rw [hne9, ← hw_r_10.1, ← hw_r_16.2.1], by rw [← hw_r_10.1, ← hw_r_16.1]; exact hl8, hw_r_22.1, hw_r_22.2, Or.inl ⟨Int32.not_le.mp c_26, PQ.yes hw_r_27 c_29, rfl⟩⟩⟩) (by omega) H locs ls (xP_map hP [3, 4, 5, 6, 1, 2, 0] rfl) (hD.sub [3, 4, 5, 6, 1, 2, 0] (by decide) rfl) hS (lv_sub hl [0, 1, 6, 7, 8] rfl)
            · -- 85 f
              refine lv_goto (tgt := 149) hx hb dX12_polls_88 (by decide) ?_
              refine lv_iinc (v := nI (o + 1)) (lv' := [(4, .int (nI (o + 1))), (6, .int (leftF en (f9 (72 + jx)))), (5, .int (nI jx)), (3, .int c9), (0, .ref hm), (1, .int (nI nn)), (2, .int sd)]) hx hb dX12_polls_149 hl (k := 2) rfl (nI_add o 1) (by decide) rfl ?_
              clear hl
              try clear ls
              intro ls hl
              refine lv_goto (tgt := 31) hx hb dX12_polls_152 (by decide) ?_
              exact ih_loop_8 (o + 1) f9 p9 u_11 c9 (by omega) hs9 hq9 (⟨_, hR9, jx, h_jx, hw_r_10.2.1, Or.inl ⟨fun q => q.2 c_13, by rw [hw_r_10.1]⟩⟩) (by omega) H locs ls (xP_map hP [0, 1, 2, 3, 6, 4, 5] rfl) (hD.sub [0, 1, 2, 3, 6, 4, 5] (by decide) rfl) hS (lv_sub hl [0, 3, 4, 5, 6] rfl)
    exact loop_8 _ 0 f po sd (nI 0) (by omega) hs hprf rfl (Nat.lt_succ_self _) H locs ls hP hD hS (lv_sub hl [0, 1, 2, 3, 4] rfl)
  · -- 12 f
    refine lv_iconst (v := (-1)) hx hb dX12_polls_15 (by decide) ?_
    exact xreti C (⟨km, f, g, po, xd⟩) (⟨⟨hs, hk, hkm⟩, Or.inr ⟨fun q => PQ.no hw_r_1 c_3 (by decide) q, rfl, ⟨rfl, rfl, rfl⟩, rfl, rfl⟩⟩) hP hD hS (Nat.le_of_ble_eq_true rfl) (Nat.le_of_ble_eq_true rfl) rfl dX12_polls_16
