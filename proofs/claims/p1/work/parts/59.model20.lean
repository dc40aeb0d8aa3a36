theorem l64_abs {a b : Int64} (h : a = b) : a = b := h
def mtV (a b v : Int64) : Bool := if a = 0 ∨ b = 0 then v == 0 else (a * b == v && (a * b) / b == a)
theorem mtV_0 {a b v : Int64} (h : mtV a b v = true) (q : a = 0 ∨ b = 0) : 0 = v := by
  unfold mtV at h
  rw [if_pos q] at h
  exact (eq_of_beq h).symm
theorem mtV_1 {a b v : Int64} (h : mtV a b v = true) (q : a ≠ 0) (q2 : b ≠ 0) : a * b = v ∧ (a * b) / b = a := by
  unfold mtV at h
  rw [if_neg (fun z => z.elim q q2)] at h
  exact ⟨eq_of_beq (Bool.and_eq_true_iff.mp h).1, eq_of_beq (Bool.and_eq_true_iff.mp h).2⟩
def plB (a b : Int64) : Bool := !(decide (a < 0) == decide (b < 0)) || (decide (a + b < 0) == decide (a < 0))
def abL (p : Int64) : Int64 := if p < 0 then -p else p
def gcE : Nat → Int64 → Int64 → Bool
  | 0, _, z => z == 0
  | k + 1, g, z => z == 0 || gcE k z (g - g / z * z)
theorem gcE_s {k : Nat} {g z : Int64} (h : gcE k g z = true) (hz : z ≠ 0) : ∃ j, k = j + 1 ∧ gcE j z (g - g / z * z) = true ∧ gcR k g z = gcR j z (g - g / z * z) := by
  cases k with
  | zero => exact absurd (eq_of_beq h) hz
  | succ j =>
    refine ⟨j, rfl, ?_, if_neg hz⟩
    rcases Bool.or_eq_true_iff.mp h with q | q
    · exact absurd (eq_of_beq q) hz
    · exact q
theorem gcR_0 (k : Nat) (g : Int64) : gcR k g 0 = g := by
  cases k with
  | zero => rfl
  | succ j => exact if_pos rfl
def stV (p q va vb : Int64) : Bool := gcE 60 (abL p) q && (!(gcR 60 (abL p) q == 0) && (p / gcR 60 (abL p) q == va && q / gcR 60 (abL p) q == vb))
theorem stV_s {p q va vb : Int64} (h : stV p q va vb = true) : gcE 60 (abL p) q = true ∧ gcR 60 (abL p) q ≠ 0 ∧ p / gcR 60 (abL p) q = va ∧ q / gcR 60 (abL p) q = vb := by
  unfold stV at h
  obtain ⟨h1, h2⟩ := Bool.and_eq_true_iff.mp h
  obtain ⟨h3, h4⟩ := Bool.and_eq_true_iff.mp h2
  obtain ⟨h5, h6⟩ := Bool.and_eq_true_iff.mp h4
  refine ⟨h1, fun z => ?_, eq_of_beq h5, eq_of_beq h6⟩
  rw [z] at h3
  exact absurd h3 (by decide)
def lt4 (a b c d : Int64) (j : Nat) : Int64 := if j = 0 then a else if j = 1 then b else if j = 2 then c else if j = 3 then d else 0

set_option maxHeartbeats 4000000 in
set_option maxRecDepth 100000 in
theorem c_X12_times (l : Launch) (D : va_G) (cs : Nat → ClassId) (hm ms mkp mtr mas mso mon mot man mst msm mtb mti mfr mbn mbs mde maa mab mba mbb : Nat) (ab be : Int64) (a b v : Int64) (hv : mtV a b v = true) : xMet l D cs yX12_times cX12_times 7 (some .long) ({ frames := 0, cells := 0, slots := 0, locals := 0 } : Room) [.ref hm, .long a, .long b] [(hm, .inr (12, [.ref ms, .ref mkp, .int (nI 0), .ref mtr, .int (nI 4), .int (nI 2), .int (nI 2), .int (nI 3), .int (nI 2), .int (nI 1), .ref mas, .int (nI 0), .int (nI 0), .int (nI 0), .ref mso, .ref mon, .ref mot, .ref man, .int (nI 0), .int (nI 0), .ref mst, .ref msm, .ref mtb, .ref mti, .ref mfr, .ref mbn, .ref mbs, .ref mde, .int (nI 0), .int (nI 0), .int (nI 0), .int (nI 0), .long ab, .long be, .ref maa, .ref mab, .ref mba, .ref mbb]))] (xQl D (fun (r : Int64) (_u : Unit) => r = v) (fun (_u : Unit) => [(hm, .inr (12, [.ref ms, .ref mkp, .int (nI 0), .ref mtr, .int (nI 4), .int (nI 2), .int (nI 2), .int (nI 3), .int (nI 2), .int (nI 1), .ref mas, .int (nI 0), .int (nI 0), .int (nI 0), .ref mso, .ref mon, .ref mot, .ref man, .int (nI 0), .int (nI 0), .ref mst, .ref msm, .ref mtb, .ref mti, .ref mfr, .ref mbn, .ref mbs, .ref mde, .int (nI 0), .int (nI 0), .int (nI 0), .int (nI 0), .long ab, .long be, .ref maa, .ref mab, .ref mba, .ref mbb]))])) := by
  refine xMet.intro (by decide) (Nat.le_of_ble_eq_true rfl) ?_
  intro p e s m args below meth c A ls C hP hD hS hl
  have hx := C.1
  have hb := C.2.1
  have hz := C.2.2.2.2.1
  have hown := C.2.2.2.1
  have hA := C.2.2.2.2.2.2.2.2.2
  have hAO := C.2.2.2.2.2.2.2.2.1.2.2
  replace hl : lv_has ls 7 [(0, .ref hm), (1, .long a), (3, .long b)] := hl
  obtain ⟨H, hH⟩ : ∃ H, H = s.heap := ⟨_, rfl⟩
  replace hP : va_P D vwCl [(hm, .inr (12, [.ref ms, .ref mkp, .int (nI 0), .ref mtr, .int (nI 4), .int (nI 2), .int (nI 2), .int (nI 3), .int (nI 2), .int (nI 1), .ref mas, .int (nI 0), .int (nI 0), .int (nI 0), .ref mso, .ref mon, .ref mot, .ref man, .int (nI 0), .int (nI 0), .ref mst, .ref msm, .ref mtb, .ref mti, .ref mfr, .ref mbn, .ref mbs, .ref mde, .int (nI 0), .int (nI 0), .int (nI 0), .int (nI 0), .long ab, .long be, .ref maa, .ref mab, .ref mba, .ref mbb]))] H := by rw [hH]; exact hP
  replace hS : va_S A s.heap H [] := by rw [hH]; exact hS
  obtain ⟨locs, hlocs⟩ : ∃ z : List Loc, z = [] := ⟨_, rfl⟩
  rw [← hlocs] at hS
  suffices hW : W p l e ({ frames := 0, cells := 0, slots := 0, locals := 0 } : Room) s m args below meth c H locs 0 0 (MQ below ((xQl D (fun (r : Int64) (_u : Unit) => r = v) (fun (_u : Unit) => [(hm, .inr (12, [.ref ms, .ref mkp, .int (nI 0), .ref mtr, .int (nI 4), .int (nI 2), .int (nI 2), .int (nI 3), .int (nI 2), .int (nI 1), .ref mas, .int (nI 0), .int (nI 0), .int (nI 0), .ref mso, .ref mon, .ref mot, .ref man, .int (nI 0), .int (nI 0), .ref mst, .ref msm, .ref mtb, .ref mti, .ref mfr, .ref mbn, .ref mbs, .ref mde, .int (nI 0), .int (nI 0), .int (nI 0), .int (nI 0), .long ab, .long be, .ref maa, .ref mab, .ref mba, .ref mbb]))])) A) args s 0 0 A) (F0 m 0 ls []) by rw [hlocs, hH] at hW; exact hW
  clear hH hlocs
  refine lv_lload_n hx hb dX12_times_0 rfl (lv_at hl 1 rfl) ?_
  refine lv_lconst (v := 0) hx hb dX12_times_1 (by decide) ?_
  refine W.lcmp hx hb dX12_times_2 ?_
  refine lv_if_eq (tgt := 12) hx hb dX12_times_3 (by decide) (fun c_1 => ?_) (fun c_1 => ?_)
  · -- 3 t
    refine lv_lconst (v := 0) hx hb dX12_times_12 (by decide) ?_
    exact xretl C () (mtV_0 hv (Or.inl (l_eq c_1))) hP hD hS (Nat.le_of_ble_eq_true rfl) (Nat.le_of_ble_eq_true rfl) dX12_times_13
  · -- 3 f
    refine lv_lload_n hx hb dX12_times_6 rfl (lv_at hl 2 rfl) ?_
    refine lv_lconst (v := 0) hx hb dX12_times_7 (by decide) ?_
    refine W.lcmp hx hb dX12_times_8 ?_
    refine lv_if_ne (tgt := 14) hx hb dX12_times_9 (by decide) (fun c_2 => ?_) (fun c_2 => ?_)
    · -- 9 t
      refine lv_lload_n hx hb dX12_times_14 rfl (lv_at hl 1 rfl) ?_
      refine lv_lload_n hx hb dX12_times_15 rfl (lv_at hl 2 rfl) ?_
      refine lv_lmul hx hb dX12_times_16 ?_
      refine lv_lstore (lv' := [(5, .long (a * b)), (0, .ref hm), (1, .long a), (3, .long b)]) hx hb dX12_times_17 hl (by decide) rfl ?_
      clear hl
      try clear ls
      intro ls hl
      refine lv_lload hx hb dX12_times_19 (lv_at hl 0 rfl) ?_
      refine lv_lload_n hx hb dX12_times_21 rfl (lv_at hl 3 rfl) ?_
      refine lv_ldiv hx hb dX12_times_22 (l_ne c_2) ?_
      refine lv_lload_n hx hb dX12_times_23 rfl (lv_at hl 2 rfl) ?_
      refine W.lcmp hx hb dX12_times_24 ?_
      refine lv_if_eq (tgt := 33) hx hb dX12_times_25 (by decide) (fun _ => ?_) (fun c => absurd ((lg_cmp_eq _ _).mpr (mtV_1 hv (l_ne c_1) (l_ne c_2)).2) c)
      refine lv_lload hx hb dX12_times_33 (lv_at hl 0 rfl) ?_
      exact xretl C () ((mtV_1 hv (l_ne c_1) (l_ne c_2)).1) hP hD hS (Nat.le_of_ble_eq_true rfl) (Nat.le_of_ble_eq_true rfl) dX12_times_35
    · -- 9 f
      refine lv_lconst (v := 0) hx hb dX12_times_12 (by decide) ?_
      exact xretl C () (mtV_0 hv (Or.inr (l_eq c_2))) hP hD hS (Nat.le_of_ble_eq_true rfl) (Nat.le_of_ble_eq_true rfl) dX12_times_13

set_option maxHeartbeats 4000000 in
set_option maxRecDepth 100000 in
theorem c_X12_plus (l : Launch) (D : va_G) (cs : Nat → ClassId) (hm ms mkp mtr mas mso mon mot man mst msm mtb mti mfr mbn mbs mde maa mab mba mbb : Nat) (ab be : Int64) (a b v : Int64) (hv : a + b = v) (ho : plB a b = true) : xMet l D cs yX12_plus cX12_plus 7 (some .long) ({ frames := 0, cells := 0, slots := 0, locals := 0 } : Room) [.ref hm, .long a, .long b] [(hm, .inr (12, [.ref ms, .ref mkp, .int (nI 0), .ref mtr, .int (nI 4), .int (nI 2), .int (nI 2), .int (nI 3), .int (nI 2), .int (nI 1), .ref mas, .int (nI 0), .int (nI 0), .int (nI 0), .ref mso, .ref mon, .ref mot, .ref man, .int (nI 0), .int (nI 0), .ref mst, .ref msm, .ref mtb, .ref mti, .ref mfr, .ref mbn, .ref mbs, .ref mde, .int (nI 0), .int (nI 0), .int (nI 0), .int (nI 0), .long ab, .long be, .ref maa, .ref mab, .ref mba, .ref mbb]))] (xQl D (fun (r : Int64) (_u : Unit) => r = v) (fun (_u : Unit) => [(hm, .inr (12, [.ref ms, .ref mkp, .int (nI 0), .ref mtr, .int (nI 4), .int (nI 2), .int (nI 2), .int (nI 3), .int (nI 2), .int (nI 1), .ref mas, .int (nI 0), .int (nI 0), .int (nI 0), .ref mso, .ref mon, .ref mot, .ref man, .int (nI 0), .int (nI 0), .ref mst, .ref msm, .ref mtb, .ref mti, .ref mfr, .ref mbn, .ref mbs, .ref mde, .int (nI 0), .int (nI 0), .int (nI 0), .int (nI 0), .long ab, .long be, .ref maa, .ref mab, .ref mba, .ref mbb]))])) := by
  refine xMet.intro (by decide) (Nat.le_of_ble_eq_true rfl) ?_
  intro p e s m args below meth c A ls C hP hD hS hl
  have hx := C.1
  have hb := C.2.1
  have hz := C.2.2.2.2.1
  have hown := C.2.2.2.1
  have hA := C.2.2.2.2.2.2.2.2.2
  have hAO := C.2.2.2.2.2.2.2.2.1.2.2
  replace hl : lv_has ls 7 [(0, .ref hm), (1, .long a), (3, .long b)] := hl
  obtain ⟨H, hH⟩ : ∃ H, H = s.heap := ⟨_, rfl⟩
  replace hP : va_P D vwCl [(hm, .inr (12, [.ref ms, .ref mkp, .int (nI 0), .ref mtr, .int (nI 4), .int (nI 2), .int (nI 2), .int (nI 3), .int (nI 2), .int (nI 1), .ref mas, .int (nI 0), .int (nI 0), .int (nI 0), .ref mso, .ref mon, .ref mot, .ref man, .int (nI 0), .int (nI 0), .ref mst, .ref msm, .ref mtb, .ref mti, .ref mfr, .ref mbn, .ref mbs, .ref mde, .int (nI 0), .int (nI 0), .int (nI 0), .int (nI 0), .long ab, .long be, .ref maa, .ref mab, .ref mba, .ref mbb]))] H := by rw [hH]; exact hP
  replace hS : va_S A s.heap H [] := by rw [hH]; exact hS
  obtain ⟨locs, hlocs⟩ : ∃ z : List Loc, z = [] := ⟨_, rfl⟩
  rw [← hlocs] at hS
  suffices hW : W p l e ({ frames := 0, cells := 0, slots := 0, locals := 0 } : Room) s m args below meth c H locs 0 0 (MQ below ((xQl D (fun (r : Int64) (_u : Unit) => r = v) (fun (_u : Unit) => [(hm, .inr (12, [.ref ms, .ref mkp, .int (nI 0), .ref mtr, .int (nI 4), .int (nI 2), .int (nI 2), .int (nI 3), .int (nI 2), .int (nI 1), .ref mas, .int (nI 0), .int (nI 0), .int (nI 0), .ref mso, .ref mon, .ref mot, .ref man, .int (nI 0), .int (nI 0), .ref mst, .ref msm, .ref mtb, .ref mti, .ref mfr, .ref mbn, .ref mbs, .ref mde, .int (nI 0), .int (nI 0), .int (nI 0), .int (nI 0), .long ab, .long be, .ref maa, .ref mab, .ref mba, .ref mbb]))])) A) args s 0 0 A) (F0 m 0 ls []) by rw [hlocs, hH] at hW; exact hW
  clear hH hlocs
  refine lv_lload_n hx hb dX12_plus_0 rfl (lv_at hl 1 rfl) ?_
  refine lv_lload_n hx hb dX12_plus_1 rfl (lv_at hl 2 rfl) ?_
  refine lv_ladd hx hb dX12_plus_2 ?_
  refine lv_lstore (lv' := [(5, .long (a + b)), (0, .ref hm), (1, .long a), (3, .long b)]) hx hb dX12_plus_3 hl (by decide) rfl ?_
  clear hl
  try clear ls
  intro ls hl
  refine lv_lload_n hx hb dX12_plus_5 rfl (lv_at hl 2 rfl) ?_
  refine lv_lconst (v := 0) hx hb dX12_plus_6 (by decide) ?_
  refine W.lcmp hx hb dX12_plus_7 ?_
  refine lv_if_ge (tgt := 15) hx hb dX12_plus_8 (by decide) (fun c_1 => ?_) (fun c_1 => ?_)
  · -- 8 t
    refine lv_iconst (v := nI 0) hx hb dX12_plus_15 (by decide) ?_
    refine lv_lload_n hx hb dX12_plus_16 rfl (lv_at hl 3 rfl) ?_
    refine lv_lconst (v := 0) hx hb dX12_plus_17 (by decide) ?_
    refine W.lcmp hx hb dX12_plus_18 ?_
    refine lv_if_ge (tgt := 26) hx hb dX12_plus_19 (by decide) (fun c_2 => ?_) (fun c_2 => ?_)
    · -- 19 t
      refine lv_iconst (v := nI 0) hx hb dX12_plus_26 (by decide) ?_
      refine lv_icmp_ne (tgt := 61) hx hb dX12_plus_27 (by decide) (fun c => absurd (by decide) c) (fun _ => ?_)
      refine lv_lload hx hb dX12_plus_30 (lv_at hl 0 rfl) ?_
      refine lv_lconst (v := 0) hx hb dX12_plus_32 (by decide) ?_
      refine W.lcmp hx hb dX12_plus_33 ?_
      refine lv_if_ge (tgt := 41) hx hb dX12_plus_34 (by decide) (fun c_3 => ?_) (fun c_3 => ?_)
      · -- 34 t
        refine lv_iconst (v := nI 0) hx hb dX12_plus_41 (by decide) ?_
        refine lv_lload_n hx hb dX12_plus_42 rfl (lv_at hl 2 rfl) ?_
        refine lv_lconst (v := 0) hx hb dX12_plus_43 (by decide) ?_
        refine W.lcmp hx hb dX12_plus_44 ?_
        refine lv_if_ge (tgt := 52) hx hb dX12_plus_45 (by decide) (fun c_4 => ?_) (fun c_4 => ?_)
        · -- 45 t
          refine lv_iconst (v := nI 0) hx hb dX12_plus_52 (by decide) ?_
          refine lv_icmp_eq (tgt := 61) hx hb dX12_plus_53 (by decide) (fun _ => ?_) (fun c => absurd (by decide) c)
          refine lv_lload hx hb dX12_plus_61 (lv_at hl 0 rfl) ?_
          exact xretl C () hv hP hD hS (Nat.le_of_ble_eq_true rfl) (Nat.le_of_ble_eq_true rfl) dX12_plus_63
        · -- 45 f
          refine lv_iconst (v := nI 1) hx hb dX12_plus_48 (by decide) ?_
          refine lv_goto (tgt := 53) hx hb dX12_plus_49 (by decide) ?_
          refine lv_icmp_eq (tgt := 61) hx hb dX12_plus_53 (by decide) (fun c => absurd c (by decide)) (fun _ => ?_)
          exact absurd c_1 c_4
      · -- 34 f
        refine lv_iconst (v := nI 1) hx hb dX12_plus_37 (by decide) ?_
        refine lv_goto (tgt := 42) hx hb dX12_plus_38 (by decide) ?_
        refine lv_lload_n hx hb dX12_plus_42 rfl (lv_at hl 2 rfl) ?_
        refine lv_lconst (v := 0) hx hb dX12_plus_43 (by decide) ?_
        refine W.lcmp hx hb dX12_plus_44 ?_
        refine lv_if_ge (tgt := 52) hx hb dX12_plus_45 (by decide) (fun c_5 => ?_) (fun c_5 => ?_)
        · -- 45 t
          refine lv_iconst (v := nI 0) hx hb dX12_plus_52 (by decide) ?_
          refine lv_icmp_eq (tgt := 61) hx hb dX12_plus_53 (by decide) (fun c => absurd c (by decide)) (fun _ => ?_)
          exact absurd ho (by simp [plB, (l_ge c_1), (l_ge c_2), (l_nge c_3), (l_ge c_5)])
        · -- 45 f
          refine lv_iconst (v := nI 1) hx hb dX12_plus_48 (by decide) ?_
          refine lv_goto (tgt := 53) hx hb dX12_plus_49 (by decide) ?_
          refine lv_icmp_eq (tgt := 61) hx hb dX12_plus_53 (by decide) (fun _ => ?_) (fun c => absurd (by decide) c)
          refine lv_lload hx hb dX12_plus_61 (lv_at hl 0 rfl) ?_
          exact xretl C () hv hP hD hS (Nat.le_of_ble_eq_true rfl) (Nat.le_of_ble_eq_true rfl) dX12_plus_63
    · -- 19 f
      refine lv_iconst (v := nI 1) hx hb dX12_plus_22 (by decide) ?_
      refine lv_goto (tgt := 27) hx hb dX12_plus_23 (by decide) ?_
      refine lv_icmp_ne (tgt := 61) hx hb dX12_plus_27 (by decide) (fun _ => ?_) (fun c => absurd c (by decide))
      refine lv_lload hx hb dX12_plus_61 (lv_at hl 0 rfl) ?_
      exact xretl C () hv hP hD hS (Nat.le_of_ble_eq_true rfl) (Nat.le_of_ble_eq_true rfl) dX12_plus_63
  · -- 8 f
    refine lv_iconst (v := nI 1) hx hb dX12_plus_11 (by decide) ?_
    refine lv_goto (tgt := 16) hx hb dX12_plus_12 (by decide) ?_
    refine lv_lload_n hx hb dX12_plus_16 rfl (lv_at hl 3 rfl) ?_
    refine lv_lconst (v := 0) hx hb dX12_plus_17 (by decide) ?_
    refine W.lcmp hx hb dX12_plus_18 ?_
    refine lv_if_ge (tgt := 26) hx hb dX12_plus_19 (by decide) (fun c_6 => ?_) (fun c_6 => ?_)
    · -- 19 t
      refine lv_iconst (v := nI 0) hx hb dX12_plus_26 (by decide) ?_
      refine lv_icmp_ne (tgt := 61) hx hb dX12_plus_27 (by decide) (fun _ => ?_) (fun c => absurd c (by decide))
      refine lv_lload hx hb dX12_plus_61 (lv_at hl 0 rfl) ?_
      exact xretl C () hv hP hD hS (Nat.le_of_ble_eq_true rfl) (Nat.le_of_ble_eq_true rfl) dX12_plus_63
    · -- 19 f
      refine lv_iconst (v := nI 1) hx hb dX12_plus_22 (by decide) ?_
      refine lv_goto (tgt := 27) hx hb dX12_plus_23 (by decide) ?_
      refine lv_icmp_ne (tgt := 61) hx hb dX12_plus_27 (by decide) (fun c => absurd (by decide) c) (fun _ => ?_)
      refine lv_lload hx hb dX12_plus_30 (lv_at hl 0 rfl) ?_
      refine lv_lconst (v := 0) hx hb dX12_plus_32 (by decide) ?_
      refine W.lcmp hx hb dX12_plus_33 ?_
      refine lv_if_ge (tgt := 41) hx hb dX12_plus_34 (by decide) (fun c_7 => ?_) (fun c_7 => ?_)
      · -- 34 t
        refine lv_iconst (v := nI 0) hx hb dX12_plus_41 (by decide) ?_
        refine lv_lload_n hx hb dX12_plus_42 rfl (lv_at hl 2 rfl) ?_
        refine lv_lconst (v := 0) hx hb dX12_plus_43 (by decide) ?_
        refine W.lcmp hx hb dX12_plus_44 ?_
        refine lv_if_ge (tgt := 52) hx hb dX12_plus_45 (by decide) (fun c_8 => ?_) (fun c_8 => ?_)
        · -- 45 t
          refine lv_iconst (v := nI 0) hx hb dX12_plus_52 (by decide) ?_
          refine lv_icmp_eq (tgt := 61) hx hb dX12_plus_53 (by decide) (fun _ => ?_) (fun c => absurd (by decide) c)
          refine lv_lload hx hb dX12_plus_61 (lv_at hl 0 rfl) ?_
          exact xretl C () hv hP hD hS (Nat.le_of_ble_eq_true rfl) (Nat.le_of_ble_eq_true rfl) dX12_plus_63
        · -- 45 f
          refine lv_iconst (v := nI 1) hx hb dX12_plus_48 (by decide) ?_
          refine lv_goto (tgt := 53) hx hb dX12_plus_49 (by decide) ?_
          refine lv_icmp_eq (tgt := 61) hx hb dX12_plus_53 (by decide) (fun c => absurd c (by decide)) (fun _ => ?_)
          exact absurd ho (by simp [plB, (l_nge c_1), (l_nge c_6), (l_ge c_7), (l_nge c_8)])
      · -- 34 f
        refine lv_iconst (v := nI 1) hx hb dX12_plus_37 (by decide) ?_
        refine lv_goto (tgt := 42) hx hb dX12_plus_38 (by decide) ?_
        refine lv_lload_n hx hb dX12_plus_42 rfl (lv_at hl 2 rfl) ?_
        refine lv_lconst (v := 0) hx hb dX12_plus_43 (by decide) ?_
        refine W.lcmp hx hb dX12_plus_44 ?_
        refine lv_if_ge (tgt := 52) hx hb dX12_plus_45 (by decide) (fun c_9 => ?_) (fun c_9 => ?_)
        · -- 45 t
          refine lv_iconst (v := nI 0) hx hb dX12_plus_52 (by decide) ?_
          refine lv_icmp_eq (tgt := 61) hx hb dX12_plus_53 (by decide) (fun c => absurd c (by decide)) (fun _ => ?_)
          exact absurd c_9 c_1
        · -- 45 f
          refine lv_iconst (v := nI 1) hx hb dX12_plus_48 (by decide) ?_
          refine lv_goto (tgt := 53) hx hb dX12_plus_49 (by decide) ?_
          refine lv_icmp_eq (tgt := 61) hx hb dX12_plus_53 (by decide) (fun _ => ?_) (fun c => absurd (by decide) c)
          refine lv_lload hx hb dX12_plus_61 (lv_at hl 0 rfl) ?_
          exact xretl C () hv hP hD hS (Nat.le_of_ble_eq_true rfl) (Nat.le_of_ble_eq_true rfl) dX12_plus_63

set_option maxHeartbeats 4000000 in
set_option maxRecDepth 100000 in
theorem c_X12_settles (l : Launch) (D : va_G) (cs : Nat → ClassId) (hm ms mkp mtr mas mso mon mot man mst msm mtb mti mfr mbn mbs mde maa mab mba mbb : Nat) (ab be : Int64) (p0 q va vb : Int64) (hs : stV p0 q va vb = true) : xMet l D cs yX12_settles cX12_settles 11 none ({ frames := 0, cells := 0, slots := 0, locals := 0 } : Room) [.ref hm, .long p0, .long q] [(hm, .inr (12, [.ref ms, .ref mkp, .int (nI 0), .ref mtr, .int (nI 4), .int (nI 2), .int (nI 2), .int (nI 3), .int (nI 2), .int (nI 1), .ref mas, .int (nI 0), .int (nI 0), .int (nI 0), .ref mso, .ref mon, .ref mot, .ref man, .int (nI 0), .int (nI 0), .ref mst, .ref msm, .ref mtb, .ref mti, .ref mfr, .ref mbn, .ref mbs, .ref mde, .int (nI 0), .int (nI 0), .int (nI 0), .int (nI 0), .long ab, .long be, .ref maa, .ref mab, .ref mba, .ref mbb]))] (xQv D (fun (_u : Unit) => True) (fun (_u : Unit) => [(hm, .inr (12, [.ref ms, .ref mkp, .int (nI 0), .ref mtr, .int (nI 4), .int (nI 2), .int (nI 2), .int (nI 3), .int (nI 2), .int (nI 1), .ref mas, .int (nI 0), .int (nI 0), .int (nI 0), .ref mso, .ref mon, .ref mot, .ref man, .int (nI 0), .int (nI 0), .ref mst, .ref msm, .ref mtb, .ref mti, .ref mfr, .ref mbn, .ref mbs, .ref mde, .int (nI 0), .int (nI 0), .int (nI 0), .int (nI 0), .long va, .long vb, .ref maa, .ref mab, .ref mba, .ref mbb]))])) := by
  refine xMet.intro (by decide) (Nat.le_of_ble_eq_true rfl) ?_
  intro p e s m args below meth c A ls C hP hD hS hl
  have hx := C.1
  have hb := C.2.1
  have hz := C.2.2.2.2.1
  have hown := C.2.2.2.1
  have hA := C.2.2.2.2.2.2.2.2.2
  have hAO := C.2.2.2.2.2.2.2.2.1.2.2
  replace hl : lv_has ls 11 [(0, .ref hm), (1, .long p0), (3, .long q)] := hl
  obtain ⟨H, hH⟩ : ∃ H, H = s.heap := ⟨_, rfl⟩
  replace hP : va_P D vwCl [(hm, .inr (12, [.ref ms, .ref mkp, .int (nI 0), .ref mtr, .int (nI 4), .int (nI 2), .int (nI 2), .int (nI 3), .int (nI 2), .int (nI 1), .ref mas, .int (nI 0), .int (nI 0), .int (nI 0), .ref mso, .ref mon, .ref mot, .ref man, .int (nI 0), .int (nI 0), .ref mst, .ref msm, .ref mtb, .ref mti, .ref mfr, .ref mbn, .ref mbs, .ref mde, .int (nI 0), .int (nI 0), .int (nI 0), .int (nI 0), .long ab, .long be, .ref maa, .ref mab, .ref mba, .ref mbb]))] H := by rw [hH]; exact hP
  replace hS : va_S A s.heap H [] := by rw [hH]; exact hS
  obtain ⟨locs, hlocs⟩ : ∃ z : List Loc, z = [] := ⟨_, rfl⟩
  rw [← hlocs] at hS
  suffices hW : W p l e ({ frames := 0, cells := 0, slots := 0, locals := 0 } : Room) s m args below meth c H locs 0 0 (MQ below ((xQv D (fun (_u : Unit) => True) (fun (_u : Unit) => [(hm, .inr (12, [.ref ms, .ref mkp, .int (nI 0), .ref mtr, .int (nI 4), .int (nI 2), .int (nI 2), .int (nI 3), .int (nI 2), .int (nI 1), .ref mas, .int (nI 0), .int (nI 0), .int (nI 0), .ref mso, .ref mon, .ref mot, .ref man, .int (nI 0), .int (nI 0), .ref mst, .ref msm, .ref mtb, .ref mti, .ref mfr, .ref mbn, .ref mbs, .ref mde, .int (nI 0), .int (nI 0), .int (nI 0), .int (nI 0), .long va, .long vb, .ref maa, .ref mab, .ref mba, .ref mbb]))])) A) args s 0 0 A) (F0 m 0 ls []) by rw [hlocs, hH] at hW; exact hW
  clear hH hlocs
  obtain ⟨hs1, hs2, hs3, hs4⟩ := stV_s hs
  refine lv_lload_n hx hb dX12_settles_0 rfl (lv_at hl 1 rfl) ?_
  refine lv_lconst (v := 0) hx hb dX12_settles_1 (by decide) ?_
  refine W.lcmp hx hb dX12_settles_2 ?_
  refine lv_if_ge (tgt := 11) hx hb dX12_settles_3 (by decide) (fun c_1 => ?_) (fun c_1 => ?_)
  · -- 3 t
    refine lv_lload_n hx hb dX12_settles_11 rfl (lv_at hl 1 rfl) ?_
    refine lv_topl (nm_r (e' := abL p0) (if_neg (l_ge c_1)).symm ?_)
    refine lv_lstore (lv' := [(5, .long (abL p0)), (0, .ref hm), (1, .long p0), (3, .long q)]) hx hb dX12_settles_12 hl (by decide) rfl ?_
    clear hl
    try clear ls
    intro ls hl
    refine lv_lload_n hx hb dX12_settles_14 rfl (lv_at hl 3 rfl) ?_
    refine lv_lstore (lv' := [(7, .long q), (5, .long (abL p0)), (0, .ref hm), (1, .long p0), (3, .long q)]) hx hb dX12_settles_15 hl (by decide) rfl ?_
    clear hl
    try clear ls
    intro ls hl
    have loop_2 : ∀ (n_loop_2 : Nat) (k : Nat) (g : Int64) (z : Int64), (gcE k g z = true) → (gcR k g z = gcR 60 (abL p0) q) → k < n_loop_2 → ∀ (H : Heap) (locs : List Loc) (ls : Array Slot), va_P D vwCl [(hm, .inr (12, [.ref ms, .ref mkp, .int (nI 0), .ref mtr, .int (nI 4), .int (nI 2), .int (nI 2), .int (nI 3), .int (nI 2), .int (nI 1), .ref mas, .int (nI 0), .int (nI 0), .int (nI 0), .ref mso, .ref mon, .ref mot, .ref man, .int (nI 0), .int (nI 0), .ref mst, .ref msm, .ref mtb, .ref mti, .ref mfr, .ref mbn, .ref mbs, .ref mde, .int (nI 0), .int (nI 0), .int (nI 0), .int (nI 0), .long ab, .long be, .ref maa, .ref mab, .ref mba, .ref mbb]))] H → va_D A [(hm, .inr (12, [.ref ms, .ref mkp, .int (nI 0), .ref mtr, .int (nI 4), .int (nI 2), .int (nI 2), .int (nI 3), .int (nI 2), .int (nI 1), .ref mas, .int (nI 0), .int (nI 0), .int (nI 0), .ref mso, .ref mon, .ref mot, .ref man, .int (nI 0), .int (nI 0), .ref mst, .ref msm, .ref mtb, .ref mti, .ref mfr, .ref mbn, .ref mbs, .ref mde, .int (nI 0), .int (nI 0), .int (nI 0), .int (nI 0), .long ab, .long be, .ref maa, .ref mab, .ref mba, .ref mbb]))] → va_S A s.heap H locs → lv_has ls 11 [(7, .long z), (5, .long g), (0, .ref hm), (1, .long p0), (3, .long q)] → W p l e ({ frames := 0, cells := 0, slots := 0, locals := 0 } : Room) s m args below meth c H locs 0 0 (MQ below ((xQv D (fun (_u : Unit) => True) (fun (_u : Unit) => [(hm, .inr (12, [.ref ms, .ref mkp, .int (nI 0), .ref mtr, .int (nI 4), .int (nI 2), .int (nI 2), .int (nI 3), .int (nI 2), .int (nI 1), .ref mas, .int (nI 0), .int (nI 0), .int (nI 0), .ref mso, .ref mon, .ref mot, .ref man, .int (nI 0), .int (nI 0), .ref mst, .ref msm, .ref mtb, .ref mti, .ref mfr, .ref mbn, .ref mbs, .ref mde, .int (nI 0), .int (nI 0), .int (nI 0), .int (nI 0), .long va, .long vb, .ref maa, .ref mab, .ref mba, .ref mbb]))])) A) args s 0 0 A) (F0 m 17 ls []) := by
      intro n_loop_2
      induction n_loop_2 with
      | zero => intro k g z he hg hlt H locs ls hP hD hS hl; exact absurd hlt (Nat.not_lt_zero _)
      | succ n_loop_2 ih_loop_2 =>
        intro k g z he hg hlt_loop_2 H locs ls hP hD hS hl
        refine lv_lload hx hb dX12_settles_17 (lv_at hl 0 rfl) ?_
        refine lv_lconst (v := 0) hx hb dX12_settles_19 (by decide) ?_
        refine W.lcmp hx hb dX12_settles_20 ?_
        refine lv_if_eq (tgt := 49) hx hb dX12_settles_21 (by decide) (fun c_3 => ?_) (fun c_3 => ?_)
        · -- 21 t
          have hend : g = gcR 60 (abL p0) q := by have h9 := hg; rw [l_eq c_3, gcR_0] at h9; exact h9
          have hg0 : g ≠ 0 := fun z => hs2 (hend.symm.trans z)
          refine lv_aload_n hx hb dX12_settles_49 rfl (lv_at hl 2 rfl) ?_
          refine lv_aload_n hx hb dX12_settles_50 rfl (lv_at hl 2 rfl) ?_
          refine xget C hP 0 rfl rfl zuX12 31 (by decide) zw6_4 rfl dX12_settles_51 ?_
          refine lv_if_eq (tgt := 61) hx hb dX12_settles_54 (by decide) (fun _ => ?_) (fun c => absurd (by decide) c)
          refine lv_lload_n hx hb dX12_settles_61 rfl (lv_at hl 3 rfl) ?_
          refine lv_lload hx hb dX12_settles_62 (lv_at hl 1 rfl) ?_
          refine lv_ldiv hx hb dX12_settles_64 hg0 ?_
          refine lv_topl (nm_r (e' := va) (by rw [hend]; exact hs3) ?_)
          refine xput C hP hD hS 0 rfl rfl zuX12 tyX12 tyX12_ok nmX12 32 (by decide) zw6_5 rfl rfl rfl (Nat.le_of_ble_eq_true rfl) dX12_settles_65 ?_
          clear hP hD hS
          try clear locs
          try clear H
          intro H locs hP hD hS
          replace hP : va_P D vwCl [(hm, .inr (12, [.ref ms, .ref mkp, .int (nI 0), .ref mtr, .int (nI 4), .int (nI 2), .int (nI 2), .int (nI 3), .int (nI 2), .int (nI 1), .ref mas, .int (nI 0), .int (nI 0), .int (nI 0), .ref mso, .ref mon, .ref mot, .ref man, .int (nI 0), .int (nI 0), .ref mst, .ref msm, .ref mtb, .ref mti, .ref mfr, .ref mbn, .ref mbs, .ref mde, .int (nI 0), .int (nI 0), .int (nI 0), .int (nI 0), .long va, .long be, .ref maa, .ref mab, .ref mba, .ref mbb]))] H := hP
          replace hD : va_D A [(hm, .inr (12, [.ref ms, .ref mkp, .int (nI 0), .ref mtr, .int (nI 4), .int (nI 2), .int (nI 2), .int (nI 3), .int (nI 2), .int (nI 1), .ref mas, .int (nI 0), .int (nI 0), .int (nI 0), .ref mso, .ref mon, .ref mot, .ref man, .int (nI 0), .int (nI 0), .ref mst, .ref msm, .ref mtb, .ref mti, .ref mfr, .ref mbn, .ref mbs, .ref mde, .int (nI 0), .int (nI 0), .int (nI 0), .int (nI 0), .long va, .long be, .ref maa, .ref mab, .ref mba, .ref mbb]))] := hD
          refine lv_aload_n hx hb dX12_settles_68 rfl (lv_at hl 2 rfl) ?_
          refine lv_aload_n hx hb dX12_settles_69 rfl (lv_at hl 2 rfl) ?_
          refine xget C hP 0 rfl rfl zuX12 31 (by decide) zw6_4 rfl dX12_settles_70 ?_
          refine lv_if_eq (tgt := 80) hx hb dX12_settles_73 (by decide) (fun _ => ?_) (fun c => absurd (by decide) c)
          refine lv_lload_n hx hb dX12_settles_80 rfl (lv_at hl 4 rfl) ?_
          refine lv_lload hx hb dX12_settles_81 (lv_at hl 1 rfl) ?_
          refine lv_ldiv hx hb dX12_settles_83 hg0 ?_
          refine lv_topl (nm_r (e' := vb) (by rw [hend]; exact hs4) ?_)
          refine xput C hP hD hS 0 rfl rfl zuX12 tyX12 tyX12_ok nmX12 33 (by decide) zw6_6 rfl rfl rfl (Nat.le_of_ble_eq_true rfl) dX12_settles_84 ?_
          clear hP hD hS
          try clear locs
          try clear H
          intro H locs hP hD hS
          replace hP : va_P D vwCl [(hm, .inr (12, [.ref ms, .ref mkp, .int (nI 0), .ref mtr, .int (nI 4), .int (nI 2), .int (nI 2), .int (nI 3), .int (nI 2), .int (nI 1), .ref mas, .int (nI 0), .int (nI 0), .int (nI 0), .ref mso, .ref mon, .ref mot, .ref man, .int (nI 0), .int (nI 0), .ref mst, .ref msm, .ref mtb, .ref mti, .ref mfr, .ref mbn, .ref mbs, .ref mde, .int (nI 0), .int (nI 0), .int (nI 0), .int (nI 0), .long va, .long vb, .ref maa, .ref mab, .ref mba, .ref mbb]))] H := hP
          replace hD : va_D A [(hm, .inr (12, [.ref ms, .ref mkp, .int (nI 0), .ref mtr, .int (nI 4), .int (nI 2), .int (nI 2), .int (nI 3), .int (nI 2), .int (nI 1), .ref mas, .int (nI 0), .int (nI 0), .int (nI 0), .ref mso, .ref mon, .ref mot, .ref man, .int (nI 0), .int (nI 0), .ref mst, .ref msm, .ref mtb, .ref mti, .ref mfr, .ref mbn, .ref mbs, .ref mde, .int (nI 0), .int (nI 0), .int (nI 0), .int (nI 0), .long va, .long vb, .ref maa, .ref mab, .ref mba, .ref mbb]))] := hD
          exact xretv C () trivial hP hD hS (Nat.le_of_ble_eq_true rfl) (Nat.le_of_ble_eq_true rfl) dX12_settles_87
        · -- 21 f
          refine lv_aload_n hx hb dX12_settles_24 rfl (lv_at hl 2 rfl) ?_
          refine xget C hP 0 rfl rfl zuX12 31 (by decide) zw6_4 rfl dX12_settles_25 ?_
          refine lv_if_ne (tgt := 49) hx hb dX12_settles_28 (by decide) (fun c => absurd (by decide) c) (fun _ => ?_)
          refine lv_lload hx hb dX12_settles_31 (lv_at hl 1 rfl) ?_
          refine lv_lload hx hb dX12_settles_33 (lv_at hl 0 rfl) ?_
          refine lv_lrem hx hb dX12_settles_35 (l_ne c_3) ?_
          refine lv_lstore (lv' := [(9, .long (g - g / z * z)), (7, .long z), (5, .long g), (0, .ref hm), (1, .long p0), (3, .long q)]) hx hb dX12_settles_36 hl (by decide) rfl ?_
          clear hl
          try clear ls
          intro ls hl
          refine lv_lload hx hb dX12_settles_38 (lv_at hl 1 rfl) ?_
          refine lv_lstore (lv' := [(5, .long z), (9, .long (g - g / z * z)), (7, .long z), (0, .ref hm), (1, .long p0), (3, .long q)]) hx hb dX12_settles_40 hl (by decide) rfl ?_
          clear hl
          try clear ls
          intro ls hl
          refine lv_lload hx hb dX12_settles_42 (lv_at hl 1 rfl) ?_
          refine lv_lstore (lv' := [(7, .long (g - g / z * z)), (5, .long z), (9, .long (g - g / z * z)), (0, .ref hm), (1, .long p0), (3, .long q)]) hx hb dX12_settles_44 hl (by decide) rfl ?_
          clear hl
          try clear ls
          intro ls hl
          refine lv_goto (tgt := 17) hx hb dX12_settles_46 (by decide) ?_
          obtain ⟨k2, rfl, he2, hg2⟩ := gcE_s he (l_ne c_3)
          exact ih_loop_2 k2 z (g - g / z * z) he2 (hg2.symm.trans hg) (by omega) H locs ls hP hD hS (lv_sub hl [0, 1, 3, 4, 5] rfl)
    exact loop_2 _ 60 (abL p0) q hs1 rfl (Nat.lt_succ_self _) H locs ls hP hD hS (lv_sub hl [0, 1, 2, 3, 4] rfl)
  · -- 3 f
    refine lv_lload_n hx hb dX12_settles_6 rfl (lv_at hl 1 rfl) ?_
    refine lv_lneg hx hb dX12_settles_7 ?_
    refine lv_goto (tgt := 12) hx hb dX12_settles_8 (by decide) ?_
    refine lv_topl (nm_r (e' := abL p0) (if_pos (l_nge c_1)).symm ?_)
    refine lv_lstore (lv' := [(5, .long (abL p0)), (0, .ref hm), (1, .long p0), (3, .long q)]) hx hb dX12_settles_12 hl (by decide) rfl ?_
    clear hl
    try clear ls
    intro ls hl
    refine lv_lload_n hx hb dX12_settles_14 rfl (lv_at hl 3 rfl) ?_
    refine lv_lstore (lv' := [(7, .long q), (5, .long (abL p0)), (0, .ref hm), (1, .long p0), (3, .long q)]) hx hb dX12_settles_15 hl (by decide) rfl ?_
    clear hl
    try clear ls
    intro ls hl
    have loop_4 : ∀ (n_loop_4 : Nat) (k : Nat) (g : Int64) (z : Int64), (gcE k g z = true) → (gcR k g z = gcR 60 (abL p0) q) → k < n_loop_4 → ∀ (H : Heap) (locs : List Loc) (ls : Array Slot), va_P D vwCl [(hm, .inr (12, [.ref ms, .ref mkp, .int (nI 0), .ref mtr, .int (nI 4), .int (nI 2), .int (nI 2), .int (nI 3), .int (nI 2), .int (nI 1), .ref mas, .int (nI 0), .int (nI 0), .int (nI 0), .ref mso, .ref mon, .ref mot, .ref man, .int (nI 0), .int (nI 0), .ref mst, .ref msm, .ref mtb, .ref mti, .ref mfr, .ref mbn, .ref mbs, .ref mde, .int (nI 0), .int (nI 0), .int (nI 0), .int (nI 0), .long ab, .long be, .ref maa, .ref mab, .ref mba, .ref mbb]))] H → va_D A [(hm, .inr (12, [.ref ms, .ref mkp, .int (nI 0), .ref mtr, .int (nI 4), .int (nI 2), .int (nI 2), .int (nI 3), .int (nI 2), .int (nI 1), .ref mas, .int (nI 0), .int (nI 0), .int (nI 0), .ref mso, .ref mon, .ref mot, .ref man, .int (nI 0), .int (nI 0), .ref mst, .ref msm, .ref mtb, .ref mti, .ref mfr, .ref mbn, .ref mbs, .ref mde, .int (nI 0), .int (nI 0), .int (nI 0), .int (nI 0), .long ab, .long be, .ref maa, .ref mab, .ref mba, .ref mbb]))] → va_S A s.heap H locs → lv_has ls 11 [(7, .long z), (5, .long g), (0, .ref hm), (1, .long p0), (3, .long q)] → W p l e ({ frames := 0, cells := 0, slots := 0, locals := 0 } : Room) s m args below meth c H locs 0 0 (MQ below ((xQv D (fun (_u : Unit) => True) (fun (_u : Unit) => [(hm, .inr (12, [.ref ms, .ref mkp, .int (nI 0), .ref mtr, .int (nI 4), .int (nI 2), .int (nI 2), .int (nI 3), .int (nI 2), .int (nI 1), .ref mas, .int (nI 0), .int (nI 0), .int (nI 0), .ref mso, .ref mon, .ref mot, .ref man, .int (nI 0), .int (nI 0), .ref mst, .ref msm, .ref mtb, .ref mti, .ref mfr, .ref mbn, .ref mbs, .ref mde, .int (nI 0), .int (nI 0), .int (nI 0), .int (nI 0), .long va, .long vb, .ref maa, .ref mab, .ref mba, .ref mbb]))])) A) args s 0 0 A) (F0 m 17 ls []) := by
      intro n_loop_4
      induction n_loop_4 with
      | zero => intro k g z he hg hlt H locs ls hP hD hS hl; exact absurd hlt (Nat.not_lt_zero _)
      | succ n_loop_4 ih_loop_4 =>
        intro k g z he hg hlt_loop_4 H locs ls hP hD hS hl
        refine lv_lload hx hb dX12_settles_17 (lv_at hl 0 rfl) ?_
        refine lv_lconst (v := 0) hx hb dX12_settles_19 (by decide) ?_
        refine W.lcmp hx hb dX12_settles_20 ?_
        refine lv_if_eq (tgt := 49) hx hb dX12_settles_21 (by decide) (fun c_5 => ?_) (fun c_5 => ?_)
        · -- 21 t
          have hend : g = gcR 60 (abL p0) q := by have h9 := hg; rw [l_eq c_5, gcR_0] at h9; exact h9
          have hg0 : g ≠ 0 := fun z => hs2 (hend.symm.trans z)
          refine lv_aload_n hx hb dX12_settles_49 rfl (lv_at hl 2 rfl) ?_
          refine lv_aload_n hx hb dX12_settles_50 rfl (lv_at hl 2 rfl) ?_
          refine xget C hP 0 rfl rfl zuX12 31 (by decide) zw6_4 rfl dX12_settles_51 ?_
          refine lv_if_eq (tgt := 61) hx hb dX12_settles_54 (by decide) (fun _ => ?_) (fun c => absurd (by decide) c)
          refine lv_lload_n hx hb dX12_settles_61 rfl (lv_at hl 3 rfl) ?_
          refine lv_lload hx hb dX12_settles_62 (lv_at hl 1 rfl) ?_
          refine lv_ldiv hx hb dX12_settles_64 hg0 ?_
          refine lv_topl (nm_r (e' := va) (by rw [hend]; exact hs3) ?_)
          refine xput C hP hD hS 0 rfl rfl zuX12 tyX12 tyX12_ok nmX12 32 (by decide) zw6_5 rfl rfl rfl (Nat.le_of_ble_eq_true rfl) dX12_settles_65 ?_
          clear hP hD hS
          try clear locs
          try clear H
          intro H locs hP hD hS
          replace hP : va_P D vwCl [(hm, .inr (12, [.ref ms, .ref mkp, .int (nI 0), .ref mtr, .int (nI 4), .int (nI 2), .int (nI 2), .int (nI 3), .int (nI 2), .int (nI 1), .ref mas, .int (nI 0), .int (nI 0), .int (nI 0), .ref mso, .ref mon, .ref mot, .ref man, .int (nI 0), .int (nI 0), .ref mst, .ref msm, .ref mtb, .ref mti, .ref mfr, .ref mbn, .ref mbs, .ref mde, .int (nI 0), .int (nI 0), .int (nI 0), .int (nI 0), .long va, .long be, .ref maa, .ref mab, .ref mba, .ref mbb]))] H := hP
          replace hD : va_D A [(hm, .inr (12, [.ref ms, .ref mkp, .int (nI 0), .ref mtr, .int (nI 4), .int (nI 2), .int (nI 2), .int (nI 3), .int (nI 2), .int (nI 1), .ref mas, .int (nI 0), .int (nI 0), .int (nI 0), .ref mso, .ref mon, .ref mot, .ref man, .int (nI 0), .int (nI 0), .ref mst, .ref msm, .ref mtb, .ref mti, .ref mfr, .ref mbn, .ref mbs, .ref mde, .int (nI 0), .int (nI 0), .int (nI 0), .int (nI 0), .long va, .long be, .ref maa, .ref mab, .ref mba, .ref mbb]))] := hD
          refine lv_aload_n hx hb dX12_settles_68 rfl (lv_at hl 2 rfl) ?_
          refine lv_aload_n hx hb dX12_settles_69 rfl (lv_at hl 2 rfl) ?_
          refine xget C hP 0 rfl rfl zuX12 31 (by decide) zw6_4 rfl dX12_settles_70 ?_
          refine lv_if_eq (tgt := 80) hx hb dX12_settles_73 (by decide) (fun _ => ?_) (fun c => absurd (by decide) c)
          refine lv_lload_n hx hb dX12_settles_80 rfl (lv_at hl 4 rfl) ?_
          refine lv_lload hx hb dX12_settles_81 (lv_at hl 1 rfl) ?_
          refine lv_ldiv hx hb dX12_settles_83 hg0 ?_
          refine lv_topl (nm_r (e' := vb) (by rw [hend]; exact hs4) ?_)
          refine xput C hP hD hS 0 rfl rfl zuX12 tyX12 tyX12_ok nmX12 33 (by decide) zw6_6 rfl rfl rfl (Nat.le_of_ble_eq_true rfl) dX12_settles_84 ?_
          clear hP hD hS
          try clear locs
          try clear H
          intro H locs hP hD hS
          replace hP : va_P D vwCl [(hm, .inr (12, [.ref ms, .ref mkp, .int (nI 0), .ref mtr, .int (nI 4), .int (nI 2), .int (nI 2), .int (nI 3), .int (nI 2), .int (nI 1), .ref mas, .int (nI 0), .int (nI 0), .int (nI 0), .ref mso, .ref mon, .ref mot, .ref man, .int (nI 0), .int (nI 0), .ref mst, .ref msm, .ref mtb, .ref mti, .ref mfr, .ref mbn, .ref mbs, .ref mde, .int (nI 0), .int (nI 0), .int (nI 0), .int (nI 0), .long va, .long vb, .ref maa, .ref mab, .ref mba, .ref mbb]))] H := hP
          replace hD : va_D A [(hm, .inr (12, [.ref ms, .ref mkp, .int (nI 0), .ref mtr, .int (nI 4), .int (nI 2), .int (nI 2), .int (nI 3), .int (nI 2), .int (nI 1), .ref mas, .int (nI 0), .int (nI 0), .int (nI 0), .ref mso, .ref mon, .ref mot, .ref man, .int (nI 0), .int (nI 0), .ref mst, .ref msm, .ref mtb, .ref mti, .ref mfr, .ref mbn, .ref mbs, .ref mde, .int (nI 0), .int (nI 0), .int (nI 0), .int (nI 0), .long va, .long vb, .ref maa, .ref mab, .ref mba, .ref mbb]))] := hD
          exact xretv C () trivial hP hD hS (Nat.le_of_ble_eq_true rfl) (Nat.le_of_ble_eq_true rfl) dX12_settles_87
        · -- 21 f
          refine lv_aload_n hx hb dX12_settles_24 rfl (lv_at hl 2 rfl) ?_
          refine xget C hP 0 rfl rfl zuX12 31 (by decide) zw6_4 rfl dX12_settles_25 ?_
          refine lv_if_ne (tgt := 49) hx hb dX12_settles_28 (by decide) (fun c => absurd (by decide) c) (fun _ => ?_)
          refine lv_lload hx hb dX12_settles_31 (lv_at hl 1 rfl) ?_
          refine lv_lload hx hb dX12_settles_33 (lv_at hl 0 rfl) ?_
          refine lv_lrem hx hb dX12_settles_35 (l_ne c_5) ?_
          refine lv_lstore (lv' := [(9, .long (g - g / z * z)), (7, .long z), (5, .long g), (0, .ref hm), (1, .long p0), (3, .long q)]) hx hb dX12_settles_36 hl (by decide) rfl ?_
          clear hl
          try clear ls
          intro ls hl
          refine lv_lload hx hb dX12_settles_38 (lv_at hl 1 rfl) ?_
          refine lv_lstore (lv' := [(5, .long z), (9, .long (g - g / z * z)), (7, .long z), (0, .ref hm), (1, .long p0), (3, .long q)]) hx hb dX12_settles_40 hl (by decide) rfl ?_
          clear hl
          try clear ls
          intro ls hl
          refine lv_lload hx hb dX12_settles_42 (lv_at hl 1 rfl) ?_
          refine lv_lstore (lv' := [(7, .long (g - g / z * z)), (5, .long z), (9, .long (g - g / z * z)), (0, .ref hm), (1, .long p0), (3, .long q)]) hx hb dX12_settles_44 hl (by decide) rfl ?_
          clear hl
          try clear ls
          intro ls hl
          refine lv_goto (tgt := 17) hx hb dX12_settles_46 (by decide) ?_
          obtain ⟨k2, rfl, he2, hg2⟩ := gcE_s he (l_ne c_5)
          exact ih_loop_4 k2 z (g - g / z * z) he2 (hg2.symm.trans hg) (by omega) H locs ls hP hD hS (lv_sub hl [0, 1, 3, 4, 5] rfl)
    exact loop_4 _ 60 (abL p0) q hs1 rfl (Nat.lt_succ_self _) H locs ls hP hD hS (lv_sub hl [0, 1, 2, 3, 4] rfl)

set_option maxHeartbeats 4000000 in
set_option maxRecDepth 100000 in
theorem c_X12_adds (l : Launch) (D : va_G) (cs : Nat → ClassId) (hm ms mkp mtr mas mso mon mot man mst msm mtb mti mfr mbn mbs mde maa mab mba mbb : Nat) (ab be : Int64) (p0 q r0 t0 x0 y0 s0 u0 va vb : Int64) (h1 : mtV p0 t0 x0 = true) (h2 : mtV r0 q y0 = true) (h3 : x0 + y0 = s0) (h4 : plB x0 y0 = true) (h5 : mtV q t0 u0 = true) (h6 : stV s0 u0 va vb = true) : xMet l D cs yX12_adds cX12_adds 9 none ({ frames := 1, cells := 0, slots := 0, locals := 30 } : Room) [.ref hm, .long p0, .long q, .long r0, .long t0] [(hm, .inr (12, [.ref ms, .ref mkp, .int (nI 0), .ref mtr, .int (nI 4), .int (nI 2), .int (nI 2), .int (nI 3), .int (nI 2), .int (nI 1), .ref mas, .int (nI 0), .int (nI 0), .int (nI 0), .ref mso, .ref mon, .ref mot, .ref man, .int (nI 0), .int (nI 0), .ref mst, .ref msm, .ref mtb, .ref mti, .ref mfr, .ref mbn, .ref mbs, .ref mde, .int (nI 0), .int (nI 0), .int (nI 0), .int (nI 0), .long ab, .long be, .ref maa, .ref mab, .ref mba, .ref mbb]))] (xQv D (fun (_u : Unit) => True) (fun (_u : Unit) => [(hm, .inr (12, [.ref ms, .ref mkp, .int (nI 0), .ref mtr, .int (nI 4), .int (nI 2), .int (nI 2), .int (nI 3), .int (nI 2), .int (nI 1), .ref mas, .int (nI 0), .int (nI 0), .int (nI 0), .ref mso, .ref mon, .ref mot, .ref man, .int (nI 0), .int (nI 0), .ref mst, .ref msm, .ref mtb, .ref mti, .ref mfr, .ref mbn, .ref mbs, .ref mde, .int (nI 0), .int (nI 0), .int (nI 0), .int (nI 0), .long va, .long vb, .ref maa, .ref mab, .ref mba, .ref mbb]))])) := by
  refine xMet.intro (by decide) (Nat.le_of_ble_eq_true rfl) ?_
  intro p e s m args below meth c A ls C hP hD hS hl
  have hx := C.1
  have hb := C.2.1
  have hz := C.2.2.2.2.1
  have hown := C.2.2.2.1
  have hA := C.2.2.2.2.2.2.2.2.2
  have hAO := C.2.2.2.2.2.2.2.2.1.2.2
  replace hl : lv_has ls 9 [(0, .ref hm), (1, .long p0), (3, .long q), (5, .long r0), (7, .long t0)] := hl
  obtain ⟨H, hH⟩ : ∃ H, H = s.heap := ⟨_, rfl⟩
  replace hP : va_P D vwCl [(hm, .inr (12, [.ref ms, .ref mkp, .int (nI 0), .ref mtr, .int (nI 4), .int (nI 2), .int (nI 2), .int (nI 3), .int (nI 2), .int (nI 1), .ref mas, .int (nI 0), .int (nI 0), .int (nI 0), .ref mso, .ref mon, .ref mot, .ref man, .int (nI 0), .int (nI 0), .ref mst, .ref msm, .ref mtb, .ref mti, .ref mfr, .ref mbn, .ref mbs, .ref mde, .int (nI 0), .int (nI 0), .int (nI 0), .int (nI 0), .long ab, .long be, .ref maa, .ref mab, .ref mba, .ref mbb]))] H := by rw [hH]; exact hP
  replace hS : va_S A s.heap H [] := by rw [hH]; exact hS
  obtain ⟨locs, hlocs⟩ : ∃ z : List Loc, z = [] := ⟨_, rfl⟩
  rw [← hlocs] at hS
  suffices hW : W p l e ({ frames := 1, cells := 0, slots := 0, locals := 30 } : Room) s m args below meth c H locs 0 0 (MQ below ((xQv D (fun (_u : Unit) => True) (fun (_u : Unit) => [(hm, .inr (12, [.ref ms, .ref mkp, .int (nI 0), .ref mtr, .int (nI 4), .int (nI 2), .int (nI 2), .int (nI 3), .int (nI 2), .int (nI 1), .ref mas, .int (nI 0), .int (nI 0), .int (nI 0), .ref mso, .ref mon, .ref mot, .ref man, .int (nI 0), .int (nI 0), .ref mst, .ref msm, .ref mtb, .ref mti, .ref mfr, .ref mbn, .ref mbs, .ref mde, .int (nI 0), .int (nI 0), .int (nI 0), .int (nI 0), .long va, .long vb, .ref maa, .ref mab, .ref mba, .ref mbb]))])) A) args s 0 0 A) (F0 m 0 ls []) by rw [hlocs, hH] at hW; exact hW
  clear hH hlocs
  refine lv_aload_n hx hb dX12_adds_0 rfl (lv_at hl 0 rfl) ?_
  refine lv_aload_n hx hb dX12_adds_1 rfl (lv_at hl 0 rfl) ?_
  refine lv_aload_n hx hb dX12_adds_2 rfl (lv_at hl 0 rfl) ?_
  refine lv_lload_n hx hb dX12_adds_3 rfl (lv_at hl 1 rfl) ?_
  refine lv_lload hx hb dX12_adds_4 (lv_at hl 4 rfl) ?_
  refine xl (wr := []) (xV (As := [.long p0, .long t0]) (rest := [.ref hm, .ref hm]) C (c_X12_times l D cs hm ms mkp mtr mas mso mon mot man mst msm mtb mti mfr mbn mbs mde maa mab mba mbb ab be p0 t0 x0 h1) kX12_263 hP hD [0] rfl (by decide +kernel) 0 rfl rfl rfl ⟨Nat.le_of_ble_eq_true rfl, Nat.le_of_ble_eq_true rfl⟩ rfl hl.1 rfl (Nat.le_of_ble_eq_true rfl) dX12_adds_6 ⟨Nat.le_of_ble_eq_true rfl, Nat.le_of_ble_eq_true rfl⟩) hP hD hS hA [0] [] rfl rfl (by decide +kernel) (by decide +kernel) ?_
  clear hP hD hS
  try clear locs
  try clear H
  intro r_1 u_2 H locs hw_r_1 hP hD hS
  have hw_r_1 : r_1 = x0 := hw_r_1
  refine W.widen (k := 0) (n := 0) (Nat.le_of_ble_eq_true rfl) (Nat.le_of_ble_eq_true rfl) ?_
  replace hP : va_P D vwCl [(hm, .inr (12, [.ref ms, .ref mkp, .int (nI 0), .ref mtr, .int (nI 4), .int (nI 2), .int (nI 2), .int (nI 3), .int (nI 2), .int (nI 1), .ref mas, .int (nI 0), .int (nI 0), .int (nI 0), .ref mso, .ref mon, .ref mot, .ref man, .int (nI 0), .int (nI 0), .ref mst, .ref msm, .ref mtb, .ref mti, .ref mfr, .ref mbn, .ref mbs, .ref mde, .int (nI 0), .int (nI 0), .int (nI 0), .int (nI 0), .long ab, .long be, .ref maa, .ref mab, .ref mba, .ref mbb]))] H := hP
  replace hD : va_D A [(hm, .inr (12, [.ref ms, .ref mkp, .int (nI 0), .ref mtr, .int (nI 4), .int (nI 2), .int (nI 2), .int (nI 3), .int (nI 2), .int (nI 1), .ref mas, .int (nI 0), .int (nI 0), .int (nI 0), .ref mso, .ref mon, .ref mot, .ref man, .int (nI 0), .int (nI 0), .ref mst, .ref msm, .ref mtb, .ref mti, .ref mfr, .ref mbn, .ref mbs, .ref mde, .int (nI 0), .int (nI 0), .int (nI 0), .int (nI 0), .long ab, .long be, .ref maa, .ref mab, .ref mba, .ref mbb]))] := hD
  refine lv_topl (nm_r (e' := x0) hw_r_1 ?_)
  refine lv_aload_n hx hb dX12_adds_9 rfl (lv_at hl 0 rfl) ?_
  refine lv_lload hx hb dX12_adds_10 (lv_at hl 3 rfl) ?_
  refine lv_lload_n hx hb dX12_adds_12 rfl (lv_at hl 2 rfl) ?_
  refine xl (wr := []) (xV (As := [.long r0, .long q]) (rest := [.long x0, .ref hm, .ref hm]) C (c_X12_times l D cs hm ms mkp mtr mas mso mon mot man mst msm mtb mti mfr mbn mbs mde maa mab mba mbb ab be r0 q y0 h2) kX12_263 hP hD [0] rfl (by decide +kernel) 0 rfl rfl rfl ⟨Nat.le_of_ble_eq_true rfl, Nat.le_of_ble_eq_true rfl⟩ rfl hl.1 rfl (Nat.le_of_ble_eq_true rfl) dX12_adds_13 ⟨Nat.le_of_ble_eq_true rfl, Nat.le_of_ble_eq_true rfl⟩) hP hD hS hA [0] [] rfl rfl (by decide +kernel) (by decide +kernel) ?_
  clear hP hD hS
  try clear locs
  try clear H
  intro r_3 u_4 H locs hw_r_3 hP hD hS
  have hw_r_3 : r_3 = y0 := hw_r_3
  refine W.widen (k := 0) (n := 0) (Nat.le_of_ble_eq_true rfl) (Nat.le_of_ble_eq_true rfl) ?_
  replace hP : va_P D vwCl [(hm, .inr (12, [.ref ms, .ref mkp, .int (nI 0), .ref mtr, .int (nI 4), .int (nI 2), .int (nI 2), .int (nI 3), .int (nI 2), .int (nI 1), .ref mas, .int (nI 0), .int (nI 0), .int (nI 0), .ref mso, .ref mon, .ref mot, .ref man, .int (nI 0), .int (nI 0), .ref mst, .ref msm, .ref mtb, .ref mti, .ref mfr, .ref mbn, .ref mbs, .ref mde, .int (nI 0), .int (nI 0), .int (nI 0), .int (nI 0), .long ab, .long be, .ref maa, .ref mab, .ref mba, .ref mbb]))] H := hP
  replace hD : va_D A [(hm, .inr (12, [.ref ms, .ref mkp, .int (nI 0), .ref mtr, .int (nI 4), .int (nI 2), .int (nI 2), .int (nI 3), .int (nI 2), .int (nI 1), .ref mas, .int (nI 0), .int (nI 0), .int (nI 0), .ref mso, .ref mon, .ref mot, .ref man, .int (nI 0), .int (nI 0), .ref mst, .ref msm, .ref mtb, .ref mti, .ref mfr, .ref mbn, .ref mbs, .ref mde, .int (nI 0), .int (nI 0), .int (nI 0), .int (nI 0), .long ab, .long be, .ref maa, .ref mab, .ref mba, .ref mbb]))] := hD
  refine lv_topl (nm_r (e' := y0) hw_r_3 ?_)
  refine xl (wr := []) (xV (As := [.long x0, .long y0]) (rest := [.ref hm]) C (c_X12_plus l D cs hm ms mkp mtr mas mso mon mot man mst msm mtb mti mfr mbn mbs mde maa mab mba mbb ab be x0 y0 s0 h3 h4) kX12_266 hP hD [0] rfl (by decide +kernel) 0 rfl rfl rfl ⟨Nat.le_of_ble_eq_true rfl, Nat.le_of_ble_eq_true rfl⟩ rfl hl.1 rfl (Nat.le_of_ble_eq_true rfl) dX12_adds_16 ⟨Nat.le_of_ble_eq_true rfl, Nat.le_of_ble_eq_true rfl⟩) hP hD hS hA [0] [] rfl rfl (by decide +kernel) (by decide +kernel) ?_
  clear hP hD hS
  try clear locs
  try clear H
  intro r_5 u_6 H locs hw_r_5 hP hD hS
  have hw_r_5 : r_5 = s0 := hw_r_5
  refine W.widen (k := 0) (n := 0) (Nat.le_of_ble_eq_true rfl) (Nat.le_of_ble_eq_true rfl) ?_
  replace hP : va_P D vwCl [(hm, .inr (12, [.ref ms, .ref mkp, .int (nI 0), .ref mtr, .int (nI 4), .int (nI 2), .int (nI 2), .int (nI 3), .int (nI 2), .int (nI 1), .ref mas, .int (nI 0), .int (nI 0), .int (nI 0), .ref mso, .ref mon, .ref mot, .ref man, .int (nI 0), .int (nI 0), .ref mst, .ref msm, .ref mtb, .ref mti, .ref mfr, .ref mbn, .ref mbs, .ref mde, .int (nI 0), .int (nI 0), .int (nI 0), .int (nI 0), .long ab, .long be, .ref maa, .ref mab, .ref mba, .ref mbb]))] H := hP
  replace hD : va_D A [(hm, .inr (12, [.ref ms, .ref mkp, .int (nI 0), .ref mtr, .int (nI 4), .int (nI 2), .int (nI 2), .int (nI 3), .int (nI 2), .int (nI 1), .ref mas, .int (nI 0), .int (nI 0), .int (nI 0), .ref mso, .ref mon, .ref mot, .ref man, .int (nI 0), .int (nI 0), .ref mst, .ref msm, .ref mtb, .ref mti, .ref mfr, .ref mbn, .ref mbs, .ref mde, .int (nI 0), .int (nI 0), .int (nI 0), .int (nI 0), .long ab, .long be, .ref maa, .ref mab, .ref mba, .ref mbb]))] := hD
  refine lv_topl (nm_r (e' := s0) hw_r_5 ?_)
  refine lv_aload_n hx hb dX12_adds_19 rfl (lv_at hl 0 rfl) ?_
  refine lv_lload_n hx hb dX12_adds_20 rfl (lv_at hl 2 rfl) ?_
  refine lv_lload hx hb dX12_adds_21 (lv_at hl 4 rfl) ?_
  refine xl (wr := []) (xV (As := [.long q, .long t0]) (rest := [.long s0, .ref hm]) C (c_X12_times l D cs hm ms mkp mtr mas mso mon mot man mst msm mtb mti mfr mbn mbs mde maa mab mba mbb ab be q t0 u0 h5) kX12_263 hP hD [0] rfl (by decide +kernel) 0 rfl rfl rfl ⟨Nat.le_of_ble_eq_true rfl, Nat.le_of_ble_eq_true rfl⟩ rfl hl.1 rfl (Nat.le_of_ble_eq_true rfl) dX12_adds_23 ⟨Nat.le_of_ble_eq_true rfl, Nat.le_of_ble_eq_true rfl⟩) hP hD hS hA [0] [] rfl rfl (by decide +kernel) (by decide +kernel) ?_
  clear hP hD hS
  try clear locs
  try clear H
  intro r_7 u_8 H locs hw_r_7 hP hD hS
  have hw_r_7 : r_7 = u0 := hw_r_7
  refine W.widen (k := 0) (n := 0) (Nat.le_of_ble_eq_true rfl) (Nat.le_of_ble_eq_true rfl) ?_
  replace hP : va_P D vwCl [(hm, .inr (12, [.ref ms, .ref mkp, .int (nI 0), .ref mtr, .int (nI 4), .int (nI 2), .int (nI 2), .int (nI 3), .int (nI 2), .int (nI 1), .ref mas, .int (nI 0), .int (nI 0), .int (nI 0), .ref mso, .ref mon, .ref mot, .ref man, .int (nI 0), .int (nI 0), .ref mst, .ref msm, .ref mtb, .ref mti, .ref mfr, .ref mbn, .ref mbs, .ref mde, .int (nI 0), .int (nI 0), .int (nI 0), .int (nI 0), .long ab, .long be, .ref maa, .ref mab, .ref mba, .ref mbb]))] H := hP
  replace hD : va_D A [(hm, .inr (12, [.ref ms, .ref mkp, .int (nI 0), .ref mtr, .int (nI 4), .int (nI 2), .int (nI 2), .int (nI 3), .int (nI 2), .int (nI 1), .ref mas, .int (nI 0), .int (nI 0), .int (nI 0), .ref mso, .ref mon, .ref mot, .ref man, .int (nI 0), .int (nI 0), .ref mst, .ref msm, .ref mtb, .ref mti, .ref mfr, .ref mbn, .ref mbs, .ref mde, .int (nI 0), .int (nI 0), .int (nI 0), .int (nI 0), .long ab, .long be, .ref maa, .ref mab, .ref mba, .ref mbb]))] := hD
  refine lv_topl (nm_r (e' := u0) hw_r_7 ?_)
  refine xv (wr := []) (xV (As := [.long s0, .long u0]) (rest := []) C (c_X12_settles l D cs hm ms mkp mtr mas mso mon mot man mst msm mtb mti mfr mbn mbs mde maa mab mba mbb ab be s0 u0 va vb h6) kX12_269 hP hD [0] rfl (by decide +kernel) 0 rfl rfl rfl ⟨Nat.le_of_ble_eq_true rfl, Nat.le_of_ble_eq_true rfl⟩ rfl hl.1 rfl (Nat.le_of_ble_eq_true rfl) dX12_adds_26 ⟨Nat.le_of_ble_eq_true rfl, Nat.le_of_ble_eq_true rfl⟩) hP hD hS hA [0] [] rfl rfl (by decide +kernel) (by decide +kernel) ?_
  clear hP hD hS
  try clear locs
  try clear H
  intro u_10 H locs hw_r_9 hP hD hS
  refine W.widen (k := 0) (n := 0) (Nat.le_of_ble_eq_true rfl) (Nat.le_of_ble_eq_true rfl) ?_
  replace hP : va_P D vwCl [(hm, .inr (12, [.ref ms, .ref mkp, .int (nI 0), .ref mtr, .int (nI 4), .int (nI 2), .int (nI 2), .int (nI 3), .int (nI 2), .int (nI 1), .ref mas, .int (nI 0), .int (nI 0), .int (nI 0), .ref mso, .ref mon, .ref mot, .ref man, .int (nI 0), .int (nI 0), .ref mst, .ref msm, .ref mtb, .ref mti, .ref mfr, .ref mbn, .ref mbs, .ref mde, .int (nI 0), .int (nI 0), .int (nI 0), .int (nI 0), .long va, .long vb, .ref maa, .ref mab, .ref mba, .ref mbb]))] H := hP
  replace hD : va_D A [(hm, .inr (12, [.ref ms, .ref mkp, .int (nI 0), .ref mtr, .int (nI 4), .int (nI 2), .int (nI 2), .int (nI 3), .int (nI 2), .int (nI 1), .ref mas, .int (nI 0), .int (nI 0), .int (nI 0), .ref mso, .ref mon, .ref mot, .ref man, .int (nI 0), .int (nI 0), .ref mst, .ref msm, .ref mtb, .ref mti, .ref mfr, .ref mbn, .ref mbs, .ref mde, .int (nI 0), .int (nI 0), .int (nI 0), .int (nI 0), .long va, .long vb, .ref maa, .ref mab, .ref mba, .ref mbb]))] := hD
  exact xretv C () trivial hP hD hS (Nat.le_of_ble_eq_true rfl) (Nat.le_of_ble_eq_true rfl) dX12_adds_29

set_option maxHeartbeats 4000000 in
set_option maxRecDepth 100000 in
theorem c_X12_lessens (l : Launch) (D : va_G) (cs : Nat → ClassId) (hm ms mkp mtr mas mso mon mot man mst msm mtb mti mfr mbn mbs mde maa mab mba mbb : Nat) (ab be : Int64) (p0 q r0 t0 x0 y0 s0 u0 va vb : Int64) (h1 : mtV p0 t0 x0 = true) (h2 : mtV r0 q y0 = true) (h3 : x0 + -y0 = s0) (h4 : plB x0 (-y0) = true) (h5 : mtV q t0 u0 = true) (h6 : stV s0 u0 va vb = true) : xMet l D cs yX12_lessens cX12_lessens 9 none ({ frames := 1, cells := 0, slots := 0, locals := 30 } : Room) [.ref hm, .long p0, .long q, .long r0, .long t0] [(hm, .inr (12, [.ref ms, .ref mkp, .int (nI 0), .ref mtr, .int (nI 4), .int (nI 2), .int (nI 2), .int (nI 3), .int (nI 2), .int (nI 1), .ref mas, .int (nI 0), .int (nI 0), .int (nI 0), .ref mso, .ref mon, .ref mot, .ref man, .int (nI 0), .int (nI 0), .ref mst, .ref msm, .ref mtb, .ref mti, .ref mfr, .ref mbn, .ref mbs, .ref mde, .int (nI 0), .int (nI 0), .int (nI 0), .int (nI 0), .long ab, .long be, .ref maa, .ref mab, .ref mba, .ref mbb]))] (xQv D (fun (_u : Unit) => True) (fun (_u : Unit) => [(hm, .inr (12, [.ref ms, .ref mkp, .int (nI 0), .ref mtr, .int (nI 4), .int (nI 2), .int (nI 2), .int (nI 3), .int (nI 2), .int (nI 1), .ref mas, .int (nI 0), .int (nI 0), .int (nI 0), .ref mso, .ref mon, .ref mot, .ref man, .int (nI 0), .int (nI 0), .ref mst, .ref msm, .ref mtb, .ref mti, .ref mfr, .ref mbn, .ref mbs, .ref mde, .int (nI 0), .int (nI 0), .int (nI 0), .int (nI 0), .long va, .long vb, .ref maa, .ref mab, .ref mba, .ref mbb]))])) := by
  refine xMet.intro (by decide) (Nat.le_of_ble_eq_true rfl) ?_
  intro p e s m args below meth c A ls C hP hD hS hl
  have hx := C.1
  have hb := C.2.1
  have hz := C.2.2.2.2.1
  have hown := C.2.2.2.1
  have hA := C.2.2.2.2.2.2.2.2.2
  have hAO := C.2.2.2.2.2.2.2.2.1.2.2
  replace hl : lv_has ls 9 [(0, .ref hm), (1, .long p0), (3, .long q), (5, .long r0), (7, .long t0)] := hl
  obtain ⟨H, hH⟩ : ∃ H, H = s.heap := ⟨_, rfl⟩
  replace hP : va_P D vwCl [(hm, .inr (12, [.ref ms, .ref mkp, .int (nI 0), .ref mtr, .int (nI 4), .int (nI 2), .int (nI 2), .int (nI 3), .int (nI 2), .int (nI 1), .ref mas, .int (nI 0), .int (nI 0), .int (nI 0), .ref mso, .ref mon, .ref mot, .ref man, .int (nI 0), .int (nI 0), .ref mst, .ref msm, .ref mtb, .ref mti, .ref mfr, .ref mbn, .ref mbs, .ref mde, .int (nI 0), .int (nI 0), .int (nI 0), .int (nI 0), .long ab, .long be, .ref maa, .ref mab, .ref mba, .ref mbb]))] H := by rw [hH]; exact hP
  replace hS : va_S A s.heap H [] := by rw [hH]; exact hS
  obtain ⟨locs, hlocs⟩ : ∃ z : List Loc, z = [] := ⟨_, rfl⟩
  rw [← hlocs] at hS
  suffices hW : W p l e ({ frames := 1, cells := 0, slots := 0, locals := 30 } : Room) s m args below meth c H locs 0 0 (MQ below ((xQv D (fun (_u : Unit) => True) (fun (_u : Unit) => [(hm, .inr (12, [.ref ms, .ref mkp, .int (nI 0), .ref mtr, .int (nI 4), .int (nI 2), .int (nI 2), .int (nI 3), .int (nI 2), .int (nI 1), .ref mas, .int (nI 0), .int (nI 0), .int (nI 0), .ref mso, .ref mon, .ref mot, .ref man, .int (nI 0), .int (nI 0), .ref mst, .ref msm, .ref mtb, .ref mti, .ref mfr, .ref mbn, .ref mbs, .ref mde, .int (nI 0), .int (nI 0), .int (nI 0), .int (nI 0), .long va, .long vb, .ref maa, .ref mab, .ref mba, .ref mbb]))])) A) args s 0 0 A) (F0 m 0 ls []) by rw [hlocs, hH] at hW; exact hW
  clear hH hlocs
  refine lv_aload_n hx hb dX12_lessens_0 rfl (lv_at hl 0 rfl) ?_
  refine lv_aload_n hx hb dX12_lessens_1 rfl (lv_at hl 0 rfl) ?_
  refine lv_aload_n hx hb dX12_lessens_2 rfl (lv_at hl 0 rfl) ?_
  refine lv_lload_n hx hb dX12_lessens_3 rfl (lv_at hl 1 rfl) ?_
  refine lv_lload hx hb dX12_lessens_4 (lv_at hl 4 rfl) ?_
  refine xl (wr := []) (xV (As := [.long p0, .long t0]) (rest := [.ref hm, .ref hm]) C (c_X12_times l D cs hm ms mkp mtr mas mso mon mot man mst msm mtb mti mfr mbn mbs mde maa mab mba mbb ab be p0 t0 x0 h1) kX12_263 hP hD [0] rfl (by decide +kernel) 0 rfl rfl rfl ⟨Nat.le_of_ble_eq_true rfl, Nat.le_of_ble_eq_true rfl⟩ rfl hl.1 rfl (Nat.le_of_ble_eq_true rfl) dX12_lessens_6 ⟨Nat.le_of_ble_eq_true rfl, Nat.le_of_ble_eq_true rfl⟩) hP hD hS hA [0] [] rfl rfl (by decide +kernel) (by decide +kernel) ?_
  clear hP hD hS
  try clear locs
  try clear H
  intro r_1 u_2 H locs hw_r_1 hP hD hS
  have hw_r_1 : r_1 = x0 := hw_r_1
  refine W.widen (k := 0) (n := 0) (Nat.le_of_ble_eq_true rfl) (Nat.le_of_ble_eq_true rfl) ?_
  replace hP : va_P D vwCl [(hm, .inr (12, [.ref ms, .ref mkp, .int (nI 0), .ref mtr, .int (nI 4), .int (nI 2), .int (nI 2), .int (nI 3), .int (nI 2), .int (nI 1), .ref mas, .int (nI 0), .int (nI 0), .int (nI 0), .ref mso, .ref mon, .ref mot, .ref man, .int (nI 0), .int (nI 0), .ref mst, .ref msm, .ref mtb, .ref mti, .ref mfr, .ref mbn, .ref mbs, .ref mde, .int (nI 0), .int (nI 0), .int (nI 0), .int (nI 0), .long ab, .long be, .ref maa, .ref mab, .ref mba, .ref mbb]))] H := hP
  replace hD : va_D A [(hm, .inr (12, [.ref ms, .ref mkp, .int (nI 0), .ref mtr, .int (nI 4), .int (nI 2), .int (nI 2), .int (nI 3), .int (nI 2), .int (nI 1), .ref mas, .int (nI 0), .int (nI 0), .int (nI 0), .ref mso, .ref mon, .ref mot, .ref man, .int (nI 0), .int (nI 0), .ref mst, .ref msm, .ref mtb, .ref mti, .ref mfr, .ref mbn, .ref mbs, .ref mde, .int (nI 0), .int (nI 0), .int (nI 0), .int (nI 0), .long ab, .long be, .ref maa, .ref mab, .ref mba, .ref mbb]))] := hD
  refine lv_topl (nm_r (e' := x0) hw_r_1 ?_)
  refine lv_aload_n hx hb dX12_lessens_9 rfl (lv_at hl 0 rfl) ?_
  refine lv_lload hx hb dX12_lessens_10 (lv_at hl 3 rfl) ?_
  refine lv_lload_n hx hb dX12_lessens_12 rfl (lv_at hl 2 rfl) ?_
  refine xl (wr := []) (xV (As := [.long r0, .long q]) (rest := [.long x0, .ref hm, .ref hm]) C (c_X12_times l D cs hm ms mkp mtr mas mso mon mot man mst msm mtb mti mfr mbn mbs mde maa mab mba mbb ab be r0 q y0 h2) kX12_263 hP hD [0] rfl (by decide +kernel) 0 rfl rfl rfl ⟨Nat.le_of_ble_eq_true rfl, Nat.le_of_ble_eq_true rfl⟩ rfl hl.1 rfl (Nat.le_of_ble_eq_true rfl) dX12_lessens_13 ⟨Nat.le_of_ble_eq_true rfl, Nat.le_of_ble_eq_true rfl⟩) hP hD hS hA [0] [] rfl rfl (by decide +kernel) (by decide +kernel) ?_
  clear hP hD hS
  try clear locs
  try clear H
  intro r_3 u_4 H locs hw_r_3 hP hD hS
  have hw_r_3 : r_3 = y0 := hw_r_3
  refine W.widen (k := 0) (n := 0) (Nat.le_of_ble_eq_true rfl) (Nat.le_of_ble_eq_true rfl) ?_
  replace hP : va_P D vwCl [(hm, .inr (12, [.ref ms, .ref mkp, .int (nI 0), .ref mtr, .int (nI 4), .int (nI 2), .int (nI 2), .int (nI 3), .int (nI 2), .int (nI 1), .ref mas, .int (nI 0), .int (nI 0), .int (nI 0), .ref mso, .ref mon, .ref mot, .ref man, .int (nI 0), .int (nI 0), .ref mst, .ref msm, .ref mtb, .ref mti, .ref mfr, .ref mbn, .ref mbs, .ref mde, .int (nI 0), .int (nI 0), .int (nI 0), .int (nI 0), .long ab, .long be, .ref maa, .ref mab, .ref mba, .ref mbb]))] H := hP
  replace hD : va_D A [(hm, .inr (12, [.ref ms, .ref mkp, .int (nI 0), .ref mtr, .int (nI 4), .int (nI 2), .int (nI 2), .int (nI 3), .int (nI 2), .int (nI 1), .ref mas, .int (nI 0), .int (nI 0), .int (nI 0), .ref mso, .ref mon, .ref mot, .ref man, .int (nI 0), .int (nI 0), .ref mst, .ref msm, .ref mtb, .ref mti, .ref mfr, .ref mbn, .ref mbs, .ref mde, .int (nI 0), .int (nI 0), .int (nI 0), .int (nI 0), .long ab, .long be, .ref maa, .ref mab, .ref mba, .ref mbb]))] := hD
  refine lv_topl (nm_r (e' := y0) hw_r_3 ?_)
  refine lv_lneg hx hb dX12_lessens_16 ?_
  refine xl (wr := []) (xV (As := [.long x0, .long (-y0)]) (rest := [.ref hm]) C (c_X12_plus l D cs hm ms mkp mtr mas mso mon mot man mst msm mtb mti mfr mbn mbs mde maa mab mba mbb ab be x0 (-y0) s0 h3 h4) kX12_266 hP hD [0] rfl (by decide +kernel) 0 rfl rfl rfl ⟨Nat.le_of_ble_eq_true rfl, Nat.le_of_ble_eq_true rfl⟩ rfl hl.1 rfl (Nat.le_of_ble_eq_true rfl) dX12_lessens_17 ⟨Nat.le_of_ble_eq_true rfl, Nat.le_of_ble_eq_true rfl⟩) hP hD hS hA [0] [] rfl rfl (by decide +kernel) (by decide +kernel) ?_
  clear hP hD hS
  try clear locs
  try clear H
  intro r_5 u_6 H locs hw_r_5 hP hD hS
  have hw_r_5 : r_5 = s0 := hw_r_5
  refine W.widen (k := 0) (n := 0) (Nat.le_of_ble_eq_true rfl) (Nat.le_of_ble_eq_true rfl) ?_
  replace hP : va_P D vwCl [(hm, .inr (12, [.ref ms, .ref mkp, .int (nI 0), .ref mtr, .int (nI 4), .int (nI 2), .int (nI 2), .int (nI 3), .int (nI 2), .int (nI 1), .ref mas, .int (nI 0), .int (nI 0), .int (nI 0), .ref mso, .ref mon, .ref mot, .ref man, .int (nI 0), .int (nI 0), .ref mst, .ref msm, .ref mtb, .ref mti, .ref mfr, .ref mbn, .ref mbs, .ref mde, .int (nI 0), .int (nI 0), .int (nI 0), .int (nI 0), .long ab, .long be, .ref maa, .ref mab, .ref mba, .ref mbb]))] H := hP
  replace hD : va_D A [(hm, .inr (12, [.ref ms, .ref mkp, .int (nI 0), .ref mtr, .int (nI 4), .int (nI 2), .int (nI 2), .int (nI 3), .int (nI 2), .int (nI 1), .ref mas, .int (nI 0), .int (nI 0), .int (nI 0), .ref mso, .ref mon, .ref mot, .ref man, .int (nI 0), .int (nI 0), .ref mst, .ref msm, .ref mtb, .ref mti, .ref mfr, .ref mbn, .ref mbs, .ref mde, .int (nI 0), .int (nI 0), .int (nI 0), .int (nI 0), .long ab, .long be, .ref maa, .ref mab, .ref mba, .ref mbb]))] := hD
  refine lv_topl (nm_r (e' := s0) hw_r_5 ?_)
  refine lv_aload_n hx hb dX12_lessens_20 rfl (lv_at hl 0 rfl) ?_
  refine lv_lload_n hx hb dX12_lessens_21 rfl (lv_at hl 2 rfl) ?_
  refine lv_lload hx hb dX12_lessens_22 (lv_at hl 4 rfl) ?_
  refine xl (wr := []) (xV (As := [.long q, .long t0]) (rest := [.long s0, .ref hm]) C (c_X12_times l D cs hm ms mkp mtr mas mso mon mot man mst msm mtb mti mfr mbn mbs mde maa mab mba mbb ab be q t0 u0 h5) kX12_263 hP hD [0] rfl (by decide +kernel) 0 rfl rfl rfl ⟨Nat.le_of_ble_eq_true rfl, Nat.le_of_ble_eq_true rfl⟩ rfl hl.1 rfl (Nat.le_of_ble_eq_true rfl) dX12_lessens_24 ⟨Nat.le_of_ble_eq_true rfl, Nat.le_of_ble_eq_true rfl⟩) hP hD hS hA [0] [] rfl rfl (by decide +kernel) (by decide +kernel) ?_
  clear hP hD hS
  try clear locs
  try clear H
  intro r_7 u_8 H locs hw_r_7 hP hD hS
  have hw_r_7 : r_7 = u0 := hw_r_7
  refine W.widen (k := 0) (n := 0) (Nat.le_of_ble_eq_true rfl) (Nat.le_of_ble_eq_true rfl) ?_
  replace hP : va_P D vwCl [(hm, .inr (12, [.ref ms, .ref mkp, .int (nI 0), .ref mtr, .int (nI 4), .int (nI 2), .int (nI 2), .int (nI 3), .int (nI 2), .int (nI 1), .ref mas, .int (nI 0), .int (nI 0), .int (nI 0), .ref mso, .ref mon, .ref mot, .ref man, .int (nI 0), .int (nI 0), .ref mst, .ref msm, .ref mtb, .ref mti, .ref mfr, .ref mbn, .ref mbs, .ref mde, .int (nI 0), .int (nI 0), .int (nI 0), .int (nI 0), .long ab, .long be, .ref maa, .ref mab, .ref mba, .ref mbb]))] H := hP
  replace hD : va_D A [(hm, .inr (12, [.ref ms, .ref mkp, .int (nI 0), .ref mtr, .int (nI 4), .int (nI 2), .int (nI 2), .int (nI 3), .int (nI 2), .int (nI 1), .ref mas, .int (nI 0), .int (nI 0), .int (nI 0), .ref mso, .ref mon, .ref mot, .ref man, .int (nI 0), .int (nI 0), .ref mst, .ref msm, .ref mtb, .ref mti, .ref mfr, .ref mbn, .ref mbs, .ref mde, .int (nI 0), .int (nI 0), .int (nI 0), .int (nI 0), .long ab, .long be, .ref maa, .ref mab, .ref mba, .ref mbb]))] := hD
  refine lv_topl (nm_r (e' := u0) hw_r_7 ?_)
  refine xv (wr := []) (xV (As := [.long s0, .long u0]) (rest := []) C (c_X12_settles l D cs hm ms mkp mtr mas mso mon mot man mst msm mtb mti mfr mbn mbs mde maa mab mba mbb ab be s0 u0 va vb h6) kX12_269 hP hD [0] rfl (by decide +kernel) 0 rfl rfl rfl ⟨Nat.le_of_ble_eq_true rfl, Nat.le_of_ble_eq_true rfl⟩ rfl hl.1 rfl (Nat.le_of_ble_eq_true rfl) dX12_lessens_27 ⟨Nat.le_of_ble_eq_true rfl, Nat.le_of_ble_eq_true rfl⟩) hP hD hS hA [0] [] rfl rfl (by decide +kernel) (by decide +kernel) ?_
  clear hP hD hS
  try clear locs
  try clear H
  intro u_10 H locs hw_r_9 hP hD hS
  refine W.widen (k := 0) (n := 0) (Nat.le_of_ble_eq_true rfl) (Nat.le_of_ble_eq_true rfl) ?_
  replace hP : va_P D vwCl [(hm, .inr (12, [.ref ms, .ref mkp, .int (nI 0), .ref mtr, .int (nI 4), .int (nI 2), .int (nI 2), .int (nI 3), .int (nI 2), .int (nI 1), .ref mas, .int (nI 0), .int (nI 0), .int (nI 0), .ref mso, .ref mon, .ref mot, .ref man, .int (nI 0), .int (nI 0), .ref mst, .ref msm, .ref mtb, .ref mti, .ref mfr, .ref mbn, .ref mbs, .ref mde, .int (nI 0), .int (nI 0), .int (nI 0), .int (nI 0), .long va, .long vb, .ref maa, .ref mab, .ref mba, .ref mbb]))] H := hP
  replace hD : va_D A [(hm, .inr (12, [.ref ms, .ref mkp, .int (nI 0), .ref mtr, .int (nI 4), .int (nI 2), .int (nI 2), .int (nI 3), .int (nI 2), .int (nI 1), .ref mas, .int (nI 0), .int (nI 0), .int (nI 0), .ref mso, .ref mon, .ref mot, .ref man, .int (nI 0), .int (nI 0), .ref mst, .ref msm, .ref mtb, .ref mti, .ref mfr, .ref mbn, .ref mbs, .ref mde, .int (nI 0), .int (nI 0), .int (nI 0), .int (nI 0), .long va, .long vb, .ref maa, .ref mab, .ref mba, .ref mbb]))] := hD
  exact xretv C () trivial hP hD hS (Nat.le_of_ble_eq_true rfl) (Nat.le_of_ble_eq_true rfl) dX12_lessens_30

set_option maxHeartbeats 4000000 in
set_option maxRecDepth 100000 in
theorem c_X12_multiplies (l : Launch) (D : va_G) (cs : Nat → ClassId) (hm ms mkp mtr mas mso mon mot man mst msm mtb mti mfr mbn mbs mde maa mab mba mbb : Nat) (ab be : Int64) (p0 q r0 t0 x0 y0 va vb : Int64) (h1 : mtV p0 r0 x0 = true) (h2 : mtV q t0 y0 = true) (h3 : stV x0 y0 va vb = true) : xMet l D cs yX12_multiplies cX12_multiplies 9 none ({ frames := 1, cells := 0, slots := 0, locals := 30 } : Room) [.ref hm, .long p0, .long q, .long r0, .long t0] [(hm, .inr (12, [.ref ms, .ref mkp, .int (nI 0), .ref mtr, .int (nI 4), .int (nI 2), .int (nI 2), .int (nI 3), .int (nI 2), .int (nI 1), .ref mas, .int (nI 0), .int (nI 0), .int (nI 0), .ref mso, .ref mon, .ref mot, .ref man, .int (nI 0), .int (nI 0), .ref mst, .ref msm, .ref mtb, .ref mti, .ref mfr, .ref mbn, .ref mbs, .ref mde, .int (nI 0), .int (nI 0), .int (nI 0), .int (nI 0), .long ab, .long be, .ref maa, .ref mab, .ref mba, .ref mbb]))] (xQv D (fun (_u : Unit) => True) (fun (_u : Unit) => [(hm, .inr (12, [.ref ms, .ref mkp, .int (nI 0), .ref mtr, .int (nI 4), .int (nI 2), .int (nI 2), .int (nI 3), .int (nI 2), .int (nI 1), .ref mas, .int (nI 0), .int (nI 0), .int (nI 0), .ref mso, .ref mon, .ref mot, .ref man, .int (nI 0), .int (nI 0), .ref mst, .ref msm, .ref mtb, .ref mti, .ref mfr, .ref mbn, .ref mbs, .ref mde, .int (nI 0), .int (nI 0), .int (nI 0), .int (nI 0), .long va, .long vb, .ref maa, .ref mab, .ref mba, .ref mbb]))])) := by
  refine xMet.intro (by decide) (Nat.le_of_ble_eq_true rfl) ?_
  intro p e s m args below meth c A ls C hP hD hS hl
  have hx := C.1
  have hb := C.2.1
  have hz := C.2.2.2.2.1
  have hown := C.2.2.2.1
  have hA := C.2.2.2.2.2.2.2.2.2
  have hAO := C.2.2.2.2.2.2.2.2.1.2.2
  replace hl : lv_has ls 9 [(0, .ref hm), (1, .long p0), (3, .long q), (5, .long r0), (7, .long t0)] := hl
  obtain ⟨H, hH⟩ : ∃ H, H = s.heap := ⟨_, rfl⟩
  replace hP : va_P D vwCl [(hm, .inr (12, [.ref ms, .ref mkp, .int (nI 0), .ref mtr, .int (nI 4), .int (nI 2), .int (nI 2), .int (nI 3), .int (nI 2), .int (nI 1), .ref mas, .int (nI 0), .int (nI 0), .int (nI 0), .ref mso, .ref mon, .ref mot, .ref man, .int (nI 0), .int (nI 0), .ref mst, .ref msm, .ref mtb, .ref mti, .ref mfr, .ref mbn, .ref mbs, .ref mde, .int (nI 0), .int (nI 0), .int (nI 0), .int (nI 0), .long ab, .long be, .ref maa, .ref mab, .ref mba, .ref mbb]))] H := by rw [hH]; exact hP
  replace hS : va_S A s.heap H [] := by rw [hH]; exact hS
  obtain ⟨locs, hlocs⟩ : ∃ z : List Loc, z = [] := ⟨_, rfl⟩
  rw [← hlocs] at hS
  suffices hW : W p l e ({ frames := 1, cells := 0, slots := 0, locals := 30 } : Room) s m args below meth c H locs 0 0 (MQ below ((xQv D (fun (_u : Unit) => True) (fun (_u : Unit) => [(hm, .inr (12, [.ref ms, .ref mkp, .int (nI 0), .ref mtr, .int (nI 4), .int (nI 2), .int (nI 2), .int (nI 3), .int (nI 2), .int (nI 1), .ref mas, .int (nI 0), .int (nI 0), .int (nI 0), .ref mso, .ref mon, .ref mot, .ref man, .int (nI 0), .int (nI 0), .ref mst, .ref msm, .ref mtb, .ref mti, .ref mfr, .ref mbn, .ref mbs, .ref mde, .int (nI 0), .int (nI 0), .int (nI 0), .int (nI 0), .long va, .long vb, .ref maa, .ref mab, .ref mba, .ref mbb]))])) A) args s 0 0 A) (F0 m 0 ls []) by rw [hlocs, hH] at hW; exact hW
  clear hH hlocs
  refine lv_aload_n hx hb dX12_multiplies_0 rfl (lv_at hl 0 rfl) ?_
  refine lv_aload_n hx hb dX12_multiplies_1 rfl (lv_at hl 0 rfl) ?_
  refine lv_lload_n hx hb dX12_multiplies_2 rfl (lv_at hl 1 rfl) ?_
  refine lv_lload hx hb dX12_multiplies_3 (lv_at hl 3 rfl) ?_
  refine xl (wr := []) (xV (As := [.long p0, .long r0]) (rest := [.ref hm]) C (c_X12_times l D cs hm ms mkp mtr mas mso mon mot man mst msm mtb mti mfr mbn mbs mde maa mab mba mbb ab be p0 r0 x0 h1) kX12_263 hP hD [0] rfl (by decide +kernel) 0 rfl rfl rfl ⟨Nat.le_of_ble_eq_true rfl, Nat.le_of_ble_eq_true rfl⟩ rfl hl.1 rfl (Nat.le_of_ble_eq_true rfl) dX12_multiplies_5 ⟨Nat.le_of_ble_eq_true rfl, Nat.le_of_ble_eq_true rfl⟩) hP hD hS hA [0] [] rfl rfl (by decide +kernel) (by decide +kernel) ?_
  clear hP hD hS
  try clear locs
  try clear H
  intro r_1 u_2 H locs hw_r_1 hP hD hS
  have hw_r_1 : r_1 = x0 := hw_r_1
  refine W.widen (k := 0) (n := 0) (Nat.le_of_ble_eq_true rfl) (Nat.le_of_ble_eq_true rfl) ?_
  replace hP : va_P D vwCl [(hm, .inr (12, [.ref ms, .ref mkp, .int (nI 0), .ref mtr, .int (nI 4), .int (nI 2), .int (nI 2), .int (nI 3), .int (nI 2), .int (nI 1), .ref mas, .int (nI 0), .int (nI 0), .int (nI 0), .ref mso, .ref mon, .ref mot, .ref man, .int (nI 0), .int (nI 0), .ref mst, .ref msm, .ref mtb, .ref mti, .ref mfr, .ref mbn, .ref mbs, .ref mde, .int (nI 0), .int (nI 0), .int (nI 0), .int (nI 0), .long ab, .long be, .ref maa, .ref mab, .ref mba, .ref mbb]))] H := hP
  replace hD : va_D A [(hm, .inr (12, [.ref ms, .ref mkp, .int (nI 0), .ref mtr, .int (nI 4), .int (nI 2), .int (nI 2), .int (nI 3), .int (nI 2), .int (nI 1), .ref mas, .int (nI 0), .int (nI 0), .int (nI 0), .ref mso, .ref mon, .ref mot, .ref man, .int (nI 0), .int (nI 0), .ref mst, .ref msm, .ref mtb, .ref mti, .ref mfr, .ref mbn, .ref mbs, .ref mde, .int (nI 0), .int (nI 0), .int (nI 0), .int (nI 0), .long ab, .long be, .ref maa, .ref mab, .ref mba, .ref mbb]))] := hD
  refine lv_topl (nm_r (e' := x0) hw_r_1 ?_)
  refine lv_aload_n hx hb dX12_multiplies_8 rfl (lv_at hl 0 rfl) ?_
  refine lv_lload_n hx hb dX12_multiplies_9 rfl (lv_at hl 2 rfl) ?_
  refine lv_lload hx hb dX12_multiplies_10 (lv_at hl 4 rfl) ?_
  refine xl (wr := []) (xV (As := [.long q, .long t0]) (rest := [.long x0, .ref hm]) C (c_X12_times l D cs hm ms mkp mtr mas mso mon mot man mst msm mtb mti mfr mbn mbs mde maa mab mba mbb ab be q t0 y0 h2) kX12_263 hP hD [0] rfl (by decide +kernel) 0 rfl rfl rfl ⟨Nat.le_of_ble_eq_true rfl, Nat.le_of_ble_eq_true rfl⟩ rfl hl.1 rfl (Nat.le_of_ble_eq_true rfl) dX12_multiplies_12 ⟨Nat.le_of_ble_eq_true rfl, Nat.le_of_ble_eq_true rfl⟩) hP hD hS hA [0] [] rfl rfl (by decide +kernel) (by decide +kernel) ?_
  clear hP hD hS
  try clear locs
  try clear H
  intro r_3 u_4 H locs hw_r_3 hP hD hS
  have hw_r_3 : r_3 = y0 := hw_r_3
  refine W.widen (k := 0) (n := 0) (Nat.le_of_ble_eq_true rfl) (Nat.le_of_ble_eq_true rfl) ?_
  replace hP : va_P D vwCl [(hm, .inr (12, [.ref ms, .ref mkp, .int (nI 0), .ref mtr, .int (nI 4), .int (nI 2), .int (nI 2), .int (nI 3), .int (nI 2), .int (nI 1), .ref mas, .int (nI 0), .int (nI 0), .int (nI 0), .ref mso, .ref mon, .ref mot, .ref man, .int (nI 0), .int (nI 0), .ref mst, .ref msm, .ref mtb, .ref mti, .ref mfr, .ref mbn, .ref mbs, .ref mde, .int (nI 0), .int (nI 0), .int (nI 0), .int (nI 0), .long ab, .long be, .ref maa, .ref mab, .ref mba, .ref mbb]))] H := hP
  replace hD : va_D A [(hm, .inr (12, [.ref ms, .ref mkp, .int (nI 0), .ref mtr, .int (nI 4), .int (nI 2), .int (nI 2), .int (nI 3), .int (nI 2), .int (nI 1), .ref mas, .int (nI 0), .int (nI 0), .int (nI 0), .ref mso, .ref mon, .ref mot, .ref man, .int (nI 0), .int (nI 0), .ref mst, .ref msm, .ref mtb, .ref mti, .ref mfr, .ref mbn, .ref mbs, .ref mde, .int (nI 0), .int (nI 0), .int (nI 0), .int (nI 0), .long ab, .long be, .ref maa, .ref mab, .ref mba, .ref mbb]))] := hD
  refine lv_topl (nm_r (e' := y0) hw_r_3 ?_)
  refine xv (wr := []) (xV (As := [.long x0, .long y0]) (rest := []) C (c_X12_settles l D cs hm ms mkp mtr mas mso mon mot man mst msm mtb mti mfr mbn mbs mde maa mab mba mbb ab be x0 y0 va vb h3) kX12_269 hP hD [0] rfl (by decide +kernel) 0 rfl rfl rfl ⟨Nat.le_of_ble_eq_true rfl, Nat.le_of_ble_eq_true rfl⟩ rfl hl.1 rfl (Nat.le_of_ble_eq_true rfl) dX12_multiplies_15 ⟨Nat.le_of_ble_eq_true rfl, Nat.le_of_ble_eq_true rfl⟩) hP hD hS hA [0] [] rfl rfl (by decide +kernel) (by decide +kernel) ?_
  clear hP hD hS
  try clear locs
  try clear H
  intro u_6 H locs hw_r_5 hP hD hS
  refine W.widen (k := 0) (n := 0) (Nat.le_of_ble_eq_true rfl) (Nat.le_of_ble_eq_true rfl) ?_
  replace hP : va_P D vwCl [(hm, .inr (12, [.ref ms, .ref mkp, .int (nI 0), .ref mtr, .int (nI 4), .int (nI 2), .int (nI 2), .int (nI 3), .int (nI 2), .int (nI 1), .ref mas, .int (nI 0), .int (nI 0), .int (nI 0), .ref mso, .ref mon, .ref mot, .ref man, .int (nI 0), .int (nI 0), .ref mst, .ref msm, .ref mtb, .ref mti, .ref mfr, .ref mbn, .ref mbs, .ref mde, .int (nI 0), .int (nI 0), .int (nI 0), .int (nI 0), .long va, .long vb, .ref maa, .ref mab, .ref mba, .ref mbb]))] H := hP
  replace hD : va_D A [(hm, .inr (12, [.ref ms, .ref mkp, .int (nI 0), .ref mtr, .int (nI 4), .int (nI 2), .int (nI 2), .int (nI 3), .int (nI 2), .int (nI 1), .ref mas, .int (nI 0), .int (nI 0), .int (nI 0), .ref mso, .ref mon, .ref mot, .ref man, .int (nI 0), .int (nI 0), .ref mst, .ref msm, .ref mtb, .ref mti, .ref mfr, .ref mbn, .ref mbs, .ref mde, .int (nI 0), .int (nI 0), .int (nI 0), .int (nI 0), .long va, .long vb, .ref maa, .ref mab, .ref mba, .ref mbb]))] := hD
  exact xretv C () trivial hP hD hS (Nat.le_of_ble_eq_true rfl) (Nat.le_of_ble_eq_true rfl) dX12_multiplies_18

set_option maxHeartbeats 4000000 in
set_option maxRecDepth 100000 in
theorem c_X12_divides (l : Launch) (D : va_G) (cs : Nat → ClassId) (hm ms mkp mtr mas mso mon mot man mst msm mtb mti mfr mbn mbs mde maa mab mba mbb : Nat) (ab be : Int64) (p0 q r0 t0 x0 y0 va vb : Int64) (h1 : mtV p0 t0 x0 = true) (h2 : mtV q r0 y0 = true) (h3 : stV x0 y0 va vb = true) : xMet l D cs yX12_divides cX12_divides 9 none ({ frames := 1, cells := 0, slots := 0, locals := 30 } : Room) [.ref hm, .long p0, .long q, .long r0, .long t0] [(hm, .inr (12, [.ref ms, .ref mkp, .int (nI 0), .ref mtr, .int (nI 4), .int (nI 2), .int (nI 2), .int (nI 3), .int (nI 2), .int (nI 1), .ref mas, .int (nI 0), .int (nI 0), .int (nI 0), .ref mso, .ref mon, .ref mot, .ref man, .int (nI 0), .int (nI 0), .ref mst, .ref msm, .ref mtb, .ref mti, .ref mfr, .ref mbn, .ref mbs, .ref mde, .int (nI 0), .int (nI 0), .int (nI 0), .int (nI 0), .long ab, .long be, .ref maa, .ref mab, .ref mba, .ref mbb]))] (xQv D (fun (_u : Unit) => True) (fun (_u : Unit) => [(hm, .inr (12, [.ref ms, .ref mkp, .int (nI 0), .ref mtr, .int (nI 4), .int (nI 2), .int (nI 2), .int (nI 3), .int (nI 2), .int (nI 1), .ref mas, .int (nI 0), .int (nI 0), .int (nI 0), .ref mso, .ref mon, .ref mot, .ref man, .int (nI 0), .int (nI 0), .ref mst, .ref msm, .ref mtb, .ref mti, .ref mfr, .ref mbn, .ref mbs, .ref mde, .int (nI 0), .int (nI 0), .int (nI 0), .int (nI 0), .long va, .long vb, .ref maa, .ref mab, .ref mba, .ref mbb]))])) := by
  refine xMet.intro (by decide) (Nat.le_of_ble_eq_true rfl) ?_
  intro p e s m args below meth c A ls C hP hD hS hl
  have hx := C.1
  have hb := C.2.1
  have hz := C.2.2.2.2.1
  have hown := C.2.2.2.1
  have hA := C.2.2.2.2.2.2.2.2.2
  have hAO := C.2.2.2.2.2.2.2.2.1.2.2
  replace hl : lv_has ls 9 [(0, .ref hm), (1, .long p0), (3, .long q), (5, .long r0), (7, .long t0)] := hl
  obtain ⟨H, hH⟩ : ∃ H, H = s.heap := ⟨_, rfl⟩
  replace hP : va_P D vwCl [(hm, .inr (12, [.ref ms, .ref mkp, .int (nI 0), .ref mtr, .int (nI 4), .int (nI 2), .int (nI 2), .int (nI 3), .int (nI 2), .int (nI 1), .ref mas, .int (nI 0), .int (nI 0), .int (nI 0), .ref mso, .ref mon, .ref mot, .ref man, .int (nI 0), .int (nI 0), .ref mst, .ref msm, .ref mtb, .ref mti, .ref mfr, .ref mbn, .ref mbs, .ref mde, .int (nI 0), .int (nI 0), .int (nI 0), .int (nI 0), .long ab, .long be, .ref maa, .ref mab, .ref mba, .ref mbb]))] H := by rw [hH]; exact hP
  replace hS : va_S A s.heap H [] := by rw [hH]; exact hS
  obtain ⟨locs, hlocs⟩ : ∃ z : List Loc, z = [] := ⟨_, rfl⟩
  rw [← hlocs] at hS
  suffices hW : W p l e ({ frames := 1, cells := 0, slots := 0, locals := 30 } : Room) s m args below meth c H locs 0 0 (MQ below ((xQv D (fun (_u : Unit) => True) (fun (_u : Unit) => [(hm, .inr (12, [.ref ms, .ref mkp, .int (nI 0), .ref mtr, .int (nI 4), .int (nI 2), .int (nI 2), .int (nI 3), .int (nI 2), .int (nI 1), .ref mas, .int (nI 0), .int (nI 0), .int (nI 0), .ref mso, .ref mon, .ref mot, .ref man, .int (nI 0), .int (nI 0), .ref mst, .ref msm, .ref mtb, .ref mti, .ref mfr, .ref mbn, .ref mbs, .ref mde, .int (nI 0), .int (nI 0), .int (nI 0), .int (nI 0), .long va, .long vb, .ref maa, .ref mab, .ref mba, .ref mbb]))])) A) args s 0 0 A) (F0 m 0 ls []) by rw [hlocs, hH] at hW; exact hW
  clear hH hlocs
  refine lv_aload_n hx hb dX12_divides_0 rfl (lv_at hl 0 rfl) ?_
  refine lv_aload_n hx hb dX12_divides_1 rfl (lv_at hl 0 rfl) ?_
  refine lv_lload_n hx hb dX12_divides_2 rfl (lv_at hl 1 rfl) ?_
  refine lv_lload hx hb dX12_divides_3 (lv_at hl 4 rfl) ?_
  refine xl (wr := []) (xV (As := [.long p0, .long t0]) (rest := [.ref hm]) C (c_X12_times l D cs hm ms mkp mtr mas mso mon mot man mst msm mtb mti mfr mbn mbs mde maa mab mba mbb ab be p0 t0 x0 h1) kX12_263 hP hD [0] rfl (by decide +kernel) 0 rfl rfl rfl ⟨Nat.le_of_ble_eq_true rfl, Nat.le_of_ble_eq_true rfl⟩ rfl hl.1 rfl (Nat.le_of_ble_eq_true rfl) dX12_divides_5 ⟨Nat.le_of_ble_eq_true rfl, Nat.le_of_ble_eq_true rfl⟩) hP hD hS hA [0] [] rfl rfl (by decide +kernel) (by decide +kernel) ?_
  clear hP hD hS
  try clear locs
  try clear H
  intro r_1 u_2 H locs hw_r_1 hP hD hS
  have hw_r_1 : r_1 = x0 := hw_r_1
  refine W.widen (k := 0) (n := 0) (Nat.le_of_ble_eq_true rfl) (Nat.le_of_ble_eq_true rfl) ?_
  replace hP : va_P D vwCl [(hm, .inr (12, [.ref ms, .ref mkp, .int (nI 0), .ref mtr, .int (nI 4), .int (nI 2), .int (nI 2), .int (nI 3), .int (nI 2), .int (nI 1), .ref mas, .int (nI 0), .int (nI 0), .int (nI 0), .ref mso, .ref mon, .ref mot, .ref man, .int (nI 0), .int (nI 0), .ref mst, .ref msm, .ref mtb, .ref mti, .ref mfr, .ref mbn, .ref mbs, .ref mde, .int (nI 0), .int (nI 0), .int (nI 0), .int (nI 0), .long ab, .long be, .ref maa, .ref mab, .ref mba, .ref mbb]))] H := hP
  replace hD : va_D A [(hm, .inr (12, [.ref ms, .ref mkp, .int (nI 0), .ref mtr, .int (nI 4), .int (nI 2), .int (nI 2), .int (nI 3), .int (nI 2), .int (nI 1), .ref mas, .int (nI 0), .int (nI 0), .int (nI 0), .ref mso, .ref mon, .ref mot, .ref man, .int (nI 0), .int (nI 0), .ref mst, .ref msm, .ref mtb, .ref mti, .ref mfr, .ref mbn, .ref mbs, .ref mde, .int (nI 0), .int (nI 0), .int (nI 0), .int (nI 0), .long ab, .long be, .ref maa, .ref mab, .ref mba, .ref mbb]))] := hD
  refine lv_topl (nm_r (e' := x0) hw_r_1 ?_)
  refine lv_aload_n hx hb dX12_divides_8 rfl (lv_at hl 0 rfl) ?_
  refine lv_lload_n hx hb dX12_divides_9 rfl (lv_at hl 2 rfl) ?_
  refine lv_lload hx hb dX12_divides_10 (lv_at hl 3 rfl) ?_
  refine xl (wr := []) (xV (As := [.long q, .long r0]) (rest := [.long x0, .ref hm]) C (c_X12_times l D cs hm ms mkp mtr mas mso mon mot man mst msm mtb mti mfr mbn mbs mde maa mab mba mbb ab be q r0 y0 h2) kX12_263 hP hD [0] rfl (by decide +kernel) 0 rfl rfl rfl ⟨Nat.le_of_ble_eq_true rfl, Nat.le_of_ble_eq_true rfl⟩ rfl hl.1 rfl (Nat.le_of_ble_eq_true rfl) dX12_divides_12 ⟨Nat.le_of_ble_eq_true rfl, Nat.le_of_ble_eq_true rfl⟩) hP hD hS hA [0] [] rfl rfl (by decide +kernel) (by decide +kernel) ?_
  clear hP hD hS
  try clear locs
  try clear H
  intro r_3 u_4 H locs hw_r_3 hP hD hS
  have hw_r_3 : r_3 = y0 := hw_r_3
  refine W.widen (k := 0) (n := 0) (Nat.le_of_ble_eq_true rfl) (Nat.le_of_ble_eq_true rfl) ?_
  replace hP : va_P D vwCl [(hm, .inr (12, [.ref ms, .ref mkp, .int (nI 0), .ref mtr, .int (nI 4), .int (nI 2), .int (nI 2), .int (nI 3), .int (nI 2), .int (nI 1), .ref mas, .int (nI 0), .int (nI 0), .int (nI 0), .ref mso, .ref mon, .ref mot, .ref man, .int (nI 0), .int (nI 0), .ref mst, .ref msm, .ref mtb, .ref mti, .ref mfr, .ref mbn, .ref mbs, .ref mde, .int (nI 0), .int (nI 0), .int (nI 0), .int (nI 0), .long ab, .long be, .ref maa, .ref mab, .ref mba, .ref mbb]))] H := hP
  replace hD : va_D A [(hm, .inr (12, [.ref ms, .ref mkp, .int (nI 0), .ref mtr, .int (nI 4), .int (nI 2), .int (nI 2), .int (nI 3), .int (nI 2), .int (nI 1), .ref mas, .int (nI 0), .int (nI 0), .int (nI 0), .ref mso, .ref mon, .ref mot, .ref man, .int (nI 0), .int (nI 0), .ref mst, .ref msm, .ref mtb, .ref mti, .ref mfr, .ref mbn, .ref mbs, .ref mde, .int (nI 0), .int (nI 0), .int (nI 0), .int (nI 0), .long ab, .long be, .ref maa, .ref mab, .ref mba, .ref mbb]))] := hD
  refine lv_topl (nm_r (e' := y0) hw_r_3 ?_)
  refine xv (wr := []) (xV (As := [.long x0, .long y0]) (rest := []) C (c_X12_settles l D cs hm ms mkp mtr mas mso mon mot man mst msm mtb mti mfr mbn mbs mde maa mab mba mbb ab be x0 y0 va vb h3) kX12_269 hP hD [0] rfl (by decide +kernel) 0 rfl rfl rfl ⟨Nat.le_of_ble_eq_true rfl, Nat.le_of_ble_eq_true rfl⟩ rfl hl.1 rfl (Nat.le_of_ble_eq_true rfl) dX12_divides_15 ⟨Nat.le_of_ble_eq_true rfl, Nat.le_of_ble_eq_true rfl⟩) hP hD hS hA [0] [] rfl rfl (by decide +kernel) (by decide +kernel) ?_
  clear hP hD hS
  try clear locs
  try clear H
  intro u_6 H locs hw_r_5 hP hD hS
  refine W.widen (k := 0) (n := 0) (Nat.le_of_ble_eq_true rfl) (Nat.le_of_ble_eq_true rfl) ?_
  replace hP : va_P D vwCl [(hm, .inr (12, [.ref ms, .ref mkp, .int (nI 0), .ref mtr, .int (nI 4), .int (nI 2), .int (nI 2), .int (nI 3), .int (nI 2), .int (nI 1), .ref mas, .int (nI 0), .int (nI 0), .int (nI 0), .ref mso, .ref mon, .ref mot, .ref man, .int (nI 0), .int (nI 0), .ref mst, .ref msm, .ref mtb, .ref mti, .ref mfr, .ref mbn, .ref mbs, .ref mde, .int (nI 0), .int (nI 0), .int (nI 0), .int (nI 0), .long va, .long vb, .ref maa, .ref mab, .ref mba, .ref mbb]))] H := hP
  replace hD : va_D A [(hm, .inr (12, [.ref ms, .ref mkp, .int (nI 0), .ref mtr, .int (nI 4), .int (nI 2), .int (nI 2), .int (nI 3), .int (nI 2), .int (nI 1), .ref mas, .int (nI 0), .int (nI 0), .int (nI 0), .ref mso, .ref mon, .ref mot, .ref man, .int (nI 0), .int (nI 0), .ref mst, .ref msm, .ref mtb, .ref mti, .ref mfr, .ref mbn, .ref mbs, .ref mde, .int (nI 0), .int (nI 0), .int (nI 0), .int (nI 0), .long va, .long vb, .ref maa, .ref mab, .ref mba, .ref mbb]))] := hD
  exact xretv C () trivial hP hD hS (Nat.le_of_ble_eq_true rfl) (Nat.le_of_ble_eq_true rfl) dX12_divides_18
