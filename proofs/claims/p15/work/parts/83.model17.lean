theorem lrem_lt {a b : Int64} (hb : ¬ b = 0) : (a - a / b * b).toInt.natAbs < b.toInt.natAbs := by
  have hb' : b.toInt ≠ 0 := fun q => hb (Int64.toInt_inj.mp (by rw [q]; decide))
  have e : (a - a / b * b).toInt = a.toInt.tmod b.toInt := by
    rw [Int64.toInt_sub, Int64.toInt_mul, Int64.toInt_div]
    have h := Int.mul_tdiv_add_tmod a.toInt b.toInt
    have h3 : (a.toInt.tmod b.toInt).natAbs = a.toInt.natAbs % b.toInt.natAbs := Int.natAbs_tmod ..
    have h4 : a.toInt.natAbs % b.toInt.natAbs < b.toInt.natAbs := Nat.mod_lt _ (by omega)
    have h5 := Int64.le_toInt b
    have h6 := Int64.toInt_lt b
    have this : a.toInt - a.toInt.tdiv b.toInt * b.toInt = a.toInt.tmod b.toInt := by rw [Int.mul_comm]; omega
    simp only [Int.sub_bmod_bmod, Int.bmod_mul_bmod]
    rw [this]
    rw [Int.bmod_def]
    have : (2 : Int) ^ 64 = 18446744073709551616 := by decide
    split <;> omega
  rw [e, Int.natAbs_tmod]
  exact Nat.mod_lt _ (by omega)
theorem ldiv_ne {q a : Int64} (ha : ¬ a = 0) (h : a.toInt.natAbs ≤ q.toInt.natAbs) : ¬ q / a = 0 := fun e => by
  have ha' : a.toInt ≠ 0 := fun q => ha (Int64.toInt_inj.mp (by rw [q]; decide))
  have e2 := congrArg Int64.toInt e
  rw [Int64.toInt_div] at e2
  have e3 : (0 : Int64).toInt = 0 := by decide
  rw [e3] at e2
  have n1 : (q.toInt.tdiv a.toInt).natAbs = q.toInt.natAbs / a.toInt.natAbs := Int.natAbs_tdiv ..
  have n2 : 1 ≤ q.toInt.natAbs / a.toInt.natAbs := (Nat.le_div_iff_mul_le (by omega)).mpr (by omega)
  have n3 : q.toInt.natAbs / a.toInt.natAbs ≤ q.toInt.natAbs := Nat.div_le_self ..
  have n4 : q.toInt.natAbs ≤ 2 ^ 63 := by have := Int64.le_toInt q; have := Int64.toInt_lt q; omega
  rw [Int.bmod_def] at e2
  split at e2 <;> omega
/-- it is too great -/
def gr (x : Int32) : Prop := ¬ x = nI 0
theorem gr_1 : gr (nI 1) := by unfold gr; decide
/-- Euclid's two numbers -/
def euP (q a b : Int64) : Prop := (¬ b = 0 ∧ b.toInt.natAbs ≤ q.toInt.natAbs) ∨ (b = 0 ∧ ¬ a = 0 ∧ a.toInt.natAbs ≤ q.toInt.natAbs)
theorem eu_0 {q a : Int64} (h : ¬ q = 0) : euP q a q := Or.inl ⟨h, Nat.le_refl _⟩
theorem eu_step {q a b : Int64} (h : euP q a b) (hb : ¬ b = 0) : euP q b (a - a / b * b) := by
  have h1 := (h.resolve_right (fun z => hb z.1)).2
  by_cases g : a - a / b * b = 0
  · exact Or.inr ⟨g, hb, h1⟩
  · exact Or.inl ⟨g, by have := lrem_lt (a := a) hb; omega⟩
theorem eu_end {q a : Int64} (h : euP q a 0) : ¬ a = 0 ∧ ¬ q / a = 0 := by
  have h1 := (h.resolve_left (fun z => z.1 rfl)).2
  exact ⟨h1.1, ldiv_ne h1.1 h1.2⟩
theorem updL_at {f : Nat → Int64} {i : Nat} {x : Int64} : vp_updL f i x i = x := if_pos rfl
theorem updL_ne {f : Nat → Int64} {i j : Nat} {x : Int64} (h : ¬ j = i) : vp_updL f i x j = f j := if_neg h

set_option maxHeartbeats 4000000 in
set_option maxRecDepth 100000 in
theorem c_X12_times (l : Launch) (D : va_G) (cs : Nat → ClassId) (hm ms mkp mtr mas mso mon mot man mst msm mtb mti mfr mbn mbs mde maa mab mba mbb : Nat) (n k al be km en : Nat) (ea pr nq po th xd sF sN sS ig : Int32) (xa xb : Int64) (a9 b9 : Int64) : xMet l D cs yX12_times cX12_times 7 (some .long) ({ frames := 0, cells := 0, slots := 0, locals := 0 } : Room) [.ref hm, .long a9, .long b9] [(hm, .inr (12, [.ref ms, .ref mkp, .int (nI km), .ref mtr, .int (nI n), .int (nI k), .int (nI al), .int (nI be), .int ea, .int pr, .ref mas, .int nq, .int po, .int (nI en), .ref mso, .ref mon, .ref mot, .ref man, .int th, .int xd, .ref mst, .ref msm, .ref mtb, .ref mti, .ref mfr, .ref mbn, .ref mbs, .ref mde, .int sF, .int sN, .int sS, .int ig, .long xa, .long xb, .ref maa, .ref mab, .ref mba, .ref mbb]))] (xQl D (fun (r : Int64) (igz : Int32) => (gr ig → gr igz) ∧ (¬ a9 = 0 → ¬ b9 = 0 → gr igz ∨ ¬ r = 0)) (fun (igz : Int32) => [(hm, .inr (12, [.ref ms, .ref mkp, .int (nI km), .ref mtr, .int (nI n), .int (nI k), .int (nI al), .int (nI be), .int ea, .int pr, .ref mas, .int nq, .int po, .int (nI en), .ref mso, .ref mon, .ref mot, .ref man, .int th, .int xd, .ref mst, .ref msm, .ref mtb, .ref mti, .ref mfr, .ref mbn, .ref mbs, .ref mde, .int sF, .int sN, .int sS, .int igz, .long xa, .long xb, .ref maa, .ref mab, .ref mba, .ref mbb]))])) := by
  refine xMet.intro (by decide) (Nat.le_of_ble_eq_true rfl) ?_
  intro p e s m args below meth c A ls C hP hD hS hl
  have hx := C.1
  have hb := C.2.1
  have hz := C.2.2.2.2.1
  have hown := C.2.2.2.1
  have hA := C.2.2.2.2.2.2.2.2.2
  have hAO := C.2.2.2.2.2.2.2.2.1.2.2
  replace hl : lv_has ls 7 [(0, .ref hm), (1, .long a9), (3, .long b9)] := hl
  obtain ⟨H, hH⟩ : ∃ H, H = s.heap := ⟨_, rfl⟩
  replace hP : va_P D vwCl [(hm, .inr (12, [.ref ms, .ref mkp, .int (nI km), .ref mtr, .int (nI n), .int (nI k), .int (nI al), .int (nI be), .int ea, .int pr, .ref mas, .int nq, .int po, .int (nI en), .ref mso, .ref mon, .ref mot, .ref man, .int th, .int xd, .ref mst, .ref msm, .ref mtb, .ref mti, .ref mfr, .ref mbn, .ref mbs, .ref mde, .int sF, .int sN, .int sS, .int ig, .long xa, .long xb, .ref maa, .ref mab, .ref mba, .ref mbb]))] H := by rw [hH]; exact hP
  replace hS : va_S A s.heap H [] := by rw [hH]; exact hS
  obtain ⟨locs, hlocs⟩ : ∃ z : List Loc, z = [] := ⟨_, rfl⟩
  rw [← hlocs] at hS
  suffices hW : W p l e ({ frames := 0, cells := 0, slots := 0, locals := 0 } : Room) s m args below meth c H locs 0 0 (MQ below ((xQl D (fun (r : Int64) (igz : Int32) => (gr ig → gr igz) ∧ (¬ a9 = 0 → ¬ b9 = 0 → gr igz ∨ ¬ r = 0)) (fun (igz : Int32) => [(hm, .inr (12, [.ref ms, .ref mkp, .int (nI km), .ref mtr, .int (nI n), .int (nI k), .int (nI al), .int (nI be), .int ea, .int pr, .ref mas, .int nq, .int po, .int (nI en), .ref mso, .ref mon, .ref mot, .ref man, .int th, .int xd, .ref mst, .ref msm, .ref mtb, .ref mti, .ref mfr, .ref mbn, .ref mbs, .ref mde, .int sF, .int sN, .int sS, .int igz, .long xa, .long xb, .ref maa, .ref mab, .ref mba, .ref mbb]))])) A) args s 0 0 A) (F0 m 0 ls []) by rw [hlocs, hH] at hW; exact hW
  clear hH hlocs
  refine lv_lload_n hx hb dX12_times_0 rfl (lv_at hl 1 rfl) ?_
  refine lv_lconst (v := 0) hx hb dX12_times_1 (by decide) ?_
  refine W.lcmp hx hb dX12_times_2 ?_
  refine lv_if_eq (tgt := 12) hx hb dX12_times_3 (by decide) (fun c_1 => ?_) (fun c_1 => ?_)
  · -- 3 t
    refine lv_lconst (v := 0) hx hb dX12_times_12 (by decide) ?_
    exact xretl C ig (⟨fun h => h, fun h _ => absurd (l_eq c_1) h⟩) hP hD hS (Nat.le_of_ble_eq_true rfl) (Nat.le_of_ble_eq_true rfl) dX12_times_13
  · -- 3 f
    refine lv_lload_n hx hb dX12_times_6 rfl (lv_at hl 2 rfl) ?_
    refine lv_lconst (v := 0) hx hb dX12_times_7 (by decide) ?_
    refine W.lcmp hx hb dX12_times_8 ?_
    refine lv_if_ne (tgt := 14) hx hb dX12_times_9 (by decide) (fun c_2 => ?_) (fun c_2 => ?_)
    · -- 9 t
      refine lv_lload_n hx hb dX12_times_14 rfl (lv_at hl 1 rfl) ?_
      refine lv_lload_n hx hb dX12_times_15 rfl (lv_at hl 2 rfl) ?_
      refine lv_lmul hx hb dX12_times_16 ?_
      refine lv_lstore (lv' := [(5, .long (a9 * b9)), (0, .ref hm), (1, .long a9), (3, .long b9)]) hx hb dX12_times_17 hl (by decide) rfl ?_
      clear hl
      try clear ls
      intro ls hl
      refine lv_lload hx hb dX12_times_19 (lv_at hl 0 rfl) ?_
      refine lv_lload_n hx hb dX12_times_21 rfl (lv_at hl 3 rfl) ?_
      refine lv_ldiv hx hb dX12_times_22 (l_ne c_2) ?_
      refine lv_lload_n hx hb dX12_times_23 rfl (lv_at hl 2 rfl) ?_
      refine W.lcmp hx hb dX12_times_24 ?_
      refine lv_if_eq (tgt := 33) hx hb dX12_times_25 (by decide) (fun c_3 => ?_) (fun c_3 => ?_)
      · -- 25 t
        refine lv_lload hx hb dX12_times_33 (lv_at hl 0 rfl) ?_
        exact xretl C ig (⟨fun h => h, fun ha _ => Or.inr (fun z => ha ((l_eq c_3).symm.trans (by rw [z]; exact Int64.zero_div)))⟩) hP hD hS (Nat.le_of_ble_eq_true rfl) (Nat.le_of_ble_eq_true rfl) dX12_times_35
      · -- 25 f
        refine lv_aload_n hx hb dX12_times_28 rfl (lv_at hl 1 rfl) ?_
        refine lv_iconst (v := nI 1) hx hb dX12_times_29 (by decide) ?_
        refine xput C hP hD hS 0 rfl rfl zuX12 tyX12 tyX12_ok nmX12 31 (by decide) zw6_4 rfl rfl rfl (Nat.le_of_ble_eq_true rfl) dX12_times_30 ?_
        clear hP hD hS
        try clear locs
        try clear H
        intro H locs hP hD hS
        replace hP : va_P D vwCl [(hm, .inr (12, [.ref ms, .ref mkp, .int (nI km), .ref mtr, .int (nI n), .int (nI k), .int (nI al), .int (nI be), .int ea, .int pr, .ref mas, .int nq, .int po, .int (nI en), .ref mso, .ref mon, .ref mot, .ref man, .int th, .int xd, .ref mst, .ref msm, .ref mtb, .ref mti, .ref mfr, .ref mbn, .ref mbs, .ref mde, .int sF, .int sN, .int sS, .int (nI 1), .long xa, .long xb, .ref maa, .ref mab, .ref mba, .ref mbb]))] H := hP
        replace hD : va_D A [(hm, .inr (12, [.ref ms, .ref mkp, .int (nI km), .ref mtr, .int (nI n), .int (nI k), .int (nI al), .int (nI be), .int ea, .int pr, .ref mas, .int nq, .int po, .int (nI en), .ref mso, .ref mon, .ref mot, .ref man, .int th, .int xd, .ref mst, .ref msm, .ref mtb, .ref mti, .ref mfr, .ref mbn, .ref mbs, .ref mde, .int sF, .int sN, .int sS, .int (nI 1), .long xa, .long xb, .ref maa, .ref mab, .ref mba, .ref mbb]))] := hD
        refine lv_lload hx hb dX12_times_33 (lv_at hl 0 rfl) ?_
        exact xretl C (nI 1) (⟨fun _ => gr_1, fun _ _ => Or.inl gr_1⟩) hP hD hS (Nat.le_of_ble_eq_true rfl) (Nat.le_of_ble_eq_true rfl) dX12_times_35
    · -- 9 f
      refine lv_lconst (v := 0) hx hb dX12_times_12 (by decide) ?_
      exact xretl C ig (⟨fun h => h, fun _ h => absurd (l_eq c_2) h⟩) hP hD hS (Nat.le_of_ble_eq_true rfl) (Nat.le_of_ble_eq_true rfl) dX12_times_13

set_option maxHeartbeats 4000000 in
set_option maxRecDepth 100000 in
theorem c_X12_plus (l : Launch) (D : va_G) (cs : Nat → ClassId) (hm ms mkp mtr mas mso mon mot man mst msm mtb mti mfr mbn mbs mde maa mab mba mbb : Nat) (n k al be km en : Nat) (ea pr nq po th xd sF sN sS ig : Int32) (xa xb : Int64) (a9 b9 : Int64) : xMet l D cs yX12_plus cX12_plus 7 (some .long) ({ frames := 0, cells := 0, slots := 0, locals := 0 } : Room) [.ref hm, .long a9, .long b9] [(hm, .inr (12, [.ref ms, .ref mkp, .int (nI km), .ref mtr, .int (nI n), .int (nI k), .int (nI al), .int (nI be), .int ea, .int pr, .ref mas, .int nq, .int po, .int (nI en), .ref mso, .ref mon, .ref mot, .ref man, .int th, .int xd, .ref mst, .ref msm, .ref mtb, .ref mti, .ref mfr, .ref mbn, .ref mbs, .ref mde, .int sF, .int sN, .int sS, .int ig, .long xa, .long xb, .ref maa, .ref mab, .ref mba, .ref mbb]))] (xQl D (fun (r : Int64) (igz : Int32) => gr ig → gr igz) (fun (igz : Int32) => [(hm, .inr (12, [.ref ms, .ref mkp, .int (nI km), .ref mtr, .int (nI n), .int (nI k), .int (nI al), .int (nI be), .int ea, .int pr, .ref mas, .int nq, .int po, .int (nI en), .ref mso, .ref mon, .ref mot, .ref man, .int th, .int xd, .ref mst, .ref msm, .ref mtb, .ref mti, .ref mfr, .ref mbn, .ref mbs, .ref mde, .int sF, .int sN, .int sS, .int igz, .long xa, .long xb, .ref maa, .ref mab, .ref mba, .ref mbb]))])) := by
  refine xMet.intro (by decide) (Nat.le_of_ble_eq_true rfl) ?_
  intro p e s m args below meth c A ls C hP hD hS hl
  have hx := C.1
  have hb := C.2.1
  have hz := C.2.2.2.2.1
  have hown := C.2.2.2.1
  have hA := C.2.2.2.2.2.2.2.2.2
  have hAO := C.2.2.2.2.2.2.2.2.1.2.2
  replace hl : lv_has ls 7 [(0, .ref hm), (1, .long a9), (3, .long b9)] := hl
  obtain ⟨H, hH⟩ : ∃ H, H = s.heap := ⟨_, rfl⟩
  replace hP : va_P D vwCl [(hm, .inr (12, [.ref ms, .ref mkp, .int (nI km), .ref mtr, .int (nI n), .int (nI k), .int (nI al), .int (nI be), .int ea, .int pr, .ref mas, .int nq, .int po, .int (nI en), .ref mso, .ref mon, .ref mot, .ref man, .int th, .int xd, .ref mst, .ref msm, .ref mtb, .ref mti, .ref mfr, .ref mbn, .ref mbs, .ref mde, .int sF, .int sN, .int sS, .int ig, .long xa, .long xb, .ref maa, .ref mab, .ref mba, .ref mbb]))] H := by rw [hH]; exact hP
  replace hS : va_S A s.heap H [] := by rw [hH]; exact hS
  obtain ⟨locs, hlocs⟩ : ∃ z : List Loc, z = [] := ⟨_, rfl⟩
  rw [← hlocs] at hS
  suffices hW : W p l e ({ frames := 0, cells := 0, slots := 0, locals := 0 } : Room) s m args below meth c H locs 0 0 (MQ below ((xQl D (fun (r : Int64) (igz : Int32) => gr ig → gr igz) (fun (igz : Int32) => [(hm, .inr (12, [.ref ms, .ref mkp, .int (nI km), .ref mtr, .int (nI n), .int (nI k), .int (nI al), .int (nI be), .int ea, .int pr, .ref mas, .int nq, .int po, .int (nI en), .ref mso, .ref mon, .ref mot, .ref man, .int th, .int xd, .ref mst, .ref msm, .ref mtb, .ref mti, .ref mfr, .ref mbn, .ref mbs, .ref mde, .int sF, .int sN, .int sS, .int igz, .long xa, .long xb, .ref maa, .ref mab, .ref mba, .ref mbb]))])) A) args s 0 0 A) (F0 m 0 ls []) by rw [hlocs, hH] at hW; exact hW
  clear hH hlocs
  refine lv_lload_n hx hb dX12_plus_0 rfl (lv_at hl 1 rfl) ?_
  refine lv_lload_n hx hb dX12_plus_1 rfl (lv_at hl 2 rfl) ?_
  refine lv_ladd hx hb dX12_plus_2 ?_
  refine lv_lstore (lv' := [(5, .long (a9 + b9)), (0, .ref hm), (1, .long a9), (3, .long b9)]) hx hb dX12_plus_3 hl (by decide) rfl ?_
  clear hl
  try clear ls
  intro ls hl
  refine lv_lload_n hx hb dX12_plus_5 rfl (lv_at hl 2 rfl) ?_
  refine lv_lconst (v := 0) hx hb dX12_plus_6 (by decide) ?_
  refine W.lcmp hx hb dX12_plus_7 ?_
  refine lv_if_ge (tgt := 15) hx hb dX12_plus_8 (by decide) (fun c_1 => ?_) (fun c_1 => ?_)
  · -- 8 t
    refine lv_iconst (v := nI 0) hx hb dX12_plus_15 (by decide) ?_
    refine lv_lload_n hx hb dX12_plus_16 rfl (lv_at hl 3 rfl) ?_
    refine lv_lconst (v := 0) hx hb dX12_plus_17 (by decide) ?_
    refine W.lcmp hx hb dX12_plus_18 ?_
    refine lv_if_ge (tgt := 26) hx hb dX12_plus_19 (by decide) (fun c_2 => ?_) (fun c_2 => ?_)
    · -- 19 t
      refine lv_iconst (v := nI 0) hx hb dX12_plus_26 (by decide) ?_
      refine lv_icmp_ne (tgt := 61) hx hb dX12_plus_27 (by decide) (fun c => absurd (by decide) c) (fun _ => ?_)
      refine lv_lload hx hb dX12_plus_30 (lv_at hl 0 rfl) ?_
      refine lv_lconst (v := 0) hx hb dX12_plus_32 (by decide) ?_
      refine W.lcmp hx hb dX12_plus_33 ?_
      refine lv_if_ge (tgt := 41) hx hb dX12_plus_34 (by decide) (fun c_3 => ?_) (fun c_3 => ?_)
      · -- 34 t
        refine lv_iconst (v := nI 0) hx hb dX12_plus_41 (by decide) ?_
        refine lv_lload_n hx hb dX12_plus_42 rfl (lv_at hl 2 rfl) ?_
        refine lv_lconst (v := 0) hx hb dX12_plus_43 (by decide) ?_
        refine W.lcmp hx hb dX12_plus_44 ?_
        refine lv_if_ge (tgt := 52) hx hb dX12_plus_45 (by decide) (fun c_4 => ?_) (fun c_4 => ?_)
        · -- 45 t
          refine lv_iconst (v := nI 0) hx hb dX12_plus_52 (by decide) ?_
          refine lv_icmp_eq (tgt := 61) hx hb dX12_plus_53 (by decide) (fun _ => ?_) (fun c => absurd (by decide) c)
          refine lv_lload hx hb dX12_plus_61 (lv_at hl 0 rfl) ?_
          exact xretl C ig (fun h => h) hP hD hS (Nat.le_of_ble_eq_true rfl) (Nat.le_of_ble_eq_true rfl) dX12_plus_63
        · -- 45 f
          refine lv_iconst (v := nI 1) hx hb dX12_plus_48 (by decide) ?_
          refine lv_goto (tgt := 53) hx hb dX12_plus_49 (by decide) ?_
          refine lv_icmp_eq (tgt := 61) hx hb dX12_plus_53 (by decide) (fun c => absurd c (by decide)) (fun _ => ?_)
          refine lv_aload_n hx hb dX12_plus_56 rfl (lv_at hl 1 rfl) ?_
          refine lv_iconst (v := nI 1) hx hb dX12_plus_57 (by decide) ?_
          refine xput C hP hD hS 0 rfl rfl zuX12 tyX12 tyX12_ok nmX12 31 (by decide) zw6_4 rfl rfl rfl (Nat.le_of_ble_eq_true rfl) dX12_plus_58 ?_
          clear hP hD hS
          try clear locs
          try clear H
          intro H locs hP hD hS
          replace hP : va_P D vwCl [(hm, .inr (12, [.ref ms, .ref mkp, .int (nI km), .ref mtr, .int (nI n), .int (nI k), .int (nI al), .int (nI be), .int ea, .int pr, .ref mas, .int nq, .int po, .int (nI en), .ref mso, .ref mon, .ref mot, .ref man, .int th, .int xd, .ref mst, .ref msm, .ref mtb, .ref mti, .ref mfr, .ref mbn, .ref mbs, .ref mde, .int sF, .int sN, .int sS, .int (nI 1), .long xa, .long xb, .ref maa, .ref mab, .ref mba, .ref mbb]))] H := hP
          replace hD : va_D A [(hm, .inr (12, [.ref ms, .ref mkp, .int (nI km), .ref mtr, .int (nI n), .int (nI k), .int (nI al), .int (nI be), .int ea, .int pr, .ref mas, .int nq, .int po, .int (nI en), .ref mso, .ref mon, .ref mot, .ref man, .int th, .int xd, .ref mst, .ref msm, .ref mtb, .ref mti, .ref mfr, .ref mbn, .ref mbs, .ref mde, .int sF, .int sN, .int sS, .int (nI 1), .long xa, .long xb, .ref maa, .ref mab, .ref mba, .ref mbb]))] := hD
          refine lv_lload hx hb dX12_plus_61 (lv_at hl 0 rfl) ?_
          exact xretl C (nI 1) (fun _ => gr_1) hP hD hS (Nat.le_of_ble_eq_true rfl) (Nat.le_of_ble_eq_true rfl) dX12_plus_63
      · -- 34 f
        refine lv_iconst (v := nI 1) hx hb dX12_plus_37 (by decide) ?_
        refine lv_goto (tgt := 42) hx hb dX12_plus_38 (by decide) ?_
        refine lv_lload_n hx hb dX12_plus_42 rfl (lv_at hl 2 rfl) ?_
        refine lv_lconst (v := 0) hx hb dX12_plus_43 (by decide) ?_
        refine W.lcmp hx hb dX12_plus_44 ?_
        refine lv_if_ge (tgt := 52) hx hb dX12_plus_45 (by decide) (fun c_5 => ?_) (fun c_5 => ?_)
        · -- 45 t
          refine lv_iconst (v := nI 0) hx hb dX12_plus_52 (by decide) ?_
          refine lv_icmp_eq (tgt := 61) hx hb dX12_plus_53 (by decide) (fun c => absurd c (by decide)) (fun _ => ?_)
          refine lv_aload_n hx hb dX12_plus_56 rfl (lv_at hl 1 rfl) ?_
          refine lv_iconst (v := nI 1) hx hb dX12_plus_57 (by decide) ?_
          refine xput C hP hD hS 0 rfl rfl zuX12 tyX12 tyX12_ok nmX12 31 (by decide) zw6_4 rfl rfl rfl (Nat.le_of_ble_eq_true rfl) dX12_plus_58 ?_
          clear hP hD hS
          try clear locs
          try clear H
          intro H locs hP hD hS
          replace hP : va_P D vwCl [(hm, .inr (12, [.ref ms, .ref mkp, .int (nI km), .ref mtr, .int (nI n), .int (nI k), .int (nI al), .int (nI be), .int ea, .int pr, .ref mas, .int nq, .int po, .int (nI en), .ref mso, .ref mon, .ref mot, .ref man, .int th, .int xd, .ref mst, .ref msm, .ref mtb, .ref mti, .ref mfr, .ref mbn, .ref mbs, .ref mde, .int sF, .int sN, .int sS, .int (nI 1), .long xa, .long xb, .ref maa, .ref mab, .ref mba, .ref mbb]))] H := hP
          replace hD : va_D A [(hm, .inr (12, [.ref ms, .ref mkp, .int (nI km), .ref mtr, .int (nI n), .int (nI k), .int (nI al), .int (nI be), .int ea, .int pr, .ref mas, .int nq, .int po, .int (nI en), .ref mso, .ref mon, .ref mot, .ref man, .int th, .int xd, .ref mst, .ref msm, .ref mtb, .ref mti, .ref mfr, .ref mbn, .ref mbs, .ref mde, .int sF, .int sN, .int sS, .int (nI 1), .long xa, .long xb, .ref maa, .ref mab, .ref mba, .ref mbb]))] := hD
          refine lv_lload hx hb dX12_plus_61 (lv_at hl 0 rfl) ?_
          exact xretl C (nI 1) (fun _ => gr_1) hP hD hS (Nat.le_of_ble_eq_true rfl) (Nat.le_of_ble_eq_true rfl) dX12_plus_63
        · -- 45 f
          refine lv_iconst (v := nI 1) hx hb dX12_plus_48 (by decide) ?_
          refine lv_goto (tgt := 53) hx hb dX12_plus_49 (by decide) ?_
          refine lv_icmp_eq (tgt := 61) hx hb dX12_plus_53 (by decide) (fun _ => ?_) (fun c => absurd (by decide) c)
          refine lv_lload hx hb dX12_plus_61 (lv_at hl 0 rfl) ?_
          exact xretl C ig (fun h => h) hP hD hS (Nat.le_of_ble_eq_true rfl) (Nat.le_of_ble_eq_true rfl) dX12_plus_63
    · -- 19 f
      refine lv_iconst (v := nI 1) hx hb dX12_plus_22 (by decide) ?_
      refine lv_goto (tgt := 27) hx hb dX12_plus_23 (by decide) ?_
      refine lv_icmp_ne (tgt := 61) hx hb dX12_plus_27 (by decide) (fun _ => ?_) (fun c => absurd c (by decide))
      refine lv_lload hx hb dX12_plus_61 (lv_at hl 0 rfl) ?_
      exact xretl C ig (fun h => h) hP hD hS (Nat.le_of_ble_eq_true rfl) (Nat.le_of_ble_eq_true rfl) dX12_plus_63
  · -- 8 f
    refine lv_iconst (v := nI 1) hx hb dX12_plus_11 (by decide) ?_
    refine lv_goto (tgt := 16) hx hb dX12_plus_12 (by decide) ?_
    refine lv_lload_n hx hb dX12_plus_16 rfl (lv_at hl 3 rfl) ?_
    refine lv_lconst (v := 0) hx hb dX12_plus_17 (by decide) ?_
    refine W.lcmp hx hb dX12_plus_18 ?_
    refine lv_if_ge (tgt := 26) hx hb dX12_plus_19 (by decide) (fun c_6 => ?_) (fun c_6 => ?_)
    · -- 19 t
      refine lv_iconst (v := nI 0) hx hb dX12_plus_26 (by decide) ?_
      refine lv_icmp_ne (tgt := 61) hx hb dX12_plus_27 (by decide) (fun _ => ?_) (fun c => absurd c (by decide))
      refine lv_lload hx hb dX12_plus_61 (lv_at hl 0 rfl) ?_
      exact xretl C ig (fun h => h) hP hD hS (Nat.le_of_ble_eq_true rfl) (Nat.le_of_ble_eq_true rfl) dX12_plus_63
    · -- 19 f
      refine lv_iconst (v := nI 1) hx hb dX12_plus_22 (by decide) ?_
      refine lv_goto (tgt := 27) hx hb dX12_plus_23 (by decide) ?_
      refine lv_icmp_ne (tgt := 61) hx hb dX12_plus_27 (by decide) (fun c => absurd (by decide) c) (fun _ => ?_)
      refine lv_lload hx hb dX12_plus_30 (lv_at hl 0 rfl) ?_
      refine lv_lconst (v := 0) hx hb dX12_plus_32 (by decide) ?_
      refine W.lcmp hx hb dX12_plus_33 ?_
      refine lv_if_ge (tgt := 41) hx hb dX12_plus_34 (by decide) (fun c_7 => ?_) (fun c_7 => ?_)
      · -- 34 t
        refine lv_iconst (v := nI 0) hx hb dX12_plus_41 (by decide) ?_
        refine lv_lload_n hx hb dX12_plus_42 rfl (lv_at hl 2 rfl) ?_
        refine lv_lconst (v := 0) hx hb dX12_plus_43 (by decide) ?_
        refine W.lcmp hx hb dX12_plus_44 ?_
        refine lv_if_ge (tgt := 52) hx hb dX12_plus_45 (by decide) (fun c_8 => ?_) (fun c_8 => ?_)
        · -- 45 t
          refine lv_iconst (v := nI 0) hx hb dX12_plus_52 (by decide) ?_
          refine lv_icmp_eq (tgt := 61) hx hb dX12_plus_53 (by decide) (fun _ => ?_) (fun c => absurd (by decide) c)
          refine lv_lload hx hb dX12_plus_61 (lv_at hl 0 rfl) ?_
          exact xretl C ig (fun h => h) hP hD hS (Nat.le_of_ble_eq_true rfl) (Nat.le_of_ble_eq_true rfl) dX12_plus_63
        · -- 45 f
          refine lv_iconst (v := nI 1) hx hb dX12_plus_48 (by decide) ?_
          refine lv_goto (tgt := 53) hx hb dX12_plus_49 (by decide) ?_
          refine lv_icmp_eq (tgt := 61) hx hb dX12_plus_53 (by decide) (fun c => absurd c (by decide)) (fun _ => ?_)
          refine lv_aload_n hx hb dX12_plus_56 rfl (lv_at hl 1 rfl) ?_
          refine lv_iconst (v := nI 1) hx hb dX12_plus_57 (by decide) ?_
          refine xput C hP hD hS 0 rfl rfl zuX12 tyX12 tyX12_ok nmX12 31 (by decide) zw6_4 rfl rfl rfl (Nat.le_of_ble_eq_true rfl) dX12_plus_58 ?_
          clear hP hD hS
          try clear locs
          try clear H
          intro H locs hP hD hS
          replace hP : va_P D vwCl [(hm, .inr (12, [.ref ms, .ref mkp, .int (nI km), .ref mtr, .int (nI n), .int (nI k), .int (nI al), .int (nI be), .int ea, .int pr, .ref mas, .int nq, .int po, .int (nI en), .ref mso, .ref mon, .ref mot, .ref man, .int th, .int xd, .ref mst, .ref msm, .ref mtb, .ref mti, .ref mfr, .ref mbn, .ref mbs, .ref mde, .int sF, .int sN, .int sS, .int (nI 1), .long xa, .long xb, .ref maa, .ref mab, .ref mba, .ref mbb]))] H := hP
          replace hD : va_D A [(hm, .inr (12, [.ref ms, .ref mkp, .int (nI km), .ref mtr, .int (nI n), .int (nI k), .int (nI al), .int (nI be), .int ea, .int pr, .ref mas, .int nq, .int po, .int (nI en), .ref mso, .ref mon, .ref mot, .ref man, .int th, .int xd, .ref mst, .ref msm, .ref mtb, .ref mti, .ref mfr, .ref mbn, .ref mbs, .ref mde, .int sF, .int sN, .int sS, .int (nI 1), .long xa, .long xb, .ref maa, .ref mab, .ref mba, .ref mbb]))] := hD
          refine lv_lload hx hb dX12_plus_61 (lv_at hl 0 rfl) ?_
          exact xretl C (nI 1) (fun _ => gr_1) hP hD hS (Nat.le_of_ble_eq_true rfl) (Nat.le_of_ble_eq_true rfl) dX12_plus_63
      · -- 34 f
        refine lv_iconst (v := nI 1) hx hb dX12_plus_37 (by decide) ?_
        refine lv_goto (tgt := 42) hx hb dX12_plus_38 (by decide) ?_
        refine lv_lload_n hx hb dX12_plus_42 rfl (lv_at hl 2 rfl) ?_
        refine lv_lconst (v := 0) hx hb dX12_plus_43 (by decide) ?_
        refine W.lcmp hx hb dX12_plus_44 ?_
        refine lv_if_ge (tgt := 52) hx hb dX12_plus_45 (by decide) (fun c_9 => ?_) (fun c_9 => ?_)
        · -- 45 t
          refine lv_iconst (v := nI 0) hx hb dX12_plus_52 (by decide) ?_
          refine lv_icmp_eq (tgt := 61) hx hb dX12_plus_53 (by decide) (fun c => absurd c (by decide)) (fun _ => ?_)
          refine lv_aload_n hx hb dX12_plus_56 rfl (lv_at hl 1 rfl) ?_
          refine lv_iconst (v := nI 1) hx hb dX12_plus_57 (by decide) ?_
          refine xput C hP hD hS 0 rfl rfl zuX12 tyX12 tyX12_ok nmX12 31 (by decide) zw6_4 rfl rfl rfl (Nat.le_of_ble_eq_true rfl) dX12_plus_58 ?_
          clear hP hD hS
          try clear locs
          try clear H
          intro H locs hP hD hS
          replace hP : va_P D vwCl [(hm, .inr (12, [.ref ms, .ref mkp, .int (nI km), .ref mtr, .int (nI n), .int (nI k), .int (nI al), .int (nI be), .int ea, .int pr, .ref mas, .int nq, .int po, .int (nI en), .ref mso, .ref mon, .ref mot, .ref man, .int th, .int xd, .ref mst, .ref msm, .ref mtb, .ref mti, .ref mfr, .ref mbn, .ref mbs, .ref mde, .int sF, .int sN, .int sS, .int (nI 1), .long xa, .long xb, .ref maa, .ref mab, .ref mba, .ref mbb]))] H := hP
          replace hD : va_D A [(hm, .inr (12, [.ref ms, .ref mkp, .int (nI km), .ref mtr, .int (nI n), .int (nI k), .int (nI al), .int (nI be), .int ea, .int pr, .ref mas, .int nq, .int po, .int (nI en), .ref mso, .ref mon, .ref mot, .ref man, .int th, .int xd, .ref mst, .ref msm, .ref mtb, .ref mti, .ref mfr, .ref mbn, .ref mbs, .ref mde, .int sF, .int sN, .int sS, .int (nI 1), .long xa, .long xb, .ref maa, .ref mab, .ref mba, .ref mbb]))] := hD
          refine lv_lload hx hb dX12_plus_61 (lv_at hl 0 rfl) ?_
          exact xretl C (nI 1) (fun _ => gr_1) hP hD hS (Nat.le_of_ble_eq_true rfl) (Nat.le_of_ble_eq_true rfl) dX12_plus_63
        · -- 45 f
          refine lv_iconst (v := nI 1) hx hb dX12_plus_48 (by decide) ?_
          refine lv_goto (tgt := 53) hx hb dX12_plus_49 (by decide) ?_
          refine lv_icmp_eq (tgt := 61) hx hb dX12_plus_53 (by decide) (fun _ => ?_) (fun c => absurd (by decide) c)
          refine lv_lload hx hb dX12_plus_61 (lv_at hl 0 rfl) ?_
          exact xretl C ig (fun h => h) hP hD hS (Nat.le_of_ble_eq_true rfl) (Nat.le_of_ble_eq_true rfl) dX12_plus_63

set_option maxHeartbeats 4000000 in
set_option maxRecDepth 100000 in
theorem c_X12_settles (l : Launch) (D : va_G) (cs : Nat → ClassId) (hm ms mkp mtr mas mso mon mot man mst msm mtb mti mfr mbn mbs mde maa mab mba mbb : Nat) (n k al be km en : Nat) (ea pr nq po th xd sF sN sS ig : Int32) (xa xb : Int64) (p9 q9 : Int64) (hq : gr ig ∨ ¬ q9 = 0) : xMet l D cs yX12_settles cX12_settles 11 none ({ frames := 0, cells := 0, slots := 0, locals := 0 } : Room) [.ref hm, .long p9, .long q9] [(hm, .inr (12, [.ref ms, .ref mkp, .int (nI km), .ref mtr, .int (nI n), .int (nI k), .int (nI al), .int (nI be), .int ea, .int pr, .ref mas, .int nq, .int po, .int (nI en), .ref mso, .ref mon, .ref mot, .ref man, .int th, .int xd, .ref mst, .ref msm, .ref mtb, .ref mti, .ref mfr, .ref mbn, .ref mbs, .ref mde, .int sF, .int sN, .int sS, .int ig, .long xa, .long xb, .ref maa, .ref mab, .ref mba, .ref mbb]))] (xQv D (fun (u : Int64 × Int64) => match u with | (xaz, xbz) => ¬ xbz = 0) (fun (u : Int64 × Int64) => match u with | (xaz, xbz) => [(hm, .inr (12, [.ref ms, .ref mkp, .int (nI km), .ref mtr, .int (nI n), .int (nI k), .int (nI al), .int (nI be), .int ea, .int pr, .ref mas, .int nq, .int po, .int (nI en), .ref mso, .ref mon, .ref mot, .ref man, .int th, .int xd, .ref mst, .ref msm, .ref mtb, .ref mti, .ref mfr, .ref mbn, .ref mbs, .ref mde, .int sF, .int sN, .int sS, .int ig, .long xaz, .long xbz, .ref maa, .ref mab, .ref mba, .ref mbb]))])) := by
  refine xMet.intro (by decide) (Nat.le_of_ble_eq_true rfl) ?_
  intro p e s m args below meth c A ls C hP hD hS hl
  have hx := C.1
  have hb := C.2.1
  have hz := C.2.2.2.2.1
  have hown := C.2.2.2.1
  have hA := C.2.2.2.2.2.2.2.2.2
  have hAO := C.2.2.2.2.2.2.2.2.1.2.2
  replace hl : lv_has ls 11 [(0, .ref hm), (1, .long p9), (3, .long q9)] := hl
  obtain ⟨H, hH⟩ : ∃ H, H = s.heap := ⟨_, rfl⟩
  replace hP : va_P D vwCl [(hm, .inr (12, [.ref ms, .ref mkp, .int (nI km), .ref mtr, .int (nI n), .int (nI k), .int (nI al), .int (nI be), .int ea, .int pr, .ref mas, .int nq, .int po, .int (nI en), .ref mso, .ref mon, .ref mot, .ref man, .int th, .int xd, .ref mst, .ref msm, .ref mtb, .ref mti, .ref mfr, .ref mbn, .ref mbs, .ref mde, .int sF, .int sN, .int sS, .int ig, .long xa, .long xb, .ref maa, .ref mab, .ref mba, .ref mbb]))] H := by rw [hH]; exact hP
  replace hS : va_S A s.heap H [] := by rw [hH]; exact hS
  obtain ⟨locs, hlocs⟩ : ∃ z : List Loc, z = [] := ⟨_, rfl⟩
  rw [← hlocs] at hS
  suffices hW : W p l e ({ frames := 0, cells := 0, slots := 0, locals := 0 } : Room) s m args below meth c H locs 0 0 (MQ below ((xQv D (fun (u : Int64 × Int64) => match u with | (xaz, xbz) => ¬ xbz = 0) (fun (u : Int64 × Int64) => match u with | (xaz, xbz) => [(hm, .inr (12, [.ref ms, .ref mkp, .int (nI km), .ref mtr, .int (nI n), .int (nI k), .int (nI al), .int (nI be), .int ea, .int pr, .ref mas, .int nq, .int po, .int (nI en), .ref mso, .ref mon, .ref mot, .ref man, .int th, .int xd, .ref mst, .ref msm, .ref mtb, .ref mti, .ref mfr, .ref mbn, .ref mbs, .ref mde, .int sF, .int sN, .int sS, .int ig, .long xaz, .long xbz, .ref maa, .ref mab, .ref mba, .ref mbb]))])) A) args s 0 0 A) (F0 m 0 ls []) by rw [hlocs, hH] at hW; exact hW
  clear hH hlocs
  refine lv_lload_n hx hb dX12_settles_0 rfl (lv_at hl 1 rfl) ?_
  refine lv_lconst (v := 0) hx hb dX12_settles_1 (by decide) ?_
  refine W.lcmp hx hb dX12_settles_2 ?_
  refine lv_if_ge (tgt := 11) hx hb dX12_settles_3 (by decide) (fun c_1 => ?_) (fun c_1 => ?_)
  · -- 3 t
    refine lv_lload_n hx hb dX12_settles_11 rfl (lv_at hl 1 rfl) ?_
    refine lv_lstore (lv' := [(5, .long p9), (0, .ref hm), (1, .long p9), (3, .long q9)]) hx hb dX12_settles_12 hl (by decide) rfl ?_
    clear hl
    try clear ls
    intro ls hl
    refine lv_lload_n hx hb dX12_settles_14 rfl (lv_at hl 3 rfl) ?_
    refine lv_lstore (lv' := [(7, .long q9), (5, .long p9), (0, .ref hm), (1, .long p9), (3, .long q9)]) hx hb dX12_settles_15 hl (by decide) rfl ?_
    clear hl
    try clear ls
    intro ls hl
    have loop_2 : ∀ (n_loop_2 : Nat) (o : Nat) (u9 : Int64) (v9 : Int64), (gr ig ∨ euP q9 u9 v9) → v9.toInt.natAbs < n_loop_2 → ∀ (H : Heap) (locs : List Loc) (ls : Array Slot), va_P D vwCl [(hm, .inr (12, [.ref ms, .ref mkp, .int (nI km), .ref mtr, .int (nI n), .int (nI k), .int (nI al), .int (nI be), .int ea, .int pr, .ref mas, .int nq, .int po, .int (nI en), .ref mso, .ref mon, .ref mot, .ref man, .int th, .int xd, .ref mst, .ref msm, .ref mtb, .ref mti, .ref mfr, .ref mbn, .ref mbs, .ref mde, .int sF, .int sN, .int sS, .int ig, .long xa, .long xb, .ref maa, .ref mab, .ref mba, .ref mbb]))] H → va_D A [(hm, .inr (12, [.ref ms, .ref mkp, .int (nI km), .ref mtr, .int (nI n), .int (nI k), .int (nI al), .int (nI be), .int ea, .int pr, .ref mas, .int nq, .int po, .int (nI en), .ref mso, .ref mon, .ref mot, .ref man, .int th, .int xd, .ref mst, .ref msm, .ref mtb, .ref mti, .ref mfr, .ref mbn, .ref mbs, .ref mde, .int sF, .int sN, .int sS, .int ig, .long xa, .long xb, .ref maa, .ref mab, .ref mba, .ref mbb]))] → va_S A s.heap H locs → lv_has ls 11 [(7, .long v9), (5, .long u9), (0, .ref hm), (1, .long p9), (3, .long q9)] → W p l e ({ frames := 0, cells := 0, slots := 0, locals := 0 } : Room) s m args below meth c H locs 0 0 (MQ below ((xQv D (fun (u : Int64 × Int64) => match u with | (xaz, xbz) => ¬ xbz = 0) (fun (u : Int64 × Int64) => match u with | (xaz, xbz) => [(hm, .inr (12, [.ref ms, .ref mkp, .int (nI km), .ref mtr, .int (nI n), .int (nI k), .int (nI al), .int (nI be), .int ea, .int pr, .ref mas, .int nq, .int po, .int (nI en), .ref mso, .ref mon, .ref mot, .ref man, .int th, .int xd, .ref mst, .ref msm, .ref mtb, .ref mti, .ref mfr, .ref mbn, .ref mbs, .ref mde, .int sF, .int sN, .int sS, .int ig, .long xaz, .long xbz, .ref maa, .ref mab, .ref mba, .ref mbb]))])) A) args s 0 0 A) (F0 m 17 ls []) := by
      intro n_loop_2
      induction n_loop_2 with
      | zero => intro o u9 v9 he9 hlt H locs ls hP hD hS hl; exact absurd hlt (Nat.not_lt_zero _)
      | succ n_loop_2 ih_loop_2 =>
        intro o u9 v9 he9 hlt_loop_2 H locs ls hP hD hS hl
        refine lv_lload hx hb dX12_settles_17 (lv_at hl 0 rfl) ?_
        refine lv_lconst (v := 0) hx hb dX12_settles_19 (by decide) ?_
        refine W.lcmp hx hb dX12_settles_20 ?_
        refine lv_if_eq (tgt := 49) hx hb dX12_settles_21 (by decide) (fun c_3 => ?_) (fun c_3 => ?_)
        · -- 21 t
          refine lv_aload_n hx hb dX12_settles_49 rfl (lv_at hl 2 rfl) ?_
          refine lv_aload_n hx hb dX12_settles_50 rfl (lv_at hl 2 rfl) ?_
          refine xget C hP 0 rfl rfl zuX12 31 (by decide) zw6_4 rfl dX12_settles_51 ?_
          refine lv_if_eq (tgt := 61) hx hb dX12_settles_54 (by decide) (fun c_4 => ?_) (fun c_4 => ?_)
          · -- 54 t
            have hend := eu_end (q := q9) (a := u9) (by have z := l_eq c_3; have g := he9.resolve_left (fun g => g c_4); rw [z] at g; exact g)
            refine lv_lload_n hx hb dX12_settles_61 rfl (lv_at hl 3 rfl) ?_
            refine lv_lload hx hb dX12_settles_62 (lv_at hl 1 rfl) ?_
            refine lv_ldiv hx hb dX12_settles_64 hend.1 ?_
            refine xput C hP hD hS 0 rfl rfl zuX12 tyX12 tyX12_ok nmX12 32 (by decide) zw6_5 rfl rfl rfl (Nat.le_of_ble_eq_true rfl) dX12_settles_65 ?_
            clear hP hD hS
            try clear locs
            try clear H
            intro H locs hP hD hS
            replace hP : va_P D vwCl [(hm, .inr (12, [.ref ms, .ref mkp, .int (nI km), .ref mtr, .int (nI n), .int (nI k), .int (nI al), .int (nI be), .int ea, .int pr, .ref mas, .int nq, .int po, .int (nI en), .ref mso, .ref mon, .ref mot, .ref man, .int th, .int xd, .ref mst, .ref msm, .ref mtb, .ref mti, .ref mfr, .ref mbn, .ref mbs, .ref mde, .int sF, .int sN, .int sS, .int ig, .long (p9 / u9), .long xb, .ref maa, .ref mab, .ref mba, .ref mbb]))] H := hP
            replace hD : va_D A [(hm, .inr (12, [.ref ms, .ref mkp, .int (nI km), .ref mtr, .int (nI n), .int (nI k), .int (nI al), .int (nI be), .int ea, .int pr, .ref mas, .int nq, .int po, .int (nI en), .ref mso, .ref mon, .ref mot, .ref man, .int th, .int xd, .ref mst, .ref msm, .ref mtb, .ref mti, .ref mfr, .ref mbn, .ref mbs, .ref mde, .int sF, .int sN, .int sS, .int ig, .long (p9 / u9), .long xb, .ref maa, .ref mab, .ref mba, .ref mbb]))] := hD
            refine lv_aload_n hx hb dX12_settles_68 rfl (lv_at hl 2 rfl) ?_
            refine lv_aload_n hx hb dX12_settles_69 rfl (lv_at hl 2 rfl) ?_
            refine xget C hP 0 rfl rfl zuX12 31 (by decide) zw6_4 rfl dX12_settles_70 ?_
            refine lv_if_eq (tgt := 80) hx hb dX12_settles_73 (by decide) (fun _ => ?_) (fun c => absurd c_4 c)
            refine lv_lload_n hx hb dX12_settles_80 rfl (lv_at hl 4 rfl) ?_
            refine lv_lload hx hb dX12_settles_81 (lv_at hl 1 rfl) ?_
            refine lv_ldiv hx hb dX12_settles_83 hend.1 ?_
            refine xput C hP hD hS 0 rfl rfl zuX12 tyX12 tyX12_ok nmX12 33 (by decide) zw6_6 rfl rfl rfl (Nat.le_of_ble_eq_true rfl) dX12_settles_84 ?_
            clear hP hD hS
            try clear locs
            try clear H
            intro H locs hP hD hS
            replace hP : va_P D vwCl [(hm, .inr (12, [.ref ms, .ref mkp, .int (nI km), .ref mtr, .int (nI n), .int (nI k), .int (nI al), .int (nI be), .int ea, .int pr, .ref mas, .int nq, .int po, .int (nI en), .ref mso, .ref mon, .ref mot, .ref man, .int th, .int xd, .ref mst, .ref msm, .ref mtb, .ref mti, .ref mfr, .ref mbn, .ref mbs, .ref mde, .int sF, .int sN, .int sS, .int ig, .long (p9 / u9), .long (q9 / u9), .ref maa, .ref mab, .ref mba, .ref mbb]))] H := hP
            replace hD : va_D A [(hm, .inr (12, [.ref ms, .ref mkp, .int (nI km), .ref mtr, .int (nI n), .int (nI k), .int (nI al), .int (nI be), .int ea, .int pr, .ref mas, .int nq, .int po, .int (nI en), .ref mso, .ref mon, .ref mot, .ref man, .int th, .int xd, .ref mst, .ref msm, .ref mtb, .ref mti, .ref mfr, .ref mbn, .ref mbs, .ref mde, .int sF, .int sN, .int sS, .int ig, .long (p9 / u9), .long (q9 / u9), .ref maa, .ref mab, .ref mba, .ref mbb]))] := hD
            exact xretv C (⟨(p9 / u9), (q9 / u9)⟩) (hend.2) hP hD hS (Nat.le_of_ble_eq_true rfl) (Nat.le_of_ble_eq_true rfl) dX12_settles_87
          · -- 54 f
            refine lv_lconst (v := 0) hx hb dX12_settles_57 (by decide) ?_
            refine lv_goto (tgt := 65) hx hb dX12_settles_58 (by decide) ?_
            refine xput C hP hD hS 0 rfl rfl zuX12 tyX12 tyX12_ok nmX12 32 (by decide) zw6_5 rfl rfl rfl (Nat.le_of_ble_eq_true rfl) dX12_settles_65 ?_
            clear hP hD hS
            try clear locs
            try clear H
            intro H locs hP hD hS
            replace hP : va_P D vwCl [(hm, .inr (12, [.ref ms, .ref mkp, .int (nI km), .ref mtr, .int (nI n), .int (nI k), .int (nI al), .int (nI be), .int ea, .int pr, .ref mas, .int nq, .int po, .int (nI en), .ref mso, .ref mon, .ref mot, .ref man, .int th, .int xd, .ref mst, .ref msm, .ref mtb, .ref mti, .ref mfr, .ref mbn, .ref mbs, .ref mde, .int sF, .int sN, .int sS, .int ig, .long 0, .long xb, .ref maa, .ref mab, .ref mba, .ref mbb]))] H := hP
            replace hD : va_D A [(hm, .inr (12, [.ref ms, .ref mkp, .int (nI km), .ref mtr, .int (nI n), .int (nI k), .int (nI al), .int (nI be), .int ea, .int pr, .ref mas, .int nq, .int po, .int (nI en), .ref mso, .ref mon, .ref mot, .ref man, .int th, .int xd, .ref mst, .ref msm, .ref mtb, .ref mti, .ref mfr, .ref mbn, .ref mbs, .ref mde, .int sF, .int sN, .int sS, .int ig, .long 0, .long xb, .ref maa, .ref mab, .ref mba, .ref mbb]))] := hD
            refine lv_aload_n hx hb dX12_settles_68 rfl (lv_at hl 2 rfl) ?_
            refine lv_aload_n hx hb dX12_settles_69 rfl (lv_at hl 2 rfl) ?_
            refine xget C hP 0 rfl rfl zuX12 31 (by decide) zw6_4 rfl dX12_settles_70 ?_
            refine lv_if_eq (tgt := 80) hx hb dX12_settles_73 (by decide) (fun c => absurd c (fun g => c_4 g)) (fun _ => ?_)
            refine lv_lconst (v := 1) hx hb dX12_settles_76 (by decide) ?_
            refine lv_goto (tgt := 84) hx hb dX12_settles_77 (by decide) ?_
            refine xput C hP hD hS 0 rfl rfl zuX12 tyX12 tyX12_ok nmX12 33 (by decide) zw6_6 rfl rfl rfl (Nat.le_of_ble_eq_true rfl) dX12_settles_84 ?_
            clear hP hD hS
            try clear locs
            try clear H
            intro H locs hP hD hS
            replace hP : va_P D vwCl [(hm, .inr (12, [.ref ms, .ref mkp, .int (nI km), .ref mtr, .int (nI n), .int (nI k), .int (nI al), .int (nI be), .int ea, .int pr, .ref mas, .int nq, .int po, .int (nI en), .ref mso, .ref mon, .ref mot, .ref man, .int th, .int xd, .ref mst, .ref msm, .ref mtb, .ref mti, .ref mfr, .ref mbn, .ref mbs, .ref mde, .int sF, .int sN, .int sS, .int ig, .long 0, .long 1, .ref maa, .ref mab, .ref mba, .ref mbb]))] H := hP
            replace hD : va_D A [(hm, .inr (12, [.ref ms, .ref mkp, .int (nI km), .ref mtr, .int (nI n), .int (nI k), .int (nI al), .int (nI be), .int ea, .int pr, .ref mas, .int nq, .int po, .int (nI en), .ref mso, .ref mon, .ref mot, .ref man, .int th, .int xd, .ref mst, .ref msm, .ref mtb, .ref mti, .ref mfr, .ref mbn, .ref mbs, .ref mde, .int sF, .int sN, .int sS, .int ig, .long 0, .long 1, .ref maa, .ref mab, .ref mba, .ref mbb]))] := hD
            exact xretv C (⟨0, 1⟩) (by decide) hP hD hS (Nat.le_of_ble_eq_true rfl) (Nat.le_of_ble_eq_true rfl) dX12_settles_87
        · -- 21 f
          refine lv_aload_n hx hb dX12_settles_24 rfl (lv_at hl 2 rfl) ?_
          refine xget C hP 0 rfl rfl zuX12 31 (by decide) zw6_4 rfl dX12_settles_25 ?_
          refine lv_if_ne (tgt := 49) hx hb dX12_settles_28 (by decide) (fun c_5 => ?_) (fun c_5 => ?_)
          · -- 28 t
            refine lv_aload_n hx hb dX12_settles_49 rfl (lv_at hl 2 rfl) ?_
            refine lv_aload_n hx hb dX12_settles_50 rfl (lv_at hl 2 rfl) ?_
            refine xget C hP 0 rfl rfl zuX12 31 (by decide) zw6_4 rfl dX12_settles_51 ?_
            refine lv_if_eq (tgt := 61) hx hb dX12_settles_54 (by decide) (fun c => absurd c (fun g => c_5 g)) (fun _ => ?_)
            refine lv_lconst (v := 0) hx hb dX12_settles_57 (by decide) ?_
            refine lv_goto (tgt := 65) hx hb dX12_settles_58 (by decide) ?_
            refine xput C hP hD hS 0 rfl rfl zuX12 tyX12 tyX12_ok nmX12 32 (by decide) zw6_5 rfl rfl rfl (Nat.le_of_ble_eq_true rfl) dX12_settles_65 ?_
            clear hP hD hS
            try clear locs
            try clear H
            intro H locs hP hD hS
            replace hP : va_P D vwCl [(hm, .inr (12, [.ref ms, .ref mkp, .int (nI km), .ref mtr, .int (nI n), .int (nI k), .int (nI al), .int (nI be), .int ea, .int pr, .ref mas, .int nq, .int po, .int (nI en), .ref mso, .ref mon, .ref mot, .ref man, .int th, .int xd, .ref mst, .ref msm, .ref mtb, .ref mti, .ref mfr, .ref mbn, .ref mbs, .ref mde, .int sF, .int sN, .int sS, .int ig, .long 0, .long xb, .ref maa, .ref mab, .ref mba, .ref mbb]))] H := hP
            replace hD : va_D A [(hm, .inr (12, [.ref ms, .ref mkp, .int (nI km), .ref mtr, .int (nI n), .int (nI k), .int (nI al), .int (nI be), .int ea, .int pr, .ref mas, .int nq, .int po, .int (nI en), .ref mso, .ref mon, .ref mot, .ref man, .int th, .int xd, .ref mst, .ref msm, .ref mtb, .ref mti, .ref mfr, .ref mbn, .ref mbs, .ref mde, .int sF, .int sN, .int sS, .int ig, .long 0, .long xb, .ref maa, .ref mab, .ref mba, .ref mbb]))] := hD
            refine lv_aload_n hx hb dX12_settles_68 rfl (lv_at hl 2 rfl) ?_
            refine lv_aload_n hx hb dX12_settles_69 rfl (lv_at hl 2 rfl) ?_
            refine xget C hP 0 rfl rfl zuX12 31 (by decide) zw6_4 rfl dX12_settles_70 ?_
            refine lv_if_eq (tgt := 80) hx hb dX12_settles_73 (by decide) (fun c => absurd c (fun g => c_5 g)) (fun _ => ?_)
            refine lv_lconst (v := 1) hx hb dX12_settles_76 (by decide) ?_
            refine lv_goto (tgt := 84) hx hb dX12_settles_77 (by decide) ?_
            refine xput C hP hD hS 0 rfl rfl zuX12 tyX12 tyX12_ok nmX12 33 (by decide) zw6_6 rfl rfl rfl (Nat.le_of_ble_eq_true rfl) dX12_settles_84 ?_
            clear hP hD hS
            try clear locs
            try clear H
            intro H locs hP hD hS
            replace hP : va_P D vwCl [(hm, .inr (12, [.ref ms, .ref mkp, .int (nI km), .ref mtr, .int (nI n), .int (nI k), .int (nI al), .int (nI be), .int ea, .int pr, .ref mas, .int nq, .int po, .int (nI en), .ref mso, .ref mon, .ref mot, .ref man, .int th, .int xd, .ref mst, .ref msm, .ref mtb, .ref mti, .ref mfr, .ref mbn, .ref mbs, .ref mde, .int sF, .int sN, .int sS, .int ig, .long 0, .long 1, .ref maa, .ref mab, .ref mba, .ref mbb]))] H := hP
            replace hD : va_D A [(hm, .inr (12, [.ref ms, .ref mkp, .int (nI km), .ref mtr, .int (nI n), .int (nI k), .int (nI al), .int (nI be), .int ea, .int pr, .ref mas, .int nq, .int po, .int (nI en), .ref mso, .ref mon, .ref mot, .ref man, .int th, .int xd, .ref mst, .ref msm, .ref mtb, .ref mti, .ref mfr, .ref mbn, .ref mbs, .ref mde, .int sF, .int sN, .int sS, .int ig, .long 0, .long 1, .ref maa, .ref mab, .ref mba, .ref mbb]))] := hD
            exact xretv C (⟨0, 1⟩) (by decide) hP hD hS (Nat.le_of_ble_eq_true rfl) (Nat.le_of_ble_eq_true rfl) dX12_settles_87
          · -- 28 f
            refine lv_lload hx hb dX12_settles_31 (lv_at hl 1 rfl) ?_
            refine lv_lload hx hb dX12_settles_33 (lv_at hl 0 rfl) ?_
            have hlt9 := lrem_lt (a := u9) (l_ne c_3)
            refine lv_lrem hx hb dX12_settles_35 (l_ne c_3) ?_
            refine lv_lstore (lv' := [(9, .long (u9 - u9 / v9 * v9)), (7, .long v9), (5, .long u9), (0, .ref hm), (1, .long p9), (3, .long q9)]) hx hb dX12_settles_36 hl (by decide) rfl ?_
            clear hl
            try clear ls
            intro ls hl
            refine lv_lload hx hb dX12_settles_38 (lv_at hl 1 rfl) ?_
            refine lv_lstore (lv' := [(5, .long v9), (9, .long (u9 - u9 / v9 * v9)), (7, .long v9), (0, .ref hm), (1, .long p9), (3, .long q9)]) hx hb dX12_settles_40 hl (by decide) rfl ?_
            clear hl
            try clear ls
            intro ls hl
            refine lv_lload hx hb dX12_settles_42 (lv_at hl 1 rfl) ?_
            refine lv_lstore (lv' := [(7, .long (u9 - u9 / v9 * v9)), (5, .long v9), (9, .long (u9 - u9 / v9 * v9)), (0, .ref hm), (1, .long p9), (3, .long q9)]) hx hb dX12_settles_44 hl (by decide) rfl ?_
            clear hl
            try clear ls
            intro ls hl
            refine lv_goto (tgt := 17) hx hb dX12_settles_46 (by decide) ?_
            exact ih_loop_2 (o + 1) v9 (u9 - u9 / v9 * v9) (he9.imp id (fun g => eu_step g (l_ne c_3))) (by omega) H locs ls hP hD hS (lv_sub hl [0, 1, 3, 4, 5] rfl)
    exact loop_2 _ 0 p9 q9 (hq.imp id eu_0) (Nat.lt_succ_self _) H locs ls hP hD hS (lv_sub hl [0, 1, 2, 3, 4] rfl)
  · -- 3 f
    refine lv_lload_n hx hb dX12_settles_6 rfl (lv_at hl 1 rfl) ?_
    refine lv_lneg hx hb dX12_settles_7 ?_
    refine lv_goto (tgt := 12) hx hb dX12_settles_8 (by decide) ?_
    refine lv_lstore (lv' := [(5, .long (-p9)), (0, .ref hm), (1, .long p9), (3, .long q9)]) hx hb dX12_settles_12 hl (by decide) rfl ?_
    clear hl
    try clear ls
    intro ls hl
    refine lv_lload_n hx hb dX12_settles_14 rfl (lv_at hl 3 rfl) ?_
    refine lv_lstore (lv' := [(7, .long q9), (5, .long (-p9)), (0, .ref hm), (1, .long p9), (3, .long q9)]) hx hb dX12_settles_15 hl (by decide) rfl ?_
    clear hl
    try clear ls
    intro ls hl
    have loop_6 : ∀ (n_loop_6 : Nat) (o : Nat) (u9 : Int64) (v9 : Int64), (gr ig ∨ euP q9 u9 v9) → v9.toInt.natAbs < n_loop_6 → ∀ (H : Heap) (locs : List Loc) (ls : Array Slot), va_P D vwCl [(hm, .inr (12, [.ref ms, .ref mkp, .int (nI km), .ref mtr, .int (nI n), .int (nI k), .int (nI al), .int (nI be), .int ea, .int pr, .ref mas, .int nq, .int po, .int (nI en), .ref mso, .ref mon, .ref mot, .ref man, .int th, .int xd, .ref mst, .ref msm, .ref mtb, .ref mti, .ref mfr, .ref mbn, .ref mbs, .ref mde, .int sF, .int sN, .int sS, .int ig, .long xa, .long xb, .ref maa, .ref mab, .ref mba, .ref mbb]))] H → va_D A [(hm, .inr (12, [.ref ms, .ref mkp, .int (nI km), .ref mtr, .int (nI n), .int (nI k), .int (nI al), .int (nI be), .int ea, .int pr, .ref mas, .int nq, .int po, .int (nI en), .ref mso, .ref mon, .ref mot, .ref man, .int th, .int xd, .ref mst, .ref msm, .ref mtb, .ref mti, .ref mfr, .ref mbn, .ref mbs, .ref mde, .int sF, .int sN, .int sS, .int ig, .long xa, .long xb, .ref maa, .ref mab, .ref mba, .ref mbb]))] → va_S A s.heap H locs → lv_has ls 11 [(7, .long v9), (5, .long u9), (0, .ref hm), (1, .long p9), (3, .long q9)] → W p l e ({ frames := 0, cells := 0, slots := 0, locals := 0 } : Room) s m args below meth c H locs 0 0 (MQ below ((xQv D (fun (u : Int64 × Int64) => match u with | (xaz, xbz) => ¬ xbz = 0) (fun (u : Int64 × Int64) => match u with | (xaz, xbz) => [(hm, .inr (12, [.ref ms, .ref mkp, .int (nI km), .ref mtr, .int (nI n), .int (nI k), .int (nI al), .int (nI be), .int ea, .int pr, .ref mas, .int nq, .int po, .int (nI en), .ref mso, .ref mon, .ref mot, .ref man, .int th, .int xd, .ref mst, .ref msm, .ref mtb, .ref mti, .ref mfr, .ref mbn, .ref mbs, .ref mde, .int sF, .int sN, .int sS, .int ig, .long xaz, .long xbz, .ref maa, .ref mab, .ref mba, .ref mbb]))])) A) args s 0 0 A) (F0 m 17 ls []) := by
      intro n_loop_6
      induction n_loop_6 with
      | zero => intro o u9 v9 he9 hlt H locs ls hP hD hS hl; exact absurd hlt (Nat.not_lt_zero _)
      | succ n_loop_6 ih_loop_6 =>
        intro o u9 v9 he9 hlt_loop_6 H locs ls hP hD hS hl
        refine lv_lload hx hb dX12_settles_17 (lv_at hl 0 rfl) ?_
        refine lv_lconst (v := 0) hx hb dX12_settles_19 (by decide) ?_
        refine W.lcmp hx hb dX12_settles_20 ?_
        refine lv_if_eq (tgt := 49) hx hb dX12_settles_21 (by decide) (fun c_7 => ?_) (fun c_7 => ?_)
        · -- 21 t
          refine lv_aload_n hx hb dX12_settles_49 rfl (lv_at hl 2 rfl) ?_
          refine lv_aload_n hx hb dX12_settles_50 rfl (lv_at hl 2 rfl) ?_
          refine xget C hP 0 rfl rfl zuX12 31 (by decide) zw6_4 rfl dX12_settles_51 ?_
          refine lv_if_eq (tgt := 61) hx hb dX12_settles_54 (by decide) (fun c_8 => ?_) (fun c_8 => ?_)
          · -- 54 t
            have hend := eu_end (q := q9) (a := u9) (by have z := l_eq c_7; have g := he9.resolve_left (fun g => g c_8); rw [z] at g; exact g)
            refine lv_lload_n hx hb dX12_settles_61 rfl (lv_at hl 3 rfl) ?_
            refine lv_lload hx hb dX12_settles_62 (lv_at hl 1 rfl) ?_
            refine lv_ldiv hx hb dX12_settles_64 hend.1 ?_
            refine xput C hP hD hS 0 rfl rfl zuX12 tyX12 tyX12_ok nmX12 32 (by decide) zw6_5 rfl rfl rfl (Nat.le_of_ble_eq_true rfl) dX12_settles_65 ?_
            clear hP hD hS
            try clear locs
            try clear H
            intro H locs hP hD hS
            replace hP : va_P D vwCl [(hm, .inr (12, [.ref ms, .ref mkp, .int (nI km), .ref mtr, .int (nI n), .int (nI k), .int (nI al), .int (nI be), .int ea, .int pr, .ref mas, .int nq, .int po, .int (nI en), .ref mso, .ref mon, .ref mot, .ref man, .int th, .int xd, .ref mst, .ref msm, .ref mtb, .ref mti, .ref mfr, .ref mbn, .ref mbs, .ref mde, .int sF, .int sN, .int sS, .int ig, .long (p9 / u9), .long xb, .ref maa, .ref mab, .ref mba, .ref mbb]))] H := hP
            replace hD : va_D A [(hm, .inr (12, [.ref ms, .ref mkp, .int (nI km), .ref mtr, .int (nI n), .int (nI k), .int (nI al), .int (nI be), .int ea, .int pr, .ref mas, .int nq, .int po, .int (nI en), .ref mso, .ref mon, .ref mot, .ref man, .int th, .int xd, .ref mst, .ref msm, .ref mtb, .ref mti, .ref mfr, .ref mbn, .ref mbs, .ref mde, .int sF, .int sN, .int sS, .int ig, .long (p9 / u9), .long xb, .ref maa, .ref mab, .ref mba, .ref mbb]))] := hD
            refine lv_aload_n hx hb dX12_settles_68 rfl (lv_at hl 2 rfl) ?_
            refine lv_aload_n hx hb dX12_settles_69 rfl (lv_at hl 2 rfl) ?_
            refine xget C hP 0 rfl rfl zuX12 31 (by decide) zw6_4 rfl dX12_settles_70 ?_
            refine lv_if_eq (tgt := 80) hx hb dX12_settles_73 (by decide) (fun _ => ?_) (fun c => absurd c_8 c)
            refine lv_lload_n hx hb dX12_settles_80 rfl (lv_at hl 4 rfl) ?_
            refine lv_lload hx hb dX12_settles_81 (lv_at hl 1 rfl) ?_
            refine lv_ldiv hx hb dX12_settles_83 hend.1 ?_
            refine xput C hP hD hS 0 rfl rfl zuX12 tyX12 tyX12_ok nmX12 33 (by decide) zw6_6 rfl rfl rfl (Nat.le_of_ble_eq_true rfl) dX12_settles_84 ?_
            clear hP hD hS
            try clear locs
            try clear H
            intro H locs hP hD hS
            replace hP : va_P D vwCl [(hm, .inr (12, [.ref ms, .ref mkp, .int (nI km), .ref mtr, .int (nI n), .int (nI k), .int (nI al), .int (nI be), .int ea, .int pr, .ref mas, .int nq, .int po, .int (nI en), .ref mso, .ref mon, .ref mot, .ref man, .int th, .int xd, .ref mst, .ref msm, .ref mtb, .ref mti, .ref mfr, .ref mbn, .ref mbs, .ref mde, .int sF, .int sN, .int sS, .int ig, .long (p9 / u9), .long (q9 / u9), .ref maa, .ref mab, .ref mba, .ref mbb]))] H := hP
            replace hD : va_D A [(hm, .inr (12, [.ref ms, .ref mkp, .int (nI km), .ref mtr, .int (nI n), .int (nI k), .int (nI al), .int (nI be), .int ea, .int pr, .ref mas, .int nq, .int po, .int (nI en), .ref mso, .ref mon, .ref mot, .ref man, .int th, .int xd, .ref mst, .ref msm, .ref mtb, .ref mti, .ref mfr, .ref mbn, .ref mbs, .ref mde, .int sF, .int sN, .int sS, .int ig, .long (p9 / u9), .long (q9 / u9), .ref maa, .ref mab, .ref mba, .ref mbb]))] := hD
            exact xretv C (⟨(p9 / u9), (q9 / u9)⟩) (hend.2) hP hD hS (Nat.le_of_ble_eq_true rfl) (Nat.le_of_ble_eq_true rfl) dX12_settles_87
          · -- 54 f
            refine lv_lconst (v := 0) hx hb dX12_settles_57 (by decide) ?_
            refine lv_goto (tgt := 65) hx hb dX12_settles_58 (by decide) ?_
            refine xput C hP hD hS 0 rfl rfl zuX12 tyX12 tyX12_ok nmX12 32 (by decide) zw6_5 rfl rfl rfl (Nat.le_of_ble_eq_true rfl) dX12_settles_65 ?_
            clear hP hD hS
            try clear locs
            try clear H
            intro H locs hP hD hS
            replace hP : va_P D vwCl [(hm, .inr (12, [.ref ms, .ref mkp, .int (nI km), .ref mtr, .int (nI n), .int (nI k), .int (nI al), .int (nI be), .int ea, .int pr, .ref mas, .int nq, .int po, .int (nI en), .ref mso, .ref mon, .ref mot, .ref man, .int th, .int xd, .ref mst, .ref msm, .ref mtb, .ref mti, .ref mfr, .ref mbn, .ref mbs, .ref mde, .int sF, .int sN, .int sS, .int ig, .long 0, .long xb, .ref maa, .ref mab, .ref mba, .ref mbb]))] H := hP
            replace hD : va_D A [(hm, .inr (12, [.ref ms, .ref mkp, .int (nI km), .ref mtr, .int (nI n), .int (nI k), .int (nI al), .int (nI be), .int ea, .int pr, .ref mas, .int nq, .int po, .int (nI en), .ref mso, .ref mon, .ref mot, .ref man, .int th, .int xd, .ref mst, .ref msm, .ref mtb, .ref mti, .ref mfr, .ref mbn, .ref mbs, .ref mde, .int sF, .int sN, .int sS, .int ig, .long 0, .long xb, .ref maa, .ref mab, .ref mba, .ref mbb]))] := hD
            refine lv_aload_n hx hb dX12_settles_68 rfl (lv_at hl 2 rfl) ?_
            refine lv_aload_n hx hb dX12_settles_69 rfl (lv_at hl 2 rfl) ?_
            refine xget C hP 0 rfl rfl zuX12 31 (by decide) zw6_4 rfl dX12_settles_70 ?_
            refine lv_if_eq (tgt := 80) hx hb dX12_settles_73 (by decide) (fun c => absurd c (fun g => c_8 g)) (fun _ => ?_)
            refine lv_lconst (v := 1) hx hb dX12_settles_76 (by decide) ?_
            refine lv_goto (tgt := 84) hx hb dX12_settles_77 (by decide) ?_
            refine xput C hP hD hS 0 rfl rfl zuX12 tyX12 tyX12_ok nmX12 33 (by decide) zw6_6 rfl rfl rfl (Nat.le_of_ble_eq_true rfl) dX12_settles_84 ?_
            clear hP hD hS
            try clear locs
            try clear H
            intro H locs hP hD hS
            replace hP : va_P D vwCl [(hm, .inr (12, [.ref ms, .ref mkp, .int (nI km), .ref mtr, .int (nI n), .int (nI k), .int (nI al), .int (nI be), .int ea, .int pr, .ref mas, .int nq, .int po, .int (nI en), .ref mso, .ref mon, .ref mot, .ref man, .int th, .int xd, .ref mst, .ref msm, .ref mtb, .ref mti, .ref mfr, .ref mbn, .ref mbs, .ref mde, .int sF, .int sN, .int sS, .int ig, .long 0, .long 1, .ref maa, .ref mab, .ref mba, .ref mbb]))] H := hP
            replace hD : va_D A [(hm, .inr (12, [.ref ms, .ref mkp, .int (nI km), .ref mtr, .int (nI n), .int (nI k), .int (nI al), .int (nI be), .int ea, .int pr, .ref mas, .int nq, .int po, .int (nI en), .ref mso, .ref mon, .ref mot, .ref man, .int th, .int xd, .ref mst, .ref msm, .ref mtb, .ref mti, .ref mfr, .ref mbn, .ref mbs, .ref mde, .int sF, .int sN, .int sS, .int ig, .long 0, .long 1, .ref maa, .ref mab, .ref mba, .ref mbb]))] := hD
            exact xretv C (⟨0, 1⟩) (by decide) hP hD hS (Nat.le_of_ble_eq_true rfl) (Nat.le_of_ble_eq_true rfl) dX12_settles_87
        · -- 21 f
          refine lv_aload_n hx hb dX12_settles_24 rfl (lv_at hl 2 rfl) ?_
          refine xget C hP 0 rfl rfl zuX12 31 (by decide) zw6_4 rfl dX12_settles_25 ?_
          refine lv_if_ne (tgt := 49) hx hb dX12_settles_28 (by decide) (fun c_9 => ?_) (fun c_9 => ?_)
          · -- 28 t
            refine lv_aload_n hx hb dX12_settles_49 rfl (lv_at hl 2 rfl) ?_
            refine lv_aload_n hx hb dX12_settles_50 rfl (lv_at hl 2 rfl) ?_
            refine xget C hP 0 rfl rfl zuX12 31 (by decide) zw6_4 rfl dX12_settles_51 ?_
            refine lv_if_eq (tgt := 61) hx hb dX12_settles_54 (by decide) (fun c => absurd c (fun g => c_9 g)) (fun _ => ?_)
            refine lv_lconst (v := 0) hx hb dX12_settles_57 (by decide) ?_
            refine lv_goto (tgt := 65) hx hb dX12_settles_58 (by decide) ?_
            refine xput C hP hD hS 0 rfl rfl zuX12 tyX12 tyX12_ok nmX12 32 (by decide) zw6_5 rfl rfl rfl (Nat.le_of_ble_eq_true rfl) dX12_settles_65 ?_
            clear hP hD hS
            try clear locs
            try clear H
            intro H locs hP hD hS
            replace hP : va_P D vwCl [(hm, .inr (12, [.ref ms, .ref mkp, .int (nI km), .ref mtr, .int (nI n), .int (nI k), .int (nI al), .int (nI be), .int ea, .int pr, .ref mas, .int nq, .int po, .int (nI en), .ref mso, .ref mon, .ref mot, .ref man, .int th, .int xd, .ref mst, .ref msm, .ref mtb, .ref mti, .ref mfr, .ref mbn, .ref mbs, .ref mde, .int sF, .int sN, .int sS, .int ig, .long 0, .long xb, .ref maa, .ref mab, .ref mba, .ref mbb]))] H := hP
            replace hD : va_D A [(hm, .inr (12, [.ref ms, .ref mkp, .int (nI km), .ref mtr, .int (nI n), .int (nI k), .int (nI al), .int (nI be), .int ea, .int pr, .ref mas, .int nq, .int po, .int (nI en), .ref mso, .ref mon, .ref mot, .ref man, .int th, .int xd, .ref mst, .ref msm, .ref mtb, .ref mti, .ref mfr, .ref mbn, .ref mbs, .ref mde, .int sF, .int sN, .int sS, .int ig, .long 0, .long xb, .ref maa, .ref mab, .ref mba, .ref mbb]))] := hD
            refine lv_aload_n hx hb dX12_settles_68 rfl (lv_at hl 2 rfl) ?_
            refine lv_aload_n hx hb dX12_settles_69 rfl (lv_at hl 2 rfl) ?_
            refine xget C hP 0 rfl rfl zuX12 31 (by decide) zw6_4 rfl dX12_settles_70 ?_
            refine lv_if_eq (tgt := 80) hx hb dX12_settles_73 (by decide) (fun c => absurd c (fun g => c_9 g)) (fun _ => ?_)
            refine lv_lconst (v := 1) hx hb dX12_settles_76 (by decide) ?_
            refine lv_goto (tgt := 84) hx hb dX12_settles_77 (by decide) ?_
            refine xput C hP hD hS 0 rfl rfl zuX12 tyX12 tyX12_ok nmX12 33 (by decide) zw6_6 rfl rfl rfl (Nat.le_of_ble_eq_true rfl) dX12_settles_84 ?_
            clear hP hD hS
            try clear locs
            try clear H
            intro H locs hP hD hS
            replace hP : va_P D vwCl [(hm, .inr (12, [.ref ms, .ref mkp, .int (nI km), .ref mtr, .int (nI n), .int (nI k), .int (nI al), .int (nI be), .int ea, .int pr, .ref mas, .int nq, .int po, .int (nI en), .ref mso, .ref mon, .ref mot, .ref man, .int th, .int xd, .ref mst, .ref msm, .ref mtb, .ref mti, .ref mfr, .ref mbn, .ref mbs, .ref mde, .int sF, .int sN, .int sS, .int ig, .long 0, .long 1, .ref maa, .ref mab, .ref mba, .ref mbb]))] H := hP
            replace hD : va_D A [(hm, .inr (12, [.ref ms, .ref mkp, .int (nI km), .ref mtr, .int (nI n), .int (nI k), .int (nI al), .int (nI be), .int ea, .int pr, .ref mas, .int nq, .int po, .int (nI en), .ref mso, .ref mon, .ref mot, .ref man, .int th, .int xd, .ref mst, .ref msm, .ref mtb, .ref mti, .ref mfr, .ref mbn, .ref mbs, .ref mde, .int sF, .int sN, .int sS, .int ig, .long 0, .long 1, .ref maa, .ref mab, .ref mba, .ref mbb]))] := hD
            exact xretv C (⟨0, 1⟩) (by decide) hP hD hS (Nat.le_of_ble_eq_true rfl) (Nat.le_of_ble_eq_true rfl) dX12_settles_87
          · -- 28 f
            refine lv_lload hx hb dX12_settles_31 (lv_at hl 1 rfl) ?_
            refine lv_lload hx hb dX12_settles_33 (lv_at hl 0 rfl) ?_
            have hlt9 := lrem_lt (a := u9) (l_ne c_7)
            refine lv_lrem hx hb dX12_settles_35 (l_ne c_7) ?_
            refine lv_lstore (lv' := [(9, .long (u9 - u9 / v9 * v9)), (7, .long v9), (5, .long u9), (0, .ref hm), (1, .long p9), (3, .long q9)]) hx hb dX12_settles_36 hl (by decide) rfl ?_
            clear hl
            try clear ls
            intro ls hl
            refine lv_lload hx hb dX12_settles_38 (lv_at hl 1 rfl) ?_
            refine lv_lstore (lv' := [(5, .long v9), (9, .long (u9 - u9 / v9 * v9)), (7, .long v9), (0, .ref hm), (1, .long p9), (3, .long q9)]) hx hb dX12_settles_40 hl (by decide) rfl ?_
            clear hl
            try clear ls
            intro ls hl
            refine lv_lload hx hb dX12_settles_42 (lv_at hl 1 rfl) ?_
            refine lv_lstore (lv' := [(7, .long (u9 - u9 / v9 * v9)), (5, .long v9), (9, .long (u9 - u9 / v9 * v9)), (0, .ref hm), (1, .long p9), (3, .long q9)]) hx hb dX12_settles_44 hl (by decide) rfl ?_
            clear hl
            try clear ls
            intro ls hl
            refine lv_goto (tgt := 17) hx hb dX12_settles_46 (by decide) ?_
            exact ih_loop_6 (o + 1) v9 (u9 - u9 / v9 * v9) (he9.imp id (fun g => eu_step g (l_ne c_7))) (by omega) H locs ls hP hD hS (lv_sub hl [0, 1, 3, 4, 5] rfl)
    exact loop_6 _ 0 (-p9) q9 (hq.imp id eu_0) (Nat.lt_succ_self _) H locs ls hP hD hS (lv_sub hl [0, 1, 2, 3, 4] rfl)
