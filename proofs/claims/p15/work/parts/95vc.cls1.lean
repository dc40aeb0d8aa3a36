set_option maxHeartbeats 4000000 in
set_option maxRecDepth 100000 in
theorem c_X0_saying_f (l : Launch) (D : va_G) (cs : Nat → ClassId) (x y z9 : Int32) : xMet l D cs yX0_saying cX0_saying 3 (some .int) ({ frames := 0, cells := 0, slots := 0, locals := 0 } : Room) [.int x, .int y, .int z9] [] (xQi D (fun (r : Int32) (_u : Unit) => r = sayF x y z9) (fun (_u : Unit) => [])) := by
  refine xMet.intro (by decide) (Nat.le_of_ble_eq_true rfl) ?_
  intro p e s m args below meth c A ls C hP hD hS hl
  have hx := C.1
  have hb := C.2.1
  have hz := C.2.2.2.2.1
  have hown := C.2.2.2.1
  have hA := C.2.2.2.2.2.2.2.2.2
  have hAO := C.2.2.2.2.2.2.2.2.1.2.2
  replace hl : lv_has ls 3 [(0, .int x), (1, .int y), (2, .int z9)] := hl
  obtain ⟨H, hH⟩ : ∃ H, H = s.heap := ⟨_, rfl⟩
  replace hP : va_P D vwCl [] H := by rw [hH]; exact hP
  replace hS : va_S A s.heap H [] := by rw [hH]; exact hS
  obtain ⟨locs, hlocs⟩ : ∃ z : List Loc, z = [] := ⟨_, rfl⟩
  rw [← hlocs] at hS
  suffices hW : W p l e ({ frames := 0, cells := 0, slots := 0, locals := 0 } : Room) s m args below meth c H locs 0 0 (MQ below ((xQi D (fun (r : Int32) (_u : Unit) => r = sayF x y z9) (fun (_u : Unit) => [])) A) args s 0 0 A) (F0 m 0 ls []) by rw [hlocs, hH] at hW; exact hW
  clear hH hlocs
  refine lv_iload_n hx hb dX0_saying_0 rfl (lv_at hl 0 rfl) ?_
  rcases (xsw x 4 (by decide)) with ⟨k9, hk9, rfl⟩ | hout
  · -- split
    replace hP : va_P D vwCl [] H := hP
    replace hD : va_D A [] := hD
    rcases (show k9 = 0 ∨ k9 = 1 ∨ k9 = 2 ∨ k9 = 3 by omega) with rfl | rfl | rfl | rfl
    · -- k9 = 0
      replace hP : va_P D vwCl [] H := hP
      replace hD : va_D A [] := hD
      refine lv_tableIn (tgt := 32) hx hb dX0_saying_1 (by decide) (by decide) rfl (by decide) ?_
      refine lv_iload_n hx hb dX0_saying_32 rfl (lv_at hl 1 rfl) ?_
      refine lv_iconst (v := (-1)) hx hb dX0_saying_33 (by decide) ?_
      refine lv_icmp_ne (tgt := 41) hx hb dX0_saying_34 (by decide) (fun c_1 => ?_) (fun c_1 => ?_)
      · -- 34 t
        refine lv_iload_n hx hb dX0_saying_41 rfl (lv_at hl 1 rfl) ?_
        exact xreti C () (by unfold sayF; rw [if_pos rfl, if_neg c_1]) hP hD hS (Nat.le_of_ble_eq_true rfl) (Nat.le_of_ble_eq_true rfl) rfl dX0_saying_42
      · -- 34 f
        refine lv_iload_n hx hb dX0_saying_37 rfl (lv_at hl 2 rfl) ?_
        refine lv_goto (tgt := 42) hx hb dX0_saying_38 (by decide) ?_
        exact xreti C () (by unfold sayF; rw [if_pos rfl, if_pos (id c_1)]) hP hD hS (Nat.le_of_ble_eq_true rfl) (Nat.le_of_ble_eq_true rfl) rfl dX0_saying_42
    · -- k9 = 1
      replace hP : va_P D vwCl [] H := hP
      replace hD : va_D A [] := hD
      refine lv_tableIn (tgt := 43) hx hb dX0_saying_1 (by decide) (by decide) rfl (by decide) ?_
      refine lv_iconst (v := nI 0) hx hb dX0_saying_43 (by decide) ?_
      exact xreti C () (by unfold sayF; rw [if_neg (by decide), if_pos rfl]) hP hD hS (Nat.le_of_ble_eq_true rfl) (Nat.le_of_ble_eq_true rfl) rfl dX0_saying_44
    · -- k9 = 2
      replace hP : va_P D vwCl [] H := hP
      replace hD : va_D A [] := hD
      refine lv_tableIn (tgt := 45) hx hb dX0_saying_1 (by decide) (by decide) rfl (by decide) ?_
      refine lv_iconst (v := nI 1) hx hb dX0_saying_45 (by decide) ?_
      exact xreti C () (by unfold sayF; rw [if_neg (by decide), if_neg (by decide), if_pos rfl]) hP hD hS (Nat.le_of_ble_eq_true rfl) (Nat.le_of_ble_eq_true rfl) rfl dX0_saying_46
    · -- k9 = 3
      replace hP : va_P D vwCl [] H := hP
      replace hD : va_D A [] := hD
      refine lv_tableIn (tgt := 47) hx hb dX0_saying_1 (by decide) (by decide) rfl (by decide) ?_
      refine lv_iconst (v := nI 1) hx hb dX0_saying_47 (by decide) ?_
      refine lv_iload_n hx hb dX0_saying_48 rfl (lv_at hl 2 rfl) ?_
      refine lv_isub hx hb dX0_saying_49 ?_
      exact xreti C () (by unfold sayF; rw [if_neg (by decide), if_neg (by decide), if_neg (by decide), if_pos rfl]) hP hD hS (Nat.le_of_ble_eq_true rfl) (Nat.le_of_ble_eq_true rfl) rfl dX0_saying_50
  · -- split
    refine lv_tableOut (tgt := 51) hx hb dX0_saying_1 hout (by decide) ?_
    refine lv_iconst (v := (-1)) hx hb dX0_saying_51 (by decide) ?_
    exact xreti C () ((sayF_out _ _ hout).symm) hP hD hS (Nat.le_of_ble_eq_true rfl) (Nat.le_of_ble_eq_true rfl) rfl dX0_saying_52

set_option maxHeartbeats 4000000 in
set_option maxRecDepth 100000 in
theorem c_X0_hear_f (l : Launch) (D : va_G) (cs : Nat → ClassId) (ha hr hg nd kd lk vw : Nat) (z1 z2 z3 : Int32) (kf : Nat → Int32) (j : Nat) (x y : Int32) (hj : j < 8) : xMet l D cs yX0_hear cX0_hear 6 none ({ frames := 1, cells := 0, slots := 0, locals := 22 } : Room) [.ref ha, .int (nI j), .int x, .int y] [(ha, .inr (0, [.ref hr, .ref hg, .int z1, .int z2, .int z3])), (hg, .inr (4, [.ref nd, .ref kd, .ref lk, .ref vw])), (kd, .inl (cs 0, 8, .inl kf))] (xQv D (fun (u : Int32 × Int32 × Int32) => match u with | (y1, y2, y3) => y3 = (if kf j = nI 0 ∧ x = -1 then z3 ||| bitI j else z3) ∧ y1 = (if sayF (kf j) x y = nI 0 then z1 ||| bitI j else z1) ∧ y2 = (if sayF (kf j) x y = nI 1 then z2 ||| bitI j else z2)) (fun (u : Int32 × Int32 × Int32) => match u with | (y1, y2, y3) => [(ha, .inr (0, [.ref hr, .ref hg, .int y1, .int y2, .int y3])), (hg, .inr (4, [.ref nd, .ref kd, .ref lk, .ref vw])), (kd, .inl (cs 0, 8, .inl kf))])) := by
  refine xMet.intro (by decide) (Nat.le_of_ble_eq_true rfl) ?_
  intro p e s m args below meth c A ls C hP hD hS hl
  have hx := C.1
  have hb := C.2.1
  have hz := C.2.2.2.2.1
  have hown := C.2.2.2.1
  have hA := C.2.2.2.2.2.2.2.2.2
  have hAO := C.2.2.2.2.2.2.2.2.1.2.2
  replace hl : lv_has ls 6 [(0, .ref ha), (1, .int (nI j)), (2, .int x), (3, .int y)] := hl
  obtain ⟨H, hH⟩ : ∃ H, H = s.heap := ⟨_, rfl⟩
  replace hP : va_P D vwCl [(ha, .inr (0, [.ref hr, .ref hg, .int z1, .int z2, .int z3])), (hg, .inr (4, [.ref nd, .ref kd, .ref lk, .ref vw])), (kd, .inl (cs 0, 8, .inl kf))] H := by rw [hH]; exact hP
  replace hS : va_S A s.heap H [] := by rw [hH]; exact hS
  obtain ⟨locs, hlocs⟩ : ∃ z : List Loc, z = [] := ⟨_, rfl⟩
  rw [← hlocs] at hS
  suffices hW : W p l e ({ frames := 1, cells := 0, slots := 0, locals := 22 } : Room) s m args below meth c H locs 0 0 (MQ below ((xQv D (fun (u : Int32 × Int32 × Int32) => match u with | (y1, y2, y3) => y3 = (if kf j = nI 0 ∧ x = -1 then z3 ||| bitI j else z3) ∧ y1 = (if sayF (kf j) x y = nI 0 then z1 ||| bitI j else z1) ∧ y2 = (if sayF (kf j) x y = nI 1 then z2 ||| bitI j else z2)) (fun (u : Int32 × Int32 × Int32) => match u with | (y1, y2, y3) => [(ha, .inr (0, [.ref hr, .ref hg, .int y1, .int y2, .int y3])), (hg, .inr (4, [.ref nd, .ref kd, .ref lk, .ref vw])), (kd, .inl (cs 0, 8, .inl kf))])) A) args s 0 0 A) (F0 m 0 ls []) by rw [hlocs, hH] at hW; exact hW
  clear hH hlocs
  refine lv_aload_n hx hb dX0_hear_0 rfl (lv_at hl 0 rfl) ?_
  refine xget C hP 0 rfl rfl zuX0 1 (by decide) zw1_238 rfl dX0_hear_1 ?_
  refine xget C hP 1 rfl rfl zuX4 1 (by decide) zw1_173 rfl dX0_hear_4 ?_
  refine lv_iload_n hx hb dX0_hear_7 rfl (lv_at hl 1 rfl) ?_
  refine xiald C hP 2 rfl j rfl (by omega) (by decide) dX0_hear_8 ?_
  refine lv_istore (lv' := [(4, .int (kf j)), (0, .ref ha), (1, .int (nI j)), (2, .int x), (3, .int y)]) hx hb dX0_hear_9 hl (by decide) rfl ?_
  clear hl
  try clear ls
  intro ls hl
  refine lv_iload hx hb dX0_hear_11 (lv_at hl 0 rfl) ?_
  refine lv_if_ne (tgt := 33) hx hb dX0_hear_13 (by decide) (fun c_1 => ?_) (fun c_1 => ?_)
  · -- 13 t
    refine lv_iload hx hb dX0_hear_33 (lv_at hl 0 rfl) ?_
    refine lv_iload_n hx hb dX0_hear_35 rfl (lv_at hl 3 rfl) ?_
    refine lv_iload_n hx hb dX0_hear_36 rfl (lv_at hl 4 rfl) ?_
    refine xi (wr := [(ha, .inr (0, [.ref hr, .ref hg, .int z1, .int z2, .int z3])), (hg, .inr (4, [.ref nd, .ref kd, .ref lk, .ref vw])), (kd, .inl (cs 0, 8, .inl kf))]) (xS (As := [.int (kf j), .int x, .int y]) (rest := []) C (c_X0_saying_f l D cs (kf j) x y) kX0_56 hP hD [] rfl (by decide +kernel) ⟨Nat.le_of_ble_eq_true rfl, Nat.le_of_ble_eq_true rfl⟩ rfl hl.1 rfl (Nat.le_of_ble_eq_true rfl) dX0_hear_37 ⟨Nat.le_of_ble_eq_true rfl, Nat.le_of_ble_eq_true rfl⟩) hP hD hS hA [] [0, 1, 2] rfl rfl (by decide +kernel) (by decide +kernel) ?_
    clear hP hD hS
    try clear locs
    try clear H
    intro r_2 u_3 H locs hw_r_2 hP hD hS
    have hw_r_2 : r_2 = sayF (kf j) x y := hw_r_2
    refine W.widen (k := 0) (n := 0) (Nat.le_of_ble_eq_true rfl) (Nat.le_of_ble_eq_true rfl) ?_
    replace hP : va_P D vwCl [(ha, .inr (0, [.ref hr, .ref hg, .int z1, .int z2, .int z3])), (hg, .inr (4, [.ref nd, .ref kd, .ref lk, .ref vw])), (kd, .inl (cs 0, 8, .inl kf))] H := hP
    replace hD : va_D A [(ha, .inr (0, [.ref hr, .ref hg, .int z1, .int z2, .int z3])), (hg, .inr (4, [.ref nd, .ref kd, .ref lk, .ref vw])), (kd, .inl (cs 0, 8, .inl kf))] := hD
    refine lv_istore (lv' := [(5, .int r_2), (4, .int (kf j)), (0, .ref ha), (1, .int (nI j)), (2, .int x), (3, .int y)]) hx hb dX0_hear_40 hl (by decide) rfl ?_
    clear hl
    try clear ls
    intro ls hl
    refine lv_iload hx hb dX0_hear_42 (lv_at hl 0 rfl) ?_
    refine lv_if_ne (tgt := 62) hx hb dX0_hear_44 (by decide) (fun c_4 => ?_) (fun c_4 => ?_)
    · -- 44 t
      refine lv_iload hx hb dX0_hear_62 (lv_at hl 0 rfl) ?_
      refine lv_iconst (v := nI 1) hx hb dX0_hear_64 (by decide) ?_
      refine lv_icmp_ne (tgt := 80) hx hb dX0_hear_65 (by decide) (fun c_5 => ?_) (fun c_5 => ?_)
      · -- 65 t
        exact xretv C (⟨z1, z2, z3⟩) (⟨(if_neg (fun q => absurd q.1 c_1)).symm, (if_neg (fun q => absurd (hw_r_2.trans q) c_4)).symm, (if_neg (fun q => absurd (hw_r_2.trans q) c_5)).symm⟩) hP hD hS (Nat.le_of_ble_eq_true rfl) (Nat.le_of_ble_eq_true rfl) dX0_hear_80
      · -- 65 f
        refine lv_aload_n hx hb dX0_hear_68 rfl (lv_at hl 2 rfl) ?_
        refine lv_dup hx hb dX0_hear_69 rfl ?_
        refine xget C hP 0 rfl rfl zuX0 3 (by decide) zw2_1 rfl dX0_hear_70 ?_
        refine lv_iconst (v := nI 1) hx hb dX0_hear_73 (by decide) ?_
        refine lv_iload_n hx hb dX0_hear_74 rfl (lv_at hl 3 rfl) ?_
        refine lv_ishl hx hb dX0_hear_75 ?_
        refine lv_ior hx hb dX0_hear_76 ?_
        refine xput C hP hD hS 0 rfl rfl zuX0 tyX0 tyX0_ok nmX0 3 (by decide) zw2_1 rfl rfl rfl (Nat.le_of_ble_eq_true rfl) dX0_hear_77 ?_
        clear hP hD hS
        try clear locs
        try clear H
        intro H locs hP hD hS
        replace hP : va_P D vwCl [(ha, .inr (0, [.ref hr, .ref hg, .int z1, .int (z2 ||| ((nI 1) <<< ((nI j) &&& 31))), .int z3])), (hg, .inr (4, [.ref nd, .ref kd, .ref lk, .ref vw])), (kd, .inl (cs 0, 8, .inl kf))] H := hP
        replace hD : va_D A [(ha, .inr (0, [.ref hr, .ref hg, .int z1, .int (z2 ||| ((nI 1) <<< ((nI j) &&& 31))), .int z3])), (hg, .inr (4, [.ref nd, .ref kd, .ref lk, .ref vw])), (kd, .inl (cs 0, 8, .inl kf))] := hD
        exact xretv C (⟨z1, (z2 ||| ((nI 1) <<< ((nI j) &&& 31))), z3⟩) (⟨(if_neg (fun q => absurd q.1 c_1)).symm, (if_neg (fun q => absurd (hw_r_2.trans q) c_4)).symm, (if_pos (hw_r_2.symm.trans (id c_5))).symm⟩) hP hD hS (Nat.le_of_ble_eq_true rfl) (Nat.le_of_ble_eq_true rfl) dX0_hear_80
    · -- 44 f
      refine lv_aload_n hx hb dX0_hear_47 rfl (lv_at hl 2 rfl) ?_
      refine lv_dup hx hb dX0_hear_48 rfl ?_
      refine xget C hP 0 rfl rfl zuX0 2 (by decide) zw1_239 rfl dX0_hear_49 ?_
      refine lv_iconst (v := nI 1) hx hb dX0_hear_52 (by decide) ?_
      refine lv_iload_n hx hb dX0_hear_53 rfl (lv_at hl 3 rfl) ?_
      refine lv_ishl hx hb dX0_hear_54 ?_
      refine lv_ior hx hb dX0_hear_55 ?_
      refine xput C hP hD hS 0 rfl rfl zuX0 tyX0 tyX0_ok nmX0 2 (by decide) zw1_239 rfl rfl rfl (Nat.le_of_ble_eq_true rfl) dX0_hear_56 ?_
      clear hP hD hS
      try clear locs
      try clear H
      intro H locs hP hD hS
      replace hP : va_P D vwCl [(ha, .inr (0, [.ref hr, .ref hg, .int (z1 ||| ((nI 1) <<< ((nI j) &&& 31))), .int z2, .int z3])), (hg, .inr (4, [.ref nd, .ref kd, .ref lk, .ref vw])), (kd, .inl (cs 0, 8, .inl kf))] H := hP
      replace hD : va_D A [(ha, .inr (0, [.ref hr, .ref hg, .int (z1 ||| ((nI 1) <<< ((nI j) &&& 31))), .int z2, .int z3])), (hg, .inr (4, [.ref nd, .ref kd, .ref lk, .ref vw])), (kd, .inl (cs 0, 8, .inl kf))] := hD
      refine lv_goto (tgt := 80) hx hb dX0_hear_59 (by decide) ?_
      exact xretv C (⟨(z1 ||| ((nI 1) <<< ((nI j) &&& 31))), z2, z3⟩) (⟨(if_neg (fun q => absurd q.1 c_1)).symm, (if_pos (hw_r_2.symm.trans (id c_4))).symm, (if_neg (fun q => absurd ((hw_r_2.symm.trans (id c_4)).symm.trans q) (by decide))).symm⟩) hP hD hS (Nat.le_of_ble_eq_true rfl) (Nat.le_of_ble_eq_true rfl) dX0_hear_80
  · -- 13 f
    refine lv_iload_n hx hb dX0_hear_16 rfl (lv_at hl 3 rfl) ?_
    refine lv_iconst (v := (-1)) hx hb dX0_hear_17 (by decide) ?_
    refine lv_icmp_ne (tgt := 33) hx hb dX0_hear_18 (by decide) (fun c_6 => ?_) (fun c_6 => ?_)
    · -- 18 t
      refine lv_iload hx hb dX0_hear_33 (lv_at hl 0 rfl) ?_
      refine lv_iload_n hx hb dX0_hear_35 rfl (lv_at hl 3 rfl) ?_
      refine lv_iload_n hx hb dX0_hear_36 rfl (lv_at hl 4 rfl) ?_
      refine xi (wr := [(ha, .inr (0, [.ref hr, .ref hg, .int z1, .int z2, .int z3])), (hg, .inr (4, [.ref nd, .ref kd, .ref lk, .ref vw])), (kd, .inl (cs 0, 8, .inl kf))]) (xS (As := [.int (kf j), .int x, .int y]) (rest := []) C (c_X0_saying_f l D cs (kf j) x y) kX0_56 hP hD [] rfl (by decide +kernel) ⟨Nat.le_of_ble_eq_true rfl, Nat.le_of_ble_eq_true rfl⟩ rfl hl.1 rfl (Nat.le_of_ble_eq_true rfl) dX0_hear_37 ⟨Nat.le_of_ble_eq_true rfl, Nat.le_of_ble_eq_true rfl⟩) hP hD hS hA [] [0, 1, 2] rfl rfl (by decide +kernel) (by decide +kernel) ?_
      clear hP hD hS
      try clear locs
      try clear H
      intro r_7 u_8 H locs hw_r_7 hP hD hS
      have hw_r_7 : r_7 = sayF (kf j) x y := hw_r_7
      refine W.widen (k := 0) (n := 0) (Nat.le_of_ble_eq_true rfl) (Nat.le_of_ble_eq_true rfl) ?_
      replace hP : va_P D vwCl [(ha, .inr (0, [.ref hr, .ref hg, .int z1, .int z2, .int z3])), (hg, .inr (4, [.ref nd, .ref kd, .ref lk, .ref vw])), (kd, .inl (cs 0, 8, .inl kf))] H := hP
      replace hD : va_D A [(ha, .inr (0, [.ref hr, .ref hg, .int z1, .int z2, .int z3])), (hg, .inr (4, [.ref nd, .ref kd, .ref lk, .ref vw])), (kd, .inl (cs 0, 8, .inl kf))] := hD
      refine lv_istore (lv' := [(5, .int r_7), (4, .int (kf j)), (0, .ref ha), (1, .int (nI j)), (2, .int x), (3, .int y)]) hx hb dX0_hear_40 hl (by decide) rfl ?_
      clear hl
      try clear ls
      intro ls hl
      refine lv_iload hx hb dX0_hear_42 (lv_at hl 0 rfl) ?_
      refine lv_if_ne (tgt := 62) hx hb dX0_hear_44 (by decide) (fun c_9 => ?_) (fun c_9 => ?_)
      · -- 44 t
        refine lv_iload hx hb dX0_hear_62 (lv_at hl 0 rfl) ?_
        refine lv_iconst (v := nI 1) hx hb dX0_hear_64 (by decide) ?_
        refine lv_icmp_ne (tgt := 80) hx hb dX0_hear_65 (by decide) (fun c_10 => ?_) (fun c_10 => ?_)
        · -- 65 t
          exact xretv C (⟨z1, z2, z3⟩) (⟨(if_neg (fun q => absurd q.2 c_6)).symm, (if_neg (fun q => absurd (hw_r_7.trans q) c_9)).symm, (if_neg (fun q => absurd (hw_r_7.trans q) c_10)).symm⟩) hP hD hS (Nat.le_of_ble_eq_true rfl) (Nat.le_of_ble_eq_true rfl) dX0_hear_80
        · -- 65 f
          refine lv_aload_n hx hb dX0_hear_68 rfl (lv_at hl 2 rfl) ?_
          refine lv_dup hx hb dX0_hear_69 rfl ?_
          refine xget C hP 0 rfl rfl zuX0 3 (by decide) zw2_1 rfl dX0_hear_70 ?_
          refine lv_iconst (v := nI 1) hx hb dX0_hear_73 (by decide) ?_
          refine lv_iload_n hx hb dX0_hear_74 rfl (lv_at hl 3 rfl) ?_
          refine lv_ishl hx hb dX0_hear_75 ?_
          refine lv_ior hx hb dX0_hear_76 ?_
          refine xput C hP hD hS 0 rfl rfl zuX0 tyX0 tyX0_ok nmX0 3 (by decide) zw2_1 rfl rfl rfl (Nat.le_of_ble_eq_true rfl) dX0_hear_77 ?_
          clear hP hD hS
          try clear locs
          try clear H
          intro H locs hP hD hS
          replace hP : va_P D vwCl [(ha, .inr (0, [.ref hr, .ref hg, .int z1, .int (z2 ||| ((nI 1) <<< ((nI j) &&& 31))), .int z3])), (hg, .inr (4, [.ref nd, .ref kd, .ref lk, .ref vw])), (kd, .inl (cs 0, 8, .inl kf))] H := hP
          replace hD : va_D A [(ha, .inr (0, [.ref hr, .ref hg, .int z1, .int (z2 ||| ((nI 1) <<< ((nI j) &&& 31))), .int z3])), (hg, .inr (4, [.ref nd, .ref kd, .ref lk, .ref vw])), (kd, .inl (cs 0, 8, .inl kf))] := hD
          exact xretv C (⟨z1, (z2 ||| ((nI 1) <<< ((nI j) &&& 31))), z3⟩) (⟨(if_neg (fun q => absurd q.2 c_6)).symm, (if_neg (fun q => absurd (hw_r_7.trans q) c_9)).symm, (if_pos (hw_r_7.symm.trans (id c_10))).symm⟩) hP hD hS (Nat.le_of_ble_eq_true rfl) (Nat.le_of_ble_eq_true rfl) dX0_hear_80
      · -- 44 f
        refine lv_aload_n hx hb dX0_hear_47 rfl (lv_at hl 2 rfl) ?_
        refine lv_dup hx hb dX0_hear_48 rfl ?_
        refine xget C hP 0 rfl rfl zuX0 2 (by decide) zw1_239 rfl dX0_hear_49 ?_
        refine lv_iconst (v := nI 1) hx hb dX0_hear_52 (by decide) ?_
        refine lv_iload_n hx hb dX0_hear_53 rfl (lv_at hl 3 rfl) ?_
        refine lv_ishl hx hb dX0_hear_54 ?_
        refine lv_ior hx hb dX0_hear_55 ?_
        refine xput C hP hD hS 0 rfl rfl zuX0 tyX0 tyX0_ok nmX0 2 (by decide) zw1_239 rfl rfl rfl (Nat.le_of_ble_eq_true rfl) dX0_hear_56 ?_
        clear hP hD hS
        try clear locs
        try clear H
        intro H locs hP hD hS
        replace hP : va_P D vwCl [(ha, .inr (0, [.ref hr, .ref hg, .int (z1 ||| ((nI 1) <<< ((nI j) &&& 31))), .int z2, .int z3])), (hg, .inr (4, [.ref nd, .ref kd, .ref lk, .ref vw])), (kd, .inl (cs 0, 8, .inl kf))] H := hP
        replace hD : va_D A [(ha, .inr (0, [.ref hr, .ref hg, .int (z1 ||| ((nI 1) <<< ((nI j) &&& 31))), .int z2, .int z3])), (hg, .inr (4, [.ref nd, .ref kd, .ref lk, .ref vw])), (kd, .inl (cs 0, 8, .inl kf))] := hD
        refine lv_goto (tgt := 80) hx hb dX0_hear_59 (by decide) ?_
        exact xretv C (⟨(z1 ||| ((nI 1) <<< ((nI j) &&& 31))), z2, z3⟩) (⟨(if_neg (fun q => absurd q.2 c_6)).symm, (if_pos (hw_r_7.symm.trans (id c_9))).symm, (if_neg (fun q => absurd ((hw_r_7.symm.trans (id c_9)).symm.trans q) (by decide))).symm⟩) hP hD hS (Nat.le_of_ble_eq_true rfl) (Nat.le_of_ble_eq_true rfl) dX0_hear_80
    · -- 18 f
      refine lv_aload_n hx hb dX0_hear_21 rfl (lv_at hl 1 rfl) ?_
      refine lv_dup hx hb dX0_hear_22 rfl ?_
      refine xget C hP 0 rfl rfl zuX0 4 (by decide) zw2_3 rfl dX0_hear_23 ?_
      refine lv_iconst (v := nI 1) hx hb dX0_hear_26 (by decide) ?_
      refine lv_iload_n hx hb dX0_hear_27 rfl (lv_at hl 2 rfl) ?_
      refine lv_ishl hx hb dX0_hear_28 ?_
      refine lv_ior hx hb dX0_hear_29 ?_
      refine xput C hP hD hS 0 rfl rfl zuX0 tyX0 tyX0_ok nmX0 4 (by decide) zw2_3 rfl rfl rfl (Nat.le_of_ble_eq_true rfl) dX0_hear_30 ?_
      clear hP hD hS
      try clear locs
      try clear H
      intro H locs hP hD hS
      replace hP : va_P D vwCl [(ha, .inr (0, [.ref hr, .ref hg, .int z1, .int z2, .int (z3 ||| ((nI 1) <<< ((nI j) &&& 31)))])), (hg, .inr (4, [.ref nd, .ref kd, .ref lk, .ref vw])), (kd, .inl (cs 0, 8, .inl kf))] H := hP
      replace hD : va_D A [(ha, .inr (0, [.ref hr, .ref hg, .int z1, .int z2, .int (z3 ||| ((nI 1) <<< ((nI j) &&& 31)))])), (hg, .inr (4, [.ref nd, .ref kd, .ref lk, .ref vw])), (kd, .inl (cs 0, 8, .inl kf))] := hD
      refine lv_iload hx hb dX0_hear_33 (lv_at hl 0 rfl) ?_
      refine lv_iload_n hx hb dX0_hear_35 rfl (lv_at hl 3 rfl) ?_
      refine lv_iload_n hx hb dX0_hear_36 rfl (lv_at hl 4 rfl) ?_
      refine xi (wr := [(ha, .inr (0, [.ref hr, .ref hg, .int z1, .int z2, .int (z3 ||| ((nI 1) <<< ((nI j) &&& 31)))])), (hg, .inr (4, [.ref nd, .ref kd, .ref lk, .ref vw])), (kd, .inl (cs 0, 8, .inl kf))]) (xS (As := [.int (kf j), .int x, .int y]) (rest := []) C (c_X0_saying_f l D cs (kf j) x y) kX0_56 hP hD [] rfl (by decide +kernel) ⟨Nat.le_of_ble_eq_true rfl, Nat.le_of_ble_eq_true rfl⟩ rfl hl.1 rfl (Nat.le_of_ble_eq_true rfl) dX0_hear_37 ⟨Nat.le_of_ble_eq_true rfl, Nat.le_of_ble_eq_true rfl⟩) hP hD hS hA [] [0, 1, 2] rfl rfl (by decide +kernel) (by decide +kernel) ?_
      clear hP hD hS
      try clear locs
      try clear H
      intro r_11 u_12 H locs hw_r_11 hP hD hS
      have hw_r_11 : r_11 = sayF (kf j) x y := hw_r_11
      refine W.widen (k := 0) (n := 0) (Nat.le_of_ble_eq_true rfl) (Nat.le_of_ble_eq_true rfl) ?_
      replace hP : va_P D vwCl [(ha, .inr (0, [.ref hr, .ref hg, .int z1, .int z2, .int (z3 ||| ((nI 1) <<< ((nI j) &&& 31)))])), (hg, .inr (4, [.ref nd, .ref kd, .ref lk, .ref vw])), (kd, .inl (cs 0, 8, .inl kf))] H := hP
      replace hD : va_D A [(ha, .inr (0, [.ref hr, .ref hg, .int z1, .int z2, .int (z3 ||| ((nI 1) <<< ((nI j) &&& 31)))])), (hg, .inr (4, [.ref nd, .ref kd, .ref lk, .ref vw])), (kd, .inl (cs 0, 8, .inl kf))] := hD
      refine lv_istore (lv' := [(5, .int r_11), (4, .int (kf j)), (0, .ref ha), (1, .int (nI j)), (2, .int x), (3, .int y)]) hx hb dX0_hear_40 hl (by decide) rfl ?_
      clear hl
      try clear ls
      intro ls hl
      refine lv_iload hx hb dX0_hear_42 (lv_at hl 0 rfl) ?_
      refine lv_if_ne (tgt := 62) hx hb dX0_hear_44 (by decide) (fun c_13 => ?_) (fun c_13 => ?_)
      · -- 44 t
        refine lv_iload hx hb dX0_hear_62 (lv_at hl 0 rfl) ?_
        refine lv_iconst (v := nI 1) hx hb dX0_hear_64 (by decide) ?_
        refine lv_icmp_ne (tgt := 80) hx hb dX0_hear_65 (by decide) (fun c_14 => ?_) (fun c_14 => ?_)
        · -- 65 t
          exact xretv C (⟨z1, z2, (z3 ||| ((nI 1) <<< ((nI j) &&& 31)))⟩) (⟨(if_pos ⟨id c_1, id c_6⟩).symm, (if_neg (fun q => absurd (hw_r_11.trans q) c_13)).symm, (if_neg (fun q => absurd (hw_r_11.trans q) c_14)).symm⟩) hP hD hS (Nat.le_of_ble_eq_true rfl) (Nat.le_of_ble_eq_true rfl) dX0_hear_80
        · -- 65 f
          refine lv_aload_n hx hb dX0_hear_68 rfl (lv_at hl 2 rfl) ?_
          refine lv_dup hx hb dX0_hear_69 rfl ?_
          refine xget C hP 0 rfl rfl zuX0 3 (by decide) zw2_1 rfl dX0_hear_70 ?_
          refine lv_iconst (v := nI 1) hx hb dX0_hear_73 (by decide) ?_
          refine lv_iload_n hx hb dX0_hear_74 rfl (lv_at hl 3 rfl) ?_
          refine lv_ishl hx hb dX0_hear_75 ?_
          refine lv_ior hx hb dX0_hear_76 ?_
          refine xput C hP hD hS 0 rfl rfl zuX0 tyX0 tyX0_ok nmX0 3 (by decide) zw2_1 rfl rfl rfl (Nat.le_of_ble_eq_true rfl) dX0_hear_77 ?_
          clear hP hD hS
          try clear locs
          try clear H
          intro H locs hP hD hS
          replace hP : va_P D vwCl [(ha, .inr (0, [.ref hr, .ref hg, .int z1, .int (z2 ||| ((nI 1) <<< ((nI j) &&& 31))), .int (z3 ||| ((nI 1) <<< ((nI j) &&& 31)))])), (hg, .inr (4, [.ref nd, .ref kd, .ref lk, .ref vw])), (kd, .inl (cs 0, 8, .inl kf))] H := hP
          replace hD : va_D A [(ha, .inr (0, [.ref hr, .ref hg, .int z1, .int (z2 ||| ((nI 1) <<< ((nI j) &&& 31))), .int (z3 ||| ((nI 1) <<< ((nI j) &&& 31)))])), (hg, .inr (4, [.ref nd, .ref kd, .ref lk, .ref vw])), (kd, .inl (cs 0, 8, .inl kf))] := hD
          exact xretv C (⟨z1, (z2 ||| ((nI 1) <<< ((nI j) &&& 31))), (z3 ||| ((nI 1) <<< ((nI j) &&& 31)))⟩) (⟨(if_pos ⟨id c_1, id c_6⟩).symm, (if_neg (fun q => absurd (hw_r_11.trans q) c_13)).symm, (if_pos (hw_r_11.symm.trans (id c_14))).symm⟩) hP hD hS (Nat.le_of_ble_eq_true rfl) (Nat.le_of_ble_eq_true rfl) dX0_hear_80
      · -- 44 f
        refine lv_aload_n hx hb dX0_hear_47 rfl (lv_at hl 2 rfl) ?_
        refine lv_dup hx hb dX0_hear_48 rfl ?_
        refine xget C hP 0 rfl rfl zuX0 2 (by decide) zw1_239 rfl dX0_hear_49 ?_
        refine lv_iconst (v := nI 1) hx hb dX0_hear_52 (by decide) ?_
        refine lv_iload_n hx hb dX0_hear_53 rfl (lv_at hl 3 rfl) ?_
        refine lv_ishl hx hb dX0_hear_54 ?_
        refine lv_ior hx hb dX0_hear_55 ?_
        refine xput C hP hD hS 0 rfl rfl zuX0 tyX0 tyX0_ok nmX0 2 (by decide) zw1_239 rfl rfl rfl (Nat.le_of_ble_eq_true rfl) dX0_hear_56 ?_
        clear hP hD hS
        try clear locs
        try clear H
        intro H locs hP hD hS
        replace hP : va_P D vwCl [(ha, .inr (0, [.ref hr, .ref hg, .int (z1 ||| ((nI 1) <<< ((nI j) &&& 31))), .int z2, .int (z3 ||| ((nI 1) <<< ((nI j) &&& 31)))])), (hg, .inr (4, [.ref nd, .ref kd, .ref lk, .ref vw])), (kd, .inl (cs 0, 8, .inl kf))] H := hP
        replace hD : va_D A [(ha, .inr (0, [.ref hr, .ref hg, .int (z1 ||| ((nI 1) <<< ((nI j) &&& 31))), .int z2, .int (z3 ||| ((nI 1) <<< ((nI j) &&& 31)))])), (hg, .inr (4, [.ref nd, .ref kd, .ref lk, .ref vw])), (kd, .inl (cs 0, 8, .inl kf))] := hD
        refine lv_goto (tgt := 80) hx hb dX0_hear_59 (by decide) ?_
        exact xretv C (⟨(z1 ||| ((nI 1) <<< ((nI j) &&& 31))), z2, (z3 ||| ((nI 1) <<< ((nI j) &&& 31)))⟩) (⟨(if_pos ⟨id c_1, id c_6⟩).symm, (if_pos (hw_r_11.symm.trans (id c_13))).symm, (if_neg (fun q => absurd ((hw_r_11.symm.trans (id c_13)).symm.trans q) (by decide))).symm⟩) hP hD hS (Nat.le_of_ble_eq_true rfl) (Nat.le_of_ble_eq_true rfl) dX0_hear_80

set_option maxHeartbeats 4000000 in
set_option maxRecDepth 100000 in
theorem c_X0_listen_f (l : Launch) (D : va_G) (cs : Nat → ClassId) (ha hg : Nat) (hr sm ca n k al be se : Nat) (ea pr : Int32) (z1 z2 z3 : Int32) (nd kd lk vw : Nat) (kf : Nat → Int32) (lf : Nat → Int32) (a nn b i : Nat) (f : Nat → Int32) (hn : n ≤ 8) (hi : i < 8) (hb : b + 8 ≤ nn) (hnn : nn < 2 ^ 20) : xMet l D cs yX0_listen cX0_listen 7 (some .boolean) ({ frames := 2, cells := 0, slots := 0, locals := 47 } : Room) [.ref ha, .ref a, .int (nI b), .int (nI i)] [(ha, .inr (0, [.ref hr, .ref hg, .int z1, .int z2, .int z3])), (hr, .inr (7, [.int (nI n), .int (nI k), .int (nI al), .int (nI be), .int ea, .int pr, .ref sm, .int (nI se), .ref ca])), (hg, .inr (4, [.ref nd, .ref kd, .ref lk, .ref vw])), (kd, .inl (cs 0, 8, .inl kf)), (lk, .inl (cs 0, 8, .inl lf)), (a, .inl (cs 0, nn, .inl f))] (xQi D (fun (r : Int32) (u : Int32 × Int32 × Int32) => match u with | (y1, y2, y3) => ((r = nI 1 ∧ (kf i = nI 0 ∧ f (b + i) &&& dcM = 0 ∧ ¬ colF (f (b + i)) = -1)) ∨ (r = nI 0 ∧ ¬ (kf i = nI 0 ∧ f (b + i) &&& dcM = 0 ∧ ¬ colF (f (b + i)) = -1))) ∧ (r = nI 1 → lisI n i lf kf f b y1 y2 y3)) (fun (u : Int32 × Int32 × Int32) => match u with | (y1, y2, y3) => [(ha, .inr (0, [.ref hr, .ref hg, .int y1, .int y2, .int y3])), (hr, .inr (7, [.int (nI n), .int (nI k), .int (nI al), .int (nI be), .int ea, .int pr, .ref sm, .int (nI se), .ref ca])), (hg, .inr (4, [.ref nd, .ref kd, .ref lk, .ref vw])), (kd, .inl (cs 0, 8, .inl kf)), (lk, .inl (cs 0, 8, .inl lf)), (a, .inl (cs 0, nn, .inl f))])) := by
  refine xMet.intro (by decide) (Nat.le_of_ble_eq_true rfl) ?_
  intro p e s m args below meth c A ls C hP hD hS hl
  have hx := C.1
  have hb := C.2.1
  have hz := C.2.2.2.2.1
  have hown := C.2.2.2.1
  have hA := C.2.2.2.2.2.2.2.2.2
  have hAO := C.2.2.2.2.2.2.2.2.1.2.2
  replace hl : lv_has ls 7 [(0, .ref ha), (1, .ref a), (2, .int (nI b)), (3, .int (nI i))] := hl
  obtain ⟨H, hH⟩ : ∃ H, H = s.heap := ⟨_, rfl⟩
  replace hP : va_P D vwCl [(ha, .inr (0, [.ref hr, .ref hg, .int z1, .int z2, .int z3])), (hr, .inr (7, [.int (nI n), .int (nI k), .int (nI al), .int (nI be), .int ea, .int pr, .ref sm, .int (nI se), .ref ca])), (hg, .inr (4, [.ref nd, .ref kd, .ref lk, .ref vw])), (kd, .inl (cs 0, 8, .inl kf)), (lk, .inl (cs 0, 8, .inl lf)), (a, .inl (cs 0, nn, .inl f))] H := by rw [hH]; exact hP
  replace hS : va_S A s.heap H [] := by rw [hH]; exact hS
  obtain ⟨locs, hlocs⟩ : ∃ z : List Loc, z = [] := ⟨_, rfl⟩
  rw [← hlocs] at hS
  suffices hW : W p l e ({ frames := 2, cells := 0, slots := 0, locals := 47 } : Room) s m args below meth c H locs 0 0 (MQ below ((xQi D (fun (r : Int32) (u : Int32 × Int32 × Int32) => match u with | (y1, y2, y3) => ((r = nI 1 ∧ (kf i = nI 0 ∧ f (b + i) &&& dcM = 0 ∧ ¬ colF (f (b + i)) = -1)) ∨ (r = nI 0 ∧ ¬ (kf i = nI 0 ∧ f (b + i) &&& dcM = 0 ∧ ¬ colF (f (b + i)) = -1))) ∧ (r = nI 1 → lisI n i lf kf f b y1 y2 y3)) (fun (u : Int32 × Int32 × Int32) => match u with | (y1, y2, y3) => [(ha, .inr (0, [.ref hr, .ref hg, .int y1, .int y2, .int y3])), (hr, .inr (7, [.int (nI n), .int (nI k), .int (nI al), .int (nI be), .int ea, .int pr, .ref sm, .int (nI se), .ref ca])), (hg, .inr (4, [.ref nd, .ref kd, .ref lk, .ref vw])), (kd, .inl (cs 0, 8, .inl kf)), (lk, .inl (cs 0, 8, .inl lf)), (a, .inl (cs 0, nn, .inl f))])) A) args s 0 0 A) (F0 m 0 ls []) by rw [hlocs, hH] at hW; exact hW
  clear hH hlocs
  refine lv_aload_n hx hb dX0_listen_0 rfl (lv_at hl 0 rfl) ?_
  refine lv_iconst (v := nI 0) hx hb dX0_listen_1 (by decide) ?_
  refine xput C hP hD hS 0 rfl rfl zuX0 tyX0 tyX0_ok nmX0 2 (by decide) zw1_239 rfl rfl rfl (Nat.le_of_ble_eq_true rfl) dX0_listen_2 ?_
  clear hP hD hS
  try clear locs
  try clear H
  intro H locs hP hD hS
  replace hP : va_P D vwCl [(ha, .inr (0, [.ref hr, .ref hg, .int (nI 0), .int z2, .int z3])), (hr, .inr (7, [.int (nI n), .int (nI k), .int (nI al), .int (nI be), .int ea, .int pr, .ref sm, .int (nI se), .ref ca])), (hg, .inr (4, [.ref nd, .ref kd, .ref lk, .ref vw])), (kd, .inl (cs 0, 8, .inl kf)), (lk, .inl (cs 0, 8, .inl lf)), (a, .inl (cs 0, nn, .inl f))] H := hP
  replace hD : va_D A [(ha, .inr (0, [.ref hr, .ref hg, .int (nI 0), .int z2, .int z3])), (hr, .inr (7, [.int (nI n), .int (nI k), .int (nI al), .int (nI be), .int ea, .int pr, .ref sm, .int (nI se), .ref ca])), (hg, .inr (4, [.ref nd, .ref kd, .ref lk, .ref vw])), (kd, .inl (cs 0, 8, .inl kf)), (lk, .inl (cs 0, 8, .inl lf)), (a, .inl (cs 0, nn, .inl f))] := hD
  refine lv_aload_n hx hb dX0_listen_5 rfl (lv_at hl 0 rfl) ?_
  refine lv_iconst (v := nI 0) hx hb dX0_listen_6 (by decide) ?_
  refine xput C hP hD hS 0 rfl rfl zuX0 tyX0 tyX0_ok nmX0 3 (by decide) zw2_1 rfl rfl rfl (Nat.le_of_ble_eq_true rfl) dX0_listen_7 ?_
  clear hP hD hS
  try clear locs
  try clear H
  intro H locs hP hD hS
  replace hP : va_P D vwCl [(ha, .inr (0, [.ref hr, .ref hg, .int (nI 0), .int (nI 0), .int z3])), (hr, .inr (7, [.int (nI n), .int (nI k), .int (nI al), .int (nI be), .int ea, .int pr, .ref sm, .int (nI se), .ref ca])), (hg, .inr (4, [.ref nd, .ref kd, .ref lk, .ref vw])), (kd, .inl (cs 0, 8, .inl kf)), (lk, .inl (cs 0, 8, .inl lf)), (a, .inl (cs 0, nn, .inl f))] H := hP
  replace hD : va_D A [(ha, .inr (0, [.ref hr, .ref hg, .int (nI 0), .int (nI 0), .int z3])), (hr, .inr (7, [.int (nI n), .int (nI k), .int (nI al), .int (nI be), .int ea, .int pr, .ref sm, .int (nI se), .ref ca])), (hg, .inr (4, [.ref nd, .ref kd, .ref lk, .ref vw])), (kd, .inl (cs 0, 8, .inl kf)), (lk, .inl (cs 0, 8, .inl lf)), (a, .inl (cs 0, nn, .inl f))] := hD
  refine lv_aload_n hx hb dX0_listen_10 rfl (lv_at hl 0 rfl) ?_
  refine lv_iconst (v := nI 0) hx hb dX0_listen_11 (by decide) ?_
  refine xput C hP hD hS 0 rfl rfl zuX0 tyX0 tyX0_ok nmX0 4 (by decide) zw2_3 rfl rfl rfl (Nat.le_of_ble_eq_true rfl) dX0_listen_12 ?_
  clear hP hD hS
  try clear locs
  try clear H
  intro H locs hP hD hS
  replace hP : va_P D vwCl [(ha, .inr (0, [.ref hr, .ref hg, .int (nI 0), .int (nI 0), .int (nI 0)])), (hr, .inr (7, [.int (nI n), .int (nI k), .int (nI al), .int (nI be), .int ea, .int pr, .ref sm, .int (nI se), .ref ca])), (hg, .inr (4, [.ref nd, .ref kd, .ref lk, .ref vw])), (kd, .inl (cs 0, 8, .inl kf)), (lk, .inl (cs 0, 8, .inl lf)), (a, .inl (cs 0, nn, .inl f))] H := hP
  replace hD : va_D A [(ha, .inr (0, [.ref hr, .ref hg, .int (nI 0), .int (nI 0), .int (nI 0)])), (hr, .inr (7, [.int (nI n), .int (nI k), .int (nI al), .int (nI be), .int ea, .int pr, .ref sm, .int (nI se), .ref ca])), (hg, .inr (4, [.ref nd, .ref kd, .ref lk, .ref vw])), (kd, .inl (cs 0, 8, .inl kf)), (lk, .inl (cs 0, 8, .inl lf)), (a, .inl (cs 0, nn, .inl f))] := hD
  refine lv_aload_n hx hb dX0_listen_15 rfl (lv_at hl 1 rfl) ?_
  refine lv_iload_n hx hb dX0_listen_16 rfl (lv_at hl 2 rfl) ?_
  refine lv_iload_n hx hb dX0_listen_17 rfl (lv_at hl 3 rfl) ?_
  refine lv_iadd hx hb dX0_listen_18 ?_
  refine lv_topi (nm_r (e' := nI (b + i)) (nI_add _ _) ?_)
  refine xiald C hP 5 rfl (b + i) rfl (by omega) (by omega) dX0_listen_19 ?_
  refine lv_istore (lv' := [(4, .int (f (b + i))), (0, .ref ha), (1, .ref a), (2, .int (nI b)), (3, .int (nI i))]) hx hb dX0_listen_20 hl (by decide) rfl ?_
  clear hl
  try clear ls
  intro ls hl
  refine lv_iload hx hb dX0_listen_22 (lv_at hl 0 rfl) ?_
  refine xi (wr := [(ha, .inr (0, [.ref hr, .ref hg, .int (nI 0), .int (nI 0), .int (nI 0)])), (hr, .inr (7, [.int (nI n), .int (nI k), .int (nI al), .int (nI be), .int ea, .int pr, .ref sm, .int (nI se), .ref ca])), (hg, .inr (4, [.ref nd, .ref kd, .ref lk, .ref vw])), (kd, .inl (cs 0, 8, .inl kf)), (lk, .inl (cs 0, 8, .inl lf)), (a, .inl (cs 0, nn, .inl f))]) (xS (As := [.int (f (b + i))]) (rest := []) C (c_X4_colourOf l D cs (f (b + i))) kX0_29 hP hD [] rfl (by decide +kernel) ⟨Nat.le_of_ble_eq_true rfl, Nat.le_of_ble_eq_true rfl⟩ rfl hl.1 rfl (Nat.le_of_ble_eq_true rfl) dX0_listen_24 ⟨Nat.le_of_ble_eq_true rfl, Nat.le_of_ble_eq_true rfl⟩) hP hD hS hA [] [0, 1, 2, 3, 4, 5] rfl rfl (by decide +kernel) (by decide +kernel) ?_
  clear hP hD hS
  try clear locs
  try clear H
  intro r_1 u_2 H locs hw_r_1 hP hD hS
  have hw_r_1 : r_1 = ((f (b + i)) &&& nI 3) - nI 1 := hw_r_1
  refine W.widen (k := 0) (n := 0) (Nat.le_of_ble_eq_true rfl) (Nat.le_of_ble_eq_true rfl) ?_
  replace hP : va_P D vwCl [(ha, .inr (0, [.ref hr, .ref hg, .int (nI 0), .int (nI 0), .int (nI 0)])), (hr, .inr (7, [.int (nI n), .int (nI k), .int (nI al), .int (nI be), .int ea, .int pr, .ref sm, .int (nI se), .ref ca])), (hg, .inr (4, [.ref nd, .ref kd, .ref lk, .ref vw])), (kd, .inl (cs 0, 8, .inl kf)), (lk, .inl (cs 0, 8, .inl lf)), (a, .inl (cs 0, nn, .inl f))] H := hP
  replace hD : va_D A [(ha, .inr (0, [.ref hr, .ref hg, .int (nI 0), .int (nI 0), .int (nI 0)])), (hr, .inr (7, [.int (nI n), .int (nI k), .int (nI al), .int (nI be), .int ea, .int pr, .ref sm, .int (nI se), .ref ca])), (hg, .inr (4, [.ref nd, .ref kd, .ref lk, .ref vw])), (kd, .inl (cs 0, 8, .inl kf)), (lk, .inl (cs 0, 8, .inl lf)), (a, .inl (cs 0, nn, .inl f))] := hD
  obtain rfl : r_1 = colF (f (b + i)) := hw_r_1
  refine lv_istore (lv' := [(5, .int (colF (f (b + i)))), (4, .int (f (b + i))), (0, .ref ha), (1, .ref a), (2, .int (nI b)), (3, .int (nI i))]) hx hb dX0_listen_27 hl (by decide) rfl ?_
  clear hl
  try clear ls
  intro ls hl
  refine lv_aload_n hx hb dX0_listen_29 rfl (lv_at hl 2 rfl) ?_
  refine xget C hP 0 rfl rfl zuX0 1 (by decide) zw1_238 rfl dX0_listen_30 ?_
  refine xget C hP 2 rfl rfl zuX4 1 (by decide) zw1_173 rfl dX0_listen_33 ?_
  refine lv_iload_n hx hb dX0_listen_36 rfl (lv_at hl 5 rfl) ?_
  refine xiald C hP 3 rfl i rfl (by omega) (by decide) dX0_listen_37 ?_
  refine lv_if_ne (tgt := 55) hx hb dX0_listen_38 (by decide) (fun c_3 => ?_) (fun c_3 => ?_)
  · -- 38 t
    refine lv_iconst (v := nI 0) hx hb dX0_listen_55 (by decide) ?_
    exact xreti C (⟨(nI 0), (nI 0), (nI 0)⟩) (⟨Or.inr ⟨rfl, fun q => absurd q.1 c_3⟩, fun q => absurd q (by decide)⟩) hP hD hS (Nat.le_of_ble_eq_true rfl) (Nat.le_of_ble_eq_true rfl) (by decide) dX0_listen_56
  · -- 38 f
    refine lv_iload hx hb dX0_listen_41 (lv_at hl 1 rfl) ?_
    refine xi (wr := [(ha, .inr (0, [.ref hr, .ref hg, .int (nI 0), .int (nI 0), .int (nI 0)])), (hr, .inr (7, [.int (nI n), .int (nI k), .int (nI al), .int (nI be), .int ea, .int pr, .ref sm, .int (nI se), .ref ca])), (hg, .inr (4, [.ref nd, .ref kd, .ref lk, .ref vw])), (kd, .inl (cs 0, 8, .inl kf)), (lk, .inl (cs 0, 8, .inl lf)), (a, .inl (cs 0, nn, .inl f))]) (xS (As := [.int (f (b + i))]) (rest := []) C (c_X4_isDecided l D cs (f (b + i))) kX0_39 hP hD [] rfl (by decide +kernel) ⟨Nat.le_of_ble_eq_true rfl, Nat.le_of_ble_eq_true rfl⟩ rfl hl.1 rfl (Nat.le_of_ble_eq_true rfl) dX0_listen_43 ⟨Nat.le_of_ble_eq_true rfl, Nat.le_of_ble_eq_true rfl⟩) hP hD hS hA [] [0, 1, 2, 3, 4, 5] rfl rfl (by decide +kernel) (by decide +kernel) ?_
    clear hP hD hS
    try clear locs
    try clear H
    intro r_4 u_5 H locs hw_r_4 hP hD hS
    have hw_r_4 : r_4 = if (f (b + i)) &&& nI 268435456 = 0 then nI 0 else nI 1 := hw_r_4
    refine W.widen (k := 0) (n := 0) (Nat.le_of_ble_eq_true rfl) (Nat.le_of_ble_eq_true rfl) ?_
    replace hP : va_P D vwCl [(ha, .inr (0, [.ref hr, .ref hg, .int (nI 0), .int (nI 0), .int (nI 0)])), (hr, .inr (7, [.int (nI n), .int (nI k), .int (nI al), .int (nI be), .int ea, .int pr, .ref sm, .int (nI se), .ref ca])), (hg, .inr (4, [.ref nd, .ref kd, .ref lk, .ref vw])), (kd, .inl (cs 0, 8, .inl kf)), (lk, .inl (cs 0, 8, .inl lf)), (a, .inl (cs 0, nn, .inl f))] H := hP
    replace hD : va_D A [(ha, .inr (0, [.ref hr, .ref hg, .int (nI 0), .int (nI 0), .int (nI 0)])), (hr, .inr (7, [.int (nI n), .int (nI k), .int (nI al), .int (nI be), .int ea, .int pr, .ref sm, .int (nI se), .ref ca])), (hg, .inr (4, [.ref nd, .ref kd, .ref lk, .ref vw])), (kd, .inl (cs 0, 8, .inl kf)), (lk, .inl (cs 0, 8, .inl lf)), (a, .inl (cs 0, nn, .inl f))] := hD
    refine lv_if_ne (tgt := 55) hx hb dX0_listen_46 (by decide) (fun c_6 => ?_) (fun c_6 => ?_)
    · -- 46 t
      refine lv_iconst (v := nI 0) hx hb dX0_listen_55 (by decide) ?_
      exact xreti C (⟨(nI 0), (nI 0), (nI 0)⟩) (⟨Or.inr ⟨rfl, fun q => absurd (hw_r_4.trans (if_pos q.2.1)) c_6⟩, fun q => absurd q (by decide)⟩) hP hD hS (Nat.le_of_ble_eq_true rfl) (Nat.le_of_ble_eq_true rfl) (by decide) dX0_listen_56
    · -- 46 f
      refine lv_iload hx hb dX0_listen_49 (lv_at hl 0 rfl) ?_
      refine lv_iconst (v := (-1)) hx hb dX0_listen_51 (by decide) ?_
      refine lv_icmp_ne (tgt := 57) hx hb dX0_listen_52 (by decide) (fun c_7 => ?_) (fun c_7 => ?_)
      · -- 52 t
        have hk9 : kf i = nI 0 := id c_3
        have hd9 : f (b + i) &&& dcM = 0 := by
          have z := hw_r_4
          by_cases q : f (b + i) &&& dcM = 0
          · exact q
          · rw [if_neg q] at z; exact absurd z (by rw [c_6]; decide)
        have hc9 : ¬ colF (f (b + i)) = -1 := c_7
        refine lv_iconst (v := nI 0) hx hb dX0_listen_57 (by decide) ?_
        refine lv_istore (lv' := [(6, .int (nI 0)), (5, .int (colF (f (b + i)))), (4, .int (f (b + i))), (0, .ref ha), (1, .ref a), (2, .int (nI b)), (3, .int (nI i))]) hx hb dX0_listen_58 hl (by decide) rfl ?_
        clear hl
        try clear ls
        intro ls hl
        have loop_8 : ∀ (n_loop_8 : Nat) (o : Nat) (u1 : Int32) (u2 : Int32) (u3 : Int32), (o ≤ n) → (lisI o i lf kf f b u1 u2 u3) → n - o < n_loop_8 → ∀ (H : Heap) (locs : List Loc) (ls : Array Slot), va_P D vwCl [(ha, .inr (0, [.ref hr, .ref hg, .int u1, .int u2, .int u3])), (hr, .inr (7, [.int (nI n), .int (nI k), .int (nI al), .int (nI be), .int ea, .int pr, .ref sm, .int (nI se), .ref ca])), (hg, .inr (4, [.ref nd, .ref kd, .ref lk, .ref vw])), (kd, .inl (cs 0, 8, .inl kf)), (lk, .inl (cs 0, 8, .inl lf)), (a, .inl (cs 0, nn, .inl f))] H → va_D A [(ha, .inr (0, [.ref hr, .ref hg, .int u1, .int u2, .int u3])), (hr, .inr (7, [.int (nI n), .int (nI k), .int (nI al), .int (nI be), .int ea, .int pr, .ref sm, .int (nI se), .ref ca])), (hg, .inr (4, [.ref nd, .ref kd, .ref lk, .ref vw])), (kd, .inl (cs 0, 8, .inl kf)), (lk, .inl (cs 0, 8, .inl lf)), (a, .inl (cs 0, nn, .inl f))] → va_S A s.heap H locs → lv_has ls 7 [(6, .int (nI o)), (5, .int (colF (f (b + i)))), (4, .int (f (b + i))), (0, .ref ha), (1, .ref a), (2, .int (nI b)), (3, .int (nI i))] → W p l e ({ frames := 2, cells := 0, slots := 0, locals := 47 } : Room) s m args below meth c H locs 0 0 (MQ below ((xQi D (fun (r : Int32) (u : Int32 × Int32 × Int32) => match u with | (y1, y2, y3) => ((r = nI 1 ∧ (kf i = nI 0 ∧ f (b + i) &&& dcM = 0 ∧ ¬ colF (f (b + i)) = -1)) ∨ (r = nI 0 ∧ ¬ (kf i = nI 0 ∧ f (b + i) &&& dcM = 0 ∧ ¬ colF (f (b + i)) = -1))) ∧ (r = nI 1 → lisI n i lf kf f b y1 y2 y3)) (fun (u : Int32 × Int32 × Int32) => match u with | (y1, y2, y3) => [(ha, .inr (0, [.ref hr, .ref hg, .int y1, .int y2, .int y3])), (hr, .inr (7, [.int (nI n), .int (nI k), .int (nI al), .int (nI be), .int ea, .int pr, .ref sm, .int (nI se), .ref ca])), (hg, .inr (4, [.ref nd, .ref kd, .ref lk, .ref vw])), (kd, .inl (cs 0, 8, .inl kf)), (lk, .inl (cs 0, 8, .inl lf)), (a, .inl (cs 0, nn, .inl f))])) A) args s 0 0 A) (F0 m 60 ls []) := by
          intro n_loop_8
          induction n_loop_8 with
          | zero => intro o u1 u2 u3 h_o hli hlt H locs ls hP hD hS hl; exact absurd hlt (Nat.not_lt_zero _)
          | succ n_loop_8 ih_loop_8 =>
            intro o u1 u2 u3 h_o hli hlt_loop_8 H locs ls hP hD hS hl
            refine lv_iload hx hb dX0_listen_60 (lv_at hl 0 rfl) ?_
            refine lv_aload_n hx hb dX0_listen_62 rfl (lv_at hl 3 rfl) ?_
            refine xget C hP 0 rfl rfl zuX0 0 (by decide) zw1_237 rfl dX0_listen_63 ?_
            refine xget C hP 1 rfl rfl zuX7 0 (by decide) zw1_76 rfl dX0_listen_66 ?_
            refine lv_icmp_ge (tgt := 114) hx hb dX0_listen_69 (by decide) (fun c_9 => ?_) (fun c_9 => ?_)
            · -- 69 t
              have fc_9 : n ≤ o := nf_le (by omega) (by omega) c_9
              refine lv_iconst (v := nI 1) hx hb dX0_listen_114 (by decide) ?_
              exact xreti C (⟨u1, u2, u3⟩) (⟨Or.inl ⟨rfl, hk9, hd9, hc9⟩, fun _ => by have qq : o = n := (by omega); rw [← qq]; exact hli⟩) hP hD hS (Nat.le_of_ble_eq_true rfl) (Nat.le_of_ble_eq_true rfl) (by decide) dX0_listen_115
            · -- 69 f
              have fc_9 : o < n := nf_nle (by omega) (by omega) c_9
              refine lv_iload hx hb dX0_listen_72 (lv_at hl 0 rfl) ?_
              refine lv_iload_n hx hb dX0_listen_74 rfl (lv_at hl 6 rfl) ?_
              refine lv_icmp_eq (tgt := 108) hx hb dX0_listen_75 (by decide) (fun c_10 => ?_) (fun c_10 => ?_)
              · -- 75 t
                have fc_10 : o = i := nf_eq (by omega) (by omega) c_10
                refine lv_iinc (v := nI (o + 1)) (lv' := [(6, .int (nI (o + 1))), (5, .int (colF (f (b + i)))), (4, .int (f (b + i))), (0, .ref ha), (1, .ref a), (2, .int (nI b)), (3, .int (nI i))]) hx hb dX0_listen_108 hl (k := 0) rfl (nI_add o 1) (by decide) rfl ?_
                clear hl
                try clear ls
                intro ls hl
                refine lv_goto (tgt := 60) hx hb dX0_listen_111 (by decide) ?_
                exact ih_loop_8 (o + 1) u1 u2 u3 (by omega) (lisI_skip hli (Or.inl fc_10)) (by omega) H locs ls hP hD hS (lv_sub hl [0, 1, 2, 3, 4, 5, 6] rfl)
              · -- 75 f
                have fc_10 : o ≠ i := nf_ne (by omega) (by omega) c_10
                refine lv_aload_n hx hb dX0_listen_78 rfl (lv_at hl 3 rfl) ?_
                refine xget C hP 0 rfl rfl zuX0 1 (by decide) zw1_238 rfl dX0_listen_79 ?_
                refine lv_iload_n hx hb dX0_listen_82 rfl (lv_at hl 6 rfl) ?_
                refine lv_iload hx hb dX0_listen_83 (lv_at hl 0 rfl) ?_
                refine xi (wr := [(ha, .inr (0, [.ref hr, .ref hg, .int u1, .int u2, .int u3])), (hr, .inr (7, [.int (nI n), .int (nI k), .int (nI al), .int (nI be), .int ea, .int pr, .ref sm, .int (nI se), .ref ca])), (kd, .inl (cs 0, 8, .inl kf)), (a, .inl (cs 0, nn, .inl f))]) (xV (As := [.int (nI i), .int (nI o)]) (rest := []) C (c_X4_isLinked l D cs hg nd kd lk vw lf i o (by omega)) kX0_48 hP hD [2, 4] rfl (by decide +kernel) 0 rfl rfl rfl ⟨Nat.le_of_ble_eq_true rfl, Nat.le_of_ble_eq_true rfl⟩ rfl hl.1 rfl (Nat.le_of_ble_eq_true rfl) dX0_listen_85 ⟨Nat.le_of_ble_eq_true rfl, Nat.le_of_ble_eq_true rfl⟩) hP hD hS hA [2, 4] [0, 1, 3, 5] rfl rfl (by decide +kernel) (by decide +kernel) ?_
                clear hP hD hS
                try clear locs
                try clear H
                intro r_11 u_12 H locs hw_r_11 hP hD hS
                have hw_r_11 : r_11 = if lf i >>> (nI o &&& 31) &&& nI 1 = nI 1 then nI 1 else nI 0 := hw_r_11
                refine W.widen (k := 0) (n := 0) (Nat.le_of_ble_eq_true rfl) (Nat.le_of_ble_eq_true rfl) ?_
                replace hP : va_P D vwCl [(ha, .inr (0, [.ref hr, .ref hg, .int u1, .int u2, .int u3])), (hr, .inr (7, [.int (nI n), .int (nI k), .int (nI al), .int (nI be), .int ea, .int pr, .ref sm, .int (nI se), .ref ca])), (kd, .inl (cs 0, 8, .inl kf)), (a, .inl (cs 0, nn, .inl f)), (hg, .inr (4, [.ref nd, .ref kd, .ref lk, .ref vw])), (lk, .inl (cs 0, 8, .inl lf))] H := hP
                replace hD : va_D A [(ha, .inr (0, [.ref hr, .ref hg, .int u1, .int u2, .int u3])), (hr, .inr (7, [.int (nI n), .int (nI k), .int (nI al), .int (nI be), .int ea, .int pr, .ref sm, .int (nI se), .ref ca])), (kd, .inl (cs 0, 8, .inl kf)), (a, .inl (cs 0, nn, .inl f)), (hg, .inr (4, [.ref nd, .ref kd, .ref lk, .ref vw])), (lk, .inl (cs 0, 8, .inl lf))] := hD
                refine lv_if_eq (tgt := 108) hx hb dX0_listen_88 (by decide) (fun c_13 => ?_) (fun c_13 => ?_)
                · -- 88 t
                  refine lv_iinc (v := nI (o + 1)) (lv' := [(6, .int (nI (o + 1))), (5, .int (colF (f (b + i)))), (4, .int (f (b + i))), (0, .ref ha), (1, .ref a), (2, .int (nI b)), (3, .int (nI i))]) hx hb dX0_listen_108 hl (k := 0) rfl (nI_add o 1) (by decide) rfl ?_
                  clear hl
                  try clear ls
                  intro ls hl
                  refine lv_goto (tgt := 60) hx hb dX0_listen_111 (by decide) ?_
                  exact ih_loop_8 (o + 1) u1 u2 u3 (by omega) (lisI_skip hli (Or.inr (fun q => absurd ((if_pos q).symm.trans (hw_r_11.symm.trans c_13)) (by decide)))) (by omega) H locs ls (xP_map hP [0, 1, 4, 2, 5, 3] rfl) (hD.sub [0, 1, 4, 2, 5, 3] (by decide +kernel) rfl) hS (lv_sub hl [0, 1, 2, 3, 4, 5, 6] rfl)
                · -- 88 f
                  refine lv_aload_n hx hb dX0_listen_91 rfl (lv_at hl 3 rfl) ?_
                  refine lv_iload hx hb dX0_listen_92 (lv_at hl 0 rfl) ?_
                  refine lv_aload_n hx hb dX0_listen_94 rfl (lv_at hl 4 rfl) ?_
                  refine lv_iload_n hx hb dX0_listen_95 rfl (lv_at hl 5 rfl) ?_
                  refine lv_iload hx hb dX0_listen_96 (lv_at hl 0 rfl) ?_
                  refine lv_iadd hx hb dX0_listen_98 ?_
                  refine lv_topi (nm_r (e' := nI (b + o)) (nI_add _ _) ?_)
                  refine xiald C hP 3 rfl (b + o) rfl (by omega) (by omega) dX0_listen_99 ?_
                  refine xi (wr := [(ha, .inr (0, [.ref hr, .ref hg, .int u1, .int u2, .int u3])), (hr, .inr (7, [.int (nI n), .int (nI k), .int (nI al), .int (nI be), .int ea, .int pr, .ref sm, .int (nI se), .ref ca])), (kd, .inl (cs 0, 8, .inl kf)), (a, .inl (cs 0, nn, .inl f)), (hg, .inr (4, [.ref nd, .ref kd, .ref lk, .ref vw])), (lk, .inl (cs 0, 8, .inl lf))]) (xS (As := [.int (f (b + o))]) (rest := [.int (nI o), .ref ha]) C (c_X4_colourOf l D cs (f (b + o))) kX0_29 hP hD [] rfl (by decide +kernel) ⟨Nat.le_of_ble_eq_true rfl, Nat.le_of_ble_eq_true rfl⟩ rfl hl.1 rfl (Nat.le_of_ble_eq_true rfl) dX0_listen_100 ⟨Nat.le_of_ble_eq_true rfl, Nat.le_of_ble_eq_true rfl⟩) hP hD hS hA [] [0, 1, 2, 3, 4, 5] rfl rfl (by decide +kernel) (by decide +kernel) ?_
                  clear hP hD hS
                  try clear locs
                  try clear H
                  intro r_14 u_15 H locs hw_r_14 hP hD hS
                  have hw_r_14 : r_14 = ((f (b + o)) &&& nI 3) - nI 1 := hw_r_14
                  refine W.widen (k := 0) (n := 0) (Nat.le_of_ble_eq_true rfl) (Nat.le_of_ble_eq_true rfl) ?_
                  replace hP : va_P D vwCl [(ha, .inr (0, [.ref hr, .ref hg, .int u1, .int u2, .int u3])), (hr, .inr (7, [.int (nI n), .int (nI k), .int (nI al), .int (nI be), .int ea, .int pr, .ref sm, .int (nI se), .ref ca])), (kd, .inl (cs 0, 8, .inl kf)), (a, .inl (cs 0, nn, .inl f)), (hg, .inr (4, [.ref nd, .ref kd, .ref lk, .ref vw])), (lk, .inl (cs 0, 8, .inl lf))] H := hP
                  replace hD : va_D A [(ha, .inr (0, [.ref hr, .ref hg, .int u1, .int u2, .int u3])), (hr, .inr (7, [.int (nI n), .int (nI k), .int (nI al), .int (nI be), .int ea, .int pr, .ref sm, .int (nI se), .ref ca])), (kd, .inl (cs 0, 8, .inl kf)), (a, .inl (cs 0, nn, .inl f)), (hg, .inr (4, [.ref nd, .ref kd, .ref lk, .ref vw])), (lk, .inl (cs 0, 8, .inl lf))] := hD
                  obtain rfl : r_14 = colF (f (b + o)) := hw_r_14
                  refine lv_iload hx hb dX0_listen_103 (lv_at hl 1 rfl) ?_
                  refine xv (wr := [(hr, .inr (7, [.int (nI n), .int (nI k), .int (nI al), .int (nI be), .int ea, .int pr, .ref sm, .int (nI se), .ref ca])), (a, .inl (cs 0, nn, .inl f)), (lk, .inl (cs 0, 8, .inl lf))]) (xV (As := [.int (nI o), .int (colF (f (b + o))), .int (colF (f (b + i)))]) (rest := []) C (c_X0_hear_f l D cs ha hr hg nd kd lk vw u1 u2 u3 kf o (colF (f (b + o))) (colF (f (b + i))) (by omega)) kX0_52 hP hD [0, 4, 2] rfl (by decide +kernel) 0 rfl rfl rfl ⟨Nat.le_of_ble_eq_true rfl, Nat.le_of_ble_eq_true rfl⟩ rfl hl.1 rfl (Nat.le_of_ble_eq_true rfl) dX0_listen_105 ⟨Nat.le_of_ble_eq_true rfl, Nat.le_of_ble_eq_true rfl⟩) hP hD hS hA [0, 4, 2] [1, 3, 5] rfl rfl (by decide +kernel) (by decide +kernel) ?_
                  clear hP hD hS
                  try clear locs
                  try clear H
                  intro u_17 H locs hw_r_16 hP hD hS
                  obtain ⟨y1_18, y2_19, y3_20⟩ := u_17
                  have hw_r_16 : y3_20 = (if kf o = nI 0 ∧ (colF (f (b + o))) = -1 then u3 ||| bitI o else u3) ∧ y1_18 = (if sayF (kf o) (colF (f (b + o))) (colF (f (b + i))) = nI 0 then u1 ||| bitI o else u1) ∧ y2_19 = (if sayF (kf o) (colF (f (b + o))) (colF (f (b + i))) = nI 1 then u2 ||| bitI o else u2) := hw_r_16
                  refine W.widen (k := 0) (n := 0) (Nat.le_of_ble_eq_true rfl) (Nat.le_of_ble_eq_true rfl) ?_
                  replace hP : va_P D vwCl [(hr, .inr (7, [.int (nI n), .int (nI k), .int (nI al), .int (nI be), .int ea, .int pr, .ref sm, .int (nI se), .ref ca])), (a, .inl (cs 0, nn, .inl f)), (lk, .inl (cs 0, 8, .inl lf)), (ha, .inr (0, [.ref hr, .ref hg, .int y1_18, .int y2_19, .int y3_20])), (hg, .inr (4, [.ref nd, .ref kd, .ref lk, .ref vw])), (kd, .inl (cs 0, 8, .inl kf))] H := hP
                  replace hD : va_D A [(hr, .inr (7, [.int (nI n), .int (nI k), .int (nI al), .int (nI be), .int ea, .int pr, .ref sm, .int (nI se), .ref ca])), (a, .inl (cs 0, nn, .inl f)), (lk, .inl (cs 0, 8, .inl lf)), (ha, .inr (0, [.ref hr, .ref hg, .int y1_18, .int y2_19, .int y3_20])), (hg, .inr (4, [.ref nd, .ref kd, .ref lk, .ref vw])), (kd, .inl (cs 0, 8, .inl kf))] := hD
                  refine lv_iinc (v := nI (o + 1)) (lv' := [(6, .int (nI (o + 1))), (5, .int (colF (f (b + i)))), (4, .int (f (b + i))), (0, .ref ha), (1, .ref a), (2, .int (nI b)), (3, .int (nI i))]) hx hb dX0_listen_108 hl (k := 0) rfl (nI_add o 1) (by decide) rfl ?_
                  clear hl
                  try clear ls
                  intro ls hl
                  refine lv_goto (tgt := 60) hx hb dX0_listen_111 (by decide) ?_
                  exact ih_loop_8 (o + 1) y1_18 y2_19 y3_20 (by omega) (lisI_hear (by omega) hli (fun q => fc_10 q) (Decidable.byContradiction (fun q => c_13 ((hw_r_11.trans (if_neg q))))) hw_r_16.2.1 hw_r_16.2.2 hw_r_16.1) (by omega) H locs ls (xP_map hP [3, 0, 4, 5, 2, 1] rfl) (hD.sub [3, 0, 4, 5, 2, 1] (by decide +kernel) rfl) hS (lv_sub hl [0, 1, 2, 3, 4, 5, 6] rfl)
        exact loop_8 _ 0 (nI 0) (nI 0) (nI 0) (by omega) (lisI_0 i lf kf f b) (Nat.lt_succ_self _) H locs ls hP hD hS (lv_sub hl [0, 1, 2, 3, 4, 5, 6] rfl)
      · -- 52 f
        refine lv_iconst (v := nI 0) hx hb dX0_listen_55 (by decide) ?_
        exact xreti C (⟨(nI 0), (nI 0), (nI 0)⟩) (⟨Or.inr ⟨rfl, fun q => q.2.2 c_7⟩, fun q => absurd q (by decide)⟩) hP hD hS (Nat.le_of_ble_eq_true rfl) (Nat.le_of_ble_eq_true rfl) (by decide) dX0_listen_56
