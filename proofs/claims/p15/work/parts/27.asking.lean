def wlF (x y : Int32) : Int32 := (x &&& (-13)) ||| ((y + (nI 1)) <<< ((nI 2) &&& 31))
set_option maxHeartbeats 4000000 in
set_option maxRecDepth 100000 in
theorem c_X4_withLast (l : Launch) (D : va_G) (cs : Nat → ClassId) (x y : Int32) : xMet l D cs yX4_withLast cX4_withLast 2 (some .int) ({ frames := 0, cells := 0, slots := 0, locals := 0 } : Room) [.int x, .int y] [] (xQi D (fun (r : Int32) (_u : Unit) => r = wlF x y) (fun (_u : Unit) => [])) := by
  refine xMet.intro (by decide) (Nat.le_of_ble_eq_true rfl) ?_
  intro p e s m args below meth c A ls C hP hD hS hl
  have hx := C.1
  have hb := C.2.1
  have hz := C.2.2.2.2.1
  have hown := C.2.2.2.1
  have hA := C.2.2.2.2.2.2.2.2.2
  have hAO := C.2.2.2.2.2.2.2.2.1.2.2
  replace hl : lv_has ls 2 [(0, .int x), (1, .int y)] := hl
  obtain ⟨H, hH⟩ : ∃ H, H = s.heap := ⟨_, rfl⟩
  replace hP : va_P D vwCl [] H := by rw [hH]; exact hP
  replace hS : va_S A s.heap H [] := by rw [hH]; exact hS
  obtain ⟨locs, hlocs⟩ : ∃ z : List Loc, z = [] := ⟨_, rfl⟩
  rw [← hlocs] at hS
  suffices hW : W p l e ({ frames := 0, cells := 0, slots := 0, locals := 0 } : Room) s m args below meth c H locs 0 0 (MQ below ((xQi D (fun (r : Int32) (_u : Unit) => r = wlF x y) (fun (_u : Unit) => [])) A) args s 0 0 A) (F0 m 0 ls []) by rw [hlocs, hH] at hW; exact hW
  clear hH hlocs
  refine lv_iload_n hx hb dX4_withLast_0 rfl (lv_at hl 0 rfl) ?_
  refine lv_bipush (v := (-13)) hx hb dX4_withLast_1 (by decide) ?_
  refine lv_iand hx hb dX4_withLast_3 ?_
  refine lv_iload_n hx hb dX4_withLast_4 rfl (lv_at hl 1 rfl) ?_
  refine lv_iconst (v := nI 1) hx hb dX4_withLast_5 (by decide) ?_
  refine lv_iadd hx hb dX4_withLast_6 ?_
  refine lv_iconst (v := nI 2) hx hb dX4_withLast_7 (by decide) ?_
  refine lv_ishl hx hb dX4_withLast_8 ?_
  refine lv_ior hx hb dX4_withLast_9 ?_
  exact xreti C () rfl hP hD hS (Nat.le_of_ble_eq_true rfl) (Nat.le_of_ble_eq_true rfl) rfl dX4_withLast_10

def wcF (x y : Int32) : Int32 := (x &&& (-241)) ||| (y <<< ((nI 4) &&& 31))
set_option maxHeartbeats 4000000 in
set_option maxRecDepth 100000 in
theorem c_X4_withCounter (l : Launch) (D : va_G) (cs : Nat → ClassId) (x y : Int32) : xMet l D cs yX4_withCounter cX4_withCounter 2 (some .int) ({ frames := 0, cells := 0, slots := 0, locals := 0 } : Room) [.int x, .int y] [] (xQi D (fun (r : Int32) (_u : Unit) => r = wcF x y) (fun (_u : Unit) => [])) := by
  refine xMet.intro (by decide) (Nat.le_of_ble_eq_true rfl) ?_
  intro p e s m args below meth c A ls C hP hD hS hl
  have hx := C.1
  have hb := C.2.1
  have hz := C.2.2.2.2.1
  have hown := C.2.2.2.1
  have hA := C.2.2.2.2.2.2.2.2.2
  have hAO := C.2.2.2.2.2.2.2.2.1.2.2
  replace hl : lv_has ls 2 [(0, .int x), (1, .int y)] := hl
  obtain ⟨H, hH⟩ : ∃ H, H = s.heap := ⟨_, rfl⟩
  replace hP : va_P D vwCl [] H := by rw [hH]; exact hP
  replace hS : va_S A s.heap H [] := by rw [hH]; exact hS
  obtain ⟨locs, hlocs⟩ : ∃ z : List Loc, z = [] := ⟨_, rfl⟩
  rw [← hlocs] at hS
  suffices hW : W p l e ({ frames := 0, cells := 0, slots := 0, locals := 0 } : Room) s m args below meth c H locs 0 0 (MQ below ((xQi D (fun (r : Int32) (_u : Unit) => r = wcF x y) (fun (_u : Unit) => [])) A) args s 0 0 A) (F0 m 0 ls []) by rw [hlocs, hH] at hW; exact hW
  clear hH hlocs
  refine lv_iload_n hx hb dX4_withCounter_0 rfl (lv_at hl 0 rfl) ?_
  refine lv_sipush (v := (-241)) hx hb dX4_withCounter_1 (by decide) ?_
  refine lv_iand hx hb dX4_withCounter_4 ?_
  refine lv_iload_n hx hb dX4_withCounter_5 rfl (lv_at hl 1 rfl) ?_
  refine lv_iconst (v := nI 4) hx hb dX4_withCounter_6 (by decide) ?_
  refine lv_ishl hx hb dX4_withCounter_7 ?_
  refine lv_ior hx hb dX4_withCounter_8 ?_
  exact xreti C () rfl hP hD hS (Nat.le_of_ble_eq_true rfl) (Nat.le_of_ble_eq_true rfl) rfl dX4_withCounter_9

def wfF (x y z9 : Int32) : Int32 := (x &&& (((nI 1023) <<< (((nI 8) + (y * (nI 10))) &&& 31)) ^^^ (-1))) ||| (z9 <<< (((nI 8) + (y * (nI 10))) &&& 31))
set_option maxHeartbeats 4000000 in
set_option maxRecDepth 100000 in
theorem c_X4_withConfidence (l : Launch) (D : va_G) (cs : Nat → ClassId) (x y z9 : Int32) : xMet l D cs yX4_withConfidence cX4_withConfidence 4 (some .int) ({ frames := 0, cells := 0, slots := 0, locals := 0 } : Room) [.int x, .int y, .int z9] [] (xQi D (fun (r : Int32) (_u : Unit) => r = wfF x y z9) (fun (_u : Unit) => [])) := by
  refine xMet.intro (by decide) (Nat.le_of_ble_eq_true rfl) ?_
  intro p e s m args below meth c A ls C hP hD hS hl
  have hx := C.1
  have hb := C.2.1
  have hz := C.2.2.2.2.1
  have hown := C.2.2.2.1
  have hA := C.2.2.2.2.2.2.2.2.2
  have hAO := C.2.2.2.2.2.2.2.2.1.2.2
  replace hl : lv_has ls 4 [(0, .int x), (1, .int y), (2, .int z9)] := hl
  obtain ⟨H, hH⟩ : ∃ H, H = s.heap := ⟨_, rfl⟩
  replace hP : va_P D vwCl [] H := by rw [hH]; exact hP
  replace hS : va_S A s.heap H [] := by rw [hH]; exact hS
  obtain ⟨locs, hlocs⟩ : ∃ z : List Loc, z = [] := ⟨_, rfl⟩
  rw [← hlocs] at hS
  suffices hW : W p l e ({ frames := 0, cells := 0, slots := 0, locals := 0 } : Room) s m args below meth c H locs 0 0 (MQ below ((xQi D (fun (r : Int32) (_u : Unit) => r = wfF x y z9) (fun (_u : Unit) => [])) A) args s 0 0 A) (F0 m 0 ls []) by rw [hlocs, hH] at hW; exact hW
  clear hH hlocs
  refine lv_bipush (v := nI 8) hx hb dX4_withConfidence_0 (by decide) ?_
  refine lv_iload_n hx hb dX4_withConfidence_2 rfl (lv_at hl 1 rfl) ?_
  refine lv_bipush (v := nI 10) hx hb dX4_withConfidence_3 (by decide) ?_
  refine lv_imul hx hb dX4_withConfidence_5 ?_
  refine lv_iadd hx hb dX4_withConfidence_6 ?_
  refine lv_istore_n (lv' := [(3, .int ((nI 8) + (y * (nI 10)))), (0, .int x), (1, .int y), (2, .int z9)]) hx hb dX4_withConfidence_7 rfl hl (by decide) rfl ?_
  clear hl
  try clear ls
  intro ls hl
  refine lv_iload_n hx hb dX4_withConfidence_8 rfl (lv_at hl 1 rfl) ?_
  refine lv_sipush (v := nI 1023) hx hb dX4_withConfidence_9 (by decide) ?_
  refine lv_iload_n hx hb dX4_withConfidence_12 rfl (lv_at hl 0 rfl) ?_
  refine lv_ishl hx hb dX4_withConfidence_13 ?_
  refine lv_iconst (v := (-1)) hx hb dX4_withConfidence_14 (by decide) ?_
  refine lv_ixor hx hb dX4_withConfidence_15 ?_
  refine lv_iand hx hb dX4_withConfidence_16 ?_
  refine lv_iload_n hx hb dX4_withConfidence_17 rfl (lv_at hl 3 rfl) ?_
  refine lv_iload_n hx hb dX4_withConfidence_18 rfl (lv_at hl 0 rfl) ?_
  refine lv_ishl hx hb dX4_withConfidence_19 ?_
  refine lv_ior hx hb dX4_withConfidence_20 ?_
  exact xreti C () rfl hP hD hS (Nat.le_of_ble_eq_true rfl) (Nat.le_of_ble_eq_true rfl) rfl dX4_withConfidence_21

def wdF (x : Int32) : Int32 := x ||| (nI 268435456)
set_option maxHeartbeats 4000000 in
set_option maxRecDepth 100000 in
theorem c_X4_withDecided (l : Launch) (D : va_G) (cs : Nat → ClassId) (x : Int32) : xMet l D cs yX4_withDecided cX4_withDecided 1 (some .int) ({ frames := 0, cells := 0, slots := 0, locals := 0 } : Room) [.int x] [] (xQi D (fun (r : Int32) (_u : Unit) => r = wdF x) (fun (_u : Unit) => [])) := by
  refine xMet.intro (by decide) (Nat.le_of_ble_eq_true rfl) ?_
  intro p e s m args below meth c A ls C hP hD hS hl
  have hx := C.1
  have hb := C.2.1
  have hz := C.2.2.2.2.1
  have hown := C.2.2.2.1
  have hA := C.2.2.2.2.2.2.2.2.2
  have hAO := C.2.2.2.2.2.2.2.2.1.2.2
  replace hl : lv_has ls 1 [(0, .int x)] := hl
  obtain ⟨H, hH⟩ : ∃ H, H = s.heap := ⟨_, rfl⟩
  replace hP : va_P D vwCl [] H := by rw [hH]; exact hP
  replace hS : va_S A s.heap H [] := by rw [hH]; exact hS
  obtain ⟨locs, hlocs⟩ : ∃ z : List Loc, z = [] := ⟨_, rfl⟩
  rw [← hlocs] at hS
  suffices hW : W p l e ({ frames := 0, cells := 0, slots := 0, locals := 0 } : Room) s m args below meth c H locs 0 0 (MQ below ((xQi D (fun (r : Int32) (_u : Unit) => r = wdF x) (fun (_u : Unit) => [])) A) args s 0 0 A) (F0 m 0 ls []) by rw [hlocs, hH] at hW; exact hW
  clear hH hlocs
  refine lv_iload_n hx hb dX4_withDecided_0 rfl (lv_at hl 0 rfl) ?_
  refine lv_ldc (v := nI 268435456) hx hb hown (hz _ zw3_47) dX4_withDecided_1 ?_
  refine lv_ior hx hb dX4_withDecided_3 ?_
  exact xreti C () rfl hP hD hS (Nat.le_of_ble_eq_true rfl) (Nat.le_of_ble_eq_true rfl) rfl dX4_withDecided_4

set_option maxHeartbeats 4000000 in
set_option maxRecDepth 100000 in
theorem c_X0_saying (l : Launch) (D : va_G) (cs : Nat → ClassId) (x y z9 : Int32) : xMet l D cs yX0_saying cX0_saying 3 (some .int) ({ frames := 0, cells := 0, slots := 0, locals := 0 } : Room) [.int x, .int y, .int z9] [] (xQi D (fun (r : Int32) (_u : Unit) => True) (fun (_u : Unit) => [])) := by
  refine xMet.intro (by decide) (Nat.le_of_ble_eq_true rfl) ?_
  intro p e s m args below meth c A ls C hP hD hS hl
  have hx := C.1
  have hb := C.2.1
  have hz := C.2.2.2.2.1
  have hown := C.2.2.2.1
  have hA := C.2.2.2.2.2.2.2.2.2
  have hAO := C.2.2.2.2.2.2.2.2.1.2.2
  replace hl : lv_has ls 3 [(0, .int x), (1, .int y), (2, .int z9)] := hl
  obtain ⟨H, hH⟩ : ∃ H, H = s.heap := ⟨_, rfl⟩
  replace hP : va_P D vwCl [] H := by rw [hH]; exact hP
  replace hS : va_S A s.heap H [] := by rw [hH]; exact hS
  obtain ⟨locs, hlocs⟩ : ∃ z : List Loc, z = [] := ⟨_, rfl⟩
  rw [← hlocs] at hS
  suffices hW : W p l e ({ frames := 0, cells := 0, slots := 0, locals := 0 } : Room) s m args below meth c H locs 0 0 (MQ below ((xQi D (fun (r : Int32) (_u : Unit) => True) (fun (_u : Unit) => [])) A) args s 0 0 A) (F0 m 0 ls []) by rw [hlocs, hH] at hW; exact hW
  clear hH hlocs
  refine lv_iload_n hx hb dX0_saying_0 rfl (lv_at hl 0 rfl) ?_
  rcases (xsw x 4 (by decide)) with ⟨k9, hk9, rfl⟩ | hout
  · -- split
    replace hP : va_P D vwCl [] H := hP
    replace hD : va_D A [] := hD
    rcases (show k9 = 0 ∨ k9 = 1 ∨ k9 = 2 ∨ k9 = 3 by omega) with rfl | rfl | rfl | rfl
    · -- k9 = 0
      replace hP : va_P D vwCl [] H := hP
      replace hD : va_D A [] := hD
      refine lv_tableIn (tgt := 32) hx hb dX0_saying_1 (by decide) (by decide) rfl (by decide) ?_
      refine lv_iload_n hx hb dX0_saying_32 rfl (lv_at hl 1 rfl) ?_
      refine lv_iconst (v := (-1)) hx hb dX0_saying_33 (by decide) ?_
      refine lv_icmp_ne (tgt := 41) hx hb dX0_saying_34 (by decide) (fun c_1 => ?_) (fun c_1 => ?_)
      · -- 34 t
        refine lv_iload_n hx hb dX0_saying_41 rfl (lv_at hl 1 rfl) ?_
        exact xreti C () trivial hP hD hS (Nat.le_of_ble_eq_true rfl) (Nat.le_of_ble_eq_true rfl) rfl dX0_saying_42
      · -- 34 f
        refine lv_iload_n hx hb dX0_saying_37 rfl (lv_at hl 2 rfl) ?_
        refine lv_goto (tgt := 42) hx hb dX0_saying_38 (by decide) ?_
        exact xreti C () trivial hP hD hS (Nat.le_of_ble_eq_true rfl) (Nat.le_of_ble_eq_true rfl) rfl dX0_saying_42
    · -- k9 = 1
      replace hP : va_P D vwCl [] H := hP
      replace hD : va_D A [] := hD
      refine lv_tableIn (tgt := 43) hx hb dX0_saying_1 (by decide) (by decide) rfl (by decide) ?_
      refine lv_iconst (v := nI 0) hx hb dX0_saying_43 (by decide) ?_
      exact xreti C () trivial hP hD hS (Nat.le_of_ble_eq_true rfl) (Nat.le_of_ble_eq_true rfl) rfl dX0_saying_44
    · -- k9 = 2
      replace hP : va_P D vwCl [] H := hP
      replace hD : va_D A [] := hD
      refine lv_tableIn (tgt := 45) hx hb dX0_saying_1 (by decide) (by decide) rfl (by decide) ?_
      refine lv_iconst (v := nI 1) hx hb dX0_saying_45 (by decide) ?_
      exact xreti C () trivial hP hD hS (Nat.le_of_ble_eq_true rfl) (Nat.le_of_ble_eq_true rfl) rfl dX0_saying_46
    · -- k9 = 3
      replace hP : va_P D vwCl [] H := hP
      replace hD : va_D A [] := hD
      refine lv_tableIn (tgt := 47) hx hb dX0_saying_1 (by decide) (by decide) rfl (by decide) ?_
      refine lv_iconst (v := nI 1) hx hb dX0_saying_47 (by decide) ?_
      refine lv_iload_n hx hb dX0_saying_48 rfl (lv_at hl 2 rfl) ?_
      refine lv_isub hx hb dX0_saying_49 ?_
      exact xreti C () trivial hP hD hS (Nat.le_of_ble_eq_true rfl) (Nat.le_of_ble_eq_true rfl) rfl dX0_saying_50
  · -- split
    refine lv_tableOut (tgt := 51) hx hb dX0_saying_1 hout (by decide) ?_
    refine lv_iconst (v := (-1)) hx hb dX0_saying_51 (by decide) ?_
    exact xreti C () trivial hP hD hS (Nat.le_of_ble_eq_true rfl) (Nat.le_of_ble_eq_true rfl) rfl dX0_saying_52

set_option maxHeartbeats 4000000 in
set_option maxRecDepth 100000 in
theorem c_X0_hear (l : Launch) (D : va_G) (cs : Nat → ClassId) (ha hr hg nd kd lk vw : Nat) (z1 z2 z3 : Int32) (kf : Nat → Int32) (j : Nat) (x y : Int32) (hj : j < 8) : xMet l D cs yX0_hear cX0_hear 6 none ({ frames := 1, cells := 0, slots := 0, locals := 22 } : Room) [.ref ha, .int (nI j), .int x, .int y] [(ha, .inr (0, [.ref hr, .ref hg, .int z1, .int z2, .int z3])), (hg, .inr (4, [.ref nd, .ref kd, .ref lk, .ref vw])), (kd, .inl (cs 0, 8, .inl kf))] (xQv D (fun (u : Int32 × Int32 × Int32) => match u with | (y1, y2, y3) => True) (fun (u : Int32 × Int32 × Int32) => match u with | (y1, y2, y3) => [(ha, .inr (0, [.ref hr, .ref hg, .int y1, .int y2, .int y3])), (hg, .inr (4, [.ref nd, .ref kd, .ref lk, .ref vw])), (kd, .inl (cs 0, 8, .inl kf))])) := by
  refine xMet.intro (by decide) (Nat.le_of_ble_eq_true rfl) ?_
  intro p e s m args below meth c A ls C hP hD hS hl
  have hx := C.1
  have hb := C.2.1
  have hz := C.2.2.2.2.1
  have hown := C.2.2.2.1
  have hA := C.2.2.2.2.2.2.2.2.2
  have hAO := C.2.2.2.2.2.2.2.2.1.2.2
  replace hl : lv_has ls 6 [(0, .ref ha), (1, .int (nI j)), (2, .int x), (3, .int y)] := hl
  obtain ⟨H, hH⟩ : ∃ H, H = s.heap := ⟨_, rfl⟩
  replace hP : va_P D vwCl [(ha, .inr (0, [.ref hr, .ref hg, .int z1, .int z2, .int z3])), (hg, .inr (4, [.ref nd, .ref kd, .ref lk, .ref vw])), (kd, .inl (cs 0, 8, .inl kf))] H := by rw [hH]; exact hP
  replace hS : va_S A s.heap H [] := by rw [hH]; exact hS
  obtain ⟨locs, hlocs⟩ : ∃ z : List Loc, z = [] := ⟨_, rfl⟩
  rw [← hlocs] at hS
  suffices hW : W p l e ({ frames := 1, cells := 0, slots := 0, locals := 22 } : Room) s m args below meth c H locs 0 0 (MQ below ((xQv D (fun (u : Int32 × Int32 × Int32) => match u with | (y1, y2, y3) => True) (fun (u : Int32 × Int32 × Int32) => match u with | (y1, y2, y3) => [(ha, .inr (0, [.ref hr, .ref hg, .int y1, .int y2, .int y3])), (hg, .inr (4, [.ref nd, .ref kd, .ref lk, .ref vw])), (kd, .inl (cs 0, 8, .inl kf))])) A) args s 0 0 A) (F0 m 0 ls []) by rw [hlocs, hH] at hW; exact hW
  clear hH hlocs
  refine lv_aload_n hx hb dX0_hear_0 rfl (lv_at hl 0 rfl) ?_
  refine xget C hP 0 rfl rfl zuX0 1 (by decide) zw1_238 rfl dX0_hear_1 ?_
  refine xget C hP 1 rfl rfl zuX4 1 (by decide) zw1_173 rfl dX0_hear_4 ?_
  refine lv_iload_n hx hb dX0_hear_7 rfl (lv_at hl 1 rfl) ?_
  refine xiald C hP 2 rfl j rfl (by omega) (by decide) dX0_hear_8 ?_
  refine lv_istore (lv' := [(4, .int (kf j)), (0, .ref ha), (1, .int (nI j)), (2, .int x), (3, .int y)]) hx hb dX0_hear_9 hl (by decide) rfl ?_
  clear hl
  try clear ls
  intro ls hl
  refine lv_iload hx hb dX0_hear_11 (lv_at hl 0 rfl) ?_
  refine lv_if_ne (tgt := 33) hx hb dX0_hear_13 (by decide) (fun c_1 => ?_) (fun c_1 => ?_)
  · -- 13 t
    refine lv_iload hx hb dX0_hear_33 (lv_at hl 0 rfl) ?_
    refine lv_iload_n hx hb dX0_hear_35 rfl (lv_at hl 3 rfl) ?_
    refine lv_iload_n hx hb dX0_hear_36 rfl (lv_at hl 4 rfl) ?_
    refine xi (wr := [(ha, .inr (0, [.ref hr, .ref hg, .int z1, .int z2, .int z3])), (hg, .inr (4, [.ref nd, .ref kd, .ref lk, .ref vw])), (kd, .inl (cs 0, 8, .inl kf))]) (xS (As := [.int (kf j), .int x, .int y]) (rest := []) C (c_X0_saying l D cs (kf j) x y) kX0_56 hP hD [] rfl (by decide) ⟨Nat.le_of_ble_eq_true rfl, Nat.le_of_ble_eq_true rfl⟩ rfl hl.1 rfl (Nat.le_of_ble_eq_true rfl) dX0_hear_37 ⟨Nat.le_of_ble_eq_true rfl, Nat.le_of_ble_eq_true rfl⟩) hP hD hS hA [] [0, 1, 2] rfl rfl (by decide) (by decide) ?_
    clear hP hD hS
    try clear locs
    try clear H
    intro r_2 u_3 H locs hw_r_2 hP hD hS
    refine W.widen (k := 0) (n := 0) (Nat.le_of_ble_eq_true rfl) (Nat.le_of_ble_eq_true rfl) ?_
    replace hP : va_P D vwCl [(ha, .inr (0, [.ref hr, .ref hg, .int z1, .int z2, .int z3])), (hg, .inr (4, [.ref nd, .ref kd, .ref lk, .ref vw])), (kd, .inl (cs 0, 8, .inl kf))] H := hP
    replace hD : va_D A [(ha, .inr (0, [.ref hr, .ref hg, .int z1, .int z2, .int z3])), (hg, .inr (4, [.ref nd, .ref kd, .ref lk, .ref vw])), (kd, .inl (cs 0, 8, .inl kf))] := hD
    refine lv_istore (lv' := [(5, .int r_2), (4, .int (kf j)), (0, .ref ha), (1, .int (nI j)), (2, .int x), (3, .int y)]) hx hb dX0_hear_40 hl (by decide) rfl ?_
    clear hl
    try clear ls
    intro ls hl
    refine lv_iload hx hb dX0_hear_42 (lv_at hl 0 rfl) ?_
    refine lv_if_ne (tgt := 62) hx hb dX0_hear_44 (by decide) (fun c_4 => ?_) (fun c_4 => ?_)
    · -- 44 t
      refine lv_iload hx hb dX0_hear_62 (lv_at hl 0 rfl) ?_
      refine lv_iconst (v := nI 1) hx hb dX0_hear_64 (by decide) ?_
      refine lv_icmp_ne (tgt := 80) hx hb dX0_hear_65 (by decide) (fun c_5 => ?_) (fun c_5 => ?_)
      · -- 65 t
        exact xretv C (⟨z1, z2, z3⟩) trivial hP hD hS (Nat.le_of_ble_eq_true rfl) (Nat.le_of_ble_eq_true rfl) dX0_hear_80
      · -- 65 f
        refine lv_aload_n hx hb dX0_hear_68 rfl (lv_at hl 2 rfl) ?_
        refine lv_dup hx hb dX0_hear_69 rfl ?_
        refine xget C hP 0 rfl rfl zuX0 3 (by decide) zw2_1 rfl dX0_hear_70 ?_
        refine lv_iconst (v := nI 1) hx hb dX0_hear_73 (by decide) ?_
        refine lv_iload_n hx hb dX0_hear_74 rfl (lv_at hl 3 rfl) ?_
        refine lv_ishl hx hb dX0_hear_75 ?_
        refine lv_ior hx hb dX0_hear_76 ?_
        refine xput C hP hD hS 0 rfl rfl zuX0 tyX0 tyX0_ok nmX0 3 (by decide) zw2_1 rfl rfl rfl (Nat.le_of_ble_eq_true rfl) dX0_hear_77 ?_
        clear hP hD hS
        try clear locs
        try clear H
        intro H locs hP hD hS
        replace hP : va_P D vwCl [(ha, .inr (0, [.ref hr, .ref hg, .int z1, .int (z2 ||| ((nI 1) <<< ((nI j) &&& 31))), .int z3])), (hg, .inr (4, [.ref nd, .ref kd, .ref lk, .ref vw])), (kd, .inl (cs 0, 8, .inl kf))] H := hP
        replace hD : va_D A [(ha, .inr (0, [.ref hr, .ref hg, .int z1, .int (z2 ||| ((nI 1) <<< ((nI j) &&& 31))), .int z3])), (hg, .inr (4, [.ref nd, .ref kd, .ref lk, .ref vw])), (kd, .inl (cs 0, 8, .inl kf))] := hD
        exact xretv C (⟨z1, (z2 ||| ((nI 1) <<< ((nI j) &&& 31))), z3⟩) trivial hP hD hS (Nat.le_of_ble_eq_true rfl) (Nat.le_of_ble_eq_true rfl) dX0_hear_80
    · -- 44 f
      refine lv_aload_n hx hb dX0_hear_47 rfl (lv_at hl 2 rfl) ?_
      refine lv_dup hx hb dX0_hear_48 rfl ?_
      refine xget C hP 0 rfl rfl zuX0 2 (by decide) zw1_239 rfl dX0_hear_49 ?_
      refine lv_iconst (v := nI 1) hx hb dX0_hear_52 (by decide) ?_
      refine lv_iload_n hx hb dX0_hear_53 rfl (lv_at hl 3 rfl) ?_
      refine lv_ishl hx hb dX0_hear_54 ?_
      refine lv_ior hx hb dX0_hear_55 ?_
      refine xput C hP hD hS 0 rfl rfl zuX0 tyX0 tyX0_ok nmX0 2 (by decide) zw1_239 rfl rfl rfl (Nat.le_of_ble_eq_true rfl) dX0_hear_56 ?_
      clear hP hD hS
      try clear locs
      try clear H
      intro H locs hP hD hS
      replace hP : va_P D vwCl [(ha, .inr (0, [.ref hr, .ref hg, .int (z1 ||| ((nI 1) <<< ((nI j) &&& 31))), .int z2, .int z3])), (hg, .inr (4, [.ref nd, .ref kd, .ref lk, .ref vw])), (kd, .inl (cs 0, 8, .inl kf))] H := hP
      replace hD : va_D A [(ha, .inr (0, [.ref hr, .ref hg, .int (z1 ||| ((nI 1) <<< ((nI j) &&& 31))), .int z2, .int z3])), (hg, .inr (4, [.ref nd, .ref kd, .ref lk, .ref vw])), (kd, .inl (cs 0, 8, .inl kf))] := hD
      refine lv_goto (tgt := 80) hx hb dX0_hear_59 (by decide) ?_
      exact xretv C (⟨(z1 ||| ((nI 1) <<< ((nI j) &&& 31))), z2, z3⟩) trivial hP hD hS (Nat.le_of_ble_eq_true rfl) (Nat.le_of_ble_eq_true rfl) dX0_hear_80
  · -- 13 f
    refine lv_iload_n hx hb dX0_hear_16 rfl (lv_at hl 3 rfl) ?_
    refine lv_iconst (v := (-1)) hx hb dX0_hear_17 (by decide) ?_
    refine lv_icmp_ne (tgt := 33) hx hb dX0_hear_18 (by decide) (fun c_6 => ?_) (fun c_6 => ?_)
    · -- 18 t
      refine lv_iload hx hb dX0_hear_33 (lv_at hl 0 rfl) ?_
      refine lv_iload_n hx hb dX0_hear_35 rfl (lv_at hl 3 rfl) ?_
      refine lv_iload_n hx hb dX0_hear_36 rfl (lv_at hl 4 rfl) ?_
      refine xi (wr := [(ha, .inr (0, [.ref hr, .ref hg, .int z1, .int z2, .int z3])), (hg, .inr (4, [.ref nd, .ref kd, .ref lk, .ref vw])), (kd, .inl (cs 0, 8, .inl kf))]) (xS (As := [.int (kf j), .int x, .int y]) (rest := []) C (c_X0_saying l D cs (kf j) x y) kX0_56 hP hD [] rfl (by decide) ⟨Nat.le_of_ble_eq_true rfl, Nat.le_of_ble_eq_true rfl⟩ rfl hl.1 rfl (Nat.le_of_ble_eq_true rfl) dX0_hear_37 ⟨Nat.le_of_ble_eq_true rfl, Nat.le_of_ble_eq_true rfl⟩) hP hD hS hA [] [0, 1, 2] rfl rfl (by decide) (by decide) ?_
      clear hP hD hS
      try clear locs
      try clear H
      intro r_7 u_8 H locs hw_r_7 hP hD hS
      refine W.widen (k := 0) (n := 0) (Nat.le_of_ble_eq_true rfl) (Nat.le_of_ble_eq_true rfl) ?_
      replace hP : va_P D vwCl [(ha, .inr (0, [.ref hr, .ref hg, .int z1, .int z2, .int z3])), (hg, .inr (4, [.ref nd, .ref kd, .ref lk, .ref vw])), (kd, .inl (cs 0, 8, .inl kf))] H := hP
      replace hD : va_D A [(ha, .inr (0, [.ref hr, .ref hg, .int z1, .int z2, .int z3])), (hg, .inr (4, [.ref nd, .ref kd, .ref lk, .ref vw])), (kd, .inl (cs 0, 8, .inl kf))] := hD
      refine lv_istore (lv' := [(5, .int r_7), (4, .int (kf j)), (0, .ref ha), (1, .int (nI j)), (2, .int x), (3, .int y)]) hx hb dX0_hear_40 hl (by decide) rfl ?_
      clear hl
      try clear ls
      intro ls hl
      refine lv_iload hx hb dX0_hear_42 (lv_at hl 0 rfl) ?_
      refine lv_if_ne (tgt := 62) hx hb dX0_hear_44 (by decide) (fun c_9 => ?_) (fun c_9 => ?_)
      · -- 44 t
        refine lv_iload hx hb dX0_hear_62 (lv_at hl 0 rfl) ?_
        refine lv_iconst (v := nI 1) hx hb dX0_hear_64 (by decide) ?_
        refine lv_icmp_ne (tgt := 80) hx hb dX0_hear_65 (by decide) (fun c_10 => ?_) (fun c_10 => ?_)
        · -- 65 t
          exact xretv C (⟨z1, z2, z3⟩) trivial hP hD hS (Nat.le_of_ble_eq_true rfl) (Nat.le_of_ble_eq_true rfl) dX0_hear_80
        · -- 65 f
          refine lv_aload_n hx hb dX0_hear_68 rfl (lv_at hl 2 rfl) ?_
          refine lv_dup hx hb dX0_hear_69 rfl ?_
          refine xget C hP 0 rfl rfl zuX0 3 (by decide) zw2_1 rfl dX0_hear_70 ?_
          refine lv_iconst (v := nI 1) hx hb dX0_hear_73 (by decide) ?_
          refine lv_iload_n hx hb dX0_hear_74 rfl (lv_at hl 3 rfl) ?_
          refine lv_ishl hx hb dX0_hear_75 ?_
          refine lv_ior hx hb dX0_hear_76 ?_
          refine xput C hP hD hS 0 rfl rfl zuX0 tyX0 tyX0_ok nmX0 3 (by decide) zw2_1 rfl rfl rfl (Nat.le_of_ble_eq_true rfl) dX0_hear_77 ?_
          clear hP hD hS
          try clear locs
          try clear H
          intro H locs hP hD hS
          replace hP : va_P D vwCl [(ha, .inr (0, [.ref hr, .ref hg, .int z1, .int (z2 ||| ((nI 1) <<< ((nI j) &&& 31))), .int z3])), (hg, .inr (4, [.ref nd, .ref kd, .ref lk, .ref vw])), (kd, .inl (cs 0, 8, .inl kf))] H := hP
          replace hD : va_D A [(ha, .inr (0, [.ref hr, .ref hg, .int z1, .int (z2 ||| ((nI 1) <<< ((nI j) &&& 31))), .int z3])), (hg, .inr (4, [.ref nd, .ref kd, .ref lk, .ref vw])), (kd, .inl (cs 0, 8, .inl kf))] := hD
          exact xretv C (⟨z1, (z2 ||| ((nI 1) <<< ((nI j) &&& 31))), z3⟩) trivial hP hD hS (Nat.le_of_ble_eq_true rfl) (Nat.le_of_ble_eq_true rfl) dX0_hear_80
      · -- 44 f
        refine lv_aload_n hx hb dX0_hear_47 rfl (lv_at hl 2 rfl) ?_
        refine lv_dup hx hb dX0_hear_48 rfl ?_
        refine xget C hP 0 rfl rfl zuX0 2 (by decide) zw1_239 rfl dX0_hear_49 ?_
        refine lv_iconst (v := nI 1) hx hb dX0_hear_52 (by decide) ?_
        refine lv_iload_n hx hb dX0_hear_53 rfl (lv_at hl 3 rfl) ?_
        refine lv_ishl hx hb dX0_hear_54 ?_
        refine lv_ior hx hb dX0_hear_55 ?_
        refine xput C hP hD hS 0 rfl rfl zuX0 tyX0 tyX0_ok nmX0 2 (by decide) zw1_239 rfl rfl rfl (Nat.le_of_ble_eq_true rfl) dX0_hear_56 ?_
        clear hP hD hS
        try clear locs
        try clear H
        intro H locs hP hD hS
        replace hP : va_P D vwCl [(ha, .inr (0, [.ref hr, .ref hg, .int (z1 ||| ((nI 1) <<< ((nI j) &&& 31))), .int z2, .int z3])), (hg, .inr (4, [.ref nd, .ref kd, .ref lk, .ref vw])), (kd, .inl (cs 0, 8, .inl kf))] H := hP
        replace hD : va_D A [(ha, .inr (0, [.ref hr, .ref hg, .int (z1 ||| ((nI 1) <<< ((nI j) &&& 31))), .int z2, .int z3])), (hg, .inr (4, [.ref nd, .ref kd, .ref lk, .ref vw])), (kd, .inl (cs 0, 8, .inl kf))] := hD
        refine lv_goto (tgt := 80) hx hb dX0_hear_59 (by decide) ?_
        exact xretv C (⟨(z1 ||| ((nI 1) <<< ((nI j) &&& 31))), z2, z3⟩) trivial hP hD hS (Nat.le_of_ble_eq_true rfl) (Nat.le_of_ble_eq_true rfl) dX0_hear_80
    · -- 18 f
      refine lv_aload_n hx hb dX0_hear_21 rfl (lv_at hl 1 rfl) ?_
      refine lv_dup hx hb dX0_hear_22 rfl ?_
      refine xget C hP 0 rfl rfl zuX0 4 (by decide) zw2_3 rfl dX0_hear_23 ?_
      refine lv_iconst (v := nI 1) hx hb dX0_hear_26 (by decide) ?_
      refine lv_iload_n hx hb dX0_hear_27 rfl (lv_at hl 2 rfl) ?_
      refine lv_ishl hx hb dX0_hear_28 ?_
      refine lv_ior hx hb dX0_hear_29 ?_
      refine xput C hP hD hS 0 rfl rfl zuX0 tyX0 tyX0_ok nmX0 4 (by decide) zw2_3 rfl rfl rfl (Nat.le_of_ble_eq_true rfl) dX0_hear_30 ?_
      clear hP hD hS
      try clear locs
      try clear H
      intro H locs hP hD hS
      replace hP : va_P D vwCl [(ha, .inr (0, [.ref hr, .ref hg, .int z1, .int z2, .int (z3 ||| ((nI 1) <<< ((nI j) &&& 31)))])), (hg, .inr (4, [.ref nd, .ref kd, .ref lk, .ref vw])), (kd, .inl (cs 0, 8, .inl kf))] H := hP
      replace hD : va_D A [(ha, .inr (0, [.ref hr, .ref hg, .int z1, .int z2, .int (z3 ||| ((nI 1) <<< ((nI j) &&& 31)))])), (hg, .inr (4, [.ref nd, .ref kd, .ref lk, .ref vw])), (kd, .inl (cs 0, 8, .inl kf))] := hD
      refine lv_iload hx hb dX0_hear_33 (lv_at hl 0 rfl) ?_
      refine lv_iload_n hx hb dX0_hear_35 rfl (lv_at hl 3 rfl) ?_
      refine lv_iload_n hx hb dX0_hear_36 rfl (lv_at hl 4 rfl) ?_
      refine xi (wr := [(ha, .inr (0, [.ref hr, .ref hg, .int z1, .int z2, .int (z3 ||| ((nI 1) <<< ((nI j) &&& 31)))])), (hg, .inr (4, [.ref nd, .ref kd, .ref lk, .ref vw])), (kd, .inl (cs 0, 8, .inl kf))]) (xS (As := [.int (kf j), .int x, .int y]) (rest := []) C (c_X0_saying l D cs (kf j) x y) kX0_56 hP hD [] rfl (by decide) ⟨Nat.le_of_ble_eq_true rfl, Nat.le_of_ble_eq_true rfl⟩ rfl hl.1 rfl (Nat.le_of_ble_eq_true rfl) dX0_hear_37 ⟨Nat.le_of_ble_eq_true rfl, Nat.le_of_ble_eq_true rfl⟩) hP hD hS hA [] [0, 1, 2] rfl rfl (by decide) (by decide) ?_
      clear hP hD hS
      try clear locs
      try clear H
      intro r_11 u_12 H locs hw_r_11 hP hD hS
      refine W.widen (k := 0) (n := 0) (Nat.le_of_ble_eq_true rfl) (Nat.le_of_ble_eq_true rfl) ?_
      replace hP : va_P D vwCl [(ha, .inr (0, [.ref hr, .ref hg, .int z1, .int z2, .int (z3 ||| ((nI 1) <<< ((nI j) &&& 31)))])), (hg, .inr (4, [.ref nd, .ref kd, .ref lk, .ref vw])), (kd, .inl (cs 0, 8, .inl kf))] H := hP
      replace hD : va_D A [(ha, .inr (0, [.ref hr, .ref hg, .int z1, .int z2, .int (z3 ||| ((nI 1) <<< ((nI j) &&& 31)))])), (hg, .inr (4, [.ref nd, .ref kd, .ref lk, .ref vw])), (kd, .inl (cs 0, 8, .inl kf))] := hD
      refine lv_istore (lv' := [(5, .int r_11), (4, .int (kf j)), (0, .ref ha), (1, .int (nI j)), (2, .int x), (3, .int y)]) hx hb dX0_hear_40 hl (by decide) rfl ?_
      clear hl
      try clear ls
      intro ls hl
      refine lv_iload hx hb dX0_hear_42 (lv_at hl 0 rfl) ?_
      refine lv_if_ne (tgt := 62) hx hb dX0_hear_44 (by decide) (fun c_13 => ?_) (fun c_13 => ?_)
      · -- 44 t
        refine lv_iload hx hb dX0_hear_62 (lv_at hl 0 rfl) ?_
        refine lv_iconst (v := nI 1) hx hb dX0_hear_64 (by decide) ?_
        refine lv_icmp_ne (tgt := 80) hx hb dX0_hear_65 (by decide) (fun c_14 => ?_) (fun c_14 => ?_)
        · -- 65 t
          exact xretv C (⟨z1, z2, (z3 ||| ((nI 1) <<< ((nI j) &&& 31)))⟩) trivial hP hD hS (Nat.le_of_ble_eq_true rfl) (Nat.le_of_ble_eq_true rfl) dX0_hear_80
        · -- 65 f
          refine lv_aload_n hx hb dX0_hear_68 rfl (lv_at hl 2 rfl) ?_
          refine lv_dup hx hb dX0_hear_69 rfl ?_
          refine xget C hP 0 rfl rfl zuX0 3 (by decide) zw2_1 rfl dX0_hear_70 ?_
          refine lv_iconst (v := nI 1) hx hb dX0_hear_73 (by decide) ?_
          refine lv_iload_n hx hb dX0_hear_74 rfl (lv_at hl 3 rfl) ?_
          refine lv_ishl hx hb dX0_hear_75 ?_
          refine lv_ior hx hb dX0_hear_76 ?_
          refine xput C hP hD hS 0 rfl rfl zuX0 tyX0 tyX0_ok nmX0 3 (by decide) zw2_1 rfl rfl rfl (Nat.le_of_ble_eq_true rfl) dX0_hear_77 ?_
          clear hP hD hS
          try clear locs
          try clear H
          intro H locs hP hD hS
          replace hP : va_P D vwCl [(ha, .inr (0, [.ref hr, .ref hg, .int z1, .int (z2 ||| ((nI 1) <<< ((nI j) &&& 31))), .int (z3 ||| ((nI 1) <<< ((nI j) &&& 31)))])), (hg, .inr (4, [.ref nd, .ref kd, .ref lk, .ref vw])), (kd, .inl (cs 0, 8, .inl kf))] H := hP
          replace hD : va_D A [(ha, .inr (0, [.ref hr, .ref hg, .int z1, .int (z2 ||| ((nI 1) <<< ((nI j) &&& 31))), .int (z3 ||| ((nI 1) <<< ((nI j) &&& 31)))])), (hg, .inr (4, [.ref nd, .ref kd, .ref lk, .ref vw])), (kd, .inl (cs 0, 8, .inl kf))] := hD
          exact xretv C (⟨z1, (z2 ||| ((nI 1) <<< ((nI j) &&& 31))), (z3 ||| ((nI 1) <<< ((nI j) &&& 31)))⟩) trivial hP hD hS (Nat.le_of_ble_eq_true rfl) (Nat.le_of_ble_eq_true rfl) dX0_hear_80
      · -- 44 f
        refine lv_aload_n hx hb dX0_hear_47 rfl (lv_at hl 2 rfl) ?_
        refine lv_dup hx hb dX0_hear_48 rfl ?_
        refine xget C hP 0 rfl rfl zuX0 2 (by decide) zw1_239 rfl dX0_hear_49 ?_
        refine lv_iconst (v := nI 1) hx hb dX0_hear_52 (by decide) ?_
        refine lv_iload_n hx hb dX0_hear_53 rfl (lv_at hl 3 rfl) ?_
        refine lv_ishl hx hb dX0_hear_54 ?_
        refine lv_ior hx hb dX0_hear_55 ?_
        refine xput C hP hD hS 0 rfl rfl zuX0 tyX0 tyX0_ok nmX0 2 (by decide) zw1_239 rfl rfl rfl (Nat.le_of_ble_eq_true rfl) dX0_hear_56 ?_
        clear hP hD hS
        try clear locs
        try clear H
        intro H locs hP hD hS
        replace hP : va_P D vwCl [(ha, .inr (0, [.ref hr, .ref hg, .int (z1 ||| ((nI 1) <<< ((nI j) &&& 31))), .int z2, .int (z3 ||| ((nI 1) <<< ((nI j) &&& 31)))])), (hg, .inr (4, [.ref nd, .ref kd, .ref lk, .ref vw])), (kd, .inl (cs 0, 8, .inl kf))] H := hP
        replace hD : va_D A [(ha, .inr (0, [.ref hr, .ref hg, .int (z1 ||| ((nI 1) <<< ((nI j) &&& 31))), .int z2, .int (z3 ||| ((nI 1) <<< ((nI j) &&& 31)))])), (hg, .inr (4, [.ref nd, .ref kd, .ref lk, .ref vw])), (kd, .inl (cs 0, 8, .inl kf))] := hD
        refine lv_goto (tgt := 80) hx hb dX0_hear_59 (by decide) ?_
        exact xretv C (⟨(z1 ||| ((nI 1) <<< ((nI j) &&& 31))), z2, (z3 ||| ((nI 1) <<< ((nI j) &&& 31)))⟩) trivial hP hD hS (Nat.le_of_ble_eq_true rfl) (Nat.le_of_ble_eq_true rfl) dX0_hear_80

set_option maxHeartbeats 4000000 in
set_option maxRecDepth 100000 in
theorem c_X0_listen (l : Launch) (D : va_G) (cs : Nat → ClassId) (ha hg : Nat) (hr sm ca n k al be se : Nat) (ea pr : Int32) (z1 z2 z3 : Int32) (nd kd lk vw : Nat) (kf : Nat → Int32) (lf : Nat → Int32) (a nn b i : Nat) (f : Nat → Int32) (hn : n ≤ 8) (hi : i < 8) (hb : b + 8 ≤ nn) (hnn : nn < 2 ^ 20) : xMet l D cs yX0_listen cX0_listen 7 (some .boolean) ({ frames := 2, cells := 0, slots := 0, locals := 47 } : Room) [.ref ha, .ref a, .int (nI b), .int (nI i)] [(ha, .inr (0, [.ref hr, .ref hg, .int z1, .int z2, .int z3])), (hr, .inr (7, [.int (nI n), .int (nI k), .int (nI al), .int (nI be), .int ea, .int pr, .ref sm, .int (nI se), .ref ca])), (hg, .inr (4, [.ref nd, .ref kd, .ref lk, .ref vw])), (kd, .inl (cs 0, 8, .inl kf)), (lk, .inl (cs 0, 8, .inl lf)), (a, .inl (cs 0, nn, .inl f))] (xQi D (fun (r : Int32) (u : Int32 × Int32 × Int32) => match u with | (y1, y2, y3) => True) (fun (u : Int32 × Int32 × Int32) => match u with | (y1, y2, y3) => [(ha, .inr (0, [.ref hr, .ref hg, .int y1, .int y2, .int y3])), (hr, .inr (7, [.int (nI n), .int (nI k), .int (nI al), .int (nI be), .int ea, .int pr, .ref sm, .int (nI se), .ref ca])), (hg, .inr (4, [.ref nd, .ref kd, .ref lk, .ref vw])), (kd, .inl (cs 0, 8, .inl kf)), (lk, .inl (cs 0, 8, .inl lf)), (a, .inl (cs 0, nn, .inl f))])) := by
  refine xMet.intro (by decide) (Nat.le_of_ble_eq_true rfl) ?_
  intro p e s m args below meth c A ls C hP hD hS hl
  have hx := C.1
  have hb := C.2.1
  have hz := C.2.2.2.2.1
  have hown := C.2.2.2.1
  have hA := C.2.2.2.2.2.2.2.2.2
  have hAO := C.2.2.2.2.2.2.2.2.1.2.2
  replace hl : lv_has ls 7 [(0, .ref ha), (1, .ref a), (2, .int (nI b)), (3, .int (nI i))] := hl
  obtain ⟨H, hH⟩ : ∃ H, H = s.heap := ⟨_, rfl⟩
  replace hP : va_P D vwCl [(ha, .inr (0, [.ref hr, .ref hg, .int z1, .int z2, .int z3])), (hr, .inr (7, [.int (nI n), .int (nI k), .int (nI al), .int (nI be), .int ea, .int pr, .ref sm, .int (nI se), .ref ca])), (hg, .inr (4, [.ref nd, .ref kd, .ref lk, .ref vw])), (kd, .inl (cs 0, 8, .inl kf)), (lk, .inl (cs 0, 8, .inl lf)), (a, .inl (cs 0, nn, .inl f))] H := by rw [hH]; exact hP
  replace hS : va_S A s.heap H [] := by rw [hH]; exact hS
  obtain ⟨locs, hlocs⟩ : ∃ z : List Loc, z = [] := ⟨_, rfl⟩
  rw [← hlocs] at hS
  suffices hW : W p l e ({ frames := 2, cells := 0, slots := 0, locals := 47 } : Room) s m args below meth c H locs 0 0 (MQ below ((xQi D (fun (r : Int32) (u : Int32 × Int32 × Int32) => match u with | (y1, y2, y3) => True) (fun (u : Int32 × Int32 × Int32) => match u with | (y1, y2, y3) => [(ha, .inr (0, [.ref hr, .ref hg, .int y1, .int y2, .int y3])), (hr, .inr (7, [.int (nI n), .int (nI k), .int (nI al), .int (nI be), .int ea, .int pr, .ref sm, .int (nI se), .ref ca])), (hg, .inr (4, [.ref nd, .ref kd, .ref lk, .ref vw])), (kd, .inl (cs 0, 8, .inl kf)), (lk, .inl (cs 0, 8, .inl lf)), (a, .inl (cs 0, nn, .inl f))])) A) args s 0 0 A) (F0 m 0 ls []) by rw [hlocs, hH] at hW; exact hW
  clear hH hlocs
  refine lv_aload_n hx hb dX0_listen_0 rfl (lv_at hl 0 rfl) ?_
  refine lv_iconst (v := nI 0) hx hb dX0_listen_1 (by decide) ?_
  refine xput C hP hD hS 0 rfl rfl zuX0 tyX0 tyX0_ok nmX0 2 (by decide) zw1_239 rfl rfl rfl (Nat.le_of_ble_eq_true rfl) dX0_listen_2 ?_
  clear hP hD hS
  try clear locs
  try clear H
  intro H locs hP hD hS
  replace hP : va_P D vwCl [(ha, .inr (0, [.ref hr, .ref hg, .int (nI 0), .int z2, .int z3])), (hr, .inr (7, [.int (nI n), .int (nI k), .int (nI al), .int (nI be), .int ea, .int pr, .ref sm, .int (nI se), .ref ca])), (hg, .inr (4, [.ref nd, .ref kd, .ref lk, .ref vw])), (kd, .inl (cs 0, 8, .inl kf)), (lk, .inl (cs 0, 8, .inl lf)), (a, .inl (cs 0, nn, .inl f))] H := hP
  replace hD : va_D A [(ha, .inr (0, [.ref hr, .ref hg, .int (nI 0), .int z2, .int z3])), (hr, .inr (7, [.int (nI n), .int (nI k), .int (nI al), .int (nI be), .int ea, .int pr, .ref sm, .int (nI se), .ref ca])), (hg, .inr (4, [.ref nd, .ref kd, .ref lk, .ref vw])), (kd, .inl (cs 0, 8, .inl kf)), (lk, .inl (cs 0, 8, .inl lf)), (a, .inl (cs 0, nn, .inl f))] := hD
  refine lv_aload_n hx hb dX0_listen_5 rfl (lv_at hl 0 rfl) ?_
  refine lv_iconst (v := nI 0) hx hb dX0_listen_6 (by decide) ?_
  refine xput C hP hD hS 0 rfl rfl zuX0 tyX0 tyX0_ok nmX0 3 (by decide) zw2_1 rfl rfl rfl (Nat.le_of_ble_eq_true rfl) dX0_listen_7 ?_
  clear hP hD hS
  try clear locs
  try clear H
  intro H locs hP hD hS
  replace hP : va_P D vwCl [(ha, .inr (0, [.ref hr, .ref hg, .int (nI 0), .int (nI 0), .int z3])), (hr, .inr (7, [.int (nI n), .int (nI k), .int (nI al), .int (nI be), .int ea, .int pr, .ref sm, .int (nI se), .ref ca])), (hg, .inr (4, [.ref nd, .ref kd, .ref lk, .ref vw])), (kd, .inl (cs 0, 8, .inl kf)), (lk, .inl (cs 0, 8, .inl lf)), (a, .inl (cs 0, nn, .inl f))] H := hP
  replace hD : va_D A [(ha, .inr (0, [.ref hr, .ref hg, .int (nI 0), .int (nI 0), .int z3])), (hr, .inr (7, [.int (nI n), .int (nI k), .int (nI al), .int (nI be), .int ea, .int pr, .ref sm, .int (nI se), .ref ca])), (hg, .inr (4, [.ref nd, .ref kd, .ref lk, .ref vw])), (kd, .inl (cs 0, 8, .inl kf)), (lk, .inl (cs 0, 8, .inl lf)), (a, .inl (cs 0, nn, .inl f))] := hD
  refine lv_aload_n hx hb dX0_listen_10 rfl (lv_at hl 0 rfl) ?_
  refine lv_iconst (v := nI 0) hx hb dX0_listen_11 (by decide) ?_
  refine xput C hP hD hS 0 rfl rfl zuX0 tyX0 tyX0_ok nmX0 4 (by decide) zw2_3 rfl rfl rfl (Nat.le_of_ble_eq_true rfl) dX0_listen_12 ?_
  clear hP hD hS
  try clear locs
  try clear H
  intro H locs hP hD hS
  replace hP : va_P D vwCl [(ha, .inr (0, [.ref hr, .ref hg, .int (nI 0), .int (nI 0), .int (nI 0)])), (hr, .inr (7, [.int (nI n), .int (nI k), .int (nI al), .int (nI be), .int ea, .int pr, .ref sm, .int (nI se), .ref ca])), (hg, .inr (4, [.ref nd, .ref kd, .ref lk, .ref vw])), (kd, .inl (cs 0, 8, .inl kf)), (lk, .inl (cs 0, 8, .inl lf)), (a, .inl (cs 0, nn, .inl f))] H := hP
  replace hD : va_D A [(ha, .inr (0, [.ref hr, .ref hg, .int (nI 0), .int (nI 0), .int (nI 0)])), (hr, .inr (7, [.int (nI n), .int (nI k), .int (nI al), .int (nI be), .int ea, .int pr, .ref sm, .int (nI se), .ref ca])), (hg, .inr (4, [.ref nd, .ref kd, .ref lk, .ref vw])), (kd, .inl (cs 0, 8, .inl kf)), (lk, .inl (cs 0, 8, .inl lf)), (a, .inl (cs 0, nn, .inl f))] := hD
  refine lv_aload_n hx hb dX0_listen_15 rfl (lv_at hl 1 rfl) ?_
  refine lv_iload_n hx hb dX0_listen_16 rfl (lv_at hl 2 rfl) ?_
  refine lv_iload_n hx hb dX0_listen_17 rfl (lv_at hl 3 rfl) ?_
  refine lv_iadd hx hb dX0_listen_18 ?_
  refine lv_topi (nm_r (e' := nI (b + i)) (nI_add _ _) ?_)
  refine xiald C hP 5 rfl (b + i) rfl (by omega) (by omega) dX0_listen_19 ?_
  refine lv_istore (lv' := [(4, .int (f (b + i))), (0, .ref ha), (1, .ref a), (2, .int (nI b)), (3, .int (nI i))]) hx hb dX0_listen_20 hl (by decide) rfl ?_
  clear hl
  try clear ls
  intro ls hl
  refine lv_iload hx hb dX0_listen_22 (lv_at hl 0 rfl) ?_
  refine xi (wr := [(ha, .inr (0, [.ref hr, .ref hg, .int (nI 0), .int (nI 0), .int (nI 0)])), (hr, .inr (7, [.int (nI n), .int (nI k), .int (nI al), .int (nI be), .int ea, .int pr, .ref sm, .int (nI se), .ref ca])), (hg, .inr (4, [.ref nd, .ref kd, .ref lk, .ref vw])), (kd, .inl (cs 0, 8, .inl kf)), (lk, .inl (cs 0, 8, .inl lf)), (a, .inl (cs 0, nn, .inl f))]) (xS (As := [.int (f (b + i))]) (rest := []) C (c_X4_colourOf l D cs (f (b + i))) kX0_29 hP hD [] rfl (by decide) ⟨Nat.le_of_ble_eq_true rfl, Nat.le_of_ble_eq_true rfl⟩ rfl hl.1 rfl (Nat.le_of_ble_eq_true rfl) dX0_listen_24 ⟨Nat.le_of_ble_eq_true rfl, Nat.le_of_ble_eq_true rfl⟩) hP hD hS hA [] [0, 1, 2, 3, 4, 5] rfl rfl (by decide) (by decide) ?_
  clear hP hD hS
  try clear locs
  try clear H
  intro r_1 u_2 H locs hw_r_1 hP hD hS
  have hw_r_1 : r_1 = ((f (b + i)) &&& nI 3) - nI 1 := hw_r_1
  refine W.widen (k := 0) (n := 0) (Nat.le_of_ble_eq_true rfl) (Nat.le_of_ble_eq_true rfl) ?_
  replace hP : va_P D vwCl [(ha, .inr (0, [.ref hr, .ref hg, .int (nI 0), .int (nI 0), .int (nI 0)])), (hr, .inr (7, [.int (nI n), .int (nI k), .int (nI al), .int (nI be), .int ea, .int pr, .ref sm, .int (nI se), .ref ca])), (hg, .inr (4, [.ref nd, .ref kd, .ref lk, .ref vw])), (kd, .inl (cs 0, 8, .inl kf)), (lk, .inl (cs 0, 8, .inl lf)), (a, .inl (cs 0, nn, .inl f))] H := hP
  replace hD : va_D A [(ha, .inr (0, [.ref hr, .ref hg, .int (nI 0), .int (nI 0), .int (nI 0)])), (hr, .inr (7, [.int (nI n), .int (nI k), .int (nI al), .int (nI be), .int ea, .int pr, .ref sm, .int (nI se), .ref ca])), (hg, .inr (4, [.ref nd, .ref kd, .ref lk, .ref vw])), (kd, .inl (cs 0, 8, .inl kf)), (lk, .inl (cs 0, 8, .inl lf)), (a, .inl (cs 0, nn, .inl f))] := hD
  refine lv_istore (lv' := [(5, .int r_1), (4, .int (f (b + i))), (0, .ref ha), (1, .ref a), (2, .int (nI b)), (3, .int (nI i))]) hx hb dX0_listen_27 hl (by decide) rfl ?_
  clear hl
  try clear ls
  intro ls hl
  refine lv_aload_n hx hb dX0_listen_29 rfl (lv_at hl 2 rfl) ?_
  refine xget C hP 0 rfl rfl zuX0 1 (by decide) zw1_238 rfl dX0_listen_30 ?_
  refine xget C hP 2 rfl rfl zuX4 1 (by decide) zw1_173 rfl dX0_listen_33 ?_
  refine lv_iload_n hx hb dX0_listen_36 rfl (lv_at hl 5 rfl) ?_
  refine xiald C hP 3 rfl i rfl (by omega) (by decide) dX0_listen_37 ?_
  refine lv_if_ne (tgt := 55) hx hb dX0_listen_38 (by decide) (fun c_3 => ?_) (fun c_3 => ?_)
  · -- 38 t
    refine lv_iconst (v := nI 0) hx hb dX0_listen_55 (by decide) ?_
    exact xreti C (⟨(nI 0), (nI 0), (nI 0)⟩) trivial hP hD hS (Nat.le_of_ble_eq_true rfl) (Nat.le_of_ble_eq_true rfl) (by decide) dX0_listen_56
  · -- 38 f
    refine lv_iload hx hb dX0_listen_41 (lv_at hl 1 rfl) ?_
    refine xi (wr := [(ha, .inr (0, [.ref hr, .ref hg, .int (nI 0), .int (nI 0), .int (nI 0)])), (hr, .inr (7, [.int (nI n), .int (nI k), .int (nI al), .int (nI be), .int ea, .int pr, .ref sm, .int (nI se), .ref ca])), (hg, .inr (4, [.ref nd, .ref kd, .ref lk, .ref vw])), (kd, .inl (cs 0, 8, .inl kf)), (lk, .inl (cs 0, 8, .inl lf)), (a, .inl (cs 0, nn, .inl f))]) (xS (As := [.int (f (b + i))]) (rest := []) C (c_X4_isDecided l D cs (f (b + i))) kX0_39 hP hD [] rfl (by decide) ⟨Nat.le_of_ble_eq_true rfl, Nat.le_of_ble_eq_true rfl⟩ rfl hl.1 rfl (Nat.le_of_ble_eq_true rfl) dX0_listen_43 ⟨Nat.le_of_ble_eq_true rfl, Nat.le_of_ble_eq_true rfl⟩) hP hD hS hA [] [0, 1, 2, 3, 4, 5] rfl rfl (by decide) (by decide) ?_
    clear hP hD hS
    try clear locs
    try clear H
    intro r_4 u_5 H locs hw_r_4 hP hD hS
    have hw_r_4 : r_4 = if (f (b + i)) &&& nI 268435456 = 0 then nI 0 else nI 1 := hw_r_4
    refine W.widen (k := 0) (n := 0) (Nat.le_of_ble_eq_true rfl) (Nat.le_of_ble_eq_true rfl) ?_
    replace hP : va_P D vwCl [(ha, .inr (0, [.ref hr, .ref hg, .int (nI 0), .int (nI 0), .int (nI 0)])), (hr, .inr (7, [.int (nI n), .int (nI k), .int (nI al), .int (nI be), .int ea, .int pr, .ref sm, .int (nI se), .ref ca])), (hg, .inr (4, [.ref nd, .ref kd, .ref lk, .ref vw])), (kd, .inl (cs 0, 8, .inl kf)), (lk, .inl (cs 0, 8, .inl lf)), (a, .inl (cs 0, nn, .inl f))] H := hP
    replace hD : va_D A [(ha, .inr (0, [.ref hr, .ref hg, .int (nI 0), .int (nI 0), .int (nI 0)])), (hr, .inr (7, [.int (nI n), .int (nI k), .int (nI al), .int (nI be), .int ea, .int pr, .ref sm, .int (nI se), .ref ca])), (hg, .inr (4, [.ref nd, .ref kd, .ref lk, .ref vw])), (kd, .inl (cs 0, 8, .inl kf)), (lk, .inl (cs 0, 8, .inl lf)), (a, .inl (cs 0, nn, .inl f))] := hD
    refine lv_if_ne (tgt := 55) hx hb dX0_listen_46 (by decide) (fun c_6 => ?_) (fun c_6 => ?_)
    · -- 46 t
      refine lv_iconst (v := nI 0) hx hb dX0_listen_55 (by decide) ?_
      exact xreti C (⟨(nI 0), (nI 0), (nI 0)⟩) trivial hP hD hS (Nat.le_of_ble_eq_true rfl) (Nat.le_of_ble_eq_true rfl) (by decide) dX0_listen_56
    · -- 46 f
      refine lv_iload hx hb dX0_listen_49 (lv_at hl 0 rfl) ?_
      refine lv_iconst (v := (-1)) hx hb dX0_listen_51 (by decide) ?_
      refine lv_icmp_ne (tgt := 57) hx hb dX0_listen_52 (by decide) (fun c_7 => ?_) (fun c_7 => ?_)
      · -- 52 t
        refine lv_iconst (v := nI 0) hx hb dX0_listen_57 (by decide) ?_
        refine lv_istore (lv' := [(6, .int (nI 0)), (5, .int r_1), (4, .int (f (b + i))), (0, .ref ha), (1, .ref a), (2, .int (nI b)), (3, .int (nI i))]) hx hb dX0_listen_58 hl (by decide) rfl ?_
        clear hl
        try clear ls
        intro ls hl
        have loop_8 : ∀ (n_loop_8 : Nat) (o : Nat) (u1 : Int32) (u2 : Int32) (u3 : Int32), (o ≤ n) → n - o < n_loop_8 → ∀ (H : Heap) (locs : List Loc) (ls : Array Slot), va_P D vwCl [(ha, .inr (0, [.ref hr, .ref hg, .int u1, .int u2, .int u3])), (hr, .inr (7, [.int (nI n), .int (nI k), .int (nI al), .int (nI be), .int ea, .int pr, .ref sm, .int (nI se), .ref ca])), (hg, .inr (4, [.ref nd, .ref kd, .ref lk, .ref vw])), (kd, .inl (cs 0, 8, .inl kf)), (lk, .inl (cs 0, 8, .inl lf)), (a, .inl (cs 0, nn, .inl f))] H → va_D A [(ha, .inr (0, [.ref hr, .ref hg, .int u1, .int u2, .int u3])), (hr, .inr (7, [.int (nI n), .int (nI k), .int (nI al), .int (nI be), .int ea, .int pr, .ref sm, .int (nI se), .ref ca])), (hg, .inr (4, [.ref nd, .ref kd, .ref lk, .ref vw])), (kd, .inl (cs 0, 8, .inl kf)), (lk, .inl (cs 0, 8, .inl lf)), (a, .inl (cs 0, nn, .inl f))] → va_S A s.heap H locs → lv_has ls 7 [(6, .int (nI o)), (5, .int r_1), (4, .int (f (b + i))), (0, .ref ha), (1, .ref a), (2, .int (nI b)), (3, .int (nI i))] → W p l e ({ frames := 2, cells := 0, slots := 0, locals := 47 } : Room) s m args below meth c H locs 0 0 (MQ below ((xQi D (fun (r : Int32) (u : Int32 × Int32 × Int32) => match u with | (y1, y2, y3) => True) (fun (u : Int32 × Int32 × Int32) => match u with | (y1, y2, y3) => [(ha, .inr (0, [.ref hr, .ref hg, .int y1, .int y2, .int y3])), (hr, .inr (7, [.int (nI n), .int (nI k), .int (nI al), .int (nI be), .int ea, .int pr, .ref sm, .int (nI se), .ref ca])), (hg, .inr (4, [.ref nd, .ref kd, .ref lk, .ref vw])), (kd, .inl (cs 0, 8, .inl kf)), (lk, .inl (cs 0, 8, .inl lf)), (a, .inl (cs 0, nn, .inl f))])) A) args s 0 0 A) (F0 m 60 ls []) := by
          intro n_loop_8
          induction n_loop_8 with
          | zero => intro o u1 u2 u3 h_o hlt H locs ls hP hD hS hl; exact absurd hlt (Nat.not_lt_zero _)
          | succ n_loop_8 ih_loop_8 =>
            intro o u1 u2 u3 h_o hlt_loop_8 H locs ls hP hD hS hl
            refine lv_iload hx hb dX0_listen_60 (lv_at hl 0 rfl) ?_
            refine lv_aload_n hx hb dX0_listen_62 rfl (lv_at hl 3 rfl) ?_
            refine xget C hP 0 rfl rfl zuX0 0 (by decide) zw1_237 rfl dX0_listen_63 ?_
            refine xget C hP 1 rfl rfl zuX7 0 (by decide) zw1_76 rfl dX0_listen_66 ?_
            refine lv_icmp_ge (tgt := 114) hx hb dX0_listen_69 (by decide) (fun c_9 => ?_) (fun c_9 => ?_)
            · -- 69 t
              have fc_9 : n ≤ o := nf_le (by omega) (by omega) c_9
              refine lv_iconst (v := nI 1) hx hb dX0_listen_114 (by decide) ?_
              exact xreti C (⟨u1, u2, u3⟩) trivial hP hD hS (Nat.le_of_ble_eq_true rfl) (Nat.le_of_ble_eq_true rfl) (by decide) dX0_listen_115
            · -- 69 f
              have fc_9 : o < n := nf_nle (by omega) (by omega) c_9
              refine lv_iload hx hb dX0_listen_72 (lv_at hl 0 rfl) ?_
              refine lv_iload_n hx hb dX0_listen_74 rfl (lv_at hl 6 rfl) ?_
              refine lv_icmp_eq (tgt := 108) hx hb dX0_listen_75 (by decide) (fun c_10 => ?_) (fun c_10 => ?_)
              · -- 75 t
                have fc_10 : o = i := nf_eq (by omega) (by omega) c_10
                refine lv_iinc (v := nI (o + 1)) (lv' := [(6, .int (nI (o + 1))), (5, .int r_1), (4, .int (f (b + i))), (0, .ref ha), (1, .ref a), (2, .int (nI b)), (3, .int (nI i))]) hx hb dX0_listen_108 hl (k := 0) rfl (nI_add o 1) (by decide) rfl ?_
                clear hl
                try clear ls
                intro ls hl
                refine lv_goto (tgt := 60) hx hb dX0_listen_111 (by decide) ?_
                exact ih_loop_8 (o + 1) u1 u2 u3 (by omega) (by omega) H locs ls hP hD hS (lv_sub hl [0, 1, 2, 3, 4, 5, 6] rfl)
              · -- 75 f
                have fc_10 : o ≠ i := nf_ne (by omega) (by omega) c_10
                refine lv_aload_n hx hb dX0_listen_78 rfl (lv_at hl 3 rfl) ?_
                refine xget C hP 0 rfl rfl zuX0 1 (by decide) zw1_238 rfl dX0_listen_79 ?_
                refine lv_iload_n hx hb dX0_listen_82 rfl (lv_at hl 6 rfl) ?_
                refine lv_iload hx hb dX0_listen_83 (lv_at hl 0 rfl) ?_
                refine xi (wr := [(ha, .inr (0, [.ref hr, .ref hg, .int u1, .int u2, .int u3])), (hr, .inr (7, [.int (nI n), .int (nI k), .int (nI al), .int (nI be), .int ea, .int pr, .ref sm, .int (nI se), .ref ca])), (kd, .inl (cs 0, 8, .inl kf)), (a, .inl (cs 0, nn, .inl f))]) (xV (As := [.int (nI i), .int (nI o)]) (rest := []) C (c_X4_isLinked l D cs hg nd kd lk vw lf i o (by first | omega | decide)) kX0_48 hP hD [2, 4] rfl (by decide) 0 rfl rfl rfl ⟨Nat.le_of_ble_eq_true rfl, Nat.le_of_ble_eq_true rfl⟩ rfl hl.1 rfl (Nat.le_of_ble_eq_true rfl) dX0_listen_85 ⟨Nat.le_of_ble_eq_true rfl, Nat.le_of_ble_eq_true rfl⟩) hP hD hS hA [2, 4] [0, 1, 3, 5] rfl rfl (by decide) (by decide) ?_
                clear hP hD hS
                try clear locs
                try clear H
                intro r_11 u_12 H locs hw_r_11 hP hD hS
                have hw_r_11 : r_11 = if lf i >>> (nI o &&& 31) &&& nI 1 = nI 1 then nI 1 else nI 0 := hw_r_11
                refine W.widen (k := 0) (n := 0) (Nat.le_of_ble_eq_true rfl) (Nat.le_of_ble_eq_true rfl) ?_
                replace hP : va_P D vwCl [(ha, .inr (0, [.ref hr, .ref hg, .int u1, .int u2, .int u3])), (hr, .inr (7, [.int (nI n), .int (nI k), .int (nI al), .int (nI be), .int ea, .int pr, .ref sm, .int (nI se), .ref ca])), (kd, .inl (cs 0, 8, .inl kf)), (a, .inl (cs 0, nn, .inl f)), (hg, .inr (4, [.ref nd, .ref kd, .ref lk, .ref vw])), (lk, .inl (cs 0, 8, .inl lf))] H := hP
                replace hD : va_D A [(ha, .inr (0, [.ref hr, .ref hg, .int u1, .int u2, .int u3])), (hr, .inr (7, [.int (nI n), .int (nI k), .int (nI al), .int (nI be), .int ea, .int pr, .ref sm, .int (nI se), .ref ca])), (kd, .inl (cs 0, 8, .inl kf)), (a, .inl (cs 0, nn, .inl f)), (hg, .inr (4, [.ref nd, .ref kd, .ref lk, .ref vw])), (lk, .inl (cs 0, 8, .inl lf))] := hD
                refine lv_if_eq (tgt := 108) hx hb dX0_listen_88 (by decide) (fun c_13 => ?_) (fun c_13 => ?_)
                · -- 88 t
                  refine lv_iinc (v := nI (o + 1)) (lv' := [(6, .int (nI (o + 1))), (5, .int r_1), (4, .int (f (b + i))), (0, .ref ha), (1, .ref a), (2, .int (nI b)), (3, .int (nI i))]) hx hb dX0_listen_108 hl (k := 0) rfl (nI_add o 1) (by decide) rfl ?_
                  clear hl
                  try clear ls
                  intro ls hl
                  refine lv_goto (tgt := 60) hx hb dX0_listen_111 (by decide) ?_
                  exact ih_loop_8 (o + 1) u1 u2 u3 (by omega) (by omega) H locs ls (xP_map hP [0, 1, 4, 2, 5, 3] rfl) (hD.sub [0, 1, 4, 2, 5, 3] (by decide) rfl) hS (lv_sub hl [0, 1, 2, 3, 4, 5, 6] rfl)
                · -- 88 f
                  refine lv_aload_n hx hb dX0_listen_91 rfl (lv_at hl 3 rfl) ?_
                  refine lv_iload hx hb dX0_listen_92 (lv_at hl 0 rfl) ?_
                  refine lv_aload_n hx hb dX0_listen_94 rfl (lv_at hl 4 rfl) ?_
                  refine lv_iload_n hx hb dX0_listen_95 rfl (lv_at hl 5 rfl) ?_
                  refine lv_iload hx hb dX0_listen_96 (lv_at hl 0 rfl) ?_
                  refine lv_iadd hx hb dX0_listen_98 ?_
                  refine lv_topi (nm_r (e' := nI (b + o)) (nI_add _ _) ?_)
                  refine xiald C hP 3 rfl (b + o) rfl (by omega) (by omega) dX0_listen_99 ?_
                  refine xi (wr := [(ha, .inr (0, [.ref hr, .ref hg, .int u1, .int u2, .int u3])), (hr, .inr (7, [.int (nI n), .int (nI k), .int (nI al), .int (nI be), .int ea, .int pr, .ref sm, .int (nI se), .ref ca])), (kd, .inl (cs 0, 8, .inl kf)), (a, .inl (cs 0, nn, .inl f)), (hg, .inr (4, [.ref nd, .ref kd, .ref lk, .ref vw])), (lk, .inl (cs 0, 8, .inl lf))]) (xS (As := [.int (f (b + o))]) (rest := [.int (nI o), .ref ha]) C (c_X4_colourOf l D cs (f (b + o))) kX0_29 hP hD [] rfl (by decide) ⟨Nat.le_of_ble_eq_true rfl, Nat.le_of_ble_eq_true rfl⟩ rfl hl.1 rfl (Nat.le_of_ble_eq_true rfl) dX0_listen_100 ⟨Nat.le_of_ble_eq_true rfl, Nat.le_of_ble_eq_true rfl⟩) hP hD hS hA [] [0, 1, 2, 3, 4, 5] rfl rfl (by decide) (by decide) ?_
                  clear hP hD hS
                  try clear locs
                  try clear H
                  intro r_14 u_15 H locs hw_r_14 hP hD hS
                  have hw_r_14 : r_14 = ((f (b + o)) &&& nI 3) - nI 1 := hw_r_14
                  refine W.widen (k := 0) (n := 0) (Nat.le_of_ble_eq_true rfl) (Nat.le_of_ble_eq_true rfl) ?_
                  replace hP : va_P D vwCl [(ha, .inr (0, [.ref hr, .ref hg, .int u1, .int u2, .int u3])), (hr, .inr (7, [.int (nI n), .int (nI k), .int (nI al), .int (nI be), .int ea, .int pr, .ref sm, .int (nI se), .ref ca])), (kd, .inl (cs 0, 8, .inl kf)), (a, .inl (cs 0, nn, .inl f)), (hg, .inr (4, [.ref nd, .ref kd, .ref lk, .ref vw])), (lk, .inl (cs 0, 8, .inl lf))] H := hP
                  replace hD : va_D A [(ha, .inr (0, [.ref hr, .ref hg, .int u1, .int u2, .int u3])), (hr, .inr (7, [.int (nI n), .int (nI k), .int (nI al), .int (nI be), .int ea, .int pr, .ref sm, .int (nI se), .ref ca])), (kd, .inl (cs 0, 8, .inl kf)), (a, .inl (cs 0, nn, .inl f)), (hg, .inr (4, [.ref nd, .ref kd, .ref lk, .ref vw])), (lk, .inl (cs 0, 8, .inl lf))] := hD
                  refine lv_iload hx hb dX0_listen_103 (lv_at hl 1 rfl) ?_
                  refine xv (wr := [(hr, .inr (7, [.int (nI n), .int (nI k), .int (nI al), .int (nI be), .int ea, .int pr, .ref sm, .int (nI se), .ref ca])), (a, .inl (cs 0, nn, .inl f)), (lk, .inl (cs 0, 8, .inl lf))]) (xV (As := [.int (nI o), .int r_14, .int r_1]) (rest := []) C (c_X0_hear l D cs ha hr hg nd kd lk vw u1 u2 u3 kf o r_14 r_1 (by omega)) kX0_52 hP hD [0, 4, 2] rfl (by decide) 0 rfl rfl rfl ⟨Nat.le_of_ble_eq_true rfl, Nat.le_of_ble_eq_true rfl⟩ rfl hl.1 rfl (Nat.le_of_ble_eq_true rfl) dX0_listen_105 ⟨Nat.le_of_ble_eq_true rfl, Nat.le_of_ble_eq_true rfl⟩) hP hD hS hA [0, 4, 2] [1, 3, 5] rfl rfl (by decide) (by decide) ?_
                  clear hP hD hS
                  try clear locs
                  try clear H
                  intro u_17 H locs hw_r_16 hP hD hS
                  obtain ⟨y1_18, y2_19, y3_20⟩ := u_17
                  refine W.widen (k := 0) (n := 0) (Nat.le_of_ble_eq_true rfl) (Nat.le_of_ble_eq_true rfl) ?_
                  replace hP : va_P D vwCl [(hr, .inr (7, [.int (nI n), .int (nI k), .int (nI al), .int (nI be), .int ea, .int pr, .ref sm, .int (nI se), .ref ca])), (a, .inl (cs 0, nn, .inl f)), (lk, .inl (cs 0, 8, .inl lf)), (ha, .inr (0, [.ref hr, .ref hg, .int y1_18, .int y2_19, .int y3_20])), (hg, .inr (4, [.ref nd, .ref kd, .ref lk, .ref vw])), (kd, .inl (cs 0, 8, .inl kf))] H := hP
                  replace hD : va_D A [(hr, .inr (7, [.int (nI n), .int (nI k), .int (nI al), .int (nI be), .int ea, .int pr, .ref sm, .int (nI se), .ref ca])), (a, .inl (cs 0, nn, .inl f)), (lk, .inl (cs 0, 8, .inl lf)), (ha, .inr (0, [.ref hr, .ref hg, .int y1_18, .int y2_19, .int y3_20])), (hg, .inr (4, [.ref nd, .ref kd, .ref lk, .ref vw])), (kd, .inl (cs 0, 8, .inl kf))] := hD
                  refine lv_iinc (v := nI (o + 1)) (lv' := [(6, .int (nI (o + 1))), (5, .int r_1), (4, .int (f (b + i))), (0, .ref ha), (1, .ref a), (2, .int (nI b)), (3, .int (nI i))]) hx hb dX0_listen_108 hl (k := 0) rfl (nI_add o 1) (by decide) rfl ?_
                  clear hl
                  try clear ls
                  intro ls hl
                  refine lv_goto (tgt := 60) hx hb dX0_listen_111 (by decide) ?_
                  exact ih_loop_8 (o + 1) y1_18 y2_19 y3_20 (by omega) (by omega) H locs ls (xP_map hP [3, 0, 4, 5, 2, 1] rfl) (hD.sub [3, 0, 4, 5, 2, 1] (by decide) rfl) hS (lv_sub hl [0, 1, 2, 3, 4, 5, 6] rfl)
        exact loop_8 _ 0 (nI 0) (nI 0) (nI 0) (by omega) (Nat.lt_succ_self _) H locs ls hP hD hS (lv_sub hl [0, 1, 2, 3, 4, 5, 6] rfl)
      · -- 52 f
        refine lv_iconst (v := nI 0) hx hb dX0_listen_55 (by decide) ?_
        exact xreti C (⟨(nI 0), (nI 0), (nI 0)⟩) trivial hP hD hS (Nat.le_of_ble_eq_true rfl) (Nat.le_of_ble_eq_true rfl) (by decide) dX0_listen_56

set_option maxHeartbeats 4000000 in
set_option maxRecDepth 100000 in
theorem c_X0_winner (l : Launch) (D : va_G) (cs : Nat → ClassId) (ha hg : Nat) (hr sm ca n k al be se : Nat) (ea pr : Int32) (z1 z2 z3 : Int32) (x : Int32) : xMet l D cs yX0_winner cX0_winner 2 (some .int) ({ frames := 1, cells := 0, slots := 0, locals := 20 } : Room) [.ref ha, .int x] [(ha, .inr (0, [.ref hr, .ref hg, .int z1, .int z2, .int z3])), (hr, .inr (7, [.int (nI n), .int (nI k), .int (nI al), .int (nI be), .int ea, .int pr, .ref sm, .int (nI se), .ref ca]))] (xQi D (fun (r : Int32) (_u : Unit) => True) (fun (_u : Unit) => [(ha, .inr (0, [.ref hr, .ref hg, .int z1, .int z2, .int z3])), (hr, .inr (7, [.int (nI n), .int (nI k), .int (nI al), .int (nI be), .int ea, .int pr, .ref sm, .int (nI se), .ref ca]))])) := by
  refine xMet.intro (by decide) (Nat.le_of_ble_eq_true rfl) ?_
  intro p e s m args below meth c A ls C hP hD hS hl
  have hx := C.1
  have hb := C.2.1
  have hz := C.2.2.2.2.1
  have hown := C.2.2.2.1
  have hA := C.2.2.2.2.2.2.2.2.2
  have hAO := C.2.2.2.2.2.2.2.2.1.2.2
  replace hl : lv_has ls 2 [(0, .ref ha), (1, .int x)] := hl
  obtain ⟨H, hH⟩ : ∃ H, H = s.heap := ⟨_, rfl⟩
  replace hP : va_P D vwCl [(ha, .inr (0, [.ref hr, .ref hg, .int z1, .int z2, .int z3])), (hr, .inr (7, [.int (nI n), .int (nI k), .int (nI al), .int (nI be), .int ea, .int pr, .ref sm, .int (nI se), .ref ca]))] H := by rw [hH]; exact hP
  replace hS : va_S A s.heap H [] := by rw [hH]; exact hS
  obtain ⟨locs, hlocs⟩ : ∃ z : List Loc, z = [] := ⟨_, rfl⟩
  rw [← hlocs] at hS
  suffices hW : W p l e ({ frames := 1, cells := 0, slots := 0, locals := 20 } : Room) s m args below meth c H locs 0 0 (MQ below ((xQi D (fun (r : Int32) (_u : Unit) => True) (fun (_u : Unit) => [(ha, .inr (0, [.ref hr, .ref hg, .int z1, .int z2, .int z3])), (hr, .inr (7, [.int (nI n), .int (nI k), .int (nI al), .int (nI be), .int ea, .int pr, .ref sm, .int (nI se), .ref ca]))])) A) args s 0 0 A) (F0 m 0 ls []) by rw [hlocs, hH] at hW; exact hW
  clear hH hlocs
  refine lv_iload_n hx hb dX0_winner_0 rfl (lv_at hl 1 rfl) ?_
  refine lv_aload_n hx hb dX0_winner_1 rfl (lv_at hl 0 rfl) ?_
  refine xget C hP 0 rfl rfl zuX0 3 (by decide) zw2_1 rfl dX0_winner_2 ?_
  refine lv_iand hx hb dX0_winner_5 ?_
  refine xi (wr := [(ha, .inr (0, [.ref hr, .ref hg, .int z1, .int z2, .int z3])), (hr, .inr (7, [.int (nI n), .int (nI k), .int (nI al), .int (nI be), .int ea, .int pr, .ref sm, .int (nI se), .ref ca]))]) (xS (As := [.int (x &&& z2)]) (rest := []) C (c_J6_bitCount_0f7a4 l D cs (x &&& z2)) kX0_60 hP hD [] rfl (by decide) ⟨Nat.le_of_ble_eq_true rfl, Nat.le_of_ble_eq_true rfl⟩ rfl hl.1 rfl (Nat.le_of_ble_eq_true rfl) dX0_winner_6 ⟨Nat.le_of_ble_eq_true rfl, Nat.le_of_ble_eq_true rfl⟩) hP hD hS hA [] [0, 1] rfl rfl (by decide) (by decide) ?_
  clear hP hD hS
  try clear locs
  try clear H
  intro r_1 u_2 H locs hw_r_1 hP hD hS
  have hw_r_1 : r_1 = bcF (x &&& z2) := hw_r_1
  refine W.widen (k := 0) (n := 0) (Nat.le_of_ble_eq_true rfl) (Nat.le_of_ble_eq_true rfl) ?_
  replace hP : va_P D vwCl [(ha, .inr (0, [.ref hr, .ref hg, .int z1, .int z2, .int z3])), (hr, .inr (7, [.int (nI n), .int (nI k), .int (nI al), .int (nI be), .int ea, .int pr, .ref sm, .int (nI se), .ref ca]))] H := hP
  replace hD : va_D A [(ha, .inr (0, [.ref hr, .ref hg, .int z1, .int z2, .int z3])), (hr, .inr (7, [.int (nI n), .int (nI k), .int (nI al), .int (nI be), .int ea, .int pr, .ref sm, .int (nI se), .ref ca]))] := hD
  refine lv_aload_n hx hb dX0_winner_9 rfl (lv_at hl 0 rfl) ?_
  refine xget C hP 0 rfl rfl zuX0 0 (by decide) zw1_237 rfl dX0_winner_10 ?_
  refine xget C hP 1 rfl rfl zuX7 2 (by decide) zw1_86 rfl dX0_winner_13 ?_
  refine lv_icmp_lt (tgt := 21) hx hb dX0_winner_16 (by decide) (fun c_3 => ?_) (fun c_3 => ?_)
  · -- 16 t
    refine lv_iload_n hx hb dX0_winner_21 rfl (lv_at hl 1 rfl) ?_
    refine lv_aload_n hx hb dX0_winner_22 rfl (lv_at hl 0 rfl) ?_
    refine xget C hP 0 rfl rfl zuX0 2 (by decide) zw1_239 rfl dX0_winner_23 ?_
    refine lv_iand hx hb dX0_winner_26 ?_
    refine xi (wr := [(ha, .inr (0, [.ref hr, .ref hg, .int z1, .int z2, .int z3])), (hr, .inr (7, [.int (nI n), .int (nI k), .int (nI al), .int (nI be), .int ea, .int pr, .ref sm, .int (nI se), .ref ca]))]) (xS (As := [.int (x &&& z1)]) (rest := []) C (c_J6_bitCount_0f7a4 l D cs (x &&& z1)) kX0_60 hP hD [] rfl (by decide) ⟨Nat.le_of_ble_eq_true rfl, Nat.le_of_ble_eq_true rfl⟩ rfl hl.1 rfl (Nat.le_of_ble_eq_true rfl) dX0_winner_27 ⟨Nat.le_of_ble_eq_true rfl, Nat.le_of_ble_eq_true rfl⟩) hP hD hS hA [] [0, 1] rfl rfl (by decide) (by decide) ?_
    clear hP hD hS
    try clear locs
    try clear H
    intro r_4 u_5 H locs hw_r_4 hP hD hS
    have hw_r_4 : r_4 = bcF (x &&& z1) := hw_r_4
    refine W.widen (k := 0) (n := 0) (Nat.le_of_ble_eq_true rfl) (Nat.le_of_ble_eq_true rfl) ?_
    replace hP : va_P D vwCl [(ha, .inr (0, [.ref hr, .ref hg, .int z1, .int z2, .int z3])), (hr, .inr (7, [.int (nI n), .int (nI k), .int (nI al), .int (nI be), .int ea, .int pr, .ref sm, .int (nI se), .ref ca]))] H := hP
    replace hD : va_D A [(ha, .inr (0, [.ref hr, .ref hg, .int z1, .int z2, .int z3])), (hr, .inr (7, [.int (nI n), .int (nI k), .int (nI al), .int (nI be), .int ea, .int pr, .ref sm, .int (nI se), .ref ca]))] := hD
    refine lv_aload_n hx hb dX0_winner_30 rfl (lv_at hl 0 rfl) ?_
    refine xget C hP 0 rfl rfl zuX0 0 (by decide) zw1_237 rfl dX0_winner_31 ?_
    refine xget C hP 1 rfl rfl zuX7 2 (by decide) zw1_86 rfl dX0_winner_34 ?_
    refine lv_icmp_lt (tgt := 44) hx hb dX0_winner_37 (by decide) (fun c_6 => ?_) (fun c_6 => ?_)
    · -- 37 t
      refine lv_iconst (v := (-1)) hx hb dX0_winner_44 (by decide) ?_
      exact xreti C () trivial hP hD hS (Nat.le_of_ble_eq_true rfl) (Nat.le_of_ble_eq_true rfl) rfl dX0_winner_45
    · -- 37 f
      refine lv_iconst (v := nI 0) hx hb dX0_winner_40 (by decide) ?_
      refine lv_goto (tgt := 45) hx hb dX0_winner_41 (by decide) ?_
      exact xreti C () trivial hP hD hS (Nat.le_of_ble_eq_true rfl) (Nat.le_of_ble_eq_true rfl) rfl dX0_winner_45
  · -- 16 f
    refine lv_iconst (v := nI 1) hx hb dX0_winner_19 (by decide) ?_
    exact xreti C () trivial hP hD hS (Nat.le_of_ble_eq_true rfl) (Nat.le_of_ble_eq_true rfl) rfl dX0_winner_20

set_option maxHeartbeats 4000000 in
set_option maxRecDepth 100000 in
theorem c_X0_giveColour (l : Launch) (D : va_G) (cs : Nat → ClassId) (ha hg : Nat) (hr sm ca n k al be se : Nat) (ea pr : Int32) (z1 z2 z3 : Int32) (a : Nat) (f : Nat → Int32) (x y : Int32) (hn : n ≤ 8) : xMet l D cs yX0_giveColour cX0_giveColour 5 none ({ frames := 1, cells := 0, slots := 0, locals := 21 } : Room) [.ref ha, .ref a, .int x, .int y] [(ha, .inr (0, [.ref hr, .ref hg, .int z1, .int z2, .int z3])), (hr, .inr (7, [.int (nI n), .int (nI k), .int (nI al), .int (nI be), .int ea, .int pr, .ref sm, .int (nI se), .ref ca])), (a, .inl (cs 0, 8, .inl f))] (xQv D (fun (f2 : (Nat → Int32)) => True) (fun (f2 : (Nat → Int32)) => [(ha, .inr (0, [.ref hr, .ref hg, .int z1, .int z2, .int z3])), (hr, .inr (7, [.int (nI n), .int (nI k), .int (nI al), .int (nI be), .int ea, .int pr, .ref sm, .int (nI se), .ref ca])), (a, .inl (cs 0, 8, .inl f2))])) := by
  refine xMet.intro (by decide) (Nat.le_of_ble_eq_true rfl) ?_
  intro p e s m args below meth c A ls C hP hD hS hl
  have hx := C.1
  have hb := C.2.1
  have hz := C.2.2.2.2.1
  have hown := C.2.2.2.1
  have hA := C.2.2.2.2.2.2.2.2.2
  have hAO := C.2.2.2.2.2.2.2.2.1.2.2
  replace hl : lv_has ls 5 [(0, .ref ha), (1, .ref a), (2, .int x), (3, .int y)] := hl
  obtain ⟨H, hH⟩ : ∃ H, H = s.heap := ⟨_, rfl⟩
  replace hP : va_P D vwCl [(ha, .inr (0, [.ref hr, .ref hg, .int z1, .int z2, .int z3])), (hr, .inr (7, [.int (nI n), .int (nI k), .int (nI al), .int (nI be), .int ea, .int pr, .ref sm, .int (nI se), .ref ca])), (a, .inl (cs 0, 8, .inl f))] H := by rw [hH]; exact hP
  replace hS : va_S A s.heap H [] := by rw [hH]; exact hS
  obtain ⟨locs, hlocs⟩ : ∃ z : List Loc, z = [] := ⟨_, rfl⟩
  rw [← hlocs] at hS
  suffices hW : W p l e ({ frames := 1, cells := 0, slots := 0, locals := 21 } : Room) s m args below meth c H locs 0 0 (MQ below ((xQv D (fun (f2 : (Nat → Int32)) => True) (fun (f2 : (Nat → Int32)) => [(ha, .inr (0, [.ref hr, .ref hg, .int z1, .int z2, .int z3])), (hr, .inr (7, [.int (nI n), .int (nI k), .int (nI al), .int (nI be), .int ea, .int pr, .ref sm, .int (nI se), .ref ca])), (a, .inl (cs 0, 8, .inl f2))])) A) args s 0 0 A) (F0 m 0 ls []) by rw [hlocs, hH] at hW; exact hW
  clear hH hlocs
  refine lv_iconst (v := nI 0) hx hb dX0_giveColour_0 (by decide) ?_
  refine lv_istore (lv' := [(4, .int (nI 0)), (0, .ref ha), (1, .ref a), (2, .int x), (3, .int y)]) hx hb dX0_giveColour_1 hl (by decide) rfl ?_
  clear hl
  try clear ls
  intro ls hl
  have loop_1 : ∀ (n_loop_1 : Nat) (o : Nat) (g9 : Nat → Int32), (o ≤ n) → n - o < n_loop_1 → ∀ (H : Heap) (locs : List Loc) (ls : Array Slot), va_P D vwCl [(ha, .inr (0, [.ref hr, .ref hg, .int z1, .int z2, .int z3])), (hr, .inr (7, [.int (nI n), .int (nI k), .int (nI al), .int (nI be), .int ea, .int pr, .ref sm, .int (nI se), .ref ca])), (a, .inl (cs 0, 8, .inl g9))] H → va_D A [(ha, .inr (0, [.ref hr, .ref hg, .int z1, .int z2, .int z3])), (hr, .inr (7, [.int (nI n), .int (nI k), .int (nI al), .int (nI be), .int ea, .int pr, .ref sm, .int (nI se), .ref ca])), (a, .inl (cs 0, 8, .inl g9))] → va_S A s.heap H locs → lv_has ls 5 [(4, .int (nI o)), (0, .ref ha), (1, .ref a), (2, .int x), (3, .int y)] → W p l e ({ frames := 1, cells := 0, slots := 0, locals := 21 } : Room) s m args below meth c H locs 0 0 (MQ below ((xQv D (fun (f2 : (Nat → Int32)) => True) (fun (f2 : (Nat → Int32)) => [(ha, .inr (0, [.ref hr, .ref hg, .int z1, .int z2, .int z3])), (hr, .inr (7, [.int (nI n), .int (nI k), .int (nI al), .int (nI be), .int ea, .int pr, .ref sm, .int (nI se), .ref ca])), (a, .inl (cs 0, 8, .inl f2))])) A) args s 0 0 A) (F0 m 3 ls []) := by
    intro n_loop_1
    induction n_loop_1 with
    | zero => intro o g9 h_o hlt H locs ls hP hD hS hl; exact absurd hlt (Nat.not_lt_zero _)
    | succ n_loop_1 ih_loop_1 =>
      intro o g9 h_o hlt_loop_1 H locs ls hP hD hS hl
      refine lv_iload_n hx hb dX0_giveColour_3 rfl (lv_at hl 3 rfl) ?_
      refine lv_if_eq (tgt := 47) hx hb dX0_giveColour_4 (by decide) (fun c_2 => ?_) (fun c_2 => ?_)
      · -- 4 t
        exact xretv C g9 trivial hP hD hS (Nat.le_of_ble_eq_true rfl) (Nat.le_of_ble_eq_true rfl) dX0_giveColour_47
      · -- 4 f
        refine lv_iload hx hb dX0_giveColour_7 (lv_at hl 0 rfl) ?_
        refine lv_aload_n hx hb dX0_giveColour_9 rfl (lv_at hl 1 rfl) ?_
        refine xget C hP 0 rfl rfl zuX0 0 (by decide) zw1_237 rfl dX0_giveColour_10 ?_
        refine xget C hP 1 rfl rfl zuX7 0 (by decide) zw1_76 rfl dX0_giveColour_13 ?_
        refine lv_icmp_ge (tgt := 47) hx hb dX0_giveColour_16 (by decide) (fun c_3 => ?_) (fun c_3 => ?_)
        · -- 16 t
          have fc_3 : n ≤ o := nf_le (by omega) (by omega) c_3
          exact xretv C g9 trivial hP hD hS (Nat.le_of_ble_eq_true rfl) (Nat.le_of_ble_eq_true rfl) dX0_giveColour_47
        · -- 16 f
          have fc_3 : o < n := nf_nle (by omega) (by omega) c_3
          refine lv_iload_n hx hb dX0_giveColour_19 rfl (lv_at hl 3 rfl) ?_
          refine lv_iload hx hb dX0_giveColour_20 (lv_at hl 0 rfl) ?_
          refine lv_ishr hx hb dX0_giveColour_22 ?_
          refine lv_iconst (v := nI 1) hx hb dX0_giveColour_23 (by decide) ?_
          refine lv_iand hx hb dX0_giveColour_24 ?_
          refine lv_iconst (v := nI 1) hx hb dX0_giveColour_25 (by decide) ?_
          refine lv_icmp_ne (tgt := 41) hx hb dX0_giveColour_26 (by decide) (fun c_4 => ?_) (fun c_4 => ?_)
          · -- 26 t
            refine lv_iinc (v := nI (o + 1)) (lv' := [(4, .int (nI (o + 1))), (0, .ref ha), (1, .ref a), (2, .int x), (3, .int y)]) hx hb dX0_giveColour_41 hl (k := 0) rfl (nI_add o 1) (by decide) rfl ?_
            clear hl
            try clear ls
            intro ls hl
            refine lv_goto (tgt := 3) hx hb dX0_giveColour_44 (by decide) ?_
            exact ih_loop_1 (o + 1) g9 (by omega) (by omega) H locs ls hP hD hS (lv_sub hl [0, 1, 2, 3, 4] rfl)
          · -- 26 f
            refine lv_aload_n hx hb dX0_giveColour_29 rfl (lv_at hl 2 rfl) ?_
            refine lv_iload hx hb dX0_giveColour_30 (lv_at hl 0 rfl) ?_
            refine lv_aload_n hx hb dX0_giveColour_32 rfl (lv_at hl 2 rfl) ?_
            refine lv_iload hx hb dX0_giveColour_33 (lv_at hl 0 rfl) ?_
            refine xiald C hP 2 rfl o rfl (by omega) (by decide) dX0_giveColour_35 ?_
            refine lv_iload_n hx hb dX0_giveColour_36 rfl (lv_at hl 4 rfl) ?_
            refine xi (wr := [(ha, .inr (0, [.ref hr, .ref hg, .int z1, .int z2, .int z3])), (hr, .inr (7, [.int (nI n), .int (nI k), .int (nI al), .int (nI be), .int ea, .int pr, .ref sm, .int (nI se), .ref ca])), (a, .inl (cs 0, 8, .inl g9))]) (xS (As := [.int (g9 o), .int y]) (rest := [.int (nI o), .ref a]) C (c_X4_withColour l D cs (g9 o) y) kX0_75 hP hD [] rfl (by decide) ⟨Nat.le_of_ble_eq_true rfl, Nat.le_of_ble_eq_true rfl⟩ rfl hl.1 rfl (Nat.le_of_ble_eq_true rfl) dX0_giveColour_37 ⟨Nat.le_of_ble_eq_true rfl, Nat.le_of_ble_eq_true rfl⟩) hP hD hS hA [] [0, 1, 2] rfl rfl (by decide) (by decide) ?_
            clear hP hD hS
            try clear locs
            try clear H
            intro r_5 u_6 H locs hw_r_5 hP hD hS
            have hw_r_5 : r_5 = ((g9 o) &&& (-4)) ||| (y + nI 1) := hw_r_5
            refine W.widen (k := 0) (n := 0) (Nat.le_of_ble_eq_true rfl) (Nat.le_of_ble_eq_true rfl) ?_
            replace hP : va_P D vwCl [(ha, .inr (0, [.ref hr, .ref hg, .int z1, .int z2, .int z3])), (hr, .inr (7, [.int (nI n), .int (nI k), .int (nI al), .int (nI be), .int ea, .int pr, .ref sm, .int (nI se), .ref ca])), (a, .inl (cs 0, 8, .inl g9))] H := hP
            replace hD : va_D A [(ha, .inr (0, [.ref hr, .ref hg, .int z1, .int z2, .int z3])), (hr, .inr (7, [.int (nI n), .int (nI k), .int (nI al), .int (nI be), .int ea, .int pr, .ref sm, .int (nI se), .ref ca])), (a, .inl (cs 0, 8, .inl g9))] := hD
            refine xiast C hP hD hS 2 rfl o rfl (by omega) (by decide) dX0_giveColour_40 ?_
            clear hP hD hS
            try clear locs
            try clear H
            intro H locs hP hD hS
            replace hP : va_P D vwCl [(ha, .inr (0, [.ref hr, .ref hg, .int z1, .int z2, .int z3])), (hr, .inr (7, [.int (nI n), .int (nI k), .int (nI al), .int (nI be), .int ea, .int pr, .ref sm, .int (nI se), .ref ca])), (a, .inl (cs 0, 8, .inl (upd g9 o r_5)))] H := hP
            replace hD : va_D A [(ha, .inr (0, [.ref hr, .ref hg, .int z1, .int z2, .int z3])), (hr, .inr (7, [.int (nI n), .int (nI k), .int (nI al), .int (nI be), .int ea, .int pr, .ref sm, .int (nI se), .ref ca])), (a, .inl (cs 0, 8, .inl (upd g9 o r_5)))] := hD
            refine lv_iinc (v := nI (o + 1)) (lv' := [(4, .int (nI (o + 1))), (0, .ref ha), (1, .ref a), (2, .int x), (3, .int y)]) hx hb dX0_giveColour_41 hl (k := 0) rfl (nI_add o 1) (by decide) rfl ?_
            clear hl
            try clear ls
            intro ls hl
            refine lv_goto (tgt := 3) hx hb dX0_giveColour_44 (by decide) ?_
            exact ih_loop_1 (o + 1) (upd g9 o r_5) (by omega) (by omega) H locs ls hP hD hS (lv_sub hl [0, 1, 2, 3, 4] rfl)
  exact loop_1 _ 0 f (by omega) (Nat.lt_succ_self _) H locs ls hP hD hS (lv_sub hl [0, 1, 2, 3, 4] rfl)

set_option maxHeartbeats 4000000 in
set_option maxRecDepth 100000 in
theorem c_X0_byFlake (l : Launch) (D : va_G) (cs : Nat → ClassId) (x y : Int32) : xMet l D cs yX0_byFlake cX0_byFlake 2 (some .int) ({ frames := 1, cells := 0, slots := 0, locals := 21 } : Room) [.int x, .int y] [] (xQi D (fun (r : Int32) (_u : Unit) => True) (fun (_u : Unit) => [])) := by
  refine xMet.intro (by decide) (Nat.le_of_ble_eq_true rfl) ?_
  intro p e s m args below meth c A ls C hP hD hS hl
  have hx := C.1
  have hb := C.2.1
  have hz := C.2.2.2.2.1
  have hown := C.2.2.2.1
  have hA := C.2.2.2.2.2.2.2.2.2
  have hAO := C.2.2.2.2.2.2.2.2.1.2.2
  replace hl : lv_has ls 2 [(0, .int x), (1, .int y)] := hl
  obtain ⟨H, hH⟩ : ∃ H, H = s.heap := ⟨_, rfl⟩
  replace hP : va_P D vwCl [] H := by rw [hH]; exact hP
  replace hS : va_S A s.heap H [] := by rw [hH]; exact hS
  obtain ⟨locs, hlocs⟩ : ∃ z : List Loc, z = [] := ⟨_, rfl⟩
  rw [← hlocs] at hS
  suffices hW : W p l e ({ frames := 1, cells := 0, slots := 0, locals := 21 } : Room) s m args below meth c H locs 0 0 (MQ below ((xQi D (fun (r : Int32) (_u : Unit) => True) (fun (_u : Unit) => [])) A) args s 0 0 A) (F0 m 0 ls []) by rw [hlocs, hH] at hW; exact hW
  clear hH hlocs
  refine lv_iload_n hx hb dX0_byFlake_0 rfl (lv_at hl 1 rfl) ?_
  refine lv_iload_n hx hb dX0_byFlake_1 rfl (lv_at hl 0 rfl) ?_
  refine xi (wr := []) (xS (As := [.int x]) (rest := [.int y]) C (c_X4_colourOf l D cs x) kX0_29 hP hD [] rfl (by decide) ⟨Nat.le_of_ble_eq_true rfl, Nat.le_of_ble_eq_true rfl⟩ rfl hl.1 rfl (Nat.le_of_ble_eq_true rfl) dX0_byFlake_2 ⟨Nat.le_of_ble_eq_true rfl, Nat.le_of_ble_eq_true rfl⟩) hP hD hS hA [] [] rfl rfl (by decide) (by decide) ?_
  clear hP hD hS
  try clear locs
  try clear H
  intro r_1 u_2 H locs hw_r_1 hP hD hS
  have hw_r_1 : r_1 = (x &&& nI 3) - nI 1 := hw_r_1
  refine W.widen (k := 0) (n := 0) (Nat.le_of_ble_eq_true rfl) (Nat.le_of_ble_eq_true rfl) ?_
  replace hP : va_P D vwCl [] H := hP
  replace hD : va_D A [] := hD
  refine lv_icmp_eq (tgt := 18) hx hb dX0_byFlake_5 (by decide) (fun c_3 => ?_) (fun c_3 => ?_)
  · -- 5 t
    refine lv_iload_n hx hb dX0_byFlake_18 rfl (lv_at hl 0 rfl) ?_
    refine lv_iload_n hx hb dX0_byFlake_19 rfl (lv_at hl 0 rfl) ?_
    refine xi (wr := []) (xS (As := [.int x]) (rest := [.int x]) C (c_X4_counterOf l D cs x) kX0_88 hP hD [] rfl (by decide) ⟨Nat.le_of_ble_eq_true rfl, Nat.le_of_ble_eq_true rfl⟩ rfl hl.1 rfl (Nat.le_of_ble_eq_true rfl) dX0_byFlake_20 ⟨Nat.le_of_ble_eq_true rfl, Nat.le_of_ble_eq_true rfl⟩) hP hD hS hA [] [] rfl rfl (by decide) (by decide) ?_
    clear hP hD hS
    try clear locs
    try clear H
    intro r_4 u_5 H locs hw_r_4 hP hD hS
    have hw_r_4 : r_4 = ((x).toUInt32 >>> ((nI 4).toUInt32 &&& Int32.toUInt32 31)).toInt32 &&& nI 15 := hw_r_4
    refine W.widen (k := 0) (n := 0) (Nat.le_of_ble_eq_true rfl) (Nat.le_of_ble_eq_true rfl) ?_
    replace hP : va_P D vwCl [] H := hP
    replace hD : va_D A [] := hD
    refine lv_iconst (v := nI 1) hx hb dX0_byFlake_23 (by decide) ?_
    refine lv_iadd hx hb dX0_byFlake_24 ?_
    refine xi (wr := []) (xS (As := [.int x, .int (r_4 + (nI 1))]) (rest := []) C (c_X4_withCounter l D cs x (r_4 + (nI 1))) kX0_79 hP hD [] rfl (by decide) ⟨Nat.le_of_ble_eq_true rfl, Nat.le_of_ble_eq_true rfl⟩ rfl hl.1 rfl (Nat.le_of_ble_eq_true rfl) dX0_byFlake_25 ⟨Nat.le_of_ble_eq_true rfl, Nat.le_of_ble_eq_true rfl⟩) hP hD hS hA [] [] rfl rfl (by decide) (by decide) ?_
    clear hP hD hS
    try clear locs
    try clear H
    intro r_6 u_7 H locs hw_r_6 hP hD hS
    have hw_r_6 : r_6 = wcF x (r_4 + (nI 1)) := hw_r_6
    refine W.widen (k := 0) (n := 0) (Nat.le_of_ble_eq_true rfl) (Nat.le_of_ble_eq_true rfl) ?_
    replace hP : va_P D vwCl [] H := hP
    replace hD : va_D A [] := hD
    exact xreti C () trivial hP hD hS (Nat.le_of_ble_eq_true rfl) (Nat.le_of_ble_eq_true rfl) rfl dX0_byFlake_28
  · -- 5 f
    refine lv_iload_n hx hb dX0_byFlake_8 rfl (lv_at hl 0 rfl) ?_
    refine lv_iload_n hx hb dX0_byFlake_9 rfl (lv_at hl 1 rfl) ?_
    refine xi (wr := []) (xS (As := [.int x, .int y]) (rest := []) C (c_X4_withColour l D cs x y) kX0_75 hP hD [] rfl (by decide) ⟨Nat.le_of_ble_eq_true rfl, Nat.le_of_ble_eq_true rfl⟩ rfl hl.1 rfl (Nat.le_of_ble_eq_true rfl) dX0_byFlake_10 ⟨Nat.le_of_ble_eq_true rfl, Nat.le_of_ble_eq_true rfl⟩) hP hD hS hA [] [] rfl rfl (by decide) (by decide) ?_
    clear hP hD hS
    try clear locs
    try clear H
    intro r_8 u_9 H locs hw_r_8 hP hD hS
    have hw_r_8 : r_8 = (x &&& (-4)) ||| (y + nI 1) := hw_r_8
    refine W.widen (k := 0) (n := 0) (Nat.le_of_ble_eq_true rfl) (Nat.le_of_ble_eq_true rfl) ?_
    replace hP : va_P D vwCl [] H := hP
    replace hD : va_D A [] := hD
    refine lv_iconst (v := nI 1) hx hb dX0_byFlake_13 (by decide) ?_
    refine xi (wr := []) (xS (As := [.int r_8, .int (nI 1)]) (rest := []) C (c_X4_withCounter l D cs r_8 (nI 1)) kX0_79 hP hD [] rfl (by decide) ⟨Nat.le_of_ble_eq_true rfl, Nat.le_of_ble_eq_true rfl⟩ rfl hl.1 rfl (Nat.le_of_ble_eq_true rfl) dX0_byFlake_14 ⟨Nat.le_of_ble_eq_true rfl, Nat.le_of_ble_eq_true rfl⟩) hP hD hS hA [] [] rfl rfl (by decide) (by decide) ?_
    clear hP hD hS
    try clear locs
    try clear H
    intro r_10 u_11 H locs hw_r_10 hP hD hS
    have hw_r_10 : r_10 = wcF r_8 (nI 1) := hw_r_10
    refine W.widen (k := 0) (n := 0) (Nat.le_of_ble_eq_true rfl) (Nat.le_of_ble_eq_true rfl) ?_
    replace hP : va_P D vwCl [] H := hP
    replace hD : va_D A [] := hD
    exact xreti C () trivial hP hD hS (Nat.le_of_ble_eq_true rfl) (Nat.le_of_ble_eq_true rfl) rfl dX0_byFlake_17

set_option maxHeartbeats 4000000 in
set_option maxRecDepth 100000 in
theorem c_X0_byBall (l : Launch) (D : va_G) (cs : Nat → ClassId) (x y : Int32) : xMet l D cs yX0_byBall cX0_byBall 4 (some .int) ({ frames := 1, cells := 0, slots := 0, locals := 23 } : Room) [.int x, .int y] [] (xQi D (fun (r : Int32) (_u : Unit) => True) (fun (_u : Unit) => [])) := by
  refine xMet.intro (by decide) (Nat.le_of_ble_eq_true rfl) ?_
  intro p e s m args below meth c A ls C hP hD hS hl
  have hx := C.1
  have hb := C.2.1
  have hz := C.2.2.2.2.1
  have hown := C.2.2.2.1
  have hA := C.2.2.2.2.2.2.2.2.2
  have hAO := C.2.2.2.2.2.2.2.2.1.2.2
  replace hl : lv_has ls 4 [(0, .int x), (1, .int y)] := hl
  obtain ⟨H, hH⟩ : ∃ H, H = s.heap := ⟨_, rfl⟩
  replace hP : va_P D vwCl [] H := by rw [hH]; exact hP
  replace hS : va_S A s.heap H [] := by rw [hH]; exact hS
  obtain ⟨locs, hlocs⟩ : ∃ z : List Loc, z = [] := ⟨_, rfl⟩
  rw [← hlocs] at hS
  suffices hW : W p l e ({ frames := 1, cells := 0, slots := 0, locals := 23 } : Room) s m args below meth c H locs 0 0 (MQ below ((xQi D (fun (r : Int32) (_u : Unit) => True) (fun (_u : Unit) => [])) A) args s 0 0 A) (F0 m 0 ls []) by rw [hlocs, hH] at hW; exact hW
  clear hH hlocs
  refine lv_iload_n hx hb dX0_byBall_0 rfl (lv_at hl 0 rfl) ?_
  refine lv_iload_n hx hb dX0_byBall_1 rfl (lv_at hl 1 rfl) ?_
  refine xi (wr := []) (xS (As := [.int x, .int y]) (rest := []) C (c_X4_confidenceOf l D cs x y) kX0_97 hP hD [] rfl (by decide) ⟨Nat.le_of_ble_eq_true rfl, Nat.le_of_ble_eq_true rfl⟩ rfl hl.1 rfl (Nat.le_of_ble_eq_true rfl) dX0_byBall_2 ⟨Nat.le_of_ble_eq_true rfl, Nat.le_of_ble_eq_true rfl⟩) hP hD hS hA [] [] rfl rfl (by decide) (by decide) ?_
  clear hP hD hS
  try clear locs
  try clear H
  intro r_1 u_2 H locs hw_r_1 hP hD hS
  have hw_r_1 : r_1 = ((x).toUInt32 >>> ((nI 8 + y * nI 10).toUInt32 &&& Int32.toUInt32 31)).toInt32 &&& nI 1023 := hw_r_1
  refine W.widen (k := 0) (n := 0) (Nat.le_of_ble_eq_true rfl) (Nat.le_of_ble_eq_true rfl) ?_
  replace hP : va_P D vwCl [] H := hP
  replace hD : va_D A [] := hD
  refine lv_iconst (v := nI 1) hx hb dX0_byBall_5 (by decide) ?_
  refine lv_iadd hx hb dX0_byBall_6 ?_
  refine lv_sipush (v := nI 999) hx hb dX0_byBall_7 (by decide) ?_
  refine va_mmin hx hb (C.2.2.1.trans hl.1.symm) hown (hz _ zw3_89) (hz _ zw1_45) (hz _ zw1_3) (hz _ zw1_46) (Nat.le_of_ble_eq_true rfl) (Nat.le_of_ble_eq_true rfl) (Nat.le_of_ble_eq_true rfl) (Nat.le_of_ble_eq_true rfl) dX0_byBall_10 ?_
  refine lv_istore_n (lv' := [(2, .int (if nI 999 < r_1 + (nI 1) then nI 999 else r_1 + (nI 1))), (0, .int x), (1, .int y)]) hx hb dX0_byBall_13 rfl hl (by decide) rfl ?_
  clear hl
  try clear ls
  intro ls hl
  refine lv_iload_n hx hb dX0_byBall_14 rfl (lv_at hl 1 rfl) ?_
  refine lv_iload_n hx hb dX0_byBall_15 rfl (lv_at hl 2 rfl) ?_
  refine lv_iload_n hx hb dX0_byBall_16 rfl (lv_at hl 0 rfl) ?_
  refine xi (wr := []) (xS (As := [.int x, .int y, .int (if nI 999 < r_1 + (nI 1) then nI 999 else r_1 + (nI 1))]) (rest := []) C (c_X4_withConfidence l D cs x y (if nI 999 < r_1 + (nI 1) then nI 999 else r_1 + (nI 1))) kX0_105 hP hD [] rfl (by decide) ⟨Nat.le_of_ble_eq_true rfl, Nat.le_of_ble_eq_true rfl⟩ rfl hl.1 rfl (Nat.le_of_ble_eq_true rfl) dX0_byBall_17 ⟨Nat.le_of_ble_eq_true rfl, Nat.le_of_ble_eq_true rfl⟩) hP hD hS hA [] [] rfl rfl (by decide) (by decide) ?_
  clear hP hD hS
  try clear locs
  try clear H
  intro r_3 u_4 H locs hw_r_3 hP hD hS
  have hw_r_3 : r_3 = wfF x y (if nI 999 < r_1 + (nI 1) then nI 999 else r_1 + (nI 1)) := hw_r_3
  refine W.widen (k := 0) (n := 0) (Nat.le_of_ble_eq_true rfl) (Nat.le_of_ble_eq_true rfl) ?_
  replace hP : va_P D vwCl [] H := hP
  replace hD : va_D A [] := hD
  refine lv_istore_n (lv' := [(3, .int r_3), (2, .int (if nI 999 < r_1 + (nI 1) then nI 999 else r_1 + (nI 1))), (0, .int x), (1, .int y)]) hx hb dX0_byBall_20 rfl hl (by decide) rfl ?_
  clear hl
  try clear ls
  intro ls hl
  refine lv_iload_n hx hb dX0_byBall_21 rfl (lv_at hl 1 rfl) ?_
  refine lv_iload_n hx hb dX0_byBall_22 rfl (lv_at hl 0 rfl) ?_
  refine lv_iload_n hx hb dX0_byBall_23 rfl (lv_at hl 0 rfl) ?_
  refine xi (wr := []) (xS (As := [.int r_3]) (rest := [.int r_3, .int (if nI 999 < r_1 + (nI 1) then nI 999 else r_1 + (nI 1))]) C (c_X4_colourOf l D cs r_3) kX0_29 hP hD [] rfl (by decide) ⟨Nat.le_of_ble_eq_true rfl, Nat.le_of_ble_eq_true rfl⟩ rfl hl.1 rfl (Nat.le_of_ble_eq_true rfl) dX0_byBall_24 ⟨Nat.le_of_ble_eq_true rfl, Nat.le_of_ble_eq_true rfl⟩) hP hD hS hA [] [] rfl rfl (by decide) (by decide) ?_
  clear hP hD hS
  try clear locs
  try clear H
  intro r_5 u_6 H locs hw_r_5 hP hD hS
  have hw_r_5 : r_5 = (r_3 &&& nI 3) - nI 1 := hw_r_5
  refine W.widen (k := 0) (n := 0) (Nat.le_of_ble_eq_true rfl) (Nat.le_of_ble_eq_true rfl) ?_
  replace hP : va_P D vwCl [] H := hP
  replace hD : va_D A [] := hD
  refine xi (wr := []) (xS (As := [.int r_3, .int r_5]) (rest := [.int (if nI 999 < r_1 + (nI 1) then nI 999 else r_1 + (nI 1))]) C (c_X4_confidenceOf l D cs r_3 r_5) kX0_97 hP hD [] rfl (by decide) ⟨Nat.le_of_ble_eq_true rfl, Nat.le_of_ble_eq_true rfl⟩ rfl hl.1 rfl (Nat.le_of_ble_eq_true rfl) dX0_byBall_27 ⟨Nat.le_of_ble_eq_true rfl, Nat.le_of_ble_eq_true rfl⟩) hP hD hS hA [] [] rfl rfl (by decide) (by decide) ?_
  clear hP hD hS
  try clear locs
  try clear H
  intro r_7 u_8 H locs hw_r_7 hP hD hS
  have hw_r_7 : r_7 = ((r_3).toUInt32 >>> ((nI 8 + r_5 * nI 10).toUInt32 &&& Int32.toUInt32 31)).toInt32 &&& nI 1023 := hw_r_7
  refine W.widen (k := 0) (n := 0) (Nat.le_of_ble_eq_true rfl) (Nat.le_of_ble_eq_true rfl) ?_
  replace hP : va_P D vwCl [] H := hP
  replace hD : va_D A [] := hD
  refine lv_icmp_le (tgt := 39) hx hb dX0_byBall_30 (by decide) (fun c_9 => ?_) (fun c_9 => ?_)
  · -- 30 t
    refine lv_iload_n hx hb dX0_byBall_39 rfl (lv_at hl 3 rfl) ?_
    refine lv_iload_n hx hb dX0_byBall_40 rfl (lv_at hl 0 rfl) ?_
    refine xi (wr := []) (xS (As := [.int r_3]) (rest := [.int y]) C (c_X4_lastOf l D cs r_3) kX0_108 hP hD [] rfl (by decide) ⟨Nat.le_of_ble_eq_true rfl, Nat.le_of_ble_eq_true rfl⟩ rfl hl.1 rfl (Nat.le_of_ble_eq_true rfl) dX0_byBall_41 ⟨Nat.le_of_ble_eq_true rfl, Nat.le_of_ble_eq_true rfl⟩) hP hD hS hA [] [] rfl rfl (by decide) (by decide) ?_
    clear hP hD hS
    try clear locs
    try clear H
    intro r_10 u_11 H locs hw_r_10 hP hD hS
    have hw_r_10 : r_10 = (((r_3).toUInt32 >>> ((nI 2).toUInt32 &&& Int32.toUInt32 31)).toInt32 &&& nI 3) - nI 1 := hw_r_10
    refine W.widen (k := 0) (n := 0) (Nat.le_of_ble_eq_true rfl) (Nat.le_of_ble_eq_true rfl) ?_
    replace hP : va_P D vwCl [] H := hP
    replace hD : va_D A [] := hD
    refine lv_icmp_eq (tgt := 57) hx hb dX0_byBall_44 (by decide) (fun c_12 => ?_) (fun c_12 => ?_)
    · -- 44 t
      refine lv_iload_n hx hb dX0_byBall_57 rfl (lv_at hl 0 rfl) ?_
      refine lv_iload_n hx hb dX0_byBall_58 rfl (lv_at hl 0 rfl) ?_
      refine xi (wr := []) (xS (As := [.int r_3]) (rest := [.int r_3]) C (c_X4_counterOf l D cs r_3) kX0_88 hP hD [] rfl (by decide) ⟨Nat.le_of_ble_eq_true rfl, Nat.le_of_ble_eq_true rfl⟩ rfl hl.1 rfl (Nat.le_of_ble_eq_true rfl) dX0_byBall_59 ⟨Nat.le_of_ble_eq_true rfl, Nat.le_of_ble_eq_true rfl⟩) hP hD hS hA [] [] rfl rfl (by decide) (by decide) ?_
      clear hP hD hS
      try clear locs
      try clear H
      intro r_13 u_14 H locs hw_r_13 hP hD hS
      have hw_r_13 : r_13 = ((r_3).toUInt32 >>> ((nI 4).toUInt32 &&& Int32.toUInt32 31)).toInt32 &&& nI 15 := hw_r_13
      refine W.widen (k := 0) (n := 0) (Nat.le_of_ble_eq_true rfl) (Nat.le_of_ble_eq_true rfl) ?_
      replace hP : va_P D vwCl [] H := hP
      replace hD : va_D A [] := hD
      refine lv_iconst (v := nI 1) hx hb dX0_byBall_62 (by decide) ?_
      refine lv_iadd hx hb dX0_byBall_63 ?_
      refine xi (wr := []) (xS (As := [.int r_3, .int (r_13 + (nI 1))]) (rest := []) C (c_X4_withCounter l D cs r_3 (r_13 + (nI 1))) kX0_79 hP hD [] rfl (by decide) ⟨Nat.le_of_ble_eq_true rfl, Nat.le_of_ble_eq_true rfl⟩ rfl hl.1 rfl (Nat.le_of_ble_eq_true rfl) dX0_byBall_64 ⟨Nat.le_of_ble_eq_true rfl, Nat.le_of_ble_eq_true rfl⟩) hP hD hS hA [] [] rfl rfl (by decide) (by decide) ?_
      clear hP hD hS
      try clear locs
      try clear H
      intro r_15 u_16 H locs hw_r_15 hP hD hS
      have hw_r_15 : r_15 = wcF r_3 (r_13 + (nI 1)) := hw_r_15
      refine W.widen (k := 0) (n := 0) (Nat.le_of_ble_eq_true rfl) (Nat.le_of_ble_eq_true rfl) ?_
      replace hP : va_P D vwCl [] H := hP
      replace hD : va_D A [] := hD
      exact xreti C () trivial hP hD hS (Nat.le_of_ble_eq_true rfl) (Nat.le_of_ble_eq_true rfl) rfl dX0_byBall_67
    · -- 44 f
      refine lv_iload_n hx hb dX0_byBall_47 rfl (lv_at hl 0 rfl) ?_
      refine lv_iload_n hx hb dX0_byBall_48 rfl (lv_at hl 3 rfl) ?_
      refine xi (wr := []) (xS (As := [.int r_3, .int y]) (rest := []) C (c_X4_withLast l D cs r_3 y) kX0_111 hP hD [] rfl (by decide) ⟨Nat.le_of_ble_eq_true rfl, Nat.le_of_ble_eq_true rfl⟩ rfl hl.1 rfl (Nat.le_of_ble_eq_true rfl) dX0_byBall_49 ⟨Nat.le_of_ble_eq_true rfl, Nat.le_of_ble_eq_true rfl⟩) hP hD hS hA [] [] rfl rfl (by decide) (by decide) ?_
      clear hP hD hS
      try clear locs
      try clear H
      intro r_17 u_18 H locs hw_r_17 hP hD hS
      have hw_r_17 : r_17 = wlF r_3 y := hw_r_17
      refine W.widen (k := 0) (n := 0) (Nat.le_of_ble_eq_true rfl) (Nat.le_of_ble_eq_true rfl) ?_
      replace hP : va_P D vwCl [] H := hP
      replace hD : va_D A [] := hD
      refine lv_iconst (v := nI 1) hx hb dX0_byBall_52 (by decide) ?_
      refine xi (wr := []) (xS (As := [.int r_17, .int (nI 1)]) (rest := []) C (c_X4_withCounter l D cs r_17 (nI 1)) kX0_79 hP hD [] rfl (by decide) ⟨Nat.le_of_ble_eq_true rfl, Nat.le_of_ble_eq_true rfl⟩ rfl hl.1 rfl (Nat.le_of_ble_eq_true rfl) dX0_byBall_53 ⟨Nat.le_of_ble_eq_true rfl, Nat.le_of_ble_eq_true rfl⟩) hP hD hS hA [] [] rfl rfl (by decide) (by decide) ?_
      clear hP hD hS
      try clear locs
      try clear H
      intro r_19 u_20 H locs hw_r_19 hP hD hS
      have hw_r_19 : r_19 = wcF r_17 (nI 1) := hw_r_19
      refine W.widen (k := 0) (n := 0) (Nat.le_of_ble_eq_true rfl) (Nat.le_of_ble_eq_true rfl) ?_
      replace hP : va_P D vwCl [] H := hP
      replace hD : va_D A [] := hD
      exact xreti C () trivial hP hD hS (Nat.le_of_ble_eq_true rfl) (Nat.le_of_ble_eq_true rfl) rfl dX0_byBall_56
  · -- 30 f
    refine lv_iload_n hx hb dX0_byBall_33 rfl (lv_at hl 0 rfl) ?_
    refine lv_iload_n hx hb dX0_byBall_34 rfl (lv_at hl 3 rfl) ?_
    refine xi (wr := []) (xS (As := [.int r_3, .int y]) (rest := []) C (c_X4_withColour l D cs r_3 y) kX0_75 hP hD [] rfl (by decide) ⟨Nat.le_of_ble_eq_true rfl, Nat.le_of_ble_eq_true rfl⟩ rfl hl.1 rfl (Nat.le_of_ble_eq_true rfl) dX0_byBall_35 ⟨Nat.le_of_ble_eq_true rfl, Nat.le_of_ble_eq_true rfl⟩) hP hD hS hA [] [] rfl rfl (by decide) (by decide) ?_
    clear hP hD hS
    try clear locs
    try clear H
    intro r_21 u_22 H locs hw_r_21 hP hD hS
    have hw_r_21 : r_21 = (r_3 &&& (-4)) ||| (y + nI 1) := hw_r_21
    refine W.widen (k := 0) (n := 0) (Nat.le_of_ble_eq_true rfl) (Nat.le_of_ble_eq_true rfl) ?_
    replace hP : va_P D vwCl [] H := hP
    replace hD : va_D A [] := hD
    refine lv_istore_n (lv' := [(3, .int r_21), (2, .int (if nI 999 < r_1 + (nI 1) then nI 999 else r_1 + (nI 1))), (0, .int x), (1, .int y)]) hx hb dX0_byBall_38 rfl hl (by decide) rfl ?_
    clear hl
    try clear ls
    intro ls hl
    refine lv_iload_n hx hb dX0_byBall_39 rfl (lv_at hl 3 rfl) ?_
    refine lv_iload_n hx hb dX0_byBall_40 rfl (lv_at hl 0 rfl) ?_
    refine xi (wr := []) (xS (As := [.int r_21]) (rest := [.int y]) C (c_X4_lastOf l D cs r_21) kX0_108 hP hD [] rfl (by decide) ⟨Nat.le_of_ble_eq_true rfl, Nat.le_of_ble_eq_true rfl⟩ rfl hl.1 rfl (Nat.le_of_ble_eq_true rfl) dX0_byBall_41 ⟨Nat.le_of_ble_eq_true rfl, Nat.le_of_ble_eq_true rfl⟩) hP hD hS hA [] [] rfl rfl (by decide) (by decide) ?_
    clear hP hD hS
    try clear locs
    try clear H
    intro r_23 u_24 H locs hw_r_23 hP hD hS
    have hw_r_23 : r_23 = (((r_21).toUInt32 >>> ((nI 2).toUInt32 &&& Int32.toUInt32 31)).toInt32 &&& nI 3) - nI 1 := hw_r_23
    refine W.widen (k := 0) (n := 0) (Nat.le_of_ble_eq_true rfl) (Nat.le_of_ble_eq_true rfl) ?_
    replace hP : va_P D vwCl [] H := hP
    replace hD : va_D A [] := hD
    refine lv_icmp_eq (tgt := 57) hx hb dX0_byBall_44 (by decide) (fun c_25 => ?_) (fun c_25 => ?_)
    · -- 44 t
      refine lv_iload_n hx hb dX0_byBall_57 rfl (lv_at hl 0 rfl) ?_
      refine lv_iload_n hx hb dX0_byBall_58 rfl (lv_at hl 0 rfl) ?_
      refine xi (wr := []) (xS (As := [.int r_21]) (rest := [.int r_21]) C (c_X4_counterOf l D cs r_21) kX0_88 hP hD [] rfl (by decide) ⟨Nat.le_of_ble_eq_true rfl, Nat.le_of_ble_eq_true rfl⟩ rfl hl.1 rfl (Nat.le_of_ble_eq_true rfl) dX0_byBall_59 ⟨Nat.le_of_ble_eq_true rfl, Nat.le_of_ble_eq_true rfl⟩) hP hD hS hA [] [] rfl rfl (by decide) (by decide) ?_
      clear hP hD hS
      try clear locs
      try clear H
      intro r_26 u_27 H locs hw_r_26 hP hD hS
      have hw_r_26 : r_26 = ((r_21).toUInt32 >>> ((nI 4).toUInt32 &&& Int32.toUInt32 31)).toInt32 &&& nI 15 := hw_r_26
      refine W.widen (k := 0) (n := 0) (Nat.le_of_ble_eq_true rfl) (Nat.le_of_ble_eq_true rfl) ?_
      replace hP : va_P D vwCl [] H := hP
      replace hD : va_D A [] := hD
      refine lv_iconst (v := nI 1) hx hb dX0_byBall_62 (by decide) ?_
      refine lv_iadd hx hb dX0_byBall_63 ?_
      refine xi (wr := []) (xS (As := [.int r_21, .int (r_26 + (nI 1))]) (rest := []) C (c_X4_withCounter l D cs r_21 (r_26 + (nI 1))) kX0_79 hP hD [] rfl (by decide) ⟨Nat.le_of_ble_eq_true rfl, Nat.le_of_ble_eq_true rfl⟩ rfl hl.1 rfl (Nat.le_of_ble_eq_true rfl) dX0_byBall_64 ⟨Nat.le_of_ble_eq_true rfl, Nat.le_of_ble_eq_true rfl⟩) hP hD hS hA [] [] rfl rfl (by decide) (by decide) ?_
      clear hP hD hS
      try clear locs
      try clear H
      intro r_28 u_29 H locs hw_r_28 hP hD hS
      have hw_r_28 : r_28 = wcF r_21 (r_26 + (nI 1)) := hw_r_28
      refine W.widen (k := 0) (n := 0) (Nat.le_of_ble_eq_true rfl) (Nat.le_of_ble_eq_true rfl) ?_
      replace hP : va_P D vwCl [] H := hP
      replace hD : va_D A [] := hD
      exact xreti C () trivial hP hD hS (Nat.le_of_ble_eq_true rfl) (Nat.le_of_ble_eq_true rfl) rfl dX0_byBall_67
    · -- 44 f
      refine lv_iload_n hx hb dX0_byBall_47 rfl (lv_at hl 0 rfl) ?_
      refine lv_iload_n hx hb dX0_byBall_48 rfl (lv_at hl 3 rfl) ?_
      refine xi (wr := []) (xS (As := [.int r_21, .int y]) (rest := []) C (c_X4_withLast l D cs r_21 y) kX0_111 hP hD [] rfl (by decide) ⟨Nat.le_of_ble_eq_true rfl, Nat.le_of_ble_eq_true rfl⟩ rfl hl.1 rfl (Nat.le_of_ble_eq_true rfl) dX0_byBall_49 ⟨Nat.le_of_ble_eq_true rfl, Nat.le_of_ble_eq_true rfl⟩) hP hD hS hA [] [] rfl rfl (by decide) (by decide) ?_
      clear hP hD hS
      try clear locs
      try clear H
      intro r_30 u_31 H locs hw_r_30 hP hD hS
      have hw_r_30 : r_30 = wlF r_21 y := hw_r_30
      refine W.widen (k := 0) (n := 0) (Nat.le_of_ble_eq_true rfl) (Nat.le_of_ble_eq_true rfl) ?_
      replace hP : va_P D vwCl [] H := hP
      replace hD : va_D A [] := hD
      refine lv_iconst (v := nI 1) hx hb dX0_byBall_52 (by decide) ?_
      refine xi (wr := []) (xS (As := [.int r_30, .int (nI 1)]) (rest := []) C (c_X4_withCounter l D cs r_30 (nI 1)) kX0_79 hP hD [] rfl (by decide) ⟨Nat.le_of_ble_eq_true rfl, Nat.le_of_ble_eq_true rfl⟩ rfl hl.1 rfl (Nat.le_of_ble_eq_true rfl) dX0_byBall_53 ⟨Nat.le_of_ble_eq_true rfl, Nat.le_of_ble_eq_true rfl⟩) hP hD hS hA [] [] rfl rfl (by decide) (by decide) ?_
      clear hP hD hS
      try clear locs
      try clear H
      intro r_32 u_33 H locs hw_r_32 hP hD hS
      have hw_r_32 : r_32 = wcF r_30 (nI 1) := hw_r_32
      refine W.widen (k := 0) (n := 0) (Nat.le_of_ble_eq_true rfl) (Nat.le_of_ble_eq_true rfl) ?_
      replace hP : va_P D vwCl [] H := hP
      replace hD : va_D A [] := hD
      exact xreti C () trivial hP hD hS (Nat.le_of_ble_eq_true rfl) (Nat.le_of_ble_eq_true rfl) rfl dX0_byBall_56

set_option maxHeartbeats 4000000 in
set_option maxRecDepth 100000 in
theorem c_X0_change (l : Launch) (D : va_G) (cs : Nat → ClassId) (x y : Int32) : xMet l D cs yX0_change cX0_change 2 (some .int) ({ frames := 1, cells := 0, slots := 0, locals := 20 } : Room) [.int x, .int y] [] (xQi D (fun (r : Int32) (_u : Unit) => ∃ v, v < 3 ∧ r = nI v) (fun (_u : Unit) => [])) := by
  refine xMet.intro (by decide) (Nat.le_of_ble_eq_true rfl) ?_
  intro p e s m args below meth c A ls C hP hD hS hl
  have hx := C.1
  have hb := C.2.1
  have hz := C.2.2.2.2.1
  have hown := C.2.2.2.1
  have hA := C.2.2.2.2.2.2.2.2.2
  have hAO := C.2.2.2.2.2.2.2.2.1.2.2
  replace hl : lv_has ls 2 [(0, .int x), (1, .int y)] := hl
  obtain ⟨H, hH⟩ : ∃ H, H = s.heap := ⟨_, rfl⟩
  replace hP : va_P D vwCl [] H := by rw [hH]; exact hP
  replace hS : va_S A s.heap H [] := by rw [hH]; exact hS
  obtain ⟨locs, hlocs⟩ : ∃ z : List Loc, z = [] := ⟨_, rfl⟩
  rw [← hlocs] at hS
  suffices hW : W p l e ({ frames := 1, cells := 0, slots := 0, locals := 20 } : Room) s m args below meth c H locs 0 0 (MQ below ((xQi D (fun (r : Int32) (_u : Unit) => ∃ v, v < 3 ∧ r = nI v) (fun (_u : Unit) => [])) A) args s 0 0 A) (F0 m 0 ls []) by rw [hlocs, hH] at hW; exact hW
  clear hH hlocs
  refine lv_iload_n hx hb dX0_change_0 rfl (lv_at hl 1 rfl) ?_
  refine xi (wr := []) (xS (As := [.int y]) (rest := []) C (c_X4_isDecided l D cs y) kX0_39 hP hD [] rfl (by decide) ⟨Nat.le_of_ble_eq_true rfl, Nat.le_of_ble_eq_true rfl⟩ rfl hl.1 rfl (Nat.le_of_ble_eq_true rfl) dX0_change_1 ⟨Nat.le_of_ble_eq_true rfl, Nat.le_of_ble_eq_true rfl⟩) hP hD hS hA [] [] rfl rfl (by decide) (by decide) ?_
  clear hP hD hS
  try clear locs
  try clear H
  intro r_1 u_2 H locs hw_r_1 hP hD hS
  have hw_r_1 : r_1 = if y &&& nI 268435456 = 0 then nI 0 else nI 1 := hw_r_1
  refine W.widen (k := 0) (n := 0) (Nat.le_of_ble_eq_true rfl) (Nat.le_of_ble_eq_true rfl) ?_
  replace hP : va_P D vwCl [] H := hP
  replace hD : va_D A [] := hD
  refine lv_if_eq (tgt := 9) hx hb dX0_change_4 (by decide) (fun c_3 => ?_) (fun c_3 => ?_)
  · -- 4 t
    refine lv_iload_n hx hb dX0_change_9 rfl (lv_at hl 0 rfl) ?_
    refine xi (wr := []) (xS (As := [.int x]) (rest := []) C (c_X4_colourOf l D cs x) kX0_29 hP hD [] rfl (by decide) ⟨Nat.le_of_ble_eq_true rfl, Nat.le_of_ble_eq_true rfl⟩ rfl hl.1 rfl (Nat.le_of_ble_eq_true rfl) dX0_change_10 ⟨Nat.le_of_ble_eq_true rfl, Nat.le_of_ble_eq_true rfl⟩) hP hD hS hA [] [] rfl rfl (by decide) (by decide) ?_
    clear hP hD hS
    try clear locs
    try clear H
    intro r_4 u_5 H locs hw_r_4 hP hD hS
    have hw_r_4 : r_4 = (x &&& nI 3) - nI 1 := hw_r_4
    refine W.widen (k := 0) (n := 0) (Nat.le_of_ble_eq_true rfl) (Nat.le_of_ble_eq_true rfl) ?_
    replace hP : va_P D vwCl [] H := hP
    replace hD : va_D A [] := hD
    refine lv_iload_n hx hb dX0_change_13 rfl (lv_at hl 1 rfl) ?_
    refine xi (wr := []) (xS (As := [.int y]) (rest := [.int r_4]) C (c_X4_colourOf l D cs y) kX0_29 hP hD [] rfl (by decide) ⟨Nat.le_of_ble_eq_true rfl, Nat.le_of_ble_eq_true rfl⟩ rfl hl.1 rfl (Nat.le_of_ble_eq_true rfl) dX0_change_14 ⟨Nat.le_of_ble_eq_true rfl, Nat.le_of_ble_eq_true rfl⟩) hP hD hS hA [] [] rfl rfl (by decide) (by decide) ?_
    clear hP hD hS
    try clear locs
    try clear H
    intro r_6 u_7 H locs hw_r_6 hP hD hS
    have hw_r_6 : r_6 = (y &&& nI 3) - nI 1 := hw_r_6
    refine W.widen (k := 0) (n := 0) (Nat.le_of_ble_eq_true rfl) (Nat.le_of_ble_eq_true rfl) ?_
    replace hP : va_P D vwCl [] H := hP
    replace hD : va_D A [] := hD
    refine lv_icmp_ne (tgt := 24) hx hb dX0_change_17 (by decide) (fun c_8 => ?_) (fun c_8 => ?_)
    · -- 17 t
      refine lv_iconst (v := nI 1) hx hb dX0_change_24 (by decide) ?_
      exact xreti C () (⟨1, by decide, rfl⟩) hP hD hS (Nat.le_of_ble_eq_true rfl) (Nat.le_of_ble_eq_true rfl) rfl dX0_change_25
    · -- 17 f
      refine lv_iconst (v := nI 0) hx hb dX0_change_20 (by decide) ?_
      refine lv_goto (tgt := 25) hx hb dX0_change_21 (by decide) ?_
      exact xreti C () (⟨0, by decide, rfl⟩) hP hD hS (Nat.le_of_ble_eq_true rfl) (Nat.le_of_ble_eq_true rfl) rfl dX0_change_25
  · -- 4 f
    refine lv_iconst (v := nI 2) hx hb dX0_change_7 (by decide) ?_
    exact xreti C () (⟨2, by decide, rfl⟩) hP hD hS (Nat.le_of_ble_eq_true rfl) (Nat.le_of_ble_eq_true rfl) rfl dX0_change_8

set_option maxHeartbeats 4000000 in
set_option maxRecDepth 100000 in
theorem c_X0_settle (l : Launch) (D : va_G) (cs : Nat → ClassId) (ha hg : Nat) (hr sm ca n k al be se : Nat) (ea pr : Int32) (z1 z2 z3 : Int32) (a i : Nat) (f : Nat → Int32) (x y : Int32) (hn : n ≤ 8) (hi : i < 8) : xMet l D cs yX0_settle cX0_settle 7 none ({ frames := 2, cells := 0, slots := 0, locals := 46 } : Room) [.ref ha, .ref a, .int (nI i), .int x, .int y] [(ha, .inr (0, [.ref hr, .ref hg, .int z1, .int z2, .int z3])), (hr, .inr (7, [.int (nI n), .int (nI k), .int (nI al), .int (nI be), .int ea, .int pr, .ref sm, .int (nI se), .ref ca])), (a, .inl (cs 0, 8, .inl f))] (xQv D (fun (f2 : (Nat → Int32)) => True) (fun (f2 : (Nat → Int32)) => [(ha, .inr (0, [.ref hr, .ref hg, .int z1, .int z2, .int z3])), (hr, .inr (7, [.int (nI n), .int (nI k), .int (nI al), .int (nI be), .int ea, .int pr, .ref sm, .int (nI se), .ref ca])), (a, .inl (cs 0, 8, .inl f2))])) := by
  refine xMet.intro (by decide) (Nat.le_of_ble_eq_true rfl) ?_
  intro p e s m args below meth c A ls C hP hD hS hl
  have hx := C.1
  have hb := C.2.1
  have hz := C.2.2.2.2.1
  have hown := C.2.2.2.1
  have hA := C.2.2.2.2.2.2.2.2.2
  have hAO := C.2.2.2.2.2.2.2.2.1.2.2
  replace hl : lv_has ls 7 [(0, .ref ha), (1, .ref a), (2, .int (nI i)), (3, .int x), (4, .int y)] := hl
  obtain ⟨H, hH⟩ : ∃ H, H = s.heap := ⟨_, rfl⟩
  replace hP : va_P D vwCl [(ha, .inr (0, [.ref hr, .ref hg, .int z1, .int z2, .int z3])), (hr, .inr (7, [.int (nI n), .int (nI k), .int (nI al), .int (nI be), .int ea, .int pr, .ref sm, .int (nI se), .ref ca])), (a, .inl (cs 0, 8, .inl f))] H := by rw [hH]; exact hP
  replace hS : va_S A s.heap H [] := by rw [hH]; exact hS
  obtain ⟨locs, hlocs⟩ : ∃ z : List Loc, z = [] := ⟨_, rfl⟩
  rw [← hlocs] at hS
  suffices hW : W p l e ({ frames := 2, cells := 0, slots := 0, locals := 46 } : Room) s m args below meth c H locs 0 0 (MQ below ((xQv D (fun (f2 : (Nat → Int32)) => True) (fun (f2 : (Nat → Int32)) => [(ha, .inr (0, [.ref hr, .ref hg, .int z1, .int z2, .int z3])), (hr, .inr (7, [.int (nI n), .int (nI k), .int (nI al), .int (nI be), .int ea, .int pr, .ref sm, .int (nI se), .ref ca])), (a, .inl (cs 0, 8, .inl f2))])) A) args s 0 0 A) (F0 m 0 ls []) by rw [hlocs, hH] at hW; exact hW
  clear hH hlocs
  refine lv_aload_n hx hb dX0_settle_0 rfl (lv_at hl 1 rfl) ?_
  refine lv_iload_n hx hb dX0_settle_1 rfl (lv_at hl 2 rfl) ?_
  refine xiald C hP 2 rfl i rfl (by omega) (by decide) dX0_settle_2 ?_
  refine lv_istore (lv' := [(5, .int (f i)), (0, .ref ha), (1, .ref a), (2, .int (nI i)), (3, .int x), (4, .int y)]) hx hb dX0_settle_3 hl (by decide) rfl ?_
  clear hl
  try clear ls
  intro ls hl
  refine lv_aload_n hx hb dX0_settle_5 rfl (lv_at hl 1 rfl) ?_
  refine lv_aload_n hx hb dX0_settle_6 rfl (lv_at hl 2 rfl) ?_
  refine lv_aload_n hx hb dX0_settle_7 rfl (lv_at hl 1 rfl) ?_
  refine xget C hP 0 rfl rfl zuX0 4 (by decide) zw2_3 rfl dX0_settle_8 ?_
  refine lv_iload hx hb dX0_settle_11 (lv_at hl 5 rfl) ?_
  refine lv_iand hx hb dX0_settle_13 ?_
  refine lv_iload hx hb dX0_settle_14 (lv_at hl 0 rfl) ?_
  refine xi (wr := [(ha, .inr (0, [.ref hr, .ref hg, .int z1, .int z2, .int z3])), (hr, .inr (7, [.int (nI n), .int (nI k), .int (nI al), .int (nI be), .int ea, .int pr, .ref sm, .int (nI se), .ref ca])), (a, .inl (cs 0, 8, .inl f))]) (xS (As := [.int (f i)]) (rest := [.int (z3 &&& y), .ref a, .ref ha]) C (c_X4_colourOf l D cs (f i)) kX0_29 hP hD [] rfl (by decide) ⟨Nat.le_of_ble_eq_true rfl, Nat.le_of_ble_eq_true rfl⟩ rfl hl.1 rfl (Nat.le_of_ble_eq_true rfl) dX0_settle_16 ⟨Nat.le_of_ble_eq_true rfl, Nat.le_of_ble_eq_true rfl⟩) hP hD hS hA [] [0, 1, 2] rfl rfl (by decide) (by decide) ?_
  clear hP hD hS
  try clear locs
  try clear H
  intro r_1 u_2 H locs hw_r_1 hP hD hS
  have hw_r_1 : r_1 = ((f i) &&& nI 3) - nI 1 := hw_r_1
  refine W.widen (k := 0) (n := 0) (Nat.le_of_ble_eq_true rfl) (Nat.le_of_ble_eq_true rfl) ?_
  replace hP : va_P D vwCl [(ha, .inr (0, [.ref hr, .ref hg, .int z1, .int z2, .int z3])), (hr, .inr (7, [.int (nI n), .int (nI k), .int (nI al), .int (nI be), .int ea, .int pr, .ref sm, .int (nI se), .ref ca])), (a, .inl (cs 0, 8, .inl f))] H := hP
  replace hD : va_D A [(ha, .inr (0, [.ref hr, .ref hg, .int z1, .int z2, .int z3])), (hr, .inr (7, [.int (nI n), .int (nI k), .int (nI al), .int (nI be), .int ea, .int pr, .ref sm, .int (nI se), .ref ca])), (a, .inl (cs 0, 8, .inl f))] := hD
  refine xv (wr := []) (xV (As := [.ref a, .int (z3 &&& y), .int r_1]) (rest := []) C (c_X0_giveColour l D cs ha hg hr sm ca n k al be se ea pr z1 z2 z3 a f (z3 &&& y) r_1 (by first | omega | decide)) kX0_68 hP hD [0, 1, 2] rfl (by decide) 0 rfl rfl rfl ⟨Nat.le_of_ble_eq_true rfl, Nat.le_of_ble_eq_true rfl⟩ rfl hl.1 rfl (Nat.le_of_ble_eq_true rfl) dX0_settle_19 ⟨Nat.le_of_ble_eq_true rfl, Nat.le_of_ble_eq_true rfl⟩) hP hD hS hA [0, 1, 2] [] rfl rfl (by decide) (by decide) ?_
  clear hP hD hS
  try clear locs
  try clear H
  intro u_4 H locs hw_r_3 hP hD hS
  refine W.widen (k := 0) (n := 0) (Nat.le_of_ble_eq_true rfl) (Nat.le_of_ble_eq_true rfl) ?_
  replace hP : va_P D vwCl [(ha, .inr (0, [.ref hr, .ref hg, .int z1, .int z2, .int z3])), (hr, .inr (7, [.int (nI n), .int (nI k), .int (nI al), .int (nI be), .int ea, .int pr, .ref sm, .int (nI se), .ref ca])), (a, .inl (cs 0, 8, .inl u_4))] H := hP
  replace hD : va_D A [(ha, .inr (0, [.ref hr, .ref hg, .int z1, .int z2, .int z3])), (hr, .inr (7, [.int (nI n), .int (nI k), .int (nI al), .int (nI be), .int ea, .int pr, .ref sm, .int (nI se), .ref ca])), (a, .inl (cs 0, 8, .inl u_4))] := hD
  refine lv_aload_n hx hb dX0_settle_22 rfl (lv_at hl 1 rfl) ?_
  refine xget C hP 0 rfl rfl zuX0 0 (by decide) zw1_237 rfl dX0_settle_23 ?_
  refine xget C hP 1 rfl rfl zuX7 5 (by decide) zw1_98 rfl dX0_settle_26 ?_
  refine lv_if_ne (tgt := 54) hx hb dX0_settle_29 (by decide) (fun c_5 => ?_) (fun c_5 => ?_)
  · -- 29 t
    refine lv_iload_n hx hb dX0_settle_54 rfl (lv_at hl 4 rfl) ?_
    refine lv_iconst (v := (-1)) hx hb dX0_settle_55 (by decide) ?_
    refine lv_icmp_ne (tgt := 71) hx hb dX0_settle_56 (by decide) (fun c_6 => ?_) (fun c_6 => ?_)
    · -- 56 t
      refine lv_aload_n hx hb dX0_settle_71 rfl (lv_at hl 1 rfl) ?_
      refine xget C hP 0 rfl rfl zuX0 0 (by decide) zw1_237 rfl dX0_settle_72 ?_
      refine xget C hP 1 rfl rfl zuX7 5 (by decide) zw1_98 rfl dX0_settle_75 ?_
      refine lv_iconst (v := nI 1) hx hb dX0_settle_78 (by decide) ?_
      refine lv_icmp_ne (tgt := 91) hx hb dX0_settle_79 (by decide) (fun c_7 => ?_) (fun c_7 => ?_)
      · -- 79 t
        refine lv_iload hx hb dX0_settle_91 (lv_at hl 0 rfl) ?_
        refine lv_iload_n hx hb dX0_settle_93 rfl (lv_at hl 4 rfl) ?_
        refine xi (wr := [(ha, .inr (0, [.ref hr, .ref hg, .int z1, .int z2, .int z3])), (hr, .inr (7, [.int (nI n), .int (nI k), .int (nI al), .int (nI be), .int ea, .int pr, .ref sm, .int (nI se), .ref ca])), (a, .inl (cs 0, 8, .inl u_4))]) (xS (As := [.int (f i), .int x]) (rest := []) C (c_X0_byBall l D cs (f i) x) kX0_85 hP hD [] rfl (by decide) ⟨Nat.le_of_ble_eq_true rfl, Nat.le_of_ble_eq_true rfl⟩ rfl hl.1 rfl (Nat.le_of_ble_eq_true rfl) dX0_settle_94 ⟨Nat.le_of_ble_eq_true rfl, Nat.le_of_ble_eq_true rfl⟩) hP hD hS hA [] [0, 1, 2] rfl rfl (by decide) (by decide) ?_
        clear hP hD hS
        try clear locs
        try clear H
        intro r_8 u_9 H locs hw_r_8 hP hD hS
        refine W.widen (k := 0) (n := 0) (Nat.le_of_ble_eq_true rfl) (Nat.le_of_ble_eq_true rfl) ?_
        replace hP : va_P D vwCl [(ha, .inr (0, [.ref hr, .ref hg, .int z1, .int z2, .int z3])), (hr, .inr (7, [.int (nI n), .int (nI k), .int (nI al), .int (nI be), .int ea, .int pr, .ref sm, .int (nI se), .ref ca])), (a, .inl (cs 0, 8, .inl u_4))] H := hP
        replace hD : va_D A [(ha, .inr (0, [.ref hr, .ref hg, .int z1, .int z2, .int z3])), (hr, .inr (7, [.int (nI n), .int (nI k), .int (nI al), .int (nI be), .int ea, .int pr, .ref sm, .int (nI se), .ref ca])), (a, .inl (cs 0, 8, .inl u_4))] := hD
        refine lv_istore (lv' := [(6, .int r_8), (5, .int (f i)), (0, .ref ha), (1, .ref a), (2, .int (nI i)), (3, .int x), (4, .int y)]) hx hb dX0_settle_97 hl (by decide) rfl ?_
        clear hl
        try clear ls
        intro ls hl
        refine lv_aload_n hx hb dX0_settle_99 rfl (lv_at hl 3 rfl) ?_
        refine lv_iload_n hx hb dX0_settle_100 rfl (lv_at hl 4 rfl) ?_
        refine lv_iload hx hb dX0_settle_101 (lv_at hl 0 rfl) ?_
        refine xi (wr := [(ha, .inr (0, [.ref hr, .ref hg, .int z1, .int z2, .int z3])), (hr, .inr (7, [.int (nI n), .int (nI k), .int (nI al), .int (nI be), .int ea, .int pr, .ref sm, .int (nI se), .ref ca])), (a, .inl (cs 0, 8, .inl u_4))]) (xS (As := [.int r_8]) (rest := [.int (nI i), .ref a]) C (c_X4_counterOf l D cs r_8) kX0_88 hP hD [] rfl (by decide) ⟨Nat.le_of_ble_eq_true rfl, Nat.le_of_ble_eq_true rfl⟩ rfl hl.1 rfl (Nat.le_of_ble_eq_true rfl) dX0_settle_103 ⟨Nat.le_of_ble_eq_true rfl, Nat.le_of_ble_eq_true rfl⟩) hP hD hS hA [] [0, 1, 2] rfl rfl (by decide) (by decide) ?_
        clear hP hD hS
        try clear locs
        try clear H
        intro r_10 u_11 H locs hw_r_10 hP hD hS
        have hw_r_10 : r_10 = ((r_8).toUInt32 >>> ((nI 4).toUInt32 &&& Int32.toUInt32 31)).toInt32 &&& nI 15 := hw_r_10
        refine W.widen (k := 0) (n := 0) (Nat.le_of_ble_eq_true rfl) (Nat.le_of_ble_eq_true rfl) ?_
        replace hP : va_P D vwCl [(ha, .inr (0, [.ref hr, .ref hg, .int z1, .int z2, .int z3])), (hr, .inr (7, [.int (nI n), .int (nI k), .int (nI al), .int (nI be), .int ea, .int pr, .ref sm, .int (nI se), .ref ca])), (a, .inl (cs 0, 8, .inl u_4))] H := hP
        replace hD : va_D A [(ha, .inr (0, [.ref hr, .ref hg, .int z1, .int z2, .int z3])), (hr, .inr (7, [.int (nI n), .int (nI k), .int (nI al), .int (nI be), .int ea, .int pr, .ref sm, .int (nI se), .ref ca])), (a, .inl (cs 0, 8, .inl u_4))] := hD
        refine lv_aload_n hx hb dX0_settle_106 rfl (lv_at hl 2 rfl) ?_
        refine xget C hP 0 rfl rfl zuX0 0 (by decide) zw1_237 rfl dX0_settle_107 ?_
        refine xget C hP 1 rfl rfl zuX7 3 (by decide) zw1_91 rfl dX0_settle_110 ?_
        refine lv_icmp_lt (tgt := 124) hx hb dX0_settle_113 (by decide) (fun c_12 => ?_) (fun c_12 => ?_)
        · -- 113 t
          refine lv_iload hx hb dX0_settle_124 (lv_at hl 0 rfl) ?_
          refine xiast C hP hD hS 2 rfl i rfl (by omega) (by decide) dX0_settle_126 ?_
          clear hP hD hS
          try clear locs
          try clear H
          intro H locs hP hD hS
          replace hP : va_P D vwCl [(ha, .inr (0, [.ref hr, .ref hg, .int z1, .int z2, .int z3])), (hr, .inr (7, [.int (nI n), .int (nI k), .int (nI al), .int (nI be), .int ea, .int pr, .ref sm, .int (nI se), .ref ca])), (a, .inl (cs 0, 8, .inl (upd u_4 i r_8)))] H := hP
          replace hD : va_D A [(ha, .inr (0, [.ref hr, .ref hg, .int z1, .int z2, .int z3])), (hr, .inr (7, [.int (nI n), .int (nI k), .int (nI al), .int (nI be), .int ea, .int pr, .ref sm, .int (nI se), .ref ca])), (a, .inl (cs 0, 8, .inl (upd u_4 i r_8)))] := hD
          exact xretv C (upd u_4 i r_8) trivial hP hD hS (Nat.le_of_ble_eq_true rfl) (Nat.le_of_ble_eq_true rfl) dX0_settle_127
        · -- 113 f
          refine lv_iload hx hb dX0_settle_116 (lv_at hl 0 rfl) ?_
          refine xi (wr := [(ha, .inr (0, [.ref hr, .ref hg, .int z1, .int z2, .int z3])), (hr, .inr (7, [.int (nI n), .int (nI k), .int (nI al), .int (nI be), .int ea, .int pr, .ref sm, .int (nI se), .ref ca])), (a, .inl (cs 0, 8, .inl u_4))]) (xS (As := [.int r_8]) (rest := [.int (nI i), .ref a]) C (c_X4_withDecided l D cs r_8) kX0_94 hP hD [] rfl (by decide) ⟨Nat.le_of_ble_eq_true rfl, Nat.le_of_ble_eq_true rfl⟩ rfl hl.1 rfl (Nat.le_of_ble_eq_true rfl) dX0_settle_118 ⟨Nat.le_of_ble_eq_true rfl, Nat.le_of_ble_eq_true rfl⟩) hP hD hS hA [] [0, 1, 2] rfl rfl (by decide) (by decide) ?_
          clear hP hD hS
          try clear locs
          try clear H
          intro r_13 u_14 H locs hw_r_13 hP hD hS
          have hw_r_13 : r_13 = wdF r_8 := hw_r_13
          refine W.widen (k := 0) (n := 0) (Nat.le_of_ble_eq_true rfl) (Nat.le_of_ble_eq_true rfl) ?_
          replace hP : va_P D vwCl [(ha, .inr (0, [.ref hr, .ref hg, .int z1, .int z2, .int z3])), (hr, .inr (7, [.int (nI n), .int (nI k), .int (nI al), .int (nI be), .int ea, .int pr, .ref sm, .int (nI se), .ref ca])), (a, .inl (cs 0, 8, .inl u_4))] H := hP
          replace hD : va_D A [(ha, .inr (0, [.ref hr, .ref hg, .int z1, .int z2, .int z3])), (hr, .inr (7, [.int (nI n), .int (nI k), .int (nI al), .int (nI be), .int ea, .int pr, .ref sm, .int (nI se), .ref ca])), (a, .inl (cs 0, 8, .inl u_4))] := hD
          refine lv_goto (tgt := 126) hx hb dX0_settle_121 (by decide) ?_
          refine xiast C hP hD hS 2 rfl i rfl (by omega) (by decide) dX0_settle_126 ?_
          clear hP hD hS
          try clear locs
          try clear H
          intro H locs hP hD hS
          replace hP : va_P D vwCl [(ha, .inr (0, [.ref hr, .ref hg, .int z1, .int z2, .int z3])), (hr, .inr (7, [.int (nI n), .int (nI k), .int (nI al), .int (nI be), .int ea, .int pr, .ref sm, .int (nI se), .ref ca])), (a, .inl (cs 0, 8, .inl (upd u_4 i r_13)))] H := hP
          replace hD : va_D A [(ha, .inr (0, [.ref hr, .ref hg, .int z1, .int z2, .int z3])), (hr, .inr (7, [.int (nI n), .int (nI k), .int (nI al), .int (nI be), .int ea, .int pr, .ref sm, .int (nI se), .ref ca])), (a, .inl (cs 0, 8, .inl (upd u_4 i r_13)))] := hD
          exact xretv C (upd u_4 i r_13) trivial hP hD hS (Nat.le_of_ble_eq_true rfl) (Nat.le_of_ble_eq_true rfl) dX0_settle_127
      · -- 79 f
        refine lv_iload hx hb dX0_settle_82 (lv_at hl 0 rfl) ?_
        refine lv_iload_n hx hb dX0_settle_84 rfl (lv_at hl 4 rfl) ?_
        refine xi (wr := [(ha, .inr (0, [.ref hr, .ref hg, .int z1, .int z2, .int z3])), (hr, .inr (7, [.int (nI n), .int (nI k), .int (nI al), .int (nI be), .int ea, .int pr, .ref sm, .int (nI se), .ref ca])), (a, .inl (cs 0, 8, .inl u_4))]) (xS (As := [.int (f i), .int x]) (rest := []) C (c_X0_byFlake l D cs (f i) x) kX0_82 hP hD [] rfl (by decide) ⟨Nat.le_of_ble_eq_true rfl, Nat.le_of_ble_eq_true rfl⟩ rfl hl.1 rfl (Nat.le_of_ble_eq_true rfl) dX0_settle_85 ⟨Nat.le_of_ble_eq_true rfl, Nat.le_of_ble_eq_true rfl⟩) hP hD hS hA [] [0, 1, 2] rfl rfl (by decide) (by decide) ?_
        clear hP hD hS
        try clear locs
        try clear H
        intro r_15 u_16 H locs hw_r_15 hP hD hS
        refine W.widen (k := 0) (n := 0) (Nat.le_of_ble_eq_true rfl) (Nat.le_of_ble_eq_true rfl) ?_
        replace hP : va_P D vwCl [(ha, .inr (0, [.ref hr, .ref hg, .int z1, .int z2, .int z3])), (hr, .inr (7, [.int (nI n), .int (nI k), .int (nI al), .int (nI be), .int ea, .int pr, .ref sm, .int (nI se), .ref ca])), (a, .inl (cs 0, 8, .inl u_4))] H := hP
        replace hD : va_D A [(ha, .inr (0, [.ref hr, .ref hg, .int z1, .int z2, .int z3])), (hr, .inr (7, [.int (nI n), .int (nI k), .int (nI al), .int (nI be), .int ea, .int pr, .ref sm, .int (nI se), .ref ca])), (a, .inl (cs 0, 8, .inl u_4))] := hD
        refine lv_goto (tgt := 97) hx hb dX0_settle_88 (by decide) ?_
        refine lv_istore (lv' := [(6, .int r_15), (5, .int (f i)), (0, .ref ha), (1, .ref a), (2, .int (nI i)), (3, .int x), (4, .int y)]) hx hb dX0_settle_97 hl (by decide) rfl ?_
        clear hl
        try clear ls
        intro ls hl
        refine lv_aload_n hx hb dX0_settle_99 rfl (lv_at hl 3 rfl) ?_
        refine lv_iload_n hx hb dX0_settle_100 rfl (lv_at hl 4 rfl) ?_
        refine lv_iload hx hb dX0_settle_101 (lv_at hl 0 rfl) ?_
        refine xi (wr := [(ha, .inr (0, [.ref hr, .ref hg, .int z1, .int z2, .int z3])), (hr, .inr (7, [.int (nI n), .int (nI k), .int (nI al), .int (nI be), .int ea, .int pr, .ref sm, .int (nI se), .ref ca])), (a, .inl (cs 0, 8, .inl u_4))]) (xS (As := [.int r_15]) (rest := [.int (nI i), .ref a]) C (c_X4_counterOf l D cs r_15) kX0_88 hP hD [] rfl (by decide) ⟨Nat.le_of_ble_eq_true rfl, Nat.le_of_ble_eq_true rfl⟩ rfl hl.1 rfl (Nat.le_of_ble_eq_true rfl) dX0_settle_103 ⟨Nat.le_of_ble_eq_true rfl, Nat.le_of_ble_eq_true rfl⟩) hP hD hS hA [] [0, 1, 2] rfl rfl (by decide) (by decide) ?_
        clear hP hD hS
        try clear locs
        try clear H
        intro r_17 u_18 H locs hw_r_17 hP hD hS
        have hw_r_17 : r_17 = ((r_15).toUInt32 >>> ((nI 4).toUInt32 &&& Int32.toUInt32 31)).toInt32 &&& nI 15 := hw_r_17
        refine W.widen (k := 0) (n := 0) (Nat.le_of_ble_eq_true rfl) (Nat.le_of_ble_eq_true rfl) ?_
        replace hP : va_P D vwCl [(ha, .inr (0, [.ref hr, .ref hg, .int z1, .int z2, .int z3])), (hr, .inr (7, [.int (nI n), .int (nI k), .int (nI al), .int (nI be), .int ea, .int pr, .ref sm, .int (nI se), .ref ca])), (a, .inl (cs 0, 8, .inl u_4))] H := hP
        replace hD : va_D A [(ha, .inr (0, [.ref hr, .ref hg, .int z1, .int z2, .int z3])), (hr, .inr (7, [.int (nI n), .int (nI k), .int (nI al), .int (nI be), .int ea, .int pr, .ref sm, .int (nI se), .ref ca])), (a, .inl (cs 0, 8, .inl u_4))] := hD
        refine lv_aload_n hx hb dX0_settle_106 rfl (lv_at hl 2 rfl) ?_
        refine xget C hP 0 rfl rfl zuX0 0 (by decide) zw1_237 rfl dX0_settle_107 ?_
        refine xget C hP 1 rfl rfl zuX7 3 (by decide) zw1_91 rfl dX0_settle_110 ?_
        refine lv_icmp_lt (tgt := 124) hx hb dX0_settle_113 (by decide) (fun c_19 => ?_) (fun c_19 => ?_)
        · -- 113 t
          refine lv_iload hx hb dX0_settle_124 (lv_at hl 0 rfl) ?_
          refine xiast C hP hD hS 2 rfl i rfl (by omega) (by decide) dX0_settle_126 ?_
          clear hP hD hS
          try clear locs
          try clear H
          intro H locs hP hD hS
          replace hP : va_P D vwCl [(ha, .inr (0, [.ref hr, .ref hg, .int z1, .int z2, .int z3])), (hr, .inr (7, [.int (nI n), .int (nI k), .int (nI al), .int (nI be), .int ea, .int pr, .ref sm, .int (nI se), .ref ca])), (a, .inl (cs 0, 8, .inl (upd u_4 i r_15)))] H := hP
          replace hD : va_D A [(ha, .inr (0, [.ref hr, .ref hg, .int z1, .int z2, .int z3])), (hr, .inr (7, [.int (nI n), .int (nI k), .int (nI al), .int (nI be), .int ea, .int pr, .ref sm, .int (nI se), .ref ca])), (a, .inl (cs 0, 8, .inl (upd u_4 i r_15)))] := hD
          exact xretv C (upd u_4 i r_15) trivial hP hD hS (Nat.le_of_ble_eq_true rfl) (Nat.le_of_ble_eq_true rfl) dX0_settle_127
        · -- 113 f
          refine lv_iload hx hb dX0_settle_116 (lv_at hl 0 rfl) ?_
          refine xi (wr := [(ha, .inr (0, [.ref hr, .ref hg, .int z1, .int z2, .int z3])), (hr, .inr (7, [.int (nI n), .int (nI k), .int (nI al), .int (nI be), .int ea, .int pr, .ref sm, .int (nI se), .ref ca])), (a, .inl (cs 0, 8, .inl u_4))]) (xS (As := [.int r_15]) (rest := [.int (nI i), .ref a]) C (c_X4_withDecided l D cs r_15) kX0_94 hP hD [] rfl (by decide) ⟨Nat.le_of_ble_eq_true rfl, Nat.le_of_ble_eq_true rfl⟩ rfl hl.1 rfl (Nat.le_of_ble_eq_true rfl) dX0_settle_118 ⟨Nat.le_of_ble_eq_true rfl, Nat.le_of_ble_eq_true rfl⟩) hP hD hS hA [] [0, 1, 2] rfl rfl (by decide) (by decide) ?_
          clear hP hD hS
          try clear locs
          try clear H
          intro r_20 u_21 H locs hw_r_20 hP hD hS
          have hw_r_20 : r_20 = wdF r_15 := hw_r_20
          refine W.widen (k := 0) (n := 0) (Nat.le_of_ble_eq_true rfl) (Nat.le_of_ble_eq_true rfl) ?_
          replace hP : va_P D vwCl [(ha, .inr (0, [.ref hr, .ref hg, .int z1, .int z2, .int z3])), (hr, .inr (7, [.int (nI n), .int (nI k), .int (nI al), .int (nI be), .int ea, .int pr, .ref sm, .int (nI se), .ref ca])), (a, .inl (cs 0, 8, .inl u_4))] H := hP
          replace hD : va_D A [(ha, .inr (0, [.ref hr, .ref hg, .int z1, .int z2, .int z3])), (hr, .inr (7, [.int (nI n), .int (nI k), .int (nI al), .int (nI be), .int ea, .int pr, .ref sm, .int (nI se), .ref ca])), (a, .inl (cs 0, 8, .inl u_4))] := hD
          refine lv_goto (tgt := 126) hx hb dX0_settle_121 (by decide) ?_
          refine xiast C hP hD hS 2 rfl i rfl (by omega) (by decide) dX0_settle_126 ?_
          clear hP hD hS
          try clear locs
          try clear H
          intro H locs hP hD hS
          replace hP : va_P D vwCl [(ha, .inr (0, [.ref hr, .ref hg, .int z1, .int z2, .int z3])), (hr, .inr (7, [.int (nI n), .int (nI k), .int (nI al), .int (nI be), .int ea, .int pr, .ref sm, .int (nI se), .ref ca])), (a, .inl (cs 0, 8, .inl (upd u_4 i r_20)))] H := hP
          replace hD : va_D A [(ha, .inr (0, [.ref hr, .ref hg, .int z1, .int z2, .int z3])), (hr, .inr (7, [.int (nI n), .int (nI k), .int (nI al), .int (nI be), .int ea, .int pr, .ref sm, .int (nI se), .ref ca])), (a, .inl (cs 0, 8, .inl (upd u_4 i r_20)))] := hD
          exact xretv C (upd u_4 i r_20) trivial hP hD hS (Nat.le_of_ble_eq_true rfl) (Nat.le_of_ble_eq_true rfl) dX0_settle_127
    · -- 56 f
      refine lv_aload_n hx hb dX0_settle_59 rfl (lv_at hl 2 rfl) ?_
      refine lv_iload_n hx hb dX0_settle_60 rfl (lv_at hl 3 rfl) ?_
      refine lv_iload hx hb dX0_settle_61 (lv_at hl 0 rfl) ?_
      refine lv_iconst (v := nI 0) hx hb dX0_settle_63 (by decide) ?_
      refine xi (wr := [(ha, .inr (0, [.ref hr, .ref hg, .int z1, .int z2, .int z3])), (hr, .inr (7, [.int (nI n), .int (nI k), .int (nI al), .int (nI be), .int ea, .int pr, .ref sm, .int (nI se), .ref ca])), (a, .inl (cs 0, 8, .inl u_4))]) (xS (As := [.int (f i), .int (nI 0)]) (rest := [.int (nI i), .ref a]) C (c_X4_withCounter l D cs (f i) (nI 0)) kX0_79 hP hD [] rfl (by decide) ⟨Nat.le_of_ble_eq_true rfl, Nat.le_of_ble_eq_true rfl⟩ rfl hl.1 rfl (Nat.le_of_ble_eq_true rfl) dX0_settle_64 ⟨Nat.le_of_ble_eq_true rfl, Nat.le_of_ble_eq_true rfl⟩) hP hD hS hA [] [0, 1, 2] rfl rfl (by decide) (by decide) ?_
      clear hP hD hS
      try clear locs
      try clear H
      intro r_22 u_23 H locs hw_r_22 hP hD hS
      have hw_r_22 : r_22 = wcF (f i) (nI 0) := hw_r_22
      refine W.widen (k := 0) (n := 0) (Nat.le_of_ble_eq_true rfl) (Nat.le_of_ble_eq_true rfl) ?_
      replace hP : va_P D vwCl [(ha, .inr (0, [.ref hr, .ref hg, .int z1, .int z2, .int z3])), (hr, .inr (7, [.int (nI n), .int (nI k), .int (nI al), .int (nI be), .int ea, .int pr, .ref sm, .int (nI se), .ref ca])), (a, .inl (cs 0, 8, .inl u_4))] H := hP
      replace hD : va_D A [(ha, .inr (0, [.ref hr, .ref hg, .int z1, .int z2, .int z3])), (hr, .inr (7, [.int (nI n), .int (nI k), .int (nI al), .int (nI be), .int ea, .int pr, .ref sm, .int (nI se), .ref ca])), (a, .inl (cs 0, 8, .inl u_4))] := hD
      refine xiast C hP hD hS 2 rfl i rfl (by omega) (by decide) dX0_settle_67 ?_
      clear hP hD hS
      try clear locs
      try clear H
      intro H locs hP hD hS
      replace hP : va_P D vwCl [(ha, .inr (0, [.ref hr, .ref hg, .int z1, .int z2, .int z3])), (hr, .inr (7, [.int (nI n), .int (nI k), .int (nI al), .int (nI be), .int ea, .int pr, .ref sm, .int (nI se), .ref ca])), (a, .inl (cs 0, 8, .inl (upd u_4 i r_22)))] H := hP
      replace hD : va_D A [(ha, .inr (0, [.ref hr, .ref hg, .int z1, .int z2, .int z3])), (hr, .inr (7, [.int (nI n), .int (nI k), .int (nI al), .int (nI be), .int ea, .int pr, .ref sm, .int (nI se), .ref ca])), (a, .inl (cs 0, 8, .inl (upd u_4 i r_22)))] := hD
      refine lv_goto (tgt := 127) hx hb dX0_settle_68 (by decide) ?_
      exact xretv C (upd u_4 i r_22) trivial hP hD hS (Nat.le_of_ble_eq_true rfl) (Nat.le_of_ble_eq_true rfl) dX0_settle_127
  · -- 29 f
    refine lv_aload_n hx hb dX0_settle_32 rfl (lv_at hl 2 rfl) ?_
    refine lv_iload_n hx hb dX0_settle_33 rfl (lv_at hl 3 rfl) ?_
    refine lv_iload_n hx hb dX0_settle_34 rfl (lv_at hl 4 rfl) ?_
    refine lv_iconst (v := (-1)) hx hb dX0_settle_35 (by decide) ?_
    refine lv_icmp_ne (tgt := 44) hx hb dX0_settle_36 (by decide) (fun c_24 => ?_) (fun c_24 => ?_)
    · -- 36 t
      refine lv_iload hx hb dX0_settle_44 (lv_at hl 0 rfl) ?_
      refine lv_iload_n hx hb dX0_settle_46 rfl (lv_at hl 4 rfl) ?_
      refine xi (wr := [(ha, .inr (0, [.ref hr, .ref hg, .int z1, .int z2, .int z3])), (hr, .inr (7, [.int (nI n), .int (nI k), .int (nI al), .int (nI be), .int ea, .int pr, .ref sm, .int (nI se), .ref ca])), (a, .inl (cs 0, 8, .inl u_4))]) (xS (As := [.int (f i), .int x]) (rest := [.int (nI i), .ref a]) C (c_X4_withColour l D cs (f i) x) kX0_75 hP hD [] rfl (by decide) ⟨Nat.le_of_ble_eq_true rfl, Nat.le_of_ble_eq_true rfl⟩ rfl hl.1 rfl (Nat.le_of_ble_eq_true rfl) dX0_settle_47 ⟨Nat.le_of_ble_eq_true rfl, Nat.le_of_ble_eq_true rfl⟩) hP hD hS hA [] [0, 1, 2] rfl rfl (by decide) (by decide) ?_
      clear hP hD hS
      try clear locs
      try clear H
      intro r_25 u_26 H locs hw_r_25 hP hD hS
      have hw_r_25 : r_25 = ((f i) &&& (-4)) ||| (x + nI 1) := hw_r_25
      refine W.widen (k := 0) (n := 0) (Nat.le_of_ble_eq_true rfl) (Nat.le_of_ble_eq_true rfl) ?_
      replace hP : va_P D vwCl [(ha, .inr (0, [.ref hr, .ref hg, .int z1, .int z2, .int z3])), (hr, .inr (7, [.int (nI n), .int (nI k), .int (nI al), .int (nI be), .int ea, .int pr, .ref sm, .int (nI se), .ref ca])), (a, .inl (cs 0, 8, .inl u_4))] H := hP
      replace hD : va_D A [(ha, .inr (0, [.ref hr, .ref hg, .int z1, .int z2, .int z3])), (hr, .inr (7, [.int (nI n), .int (nI k), .int (nI al), .int (nI be), .int ea, .int pr, .ref sm, .int (nI se), .ref ca])), (a, .inl (cs 0, 8, .inl u_4))] := hD
      refine xiast C hP hD hS 2 rfl i rfl (by omega) (by decide) dX0_settle_50 ?_
      clear hP hD hS
      try clear locs
      try clear H
      intro H locs hP hD hS
      replace hP : va_P D vwCl [(ha, .inr (0, [.ref hr, .ref hg, .int z1, .int z2, .int z3])), (hr, .inr (7, [.int (nI n), .int (nI k), .int (nI al), .int (nI be), .int ea, .int pr, .ref sm, .int (nI se), .ref ca])), (a, .inl (cs 0, 8, .inl (upd u_4 i r_25)))] H := hP
      replace hD : va_D A [(ha, .inr (0, [.ref hr, .ref hg, .int z1, .int z2, .int z3])), (hr, .inr (7, [.int (nI n), .int (nI k), .int (nI al), .int (nI be), .int ea, .int pr, .ref sm, .int (nI se), .ref ca])), (a, .inl (cs 0, 8, .inl (upd u_4 i r_25)))] := hD
      refine lv_goto (tgt := 127) hx hb dX0_settle_51 (by decide) ?_
      exact xretv C (upd u_4 i r_25) trivial hP hD hS (Nat.le_of_ble_eq_true rfl) (Nat.le_of_ble_eq_true rfl) dX0_settle_127
    · -- 36 f
      refine lv_iload hx hb dX0_settle_39 (lv_at hl 0 rfl) ?_
      refine lv_goto (tgt := 50) hx hb dX0_settle_41 (by decide) ?_
      refine xiast C hP hD hS 2 rfl i rfl (by omega) (by decide) dX0_settle_50 ?_
      clear hP hD hS
      try clear locs
      try clear H
      intro H locs hP hD hS
      replace hP : va_P D vwCl [(ha, .inr (0, [.ref hr, .ref hg, .int z1, .int z2, .int z3])), (hr, .inr (7, [.int (nI n), .int (nI k), .int (nI al), .int (nI be), .int ea, .int pr, .ref sm, .int (nI se), .ref ca])), (a, .inl (cs 0, 8, .inl (upd u_4 i (f i))))] H := hP
      replace hD : va_D A [(ha, .inr (0, [.ref hr, .ref hg, .int z1, .int z2, .int z3])), (hr, .inr (7, [.int (nI n), .int (nI k), .int (nI al), .int (nI be), .int ea, .int pr, .ref sm, .int (nI se), .ref ca])), (a, .inl (cs 0, 8, .inl (upd u_4 i (f i))))] := hD
      refine lv_goto (tgt := 127) hx hb dX0_settle_51 (by decide) ?_
      exact xretv C (upd u_4 i (f i)) trivial hP hD hS (Nat.le_of_ble_eq_true rfl) (Nat.le_of_ble_eq_true rfl) dX0_settle_127

set_option maxHeartbeats 4000000 in
set_option maxRecDepth 100000 in
theorem c_X0_decisions (l : Launch) (D : va_G) (cs : Nat → ClassId) (ha hg : Nat) (hr sm ca n k al be se : Nat) (ea pr : Int32) (z1 z2 z3 : Int32) (nd kd lk vw : Nat) (kf : Nat → Int32) (a nn b : Nat) (f : Nat → Int32) (hn : n ≤ 8) (hb : b + 8 ≤ nn) (hnn : nn < 2 ^ 20) : xMet l D cs yX0_decisions cX0_decisions 6 (some .int) ({ frames := 1, cells := 0, slots := 0, locals := 20 } : Room) [.ref ha, .ref a, .int (nI b)] [(ha, .inr (0, [.ref hr, .ref hg, .int z1, .int z2, .int z3])), (hr, .inr (7, [.int (nI n), .int (nI k), .int (nI al), .int (nI be), .int ea, .int pr, .ref sm, .int (nI se), .ref ca])), (hg, .inr (4, [.ref nd, .ref kd, .ref lk, .ref vw])), (kd, .inl (cs 0, 8, .inl kf)), (a, .inl (cs 0, nn, .inl f))] (xQi D (fun (r : Int32) (_u : Unit) => True) (fun (_u : Unit) => [(ha, .inr (0, [.ref hr, .ref hg, .int z1, .int z2, .int z3])), (hr, .inr (7, [.int (nI n), .int (nI k), .int (nI al), .int (nI be), .int ea, .int pr, .ref sm, .int (nI se), .ref ca])), (hg, .inr (4, [.ref nd, .ref kd, .ref lk, .ref vw])), (kd, .inl (cs 0, 8, .inl kf)), (a, .inl (cs 0, nn, .inl f))])) := by
  refine xMet.intro (by decide) (Nat.le_of_ble_eq_true rfl) ?_
  intro p e s m args below meth c A ls C hP hD hS hl
  have hx := C.1
  have hb := C.2.1
  have hz := C.2.2.2.2.1
  have hown := C.2.2.2.1
  have hA := C.2.2.2.2.2.2.2.2.2
  have hAO := C.2.2.2.2.2.2.2.2.1.2.2
  replace hl : lv_has ls 6 [(0, .ref ha), (1, .ref a), (2, .int (nI b))] := hl
  obtain ⟨H, hH⟩ : ∃ H, H = s.heap := ⟨_, rfl⟩
  replace hP : va_P D vwCl [(ha, .inr (0, [.ref hr, .ref hg, .int z1, .int z2, .int z3])), (hr, .inr (7, [.int (nI n), .int (nI k), .int (nI al), .int (nI be), .int ea, .int pr, .ref sm, .int (nI se), .ref ca])), (hg, .inr (4, [.ref nd, .ref kd, .ref lk, .ref vw])), (kd, .inl (cs 0, 8, .inl kf)), (a, .inl (cs 0, nn, .inl f))] H := by rw [hH]; exact hP
  replace hS : va_S A s.heap H [] := by rw [hH]; exact hS
  obtain ⟨locs, hlocs⟩ : ∃ z : List Loc, z = [] := ⟨_, rfl⟩
  rw [← hlocs] at hS
  suffices hW : W p l e ({ frames := 1, cells := 0, slots := 0, locals := 20 } : Room) s m args below meth c H locs 0 0 (MQ below ((xQi D (fun (r : Int32) (_u : Unit) => True) (fun (_u : Unit) => [(ha, .inr (0, [.ref hr, .ref hg, .int z1, .int z2, .int z3])), (hr, .inr (7, [.int (nI n), .int (nI k), .int (nI al), .int (nI be), .int ea, .int pr, .ref sm, .int (nI se), .ref ca])), (hg, .inr (4, [.ref nd, .ref kd, .ref lk, .ref vw])), (kd, .inl (cs 0, 8, .inl kf)), (a, .inl (cs 0, nn, .inl f))])) A) args s 0 0 A) (F0 m 0 ls []) by rw [hlocs, hH] at hW; exact hW
  clear hH hlocs
  refine lv_iconst (v := nI 0) hx hb dX0_decisions_0 (by decide) ?_
  refine lv_istore_n (lv' := [(3, .int (nI 0)), (0, .ref ha), (1, .ref a), (2, .int (nI b))]) hx hb dX0_decisions_1 rfl hl (by decide) rfl ?_
  clear hl
  try clear ls
  intro ls hl
  refine lv_iconst (v := nI 0) hx hb dX0_decisions_2 (by decide) ?_
  refine lv_istore (lv' := [(4, .int (nI 0)), (3, .int (nI 0)), (0, .ref ha), (1, .ref a), (2, .int (nI b))]) hx hb dX0_decisions_3 hl (by decide) rfl ?_
  clear hl
  try clear ls
  intro ls hl
  have loop_1 : ∀ (n_loop_1 : Nat) (o : Nat) (m9 : Int32), (o ≤ n) → n - o < n_loop_1 → ∀ (H : Heap) (locs : List Loc) (ls : Array Slot), va_P D vwCl [(ha, .inr (0, [.ref hr, .ref hg, .int z1, .int z2, .int z3])), (hr, .inr (7, [.int (nI n), .int (nI k), .int (nI al), .int (nI be), .int ea, .int pr, .ref sm, .int (nI se), .ref ca])), (hg, .inr (4, [.ref nd, .ref kd, .ref lk, .ref vw])), (kd, .inl (cs 0, 8, .inl kf)), (a, .inl (cs 0, nn, .inl f))] H → va_D A [(ha, .inr (0, [.ref hr, .ref hg, .int z1, .int z2, .int z3])), (hr, .inr (7, [.int (nI n), .int (nI k), .int (nI al), .int (nI be), .int ea, .int pr, .ref sm, .int (nI se), .ref ca])), (hg, .inr (4, [.ref nd, .ref kd, .ref lk, .ref vw])), (kd, .inl (cs 0, 8, .inl kf)), (a, .inl (cs 0, nn, .inl f))] → va_S A s.heap H locs → lv_has ls 6 [(4, .int (nI o)), (3, .int m9), (0, .ref ha), (1, .ref a), (2, .int (nI b))] → W p l e ({ frames := 1, cells := 0, slots := 0, locals := 20 } : Room) s m args below meth c H locs 0 0 (MQ below ((xQi D (fun (r : Int32) (_u : Unit) => True) (fun (_u : Unit) => [(ha, .inr (0, [.ref hr, .ref hg, .int z1, .int z2, .int z3])), (hr, .inr (7, [.int (nI n), .int (nI k), .int (nI al), .int (nI be), .int ea, .int pr, .ref sm, .int (nI se), .ref ca])), (hg, .inr (4, [.ref nd, .ref kd, .ref lk, .ref vw])), (kd, .inl (cs 0, 8, .inl kf)), (a, .inl (cs 0, nn, .inl f))])) A) args s 0 0 A) (F0 m 5 ls []) := by
    intro n_loop_1
    induction n_loop_1 with
    | zero => intro o m9 h_o hlt H locs ls hP hD hS hl; exact absurd hlt (Nat.not_lt_zero _)
    | succ n_loop_1 ih_loop_1 =>
      intro o m9 h_o hlt_loop_1 H locs ls hP hD hS hl
      refine lv_iload hx hb dX0_decisions_5 (lv_at hl 0 rfl) ?_
      refine lv_aload_n hx hb dX0_decisions_7 rfl (lv_at hl 2 rfl) ?_
      refine xget C hP 0 rfl rfl zuX0 0 (by decide) zw1_237 rfl dX0_decisions_8 ?_
      refine xget C hP 1 rfl rfl zuX7 0 (by decide) zw1_76 rfl dX0_decisions_11 ?_
      refine lv_icmp_ge (tgt := 69) hx hb dX0_decisions_14 (by decide) (fun c_2 => ?_) (fun c_2 => ?_)
      · -- 14 t
        have fc_2 : n ≤ o := nf_le (by omega) (by omega) c_2
        refine lv_iload_n hx hb dX0_decisions_69 rfl (lv_at hl 1 rfl) ?_
        exact xreti C () trivial hP hD hS (Nat.le_of_ble_eq_true rfl) (Nat.le_of_ble_eq_true rfl) rfl dX0_decisions_70
      · -- 14 f
        have fc_2 : o < n := nf_nle (by omega) (by omega) c_2
        refine lv_aload_n hx hb dX0_decisions_17 rfl (lv_at hl 3 rfl) ?_
        refine lv_iload_n hx hb dX0_decisions_18 rfl (lv_at hl 4 rfl) ?_
        refine lv_iload hx hb dX0_decisions_19 (lv_at hl 0 rfl) ?_
        refine lv_iadd hx hb dX0_decisions_21 ?_
        refine lv_topi (nm_r (e' := nI (b + o)) (nI_add _ _) ?_)
        refine xiald C hP 4 rfl (b + o) rfl (by omega) (by omega) dX0_decisions_22 ?_
        refine lv_istore (lv' := [(5, .int (f (b + o))), (4, .int (nI o)), (3, .int m9), (0, .ref ha), (1, .ref a), (2, .int (nI b))]) hx hb dX0_decisions_23 hl (by decide) rfl ?_
        clear hl
        try clear ls
        intro ls hl
        refine lv_aload_n hx hb dX0_decisions_25 rfl (lv_at hl 3 rfl) ?_
        refine xget C hP 0 rfl rfl zuX0 1 (by decide) zw1_238 rfl dX0_decisions_26 ?_
        refine xget C hP 2 rfl rfl zuX4 1 (by decide) zw1_173 rfl dX0_decisions_29 ?_
        refine lv_iload hx hb dX0_decisions_32 (lv_at hl 1 rfl) ?_
        refine xiald C hP 3 rfl o rfl (by omega) (by decide) dX0_decisions_34 ?_
        refine lv_if_ne (tgt := 63) hx hb dX0_decisions_35 (by decide) (fun c_3 => ?_) (fun c_3 => ?_)
        · -- 35 t
          refine lv_iinc (v := nI (o + 1)) (lv' := [(4, .int (nI (o + 1))), (5, .int (f (b + o))), (3, .int m9), (0, .ref ha), (1, .ref a), (2, .int (nI b))]) hx hb dX0_decisions_63 hl (k := 1) rfl (nI_add o 1) (by decide) rfl ?_
          clear hl
          try clear ls
          intro ls hl
          refine lv_goto (tgt := 5) hx hb dX0_decisions_66 (by decide) ?_
          exact ih_loop_1 (o + 1) m9 (by omega) (by omega) H locs ls hP hD hS (lv_sub hl [0, 2, 3, 4, 5] rfl)
        · -- 35 f
          refine lv_iload hx hb dX0_decisions_38 (lv_at hl 0 rfl) ?_
          refine xi (wr := [(ha, .inr (0, [.ref hr, .ref hg, .int z1, .int z2, .int z3])), (hr, .inr (7, [.int (nI n), .int (nI k), .int (nI al), .int (nI be), .int ea, .int pr, .ref sm, .int (nI se), .ref ca])), (hg, .inr (4, [.ref nd, .ref kd, .ref lk, .ref vw])), (kd, .inl (cs 0, 8, .inl kf)), (a, .inl (cs 0, nn, .inl f))]) (xS (As := [.int (f (b + o))]) (rest := []) C (c_X4_isDecided l D cs (f (b + o))) kX0_39 hP hD [] rfl (by decide) ⟨Nat.le_of_ble_eq_true rfl, Nat.le_of_ble_eq_true rfl⟩ rfl hl.1 rfl (Nat.le_of_ble_eq_true rfl) dX0_decisions_40 ⟨Nat.le_of_ble_eq_true rfl, Nat.le_of_ble_eq_true rfl⟩) hP hD hS hA [] [0, 1, 2, 3, 4] rfl rfl (by decide) (by decide) ?_
          clear hP hD hS
          try clear locs
          try clear H
          intro r_4 u_5 H locs hw_r_4 hP hD hS
          have hw_r_4 : r_4 = if (f (b + o)) &&& nI 268435456 = 0 then nI 0 else nI 1 := hw_r_4
          refine W.widen (k := 0) (n := 0) (Nat.le_of_ble_eq_true rfl) (Nat.le_of_ble_eq_true rfl) ?_
          replace hP : va_P D vwCl [(ha, .inr (0, [.ref hr, .ref hg, .int z1, .int z2, .int z3])), (hr, .inr (7, [.int (nI n), .int (nI k), .int (nI al), .int (nI be), .int ea, .int pr, .ref sm, .int (nI se), .ref ca])), (hg, .inr (4, [.ref nd, .ref kd, .ref lk, .ref vw])), (kd, .inl (cs 0, 8, .inl kf)), (a, .inl (cs 0, nn, .inl f))] H := hP
          replace hD : va_D A [(ha, .inr (0, [.ref hr, .ref hg, .int z1, .int z2, .int z3])), (hr, .inr (7, [.int (nI n), .int (nI k), .int (nI al), .int (nI be), .int ea, .int pr, .ref sm, .int (nI se), .ref ca])), (hg, .inr (4, [.ref nd, .ref kd, .ref lk, .ref vw])), (kd, .inl (cs 0, 8, .inl kf)), (a, .inl (cs 0, nn, .inl f))] := hD
          refine lv_if_eq (tgt := 63) hx hb dX0_decisions_43 (by decide) (fun c_6 => ?_) (fun c_6 => ?_)
          · -- 43 t
            refine lv_iinc (v := nI (o + 1)) (lv' := [(4, .int (nI (o + 1))), (5, .int (f (b + o))), (3, .int m9), (0, .ref ha), (1, .ref a), (2, .int (nI b))]) hx hb dX0_decisions_63 hl (k := 1) rfl (nI_add o 1) (by decide) rfl ?_
            clear hl
            try clear ls
            intro ls hl
            refine lv_goto (tgt := 5) hx hb dX0_decisions_66 (by decide) ?_
            exact ih_loop_1 (o + 1) m9 (by omega) (by omega) H locs ls hP hD hS (lv_sub hl [0, 2, 3, 4, 5] rfl)
          · -- 43 f
            refine lv_iload_n hx hb dX0_decisions_46 rfl (lv_at hl 2 rfl) ?_
            refine lv_iload hx hb dX0_decisions_47 (lv_at hl 0 rfl) ?_
            refine xi (wr := [(ha, .inr (0, [.ref hr, .ref hg, .int z1, .int z2, .int z3])), (hr, .inr (7, [.int (nI n), .int (nI k), .int (nI al), .int (nI be), .int ea, .int pr, .ref sm, .int (nI se), .ref ca])), (hg, .inr (4, [.ref nd, .ref kd, .ref lk, .ref vw])), (kd, .inl (cs 0, 8, .inl kf)), (a, .inl (cs 0, nn, .inl f))]) (xS (As := [.int (f (b + o))]) (rest := [.int m9]) C (c_X4_colourOf l D cs (f (b + o))) kX0_29 hP hD [] rfl (by decide) ⟨Nat.le_of_ble_eq_true rfl, Nat.le_of_ble_eq_true rfl⟩ rfl hl.1 rfl (Nat.le_of_ble_eq_true rfl) dX0_decisions_49 ⟨Nat.le_of_ble_eq_true rfl, Nat.le_of_ble_eq_true rfl⟩) hP hD hS hA [] [0, 1, 2, 3, 4] rfl rfl (by decide) (by decide) ?_
            clear hP hD hS
            try clear locs
            try clear H
            intro r_7 u_8 H locs hw_r_7 hP hD hS
            have hw_r_7 : r_7 = ((f (b + o)) &&& nI 3) - nI 1 := hw_r_7
            refine W.widen (k := 0) (n := 0) (Nat.le_of_ble_eq_true rfl) (Nat.le_of_ble_eq_true rfl) ?_
            replace hP : va_P D vwCl [(ha, .inr (0, [.ref hr, .ref hg, .int z1, .int z2, .int z3])), (hr, .inr (7, [.int (nI n), .int (nI k), .int (nI al), .int (nI be), .int ea, .int pr, .ref sm, .int (nI se), .ref ca])), (hg, .inr (4, [.ref nd, .ref kd, .ref lk, .ref vw])), (kd, .inl (cs 0, 8, .inl kf)), (a, .inl (cs 0, nn, .inl f))] H := hP
            replace hD : va_D A [(ha, .inr (0, [.ref hr, .ref hg, .int z1, .int z2, .int z3])), (hr, .inr (7, [.int (nI n), .int (nI k), .int (nI al), .int (nI be), .int ea, .int pr, .ref sm, .int (nI se), .ref ca])), (hg, .inr (4, [.ref nd, .ref kd, .ref lk, .ref vw])), (kd, .inl (cs 0, 8, .inl kf)), (a, .inl (cs 0, nn, .inl f))] := hD
            refine lv_iconst (v := nI 1) hx hb dX0_decisions_52 (by decide) ?_
            refine lv_icmp_ne (tgt := 60) hx hb dX0_decisions_53 (by decide) (fun c_9 => ?_) (fun c_9 => ?_)
            · -- 53 t
              refine lv_iconst (v := nI 1) hx hb dX0_decisions_60 (by decide) ?_
              refine lv_ior hx hb dX0_decisions_61 ?_
              refine lv_istore_n (lv' := [(3, .int (m9 ||| (nI 1))), (5, .int (f (b + o))), (4, .int (nI o)), (0, .ref ha), (1, .ref a), (2, .int (nI b))]) hx hb dX0_decisions_62 rfl hl (by decide) rfl ?_
              clear hl
              try clear ls
              intro ls hl
              refine lv_iinc (v := nI (o + 1)) (lv' := [(4, .int (nI (o + 1))), (3, .int (m9 ||| (nI 1))), (5, .int (f (b + o))), (0, .ref ha), (1, .ref a), (2, .int (nI b))]) hx hb dX0_decisions_63 hl (k := 2) rfl (nI_add o 1) (by decide) rfl ?_
              clear hl
              try clear ls
              intro ls hl
              refine lv_goto (tgt := 5) hx hb dX0_decisions_66 (by decide) ?_
              exact ih_loop_1 (o + 1) (m9 ||| (nI 1)) (by omega) (by omega) H locs ls hP hD hS (lv_sub hl [0, 1, 3, 4, 5] rfl)
            · -- 53 f
              refine lv_iconst (v := nI 2) hx hb dX0_decisions_56 (by decide) ?_
              refine lv_goto (tgt := 61) hx hb dX0_decisions_57 (by decide) ?_
              refine lv_ior hx hb dX0_decisions_61 ?_
              refine lv_istore_n (lv' := [(3, .int (m9 ||| (nI 2))), (5, .int (f (b + o))), (4, .int (nI o)), (0, .ref ha), (1, .ref a), (2, .int (nI b))]) hx hb dX0_decisions_62 rfl hl (by decide) rfl ?_
              clear hl
              try clear ls
              intro ls hl
              refine lv_iinc (v := nI (o + 1)) (lv' := [(4, .int (nI (o + 1))), (3, .int (m9 ||| (nI 2))), (5, .int (f (b + o))), (0, .ref ha), (1, .ref a), (2, .int (nI b))]) hx hb dX0_decisions_63 hl (k := 2) rfl (nI_add o 1) (by decide) rfl ?_
              clear hl
              try clear ls
              intro ls hl
              refine lv_goto (tgt := 5) hx hb dX0_decisions_66 (by decide) ?_
              exact ih_loop_1 (o + 1) (m9 ||| (nI 2)) (by omega) (by omega) H locs ls hP hD hS (lv_sub hl [0, 1, 3, 4, 5] rfl)
  exact loop_1 _ 0 (nI 0) (by omega) (Nat.lt_succ_self _) H locs ls hP hD hS (lv_sub hl [0, 1, 2, 3, 4] rfl)

set_option maxHeartbeats 4000000 in
set_option maxRecDepth 100000 in
theorem c_X0_isSplit (l : Launch) (D : va_G) (cs : Nat → ClassId) (ha hg : Nat) (hr sm ca n k al be se : Nat) (ea pr : Int32) (z1 z2 z3 : Int32) (nd kd lk vw : Nat) (kf : Nat → Int32) (a nn b : Nat) (f : Nat → Int32) (hn : n ≤ 8) (hb : b + 8 ≤ nn) (hnn : nn < 2 ^ 20) : xMet l D cs yX0_isSplit cX0_isSplit 3 (some .boolean) ({ frames := 2, cells := 0, slots := 0, locals := 45 } : Room) [.ref ha, .ref a, .int (nI b)] [(ha, .inr (0, [.ref hr, .ref hg, .int z1, .int z2, .int z3])), (hr, .inr (7, [.int (nI n), .int (nI k), .int (nI al), .int (nI be), .int ea, .int pr, .ref sm, .int (nI se), .ref ca])), (hg, .inr (4, [.ref nd, .ref kd, .ref lk, .ref vw])), (kd, .inl (cs 0, 8, .inl kf)), (a, .inl (cs 0, nn, .inl f))] (xQi D (fun (r : Int32) (_u : Unit) => r = nI 1 ∨ r = nI 0) (fun (_u : Unit) => [(ha, .inr (0, [.ref hr, .ref hg, .int z1, .int z2, .int z3])), (hr, .inr (7, [.int (nI n), .int (nI k), .int (nI al), .int (nI be), .int ea, .int pr, .ref sm, .int (nI se), .ref ca])), (hg, .inr (4, [.ref nd, .ref kd, .ref lk, .ref vw])), (kd, .inl (cs 0, 8, .inl kf)), (a, .inl (cs 0, nn, .inl f))])) := by
  refine xMet.intro (by decide) (Nat.le_of_ble_eq_true rfl) ?_
  intro p e s m args below meth c A ls C hP hD hS hl
  have hx := C.1
  have hb := C.2.1
  have hz := C.2.2.2.2.1
  have hown := C.2.2.2.1
  have hA := C.2.2.2.2.2.2.2.2.2
  have hAO := C.2.2.2.2.2.2.2.2.1.2.2
  replace hl : lv_has ls 3 [(0, .ref ha), (1, .ref a), (2, .int (nI b))] := hl
  obtain ⟨H, hH⟩ : ∃ H, H = s.heap := ⟨_, rfl⟩
  replace hP : va_P D vwCl [(ha, .inr (0, [.ref hr, .ref hg, .int z1, .int z2, .int z3])), (hr, .inr (7, [.int (nI n), .int (nI k), .int (nI al), .int (nI be), .int ea, .int pr, .ref sm, .int (nI se), .ref ca])), (hg, .inr (4, [.ref nd, .ref kd, .ref lk, .ref vw])), (kd, .inl (cs 0, 8, .inl kf)), (a, .inl (cs 0, nn, .inl f))] H := by rw [hH]; exact hP
  replace hS : va_S A s.heap H [] := by rw [hH]; exact hS
  obtain ⟨locs, hlocs⟩ : ∃ z : List Loc, z = [] := ⟨_, rfl⟩
  rw [← hlocs] at hS
  suffices hW : W p l e ({ frames := 2, cells := 0, slots := 0, locals := 45 } : Room) s m args below meth c H locs 0 0 (MQ below ((xQi D (fun (r : Int32) (_u : Unit) => r = nI 1 ∨ r = nI 0) (fun (_u : Unit) => [(ha, .inr (0, [.ref hr, .ref hg, .int z1, .int z2, .int z3])), (hr, .inr (7, [.int (nI n), .int (nI k), .int (nI al), .int (nI be), .int ea, .int pr, .ref sm, .int (nI se), .ref ca])), (hg, .inr (4, [.ref nd, .ref kd, .ref lk, .ref vw])), (kd, .inl (cs 0, 8, .inl kf)), (a, .inl (cs 0, nn, .inl f))])) A) args s 0 0 A) (F0 m 0 ls []) by rw [hlocs, hH] at hW; exact hW
  clear hH hlocs
  refine lv_aload_n hx hb dX0_isSplit_0 rfl (lv_at hl 0 rfl) ?_
  refine lv_aload_n hx hb dX0_isSplit_1 rfl (lv_at hl 1 rfl) ?_
  refine lv_iload_n hx hb dX0_isSplit_2 rfl (lv_at hl 2 rfl) ?_
  refine xi (wr := []) (xV (As := [.ref a, .int (nI b)]) (rest := []) C (c_X0_decisions l D cs ha hg hr sm ca n k al be se ea pr z1 z2 z3 nd kd lk vw kf a nn b f (by first | omega | decide) (by first | omega | decide) (by first | omega | decide)) kX0_114 hP hD [0, 1, 2, 3, 4] rfl (by decide) 0 rfl rfl rfl ⟨Nat.le_of_ble_eq_true rfl, Nat.le_of_ble_eq_true rfl⟩ rfl hl.1 rfl (Nat.le_of_ble_eq_true rfl) dX0_isSplit_3 ⟨Nat.le_of_ble_eq_true rfl, Nat.le_of_ble_eq_true rfl⟩) hP hD hS hA [0, 1, 2, 3, 4] [] rfl rfl (by decide) (by decide) ?_
  clear hP hD hS
  try clear locs
  try clear H
  intro r_1 u_2 H locs hw_r_1 hP hD hS
  refine W.widen (k := 0) (n := 0) (Nat.le_of_ble_eq_true rfl) (Nat.le_of_ble_eq_true rfl) ?_
  replace hP : va_P D vwCl [(ha, .inr (0, [.ref hr, .ref hg, .int z1, .int z2, .int z3])), (hr, .inr (7, [.int (nI n), .int (nI k), .int (nI al), .int (nI be), .int ea, .int pr, .ref sm, .int (nI se), .ref ca])), (hg, .inr (4, [.ref nd, .ref kd, .ref lk, .ref vw])), (kd, .inl (cs 0, 8, .inl kf)), (a, .inl (cs 0, nn, .inl f))] H := hP
  replace hD : va_D A [(ha, .inr (0, [.ref hr, .ref hg, .int z1, .int z2, .int z3])), (hr, .inr (7, [.int (nI n), .int (nI k), .int (nI al), .int (nI be), .int ea, .int pr, .ref sm, .int (nI se), .ref ca])), (hg, .inr (4, [.ref nd, .ref kd, .ref lk, .ref vw])), (kd, .inl (cs 0, 8, .inl kf)), (a, .inl (cs 0, nn, .inl f))] := hD
  refine lv_iconst (v := nI 3) hx hb dX0_isSplit_6 (by decide) ?_
  refine lv_icmp_ne (tgt := 14) hx hb dX0_isSplit_7 (by decide) (fun c_3 => ?_) (fun c_3 => ?_)
  · -- 7 t
    refine lv_iconst (v := nI 0) hx hb dX0_isSplit_14 (by decide) ?_
    exact xreti C () (Or.inr rfl) hP hD hS (Nat.le_of_ble_eq_true rfl) (Nat.le_of_ble_eq_true rfl) (by decide) dX0_isSplit_15
  · -- 7 f
    refine lv_iconst (v := nI 1) hx hb dX0_isSplit_10 (by decide) ?_
    refine lv_goto (tgt := 15) hx hb dX0_isSplit_11 (by decide) ?_
    exact xreti C () (Or.inl rfl) hP hD hS (Nat.le_of_ble_eq_true rfl) (Nat.le_of_ble_eq_true rfl) (by decide) dX0_isSplit_15

set_option maxHeartbeats 4000000 in
set_option maxRecDepth 100000 in
theorem c_X0_isAgreed (l : Launch) (D : va_G) (cs : Nat → ClassId) (ha hg : Nat) (hr sm ca n k al be se : Nat) (ea pr : Int32) (z1 z2 z3 : Int32) (nd kd lk vw : Nat) (kf : Nat → Int32) (a nn b : Nat) (f : Nat → Int32) (hn : n ≤ 8) (hb : b + 8 ≤ nn) (hnn : nn < 2 ^ 20) : xMet l D cs yX0_isAgreed cX0_isAgreed 4 (some .boolean) ({ frames := 2, cells := 0, slots := 0, locals := 45 } : Room) [.ref ha, .ref a, .int (nI b)] [(ha, .inr (0, [.ref hr, .ref hg, .int z1, .int z2, .int z3])), (hr, .inr (7, [.int (nI n), .int (nI k), .int (nI al), .int (nI be), .int ea, .int pr, .ref sm, .int (nI se), .ref ca])), (hg, .inr (4, [.ref nd, .ref kd, .ref lk, .ref vw])), (kd, .inl (cs 0, 8, .inl kf)), (a, .inl (cs 0, nn, .inl f))] (xQi D (fun (r : Int32) (_u : Unit) => True) (fun (_u : Unit) => [(ha, .inr (0, [.ref hr, .ref hg, .int z1, .int z2, .int z3])), (hr, .inr (7, [.int (nI n), .int (nI k), .int (nI al), .int (nI be), .int ea, .int pr, .ref sm, .int (nI se), .ref ca])), (hg, .inr (4, [.ref nd, .ref kd, .ref lk, .ref vw])), (kd, .inl (cs 0, 8, .inl kf)), (a, .inl (cs 0, nn, .inl f))])) := by
  refine xMet.intro (by decide) (Nat.le_of_ble_eq_true rfl) ?_
  intro p e s m args below meth c A ls C hP hD hS hl
  have hx := C.1
  have hb := C.2.1
  have hz := C.2.2.2.2.1
  have hown := C.2.2.2.1
  have hA := C.2.2.2.2.2.2.2.2.2
  have hAO := C.2.2.2.2.2.2.2.2.1.2.2
  replace hl : lv_has ls 4 [(0, .ref ha), (1, .ref a), (2, .int (nI b))] := hl
  obtain ⟨H, hH⟩ : ∃ H, H = s.heap := ⟨_, rfl⟩
  replace hP : va_P D vwCl [(ha, .inr (0, [.ref hr, .ref hg, .int z1, .int z2, .int z3])), (hr, .inr (7, [.int (nI n), .int (nI k), .int (nI al), .int (nI be), .int ea, .int pr, .ref sm, .int (nI se), .ref ca])), (hg, .inr (4, [.ref nd, .ref kd, .ref lk, .ref vw])), (kd, .inl (cs 0, 8, .inl kf)), (a, .inl (cs 0, nn, .inl f))] H := by rw [hH]; exact hP
  replace hS : va_S A s.heap H [] := by rw [hH]; exact hS
  obtain ⟨locs, hlocs⟩ : ∃ z : List Loc, z = [] := ⟨_, rfl⟩
  rw [← hlocs] at hS
  suffices hW : W p l e ({ frames := 2, cells := 0, slots := 0, locals := 45 } : Room) s m args below meth c H locs 0 0 (MQ below ((xQi D (fun (r : Int32) (_u : Unit) => True) (fun (_u : Unit) => [(ha, .inr (0, [.ref hr, .ref hg, .int z1, .int z2, .int z3])), (hr, .inr (7, [.int (nI n), .int (nI k), .int (nI al), .int (nI be), .int ea, .int pr, .ref sm, .int (nI se), .ref ca])), (hg, .inr (4, [.ref nd, .ref kd, .ref lk, .ref vw])), (kd, .inl (cs 0, 8, .inl kf)), (a, .inl (cs 0, nn, .inl f))])) A) args s 0 0 A) (F0 m 0 ls []) by rw [hlocs, hH] at hW; exact hW
  clear hH hlocs
  refine lv_iconst (v := nI 0) hx hb dX0_isAgreed_0 (by decide) ?_
  refine lv_istore_n (lv' := [(3, .int (nI 0)), (0, .ref ha), (1, .ref a), (2, .int (nI b))]) hx hb dX0_isAgreed_1 rfl hl (by decide) rfl ?_
  clear hl
  try clear ls
  intro ls hl
  have loop_1 : ∀ (n_loop_1 : Nat) (o : Nat), (o ≤ n) → n - o < n_loop_1 → ∀ (H : Heap) (locs : List Loc) (ls : Array Slot), va_P D vwCl [(ha, .inr (0, [.ref hr, .ref hg, .int z1, .int z2, .int z3])), (hr, .inr (7, [.int (nI n), .int (nI k), .int (nI al), .int (nI be), .int ea, .int pr, .ref sm, .int (nI se), .ref ca])), (hg, .inr (4, [.ref nd, .ref kd, .ref lk, .ref vw])), (kd, .inl (cs 0, 8, .inl kf)), (a, .inl (cs 0, nn, .inl f))] H → va_D A [(ha, .inr (0, [.ref hr, .ref hg, .int z1, .int z2, .int z3])), (hr, .inr (7, [.int (nI n), .int (nI k), .int (nI al), .int (nI be), .int ea, .int pr, .ref sm, .int (nI se), .ref ca])), (hg, .inr (4, [.ref nd, .ref kd, .ref lk, .ref vw])), (kd, .inl (cs 0, 8, .inl kf)), (a, .inl (cs 0, nn, .inl f))] → va_S A s.heap H locs → lv_has ls 4 [(3, .int (nI o)), (0, .ref ha), (1, .ref a), (2, .int (nI b))] → W p l e ({ frames := 2, cells := 0, slots := 0, locals := 45 } : Room) s m args below meth c H locs 0 0 (MQ below ((xQi D (fun (r : Int32) (_u : Unit) => True) (fun (_u : Unit) => [(ha, .inr (0, [.ref hr, .ref hg, .int z1, .int z2, .int z3])), (hr, .inr (7, [.int (nI n), .int (nI k), .int (nI al), .int (nI be), .int ea, .int pr, .ref sm, .int (nI se), .ref ca])), (hg, .inr (4, [.ref nd, .ref kd, .ref lk, .ref vw])), (kd, .inl (cs 0, 8, .inl kf)), (a, .inl (cs 0, nn, .inl f))])) A) args s 0 0 A) (F0 m 2 ls []) := by
    intro n_loop_1
    induction n_loop_1 with
    | zero => intro o h_o hlt H locs ls hP hD hS hl; exact absurd hlt (Nat.not_lt_zero _)
    | succ n_loop_1 ih_loop_1 =>
      intro o h_o hlt_loop_1 H locs ls hP hD hS hl
      refine lv_iload_n hx hb dX0_isAgreed_2 rfl (lv_at hl 0 rfl) ?_
      refine lv_aload_n hx hb dX0_isAgreed_3 rfl (lv_at hl 1 rfl) ?_
      refine xget C hP 0 rfl rfl zuX0 0 (by decide) zw1_237 rfl dX0_isAgreed_4 ?_
      refine xget C hP 1 rfl rfl zuX7 0 (by decide) zw1_76 rfl dX0_isAgreed_7 ?_
      refine lv_icmp_ge (tgt := 44) hx hb dX0_isAgreed_10 (by decide) (fun c_2 => ?_) (fun c_2 => ?_)
      · -- 10 t
        have fc_2 : n ≤ o := nf_le (by omega) (by omega) c_2
        refine lv_aload_n hx hb dX0_isAgreed_44 rfl (lv_at hl 1 rfl) ?_
        refine lv_aload_n hx hb dX0_isAgreed_45 rfl (lv_at hl 2 rfl) ?_
        refine lv_iload_n hx hb dX0_isAgreed_46 rfl (lv_at hl 3 rfl) ?_
        refine xi (wr := []) (xV (As := [.ref a, .int (nI b)]) (rest := []) C (c_X0_decisions l D cs ha hg hr sm ca n k al be se ea pr z1 z2 z3 nd kd lk vw kf a nn b f (by first | omega | decide) (by first | omega | decide) (by first | omega | decide)) kX0_114 hP hD [0, 1, 2, 3, 4] rfl (by decide) 0 rfl rfl rfl ⟨Nat.le_of_ble_eq_true rfl, Nat.le_of_ble_eq_true rfl⟩ rfl hl.1 rfl (Nat.le_of_ble_eq_true rfl) dX0_isAgreed_47 ⟨Nat.le_of_ble_eq_true rfl, Nat.le_of_ble_eq_true rfl⟩) hP hD hS hA [0, 1, 2, 3, 4] [] rfl rfl (by decide) (by decide) ?_
        clear hP hD hS
        try clear locs
        try clear H
        intro r_3 u_4 H locs hw_r_3 hP hD hS
        refine W.widen (k := 0) (n := 0) (Nat.le_of_ble_eq_true rfl) (Nat.le_of_ble_eq_true rfl) ?_
        replace hP : va_P D vwCl [(ha, .inr (0, [.ref hr, .ref hg, .int z1, .int z2, .int z3])), (hr, .inr (7, [.int (nI n), .int (nI k), .int (nI al), .int (nI be), .int ea, .int pr, .ref sm, .int (nI se), .ref ca])), (hg, .inr (4, [.ref nd, .ref kd, .ref lk, .ref vw])), (kd, .inl (cs 0, 8, .inl kf)), (a, .inl (cs 0, nn, .inl f))] H := hP
        replace hD : va_D A [(ha, .inr (0, [.ref hr, .ref hg, .int z1, .int z2, .int z3])), (hr, .inr (7, [.int (nI n), .int (nI k), .int (nI al), .int (nI be), .int ea, .int pr, .ref sm, .int (nI se), .ref ca])), (hg, .inr (4, [.ref nd, .ref kd, .ref lk, .ref vw])), (kd, .inl (cs 0, 8, .inl kf)), (a, .inl (cs 0, nn, .inl f))] := hD
        refine lv_istore_n (lv' := [(3, .int r_3), (0, .ref ha), (1, .ref a), (2, .int (nI b))]) hx hb dX0_isAgreed_50 rfl hl (by decide) rfl ?_
        clear hl
        try clear ls
        intro ls hl
        refine lv_iload_n hx hb dX0_isAgreed_51 rfl (lv_at hl 0 rfl) ?_
        refine lv_iconst (v := nI 1) hx hb dX0_isAgreed_52 (by decide) ?_
        refine lv_icmp_eq (tgt := 61) hx hb dX0_isAgreed_53 (by decide) (fun c_5 => ?_) (fun c_5 => ?_)
        · -- 53 t
          refine lv_iconst (v := nI 1) hx hb dX0_isAgreed_61 (by decide) ?_
          refine lv_goto (tgt := 66) hx hb dX0_isAgreed_62 (by decide) ?_
          exact xreti C () trivial hP hD hS (Nat.le_of_ble_eq_true rfl) (Nat.le_of_ble_eq_true rfl) (by decide) dX0_isAgreed_66
        · -- 53 f
          refine lv_iload_n hx hb dX0_isAgreed_56 rfl (lv_at hl 0 rfl) ?_
          refine lv_iconst (v := nI 2) hx hb dX0_isAgreed_57 (by decide) ?_
          refine lv_icmp_ne (tgt := 65) hx hb dX0_isAgreed_58 (by decide) (fun c_6 => ?_) (fun c_6 => ?_)
          · -- 58 t
            refine lv_iconst (v := nI 0) hx hb dX0_isAgreed_65 (by decide) ?_
            exact xreti C () trivial hP hD hS (Nat.le_of_ble_eq_true rfl) (Nat.le_of_ble_eq_true rfl) (by decide) dX0_isAgreed_66
          · -- 58 f
            refine lv_iconst (v := nI 1) hx hb dX0_isAgreed_61 (by decide) ?_
            refine lv_goto (tgt := 66) hx hb dX0_isAgreed_62 (by decide) ?_
            exact xreti C () trivial hP hD hS (Nat.le_of_ble_eq_true rfl) (Nat.le_of_ble_eq_true rfl) (by decide) dX0_isAgreed_66
      · -- 10 f
        have fc_2 : o < n := nf_nle (by omega) (by omega) c_2
        refine lv_aload_n hx hb dX0_isAgreed_13 rfl (lv_at hl 1 rfl) ?_
        refine xget C hP 0 rfl rfl zuX0 1 (by decide) zw1_238 rfl dX0_isAgreed_14 ?_
        refine xget C hP 2 rfl rfl zuX4 1 (by decide) zw1_173 rfl dX0_isAgreed_17 ?_
        refine lv_iload_n hx hb dX0_isAgreed_20 rfl (lv_at hl 0 rfl) ?_
        refine xiald C hP 3 rfl o rfl (by omega) (by decide) dX0_isAgreed_21 ?_
        refine lv_if_ne (tgt := 38) hx hb dX0_isAgreed_22 (by decide) (fun c_7 => ?_) (fun c_7 => ?_)
        · -- 22 t
          refine lv_iinc (v := nI (o + 1)) (lv' := [(3, .int (nI (o + 1))), (0, .ref ha), (1, .ref a), (2, .int (nI b))]) hx hb dX0_isAgreed_38 hl (k := 0) rfl (nI_add o 1) (by decide) rfl ?_
          clear hl
          try clear ls
          intro ls hl
          refine lv_goto (tgt := 2) hx hb dX0_isAgreed_41 (by decide) ?_
          exact ih_loop_1 (o + 1) (by omega) (by omega) H locs ls hP hD hS (lv_sub hl [0, 1, 2, 3] rfl)
        · -- 22 f
          refine lv_aload_n hx hb dX0_isAgreed_25 rfl (lv_at hl 2 rfl) ?_
          refine lv_iload_n hx hb dX0_isAgreed_26 rfl (lv_at hl 3 rfl) ?_
          refine lv_iload_n hx hb dX0_isAgreed_27 rfl (lv_at hl 0 rfl) ?_
          refine lv_iadd hx hb dX0_isAgreed_28 ?_
          refine lv_topi (nm_r (e' := nI (b + o)) (nI_add _ _) ?_)
          refine xiald C hP 4 rfl (b + o) rfl (by omega) (by omega) dX0_isAgreed_29 ?_
          refine xi (wr := [(ha, .inr (0, [.ref hr, .ref hg, .int z1, .int z2, .int z3])), (hr, .inr (7, [.int (nI n), .int (nI k), .int (nI al), .int (nI be), .int ea, .int pr, .ref sm, .int (nI se), .ref ca])), (hg, .inr (4, [.ref nd, .ref kd, .ref lk, .ref vw])), (kd, .inl (cs 0, 8, .inl kf)), (a, .inl (cs 0, nn, .inl f))]) (xS (As := [.int (f (b + o))]) (rest := []) C (c_X4_isDecided l D cs (f (b + o))) kX0_39 hP hD [] rfl (by decide) ⟨Nat.le_of_ble_eq_true rfl, Nat.le_of_ble_eq_true rfl⟩ rfl hl.1 rfl (Nat.le_of_ble_eq_true rfl) dX0_isAgreed_30 ⟨Nat.le_of_ble_eq_true rfl, Nat.le_of_ble_eq_true rfl⟩) hP hD hS hA [] [0, 1, 2, 3, 4] rfl rfl (by decide) (by decide) ?_
          clear hP hD hS
          try clear locs
          try clear H
          intro r_8 u_9 H locs hw_r_8 hP hD hS
          have hw_r_8 : r_8 = if (f (b + o)) &&& nI 268435456 = 0 then nI 0 else nI 1 := hw_r_8
          refine W.widen (k := 0) (n := 0) (Nat.le_of_ble_eq_true rfl) (Nat.le_of_ble_eq_true rfl) ?_
          replace hP : va_P D vwCl [(ha, .inr (0, [.ref hr, .ref hg, .int z1, .int z2, .int z3])), (hr, .inr (7, [.int (nI n), .int (nI k), .int (nI al), .int (nI be), .int ea, .int pr, .ref sm, .int (nI se), .ref ca])), (hg, .inr (4, [.ref nd, .ref kd, .ref lk, .ref vw])), (kd, .inl (cs 0, 8, .inl kf)), (a, .inl (cs 0, nn, .inl f))] H := hP
          replace hD : va_D A [(ha, .inr (0, [.ref hr, .ref hg, .int z1, .int z2, .int z3])), (hr, .inr (7, [.int (nI n), .int (nI k), .int (nI al), .int (nI be), .int ea, .int pr, .ref sm, .int (nI se), .ref ca])), (hg, .inr (4, [.ref nd, .ref kd, .ref lk, .ref vw])), (kd, .inl (cs 0, 8, .inl kf)), (a, .inl (cs 0, nn, .inl f))] := hD
          refine lv_if_ne (tgt := 38) hx hb dX0_isAgreed_33 (by decide) (fun c_10 => ?_) (fun c_10 => ?_)
          · -- 33 t
            refine lv_iinc (v := nI (o + 1)) (lv' := [(3, .int (nI (o + 1))), (0, .ref ha), (1, .ref a), (2, .int (nI b))]) hx hb dX0_isAgreed_38 hl (k := 0) rfl (nI_add o 1) (by decide) rfl ?_
            clear hl
            try clear ls
            intro ls hl
            refine lv_goto (tgt := 2) hx hb dX0_isAgreed_41 (by decide) ?_
            exact ih_loop_1 (o + 1) (by omega) (by omega) H locs ls hP hD hS (lv_sub hl [0, 1, 2, 3] rfl)
          · -- 33 f
            refine lv_iconst (v := nI 0) hx hb dX0_isAgreed_36 (by decide) ?_
            exact xreti C () trivial hP hD hS (Nat.le_of_ble_eq_true rfl) (Nat.le_of_ble_eq_true rfl) (by decide) dX0_isAgreed_37
  exact loop_1 _ 0 (by omega) (Nat.lt_succ_self _) H locs ls hP hD hS (lv_sub hl [0, 1, 2, 3] rfl)

theorem or_bit {v i : Nat} (hv : v < 2 ^ i) (hi : i < 8) : nI v ||| (nI 1 <<< (nI i &&& 31)) = nI (v + 2 ^ i) := by
  rw [xshl i (by omega)]
  have h : ∀ i, i < 8 → ∀ v, v < 2 ^ i → nI v ||| nI (2 ^ i) = nI (v + 2 ^ i) := by decide +kernel
  exact h i hi v hv
theorem bc_256 : ∀ v, v < 256 → ∃ c, c ≤ 8 ∧ bcF (nI v) = nI c := by
  have h : ∀ v, v < 256 → (bcF (nI v)).toNatClampNeg ≤ 8 ∧ bcF (nI v) = nI (bcF (nI v)).toNatClampNeg := by decide +kernel
  exact fun v hv => ⟨_, (h v hv).1, (h v hv).2⟩
theorem or_0 (x : Int32) : x ||| nI 0 = x := Int32.or_zero

set_option maxHeartbeats 4000000 in
set_option maxRecDepth 100000 in
theorem c_X0_honestOnes (l : Launch) (D : va_G) (cs : Nat → ClassId) (ha hg : Nat) (hr sm ca n k al be se : Nat) (ea pr : Int32) (z1 z2 z3 : Int32) (nd kd lk vw : Nat) (kf : Nat → Int32) (a nn b : Nat) (f : Nat → Int32) (hn : n ≤ 8) (hb : b + 8 ≤ nn) (hnn : nn < 2 ^ 20) : xMet l D cs yX0_honestOnes cX0_honestOnes 5 (some .int) ({ frames := 1, cells := 0, slots := 0, locals := 20 } : Room) [.ref ha, .ref a, .int (nI b)] [(ha, .inr (0, [.ref hr, .ref hg, .int z1, .int z2, .int z3])), (hr, .inr (7, [.int (nI n), .int (nI k), .int (nI al), .int (nI be), .int ea, .int pr, .ref sm, .int (nI se), .ref ca])), (hg, .inr (4, [.ref nd, .ref kd, .ref lk, .ref vw])), (kd, .inl (cs 0, 8, .inl kf)), (a, .inl (cs 0, nn, .inl f))] (xQi D (fun (r : Int32) (_u : Unit) => ∃ v, v < 2 ^ n ∧ r = nI v) (fun (_u : Unit) => [(ha, .inr (0, [.ref hr, .ref hg, .int z1, .int z2, .int z3])), (hr, .inr (7, [.int (nI n), .int (nI k), .int (nI al), .int (nI be), .int ea, .int pr, .ref sm, .int (nI se), .ref ca])), (hg, .inr (4, [.ref nd, .ref kd, .ref lk, .ref vw])), (kd, .inl (cs 0, 8, .inl kf)), (a, .inl (cs 0, nn, .inl f))])) := by
  refine xMet.intro (by decide) (Nat.le_of_ble_eq_true rfl) ?_
  intro p e s m args below meth c A ls C hP hD hS hl
  have hx := C.1
  have hb := C.2.1
  have hz := C.2.2.2.2.1
  have hown := C.2.2.2.1
  have hA := C.2.2.2.2.2.2.2.2.2
  have hAO := C.2.2.2.2.2.2.2.2.1.2.2
  replace hl : lv_has ls 5 [(0, .ref ha), (1, .ref a), (2, .int (nI b))] := hl
  obtain ⟨H, hH⟩ : ∃ H, H = s.heap := ⟨_, rfl⟩
  replace hP : va_P D vwCl [(ha, .inr (0, [.ref hr, .ref hg, .int z1, .int z2, .int z3])), (hr, .inr (7, [.int (nI n), .int (nI k), .int (nI al), .int (nI be), .int ea, .int pr, .ref sm, .int (nI se), .ref ca])), (hg, .inr (4, [.ref nd, .ref kd, .ref lk, .ref vw])), (kd, .inl (cs 0, 8, .inl kf)), (a, .inl (cs 0, nn, .inl f))] H := by rw [hH]; exact hP
  replace hS : va_S A s.heap H [] := by rw [hH]; exact hS
  obtain ⟨locs, hlocs⟩ : ∃ z : List Loc, z = [] := ⟨_, rfl⟩
  rw [← hlocs] at hS
  suffices hW : W p l e ({ frames := 1, cells := 0, slots := 0, locals := 20 } : Room) s m args below meth c H locs 0 0 (MQ below ((xQi D (fun (r : Int32) (_u : Unit) => ∃ v, v < 2 ^ n ∧ r = nI v) (fun (_u : Unit) => [(ha, .inr (0, [.ref hr, .ref hg, .int z1, .int z2, .int z3])), (hr, .inr (7, [.int (nI n), .int (nI k), .int (nI al), .int (nI be), .int ea, .int pr, .ref sm, .int (nI se), .ref ca])), (hg, .inr (4, [.ref nd, .ref kd, .ref lk, .ref vw])), (kd, .inl (cs 0, 8, .inl kf)), (a, .inl (cs 0, nn, .inl f))])) A) args s 0 0 A) (F0 m 0 ls []) by rw [hlocs, hH] at hW; exact hW
  clear hH hlocs
  refine lv_iconst (v := nI 0) hx hb dX0_honestOnes_0 (by decide) ?_
  refine lv_istore_n (lv' := [(3, .int (nI 0)), (0, .ref ha), (1, .ref a), (2, .int (nI b))]) hx hb dX0_honestOnes_1 rfl hl (by decide) rfl ?_
  clear hl
  try clear ls
  intro ls hl
  refine lv_iconst (v := nI 0) hx hb dX0_honestOnes_2 (by decide) ?_
  refine lv_istore (lv' := [(4, .int (nI 0)), (3, .int (nI 0)), (0, .ref ha), (1, .ref a), (2, .int (nI b))]) hx hb dX0_honestOnes_3 hl (by decide) rfl ?_
  clear hl
  try clear ls
  intro ls hl
  have loop_1 : ∀ (n_loop_1 : Nat) (o : Nat) (m9 : Nat), (o ≤ n) → (m9 < 2 ^ o) → n - o < n_loop_1 → ∀ (H : Heap) (locs : List Loc) (ls : Array Slot), va_P D vwCl [(ha, .inr (0, [.ref hr, .ref hg, .int z1, .int z2, .int z3])), (hr, .inr (7, [.int (nI n), .int (nI k), .int (nI al), .int (nI be), .int ea, .int pr, .ref sm, .int (nI se), .ref ca])), (hg, .inr (4, [.ref nd, .ref kd, .ref lk, .ref vw])), (kd, .inl (cs 0, 8, .inl kf)), (a, .inl (cs 0, nn, .inl f))] H → va_D A [(ha, .inr (0, [.ref hr, .ref hg, .int z1, .int z2, .int z3])), (hr, .inr (7, [.int (nI n), .int (nI k), .int (nI al), .int (nI be), .int ea, .int pr, .ref sm, .int (nI se), .ref ca])), (hg, .inr (4, [.ref nd, .ref kd, .ref lk, .ref vw])), (kd, .inl (cs 0, 8, .inl kf)), (a, .inl (cs 0, nn, .inl f))] → va_S A s.heap H locs → lv_has ls 5 [(4, .int (nI o)), (3, .int (nI m9)), (0, .ref ha), (1, .ref a), (2, .int (nI b))] → W p l e ({ frames := 1, cells := 0, slots := 0, locals := 20 } : Room) s m args below meth c H locs 0 0 (MQ below ((xQi D (fun (r : Int32) (_u : Unit) => ∃ v, v < 2 ^ n ∧ r = nI v) (fun (_u : Unit) => [(ha, .inr (0, [.ref hr, .ref hg, .int z1, .int z2, .int z3])), (hr, .inr (7, [.int (nI n), .int (nI k), .int (nI al), .int (nI be), .int ea, .int pr, .ref sm, .int (nI se), .ref ca])), (hg, .inr (4, [.ref nd, .ref kd, .ref lk, .ref vw])), (kd, .inl (cs 0, 8, .inl kf)), (a, .inl (cs 0, nn, .inl f))])) A) args s 0 0 A) (F0 m 5 ls []) := by
    intro n_loop_1
    induction n_loop_1 with
    | zero => intro o m9 h_o hm9 hlt H locs ls hP hD hS hl; exact absurd hlt (Nat.not_lt_zero _)
    | succ n_loop_1 ih_loop_1 =>
      intro o m9 h_o hm9 hlt_loop_1 H locs ls hP hD hS hl
      refine lv_iload hx hb dX0_honestOnes_5 (lv_at hl 0 rfl) ?_
      refine lv_aload_n hx hb dX0_honestOnes_7 rfl (lv_at hl 2 rfl) ?_
      refine xget C hP 0 rfl rfl zuX0 0 (by decide) zw1_237 rfl dX0_honestOnes_8 ?_
      refine xget C hP 1 rfl rfl zuX7 0 (by decide) zw1_76 rfl dX0_honestOnes_11 ?_
      refine lv_icmp_ge (tgt := 60) hx hb dX0_honestOnes_14 (by decide) (fun c_2 => ?_) (fun c_2 => ?_)
      · -- 14 t
        have fc_2 : n ≤ o := nf_le (by omega) (by omega) c_2
        obtain rfl : n = o := by omega
        replace hP : va_P D vwCl [(ha, .inr (0, [.ref hr, .ref hg, .int z1, .int z2, .int z3])), (hr, .inr (7, [.int (nI n), .int (nI k), .int (nI al), .int (nI be), .int ea, .int pr, .ref sm, .int (nI se), .ref ca])), (hg, .inr (4, [.ref nd, .ref kd, .ref lk, .ref vw])), (kd, .inl (cs 0, 8, .inl kf)), (a, .inl (cs 0, nn, .inl f))] H := hP
        replace hD : va_D A [(ha, .inr (0, [.ref hr, .ref hg, .int z1, .int z2, .int z3])), (hr, .inr (7, [.int (nI n), .int (nI k), .int (nI al), .int (nI be), .int ea, .int pr, .ref sm, .int (nI se), .ref ca])), (hg, .inr (4, [.ref nd, .ref kd, .ref lk, .ref vw])), (kd, .inl (cs 0, 8, .inl kf)), (a, .inl (cs 0, nn, .inl f))] := hD
        refine lv_iload_n hx hb dX0_honestOnes_60 rfl (lv_at hl 1 rfl) ?_
        exact xreti C () (⟨m9, hm9, rfl⟩) hP hD hS (Nat.le_of_ble_eq_true rfl) (Nat.le_of_ble_eq_true rfl) rfl dX0_honestOnes_61
      · -- 14 f
        have fc_2 : o < n := nf_nle (by omega) (by omega) c_2
        refine lv_iload_n hx hb dX0_honestOnes_17 rfl (lv_at hl 1 rfl) ?_
        refine lv_aload_n hx hb dX0_honestOnes_18 rfl (lv_at hl 2 rfl) ?_
        refine xget C hP 0 rfl rfl zuX0 1 (by decide) zw1_238 rfl dX0_honestOnes_19 ?_
        refine xget C hP 2 rfl rfl zuX4 1 (by decide) zw1_173 rfl dX0_honestOnes_22 ?_
        refine lv_iload hx hb dX0_honestOnes_25 (lv_at hl 0 rfl) ?_
        refine xiald C hP 3 rfl o rfl (by omega) (by decide) dX0_honestOnes_27 ?_
        refine lv_if_ne (tgt := 51) hx hb dX0_honestOnes_28 (by decide) (fun c_3 => ?_) (fun c_3 => ?_)
        · -- 28 t
          refine lv_iconst (v := nI 0) hx hb dX0_honestOnes_51 (by decide) ?_
          refine lv_ior hx hb dX0_honestOnes_52 ?_
          refine lv_topi (nm_r (e' := nI m9) (or_0 _) ?_)
          refine lv_istore_n (lv' := [(3, .int (nI m9)), (4, .int (nI o)), (0, .ref ha), (1, .ref a), (2, .int (nI b))]) hx hb dX0_honestOnes_53 rfl hl (by decide) rfl ?_
          clear hl
          try clear ls
          intro ls hl
          refine lv_iinc (v := nI (o + 1)) (lv' := [(4, .int (nI (o + 1))), (3, .int (nI m9)), (0, .ref ha), (1, .ref a), (2, .int (nI b))]) hx hb dX0_honestOnes_54 hl (k := 1) rfl (nI_add o 1) (by decide) rfl ?_
          clear hl
          try clear ls
          intro ls hl
          refine lv_goto (tgt := 5) hx hb dX0_honestOnes_57 (by decide) ?_
          exact ih_loop_1 (o + 1) m9 (by omega) (by rw [Nat.pow_succ]; omega) (by omega) H locs ls hP hD hS (lv_sub hl [0, 1, 2, 3, 4] rfl)
        · -- 28 f
          refine lv_aload_n hx hb dX0_honestOnes_31 rfl (lv_at hl 3 rfl) ?_
          refine lv_iload_n hx hb dX0_honestOnes_32 rfl (lv_at hl 4 rfl) ?_
          refine lv_iload hx hb dX0_honestOnes_33 (lv_at hl 0 rfl) ?_
          refine lv_iadd hx hb dX0_honestOnes_35 ?_
          refine lv_topi (nm_r (e' := nI (b + o)) (nI_add _ _) ?_)
          refine xiald C hP 4 rfl (b + o) rfl (by omega) (by omega) dX0_honestOnes_36 ?_
          refine xi (wr := [(ha, .inr (0, [.ref hr, .ref hg, .int z1, .int z2, .int z3])), (hr, .inr (7, [.int (nI n), .int (nI k), .int (nI al), .int (nI be), .int ea, .int pr, .ref sm, .int (nI se), .ref ca])), (hg, .inr (4, [.ref nd, .ref kd, .ref lk, .ref vw])), (kd, .inl (cs 0, 8, .inl kf)), (a, .inl (cs 0, nn, .inl f))]) (xS (As := [.int (f (b + o))]) (rest := [.int (nI m9)]) C (c_X4_colourOf l D cs (f (b + o))) kX0_29 hP hD [] rfl (by decide) ⟨Nat.le_of_ble_eq_true rfl, Nat.le_of_ble_eq_true rfl⟩ rfl hl.1 rfl (Nat.le_of_ble_eq_true rfl) dX0_honestOnes_37 ⟨Nat.le_of_ble_eq_true rfl, Nat.le_of_ble_eq_true rfl⟩) hP hD hS hA [] [0, 1, 2, 3, 4] rfl rfl (by decide) (by decide) ?_
          clear hP hD hS
          try clear locs
          try clear H
          intro r_4 u_5 H locs hw_r_4 hP hD hS
          have hw_r_4 : r_4 = ((f (b + o)) &&& nI 3) - nI 1 := hw_r_4
          refine W.widen (k := 0) (n := 0) (Nat.le_of_ble_eq_true rfl) (Nat.le_of_ble_eq_true rfl) ?_
          replace hP : va_P D vwCl [(ha, .inr (0, [.ref hr, .ref hg, .int z1, .int z2, .int z3])), (hr, .inr (7, [.int (nI n), .int (nI k), .int (nI al), .int (nI be), .int ea, .int pr, .ref sm, .int (nI se), .ref ca])), (hg, .inr (4, [.ref nd, .ref kd, .ref lk, .ref vw])), (kd, .inl (cs 0, 8, .inl kf)), (a, .inl (cs 0, nn, .inl f))] H := hP
          replace hD : va_D A [(ha, .inr (0, [.ref hr, .ref hg, .int z1, .int z2, .int z3])), (hr, .inr (7, [.int (nI n), .int (nI k), .int (nI al), .int (nI be), .int ea, .int pr, .ref sm, .int (nI se), .ref ca])), (hg, .inr (4, [.ref nd, .ref kd, .ref lk, .ref vw])), (kd, .inl (cs 0, 8, .inl kf)), (a, .inl (cs 0, nn, .inl f))] := hD
          refine lv_iconst (v := nI 1) hx hb dX0_honestOnes_40 (by decide) ?_
          refine lv_icmp_ne (tgt := 51) hx hb dX0_honestOnes_41 (by decide) (fun c_6 => ?_) (fun c_6 => ?_)
          · -- 41 t
            refine lv_iconst (v := nI 0) hx hb dX0_honestOnes_51 (by decide) ?_
            refine lv_ior hx hb dX0_honestOnes_52 ?_
            refine lv_topi (nm_r (e' := nI m9) (or_0 _) ?_)
            refine lv_istore_n (lv' := [(3, .int (nI m9)), (4, .int (nI o)), (0, .ref ha), (1, .ref a), (2, .int (nI b))]) hx hb dX0_honestOnes_53 rfl hl (by decide) rfl ?_
            clear hl
            try clear ls
            intro ls hl
            refine lv_iinc (v := nI (o + 1)) (lv' := [(4, .int (nI (o + 1))), (3, .int (nI m9)), (0, .ref ha), (1, .ref a), (2, .int (nI b))]) hx hb dX0_honestOnes_54 hl (k := 1) rfl (nI_add o 1) (by decide) rfl ?_
            clear hl
            try clear ls
            intro ls hl
            refine lv_goto (tgt := 5) hx hb dX0_honestOnes_57 (by decide) ?_
            exact ih_loop_1 (o + 1) m9 (by omega) (by rw [Nat.pow_succ]; omega) (by omega) H locs ls hP hD hS (lv_sub hl [0, 1, 2, 3, 4] rfl)
          · -- 41 f
            refine lv_iconst (v := nI 1) hx hb dX0_honestOnes_44 (by decide) ?_
            refine lv_iload hx hb dX0_honestOnes_45 (lv_at hl 0 rfl) ?_
            refine lv_ishl hx hb dX0_honestOnes_47 ?_
            refine lv_goto (tgt := 52) hx hb dX0_honestOnes_48 (by decide) ?_
            refine lv_ior hx hb dX0_honestOnes_52 ?_
            refine lv_topi (nm_r (e' := nI (m9 + 2 ^ o)) (or_bit hm9 (by omega)) ?_)
            refine lv_istore_n (lv' := [(3, .int (nI (m9 + 2 ^ o))), (4, .int (nI o)), (0, .ref ha), (1, .ref a), (2, .int (nI b))]) hx hb dX0_honestOnes_53 rfl hl (by decide) rfl ?_
            clear hl
            try clear ls
            intro ls hl
            refine lv_iinc (v := nI (o + 1)) (lv' := [(4, .int (nI (o + 1))), (3, .int (nI (m9 + 2 ^ o))), (0, .ref ha), (1, .ref a), (2, .int (nI b))]) hx hb dX0_honestOnes_54 hl (k := 1) rfl (nI_add o 1) (by decide) rfl ?_
            clear hl
            try clear ls
            intro ls hl
            refine lv_goto (tgt := 5) hx hb dX0_honestOnes_57 (by decide) ?_
            exact ih_loop_1 (o + 1) (m9 + 2 ^ o) (by omega) (by rw [Nat.pow_succ]; omega) (by omega) H locs ls hP hD hS (lv_sub hl [0, 1, 2, 3, 4] rfl)
  exact loop_1 _ 0 0 (by omega) (by decide) (Nat.lt_succ_self _) H locs ls hP hD hS (lv_sub hl [0, 1, 2, 3, 4] rfl)
