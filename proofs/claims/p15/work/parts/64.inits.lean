set_option maxHeartbeats 4000000 in
set_option maxRecDepth 100000 in
theorem c_X0_init (l : Launch) (D : va_G) (cs : Nat → ClassId) (ha hr hg : Nat) : xMet l D cs yX0_init cX0_init 3 none ({ frames := 1, cells := 0, slots := 0, locals := 20 } : Room) [.ref ha, .ref hr, .ref hg] [(ha, .inr (0, [.null, .null, .int 0, .int 0, .int 0]))] (xQv D (fun (_u : Unit) => True) (fun (_u : Unit) => [(ha, .inr (0, [.ref hr, .ref hg, .int 0, .int 0, .int 0]))])) := by
  refine xMet.intro (by decide) (Nat.le_of_ble_eq_true rfl) ?_
  intro p e s m args below meth c A ls C hP hD hS hl
  have hx := C.1
  have hb := C.2.1
  have hz := C.2.2.2.2.1
  have hown := C.2.2.2.1
  have hA := C.2.2.2.2.2.2.2.2.2
  have hAO := C.2.2.2.2.2.2.2.2.1.2.2
  replace hl : lv_has ls 3 [(0, .ref ha), (1, .ref hr), (2, .ref hg)] := hl
  obtain ⟨H, hH⟩ : ∃ H, H = s.heap := ⟨_, rfl⟩
  replace hP : va_P D vwCl [(ha, .inr (0, [.null, .null, .int 0, .int 0, .int 0]))] H := by rw [hH]; exact hP
  replace hS : va_S A s.heap H [] := by rw [hH]; exact hS
  obtain ⟨locs, hlocs⟩ : ∃ z : List Loc, z = [] := ⟨_, rfl⟩
  rw [← hlocs] at hS
  suffices hW : W p l e ({ frames := 1, cells := 0, slots := 0, locals := 20 } : Room) s m args below meth c H locs 0 0 (MQ below ((xQv D (fun (_u : Unit) => True) (fun (_u : Unit) => [(ha, .inr (0, [.ref hr, .ref hg, .int 0, .int 0, .int 0]))])) A) args s 0 0 A) (F0 m 0 ls []) by rw [hlocs, hH] at hW; exact hW
  clear hH hlocs
  refine lv_aload_n hx hb dX0_init_0 rfl (lv_at hl 0 rfl) ?_
  refine W.objInit hx hb hown (hz _ zw1_236) (hz _ zw1_30) (hz _ zw1_31) rfl (by rw [C.2.2.1]; exact hl.1) rfl dX0_init_1 (Nat.le_of_ble_eq_true rfl) (Nat.le_of_ble_eq_true rfl) ?_
  refine W.eq (g2 := F0 m 4 ls []) rfl ?_
  refine lv_aload_n hx hb dX0_init_4 rfl (lv_at hl 0 rfl) ?_
  refine lv_aload_n hx hb dX0_init_5 rfl (lv_at hl 1 rfl) ?_
  refine xputF C hP hD hS 0 rfl rfl zuX0 tyX0 tyX0_ok nmX0 0 (by decide) zw1_237 rfl rfl rfl rfl rfl (Nat.le_of_ble_eq_true rfl) dX0_init_6 ?_
  clear hP hD hS
  try clear locs
  try clear H
  intro H locs hP hD hS
  replace hP : va_P D vwCl [(ha, .inr (0, [.ref hr, .null, .int 0, .int 0, .int 0]))] H := hP
  replace hD : va_D A [(ha, .inr (0, [.ref hr, .null, .int 0, .int 0, .int 0]))] := hD
  refine lv_aload_n hx hb dX0_init_9 rfl (lv_at hl 0 rfl) ?_
  refine lv_aload_n hx hb dX0_init_10 rfl (lv_at hl 2 rfl) ?_
  refine xputF C hP hD hS 0 rfl rfl zuX0 tyX0 tyX0_ok nmX0 1 (by decide) zw1_238 rfl rfl rfl rfl rfl (Nat.le_of_ble_eq_true rfl) dX0_init_11 ?_
  clear hP hD hS
  try clear locs
  try clear H
  intro H locs hP hD hS
  replace hP : va_P D vwCl [(ha, .inr (0, [.ref hr, .ref hg, .int 0, .int 0, .int 0]))] H := hP
  replace hD : va_D A [(ha, .inr (0, [.ref hr, .ref hg, .int 0, .int 0, .int 0]))] := hD
  exact xretv C () trivial hP hD hS (Nat.le_of_ble_eq_true rfl) (Nat.le_of_ble_eq_true rfl) dX0_init_14

set_option maxHeartbeats 4000000 in
set_option maxRecDepth 100000 in
theorem c_X5_init (l : Launch) (D : va_G) (cs : Nat → ClassId) (hly hr ha : Nat) : xMet l D cs yX5_init cX5_init 3 none ({ frames := 1, cells := 17, slots := 164, locals := 20 } : Room) [.ref hly, .ref hr, .ref ha] [(hly, .inr (5, [.null, .null, .null, .null, .null, .null, .null, .int 0, .int 0, .int 0, .null, .null, .null]))] (xQv D (fun (u : Nat × Nat × Nat × Nat × (Nat → Nat)) => match u with | (wk, spa, aga, ona, rl) => True) (fun (u : Nat × Nat × Nat × Nat × (Nat → Nat)) => match u with | (wk, spa, aga, ona, rl) => [(hly, .inr (5, [.ref hr, .ref ha, .ref wk, .null, .null, .null, .null, .int 0, .int 0, .int 0, .ref spa, .ref aga, .ref ona])), (wk, .inl (cs 0, 8, .inl (fun _ => 0))), (spa, .inl (cs 1, 13, .inr (.inl (fun _ => 0)))), (aga, .inl (cs 1, 13, .inr (.inl (fun _ => 0)))), (ona, .inl (cs 6, 13, .inr (.inr (.inr (.inr (fun i => if i < 13 then some (rl i) else none)))))), (rl 0, .inl (cs 1, 9, .inr (.inl ((fun _ _ => 0) 0)))), (rl 1, .inl (cs 1, 9, .inr (.inl ((fun _ _ => 0) 1)))), (rl 2, .inl (cs 1, 9, .inr (.inl ((fun _ _ => 0) 2)))), (rl 3, .inl (cs 1, 9, .inr (.inl ((fun _ _ => 0) 3)))), (rl 4, .inl (cs 1, 9, .inr (.inl ((fun _ _ => 0) 4)))), (rl 5, .inl (cs 1, 9, .inr (.inl ((fun _ _ => 0) 5)))), (rl 6, .inl (cs 1, 9, .inr (.inl ((fun _ _ => 0) 6)))), (rl 7, .inl (cs 1, 9, .inr (.inl ((fun _ _ => 0) 7)))), (rl 8, .inl (cs 1, 9, .inr (.inl ((fun _ _ => 0) 8)))), (rl 9, .inl (cs 1, 9, .inr (.inl ((fun _ _ => 0) 9)))), (rl 10, .inl (cs 1, 9, .inr (.inl ((fun _ _ => 0) 10)))), (rl 11, .inl (cs 1, 9, .inr (.inl ((fun _ _ => 0) 11)))), (rl 12, .inl (cs 1, 9, .inr (.inl ((fun _ _ => 0) 12))))])) := by
  refine xMet.intro (by decide) (Nat.le_of_ble_eq_true rfl) ?_
  intro p e s m args below meth c A ls C hP hD hS hl
  have hx := C.1
  have hb := C.2.1
  have hz := C.2.2.2.2.1
  have hown := C.2.2.2.1
  have hA := C.2.2.2.2.2.2.2.2.2
  have hAO := C.2.2.2.2.2.2.2.2.1.2.2
  replace hl : lv_has ls 3 [(0, .ref hly), (1, .ref hr), (2, .ref ha)] := hl
  obtain ⟨H, hH⟩ : ∃ H, H = s.heap := ⟨_, rfl⟩
  replace hP : va_P D vwCl [(hly, .inr (5, [.null, .null, .null, .null, .null, .null, .null, .int 0, .int 0, .int 0, .null, .null, .null]))] H := by rw [hH]; exact hP
  replace hS : va_S A s.heap H [] := by rw [hH]; exact hS
  obtain ⟨locs, hlocs⟩ : ∃ z : List Loc, z = [] := ⟨_, rfl⟩
  rw [← hlocs] at hS
  suffices hW : W p l e ({ frames := 1, cells := 17, slots := 164, locals := 20 } : Room) s m args below meth c H locs 0 0 (MQ below ((xQv D (fun (u : Nat × Nat × Nat × Nat × (Nat → Nat)) => match u with | (wk, spa, aga, ona, rl) => True) (fun (u : Nat × Nat × Nat × Nat × (Nat → Nat)) => match u with | (wk, spa, aga, ona, rl) => [(hly, .inr (5, [.ref hr, .ref ha, .ref wk, .null, .null, .null, .null, .int 0, .int 0, .int 0, .ref spa, .ref aga, .ref ona])), (wk, .inl (cs 0, 8, .inl (fun _ => 0))), (spa, .inl (cs 1, 13, .inr (.inl (fun _ => 0)))), (aga, .inl (cs 1, 13, .inr (.inl (fun _ => 0)))), (ona, .inl (cs 6, 13, .inr (.inr (.inr (.inr (fun i => if i < 13 then some (rl i) else none)))))), (rl 0, .inl (cs 1, 9, .inr (.inl ((fun _ _ => 0) 0)))), (rl 1, .inl (cs 1, 9, .inr (.inl ((fun _ _ => 0) 1)))), (rl 2, .inl (cs 1, 9, .inr (.inl ((fun _ _ => 0) 2)))), (rl 3, .inl (cs 1, 9, .inr (.inl ((fun _ _ => 0) 3)))), (rl 4, .inl (cs 1, 9, .inr (.inl ((fun _ _ => 0) 4)))), (rl 5, .inl (cs 1, 9, .inr (.inl ((fun _ _ => 0) 5)))), (rl 6, .inl (cs 1, 9, .inr (.inl ((fun _ _ => 0) 6)))), (rl 7, .inl (cs 1, 9, .inr (.inl ((fun _ _ => 0) 7)))), (rl 8, .inl (cs 1, 9, .inr (.inl ((fun _ _ => 0) 8)))), (rl 9, .inl (cs 1, 9, .inr (.inl ((fun _ _ => 0) 9)))), (rl 10, .inl (cs 1, 9, .inr (.inl ((fun _ _ => 0) 10)))), (rl 11, .inl (cs 1, 9, .inr (.inl ((fun _ _ => 0) 11)))), (rl 12, .inl (cs 1, 9, .inr (.inl ((fun _ _ => 0) 12))))])) A) args s 17 164 A) (F0 m 0 ls []) by rw [hlocs, hH] at hW; exact hW
  clear hH hlocs
  refine lv_aload_n hx hb dX5_init_0 rfl (lv_at hl 0 rfl) ?_
  refine W.objInit hx hb hown (hz _ zw2_38) (hz _ zw1_30) (hz _ zw1_31) rfl (by rw [C.2.2.1]; exact hl.1) rfl dX5_init_1 (Nat.le_of_ble_eq_true rfl) (Nat.le_of_ble_eq_true rfl) ?_
  refine W.eq (g2 := F0 m 4 ls []) rfl ?_
  refine lv_aload_n hx hb dX5_init_4 rfl (lv_at hl 0 rfl) ?_
  refine lv_bipush (v := nI 8) hx hb dX5_init_5 (by decide) ?_
  refine xnewi (n := 8) C hP hD hS zw1_126 rfl (by decide) (Nat.le_of_ble_eq_true rfl) (Nat.le_of_ble_eq_true rfl) dX5_init_7 ?_
  clear hP hD hS
  try clear H
  intro q_1 H hP hD hS
  refine W.widen (k := 1) (n := 8) (Nat.le_of_ble_eq_true rfl) (Nat.le_of_ble_eq_true rfl) ?_
  replace hP : va_P D vwCl [(hly, .inr (5, [.null, .null, .null, .null, .null, .null, .null, .int 0, .int 0, .int 0, .null, .null, .null])), (q_1, .inl (cs 0, 8, .inl (fun _ => 0)))] H := hP
  replace hD : va_D A [(hly, .inr (5, [.null, .null, .null, .null, .null, .null, .null, .int 0, .int 0, .int 0, .null, .null, .null])), (q_1, .inl (cs 0, 8, .inl (fun _ => 0)))] := hD
  refine xputF C hP hD hS 0 rfl rfl zuX5 tyX5 tyX5_ok nmX5 2 (by decide) zw2_43 rfl rfl rfl rfl rfl (Nat.le_of_ble_eq_true rfl) dX5_init_9 ?_
  clear hP hD hS
  try clear locs
  try clear H
  intro H locs hP hD hS
  replace hP : va_P D vwCl [(hly, .inr (5, [.null, .null, .ref q_1, .null, .null, .null, .null, .int 0, .int 0, .int 0, .null, .null, .null])), (q_1, .inl (cs 0, 8, .inl (fun _ => 0)))] H := hP
  replace hD : va_D A [(hly, .inr (5, [.null, .null, .ref q_1, .null, .null, .null, .null, .int 0, .int 0, .int 0, .null, .null, .null])), (q_1, .inl (cs 0, 8, .inl (fun _ => 0)))] := hD
  refine lv_aload_n hx hb dX5_init_12 rfl (lv_at hl 0 rfl) ?_
  refine lv_bipush (v := nI 13) hx hb dX5_init_13 (by decide) ?_
  refine xnewl (n := 13) C hP hD hS zw2_84 rfl (by decide) (Nat.le_of_ble_eq_true rfl) (Nat.le_of_ble_eq_true rfl) dX5_init_15 ?_
  clear hP hD hS
  try clear H
  intro q_2 H hP hD hS
  refine W.widen (k := 2) (n := 21) (Nat.le_of_ble_eq_true rfl) (Nat.le_of_ble_eq_true rfl) ?_
  replace hP : va_P D vwCl [(hly, .inr (5, [.null, .null, .ref q_1, .null, .null, .null, .null, .int 0, .int 0, .int 0, .null, .null, .null])), (q_1, .inl (cs 0, 8, .inl (fun _ => 0))), (q_2, .inl (cs 1, 13, .inr (.inl (fun _ => 0))))] H := hP
  replace hD : va_D A [(hly, .inr (5, [.null, .null, .ref q_1, .null, .null, .null, .null, .int 0, .int 0, .int 0, .null, .null, .null])), (q_1, .inl (cs 0, 8, .inl (fun _ => 0))), (q_2, .inl (cs 1, 13, .inr (.inl (fun _ => 0))))] := hD
  refine xputF C hP hD hS 0 rfl rfl zuX5 tyX5 tyX5_ok nmX5 10 (by decide) zw2_51 rfl rfl rfl rfl rfl (Nat.le_of_ble_eq_true rfl) dX5_init_17 ?_
  clear hP hD hS
  try clear locs
  try clear H
  intro H locs hP hD hS
  replace hP : va_P D vwCl [(hly, .inr (5, [.null, .null, .ref q_1, .null, .null, .null, .null, .int 0, .int 0, .int 0, .ref q_2, .null, .null])), (q_1, .inl (cs 0, 8, .inl (fun _ => 0))), (q_2, .inl (cs 1, 13, .inr (.inl (fun _ => 0))))] H := hP
  replace hD : va_D A [(hly, .inr (5, [.null, .null, .ref q_1, .null, .null, .null, .null, .int 0, .int 0, .int 0, .ref q_2, .null, .null])), (q_1, .inl (cs 0, 8, .inl (fun _ => 0))), (q_2, .inl (cs 1, 13, .inr (.inl (fun _ => 0))))] := hD
  refine lv_aload_n hx hb dX5_init_20 rfl (lv_at hl 0 rfl) ?_
  refine lv_bipush (v := nI 13) hx hb dX5_init_21 (by decide) ?_
  refine xnewl (n := 13) C hP hD hS zw2_84 rfl (by decide) (Nat.le_of_ble_eq_true rfl) (Nat.le_of_ble_eq_true rfl) dX5_init_23 ?_
  clear hP hD hS
  try clear H
  intro q_3 H hP hD hS
  refine W.widen (k := 3) (n := 34) (Nat.le_of_ble_eq_true rfl) (Nat.le_of_ble_eq_true rfl) ?_
  replace hP : va_P D vwCl [(hly, .inr (5, [.null, .null, .ref q_1, .null, .null, .null, .null, .int 0, .int 0, .int 0, .ref q_2, .null, .null])), (q_1, .inl (cs 0, 8, .inl (fun _ => 0))), (q_2, .inl (cs 1, 13, .inr (.inl (fun _ => 0)))), (q_3, .inl (cs 1, 13, .inr (.inl (fun _ => 0))))] H := hP
  replace hD : va_D A [(hly, .inr (5, [.null, .null, .ref q_1, .null, .null, .null, .null, .int 0, .int 0, .int 0, .ref q_2, .null, .null])), (q_1, .inl (cs 0, 8, .inl (fun _ => 0))), (q_2, .inl (cs 1, 13, .inr (.inl (fun _ => 0)))), (q_3, .inl (cs 1, 13, .inr (.inl (fun _ => 0))))] := hD
  refine xputF C hP hD hS 0 rfl rfl zuX5 tyX5 tyX5_ok nmX5 11 (by decide) zw2_53 rfl rfl rfl rfl rfl (Nat.le_of_ble_eq_true rfl) dX5_init_25 ?_
  clear hP hD hS
  try clear locs
  try clear H
  intro H locs hP hD hS
  replace hP : va_P D vwCl [(hly, .inr (5, [.null, .null, .ref q_1, .null, .null, .null, .null, .int 0, .int 0, .int 0, .ref q_2, .ref q_3, .null])), (q_1, .inl (cs 0, 8, .inl (fun _ => 0))), (q_2, .inl (cs 1, 13, .inr (.inl (fun _ => 0)))), (q_3, .inl (cs 1, 13, .inr (.inl (fun _ => 0))))] H := hP
  replace hD : va_D A [(hly, .inr (5, [.null, .null, .ref q_1, .null, .null, .null, .null, .int 0, .int 0, .int 0, .ref q_2, .ref q_3, .null])), (q_1, .inl (cs 0, 8, .inl (fun _ => 0))), (q_2, .inl (cs 1, 13, .inr (.inl (fun _ => 0)))), (q_3, .inl (cs 1, 13, .inr (.inl (fun _ => 0))))] := hD
  refine lv_aload_n hx hb dX5_init_28 rfl (lv_at hl 0 rfl) ?_
  refine lv_bipush (v := nI 13) hx hb dX5_init_29 (by decide) ?_
  refine lv_bipush (v := nI 9) hx hb dX5_init_31 (by decide) ?_
  refine xmna (ty := .long) C hP hD hS 6 1 rfl (C.2.2.2.2.2.2.2.2.1.1.2 1 _ rfl).2 hAO.2.2.2.2 zw2_84 zw2_39 (9, .inr (.inl (fun _ => 0))) (N' := 13) (K' := 9) rfl rfl (by decide) (by decide) (by decide) (by decide) (by decide) (Nat.le_of_ble_eq_true rfl) (Nat.le_of_ble_eq_true rfl) (fun c => by show ({ cls := c, slots := Array.replicate 9 (.long 0), vm := .none } : Cell) = _; rw [arrV_new]; rfl) dX5_init_33 ?_
  clear hP hD hS
  try clear H
  intro q_4 rw_5 H hP hD hS
  refine W.widen (k := 17) (n := 164) (Nat.le_of_ble_eq_true rfl) (Nat.le_of_ble_eq_true rfl) ?_
  replace hP : va_P D vwCl [(hly, .inr (5, [.null, .null, .ref q_1, .null, .null, .null, .null, .int 0, .int 0, .int 0, .ref q_2, .ref q_3, .null])), (q_1, .inl (cs 0, 8, .inl (fun _ => 0))), (q_2, .inl (cs 1, 13, .inr (.inl (fun _ => 0)))), (q_3, .inl (cs 1, 13, .inr (.inl (fun _ => 0)))), (q_4, .inl (cs 6, 13, .inr (.inr (.inr (.inr (fun i => if i < 13 then some (rw_5 i) else none)))))), (rw_5 0, .inl (cs 1, 9, .inr (.inl (fun _ => 0)))), (rw_5 1, .inl (cs 1, 9, .inr (.inl (fun _ => 0)))), (rw_5 2, .inl (cs 1, 9, .inr (.inl (fun _ => 0)))), (rw_5 3, .inl (cs 1, 9, .inr (.inl (fun _ => 0)))), (rw_5 4, .inl (cs 1, 9, .inr (.inl (fun _ => 0)))), (rw_5 5, .inl (cs 1, 9, .inr (.inl (fun _ => 0)))), (rw_5 6, .inl (cs 1, 9, .inr (.inl (fun _ => 0)))), (rw_5 7, .inl (cs 1, 9, .inr (.inl (fun _ => 0)))), (rw_5 8, .inl (cs 1, 9, .inr (.inl (fun _ => 0)))), (rw_5 9, .inl (cs 1, 9, .inr (.inl (fun _ => 0)))), (rw_5 10, .inl (cs 1, 9, .inr (.inl (fun _ => 0)))), (rw_5 11, .inl (cs 1, 9, .inr (.inl (fun _ => 0)))), (rw_5 12, .inl (cs 1, 9, .inr (.inl (fun _ => 0))))] H := hP
  replace hD : va_D A [(hly, .inr (5, [.null, .null, .ref q_1, .null, .null, .null, .null, .int 0, .int 0, .int 0, .ref q_2, .ref q_3, .null])), (q_1, .inl (cs 0, 8, .inl (fun _ => 0))), (q_2, .inl (cs 1, 13, .inr (.inl (fun _ => 0)))), (q_3, .inl (cs 1, 13, .inr (.inl (fun _ => 0)))), (q_4, .inl (cs 6, 13, .inr (.inr (.inr (.inr (fun i => if i < 13 then some (rw_5 i) else none)))))), (rw_5 0, .inl (cs 1, 9, .inr (.inl (fun _ => 0)))), (rw_5 1, .inl (cs 1, 9, .inr (.inl (fun _ => 0)))), (rw_5 2, .inl (cs 1, 9, .inr (.inl (fun _ => 0)))), (rw_5 3, .inl (cs 1, 9, .inr (.inl (fun _ => 0)))), (rw_5 4, .inl (cs 1, 9, .inr (.inl (fun _ => 0)))), (rw_5 5, .inl (cs 1, 9, .inr (.inl (fun _ => 0)))), (rw_5 6, .inl (cs 1, 9, .inr (.inl (fun _ => 0)))), (rw_5 7, .inl (cs 1, 9, .inr (.inl (fun _ => 0)))), (rw_5 8, .inl (cs 1, 9, .inr (.inl (fun _ => 0)))), (rw_5 9, .inl (cs 1, 9, .inr (.inl (fun _ => 0)))), (rw_5 10, .inl (cs 1, 9, .inr (.inl (fun _ => 0)))), (rw_5 11, .inl (cs 1, 9, .inr (.inl (fun _ => 0)))), (rw_5 12, .inl (cs 1, 9, .inr (.inl (fun _ => 0))))] := hD
  refine xputF C hP hD hS 0 rfl rfl zuX5 tyX5 tyX5_ok nmX5 12 (by decide) zw2_55 rfl rfl rfl rfl rfl (Nat.le_of_ble_eq_true rfl) dX5_init_37 ?_
  clear hP hD hS
  try clear locs
  try clear H
  intro H locs hP hD hS
  replace hP : va_P D vwCl [(hly, .inr (5, [.null, .null, .ref q_1, .null, .null, .null, .null, .int 0, .int 0, .int 0, .ref q_2, .ref q_3, .ref q_4])), (q_1, .inl (cs 0, 8, .inl (fun _ => 0))), (q_2, .inl (cs 1, 13, .inr (.inl (fun _ => 0)))), (q_3, .inl (cs 1, 13, .inr (.inl (fun _ => 0)))), (q_4, .inl (cs 6, 13, .inr (.inr (.inr (.inr (fun i => if i < 13 then some (rw_5 i) else none)))))), (rw_5 0, .inl (cs 1, 9, .inr (.inl (fun _ => 0)))), (rw_5 1, .inl (cs 1, 9, .inr (.inl (fun _ => 0)))), (rw_5 2, .inl (cs 1, 9, .inr (.inl (fun _ => 0)))), (rw_5 3, .inl (cs 1, 9, .inr (.inl (fun _ => 0)))), (rw_5 4, .inl (cs 1, 9, .inr (.inl (fun _ => 0)))), (rw_5 5, .inl (cs 1, 9, .inr (.inl (fun _ => 0)))), (rw_5 6, .inl (cs 1, 9, .inr (.inl (fun _ => 0)))), (rw_5 7, .inl (cs 1, 9, .inr (.inl (fun _ => 0)))), (rw_5 8, .inl (cs 1, 9, .inr (.inl (fun _ => 0)))), (rw_5 9, .inl (cs 1, 9, .inr (.inl (fun _ => 0)))), (rw_5 10, .inl (cs 1, 9, .inr (.inl (fun _ => 0)))), (rw_5 11, .inl (cs 1, 9, .inr (.inl (fun _ => 0)))), (rw_5 12, .inl (cs 1, 9, .inr (.inl (fun _ => 0))))] H := hP
  replace hD : va_D A [(hly, .inr (5, [.null, .null, .ref q_1, .null, .null, .null, .null, .int 0, .int 0, .int 0, .ref q_2, .ref q_3, .ref q_4])), (q_1, .inl (cs 0, 8, .inl (fun _ => 0))), (q_2, .inl (cs 1, 13, .inr (.inl (fun _ => 0)))), (q_3, .inl (cs 1, 13, .inr (.inl (fun _ => 0)))), (q_4, .inl (cs 6, 13, .inr (.inr (.inr (.inr (fun i => if i < 13 then some (rw_5 i) else none)))))), (rw_5 0, .inl (cs 1, 9, .inr (.inl (fun _ => 0)))), (rw_5 1, .inl (cs 1, 9, .inr (.inl (fun _ => 0)))), (rw_5 2, .inl (cs 1, 9, .inr (.inl (fun _ => 0)))), (rw_5 3, .inl (cs 1, 9, .inr (.inl (fun _ => 0)))), (rw_5 4, .inl (cs 1, 9, .inr (.inl (fun _ => 0)))), (rw_5 5, .inl (cs 1, 9, .inr (.inl (fun _ => 0)))), (rw_5 6, .inl (cs 1, 9, .inr (.inl (fun _ => 0)))), (rw_5 7, .inl (cs 1, 9, .inr (.inl (fun _ => 0)))), (rw_5 8, .inl (cs 1, 9, .inr (.inl (fun _ => 0)))), (rw_5 9, .inl (cs 1, 9, .inr (.inl (fun _ => 0)))), (rw_5 10, .inl (cs 1, 9, .inr (.inl (fun _ => 0)))), (rw_5 11, .inl (cs 1, 9, .inr (.inl (fun _ => 0)))), (rw_5 12, .inl (cs 1, 9, .inr (.inl (fun _ => 0))))] := hD
  refine lv_aload_n hx hb dX5_init_40 rfl (lv_at hl 0 rfl) ?_
  refine lv_aload_n hx hb dX5_init_41 rfl (lv_at hl 1 rfl) ?_
  refine xputF C hP hD hS 0 rfl rfl zuX5 tyX5 tyX5_ok nmX5 0 (by decide) zw2_41 rfl rfl rfl rfl rfl (Nat.le_of_ble_eq_true rfl) dX5_init_42 ?_
  clear hP hD hS
  try clear locs
  try clear H
  intro H locs hP hD hS
  replace hP : va_P D vwCl [(hly, .inr (5, [.ref hr, .null, .ref q_1, .null, .null, .null, .null, .int 0, .int 0, .int 0, .ref q_2, .ref q_3, .ref q_4])), (q_1, .inl (cs 0, 8, .inl (fun _ => 0))), (q_2, .inl (cs 1, 13, .inr (.inl (fun _ => 0)))), (q_3, .inl (cs 1, 13, .inr (.inl (fun _ => 0)))), (q_4, .inl (cs 6, 13, .inr (.inr (.inr (.inr (fun i => if i < 13 then some (rw_5 i) else none)))))), (rw_5 0, .inl (cs 1, 9, .inr (.inl (fun _ => 0)))), (rw_5 1, .inl (cs 1, 9, .inr (.inl (fun _ => 0)))), (rw_5 2, .inl (cs 1, 9, .inr (.inl (fun _ => 0)))), (rw_5 3, .inl (cs 1, 9, .inr (.inl (fun _ => 0)))), (rw_5 4, .inl (cs 1, 9, .inr (.inl (fun _ => 0)))), (rw_5 5, .inl (cs 1, 9, .inr (.inl (fun _ => 0)))), (rw_5 6, .inl (cs 1, 9, .inr (.inl (fun _ => 0)))), (rw_5 7, .inl (cs 1, 9, .inr (.inl (fun _ => 0)))), (rw_5 8, .inl (cs 1, 9, .inr (.inl (fun _ => 0)))), (rw_5 9, .inl (cs 1, 9, .inr (.inl (fun _ => 0)))), (rw_5 10, .inl (cs 1, 9, .inr (.inl (fun _ => 0)))), (rw_5 11, .inl (cs 1, 9, .inr (.inl (fun _ => 0)))), (rw_5 12, .inl (cs 1, 9, .inr (.inl (fun _ => 0))))] H := hP
  replace hD : va_D A [(hly, .inr (5, [.ref hr, .null, .ref q_1, .null, .null, .null, .null, .int 0, .int 0, .int 0, .ref q_2, .ref q_3, .ref q_4])), (q_1, .inl (cs 0, 8, .inl (fun _ => 0))), (q_2, .inl (cs 1, 13, .inr (.inl (fun _ => 0)))), (q_3, .inl (cs 1, 13, .inr (.inl (fun _ => 0)))), (q_4, .inl (cs 6, 13, .inr (.inr (.inr (.inr (fun i => if i < 13 then some (rw_5 i) else none)))))), (rw_5 0, .inl (cs 1, 9, .inr (.inl (fun _ => 0)))), (rw_5 1, .inl (cs 1, 9, .inr (.inl (fun _ => 0)))), (rw_5 2, .inl (cs 1, 9, .inr (.inl (fun _ => 0)))), (rw_5 3, .inl (cs 1, 9, .inr (.inl (fun _ => 0)))), (rw_5 4, .inl (cs 1, 9, .inr (.inl (fun _ => 0)))), (rw_5 5, .inl (cs 1, 9, .inr (.inl (fun _ => 0)))), (rw_5 6, .inl (cs 1, 9, .inr (.inl (fun _ => 0)))), (rw_5 7, .inl (cs 1, 9, .inr (.inl (fun _ => 0)))), (rw_5 8, .inl (cs 1, 9, .inr (.inl (fun _ => 0)))), (rw_5 9, .inl (cs 1, 9, .inr (.inl (fun _ => 0)))), (rw_5 10, .inl (cs 1, 9, .inr (.inl (fun _ => 0)))), (rw_5 11, .inl (cs 1, 9, .inr (.inl (fun _ => 0)))), (rw_5 12, .inl (cs 1, 9, .inr (.inl (fun _ => 0))))] := hD
  refine lv_aload_n hx hb dX5_init_45 rfl (lv_at hl 0 rfl) ?_
  refine lv_aload_n hx hb dX5_init_46 rfl (lv_at hl 2 rfl) ?_
  refine xputF C hP hD hS 0 rfl rfl zuX5 tyX5 tyX5_ok nmX5 1 (by decide) zw2_42 rfl rfl rfl rfl rfl (Nat.le_of_ble_eq_true rfl) dX5_init_47 ?_
  clear hP hD hS
  try clear locs
  try clear H
  intro H locs hP hD hS
  replace hP : va_P D vwCl [(hly, .inr (5, [.ref hr, .ref ha, .ref q_1, .null, .null, .null, .null, .int 0, .int 0, .int 0, .ref q_2, .ref q_3, .ref q_4])), (q_1, .inl (cs 0, 8, .inl (fun _ => 0))), (q_2, .inl (cs 1, 13, .inr (.inl (fun _ => 0)))), (q_3, .inl (cs 1, 13, .inr (.inl (fun _ => 0)))), (q_4, .inl (cs 6, 13, .inr (.inr (.inr (.inr (fun i => if i < 13 then some (rw_5 i) else none)))))), (rw_5 0, .inl (cs 1, 9, .inr (.inl (fun _ => 0)))), (rw_5 1, .inl (cs 1, 9, .inr (.inl (fun _ => 0)))), (rw_5 2, .inl (cs 1, 9, .inr (.inl (fun _ => 0)))), (rw_5 3, .inl (cs 1, 9, .inr (.inl (fun _ => 0)))), (rw_5 4, .inl (cs 1, 9, .inr (.inl (fun _ => 0)))), (rw_5 5, .inl (cs 1, 9, .inr (.inl (fun _ => 0)))), (rw_5 6, .inl (cs 1, 9, .inr (.inl (fun _ => 0)))), (rw_5 7, .inl (cs 1, 9, .inr (.inl (fun _ => 0)))), (rw_5 8, .inl (cs 1, 9, .inr (.inl (fun _ => 0)))), (rw_5 9, .inl (cs 1, 9, .inr (.inl (fun _ => 0)))), (rw_5 10, .inl (cs 1, 9, .inr (.inl (fun _ => 0)))), (rw_5 11, .inl (cs 1, 9, .inr (.inl (fun _ => 0)))), (rw_5 12, .inl (cs 1, 9, .inr (.inl (fun _ => 0))))] H := hP
  replace hD : va_D A [(hly, .inr (5, [.ref hr, .ref ha, .ref q_1, .null, .null, .null, .null, .int 0, .int 0, .int 0, .ref q_2, .ref q_3, .ref q_4])), (q_1, .inl (cs 0, 8, .inl (fun _ => 0))), (q_2, .inl (cs 1, 13, .inr (.inl (fun _ => 0)))), (q_3, .inl (cs 1, 13, .inr (.inl (fun _ => 0)))), (q_4, .inl (cs 6, 13, .inr (.inr (.inr (.inr (fun i => if i < 13 then some (rw_5 i) else none)))))), (rw_5 0, .inl (cs 1, 9, .inr (.inl (fun _ => 0)))), (rw_5 1, .inl (cs 1, 9, .inr (.inl (fun _ => 0)))), (rw_5 2, .inl (cs 1, 9, .inr (.inl (fun _ => 0)))), (rw_5 3, .inl (cs 1, 9, .inr (.inl (fun _ => 0)))), (rw_5 4, .inl (cs 1, 9, .inr (.inl (fun _ => 0)))), (rw_5 5, .inl (cs 1, 9, .inr (.inl (fun _ => 0)))), (rw_5 6, .inl (cs 1, 9, .inr (.inl (fun _ => 0)))), (rw_5 7, .inl (cs 1, 9, .inr (.inl (fun _ => 0)))), (rw_5 8, .inl (cs 1, 9, .inr (.inl (fun _ => 0)))), (rw_5 9, .inl (cs 1, 9, .inr (.inl (fun _ => 0)))), (rw_5 10, .inl (cs 1, 9, .inr (.inl (fun _ => 0)))), (rw_5 11, .inl (cs 1, 9, .inr (.inl (fun _ => 0)))), (rw_5 12, .inl (cs 1, 9, .inr (.inl (fun _ => 0))))] := hD
  exact xretv C (⟨q_1, q_2, q_3, q_4, rw_5⟩) trivial hP hD hS (Nat.le_of_ble_eq_true rfl) (Nat.le_of_ble_eq_true rfl) dX5_init_50
