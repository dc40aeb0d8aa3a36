set_option maxHeartbeats 4000000 in
set_option maxRecDepth 100000 in
theorem c_X3_init (l : Launch) (D : va_G) (cs : Nat → ClassId) (hgr : Nat) : xMet l D cs yX3_init cX3_init 1 none ({ frames := 1, cells := 7, slots := 104, locals := 20 } : Room) [.ref hgr] [(hgr, .inr (3, [.int 0, .null, .null, .null, .null, .null, .null, .null]))] (xQv D (fun (u : Nat × Nat × Nat × Nat × Nat × Nat × Nat) => match u with | (gs, g1r, g2r, gan, gpr, gde, gme) => True) (fun (u : Nat × Nat × Nat × Nat × Nat × Nat × Nat) => match u with | (gs, g1r, g2r, gan, gpr, gde, gme) => [(hgr, .inr (3, [.int 0, .ref gs, .ref g1r, .ref g2r, .ref gan, .ref gpr, .ref gde, .ref gme])), (gs, .inl (cs 0, 16, .inl (fun _ => 0))), (g1r, .inl (cs 0, 16, .inl (fun _ => 0))), (g2r, .inl (cs 0, 16, .inl (fun _ => 0))), (gan, .inl (cs 0, 16, .inl (fun _ => 0))), (gpr, .inl (cs 0, 16, .inl (fun _ => 0))), (gde, .inl (cs 0, 16, .inl (fun _ => 0))), (gme, .inl (cs 0, 8, .inl (fun _ => 0)))])) := by
  refine xMet.intro (by decide) (Nat.le_of_ble_eq_true rfl) ?_
  intro p e s m args below meth c A ls C hP hD hS hl
  have hx := C.1
  have hb := C.2.1
  have hz := C.2.2.2.2.1
  have hown := C.2.2.2.1
  have hA := C.2.2.2.2.2.2.2.2.2
  have hAO := C.2.2.2.2.2.2.2.2.1.2.2
  replace hl : lv_has ls 1 [(0, .ref hgr)] := hl
  obtain ⟨H, hH⟩ : ∃ H, H = s.heap := ⟨_, rfl⟩
  replace hP : va_P D vwCl [(hgr, .inr (3, [.int 0, .null, .null, .null, .null, .null, .null, .null]))] H := by rw [hH]; exact hP
  replace hS : va_S A s.heap H [] := by rw [hH]; exact hS
  obtain ⟨locs, hlocs⟩ : ∃ z : List Loc, z = [] := ⟨_, rfl⟩
  rw [← hlocs] at hS
  suffices hW : W p l e ({ frames := 1, cells := 7, slots := 104, locals := 20 } : Room) s m args below meth c H locs 0 0 (MQ below ((xQv D (fun (u : Nat × Nat × Nat × Nat × Nat × Nat × Nat) => match u with | (gs, g1r, g2r, gan, gpr, gde, gme) => True) (fun (u : Nat × Nat × Nat × Nat × Nat × Nat × Nat) => match u with | (gs, g1r, g2r, gan, gpr, gde, gme) => [(hgr, .inr (3, [.int 0, .ref gs, .ref g1r, .ref g2r, .ref gan, .ref gpr, .ref gde, .ref gme])), (gs, .inl (cs 0, 16, .inl (fun _ => 0))), (g1r, .inl (cs 0, 16, .inl (fun _ => 0))), (g2r, .inl (cs 0, 16, .inl (fun _ => 0))), (gan, .inl (cs 0, 16, .inl (fun _ => 0))), (gpr, .inl (cs 0, 16, .inl (fun _ => 0))), (gde, .inl (cs 0, 16, .inl (fun _ => 0))), (gme, .inl (cs 0, 8, .inl (fun _ => 0)))])) A) args s 7 104 A) (F0 m 0 ls []) by rw [hlocs, hH] at hW; exact hW
  clear hH hlocs
  refine lv_aload_n hx hb dX3_init_0 rfl (lv_at hl 0 rfl) ?_
  refine W.objInit hx hb hown (hz _ zw1_194) (hz _ zw1_30) (hz _ zw1_31) rfl (by rw [C.2.2.1]; exact hl.1) rfl dX3_init_1 (Nat.le_of_ble_eq_true rfl) (Nat.le_of_ble_eq_true rfl) ?_
  refine W.eq (g2 := F0 m 4 ls []) rfl ?_
  refine lv_aload_n hx hb dX3_init_4 rfl (lv_at hl 0 rfl) ?_
  refine lv_bipush (v := nI 16) hx hb dX3_init_5 (by decide) ?_
  refine xnewi (n := 16) C hP hD hS zw1_126 rfl (by decide) (Nat.le_of_ble_eq_true rfl) (Nat.le_of_ble_eq_true rfl) dX3_init_7 ?_
  clear hP hD hS
  try clear H
  intro q_1 H hP hD hS
  refine W.widen (k := 1) (n := 16) (Nat.le_of_ble_eq_true rfl) (Nat.le_of_ble_eq_true rfl) ?_
  replace hP : va_P D vwCl [(hgr, .inr (3, [.int 0, .null, .null, .null, .null, .null, .null, .null])), (q_1, .inl (cs 0, 16, .inl (fun _ => 0)))] H := hP
  replace hD : va_D A [(hgr, .inr (3, [.int 0, .null, .null, .null, .null, .null, .null, .null])), (q_1, .inl (cs 0, 16, .inl (fun _ => 0)))] := hD
  refine xputF C hP hD hS 0 rfl rfl zuX3 tyX3 tyX3_ok nmX3 1 (by decide) zw1_198 rfl rfl rfl rfl rfl (Nat.le_of_ble_eq_true rfl) dX3_init_9 ?_
  clear hP hD hS
  try clear locs
  try clear H
  intro H locs hP hD hS
  replace hP : va_P D vwCl [(hgr, .inr (3, [.int 0, .ref q_1, .null, .null, .null, .null, .null, .null])), (q_1, .inl (cs 0, 16, .inl (fun _ => 0)))] H := hP
  replace hD : va_D A [(hgr, .inr (3, [.int 0, .ref q_1, .null, .null, .null, .null, .null, .null])), (q_1, .inl (cs 0, 16, .inl (fun _ => 0)))] := hD
  refine lv_aload_n hx hb dX3_init_12 rfl (lv_at hl 0 rfl) ?_
  refine lv_bipush (v := nI 16) hx hb dX3_init_13 (by decide) ?_
  refine xnewi (n := 16) C hP hD hS zw1_126 rfl (by decide) (Nat.le_of_ble_eq_true rfl) (Nat.le_of_ble_eq_true rfl) dX3_init_15 ?_
  clear hP hD hS
  try clear H
  intro q_2 H hP hD hS
  refine W.widen (k := 2) (n := 32) (Nat.le_of_ble_eq_true rfl) (Nat.le_of_ble_eq_true rfl) ?_
  replace hP : va_P D vwCl [(hgr, .inr (3, [.int 0, .ref q_1, .null, .null, .null, .null, .null, .null])), (q_1, .inl (cs 0, 16, .inl (fun _ => 0))), (q_2, .inl (cs 0, 16, .inl (fun _ => 0)))] H := hP
  replace hD : va_D A [(hgr, .inr (3, [.int 0, .ref q_1, .null, .null, .null, .null, .null, .null])), (q_1, .inl (cs 0, 16, .inl (fun _ => 0))), (q_2, .inl (cs 0, 16, .inl (fun _ => 0)))] := hD
  refine xputF C hP hD hS 0 rfl rfl zuX3 tyX3 tyX3_ok nmX3 2 (by decide) zw1_201 rfl rfl rfl rfl rfl (Nat.le_of_ble_eq_true rfl) dX3_init_17 ?_
  clear hP hD hS
  try clear locs
  try clear H
  intro H locs hP hD hS
  replace hP : va_P D vwCl [(hgr, .inr (3, [.int 0, .ref q_1, .ref q_2, .null, .null, .null, .null, .null])), (q_1, .inl (cs 0, 16, .inl (fun _ => 0))), (q_2, .inl (cs 0, 16, .inl (fun _ => 0)))] H := hP
  replace hD : va_D A [(hgr, .inr (3, [.int 0, .ref q_1, .ref q_2, .null, .null, .null, .null, .null])), (q_1, .inl (cs 0, 16, .inl (fun _ => 0))), (q_2, .inl (cs 0, 16, .inl (fun _ => 0)))] := hD
  refine lv_aload_n hx hb dX3_init_20 rfl (lv_at hl 0 rfl) ?_
  refine lv_bipush (v := nI 16) hx hb dX3_init_21 (by decide) ?_
  refine xnewi (n := 16) C hP hD hS zw1_126 rfl (by decide) (Nat.le_of_ble_eq_true rfl) (Nat.le_of_ble_eq_true rfl) dX3_init_23 ?_
  clear hP hD hS
  try clear H
  intro q_3 H hP hD hS
  refine W.widen (k := 3) (n := 48) (Nat.le_of_ble_eq_true rfl) (Nat.le_of_ble_eq_true rfl) ?_
  replace hP : va_P D vwCl [(hgr, .inr (3, [.int 0, .ref q_1, .ref q_2, .null, .null, .null, .null, .null])), (q_1, .inl (cs 0, 16, .inl (fun _ => 0))), (q_2, .inl (cs 0, 16, .inl (fun _ => 0))), (q_3, .inl (cs 0, 16, .inl (fun _ => 0)))] H := hP
  replace hD : va_D A [(hgr, .inr (3, [.int 0, .ref q_1, .ref q_2, .null, .null, .null, .null, .null])), (q_1, .inl (cs 0, 16, .inl (fun _ => 0))), (q_2, .inl (cs 0, 16, .inl (fun _ => 0))), (q_3, .inl (cs 0, 16, .inl (fun _ => 0)))] := hD
  refine xputF C hP hD hS 0 rfl rfl zuX3 tyX3 tyX3_ok nmX3 3 (by decide) zw1_203 rfl rfl rfl rfl rfl (Nat.le_of_ble_eq_true rfl) dX3_init_25 ?_
  clear hP hD hS
  try clear locs
  try clear H
  intro H locs hP hD hS
  replace hP : va_P D vwCl [(hgr, .inr (3, [.int 0, .ref q_1, .ref q_2, .ref q_3, .null, .null, .null, .null])), (q_1, .inl (cs 0, 16, .inl (fun _ => 0))), (q_2, .inl (cs 0, 16, .inl (fun _ => 0))), (q_3, .inl (cs 0, 16, .inl (fun _ => 0)))] H := hP
  replace hD : va_D A [(hgr, .inr (3, [.int 0, .ref q_1, .ref q_2, .ref q_3, .null, .null, .null, .null])), (q_1, .inl (cs 0, 16, .inl (fun _ => 0))), (q_2, .inl (cs 0, 16, .inl (fun _ => 0))), (q_3, .inl (cs 0, 16, .inl (fun _ => 0)))] := hD
  refine lv_aload_n hx hb dX3_init_28 rfl (lv_at hl 0 rfl) ?_
  refine lv_bipush (v := nI 16) hx hb dX3_init_29 (by decide) ?_
  refine xnewi (n := 16) C hP hD hS zw1_126 rfl (by decide) (Nat.le_of_ble_eq_true rfl) (Nat.le_of_ble_eq_true rfl) dX3_init_31 ?_
  clear hP hD hS
  try clear H
  intro q_4 H hP hD hS
  refine W.widen (k := 4) (n := 64) (Nat.le_of_ble_eq_true rfl) (Nat.le_of_ble_eq_true rfl) ?_
  replace hP : va_P D vwCl [(hgr, .inr (3, [.int 0, .ref q_1, .ref q_2, .ref q_3, .null, .null, .null, .null])), (q_1, .inl (cs 0, 16, .inl (fun _ => 0))), (q_2, .inl (cs 0, 16, .inl (fun _ => 0))), (q_3, .inl (cs 0, 16, .inl (fun _ => 0))), (q_4, .inl (cs 0, 16, .inl (fun _ => 0)))] H := hP
  replace hD : va_D A [(hgr, .inr (3, [.int 0, .ref q_1, .ref q_2, .ref q_3, .null, .null, .null, .null])), (q_1, .inl (cs 0, 16, .inl (fun _ => 0))), (q_2, .inl (cs 0, 16, .inl (fun _ => 0))), (q_3, .inl (cs 0, 16, .inl (fun _ => 0))), (q_4, .inl (cs 0, 16, .inl (fun _ => 0)))] := hD
  refine xputF C hP hD hS 0 rfl rfl zuX3 tyX3 tyX3_ok nmX3 4 (by decide) zw1_205 rfl rfl rfl rfl rfl (Nat.le_of_ble_eq_true rfl) dX3_init_33 ?_
  clear hP hD hS
  try clear locs
  try clear H
  intro H locs hP hD hS
  replace hP : va_P D vwCl [(hgr, .inr (3, [.int 0, .ref q_1, .ref q_2, .ref q_3, .ref q_4, .null, .null, .null])), (q_1, .inl (cs 0, 16, .inl (fun _ => 0))), (q_2, .inl (cs 0, 16, .inl (fun _ => 0))), (q_3, .inl (cs 0, 16, .inl (fun _ => 0))), (q_4, .inl (cs 0, 16, .inl (fun _ => 0)))] H := hP
  replace hD : va_D A [(hgr, .inr (3, [.int 0, .ref q_1, .ref q_2, .ref q_3, .ref q_4, .null, .null, .null])), (q_1, .inl (cs 0, 16, .inl (fun _ => 0))), (q_2, .inl (cs 0, 16, .inl (fun _ => 0))), (q_3, .inl (cs 0, 16, .inl (fun _ => 0))), (q_4, .inl (cs 0, 16, .inl (fun _ => 0)))] := hD
  refine lv_aload_n hx hb dX3_init_36 rfl (lv_at hl 0 rfl) ?_
  refine lv_bipush (v := nI 16) hx hb dX3_init_37 (by decide) ?_
  refine xnewi (n := 16) C hP hD hS zw1_126 rfl (by decide) (Nat.le_of_ble_eq_true rfl) (Nat.le_of_ble_eq_true rfl) dX3_init_39 ?_
  clear hP hD hS
  try clear H
  intro q_5 H hP hD hS
  refine W.widen (k := 5) (n := 80) (Nat.le_of_ble_eq_true rfl) (Nat.le_of_ble_eq_true rfl) ?_
  replace hP : va_P D vwCl [(hgr, .inr (3, [.int 0, .ref q_1, .ref q_2, .ref q_3, .ref q_4, .null, .null, .null])), (q_1, .inl (cs 0, 16, .inl (fun _ => 0))), (q_2, .inl (cs 0, 16, .inl (fun _ => 0))), (q_3, .inl (cs 0, 16, .inl (fun _ => 0))), (q_4, .inl (cs 0, 16, .inl (fun _ => 0))), (q_5, .inl (cs 0, 16, .inl (fun _ => 0)))] H := hP
  replace hD : va_D A [(hgr, .inr (3, [.int 0, .ref q_1, .ref q_2, .ref q_3, .ref q_4, .null, .null, .null])), (q_1, .inl (cs 0, 16, .inl (fun _ => 0))), (q_2, .inl (cs 0, 16, .inl (fun _ => 0))), (q_3, .inl (cs 0, 16, .inl (fun _ => 0))), (q_4, .inl (cs 0, 16, .inl (fun _ => 0))), (q_5, .inl (cs 0, 16, .inl (fun _ => 0)))] := hD
  refine xputF C hP hD hS 0 rfl rfl zuX3 tyX3 tyX3_ok nmX3 5 (by decide) zw1_207 rfl rfl rfl rfl rfl (Nat.le_of_ble_eq_true rfl) dX3_init_41 ?_
  clear hP hD hS
  try clear locs
  try clear H
  intro H locs hP hD hS
  replace hP : va_P D vwCl [(hgr, .inr (3, [.int 0, .ref q_1, .ref q_2, .ref q_3, .ref q_4, .ref q_5, .null, .null])), (q_1, .inl (cs 0, 16, .inl (fun _ => 0))), (q_2, .inl (cs 0, 16, .inl (fun _ => 0))), (q_3, .inl (cs 0, 16, .inl (fun _ => 0))), (q_4, .inl (cs 0, 16, .inl (fun _ => 0))), (q_5, .inl (cs 0, 16, .inl (fun _ => 0)))] H := hP
  replace hD : va_D A [(hgr, .inr (3, [.int 0, .ref q_1, .ref q_2, .ref q_3, .ref q_4, .ref q_5, .null, .null])), (q_1, .inl (cs 0, 16, .inl (fun _ => 0))), (q_2, .inl (cs 0, 16, .inl (fun _ => 0))), (q_3, .inl (cs 0, 16, .inl (fun _ => 0))), (q_4, .inl (cs 0, 16, .inl (fun _ => 0))), (q_5, .inl (cs 0, 16, .inl (fun _ => 0)))] := hD
  refine lv_aload_n hx hb dX3_init_44 rfl (lv_at hl 0 rfl) ?_
  refine lv_bipush (v := nI 16) hx hb dX3_init_45 (by decide) ?_
  refine xnewi (n := 16) C hP hD hS zw1_126 rfl (by decide) (Nat.le_of_ble_eq_true rfl) (Nat.le_of_ble_eq_true rfl) dX3_init_47 ?_
  clear hP hD hS
  try clear H
  intro q_6 H hP hD hS
  refine W.widen (k := 6) (n := 96) (Nat.le_of_ble_eq_true rfl) (Nat.le_of_ble_eq_true rfl) ?_
  replace hP : va_P D vwCl [(hgr, .inr (3, [.int 0, .ref q_1, .ref q_2, .ref q_3, .ref q_4, .ref q_5, .null, .null])), (q_1, .inl (cs 0, 16, .inl (fun _ => 0))), (q_2, .inl (cs 0, 16, .inl (fun _ => 0))), (q_3, .inl (cs 0, 16, .inl (fun _ => 0))), (q_4, .inl (cs 0, 16, .inl (fun _ => 0))), (q_5, .inl (cs 0, 16, .inl (fun _ => 0))), (q_6, .inl (cs 0, 16, .inl (fun _ => 0)))] H := hP
  replace hD : va_D A [(hgr, .inr (3, [.int 0, .ref q_1, .ref q_2, .ref q_3, .ref q_4, .ref q_5, .null, .null])), (q_1, .inl (cs 0, 16, .inl (fun _ => 0))), (q_2, .inl (cs 0, 16, .inl (fun _ => 0))), (q_3, .inl (cs 0, 16, .inl (fun _ => 0))), (q_4, .inl (cs 0, 16, .inl (fun _ => 0))), (q_5, .inl (cs 0, 16, .inl (fun _ => 0))), (q_6, .inl (cs 0, 16, .inl (fun _ => 0)))] := hD
  refine xputF C hP hD hS 0 rfl rfl zuX3 tyX3 tyX3_ok nmX3 6 (by decide) zw1_210 rfl rfl rfl rfl rfl (Nat.le_of_ble_eq_true rfl) dX3_init_49 ?_
  clear hP hD hS
  try clear locs
  try clear H
  intro H locs hP hD hS
  replace hP : va_P D vwCl [(hgr, .inr (3, [.int 0, .ref q_1, .ref q_2, .ref q_3, .ref q_4, .ref q_5, .ref q_6, .null])), (q_1, .inl (cs 0, 16, .inl (fun _ => 0))), (q_2, .inl (cs 0, 16, .inl (fun _ => 0))), (q_3, .inl (cs 0, 16, .inl (fun _ => 0))), (q_4, .inl (cs 0, 16, .inl (fun _ => 0))), (q_5, .inl (cs 0, 16, .inl (fun _ => 0))), (q_6, .inl (cs 0, 16, .inl (fun _ => 0)))] H := hP
  replace hD : va_D A [(hgr, .inr (3, [.int 0, .ref q_1, .ref q_2, .ref q_3, .ref q_4, .ref q_5, .ref q_6, .null])), (q_1, .inl (cs 0, 16, .inl (fun _ => 0))), (q_2, .inl (cs 0, 16, .inl (fun _ => 0))), (q_3, .inl (cs 0, 16, .inl (fun _ => 0))), (q_4, .inl (cs 0, 16, .inl (fun _ => 0))), (q_5, .inl (cs 0, 16, .inl (fun _ => 0))), (q_6, .inl (cs 0, 16, .inl (fun _ => 0)))] := hD
  refine lv_aload_n hx hb dX3_init_52 rfl (lv_at hl 0 rfl) ?_
  refine lv_bipush (v := nI 8) hx hb dX3_init_53 (by decide) ?_
  refine xnewi (n := 8) C hP hD hS zw1_126 rfl (by decide) (Nat.le_of_ble_eq_true rfl) (Nat.le_of_ble_eq_true rfl) dX3_init_55 ?_
  clear hP hD hS
  try clear H
  intro q_7 H hP hD hS
  refine W.widen (k := 7) (n := 104) (Nat.le_of_ble_eq_true rfl) (Nat.le_of_ble_eq_true rfl) ?_
  replace hP : va_P D vwCl [(hgr, .inr (3, [.int 0, .ref q_1, .ref q_2, .ref q_3, .ref q_4, .ref q_5, .ref q_6, .null])), (q_1, .inl (cs 0, 16, .inl (fun _ => 0))), (q_2, .inl (cs 0, 16, .inl (fun _ => 0))), (q_3, .inl (cs 0, 16, .inl (fun _ => 0))), (q_4, .inl (cs 0, 16, .inl (fun _ => 0))), (q_5, .inl (cs 0, 16, .inl (fun _ => 0))), (q_6, .inl (cs 0, 16, .inl (fun _ => 0))), (q_7, .inl (cs 0, 8, .inl (fun _ => 0)))] H := hP
  replace hD : va_D A [(hgr, .inr (3, [.int 0, .ref q_1, .ref q_2, .ref q_3, .ref q_4, .ref q_5, .ref q_6, .null])), (q_1, .inl (cs 0, 16, .inl (fun _ => 0))), (q_2, .inl (cs 0, 16, .inl (fun _ => 0))), (q_3, .inl (cs 0, 16, .inl (fun _ => 0))), (q_4, .inl (cs 0, 16, .inl (fun _ => 0))), (q_5, .inl (cs 0, 16, .inl (fun _ => 0))), (q_6, .inl (cs 0, 16, .inl (fun _ => 0))), (q_7, .inl (cs 0, 8, .inl (fun _ => 0)))] := hD
  refine xputF C hP hD hS 0 rfl rfl zuX3 tyX3 tyX3_ok nmX3 7 (by decide) zw1_212 rfl rfl rfl rfl rfl (Nat.le_of_ble_eq_true rfl) dX3_init_57 ?_
  clear hP hD hS
  try clear locs
  try clear H
  intro H locs hP hD hS
  replace hP : va_P D vwCl [(hgr, .inr (3, [.int 0, .ref q_1, .ref q_2, .ref q_3, .ref q_4, .ref q_5, .ref q_6, .ref q_7])), (q_1, .inl (cs 0, 16, .inl (fun _ => 0))), (q_2, .inl (cs 0, 16, .inl (fun _ => 0))), (q_3, .inl (cs 0, 16, .inl (fun _ => 0))), (q_4, .inl (cs 0, 16, .inl (fun _ => 0))), (q_5, .inl (cs 0, 16, .inl (fun _ => 0))), (q_6, .inl (cs 0, 16, .inl (fun _ => 0))), (q_7, .inl (cs 0, 8, .inl (fun _ => 0)))] H := hP
  replace hD : va_D A [(hgr, .inr (3, [.int 0, .ref q_1, .ref q_2, .ref q_3, .ref q_4, .ref q_5, .ref q_6, .ref q_7])), (q_1, .inl (cs 0, 16, .inl (fun _ => 0))), (q_2, .inl (cs 0, 16, .inl (fun _ => 0))), (q_3, .inl (cs 0, 16, .inl (fun _ => 0))), (q_4, .inl (cs 0, 16, .inl (fun _ => 0))), (q_5, .inl (cs 0, 16, .inl (fun _ => 0))), (q_6, .inl (cs 0, 16, .inl (fun _ => 0))), (q_7, .inl (cs 0, 8, .inl (fun _ => 0)))] := hD
  exact xretv C (⟨q_1, q_2, q_3, q_4, q_5, q_6, q_7⟩) trivial hP hD hS (Nat.le_of_ble_eq_true rfl) (Nat.le_of_ble_eq_true rfl) dX3_init_60

set_option maxHeartbeats 4000000 in
set_option maxRecDepth 100000 in
theorem c_X3_clear (l : Launch) (D : va_G) (cs : Nat → ClassId) (hgr en gs g1r g2r gan gpr gde gme : Nat) (gmf : Nat → Int32) : xMet l D cs yX3_clear cX3_clear 1 none ({ frames := 1, cells := 0, slots := 0, locals := 23 } : Room) [.ref hgr] [(hgr, .inr (3, [.int (nI en), .ref gs, .ref g1r, .ref g2r, .ref gan, .ref gpr, .ref gde, .ref gme])), (gme, .inl (cs 0, 8, .inl gmf))] (xQv D (fun (_u : Unit) => True) (fun (_u : Unit) => [(hgr, .inr (3, [.int (nI 0), .ref gs, .ref g1r, .ref g2r, .ref gan, .ref gpr, .ref gde, .ref gme])), (gme, .inl (cs 0, 8, .inl (fun _ => nI 0)))])) := by
  refine xMet.intro (by decide) (Nat.le_of_ble_eq_true rfl) ?_
  intro p e s m args below meth c A ls C hP hD hS hl
  have hx := C.1
  have hb := C.2.1
  have hz := C.2.2.2.2.1
  have hown := C.2.2.2.1
  have hA := C.2.2.2.2.2.2.2.2.2
  have hAO := C.2.2.2.2.2.2.2.2.1.2.2
  replace hl : lv_has ls 1 [(0, .ref hgr)] := hl
  obtain ⟨H, hH⟩ : ∃ H, H = s.heap := ⟨_, rfl⟩
  replace hP : va_P D vwCl [(hgr, .inr (3, [.int (nI en), .ref gs, .ref g1r, .ref g2r, .ref gan, .ref gpr, .ref gde, .ref gme])), (gme, .inl (cs 0, 8, .inl gmf))] H := by rw [hH]; exact hP
  replace hS : va_S A s.heap H [] := by rw [hH]; exact hS
  obtain ⟨locs, hlocs⟩ : ∃ z : List Loc, z = [] := ⟨_, rfl⟩
  rw [← hlocs] at hS
  suffices hW : W p l e ({ frames := 1, cells := 0, slots := 0, locals := 23 } : Room) s m args below meth c H locs 0 0 (MQ below ((xQv D (fun (_u : Unit) => True) (fun (_u : Unit) => [(hgr, .inr (3, [.int (nI 0), .ref gs, .ref g1r, .ref g2r, .ref gan, .ref gpr, .ref gde, .ref gme])), (gme, .inl (cs 0, 8, .inl (fun _ => nI 0)))])) A) args s 0 0 A) (F0 m 0 ls []) by rw [hlocs, hH] at hW; exact hW
  clear hH hlocs
  refine lv_aload_n hx hb dX3_clear_0 rfl (lv_at hl 0 rfl) ?_
  refine lv_iconst (v := nI 0) hx hb dX3_clear_1 (by decide) ?_
  refine xput C hP hD hS 0 rfl rfl zuX3 tyX3 tyX3_ok nmX3 0 (by decide) zw1_195 rfl rfl rfl (Nat.le_of_ble_eq_true rfl) dX3_clear_2 ?_
  clear hP hD hS
  try clear locs
  try clear H
  intro H locs hP hD hS
  replace hP : va_P D vwCl [(hgr, .inr (3, [.int (nI 0), .ref gs, .ref g1r, .ref g2r, .ref gan, .ref gpr, .ref gde, .ref gme])), (gme, .inl (cs 0, 8, .inl gmf))] H := hP
  replace hD : va_D A [(hgr, .inr (3, [.int (nI 0), .ref gs, .ref g1r, .ref g2r, .ref gan, .ref gpr, .ref gde, .ref gme])), (gme, .inl (cs 0, 8, .inl gmf))] := hD
  refine lv_aload_n hx hb dX3_clear_5 rfl (lv_at hl 0 rfl) ?_
  refine xget C hP 0 rfl rfl zuX3 7 (by decide) zw1_212 rfl dX3_clear_6 ?_
  refine lv_iconst (v := nI 0) hx hb dX3_clear_9 (by decide) ?_
  refine xv (wr := [(hgr, .inr (3, [.int (nI 0), .ref gs, .ref g1r, .ref g2r, .ref gan, .ref gpr, .ref gde, .ref gme]))]) (xS (As := [.ref gme, .int (nI 0)]) (rest := []) C (c_J7_fill_53178 l D cs gme 8 gmf (nI 0) (by decide)) kX3_37 hP hD [1] rfl (by decide) ⟨Nat.le_of_ble_eq_true rfl, Nat.le_of_ble_eq_true rfl⟩ rfl hl.1 rfl (Nat.le_of_ble_eq_true rfl) dX3_clear_10 ⟨Nat.le_of_ble_eq_true rfl, Nat.le_of_ble_eq_true rfl⟩) hP hD hS hA [1] [0] rfl rfl (by decide) (by decide) ?_
  clear hP hD hS
  try clear locs
  try clear H
  intro u_2 H locs hw_r_1 hP hD hS
  refine W.widen (k := 0) (n := 0) (Nat.le_of_ble_eq_true rfl) (Nat.le_of_ble_eq_true rfl) ?_
  replace hP : va_P D vwCl [(hgr, .inr (3, [.int (nI 0), .ref gs, .ref g1r, .ref g2r, .ref gan, .ref gpr, .ref gde, .ref gme])), (gme, .inl (cs 0, 8, .inl (fun _ => (nI 0))))] H := hP
  replace hD : va_D A [(hgr, .inr (3, [.int (nI 0), .ref gs, .ref g1r, .ref g2r, .ref gan, .ref gpr, .ref gde, .ref gme])), (gme, .inl (cs 0, 8, .inl (fun _ => (nI 0))))] := hD
  exact xretv C () trivial hP hD hS (Nat.le_of_ble_eq_true rfl) (Nat.le_of_ble_eq_true rfl) dX3_clear_13

set_option maxHeartbeats 4000000 in
set_option maxRecDepth 100000 in
theorem c_X3_isEntry (l : Launch) (D : va_G) (cs : Nat → ClassId) (hgr en gs g1r g2r gan gpr gde gme : Nat) (x : Int32) (hen : en ≤ 16) : xMet l D cs yX3_isEntry cX3_isEntry 2 (some .boolean) ({ frames := 0, cells := 0, slots := 0, locals := 0 } : Room) [.ref hgr, .int x] [(hgr, .inr (3, [.int (nI en), .ref gs, .ref g1r, .ref g2r, .ref gan, .ref gpr, .ref gde, .ref gme]))] (xQi D (fun (r : Int32) (_u : Unit) => PQ (okN en x) r (nI 1) (nI 0)) (fun (_u : Unit) => [(hgr, .inr (3, [.int (nI en), .ref gs, .ref g1r, .ref g2r, .ref gan, .ref gpr, .ref gde, .ref gme]))])) := by
  refine xMet.intro (by decide) (Nat.le_of_ble_eq_true rfl) ?_
  intro p e s m args below meth c A ls C hP hD hS hl
  have hx := C.1
  have hb := C.2.1
  have hz := C.2.2.2.2.1
  have hown := C.2.2.2.1
  have hA := C.2.2.2.2.2.2.2.2.2
  have hAO := C.2.2.2.2.2.2.2.2.1.2.2
  replace hl : lv_has ls 2 [(0, .ref hgr), (1, .int x)] := hl
  obtain ⟨H, hH⟩ : ∃ H, H = s.heap := ⟨_, rfl⟩
  replace hP : va_P D vwCl [(hgr, .inr (3, [.int (nI en), .ref gs, .ref g1r, .ref g2r, .ref gan, .ref gpr, .ref gde, .ref gme]))] H := by rw [hH]; exact hP
  replace hS : va_S A s.heap H [] := by rw [hH]; exact hS
  obtain ⟨locs, hlocs⟩ : ∃ z : List Loc, z = [] := ⟨_, rfl⟩
  rw [← hlocs] at hS
  suffices hW : W p l e ({ frames := 0, cells := 0, slots := 0, locals := 0 } : Room) s m args below meth c H locs 0 0 (MQ below ((xQi D (fun (r : Int32) (_u : Unit) => PQ (okN en x) r (nI 1) (nI 0)) (fun (_u : Unit) => [(hgr, .inr (3, [.int (nI en), .ref gs, .ref g1r, .ref g2r, .ref gan, .ref gpr, .ref gde, .ref gme]))])) A) args s 0 0 A) (F0 m 0 ls []) by rw [hlocs, hH] at hW; exact hW
  clear hH hlocs
  refine lv_iload_n hx hb dX3_isEntry_0 rfl (lv_at hl 1 rfl) ?_
  refine lv_if_lt (tgt := 16) hx hb dX3_isEntry_1 (by decide) (fun c_1 => ?_) (fun c_1 => ?_)
  · -- 1 t
    refine lv_iconst (v := nI 0) hx hb dX3_isEntry_16 (by decide) ?_
    exact xreti C () (Or.inr ⟨fun q => q.1 c_1, rfl⟩) hP hD hS (Nat.le_of_ble_eq_true rfl) (Nat.le_of_ble_eq_true rfl) (by decide) dX3_isEntry_17
  · -- 1 f
    refine lv_iload_n hx hb dX3_isEntry_4 rfl (lv_at hl 1 rfl) ?_
    refine lv_aload_n hx hb dX3_isEntry_5 rfl (lv_at hl 0 rfl) ?_
    refine xget C hP 0 rfl rfl zuX3 0 (by decide) zw1_195 rfl dX3_isEntry_6 ?_
    refine lv_icmp_ge (tgt := 16) hx hb dX3_isEntry_9 (by decide) (fun c_2 => ?_) (fun c_2 => ?_)
    · -- 9 t
      refine lv_iconst (v := nI 0) hx hb dX3_isEntry_16 (by decide) ?_
      exact xreti C () (Or.inr ⟨fun q => q.2 c_2, rfl⟩) hP hD hS (Nat.le_of_ble_eq_true rfl) (Nat.le_of_ble_eq_true rfl) (by decide) dX3_isEntry_17
    · -- 9 f
      refine lv_iconst (v := nI 1) hx hb dX3_isEntry_12 (by decide) ?_
      refine lv_goto (tgt := 17) hx hb dX3_isEntry_13 (by decide) ?_
      exact xreti C () (Or.inl ⟨⟨c_1, c_2⟩, rfl⟩) hP hD hS (Nat.le_of_ble_eq_true rfl) (Nat.le_of_ble_eq_true rfl) (by decide) dX3_isEntry_17

def parP (en : Nat) (x : Int32) : Prop := x = -1 ∨ okN en x

set_option maxHeartbeats 4000000 in
set_option maxRecDepth 100000 in
theorem c_X3_isParent (l : Launch) (D : va_G) (cs : Nat → ClassId) (hgr en gs g1r g2r gan gpr gde gme : Nat) (x : Int32) (hen : en ≤ 16) : xMet l D cs yX3_isParent cX3_isParent 2 (some .boolean) ({ frames := 1, cells := 0, slots := 0, locals := 21 } : Room) [.ref hgr, .int x] [(hgr, .inr (3, [.int (nI en), .ref gs, .ref g1r, .ref g2r, .ref gan, .ref gpr, .ref gde, .ref gme]))] (xQi D (fun (r : Int32) (_u : Unit) => PQ (parP en x) r (nI 1) (nI 0)) (fun (_u : Unit) => [(hgr, .inr (3, [.int (nI en), .ref gs, .ref g1r, .ref g2r, .ref gan, .ref gpr, .ref gde, .ref gme]))])) := by
  refine xMet.intro (by decide) (Nat.le_of_ble_eq_true rfl) ?_
  intro p e s m args below meth c A ls C hP hD hS hl
  have hx := C.1
  have hb := C.2.1
  have hz := C.2.2.2.2.1
  have hown := C.2.2.2.1
  have hA := C.2.2.2.2.2.2.2.2.2
  have hAO := C.2.2.2.2.2.2.2.2.1.2.2
  replace hl : lv_has ls 2 [(0, .ref hgr), (1, .int x)] := hl
  obtain ⟨H, hH⟩ : ∃ H, H = s.heap := ⟨_, rfl⟩
  replace hP : va_P D vwCl [(hgr, .inr (3, [.int (nI en), .ref gs, .ref g1r, .ref g2r, .ref gan, .ref gpr, .ref gde, .ref gme]))] H := by rw [hH]; exact hP
  replace hS : va_S A s.heap H [] := by rw [hH]; exact hS
  obtain ⟨locs, hlocs⟩ : ∃ z : List Loc, z = [] := ⟨_, rfl⟩
  rw [← hlocs] at hS
  suffices hW : W p l e ({ frames := 1, cells := 0, slots := 0, locals := 21 } : Room) s m args below meth c H locs 0 0 (MQ below ((xQi D (fun (r : Int32) (_u : Unit) => PQ (parP en x) r (nI 1) (nI 0)) (fun (_u : Unit) => [(hgr, .inr (3, [.int (nI en), .ref gs, .ref g1r, .ref g2r, .ref gan, .ref gpr, .ref gde, .ref gme]))])) A) args s 0 0 A) (F0 m 0 ls []) by rw [hlocs, hH] at hW; exact hW
  clear hH hlocs
  refine lv_iload_n hx hb dX3_isParent_0 rfl (lv_at hl 1 rfl) ?_
  refine lv_iconst (v := (-1)) hx hb dX3_isParent_1 (by decide) ?_
  refine lv_icmp_eq (tgt := 13) hx hb dX3_isParent_2 (by decide) (fun c_1 => ?_) (fun c_1 => ?_)
  · -- 2 t
    refine lv_iconst (v := nI 1) hx hb dX3_isParent_13 (by decide) ?_
    refine lv_goto (tgt := 18) hx hb dX3_isParent_14 (by decide) ?_
    exact xreti C () (Or.inl ⟨Or.inl c_1, rfl⟩) hP hD hS (Nat.le_of_ble_eq_true rfl) (Nat.le_of_ble_eq_true rfl) (by decide) dX3_isParent_18
  · -- 2 f
    refine lv_aload_n hx hb dX3_isParent_5 rfl (lv_at hl 0 rfl) ?_
    refine lv_iload_n hx hb dX3_isParent_6 rfl (lv_at hl 1 rfl) ?_
    refine xi (wr := []) (xV (As := [.int x]) (rest := []) C (c_X3_isEntry l D cs hgr en gs g1r g2r gan gpr gde gme x hen) kX3_43 hP hD [0] rfl (by decide) 0 rfl rfl rfl ⟨Nat.le_of_ble_eq_true rfl, Nat.le_of_ble_eq_true rfl⟩ rfl hl.1 rfl (Nat.le_of_ble_eq_true rfl) dX3_isParent_7 ⟨Nat.le_of_ble_eq_true rfl, Nat.le_of_ble_eq_true rfl⟩) hP hD hS hA [0] [] rfl rfl (by decide) (by decide) ?_
    clear hP hD hS
    try clear locs
    try clear H
    intro r_2 u_3 H locs hw_r_2 hP hD hS
    have hw_r_2 : PQ (okN en x) r_2 (nI 1) (nI 0) := hw_r_2
    refine W.widen (k := 0) (n := 0) (Nat.le_of_ble_eq_true rfl) (Nat.le_of_ble_eq_true rfl) ?_
    replace hP : va_P D vwCl [(hgr, .inr (3, [.int (nI en), .ref gs, .ref g1r, .ref g2r, .ref gan, .ref gpr, .ref gde, .ref gme]))] H := hP
    replace hD : va_D A [(hgr, .inr (3, [.int (nI en), .ref gs, .ref g1r, .ref g2r, .ref gan, .ref gpr, .ref gde, .ref gme]))] := hD
    refine lv_if_eq (tgt := 17) hx hb dX3_isParent_10 (by decide) (fun c_4 => ?_) (fun c_4 => ?_)
    · -- 10 t
      have hbad := PQ.no hw_r_2 c_4 (by decide)
      refine lv_iconst (v := nI 0) hx hb dX3_isParent_17 (by decide) ?_
      exact xreti C () (Or.inr ⟨fun q => q.elim c_1 hbad, rfl⟩) hP hD hS (Nat.le_of_ble_eq_true rfl) (Nat.le_of_ble_eq_true rfl) (by decide) dX3_isParent_18
    · -- 10 f
      have hok := PQ.yes hw_r_2 c_4
      refine lv_iconst (v := nI 1) hx hb dX3_isParent_13 (by decide) ?_
      refine lv_goto (tgt := 18) hx hb dX3_isParent_14 (by decide) ?_
      exact xreti C () (Or.inl ⟨Or.inr hok, rfl⟩) hP hD hS (Nat.le_of_ble_eq_true rfl) (Nat.le_of_ble_eq_true rfl) (by decide) dX3_isParent_18

set_option maxHeartbeats 4000000 in
set_option maxRecDepth 100000 in
theorem c_X3_lineOf (l : Launch) (D : va_G) (cs : Nat → ClassId) (hgr en gs g1r g2r gan gpr gde gme : Nat) (gaf : Nat → Int32) (x : Int32) (hen : en ≤ 16) : xMet l D cs yX3_lineOf cX3_lineOf 2 (some .int) ({ frames := 1, cells := 0, slots := 0, locals := 21 } : Room) [.ref hgr, .int x] [(hgr, .inr (3, [.int (nI en), .ref gs, .ref g1r, .ref g2r, .ref gan, .ref gpr, .ref gde, .ref gme])), (gan, .inl (cs 0, 16, .inl gaf))] (xQi D (fun (r : Int32) (_u : Unit) => True) (fun (_u : Unit) => [(hgr, .inr (3, [.int (nI en), .ref gs, .ref g1r, .ref g2r, .ref gan, .ref gpr, .ref gde, .ref gme])), (gan, .inl (cs 0, 16, .inl gaf))])) := by
  refine xMet.intro (by decide) (Nat.le_of_ble_eq_true rfl) ?_
  intro p e s m args below meth c A ls C hP hD hS hl
  have hx := C.1
  have hb := C.2.1
  have hz := C.2.2.2.2.1
  have hown := C.2.2.2.1
  have hA := C.2.2.2.2.2.2.2.2.2
  have hAO := C.2.2.2.2.2.2.2.2.1.2.2
  replace hl : lv_has ls 2 [(0, .ref hgr), (1, .int x)] := hl
  obtain ⟨H, hH⟩ : ∃ H, H = s.heap := ⟨_, rfl⟩
  replace hP : va_P D vwCl [(hgr, .inr (3, [.int (nI en), .ref gs, .ref g1r, .ref g2r, .ref gan, .ref gpr, .ref gde, .ref gme])), (gan, .inl (cs 0, 16, .inl gaf))] H := by rw [hH]; exact hP
  replace hS : va_S A s.heap H [] := by rw [hH]; exact hS
  obtain ⟨locs, hlocs⟩ : ∃ z : List Loc, z = [] := ⟨_, rfl⟩
  rw [← hlocs] at hS
  suffices hW : W p l e ({ frames := 1, cells := 0, slots := 0, locals := 21 } : Room) s m args below meth c H locs 0 0 (MQ below ((xQi D (fun (r : Int32) (_u : Unit) => True) (fun (_u : Unit) => [(hgr, .inr (3, [.int (nI en), .ref gs, .ref g1r, .ref g2r, .ref gan, .ref gpr, .ref gde, .ref gme])), (gan, .inl (cs 0, 16, .inl gaf))])) A) args s 0 0 A) (F0 m 0 ls []) by rw [hlocs, hH] at hW; exact hW
  clear hH hlocs
  refine lv_aload_n hx hb dX3_lineOf_0 rfl (lv_at hl 0 rfl) ?_
  refine lv_iload_n hx hb dX3_lineOf_1 rfl (lv_at hl 1 rfl) ?_
  refine xi (wr := [(gan, .inl (cs 0, 16, .inl gaf))]) (xV (As := [.int x]) (rest := []) C (c_X3_isEntry l D cs hgr en gs g1r g2r gan gpr gde gme x hen) kX3_43 hP hD [0] rfl (by decide) 0 rfl rfl rfl ⟨Nat.le_of_ble_eq_true rfl, Nat.le_of_ble_eq_true rfl⟩ rfl hl.1 rfl (Nat.le_of_ble_eq_true rfl) dX3_lineOf_2 ⟨Nat.le_of_ble_eq_true rfl, Nat.le_of_ble_eq_true rfl⟩) hP hD hS hA [0] [1] rfl rfl (by decide) (by decide) ?_
  clear hP hD hS
  try clear locs
  try clear H
  intro r_1 u_2 H locs hw_r_1 hP hD hS
  have hw_r_1 : PQ (okN en x) r_1 (nI 1) (nI 0) := hw_r_1
  refine W.widen (k := 0) (n := 0) (Nat.le_of_ble_eq_true rfl) (Nat.le_of_ble_eq_true rfl) ?_
  replace hP : va_P D vwCl [(gan, .inl (cs 0, 16, .inl gaf)), (hgr, .inr (3, [.int (nI en), .ref gs, .ref g1r, .ref g2r, .ref gan, .ref gpr, .ref gde, .ref gme]))] H := hP
  replace hD : va_D A [(gan, .inl (cs 0, 16, .inl gaf)), (hgr, .inr (3, [.int (nI en), .ref gs, .ref g1r, .ref g2r, .ref gan, .ref gpr, .ref gde, .ref gme]))] := hD
  refine lv_if_eq (tgt := 21) hx hb dX3_lineOf_5 (by decide) (fun c_3 => ?_) (fun c_3 => ?_)
  · -- 5 t
    refine lv_iconst (v := nI 0) hx hb dX3_lineOf_21 (by decide) ?_
    exact xreti C () trivial (xP_map hP [1, 0] rfl) (hD.sub [1, 0] (by decide) rfl) hS (Nat.le_of_ble_eq_true rfl) (Nat.le_of_ble_eq_true rfl) rfl dX3_lineOf_22
  · -- 5 f
    obtain ⟨j, h_j, rfl⟩ := okN_of (PQ.yes hw_r_1 c_3) (by omega)
    replace hP : va_P D vwCl [(gan, .inl (cs 0, 16, .inl gaf)), (hgr, .inr (3, [.int (nI en), .ref gs, .ref g1r, .ref g2r, .ref gan, .ref gpr, .ref gde, .ref gme]))] H := hP
    replace hD : va_D A [(gan, .inl (cs 0, 16, .inl gaf)), (hgr, .inr (3, [.int (nI en), .ref gs, .ref g1r, .ref g2r, .ref gan, .ref gpr, .ref gde, .ref gme]))] := hD
    refine lv_aload_n hx hb dX3_lineOf_8 rfl (lv_at hl 0 rfl) ?_
    refine xget C hP 1 rfl rfl zuX3 4 (by decide) zw1_205 rfl dX3_lineOf_9 ?_
    refine lv_iload_n hx hb dX3_lineOf_12 rfl (lv_at hl 1 rfl) ?_
    refine xiald C hP 0 rfl j rfl (by omega) (by decide) dX3_lineOf_13 ?_
    refine lv_iconst (v := nI 1) hx hb dX3_lineOf_14 (by decide) ?_
    refine lv_iload_n hx hb dX3_lineOf_15 rfl (lv_at hl 1 rfl) ?_
    refine lv_ishl hx hb dX3_lineOf_16 ?_
    refine lv_ior hx hb dX3_lineOf_17 ?_
    refine lv_goto (tgt := 22) hx hb dX3_lineOf_18 (by decide) ?_
    exact xreti C () trivial (xP_map hP [1, 0] rfl) (hD.sub [1, 0] (by decide) rfl) hS (Nat.le_of_ble_eq_true rfl) (Nat.le_of_ble_eq_true rfl) rfl dX3_lineOf_22

set_option maxHeartbeats 4000000 in
set_option maxRecDepth 100000 in
theorem c_X3_depthBelow (l : Launch) (D : va_G) (cs : Nat → ClassId) (hgr en gs g1r g2r gan gpr gde gme : Nat) (gdf : Nat → Int32) (x : Int32) (hen : en ≤ 16) : xMet l D cs yX3_depthBelow cX3_depthBelow 2 (some .int) ({ frames := 1, cells := 0, slots := 0, locals := 21 } : Room) [.ref hgr, .int x] [(hgr, .inr (3, [.int (nI en), .ref gs, .ref g1r, .ref g2r, .ref gan, .ref gpr, .ref gde, .ref gme])), (gde, .inl (cs 0, 16, .inl gdf))] (xQi D (fun (r : Int32) (_u : Unit) => True) (fun (_u : Unit) => [(hgr, .inr (3, [.int (nI en), .ref gs, .ref g1r, .ref g2r, .ref gan, .ref gpr, .ref gde, .ref gme])), (gde, .inl (cs 0, 16, .inl gdf))])) := by
  refine xMet.intro (by decide) (Nat.le_of_ble_eq_true rfl) ?_
  intro p e s m args below meth c A ls C hP hD hS hl
  have hx := C.1
  have hb := C.2.1
  have hz := C.2.2.2.2.1
  have hown := C.2.2.2.1
  have hA := C.2.2.2.2.2.2.2.2.2
  have hAO := C.2.2.2.2.2.2.2.2.1.2.2
  replace hl : lv_has ls 2 [(0, .ref hgr), (1, .int x)] := hl
  obtain ⟨H, hH⟩ : ∃ H, H = s.heap := ⟨_, rfl⟩
  replace hP : va_P D vwCl [(hgr, .inr (3, [.int (nI en), .ref gs, .ref g1r, .ref g2r, .ref gan, .ref gpr, .ref gde, .ref gme])), (gde, .inl (cs 0, 16, .inl gdf))] H := by rw [hH]; exact hP
  replace hS : va_S A s.heap H [] := by rw [hH]; exact hS
  obtain ⟨locs, hlocs⟩ : ∃ z : List Loc, z = [] := ⟨_, rfl⟩
  rw [← hlocs] at hS
  suffices hW : W p l e ({ frames := 1, cells := 0, slots := 0, locals := 21 } : Room) s m args below meth c H locs 0 0 (MQ below ((xQi D (fun (r : Int32) (_u : Unit) => True) (fun (_u : Unit) => [(hgr, .inr (3, [.int (nI en), .ref gs, .ref g1r, .ref g2r, .ref gan, .ref gpr, .ref gde, .ref gme])), (gde, .inl (cs 0, 16, .inl gdf))])) A) args s 0 0 A) (F0 m 0 ls []) by rw [hlocs, hH] at hW; exact hW
  clear hH hlocs
  refine lv_aload_n hx hb dX3_depthBelow_0 rfl (lv_at hl 0 rfl) ?_
  refine lv_iload_n hx hb dX3_depthBelow_1 rfl (lv_at hl 1 rfl) ?_
  refine xi (wr := [(gde, .inl (cs 0, 16, .inl gdf))]) (xV (As := [.int x]) (rest := []) C (c_X3_isEntry l D cs hgr en gs g1r g2r gan gpr gde gme x hen) kX3_43 hP hD [0] rfl (by decide) 0 rfl rfl rfl ⟨Nat.le_of_ble_eq_true rfl, Nat.le_of_ble_eq_true rfl⟩ rfl hl.1 rfl (Nat.le_of_ble_eq_true rfl) dX3_depthBelow_2 ⟨Nat.le_of_ble_eq_true rfl, Nat.le_of_ble_eq_true rfl⟩) hP hD hS hA [0] [1] rfl rfl (by decide) (by decide) ?_
  clear hP hD hS
  try clear locs
  try clear H
  intro r_1 u_2 H locs hw_r_1 hP hD hS
  have hw_r_1 : PQ (okN en x) r_1 (nI 1) (nI 0) := hw_r_1
  refine W.widen (k := 0) (n := 0) (Nat.le_of_ble_eq_true rfl) (Nat.le_of_ble_eq_true rfl) ?_
  replace hP : va_P D vwCl [(gde, .inl (cs 0, 16, .inl gdf)), (hgr, .inr (3, [.int (nI en), .ref gs, .ref g1r, .ref g2r, .ref gan, .ref gpr, .ref gde, .ref gme]))] H := hP
  replace hD : va_D A [(gde, .inl (cs 0, 16, .inl gdf)), (hgr, .inr (3, [.int (nI en), .ref gs, .ref g1r, .ref g2r, .ref gan, .ref gpr, .ref gde, .ref gme]))] := hD
  refine lv_if_eq (tgt := 19) hx hb dX3_depthBelow_5 (by decide) (fun c_3 => ?_) (fun c_3 => ?_)
  · -- 5 t
    refine lv_iconst (v := nI 0) hx hb dX3_depthBelow_19 (by decide) ?_
    exact xreti C () trivial (xP_map hP [1, 0] rfl) (hD.sub [1, 0] (by decide) rfl) hS (Nat.le_of_ble_eq_true rfl) (Nat.le_of_ble_eq_true rfl) rfl dX3_depthBelow_20
  · -- 5 f
    obtain ⟨j, h_j, rfl⟩ := okN_of (PQ.yes hw_r_1 c_3) (by omega)
    replace hP : va_P D vwCl [(gde, .inl (cs 0, 16, .inl gdf)), (hgr, .inr (3, [.int (nI en), .ref gs, .ref g1r, .ref g2r, .ref gan, .ref gpr, .ref gde, .ref gme]))] H := hP
    replace hD : va_D A [(gde, .inl (cs 0, 16, .inl gdf)), (hgr, .inr (3, [.int (nI en), .ref gs, .ref g1r, .ref g2r, .ref gan, .ref gpr, .ref gde, .ref gme]))] := hD
    refine lv_aload_n hx hb dX3_depthBelow_8 rfl (lv_at hl 0 rfl) ?_
    refine xget C hP 1 rfl rfl zuX3 6 (by decide) zw1_210 rfl dX3_depthBelow_9 ?_
    refine lv_iload_n hx hb dX3_depthBelow_12 rfl (lv_at hl 1 rfl) ?_
    refine xiald C hP 0 rfl j rfl (by omega) (by decide) dX3_depthBelow_13 ?_
    refine lv_iconst (v := nI 1) hx hb dX3_depthBelow_14 (by decide) ?_
    refine lv_iadd hx hb dX3_depthBelow_15 ?_
    refine lv_goto (tgt := 20) hx hb dX3_depthBelow_16 (by decide) ?_
    exact xreti C () trivial (xP_map hP [1, 0] rfl) (hD.sub [1, 0] (by decide) rfl) hS (Nat.le_of_ble_eq_true rfl) (Nat.le_of_ble_eq_true rfl) rfl dX3_depthBelow_20

set_option maxHeartbeats 4000000 in
set_option maxRecDepth 100000 in
theorem c_X3_isAlone (l : Launch) (D : va_G) (cs : Nat → ClassId) (hgr en gs g1r g2r gan gpr gde gme : Nat) (gsf gmf : Nat → Int32) (j : Nat) (hgs : inP 16 8 gsf) (hj : j < 16) : xMet l D cs yX3_isAlone cX3_isAlone 2 (some .boolean) ({ frames := 0, cells := 0, slots := 0, locals := 0 } : Room) [.ref hgr, .int (nI j)] [(hgr, .inr (3, [.int (nI en), .ref gs, .ref g1r, .ref g2r, .ref gan, .ref gpr, .ref gde, .ref gme])), (gs, .inl (cs 0, 16, .inl gsf)), (gme, .inl (cs 0, 8, .inl gmf))] (xQi D (fun (r : Int32) (_u : Unit) => (r = nI 0 ∨ r = nI 1)) (fun (_u : Unit) => [(hgr, .inr (3, [.int (nI en), .ref gs, .ref g1r, .ref g2r, .ref gan, .ref gpr, .ref gde, .ref gme])), (gs, .inl (cs 0, 16, .inl gsf)), (gme, .inl (cs 0, 8, .inl gmf))])) := by
  refine xMet.intro (by decide) (Nat.le_of_ble_eq_true rfl) ?_
  intro p e s m args below meth c A ls C hP hD hS hl
  have hx := C.1
  have hb := C.2.1
  have hz := C.2.2.2.2.1
  have hown := C.2.2.2.1
  have hA := C.2.2.2.2.2.2.2.2.2
  have hAO := C.2.2.2.2.2.2.2.2.1.2.2
  replace hl : lv_has ls 2 [(0, .ref hgr), (1, .int (nI j))] := hl
  obtain ⟨H, hH⟩ : ∃ H, H = s.heap := ⟨_, rfl⟩
  replace hP : va_P D vwCl [(hgr, .inr (3, [.int (nI en), .ref gs, .ref g1r, .ref g2r, .ref gan, .ref gpr, .ref gde, .ref gme])), (gs, .inl (cs 0, 16, .inl gsf)), (gme, .inl (cs 0, 8, .inl gmf))] H := by rw [hH]; exact hP
  replace hS : va_S A s.heap H [] := by rw [hH]; exact hS
  obtain ⟨locs, hlocs⟩ : ∃ z : List Loc, z = [] := ⟨_, rfl⟩
  rw [← hlocs] at hS
  suffices hW : W p l e ({ frames := 0, cells := 0, slots := 0, locals := 0 } : Room) s m args below meth c H locs 0 0 (MQ below ((xQi D (fun (r : Int32) (_u : Unit) => (r = nI 0 ∨ r = nI 1)) (fun (_u : Unit) => [(hgr, .inr (3, [.int (nI en), .ref gs, .ref g1r, .ref g2r, .ref gan, .ref gpr, .ref gde, .ref gme])), (gs, .inl (cs 0, 16, .inl gsf)), (gme, .inl (cs 0, 8, .inl gmf))])) A) args s 0 0 A) (F0 m 0 ls []) by rw [hlocs, hH] at hW; exact hW
  clear hH hlocs
  refine lv_aload_n hx hb dX3_isAlone_0 rfl (lv_at hl 0 rfl) ?_
  refine xget C hP 0 rfl rfl zuX3 7 (by decide) zw1_212 rfl dX3_isAlone_1 ?_
  refine lv_aload_n hx hb dX3_isAlone_4 rfl (lv_at hl 0 rfl) ?_
  refine xget C hP 0 rfl rfl zuX3 1 (by decide) zw1_198 rfl dX3_isAlone_5 ?_
  refine lv_iload_n hx hb dX3_isAlone_8 rfl (lv_at hl 1 rfl) ?_
  refine xiald C hP 1 rfl j rfl (by omega) (by decide) dX3_isAlone_9 ?_
  obtain ⟨t_1, h_t_1, e_t_1⟩ := hgs j hj
  refine lv_topi (nm_r (e' := nI t_1) e_t_1 ?_)
  refine xiald C hP 2 rfl t_1 rfl (by omega) (by decide) dX3_isAlone_10 ?_
  refine lv_iconst (v := nI 1) hx hb dX3_isAlone_11 (by decide) ?_
  refine lv_iload_n hx hb dX3_isAlone_12 rfl (lv_at hl 1 rfl) ?_
  refine lv_ishl hx hb dX3_isAlone_13 ?_
  refine lv_icmp_ne (tgt := 21) hx hb dX3_isAlone_14 (by decide) (fun c_2 => ?_) (fun c_2 => ?_)
  · -- 14 t
    refine lv_iconst (v := nI 0) hx hb dX3_isAlone_21 (by decide) ?_
    exact xreti C () (by decide) hP hD hS (Nat.le_of_ble_eq_true rfl) (Nat.le_of_ble_eq_true rfl) (by decide) dX3_isAlone_22
  · -- 14 f
    refine lv_iconst (v := nI 1) hx hb dX3_isAlone_17 (by decide) ?_
    refine lv_goto (tgt := 22) hx hb dX3_isAlone_18 (by decide) ?_
    exact xreti C () (by decide) hP hD hS (Nat.le_of_ble_eq_true rfl) (Nat.le_of_ble_eq_true rfl) (by decide) dX3_isAlone_22

set_option maxHeartbeats 4000000 in
set_option maxRecDepth 100000 in
theorem c_X3_parentBits (l : Launch) (D : va_G) (cs : Nat → ClassId) (hgr en gs g1r g2r gan gpr gde gme : Nat) (g1f g2f : Nat → Int32) (j : Nat) (hj : j < 16) : xMet l D cs yX3_parentBits cX3_parentBits 2 (some .int) ({ frames := 0, cells := 0, slots := 0, locals := 0 } : Room) [.ref hgr, .int (nI j)] [(hgr, .inr (3, [.int (nI en), .ref gs, .ref g1r, .ref g2r, .ref gan, .ref gpr, .ref gde, .ref gme])), (g1r, .inl (cs 0, 16, .inl g1f)), (g2r, .inl (cs 0, 16, .inl g2f))] (xQi D (fun (r : Int32) (_u : Unit) => True) (fun (_u : Unit) => [(hgr, .inr (3, [.int (nI en), .ref gs, .ref g1r, .ref g2r, .ref gan, .ref gpr, .ref gde, .ref gme])), (g1r, .inl (cs 0, 16, .inl g1f)), (g2r, .inl (cs 0, 16, .inl g2f))])) := by
  refine xMet.intro (by decide) (Nat.le_of_ble_eq_true rfl) ?_
  intro p e s m args below meth c A ls C hP hD hS hl
  have hx := C.1
  have hb := C.2.1
  have hz := C.2.2.2.2.1
  have hown := C.2.2.2.1
  have hA := C.2.2.2.2.2.2.2.2.2
  have hAO := C.2.2.2.2.2.2.2.2.1.2.2
  replace hl : lv_has ls 2 [(0, .ref hgr), (1, .int (nI j))] := hl
  obtain ⟨H, hH⟩ : ∃ H, H = s.heap := ⟨_, rfl⟩
  replace hP : va_P D vwCl [(hgr, .inr (3, [.int (nI en), .ref gs, .ref g1r, .ref g2r, .ref gan, .ref gpr, .ref gde, .ref gme])), (g1r, .inl (cs 0, 16, .inl g1f)), (g2r, .inl (cs 0, 16, .inl g2f))] H := by rw [hH]; exact hP
  replace hS : va_S A s.heap H [] := by rw [hH]; exact hS
  obtain ⟨locs, hlocs⟩ : ∃ z : List Loc, z = [] := ⟨_, rfl⟩
  rw [← hlocs] at hS
  suffices hW : W p l e ({ frames := 0, cells := 0, slots := 0, locals := 0 } : Room) s m args below meth c H locs 0 0 (MQ below ((xQi D (fun (r : Int32) (_u : Unit) => True) (fun (_u : Unit) => [(hgr, .inr (3, [.int (nI en), .ref gs, .ref g1r, .ref g2r, .ref gan, .ref gpr, .ref gde, .ref gme])), (g1r, .inl (cs 0, 16, .inl g1f)), (g2r, .inl (cs 0, 16, .inl g2f))])) A) args s 0 0 A) (F0 m 0 ls []) by rw [hlocs, hH] at hW; exact hW
  clear hH hlocs
  refine lv_aload_n hx hb dX3_parentBits_0 rfl (lv_at hl 0 rfl) ?_
  refine xget C hP 0 rfl rfl zuX3 2 (by decide) zw1_201 rfl dX3_parentBits_1 ?_
  refine lv_iload_n hx hb dX3_parentBits_4 rfl (lv_at hl 1 rfl) ?_
  refine xiald C hP 1 rfl j rfl (by omega) (by decide) dX3_parentBits_5 ?_
  refine lv_iconst (v := (-1)) hx hb dX3_parentBits_6 (by decide) ?_
  refine lv_icmp_ne (tgt := 14) hx hb dX3_parentBits_7 (by decide) (fun c_1 => ?_) (fun c_1 => ?_)
  · -- 7 t
    refine lv_iconst (v := nI 1) hx hb dX3_parentBits_14 (by decide) ?_
    refine lv_aload_n hx hb dX3_parentBits_15 rfl (lv_at hl 0 rfl) ?_
    refine xget C hP 0 rfl rfl zuX3 2 (by decide) zw1_201 rfl dX3_parentBits_16 ?_
    refine lv_iload_n hx hb dX3_parentBits_19 rfl (lv_at hl 1 rfl) ?_
    refine xiald C hP 1 rfl j rfl (by omega) (by decide) dX3_parentBits_20 ?_
    refine lv_ishl hx hb dX3_parentBits_21 ?_
    refine lv_aload_n hx hb dX3_parentBits_22 rfl (lv_at hl 0 rfl) ?_
    refine xget C hP 0 rfl rfl zuX3 3 (by decide) zw1_203 rfl dX3_parentBits_23 ?_
    refine lv_iload_n hx hb dX3_parentBits_26 rfl (lv_at hl 1 rfl) ?_
    refine xiald C hP 2 rfl j rfl (by omega) (by decide) dX3_parentBits_27 ?_
    refine lv_iconst (v := (-1)) hx hb dX3_parentBits_28 (by decide) ?_
    refine lv_icmp_ne (tgt := 36) hx hb dX3_parentBits_29 (by decide) (fun c_2 => ?_) (fun c_2 => ?_)
    · -- 29 t
      refine lv_iconst (v := nI 1) hx hb dX3_parentBits_36 (by decide) ?_
      refine lv_aload_n hx hb dX3_parentBits_37 rfl (lv_at hl 0 rfl) ?_
      refine xget C hP 0 rfl rfl zuX3 3 (by decide) zw1_203 rfl dX3_parentBits_38 ?_
      refine lv_iload_n hx hb dX3_parentBits_41 rfl (lv_at hl 1 rfl) ?_
      refine xiald C hP 2 rfl j rfl (by omega) (by decide) dX3_parentBits_42 ?_
      refine lv_ishl hx hb dX3_parentBits_43 ?_
      refine lv_ior hx hb dX3_parentBits_44 ?_
      exact xreti C () trivial hP hD hS (Nat.le_of_ble_eq_true rfl) (Nat.le_of_ble_eq_true rfl) rfl dX3_parentBits_45
    · -- 29 f
      refine lv_iconst (v := nI 0) hx hb dX3_parentBits_32 (by decide) ?_
      refine lv_goto (tgt := 44) hx hb dX3_parentBits_33 (by decide) ?_
      refine lv_ior hx hb dX3_parentBits_44 ?_
      exact xreti C () trivial hP hD hS (Nat.le_of_ble_eq_true rfl) (Nat.le_of_ble_eq_true rfl) rfl dX3_parentBits_45
  · -- 7 f
    refine lv_iconst (v := nI 0) hx hb dX3_parentBits_10 (by decide) ?_
    refine lv_goto (tgt := 22) hx hb dX3_parentBits_11 (by decide) ?_
    refine lv_aload_n hx hb dX3_parentBits_22 rfl (lv_at hl 0 rfl) ?_
    refine xget C hP 0 rfl rfl zuX3 3 (by decide) zw1_203 rfl dX3_parentBits_23 ?_
    refine lv_iload_n hx hb dX3_parentBits_26 rfl (lv_at hl 1 rfl) ?_
    refine xiald C hP 2 rfl j rfl (by omega) (by decide) dX3_parentBits_27 ?_
    refine lv_iconst (v := (-1)) hx hb dX3_parentBits_28 (by decide) ?_
    refine lv_icmp_ne (tgt := 36) hx hb dX3_parentBits_29 (by decide) (fun c_3 => ?_) (fun c_3 => ?_)
    · -- 29 t
      refine lv_iconst (v := nI 1) hx hb dX3_parentBits_36 (by decide) ?_
      refine lv_aload_n hx hb dX3_parentBits_37 rfl (lv_at hl 0 rfl) ?_
      refine xget C hP 0 rfl rfl zuX3 3 (by decide) zw1_203 rfl dX3_parentBits_38 ?_
      refine lv_iload_n hx hb dX3_parentBits_41 rfl (lv_at hl 1 rfl) ?_
      refine xiald C hP 2 rfl j rfl (by omega) (by decide) dX3_parentBits_42 ?_
      refine lv_ishl hx hb dX3_parentBits_43 ?_
      refine lv_ior hx hb dX3_parentBits_44 ?_
      exact xreti C () trivial hP hD hS (Nat.le_of_ble_eq_true rfl) (Nat.le_of_ble_eq_true rfl) rfl dX3_parentBits_45
    · -- 29 f
      refine lv_iconst (v := nI 0) hx hb dX3_parentBits_32 (by decide) ?_
      refine lv_goto (tgt := 44) hx hb dX3_parentBits_33 (by decide) ?_
      refine lv_ior hx hb dX3_parentBits_44 ?_
      refine lv_topi (nm_r (e' := nI 0) (by decide) ?_)
      exact xreti C () trivial hP hD hS (Nat.le_of_ble_eq_true rfl) (Nat.le_of_ble_eq_true rfl) rfl dX3_parentBits_45

set_option maxHeartbeats 4000000 in
set_option maxRecDepth 100000 in
theorem c_X3_add (l : Launch) (D : va_G) (cs : Nat → ClassId) (hgr en gs g1r g2r gan gpr gde gme : Nat) (gsf g1f g2f gaf gpf gdf gmf : Nat → Int32) (s9 : Nat) (x y : Int32) (hen : en < 16) (hs : s9 < 8) (hgs : inP 16 8 gsf) : xMet l D cs yX3_add cX3_add 6 (some .int) ({ frames := 2, cells := 0, slots := 0, locals := 42 } : Room) [.ref hgr, .int (nI s9), .int x, .int y] [(hgr, .inr (3, [.int (nI en), .ref gs, .ref g1r, .ref g2r, .ref gan, .ref gpr, .ref gde, .ref gme])), (gs, .inl (cs 0, 16, .inl gsf)), (g1r, .inl (cs 0, 16, .inl g1f)), (g2r, .inl (cs 0, 16, .inl g2f)), (gan, .inl (cs 0, 16, .inl gaf)), (gpr, .inl (cs 0, 16, .inl gpf)), (gde, .inl (cs 0, 16, .inl gdf)), (gme, .inl (cs 0, 8, .inl gmf))] (xQi D (fun (r : Int32) (u : (Nat → Int32) × (Nat → Int32) × (Nat → Int32) × (Nat → Int32) × (Nat → Int32) × (Nat → Int32) × (Nat → Int32)) => match u with | (gz, g1z, g2z, gaz, gpz, gdz, gmz) => r = nI en ∧ inP 16 8 gz) (fun (u : (Nat → Int32) × (Nat → Int32) × (Nat → Int32) × (Nat → Int32) × (Nat → Int32) × (Nat → Int32) × (Nat → Int32)) => match u with | (gz, g1z, g2z, gaz, gpz, gdz, gmz) => [(hgr, .inr (3, [.int (nI (en + 1)), .ref gs, .ref g1r, .ref g2r, .ref gan, .ref gpr, .ref gde, .ref gme])), (gs, .inl (cs 0, 16, .inl gz)), (g1r, .inl (cs 0, 16, .inl g1z)), (g2r, .inl (cs 0, 16, .inl g2z)), (gan, .inl (cs 0, 16, .inl gaz)), (gpr, .inl (cs 0, 16, .inl gpz)), (gde, .inl (cs 0, 16, .inl gdz)), (gme, .inl (cs 0, 8, .inl gmz))])) := by
  refine xMet.intro (by decide) (Nat.le_of_ble_eq_true rfl) ?_
  intro p e s m args below meth c A ls C hP hD hS hl
  have hx := C.1
  have hb := C.2.1
  have hz := C.2.2.2.2.1
  have hown := C.2.2.2.1
  have hA := C.2.2.2.2.2.2.2.2.2
  have hAO := C.2.2.2.2.2.2.2.2.1.2.2
  replace hl : lv_has ls 6 [(0, .ref hgr), (1, .int (nI s9)), (2, .int x), (3, .int y)] := hl
  obtain ⟨H, hH⟩ : ∃ H, H = s.heap := ⟨_, rfl⟩
  replace hP : va_P D vwCl [(hgr, .inr (3, [.int (nI en), .ref gs, .ref g1r, .ref g2r, .ref gan, .ref gpr, .ref gde, .ref gme])), (gs, .inl (cs 0, 16, .inl gsf)), (g1r, .inl (cs 0, 16, .inl g1f)), (g2r, .inl (cs 0, 16, .inl g2f)), (gan, .inl (cs 0, 16, .inl gaf)), (gpr, .inl (cs 0, 16, .inl gpf)), (gde, .inl (cs 0, 16, .inl gdf)), (gme, .inl (cs 0, 8, .inl gmf))] H := by rw [hH]; exact hP
  replace hS : va_S A s.heap H [] := by rw [hH]; exact hS
  obtain ⟨locs, hlocs⟩ : ∃ z : List Loc, z = [] := ⟨_, rfl⟩
  rw [← hlocs] at hS
  suffices hW : W p l e ({ frames := 2, cells := 0, slots := 0, locals := 42 } : Room) s m args below meth c H locs 0 0 (MQ below ((xQi D (fun (r : Int32) (u : (Nat → Int32) × (Nat → Int32) × (Nat → Int32) × (Nat → Int32) × (Nat → Int32) × (Nat → Int32) × (Nat → Int32)) => match u with | (gz, g1z, g2z, gaz, gpz, gdz, gmz) => r = nI en ∧ inP 16 8 gz) (fun (u : (Nat → Int32) × (Nat → Int32) × (Nat → Int32) × (Nat → Int32) × (Nat → Int32) × (Nat → Int32) × (Nat → Int32)) => match u with | (gz, g1z, g2z, gaz, gpz, gdz, gmz) => [(hgr, .inr (3, [.int (nI (en + 1)), .ref gs, .ref g1r, .ref g2r, .ref gan, .ref gpr, .ref gde, .ref gme])), (gs, .inl (cs 0, 16, .inl gz)), (g1r, .inl (cs 0, 16, .inl g1z)), (g2r, .inl (cs 0, 16, .inl g2z)), (gan, .inl (cs 0, 16, .inl gaz)), (gpr, .inl (cs 0, 16, .inl gpz)), (gde, .inl (cs 0, 16, .inl gdz)), (gme, .inl (cs 0, 8, .inl gmz))])) A) args s 0 0 A) (F0 m 0 ls []) by rw [hlocs, hH] at hW; exact hW
  clear hH hlocs
  refine lv_aload_n hx hb dX3_add_0 rfl (lv_at hl 0 rfl) ?_
  refine xget C hP 0 rfl rfl zuX3 0 (by decide) zw1_195 rfl dX3_add_1 ?_
  refine lv_istore (lv' := [(4, .int (nI en)), (0, .ref hgr), (1, .int (nI s9)), (2, .int x), (3, .int y)]) hx hb dX3_add_4 hl (by decide) rfl ?_
  clear hl
  try clear ls
  intro ls hl
  refine lv_aload_n hx hb dX3_add_6 rfl (lv_at hl 1 rfl) ?_
  refine lv_dup hx hb dX3_add_7 rfl ?_
  refine xget C hP 0 rfl rfl zuX3 0 (by decide) zw1_195 rfl dX3_add_8 ?_
  refine lv_iconst (v := nI 1) hx hb dX3_add_11 (by decide) ?_
  refine lv_iadd hx hb dX3_add_12 ?_
  refine lv_topi (nm_r (e' := nI (en + 1)) (nI_add _ _) ?_)
  refine xput C hP hD hS 0 rfl rfl zuX3 tyX3 tyX3_ok nmX3 0 (by decide) zw1_195 rfl rfl rfl (Nat.le_of_ble_eq_true rfl) dX3_add_13 ?_
  clear hP hD hS
  try clear locs
  try clear H
  intro H locs hP hD hS
  replace hP : va_P D vwCl [(hgr, .inr (3, [.int (nI (en + 1)), .ref gs, .ref g1r, .ref g2r, .ref gan, .ref gpr, .ref gde, .ref gme])), (gs, .inl (cs 0, 16, .inl gsf)), (g1r, .inl (cs 0, 16, .inl g1f)), (g2r, .inl (cs 0, 16, .inl g2f)), (gan, .inl (cs 0, 16, .inl gaf)), (gpr, .inl (cs 0, 16, .inl gpf)), (gde, .inl (cs 0, 16, .inl gdf)), (gme, .inl (cs 0, 8, .inl gmf))] H := hP
  replace hD : va_D A [(hgr, .inr (3, [.int (nI (en + 1)), .ref gs, .ref g1r, .ref g2r, .ref gan, .ref gpr, .ref gde, .ref gme])), (gs, .inl (cs 0, 16, .inl gsf)), (g1r, .inl (cs 0, 16, .inl g1f)), (g2r, .inl (cs 0, 16, .inl g2f)), (gan, .inl (cs 0, 16, .inl gaf)), (gpr, .inl (cs 0, 16, .inl gpf)), (gde, .inl (cs 0, 16, .inl gdf)), (gme, .inl (cs 0, 8, .inl gmf))] := hD
  refine lv_aload_n hx hb dX3_add_16 rfl (lv_at hl 1 rfl) ?_
  refine xget C hP 0 rfl rfl zuX3 1 (by decide) zw1_198 rfl dX3_add_17 ?_
  refine lv_iload hx hb dX3_add_20 (lv_at hl 0 rfl) ?_
  refine lv_iload_n hx hb dX3_add_22 rfl (lv_at hl 2 rfl) ?_
  refine xiast C hP hD hS 1 rfl en rfl (by omega) (by decide) dX3_add_23 ?_
  clear hP hD hS
  try clear locs
  try clear H
  intro H locs hP hD hS
  replace hP : va_P D vwCl [(hgr, .inr (3, [.int (nI (en + 1)), .ref gs, .ref g1r, .ref g2r, .ref gan, .ref gpr, .ref gde, .ref gme])), (gs, .inl (cs 0, 16, .inl (upd gsf en (nI s9)))), (g1r, .inl (cs 0, 16, .inl g1f)), (g2r, .inl (cs 0, 16, .inl g2f)), (gan, .inl (cs 0, 16, .inl gaf)), (gpr, .inl (cs 0, 16, .inl gpf)), (gde, .inl (cs 0, 16, .inl gdf)), (gme, .inl (cs 0, 8, .inl gmf))] H := hP
  replace hD : va_D A [(hgr, .inr (3, [.int (nI (en + 1)), .ref gs, .ref g1r, .ref g2r, .ref gan, .ref gpr, .ref gde, .ref gme])), (gs, .inl (cs 0, 16, .inl (upd gsf en (nI s9)))), (g1r, .inl (cs 0, 16, .inl g1f)), (g2r, .inl (cs 0, 16, .inl g2f)), (gan, .inl (cs 0, 16, .inl gaf)), (gpr, .inl (cs 0, 16, .inl gpf)), (gde, .inl (cs 0, 16, .inl gdf)), (gme, .inl (cs 0, 8, .inl gmf))] := hD
  refine lv_aload_n hx hb dX3_add_24 rfl (lv_at hl 1 rfl) ?_
  refine xget C hP 0 rfl rfl zuX3 2 (by decide) zw1_201 rfl dX3_add_25 ?_
  refine lv_iload hx hb dX3_add_28 (lv_at hl 0 rfl) ?_
  refine lv_iload_n hx hb dX3_add_30 rfl (lv_at hl 3 rfl) ?_
  refine xiast C hP hD hS 2 rfl en rfl (by omega) (by decide) dX3_add_31 ?_
  clear hP hD hS
  try clear locs
  try clear H
  intro H locs hP hD hS
  replace hP : va_P D vwCl [(hgr, .inr (3, [.int (nI (en + 1)), .ref gs, .ref g1r, .ref g2r, .ref gan, .ref gpr, .ref gde, .ref gme])), (gs, .inl (cs 0, 16, .inl (upd gsf en (nI s9)))), (g1r, .inl (cs 0, 16, .inl (upd g1f en x))), (g2r, .inl (cs 0, 16, .inl g2f)), (gan, .inl (cs 0, 16, .inl gaf)), (gpr, .inl (cs 0, 16, .inl gpf)), (gde, .inl (cs 0, 16, .inl gdf)), (gme, .inl (cs 0, 8, .inl gmf))] H := hP
  replace hD : va_D A [(hgr, .inr (3, [.int (nI (en + 1)), .ref gs, .ref g1r, .ref g2r, .ref gan, .ref gpr, .ref gde, .ref gme])), (gs, .inl (cs 0, 16, .inl (upd gsf en (nI s9)))), (g1r, .inl (cs 0, 16, .inl (upd g1f en x))), (g2r, .inl (cs 0, 16, .inl g2f)), (gan, .inl (cs 0, 16, .inl gaf)), (gpr, .inl (cs 0, 16, .inl gpf)), (gde, .inl (cs 0, 16, .inl gdf)), (gme, .inl (cs 0, 8, .inl gmf))] := hD
  refine lv_aload_n hx hb dX3_add_32 rfl (lv_at hl 1 rfl) ?_
  refine xget C hP 0 rfl rfl zuX3 3 (by decide) zw1_203 rfl dX3_add_33 ?_
  refine lv_iload hx hb dX3_add_36 (lv_at hl 0 rfl) ?_
  refine lv_iload_n hx hb dX3_add_38 rfl (lv_at hl 4 rfl) ?_
  refine xiast C hP hD hS 3 rfl en rfl (by omega) (by decide) dX3_add_39 ?_
  clear hP hD hS
  try clear locs
  try clear H
  intro H locs hP hD hS
  replace hP : va_P D vwCl [(hgr, .inr (3, [.int (nI (en + 1)), .ref gs, .ref g1r, .ref g2r, .ref gan, .ref gpr, .ref gde, .ref gme])), (gs, .inl (cs 0, 16, .inl (upd gsf en (nI s9)))), (g1r, .inl (cs 0, 16, .inl (upd g1f en x))), (g2r, .inl (cs 0, 16, .inl (upd g2f en y))), (gan, .inl (cs 0, 16, .inl gaf)), (gpr, .inl (cs 0, 16, .inl gpf)), (gde, .inl (cs 0, 16, .inl gdf)), (gme, .inl (cs 0, 8, .inl gmf))] H := hP
  replace hD : va_D A [(hgr, .inr (3, [.int (nI (en + 1)), .ref gs, .ref g1r, .ref g2r, .ref gan, .ref gpr, .ref gde, .ref gme])), (gs, .inl (cs 0, 16, .inl (upd gsf en (nI s9)))), (g1r, .inl (cs 0, 16, .inl (upd g1f en x))), (g2r, .inl (cs 0, 16, .inl (upd g2f en y))), (gan, .inl (cs 0, 16, .inl gaf)), (gpr, .inl (cs 0, 16, .inl gpf)), (gde, .inl (cs 0, 16, .inl gdf)), (gme, .inl (cs 0, 8, .inl gmf))] := hD
  refine lv_aload_n hx hb dX3_add_40 rfl (lv_at hl 1 rfl) ?_
  refine xget C hP 0 rfl rfl zuX3 4 (by decide) zw1_205 rfl dX3_add_41 ?_
  refine lv_iload hx hb dX3_add_44 (lv_at hl 0 rfl) ?_
  refine lv_aload_n hx hb dX3_add_46 rfl (lv_at hl 1 rfl) ?_
  refine lv_iload_n hx hb dX3_add_47 rfl (lv_at hl 3 rfl) ?_
  refine xi (wr := [(gs, .inl (cs 0, 16, .inl (upd gsf en (nI s9)))), (g1r, .inl (cs 0, 16, .inl (upd g1f en x))), (g2r, .inl (cs 0, 16, .inl (upd g2f en y))), (gpr, .inl (cs 0, 16, .inl gpf)), (gde, .inl (cs 0, 16, .inl gdf)), (gme, .inl (cs 0, 8, .inl gmf))]) (xV (As := [.int x]) (rest := [.int (nI en), .ref gan]) C (c_X3_lineOf l D cs hgr (en + 1) gs g1r g2r gan gpr gde gme gaf x (by omega)) kX3_47 hP hD [0, 4] rfl (by decide) 0 rfl rfl rfl ⟨Nat.le_of_ble_eq_true rfl, Nat.le_of_ble_eq_true rfl⟩ rfl hl.1 rfl (Nat.le_of_ble_eq_true rfl) dX3_add_48 ⟨Nat.le_of_ble_eq_true rfl, Nat.le_of_ble_eq_true rfl⟩) hP hD hS hA [0, 4] [1, 2, 3, 5, 6, 7] rfl rfl (by decide) (by decide) ?_
  clear hP hD hS
  try clear locs
  try clear H
  intro r_1 u_2 H locs hw_r_1 hP hD hS
  refine W.widen (k := 0) (n := 0) (Nat.le_of_ble_eq_true rfl) (Nat.le_of_ble_eq_true rfl) ?_
  replace hP : va_P D vwCl [(gs, .inl (cs 0, 16, .inl (upd gsf en (nI s9)))), (g1r, .inl (cs 0, 16, .inl (upd g1f en x))), (g2r, .inl (cs 0, 16, .inl (upd g2f en y))), (gpr, .inl (cs 0, 16, .inl gpf)), (gde, .inl (cs 0, 16, .inl gdf)), (gme, .inl (cs 0, 8, .inl gmf)), (hgr, .inr (3, [.int (nI (en + 1)), .ref gs, .ref g1r, .ref g2r, .ref gan, .ref gpr, .ref gde, .ref gme])), (gan, .inl (cs 0, 16, .inl gaf))] H := hP
  replace hD : va_D A [(gs, .inl (cs 0, 16, .inl (upd gsf en (nI s9)))), (g1r, .inl (cs 0, 16, .inl (upd g1f en x))), (g2r, .inl (cs 0, 16, .inl (upd g2f en y))), (gpr, .inl (cs 0, 16, .inl gpf)), (gde, .inl (cs 0, 16, .inl gdf)), (gme, .inl (cs 0, 8, .inl gmf)), (hgr, .inr (3, [.int (nI (en + 1)), .ref gs, .ref g1r, .ref g2r, .ref gan, .ref gpr, .ref gde, .ref gme])), (gan, .inl (cs 0, 16, .inl gaf))] := hD
  refine lv_aload_n hx hb dX3_add_51 rfl (lv_at hl 1 rfl) ?_
  refine lv_iload_n hx hb dX3_add_52 rfl (lv_at hl 4 rfl) ?_
  refine xi (wr := [(gs, .inl (cs 0, 16, .inl (upd gsf en (nI s9)))), (g1r, .inl (cs 0, 16, .inl (upd g1f en x))), (g2r, .inl (cs 0, 16, .inl (upd g2f en y))), (gpr, .inl (cs 0, 16, .inl gpf)), (gde, .inl (cs 0, 16, .inl gdf)), (gme, .inl (cs 0, 8, .inl gmf))]) (xV (As := [.int y]) (rest := [.int r_1, .int (nI en), .ref gan]) C (c_X3_lineOf l D cs hgr (en + 1) gs g1r g2r gan gpr gde gme gaf y (by omega)) kX3_47 hP hD [6, 7] rfl (by decide) 0 rfl rfl rfl ⟨Nat.le_of_ble_eq_true rfl, Nat.le_of_ble_eq_true rfl⟩ rfl hl.1 rfl (Nat.le_of_ble_eq_true rfl) dX3_add_53 ⟨Nat.le_of_ble_eq_true rfl, Nat.le_of_ble_eq_true rfl⟩) hP hD hS hA [6, 7] [0, 1, 2, 3, 4, 5] rfl rfl (by decide) (by decide) ?_
  clear hP hD hS
  try clear locs
  try clear H
  intro r_3 u_4 H locs hw_r_3 hP hD hS
  refine W.widen (k := 0) (n := 0) (Nat.le_of_ble_eq_true rfl) (Nat.le_of_ble_eq_true rfl) ?_
  replace hP : va_P D vwCl [(gs, .inl (cs 0, 16, .inl (upd gsf en (nI s9)))), (g1r, .inl (cs 0, 16, .inl (upd g1f en x))), (g2r, .inl (cs 0, 16, .inl (upd g2f en y))), (gpr, .inl (cs 0, 16, .inl gpf)), (gde, .inl (cs 0, 16, .inl gdf)), (gme, .inl (cs 0, 8, .inl gmf)), (hgr, .inr (3, [.int (nI (en + 1)), .ref gs, .ref g1r, .ref g2r, .ref gan, .ref gpr, .ref gde, .ref gme])), (gan, .inl (cs 0, 16, .inl gaf))] H := hP
  replace hD : va_D A [(gs, .inl (cs 0, 16, .inl (upd gsf en (nI s9)))), (g1r, .inl (cs 0, 16, .inl (upd g1f en x))), (g2r, .inl (cs 0, 16, .inl (upd g2f en y))), (gpr, .inl (cs 0, 16, .inl gpf)), (gde, .inl (cs 0, 16, .inl gdf)), (gme, .inl (cs 0, 8, .inl gmf)), (hgr, .inr (3, [.int (nI (en + 1)), .ref gs, .ref g1r, .ref g2r, .ref gan, .ref gpr, .ref gde, .ref gme])), (gan, .inl (cs 0, 16, .inl gaf))] := hD
  refine lv_ior hx hb dX3_add_56 ?_
  refine xiast C hP hD hS 7 rfl en rfl (by omega) (by decide) dX3_add_57 ?_
  clear hP hD hS
  try clear locs
  try clear H
  intro H locs hP hD hS
  replace hP : va_P D vwCl [(gs, .inl (cs 0, 16, .inl (upd gsf en (nI s9)))), (g1r, .inl (cs 0, 16, .inl (upd g1f en x))), (g2r, .inl (cs 0, 16, .inl (upd g2f en y))), (gpr, .inl (cs 0, 16, .inl gpf)), (gde, .inl (cs 0, 16, .inl gdf)), (gme, .inl (cs 0, 8, .inl gmf)), (hgr, .inr (3, [.int (nI (en + 1)), .ref gs, .ref g1r, .ref g2r, .ref gan, .ref gpr, .ref gde, .ref gme])), (gan, .inl (cs 0, 16, .inl (upd gaf en (r_1 ||| r_3))))] H := hP
  replace hD : va_D A [(gs, .inl (cs 0, 16, .inl (upd gsf en (nI s9)))), (g1r, .inl (cs 0, 16, .inl (upd g1f en x))), (g2r, .inl (cs 0, 16, .inl (upd g2f en y))), (gpr, .inl (cs 0, 16, .inl gpf)), (gde, .inl (cs 0, 16, .inl gdf)), (gme, .inl (cs 0, 8, .inl gmf)), (hgr, .inr (3, [.int (nI (en + 1)), .ref gs, .ref g1r, .ref g2r, .ref gan, .ref gpr, .ref gde, .ref gme])), (gan, .inl (cs 0, 16, .inl (upd gaf en (r_1 ||| r_3))))] := hD
  refine lv_aload_n hx hb dX3_add_58 rfl (lv_at hl 1 rfl) ?_
  refine xget C hP 6 rfl rfl zuX3 5 (by decide) zw1_207 rfl dX3_add_59 ?_
  refine lv_iload hx hb dX3_add_62 (lv_at hl 0 rfl) ?_
  refine lv_iconst (v := nI 0) hx hb dX3_add_64 (by decide) ?_
  refine xiast C hP hD hS 3 rfl en rfl (by omega) (by decide) dX3_add_65 ?_
  clear hP hD hS
  try clear locs
  try clear H
  intro H locs hP hD hS
  replace hP : va_P D vwCl [(gs, .inl (cs 0, 16, .inl (upd gsf en (nI s9)))), (g1r, .inl (cs 0, 16, .inl (upd g1f en x))), (g2r, .inl (cs 0, 16, .inl (upd g2f en y))), (gpr, .inl (cs 0, 16, .inl (upd gpf en (nI 0)))), (gde, .inl (cs 0, 16, .inl gdf)), (gme, .inl (cs 0, 8, .inl gmf)), (hgr, .inr (3, [.int (nI (en + 1)), .ref gs, .ref g1r, .ref g2r, .ref gan, .ref gpr, .ref gde, .ref gme])), (gan, .inl (cs 0, 16, .inl (upd gaf en (r_1 ||| r_3))))] H := hP
  replace hD : va_D A [(gs, .inl (cs 0, 16, .inl (upd gsf en (nI s9)))), (g1r, .inl (cs 0, 16, .inl (upd g1f en x))), (g2r, .inl (cs 0, 16, .inl (upd g2f en y))), (gpr, .inl (cs 0, 16, .inl (upd gpf en (nI 0)))), (gde, .inl (cs 0, 16, .inl gdf)), (gme, .inl (cs 0, 8, .inl gmf)), (hgr, .inr (3, [.int (nI (en + 1)), .ref gs, .ref g1r, .ref g2r, .ref gan, .ref gpr, .ref gde, .ref gme])), (gan, .inl (cs 0, 16, .inl (upd gaf en (r_1 ||| r_3))))] := hD
  refine lv_aload_n hx hb dX3_add_66 rfl (lv_at hl 1 rfl) ?_
  refine xget C hP 6 rfl rfl zuX3 6 (by decide) zw1_210 rfl dX3_add_67 ?_
  refine lv_iload hx hb dX3_add_70 (lv_at hl 0 rfl) ?_
  refine lv_aload_n hx hb dX3_add_72 rfl (lv_at hl 1 rfl) ?_
  refine lv_iload_n hx hb dX3_add_73 rfl (lv_at hl 3 rfl) ?_
  refine xi (wr := [(gs, .inl (cs 0, 16, .inl (upd gsf en (nI s9)))), (g1r, .inl (cs 0, 16, .inl (upd g1f en x))), (g2r, .inl (cs 0, 16, .inl (upd g2f en y))), (gpr, .inl (cs 0, 16, .inl (upd gpf en (nI 0)))), (gme, .inl (cs 0, 8, .inl gmf)), (gan, .inl (cs 0, 16, .inl (upd gaf en (r_1 ||| r_3))))]) (xV (As := [.int x]) (rest := [.int (nI en), .ref gde]) C (c_X3_depthBelow l D cs hgr (en + 1) gs g1r g2r gan gpr gde gme gdf x (by omega)) kX3_51 hP hD [6, 4] rfl (by decide) 0 rfl rfl rfl ⟨Nat.le_of_ble_eq_true rfl, Nat.le_of_ble_eq_true rfl⟩ rfl hl.1 rfl (Nat.le_of_ble_eq_true rfl) dX3_add_74 ⟨Nat.le_of_ble_eq_true rfl, Nat.le_of_ble_eq_true rfl⟩) hP hD hS hA [6, 4] [0, 1, 2, 3, 5, 7] rfl rfl (by decide) (by decide) ?_
  clear hP hD hS
  try clear locs
  try clear H
  intro r_5 u_6 H locs hw_r_5 hP hD hS
  refine W.widen (k := 0) (n := 0) (Nat.le_of_ble_eq_true rfl) (Nat.le_of_ble_eq_true rfl) ?_
  replace hP : va_P D vwCl [(gs, .inl (cs 0, 16, .inl (upd gsf en (nI s9)))), (g1r, .inl (cs 0, 16, .inl (upd g1f en x))), (g2r, .inl (cs 0, 16, .inl (upd g2f en y))), (gpr, .inl (cs 0, 16, .inl (upd gpf en (nI 0)))), (gme, .inl (cs 0, 8, .inl gmf)), (gan, .inl (cs 0, 16, .inl (upd gaf en (r_1 ||| r_3)))), (hgr, .inr (3, [.int (nI (en + 1)), .ref gs, .ref g1r, .ref g2r, .ref gan, .ref gpr, .ref gde, .ref gme])), (gde, .inl (cs 0, 16, .inl gdf))] H := hP
  replace hD : va_D A [(gs, .inl (cs 0, 16, .inl (upd gsf en (nI s9)))), (g1r, .inl (cs 0, 16, .inl (upd g1f en x))), (g2r, .inl (cs 0, 16, .inl (upd g2f en y))), (gpr, .inl (cs 0, 16, .inl (upd gpf en (nI 0)))), (gme, .inl (cs 0, 8, .inl gmf)), (gan, .inl (cs 0, 16, .inl (upd gaf en (r_1 ||| r_3)))), (hgr, .inr (3, [.int (nI (en + 1)), .ref gs, .ref g1r, .ref g2r, .ref gan, .ref gpr, .ref gde, .ref gme])), (gde, .inl (cs 0, 16, .inl gdf))] := hD
  refine lv_aload_n hx hb dX3_add_77 rfl (lv_at hl 1 rfl) ?_
  refine lv_iload_n hx hb dX3_add_78 rfl (lv_at hl 4 rfl) ?_
  refine xi (wr := [(gs, .inl (cs 0, 16, .inl (upd gsf en (nI s9)))), (g1r, .inl (cs 0, 16, .inl (upd g1f en x))), (g2r, .inl (cs 0, 16, .inl (upd g2f en y))), (gpr, .inl (cs 0, 16, .inl (upd gpf en (nI 0)))), (gme, .inl (cs 0, 8, .inl gmf)), (gan, .inl (cs 0, 16, .inl (upd gaf en (r_1 ||| r_3))))]) (xV (As := [.int y]) (rest := [.int r_5, .int (nI en), .ref gde]) C (c_X3_depthBelow l D cs hgr (en + 1) gs g1r g2r gan gpr gde gme gdf y (by omega)) kX3_51 hP hD [6, 7] rfl (by decide) 0 rfl rfl rfl ⟨Nat.le_of_ble_eq_true rfl, Nat.le_of_ble_eq_true rfl⟩ rfl hl.1 rfl (Nat.le_of_ble_eq_true rfl) dX3_add_79 ⟨Nat.le_of_ble_eq_true rfl, Nat.le_of_ble_eq_true rfl⟩) hP hD hS hA [6, 7] [0, 1, 2, 3, 4, 5] rfl rfl (by decide) (by decide) ?_
  clear hP hD hS
  try clear locs
  try clear H
  intro r_7 u_8 H locs hw_r_7 hP hD hS
  refine W.widen (k := 0) (n := 0) (Nat.le_of_ble_eq_true rfl) (Nat.le_of_ble_eq_true rfl) ?_
  replace hP : va_P D vwCl [(gs, .inl (cs 0, 16, .inl (upd gsf en (nI s9)))), (g1r, .inl (cs 0, 16, .inl (upd g1f en x))), (g2r, .inl (cs 0, 16, .inl (upd g2f en y))), (gpr, .inl (cs 0, 16, .inl (upd gpf en (nI 0)))), (gme, .inl (cs 0, 8, .inl gmf)), (gan, .inl (cs 0, 16, .inl (upd gaf en (r_1 ||| r_3)))), (hgr, .inr (3, [.int (nI (en + 1)), .ref gs, .ref g1r, .ref g2r, .ref gan, .ref gpr, .ref gde, .ref gme])), (gde, .inl (cs 0, 16, .inl gdf))] H := hP
  replace hD : va_D A [(gs, .inl (cs 0, 16, .inl (upd gsf en (nI s9)))), (g1r, .inl (cs 0, 16, .inl (upd g1f en x))), (g2r, .inl (cs 0, 16, .inl (upd g2f en y))), (gpr, .inl (cs 0, 16, .inl (upd gpf en (nI 0)))), (gme, .inl (cs 0, 8, .inl gmf)), (gan, .inl (cs 0, 16, .inl (upd gaf en (r_1 ||| r_3)))), (hgr, .inr (3, [.int (nI (en + 1)), .ref gs, .ref g1r, .ref g2r, .ref gan, .ref gpr, .ref gde, .ref gme])), (gde, .inl (cs 0, 16, .inl gdf))] := hD
  refine va_mmax hx hb (C.2.2.1.trans hl.1.symm) hown (hz _ zw4_201) (hz _ zw4_202) (hz _ zw1_3) (hz _ zw4_203) (Nat.le_of_ble_eq_true rfl) (Nat.le_of_ble_eq_true rfl) (Nat.le_of_ble_eq_true rfl) (Nat.le_of_ble_eq_true rfl) dX3_add_82 ?_
  refine xiast C hP hD hS 7 rfl en rfl (by omega) (by decide) dX3_add_85 ?_
  clear hP hD hS
  try clear locs
  try clear H
  intro H locs hP hD hS
  replace hP : va_P D vwCl [(gs, .inl (cs 0, 16, .inl (upd gsf en (nI s9)))), (g1r, .inl (cs 0, 16, .inl (upd g1f en x))), (g2r, .inl (cs 0, 16, .inl (upd g2f en y))), (gpr, .inl (cs 0, 16, .inl (upd gpf en (nI 0)))), (gme, .inl (cs 0, 8, .inl gmf)), (gan, .inl (cs 0, 16, .inl (upd gaf en (r_1 ||| r_3)))), (hgr, .inr (3, [.int (nI (en + 1)), .ref gs, .ref g1r, .ref g2r, .ref gan, .ref gpr, .ref gde, .ref gme])), (gde, .inl (cs 0, 16, .inl (upd gdf en (if r_5 < r_7 then r_7 else r_5))))] H := hP
  replace hD : va_D A [(gs, .inl (cs 0, 16, .inl (upd gsf en (nI s9)))), (g1r, .inl (cs 0, 16, .inl (upd g1f en x))), (g2r, .inl (cs 0, 16, .inl (upd g2f en y))), (gpr, .inl (cs 0, 16, .inl (upd gpf en (nI 0)))), (gme, .inl (cs 0, 8, .inl gmf)), (gan, .inl (cs 0, 16, .inl (upd gaf en (r_1 ||| r_3)))), (hgr, .inr (3, [.int (nI (en + 1)), .ref gs, .ref g1r, .ref g2r, .ref gan, .ref gpr, .ref gde, .ref gme])), (gde, .inl (cs 0, 16, .inl (upd gdf en (if r_5 < r_7 then r_7 else r_5))))] := hD
  refine lv_aload_n hx hb dX3_add_86 rfl (lv_at hl 1 rfl) ?_
  refine xget C hP 6 rfl rfl zuX3 7 (by decide) zw1_212 rfl dX3_add_87 ?_
  refine lv_iload_n hx hb dX3_add_90 rfl (lv_at hl 2 rfl) ?_
  refine lv_dup2_11 hx hb dX3_add_91 rfl rfl ?_
  refine xiald C hP 4 rfl s9 rfl (by omega) (by decide) dX3_add_92 ?_
  refine lv_iconst (v := nI 1) hx hb dX3_add_93 (by decide) ?_
  refine lv_iload hx hb dX3_add_94 (lv_at hl 0 rfl) ?_
  refine lv_ishl hx hb dX3_add_96 ?_
  refine lv_ior hx hb dX3_add_97 ?_
  refine xiast C hP hD hS 4 rfl s9 rfl (by omega) (by decide) dX3_add_98 ?_
  clear hP hD hS
  try clear locs
  try clear H
  intro H locs hP hD hS
  replace hP : va_P D vwCl [(gs, .inl (cs 0, 16, .inl (upd gsf en (nI s9)))), (g1r, .inl (cs 0, 16, .inl (upd g1f en x))), (g2r, .inl (cs 0, 16, .inl (upd g2f en y))), (gpr, .inl (cs 0, 16, .inl (upd gpf en (nI 0)))), (gme, .inl (cs 0, 8, .inl (upd gmf s9 ((gmf s9) ||| ((nI 1) <<< ((nI en) &&& 31)))))), (gan, .inl (cs 0, 16, .inl (upd gaf en (r_1 ||| r_3)))), (hgr, .inr (3, [.int (nI (en + 1)), .ref gs, .ref g1r, .ref g2r, .ref gan, .ref gpr, .ref gde, .ref gme])), (gde, .inl (cs 0, 16, .inl (upd gdf en (if r_5 < r_7 then r_7 else r_5))))] H := hP
  replace hD : va_D A [(gs, .inl (cs 0, 16, .inl (upd gsf en (nI s9)))), (g1r, .inl (cs 0, 16, .inl (upd g1f en x))), (g2r, .inl (cs 0, 16, .inl (upd g2f en y))), (gpr, .inl (cs 0, 16, .inl (upd gpf en (nI 0)))), (gme, .inl (cs 0, 8, .inl (upd gmf s9 ((gmf s9) ||| ((nI 1) <<< ((nI en) &&& 31)))))), (gan, .inl (cs 0, 16, .inl (upd gaf en (r_1 ||| r_3)))), (hgr, .inr (3, [.int (nI (en + 1)), .ref gs, .ref g1r, .ref g2r, .ref gan, .ref gpr, .ref gde, .ref gme])), (gde, .inl (cs 0, 16, .inl (upd gdf en (if r_5 < r_7 then r_7 else r_5))))] := hD
  refine lv_iconst (v := nI 0) hx hb dX3_add_99 (by decide) ?_
  refine lv_istore (lv' := [(5, .int (nI 0)), (4, .int (nI en)), (0, .ref hgr), (1, .int (nI s9)), (2, .int x), (3, .int y)]) hx hb dX3_add_100 hl (by decide) rfl ?_
  clear hl
  try clear ls
  intro ls hl
  have loop_9 : ∀ (n_loop_9 : Nat) (o : Nat) (g9 : Nat → Int32), (o ≤ en) → en - o < n_loop_9 → ∀ (H : Heap) (locs : List Loc) (ls : Array Slot), va_P D vwCl [(gs, .inl (cs 0, 16, .inl (upd gsf en (nI s9)))), (g1r, .inl (cs 0, 16, .inl (upd g1f en x))), (g2r, .inl (cs 0, 16, .inl (upd g2f en y))), (gpr, .inl (cs 0, 16, .inl g9)), (gme, .inl (cs 0, 8, .inl (upd gmf s9 ((gmf s9) ||| ((nI 1) <<< ((nI en) &&& 31)))))), (gan, .inl (cs 0, 16, .inl (upd gaf en (r_1 ||| r_3)))), (hgr, .inr (3, [.int (nI (en + 1)), .ref gs, .ref g1r, .ref g2r, .ref gan, .ref gpr, .ref gde, .ref gme])), (gde, .inl (cs 0, 16, .inl (upd gdf en (if r_5 < r_7 then r_7 else r_5))))] H → va_D A [(gs, .inl (cs 0, 16, .inl (upd gsf en (nI s9)))), (g1r, .inl (cs 0, 16, .inl (upd g1f en x))), (g2r, .inl (cs 0, 16, .inl (upd g2f en y))), (gpr, .inl (cs 0, 16, .inl g9)), (gme, .inl (cs 0, 8, .inl (upd gmf s9 ((gmf s9) ||| ((nI 1) <<< ((nI en) &&& 31)))))), (gan, .inl (cs 0, 16, .inl (upd gaf en (r_1 ||| r_3)))), (hgr, .inr (3, [.int (nI (en + 1)), .ref gs, .ref g1r, .ref g2r, .ref gan, .ref gpr, .ref gde, .ref gme])), (gde, .inl (cs 0, 16, .inl (upd gdf en (if r_5 < r_7 then r_7 else r_5))))] → va_S A s.heap H locs → lv_has ls 6 [(5, .int (nI o)), (4, .int (nI en)), (0, .ref hgr), (1, .int (nI s9)), (2, .int x), (3, .int y)] → W p l e ({ frames := 2, cells := 0, slots := 0, locals := 42 } : Room) s m args below meth c H locs 0 0 (MQ below ((xQi D (fun (r : Int32) (u : (Nat → Int32) × (Nat → Int32) × (Nat → Int32) × (Nat → Int32) × (Nat → Int32) × (Nat → Int32) × (Nat → Int32)) => match u with | (gz, g1z, g2z, gaz, gpz, gdz, gmz) => r = nI en ∧ inP 16 8 gz) (fun (u : (Nat → Int32) × (Nat → Int32) × (Nat → Int32) × (Nat → Int32) × (Nat → Int32) × (Nat → Int32) × (Nat → Int32)) => match u with | (gz, g1z, g2z, gaz, gpz, gdz, gmz) => [(hgr, .inr (3, [.int (nI (en + 1)), .ref gs, .ref g1r, .ref g2r, .ref gan, .ref gpr, .ref gde, .ref gme])), (gs, .inl (cs 0, 16, .inl gz)), (g1r, .inl (cs 0, 16, .inl g1z)), (g2r, .inl (cs 0, 16, .inl g2z)), (gan, .inl (cs 0, 16, .inl gaz)), (gpr, .inl (cs 0, 16, .inl gpz)), (gde, .inl (cs 0, 16, .inl gdz)), (gme, .inl (cs 0, 8, .inl gmz))])) A) args s 0 0 A) (F0 m 102 ls []) := by
    intro n_loop_9
    induction n_loop_9 with
    | zero => intro o g9 h_o hlt H locs ls hP hD hS hl; exact absurd hlt (Nat.not_lt_zero _)
    | succ n_loop_9 ih_loop_9 =>
      intro o g9 h_o hlt_loop_9 H locs ls hP hD hS hl
      refine lv_iload hx hb dX3_add_102 (lv_at hl 0 rfl) ?_
      refine lv_iload hx hb dX3_add_104 (lv_at hl 1 rfl) ?_
      refine lv_icmp_ge (tgt := 140) hx hb dX3_add_106 (by decide) (fun c_10 => ?_) (fun c_10 => ?_)
      · -- 106 t
        have fc_10 : en ≤ o := nf_le (by omega) (by omega) c_10
        refine lv_iload hx hb dX3_add_140 (lv_at hl 1 rfl) ?_
        exact xreti C (⟨(upd gsf en (nI s9)), (upd g1f en x), (upd g2f en y), (upd gaf en (r_1 ||| r_3)), g9, (upd gdf en (if r_5 < r_7 then r_7 else r_5)), (upd gmf s9 ((gmf s9) ||| ((nI 1) <<< ((nI en) &&& 31))))⟩) (⟨rfl, inP_up hgs _ _ hs⟩) (xP_map hP [6, 0, 1, 2, 5, 3, 7, 4] rfl) (hD.sub [6, 0, 1, 2, 5, 3, 7, 4] (by decide) rfl) hS (Nat.le_of_ble_eq_true rfl) (Nat.le_of_ble_eq_true rfl) rfl dX3_add_142
      · -- 106 f
        have fc_10 : o < en := nf_nle (by omega) (by omega) c_10
        refine lv_aload_n hx hb dX3_add_109 rfl (lv_at hl 2 rfl) ?_
        refine xget C hP 6 rfl rfl zuX3 5 (by decide) zw1_207 rfl dX3_add_110 ?_
        refine lv_iload hx hb dX3_add_113 (lv_at hl 0 rfl) ?_
        refine lv_dup2_11 hx hb dX3_add_115 rfl rfl ?_
        refine xiald C hP 3 rfl o rfl (by omega) (by decide) dX3_add_116 ?_
        refine lv_aload_n hx hb dX3_add_117 rfl (lv_at hl 2 rfl) ?_
        refine xget C hP 6 rfl rfl zuX3 4 (by decide) zw1_205 rfl dX3_add_118 ?_
        refine lv_iload hx hb dX3_add_121 (lv_at hl 1 rfl) ?_
        refine xiald C hP 5 rfl en rfl (by omega) (by decide) dX3_add_123 ?_
        refine lv_iload hx hb dX3_add_124 (lv_at hl 0 rfl) ?_
        refine lv_ishr hx hb dX3_add_126 ?_
        refine lv_iconst (v := nI 1) hx hb dX3_add_127 (by decide) ?_
        refine lv_iand hx hb dX3_add_128 ?_
        refine lv_iload hx hb dX3_add_129 (lv_at hl 1 rfl) ?_
        refine lv_ishl hx hb dX3_add_131 ?_
        refine lv_ior hx hb dX3_add_132 ?_
        refine xiast C hP hD hS 3 rfl o rfl (by omega) (by decide) dX3_add_133 ?_
        clear hP hD hS
        try clear locs
        try clear H
        intro H locs hP hD hS
        replace hP : va_P D vwCl [(gs, .inl (cs 0, 16, .inl (upd gsf en (nI s9)))), (g1r, .inl (cs 0, 16, .inl (upd g1f en x))), (g2r, .inl (cs 0, 16, .inl (upd g2f en y))), (gpr, .inl (cs 0, 16, .inl (upd g9 o ((g9 o) ||| (((((upd gaf en (r_1 ||| r_3)) en) >>> ((nI o) &&& 31)) &&& (nI 1)) <<< ((nI en) &&& 31)))))), (gme, .inl (cs 0, 8, .inl (upd gmf s9 ((gmf s9) ||| ((nI 1) <<< ((nI en) &&& 31)))))), (gan, .inl (cs 0, 16, .inl (upd gaf en (r_1 ||| r_3)))), (hgr, .inr (3, [.int (nI (en + 1)), .ref gs, .ref g1r, .ref g2r, .ref gan, .ref gpr, .ref gde, .ref gme])), (gde, .inl (cs 0, 16, .inl (upd gdf en (if r_5 < r_7 then r_7 else r_5))))] H := hP
        replace hD : va_D A [(gs, .inl (cs 0, 16, .inl (upd gsf en (nI s9)))), (g1r, .inl (cs 0, 16, .inl (upd g1f en x))), (g2r, .inl (cs 0, 16, .inl (upd g2f en y))), (gpr, .inl (cs 0, 16, .inl (upd g9 o ((g9 o) ||| (((((upd gaf en (r_1 ||| r_3)) en) >>> ((nI o) &&& 31)) &&& (nI 1)) <<< ((nI en) &&& 31)))))), (gme, .inl (cs 0, 8, .inl (upd gmf s9 ((gmf s9) ||| ((nI 1) <<< ((nI en) &&& 31)))))), (gan, .inl (cs 0, 16, .inl (upd gaf en (r_1 ||| r_3)))), (hgr, .inr (3, [.int (nI (en + 1)), .ref gs, .ref g1r, .ref g2r, .ref gan, .ref gpr, .ref gde, .ref gme])), (gde, .inl (cs 0, 16, .inl (upd gdf en (if r_5 < r_7 then r_7 else r_5))))] := hD
        refine lv_iinc (v := nI (o + 1)) (lv' := [(5, .int (nI (o + 1))), (4, .int (nI en)), (0, .ref hgr), (1, .int (nI s9)), (2, .int x), (3, .int y)]) hx hb dX3_add_134 hl (k := 0) rfl (nI_add o 1) (by decide) rfl ?_
        clear hl
        try clear ls
        intro ls hl
        refine lv_goto (tgt := 102) hx hb dX3_add_137 (by decide) ?_
        exact ih_loop_9 (o + 1) (upd g9 o ((g9 o) ||| (((((upd gaf en (r_1 ||| r_3)) en) >>> ((nI o) &&& 31)) &&& (nI 1)) <<< ((nI en) &&& 31)))) (by omega) (by omega) H locs ls hP hD hS (lv_sub hl [0, 1, 2, 3, 4, 5] rfl)
  exact loop_9 _ 0 (upd gpf en (nI 0)) (by omega) (Nat.lt_succ_self _) H locs ls hP hD hS (lv_sub hl [0, 1, 2, 3, 4, 5] rfl)
