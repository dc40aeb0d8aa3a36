set_option maxHeartbeats 4000000 in
set_option maxRecDepth 100000 in
theorem c_X3_init_z (l : Launch) (D : va_G) (cs : Nat → ClassId) (hgr : Nat) : xMet l D cs yX3_init cX3_init 1 none ({ frames := 1, cells := 7, slots := 104, locals := 20 } : Room) [.ref hgr] [(hgr, .inr (3, [.int 0, .null, .null, .null, .null, .null, .null, .null]))] (xQv D (fun (u : Nat × Nat × Nat × Nat × Nat × Nat × Nat) => match u with | (gs, g1r, g2r, gan, gpr, gde, gme) => True) (fun (u : Nat × Nat × Nat × Nat × Nat × Nat × Nat) => match u with | (gs, g1r, g2r, gan, gpr, gde, gme) => [(hgr, .inr (3, [.int (nI 0), .ref gs, .ref g1r, .ref g2r, .ref gan, .ref gpr, .ref gde, .ref gme])), (gs, .inl (cs 0, 16, .inl (fun _ => nI 0))), (g1r, .inl (cs 0, 16, .inl (fun _ => nI 0))), (g2r, .inl (cs 0, 16, .inl (fun _ => nI 0))), (gan, .inl (cs 0, 16, .inl (fun _ => nI 0))), (gpr, .inl (cs 0, 16, .inl (fun _ => nI 0))), (gde, .inl (cs 0, 16, .inl (fun _ => nI 0))), (gme, .inl (cs 0, 8, .inl (fun _ => nI 0)))])) := by
  refine xMet.intro (by decide) (Nat.le_of_ble_eq_true rfl) ?_
  intro p e s m args below meth c A ls C hP hD hS hl
  have hx := C.1
  have hb := C.2.1
  have hz := C.2.2.2.2.1
  have hown := C.2.2.2.1
  have hA := C.2.2.2.2.2.2.2.2.2
  have hAO := C.2.2.2.2.2.2.2.2.1.2.2
  have hl : lv_has ls 1 [(0, .ref hgr)] := hl
  obtain ⟨H, hH⟩ : ∃ H, H = s.heap := ⟨_, rfl⟩
  have hP : va_P D vwCl [(hgr, .inr (3, [.int 0, .null, .null, .null, .null, .null, .null, .null]))] H := by rw [hH]; exact hP
  have hS : va_S A s.heap H [] := by rw [hH]; exact hS
  obtain ⟨locs, hlocs⟩ : ∃ z : List Loc, z = [] := ⟨_, rfl⟩
  rw [← hlocs] at hS
  suffices hW : W p l e ({ frames := 1, cells := 7, slots := 104, locals := 20 } : Room) s m args below meth c H locs 0 0 (MQ below ((xQv D (fun (u : Nat × Nat × Nat × Nat × Nat × Nat × Nat) => match u with | (gs, g1r, g2r, gan, gpr, gde, gme) => True) (fun (u : Nat × Nat × Nat × Nat × Nat × Nat × Nat) => match u with | (gs, g1r, g2r, gan, gpr, gde, gme) => [(hgr, .inr (3, [.int (nI 0), .ref gs, .ref g1r, .ref g2r, .ref gan, .ref gpr, .ref gde, .ref gme])), (gs, .inl (cs 0, 16, .inl (fun _ => nI 0))), (g1r, .inl (cs 0, 16, .inl (fun _ => nI 0))), (g2r, .inl (cs 0, 16, .inl (fun _ => nI 0))), (gan, .inl (cs 0, 16, .inl (fun _ => nI 0))), (gpr, .inl (cs 0, 16, .inl (fun _ => nI 0))), (gde, .inl (cs 0, 16, .inl (fun _ => nI 0))), (gme, .inl (cs 0, 8, .inl (fun _ => nI 0)))])) A) args s 7 104 A) (F0 m 0 ls []) by rw [hlocs, hH] at hW; exact hW
  refine lv_aload_n hx hb dX3_init_0 rfl (lv_at hl 0 rfl) ?_
  refine W.objInit hx hb hown (hz _ zw1_194) (hz _ zw1_30) (hz _ zw1_31) rfl (by rw [C.2.2.1]; exact hl.1) rfl dX3_init_1 (Nat.le_of_ble_eq_true rfl) (Nat.le_of_ble_eq_true rfl) ?_
  refine W.eq (g2 := F0 m 4 ls []) rfl ?_
  refine lv_aload_n hx hb dX3_init_4 rfl (lv_at hl 0 rfl) ?_
  refine lv_bipush (v := nI 16) hx hb dX3_init_5 (by decide) ?_
  refine xnewi (n := 16) C hP hD hS zw1_126 rfl (by decide) (Nat.le_of_ble_eq_true rfl) (Nat.le_of_ble_eq_true rfl) dX3_init_7 (fun q_1 H hP hD hS => ?_)
  refine W.widen (k := 1) (n := 16) (Nat.le_of_ble_eq_true rfl) (Nat.le_of_ble_eq_true rfl) ?_
  have hP : va_P D vwCl [(hgr, .inr (3, [.int 0, .null, .null, .null, .null, .null, .null, .null])), (q_1, .inl (cs 0, 16, .inl (fun _ => 0)))] H := hP
  have hD : va_D A [(hgr, .inr (3, [.int 0, .null, .null, .null, .null, .null, .null, .null])), (q_1, .inl (cs 0, 16, .inl (fun _ => 0)))] := hD
  refine xputF C hP hD hS 0 rfl rfl zuX3 tyX3 tyX3_ok nmX3 1 (by decide) zw1_198 rfl rfl rfl rfl rfl (Nat.le_of_ble_eq_true rfl) dX3_init_9 (fun H locs hP hD hS => ?_)
  have hP : va_P D vwCl [(hgr, .inr (3, [.int 0, .ref q_1, .null, .null, .null, .null, .null, .null])), (q_1, .inl (cs 0, 16, .inl (fun _ => 0)))] H := hP
  have hD : va_D A [(hgr, .inr (3, [.int 0, .ref q_1, .null, .null, .null, .null, .null, .null])), (q_1, .inl (cs 0, 16, .inl (fun _ => 0)))] := hD
  refine lv_aload_n hx hb dX3_init_12 rfl (lv_at hl 0 rfl) ?_
  refine lv_bipush (v := nI 16) hx hb dX3_init_13 (by decide) ?_
  refine xnewi (n := 16) C hP hD hS zw1_126 rfl (by decide) (Nat.le_of_ble_eq_true rfl) (Nat.le_of_ble_eq_true rfl) dX3_init_15 (fun q_2 H hP hD hS => ?_)
  refine W.widen (k := 2) (n := 32) (Nat.le_of_ble_eq_true rfl) (Nat.le_of_ble_eq_true rfl) ?_
  have hP : va_P D vwCl [(hgr, .inr (3, [.int 0, .ref q_1, .null, .null, .null, .null, .null, .null])), (q_1, .inl (cs 0, 16, .inl (fun _ => 0))), (q_2, .inl (cs 0, 16, .inl (fun _ => 0)))] H := hP
  have hD : va_D A [(hgr, .inr (3, [.int 0, .ref q_1, .null, .null, .null, .null, .null, .null])), (q_1, .inl (cs 0, 16, .inl (fun _ => 0))), (q_2, .inl (cs 0, 16, .inl (fun _ => 0)))] := hD
  refine xputF C hP hD hS 0 rfl rfl zuX3 tyX3 tyX3_ok nmX3 2 (by decide) zw1_201 rfl rfl rfl rfl rfl (Nat.le_of_ble_eq_true rfl) dX3_init_17 (fun H locs hP hD hS => ?_)
  have hP : va_P D vwCl [(hgr, .inr (3, [.int 0, .ref q_1, .ref q_2, .null, .null, .null, .null, .null])), (q_1, .inl (cs 0, 16, .inl (fun _ => 0))), (q_2, .inl (cs 0, 16, .inl (fun _ => 0)))] H := hP
  have hD : va_D A [(hgr, .inr (3, [.int 0, .ref q_1, .ref q_2, .null, .null, .null, .null, .null])), (q_1, .inl (cs 0, 16, .inl (fun _ => 0))), (q_2, .inl (cs 0, 16, .inl (fun _ => 0)))] := hD
  refine lv_aload_n hx hb dX3_init_20 rfl (lv_at hl 0 rfl) ?_
  refine lv_bipush (v := nI 16) hx hb dX3_init_21 (by decide) ?_
  refine xnewi (n := 16) C hP hD hS zw1_126 rfl (by decide) (Nat.le_of_ble_eq_true rfl) (Nat.le_of_ble_eq_true rfl) dX3_init_23 (fun q_3 H hP hD hS => ?_)
  refine W.widen (k := 3) (n := 48) (Nat.le_of_ble_eq_true rfl) (Nat.le_of_ble_eq_true rfl) ?_
  have hP : va_P D vwCl [(hgr, .inr (3, [.int 0, .ref q_1, .ref q_2, .null, .null, .null, .null, .null])), (q_1, .inl (cs 0, 16, .inl (fun _ => 0))), (q_2, .inl (cs 0, 16, .inl (fun _ => 0))), (q_3, .inl (cs 0, 16, .inl (fun _ => 0)))] H := hP
  have hD : va_D A [(hgr, .inr (3, [.int 0, .ref q_1, .ref q_2, .null, .null, .null, .null, .null])), (q_1, .inl (cs 0, 16, .inl (fun _ => 0))), (q_2, .inl (cs 0, 16, .inl (fun _ => 0))), (q_3, .inl (cs 0, 16, .inl (fun _ => 0)))] := hD
  refine xputF C hP hD hS 0 rfl rfl zuX3 tyX3 tyX3_ok nmX3 3 (by decide) zw1_203 rfl rfl rfl rfl rfl (Nat.le_of_ble_eq_true rfl) dX3_init_25 (fun H locs hP hD hS => ?_)
  have hP : va_P D vwCl [(hgr, .inr (3, [.int 0, .ref q_1, .ref q_2, .ref q_3, .null, .null, .null, .null])), (q_1, .inl (cs 0, 16, .inl (fun _ => 0))), (q_2, .inl (cs 0, 16, .inl (fun _ => 0))), (q_3, .inl (cs 0, 16, .inl (fun _ => 0)))] H := hP
  have hD : va_D A [(hgr, .inr (3, [.int 0, .ref q_1, .ref q_2, .ref q_3, .null, .null, .null, .null])), (q_1, .inl (cs 0, 16, .inl (fun _ => 0))), (q_2, .inl (cs 0, 16, .inl (fun _ => 0))), (q_3, .inl (cs 0, 16, .inl (fun _ => 0)))] := hD
  refine lv_aload_n hx hb dX3_init_28 rfl (lv_at hl 0 rfl) ?_
  refine lv_bipush (v := nI 16) hx hb dX3_init_29 (by decide) ?_
  refine xnewi (n := 16) C hP hD hS zw1_126 rfl (by decide) (Nat.le_of_ble_eq_true rfl) (Nat.le_of_ble_eq_true rfl) dX3_init_31 (fun q_4 H hP hD hS => ?_)
  refine W.widen (k := 4) (n := 64) (Nat.le_of_ble_eq_true rfl) (Nat.le_of_ble_eq_true rfl) ?_
  have hP : va_P D vwCl [(hgr, .inr (3, [.int 0, .ref q_1, .ref q_2, .ref q_3, .null, .null, .null, .null])), (q_1, .inl (cs 0, 16, .inl (fun _ => 0))), (q_2, .inl (cs 0, 16, .inl (fun _ => 0))), (q_3, .inl (cs 0, 16, .inl (fun _ => 0))), (q_4, .inl (cs 0, 16, .inl (fun _ => 0)))] H := hP
  have hD : va_D A [(hgr, .inr (3, [.int 0, .ref q_1, .ref q_2, .ref q_3, .null, .null, .null, .null])), (q_1, .inl (cs 0, 16, .inl (fun _ => 0))), (q_2, .inl (cs 0, 16, .inl (fun _ => 0))), (q_3, .inl (cs 0, 16, .inl (fun _ => 0))), (q_4, .inl (cs 0, 16, .inl (fun _ => 0)))] := hD
  refine xputF C hP hD hS 0 rfl rfl zuX3 tyX3 tyX3_ok nmX3 4 (by decide) zw1_205 rfl rfl rfl rfl rfl (Nat.le_of_ble_eq_true rfl) dX3_init_33 (fun H locs hP hD hS => ?_)
  have hP : va_P D vwCl [(hgr, .inr (3, [.int 0, .ref q_1, .ref q_2, .ref q_3, .ref q_4, .null, .null, .null])), (q_1, .inl (cs 0, 16, .inl (fun _ => 0))), (q_2, .inl (cs 0, 16, .inl (fun _ => 0))), (q_3, .inl (cs 0, 16, .inl (fun _ => 0))), (q_4, .inl (cs 0, 16, .inl (fun _ => 0)))] H := hP
  have hD : va_D A [(hgr, .inr (3, [.int 0, .ref q_1, .ref q_2, .ref q_3, .ref q_4, .null, .null, .null])), (q_1, .inl (cs 0, 16, .inl (fun _ => 0))), (q_2, .inl (cs 0, 16, .inl (fun _ => 0))), (q_3, .inl (cs 0, 16, .inl (fun _ => 0))), (q_4, .inl (cs 0, 16, .inl (fun _ => 0)))] := hD
  refine lv_aload_n hx hb dX3_init_36 rfl (lv_at hl 0 rfl) ?_
  refine lv_bipush (v := nI 16) hx hb dX3_init_37 (by decide) ?_
  refine xnewi (n := 16) C hP hD hS zw1_126 rfl (by decide) (Nat.le_of_ble_eq_true rfl) (Nat.le_of_ble_eq_true rfl) dX3_init_39 (fun q_5 H hP hD hS => ?_)
  refine W.widen (k := 5) (n := 80) (Nat.le_of_ble_eq_true rfl) (Nat.le_of_ble_eq_true rfl) ?_
  have hP : va_P D vwCl [(hgr, .inr (3, [.int 0, .ref q_1, .ref q_2, .ref q_3, .ref q_4, .null, .null, .null])), (q_1, .inl (cs 0, 16, .inl (fun _ => 0))), (q_2, .inl (cs 0, 16, .inl (fun _ => 0))), (q_3, .inl (cs 0, 16, .inl (fun _ => 0))), (q_4, .inl (cs 0, 16, .inl (fun _ => 0))), (q_5, .inl (cs 0, 16, .inl (fun _ => 0)))] H := hP
  have hD : va_D A [(hgr, .inr (3, [.int 0, .ref q_1, .ref q_2, .ref q_3, .ref q_4, .null, .null, .null])), (q_1, .inl (cs 0, 16, .inl (fun _ => 0))), (q_2, .inl (cs 0, 16, .inl (fun _ => 0))), (q_3, .inl (cs 0, 16, .inl (fun _ => 0))), (q_4, .inl (cs 0, 16, .inl (fun _ => 0))), (q_5, .inl (cs 0, 16, .inl (fun _ => 0)))] := hD
  refine xputF C hP hD hS 0 rfl rfl zuX3 tyX3 tyX3_ok nmX3 5 (by decide) zw1_207 rfl rfl rfl rfl rfl (Nat.le_of_ble_eq_true rfl) dX3_init_41 (fun H locs hP hD hS => ?_)
  have hP : va_P D vwCl [(hgr, .inr (3, [.int 0, .ref q_1, .ref q_2, .ref q_3, .ref q_4, .ref q_5, .null, .null])), (q_1, .inl (cs 0, 16, .inl (fun _ => 0))), (q_2, .inl (cs 0, 16, .inl (fun _ => 0))), (q_3, .inl (cs 0, 16, .inl (fun _ => 0))), (q_4, .inl (cs 0, 16, .inl (fun _ => 0))), (q_5, .inl (cs 0, 16, .inl (fun _ => 0)))] H := hP
  have hD : va_D A [(hgr, .inr (3, [.int 0, .ref q_1, .ref q_2, .ref q_3, .ref q_4, .ref q_5, .null, .null])), (q_1, .inl (cs 0, 16, .inl (fun _ => 0))), (q_2, .inl (cs 0, 16, .inl (fun _ => 0))), (q_3, .inl (cs 0, 16, .inl (fun _ => 0))), (q_4, .inl (cs 0, 16, .inl (fun _ => 0))), (q_5, .inl (cs 0, 16, .inl (fun _ => 0)))] := hD
  refine lv_aload_n hx hb dX3_init_44 rfl (lv_at hl 0 rfl) ?_
  refine lv_bipush (v := nI 16) hx hb dX3_init_45 (by decide) ?_
  refine xnewi (n := 16) C hP hD hS zw1_126 rfl (by decide) (Nat.le_of_ble_eq_true rfl) (Nat.le_of_ble_eq_true rfl) dX3_init_47 (fun q_6 H hP hD hS => ?_)
  refine W.widen (k := 6) (n := 96) (Nat.le_of_ble_eq_true rfl) (Nat.le_of_ble_eq_true rfl) ?_
  have hP : va_P D vwCl [(hgr, .inr (3, [.int 0, .ref q_1, .ref q_2, .ref q_3, .ref q_4, .ref q_5, .null, .null])), (q_1, .inl (cs 0, 16, .inl (fun _ => 0))), (q_2, .inl (cs 0, 16, .inl (fun _ => 0))), (q_3, .inl (cs 0, 16, .inl (fun _ => 0))), (q_4, .inl (cs 0, 16, .inl (fun _ => 0))), (q_5, .inl (cs 0, 16, .inl (fun _ => 0))), (q_6, .inl (cs 0, 16, .inl (fun _ => 0)))] H := hP
  have hD : va_D A [(hgr, .inr (3, [.int 0, .ref q_1, .ref q_2, .ref q_3, .ref q_4, .ref q_5, .null, .null])), (q_1, .inl (cs 0, 16, .inl (fun _ => 0))), (q_2, .inl (cs 0, 16, .inl (fun _ => 0))), (q_3, .inl (cs 0, 16, .inl (fun _ => 0))), (q_4, .inl (cs 0, 16, .inl (fun _ => 0))), (q_5, .inl (cs 0, 16, .inl (fun _ => 0))), (q_6, .inl (cs 0, 16, .inl (fun _ => 0)))] := hD
  refine xputF C hP hD hS 0 rfl rfl zuX3 tyX3 tyX3_ok nmX3 6 (by decide) zw1_210 rfl rfl rfl rfl rfl (Nat.le_of_ble_eq_true rfl) dX3_init_49 (fun H locs hP hD hS => ?_)
  have hP : va_P D vwCl [(hgr, .inr (3, [.int 0, .ref q_1, .ref q_2, .ref q_3, .ref q_4, .ref q_5, .ref q_6, .null])), (q_1, .inl (cs 0, 16, .inl (fun _ => 0))), (q_2, .inl (cs 0, 16, .inl (fun _ => 0))), (q_3, .inl (cs 0, 16, .inl (fun _ => 0))), (q_4, .inl (cs 0, 16, .inl (fun _ => 0))), (q_5, .inl (cs 0, 16, .inl (fun _ => 0))), (q_6, .inl (cs 0, 16, .inl (fun _ => 0)))] H := hP
  have hD : va_D A [(hgr, .inr (3, [.int 0, .ref q_1, .ref q_2, .ref q_3, .ref q_4, .ref q_5, .ref q_6, .null])), (q_1, .inl (cs 0, 16, .inl (fun _ => 0))), (q_2, .inl (cs 0, 16, .inl (fun _ => 0))), (q_3, .inl (cs 0, 16, .inl (fun _ => 0))), (q_4, .inl (cs 0, 16, .inl (fun _ => 0))), (q_5, .inl (cs 0, 16, .inl (fun _ => 0))), (q_6, .inl (cs 0, 16, .inl (fun _ => 0)))] := hD
  refine lv_aload_n hx hb dX3_init_52 rfl (lv_at hl 0 rfl) ?_
  refine lv_bipush (v := nI 8) hx hb dX3_init_53 (by decide) ?_
  refine xnewi (n := 8) C hP hD hS zw1_126 rfl (by decide) (Nat.le_of_ble_eq_true rfl) (Nat.le_of_ble_eq_true rfl) dX3_init_55 (fun q_7 H hP hD hS => ?_)
  refine W.widen (k := 7) (n := 104) (Nat.le_of_ble_eq_true rfl) (Nat.le_of_ble_eq_true rfl) ?_
  have hP : va_P D vwCl [(hgr, .inr (3, [.int 0, .ref q_1, .ref q_2, .ref q_3, .ref q_4, .ref q_5, .ref q_6, .null])), (q_1, .inl (cs 0, 16, .inl (fun _ => 0))), (q_2, .inl (cs 0, 16, .inl (fun _ => 0))), (q_3, .inl (cs 0, 16, .inl (fun _ => 0))), (q_4, .inl (cs 0, 16, .inl (fun _ => 0))), (q_5, .inl (cs 0, 16, .inl (fun _ => 0))), (q_6, .inl (cs 0, 16, .inl (fun _ => 0))), (q_7, .inl (cs 0, 8, .inl (fun _ => 0)))] H := hP
  have hD : va_D A [(hgr, .inr (3, [.int 0, .ref q_1, .ref q_2, .ref q_3, .ref q_4, .ref q_5, .ref q_6, .null])), (q_1, .inl (cs 0, 16, .inl (fun _ => 0))), (q_2, .inl (cs 0, 16, .inl (fun _ => 0))), (q_3, .inl (cs 0, 16, .inl (fun _ => 0))), (q_4, .inl (cs 0, 16, .inl (fun _ => 0))), (q_5, .inl (cs 0, 16, .inl (fun _ => 0))), (q_6, .inl (cs 0, 16, .inl (fun _ => 0))), (q_7, .inl (cs 0, 8, .inl (fun _ => 0)))] := hD
  refine xputF C hP hD hS 0 rfl rfl zuX3 tyX3 tyX3_ok nmX3 7 (by decide) zw1_212 rfl rfl rfl rfl rfl (Nat.le_of_ble_eq_true rfl) dX3_init_57 (fun H locs hP hD hS => ?_)
  have hP : va_P D vwCl [(hgr, .inr (3, [.int 0, .ref q_1, .ref q_2, .ref q_3, .ref q_4, .ref q_5, .ref q_6, .ref q_7])), (q_1, .inl (cs 0, 16, .inl (fun _ => 0))), (q_2, .inl (cs 0, 16, .inl (fun _ => 0))), (q_3, .inl (cs 0, 16, .inl (fun _ => 0))), (q_4, .inl (cs 0, 16, .inl (fun _ => 0))), (q_5, .inl (cs 0, 16, .inl (fun _ => 0))), (q_6, .inl (cs 0, 16, .inl (fun _ => 0))), (q_7, .inl (cs 0, 8, .inl (fun _ => 0)))] H := hP
  have hD : va_D A [(hgr, .inr (3, [.int 0, .ref q_1, .ref q_2, .ref q_3, .ref q_4, .ref q_5, .ref q_6, .ref q_7])), (q_1, .inl (cs 0, 16, .inl (fun _ => 0))), (q_2, .inl (cs 0, 16, .inl (fun _ => 0))), (q_3, .inl (cs 0, 16, .inl (fun _ => 0))), (q_4, .inl (cs 0, 16, .inl (fun _ => 0))), (q_5, .inl (cs 0, 16, .inl (fun _ => 0))), (q_6, .inl (cs 0, 16, .inl (fun _ => 0))), (q_7, .inl (cs 0, 8, .inl (fun _ => 0)))] := hD
  exact xretv C (⟨q_1, q_2, q_3, q_4, q_5, q_6, q_7⟩) trivial hP hD hS (Nat.le_of_ble_eq_true rfl) (Nat.le_of_ble_eq_true rfl) dX3_init_60

set_option maxHeartbeats 4000000 in
set_option maxRecDepth 100000 in
theorem c_X3_clear_z (l : Launch) (D : va_G) (cs : Nat → ClassId) (hgr gs g1r g2r gan gpr gde gme : Nat) : xMet l D cs yX3_clear cX3_clear 1 none ({ frames := 1, cells := 0, slots := 0, locals := 23 } : Room) [.ref hgr] [(hgr, .inr (3, [.int (nI 0), .ref gs, .ref g1r, .ref g2r, .ref gan, .ref gpr, .ref gde, .ref gme])), (gme, .inl (cs 0, 8, .inl (fun _ => nI 0)))] (xQv D (fun (_u : Unit) => True) (fun (_u : Unit) => [(hgr, .inr (3, [.int (nI 0), .ref gs, .ref g1r, .ref g2r, .ref gan, .ref gpr, .ref gde, .ref gme])), (gme, .inl (cs 0, 8, .inl (fun _ => nI 0)))])) := by
  refine xMet.intro (by decide) (Nat.le_of_ble_eq_true rfl) ?_
  intro p e s m args below meth c A ls C hP hD hS hl
  have hx := C.1
  have hb := C.2.1
  have hz := C.2.2.2.2.1
  have hown := C.2.2.2.1
  have hA := C.2.2.2.2.2.2.2.2.2
  have hAO := C.2.2.2.2.2.2.2.2.1.2.2
  have hl : lv_has ls 1 [(0, .ref hgr)] := hl
  obtain ⟨H, hH⟩ : ∃ H, H = s.heap := ⟨_, rfl⟩
  have hP : va_P D vwCl [(hgr, .inr (3, [.int (nI 0), .ref gs, .ref g1r, .ref g2r, .ref gan, .ref gpr, .ref gde, .ref gme])), (gme, .inl (cs 0, 8, .inl (fun _ => nI 0)))] H := by rw [hH]; exact hP
  have hS : va_S A s.heap H [] := by rw [hH]; exact hS
  obtain ⟨locs, hlocs⟩ : ∃ z : List Loc, z = [] := ⟨_, rfl⟩
  rw [← hlocs] at hS
  suffices hW : W p l e ({ frames := 1, cells := 0, slots := 0, locals := 23 } : Room) s m args below meth c H locs 0 0 (MQ below ((xQv D (fun (_u : Unit) => True) (fun (_u : Unit) => [(hgr, .inr (3, [.int (nI 0), .ref gs, .ref g1r, .ref g2r, .ref gan, .ref gpr, .ref gde, .ref gme])), (gme, .inl (cs 0, 8, .inl (fun _ => nI 0)))])) A) args s 0 0 A) (F0 m 0 ls []) by rw [hlocs, hH] at hW; exact hW
  refine lv_aload_n hx hb dX3_clear_0 rfl (lv_at hl 0 rfl) ?_
  refine lv_iconst (v := nI 0) hx hb dX3_clear_1 (by decide) ?_
  refine xput C hP hD hS 0 rfl rfl zuX3 tyX3 tyX3_ok nmX3 0 (by decide) zw1_195 rfl rfl rfl (Nat.le_of_ble_eq_true rfl) dX3_clear_2 (fun H locs hP hD hS => ?_)
  have hP : va_P D vwCl [(hgr, .inr (3, [.int (nI 0), .ref gs, .ref g1r, .ref g2r, .ref gan, .ref gpr, .ref gde, .ref gme])), (gme, .inl (cs 0, 8, .inl (fun _ => nI 0)))] H := hP
  have hD : va_D A [(hgr, .inr (3, [.int (nI 0), .ref gs, .ref g1r, .ref g2r, .ref gan, .ref gpr, .ref gde, .ref gme])), (gme, .inl (cs 0, 8, .inl (fun _ => nI 0)))] := hD
  refine lv_aload_n hx hb dX3_clear_5 rfl (lv_at hl 0 rfl) ?_
  refine xget C hP 0 rfl rfl zuX3 7 (by decide) zw1_212 rfl dX3_clear_6 ?_
  refine lv_iconst (v := nI 0) hx hb dX3_clear_9 (by decide) ?_
  refine xv (wr := [(hgr, .inr (3, [.int (nI 0), .ref gs, .ref g1r, .ref g2r, .ref gan, .ref gpr, .ref gde, .ref gme]))]) (xS (As := [.ref gme, .int (nI 0)]) (rest := []) C (c_J7_fill_53178 l D cs gme 8 (fun _ => nI 0) (nI 0) (by first | omega | decide)) kX3_37 hP hD [1] rfl (by decide +kernel) ⟨Nat.le_of_ble_eq_true rfl, Nat.le_of_ble_eq_true rfl⟩ rfl hl.1 rfl (Nat.le_of_ble_eq_true rfl) dX3_clear_10 ⟨Nat.le_of_ble_eq_true rfl, Nat.le_of_ble_eq_true rfl⟩) hP hD hS hA [1] [0] rfl rfl (by decide +kernel) (by decide +kernel) (fun u_2 H locs hw_r_1 hP hD hS => ?_)
  refine W.widen (k := 0) (n := 0) (Nat.le_of_ble_eq_true rfl) (Nat.le_of_ble_eq_true rfl) ?_
  have hP : va_P D vwCl [(hgr, .inr (3, [.int (nI 0), .ref gs, .ref g1r, .ref g2r, .ref gan, .ref gpr, .ref gde, .ref gme])), (gme, .inl (cs 0, 8, .inl (fun _ => (nI 0))))] H := hP
  have hD : va_D A [(hgr, .inr (3, [.int (nI 0), .ref gs, .ref g1r, .ref g2r, .ref gan, .ref gpr, .ref gde, .ref gme])), (gme, .inl (cs 0, 8, .inl (fun _ => (nI 0))))] := hD
  exact xretv C () trivial hP hD hS (Nat.le_of_ble_eq_true rfl) (Nat.le_of_ble_eq_true rfl) dX3_clear_13

set_option maxHeartbeats 4000000 in
set_option maxRecDepth 100000 in
theorem c_X3_isEntry_z (l : Launch) (D : va_G) (cs : Nat → ClassId) (hgr gs g1r g2r gan gpr gde gme : Nat) (x : Int32) : xMet l D cs yX3_isEntry cX3_isEntry 2 (some .boolean) ({ frames := 0, cells := 0, slots := 0, locals := 0 } : Room) [.ref hgr, .int x] [(hgr, .inr (3, [.int (nI 0), .ref gs, .ref g1r, .ref g2r, .ref gan, .ref gpr, .ref gde, .ref gme]))] (xQi D (fun (r : Int32) (_u : Unit) => r = nI 0) (fun (_u : Unit) => [(hgr, .inr (3, [.int (nI 0), .ref gs, .ref g1r, .ref g2r, .ref gan, .ref gpr, .ref gde, .ref gme]))])) := by
  refine xMet.intro (by decide) (Nat.le_of_ble_eq_true rfl) ?_
  intro p e s m args below meth c A ls C hP hD hS hl
  have hx := C.1
  have hb := C.2.1
  have hz := C.2.2.2.2.1
  have hown := C.2.2.2.1
  have hA := C.2.2.2.2.2.2.2.2.2
  have hAO := C.2.2.2.2.2.2.2.2.1.2.2
  have hl : lv_has ls 2 [(0, .ref hgr), (1, .int x)] := hl
  obtain ⟨H, hH⟩ : ∃ H, H = s.heap := ⟨_, rfl⟩
  have hP : va_P D vwCl [(hgr, .inr (3, [.int (nI 0), .ref gs, .ref g1r, .ref g2r, .ref gan, .ref gpr, .ref gde, .ref gme]))] H := by rw [hH]; exact hP
  have hS : va_S A s.heap H [] := by rw [hH]; exact hS
  obtain ⟨locs, hlocs⟩ : ∃ z : List Loc, z = [] := ⟨_, rfl⟩
  rw [← hlocs] at hS
  suffices hW : W p l e ({ frames := 0, cells := 0, slots := 0, locals := 0 } : Room) s m args below meth c H locs 0 0 (MQ below ((xQi D (fun (r : Int32) (_u : Unit) => r = nI 0) (fun (_u : Unit) => [(hgr, .inr (3, [.int (nI 0), .ref gs, .ref g1r, .ref g2r, .ref gan, .ref gpr, .ref gde, .ref gme]))])) A) args s 0 0 A) (F0 m 0 ls []) by rw [hlocs, hH] at hW; exact hW
  refine lv_iload_n hx hb dX3_isEntry_0 rfl (lv_at hl 1 rfl) ?_
  refine lv_if_lt (tgt := 16) hx hb dX3_isEntry_1 (by decide) (fun c_1 => ?_) (fun c_1 => ?_)
  · -- 1 t
    refine lv_iconst (v := nI 0) hx hb dX3_isEntry_16 (by decide) ?_
    exact xreti C () rfl hP hD hS (Nat.le_of_ble_eq_true rfl) (Nat.le_of_ble_eq_true rfl) (by decide) dX3_isEntry_17
  · -- 1 f
    refine lv_iload_n hx hb dX3_isEntry_4 rfl (lv_at hl 1 rfl) ?_
    refine lv_aload_n hx hb dX3_isEntry_5 rfl (lv_at hl 0 rfl) ?_
    refine xget C hP 0 rfl rfl zuX3 0 (by decide) zw1_195 rfl dX3_isEntry_6 ?_
    refine lv_icmp_ge (tgt := 16) hx hb dX3_isEntry_9 (by decide) (fun _ => ?_) (fun c => absurd (Int32.not_lt.mp c_1) c)
    refine lv_iconst (v := nI 0) hx hb dX3_isEntry_16 (by decide) ?_
    exact xreti C () rfl hP hD hS (Nat.le_of_ble_eq_true rfl) (Nat.le_of_ble_eq_true rfl) (by decide) dX3_isEntry_17

set_option maxHeartbeats 4000000 in
set_option maxRecDepth 100000 in
theorem c_X3_isParent_z (l : Launch) (D : va_G) (cs : Nat → ClassId) (hgr gs g1r g2r gan gpr gde gme : Nat) (x : Int32) : xMet l D cs yX3_isParent cX3_isParent 2 (some .boolean) ({ frames := 1, cells := 0, slots := 0, locals := 21 } : Room) [.ref hgr, .int x] [(hgr, .inr (3, [.int (nI 0), .ref gs, .ref g1r, .ref g2r, .ref gan, .ref gpr, .ref gde, .ref gme]))] (xQi D (fun (r : Int32) (_u : Unit) => (r = nI 1 ∧ x = -1) ∨ (r = nI 0 ∧ ¬ x = -1)) (fun (_u : Unit) => [(hgr, .inr (3, [.int (nI 0), .ref gs, .ref g1r, .ref g2r, .ref gan, .ref gpr, .ref gde, .ref gme]))])) := by
  refine xMet.intro (by decide) (Nat.le_of_ble_eq_true rfl) ?_
  intro p e s m args below meth c A ls C hP hD hS hl
  have hx := C.1
  have hb := C.2.1
  have hz := C.2.2.2.2.1
  have hown := C.2.2.2.1
  have hA := C.2.2.2.2.2.2.2.2.2
  have hAO := C.2.2.2.2.2.2.2.2.1.2.2
  have hl : lv_has ls 2 [(0, .ref hgr), (1, .int x)] := hl
  obtain ⟨H, hH⟩ : ∃ H, H = s.heap := ⟨_, rfl⟩
  have hP : va_P D vwCl [(hgr, .inr (3, [.int (nI 0), .ref gs, .ref g1r, .ref g2r, .ref gan, .ref gpr, .ref gde, .ref gme]))] H := by rw [hH]; exact hP
  have hS : va_S A s.heap H [] := by rw [hH]; exact hS
  obtain ⟨locs, hlocs⟩ : ∃ z : List Loc, z = [] := ⟨_, rfl⟩
  rw [← hlocs] at hS
  suffices hW : W p l e ({ frames := 1, cells := 0, slots := 0, locals := 21 } : Room) s m args below meth c H locs 0 0 (MQ below ((xQi D (fun (r : Int32) (_u : Unit) => (r = nI 1 ∧ x = -1) ∨ (r = nI 0 ∧ ¬ x = -1)) (fun (_u : Unit) => [(hgr, .inr (3, [.int (nI 0), .ref gs, .ref g1r, .ref g2r, .ref gan, .ref gpr, .ref gde, .ref gme]))])) A) args s 0 0 A) (F0 m 0 ls []) by rw [hlocs, hH] at hW; exact hW
  refine lv_iload_n hx hb dX3_isParent_0 rfl (lv_at hl 1 rfl) ?_
  refine lv_iconst (v := (-1)) hx hb dX3_isParent_1 (by decide) ?_
  refine lv_icmp_eq (tgt := 13) hx hb dX3_isParent_2 (by decide) (fun c_1 => ?_) (fun c_1 => ?_)
  · -- 2 t
    refine lv_iconst (v := nI 1) hx hb dX3_isParent_13 (by decide) ?_
    refine lv_goto (tgt := 18) hx hb dX3_isParent_14 (by decide) ?_
    exact xreti C () (Or.inl ⟨rfl, c_1⟩) hP hD hS (Nat.le_of_ble_eq_true rfl) (Nat.le_of_ble_eq_true rfl) (by decide) dX3_isParent_18
  · -- 2 f
    refine lv_aload_n hx hb dX3_isParent_5 rfl (lv_at hl 0 rfl) ?_
    refine lv_iload_n hx hb dX3_isParent_6 rfl (lv_at hl 1 rfl) ?_
    refine xi (wr := []) (xV (As := [.int x]) (rest := []) C (c_X3_isEntry_z l D cs hgr gs g1r g2r gan gpr gde gme x) kX3_43 hP hD [0] rfl (by decide +kernel) 0 rfl rfl rfl ⟨Nat.le_of_ble_eq_true rfl, Nat.le_of_ble_eq_true rfl⟩ rfl hl.1 rfl (Nat.le_of_ble_eq_true rfl) dX3_isParent_7 ⟨Nat.le_of_ble_eq_true rfl, Nat.le_of_ble_eq_true rfl⟩) hP hD hS hA [0] [] rfl rfl (by decide +kernel) (by decide +kernel) (fun r_2 u_3 H locs hw_r_2 hP hD hS => ?_)
    have hw_r_2 : r_2 = nI 0 := hw_r_2
    refine W.widen (k := 0) (n := 0) (Nat.le_of_ble_eq_true rfl) (Nat.le_of_ble_eq_true rfl) ?_
    have hP : va_P D vwCl [(hgr, .inr (3, [.int (nI 0), .ref gs, .ref g1r, .ref g2r, .ref gan, .ref gpr, .ref gde, .ref gme]))] H := hP
    have hD : va_D A [(hgr, .inr (3, [.int (nI 0), .ref gs, .ref g1r, .ref g2r, .ref gan, .ref gpr, .ref gde, .ref gme]))] := hD
    subst hw_r_2
    refine lv_if_eq (tgt := 17) hx hb dX3_isParent_10 (by decide) (fun _ => ?_) (fun c => absurd (by decide) c)
    refine lv_iconst (v := nI 0) hx hb dX3_isParent_17 (by decide) ?_
    exact xreti C () (Or.inr ⟨rfl, c_1⟩) hP hD hS (Nat.le_of_ble_eq_true rfl) (Nat.le_of_ble_eq_true rfl) (by decide) dX3_isParent_18

set_option maxHeartbeats 4000000 in
set_option maxRecDepth 100000 in
theorem c_X3_lineOf_z (l : Launch) (D : va_G) (cs : Nat → ClassId) (hgr gs g1r g2r gan gpr gde gme : Nat) (x : Int32) : xMet l D cs yX3_lineOf cX3_lineOf 2 (some .int) ({ frames := 1, cells := 0, slots := 0, locals := 21 } : Room) [.ref hgr, .int x] [(hgr, .inr (3, [.int (nI 0), .ref gs, .ref g1r, .ref g2r, .ref gan, .ref gpr, .ref gde, .ref gme]))] (xQi D (fun (r : Int32) (_u : Unit) => r = nI 0) (fun (_u : Unit) => [(hgr, .inr (3, [.int (nI 0), .ref gs, .ref g1r, .ref g2r, .ref gan, .ref gpr, .ref gde, .ref gme]))])) := by
  refine xMet.intro (by decide) (Nat.le_of_ble_eq_true rfl) ?_
  intro p e s m args below meth c A ls C hP hD hS hl
  have hx := C.1
  have hb := C.2.1
  have hz := C.2.2.2.2.1
  have hown := C.2.2.2.1
  have hA := C.2.2.2.2.2.2.2.2.2
  have hAO := C.2.2.2.2.2.2.2.2.1.2.2
  have hl : lv_has ls 2 [(0, .ref hgr), (1, .int x)] := hl
  obtain ⟨H, hH⟩ : ∃ H, H = s.heap := ⟨_, rfl⟩
  have hP : va_P D vwCl [(hgr, .inr (3, [.int (nI 0), .ref gs, .ref g1r, .ref g2r, .ref gan, .ref gpr, .ref gde, .ref gme]))] H := by rw [hH]; exact hP
  have hS : va_S A s.heap H [] := by rw [hH]; exact hS
  obtain ⟨locs, hlocs⟩ : ∃ z : List Loc, z = [] := ⟨_, rfl⟩
  rw [← hlocs] at hS
  suffices hW : W p l e ({ frames := 1, cells := 0, slots := 0, locals := 21 } : Room) s m args below meth c H locs 0 0 (MQ below ((xQi D (fun (r : Int32) (_u : Unit) => r = nI 0) (fun (_u : Unit) => [(hgr, .inr (3, [.int (nI 0), .ref gs, .ref g1r, .ref g2r, .ref gan, .ref gpr, .ref gde, .ref gme]))])) A) args s 0 0 A) (F0 m 0 ls []) by rw [hlocs, hH] at hW; exact hW
  refine lv_aload_n hx hb dX3_lineOf_0 rfl (lv_at hl 0 rfl) ?_
  refine lv_iload_n hx hb dX3_lineOf_1 rfl (lv_at hl 1 rfl) ?_
  refine xi (wr := []) (xV (As := [.int x]) (rest := []) C (c_X3_isEntry_z l D cs hgr gs g1r g2r gan gpr gde gme x) kX3_43 hP hD [0] rfl (by decide +kernel) 0 rfl rfl rfl ⟨Nat.le_of_ble_eq_true rfl, Nat.le_of_ble_eq_true rfl⟩ rfl hl.1 rfl (Nat.le_of_ble_eq_true rfl) dX3_lineOf_2 ⟨Nat.le_of_ble_eq_true rfl, Nat.le_of_ble_eq_true rfl⟩) hP hD hS hA [0] [] rfl rfl (by decide +kernel) (by decide +kernel) (fun r_1 u_2 H locs hw_r_1 hP hD hS => ?_)
  have hw_r_1 : r_1 = nI 0 := hw_r_1
  refine W.widen (k := 0) (n := 0) (Nat.le_of_ble_eq_true rfl) (Nat.le_of_ble_eq_true rfl) ?_
  have hP : va_P D vwCl [(hgr, .inr (3, [.int (nI 0), .ref gs, .ref g1r, .ref g2r, .ref gan, .ref gpr, .ref gde, .ref gme]))] H := hP
  have hD : va_D A [(hgr, .inr (3, [.int (nI 0), .ref gs, .ref g1r, .ref g2r, .ref gan, .ref gpr, .ref gde, .ref gme]))] := hD
  subst hw_r_1
  refine lv_if_eq (tgt := 21) hx hb dX3_lineOf_5 (by decide) (fun _ => ?_) (fun c => absurd (by decide) c)
  refine lv_iconst (v := nI 0) hx hb dX3_lineOf_21 (by decide) ?_
  exact xreti C () rfl hP hD hS (Nat.le_of_ble_eq_true rfl) (Nat.le_of_ble_eq_true rfl) rfl dX3_lineOf_22

set_option maxHeartbeats 4000000 in
set_option maxRecDepth 100000 in
theorem c_X3_depthBelow_z (l : Launch) (D : va_G) (cs : Nat → ClassId) (hgr gs g1r g2r gan gpr gde gme : Nat) (x : Int32) : xMet l D cs yX3_depthBelow cX3_depthBelow 2 (some .int) ({ frames := 1, cells := 0, slots := 0, locals := 21 } : Room) [.ref hgr, .int x] [(hgr, .inr (3, [.int (nI 0), .ref gs, .ref g1r, .ref g2r, .ref gan, .ref gpr, .ref gde, .ref gme]))] (xQi D (fun (r : Int32) (_u : Unit) => r = nI 0) (fun (_u : Unit) => [(hgr, .inr (3, [.int (nI 0), .ref gs, .ref g1r, .ref g2r, .ref gan, .ref gpr, .ref gde, .ref gme]))])) := by
  refine xMet.intro (by decide) (Nat.le_of_ble_eq_true rfl) ?_
  intro p e s m args below meth c A ls C hP hD hS hl
  have hx := C.1
  have hb := C.2.1
  have hz := C.2.2.2.2.1
  have hown := C.2.2.2.1
  have hA := C.2.2.2.2.2.2.2.2.2
  have hAO := C.2.2.2.2.2.2.2.2.1.2.2
  have hl : lv_has ls 2 [(0, .ref hgr), (1, .int x)] := hl
  obtain ⟨H, hH⟩ : ∃ H, H = s.heap := ⟨_, rfl⟩
  have hP : va_P D vwCl [(hgr, .inr (3, [.int (nI 0), .ref gs, .ref g1r, .ref g2r, .ref gan, .ref gpr, .ref gde, .ref gme]))] H := by rw [hH]; exact hP
  have hS : va_S A s.heap H [] := by rw [hH]; exact hS
  obtain ⟨locs, hlocs⟩ : ∃ z : List Loc, z = [] := ⟨_, rfl⟩
  rw [← hlocs] at hS
  suffices hW : W p l e ({ frames := 1, cells := 0, slots := 0, locals := 21 } : Room) s m args below meth c H locs 0 0 (MQ below ((xQi D (fun (r : Int32) (_u : Unit) => r = nI 0) (fun (_u : Unit) => [(hgr, .inr (3, [.int (nI 0), .ref gs, .ref g1r, .ref g2r, .ref gan, .ref gpr, .ref gde, .ref gme]))])) A) args s 0 0 A) (F0 m 0 ls []) by rw [hlocs, hH] at hW; exact hW
  refine lv_aload_n hx hb dX3_depthBelow_0 rfl (lv_at hl 0 rfl) ?_
  refine lv_iload_n hx hb dX3_depthBelow_1 rfl (lv_at hl 1 rfl) ?_
  refine xi (wr := []) (xV (As := [.int x]) (rest := []) C (c_X3_isEntry_z l D cs hgr gs g1r g2r gan gpr gde gme x) kX3_43 hP hD [0] rfl (by decide +kernel) 0 rfl rfl rfl ⟨Nat.le_of_ble_eq_true rfl, Nat.le_of_ble_eq_true rfl⟩ rfl hl.1 rfl (Nat.le_of_ble_eq_true rfl) dX3_depthBelow_2 ⟨Nat.le_of_ble_eq_true rfl, Nat.le_of_ble_eq_true rfl⟩) hP hD hS hA [0] [] rfl rfl (by decide +kernel) (by decide +kernel) (fun r_1 u_2 H locs hw_r_1 hP hD hS => ?_)
  have hw_r_1 : r_1 = nI 0 := hw_r_1
  refine W.widen (k := 0) (n := 0) (Nat.le_of_ble_eq_true rfl) (Nat.le_of_ble_eq_true rfl) ?_
  have hP : va_P D vwCl [(hgr, .inr (3, [.int (nI 0), .ref gs, .ref g1r, .ref g2r, .ref gan, .ref gpr, .ref gde, .ref gme]))] H := hP
  have hD : va_D A [(hgr, .inr (3, [.int (nI 0), .ref gs, .ref g1r, .ref g2r, .ref gan, .ref gpr, .ref gde, .ref gme]))] := hD
  subst hw_r_1
  refine lv_if_eq (tgt := 19) hx hb dX3_depthBelow_5 (by decide) (fun _ => ?_) (fun c => absurd (by decide) c)
  refine lv_iconst (v := nI 0) hx hb dX3_depthBelow_19 (by decide) ?_
  exact xreti C () rfl hP hD hS (Nat.le_of_ble_eq_true rfl) (Nat.le_of_ble_eq_true rfl) rfl dX3_depthBelow_20

set_option maxHeartbeats 4000000 in
set_option maxRecDepth 100000 in
theorem c_X3_isEntry_m (l : Launch) (D : va_G) (cs : Nat → ClassId) (hgr gs g1r g2r gan gpr gde gme : Nat) : xMet l D cs yX3_isEntry cX3_isEntry 2 (some .boolean) ({ frames := 0, cells := 0, slots := 0, locals := 0 } : Room) [.ref hgr, .int (-1)] [(hgr, .inr (3, [.int (nI 1), .ref gs, .ref g1r, .ref g2r, .ref gan, .ref gpr, .ref gde, .ref gme]))] (xQi D (fun (r : Int32) (_u : Unit) => r = nI 0) (fun (_u : Unit) => [(hgr, .inr (3, [.int (nI 1), .ref gs, .ref g1r, .ref g2r, .ref gan, .ref gpr, .ref gde, .ref gme]))])) := by
  refine xMet.intro (by decide) (Nat.le_of_ble_eq_true rfl) ?_
  intro p e s m args below meth c A ls C hP hD hS hl
  have hx := C.1
  have hb := C.2.1
  have hz := C.2.2.2.2.1
  have hown := C.2.2.2.1
  have hA := C.2.2.2.2.2.2.2.2.2
  have hAO := C.2.2.2.2.2.2.2.2.1.2.2
  have hl : lv_has ls 2 [(0, .ref hgr), (1, .int (-1))] := hl
  obtain ⟨H, hH⟩ : ∃ H, H = s.heap := ⟨_, rfl⟩
  have hP : va_P D vwCl [(hgr, .inr (3, [.int (nI 1), .ref gs, .ref g1r, .ref g2r, .ref gan, .ref gpr, .ref gde, .ref gme]))] H := by rw [hH]; exact hP
  have hS : va_S A s.heap H [] := by rw [hH]; exact hS
  obtain ⟨locs, hlocs⟩ : ∃ z : List Loc, z = [] := ⟨_, rfl⟩
  rw [← hlocs] at hS
  suffices hW : W p l e ({ frames := 0, cells := 0, slots := 0, locals := 0 } : Room) s m args below meth c H locs 0 0 (MQ below ((xQi D (fun (r : Int32) (_u : Unit) => r = nI 0) (fun (_u : Unit) => [(hgr, .inr (3, [.int (nI 1), .ref gs, .ref g1r, .ref g2r, .ref gan, .ref gpr, .ref gde, .ref gme]))])) A) args s 0 0 A) (F0 m 0 ls []) by rw [hlocs, hH] at hW; exact hW
  refine lv_iload_n hx hb dX3_isEntry_0 rfl (lv_at hl 1 rfl) ?_
  refine lv_if_lt (tgt := 16) hx hb dX3_isEntry_1 (by decide) (fun _ => ?_) (fun c => absurd (by decide) c)
  refine lv_iconst (v := nI 0) hx hb dX3_isEntry_16 (by decide) ?_
  exact xreti C () rfl hP hD hS (Nat.le_of_ble_eq_true rfl) (Nat.le_of_ble_eq_true rfl) (by decide) dX3_isEntry_17

set_option maxHeartbeats 4000000 in
set_option maxRecDepth 100000 in
theorem c_X3_lineOf_m (l : Launch) (D : va_G) (cs : Nat → ClassId) (hgr gs g1r g2r gan gpr gde gme : Nat) : xMet l D cs yX3_lineOf cX3_lineOf 2 (some .int) ({ frames := 1, cells := 0, slots := 0, locals := 21 } : Room) [.ref hgr, .int (-1)] [(hgr, .inr (3, [.int (nI 1), .ref gs, .ref g1r, .ref g2r, .ref gan, .ref gpr, .ref gde, .ref gme]))] (xQi D (fun (r : Int32) (_u : Unit) => r = nI 0) (fun (_u : Unit) => [(hgr, .inr (3, [.int (nI 1), .ref gs, .ref g1r, .ref g2r, .ref gan, .ref gpr, .ref gde, .ref gme]))])) := by
  refine xMet.intro (by decide) (Nat.le_of_ble_eq_true rfl) ?_
  intro p e s m args below meth c A ls C hP hD hS hl
  have hx := C.1
  have hb := C.2.1
  have hz := C.2.2.2.2.1
  have hown := C.2.2.2.1
  have hA := C.2.2.2.2.2.2.2.2.2
  have hAO := C.2.2.2.2.2.2.2.2.1.2.2
  have hl : lv_has ls 2 [(0, .ref hgr), (1, .int (-1))] := hl
  obtain ⟨H, hH⟩ : ∃ H, H = s.heap := ⟨_, rfl⟩
  have hP : va_P D vwCl [(hgr, .inr (3, [.int (nI 1), .ref gs, .ref g1r, .ref g2r, .ref gan, .ref gpr, .ref gde, .ref gme]))] H := by rw [hH]; exact hP
  have hS : va_S A s.heap H [] := by rw [hH]; exact hS
  obtain ⟨locs, hlocs⟩ : ∃ z : List Loc, z = [] := ⟨_, rfl⟩
  rw [← hlocs] at hS
  suffices hW : W p l e ({ frames := 1, cells := 0, slots := 0, locals := 21 } : Room) s m args below meth c H locs 0 0 (MQ below ((xQi D (fun (r : Int32) (_u : Unit) => r = nI 0) (fun (_u : Unit) => [(hgr, .inr (3, [.int (nI 1), .ref gs, .ref g1r, .ref g2r, .ref gan, .ref gpr, .ref gde, .ref gme]))])) A) args s 0 0 A) (F0 m 0 ls []) by rw [hlocs, hH] at hW; exact hW
  refine lv_aload_n hx hb dX3_lineOf_0 rfl (lv_at hl 0 rfl) ?_
  refine lv_iload_n hx hb dX3_lineOf_1 rfl (lv_at hl 1 rfl) ?_
  refine xi (wr := []) (xV (As := [.int (-1)]) (rest := []) C (c_X3_isEntry_m l D cs hgr gs g1r g2r gan gpr gde gme) kX3_43 hP hD [0] rfl (by decide +kernel) 0 rfl rfl rfl ⟨Nat.le_of_ble_eq_true rfl, Nat.le_of_ble_eq_true rfl⟩ rfl hl.1 rfl (Nat.le_of_ble_eq_true rfl) dX3_lineOf_2 ⟨Nat.le_of_ble_eq_true rfl, Nat.le_of_ble_eq_true rfl⟩) hP hD hS hA [0] [] rfl rfl (by decide +kernel) (by decide +kernel) (fun r_1 u_2 H locs hw_r_1 hP hD hS => ?_)
  have hw_r_1 : r_1 = nI 0 := hw_r_1
  refine W.widen (k := 0) (n := 0) (Nat.le_of_ble_eq_true rfl) (Nat.le_of_ble_eq_true rfl) ?_
  have hP : va_P D vwCl [(hgr, .inr (3, [.int (nI 1), .ref gs, .ref g1r, .ref g2r, .ref gan, .ref gpr, .ref gde, .ref gme]))] H := hP
  have hD : va_D A [(hgr, .inr (3, [.int (nI 1), .ref gs, .ref g1r, .ref g2r, .ref gan, .ref gpr, .ref gde, .ref gme]))] := hD
  subst hw_r_1
  refine lv_if_eq (tgt := 21) hx hb dX3_lineOf_5 (by decide) (fun _ => ?_) (fun c => absurd (by decide) c)
  refine lv_iconst (v := nI 0) hx hb dX3_lineOf_21 (by decide) ?_
  exact xreti C () rfl hP hD hS (Nat.le_of_ble_eq_true rfl) (Nat.le_of_ble_eq_true rfl) rfl dX3_lineOf_22

set_option maxHeartbeats 4000000 in
set_option maxRecDepth 100000 in
theorem c_X3_depthBelow_m (l : Launch) (D : va_G) (cs : Nat → ClassId) (hgr gs g1r g2r gan gpr gde gme : Nat) : xMet l D cs yX3_depthBelow cX3_depthBelow 2 (some .int) ({ frames := 1, cells := 0, slots := 0, locals := 21 } : Room) [.ref hgr, .int (-1)] [(hgr, .inr (3, [.int (nI 1), .ref gs, .ref g1r, .ref g2r, .ref gan, .ref gpr, .ref gde, .ref gme]))] (xQi D (fun (r : Int32) (_u : Unit) => r = nI 0) (fun (_u : Unit) => [(hgr, .inr (3, [.int (nI 1), .ref gs, .ref g1r, .ref g2r, .ref gan, .ref gpr, .ref gde, .ref gme]))])) := by
  refine xMet.intro (by decide) (Nat.le_of_ble_eq_true rfl) ?_
  intro p e s m args below meth c A ls C hP hD hS hl
  have hx := C.1
  have hb := C.2.1
  have hz := C.2.2.2.2.1
  have hown := C.2.2.2.1
  have hA := C.2.2.2.2.2.2.2.2.2
  have hAO := C.2.2.2.2.2.2.2.2.1.2.2
  have hl : lv_has ls 2 [(0, .ref hgr), (1, .int (-1))] := hl
  obtain ⟨H, hH⟩ : ∃ H, H = s.heap := ⟨_, rfl⟩
  have hP : va_P D vwCl [(hgr, .inr (3, [.int (nI 1), .ref gs, .ref g1r, .ref g2r, .ref gan, .ref gpr, .ref gde, .ref gme]))] H := by rw [hH]; exact hP
  have hS : va_S A s.heap H [] := by rw [hH]; exact hS
  obtain ⟨locs, hlocs⟩ : ∃ z : List Loc, z = [] := ⟨_, rfl⟩
  rw [← hlocs] at hS
  suffices hW : W p l e ({ frames := 1, cells := 0, slots := 0, locals := 21 } : Room) s m args below meth c H locs 0 0 (MQ below ((xQi D (fun (r : Int32) (_u : Unit) => r = nI 0) (fun (_u : Unit) => [(hgr, .inr (3, [.int (nI 1), .ref gs, .ref g1r, .ref g2r, .ref gan, .ref gpr, .ref gde, .ref gme]))])) A) args s 0 0 A) (F0 m 0 ls []) by rw [hlocs, hH] at hW; exact hW
  refine lv_aload_n hx hb dX3_depthBelow_0 rfl (lv_at hl 0 rfl) ?_
  refine lv_iload_n hx hb dX3_depthBelow_1 rfl (lv_at hl 1 rfl) ?_
  refine xi (wr := []) (xV (As := [.int (-1)]) (rest := []) C (c_X3_isEntry_m l D cs hgr gs g1r g2r gan gpr gde gme) kX3_43 hP hD [0] rfl (by decide +kernel) 0 rfl rfl rfl ⟨Nat.le_of_ble_eq_true rfl, Nat.le_of_ble_eq_true rfl⟩ rfl hl.1 rfl (Nat.le_of_ble_eq_true rfl) dX3_depthBelow_2 ⟨Nat.le_of_ble_eq_true rfl, Nat.le_of_ble_eq_true rfl⟩) hP hD hS hA [0] [] rfl rfl (by decide +kernel) (by decide +kernel) (fun r_1 u_2 H locs hw_r_1 hP hD hS => ?_)
  have hw_r_1 : r_1 = nI 0 := hw_r_1
  refine W.widen (k := 0) (n := 0) (Nat.le_of_ble_eq_true rfl) (Nat.le_of_ble_eq_true rfl) ?_
  have hP : va_P D vwCl [(hgr, .inr (3, [.int (nI 1), .ref gs, .ref g1r, .ref g2r, .ref gan, .ref gpr, .ref gde, .ref gme]))] H := hP
  have hD : va_D A [(hgr, .inr (3, [.int (nI 1), .ref gs, .ref g1r, .ref g2r, .ref gan, .ref gpr, .ref gde, .ref gme]))] := hD
  subst hw_r_1
  refine lv_if_eq (tgt := 19) hx hb dX3_depthBelow_5 (by decide) (fun _ => ?_) (fun c => absurd (by decide) c)
  refine lv_iconst (v := nI 0) hx hb dX3_depthBelow_19 (by decide) ?_
  exact xreti C () rfl hP hD hS (Nat.le_of_ble_eq_true rfl) (Nat.le_of_ble_eq_true rfl) rfl dX3_depthBelow_20

set_option maxHeartbeats 4000000 in
set_option maxRecDepth 100000 in
theorem c_X3_add_z (l : Launch) (D : va_G) (cs : Nat → ClassId) (hgr gs g1r g2r gan gpr gde gme : Nat) (i : Nat) (hi : i < 8) : xMet l D cs yX3_add cX3_add 6 (some .int) ({ frames := 2, cells := 0, slots := 0, locals := 42 } : Room) [.ref hgr, .int (nI i), .int (-1), .int (-1)] [(hgr, .inr (3, [.int (nI 0), .ref gs, .ref g1r, .ref g2r, .ref gan, .ref gpr, .ref gde, .ref gme])), (gs, .inl (cs 0, 16, .inl (fun _ => nI 0))), (g1r, .inl (cs 0, 16, .inl (fun _ => nI 0))), (g2r, .inl (cs 0, 16, .inl (fun _ => nI 0))), (gan, .inl (cs 0, 16, .inl (fun _ => nI 0))), (gpr, .inl (cs 0, 16, .inl (fun _ => nI 0))), (gde, .inl (cs 0, 16, .inl (fun _ => nI 0))), (gme, .inl (cs 0, 8, .inl (fun _ => nI 0)))] (xQi D (fun (r : Int32) (_u : Unit) => r = nI 0) (fun (_u : Unit) => [])) := by
  refine xMet.intro (by decide) (Nat.le_of_ble_eq_true rfl) ?_
  intro p e s m args below meth c A ls C hP hD hS hl
  have hx := C.1
  have hb := C.2.1
  have hz := C.2.2.2.2.1
  have hown := C.2.2.2.1
  have hA := C.2.2.2.2.2.2.2.2.2
  have hAO := C.2.2.2.2.2.2.2.2.1.2.2
  have hl : lv_has ls 6 [(0, .ref hgr), (1, .int (nI i)), (2, .int (-1)), (3, .int (-1))] := hl
  obtain ⟨H, hH⟩ : ∃ H, H = s.heap := ⟨_, rfl⟩
  have hP : va_P D vwCl [(hgr, .inr (3, [.int (nI 0), .ref gs, .ref g1r, .ref g2r, .ref gan, .ref gpr, .ref gde, .ref gme])), (gs, .inl (cs 0, 16, .inl (fun _ => nI 0))), (g1r, .inl (cs 0, 16, .inl (fun _ => nI 0))), (g2r, .inl (cs 0, 16, .inl (fun _ => nI 0))), (gan, .inl (cs 0, 16, .inl (fun _ => nI 0))), (gpr, .inl (cs 0, 16, .inl (fun _ => nI 0))), (gde, .inl (cs 0, 16, .inl (fun _ => nI 0))), (gme, .inl (cs 0, 8, .inl (fun _ => nI 0)))] H := by rw [hH]; exact hP
  have hS : va_S A s.heap H [] := by rw [hH]; exact hS
  obtain ⟨locs, hlocs⟩ : ∃ z : List Loc, z = [] := ⟨_, rfl⟩
  rw [← hlocs] at hS
  suffices hW : W p l e ({ frames := 2, cells := 0, slots := 0, locals := 42 } : Room) s m args below meth c H locs 0 0 (MQ below ((xQi D (fun (r : Int32) (_u : Unit) => r = nI 0) (fun (_u : Unit) => [])) A) args s 0 0 A) (F0 m 0 ls []) by rw [hlocs, hH] at hW; exact hW
  refine lv_aload_n hx hb dX3_add_0 rfl (lv_at hl 0 rfl) ?_
  refine xget C hP 0 rfl rfl zuX3 0 (by decide) zw1_195 rfl dX3_add_1 ?_
  refine lv_istore (lv' := [(4, .int (nI 0)), (0, .ref hgr), (1, .int (nI i)), (2, .int (-1)), (3, .int (-1))]) hx hb dX3_add_4 hl (by decide) rfl (fun ls hl => ?_)
  refine lv_aload_n hx hb dX3_add_6 rfl (lv_at hl 1 rfl) ?_
  refine lv_dup hx hb dX3_add_7 rfl ?_
  refine xget C hP 0 rfl rfl zuX3 0 (by decide) zw1_195 rfl dX3_add_8 ?_
  refine lv_iconst (v := nI 1) hx hb dX3_add_11 (by decide) ?_
  refine lv_iadd hx hb dX3_add_12 ?_
  refine lv_topi (nm_r (e' := nI 1) (by decide) ?_)
  refine xput C hP hD hS 0 rfl rfl zuX3 tyX3 tyX3_ok nmX3 0 (by decide) zw1_195 rfl rfl rfl (Nat.le_of_ble_eq_true rfl) dX3_add_13 (fun H locs hP hD hS => ?_)
  have hP : va_P D vwCl [(hgr, .inr (3, [.int (nI 1), .ref gs, .ref g1r, .ref g2r, .ref gan, .ref gpr, .ref gde, .ref gme])), (gs, .inl (cs 0, 16, .inl (fun _ => nI 0))), (g1r, .inl (cs 0, 16, .inl (fun _ => nI 0))), (g2r, .inl (cs 0, 16, .inl (fun _ => nI 0))), (gan, .inl (cs 0, 16, .inl (fun _ => nI 0))), (gpr, .inl (cs 0, 16, .inl (fun _ => nI 0))), (gde, .inl (cs 0, 16, .inl (fun _ => nI 0))), (gme, .inl (cs 0, 8, .inl (fun _ => nI 0)))] H := hP
  have hD : va_D A [(hgr, .inr (3, [.int (nI 1), .ref gs, .ref g1r, .ref g2r, .ref gan, .ref gpr, .ref gde, .ref gme])), (gs, .inl (cs 0, 16, .inl (fun _ => nI 0))), (g1r, .inl (cs 0, 16, .inl (fun _ => nI 0))), (g2r, .inl (cs 0, 16, .inl (fun _ => nI 0))), (gan, .inl (cs 0, 16, .inl (fun _ => nI 0))), (gpr, .inl (cs 0, 16, .inl (fun _ => nI 0))), (gde, .inl (cs 0, 16, .inl (fun _ => nI 0))), (gme, .inl (cs 0, 8, .inl (fun _ => nI 0)))] := hD
  refine lv_aload_n hx hb dX3_add_16 rfl (lv_at hl 1 rfl) ?_
  refine xget C hP 0 rfl rfl zuX3 1 (by decide) zw1_198 rfl dX3_add_17 ?_
  refine lv_iload hx hb dX3_add_20 (lv_at hl 0 rfl) ?_
  refine lv_iload_n hx hb dX3_add_22 rfl (lv_at hl 2 rfl) ?_
  refine xiast C hP hD hS 1 rfl 0 rfl (by decide) (by decide) dX3_add_23 (fun H locs hP hD hS => ?_)
  have hP : va_P D vwCl [(hgr, .inr (3, [.int (nI 1), .ref gs, .ref g1r, .ref g2r, .ref gan, .ref gpr, .ref gde, .ref gme])), (gs, .inl (cs 0, 16, .inl (upd (fun _ => nI 0) 0 (nI i)))), (g1r, .inl (cs 0, 16, .inl (fun _ => nI 0))), (g2r, .inl (cs 0, 16, .inl (fun _ => nI 0))), (gan, .inl (cs 0, 16, .inl (fun _ => nI 0))), (gpr, .inl (cs 0, 16, .inl (fun _ => nI 0))), (gde, .inl (cs 0, 16, .inl (fun _ => nI 0))), (gme, .inl (cs 0, 8, .inl (fun _ => nI 0)))] H := hP
  have hD : va_D A [(hgr, .inr (3, [.int (nI 1), .ref gs, .ref g1r, .ref g2r, .ref gan, .ref gpr, .ref gde, .ref gme])), (gs, .inl (cs 0, 16, .inl (upd (fun _ => nI 0) 0 (nI i)))), (g1r, .inl (cs 0, 16, .inl (fun _ => nI 0))), (g2r, .inl (cs 0, 16, .inl (fun _ => nI 0))), (gan, .inl (cs 0, 16, .inl (fun _ => nI 0))), (gpr, .inl (cs 0, 16, .inl (fun _ => nI 0))), (gde, .inl (cs 0, 16, .inl (fun _ => nI 0))), (gme, .inl (cs 0, 8, .inl (fun _ => nI 0)))] := hD
  refine lv_aload_n hx hb dX3_add_24 rfl (lv_at hl 1 rfl) ?_
  refine xget C hP 0 rfl rfl zuX3 2 (by decide) zw1_201 rfl dX3_add_25 ?_
  refine lv_iload hx hb dX3_add_28 (lv_at hl 0 rfl) ?_
  refine lv_iload_n hx hb dX3_add_30 rfl (lv_at hl 3 rfl) ?_
  refine xiast C hP hD hS 2 rfl 0 rfl (by decide) (by decide) dX3_add_31 (fun H locs hP hD hS => ?_)
  have hP : va_P D vwCl [(hgr, .inr (3, [.int (nI 1), .ref gs, .ref g1r, .ref g2r, .ref gan, .ref gpr, .ref gde, .ref gme])), (gs, .inl (cs 0, 16, .inl (upd (fun _ => nI 0) 0 (nI i)))), (g1r, .inl (cs 0, 16, .inl (upd (fun _ => nI 0) 0 (-1)))), (g2r, .inl (cs 0, 16, .inl (fun _ => nI 0))), (gan, .inl (cs 0, 16, .inl (fun _ => nI 0))), (gpr, .inl (cs 0, 16, .inl (fun _ => nI 0))), (gde, .inl (cs 0, 16, .inl (fun _ => nI 0))), (gme, .inl (cs 0, 8, .inl (fun _ => nI 0)))] H := hP
  have hD : va_D A [(hgr, .inr (3, [.int (nI 1), .ref gs, .ref g1r, .ref g2r, .ref gan, .ref gpr, .ref gde, .ref gme])), (gs, .inl (cs 0, 16, .inl (upd (fun _ => nI 0) 0 (nI i)))), (g1r, .inl (cs 0, 16, .inl (upd (fun _ => nI 0) 0 (-1)))), (g2r, .inl (cs 0, 16, .inl (fun _ => nI 0))), (gan, .inl (cs 0, 16, .inl (fun _ => nI 0))), (gpr, .inl (cs 0, 16, .inl (fun _ => nI 0))), (gde, .inl (cs 0, 16, .inl (fun _ => nI 0))), (gme, .inl (cs 0, 8, .inl (fun _ => nI 0)))] := hD
  refine lv_aload_n hx hb dX3_add_32 rfl (lv_at hl 1 rfl) ?_
  refine xget C hP 0 rfl rfl zuX3 3 (by decide) zw1_203 rfl dX3_add_33 ?_
  refine lv_iload hx hb dX3_add_36 (lv_at hl 0 rfl) ?_
  refine lv_iload_n hx hb dX3_add_38 rfl (lv_at hl 4 rfl) ?_
  refine xiast C hP hD hS 3 rfl 0 rfl (by decide) (by decide) dX3_add_39 (fun H locs hP hD hS => ?_)
  have hP : va_P D vwCl [(hgr, .inr (3, [.int (nI 1), .ref gs, .ref g1r, .ref g2r, .ref gan, .ref gpr, .ref gde, .ref gme])), (gs, .inl (cs 0, 16, .inl (upd (fun _ => nI 0) 0 (nI i)))), (g1r, .inl (cs 0, 16, .inl (upd (fun _ => nI 0) 0 (-1)))), (g2r, .inl (cs 0, 16, .inl (upd (fun _ => nI 0) 0 (-1)))), (gan, .inl (cs 0, 16, .inl (fun _ => nI 0))), (gpr, .inl (cs 0, 16, .inl (fun _ => nI 0))), (gde, .inl (cs 0, 16, .inl (fun _ => nI 0))), (gme, .inl (cs 0, 8, .inl (fun _ => nI 0)))] H := hP
  have hD : va_D A [(hgr, .inr (3, [.int (nI 1), .ref gs, .ref g1r, .ref g2r, .ref gan, .ref gpr, .ref gde, .ref gme])), (gs, .inl (cs 0, 16, .inl (upd (fun _ => nI 0) 0 (nI i)))), (g1r, .inl (cs 0, 16, .inl (upd (fun _ => nI 0) 0 (-1)))), (g2r, .inl (cs 0, 16, .inl (upd (fun _ => nI 0) 0 (-1)))), (gan, .inl (cs 0, 16, .inl (fun _ => nI 0))), (gpr, .inl (cs 0, 16, .inl (fun _ => nI 0))), (gde, .inl (cs 0, 16, .inl (fun _ => nI 0))), (gme, .inl (cs 0, 8, .inl (fun _ => nI 0)))] := hD
  refine lv_aload_n hx hb dX3_add_40 rfl (lv_at hl 1 rfl) ?_
  refine xget C hP 0 rfl rfl zuX3 4 (by decide) zw1_205 rfl dX3_add_41 ?_
  refine lv_iload hx hb dX3_add_44 (lv_at hl 0 rfl) ?_
  refine lv_aload_n hx hb dX3_add_46 rfl (lv_at hl 1 rfl) ?_
  refine lv_iload_n hx hb dX3_add_47 rfl (lv_at hl 3 rfl) ?_
  refine xi (wr := [(gs, .inl (cs 0, 16, .inl (upd (fun _ => nI 0) 0 (nI i)))), (g1r, .inl (cs 0, 16, .inl (upd (fun _ => nI 0) 0 (-1)))), (g2r, .inl (cs 0, 16, .inl (upd (fun _ => nI 0) 0 (-1)))), (gan, .inl (cs 0, 16, .inl (fun _ => nI 0))), (gpr, .inl (cs 0, 16, .inl (fun _ => nI 0))), (gde, .inl (cs 0, 16, .inl (fun _ => nI 0))), (gme, .inl (cs 0, 8, .inl (fun _ => nI 0)))]) (xV (As := [.int (-1)]) (rest := [.int (nI 0), .ref gan]) C (c_X3_lineOf_m l D cs hgr gs g1r g2r gan gpr gde gme) kX3_47 hP hD [0] rfl (by decide +kernel) 0 rfl rfl rfl ⟨Nat.le_of_ble_eq_true rfl, Nat.le_of_ble_eq_true rfl⟩ rfl hl.1 rfl (Nat.le_of_ble_eq_true rfl) dX3_add_48 ⟨Nat.le_of_ble_eq_true rfl, Nat.le_of_ble_eq_true rfl⟩) hP hD hS hA [0] [1, 2, 3, 4, 5, 6, 7] rfl rfl (by decide +kernel) (by decide +kernel) (fun r_1 u_2 H locs hw_r_1 hP hD hS => ?_)
  have hw_r_1 : r_1 = nI 0 := hw_r_1
  refine W.widen (k := 0) (n := 0) (Nat.le_of_ble_eq_true rfl) (Nat.le_of_ble_eq_true rfl) ?_
  have hP : va_P D vwCl [(gs, .inl (cs 0, 16, .inl (upd (fun _ => nI 0) 0 (nI i)))), (g1r, .inl (cs 0, 16, .inl (upd (fun _ => nI 0) 0 (-1)))), (g2r, .inl (cs 0, 16, .inl (upd (fun _ => nI 0) 0 (-1)))), (gan, .inl (cs 0, 16, .inl (fun _ => nI 0))), (gpr, .inl (cs 0, 16, .inl (fun _ => nI 0))), (gde, .inl (cs 0, 16, .inl (fun _ => nI 0))), (gme, .inl (cs 0, 8, .inl (fun _ => nI 0))), (hgr, .inr (3, [.int (nI 1), .ref gs, .ref g1r, .ref g2r, .ref gan, .ref gpr, .ref gde, .ref gme]))] H := hP
  have hD : va_D A [(gs, .inl (cs 0, 16, .inl (upd (fun _ => nI 0) 0 (nI i)))), (g1r, .inl (cs 0, 16, .inl (upd (fun _ => nI 0) 0 (-1)))), (g2r, .inl (cs 0, 16, .inl (upd (fun _ => nI 0) 0 (-1)))), (gan, .inl (cs 0, 16, .inl (fun _ => nI 0))), (gpr, .inl (cs 0, 16, .inl (fun _ => nI 0))), (gde, .inl (cs 0, 16, .inl (fun _ => nI 0))), (gme, .inl (cs 0, 8, .inl (fun _ => nI 0))), (hgr, .inr (3, [.int (nI 1), .ref gs, .ref g1r, .ref g2r, .ref gan, .ref gpr, .ref gde, .ref gme]))] := hD
  subst hw_r_1
  refine lv_aload_n hx hb dX3_add_51 rfl (lv_at hl 1 rfl) ?_
  refine lv_iload_n hx hb dX3_add_52 rfl (lv_at hl 4 rfl) ?_
  refine xi (wr := [(gs, .inl (cs 0, 16, .inl (upd (fun _ => nI 0) 0 (nI i)))), (g1r, .inl (cs 0, 16, .inl (upd (fun _ => nI 0) 0 (-1)))), (g2r, .inl (cs 0, 16, .inl (upd (fun _ => nI 0) 0 (-1)))), (gan, .inl (cs 0, 16, .inl (fun _ => nI 0))), (gpr, .inl (cs 0, 16, .inl (fun _ => nI 0))), (gde, .inl (cs 0, 16, .inl (fun _ => nI 0))), (gme, .inl (cs 0, 8, .inl (fun _ => nI 0)))]) (xV (As := [.int (-1)]) (rest := [.int (nI 0), .int (nI 0), .ref gan]) C (c_X3_lineOf_m l D cs hgr gs g1r g2r gan gpr gde gme) kX3_47 hP hD [7] rfl (by decide +kernel) 0 rfl rfl rfl ⟨Nat.le_of_ble_eq_true rfl, Nat.le_of_ble_eq_true rfl⟩ rfl hl.1 rfl (Nat.le_of_ble_eq_true rfl) dX3_add_53 ⟨Nat.le_of_ble_eq_true rfl, Nat.le_of_ble_eq_true rfl⟩) hP hD hS hA [7] [0, 1, 2, 3, 4, 5, 6] rfl rfl (by decide +kernel) (by decide +kernel) (fun r_3 u_4 H locs hw_r_3 hP hD hS => ?_)
  have hw_r_3 : r_3 = nI 0 := hw_r_3
  refine W.widen (k := 0) (n := 0) (Nat.le_of_ble_eq_true rfl) (Nat.le_of_ble_eq_true rfl) ?_
  have hP : va_P D vwCl [(gs, .inl (cs 0, 16, .inl (upd (fun _ => nI 0) 0 (nI i)))), (g1r, .inl (cs 0, 16, .inl (upd (fun _ => nI 0) 0 (-1)))), (g2r, .inl (cs 0, 16, .inl (upd (fun _ => nI 0) 0 (-1)))), (gan, .inl (cs 0, 16, .inl (fun _ => nI 0))), (gpr, .inl (cs 0, 16, .inl (fun _ => nI 0))), (gde, .inl (cs 0, 16, .inl (fun _ => nI 0))), (gme, .inl (cs 0, 8, .inl (fun _ => nI 0))), (hgr, .inr (3, [.int (nI 1), .ref gs, .ref g1r, .ref g2r, .ref gan, .ref gpr, .ref gde, .ref gme]))] H := hP
  have hD : va_D A [(gs, .inl (cs 0, 16, .inl (upd (fun _ => nI 0) 0 (nI i)))), (g1r, .inl (cs 0, 16, .inl (upd (fun _ => nI 0) 0 (-1)))), (g2r, .inl (cs 0, 16, .inl (upd (fun _ => nI 0) 0 (-1)))), (gan, .inl (cs 0, 16, .inl (fun _ => nI 0))), (gpr, .inl (cs 0, 16, .inl (fun _ => nI 0))), (gde, .inl (cs 0, 16, .inl (fun _ => nI 0))), (gme, .inl (cs 0, 8, .inl (fun _ => nI 0))), (hgr, .inr (3, [.int (nI 1), .ref gs, .ref g1r, .ref g2r, .ref gan, .ref gpr, .ref gde, .ref gme]))] := hD
  subst hw_r_3
  refine lv_ior hx hb dX3_add_56 ?_
  refine lv_topi (nm_r (e' := nI 0) (by decide) ?_)
  refine xiast C hP hD hS 3 rfl 0 rfl (by decide) (by decide) dX3_add_57 (fun H locs hP hD hS => ?_)
  have hP : va_P D vwCl [(gs, .inl (cs 0, 16, .inl (upd (fun _ => nI 0) 0 (nI i)))), (g1r, .inl (cs 0, 16, .inl (upd (fun _ => nI 0) 0 (-1)))), (g2r, .inl (cs 0, 16, .inl (upd (fun _ => nI 0) 0 (-1)))), (gan, .inl (cs 0, 16, .inl (upd (fun _ => nI 0) 0 (nI 0)))), (gpr, .inl (cs 0, 16, .inl (fun _ => nI 0))), (gde, .inl (cs 0, 16, .inl (fun _ => nI 0))), (gme, .inl (cs 0, 8, .inl (fun _ => nI 0))), (hgr, .inr (3, [.int (nI 1), .ref gs, .ref g1r, .ref g2r, .ref gan, .ref gpr, .ref gde, .ref gme]))] H := hP
  have hD : va_D A [(gs, .inl (cs 0, 16, .inl (upd (fun _ => nI 0) 0 (nI i)))), (g1r, .inl (cs 0, 16, .inl (upd (fun _ => nI 0) 0 (-1)))), (g2r, .inl (cs 0, 16, .inl (upd (fun _ => nI 0) 0 (-1)))), (gan, .inl (cs 0, 16, .inl (upd (fun _ => nI 0) 0 (nI 0)))), (gpr, .inl (cs 0, 16, .inl (fun _ => nI 0))), (gde, .inl (cs 0, 16, .inl (fun _ => nI 0))), (gme, .inl (cs 0, 8, .inl (fun _ => nI 0))), (hgr, .inr (3, [.int (nI 1), .ref gs, .ref g1r, .ref g2r, .ref gan, .ref gpr, .ref gde, .ref gme]))] := hD
  refine lv_aload_n hx hb dX3_add_58 rfl (lv_at hl 1 rfl) ?_
  refine xget C hP 7 rfl rfl zuX3 5 (by decide) zw1_207 rfl dX3_add_59 ?_
  refine lv_iload hx hb dX3_add_62 (lv_at hl 0 rfl) ?_
  refine lv_iconst (v := nI 0) hx hb dX3_add_64 (by decide) ?_
  refine xiast C hP hD hS 4 rfl 0 rfl (by decide) (by decide) dX3_add_65 (fun H locs hP hD hS => ?_)
  have hP : va_P D vwCl [(gs, .inl (cs 0, 16, .inl (upd (fun _ => nI 0) 0 (nI i)))), (g1r, .inl (cs 0, 16, .inl (upd (fun _ => nI 0) 0 (-1)))), (g2r, .inl (cs 0, 16, .inl (upd (fun _ => nI 0) 0 (-1)))), (gan, .inl (cs 0, 16, .inl (upd (fun _ => nI 0) 0 (nI 0)))), (gpr, .inl (cs 0, 16, .inl (upd (fun _ => nI 0) 0 (nI 0)))), (gde, .inl (cs 0, 16, .inl (fun _ => nI 0))), (gme, .inl (cs 0, 8, .inl (fun _ => nI 0))), (hgr, .inr (3, [.int (nI 1), .ref gs, .ref g1r, .ref g2r, .ref gan, .ref gpr, .ref gde, .ref gme]))] H := hP
  have hD : va_D A [(gs, .inl (cs 0, 16, .inl (upd (fun _ => nI 0) 0 (nI i)))), (g1r, .inl (cs 0, 16, .inl (upd (fun _ => nI 0) 0 (-1)))), (g2r, .inl (cs 0, 16, .inl (upd (fun _ => nI 0) 0 (-1)))), (gan, .inl (cs 0, 16, .inl (upd (fun _ => nI 0) 0 (nI 0)))), (gpr, .inl (cs 0, 16, .inl (upd (fun _ => nI 0) 0 (nI 0)))), (gde, .inl (cs 0, 16, .inl (fun _ => nI 0))), (gme, .inl (cs 0, 8, .inl (fun _ => nI 0))), (hgr, .inr (3, [.int (nI 1), .ref gs, .ref g1r, .ref g2r, .ref gan, .ref gpr, .ref gde, .ref gme]))] := hD
  refine lv_aload_n hx hb dX3_add_66 rfl (lv_at hl 1 rfl) ?_
  refine xget C hP 7 rfl rfl zuX3 6 (by decide) zw1_210 rfl dX3_add_67 ?_
  refine lv_iload hx hb dX3_add_70 (lv_at hl 0 rfl) ?_
  refine lv_aload_n hx hb dX3_add_72 rfl (lv_at hl 1 rfl) ?_
  refine lv_iload_n hx hb dX3_add_73 rfl (lv_at hl 3 rfl) ?_
  refine xi (wr := [(gs, .inl (cs 0, 16, .inl (upd (fun _ => nI 0) 0 (nI i)))), (g1r, .inl (cs 0, 16, .inl (upd (fun _ => nI 0) 0 (-1)))), (g2r, .inl (cs 0, 16, .inl (upd (fun _ => nI 0) 0 (-1)))), (gan, .inl (cs 0, 16, .inl (upd (fun _ => nI 0) 0 (nI 0)))), (gpr, .inl (cs 0, 16, .inl (upd (fun _ => nI 0) 0 (nI 0)))), (gde, .inl (cs 0, 16, .inl (fun _ => nI 0))), (gme, .inl (cs 0, 8, .inl (fun _ => nI 0)))]) (xV (As := [.int (-1)]) (rest := [.int (nI 0), .ref gde]) C (c_X3_depthBelow_m l D cs hgr gs g1r g2r gan gpr gde gme) kX3_51 hP hD [7] rfl (by decide +kernel) 0 rfl rfl rfl ⟨Nat.le_of_ble_eq_true rfl, Nat.le_of_ble_eq_true rfl⟩ rfl hl.1 rfl (Nat.le_of_ble_eq_true rfl) dX3_add_74 ⟨Nat.le_of_ble_eq_true rfl, Nat.le_of_ble_eq_true rfl⟩) hP hD hS hA [7] [0, 1, 2, 3, 4, 5, 6] rfl rfl (by decide +kernel) (by decide +kernel) (fun r_5 u_6 H locs hw_r_5 hP hD hS => ?_)
  have hw_r_5 : r_5 = nI 0 := hw_r_5
  refine W.widen (k := 0) (n := 0) (Nat.le_of_ble_eq_true rfl) (Nat.le_of_ble_eq_true rfl) ?_
  have hP : va_P D vwCl [(gs, .inl (cs 0, 16, .inl (upd (fun _ => nI 0) 0 (nI i)))), (g1r, .inl (cs 0, 16, .inl (upd (fun _ => nI 0) 0 (-1)))), (g2r, .inl (cs 0, 16, .inl (upd (fun _ => nI 0) 0 (-1)))), (gan, .inl (cs 0, 16, .inl (upd (fun _ => nI 0) 0 (nI 0)))), (gpr, .inl (cs 0, 16, .inl (upd (fun _ => nI 0) 0 (nI 0)))), (gde, .inl (cs 0, 16, .inl (fun _ => nI 0))), (gme, .inl (cs 0, 8, .inl (fun _ => nI 0))), (hgr, .inr (3, [.int (nI 1), .ref gs, .ref g1r, .ref g2r, .ref gan, .ref gpr, .ref gde, .ref gme]))] H := hP
  have hD : va_D A [(gs, .inl (cs 0, 16, .inl (upd (fun _ => nI 0) 0 (nI i)))), (g1r, .inl (cs 0, 16, .inl (upd (fun _ => nI 0) 0 (-1)))), (g2r, .inl (cs 0, 16, .inl (upd (fun _ => nI 0) 0 (-1)))), (gan, .inl (cs 0, 16, .inl (upd (fun _ => nI 0) 0 (nI 0)))), (gpr, .inl (cs 0, 16, .inl (upd (fun _ => nI 0) 0 (nI 0)))), (gde, .inl (cs 0, 16, .inl (fun _ => nI 0))), (gme, .inl (cs 0, 8, .inl (fun _ => nI 0))), (hgr, .inr (3, [.int (nI 1), .ref gs, .ref g1r, .ref g2r, .ref gan, .ref gpr, .ref gde, .ref gme]))] := hD
  subst hw_r_5
  refine lv_aload_n hx hb dX3_add_77 rfl (lv_at hl 1 rfl) ?_
  refine lv_iload_n hx hb dX3_add_78 rfl (lv_at hl 4 rfl) ?_
  refine xi (wr := [(gs, .inl (cs 0, 16, .inl (upd (fun _ => nI 0) 0 (nI i)))), (g1r, .inl (cs 0, 16, .inl (upd (fun _ => nI 0) 0 (-1)))), (g2r, .inl (cs 0, 16, .inl (upd (fun _ => nI 0) 0 (-1)))), (gan, .inl (cs 0, 16, .inl (upd (fun _ => nI 0) 0 (nI 0)))), (gpr, .inl (cs 0, 16, .inl (upd (fun _ => nI 0) 0 (nI 0)))), (gde, .inl (cs 0, 16, .inl (fun _ => nI 0))), (gme, .inl (cs 0, 8, .inl (fun _ => nI 0)))]) (xV (As := [.int (-1)]) (rest := [.int (nI 0), .int (nI 0), .ref gde]) C (c_X3_depthBelow_m l D cs hgr gs g1r g2r gan gpr gde gme) kX3_51 hP hD [7] rfl (by decide +kernel) 0 rfl rfl rfl ⟨Nat.le_of_ble_eq_true rfl, Nat.le_of_ble_eq_true rfl⟩ rfl hl.1 rfl (Nat.le_of_ble_eq_true rfl) dX3_add_79 ⟨Nat.le_of_ble_eq_true rfl, Nat.le_of_ble_eq_true rfl⟩) hP hD hS hA [7] [0, 1, 2, 3, 4, 5, 6] rfl rfl (by decide +kernel) (by decide +kernel) (fun r_7 u_8 H locs hw_r_7 hP hD hS => ?_)
  have hw_r_7 : r_7 = nI 0 := hw_r_7
  refine W.widen (k := 0) (n := 0) (Nat.le_of_ble_eq_true rfl) (Nat.le_of_ble_eq_true rfl) ?_
  have hP : va_P D vwCl [(gs, .inl (cs 0, 16, .inl (upd (fun _ => nI 0) 0 (nI i)))), (g1r, .inl (cs 0, 16, .inl (upd (fun _ => nI 0) 0 (-1)))), (g2r, .inl (cs 0, 16, .inl (upd (fun _ => nI 0) 0 (-1)))), (gan, .inl (cs 0, 16, .inl (upd (fun _ => nI 0) 0 (nI 0)))), (gpr, .inl (cs 0, 16, .inl (upd (fun _ => nI 0) 0 (nI 0)))), (gde, .inl (cs 0, 16, .inl (fun _ => nI 0))), (gme, .inl (cs 0, 8, .inl (fun _ => nI 0))), (hgr, .inr (3, [.int (nI 1), .ref gs, .ref g1r, .ref g2r, .ref gan, .ref gpr, .ref gde, .ref gme]))] H := hP
  have hD : va_D A [(gs, .inl (cs 0, 16, .inl (upd (fun _ => nI 0) 0 (nI i)))), (g1r, .inl (cs 0, 16, .inl (upd (fun _ => nI 0) 0 (-1)))), (g2r, .inl (cs 0, 16, .inl (upd (fun _ => nI 0) 0 (-1)))), (gan, .inl (cs 0, 16, .inl (upd (fun _ => nI 0) 0 (nI 0)))), (gpr, .inl (cs 0, 16, .inl (upd (fun _ => nI 0) 0 (nI 0)))), (gde, .inl (cs 0, 16, .inl (fun _ => nI 0))), (gme, .inl (cs 0, 8, .inl (fun _ => nI 0))), (hgr, .inr (3, [.int (nI 1), .ref gs, .ref g1r, .ref g2r, .ref gan, .ref gpr, .ref gde, .ref gme]))] := hD
  subst hw_r_7
  refine va_mmax hx hb (C.2.2.1.trans hl.1.symm) hown (hz _ zw4_201) (hz _ zw4_202) (hz _ zw1_3) (hz _ zw4_203) (Nat.le_of_ble_eq_true rfl) (Nat.le_of_ble_eq_true rfl) (Nat.le_of_ble_eq_true rfl) (Nat.le_of_ble_eq_true rfl) dX3_add_82 ?_
  refine lv_topi (nm_r (e' := nI 0) (by decide) ?_)
  refine xiast C hP hD hS 5 rfl 0 rfl (by decide) (by decide) dX3_add_85 (fun H locs hP hD hS => ?_)
  have hP : va_P D vwCl [(gs, .inl (cs 0, 16, .inl (upd (fun _ => nI 0) 0 (nI i)))), (g1r, .inl (cs 0, 16, .inl (upd (fun _ => nI 0) 0 (-1)))), (g2r, .inl (cs 0, 16, .inl (upd (fun _ => nI 0) 0 (-1)))), (gan, .inl (cs 0, 16, .inl (upd (fun _ => nI 0) 0 (nI 0)))), (gpr, .inl (cs 0, 16, .inl (upd (fun _ => nI 0) 0 (nI 0)))), (gde, .inl (cs 0, 16, .inl (upd (fun _ => nI 0) 0 (nI 0)))), (gme, .inl (cs 0, 8, .inl (fun _ => nI 0))), (hgr, .inr (3, [.int (nI 1), .ref gs, .ref g1r, .ref g2r, .ref gan, .ref gpr, .ref gde, .ref gme]))] H := hP
  have hD : va_D A [(gs, .inl (cs 0, 16, .inl (upd (fun _ => nI 0) 0 (nI i)))), (g1r, .inl (cs 0, 16, .inl (upd (fun _ => nI 0) 0 (-1)))), (g2r, .inl (cs 0, 16, .inl (upd (fun _ => nI 0) 0 (-1)))), (gan, .inl (cs 0, 16, .inl (upd (fun _ => nI 0) 0 (nI 0)))), (gpr, .inl (cs 0, 16, .inl (upd (fun _ => nI 0) 0 (nI 0)))), (gde, .inl (cs 0, 16, .inl (upd (fun _ => nI 0) 0 (nI 0)))), (gme, .inl (cs 0, 8, .inl (fun _ => nI 0))), (hgr, .inr (3, [.int (nI 1), .ref gs, .ref g1r, .ref g2r, .ref gan, .ref gpr, .ref gde, .ref gme]))] := hD
  refine lv_aload_n hx hb dX3_add_86 rfl (lv_at hl 1 rfl) ?_
  refine xget C hP 7 rfl rfl zuX3 7 (by decide) zw1_212 rfl dX3_add_87 ?_
  refine lv_iload_n hx hb dX3_add_90 rfl (lv_at hl 2 rfl) ?_
  refine lv_dup2_11 hx hb dX3_add_91 rfl rfl ?_
  refine xiald C hP 6 rfl i rfl (by omega) (by decide) dX3_add_92 ?_
  refine lv_iconst (v := nI 1) hx hb dX3_add_93 (by decide) ?_
  refine lv_iload hx hb dX3_add_94 (lv_at hl 0 rfl) ?_
  refine lv_ishl hx hb dX3_add_96 ?_
  refine lv_topi (nm_r (e' := nI 1) (by decide) ?_)
  refine lv_ior hx hb dX3_add_97 ?_
  refine lv_topi (nm_r (e' := nI 1) (by decide) ?_)
  refine xiast C hP hD hS 6 rfl i rfl (by omega) (by decide) dX3_add_98 (fun H locs hP hD hS => ?_)
  have hP : va_P D vwCl [(gs, .inl (cs 0, 16, .inl (upd (fun _ => nI 0) 0 (nI i)))), (g1r, .inl (cs 0, 16, .inl (upd (fun _ => nI 0) 0 (-1)))), (g2r, .inl (cs 0, 16, .inl (upd (fun _ => nI 0) 0 (-1)))), (gan, .inl (cs 0, 16, .inl (upd (fun _ => nI 0) 0 (nI 0)))), (gpr, .inl (cs 0, 16, .inl (upd (fun _ => nI 0) 0 (nI 0)))), (gde, .inl (cs 0, 16, .inl (upd (fun _ => nI 0) 0 (nI 0)))), (gme, .inl (cs 0, 8, .inl (upd (fun _ => nI 0) i (nI 1)))), (hgr, .inr (3, [.int (nI 1), .ref gs, .ref g1r, .ref g2r, .ref gan, .ref gpr, .ref gde, .ref gme]))] H := hP
  have hD : va_D A [(gs, .inl (cs 0, 16, .inl (upd (fun _ => nI 0) 0 (nI i)))), (g1r, .inl (cs 0, 16, .inl (upd (fun _ => nI 0) 0 (-1)))), (g2r, .inl (cs 0, 16, .inl (upd (fun _ => nI 0) 0 (-1)))), (gan, .inl (cs 0, 16, .inl (upd (fun _ => nI 0) 0 (nI 0)))), (gpr, .inl (cs 0, 16, .inl (upd (fun _ => nI 0) 0 (nI 0)))), (gde, .inl (cs 0, 16, .inl (upd (fun _ => nI 0) 0 (nI 0)))), (gme, .inl (cs 0, 8, .inl (upd (fun _ => nI 0) i (nI 1)))), (hgr, .inr (3, [.int (nI 1), .ref gs, .ref g1r, .ref g2r, .ref gan, .ref gpr, .ref gde, .ref gme]))] := hD
  refine lv_iconst (v := nI 0) hx hb dX3_add_99 (by decide) ?_
  refine lv_istore (lv' := [(5, .int (nI 0)), (4, .int (nI 0)), (0, .ref hgr), (1, .int (nI i)), (2, .int (-1)), (3, .int (-1))]) hx hb dX3_add_100 hl (by decide) rfl (fun ls hl => ?_)
  refine lv_iload hx hb dX3_add_102 (lv_at hl 0 rfl) ?_
  refine lv_iload hx hb dX3_add_104 (lv_at hl 1 rfl) ?_
  refine lv_icmp_ge (tgt := 140) hx hb dX3_add_106 (by decide) (fun _ => ?_) (fun c => absurd (by decide) c)
  refine lv_iload hx hb dX3_add_140 (lv_at hl 1 rfl) ?_
  exact xreti C () rfl (xP_map hP [] rfl) (hD.sub [] (by decide +kernel) rfl) hS (Nat.le_of_ble_eq_true rfl) (Nat.le_of_ble_eq_true rfl) rfl dX3_add_142

set_option maxHeartbeats 4000000 in
set_option maxRecDepth 100000 in
theorem c_X3_widestOf_z (l : Launch) (D : va_G) (cs : Nat → ClassId) (hgr gs g1r g2r gan gpr gde gme : Nat) (x : Int32) : xMet l D cs yX3_widestOf cX3_widestOf 7 (some .int) ({ frames := 0, cells := 0, slots := 0, locals := 0 } : Room) [.ref hgr, .int x, .int (nI 0)] [(hgr, .inr (3, [.int (nI 0), .ref gs, .ref g1r, .ref g2r, .ref gan, .ref gpr, .ref gde, .ref gme]))] (xQi D (fun (r : Int32) (_u : Unit) => r = nI 0) (fun (_u : Unit) => [(hgr, .inr (3, [.int (nI 0), .ref gs, .ref g1r, .ref g2r, .ref gan, .ref gpr, .ref gde, .ref gme]))])) := by
  refine xMet.intro (by decide) (Nat.le_of_ble_eq_true rfl) ?_
  intro p e s m args below meth c A ls C hP hD hS hl
  have hx := C.1
  have hb := C.2.1
  have hz := C.2.2.2.2.1
  have hown := C.2.2.2.1
  have hA := C.2.2.2.2.2.2.2.2.2
  have hAO := C.2.2.2.2.2.2.2.2.1.2.2
  have hl : lv_has ls 7 [(0, .ref hgr), (1, .int x), (2, .int (nI 0))] := hl
  obtain ⟨H, hH⟩ : ∃ H, H = s.heap := ⟨_, rfl⟩
  have hP : va_P D vwCl [(hgr, .inr (3, [.int (nI 0), .ref gs, .ref g1r, .ref g2r, .ref gan, .ref gpr, .ref gde, .ref gme]))] H := by rw [hH]; exact hP
  have hS : va_S A s.heap H [] := by rw [hH]; exact hS
  obtain ⟨locs, hlocs⟩ : ∃ z : List Loc, z = [] := ⟨_, rfl⟩
  rw [← hlocs] at hS
  suffices hW : W p l e ({ frames := 0, cells := 0, slots := 0, locals := 0 } : Room) s m args below meth c H locs 0 0 (MQ below ((xQi D (fun (r : Int32) (_u : Unit) => r = nI 0) (fun (_u : Unit) => [(hgr, .inr (3, [.int (nI 0), .ref gs, .ref g1r, .ref g2r, .ref gan, .ref gpr, .ref gde, .ref gme]))])) A) args s 0 0 A) (F0 m 0 ls []) by rw [hlocs, hH] at hW; exact hW
  refine lv_iload_n hx hb dX3_widestOf_0 rfl (lv_at hl 2 rfl) ?_
  refine lv_istore_n (lv' := [(3, .int (nI 0)), (0, .ref hgr), (1, .int x), (2, .int (nI 0))]) hx hb dX3_widestOf_1 rfl hl (by decide) rfl (fun ls hl => ?_)
  refine lv_iload_n hx hb dX3_widestOf_2 rfl (lv_at hl 0 rfl) ?_
  refine lv_aload_n hx hb dX3_widestOf_3 rfl (lv_at hl 1 rfl) ?_
  refine xget C hP 0 rfl rfl zuX3 0 (by decide) zw1_195 rfl dX3_widestOf_4 ?_
  refine lv_icmp_ge (tgt := 94) hx hb dX3_widestOf_7 (by decide) (fun _ => ?_) (fun c => absurd (by decide) c)
  refine lv_iconst (v := nI 0) hx hb dX3_widestOf_94 (by decide) ?_
  exact xreti C () rfl hP hD hS (Nat.le_of_ble_eq_true rfl) (Nat.le_of_ble_eq_true rfl) rfl dX3_widestOf_95

set_option maxHeartbeats 4000000 in
set_option maxRecDepth 100000 in
theorem c_X3_widest_z (l : Launch) (D : va_G) (cs : Nat → ClassId) (hgr gs g1r g2r gan gpr gde gme : Nat) : xMet l D cs yX3_widest cX3_widest 1 (some .int) ({ frames := 1, cells := 0, slots := 0, locals := 26 } : Room) [.ref hgr] [(hgr, .inr (3, [.int (nI 0), .ref gs, .ref g1r, .ref g2r, .ref gan, .ref gpr, .ref gde, .ref gme]))] (xQi D (fun (r : Int32) (_u : Unit) => r = nI 0) (fun (_u : Unit) => [(hgr, .inr (3, [.int (nI 0), .ref gs, .ref g1r, .ref g2r, .ref gan, .ref gpr, .ref gde, .ref gme]))])) := by
  refine xMet.intro (by decide) (Nat.le_of_ble_eq_true rfl) ?_
  intro p e s m args below meth c A ls C hP hD hS hl
  have hx := C.1
  have hb := C.2.1
  have hz := C.2.2.2.2.1
  have hown := C.2.2.2.1
  have hA := C.2.2.2.2.2.2.2.2.2
  have hAO := C.2.2.2.2.2.2.2.2.1.2.2
  have hl : lv_has ls 1 [(0, .ref hgr)] := hl
  obtain ⟨H, hH⟩ : ∃ H, H = s.heap := ⟨_, rfl⟩
  have hP : va_P D vwCl [(hgr, .inr (3, [.int (nI 0), .ref gs, .ref g1r, .ref g2r, .ref gan, .ref gpr, .ref gde, .ref gme]))] H := by rw [hH]; exact hP
  have hS : va_S A s.heap H [] := by rw [hH]; exact hS
  obtain ⟨locs, hlocs⟩ : ∃ z : List Loc, z = [] := ⟨_, rfl⟩
  rw [← hlocs] at hS
  suffices hW : W p l e ({ frames := 1, cells := 0, slots := 0, locals := 26 } : Room) s m args below meth c H locs 0 0 (MQ below ((xQi D (fun (r : Int32) (_u : Unit) => r = nI 0) (fun (_u : Unit) => [(hgr, .inr (3, [.int (nI 0), .ref gs, .ref g1r, .ref g2r, .ref gan, .ref gpr, .ref gde, .ref gme]))])) A) args s 0 0 A) (F0 m 0 ls []) by rw [hlocs, hH] at hW; exact hW
  refine lv_aload_n hx hb dX3_widest_0 rfl (lv_at hl 0 rfl) ?_
  refine lv_iconst (v := nI 1) hx hb dX3_widest_1 (by decide) ?_
  refine lv_aload_n hx hb dX3_widest_2 rfl (lv_at hl 0 rfl) ?_
  refine xget C hP 0 rfl rfl zuX3 0 (by decide) zw1_195 rfl dX3_widest_3 ?_
  refine lv_ishl hx hb dX3_widest_6 ?_
  refine lv_topi (nm_r (e' := nI 1) (by decide) ?_)
  refine lv_iconst (v := nI 1) hx hb dX3_widest_7 (by decide) ?_
  refine lv_isub hx hb dX3_widest_8 ?_
  refine lv_topi (nm_r (e' := nI 0) (by decide) ?_)
  refine lv_iconst (v := nI 0) hx hb dX3_widest_9 (by decide) ?_
  refine xi (wr := []) (xS (As := [.ref hgr, .int (nI 0), .int (nI 0)]) (rest := []) C (c_X3_widestOf_z l D cs hgr gs g1r g2r gan gpr gde gme (nI 0)) kX3_60 hP hD [0] rfl (by decide +kernel) ⟨Nat.le_of_ble_eq_true rfl, Nat.le_of_ble_eq_true rfl⟩ rfl hl.1 rfl (Nat.le_of_ble_eq_true rfl) dX3_widest_10 ⟨Nat.le_of_ble_eq_true rfl, Nat.le_of_ble_eq_true rfl⟩) hP hD hS hA [0] [] rfl rfl (by decide +kernel) (by decide +kernel) (fun r_1 u_2 H locs hw_r_1 hP hD hS => ?_)
  have hw_r_1 : r_1 = nI 0 := hw_r_1
  refine W.widen (k := 0) (n := 0) (Nat.le_of_ble_eq_true rfl) (Nat.le_of_ble_eq_true rfl) ?_
  have hP : va_P D vwCl [(hgr, .inr (3, [.int (nI 0), .ref gs, .ref g1r, .ref g2r, .ref gan, .ref gpr, .ref gde, .ref gme]))] H := hP
  have hD : va_D A [(hgr, .inr (3, [.int (nI 0), .ref gs, .ref g1r, .ref g2r, .ref gan, .ref gpr, .ref gde, .ref gme]))] := hD
  subst hw_r_1
  exact xreti C () rfl hP hD hS (Nat.le_of_ble_eq_true rfl) (Nat.le_of_ble_eq_true rfl) rfl dX3_widest_13

set_option maxHeartbeats 4000000 in
set_option maxRecDepth 100000 in
theorem c_X6_init_z (l : Launch) (D : va_G) (cs : Nat → ClassId) (hpo hr hg hgr : Nat) : xMet l D cs yX6_init cX6_init 4 none ({ frames := 1, cells := 0, slots := 0, locals := 20 } : Room) [.ref hpo, .ref hr, .ref hg, .ref hgr] [(hpo, .inr (6, [.null, .null, .null]))] (xQv D (fun (_u : Unit) => True) (fun (_u : Unit) => [(hpo, .inr (6, [.ref hr, .ref hg, .ref hgr]))])) := by
  refine xMet.intro (by decide) (Nat.le_of_ble_eq_true rfl) ?_
  intro p e s m args below meth c A ls C hP hD hS hl
  have hx := C.1
  have hb := C.2.1
  have hz := C.2.2.2.2.1
  have hown := C.2.2.2.1
  have hA := C.2.2.2.2.2.2.2.2.2
  have hAO := C.2.2.2.2.2.2.2.2.1.2.2
  have hl : lv_has ls 4 [(0, .ref hpo), (1, .ref hr), (2, .ref hg), (3, .ref hgr)] := hl
  obtain ⟨H, hH⟩ : ∃ H, H = s.heap := ⟨_, rfl⟩
  have hP : va_P D vwCl [(hpo, .inr (6, [.null, .null, .null]))] H := by rw [hH]; exact hP
  have hS : va_S A s.heap H [] := by rw [hH]; exact hS
  obtain ⟨locs, hlocs⟩ : ∃ z : List Loc, z = [] := ⟨_, rfl⟩
  rw [← hlocs] at hS
  suffices hW : W p l e ({ frames := 1, cells := 0, slots := 0, locals := 20 } : Room) s m args below meth c H locs 0 0 (MQ below ((xQv D (fun (_u : Unit) => True) (fun (_u : Unit) => [(hpo, .inr (6, [.ref hr, .ref hg, .ref hgr]))])) A) args s 0 0 A) (F0 m 0 ls []) by rw [hlocs, hH] at hW; exact hW
  refine lv_aload_n hx hb dX6_init_0 rfl (lv_at hl 0 rfl) ?_
  refine W.objInit hx hb hown (hz _ zw2_22) (hz _ zw1_30) (hz _ zw1_31) rfl (by rw [C.2.2.1]; exact hl.1) rfl dX6_init_1 (Nat.le_of_ble_eq_true rfl) (Nat.le_of_ble_eq_true rfl) ?_
  refine W.eq (g2 := F0 m 4 ls []) rfl ?_
  refine lv_aload_n hx hb dX6_init_4 rfl (lv_at hl 0 rfl) ?_
  refine lv_aload_n hx hb dX6_init_5 rfl (lv_at hl 1 rfl) ?_
  refine xputF C hP hD hS 0 rfl rfl zuX6 tyX6 tyX6_ok nmX6 0 (by decide) zw2_23 rfl rfl rfl rfl rfl (Nat.le_of_ble_eq_true rfl) dX6_init_6 (fun H locs hP hD hS => ?_)
  have hP : va_P D vwCl [(hpo, .inr (6, [.ref hr, .null, .null]))] H := hP
  have hD : va_D A [(hpo, .inr (6, [.ref hr, .null, .null]))] := hD
  refine lv_aload_n hx hb dX6_init_9 rfl (lv_at hl 0 rfl) ?_
  refine lv_aload_n hx hb dX6_init_10 rfl (lv_at hl 2 rfl) ?_
  refine xputF C hP hD hS 0 rfl rfl zuX6 tyX6 tyX6_ok nmX6 1 (by decide) zw2_24 rfl rfl rfl rfl rfl (Nat.le_of_ble_eq_true rfl) dX6_init_11 (fun H locs hP hD hS => ?_)
  have hP : va_P D vwCl [(hpo, .inr (6, [.ref hr, .ref hg, .null]))] H := hP
  have hD : va_D A [(hpo, .inr (6, [.ref hr, .ref hg, .null]))] := hD
  refine lv_aload_n hx hb dX6_init_14 rfl (lv_at hl 0 rfl) ?_
  refine lv_aload_n hx hb dX6_init_15 rfl (lv_at hl 3 rfl) ?_
  refine xputF C hP hD hS 0 rfl rfl zuX6 tyX6 tyX6_ok nmX6 2 (by decide) zw2_25 rfl rfl rfl rfl rfl (Nat.le_of_ble_eq_true rfl) dX6_init_16 (fun H locs hP hD hS => ?_)
  have hP : va_P D vwCl [(hpo, .inr (6, [.ref hr, .ref hg, .ref hgr]))] H := hP
  have hD : va_D A [(hpo, .inr (6, [.ref hr, .ref hg, .ref hgr]))] := hD
  exact xretv C () trivial hP hD hS (Nat.le_of_ble_eq_true rfl) (Nat.le_of_ble_eq_true rfl) dX6_init_19

set_option maxHeartbeats 4000000 in
set_option maxRecDepth 100000 in
theorem c_X6_unpolled_z (l : Launch) (D : va_G) (cs : Nat → ClassId) (hpo hr hg hgr sm ca nd kd lk vw gs g1r g2r gan gpr gde gme : Nat) (v sv : Nat → Nat) (x : Int32) : xMet l D cs yX6_unpolled cX6_unpolled 2 (some .int) ({ frames := 1, cells := 0, slots := 0, locals := 21 } : Room) [.ref hpo, .int x] [(hpo, .inr (6, [.ref hr, .ref hg, .ref hgr])), (hr, .inr (7, [.int (nI 4), .int (nI 2), .int (nI 2), .int (nI 3), .int (nI 2), .int (nI 1), .ref sm, .int (nI 3), .ref ca])), (hg, .inr (4, [.ref nd, .ref kd, .ref lk, .ref vw])), (kd, .inl (cs 0, 8, .inl (fun _ => nI 0))), (vw, .inl (cs 2, 8, .inr (.inr (.inr (.inr (fun i => some (v i))))))), (v 0, .inr (10, [.int (nI 0), .int (nI 0), .ref (sv 0)])), (v 1, .inr (10, [.int (nI 0), .int (nI 0), .ref (sv 1)])), (v 2, .inr (10, [.int (nI 0), .int (nI 0), .ref (sv 2)])), (v 3, .inr (10, [.int (nI 0), .int (nI 0), .ref (sv 3)])), (hgr, .inr (3, [.int (nI 0), .ref gs, .ref g1r, .ref g2r, .ref gan, .ref gpr, .ref gde, .ref gme]))] (xQi D (fun (r : Int32) (_u : Unit) => r = nI 0) (fun (_u : Unit) => [(hpo, .inr (6, [.ref hr, .ref hg, .ref hgr])), (hr, .inr (7, [.int (nI 4), .int (nI 2), .int (nI 2), .int (nI 3), .int (nI 2), .int (nI 1), .ref sm, .int (nI 3), .ref ca])), (hg, .inr (4, [.ref nd, .ref kd, .ref lk, .ref vw])), (kd, .inl (cs 0, 8, .inl (fun _ => nI 0))), (vw, .inl (cs 2, 8, .inr (.inr (.inr (.inr (fun i => some (v i))))))), (v 0, .inr (10, [.int (nI 0), .int (nI 0), .ref (sv 0)])), (v 1, .inr (10, [.int (nI 0), .int (nI 0), .ref (sv 1)])), (v 2, .inr (10, [.int (nI 0), .int (nI 0), .ref (sv 2)])), (v 3, .inr (10, [.int (nI 0), .int (nI 0), .ref (sv 3)])), (hgr, .inr (3, [.int (nI 0), .ref gs, .ref g1r, .ref g2r, .ref gan, .ref gpr, .ref gde, .ref gme]))])) := by
  refine xMet.intro (by decide) (Nat.le_of_ble_eq_true rfl) ?_
  intro p e s m args below meth c A ls C hP hD hS hl
  have hx := C.1
  have hb := C.2.1
  have hz := C.2.2.2.2.1
  have hown := C.2.2.2.1
  have hA := C.2.2.2.2.2.2.2.2.2
  have hAO := C.2.2.2.2.2.2.2.2.1.2.2
  have hl : lv_has ls 2 [(0, .ref hpo), (1, .int x)] := hl
  obtain ⟨H, hH⟩ : ∃ H, H = s.heap := ⟨_, rfl⟩
  have hP : va_P D vwCl [(hpo, .inr (6, [.ref hr, .ref hg, .ref hgr])), (hr, .inr (7, [.int (nI 4), .int (nI 2), .int (nI 2), .int (nI 3), .int (nI 2), .int (nI 1), .ref sm, .int (nI 3), .ref ca])), (hg, .inr (4, [.ref nd, .ref kd, .ref lk, .ref vw])), (kd, .inl (cs 0, 8, .inl (fun _ => nI 0))), (vw, .inl (cs 2, 8, .inr (.inr (.inr (.inr (fun i => some (v i))))))), (v 0, .inr (10, [.int (nI 0), .int (nI 0), .ref (sv 0)])), (v 1, .inr (10, [.int (nI 0), .int (nI 0), .ref (sv 1)])), (v 2, .inr (10, [.int (nI 0), .int (nI 0), .ref (sv 2)])), (v 3, .inr (10, [.int (nI 0), .int (nI 0), .ref (sv 3)])), (hgr, .inr (3, [.int (nI 0), .ref gs, .ref g1r, .ref g2r, .ref gan, .ref gpr, .ref gde, .ref gme]))] H := by rw [hH]; exact hP
  have hS : va_S A s.heap H [] := by rw [hH]; exact hS
  obtain ⟨locs, hlocs⟩ : ∃ z : List Loc, z = [] := ⟨_, rfl⟩
  rw [← hlocs] at hS
  suffices hW : W p l e ({ frames := 1, cells := 0, slots := 0, locals := 21 } : Room) s m args below meth c H locs 0 0 (MQ below ((xQi D (fun (r : Int32) (_u : Unit) => r = nI 0) (fun (_u : Unit) => [(hpo, .inr (6, [.ref hr, .ref hg, .ref hgr])), (hr, .inr (7, [.int (nI 4), .int (nI 2), .int (nI 2), .int (nI 3), .int (nI 2), .int (nI 1), .ref sm, .int (nI 3), .ref ca])), (hg, .inr (4, [.ref nd, .ref kd, .ref lk, .ref vw])), (kd, .inl (cs 0, 8, .inl (fun _ => nI 0))), (vw, .inl (cs 2, 8, .inr (.inr (.inr (.inr (fun i => some (v i))))))), (v 0, .inr (10, [.int (nI 0), .int (nI 0), .ref (sv 0)])), (v 1, .inr (10, [.int (nI 0), .int (nI 0), .ref (sv 1)])), (v 2, .inr (10, [.int (nI 0), .int (nI 0), .ref (sv 2)])), (v 3, .inr (10, [.int (nI 0), .int (nI 0), .ref (sv 3)])), (hgr, .inr (3, [.int (nI 0), .ref gs, .ref g1r, .ref g2r, .ref gan, .ref gpr, .ref gde, .ref gme]))])) A) args s 0 0 A) (F0 m 0 ls []) by rw [hlocs, hH] at hW; exact hW
  refine lv_aload_n hx hb dX6_unpolled_0 rfl (lv_at hl 0 rfl) ?_
  refine xget C hP 0 rfl rfl zuX6 0 (by decide) zw2_23 rfl dX6_unpolled_1 ?_
  refine lv_iload_n hx hb dX6_unpolled_4 rfl (lv_at hl 1 rfl) ?_
  refine xi (wr := [(hpo, .inr (6, [.ref hr, .ref hg, .ref hgr])), (hg, .inr (4, [.ref nd, .ref kd, .ref lk, .ref vw])), (kd, .inl (cs 0, 8, .inl (fun _ => nI 0))), (vw, .inl (cs 2, 8, .inr (.inr (.inr (.inr (fun i => some (v i))))))), (v 0, .inr (10, [.int (nI 0), .int (nI 0), .ref (sv 0)])), (v 1, .inr (10, [.int (nI 0), .int (nI 0), .ref (sv 1)])), (v 2, .inr (10, [.int (nI 0), .int (nI 0), .ref (sv 2)])), (v 3, .inr (10, [.int (nI 0), .int (nI 0), .ref (sv 3)])), (hgr, .inr (3, [.int (nI 0), .ref gs, .ref g1r, .ref g2r, .ref gan, .ref gpr, .ref gde, .ref gme]))]) (xV (As := [.int x]) (rest := []) C (c_X7_isNode l D cs hr sm ca 4 2 2 3 (nI 2) (nI 1) (nI 3) x) kX6_23 hP hD [1] rfl (by decide +kernel) 0 rfl rfl rfl ⟨Nat.le_of_ble_eq_true rfl, Nat.le_of_ble_eq_true rfl⟩ rfl hl.1 rfl (Nat.le_of_ble_eq_true rfl) dX6_unpolled_5 ⟨Nat.le_of_ble_eq_true rfl, Nat.le_of_ble_eq_true rfl⟩) hP hD hS hA [1] [0, 2, 3, 4, 5, 6, 7, 8, 9] rfl rfl (by decide +kernel) (by decide +kernel) (fun r_1 u_2 H locs hw_r_1 hP hD hS => ?_)
  have hw_r_1 : (r_1 = nI 1 ∧ okN 4 x) ∨ (r_1 = nI 0 ∧ ¬ okN 4 x) := hw_r_1
  refine W.widen (k := 0) (n := 0) (Nat.le_of_ble_eq_true rfl) (Nat.le_of_ble_eq_true rfl) ?_
  have hP : va_P D vwCl [(hpo, .inr (6, [.ref hr, .ref hg, .ref hgr])), (hg, .inr (4, [.ref nd, .ref kd, .ref lk, .ref vw])), (kd, .inl (cs 0, 8, .inl (fun _ => nI 0))), (vw, .inl (cs 2, 8, .inr (.inr (.inr (.inr (fun i => some (v i))))))), (v 0, .inr (10, [.int (nI 0), .int (nI 0), .ref (sv 0)])), (v 1, .inr (10, [.int (nI 0), .int (nI 0), .ref (sv 1)])), (v 2, .inr (10, [.int (nI 0), .int (nI 0), .ref (sv 2)])), (v 3, .inr (10, [.int (nI 0), .int (nI 0), .ref (sv 3)])), (hgr, .inr (3, [.int (nI 0), .ref gs, .ref g1r, .ref g2r, .ref gan, .ref gpr, .ref gde, .ref gme])), (hr, .inr (7, [.int (nI 4), .int (nI 2), .int (nI 2), .int (nI 3), .int (nI 2), .int (nI 1), .ref sm, .int (nI 3), .ref ca]))] H := hP
  have hD : va_D A [(hpo, .inr (6, [.ref hr, .ref hg, .ref hgr])), (hg, .inr (4, [.ref nd, .ref kd, .ref lk, .ref vw])), (kd, .inl (cs 0, 8, .inl (fun _ => nI 0))), (vw, .inl (cs 2, 8, .inr (.inr (.inr (.inr (fun i => some (v i))))))), (v 0, .inr (10, [.int (nI 0), .int (nI 0), .ref (sv 0)])), (v 1, .inr (10, [.int (nI 0), .int (nI 0), .ref (sv 1)])), (v 2, .inr (10, [.int (nI 0), .int (nI 0), .ref (sv 2)])), (v 3, .inr (10, [.int (nI 0), .int (nI 0), .ref (sv 3)])), (hgr, .inr (3, [.int (nI 0), .ref gs, .ref g1r, .ref g2r, .ref gan, .ref gpr, .ref gde, .ref gme])), (hr, .inr (7, [.int (nI 4), .int (nI 2), .int (nI 2), .int (nI 3), .int (nI 2), .int (nI 1), .ref sm, .int (nI 3), .ref ca]))] := hD
  refine lv_if_eq (tgt := 23) hx hb dX6_unpolled_8 (by decide) (fun c_3 => ?_) (fun c_3 => ?_)
  · -- 8 t
    refine lv_iconst (v := nI 0) hx hb dX6_unpolled_23 (by decide) ?_
    exact xreti C () rfl (xP_map hP [0, 9, 1, 2, 3, 4, 5, 6, 7, 8] rfl) (hD.sub [0, 9, 1, 2, 3, 4, 5, 6, 7, 8] (by decide +kernel) rfl) hS (Nat.le_of_ble_eq_true rfl) (Nat.le_of_ble_eq_true rfl) rfl dX6_unpolled_24
  · -- 8 f
    have hok : okN 4 x := by rcases hw_r_1 with q | q; exact q.2; exact absurd q.1 c_3
    obtain ⟨j, h_j, rfl⟩ := okN_of hok (by decide)
    have hP : va_P D vwCl [(hpo, .inr (6, [.ref hr, .ref hg, .ref hgr])), (hg, .inr (4, [.ref nd, .ref kd, .ref lk, .ref vw])), (kd, .inl (cs 0, 8, .inl (fun _ => nI 0))), (vw, .inl (cs 2, 8, .inr (.inr (.inr (.inr (fun i => some (v i))))))), (v 0, .inr (10, [.int (nI 0), .int (nI 0), .ref (sv 0)])), (v 1, .inr (10, [.int (nI 0), .int (nI 0), .ref (sv 1)])), (v 2, .inr (10, [.int (nI 0), .int (nI 0), .ref (sv 2)])), (v 3, .inr (10, [.int (nI 0), .int (nI 0), .ref (sv 3)])), (hgr, .inr (3, [.int (nI 0), .ref gs, .ref g1r, .ref g2r, .ref gan, .ref gpr, .ref gde, .ref gme])), (hr, .inr (7, [.int (nI 4), .int (nI 2), .int (nI 2), .int (nI 3), .int (nI 2), .int (nI 1), .ref sm, .int (nI 3), .ref ca]))] H := hP
    have hD : va_D A [(hpo, .inr (6, [.ref hr, .ref hg, .ref hgr])), (hg, .inr (4, [.ref nd, .ref kd, .ref lk, .ref vw])), (kd, .inl (cs 0, 8, .inl (fun _ => nI 0))), (vw, .inl (cs 2, 8, .inr (.inr (.inr (.inr (fun i => some (v i))))))), (v 0, .inr (10, [.int (nI 0), .int (nI 0), .ref (sv 0)])), (v 1, .inr (10, [.int (nI 0), .int (nI 0), .ref (sv 1)])), (v 2, .inr (10, [.int (nI 0), .int (nI 0), .ref (sv 2)])), (v 3, .inr (10, [.int (nI 0), .int (nI 0), .ref (sv 3)])), (hgr, .inr (3, [.int (nI 0), .ref gs, .ref g1r, .ref g2r, .ref gan, .ref gpr, .ref gde, .ref gme])), (hr, .inr (7, [.int (nI 4), .int (nI 2), .int (nI 2), .int (nI 3), .int (nI 2), .int (nI 1), .ref sm, .int (nI 3), .ref ca]))] := hD
    rcases (show j = 0 ∨ j = 1 ∨ j = 2 ∨ j = 3 by omega) with rfl | rfl | rfl | rfl
    · -- j = 0
      have hP : va_P D vwCl [(hpo, .inr (6, [.ref hr, .ref hg, .ref hgr])), (hg, .inr (4, [.ref nd, .ref kd, .ref lk, .ref vw])), (kd, .inl (cs 0, 8, .inl (fun _ => nI 0))), (vw, .inl (cs 2, 8, .inr (.inr (.inr (.inr (fun i => some (v i))))))), (v 0, .inr (10, [.int (nI 0), .int (nI 0), .ref (sv 0)])), (v 1, .inr (10, [.int (nI 0), .int (nI 0), .ref (sv 1)])), (v 2, .inr (10, [.int (nI 0), .int (nI 0), .ref (sv 2)])), (v 3, .inr (10, [.int (nI 0), .int (nI 0), .ref (sv 3)])), (hgr, .inr (3, [.int (nI 0), .ref gs, .ref g1r, .ref g2r, .ref gan, .ref gpr, .ref gde, .ref gme])), (hr, .inr (7, [.int (nI 4), .int (nI 2), .int (nI 2), .int (nI 3), .int (nI 2), .int (nI 1), .ref sm, .int (nI 3), .ref ca]))] H := hP
      have hD : va_D A [(hpo, .inr (6, [.ref hr, .ref hg, .ref hgr])), (hg, .inr (4, [.ref nd, .ref kd, .ref lk, .ref vw])), (kd, .inl (cs 0, 8, .inl (fun _ => nI 0))), (vw, .inl (cs 2, 8, .inr (.inr (.inr (.inr (fun i => some (v i))))))), (v 0, .inr (10, [.int (nI 0), .int (nI 0), .ref (sv 0)])), (v 1, .inr (10, [.int (nI 0), .int (nI 0), .ref (sv 1)])), (v 2, .inr (10, [.int (nI 0), .int (nI 0), .ref (sv 2)])), (v 3, .inr (10, [.int (nI 0), .int (nI 0), .ref (sv 3)])), (hgr, .inr (3, [.int (nI 0), .ref gs, .ref g1r, .ref g2r, .ref gan, .ref gpr, .ref gde, .ref gme])), (hr, .inr (7, [.int (nI 4), .int (nI 2), .int (nI 2), .int (nI 3), .int (nI 2), .int (nI 1), .ref sm, .int (nI 3), .ref ca]))] := hD
      refine lv_aload_n hx hb dX6_unpolled_11 rfl (lv_at hl 0 rfl) ?_
      refine xget C hP 0 rfl rfl zuX6 1 (by decide) zw2_24 rfl dX6_unpolled_12 ?_
      refine xget C hP 1 rfl rfl zuX4 1 (by decide) zw1_172 rfl dX6_unpolled_15 ?_
      refine lv_iload_n hx hb dX6_unpolled_18 rfl (lv_at hl 1 rfl) ?_
      refine xiald C hP 2 rfl 0 rfl (by decide) (by decide) dX6_unpolled_19 ?_
      refine lv_if_eq (tgt := 25) hx hb dX6_unpolled_20 (by decide) (fun _ => ?_) (fun c => absurd (by decide) c)
      refine lv_iconst (v := nI 1) hx hb dX6_unpolled_25 (by decide) ?_
      refine lv_aload_n hx hb dX6_unpolled_26 rfl (lv_at hl 0 rfl) ?_
      refine xget C hP 0 rfl rfl zuX6 2 (by decide) zw2_25 rfl dX6_unpolled_27 ?_
      refine xget C hP 8 rfl rfl zuX3 0 (by decide) zw1_196 rfl dX6_unpolled_30 ?_
      refine lv_ishl hx hb dX6_unpolled_33 ?_
      refine lv_topi (nm_r (e' := nI 1) (by decide) ?_)
      refine lv_iconst (v := nI 1) hx hb dX6_unpolled_34 (by decide) ?_
      refine lv_isub hx hb dX6_unpolled_35 ?_
      refine lv_topi (nm_r (e' := nI 0) (by decide) ?_)
      refine lv_aload_n hx hb dX6_unpolled_36 rfl (lv_at hl 0 rfl) ?_
      refine xget C hP 0 rfl rfl zuX6 1 (by decide) zw2_24 rfl dX6_unpolled_37 ?_
      refine xget C hP 1 rfl rfl zuX4 3 (by decide) zw1_178 rfl dX6_unpolled_40 ?_
      refine lv_iload_n hx hb dX6_unpolled_43 rfl (lv_at hl 1 rfl) ?_
      refine xaald C hP 3 2 rfl rfl rfl 0 rfl (by decide) (by decide) rfl dX6_unpolled_44 ?_
      refine xget C hP 4 rfl rfl zuX10 1 (by decide) zw1_144 rfl dX6_unpolled_45 ?_
      refine lv_iconst (v := (-1)) hx hb dX6_unpolled_48 (by decide) ?_
      refine lv_ixor hx hb dX6_unpolled_49 ?_
      refine lv_iand hx hb dX6_unpolled_50 ?_
      refine lv_topi (nm_r (e' := nI 0) (by decide) ?_)
      exact xreti C () rfl (xP_map hP [0, 9, 1, 2, 3, 4, 5, 6, 7, 8] rfl) (hD.sub [0, 9, 1, 2, 3, 4, 5, 6, 7, 8] (by decide +kernel) rfl) hS (Nat.le_of_ble_eq_true rfl) (Nat.le_of_ble_eq_true rfl) rfl dX6_unpolled_51
    · -- j = 1
      have hP : va_P D vwCl [(hpo, .inr (6, [.ref hr, .ref hg, .ref hgr])), (hg, .inr (4, [.ref nd, .ref kd, .ref lk, .ref vw])), (kd, .inl (cs 0, 8, .inl (fun _ => nI 0))), (vw, .inl (cs 2, 8, .inr (.inr (.inr (.inr (fun i => some (v i))))))), (v 0, .inr (10, [.int (nI 0), .int (nI 0), .ref (sv 0)])), (v 1, .inr (10, [.int (nI 0), .int (nI 0), .ref (sv 1)])), (v 2, .inr (10, [.int (nI 0), .int (nI 0), .ref (sv 2)])), (v 3, .inr (10, [.int (nI 0), .int (nI 0), .ref (sv 3)])), (hgr, .inr (3, [.int (nI 0), .ref gs, .ref g1r, .ref g2r, .ref gan, .ref gpr, .ref gde, .ref gme])), (hr, .inr (7, [.int (nI 4), .int (nI 2), .int (nI 2), .int (nI 3), .int (nI 2), .int (nI 1), .ref sm, .int (nI 3), .ref ca]))] H := hP
      have hD : va_D A [(hpo, .inr (6, [.ref hr, .ref hg, .ref hgr])), (hg, .inr (4, [.ref nd, .ref kd, .ref lk, .ref vw])), (kd, .inl (cs 0, 8, .inl (fun _ => nI 0))), (vw, .inl (cs 2, 8, .inr (.inr (.inr (.inr (fun i => some (v i))))))), (v 0, .inr (10, [.int (nI 0), .int (nI 0), .ref (sv 0)])), (v 1, .inr (10, [.int (nI 0), .int (nI 0), .ref (sv 1)])), (v 2, .inr (10, [.int (nI 0), .int (nI 0), .ref (sv 2)])), (v 3, .inr (10, [.int (nI 0), .int (nI 0), .ref (sv 3)])), (hgr, .inr (3, [.int (nI 0), .ref gs, .ref g1r, .ref g2r, .ref gan, .ref gpr, .ref gde, .ref gme])), (hr, .inr (7, [.int (nI 4), .int (nI 2), .int (nI 2), .int (nI 3), .int (nI 2), .int (nI 1), .ref sm, .int (nI 3), .ref ca]))] := hD
      refine lv_aload_n hx hb dX6_unpolled_11 rfl (lv_at hl 0 rfl) ?_
      refine xget C hP 0 rfl rfl zuX6 1 (by decide) zw2_24 rfl dX6_unpolled_12 ?_
      refine xget C hP 1 rfl rfl zuX4 1 (by decide) zw1_172 rfl dX6_unpolled_15 ?_
      refine lv_iload_n hx hb dX6_unpolled_18 rfl (lv_at hl 1 rfl) ?_
      refine xiald C hP 2 rfl 1 rfl (by decide) (by decide) dX6_unpolled_19 ?_
      refine lv_if_eq (tgt := 25) hx hb dX6_unpolled_20 (by decide) (fun _ => ?_) (fun c => absurd (by decide) c)
      refine lv_iconst (v := nI 1) hx hb dX6_unpolled_25 (by decide) ?_
      refine lv_aload_n hx hb dX6_unpolled_26 rfl (lv_at hl 0 rfl) ?_
      refine xget C hP 0 rfl rfl zuX6 2 (by decide) zw2_25 rfl dX6_unpolled_27 ?_
      refine xget C hP 8 rfl rfl zuX3 0 (by decide) zw1_196 rfl dX6_unpolled_30 ?_
      refine lv_ishl hx hb dX6_unpolled_33 ?_
      refine lv_topi (nm_r (e' := nI 1) (by decide) ?_)
      refine lv_iconst (v := nI 1) hx hb dX6_unpolled_34 (by decide) ?_
      refine lv_isub hx hb dX6_unpolled_35 ?_
      refine lv_topi (nm_r (e' := nI 0) (by decide) ?_)
      refine lv_aload_n hx hb dX6_unpolled_36 rfl (lv_at hl 0 rfl) ?_
      refine xget C hP 0 rfl rfl zuX6 1 (by decide) zw2_24 rfl dX6_unpolled_37 ?_
      refine xget C hP 1 rfl rfl zuX4 3 (by decide) zw1_178 rfl dX6_unpolled_40 ?_
      refine lv_iload_n hx hb dX6_unpolled_43 rfl (lv_at hl 1 rfl) ?_
      refine xaald C hP 3 2 rfl rfl rfl 1 rfl (by decide) (by decide) rfl dX6_unpolled_44 ?_
      refine xget C hP 5 rfl rfl zuX10 1 (by decide) zw1_144 rfl dX6_unpolled_45 ?_
      refine lv_iconst (v := (-1)) hx hb dX6_unpolled_48 (by decide) ?_
      refine lv_ixor hx hb dX6_unpolled_49 ?_
      refine lv_iand hx hb dX6_unpolled_50 ?_
      refine lv_topi (nm_r (e' := nI 0) (by decide) ?_)
      exact xreti C () rfl (xP_map hP [0, 9, 1, 2, 3, 4, 5, 6, 7, 8] rfl) (hD.sub [0, 9, 1, 2, 3, 4, 5, 6, 7, 8] (by decide +kernel) rfl) hS (Nat.le_of_ble_eq_true rfl) (Nat.le_of_ble_eq_true rfl) rfl dX6_unpolled_51
    · -- j = 2
      have hP : va_P D vwCl [(hpo, .inr (6, [.ref hr, .ref hg, .ref hgr])), (hg, .inr (4, [.ref nd, .ref kd, .ref lk, .ref vw])), (kd, .inl (cs 0, 8, .inl (fun _ => nI 0))), (vw, .inl (cs 2, 8, .inr (.inr (.inr (.inr (fun i => some (v i))))))), (v 0, .inr (10, [.int (nI 0), .int (nI 0), .ref (sv 0)])), (v 1, .inr (10, [.int (nI 0), .int (nI 0), .ref (sv 1)])), (v 2, .inr (10, [.int (nI 0), .int (nI 0), .ref (sv 2)])), (v 3, .inr (10, [.int (nI 0), .int (nI 0), .ref (sv 3)])), (hgr, .inr (3, [.int (nI 0), .ref gs, .ref g1r, .ref g2r, .ref gan, .ref gpr, .ref gde, .ref gme])), (hr, .inr (7, [.int (nI 4), .int (nI 2), .int (nI 2), .int (nI 3), .int (nI 2), .int (nI 1), .ref sm, .int (nI 3), .ref ca]))] H := hP
      have hD : va_D A [(hpo, .inr (6, [.ref hr, .ref hg, .ref hgr])), (hg, .inr (4, [.ref nd, .ref kd, .ref lk, .ref vw])), (kd, .inl (cs 0, 8, .inl (fun _ => nI 0))), (vw, .inl (cs 2, 8, .inr (.inr (.inr (.inr (fun i => some (v i))))))), (v 0, .inr (10, [.int (nI 0), .int (nI 0), .ref (sv 0)])), (v 1, .inr (10, [.int (nI 0), .int (nI 0), .ref (sv 1)])), (v 2, .inr (10, [.int (nI 0), .int (nI 0), .ref (sv 2)])), (v 3, .inr (10, [.int (nI 0), .int (nI 0), .ref (sv 3)])), (hgr, .inr (3, [.int (nI 0), .ref gs, .ref g1r, .ref g2r, .ref gan, .ref gpr, .ref gde, .ref gme])), (hr, .inr (7, [.int (nI 4), .int (nI 2), .int (nI 2), .int (nI 3), .int (nI 2), .int (nI 1), .ref sm, .int (nI 3), .ref ca]))] := hD
      refine lv_aload_n hx hb dX6_unpolled_11 rfl (lv_at hl 0 rfl) ?_
      refine xget C hP 0 rfl rfl zuX6 1 (by decide) zw2_24 rfl dX6_unpolled_12 ?_
      refine xget C hP 1 rfl rfl zuX4 1 (by decide) zw1_172 rfl dX6_unpolled_15 ?_
      refine lv_iload_n hx hb dX6_unpolled_18 rfl (lv_at hl 1 rfl) ?_
      refine xiald C hP 2 rfl 2 rfl (by decide) (by decide) dX6_unpolled_19 ?_
      refine lv_if_eq (tgt := 25) hx hb dX6_unpolled_20 (by decide) (fun _ => ?_) (fun c => absurd (by decide) c)
      refine lv_iconst (v := nI 1) hx hb dX6_unpolled_25 (by decide) ?_
      refine lv_aload_n hx hb dX6_unpolled_26 rfl (lv_at hl 0 rfl) ?_
      refine xget C hP 0 rfl rfl zuX6 2 (by decide) zw2_25 rfl dX6_unpolled_27 ?_
      refine xget C hP 8 rfl rfl zuX3 0 (by decide) zw1_196 rfl dX6_unpolled_30 ?_
      refine lv_ishl hx hb dX6_unpolled_33 ?_
      refine lv_topi (nm_r (e' := nI 1) (by decide) ?_)
      refine lv_iconst (v := nI 1) hx hb dX6_unpolled_34 (by decide) ?_
      refine lv_isub hx hb dX6_unpolled_35 ?_
      refine lv_topi (nm_r (e' := nI 0) (by decide) ?_)
      refine lv_aload_n hx hb dX6_unpolled_36 rfl (lv_at hl 0 rfl) ?_
      refine xget C hP 0 rfl rfl zuX6 1 (by decide) zw2_24 rfl dX6_unpolled_37 ?_
      refine xget C hP 1 rfl rfl zuX4 3 (by decide) zw1_178 rfl dX6_unpolled_40 ?_
      refine lv_iload_n hx hb dX6_unpolled_43 rfl (lv_at hl 1 rfl) ?_
      refine xaald C hP 3 2 rfl rfl rfl 2 rfl (by decide) (by decide) rfl dX6_unpolled_44 ?_
      refine xget C hP 6 rfl rfl zuX10 1 (by decide) zw1_144 rfl dX6_unpolled_45 ?_
      refine lv_iconst (v := (-1)) hx hb dX6_unpolled_48 (by decide) ?_
      refine lv_ixor hx hb dX6_unpolled_49 ?_
      refine lv_iand hx hb dX6_unpolled_50 ?_
      refine lv_topi (nm_r (e' := nI 0) (by decide) ?_)
      exact xreti C () rfl (xP_map hP [0, 9, 1, 2, 3, 4, 5, 6, 7, 8] rfl) (hD.sub [0, 9, 1, 2, 3, 4, 5, 6, 7, 8] (by decide +kernel) rfl) hS (Nat.le_of_ble_eq_true rfl) (Nat.le_of_ble_eq_true rfl) rfl dX6_unpolled_51
    · -- j = 3
      have hP : va_P D vwCl [(hpo, .inr (6, [.ref hr, .ref hg, .ref hgr])), (hg, .inr (4, [.ref nd, .ref kd, .ref lk, .ref vw])), (kd, .inl (cs 0, 8, .inl (fun _ => nI 0))), (vw, .inl (cs 2, 8, .inr (.inr (.inr (.inr (fun i => some (v i))))))), (v 0, .inr (10, [.int (nI 0), .int (nI 0), .ref (sv 0)])), (v 1, .inr (10, [.int (nI 0), .int (nI 0), .ref (sv 1)])), (v 2, .inr (10, [.int (nI 0), .int (nI 0), .ref (sv 2)])), (v 3, .inr (10, [.int (nI 0), .int (nI 0), .ref (sv 3)])), (hgr, .inr (3, [.int (nI 0), .ref gs, .ref g1r, .ref g2r, .ref gan, .ref gpr, .ref gde, .ref gme])), (hr, .inr (7, [.int (nI 4), .int (nI 2), .int (nI 2), .int (nI 3), .int (nI 2), .int (nI 1), .ref sm, .int (nI 3), .ref ca]))] H := hP
      have hD : va_D A [(hpo, .inr (6, [.ref hr, .ref hg, .ref hgr])), (hg, .inr (4, [.ref nd, .ref kd, .ref lk, .ref vw])), (kd, .inl (cs 0, 8, .inl (fun _ => nI 0))), (vw, .inl (cs 2, 8, .inr (.inr (.inr (.inr (fun i => some (v i))))))), (v 0, .inr (10, [.int (nI 0), .int (nI 0), .ref (sv 0)])), (v 1, .inr (10, [.int (nI 0), .int (nI 0), .ref (sv 1)])), (v 2, .inr (10, [.int (nI 0), .int (nI 0), .ref (sv 2)])), (v 3, .inr (10, [.int (nI 0), .int (nI 0), .ref (sv 3)])), (hgr, .inr (3, [.int (nI 0), .ref gs, .ref g1r, .ref g2r, .ref gan, .ref gpr, .ref gde, .ref gme])), (hr, .inr (7, [.int (nI 4), .int (nI 2), .int (nI 2), .int (nI 3), .int (nI 2), .int (nI 1), .ref sm, .int (nI 3), .ref ca]))] := hD
      refine lv_aload_n hx hb dX6_unpolled_11 rfl (lv_at hl 0 rfl) ?_
      refine xget C hP 0 rfl rfl zuX6 1 (by decide) zw2_24 rfl dX6_unpolled_12 ?_
      refine xget C hP 1 rfl rfl zuX4 1 (by decide) zw1_172 rfl dX6_unpolled_15 ?_
      refine lv_iload_n hx hb dX6_unpolled_18 rfl (lv_at hl 1 rfl) ?_
      refine xiald C hP 2 rfl 3 rfl (by decide) (by decide) dX6_unpolled_19 ?_
      refine lv_if_eq (tgt := 25) hx hb dX6_unpolled_20 (by decide) (fun _ => ?_) (fun c => absurd (by decide) c)
      refine lv_iconst (v := nI 1) hx hb dX6_unpolled_25 (by decide) ?_
      refine lv_aload_n hx hb dX6_unpolled_26 rfl (lv_at hl 0 rfl) ?_
      refine xget C hP 0 rfl rfl zuX6 2 (by decide) zw2_25 rfl dX6_unpolled_27 ?_
      refine xget C hP 8 rfl rfl zuX3 0 (by decide) zw1_196 rfl dX6_unpolled_30 ?_
      refine lv_ishl hx hb dX6_unpolled_33 ?_
      refine lv_topi (nm_r (e' := nI 1) (by decide) ?_)
      refine lv_iconst (v := nI 1) hx hb dX6_unpolled_34 (by decide) ?_
      refine lv_isub hx hb dX6_unpolled_35 ?_
      refine lv_topi (nm_r (e' := nI 0) (by decide) ?_)
      refine lv_aload_n hx hb dX6_unpolled_36 rfl (lv_at hl 0 rfl) ?_
      refine xget C hP 0 rfl rfl zuX6 1 (by decide) zw2_24 rfl dX6_unpolled_37 ?_
      refine xget C hP 1 rfl rfl zuX4 3 (by decide) zw1_178 rfl dX6_unpolled_40 ?_
      refine lv_iload_n hx hb dX6_unpolled_43 rfl (lv_at hl 1 rfl) ?_
      refine xaald C hP 3 2 rfl rfl rfl 3 rfl (by decide) (by decide) rfl dX6_unpolled_44 ?_
      refine xget C hP 7 rfl rfl zuX10 1 (by decide) zw1_144 rfl dX6_unpolled_45 ?_
      refine lv_iconst (v := (-1)) hx hb dX6_unpolled_48 (by decide) ?_
      refine lv_ixor hx hb dX6_unpolled_49 ?_
      refine lv_iand hx hb dX6_unpolled_50 ?_
      refine lv_topi (nm_r (e' := nI 0) (by decide) ?_)
      exact xreti C () rfl (xP_map hP [0, 9, 1, 2, 3, 4, 5, 6, 7, 8] rfl) (hD.sub [0, 9, 1, 2, 3, 4, 5, 6, 7, 8] (by decide +kernel) rfl) hS (Nat.le_of_ble_eq_true rfl) (Nat.le_of_ble_eq_true rfl) rfl dX6_unpolled_51

set_option maxHeartbeats 4000000 in
set_option maxRecDepth 100000 in
theorem c_X6_isSplitSet_z (l : Launch) (D : va_G) (cs : Nat → ClassId) (hpo hr hg hgr sm ca nd kd lk vw : Nat) (v sv : Nat → Nat) (i : Nat) (hi : i < 8) : xMet l D cs yX6_isSplitSet cX6_isSplitSet 4 (some .boolean) ({ frames := 2, cells := 0, slots := 0, locals := 43 } : Room) [.ref hpo, .int (nI i)] [(hpo, .inr (6, [.ref hr, .ref hg, .ref hgr])), (hr, .inr (7, [.int (nI 4), .int (nI 2), .int (nI 2), .int (nI 3), .int (nI 2), .int (nI 1), .ref sm, .int (nI 3), .ref ca])), (hg, .inr (4, [.ref nd, .ref kd, .ref lk, .ref vw])), (kd, .inl (cs 0, 8, .inl (fun _ => nI 0))), (vw, .inl (cs 2, 8, .inr (.inr (.inr (.inr (fun i => some (v i))))))), (v 0, .inr (10, [.int (nI 0), .int (nI 0), .ref (sv 0)])), (sv 0, .inl (cs 0, 32, .inl vF)), (v 1, .inr (10, [.int (nI 0), .int (nI 0), .ref (sv 1)])), (sv 1, .inl (cs 0, 32, .inl vF)), (v 2, .inr (10, [.int (nI 0), .int (nI 0), .ref (sv 2)])), (sv 2, .inl (cs 0, 32, .inl vF)), (v 3, .inr (10, [.int (nI 0), .int (nI 0), .ref (sv 3)])), (sv 3, .inl (cs 0, 32, .inl vF))] (xQi D (fun (r : Int32) (_u : Unit) => r = nI 0) (fun (_u : Unit) => [(hpo, .inr (6, [.ref hr, .ref hg, .ref hgr])), (hr, .inr (7, [.int (nI 4), .int (nI 2), .int (nI 2), .int (nI 3), .int (nI 2), .int (nI 1), .ref sm, .int (nI 3), .ref ca])), (hg, .inr (4, [.ref nd, .ref kd, .ref lk, .ref vw])), (kd, .inl (cs 0, 8, .inl (fun _ => nI 0))), (vw, .inl (cs 2, 8, .inr (.inr (.inr (.inr (fun i => some (v i))))))), (v 0, .inr (10, [.int (nI 0), .int (nI 0), .ref (sv 0)])), (sv 0, .inl (cs 0, 32, .inl vF)), (v 1, .inr (10, [.int (nI 0), .int (nI 0), .ref (sv 1)])), (sv 1, .inl (cs 0, 32, .inl vF)), (v 2, .inr (10, [.int (nI 0), .int (nI 0), .ref (sv 2)])), (sv 2, .inl (cs 0, 32, .inl vF)), (v 3, .inr (10, [.int (nI 0), .int (nI 0), .ref (sv 3)])), (sv 3, .inl (cs 0, 32, .inl vF))])) := by
  refine xMet.intro (by decide) (Nat.le_of_ble_eq_true rfl) ?_
  intro p e s m args below meth c A ls C hP hD hS hl
  have hx := C.1
  have hb := C.2.1
  have hz := C.2.2.2.2.1
  have hown := C.2.2.2.1
  have hA := C.2.2.2.2.2.2.2.2.2
  have hAO := C.2.2.2.2.2.2.2.2.1.2.2
  have hl : lv_has ls 4 [(0, .ref hpo), (1, .int (nI i))] := hl
  obtain ⟨H, hH⟩ : ∃ H, H = s.heap := ⟨_, rfl⟩
  have hP : va_P D vwCl [(hpo, .inr (6, [.ref hr, .ref hg, .ref hgr])), (hr, .inr (7, [.int (nI 4), .int (nI 2), .int (nI 2), .int (nI 3), .int (nI 2), .int (nI 1), .ref sm, .int (nI 3), .ref ca])), (hg, .inr (4, [.ref nd, .ref kd, .ref lk, .ref vw])), (kd, .inl (cs 0, 8, .inl (fun _ => nI 0))), (vw, .inl (cs 2, 8, .inr (.inr (.inr (.inr (fun i => some (v i))))))), (v 0, .inr (10, [.int (nI 0), .int (nI 0), .ref (sv 0)])), (sv 0, .inl (cs 0, 32, .inl vF)), (v 1, .inr (10, [.int (nI 0), .int (nI 0), .ref (sv 1)])), (sv 1, .inl (cs 0, 32, .inl vF)), (v 2, .inr (10, [.int (nI 0), .int (nI 0), .ref (sv 2)])), (sv 2, .inl (cs 0, 32, .inl vF)), (v 3, .inr (10, [.int (nI 0), .int (nI 0), .ref (sv 3)])), (sv 3, .inl (cs 0, 32, .inl vF))] H := by rw [hH]; exact hP
  have hS : va_S A s.heap H [] := by rw [hH]; exact hS
  obtain ⟨locs, hlocs⟩ : ∃ z : List Loc, z = [] := ⟨_, rfl⟩
  rw [← hlocs] at hS
  suffices hW : W p l e ({ frames := 2, cells := 0, slots := 0, locals := 43 } : Room) s m args below meth c H locs 0 0 (MQ below ((xQi D (fun (r : Int32) (_u : Unit) => r = nI 0) (fun (_u : Unit) => [(hpo, .inr (6, [.ref hr, .ref hg, .ref hgr])), (hr, .inr (7, [.int (nI 4), .int (nI 2), .int (nI 2), .int (nI 3), .int (nI 2), .int (nI 1), .ref sm, .int (nI 3), .ref ca])), (hg, .inr (4, [.ref nd, .ref kd, .ref lk, .ref vw])), (kd, .inl (cs 0, 8, .inl (fun _ => nI 0))), (vw, .inl (cs 2, 8, .inr (.inr (.inr (.inr (fun i => some (v i))))))), (v 0, .inr (10, [.int (nI 0), .int (nI 0), .ref (sv 0)])), (sv 0, .inl (cs 0, 32, .inl vF)), (v 1, .inr (10, [.int (nI 0), .int (nI 0), .ref (sv 1)])), (sv 1, .inl (cs 0, 32, .inl vF)), (v 2, .inr (10, [.int (nI 0), .int (nI 0), .ref (sv 2)])), (sv 2, .inl (cs 0, 32, .inl vF)), (v 3, .inr (10, [.int (nI 0), .int (nI 0), .ref (sv 3)])), (sv 3, .inl (cs 0, 32, .inl vF))])) A) args s 0 0 A) (F0 m 0 ls []) by rw [hlocs, hH] at hW; exact hW
  refine lv_iconst (v := nI 0) hx hb dX6_isSplitSet_0 (by decide) ?_
  refine lv_istore_n (lv' := [(2, .int (nI 0)), (0, .ref hpo), (1, .int (nI i))]) hx hb dX6_isSplitSet_1 rfl hl (by decide) rfl (fun ls hl => ?_)
  refine lv_iconst (v := nI 0) hx hb dX6_isSplitSet_2 (by decide) ?_
  refine lv_istore_n (lv' := [(3, .int (nI 0)), (2, .int (nI 0)), (0, .ref hpo), (1, .int (nI i))]) hx hb dX6_isSplitSet_3 rfl hl (by decide) rfl (fun ls hl => ?_)
  refine lv_iload_n hx hb dX6_isSplitSet_4 rfl (lv_at hl 0 rfl) ?_
  refine lv_aload_n hx hb dX6_isSplitSet_5 rfl (lv_at hl 2 rfl) ?_
  refine xget C hP 0 rfl rfl zuX6 0 (by decide) zw2_23 rfl dX6_isSplitSet_6 ?_
  refine xget C hP 1 rfl rfl zuX7 0 (by decide) zw1_81 rfl dX6_isSplitSet_9 ?_
  refine lv_icmp_ge (tgt := 68) hx hb dX6_isSplitSet_12 (by decide) (fun c => absurd c (by decide)) (fun _ => ?_)
  refine lv_aload_n hx hb dX6_isSplitSet_15 rfl (lv_at hl 2 rfl) ?_
  refine xget C hP 0 rfl rfl zuX6 1 (by decide) zw2_24 rfl dX6_isSplitSet_16 ?_
  refine xget C hP 2 rfl rfl zuX4 1 (by decide) zw1_172 rfl dX6_isSplitSet_19 ?_
  refine lv_iload_n hx hb dX6_isSplitSet_22 rfl (lv_at hl 0 rfl) ?_
  refine xiald C hP 3 rfl 0 rfl (by decide) (by decide) dX6_isSplitSet_23 ?_
  refine lv_if_ne (tgt := 62) hx hb dX6_isSplitSet_24 (by decide) (fun c => absurd (by decide) c) (fun _ => ?_)
  refine lv_aload_n hx hb dX6_isSplitSet_27 rfl (lv_at hl 2 rfl) ?_
  refine xget C hP 0 rfl rfl zuX6 1 (by decide) zw2_24 rfl dX6_isSplitSet_28 ?_
  refine xget C hP 2 rfl rfl zuX4 3 (by decide) zw1_178 rfl dX6_isSplitSet_31 ?_
  refine lv_iload_n hx hb dX6_isSplitSet_34 rfl (lv_at hl 0 rfl) ?_
  refine xaald C hP 4 2 rfl rfl rfl 0 rfl (by decide) (by decide) rfl dX6_isSplitSet_35 ?_
  refine lv_iload_n hx hb dX6_isSplitSet_36 rfl (lv_at hl 3 rfl) ?_
  refine xi (wr := [(hpo, .inr (6, [.ref hr, .ref hg, .ref hgr])), (hr, .inr (7, [.int (nI 4), .int (nI 2), .int (nI 2), .int (nI 3), .int (nI 2), .int (nI 1), .ref sm, .int (nI 3), .ref ca])), (hg, .inr (4, [.ref nd, .ref kd, .ref lk, .ref vw])), (kd, .inl (cs 0, 8, .inl (fun _ => nI 0))), (vw, .inl (cs 2, 8, .inr (.inr (.inr (.inr (fun i => some (v i))))))), (v 1, .inr (10, [.int (nI 0), .int (nI 0), .ref (sv 1)])), (sv 1, .inl (cs 0, 32, .inl vF)), (v 2, .inr (10, [.int (nI 0), .int (nI 0), .ref (sv 2)])), (sv 2, .inl (cs 0, 32, .inl vF)), (v 3, .inr (10, [.int (nI 0), .int (nI 0), .ref (sv 3)])), (sv 3, .inl (cs 0, 32, .inl vF))]) (xV (As := [.int (nI i)]) (rest := []) C (c_X10_isOpen l D cs (v 0) (sv 0) (nI 0) (nI 0) vF i (by first | omega | decide)) kX6_72 hP hD [5, 6] rfl (by decide +kernel) 0 rfl rfl rfl ⟨Nat.le_of_ble_eq_true rfl, Nat.le_of_ble_eq_true rfl⟩ rfl hl.1 rfl (Nat.le_of_ble_eq_true rfl) dX6_isSplitSet_37 ⟨Nat.le_of_ble_eq_true rfl, Nat.le_of_ble_eq_true rfl⟩) hP hD hS hA [5, 6] [0, 1, 2, 3, 4, 7, 8, 9, 10, 11, 12] rfl rfl (by decide +kernel) (by decide +kernel) (fun r_1 u_2 H locs hw_r_1 hP hD hS => ?_)
  have hw_r_1 : r_1 = if vF (i * 4 + 3) = -1 then nI 1 else nI 0 := hw_r_1
  refine W.widen (k := 0) (n := 0) (Nat.le_of_ble_eq_true rfl) (Nat.le_of_ble_eq_true rfl) ?_
  have hP : va_P D vwCl [(hpo, .inr (6, [.ref hr, .ref hg, .ref hgr])), (hr, .inr (7, [.int (nI 4), .int (nI 2), .int (nI 2), .int (nI 3), .int (nI 2), .int (nI 1), .ref sm, .int (nI 3), .ref ca])), (hg, .inr (4, [.ref nd, .ref kd, .ref lk, .ref vw])), (kd, .inl (cs 0, 8, .inl (fun _ => nI 0))), (vw, .inl (cs 2, 8, .inr (.inr (.inr (.inr (fun i => some (v i))))))), (v 1, .inr (10, [.int (nI 0), .int (nI 0), .ref (sv 1)])), (sv 1, .inl (cs 0, 32, .inl vF)), (v 2, .inr (10, [.int (nI 0), .int (nI 0), .ref (sv 2)])), (sv 2, .inl (cs 0, 32, .inl vF)), (v 3, .inr (10, [.int (nI 0), .int (nI 0), .ref (sv 3)])), (sv 3, .inl (cs 0, 32, .inl vF)), (v 0, .inr (10, [.int (nI 0), .int (nI 0), .ref (sv 0)])), (sv 0, .inl (cs 0, 32, .inl vF))] H := hP
  have hD : va_D A [(hpo, .inr (6, [.ref hr, .ref hg, .ref hgr])), (hr, .inr (7, [.int (nI 4), .int (nI 2), .int (nI 2), .int (nI 3), .int (nI 2), .int (nI 1), .ref sm, .int (nI 3), .ref ca])), (hg, .inr (4, [.ref nd, .ref kd, .ref lk, .ref vw])), (kd, .inl (cs 0, 8, .inl (fun _ => nI 0))), (vw, .inl (cs 2, 8, .inr (.inr (.inr (.inr (fun i => some (v i))))))), (v 1, .inr (10, [.int (nI 0), .int (nI 0), .ref (sv 1)])), (sv 1, .inl (cs 0, 32, .inl vF)), (v 2, .inr (10, [.int (nI 0), .int (nI 0), .ref (sv 2)])), (sv 2, .inl (cs 0, 32, .inl vF)), (v 3, .inr (10, [.int (nI 0), .int (nI 0), .ref (sv 3)])), (sv 3, .inl (cs 0, 32, .inl vF)), (v 0, .inr (10, [.int (nI 0), .int (nI 0), .ref (sv 0)])), (sv 0, .inl (cs 0, 32, .inl vF))] := hD
  obtain rfl : r_1 = nI 1 := by rw [hw_r_1]; exact if_pos (by unfold vF; exact if_neg (by omega))
  refine lv_if_ne (tgt := 62) hx hb dX6_isSplitSet_40 (by decide) (fun _ => ?_) (fun c => absurd c (by decide))
  refine lv_iinc (v := nI 1) (lv' := [(3, .int (nI 1)), (2, .int (nI 0)), (0, .ref hpo), (1, .int (nI i))]) hx hb dX6_isSplitSet_62 hl (k := 0) rfl (by decide) (by decide) rfl (fun ls hl => ?_)
  refine lv_goto (tgt := 4) hx hb dX6_isSplitSet_65 (by decide) ?_
  refine lv_iload_n hx hb dX6_isSplitSet_4 rfl (lv_at hl 0 rfl) ?_
  refine lv_aload_n hx hb dX6_isSplitSet_5 rfl (lv_at hl 2 rfl) ?_
  refine xget C hP 0 rfl rfl zuX6 0 (by decide) zw2_23 rfl dX6_isSplitSet_6 ?_
  refine xget C hP 1 rfl rfl zuX7 0 (by decide) zw1_81 rfl dX6_isSplitSet_9 ?_
  refine lv_icmp_ge (tgt := 68) hx hb dX6_isSplitSet_12 (by decide) (fun c => absurd c (by decide)) (fun _ => ?_)
  refine lv_aload_n hx hb dX6_isSplitSet_15 rfl (lv_at hl 2 rfl) ?_
  refine xget C hP 0 rfl rfl zuX6 1 (by decide) zw2_24 rfl dX6_isSplitSet_16 ?_
  refine xget C hP 2 rfl rfl zuX4 1 (by decide) zw1_172 rfl dX6_isSplitSet_19 ?_
  refine lv_iload_n hx hb dX6_isSplitSet_22 rfl (lv_at hl 0 rfl) ?_
  refine xiald C hP 3 rfl 1 rfl (by decide) (by decide) dX6_isSplitSet_23 ?_
  refine lv_if_ne (tgt := 62) hx hb dX6_isSplitSet_24 (by decide) (fun c => absurd (by decide) c) (fun _ => ?_)
  refine lv_aload_n hx hb dX6_isSplitSet_27 rfl (lv_at hl 2 rfl) ?_
  refine xget C hP 0 rfl rfl zuX6 1 (by decide) zw2_24 rfl dX6_isSplitSet_28 ?_
  refine xget C hP 2 rfl rfl zuX4 3 (by decide) zw1_178 rfl dX6_isSplitSet_31 ?_
  refine lv_iload_n hx hb dX6_isSplitSet_34 rfl (lv_at hl 0 rfl) ?_
  refine xaald C hP 4 2 rfl rfl rfl 1 rfl (by decide) (by decide) rfl dX6_isSplitSet_35 ?_
  refine lv_iload_n hx hb dX6_isSplitSet_36 rfl (lv_at hl 3 rfl) ?_
  refine xi (wr := [(hpo, .inr (6, [.ref hr, .ref hg, .ref hgr])), (hr, .inr (7, [.int (nI 4), .int (nI 2), .int (nI 2), .int (nI 3), .int (nI 2), .int (nI 1), .ref sm, .int (nI 3), .ref ca])), (hg, .inr (4, [.ref nd, .ref kd, .ref lk, .ref vw])), (kd, .inl (cs 0, 8, .inl (fun _ => nI 0))), (vw, .inl (cs 2, 8, .inr (.inr (.inr (.inr (fun i => some (v i))))))), (v 2, .inr (10, [.int (nI 0), .int (nI 0), .ref (sv 2)])), (sv 2, .inl (cs 0, 32, .inl vF)), (v 3, .inr (10, [.int (nI 0), .int (nI 0), .ref (sv 3)])), (sv 3, .inl (cs 0, 32, .inl vF)), (v 0, .inr (10, [.int (nI 0), .int (nI 0), .ref (sv 0)])), (sv 0, .inl (cs 0, 32, .inl vF))]) (xV (As := [.int (nI i)]) (rest := []) C (c_X10_isOpen l D cs (v 1) (sv 1) (nI 0) (nI 0) vF i (by first | omega | decide)) kX6_72 hP hD [5, 6] rfl (by decide +kernel) 0 rfl rfl rfl ⟨Nat.le_of_ble_eq_true rfl, Nat.le_of_ble_eq_true rfl⟩ rfl hl.1 rfl (Nat.le_of_ble_eq_true rfl) dX6_isSplitSet_37 ⟨Nat.le_of_ble_eq_true rfl, Nat.le_of_ble_eq_true rfl⟩) hP hD hS hA [5, 6] [0, 1, 2, 3, 4, 7, 8, 9, 10, 11, 12] rfl rfl (by decide +kernel) (by decide +kernel) (fun r_3 u_4 H locs hw_r_3 hP hD hS => ?_)
  have hw_r_3 : r_3 = if vF (i * 4 + 3) = -1 then nI 1 else nI 0 := hw_r_3
  refine W.widen (k := 0) (n := 0) (Nat.le_of_ble_eq_true rfl) (Nat.le_of_ble_eq_true rfl) ?_
  have hP : va_P D vwCl [(hpo, .inr (6, [.ref hr, .ref hg, .ref hgr])), (hr, .inr (7, [.int (nI 4), .int (nI 2), .int (nI 2), .int (nI 3), .int (nI 2), .int (nI 1), .ref sm, .int (nI 3), .ref ca])), (hg, .inr (4, [.ref nd, .ref kd, .ref lk, .ref vw])), (kd, .inl (cs 0, 8, .inl (fun _ => nI 0))), (vw, .inl (cs 2, 8, .inr (.inr (.inr (.inr (fun i => some (v i))))))), (v 2, .inr (10, [.int (nI 0), .int (nI 0), .ref (sv 2)])), (sv 2, .inl (cs 0, 32, .inl vF)), (v 3, .inr (10, [.int (nI 0), .int (nI 0), .ref (sv 3)])), (sv 3, .inl (cs 0, 32, .inl vF)), (v 0, .inr (10, [.int (nI 0), .int (nI 0), .ref (sv 0)])), (sv 0, .inl (cs 0, 32, .inl vF)), (v 1, .inr (10, [.int (nI 0), .int (nI 0), .ref (sv 1)])), (sv 1, .inl (cs 0, 32, .inl vF))] H := hP
  have hD : va_D A [(hpo, .inr (6, [.ref hr, .ref hg, .ref hgr])), (hr, .inr (7, [.int (nI 4), .int (nI 2), .int (nI 2), .int (nI 3), .int (nI 2), .int (nI 1), .ref sm, .int (nI 3), .ref ca])), (hg, .inr (4, [.ref nd, .ref kd, .ref lk, .ref vw])), (kd, .inl (cs 0, 8, .inl (fun _ => nI 0))), (vw, .inl (cs 2, 8, .inr (.inr (.inr (.inr (fun i => some (v i))))))), (v 2, .inr (10, [.int (nI 0), .int (nI 0), .ref (sv 2)])), (sv 2, .inl (cs 0, 32, .inl vF)), (v 3, .inr (10, [.int (nI 0), .int (nI 0), .ref (sv 3)])), (sv 3, .inl (cs 0, 32, .inl vF)), (v 0, .inr (10, [.int (nI 0), .int (nI 0), .ref (sv 0)])), (sv 0, .inl (cs 0, 32, .inl vF)), (v 1, .inr (10, [.int (nI 0), .int (nI 0), .ref (sv 1)])), (sv 1, .inl (cs 0, 32, .inl vF))] := hD
  obtain rfl : r_3 = nI 1 := by rw [hw_r_3]; exact if_pos (by unfold vF; exact if_neg (by omega))
  refine lv_if_ne (tgt := 62) hx hb dX6_isSplitSet_40 (by decide) (fun _ => ?_) (fun c => absurd c (by decide))
  refine lv_iinc (v := nI 2) (lv' := [(3, .int (nI 2)), (2, .int (nI 0)), (0, .ref hpo), (1, .int (nI i))]) hx hb dX6_isSplitSet_62 hl (k := 0) rfl (by decide) (by decide) rfl (fun ls hl => ?_)
  refine lv_goto (tgt := 4) hx hb dX6_isSplitSet_65 (by decide) ?_
  refine lv_iload_n hx hb dX6_isSplitSet_4 rfl (lv_at hl 0 rfl) ?_
  refine lv_aload_n hx hb dX6_isSplitSet_5 rfl (lv_at hl 2 rfl) ?_
  refine xget C hP 0 rfl rfl zuX6 0 (by decide) zw2_23 rfl dX6_isSplitSet_6 ?_
  refine xget C hP 1 rfl rfl zuX7 0 (by decide) zw1_81 rfl dX6_isSplitSet_9 ?_
  refine lv_icmp_ge (tgt := 68) hx hb dX6_isSplitSet_12 (by decide) (fun c => absurd c (by decide)) (fun _ => ?_)
  refine lv_aload_n hx hb dX6_isSplitSet_15 rfl (lv_at hl 2 rfl) ?_
  refine xget C hP 0 rfl rfl zuX6 1 (by decide) zw2_24 rfl dX6_isSplitSet_16 ?_
  refine xget C hP 2 rfl rfl zuX4 1 (by decide) zw1_172 rfl dX6_isSplitSet_19 ?_
  refine lv_iload_n hx hb dX6_isSplitSet_22 rfl (lv_at hl 0 rfl) ?_
  refine xiald C hP 3 rfl 2 rfl (by decide) (by decide) dX6_isSplitSet_23 ?_
  refine lv_if_ne (tgt := 62) hx hb dX6_isSplitSet_24 (by decide) (fun c => absurd (by decide) c) (fun _ => ?_)
  refine lv_aload_n hx hb dX6_isSplitSet_27 rfl (lv_at hl 2 rfl) ?_
  refine xget C hP 0 rfl rfl zuX6 1 (by decide) zw2_24 rfl dX6_isSplitSet_28 ?_
  refine xget C hP 2 rfl rfl zuX4 3 (by decide) zw1_178 rfl dX6_isSplitSet_31 ?_
  refine lv_iload_n hx hb dX6_isSplitSet_34 rfl (lv_at hl 0 rfl) ?_
  refine xaald C hP 4 2 rfl rfl rfl 2 rfl (by decide) (by decide) rfl dX6_isSplitSet_35 ?_
  refine lv_iload_n hx hb dX6_isSplitSet_36 rfl (lv_at hl 3 rfl) ?_
  refine xi (wr := [(hpo, .inr (6, [.ref hr, .ref hg, .ref hgr])), (hr, .inr (7, [.int (nI 4), .int (nI 2), .int (nI 2), .int (nI 3), .int (nI 2), .int (nI 1), .ref sm, .int (nI 3), .ref ca])), (hg, .inr (4, [.ref nd, .ref kd, .ref lk, .ref vw])), (kd, .inl (cs 0, 8, .inl (fun _ => nI 0))), (vw, .inl (cs 2, 8, .inr (.inr (.inr (.inr (fun i => some (v i))))))), (v 3, .inr (10, [.int (nI 0), .int (nI 0), .ref (sv 3)])), (sv 3, .inl (cs 0, 32, .inl vF)), (v 0, .inr (10, [.int (nI 0), .int (nI 0), .ref (sv 0)])), (sv 0, .inl (cs 0, 32, .inl vF)), (v 1, .inr (10, [.int (nI 0), .int (nI 0), .ref (sv 1)])), (sv 1, .inl (cs 0, 32, .inl vF))]) (xV (As := [.int (nI i)]) (rest := []) C (c_X10_isOpen l D cs (v 2) (sv 2) (nI 0) (nI 0) vF i (by first | omega | decide)) kX6_72 hP hD [5, 6] rfl (by decide +kernel) 0 rfl rfl rfl ⟨Nat.le_of_ble_eq_true rfl, Nat.le_of_ble_eq_true rfl⟩ rfl hl.1 rfl (Nat.le_of_ble_eq_true rfl) dX6_isSplitSet_37 ⟨Nat.le_of_ble_eq_true rfl, Nat.le_of_ble_eq_true rfl⟩) hP hD hS hA [5, 6] [0, 1, 2, 3, 4, 7, 8, 9, 10, 11, 12] rfl rfl (by decide +kernel) (by decide +kernel) (fun r_5 u_6 H locs hw_r_5 hP hD hS => ?_)
  have hw_r_5 : r_5 = if vF (i * 4 + 3) = -1 then nI 1 else nI 0 := hw_r_5
  refine W.widen (k := 0) (n := 0) (Nat.le_of_ble_eq_true rfl) (Nat.le_of_ble_eq_true rfl) ?_
  have hP : va_P D vwCl [(hpo, .inr (6, [.ref hr, .ref hg, .ref hgr])), (hr, .inr (7, [.int (nI 4), .int (nI 2), .int (nI 2), .int (nI 3), .int (nI 2), .int (nI 1), .ref sm, .int (nI 3), .ref ca])), (hg, .inr (4, [.ref nd, .ref kd, .ref lk, .ref vw])), (kd, .inl (cs 0, 8, .inl (fun _ => nI 0))), (vw, .inl (cs 2, 8, .inr (.inr (.inr (.inr (fun i => some (v i))))))), (v 3, .inr (10, [.int (nI 0), .int (nI 0), .ref (sv 3)])), (sv 3, .inl (cs 0, 32, .inl vF)), (v 0, .inr (10, [.int (nI 0), .int (nI 0), .ref (sv 0)])), (sv 0, .inl (cs 0, 32, .inl vF)), (v 1, .inr (10, [.int (nI 0), .int (nI 0), .ref (sv 1)])), (sv 1, .inl (cs 0, 32, .inl vF)), (v 2, .inr (10, [.int (nI 0), .int (nI 0), .ref (sv 2)])), (sv 2, .inl (cs 0, 32, .inl vF))] H := hP
  have hD : va_D A [(hpo, .inr (6, [.ref hr, .ref hg, .ref hgr])), (hr, .inr (7, [.int (nI 4), .int (nI 2), .int (nI 2), .int (nI 3), .int (nI 2), .int (nI 1), .ref sm, .int (nI 3), .ref ca])), (hg, .inr (4, [.ref nd, .ref kd, .ref lk, .ref vw])), (kd, .inl (cs 0, 8, .inl (fun _ => nI 0))), (vw, .inl (cs 2, 8, .inr (.inr (.inr (.inr (fun i => some (v i))))))), (v 3, .inr (10, [.int (nI 0), .int (nI 0), .ref (sv 3)])), (sv 3, .inl (cs 0, 32, .inl vF)), (v 0, .inr (10, [.int (nI 0), .int (nI 0), .ref (sv 0)])), (sv 0, .inl (cs 0, 32, .inl vF)), (v 1, .inr (10, [.int (nI 0), .int (nI 0), .ref (sv 1)])), (sv 1, .inl (cs 0, 32, .inl vF)), (v 2, .inr (10, [.int (nI 0), .int (nI 0), .ref (sv 2)])), (sv 2, .inl (cs 0, 32, .inl vF))] := hD
  obtain rfl : r_5 = nI 1 := by rw [hw_r_5]; exact if_pos (by unfold vF; exact if_neg (by omega))
  refine lv_if_ne (tgt := 62) hx hb dX6_isSplitSet_40 (by decide) (fun _ => ?_) (fun c => absurd c (by decide))
  refine lv_iinc (v := nI 3) (lv' := [(3, .int (nI 3)), (2, .int (nI 0)), (0, .ref hpo), (1, .int (nI i))]) hx hb dX6_isSplitSet_62 hl (k := 0) rfl (by decide) (by decide) rfl (fun ls hl => ?_)
  refine lv_goto (tgt := 4) hx hb dX6_isSplitSet_65 (by decide) ?_
  refine lv_iload_n hx hb dX6_isSplitSet_4 rfl (lv_at hl 0 rfl) ?_
  refine lv_aload_n hx hb dX6_isSplitSet_5 rfl (lv_at hl 2 rfl) ?_
  refine xget C hP 0 rfl rfl zuX6 0 (by decide) zw2_23 rfl dX6_isSplitSet_6 ?_
  refine xget C hP 1 rfl rfl zuX7 0 (by decide) zw1_81 rfl dX6_isSplitSet_9 ?_
  refine lv_icmp_ge (tgt := 68) hx hb dX6_isSplitSet_12 (by decide) (fun c => absurd c (by decide)) (fun _ => ?_)
  refine lv_aload_n hx hb dX6_isSplitSet_15 rfl (lv_at hl 2 rfl) ?_
  refine xget C hP 0 rfl rfl zuX6 1 (by decide) zw2_24 rfl dX6_isSplitSet_16 ?_
  refine xget C hP 2 rfl rfl zuX4 1 (by decide) zw1_172 rfl dX6_isSplitSet_19 ?_
  refine lv_iload_n hx hb dX6_isSplitSet_22 rfl (lv_at hl 0 rfl) ?_
  refine xiald C hP 3 rfl 3 rfl (by decide) (by decide) dX6_isSplitSet_23 ?_
  refine lv_if_ne (tgt := 62) hx hb dX6_isSplitSet_24 (by decide) (fun c => absurd (by decide) c) (fun _ => ?_)
  refine lv_aload_n hx hb dX6_isSplitSet_27 rfl (lv_at hl 2 rfl) ?_
  refine xget C hP 0 rfl rfl zuX6 1 (by decide) zw2_24 rfl dX6_isSplitSet_28 ?_
  refine xget C hP 2 rfl rfl zuX4 3 (by decide) zw1_178 rfl dX6_isSplitSet_31 ?_
  refine lv_iload_n hx hb dX6_isSplitSet_34 rfl (lv_at hl 0 rfl) ?_
  refine xaald C hP 4 2 rfl rfl rfl 3 rfl (by decide) (by decide) rfl dX6_isSplitSet_35 ?_
  refine lv_iload_n hx hb dX6_isSplitSet_36 rfl (lv_at hl 3 rfl) ?_
  refine xi (wr := [(hpo, .inr (6, [.ref hr, .ref hg, .ref hgr])), (hr, .inr (7, [.int (nI 4), .int (nI 2), .int (nI 2), .int (nI 3), .int (nI 2), .int (nI 1), .ref sm, .int (nI 3), .ref ca])), (hg, .inr (4, [.ref nd, .ref kd, .ref lk, .ref vw])), (kd, .inl (cs 0, 8, .inl (fun _ => nI 0))), (vw, .inl (cs 2, 8, .inr (.inr (.inr (.inr (fun i => some (v i))))))), (v 0, .inr (10, [.int (nI 0), .int (nI 0), .ref (sv 0)])), (sv 0, .inl (cs 0, 32, .inl vF)), (v 1, .inr (10, [.int (nI 0), .int (nI 0), .ref (sv 1)])), (sv 1, .inl (cs 0, 32, .inl vF)), (v 2, .inr (10, [.int (nI 0), .int (nI 0), .ref (sv 2)])), (sv 2, .inl (cs 0, 32, .inl vF))]) (xV (As := [.int (nI i)]) (rest := []) C (c_X10_isOpen l D cs (v 3) (sv 3) (nI 0) (nI 0) vF i (by first | omega | decide)) kX6_72 hP hD [5, 6] rfl (by decide +kernel) 0 rfl rfl rfl ⟨Nat.le_of_ble_eq_true rfl, Nat.le_of_ble_eq_true rfl⟩ rfl hl.1 rfl (Nat.le_of_ble_eq_true rfl) dX6_isSplitSet_37 ⟨Nat.le_of_ble_eq_true rfl, Nat.le_of_ble_eq_true rfl⟩) hP hD hS hA [5, 6] [0, 1, 2, 3, 4, 7, 8, 9, 10, 11, 12] rfl rfl (by decide +kernel) (by decide +kernel) (fun r_7 u_8 H locs hw_r_7 hP hD hS => ?_)
  have hw_r_7 : r_7 = if vF (i * 4 + 3) = -1 then nI 1 else nI 0 := hw_r_7
  refine W.widen (k := 0) (n := 0) (Nat.le_of_ble_eq_true rfl) (Nat.le_of_ble_eq_true rfl) ?_
  have hP : va_P D vwCl [(hpo, .inr (6, [.ref hr, .ref hg, .ref hgr])), (hr, .inr (7, [.int (nI 4), .int (nI 2), .int (nI 2), .int (nI 3), .int (nI 2), .int (nI 1), .ref sm, .int (nI 3), .ref ca])), (hg, .inr (4, [.ref nd, .ref kd, .ref lk, .ref vw])), (kd, .inl (cs 0, 8, .inl (fun _ => nI 0))), (vw, .inl (cs 2, 8, .inr (.inr (.inr (.inr (fun i => some (v i))))))), (v 0, .inr (10, [.int (nI 0), .int (nI 0), .ref (sv 0)])), (sv 0, .inl (cs 0, 32, .inl vF)), (v 1, .inr (10, [.int (nI 0), .int (nI 0), .ref (sv 1)])), (sv 1, .inl (cs 0, 32, .inl vF)), (v 2, .inr (10, [.int (nI 0), .int (nI 0), .ref (sv 2)])), (sv 2, .inl (cs 0, 32, .inl vF)), (v 3, .inr (10, [.int (nI 0), .int (nI 0), .ref (sv 3)])), (sv 3, .inl (cs 0, 32, .inl vF))] H := hP
  have hD : va_D A [(hpo, .inr (6, [.ref hr, .ref hg, .ref hgr])), (hr, .inr (7, [.int (nI 4), .int (nI 2), .int (nI 2), .int (nI 3), .int (nI 2), .int (nI 1), .ref sm, .int (nI 3), .ref ca])), (hg, .inr (4, [.ref nd, .ref kd, .ref lk, .ref vw])), (kd, .inl (cs 0, 8, .inl (fun _ => nI 0))), (vw, .inl (cs 2, 8, .inr (.inr (.inr (.inr (fun i => some (v i))))))), (v 0, .inr (10, [.int (nI 0), .int (nI 0), .ref (sv 0)])), (sv 0, .inl (cs 0, 32, .inl vF)), (v 1, .inr (10, [.int (nI 0), .int (nI 0), .ref (sv 1)])), (sv 1, .inl (cs 0, 32, .inl vF)), (v 2, .inr (10, [.int (nI 0), .int (nI 0), .ref (sv 2)])), (sv 2, .inl (cs 0, 32, .inl vF)), (v 3, .inr (10, [.int (nI 0), .int (nI 0), .ref (sv 3)])), (sv 3, .inl (cs 0, 32, .inl vF))] := hD
  obtain rfl : r_7 = nI 1 := by rw [hw_r_7]; exact if_pos (by unfold vF; exact if_neg (by omega))
  refine lv_if_ne (tgt := 62) hx hb dX6_isSplitSet_40 (by decide) (fun _ => ?_) (fun c => absurd c (by decide))
  refine lv_iinc (v := nI 4) (lv' := [(3, .int (nI 4)), (2, .int (nI 0)), (0, .ref hpo), (1, .int (nI i))]) hx hb dX6_isSplitSet_62 hl (k := 0) rfl (by decide) (by decide) rfl (fun ls hl => ?_)
  refine lv_goto (tgt := 4) hx hb dX6_isSplitSet_65 (by decide) ?_
  refine lv_iload_n hx hb dX6_isSplitSet_4 rfl (lv_at hl 0 rfl) ?_
  refine lv_aload_n hx hb dX6_isSplitSet_5 rfl (lv_at hl 2 rfl) ?_
  refine xget C hP 0 rfl rfl zuX6 0 (by decide) zw2_23 rfl dX6_isSplitSet_6 ?_
  refine xget C hP 1 rfl rfl zuX7 0 (by decide) zw1_81 rfl dX6_isSplitSet_9 ?_
  refine lv_icmp_ge (tgt := 68) hx hb dX6_isSplitSet_12 (by decide) (fun _ => ?_) (fun c => absurd (by decide) c)
  refine lv_iload_n hx hb dX6_isSplitSet_68 rfl (lv_at hl 1 rfl) ?_
  refine xi (wr := [(hpo, .inr (6, [.ref hr, .ref hg, .ref hgr])), (hr, .inr (7, [.int (nI 4), .int (nI 2), .int (nI 2), .int (nI 3), .int (nI 2), .int (nI 1), .ref sm, .int (nI 3), .ref ca])), (hg, .inr (4, [.ref nd, .ref kd, .ref lk, .ref vw])), (kd, .inl (cs 0, 8, .inl (fun _ => nI 0))), (vw, .inl (cs 2, 8, .inr (.inr (.inr (.inr (fun i => some (v i))))))), (v 0, .inr (10, [.int (nI 0), .int (nI 0), .ref (sv 0)])), (sv 0, .inl (cs 0, 32, .inl vF)), (v 1, .inr (10, [.int (nI 0), .int (nI 0), .ref (sv 1)])), (sv 1, .inl (cs 0, 32, .inl vF)), (v 2, .inr (10, [.int (nI 0), .int (nI 0), .ref (sv 2)])), (sv 2, .inl (cs 0, 32, .inl vF)), (v 3, .inr (10, [.int (nI 0), .int (nI 0), .ref (sv 3)])), (sv 3, .inl (cs 0, 32, .inl vF))]) (xS (As := [.int (nI 0)]) (rest := []) C (c_J6_bitCount_0f7a4 l D cs (nI 0)) kX6_56 hP hD [] rfl (by decide +kernel) ⟨Nat.le_of_ble_eq_true rfl, Nat.le_of_ble_eq_true rfl⟩ rfl hl.1 rfl (Nat.le_of_ble_eq_true rfl) dX6_isSplitSet_69 ⟨Nat.le_of_ble_eq_true rfl, Nat.le_of_ble_eq_true rfl⟩) hP hD hS hA [] [0, 1, 2, 3, 4, 5, 6, 7, 8, 9, 10, 11, 12] rfl rfl (by decide +kernel) (by decide +kernel) (fun r_9 u_10 H locs hw_r_9 hP hD hS => ?_)
  have hw_r_9 : r_9 = bcF (nI 0) := hw_r_9
  refine W.widen (k := 0) (n := 0) (Nat.le_of_ble_eq_true rfl) (Nat.le_of_ble_eq_true rfl) ?_
  have hP : va_P D vwCl [(hpo, .inr (6, [.ref hr, .ref hg, .ref hgr])), (hr, .inr (7, [.int (nI 4), .int (nI 2), .int (nI 2), .int (nI 3), .int (nI 2), .int (nI 1), .ref sm, .int (nI 3), .ref ca])), (hg, .inr (4, [.ref nd, .ref kd, .ref lk, .ref vw])), (kd, .inl (cs 0, 8, .inl (fun _ => nI 0))), (vw, .inl (cs 2, 8, .inr (.inr (.inr (.inr (fun i => some (v i))))))), (v 0, .inr (10, [.int (nI 0), .int (nI 0), .ref (sv 0)])), (sv 0, .inl (cs 0, 32, .inl vF)), (v 1, .inr (10, [.int (nI 0), .int (nI 0), .ref (sv 1)])), (sv 1, .inl (cs 0, 32, .inl vF)), (v 2, .inr (10, [.int (nI 0), .int (nI 0), .ref (sv 2)])), (sv 2, .inl (cs 0, 32, .inl vF)), (v 3, .inr (10, [.int (nI 0), .int (nI 0), .ref (sv 3)])), (sv 3, .inl (cs 0, 32, .inl vF))] H := hP
  have hD : va_D A [(hpo, .inr (6, [.ref hr, .ref hg, .ref hgr])), (hr, .inr (7, [.int (nI 4), .int (nI 2), .int (nI 2), .int (nI 3), .int (nI 2), .int (nI 1), .ref sm, .int (nI 3), .ref ca])), (hg, .inr (4, [.ref nd, .ref kd, .ref lk, .ref vw])), (kd, .inl (cs 0, 8, .inl (fun _ => nI 0))), (vw, .inl (cs 2, 8, .inr (.inr (.inr (.inr (fun i => some (v i))))))), (v 0, .inr (10, [.int (nI 0), .int (nI 0), .ref (sv 0)])), (sv 0, .inl (cs 0, 32, .inl vF)), (v 1, .inr (10, [.int (nI 0), .int (nI 0), .ref (sv 1)])), (sv 1, .inl (cs 0, 32, .inl vF)), (v 2, .inr (10, [.int (nI 0), .int (nI 0), .ref (sv 2)])), (sv 2, .inl (cs 0, 32, .inl vF)), (v 3, .inr (10, [.int (nI 0), .int (nI 0), .ref (sv 3)])), (sv 3, .inl (cs 0, 32, .inl vF))] := hD
  obtain rfl : r_9 = nI 0 := by rw [hw_r_9]; decide
  refine lv_iconst (v := nI 1) hx hb dX6_isSplitSet_72 (by decide) ?_
  refine lv_icmp_le (tgt := 80) hx hb dX6_isSplitSet_73 (by decide) (fun _ => ?_) (fun c => absurd (by decide) c)
  refine lv_iconst (v := nI 0) hx hb dX6_isSplitSet_80 (by decide) ?_
  exact xreti C () rfl hP hD hS (Nat.le_of_ble_eq_true rfl) (Nat.le_of_ble_eq_true rfl) (by decide) dX6_isSplitSet_81

set_option maxHeartbeats 4000000 in
set_option maxRecDepth 100000 in
theorem c_X6_splitSets_z (l : Launch) (D : va_G) (cs : Nat → ClassId) (hpo hr hg hgr sm ca nd kd lk vw : Nat) (v sv : Nat → Nat) : xMet l D cs yX6_splitSets cX6_splitSets 3 (some .int) ({ frames := 3, cells := 0, slots := 0, locals := 66 } : Room) [.ref hpo] [(hpo, .inr (6, [.ref hr, .ref hg, .ref hgr])), (hr, .inr (7, [.int (nI 4), .int (nI 2), .int (nI 2), .int (nI 3), .int (nI 2), .int (nI 1), .ref sm, .int (nI 3), .ref ca])), (hg, .inr (4, [.ref nd, .ref kd, .ref lk, .ref vw])), (kd, .inl (cs 0, 8, .inl (fun _ => nI 0))), (vw, .inl (cs 2, 8, .inr (.inr (.inr (.inr (fun i => some (v i))))))), (v 0, .inr (10, [.int (nI 0), .int (nI 0), .ref (sv 0)])), (sv 0, .inl (cs 0, 32, .inl vF)), (v 1, .inr (10, [.int (nI 0), .int (nI 0), .ref (sv 1)])), (sv 1, .inl (cs 0, 32, .inl vF)), (v 2, .inr (10, [.int (nI 0), .int (nI 0), .ref (sv 2)])), (sv 2, .inl (cs 0, 32, .inl vF)), (v 3, .inr (10, [.int (nI 0), .int (nI 0), .ref (sv 3)])), (sv 3, .inl (cs 0, 32, .inl vF))] (xQi D (fun (r : Int32) (_u : Unit) => r = nI 0) (fun (_u : Unit) => [(hpo, .inr (6, [.ref hr, .ref hg, .ref hgr])), (hr, .inr (7, [.int (nI 4), .int (nI 2), .int (nI 2), .int (nI 3), .int (nI 2), .int (nI 1), .ref sm, .int (nI 3), .ref ca])), (hg, .inr (4, [.ref nd, .ref kd, .ref lk, .ref vw])), (kd, .inl (cs 0, 8, .inl (fun _ => nI 0))), (vw, .inl (cs 2, 8, .inr (.inr (.inr (.inr (fun i => some (v i))))))), (v 0, .inr (10, [.int (nI 0), .int (nI 0), .ref (sv 0)])), (sv 0, .inl (cs 0, 32, .inl vF)), (v 1, .inr (10, [.int (nI 0), .int (nI 0), .ref (sv 1)])), (sv 1, .inl (cs 0, 32, .inl vF)), (v 2, .inr (10, [.int (nI 0), .int (nI 0), .ref (sv 2)])), (sv 2, .inl (cs 0, 32, .inl vF)), (v 3, .inr (10, [.int (nI 0), .int (nI 0), .ref (sv 3)])), (sv 3, .inl (cs 0, 32, .inl vF))])) := by
  refine xMet.intro (by decide) (Nat.le_of_ble_eq_true rfl) ?_
  intro p e s m args below meth c A ls C hP hD hS hl
  have hx := C.1
  have hb := C.2.1
  have hz := C.2.2.2.2.1
  have hown := C.2.2.2.1
  have hA := C.2.2.2.2.2.2.2.2.2
  have hAO := C.2.2.2.2.2.2.2.2.1.2.2
  have hl : lv_has ls 3 [(0, .ref hpo)] := hl
  obtain ⟨H, hH⟩ : ∃ H, H = s.heap := ⟨_, rfl⟩
  have hP : va_P D vwCl [(hpo, .inr (6, [.ref hr, .ref hg, .ref hgr])), (hr, .inr (7, [.int (nI 4), .int (nI 2), .int (nI 2), .int (nI 3), .int (nI 2), .int (nI 1), .ref sm, .int (nI 3), .ref ca])), (hg, .inr (4, [.ref nd, .ref kd, .ref lk, .ref vw])), (kd, .inl (cs 0, 8, .inl (fun _ => nI 0))), (vw, .inl (cs 2, 8, .inr (.inr (.inr (.inr (fun i => some (v i))))))), (v 0, .inr (10, [.int (nI 0), .int (nI 0), .ref (sv 0)])), (sv 0, .inl (cs 0, 32, .inl vF)), (v 1, .inr (10, [.int (nI 0), .int (nI 0), .ref (sv 1)])), (sv 1, .inl (cs 0, 32, .inl vF)), (v 2, .inr (10, [.int (nI 0), .int (nI 0), .ref (sv 2)])), (sv 2, .inl (cs 0, 32, .inl vF)), (v 3, .inr (10, [.int (nI 0), .int (nI 0), .ref (sv 3)])), (sv 3, .inl (cs 0, 32, .inl vF))] H := by rw [hH]; exact hP
  have hS : va_S A s.heap H [] := by rw [hH]; exact hS
  obtain ⟨locs, hlocs⟩ : ∃ z : List Loc, z = [] := ⟨_, rfl⟩
  rw [← hlocs] at hS
  suffices hW : W p l e ({ frames := 3, cells := 0, slots := 0, locals := 66 } : Room) s m args below meth c H locs 0 0 (MQ below ((xQi D (fun (r : Int32) (_u : Unit) => r = nI 0) (fun (_u : Unit) => [(hpo, .inr (6, [.ref hr, .ref hg, .ref hgr])), (hr, .inr (7, [.int (nI 4), .int (nI 2), .int (nI 2), .int (nI 3), .int (nI 2), .int (nI 1), .ref sm, .int (nI 3), .ref ca])), (hg, .inr (4, [.ref nd, .ref kd, .ref lk, .ref vw])), (kd, .inl (cs 0, 8, .inl (fun _ => nI 0))), (vw, .inl (cs 2, 8, .inr (.inr (.inr (.inr (fun i => some (v i))))))), (v 0, .inr (10, [.int (nI 0), .int (nI 0), .ref (sv 0)])), (sv 0, .inl (cs 0, 32, .inl vF)), (v 1, .inr (10, [.int (nI 0), .int (nI 0), .ref (sv 1)])), (sv 1, .inl (cs 0, 32, .inl vF)), (v 2, .inr (10, [.int (nI 0), .int (nI 0), .ref (sv 2)])), (sv 2, .inl (cs 0, 32, .inl vF)), (v 3, .inr (10, [.int (nI 0), .int (nI 0), .ref (sv 3)])), (sv 3, .inl (cs 0, 32, .inl vF))])) A) args s 0 0 A) (F0 m 0 ls []) by rw [hlocs, hH] at hW; exact hW
  refine lv_iconst (v := nI 0) hx hb dX6_splitSets_0 (by decide) ?_
  refine lv_istore_n (lv' := [(1, .int (nI 0)), (0, .ref hpo)]) hx hb dX6_splitSets_1 rfl hl (by decide) rfl (fun ls hl => ?_)
  refine lv_iconst (v := nI 0) hx hb dX6_splitSets_2 (by decide) ?_
  refine lv_istore_n (lv' := [(2, .int (nI 0)), (1, .int (nI 0)), (0, .ref hpo)]) hx hb dX6_splitSets_3 rfl hl (by decide) rfl (fun ls hl => ?_)
  refine lv_iload_n hx hb dX6_splitSets_4 rfl (lv_at hl 0 rfl) ?_
  refine lv_bipush (v := nI 8) hx hb dX6_splitSets_5 (by decide) ?_
  refine lv_icmp_ge (tgt := 34) hx hb dX6_splitSets_7 (by decide) (fun c => absurd c (by decide)) (fun _ => ?_)
  refine lv_iload_n hx hb dX6_splitSets_10 rfl (lv_at hl 1 rfl) ?_
  refine lv_aload_n hx hb dX6_splitSets_11 rfl (lv_at hl 2 rfl) ?_
  refine lv_iload_n hx hb dX6_splitSets_12 rfl (lv_at hl 0 rfl) ?_
  refine xi (wr := []) (xV (As := [.int (nI 0)]) (rest := [.int (nI 0)]) C (c_X6_isSplitSet_z l D cs hpo hr hg hgr sm ca nd kd lk vw v sv 0 (by decide)) kX6_82 hP hD [0, 1, 2, 3, 4, 5, 6, 7, 8, 9, 10, 11, 12] rfl (by decide +kernel) 0 rfl rfl rfl ⟨Nat.le_of_ble_eq_true rfl, Nat.le_of_ble_eq_true rfl⟩ rfl hl.1 rfl (Nat.le_of_ble_eq_true rfl) dX6_splitSets_13 ⟨Nat.le_of_ble_eq_true rfl, Nat.le_of_ble_eq_true rfl⟩) hP hD hS hA [0, 1, 2, 3, 4, 5, 6, 7, 8, 9, 10, 11, 12] [] rfl rfl (by decide +kernel) (by decide +kernel) (fun r_1 u_2 H locs hw_r_1 hP hD hS => ?_)
  have hw_r_1 : r_1 = nI 0 := hw_r_1
  refine W.widen (k := 0) (n := 0) (Nat.le_of_ble_eq_true rfl) (Nat.le_of_ble_eq_true rfl) ?_
  have hP : va_P D vwCl [(hpo, .inr (6, [.ref hr, .ref hg, .ref hgr])), (hr, .inr (7, [.int (nI 4), .int (nI 2), .int (nI 2), .int (nI 3), .int (nI 2), .int (nI 1), .ref sm, .int (nI 3), .ref ca])), (hg, .inr (4, [.ref nd, .ref kd, .ref lk, .ref vw])), (kd, .inl (cs 0, 8, .inl (fun _ => nI 0))), (vw, .inl (cs 2, 8, .inr (.inr (.inr (.inr (fun i => some (v i))))))), (v 0, .inr (10, [.int (nI 0), .int (nI 0), .ref (sv 0)])), (sv 0, .inl (cs 0, 32, .inl vF)), (v 1, .inr (10, [.int (nI 0), .int (nI 0), .ref (sv 1)])), (sv 1, .inl (cs 0, 32, .inl vF)), (v 2, .inr (10, [.int (nI 0), .int (nI 0), .ref (sv 2)])), (sv 2, .inl (cs 0, 32, .inl vF)), (v 3, .inr (10, [.int (nI 0), .int (nI 0), .ref (sv 3)])), (sv 3, .inl (cs 0, 32, .inl vF))] H := hP
  have hD : va_D A [(hpo, .inr (6, [.ref hr, .ref hg, .ref hgr])), (hr, .inr (7, [.int (nI 4), .int (nI 2), .int (nI 2), .int (nI 3), .int (nI 2), .int (nI 1), .ref sm, .int (nI 3), .ref ca])), (hg, .inr (4, [.ref nd, .ref kd, .ref lk, .ref vw])), (kd, .inl (cs 0, 8, .inl (fun _ => nI 0))), (vw, .inl (cs 2, 8, .inr (.inr (.inr (.inr (fun i => some (v i))))))), (v 0, .inr (10, [.int (nI 0), .int (nI 0), .ref (sv 0)])), (sv 0, .inl (cs 0, 32, .inl vF)), (v 1, .inr (10, [.int (nI 0), .int (nI 0), .ref (sv 1)])), (sv 1, .inl (cs 0, 32, .inl vF)), (v 2, .inr (10, [.int (nI 0), .int (nI 0), .ref (sv 2)])), (sv 2, .inl (cs 0, 32, .inl vF)), (v 3, .inr (10, [.int (nI 0), .int (nI 0), .ref (sv 3)])), (sv 3, .inl (cs 0, 32, .inl vF))] := hD
  subst hw_r_1
  refine lv_if_eq (tgt := 25) hx hb dX6_splitSets_16 (by decide) (fun _ => ?_) (fun c => absurd (by decide) c)
  refine lv_iconst (v := nI 0) hx hb dX6_splitSets_25 (by decide) ?_
  refine lv_ior hx hb dX6_splitSets_26 ?_
  refine lv_topi (nm_r (e' := nI 0) (by decide) ?_)
  refine lv_istore_n (lv' := [(1, .int (nI 0)), (2, .int (nI 0)), (0, .ref hpo)]) hx hb dX6_splitSets_27 rfl hl (by decide) rfl (fun ls hl => ?_)
  refine lv_iinc (v := nI 1) (lv' := [(2, .int (nI 1)), (1, .int (nI 0)), (0, .ref hpo)]) hx hb dX6_splitSets_28 hl (k := 1) rfl (by decide) (by decide) rfl (fun ls hl => ?_)
  refine lv_goto (tgt := 4) hx hb dX6_splitSets_31 (by decide) ?_
  refine lv_iload_n hx hb dX6_splitSets_4 rfl (lv_at hl 0 rfl) ?_
  refine lv_bipush (v := nI 8) hx hb dX6_splitSets_5 (by decide) ?_
  refine lv_icmp_ge (tgt := 34) hx hb dX6_splitSets_7 (by decide) (fun c => absurd c (by decide)) (fun _ => ?_)
  refine lv_iload_n hx hb dX6_splitSets_10 rfl (lv_at hl 1 rfl) ?_
  refine lv_aload_n hx hb dX6_splitSets_11 rfl (lv_at hl 2 rfl) ?_
  refine lv_iload_n hx hb dX6_splitSets_12 rfl (lv_at hl 0 rfl) ?_
  refine xi (wr := []) (xV (As := [.int (nI 1)]) (rest := [.int (nI 0)]) C (c_X6_isSplitSet_z l D cs hpo hr hg hgr sm ca nd kd lk vw v sv 1 (by decide)) kX6_82 hP hD [0, 1, 2, 3, 4, 5, 6, 7, 8, 9, 10, 11, 12] rfl (by decide +kernel) 0 rfl rfl rfl ⟨Nat.le_of_ble_eq_true rfl, Nat.le_of_ble_eq_true rfl⟩ rfl hl.1 rfl (Nat.le_of_ble_eq_true rfl) dX6_splitSets_13 ⟨Nat.le_of_ble_eq_true rfl, Nat.le_of_ble_eq_true rfl⟩) hP hD hS hA [0, 1, 2, 3, 4, 5, 6, 7, 8, 9, 10, 11, 12] [] rfl rfl (by decide +kernel) (by decide +kernel) (fun r_3 u_4 H locs hw_r_3 hP hD hS => ?_)
  have hw_r_3 : r_3 = nI 0 := hw_r_3
  refine W.widen (k := 0) (n := 0) (Nat.le_of_ble_eq_true rfl) (Nat.le_of_ble_eq_true rfl) ?_
  have hP : va_P D vwCl [(hpo, .inr (6, [.ref hr, .ref hg, .ref hgr])), (hr, .inr (7, [.int (nI 4), .int (nI 2), .int (nI 2), .int (nI 3), .int (nI 2), .int (nI 1), .ref sm, .int (nI 3), .ref ca])), (hg, .inr (4, [.ref nd, .ref kd, .ref lk, .ref vw])), (kd, .inl (cs 0, 8, .inl (fun _ => nI 0))), (vw, .inl (cs 2, 8, .inr (.inr (.inr (.inr (fun i => some (v i))))))), (v 0, .inr (10, [.int (nI 0), .int (nI 0), .ref (sv 0)])), (sv 0, .inl (cs 0, 32, .inl vF)), (v 1, .inr (10, [.int (nI 0), .int (nI 0), .ref (sv 1)])), (sv 1, .inl (cs 0, 32, .inl vF)), (v 2, .inr (10, [.int (nI 0), .int (nI 0), .ref (sv 2)])), (sv 2, .inl (cs 0, 32, .inl vF)), (v 3, .inr (10, [.int (nI 0), .int (nI 0), .ref (sv 3)])), (sv 3, .inl (cs 0, 32, .inl vF))] H := hP
  have hD : va_D A [(hpo, .inr (6, [.ref hr, .ref hg, .ref hgr])), (hr, .inr (7, [.int (nI 4), .int (nI 2), .int (nI 2), .int (nI 3), .int (nI 2), .int (nI 1), .ref sm, .int (nI 3), .ref ca])), (hg, .inr (4, [.ref nd, .ref kd, .ref lk, .ref vw])), (kd, .inl (cs 0, 8, .inl (fun _ => nI 0))), (vw, .inl (cs 2, 8, .inr (.inr (.inr (.inr (fun i => some (v i))))))), (v 0, .inr (10, [.int (nI 0), .int (nI 0), .ref (sv 0)])), (sv 0, .inl (cs 0, 32, .inl vF)), (v 1, .inr (10, [.int (nI 0), .int (nI 0), .ref (sv 1)])), (sv 1, .inl (cs 0, 32, .inl vF)), (v 2, .inr (10, [.int (nI 0), .int (nI 0), .ref (sv 2)])), (sv 2, .inl (cs 0, 32, .inl vF)), (v 3, .inr (10, [.int (nI 0), .int (nI 0), .ref (sv 3)])), (sv 3, .inl (cs 0, 32, .inl vF))] := hD
  subst hw_r_3
  refine lv_if_eq (tgt := 25) hx hb dX6_splitSets_16 (by decide) (fun _ => ?_) (fun c => absurd (by decide) c)
  refine lv_iconst (v := nI 0) hx hb dX6_splitSets_25 (by decide) ?_
  refine lv_ior hx hb dX6_splitSets_26 ?_
  refine lv_topi (nm_r (e' := nI 0) (by decide) ?_)
  refine lv_istore_n (lv' := [(1, .int (nI 0)), (2, .int (nI 1)), (0, .ref hpo)]) hx hb dX6_splitSets_27 rfl hl (by decide) rfl (fun ls hl => ?_)
  refine lv_iinc (v := nI 2) (lv' := [(2, .int (nI 2)), (1, .int (nI 0)), (0, .ref hpo)]) hx hb dX6_splitSets_28 hl (k := 1) rfl (by decide) (by decide) rfl (fun ls hl => ?_)
  refine lv_goto (tgt := 4) hx hb dX6_splitSets_31 (by decide) ?_
  refine lv_iload_n hx hb dX6_splitSets_4 rfl (lv_at hl 0 rfl) ?_
  refine lv_bipush (v := nI 8) hx hb dX6_splitSets_5 (by decide) ?_
  refine lv_icmp_ge (tgt := 34) hx hb dX6_splitSets_7 (by decide) (fun c => absurd c (by decide)) (fun _ => ?_)
  refine lv_iload_n hx hb dX6_splitSets_10 rfl (lv_at hl 1 rfl) ?_
  refine lv_aload_n hx hb dX6_splitSets_11 rfl (lv_at hl 2 rfl) ?_
  refine lv_iload_n hx hb dX6_splitSets_12 rfl (lv_at hl 0 rfl) ?_
  refine xi (wr := []) (xV (As := [.int (nI 2)]) (rest := [.int (nI 0)]) C (c_X6_isSplitSet_z l D cs hpo hr hg hgr sm ca nd kd lk vw v sv 2 (by decide)) kX6_82 hP hD [0, 1, 2, 3, 4, 5, 6, 7, 8, 9, 10, 11, 12] rfl (by decide +kernel) 0 rfl rfl rfl ⟨Nat.le_of_ble_eq_true rfl, Nat.le_of_ble_eq_true rfl⟩ rfl hl.1 rfl (Nat.le_of_ble_eq_true rfl) dX6_splitSets_13 ⟨Nat.le_of_ble_eq_true rfl, Nat.le_of_ble_eq_true rfl⟩) hP hD hS hA [0, 1, 2, 3, 4, 5, 6, 7, 8, 9, 10, 11, 12] [] rfl rfl (by decide +kernel) (by decide +kernel) (fun r_5 u_6 H locs hw_r_5 hP hD hS => ?_)
  have hw_r_5 : r_5 = nI 0 := hw_r_5
  refine W.widen (k := 0) (n := 0) (Nat.le_of_ble_eq_true rfl) (Nat.le_of_ble_eq_true rfl) ?_
  have hP : va_P D vwCl [(hpo, .inr (6, [.ref hr, .ref hg, .ref hgr])), (hr, .inr (7, [.int (nI 4), .int (nI 2), .int (nI 2), .int (nI 3), .int (nI 2), .int (nI 1), .ref sm, .int (nI 3), .ref ca])), (hg, .inr (4, [.ref nd, .ref kd, .ref lk, .ref vw])), (kd, .inl (cs 0, 8, .inl (fun _ => nI 0))), (vw, .inl (cs 2, 8, .inr (.inr (.inr (.inr (fun i => some (v i))))))), (v 0, .inr (10, [.int (nI 0), .int (nI 0), .ref (sv 0)])), (sv 0, .inl (cs 0, 32, .inl vF)), (v 1, .inr (10, [.int (nI 0), .int (nI 0), .ref (sv 1)])), (sv 1, .inl (cs 0, 32, .inl vF)), (v 2, .inr (10, [.int (nI 0), .int (nI 0), .ref (sv 2)])), (sv 2, .inl (cs 0, 32, .inl vF)), (v 3, .inr (10, [.int (nI 0), .int (nI 0), .ref (sv 3)])), (sv 3, .inl (cs 0, 32, .inl vF))] H := hP
  have hD : va_D A [(hpo, .inr (6, [.ref hr, .ref hg, .ref hgr])), (hr, .inr (7, [.int (nI 4), .int (nI 2), .int (nI 2), .int (nI 3), .int (nI 2), .int (nI 1), .ref sm, .int (nI 3), .ref ca])), (hg, .inr (4, [.ref nd, .ref kd, .ref lk, .ref vw])), (kd, .inl (cs 0, 8, .inl (fun _ => nI 0))), (vw, .inl (cs 2, 8, .inr (.inr (.inr (.inr (fun i => some (v i))))))), (v 0, .inr (10, [.int (nI 0), .int (nI 0), .ref (sv 0)])), (sv 0, .inl (cs 0, 32, .inl vF)), (v 1, .inr (10, [.int (nI 0), .int (nI 0), .ref (sv 1)])), (sv 1, .inl (cs 0, 32, .inl vF)), (v 2, .inr (10, [.int (nI 0), .int (nI 0), .ref (sv 2)])), (sv 2, .inl (cs 0, 32, .inl vF)), (v 3, .inr (10, [.int (nI 0), .int (nI 0), .ref (sv 3)])), (sv 3, .inl (cs 0, 32, .inl vF))] := hD
  subst hw_r_5
  refine lv_if_eq (tgt := 25) hx hb dX6_splitSets_16 (by decide) (fun _ => ?_) (fun c => absurd (by decide) c)
  refine lv_iconst (v := nI 0) hx hb dX6_splitSets_25 (by decide) ?_
  refine lv_ior hx hb dX6_splitSets_26 ?_
  refine lv_topi (nm_r (e' := nI 0) (by decide) ?_)
  refine lv_istore_n (lv' := [(1, .int (nI 0)), (2, .int (nI 2)), (0, .ref hpo)]) hx hb dX6_splitSets_27 rfl hl (by decide) rfl (fun ls hl => ?_)
  refine lv_iinc (v := nI 3) (lv' := [(2, .int (nI 3)), (1, .int (nI 0)), (0, .ref hpo)]) hx hb dX6_splitSets_28 hl (k := 1) rfl (by decide) (by decide) rfl (fun ls hl => ?_)
  refine lv_goto (tgt := 4) hx hb dX6_splitSets_31 (by decide) ?_
  refine lv_iload_n hx hb dX6_splitSets_4 rfl (lv_at hl 0 rfl) ?_
  refine lv_bipush (v := nI 8) hx hb dX6_splitSets_5 (by decide) ?_
  refine lv_icmp_ge (tgt := 34) hx hb dX6_splitSets_7 (by decide) (fun c => absurd c (by decide)) (fun _ => ?_)
  refine lv_iload_n hx hb dX6_splitSets_10 rfl (lv_at hl 1 rfl) ?_
  refine lv_aload_n hx hb dX6_splitSets_11 rfl (lv_at hl 2 rfl) ?_
  refine lv_iload_n hx hb dX6_splitSets_12 rfl (lv_at hl 0 rfl) ?_
  refine xi (wr := []) (xV (As := [.int (nI 3)]) (rest := [.int (nI 0)]) C (c_X6_isSplitSet_z l D cs hpo hr hg hgr sm ca nd kd lk vw v sv 3 (by decide)) kX6_82 hP hD [0, 1, 2, 3, 4, 5, 6, 7, 8, 9, 10, 11, 12] rfl (by decide +kernel) 0 rfl rfl rfl ⟨Nat.le_of_ble_eq_true rfl, Nat.le_of_ble_eq_true rfl⟩ rfl hl.1 rfl (Nat.le_of_ble_eq_true rfl) dX6_splitSets_13 ⟨Nat.le_of_ble_eq_true rfl, Nat.le_of_ble_eq_true rfl⟩) hP hD hS hA [0, 1, 2, 3, 4, 5, 6, 7, 8, 9, 10, 11, 12] [] rfl rfl (by decide +kernel) (by decide +kernel) (fun r_7 u_8 H locs hw_r_7 hP hD hS => ?_)
  have hw_r_7 : r_7 = nI 0 := hw_r_7
  refine W.widen (k := 0) (n := 0) (Nat.le_of_ble_eq_true rfl) (Nat.le_of_ble_eq_true rfl) ?_
  have hP : va_P D vwCl [(hpo, .inr (6, [.ref hr, .ref hg, .ref hgr])), (hr, .inr (7, [.int (nI 4), .int (nI 2), .int (nI 2), .int (nI 3), .int (nI 2), .int (nI 1), .ref sm, .int (nI 3), .ref ca])), (hg, .inr (4, [.ref nd, .ref kd, .ref lk, .ref vw])), (kd, .inl (cs 0, 8, .inl (fun _ => nI 0))), (vw, .inl (cs 2, 8, .inr (.inr (.inr (.inr (fun i => some (v i))))))), (v 0, .inr (10, [.int (nI 0), .int (nI 0), .ref (sv 0)])), (sv 0, .inl (cs 0, 32, .inl vF)), (v 1, .inr (10, [.int (nI 0), .int (nI 0), .ref (sv 1)])), (sv 1, .inl (cs 0, 32, .inl vF)), (v 2, .inr (10, [.int (nI 0), .int (nI 0), .ref (sv 2)])), (sv 2, .inl (cs 0, 32, .inl vF)), (v 3, .inr (10, [.int (nI 0), .int (nI 0), .ref (sv 3)])), (sv 3, .inl (cs 0, 32, .inl vF))] H := hP
  have hD : va_D A [(hpo, .inr (6, [.ref hr, .ref hg, .ref hgr])), (hr, .inr (7, [.int (nI 4), .int (nI 2), .int (nI 2), .int (nI 3), .int (nI 2), .int (nI 1), .ref sm, .int (nI 3), .ref ca])), (hg, .inr (4, [.ref nd, .ref kd, .ref lk, .ref vw])), (kd, .inl (cs 0, 8, .inl (fun _ => nI 0))), (vw, .inl (cs 2, 8, .inr (.inr (.inr (.inr (fun i => some (v i))))))), (v 0, .inr (10, [.int (nI 0), .int (nI 0), .ref (sv 0)])), (sv 0, .inl (cs 0, 32, .inl vF)), (v 1, .inr (10, [.int (nI 0), .int (nI 0), .ref (sv 1)])), (sv 1, .inl (cs 0, 32, .inl vF)), (v 2, .inr (10, [.int (nI 0), .int (nI 0), .ref (sv 2)])), (sv 2, .inl (cs 0, 32, .inl vF)), (v 3, .inr (10, [.int (nI 0), .int (nI 0), .ref (sv 3)])), (sv 3, .inl (cs 0, 32, .inl vF))] := hD
  subst hw_r_7
  refine lv_if_eq (tgt := 25) hx hb dX6_splitSets_16 (by decide) (fun _ => ?_) (fun c => absurd (by decide) c)
  refine lv_iconst (v := nI 0) hx hb dX6_splitSets_25 (by decide) ?_
  refine lv_ior hx hb dX6_splitSets_26 ?_
  refine lv_topi (nm_r (e' := nI 0) (by decide) ?_)
  refine lv_istore_n (lv' := [(1, .int (nI 0)), (2, .int (nI 3)), (0, .ref hpo)]) hx hb dX6_splitSets_27 rfl hl (by decide) rfl (fun ls hl => ?_)
  refine lv_iinc (v := nI 4) (lv' := [(2, .int (nI 4)), (1, .int (nI 0)), (0, .ref hpo)]) hx hb dX6_splitSets_28 hl (k := 1) rfl (by decide) (by decide) rfl (fun ls hl => ?_)
  refine lv_goto (tgt := 4) hx hb dX6_splitSets_31 (by decide) ?_
  refine lv_iload_n hx hb dX6_splitSets_4 rfl (lv_at hl 0 rfl) ?_
  refine lv_bipush (v := nI 8) hx hb dX6_splitSets_5 (by decide) ?_
  refine lv_icmp_ge (tgt := 34) hx hb dX6_splitSets_7 (by decide) (fun c => absurd c (by decide)) (fun _ => ?_)
  refine lv_iload_n hx hb dX6_splitSets_10 rfl (lv_at hl 1 rfl) ?_
  refine lv_aload_n hx hb dX6_splitSets_11 rfl (lv_at hl 2 rfl) ?_
  refine lv_iload_n hx hb dX6_splitSets_12 rfl (lv_at hl 0 rfl) ?_
  refine xi (wr := []) (xV (As := [.int (nI 4)]) (rest := [.int (nI 0)]) C (c_X6_isSplitSet_z l D cs hpo hr hg hgr sm ca nd kd lk vw v sv 4 (by decide)) kX6_82 hP hD [0, 1, 2, 3, 4, 5, 6, 7, 8, 9, 10, 11, 12] rfl (by decide +kernel) 0 rfl rfl rfl ⟨Nat.le_of_ble_eq_true rfl, Nat.le_of_ble_eq_true rfl⟩ rfl hl.1 rfl (Nat.le_of_ble_eq_true rfl) dX6_splitSets_13 ⟨Nat.le_of_ble_eq_true rfl, Nat.le_of_ble_eq_true rfl⟩) hP hD hS hA [0, 1, 2, 3, 4, 5, 6, 7, 8, 9, 10, 11, 12] [] rfl rfl (by decide +kernel) (by decide +kernel) (fun r_9 u_10 H locs hw_r_9 hP hD hS => ?_)
  have hw_r_9 : r_9 = nI 0 := hw_r_9
  refine W.widen (k := 0) (n := 0) (Nat.le_of_ble_eq_true rfl) (Nat.le_of_ble_eq_true rfl) ?_
  have hP : va_P D vwCl [(hpo, .inr (6, [.ref hr, .ref hg, .ref hgr])), (hr, .inr (7, [.int (nI 4), .int (nI 2), .int (nI 2), .int (nI 3), .int (nI 2), .int (nI 1), .ref sm, .int (nI 3), .ref ca])), (hg, .inr (4, [.ref nd, .ref kd, .ref lk, .ref vw])), (kd, .inl (cs 0, 8, .inl (fun _ => nI 0))), (vw, .inl (cs 2, 8, .inr (.inr (.inr (.inr (fun i => some (v i))))))), (v 0, .inr (10, [.int (nI 0), .int (nI 0), .ref (sv 0)])), (sv 0, .inl (cs 0, 32, .inl vF)), (v 1, .inr (10, [.int (nI 0), .int (nI 0), .ref (sv 1)])), (sv 1, .inl (cs 0, 32, .inl vF)), (v 2, .inr (10, [.int (nI 0), .int (nI 0), .ref (sv 2)])), (sv 2, .inl (cs 0, 32, .inl vF)), (v 3, .inr (10, [.int (nI 0), .int (nI 0), .ref (sv 3)])), (sv 3, .inl (cs 0, 32, .inl vF))] H := hP
  have hD : va_D A [(hpo, .inr (6, [.ref hr, .ref hg, .ref hgr])), (hr, .inr (7, [.int (nI 4), .int (nI 2), .int (nI 2), .int (nI 3), .int (nI 2), .int (nI 1), .ref sm, .int (nI 3), .ref ca])), (hg, .inr (4, [.ref nd, .ref kd, .ref lk, .ref vw])), (kd, .inl (cs 0, 8, .inl (fun _ => nI 0))), (vw, .inl (cs 2, 8, .inr (.inr (.inr (.inr (fun i => some (v i))))))), (v 0, .inr (10, [.int (nI 0), .int (nI 0), .ref (sv 0)])), (sv 0, .inl (cs 0, 32, .inl vF)), (v 1, .inr (10, [.int (nI 0), .int (nI 0), .ref (sv 1)])), (sv 1, .inl (cs 0, 32, .inl vF)), (v 2, .inr (10, [.int (nI 0), .int (nI 0), .ref (sv 2)])), (sv 2, .inl (cs 0, 32, .inl vF)), (v 3, .inr (10, [.int (nI 0), .int (nI 0), .ref (sv 3)])), (sv 3, .inl (cs 0, 32, .inl vF))] := hD
  subst hw_r_9
  refine lv_if_eq (tgt := 25) hx hb dX6_splitSets_16 (by decide) (fun _ => ?_) (fun c => absurd (by decide) c)
  refine lv_iconst (v := nI 0) hx hb dX6_splitSets_25 (by decide) ?_
  refine lv_ior hx hb dX6_splitSets_26 ?_
  refine lv_topi (nm_r (e' := nI 0) (by decide) ?_)
  refine lv_istore_n (lv' := [(1, .int (nI 0)), (2, .int (nI 4)), (0, .ref hpo)]) hx hb dX6_splitSets_27 rfl hl (by decide) rfl (fun ls hl => ?_)
  refine lv_iinc (v := nI 5) (lv' := [(2, .int (nI 5)), (1, .int (nI 0)), (0, .ref hpo)]) hx hb dX6_splitSets_28 hl (k := 1) rfl (by decide) (by decide) rfl (fun ls hl => ?_)
  refine lv_goto (tgt := 4) hx hb dX6_splitSets_31 (by decide) ?_
  refine lv_iload_n hx hb dX6_splitSets_4 rfl (lv_at hl 0 rfl) ?_
  refine lv_bipush (v := nI 8) hx hb dX6_splitSets_5 (by decide) ?_
  refine lv_icmp_ge (tgt := 34) hx hb dX6_splitSets_7 (by decide) (fun c => absurd c (by decide)) (fun _ => ?_)
  refine lv_iload_n hx hb dX6_splitSets_10 rfl (lv_at hl 1 rfl) ?_
  refine lv_aload_n hx hb dX6_splitSets_11 rfl (lv_at hl 2 rfl) ?_
  refine lv_iload_n hx hb dX6_splitSets_12 rfl (lv_at hl 0 rfl) ?_
  refine xi (wr := []) (xV (As := [.int (nI 5)]) (rest := [.int (nI 0)]) C (c_X6_isSplitSet_z l D cs hpo hr hg hgr sm ca nd kd lk vw v sv 5 (by decide)) kX6_82 hP hD [0, 1, 2, 3, 4, 5, 6, 7, 8, 9, 10, 11, 12] rfl (by decide +kernel) 0 rfl rfl rfl ⟨Nat.le_of_ble_eq_true rfl, Nat.le_of_ble_eq_true rfl⟩ rfl hl.1 rfl (Nat.le_of_ble_eq_true rfl) dX6_splitSets_13 ⟨Nat.le_of_ble_eq_true rfl, Nat.le_of_ble_eq_true rfl⟩) hP hD hS hA [0, 1, 2, 3, 4, 5, 6, 7, 8, 9, 10, 11, 12] [] rfl rfl (by decide +kernel) (by decide +kernel) (fun r_11 u_12 H locs hw_r_11 hP hD hS => ?_)
  have hw_r_11 : r_11 = nI 0 := hw_r_11
  refine W.widen (k := 0) (n := 0) (Nat.le_of_ble_eq_true rfl) (Nat.le_of_ble_eq_true rfl) ?_
  have hP : va_P D vwCl [(hpo, .inr (6, [.ref hr, .ref hg, .ref hgr])), (hr, .inr (7, [.int (nI 4), .int (nI 2), .int (nI 2), .int (nI 3), .int (nI 2), .int (nI 1), .ref sm, .int (nI 3), .ref ca])), (hg, .inr (4, [.ref nd, .ref kd, .ref lk, .ref vw])), (kd, .inl (cs 0, 8, .inl (fun _ => nI 0))), (vw, .inl (cs 2, 8, .inr (.inr (.inr (.inr (fun i => some (v i))))))), (v 0, .inr (10, [.int (nI 0), .int (nI 0), .ref (sv 0)])), (sv 0, .inl (cs 0, 32, .inl vF)), (v 1, .inr (10, [.int (nI 0), .int (nI 0), .ref (sv 1)])), (sv 1, .inl (cs 0, 32, .inl vF)), (v 2, .inr (10, [.int (nI 0), .int (nI 0), .ref (sv 2)])), (sv 2, .inl (cs 0, 32, .inl vF)), (v 3, .inr (10, [.int (nI 0), .int (nI 0), .ref (sv 3)])), (sv 3, .inl (cs 0, 32, .inl vF))] H := hP
  have hD : va_D A [(hpo, .inr (6, [.ref hr, .ref hg, .ref hgr])), (hr, .inr (7, [.int (nI 4), .int (nI 2), .int (nI 2), .int (nI 3), .int (nI 2), .int (nI 1), .ref sm, .int (nI 3), .ref ca])), (hg, .inr (4, [.ref nd, .ref kd, .ref lk, .ref vw])), (kd, .inl (cs 0, 8, .inl (fun _ => nI 0))), (vw, .inl (cs 2, 8, .inr (.inr (.inr (.inr (fun i => some (v i))))))), (v 0, .inr (10, [.int (nI 0), .int (nI 0), .ref (sv 0)])), (sv 0, .inl (cs 0, 32, .inl vF)), (v 1, .inr (10, [.int (nI 0), .int (nI 0), .ref (sv 1)])), (sv 1, .inl (cs 0, 32, .inl vF)), (v 2, .inr (10, [.int (nI 0), .int (nI 0), .ref (sv 2)])), (sv 2, .inl (cs 0, 32, .inl vF)), (v 3, .inr (10, [.int (nI 0), .int (nI 0), .ref (sv 3)])), (sv 3, .inl (cs 0, 32, .inl vF))] := hD
  subst hw_r_11
  refine lv_if_eq (tgt := 25) hx hb dX6_splitSets_16 (by decide) (fun _ => ?_) (fun c => absurd (by decide) c)
  refine lv_iconst (v := nI 0) hx hb dX6_splitSets_25 (by decide) ?_
  refine lv_ior hx hb dX6_splitSets_26 ?_
  refine lv_topi (nm_r (e' := nI 0) (by decide) ?_)
  refine lv_istore_n (lv' := [(1, .int (nI 0)), (2, .int (nI 5)), (0, .ref hpo)]) hx hb dX6_splitSets_27 rfl hl (by decide) rfl (fun ls hl => ?_)
  refine lv_iinc (v := nI 6) (lv' := [(2, .int (nI 6)), (1, .int (nI 0)), (0, .ref hpo)]) hx hb dX6_splitSets_28 hl (k := 1) rfl (by decide) (by decide) rfl (fun ls hl => ?_)
  refine lv_goto (tgt := 4) hx hb dX6_splitSets_31 (by decide) ?_
  refine lv_iload_n hx hb dX6_splitSets_4 rfl (lv_at hl 0 rfl) ?_
  refine lv_bipush (v := nI 8) hx hb dX6_splitSets_5 (by decide) ?_
  refine lv_icmp_ge (tgt := 34) hx hb dX6_splitSets_7 (by decide) (fun c => absurd c (by decide)) (fun _ => ?_)
  refine lv_iload_n hx hb dX6_splitSets_10 rfl (lv_at hl 1 rfl) ?_
  refine lv_aload_n hx hb dX6_splitSets_11 rfl (lv_at hl 2 rfl) ?_
  refine lv_iload_n hx hb dX6_splitSets_12 rfl (lv_at hl 0 rfl) ?_
  refine xi (wr := []) (xV (As := [.int (nI 6)]) (rest := [.int (nI 0)]) C (c_X6_isSplitSet_z l D cs hpo hr hg hgr sm ca nd kd lk vw v sv 6 (by decide)) kX6_82 hP hD [0, 1, 2, 3, 4, 5, 6, 7, 8, 9, 10, 11, 12] rfl (by decide +kernel) 0 rfl rfl rfl ⟨Nat.le_of_ble_eq_true rfl, Nat.le_of_ble_eq_true rfl⟩ rfl hl.1 rfl (Nat.le_of_ble_eq_true rfl) dX6_splitSets_13 ⟨Nat.le_of_ble_eq_true rfl, Nat.le_of_ble_eq_true rfl⟩) hP hD hS hA [0, 1, 2, 3, 4, 5, 6, 7, 8, 9, 10, 11, 12] [] rfl rfl (by decide +kernel) (by decide +kernel) (fun r_13 u_14 H locs hw_r_13 hP hD hS => ?_)
  have hw_r_13 : r_13 = nI 0 := hw_r_13
  refine W.widen (k := 0) (n := 0) (Nat.le_of_ble_eq_true rfl) (Nat.le_of_ble_eq_true rfl) ?_
  have hP : va_P D vwCl [(hpo, .inr (6, [.ref hr, .ref hg, .ref hgr])), (hr, .inr (7, [.int (nI 4), .int (nI 2), .int (nI 2), .int (nI 3), .int (nI 2), .int (nI 1), .ref sm, .int (nI 3), .ref ca])), (hg, .inr (4, [.ref nd, .ref kd, .ref lk, .ref vw])), (kd, .inl (cs 0, 8, .inl (fun _ => nI 0))), (vw, .inl (cs 2, 8, .inr (.inr (.inr (.inr (fun i => some (v i))))))), (v 0, .inr (10, [.int (nI 0), .int (nI 0), .ref (sv 0)])), (sv 0, .inl (cs 0, 32, .inl vF)), (v 1, .inr (10, [.int (nI 0), .int (nI 0), .ref (sv 1)])), (sv 1, .inl (cs 0, 32, .inl vF)), (v 2, .inr (10, [.int (nI 0), .int (nI 0), .ref (sv 2)])), (sv 2, .inl (cs 0, 32, .inl vF)), (v 3, .inr (10, [.int (nI 0), .int (nI 0), .ref (sv 3)])), (sv 3, .inl (cs 0, 32, .inl vF))] H := hP
  have hD : va_D A [(hpo, .inr (6, [.ref hr, .ref hg, .ref hgr])), (hr, .inr (7, [.int (nI 4), .int (nI 2), .int (nI 2), .int (nI 3), .int (nI 2), .int (nI 1), .ref sm, .int (nI 3), .ref ca])), (hg, .inr (4, [.ref nd, .ref kd, .ref lk, .ref vw])), (kd, .inl (cs 0, 8, .inl (fun _ => nI 0))), (vw, .inl (cs 2, 8, .inr (.inr (.inr (.inr (fun i => some (v i))))))), (v 0, .inr (10, [.int (nI 0), .int (nI 0), .ref (sv 0)])), (sv 0, .inl (cs 0, 32, .inl vF)), (v 1, .inr (10, [.int (nI 0), .int (nI 0), .ref (sv 1)])), (sv 1, .inl (cs 0, 32, .inl vF)), (v 2, .inr (10, [.int (nI 0), .int (nI 0), .ref (sv 2)])), (sv 2, .inl (cs 0, 32, .inl vF)), (v 3, .inr (10, [.int (nI 0), .int (nI 0), .ref (sv 3)])), (sv 3, .inl (cs 0, 32, .inl vF))] := hD
  subst hw_r_13
  refine lv_if_eq (tgt := 25) hx hb dX6_splitSets_16 (by decide) (fun _ => ?_) (fun c => absurd (by decide) c)
  refine lv_iconst (v := nI 0) hx hb dX6_splitSets_25 (by decide) ?_
  refine lv_ior hx hb dX6_splitSets_26 ?_
  refine lv_topi (nm_r (e' := nI 0) (by decide) ?_)
  refine lv_istore_n (lv' := [(1, .int (nI 0)), (2, .int (nI 6)), (0, .ref hpo)]) hx hb dX6_splitSets_27 rfl hl (by decide) rfl (fun ls hl => ?_)
  refine lv_iinc (v := nI 7) (lv' := [(2, .int (nI 7)), (1, .int (nI 0)), (0, .ref hpo)]) hx hb dX6_splitSets_28 hl (k := 1) rfl (by decide) (by decide) rfl (fun ls hl => ?_)
  refine lv_goto (tgt := 4) hx hb dX6_splitSets_31 (by decide) ?_
  refine lv_iload_n hx hb dX6_splitSets_4 rfl (lv_at hl 0 rfl) ?_
  refine lv_bipush (v := nI 8) hx hb dX6_splitSets_5 (by decide) ?_
  refine lv_icmp_ge (tgt := 34) hx hb dX6_splitSets_7 (by decide) (fun c => absurd c (by decide)) (fun _ => ?_)
  refine lv_iload_n hx hb dX6_splitSets_10 rfl (lv_at hl 1 rfl) ?_
  refine lv_aload_n hx hb dX6_splitSets_11 rfl (lv_at hl 2 rfl) ?_
  refine lv_iload_n hx hb dX6_splitSets_12 rfl (lv_at hl 0 rfl) ?_
  refine xi (wr := []) (xV (As := [.int (nI 7)]) (rest := [.int (nI 0)]) C (c_X6_isSplitSet_z l D cs hpo hr hg hgr sm ca nd kd lk vw v sv 7 (by decide)) kX6_82 hP hD [0, 1, 2, 3, 4, 5, 6, 7, 8, 9, 10, 11, 12] rfl (by decide +kernel) 0 rfl rfl rfl ⟨Nat.le_of_ble_eq_true rfl, Nat.le_of_ble_eq_true rfl⟩ rfl hl.1 rfl (Nat.le_of_ble_eq_true rfl) dX6_splitSets_13 ⟨Nat.le_of_ble_eq_true rfl, Nat.le_of_ble_eq_true rfl⟩) hP hD hS hA [0, 1, 2, 3, 4, 5, 6, 7, 8, 9, 10, 11, 12] [] rfl rfl (by decide +kernel) (by decide +kernel) (fun r_15 u_16 H locs hw_r_15 hP hD hS => ?_)
  have hw_r_15 : r_15 = nI 0 := hw_r_15
  refine W.widen (k := 0) (n := 0) (Nat.le_of_ble_eq_true rfl) (Nat.le_of_ble_eq_true rfl) ?_
  have hP : va_P D vwCl [(hpo, .inr (6, [.ref hr, .ref hg, .ref hgr])), (hr, .inr (7, [.int (nI 4), .int (nI 2), .int (nI 2), .int (nI 3), .int (nI 2), .int (nI 1), .ref sm, .int (nI 3), .ref ca])), (hg, .inr (4, [.ref nd, .ref kd, .ref lk, .ref vw])), (kd, .inl (cs 0, 8, .inl (fun _ => nI 0))), (vw, .inl (cs 2, 8, .inr (.inr (.inr (.inr (fun i => some (v i))))))), (v 0, .inr (10, [.int (nI 0), .int (nI 0), .ref (sv 0)])), (sv 0, .inl (cs 0, 32, .inl vF)), (v 1, .inr (10, [.int (nI 0), .int (nI 0), .ref (sv 1)])), (sv 1, .inl (cs 0, 32, .inl vF)), (v 2, .inr (10, [.int (nI 0), .int (nI 0), .ref (sv 2)])), (sv 2, .inl (cs 0, 32, .inl vF)), (v 3, .inr (10, [.int (nI 0), .int (nI 0), .ref (sv 3)])), (sv 3, .inl (cs 0, 32, .inl vF))] H := hP
  have hD : va_D A [(hpo, .inr (6, [.ref hr, .ref hg, .ref hgr])), (hr, .inr (7, [.int (nI 4), .int (nI 2), .int (nI 2), .int (nI 3), .int (nI 2), .int (nI 1), .ref sm, .int (nI 3), .ref ca])), (hg, .inr (4, [.ref nd, .ref kd, .ref lk, .ref vw])), (kd, .inl (cs 0, 8, .inl (fun _ => nI 0))), (vw, .inl (cs 2, 8, .inr (.inr (.inr (.inr (fun i => some (v i))))))), (v 0, .inr (10, [.int (nI 0), .int (nI 0), .ref (sv 0)])), (sv 0, .inl (cs 0, 32, .inl vF)), (v 1, .inr (10, [.int (nI 0), .int (nI 0), .ref (sv 1)])), (sv 1, .inl (cs 0, 32, .inl vF)), (v 2, .inr (10, [.int (nI 0), .int (nI 0), .ref (sv 2)])), (sv 2, .inl (cs 0, 32, .inl vF)), (v 3, .inr (10, [.int (nI 0), .int (nI 0), .ref (sv 3)])), (sv 3, .inl (cs 0, 32, .inl vF))] := hD
  subst hw_r_15
  refine lv_if_eq (tgt := 25) hx hb dX6_splitSets_16 (by decide) (fun _ => ?_) (fun c => absurd (by decide) c)
  refine lv_iconst (v := nI 0) hx hb dX6_splitSets_25 (by decide) ?_
  refine lv_ior hx hb dX6_splitSets_26 ?_
  refine lv_topi (nm_r (e' := nI 0) (by decide) ?_)
  refine lv_istore_n (lv' := [(1, .int (nI 0)), (2, .int (nI 7)), (0, .ref hpo)]) hx hb dX6_splitSets_27 rfl hl (by decide) rfl (fun ls hl => ?_)
  refine lv_iinc (v := nI 8) (lv' := [(2, .int (nI 8)), (1, .int (nI 0)), (0, .ref hpo)]) hx hb dX6_splitSets_28 hl (k := 1) rfl (by decide) (by decide) rfl (fun ls hl => ?_)
  refine lv_goto (tgt := 4) hx hb dX6_splitSets_31 (by decide) ?_
  refine lv_iload_n hx hb dX6_splitSets_4 rfl (lv_at hl 0 rfl) ?_
  refine lv_bipush (v := nI 8) hx hb dX6_splitSets_5 (by decide) ?_
  refine lv_icmp_ge (tgt := 34) hx hb dX6_splitSets_7 (by decide) (fun _ => ?_) (fun c => absurd (by decide) c)
  refine lv_iload_n hx hb dX6_splitSets_34 rfl (lv_at hl 1 rfl) ?_
  exact xreti C () rfl hP hD hS (Nat.le_of_ble_eq_true rfl) (Nat.le_of_ble_eq_true rfl) rfl dX6_splitSets_35
