set_option maxHeartbeats 4000000 in
set_option maxRecDepth 100000 in
theorem c_X1_init_z (l : Launch) (D : va_G) (cs : Nat → ClassId) (hc hr : Nat) : xMet l D cs yX1_init cX1_init 2 none ({ frames := 1, cells := 4, slots := 36, locals := 20 } : Room) [.ref hc, .ref hr] [(hc, .inr (1, [.null, .null, .null, .null, .null, .int 0]))] (xQv D (fun (u : Nat × Nat × Nat × Nat) => match u with | (ab, rb, ob, tb) => True) (fun (u : Nat × Nat × Nat × Nat) => match u with | (ab, rb, ob, tb) => [(hc, .inr (1, [.ref hr, .ref ab, .ref rb, .ref ob, .ref tb, .int 0])), (ab, .inl (cs 4, 9, .inr (.inr (.inr (.inr (fun _ => none)))))), (rb, .inl (cs 4, 9, .inr (.inr (.inr (.inr (fun _ => none)))))), (ob, .inl (cs 4, 9, .inr (.inr (.inr (.inr (fun _ => none)))))), (tb, .inl (cs 4, 9, .inr (.inr (.inr (.inr (fun _ => none))))))])) := by
  refine xMet.intro (by decide) (Nat.le_of_ble_eq_true rfl) ?_
  intro p e s m args below meth c A ls C hP hD hS hl
  have hx := C.1
  have hb := C.2.1
  have hz := C.2.2.2.2.1
  have hown := C.2.2.2.1
  have hA := C.2.2.2.2.2.2.2.2.2
  have hAO := C.2.2.2.2.2.2.2.2.1.2.2
  have hl : lv_has ls 2 [(0, .ref hc), (1, .ref hr)] := hl
  obtain ⟨H, hH⟩ : ∃ H, H = s.heap := ⟨_, rfl⟩
  have hP : va_P D vwCl [(hc, .inr (1, [.null, .null, .null, .null, .null, .int 0]))] H := by rw [hH]; exact hP
  have hS : va_S A s.heap H [] := by rw [hH]; exact hS
  obtain ⟨locs, hlocs⟩ : ∃ z : List Loc, z = [] := ⟨_, rfl⟩
  rw [← hlocs] at hS
  suffices hW : W p l e ({ frames := 1, cells := 4, slots := 36, locals := 20 } : Room) s m args below meth c H locs 0 0 (MQ below ((xQv D (fun (u : Nat × Nat × Nat × Nat) => match u with | (ab, rb, ob, tb) => True) (fun (u : Nat × Nat × Nat × Nat) => match u with | (ab, rb, ob, tb) => [(hc, .inr (1, [.ref hr, .ref ab, .ref rb, .ref ob, .ref tb, .int 0])), (ab, .inl (cs 4, 9, .inr (.inr (.inr (.inr (fun _ => none)))))), (rb, .inl (cs 4, 9, .inr (.inr (.inr (.inr (fun _ => none)))))), (ob, .inl (cs 4, 9, .inr (.inr (.inr (.inr (fun _ => none)))))), (tb, .inl (cs 4, 9, .inr (.inr (.inr (.inr (fun _ => none))))))])) A) args s 4 36 A) (F0 m 0 ls []) by rw [hlocs, hH] at hW; exact hW
  refine lv_aload_n hx hb dX1_init_0 rfl (lv_at hl 0 rfl) ?_
  refine W.objInit hx hb hown (hz _ zw2_130) (hz _ zw1_30) (hz _ zw1_31) rfl (by rw [C.2.2.1]; exact hl.1) rfl dX1_init_1 (Nat.le_of_ble_eq_true rfl) (Nat.le_of_ble_eq_true rfl) ?_
  refine W.eq (g2 := F0 m 4 ls []) rfl ?_
  refine lv_aload_n hx hb dX1_init_4 rfl (lv_at hl 0 rfl) ?_
  refine lv_bipush (v := nI 9) hx hb dX1_init_5 (by decide) ?_
  refine xnewq (n := 9) C hP hD hS 4 rfl hAO.2.2.1 zw2_131 rfl (by decide) (Nat.le_of_ble_eq_true rfl) (Nat.le_of_ble_eq_true rfl) dX1_init_7 (fun q_1 H hP hD hS => ?_)
  refine W.widen (k := 1) (n := 9) (Nat.le_of_ble_eq_true rfl) (Nat.le_of_ble_eq_true rfl) ?_
  have hP : va_P D vwCl [(hc, .inr (1, [.null, .null, .null, .null, .null, .int 0])), (q_1, .inl (cs 4, 9, .inr (.inr (.inr (.inr (fun _ => none))))))] H := hP
  have hD : va_D A [(hc, .inr (1, [.null, .null, .null, .null, .null, .int 0])), (q_1, .inl (cs 4, 9, .inr (.inr (.inr (.inr (fun _ => none))))))] := hD
  refine xputF C hP hD hS 0 rfl rfl zuX1 tyX1 tyX1_ok nmX1 1 (by decide) zw2_134 rfl rfl rfl rfl rfl (Nat.le_of_ble_eq_true rfl) dX1_init_10 (fun H locs hP hD hS => ?_)
  have hP : va_P D vwCl [(hc, .inr (1, [.null, .ref q_1, .null, .null, .null, .int 0])), (q_1, .inl (cs 4, 9, .inr (.inr (.inr (.inr (fun _ => none))))))] H := hP
  have hD : va_D A [(hc, .inr (1, [.null, .ref q_1, .null, .null, .null, .int 0])), (q_1, .inl (cs 4, 9, .inr (.inr (.inr (.inr (fun _ => none))))))] := hD
  refine lv_aload_n hx hb dX1_init_13 rfl (lv_at hl 0 rfl) ?_
  refine lv_bipush (v := nI 9) hx hb dX1_init_14 (by decide) ?_
  refine xnewq (n := 9) C hP hD hS 4 rfl hAO.2.2.1 zw2_131 rfl (by decide) (Nat.le_of_ble_eq_true rfl) (Nat.le_of_ble_eq_true rfl) dX1_init_16 (fun q_2 H hP hD hS => ?_)
  refine W.widen (k := 2) (n := 18) (Nat.le_of_ble_eq_true rfl) (Nat.le_of_ble_eq_true rfl) ?_
  have hP : va_P D vwCl [(hc, .inr (1, [.null, .ref q_1, .null, .null, .null, .int 0])), (q_1, .inl (cs 4, 9, .inr (.inr (.inr (.inr (fun _ => none)))))), (q_2, .inl (cs 4, 9, .inr (.inr (.inr (.inr (fun _ => none))))))] H := hP
  have hD : va_D A [(hc, .inr (1, [.null, .ref q_1, .null, .null, .null, .int 0])), (q_1, .inl (cs 4, 9, .inr (.inr (.inr (.inr (fun _ => none)))))), (q_2, .inl (cs 4, 9, .inr (.inr (.inr (.inr (fun _ => none))))))] := hD
  refine xputF C hP hD hS 0 rfl rfl zuX1 tyX1 tyX1_ok nmX1 2 (by decide) zw2_135 rfl rfl rfl rfl rfl (Nat.le_of_ble_eq_true rfl) dX1_init_19 (fun H locs hP hD hS => ?_)
  have hP : va_P D vwCl [(hc, .inr (1, [.null, .ref q_1, .ref q_2, .null, .null, .int 0])), (q_1, .inl (cs 4, 9, .inr (.inr (.inr (.inr (fun _ => none)))))), (q_2, .inl (cs 4, 9, .inr (.inr (.inr (.inr (fun _ => none))))))] H := hP
  have hD : va_D A [(hc, .inr (1, [.null, .ref q_1, .ref q_2, .null, .null, .int 0])), (q_1, .inl (cs 4, 9, .inr (.inr (.inr (.inr (fun _ => none)))))), (q_2, .inl (cs 4, 9, .inr (.inr (.inr (.inr (fun _ => none))))))] := hD
  refine lv_aload_n hx hb dX1_init_22 rfl (lv_at hl 0 rfl) ?_
  refine lv_bipush (v := nI 9) hx hb dX1_init_23 (by decide) ?_
  refine xnewq (n := 9) C hP hD hS 4 rfl hAO.2.2.1 zw2_131 rfl (by decide) (Nat.le_of_ble_eq_true rfl) (Nat.le_of_ble_eq_true rfl) dX1_init_25 (fun q_3 H hP hD hS => ?_)
  refine W.widen (k := 3) (n := 27) (Nat.le_of_ble_eq_true rfl) (Nat.le_of_ble_eq_true rfl) ?_
  have hP : va_P D vwCl [(hc, .inr (1, [.null, .ref q_1, .ref q_2, .null, .null, .int 0])), (q_1, .inl (cs 4, 9, .inr (.inr (.inr (.inr (fun _ => none)))))), (q_2, .inl (cs 4, 9, .inr (.inr (.inr (.inr (fun _ => none)))))), (q_3, .inl (cs 4, 9, .inr (.inr (.inr (.inr (fun _ => none))))))] H := hP
  have hD : va_D A [(hc, .inr (1, [.null, .ref q_1, .ref q_2, .null, .null, .int 0])), (q_1, .inl (cs 4, 9, .inr (.inr (.inr (.inr (fun _ => none)))))), (q_2, .inl (cs 4, 9, .inr (.inr (.inr (.inr (fun _ => none)))))), (q_3, .inl (cs 4, 9, .inr (.inr (.inr (.inr (fun _ => none))))))] := hD
  refine xputF C hP hD hS 0 rfl rfl zuX1 tyX1 tyX1_ok nmX1 3 (by decide) zw2_136 rfl rfl rfl rfl rfl (Nat.le_of_ble_eq_true rfl) dX1_init_28 (fun H locs hP hD hS => ?_)
  have hP : va_P D vwCl [(hc, .inr (1, [.null, .ref q_1, .ref q_2, .ref q_3, .null, .int 0])), (q_1, .inl (cs 4, 9, .inr (.inr (.inr (.inr (fun _ => none)))))), (q_2, .inl (cs 4, 9, .inr (.inr (.inr (.inr (fun _ => none)))))), (q_3, .inl (cs 4, 9, .inr (.inr (.inr (.inr (fun _ => none))))))] H := hP
  have hD : va_D A [(hc, .inr (1, [.null, .ref q_1, .ref q_2, .ref q_3, .null, .int 0])), (q_1, .inl (cs 4, 9, .inr (.inr (.inr (.inr (fun _ => none)))))), (q_2, .inl (cs 4, 9, .inr (.inr (.inr (.inr (fun _ => none)))))), (q_3, .inl (cs 4, 9, .inr (.inr (.inr (.inr (fun _ => none))))))] := hD
  refine lv_aload_n hx hb dX1_init_31 rfl (lv_at hl 0 rfl) ?_
  refine lv_bipush (v := nI 9) hx hb dX1_init_32 (by decide) ?_
  refine xnewq (n := 9) C hP hD hS 4 rfl hAO.2.2.1 zw2_131 rfl (by decide) (Nat.le_of_ble_eq_true rfl) (Nat.le_of_ble_eq_true rfl) dX1_init_34 (fun q_4 H hP hD hS => ?_)
  refine W.widen (k := 4) (n := 36) (Nat.le_of_ble_eq_true rfl) (Nat.le_of_ble_eq_true rfl) ?_
  have hP : va_P D vwCl [(hc, .inr (1, [.null, .ref q_1, .ref q_2, .ref q_3, .null, .int 0])), (q_1, .inl (cs 4, 9, .inr (.inr (.inr (.inr (fun _ => none)))))), (q_2, .inl (cs 4, 9, .inr (.inr (.inr (.inr (fun _ => none)))))), (q_3, .inl (cs 4, 9, .inr (.inr (.inr (.inr (fun _ => none)))))), (q_4, .inl (cs 4, 9, .inr (.inr (.inr (.inr (fun _ => none))))))] H := hP
  have hD : va_D A [(hc, .inr (1, [.null, .ref q_1, .ref q_2, .ref q_3, .null, .int 0])), (q_1, .inl (cs 4, 9, .inr (.inr (.inr (.inr (fun _ => none)))))), (q_2, .inl (cs 4, 9, .inr (.inr (.inr (.inr (fun _ => none)))))), (q_3, .inl (cs 4, 9, .inr (.inr (.inr (.inr (fun _ => none)))))), (q_4, .inl (cs 4, 9, .inr (.inr (.inr (.inr (fun _ => none))))))] := hD
  refine xputF C hP hD hS 0 rfl rfl zuX1 tyX1 tyX1_ok nmX1 4 (by decide) zw2_138 rfl rfl rfl rfl rfl (Nat.le_of_ble_eq_true rfl) dX1_init_37 (fun H locs hP hD hS => ?_)
  have hP : va_P D vwCl [(hc, .inr (1, [.null, .ref q_1, .ref q_2, .ref q_3, .ref q_4, .int 0])), (q_1, .inl (cs 4, 9, .inr (.inr (.inr (.inr (fun _ => none)))))), (q_2, .inl (cs 4, 9, .inr (.inr (.inr (.inr (fun _ => none)))))), (q_3, .inl (cs 4, 9, .inr (.inr (.inr (.inr (fun _ => none)))))), (q_4, .inl (cs 4, 9, .inr (.inr (.inr (.inr (fun _ => none))))))] H := hP
  have hD : va_D A [(hc, .inr (1, [.null, .ref q_1, .ref q_2, .ref q_3, .ref q_4, .int 0])), (q_1, .inl (cs 4, 9, .inr (.inr (.inr (.inr (fun _ => none)))))), (q_2, .inl (cs 4, 9, .inr (.inr (.inr (.inr (fun _ => none)))))), (q_3, .inl (cs 4, 9, .inr (.inr (.inr (.inr (fun _ => none)))))), (q_4, .inl (cs 4, 9, .inr (.inr (.inr (.inr (fun _ => none))))))] := hD
  refine lv_aload_n hx hb dX1_init_40 rfl (lv_at hl 0 rfl) ?_
  refine lv_aload_n hx hb dX1_init_41 rfl (lv_at hl 1 rfl) ?_
  refine xputF C hP hD hS 0 rfl rfl zuX1 tyX1 tyX1_ok nmX1 0 (by decide) zw2_133 rfl rfl rfl rfl rfl (Nat.le_of_ble_eq_true rfl) dX1_init_42 (fun H locs hP hD hS => ?_)
  have hP : va_P D vwCl [(hc, .inr (1, [.ref hr, .ref q_1, .ref q_2, .ref q_3, .ref q_4, .int 0])), (q_1, .inl (cs 4, 9, .inr (.inr (.inr (.inr (fun _ => none)))))), (q_2, .inl (cs 4, 9, .inr (.inr (.inr (.inr (fun _ => none)))))), (q_3, .inl (cs 4, 9, .inr (.inr (.inr (.inr (fun _ => none)))))), (q_4, .inl (cs 4, 9, .inr (.inr (.inr (.inr (fun _ => none))))))] H := hP
  have hD : va_D A [(hc, .inr (1, [.ref hr, .ref q_1, .ref q_2, .ref q_3, .ref q_4, .int 0])), (q_1, .inl (cs 4, 9, .inr (.inr (.inr (.inr (fun _ => none)))))), (q_2, .inl (cs 4, 9, .inr (.inr (.inr (.inr (fun _ => none)))))), (q_3, .inl (cs 4, 9, .inr (.inr (.inr (.inr (fun _ => none)))))), (q_4, .inl (cs 4, 9, .inr (.inr (.inr (.inr (fun _ => none))))))] := hD
  exact xretv C (⟨q_1, q_2, q_3, q_4⟩) trivial hP hD hS (Nat.le_of_ble_eq_true rfl) (Nat.le_of_ble_eq_true rfl) dX1_init_45

set_option maxHeartbeats 4000000 in
set_option maxRecDepth 100000 in
theorem c_X1_forget_z (l : Launch) (D : va_G) (cs : Nat → ClassId) (hc hr sm ca ab rb ob tb : Nat) (ea pr fd : Int32) : xMet l D cs yX1_forget cX1_forget 1 none ({ frames := 0, cells := 0, slots := 0, locals := 0 } : Room) [.ref hc] [(hc, .inr (1, [.ref hr, .ref ab, .ref rb, .ref ob, .ref tb, .int fd]))] (xQv D (fun (_u : Unit) => True) (fun (_u : Unit) => [(hc, .inr (1, [.ref hr, .ref ab, .ref rb, .ref ob, .ref tb, .int (nI 0)]))])) := by
  refine xMet.intro (by decide) (Nat.le_of_ble_eq_true rfl) ?_
  intro p e s m args below meth c A ls C hP hD hS hl
  have hx := C.1
  have hb := C.2.1
  have hz := C.2.2.2.2.1
  have hown := C.2.2.2.1
  have hA := C.2.2.2.2.2.2.2.2.2
  have hAO := C.2.2.2.2.2.2.2.2.1.2.2
  have hl : lv_has ls 1 [(0, .ref hc)] := hl
  obtain ⟨H, hH⟩ : ∃ H, H = s.heap := ⟨_, rfl⟩
  have hP : va_P D vwCl [(hc, .inr (1, [.ref hr, .ref ab, .ref rb, .ref ob, .ref tb, .int fd]))] H := by rw [hH]; exact hP
  have hS : va_S A s.heap H [] := by rw [hH]; exact hS
  obtain ⟨locs, hlocs⟩ : ∃ z : List Loc, z = [] := ⟨_, rfl⟩
  rw [← hlocs] at hS
  suffices hW : W p l e ({ frames := 0, cells := 0, slots := 0, locals := 0 } : Room) s m args below meth c H locs 0 0 (MQ below ((xQv D (fun (_u : Unit) => True) (fun (_u : Unit) => [(hc, .inr (1, [.ref hr, .ref ab, .ref rb, .ref ob, .ref tb, .int (nI 0)]))])) A) args s 0 0 A) (F0 m 0 ls []) by rw [hlocs, hH] at hW; exact hW
  refine lv_aload_n hx hb dX1_forget_0 rfl (lv_at hl 0 rfl) ?_
  refine lv_iconst (v := nI 0) hx hb dX1_forget_1 (by decide) ?_
  refine xput C hP hD hS 0 rfl rfl zuX1 tyX1 tyX1_ok nmX1 5 (by decide) zw2_140 rfl rfl rfl (Nat.le_of_ble_eq_true rfl) dX1_forget_2 (fun H locs hP hD hS => ?_)
  have hP : va_P D vwCl [(hc, .inr (1, [.ref hr, .ref ab, .ref rb, .ref ob, .ref tb, .int (nI 0)]))] H := hP
  have hD : va_D A [(hc, .inr (1, [.ref hr, .ref ab, .ref rb, .ref ob, .ref tb, .int (nI 0)]))] := hD
  exact xretv C () trivial hP hD hS (Nat.le_of_ble_eq_true rfl) (Nat.le_of_ble_eq_true rfl) dX1_forget_5

set_option maxHeartbeats 4000000 in
set_option maxRecDepth 100000 in
theorem c_X1_staysAbove_z (l : Launch) (D : va_G) (cs : Nat → ClassId) (hc hr sm ca ab rb ob tb : Nat) (ea pr fd : Int32) (j : Nat) (hj : j ≤ 4) : xMet l D cs yX1_staysAbove cX1_staysAbove 3 (some .boolean) ({ frames := 2, cells := 0, slots := 0, locals := 42 } : Room) [.ref hc, .int (nI j)] [(hc, .inr (1, [.ref hr, .ref ab, .ref rb, .ref ob, .ref tb, .int fd])), (hr, .inr (7, [.int (nI 4), .int (nI 2), .int (nI 2), .int (nI 3), .int ea, .int pr, .ref sm, .int (nI 3), .ref ca])), (ca, .inl (cs 0, 8, .inl (fcF 4 2 2 (fun _ => 0) 4)))] (xQi D (fun (r : Int32) (_u : Unit) => r = nI 0) (fun (_u : Unit) => [(hc, .inr (1, [.ref hr, .ref ab, .ref rb, .ref ob, .ref tb, .int fd])), (hr, .inr (7, [.int (nI 4), .int (nI 2), .int (nI 2), .int (nI 3), .int ea, .int pr, .ref sm, .int (nI 3), .ref ca])), (ca, .inl (cs 0, 8, .inl (fcF 4 2 2 (fun _ => 0) 4)))])) := by
  refine xMet.intro (by decide) (Nat.le_of_ble_eq_true rfl) ?_
  intro p e s m args below meth c A ls C hP hD hS hl
  have hx := C.1
  have hb := C.2.1
  have hz := C.2.2.2.2.1
  have hown := C.2.2.2.1
  have hA := C.2.2.2.2.2.2.2.2.2
  have hAO := C.2.2.2.2.2.2.2.2.1.2.2
  have hl : lv_has ls 3 [(0, .ref hc), (1, .int (nI j))] := hl
  obtain ⟨H, hH⟩ : ∃ H, H = s.heap := ⟨_, rfl⟩
  have hP : va_P D vwCl [(hc, .inr (1, [.ref hr, .ref ab, .ref rb, .ref ob, .ref tb, .int fd])), (hr, .inr (7, [.int (nI 4), .int (nI 2), .int (nI 2), .int (nI 3), .int ea, .int pr, .ref sm, .int (nI 3), .ref ca])), (ca, .inl (cs 0, 8, .inl (fcF 4 2 2 (fun _ => 0) 4)))] H := by rw [hH]; exact hP
  have hS : va_S A s.heap H [] := by rw [hH]; exact hS
  obtain ⟨locs, hlocs⟩ : ∃ z : List Loc, z = [] := ⟨_, rfl⟩
  rw [← hlocs] at hS
  suffices hW : W p l e ({ frames := 2, cells := 0, slots := 0, locals := 42 } : Room) s m args below meth c H locs 0 0 (MQ below ((xQi D (fun (r : Int32) (_u : Unit) => r = nI 0) (fun (_u : Unit) => [(hc, .inr (1, [.ref hr, .ref ab, .ref rb, .ref ob, .ref tb, .int fd])), (hr, .inr (7, [.int (nI 4), .int (nI 2), .int (nI 2), .int (nI 3), .int ea, .int pr, .ref sm, .int (nI 3), .ref ca])), (ca, .inl (cs 0, 8, .inl (fcF 4 2 2 (fun _ => 0) 4)))])) A) args s 0 0 A) (F0 m 0 ls []) by rw [hlocs, hH] at hW; exact hW
  rcases (show j = 0 ∨ j = 1 ∨ j = 2 ∨ j = 3 ∨ j = 4 by omega) with rfl | rfl | rfl | rfl | rfl
  · -- j = 0
    have hP : va_P D vwCl [(hc, .inr (1, [.ref hr, .ref ab, .ref rb, .ref ob, .ref tb, .int fd])), (hr, .inr (7, [.int (nI 4), .int (nI 2), .int (nI 2), .int (nI 3), .int ea, .int pr, .ref sm, .int (nI 3), .ref ca])), (ca, .inl (cs 0, 8, .inl (fcF 4 2 2 (fun _ => 0) 4)))] H := hP
    have hD : va_D A [(hc, .inr (1, [.ref hr, .ref ab, .ref rb, .ref ob, .ref tb, .int fd])), (hr, .inr (7, [.int (nI 4), .int (nI 2), .int (nI 2), .int (nI 3), .int ea, .int pr, .ref sm, .int (nI 3), .ref ca])), (ca, .inl (cs 0, 8, .inl (fcF 4 2 2 (fun _ => 0) 4)))] := hD
    refine lv_iload_n hx hb dX1_staysAbove_0 rfl (lv_at hl 1 rfl) ?_
    refine lv_istore_n (lv' := [(2, .int (nI 0)), (0, .ref hc), (1, .int (nI 0))]) hx hb dX1_staysAbove_1 rfl hl (by decide) rfl (fun ls hl => ?_)
    refine lv_iload_n hx hb dX1_staysAbove_2 rfl (lv_at hl 0 rfl) ?_
    refine lv_if_le (tgt := 51) hx hb dX1_staysAbove_3 (by decide) (fun _ => ?_) (fun c => absurd (by decide) c)
    refine lv_iconst (v := nI 0) hx hb dX1_staysAbove_51 (by decide) ?_
    exact xreti C () rfl hP hD hS (Nat.le_of_ble_eq_true rfl) (Nat.le_of_ble_eq_true rfl) (by decide) dX1_staysAbove_52
  · -- j = 1
    have hP : va_P D vwCl [(hc, .inr (1, [.ref hr, .ref ab, .ref rb, .ref ob, .ref tb, .int fd])), (hr, .inr (7, [.int (nI 4), .int (nI 2), .int (nI 2), .int (nI 3), .int ea, .int pr, .ref sm, .int (nI 3), .ref ca])), (ca, .inl (cs 0, 8, .inl (fcF 4 2 2 (fun _ => 0) 4)))] H := hP
    have hD : va_D A [(hc, .inr (1, [.ref hr, .ref ab, .ref rb, .ref ob, .ref tb, .int fd])), (hr, .inr (7, [.int (nI 4), .int (nI 2), .int (nI 2), .int (nI 3), .int ea, .int pr, .ref sm, .int (nI 3), .ref ca])), (ca, .inl (cs 0, 8, .inl (fcF 4 2 2 (fun _ => 0) 4)))] := hD
    refine lv_iload_n hx hb dX1_staysAbove_0 rfl (lv_at hl 1 rfl) ?_
    refine lv_istore_n (lv' := [(2, .int (nI 1)), (0, .ref hc), (1, .int (nI 1))]) hx hb dX1_staysAbove_1 rfl hl (by decide) rfl (fun ls hl => ?_)
    refine lv_iload_n hx hb dX1_staysAbove_2 rfl (lv_at hl 0 rfl) ?_
    refine lv_if_le (tgt := 51) hx hb dX1_staysAbove_3 (by decide) (fun c => absurd c (by decide)) (fun _ => ?_)
    refine lv_iload_n hx hb dX1_staysAbove_6 rfl (lv_at hl 0 rfl) ?_
    refine lv_aload_n hx hb dX1_staysAbove_7 rfl (lv_at hl 1 rfl) ?_
    refine xget C hP 0 rfl rfl zuX1 0 (by decide) zw2_133 rfl dX1_staysAbove_8 ?_
    refine xget C hP 1 rfl rfl zuX7 0 (by decide) zw1_79 rfl dX1_staysAbove_11 ?_
    refine lv_icmp_ge (tgt := 51) hx hb dX1_staysAbove_14 (by decide) (fun c => absurd c (by decide)) (fun _ => ?_)
    refine lv_aload_n hx hb dX1_staysAbove_17 rfl (lv_at hl 1 rfl) ?_
    refine xget C hP 0 rfl rfl zuX1 0 (by decide) zw2_133 rfl dX1_staysAbove_18 ?_
    refine lv_iload_n hx hb dX1_staysAbove_21 rfl (lv_at hl 0 rfl) ?_
    refine xi (wr := [(hc, .inr (1, [.ref hr, .ref ab, .ref rb, .ref ob, .ref tb, .int fd]))]) (xV (As := [.int (nI 1)]) (rest := []) C (c_X7_up l D cs hr sm ca 4 2 2 3 ea pr (nI 3) (fcF 4 2 2 (fun _ => 0) 4) 1 (by decide) (by decide)) kX1_47 hP hD [1, 2] rfl (by decide) 0 rfl rfl rfl ⟨Nat.le_of_ble_eq_true rfl, Nat.le_of_ble_eq_true rfl⟩ rfl hl.1 rfl (Nat.le_of_ble_eq_true rfl) dX1_staysAbove_22 ⟨Nat.le_of_ble_eq_true rfl, Nat.le_of_ble_eq_true rfl⟩) hP hD hS hA [1, 2] [0] rfl rfl (by decide) (by decide) (fun r_1 u_2 H locs hw_r_1 hP hD hS => ?_)
    have hw_r_1 : r_1 = nI (4 - 1) * (fcF 4 2 2 (fun _ => 0) 4) 1 := hw_r_1
    refine W.widen (k := 0) (n := 0) (Nat.le_of_ble_eq_true rfl) (Nat.le_of_ble_eq_true rfl) ?_
    have hP : va_P D vwCl [(hc, .inr (1, [.ref hr, .ref ab, .ref rb, .ref ob, .ref tb, .int fd])), (hr, .inr (7, [.int (nI 4), .int (nI 2), .int (nI 2), .int (nI 3), .int ea, .int pr, .ref sm, .int (nI 3), .ref ca])), (ca, .inl (cs 0, 8, .inl (fcF 4 2 2 (fun _ => 0) 4)))] H := hP
    have hD : va_D A [(hc, .inr (1, [.ref hr, .ref ab, .ref rb, .ref ob, .ref tb, .int fd])), (hr, .inr (7, [.int (nI 4), .int (nI 2), .int (nI 2), .int (nI 3), .int ea, .int pr, .ref sm, .int (nI 3), .ref ca])), (ca, .inl (cs 0, 8, .inl (fcF 4 2 2 (fun _ => 0) 4)))] := hD
    obtain rfl : r_1 = nI 0 := by rw [hw_r_1]; decide +kernel
    refine lv_if_ne (tgt := 45) hx hb dX1_staysAbove_25 (by decide) (fun c => absurd (by decide) c) (fun _ => ?_)
    refine lv_aload_n hx hb dX1_staysAbove_28 rfl (lv_at hl 1 rfl) ?_
    refine xget C hP 0 rfl rfl zuX1 0 (by decide) zw2_133 rfl dX1_staysAbove_29 ?_
    refine lv_iload_n hx hb dX1_staysAbove_32 rfl (lv_at hl 0 rfl) ?_
    refine xi (wr := [(hc, .inr (1, [.ref hr, .ref ab, .ref rb, .ref ob, .ref tb, .int fd]))]) (xV (As := [.int (nI 1)]) (rest := []) C (c_X7_down l D cs hr sm ca 4 2 2 3 ea pr (nI 3) (fcF 4 2 2 (fun _ => 0) 4) 1 (by decide) (by decide) (by decide)) kX1_51 hP hD [1, 2] rfl (by decide) 0 rfl rfl rfl ⟨Nat.le_of_ble_eq_true rfl, Nat.le_of_ble_eq_true rfl⟩ rfl hl.1 rfl (Nat.le_of_ble_eq_true rfl) dX1_staysAbove_33 ⟨Nat.le_of_ble_eq_true rfl, Nat.le_of_ble_eq_true rfl⟩) hP hD hS hA [1, 2] [0] rfl rfl (by decide) (by decide) (fun r_3 u_4 H locs hw_r_3 hP hD hS => ?_)
    have hw_r_3 : r_3 = nI 1 * (fcF 4 2 2 (fun _ => 0) 4) (4 - 1) := hw_r_3
    refine W.widen (k := 0) (n := 0) (Nat.le_of_ble_eq_true rfl) (Nat.le_of_ble_eq_true rfl) ?_
    have hP : va_P D vwCl [(hc, .inr (1, [.ref hr, .ref ab, .ref rb, .ref ob, .ref tb, .int fd])), (hr, .inr (7, [.int (nI 4), .int (nI 2), .int (nI 2), .int (nI 3), .int ea, .int pr, .ref sm, .int (nI 3), .ref ca])), (ca, .inl (cs 0, 8, .inl (fcF 4 2 2 (fun _ => 0) 4)))] H := hP
    have hD : va_D A [(hc, .inr (1, [.ref hr, .ref ab, .ref rb, .ref ob, .ref tb, .int fd])), (hr, .inr (7, [.int (nI 4), .int (nI 2), .int (nI 2), .int (nI 3), .int ea, .int pr, .ref sm, .int (nI 3), .ref ca])), (ca, .inl (cs 0, 8, .inl (fcF 4 2 2 (fun _ => 0) 4)))] := hD
    obtain rfl : r_3 = nI 3 := by rw [hw_r_3]; decide +kernel
    refine lv_if_ne (tgt := 43) hx hb dX1_staysAbove_36 (by decide) (fun _ => ?_) (fun c => absurd c (by decide))
    refine lv_iconst (v := nI 0) hx hb dX1_staysAbove_43 (by decide) ?_
    exact xreti C () rfl hP hD hS (Nat.le_of_ble_eq_true rfl) (Nat.le_of_ble_eq_true rfl) (by decide) dX1_staysAbove_44
  · -- j = 2
    have hP : va_P D vwCl [(hc, .inr (1, [.ref hr, .ref ab, .ref rb, .ref ob, .ref tb, .int fd])), (hr, .inr (7, [.int (nI 4), .int (nI 2), .int (nI 2), .int (nI 3), .int ea, .int pr, .ref sm, .int (nI 3), .ref ca])), (ca, .inl (cs 0, 8, .inl (fcF 4 2 2 (fun _ => 0) 4)))] H := hP
    have hD : va_D A [(hc, .inr (1, [.ref hr, .ref ab, .ref rb, .ref ob, .ref tb, .int fd])), (hr, .inr (7, [.int (nI 4), .int (nI 2), .int (nI 2), .int (nI 3), .int ea, .int pr, .ref sm, .int (nI 3), .ref ca])), (ca, .inl (cs 0, 8, .inl (fcF 4 2 2 (fun _ => 0) 4)))] := hD
    refine lv_iload_n hx hb dX1_staysAbove_0 rfl (lv_at hl 1 rfl) ?_
    refine lv_istore_n (lv' := [(2, .int (nI 2)), (0, .ref hc), (1, .int (nI 2))]) hx hb dX1_staysAbove_1 rfl hl (by decide) rfl (fun ls hl => ?_)
    refine lv_iload_n hx hb dX1_staysAbove_2 rfl (lv_at hl 0 rfl) ?_
    refine lv_if_le (tgt := 51) hx hb dX1_staysAbove_3 (by decide) (fun c => absurd c (by decide)) (fun _ => ?_)
    refine lv_iload_n hx hb dX1_staysAbove_6 rfl (lv_at hl 0 rfl) ?_
    refine lv_aload_n hx hb dX1_staysAbove_7 rfl (lv_at hl 1 rfl) ?_
    refine xget C hP 0 rfl rfl zuX1 0 (by decide) zw2_133 rfl dX1_staysAbove_8 ?_
    refine xget C hP 1 rfl rfl zuX7 0 (by decide) zw1_79 rfl dX1_staysAbove_11 ?_
    refine lv_icmp_ge (tgt := 51) hx hb dX1_staysAbove_14 (by decide) (fun c => absurd c (by decide)) (fun _ => ?_)
    refine lv_aload_n hx hb dX1_staysAbove_17 rfl (lv_at hl 1 rfl) ?_
    refine xget C hP 0 rfl rfl zuX1 0 (by decide) zw2_133 rfl dX1_staysAbove_18 ?_
    refine lv_iload_n hx hb dX1_staysAbove_21 rfl (lv_at hl 0 rfl) ?_
    refine xi (wr := [(hc, .inr (1, [.ref hr, .ref ab, .ref rb, .ref ob, .ref tb, .int fd]))]) (xV (As := [.int (nI 2)]) (rest := []) C (c_X7_up l D cs hr sm ca 4 2 2 3 ea pr (nI 3) (fcF 4 2 2 (fun _ => 0) 4) 2 (by decide) (by decide)) kX1_47 hP hD [1, 2] rfl (by decide) 0 rfl rfl rfl ⟨Nat.le_of_ble_eq_true rfl, Nat.le_of_ble_eq_true rfl⟩ rfl hl.1 rfl (Nat.le_of_ble_eq_true rfl) dX1_staysAbove_22 ⟨Nat.le_of_ble_eq_true rfl, Nat.le_of_ble_eq_true rfl⟩) hP hD hS hA [1, 2] [0] rfl rfl (by decide) (by decide) (fun r_5 u_6 H locs hw_r_5 hP hD hS => ?_)
    have hw_r_5 : r_5 = nI (4 - 2) * (fcF 4 2 2 (fun _ => 0) 4) 2 := hw_r_5
    refine W.widen (k := 0) (n := 0) (Nat.le_of_ble_eq_true rfl) (Nat.le_of_ble_eq_true rfl) ?_
    have hP : va_P D vwCl [(hc, .inr (1, [.ref hr, .ref ab, .ref rb, .ref ob, .ref tb, .int fd])), (hr, .inr (7, [.int (nI 4), .int (nI 2), .int (nI 2), .int (nI 3), .int ea, .int pr, .ref sm, .int (nI 3), .ref ca])), (ca, .inl (cs 0, 8, .inl (fcF 4 2 2 (fun _ => 0) 4)))] H := hP
    have hD : va_D A [(hc, .inr (1, [.ref hr, .ref ab, .ref rb, .ref ob, .ref tb, .int fd])), (hr, .inr (7, [.int (nI 4), .int (nI 2), .int (nI 2), .int (nI 3), .int ea, .int pr, .ref sm, .int (nI 3), .ref ca])), (ca, .inl (cs 0, 8, .inl (fcF 4 2 2 (fun _ => 0) 4)))] := hD
    obtain rfl : r_5 = nI 2 := by rw [hw_r_5]; decide +kernel
    refine lv_if_ne (tgt := 45) hx hb dX1_staysAbove_25 (by decide) (fun _ => ?_) (fun c => absurd c (by decide))
    refine lv_iinc (v := nI 3) (lv' := [(2, .int (nI 3)), (0, .ref hc), (1, .int (nI 2))]) hx hb dX1_staysAbove_45 hl (k := 0) rfl (by decide) (by decide) rfl (fun ls hl => ?_)
    refine lv_goto (tgt := 2) hx hb dX1_staysAbove_48 (by decide) ?_
    refine lv_iload_n hx hb dX1_staysAbove_2 rfl (lv_at hl 0 rfl) ?_
    refine lv_if_le (tgt := 51) hx hb dX1_staysAbove_3 (by decide) (fun c => absurd c (by decide)) (fun _ => ?_)
    refine lv_iload_n hx hb dX1_staysAbove_6 rfl (lv_at hl 0 rfl) ?_
    refine lv_aload_n hx hb dX1_staysAbove_7 rfl (lv_at hl 1 rfl) ?_
    refine xget C hP 0 rfl rfl zuX1 0 (by decide) zw2_133 rfl dX1_staysAbove_8 ?_
    refine xget C hP 1 rfl rfl zuX7 0 (by decide) zw1_79 rfl dX1_staysAbove_11 ?_
    refine lv_icmp_ge (tgt := 51) hx hb dX1_staysAbove_14 (by decide) (fun c => absurd c (by decide)) (fun _ => ?_)
    refine lv_aload_n hx hb dX1_staysAbove_17 rfl (lv_at hl 1 rfl) ?_
    refine xget C hP 0 rfl rfl zuX1 0 (by decide) zw2_133 rfl dX1_staysAbove_18 ?_
    refine lv_iload_n hx hb dX1_staysAbove_21 rfl (lv_at hl 0 rfl) ?_
    refine xi (wr := [(hc, .inr (1, [.ref hr, .ref ab, .ref rb, .ref ob, .ref tb, .int fd]))]) (xV (As := [.int (nI 3)]) (rest := []) C (c_X7_up l D cs hr sm ca 4 2 2 3 ea pr (nI 3) (fcF 4 2 2 (fun _ => 0) 4) 3 (by decide) (by decide)) kX1_47 hP hD [1, 2] rfl (by decide) 0 rfl rfl rfl ⟨Nat.le_of_ble_eq_true rfl, Nat.le_of_ble_eq_true rfl⟩ rfl hl.1 rfl (Nat.le_of_ble_eq_true rfl) dX1_staysAbove_22 ⟨Nat.le_of_ble_eq_true rfl, Nat.le_of_ble_eq_true rfl⟩) hP hD hS hA [1, 2] [0] rfl rfl (by decide) (by decide) (fun r_7 u_8 H locs hw_r_7 hP hD hS => ?_)
    have hw_r_7 : r_7 = nI (4 - 3) * (fcF 4 2 2 (fun _ => 0) 4) 3 := hw_r_7
    refine W.widen (k := 0) (n := 0) (Nat.le_of_ble_eq_true rfl) (Nat.le_of_ble_eq_true rfl) ?_
    have hP : va_P D vwCl [(hc, .inr (1, [.ref hr, .ref ab, .ref rb, .ref ob, .ref tb, .int fd])), (hr, .inr (7, [.int (nI 4), .int (nI 2), .int (nI 2), .int (nI 3), .int ea, .int pr, .ref sm, .int (nI 3), .ref ca])), (ca, .inl (cs 0, 8, .inl (fcF 4 2 2 (fun _ => 0) 4)))] H := hP
    have hD : va_D A [(hc, .inr (1, [.ref hr, .ref ab, .ref rb, .ref ob, .ref tb, .int fd])), (hr, .inr (7, [.int (nI 4), .int (nI 2), .int (nI 2), .int (nI 3), .int ea, .int pr, .ref sm, .int (nI 3), .ref ca])), (ca, .inl (cs 0, 8, .inl (fcF 4 2 2 (fun _ => 0) 4)))] := hD
    obtain rfl : r_7 = nI 3 := by rw [hw_r_7]; decide +kernel
    refine lv_if_ne (tgt := 45) hx hb dX1_staysAbove_25 (by decide) (fun _ => ?_) (fun c => absurd c (by decide))
    refine lv_iinc (v := nI 4) (lv' := [(2, .int (nI 4)), (0, .ref hc), (1, .int (nI 2))]) hx hb dX1_staysAbove_45 hl (k := 0) rfl (by decide) (by decide) rfl (fun ls hl => ?_)
    refine lv_goto (tgt := 2) hx hb dX1_staysAbove_48 (by decide) ?_
    refine lv_iload_n hx hb dX1_staysAbove_2 rfl (lv_at hl 0 rfl) ?_
    refine lv_if_le (tgt := 51) hx hb dX1_staysAbove_3 (by decide) (fun c => absurd c (by decide)) (fun _ => ?_)
    refine lv_iload_n hx hb dX1_staysAbove_6 rfl (lv_at hl 0 rfl) ?_
    refine lv_aload_n hx hb dX1_staysAbove_7 rfl (lv_at hl 1 rfl) ?_
    refine xget C hP 0 rfl rfl zuX1 0 (by decide) zw2_133 rfl dX1_staysAbove_8 ?_
    refine xget C hP 1 rfl rfl zuX7 0 (by decide) zw1_79 rfl dX1_staysAbove_11 ?_
    refine lv_icmp_ge (tgt := 51) hx hb dX1_staysAbove_14 (by decide) (fun _ => ?_) (fun c => absurd (by decide) c)
    refine lv_iconst (v := nI 0) hx hb dX1_staysAbove_51 (by decide) ?_
    exact xreti C () rfl hP hD hS (Nat.le_of_ble_eq_true rfl) (Nat.le_of_ble_eq_true rfl) (by decide) dX1_staysAbove_52
  · -- j = 3
    have hP : va_P D vwCl [(hc, .inr (1, [.ref hr, .ref ab, .ref rb, .ref ob, .ref tb, .int fd])), (hr, .inr (7, [.int (nI 4), .int (nI 2), .int (nI 2), .int (nI 3), .int ea, .int pr, .ref sm, .int (nI 3), .ref ca])), (ca, .inl (cs 0, 8, .inl (fcF 4 2 2 (fun _ => 0) 4)))] H := hP
    have hD : va_D A [(hc, .inr (1, [.ref hr, .ref ab, .ref rb, .ref ob, .ref tb, .int fd])), (hr, .inr (7, [.int (nI 4), .int (nI 2), .int (nI 2), .int (nI 3), .int ea, .int pr, .ref sm, .int (nI 3), .ref ca])), (ca, .inl (cs 0, 8, .inl (fcF 4 2 2 (fun _ => 0) 4)))] := hD
    refine lv_iload_n hx hb dX1_staysAbove_0 rfl (lv_at hl 1 rfl) ?_
    refine lv_istore_n (lv' := [(2, .int (nI 3)), (0, .ref hc), (1, .int (nI 3))]) hx hb dX1_staysAbove_1 rfl hl (by decide) rfl (fun ls hl => ?_)
    refine lv_iload_n hx hb dX1_staysAbove_2 rfl (lv_at hl 0 rfl) ?_
    refine lv_if_le (tgt := 51) hx hb dX1_staysAbove_3 (by decide) (fun c => absurd c (by decide)) (fun _ => ?_)
    refine lv_iload_n hx hb dX1_staysAbove_6 rfl (lv_at hl 0 rfl) ?_
    refine lv_aload_n hx hb dX1_staysAbove_7 rfl (lv_at hl 1 rfl) ?_
    refine xget C hP 0 rfl rfl zuX1 0 (by decide) zw2_133 rfl dX1_staysAbove_8 ?_
    refine xget C hP 1 rfl rfl zuX7 0 (by decide) zw1_79 rfl dX1_staysAbove_11 ?_
    refine lv_icmp_ge (tgt := 51) hx hb dX1_staysAbove_14 (by decide) (fun c => absurd c (by decide)) (fun _ => ?_)
    refine lv_aload_n hx hb dX1_staysAbove_17 rfl (lv_at hl 1 rfl) ?_
    refine xget C hP 0 rfl rfl zuX1 0 (by decide) zw2_133 rfl dX1_staysAbove_18 ?_
    refine lv_iload_n hx hb dX1_staysAbove_21 rfl (lv_at hl 0 rfl) ?_
    refine xi (wr := [(hc, .inr (1, [.ref hr, .ref ab, .ref rb, .ref ob, .ref tb, .int fd]))]) (xV (As := [.int (nI 3)]) (rest := []) C (c_X7_up l D cs hr sm ca 4 2 2 3 ea pr (nI 3) (fcF 4 2 2 (fun _ => 0) 4) 3 (by decide) (by decide)) kX1_47 hP hD [1, 2] rfl (by decide) 0 rfl rfl rfl ⟨Nat.le_of_ble_eq_true rfl, Nat.le_of_ble_eq_true rfl⟩ rfl hl.1 rfl (Nat.le_of_ble_eq_true rfl) dX1_staysAbove_22 ⟨Nat.le_of_ble_eq_true rfl, Nat.le_of_ble_eq_true rfl⟩) hP hD hS hA [1, 2] [0] rfl rfl (by decide) (by decide) (fun r_9 u_10 H locs hw_r_9 hP hD hS => ?_)
    have hw_r_9 : r_9 = nI (4 - 3) * (fcF 4 2 2 (fun _ => 0) 4) 3 := hw_r_9
    refine W.widen (k := 0) (n := 0) (Nat.le_of_ble_eq_true rfl) (Nat.le_of_ble_eq_true rfl) ?_
    have hP : va_P D vwCl [(hc, .inr (1, [.ref hr, .ref ab, .ref rb, .ref ob, .ref tb, .int fd])), (hr, .inr (7, [.int (nI 4), .int (nI 2), .int (nI 2), .int (nI 3), .int ea, .int pr, .ref sm, .int (nI 3), .ref ca])), (ca, .inl (cs 0, 8, .inl (fcF 4 2 2 (fun _ => 0) 4)))] H := hP
    have hD : va_D A [(hc, .inr (1, [.ref hr, .ref ab, .ref rb, .ref ob, .ref tb, .int fd])), (hr, .inr (7, [.int (nI 4), .int (nI 2), .int (nI 2), .int (nI 3), .int ea, .int pr, .ref sm, .int (nI 3), .ref ca])), (ca, .inl (cs 0, 8, .inl (fcF 4 2 2 (fun _ => 0) 4)))] := hD
    obtain rfl : r_9 = nI 3 := by rw [hw_r_9]; decide +kernel
    refine lv_if_ne (tgt := 45) hx hb dX1_staysAbove_25 (by decide) (fun _ => ?_) (fun c => absurd c (by decide))
    refine lv_iinc (v := nI 4) (lv' := [(2, .int (nI 4)), (0, .ref hc), (1, .int (nI 3))]) hx hb dX1_staysAbove_45 hl (k := 0) rfl (by decide) (by decide) rfl (fun ls hl => ?_)
    refine lv_goto (tgt := 2) hx hb dX1_staysAbove_48 (by decide) ?_
    refine lv_iload_n hx hb dX1_staysAbove_2 rfl (lv_at hl 0 rfl) ?_
    refine lv_if_le (tgt := 51) hx hb dX1_staysAbove_3 (by decide) (fun c => absurd c (by decide)) (fun _ => ?_)
    refine lv_iload_n hx hb dX1_staysAbove_6 rfl (lv_at hl 0 rfl) ?_
    refine lv_aload_n hx hb dX1_staysAbove_7 rfl (lv_at hl 1 rfl) ?_
    refine xget C hP 0 rfl rfl zuX1 0 (by decide) zw2_133 rfl dX1_staysAbove_8 ?_
    refine xget C hP 1 rfl rfl zuX7 0 (by decide) zw1_79 rfl dX1_staysAbove_11 ?_
    refine lv_icmp_ge (tgt := 51) hx hb dX1_staysAbove_14 (by decide) (fun _ => ?_) (fun c => absurd (by decide) c)
    refine lv_iconst (v := nI 0) hx hb dX1_staysAbove_51 (by decide) ?_
    exact xreti C () rfl hP hD hS (Nat.le_of_ble_eq_true rfl) (Nat.le_of_ble_eq_true rfl) (by decide) dX1_staysAbove_52
  · -- j = 4
    have hP : va_P D vwCl [(hc, .inr (1, [.ref hr, .ref ab, .ref rb, .ref ob, .ref tb, .int fd])), (hr, .inr (7, [.int (nI 4), .int (nI 2), .int (nI 2), .int (nI 3), .int ea, .int pr, .ref sm, .int (nI 3), .ref ca])), (ca, .inl (cs 0, 8, .inl (fcF 4 2 2 (fun _ => 0) 4)))] H := hP
    have hD : va_D A [(hc, .inr (1, [.ref hr, .ref ab, .ref rb, .ref ob, .ref tb, .int fd])), (hr, .inr (7, [.int (nI 4), .int (nI 2), .int (nI 2), .int (nI 3), .int ea, .int pr, .ref sm, .int (nI 3), .ref ca])), (ca, .inl (cs 0, 8, .inl (fcF 4 2 2 (fun _ => 0) 4)))] := hD
    refine lv_iload_n hx hb dX1_staysAbove_0 rfl (lv_at hl 1 rfl) ?_
    refine lv_istore_n (lv' := [(2, .int (nI 4)), (0, .ref hc), (1, .int (nI 4))]) hx hb dX1_staysAbove_1 rfl hl (by decide) rfl (fun ls hl => ?_)
    refine lv_iload_n hx hb dX1_staysAbove_2 rfl (lv_at hl 0 rfl) ?_
    refine lv_if_le (tgt := 51) hx hb dX1_staysAbove_3 (by decide) (fun c => absurd c (by decide)) (fun _ => ?_)
    refine lv_iload_n hx hb dX1_staysAbove_6 rfl (lv_at hl 0 rfl) ?_
    refine lv_aload_n hx hb dX1_staysAbove_7 rfl (lv_at hl 1 rfl) ?_
    refine xget C hP 0 rfl rfl zuX1 0 (by decide) zw2_133 rfl dX1_staysAbove_8 ?_
    refine xget C hP 1 rfl rfl zuX7 0 (by decide) zw1_79 rfl dX1_staysAbove_11 ?_
    refine lv_icmp_ge (tgt := 51) hx hb dX1_staysAbove_14 (by decide) (fun _ => ?_) (fun c => absurd (by decide) c)
    refine lv_iconst (v := nI 0) hx hb dX1_staysAbove_51 (by decide) ?_
    exact xreti C () rfl hP hD hS (Nat.le_of_ble_eq_true rfl) (Nat.le_of_ble_eq_true rfl) (by decide) dX1_staysAbove_52

set_option maxHeartbeats 4000000 in
set_option maxRecDepth 100000 in
theorem c_X1_staysBelow_z (l : Launch) (D : va_G) (cs : Nat → ClassId) (hc hr sm ca ab rb ob tb : Nat) (ea pr fd : Int32) (j : Nat) (hj : j ≤ 4) : xMet l D cs yX1_staysBelow cX1_staysBelow 3 (some .boolean) ({ frames := 2, cells := 0, slots := 0, locals := 42 } : Room) [.ref hc, .int (nI j)] [(hc, .inr (1, [.ref hr, .ref ab, .ref rb, .ref ob, .ref tb, .int fd])), (hr, .inr (7, [.int (nI 4), .int (nI 2), .int (nI 2), .int (nI 3), .int ea, .int pr, .ref sm, .int (nI 3), .ref ca])), (ca, .inl (cs 0, 8, .inl (fcF 4 2 2 (fun _ => 0) 4)))] (xQi D (fun (r : Int32) (_u : Unit) => r = nI 0) (fun (_u : Unit) => [(hc, .inr (1, [.ref hr, .ref ab, .ref rb, .ref ob, .ref tb, .int fd])), (hr, .inr (7, [.int (nI 4), .int (nI 2), .int (nI 2), .int (nI 3), .int ea, .int pr, .ref sm, .int (nI 3), .ref ca])), (ca, .inl (cs 0, 8, .inl (fcF 4 2 2 (fun _ => 0) 4)))])) := by
  refine xMet.intro (by decide) (Nat.le_of_ble_eq_true rfl) ?_
  intro p e s m args below meth c A ls C hP hD hS hl
  have hx := C.1
  have hb := C.2.1
  have hz := C.2.2.2.2.1
  have hown := C.2.2.2.1
  have hA := C.2.2.2.2.2.2.2.2.2
  have hAO := C.2.2.2.2.2.2.2.2.1.2.2
  have hl : lv_has ls 3 [(0, .ref hc), (1, .int (nI j))] := hl
  obtain ⟨H, hH⟩ : ∃ H, H = s.heap := ⟨_, rfl⟩
  have hP : va_P D vwCl [(hc, .inr (1, [.ref hr, .ref ab, .ref rb, .ref ob, .ref tb, .int fd])), (hr, .inr (7, [.int (nI 4), .int (nI 2), .int (nI 2), .int (nI 3), .int ea, .int pr, .ref sm, .int (nI 3), .ref ca])), (ca, .inl (cs 0, 8, .inl (fcF 4 2 2 (fun _ => 0) 4)))] H := by rw [hH]; exact hP
  have hS : va_S A s.heap H [] := by rw [hH]; exact hS
  obtain ⟨locs, hlocs⟩ : ∃ z : List Loc, z = [] := ⟨_, rfl⟩
  rw [← hlocs] at hS
  suffices hW : W p l e ({ frames := 2, cells := 0, slots := 0, locals := 42 } : Room) s m args below meth c H locs 0 0 (MQ below ((xQi D (fun (r : Int32) (_u : Unit) => r = nI 0) (fun (_u : Unit) => [(hc, .inr (1, [.ref hr, .ref ab, .ref rb, .ref ob, .ref tb, .int fd])), (hr, .inr (7, [.int (nI 4), .int (nI 2), .int (nI 2), .int (nI 3), .int ea, .int pr, .ref sm, .int (nI 3), .ref ca])), (ca, .inl (cs 0, 8, .inl (fcF 4 2 2 (fun _ => 0) 4)))])) A) args s 0 0 A) (F0 m 0 ls []) by rw [hlocs, hH] at hW; exact hW
  rcases (show j = 0 ∨ j = 1 ∨ j = 2 ∨ j = 3 ∨ j = 4 by omega) with rfl | rfl | rfl | rfl | rfl
  · -- j = 0
    have hP : va_P D vwCl [(hc, .inr (1, [.ref hr, .ref ab, .ref rb, .ref ob, .ref tb, .int fd])), (hr, .inr (7, [.int (nI 4), .int (nI 2), .int (nI 2), .int (nI 3), .int ea, .int pr, .ref sm, .int (nI 3), .ref ca])), (ca, .inl (cs 0, 8, .inl (fcF 4 2 2 (fun _ => 0) 4)))] H := hP
    have hD : va_D A [(hc, .inr (1, [.ref hr, .ref ab, .ref rb, .ref ob, .ref tb, .int fd])), (hr, .inr (7, [.int (nI 4), .int (nI 2), .int (nI 2), .int (nI 3), .int ea, .int pr, .ref sm, .int (nI 3), .ref ca])), (ca, .inl (cs 0, 8, .inl (fcF 4 2 2 (fun _ => 0) 4)))] := hD
    refine lv_iload_n hx hb dX1_staysBelow_0 rfl (lv_at hl 1 rfl) ?_
    refine lv_istore_n (lv' := [(2, .int (nI 0)), (0, .ref hc), (1, .int (nI 0))]) hx hb dX1_staysBelow_1 rfl hl (by decide) rfl (fun ls hl => ?_)
    refine lv_iload_n hx hb dX1_staysBelow_2 rfl (lv_at hl 0 rfl) ?_
    refine lv_if_le (tgt := 51) hx hb dX1_staysBelow_3 (by decide) (fun _ => ?_) (fun c => absurd (by decide) c)
    refine lv_iconst (v := nI 0) hx hb dX1_staysBelow_51 (by decide) ?_
    exact xreti C () rfl hP hD hS (Nat.le_of_ble_eq_true rfl) (Nat.le_of_ble_eq_true rfl) (by decide) dX1_staysBelow_52
  · -- j = 1
    have hP : va_P D vwCl [(hc, .inr (1, [.ref hr, .ref ab, .ref rb, .ref ob, .ref tb, .int fd])), (hr, .inr (7, [.int (nI 4), .int (nI 2), .int (nI 2), .int (nI 3), .int ea, .int pr, .ref sm, .int (nI 3), .ref ca])), (ca, .inl (cs 0, 8, .inl (fcF 4 2 2 (fun _ => 0) 4)))] H := hP
    have hD : va_D A [(hc, .inr (1, [.ref hr, .ref ab, .ref rb, .ref ob, .ref tb, .int fd])), (hr, .inr (7, [.int (nI 4), .int (nI 2), .int (nI 2), .int (nI 3), .int ea, .int pr, .ref sm, .int (nI 3), .ref ca])), (ca, .inl (cs 0, 8, .inl (fcF 4 2 2 (fun _ => 0) 4)))] := hD
    refine lv_iload_n hx hb dX1_staysBelow_0 rfl (lv_at hl 1 rfl) ?_
    refine lv_istore_n (lv' := [(2, .int (nI 1)), (0, .ref hc), (1, .int (nI 1))]) hx hb dX1_staysBelow_1 rfl hl (by decide) rfl (fun ls hl => ?_)
    refine lv_iload_n hx hb dX1_staysBelow_2 rfl (lv_at hl 0 rfl) ?_
    refine lv_if_le (tgt := 51) hx hb dX1_staysBelow_3 (by decide) (fun c => absurd c (by decide)) (fun _ => ?_)
    refine lv_iload_n hx hb dX1_staysBelow_6 rfl (lv_at hl 0 rfl) ?_
    refine lv_aload_n hx hb dX1_staysBelow_7 rfl (lv_at hl 1 rfl) ?_
    refine xget C hP 0 rfl rfl zuX1 0 (by decide) zw2_133 rfl dX1_staysBelow_8 ?_
    refine xget C hP 1 rfl rfl zuX7 0 (by decide) zw1_79 rfl dX1_staysBelow_11 ?_
    refine lv_icmp_ge (tgt := 51) hx hb dX1_staysBelow_14 (by decide) (fun c => absurd c (by decide)) (fun _ => ?_)
    refine lv_aload_n hx hb dX1_staysBelow_17 rfl (lv_at hl 1 rfl) ?_
    refine xget C hP 0 rfl rfl zuX1 0 (by decide) zw2_133 rfl dX1_staysBelow_18 ?_
    refine lv_iload_n hx hb dX1_staysBelow_21 rfl (lv_at hl 0 rfl) ?_
    refine xi (wr := [(hc, .inr (1, [.ref hr, .ref ab, .ref rb, .ref ob, .ref tb, .int fd]))]) (xV (As := [.int (nI 1)]) (rest := []) C (c_X7_down l D cs hr sm ca 4 2 2 3 ea pr (nI 3) (fcF 4 2 2 (fun _ => 0) 4) 1 (by decide) (by decide) (by decide)) kX1_51 hP hD [1, 2] rfl (by decide) 0 rfl rfl rfl ⟨Nat.le_of_ble_eq_true rfl, Nat.le_of_ble_eq_true rfl⟩ rfl hl.1 rfl (Nat.le_of_ble_eq_true rfl) dX1_staysBelow_22 ⟨Nat.le_of_ble_eq_true rfl, Nat.le_of_ble_eq_true rfl⟩) hP hD hS hA [1, 2] [0] rfl rfl (by decide) (by decide) (fun r_1 u_2 H locs hw_r_1 hP hD hS => ?_)
    have hw_r_1 : r_1 = nI 1 * (fcF 4 2 2 (fun _ => 0) 4) (4 - 1) := hw_r_1
    refine W.widen (k := 0) (n := 0) (Nat.le_of_ble_eq_true rfl) (Nat.le_of_ble_eq_true rfl) ?_
    have hP : va_P D vwCl [(hc, .inr (1, [.ref hr, .ref ab, .ref rb, .ref ob, .ref tb, .int fd])), (hr, .inr (7, [.int (nI 4), .int (nI 2), .int (nI 2), .int (nI 3), .int ea, .int pr, .ref sm, .int (nI 3), .ref ca])), (ca, .inl (cs 0, 8, .inl (fcF 4 2 2 (fun _ => 0) 4)))] H := hP
    have hD : va_D A [(hc, .inr (1, [.ref hr, .ref ab, .ref rb, .ref ob, .ref tb, .int fd])), (hr, .inr (7, [.int (nI 4), .int (nI 2), .int (nI 2), .int (nI 3), .int ea, .int pr, .ref sm, .int (nI 3), .ref ca])), (ca, .inl (cs 0, 8, .inl (fcF 4 2 2 (fun _ => 0) 4)))] := hD
    obtain rfl : r_1 = nI 3 := by rw [hw_r_1]; decide +kernel
    refine lv_if_ne (tgt := 45) hx hb dX1_staysBelow_25 (by decide) (fun _ => ?_) (fun c => absurd c (by decide))
    refine lv_iinc (v := nI 0) (lv' := [(2, .int (nI 0)), (0, .ref hc), (1, .int (nI 1))]) hx hb dX1_staysBelow_45 hl (k := 0) rfl (by decide) (by decide) rfl (fun ls hl => ?_)
    refine lv_goto (tgt := 2) hx hb dX1_staysBelow_48 (by decide) ?_
    refine lv_iload_n hx hb dX1_staysBelow_2 rfl (lv_at hl 0 rfl) ?_
    refine lv_if_le (tgt := 51) hx hb dX1_staysBelow_3 (by decide) (fun _ => ?_) (fun c => absurd (by decide) c)
    refine lv_iconst (v := nI 0) hx hb dX1_staysBelow_51 (by decide) ?_
    exact xreti C () rfl hP hD hS (Nat.le_of_ble_eq_true rfl) (Nat.le_of_ble_eq_true rfl) (by decide) dX1_staysBelow_52
  · -- j = 2
    have hP : va_P D vwCl [(hc, .inr (1, [.ref hr, .ref ab, .ref rb, .ref ob, .ref tb, .int fd])), (hr, .inr (7, [.int (nI 4), .int (nI 2), .int (nI 2), .int (nI 3), .int ea, .int pr, .ref sm, .int (nI 3), .ref ca])), (ca, .inl (cs 0, 8, .inl (fcF 4 2 2 (fun _ => 0) 4)))] H := hP
    have hD : va_D A [(hc, .inr (1, [.ref hr, .ref ab, .ref rb, .ref ob, .ref tb, .int fd])), (hr, .inr (7, [.int (nI 4), .int (nI 2), .int (nI 2), .int (nI 3), .int ea, .int pr, .ref sm, .int (nI 3), .ref ca])), (ca, .inl (cs 0, 8, .inl (fcF 4 2 2 (fun _ => 0) 4)))] := hD
    refine lv_iload_n hx hb dX1_staysBelow_0 rfl (lv_at hl 1 rfl) ?_
    refine lv_istore_n (lv' := [(2, .int (nI 2)), (0, .ref hc), (1, .int (nI 2))]) hx hb dX1_staysBelow_1 rfl hl (by decide) rfl (fun ls hl => ?_)
    refine lv_iload_n hx hb dX1_staysBelow_2 rfl (lv_at hl 0 rfl) ?_
    refine lv_if_le (tgt := 51) hx hb dX1_staysBelow_3 (by decide) (fun c => absurd c (by decide)) (fun _ => ?_)
    refine lv_iload_n hx hb dX1_staysBelow_6 rfl (lv_at hl 0 rfl) ?_
    refine lv_aload_n hx hb dX1_staysBelow_7 rfl (lv_at hl 1 rfl) ?_
    refine xget C hP 0 rfl rfl zuX1 0 (by decide) zw2_133 rfl dX1_staysBelow_8 ?_
    refine xget C hP 1 rfl rfl zuX7 0 (by decide) zw1_79 rfl dX1_staysBelow_11 ?_
    refine lv_icmp_ge (tgt := 51) hx hb dX1_staysBelow_14 (by decide) (fun c => absurd c (by decide)) (fun _ => ?_)
    refine lv_aload_n hx hb dX1_staysBelow_17 rfl (lv_at hl 1 rfl) ?_
    refine xget C hP 0 rfl rfl zuX1 0 (by decide) zw2_133 rfl dX1_staysBelow_18 ?_
    refine lv_iload_n hx hb dX1_staysBelow_21 rfl (lv_at hl 0 rfl) ?_
    refine xi (wr := [(hc, .inr (1, [.ref hr, .ref ab, .ref rb, .ref ob, .ref tb, .int fd]))]) (xV (As := [.int (nI 2)]) (rest := []) C (c_X7_down l D cs hr sm ca 4 2 2 3 ea pr (nI 3) (fcF 4 2 2 (fun _ => 0) 4) 2 (by decide) (by decide) (by decide)) kX1_51 hP hD [1, 2] rfl (by decide) 0 rfl rfl rfl ⟨Nat.le_of_ble_eq_true rfl, Nat.le_of_ble_eq_true rfl⟩ rfl hl.1 rfl (Nat.le_of_ble_eq_true rfl) dX1_staysBelow_22 ⟨Nat.le_of_ble_eq_true rfl, Nat.le_of_ble_eq_true rfl⟩) hP hD hS hA [1, 2] [0] rfl rfl (by decide) (by decide) (fun r_3 u_4 H locs hw_r_3 hP hD hS => ?_)
    have hw_r_3 : r_3 = nI 2 * (fcF 4 2 2 (fun _ => 0) 4) (4 - 2) := hw_r_3
    refine W.widen (k := 0) (n := 0) (Nat.le_of_ble_eq_true rfl) (Nat.le_of_ble_eq_true rfl) ?_
    have hP : va_P D vwCl [(hc, .inr (1, [.ref hr, .ref ab, .ref rb, .ref ob, .ref tb, .int fd])), (hr, .inr (7, [.int (nI 4), .int (nI 2), .int (nI 2), .int (nI 3), .int ea, .int pr, .ref sm, .int (nI 3), .ref ca])), (ca, .inl (cs 0, 8, .inl (fcF 4 2 2 (fun _ => 0) 4)))] H := hP
    have hD : va_D A [(hc, .inr (1, [.ref hr, .ref ab, .ref rb, .ref ob, .ref tb, .int fd])), (hr, .inr (7, [.int (nI 4), .int (nI 2), .int (nI 2), .int (nI 3), .int ea, .int pr, .ref sm, .int (nI 3), .ref ca])), (ca, .inl (cs 0, 8, .inl (fcF 4 2 2 (fun _ => 0) 4)))] := hD
    obtain rfl : r_3 = nI 2 := by rw [hw_r_3]; decide +kernel
    refine lv_if_ne (tgt := 45) hx hb dX1_staysBelow_25 (by decide) (fun _ => ?_) (fun c => absurd c (by decide))
    refine lv_iinc (v := nI 1) (lv' := [(2, .int (nI 1)), (0, .ref hc), (1, .int (nI 2))]) hx hb dX1_staysBelow_45 hl (k := 0) rfl (by decide) (by decide) rfl (fun ls hl => ?_)
    refine lv_goto (tgt := 2) hx hb dX1_staysBelow_48 (by decide) ?_
    refine lv_iload_n hx hb dX1_staysBelow_2 rfl (lv_at hl 0 rfl) ?_
    refine lv_if_le (tgt := 51) hx hb dX1_staysBelow_3 (by decide) (fun c => absurd c (by decide)) (fun _ => ?_)
    refine lv_iload_n hx hb dX1_staysBelow_6 rfl (lv_at hl 0 rfl) ?_
    refine lv_aload_n hx hb dX1_staysBelow_7 rfl (lv_at hl 1 rfl) ?_
    refine xget C hP 0 rfl rfl zuX1 0 (by decide) zw2_133 rfl dX1_staysBelow_8 ?_
    refine xget C hP 1 rfl rfl zuX7 0 (by decide) zw1_79 rfl dX1_staysBelow_11 ?_
    refine lv_icmp_ge (tgt := 51) hx hb dX1_staysBelow_14 (by decide) (fun c => absurd c (by decide)) (fun _ => ?_)
    refine lv_aload_n hx hb dX1_staysBelow_17 rfl (lv_at hl 1 rfl) ?_
    refine xget C hP 0 rfl rfl zuX1 0 (by decide) zw2_133 rfl dX1_staysBelow_18 ?_
    refine lv_iload_n hx hb dX1_staysBelow_21 rfl (lv_at hl 0 rfl) ?_
    refine xi (wr := [(hc, .inr (1, [.ref hr, .ref ab, .ref rb, .ref ob, .ref tb, .int fd]))]) (xV (As := [.int (nI 1)]) (rest := []) C (c_X7_down l D cs hr sm ca 4 2 2 3 ea pr (nI 3) (fcF 4 2 2 (fun _ => 0) 4) 1 (by decide) (by decide) (by decide)) kX1_51 hP hD [1, 2] rfl (by decide) 0 rfl rfl rfl ⟨Nat.le_of_ble_eq_true rfl, Nat.le_of_ble_eq_true rfl⟩ rfl hl.1 rfl (Nat.le_of_ble_eq_true rfl) dX1_staysBelow_22 ⟨Nat.le_of_ble_eq_true rfl, Nat.le_of_ble_eq_true rfl⟩) hP hD hS hA [1, 2] [0] rfl rfl (by decide) (by decide) (fun r_5 u_6 H locs hw_r_5 hP hD hS => ?_)
    have hw_r_5 : r_5 = nI 1 * (fcF 4 2 2 (fun _ => 0) 4) (4 - 1) := hw_r_5
    refine W.widen (k := 0) (n := 0) (Nat.le_of_ble_eq_true rfl) (Nat.le_of_ble_eq_true rfl) ?_
    have hP : va_P D vwCl [(hc, .inr (1, [.ref hr, .ref ab, .ref rb, .ref ob, .ref tb, .int fd])), (hr, .inr (7, [.int (nI 4), .int (nI 2), .int (nI 2), .int (nI 3), .int ea, .int pr, .ref sm, .int (nI 3), .ref ca])), (ca, .inl (cs 0, 8, .inl (fcF 4 2 2 (fun _ => 0) 4)))] H := hP
    have hD : va_D A [(hc, .inr (1, [.ref hr, .ref ab, .ref rb, .ref ob, .ref tb, .int fd])), (hr, .inr (7, [.int (nI 4), .int (nI 2), .int (nI 2), .int (nI 3), .int ea, .int pr, .ref sm, .int (nI 3), .ref ca])), (ca, .inl (cs 0, 8, .inl (fcF 4 2 2 (fun _ => 0) 4)))] := hD
    obtain rfl : r_5 = nI 3 := by rw [hw_r_5]; decide +kernel
    refine lv_if_ne (tgt := 45) hx hb dX1_staysBelow_25 (by decide) (fun _ => ?_) (fun c => absurd c (by decide))
    refine lv_iinc (v := nI 0) (lv' := [(2, .int (nI 0)), (0, .ref hc), (1, .int (nI 2))]) hx hb dX1_staysBelow_45 hl (k := 0) rfl (by decide) (by decide) rfl (fun ls hl => ?_)
    refine lv_goto (tgt := 2) hx hb dX1_staysBelow_48 (by decide) ?_
    refine lv_iload_n hx hb dX1_staysBelow_2 rfl (lv_at hl 0 rfl) ?_
    refine lv_if_le (tgt := 51) hx hb dX1_staysBelow_3 (by decide) (fun _ => ?_) (fun c => absurd (by decide) c)
    refine lv_iconst (v := nI 0) hx hb dX1_staysBelow_51 (by decide) ?_
    exact xreti C () rfl hP hD hS (Nat.le_of_ble_eq_true rfl) (Nat.le_of_ble_eq_true rfl) (by decide) dX1_staysBelow_52
  · -- j = 3
    have hP : va_P D vwCl [(hc, .inr (1, [.ref hr, .ref ab, .ref rb, .ref ob, .ref tb, .int fd])), (hr, .inr (7, [.int (nI 4), .int (nI 2), .int (nI 2), .int (nI 3), .int ea, .int pr, .ref sm, .int (nI 3), .ref ca])), (ca, .inl (cs 0, 8, .inl (fcF 4 2 2 (fun _ => 0) 4)))] H := hP
    have hD : va_D A [(hc, .inr (1, [.ref hr, .ref ab, .ref rb, .ref ob, .ref tb, .int fd])), (hr, .inr (7, [.int (nI 4), .int (nI 2), .int (nI 2), .int (nI 3), .int ea, .int pr, .ref sm, .int (nI 3), .ref ca])), (ca, .inl (cs 0, 8, .inl (fcF 4 2 2 (fun _ => 0) 4)))] := hD
    refine lv_iload_n hx hb dX1_staysBelow_0 rfl (lv_at hl 1 rfl) ?_
    refine lv_istore_n (lv' := [(2, .int (nI 3)), (0, .ref hc), (1, .int (nI 3))]) hx hb dX1_staysBelow_1 rfl hl (by decide) rfl (fun ls hl => ?_)
    refine lv_iload_n hx hb dX1_staysBelow_2 rfl (lv_at hl 0 rfl) ?_
    refine lv_if_le (tgt := 51) hx hb dX1_staysBelow_3 (by decide) (fun c => absurd c (by decide)) (fun _ => ?_)
    refine lv_iload_n hx hb dX1_staysBelow_6 rfl (lv_at hl 0 rfl) ?_
    refine lv_aload_n hx hb dX1_staysBelow_7 rfl (lv_at hl 1 rfl) ?_
    refine xget C hP 0 rfl rfl zuX1 0 (by decide) zw2_133 rfl dX1_staysBelow_8 ?_
    refine xget C hP 1 rfl rfl zuX7 0 (by decide) zw1_79 rfl dX1_staysBelow_11 ?_
    refine lv_icmp_ge (tgt := 51) hx hb dX1_staysBelow_14 (by decide) (fun c => absurd c (by decide)) (fun _ => ?_)
    refine lv_aload_n hx hb dX1_staysBelow_17 rfl (lv_at hl 1 rfl) ?_
    refine xget C hP 0 rfl rfl zuX1 0 (by decide) zw2_133 rfl dX1_staysBelow_18 ?_
    refine lv_iload_n hx hb dX1_staysBelow_21 rfl (lv_at hl 0 rfl) ?_
    refine xi (wr := [(hc, .inr (1, [.ref hr, .ref ab, .ref rb, .ref ob, .ref tb, .int fd]))]) (xV (As := [.int (nI 3)]) (rest := []) C (c_X7_down l D cs hr sm ca 4 2 2 3 ea pr (nI 3) (fcF 4 2 2 (fun _ => 0) 4) 3 (by decide) (by decide) (by decide)) kX1_51 hP hD [1, 2] rfl (by decide) 0 rfl rfl rfl ⟨Nat.le_of_ble_eq_true rfl, Nat.le_of_ble_eq_true rfl⟩ rfl hl.1 rfl (Nat.le_of_ble_eq_true rfl) dX1_staysBelow_22 ⟨Nat.le_of_ble_eq_true rfl, Nat.le_of_ble_eq_true rfl⟩) hP hD hS hA [1, 2] [0] rfl rfl (by decide) (by decide) (fun r_7 u_8 H locs hw_r_7 hP hD hS => ?_)
    have hw_r_7 : r_7 = nI 3 * (fcF 4 2 2 (fun _ => 0) 4) (4 - 3) := hw_r_7
    refine W.widen (k := 0) (n := 0) (Nat.le_of_ble_eq_true rfl) (Nat.le_of_ble_eq_true rfl) ?_
    have hP : va_P D vwCl [(hc, .inr (1, [.ref hr, .ref ab, .ref rb, .ref ob, .ref tb, .int fd])), (hr, .inr (7, [.int (nI 4), .int (nI 2), .int (nI 2), .int (nI 3), .int ea, .int pr, .ref sm, .int (nI 3), .ref ca])), (ca, .inl (cs 0, 8, .inl (fcF 4 2 2 (fun _ => 0) 4)))] H := hP
    have hD : va_D A [(hc, .inr (1, [.ref hr, .ref ab, .ref rb, .ref ob, .ref tb, .int fd])), (hr, .inr (7, [.int (nI 4), .int (nI 2), .int (nI 2), .int (nI 3), .int ea, .int pr, .ref sm, .int (nI 3), .ref ca])), (ca, .inl (cs 0, 8, .inl (fcF 4 2 2 (fun _ => 0) 4)))] := hD
    obtain rfl : r_7 = nI 0 := by rw [hw_r_7]; decide +kernel
    refine lv_if_ne (tgt := 45) hx hb dX1_staysBelow_25 (by decide) (fun c => absurd (by decide) c) (fun _ => ?_)
    refine lv_aload_n hx hb dX1_staysBelow_28 rfl (lv_at hl 1 rfl) ?_
    refine xget C hP 0 rfl rfl zuX1 0 (by decide) zw2_133 rfl dX1_staysBelow_29 ?_
    refine lv_iload_n hx hb dX1_staysBelow_32 rfl (lv_at hl 0 rfl) ?_
    refine xi (wr := [(hc, .inr (1, [.ref hr, .ref ab, .ref rb, .ref ob, .ref tb, .int fd]))]) (xV (As := [.int (nI 3)]) (rest := []) C (c_X7_up l D cs hr sm ca 4 2 2 3 ea pr (nI 3) (fcF 4 2 2 (fun _ => 0) 4) 3 (by decide) (by decide)) kX1_47 hP hD [1, 2] rfl (by decide) 0 rfl rfl rfl ⟨Nat.le_of_ble_eq_true rfl, Nat.le_of_ble_eq_true rfl⟩ rfl hl.1 rfl (Nat.le_of_ble_eq_true rfl) dX1_staysBelow_33 ⟨Nat.le_of_ble_eq_true rfl, Nat.le_of_ble_eq_true rfl⟩) hP hD hS hA [1, 2] [0] rfl rfl (by decide) (by decide) (fun r_9 u_10 H locs hw_r_9 hP hD hS => ?_)
    have hw_r_9 : r_9 = nI (4 - 3) * (fcF 4 2 2 (fun _ => 0) 4) 3 := hw_r_9
    refine W.widen (k := 0) (n := 0) (Nat.le_of_ble_eq_true rfl) (Nat.le_of_ble_eq_true rfl) ?_
    have hP : va_P D vwCl [(hc, .inr (1, [.ref hr, .ref ab, .ref rb, .ref ob, .ref tb, .int fd])), (hr, .inr (7, [.int (nI 4), .int (nI 2), .int (nI 2), .int (nI 3), .int ea, .int pr, .ref sm, .int (nI 3), .ref ca])), (ca, .inl (cs 0, 8, .inl (fcF 4 2 2 (fun _ => 0) 4)))] H := hP
    have hD : va_D A [(hc, .inr (1, [.ref hr, .ref ab, .ref rb, .ref ob, .ref tb, .int fd])), (hr, .inr (7, [.int (nI 4), .int (nI 2), .int (nI 2), .int (nI 3), .int ea, .int pr, .ref sm, .int (nI 3), .ref ca])), (ca, .inl (cs 0, 8, .inl (fcF 4 2 2 (fun _ => 0) 4)))] := hD
    obtain rfl : r_9 = nI 3 := by rw [hw_r_9]; decide +kernel
    refine lv_if_ne (tgt := 43) hx hb dX1_staysBelow_36 (by decide) (fun _ => ?_) (fun c => absurd c (by decide))
    refine lv_iconst (v := nI 0) hx hb dX1_staysBelow_43 (by decide) ?_
    exact xreti C () rfl hP hD hS (Nat.le_of_ble_eq_true rfl) (Nat.le_of_ble_eq_true rfl) (by decide) dX1_staysBelow_44
  · -- j = 4
    have hP : va_P D vwCl [(hc, .inr (1, [.ref hr, .ref ab, .ref rb, .ref ob, .ref tb, .int fd])), (hr, .inr (7, [.int (nI 4), .int (nI 2), .int (nI 2), .int (nI 3), .int ea, .int pr, .ref sm, .int (nI 3), .ref ca])), (ca, .inl (cs 0, 8, .inl (fcF 4 2 2 (fun _ => 0) 4)))] H := hP
    have hD : va_D A [(hc, .inr (1, [.ref hr, .ref ab, .ref rb, .ref ob, .ref tb, .int fd])), (hr, .inr (7, [.int (nI 4), .int (nI 2), .int (nI 2), .int (nI 3), .int ea, .int pr, .ref sm, .int (nI 3), .ref ca])), (ca, .inl (cs 0, 8, .inl (fcF 4 2 2 (fun _ => 0) 4)))] := hD
    refine lv_iload_n hx hb dX1_staysBelow_0 rfl (lv_at hl 1 rfl) ?_
    refine lv_istore_n (lv' := [(2, .int (nI 4)), (0, .ref hc), (1, .int (nI 4))]) hx hb dX1_staysBelow_1 rfl hl (by decide) rfl (fun ls hl => ?_)
    refine lv_iload_n hx hb dX1_staysBelow_2 rfl (lv_at hl 0 rfl) ?_
    refine lv_if_le (tgt := 51) hx hb dX1_staysBelow_3 (by decide) (fun c => absurd c (by decide)) (fun _ => ?_)
    refine lv_iload_n hx hb dX1_staysBelow_6 rfl (lv_at hl 0 rfl) ?_
    refine lv_aload_n hx hb dX1_staysBelow_7 rfl (lv_at hl 1 rfl) ?_
    refine xget C hP 0 rfl rfl zuX1 0 (by decide) zw2_133 rfl dX1_staysBelow_8 ?_
    refine xget C hP 1 rfl rfl zuX7 0 (by decide) zw1_79 rfl dX1_staysBelow_11 ?_
    refine lv_icmp_ge (tgt := 51) hx hb dX1_staysBelow_14 (by decide) (fun _ => ?_) (fun c => absurd (by decide) c)
    refine lv_iconst (v := nI 0) hx hb dX1_staysBelow_51 (by decide) ?_
    exact xreti C () rfl hP hD hS (Nat.le_of_ble_eq_true rfl) (Nat.le_of_ble_eq_true rfl) (by decide) dX1_staysBelow_52

set_option maxHeartbeats 4000000 in
set_option maxRecDepth 100000 in
theorem c_X1_mayStay_z (l : Launch) (D : va_G) (cs : Nat → ClassId) (hc hr sm ca ab rb ob tb : Nat) (ea pr fd : Int32) (j : Nat) (hj : j ≤ 4) : xMet l D cs yX1_mayStay cX1_mayStay 2 (some .boolean) ({ frames := 3, cells := 0, slots := 0, locals := 64 } : Room) [.ref hc, .int (nI j)] [(hc, .inr (1, [.ref hr, .ref ab, .ref rb, .ref ob, .ref tb, .int fd])), (hr, .inr (7, [.int (nI 4), .int (nI 2), .int (nI 2), .int (nI 3), .int ea, .int pr, .ref sm, .int (nI 3), .ref ca])), (ca, .inl (cs 0, 8, .inl (fcF 4 2 2 (fun _ => 0) 4)))] (xQi D (fun (r : Int32) (_u : Unit) => r = nI 0) (fun (_u : Unit) => [(hc, .inr (1, [.ref hr, .ref ab, .ref rb, .ref ob, .ref tb, .int fd])), (hr, .inr (7, [.int (nI 4), .int (nI 2), .int (nI 2), .int (nI 3), .int ea, .int pr, .ref sm, .int (nI 3), .ref ca])), (ca, .inl (cs 0, 8, .inl (fcF 4 2 2 (fun _ => 0) 4)))])) := by
  refine xMet.intro (by decide) (Nat.le_of_ble_eq_true rfl) ?_
  intro p e s m args below meth c A ls C hP hD hS hl
  have hx := C.1
  have hb := C.2.1
  have hz := C.2.2.2.2.1
  have hown := C.2.2.2.1
  have hA := C.2.2.2.2.2.2.2.2.2
  have hAO := C.2.2.2.2.2.2.2.2.1.2.2
  have hl : lv_has ls 2 [(0, .ref hc), (1, .int (nI j))] := hl
  obtain ⟨H, hH⟩ : ∃ H, H = s.heap := ⟨_, rfl⟩
  have hP : va_P D vwCl [(hc, .inr (1, [.ref hr, .ref ab, .ref rb, .ref ob, .ref tb, .int fd])), (hr, .inr (7, [.int (nI 4), .int (nI 2), .int (nI 2), .int (nI 3), .int ea, .int pr, .ref sm, .int (nI 3), .ref ca])), (ca, .inl (cs 0, 8, .inl (fcF 4 2 2 (fun _ => 0) 4)))] H := by rw [hH]; exact hP
  have hS : va_S A s.heap H [] := by rw [hH]; exact hS
  obtain ⟨locs, hlocs⟩ : ∃ z : List Loc, z = [] := ⟨_, rfl⟩
  rw [← hlocs] at hS
  suffices hW : W p l e ({ frames := 3, cells := 0, slots := 0, locals := 64 } : Room) s m args below meth c H locs 0 0 (MQ below ((xQi D (fun (r : Int32) (_u : Unit) => r = nI 0) (fun (_u : Unit) => [(hc, .inr (1, [.ref hr, .ref ab, .ref rb, .ref ob, .ref tb, .int fd])), (hr, .inr (7, [.int (nI 4), .int (nI 2), .int (nI 2), .int (nI 3), .int ea, .int pr, .ref sm, .int (nI 3), .ref ca])), (ca, .inl (cs 0, 8, .inl (fcF 4 2 2 (fun _ => 0) 4)))])) A) args s 0 0 A) (F0 m 0 ls []) by rw [hlocs, hH] at hW; exact hW
  refine lv_aload_n hx hb dX1_mayStay_0 rfl (lv_at hl 0 rfl) ?_
  refine lv_iload_n hx hb dX1_mayStay_1 rfl (lv_at hl 1 rfl) ?_
  refine xi (wr := []) (xV (As := [.int (nI j)]) (rest := []) C (c_X1_staysAbove_z l D cs hc hr sm ca ab rb ob tb ea pr fd j hj) kX1_34 hP hD [0, 1, 2] rfl (by decide) 0 rfl rfl rfl ⟨Nat.le_of_ble_eq_true rfl, Nat.le_of_ble_eq_true rfl⟩ rfl hl.1 rfl (Nat.le_of_ble_eq_true rfl) dX1_mayStay_2 ⟨Nat.le_of_ble_eq_true rfl, Nat.le_of_ble_eq_true rfl⟩) hP hD hS hA [0, 1, 2] [] rfl rfl (by decide) (by decide) (fun r_1 u_2 H locs hw_r_1 hP hD hS => ?_)
  have hw_r_1 : r_1 = nI 0 := hw_r_1
  refine W.widen (k := 0) (n := 0) (Nat.le_of_ble_eq_true rfl) (Nat.le_of_ble_eq_true rfl) ?_
  have hP : va_P D vwCl [(hc, .inr (1, [.ref hr, .ref ab, .ref rb, .ref ob, .ref tb, .int fd])), (hr, .inr (7, [.int (nI 4), .int (nI 2), .int (nI 2), .int (nI 3), .int ea, .int pr, .ref sm, .int (nI 3), .ref ca])), (ca, .inl (cs 0, 8, .inl (fcF 4 2 2 (fun _ => 0) 4)))] H := hP
  have hD : va_D A [(hc, .inr (1, [.ref hr, .ref ab, .ref rb, .ref ob, .ref tb, .int fd])), (hr, .inr (7, [.int (nI 4), .int (nI 2), .int (nI 2), .int (nI 3), .int ea, .int pr, .ref sm, .int (nI 3), .ref ca])), (ca, .inl (cs 0, 8, .inl (fcF 4 2 2 (fun _ => 0) 4)))] := hD
  subst hw_r_1
  refine lv_if_ne (tgt := 16) hx hb dX1_mayStay_5 (by decide) (fun c => absurd (by decide) c) (fun _ => ?_)
  refine lv_aload_n hx hb dX1_mayStay_8 rfl (lv_at hl 0 rfl) ?_
  refine lv_iload_n hx hb dX1_mayStay_9 rfl (lv_at hl 1 rfl) ?_
  refine xi (wr := []) (xV (As := [.int (nI j)]) (rest := []) C (c_X1_staysBelow_z l D cs hc hr sm ca ab rb ob tb ea pr fd j hj) kX1_38 hP hD [0, 1, 2] rfl (by decide) 0 rfl rfl rfl ⟨Nat.le_of_ble_eq_true rfl, Nat.le_of_ble_eq_true rfl⟩ rfl hl.1 rfl (Nat.le_of_ble_eq_true rfl) dX1_mayStay_10 ⟨Nat.le_of_ble_eq_true rfl, Nat.le_of_ble_eq_true rfl⟩) hP hD hS hA [0, 1, 2] [] rfl rfl (by decide) (by decide) (fun r_3 u_4 H locs hw_r_3 hP hD hS => ?_)
  have hw_r_3 : r_3 = nI 0 := hw_r_3
  refine W.widen (k := 0) (n := 0) (Nat.le_of_ble_eq_true rfl) (Nat.le_of_ble_eq_true rfl) ?_
  have hP : va_P D vwCl [(hc, .inr (1, [.ref hr, .ref ab, .ref rb, .ref ob, .ref tb, .int fd])), (hr, .inr (7, [.int (nI 4), .int (nI 2), .int (nI 2), .int (nI 3), .int ea, .int pr, .ref sm, .int (nI 3), .ref ca])), (ca, .inl (cs 0, 8, .inl (fcF 4 2 2 (fun _ => 0) 4)))] H := hP
  have hD : va_D A [(hc, .inr (1, [.ref hr, .ref ab, .ref rb, .ref ob, .ref tb, .int fd])), (hr, .inr (7, [.int (nI 4), .int (nI 2), .int (nI 2), .int (nI 3), .int ea, .int pr, .ref sm, .int (nI 3), .ref ca])), (ca, .inl (cs 0, 8, .inl (fcF 4 2 2 (fun _ => 0) 4)))] := hD
  subst hw_r_3
  refine lv_if_eq (tgt := 20) hx hb dX1_mayStay_13 (by decide) (fun _ => ?_) (fun c => absurd (by decide) c)
  refine lv_iconst (v := nI 0) hx hb dX1_mayStay_20 (by decide) ?_
  exact xreti C () rfl hP hD hS (Nat.le_of_ble_eq_true rfl) (Nat.le_of_ble_eq_true rfl) (by decide) dX1_mayStay_21
