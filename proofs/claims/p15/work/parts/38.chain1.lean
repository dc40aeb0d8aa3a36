set_option maxHeartbeats 4000000 in
set_option maxRecDepth 100000 in
theorem c_X1_init (l : Launch) (D : va_G) (cs : Nat → ClassId) (hc hr : Nat) : xMet l D cs yX1_init cX1_init 2 none ({ frames := 1, cells := 4, slots := 36, locals := 20 } : Room) [.ref hc, .ref hr] [(hc, .inr (1, [.null, .null, .null, .null, .null, .int 0]))] (xQv D (fun (u : Nat × Nat × Nat × Nat) => match u with | (ab, rb, ob, tb) => True) (fun (u : Nat × Nat × Nat × Nat) => match u with | (ab, rb, ob, tb) => [(hc, .inr (1, [.ref hr, .ref ab, .ref rb, .ref ob, .ref tb, .int 0])), (ab, .inl (cs 4, 9, .inr (.inr (.inr (.inr (fun _ => none)))))), (rb, .inl (cs 4, 9, .inr (.inr (.inr (.inr (fun _ => none)))))), (ob, .inl (cs 4, 9, .inr (.inr (.inr (.inr (fun _ => none)))))), (tb, .inl (cs 4, 9, .inr (.inr (.inr (.inr (fun _ => none))))))])) := by
  refine xMet.intro (by decide) (Nat.le_of_ble_eq_true rfl) ?_
  intro p e s m args below meth c A ls C hP hD hS hl
  have hx := C.1
  have hb := C.2.1
  have hz := C.2.2.2.2.1
  have hown := C.2.2.2.1
  have hA := C.2.2.2.2.2.2.2.2.2
  have hAO := C.2.2.2.2.2.2.2.2.1.2.2
  replace hl : lv_has ls 2 [(0, .ref hc), (1, .ref hr)] := hl
  obtain ⟨H, hH⟩ : ∃ H, H = s.heap := ⟨_, rfl⟩
  replace hP : va_P D vwCl [(hc, .inr (1, [.null, .null, .null, .null, .null, .int 0]))] H := by rw [hH]; exact hP
  replace hS : va_S A s.heap H [] := by rw [hH]; exact hS
  obtain ⟨locs, hlocs⟩ : ∃ z : List Loc, z = [] := ⟨_, rfl⟩
  rw [← hlocs] at hS
  suffices hW : W p l e ({ frames := 1, cells := 4, slots := 36, locals := 20 } : Room) s m args below meth c H locs 0 0 (MQ below ((xQv D (fun (u : Nat × Nat × Nat × Nat) => match u with | (ab, rb, ob, tb) => True) (fun (u : Nat × Nat × Nat × Nat) => match u with | (ab, rb, ob, tb) => [(hc, .inr (1, [.ref hr, .ref ab, .ref rb, .ref ob, .ref tb, .int 0])), (ab, .inl (cs 4, 9, .inr (.inr (.inr (.inr (fun _ => none)))))), (rb, .inl (cs 4, 9, .inr (.inr (.inr (.inr (fun _ => none)))))), (ob, .inl (cs 4, 9, .inr (.inr (.inr (.inr (fun _ => none)))))), (tb, .inl (cs 4, 9, .inr (.inr (.inr (.inr (fun _ => none))))))])) A) args s 4 36 A) (F0 m 0 ls []) by rw [hlocs, hH] at hW; exact hW
  clear hH hlocs
  refine lv_aload_n hx hb dX1_init_0 rfl (lv_at hl 0 rfl) ?_
  refine W.objInit hx hb hown (hz _ zw2_130) (hz _ zw1_30) (hz _ zw1_31) rfl (by rw [C.2.2.1]; exact hl.1) rfl dX1_init_1 (Nat.le_of_ble_eq_true rfl) (Nat.le_of_ble_eq_true rfl) ?_
  refine W.eq (g2 := F0 m 4 ls []) rfl ?_
  refine lv_aload_n hx hb dX1_init_4 rfl (lv_at hl 0 rfl) ?_
  refine lv_bipush (v := nI 9) hx hb dX1_init_5 (by decide) ?_
  refine xnewq (n := 9) C hP hD hS 4 rfl hAO.2.2.1 zw2_131 rfl (by decide) (Nat.le_of_ble_eq_true rfl) (Nat.le_of_ble_eq_true rfl) dX1_init_7 ?_
  clear hP hD hS
  try clear H
  intro q_1 H hP hD hS
  refine W.widen (k := 1) (n := 9) (Nat.le_of_ble_eq_true rfl) (Nat.le_of_ble_eq_true rfl) ?_
  replace hP : va_P D vwCl [(hc, .inr (1, [.null, .null, .null, .null, .null, .int 0])), (q_1, .inl (cs 4, 9, .inr (.inr (.inr (.inr (fun _ => none))))))] H := hP
  replace hD : va_D A [(hc, .inr (1, [.null, .null, .null, .null, .null, .int 0])), (q_1, .inl (cs 4, 9, .inr (.inr (.inr (.inr (fun _ => none))))))] := hD
  refine xputF C hP hD hS 0 rfl rfl zuX1 tyX1 tyX1_ok nmX1 1 (by decide) zw2_134 rfl rfl rfl rfl rfl (Nat.le_of_ble_eq_true rfl) dX1_init_10 ?_
  clear hP hD hS
  try clear locs
  try clear H
  intro H locs hP hD hS
  replace hP : va_P D vwCl [(hc, .inr (1, [.null, .ref q_1, .null, .null, .null, .int 0])), (q_1, .inl (cs 4, 9, .inr (.inr (.inr (.inr (fun _ => none))))))] H := hP
  replace hD : va_D A [(hc, .inr (1, [.null, .ref q_1, .null, .null, .null, .int 0])), (q_1, .inl (cs 4, 9, .inr (.inr (.inr (.inr (fun _ => none))))))] := hD
  refine lv_aload_n hx hb dX1_init_13 rfl (lv_at hl 0 rfl) ?_
  refine lv_bipush (v := nI 9) hx hb dX1_init_14 (by decide) ?_
  refine xnewq (n := 9) C hP hD hS 4 rfl hAO.2.2.1 zw2_131 rfl (by decide) (Nat.le_of_ble_eq_true rfl) (Nat.le_of_ble_eq_true rfl) dX1_init_16 ?_
  clear hP hD hS
  try clear H
  intro q_2 H hP hD hS
  refine W.widen (k := 2) (n := 18) (Nat.le_of_ble_eq_true rfl) (Nat.le_of_ble_eq_true rfl) ?_
  replace hP : va_P D vwCl [(hc, .inr (1, [.null, .ref q_1, .null, .null, .null, .int 0])), (q_1, .inl (cs 4, 9, .inr (.inr (.inr (.inr (fun _ => none)))))), (q_2, .inl (cs 4, 9, .inr (.inr (.inr (.inr (fun _ => none))))))] H := hP
  replace hD : va_D A [(hc, .inr (1, [.null, .ref q_1, .null, .null, .null, .int 0])), (q_1, .inl (cs 4, 9, .inr (.inr (.inr (.inr (fun _ => none)))))), (q_2, .inl (cs 4, 9, .inr (.inr (.inr (.inr (fun _ => none))))))] := hD
  refine xputF C hP hD hS 0 rfl rfl zuX1 tyX1 tyX1_ok nmX1 2 (by decide) zw2_135 rfl rfl rfl rfl rfl (Nat.le_of_ble_eq_true rfl) dX1_init_19 ?_
  clear hP hD hS
  try clear locs
  try clear H
  intro H locs hP hD hS
  replace hP : va_P D vwCl [(hc, .inr (1, [.null, .ref q_1, .ref q_2, .null, .null, .int 0])), (q_1, .inl (cs 4, 9, .inr (.inr (.inr (.inr (fun _ => none)))))), (q_2, .inl (cs 4, 9, .inr (.inr (.inr (.inr (fun _ => none))))))] H := hP
  replace hD : va_D A [(hc, .inr (1, [.null, .ref q_1, .ref q_2, .null, .null, .int 0])), (q_1, .inl (cs 4, 9, .inr (.inr (.inr (.inr (fun _ => none)))))), (q_2, .inl (cs 4, 9, .inr (.inr (.inr (.inr (fun _ => none))))))] := hD
  refine lv_aload_n hx hb dX1_init_22 rfl (lv_at hl 0 rfl) ?_
  refine lv_bipush (v := nI 9) hx hb dX1_init_23 (by decide) ?_
  refine xnewq (n := 9) C hP hD hS 4 rfl hAO.2.2.1 zw2_131 rfl (by decide) (Nat.le_of_ble_eq_true rfl) (Nat.le_of_ble_eq_true rfl) dX1_init_25 ?_
  clear hP hD hS
  try clear H
  intro q_3 H hP hD hS
  refine W.widen (k := 3) (n := 27) (Nat.le_of_ble_eq_true rfl) (Nat.le_of_ble_eq_true rfl) ?_
  replace hP : va_P D vwCl [(hc, .inr (1, [.null, .ref q_1, .ref q_2, .null, .null, .int 0])), (q_1, .inl (cs 4, 9, .inr (.inr (.inr (.inr (fun _ => none)))))), (q_2, .inl (cs 4, 9, .inr (.inr (.inr (.inr (fun _ => none)))))), (q_3, .inl (cs 4, 9, .inr (.inr (.inr (.inr (fun _ => none))))))] H := hP
  replace hD : va_D A [(hc, .inr (1, [.null, .ref q_1, .ref q_2, .null, .null, .int 0])), (q_1, .inl (cs 4, 9, .inr (.inr (.inr (.inr (fun _ => none)))))), (q_2, .inl (cs 4, 9, .inr (.inr (.inr (.inr (fun _ => none)))))), (q_3, .inl (cs 4, 9, .inr (.inr (.inr (.inr (fun _ => none))))))] := hD
  refine xputF C hP hD hS 0 rfl rfl zuX1 tyX1 tyX1_ok nmX1 3 (by decide) zw2_136 rfl rfl rfl rfl rfl (Nat.le_of_ble_eq_true rfl) dX1_init_28 ?_
  clear hP hD hS
  try clear locs
  try clear H
  intro H locs hP hD hS
  replace hP : va_P D vwCl [(hc, .inr (1, [.null, .ref q_1, .ref q_2, .ref q_3, .null, .int 0])), (q_1, .inl (cs 4, 9, .inr (.inr (.inr (.inr (fun _ => none)))))), (q_2, .inl (cs 4, 9, .inr (.inr (.inr (.inr (fun _ => none)))))), (q_3, .inl (cs 4, 9, .inr (.inr (.inr (.inr (fun _ => none))))))] H := hP
  replace hD : va_D A [(hc, .inr (1, [.null, .ref q_1, .ref q_2, .ref q_3, .null, .int 0])), (q_1, .inl (cs 4, 9, .inr (.inr (.inr (.inr (fun _ => none)))))), (q_2, .inl (cs 4, 9, .inr (.inr (.inr (.inr (fun _ => none)))))), (q_3, .inl (cs 4, 9, .inr (.inr (.inr (.inr (fun _ => none))))))] := hD
  refine lv_aload_n hx hb dX1_init_31 rfl (lv_at hl 0 rfl) ?_
  refine lv_bipush (v := nI 9) hx hb dX1_init_32 (by decide) ?_
  refine xnewq (n := 9) C hP hD hS 4 rfl hAO.2.2.1 zw2_131 rfl (by decide) (Nat.le_of_ble_eq_true rfl) (Nat.le_of_ble_eq_true rfl) dX1_init_34 ?_
  clear hP hD hS
  try clear H
  intro q_4 H hP hD hS
  refine W.widen (k := 4) (n := 36) (Nat.le_of_ble_eq_true rfl) (Nat.le_of_ble_eq_true rfl) ?_
  replace hP : va_P D vwCl [(hc, .inr (1, [.null, .ref q_1, .ref q_2, .ref q_3, .null, .int 0])), (q_1, .inl (cs 4, 9, .inr (.inr (.inr (.inr (fun _ => none)))))), (q_2, .inl (cs 4, 9, .inr (.inr (.inr (.inr (fun _ => none)))))), (q_3, .inl (cs 4, 9, .inr (.inr (.inr (.inr (fun _ => none)))))), (q_4, .inl (cs 4, 9, .inr (.inr (.inr (.inr (fun _ => none))))))] H := hP
  replace hD : va_D A [(hc, .inr (1, [.null, .ref q_1, .ref q_2, .ref q_3, .null, .int 0])), (q_1, .inl (cs 4, 9, .inr (.inr (.inr (.inr (fun _ => none)))))), (q_2, .inl (cs 4, 9, .inr (.inr (.inr (.inr (fun _ => none)))))), (q_3, .inl (cs 4, 9, .inr (.inr (.inr (.inr (fun _ => none)))))), (q_4, .inl (cs 4, 9, .inr (.inr (.inr (.inr (fun _ => none))))))] := hD
  refine xputF C hP hD hS 0 rfl rfl zuX1 tyX1 tyX1_ok nmX1 4 (by decide) zw2_138 rfl rfl rfl rfl rfl (Nat.le_of_ble_eq_true rfl) dX1_init_37 ?_
  clear hP hD hS
  try clear locs
  try clear H
  intro H locs hP hD hS
  replace hP : va_P D vwCl [(hc, .inr (1, [.null, .ref q_1, .ref q_2, .ref q_3, .ref q_4, .int 0])), (q_1, .inl (cs 4, 9, .inr (.inr (.inr (.inr (fun _ => none)))))), (q_2, .inl (cs 4, 9, .inr (.inr (.inr (.inr (fun _ => none)))))), (q_3, .inl (cs 4, 9, .inr (.inr (.inr (.inr (fun _ => none)))))), (q_4, .inl (cs 4, 9, .inr (.inr (.inr (.inr (fun _ => none))))))] H := hP
  replace hD : va_D A [(hc, .inr (1, [.null, .ref q_1, .ref q_2, .ref q_3, .ref q_4, .int 0])), (q_1, .inl (cs 4, 9, .inr (.inr (.inr (.inr (fun _ => none)))))), (q_2, .inl (cs 4, 9, .inr (.inr (.inr (.inr (fun _ => none)))))), (q_3, .inl (cs 4, 9, .inr (.inr (.inr (.inr (fun _ => none)))))), (q_4, .inl (cs 4, 9, .inr (.inr (.inr (.inr (fun _ => none))))))] := hD
  refine lv_aload_n hx hb dX1_init_40 rfl (lv_at hl 0 rfl) ?_
  refine lv_aload_n hx hb dX1_init_41 rfl (lv_at hl 1 rfl) ?_
  refine xputF C hP hD hS 0 rfl rfl zuX1 tyX1 tyX1_ok nmX1 0 (by decide) zw2_133 rfl rfl rfl rfl rfl (Nat.le_of_ble_eq_true rfl) dX1_init_42 ?_
  clear hP hD hS
  try clear locs
  try clear H
  intro H locs hP hD hS
  replace hP : va_P D vwCl [(hc, .inr (1, [.ref hr, .ref q_1, .ref q_2, .ref q_3, .ref q_4, .int 0])), (q_1, .inl (cs 4, 9, .inr (.inr (.inr (.inr (fun _ => none)))))), (q_2, .inl (cs 4, 9, .inr (.inr (.inr (.inr (fun _ => none)))))), (q_3, .inl (cs 4, 9, .inr (.inr (.inr (.inr (fun _ => none)))))), (q_4, .inl (cs 4, 9, .inr (.inr (.inr (.inr (fun _ => none))))))] H := hP
  replace hD : va_D A [(hc, .inr (1, [.ref hr, .ref q_1, .ref q_2, .ref q_3, .ref q_4, .int 0])), (q_1, .inl (cs 4, 9, .inr (.inr (.inr (.inr (fun _ => none)))))), (q_2, .inl (cs 4, 9, .inr (.inr (.inr (.inr (fun _ => none)))))), (q_3, .inl (cs 4, 9, .inr (.inr (.inr (.inr (fun _ => none)))))), (q_4, .inl (cs 4, 9, .inr (.inr (.inr (.inr (fun _ => none))))))] := hD
  exact xretv C (⟨q_1, q_2, q_3, q_4⟩) trivial hP hD hS (Nat.le_of_ble_eq_true rfl) (Nat.le_of_ble_eq_true rfl) dX1_init_45

set_option maxHeartbeats 4000000 in
set_option maxRecDepth 100000 in
theorem c_X1_forget (l : Launch) (D : va_G) (cs : Nat → ClassId) (hc hr ab rb ob tb : Nat) (fd : Int32) : xMet l D cs yX1_forget cX1_forget 1 none ({ frames := 0, cells := 0, slots := 0, locals := 0 } : Room) [.ref hc] [(hc, .inr (1, [.ref hr, .ref ab, .ref rb, .ref ob, .ref tb, .int fd]))] (xQv D (fun (_u : Unit) => True) (fun (_u : Unit) => [(hc, .inr (1, [.ref hr, .ref ab, .ref rb, .ref ob, .ref tb, .int (nI 0)]))])) := by
  refine xMet.intro (by decide) (Nat.le_of_ble_eq_true rfl) ?_
  intro p e s m args below meth c A ls C hP hD hS hl
  have hx := C.1
  have hb := C.2.1
  have hz := C.2.2.2.2.1
  have hown := C.2.2.2.1
  have hA := C.2.2.2.2.2.2.2.2.2
  have hAO := C.2.2.2.2.2.2.2.2.1.2.2
  replace hl : lv_has ls 1 [(0, .ref hc)] := hl
  obtain ⟨H, hH⟩ : ∃ H, H = s.heap := ⟨_, rfl⟩
  replace hP : va_P D vwCl [(hc, .inr (1, [.ref hr, .ref ab, .ref rb, .ref ob, .ref tb, .int fd]))] H := by rw [hH]; exact hP
  replace hS : va_S A s.heap H [] := by rw [hH]; exact hS
  obtain ⟨locs, hlocs⟩ : ∃ z : List Loc, z = [] := ⟨_, rfl⟩
  rw [← hlocs] at hS
  suffices hW : W p l e ({ frames := 0, cells := 0, slots := 0, locals := 0 } : Room) s m args below meth c H locs 0 0 (MQ below ((xQv D (fun (_u : Unit) => True) (fun (_u : Unit) => [(hc, .inr (1, [.ref hr, .ref ab, .ref rb, .ref ob, .ref tb, .int (nI 0)]))])) A) args s 0 0 A) (F0 m 0 ls []) by rw [hlocs, hH] at hW; exact hW
  clear hH hlocs
  refine lv_aload_n hx hb dX1_forget_0 rfl (lv_at hl 0 rfl) ?_
  refine lv_iconst (v := nI 0) hx hb dX1_forget_1 (by decide) ?_
  refine xput C hP hD hS 0 rfl rfl zuX1 tyX1 tyX1_ok nmX1 5 (by decide) zw2_140 rfl rfl rfl (Nat.le_of_ble_eq_true rfl) dX1_forget_2 ?_
  clear hP hD hS
  try clear locs
  try clear H
  intro H locs hP hD hS
  replace hP : va_P D vwCl [(hc, .inr (1, [.ref hr, .ref ab, .ref rb, .ref ob, .ref tb, .int (nI 0)]))] H := hP
  replace hD : va_D A [(hc, .inr (1, [.ref hr, .ref ab, .ref rb, .ref ob, .ref tb, .int (nI 0)]))] := hD
  exact xretv C () trivial hP hD hS (Nat.le_of_ble_eq_true rfl) (Nat.le_of_ble_eq_true rfl) dX1_forget_5

set_option maxHeartbeats 4000000 in
set_option maxRecDepth 100000 in
theorem c_X1_staysAbove (l : Launch) (D : va_G) (cs : Nat → ClassId) (hc ab rb ob tb : Nat) (fd : Int32) (hr sm ca n k al be se : Nat) (ea pr : Int32) (cf : Nat → Int32) (j : Nat) (hn : n ≤ 8) (hj : j ≤ n) : xMet l D cs yX1_staysAbove cX1_staysAbove 3 (some .boolean) ({ frames := 2, cells := 0, slots := 0, locals := 42 } : Room) [.ref hc, .int (nI j)] [(hc, .inr (1, [.ref hr, .ref ab, .ref rb, .ref ob, .ref tb, .int fd])), (hr, .inr (7, [.int (nI n), .int (nI k), .int (nI al), .int (nI be), .int ea, .int pr, .ref sm, .int (nI se), .ref ca])), (ca, .inl (cs 0, 8, .inl cf))] (xQi D (fun (r : Int32) (_u : Unit) => (r = nI 0 ∨ r = nI 1)) (fun (_u : Unit) => [(hc, .inr (1, [.ref hr, .ref ab, .ref rb, .ref ob, .ref tb, .int fd])), (hr, .inr (7, [.int (nI n), .int (nI k), .int (nI al), .int (nI be), .int ea, .int pr, .ref sm, .int (nI se), .ref ca])), (ca, .inl (cs 0, 8, .inl cf))])) := by
  refine xMet.intro (by decide) (Nat.le_of_ble_eq_true rfl) ?_
  intro p e s m args below meth c A ls C hP hD hS hl
  have hx := C.1
  have hb := C.2.1
  have hz := C.2.2.2.2.1
  have hown := C.2.2.2.1
  have hA := C.2.2.2.2.2.2.2.2.2
  have hAO := C.2.2.2.2.2.2.2.2.1.2.2
  replace hl : lv_has ls 3 [(0, .ref hc), (1, .int (nI j))] := hl
  obtain ⟨H, hH⟩ : ∃ H, H = s.heap := ⟨_, rfl⟩
  replace hP : va_P D vwCl [(hc, .inr (1, [.ref hr, .ref ab, .ref rb, .ref ob, .ref tb, .int fd])), (hr, .inr (7, [.int (nI n), .int (nI k), .int (nI al), .int (nI be), .int ea, .int pr, .ref sm, .int (nI se), .ref ca])), (ca, .inl (cs 0, 8, .inl cf))] H := by rw [hH]; exact hP
  replace hS : va_S A s.heap H [] := by rw [hH]; exact hS
  obtain ⟨locs, hlocs⟩ : ∃ z : List Loc, z = [] := ⟨_, rfl⟩
  rw [← hlocs] at hS
  suffices hW : W p l e ({ frames := 2, cells := 0, slots := 0, locals := 42 } : Room) s m args below meth c H locs 0 0 (MQ below ((xQi D (fun (r : Int32) (_u : Unit) => (r = nI 0 ∨ r = nI 1)) (fun (_u : Unit) => [(hc, .inr (1, [.ref hr, .ref ab, .ref rb, .ref ob, .ref tb, .int fd])), (hr, .inr (7, [.int (nI n), .int (nI k), .int (nI al), .int (nI be), .int ea, .int pr, .ref sm, .int (nI se), .ref ca])), (ca, .inl (cs 0, 8, .inl cf))])) A) args s 0 0 A) (F0 m 0 ls []) by rw [hlocs, hH] at hW; exact hW
  clear hH hlocs
  refine lv_iload_n hx hb dX1_staysAbove_0 rfl (lv_at hl 1 rfl) ?_
  refine lv_istore_n (lv' := [(2, .int (nI j)), (0, .ref hc), (1, .int (nI j))]) hx hb dX1_staysAbove_1 rfl hl (by decide) rfl ?_
  clear hl
  try clear ls
  intro ls hl
  have loop_1 : ∀ (n_loop_1 : Nat) (i : Nat), (i ≤ 100) → (i ≤ n) → 100 - i < n_loop_1 → ∀ (H : Heap) (locs : List Loc) (ls : Array Slot), va_P D vwCl [(hc, .inr (1, [.ref hr, .ref ab, .ref rb, .ref ob, .ref tb, .int fd])), (hr, .inr (7, [.int (nI n), .int (nI k), .int (nI al), .int (nI be), .int ea, .int pr, .ref sm, .int (nI se), .ref ca])), (ca, .inl (cs 0, 8, .inl cf))] H → va_D A [(hc, .inr (1, [.ref hr, .ref ab, .ref rb, .ref ob, .ref tb, .int fd])), (hr, .inr (7, [.int (nI n), .int (nI k), .int (nI al), .int (nI be), .int ea, .int pr, .ref sm, .int (nI se), .ref ca])), (ca, .inl (cs 0, 8, .inl cf))] → va_S A s.heap H locs → lv_has ls 3 [(2, .int (nI i)), (0, .ref hc), (1, .int (nI j))] → W p l e ({ frames := 2, cells := 0, slots := 0, locals := 42 } : Room) s m args below meth c H locs 0 0 (MQ below ((xQi D (fun (r : Int32) (_u : Unit) => (r = nI 0 ∨ r = nI 1)) (fun (_u : Unit) => [(hc, .inr (1, [.ref hr, .ref ab, .ref rb, .ref ob, .ref tb, .int fd])), (hr, .inr (7, [.int (nI n), .int (nI k), .int (nI al), .int (nI be), .int ea, .int pr, .ref sm, .int (nI se), .ref ca])), (ca, .inl (cs 0, 8, .inl cf))])) A) args s 0 0 A) (F0 m 2 ls []) := by
    intro n_loop_1
    induction n_loop_1 with
    | zero => intro i h_i hin hlt H locs ls hP hD hS hl; exact absurd hlt (Nat.not_lt_zero _)
    | succ n_loop_1 ih_loop_1 =>
      intro i h_i hin hlt_loop_1 H locs ls hP hD hS hl
      refine lv_iload_n hx hb dX1_staysAbove_2 rfl (lv_at hl 0 rfl) ?_
      refine lv_if_le (tgt := 51) hx hb dX1_staysAbove_3 (by decide) (fun c_2 => ?_) (fun c_2 => ?_)
      · -- 3 t
        have fc_2 : i ≤ 0 := nf_le (by omega) (by omega) c_2
        refine lv_iconst (v := nI 0) hx hb dX1_staysAbove_51 (by decide) ?_
        exact xreti C () (by decide) hP hD hS (Nat.le_of_ble_eq_true rfl) (Nat.le_of_ble_eq_true rfl) (by decide) dX1_staysAbove_52
      · -- 3 f
        have fc_2 : 0 < i := nf_nle (by omega) (by omega) c_2
        refine lv_iload_n hx hb dX1_staysAbove_6 rfl (lv_at hl 0 rfl) ?_
        refine lv_aload_n hx hb dX1_staysAbove_7 rfl (lv_at hl 1 rfl) ?_
        refine xget C hP 0 rfl rfl zuX1 0 (by decide) zw2_133 rfl dX1_staysAbove_8 ?_
        refine xget C hP 1 rfl rfl zuX7 0 (by decide) zw1_79 rfl dX1_staysAbove_11 ?_
        refine lv_icmp_ge (tgt := 51) hx hb dX1_staysAbove_14 (by decide) (fun c_3 => ?_) (fun c_3 => ?_)
        · -- 14 t
          have fc_3 : n ≤ i := nf_le (by omega) (by omega) c_3
          refine lv_iconst (v := nI 0) hx hb dX1_staysAbove_51 (by decide) ?_
          exact xreti C () (by decide) hP hD hS (Nat.le_of_ble_eq_true rfl) (Nat.le_of_ble_eq_true rfl) (by decide) dX1_staysAbove_52
        · -- 14 f
          have fc_3 : i < n := nf_nle (by omega) (by omega) c_3
          refine lv_aload_n hx hb dX1_staysAbove_17 rfl (lv_at hl 1 rfl) ?_
          refine xget C hP 0 rfl rfl zuX1 0 (by decide) zw2_133 rfl dX1_staysAbove_18 ?_
          refine lv_iload_n hx hb dX1_staysAbove_21 rfl (lv_at hl 0 rfl) ?_
          refine xi (wr := [(hc, .inr (1, [.ref hr, .ref ab, .ref rb, .ref ob, .ref tb, .int fd]))]) (xV (As := [.int (nI i)]) (rest := []) C (c_X7_up l D cs hr sm ca n k al be ea pr (nI se) cf i hn (by omega)) kX1_47 hP hD [1, 2] rfl (by decide) 0 rfl rfl rfl ⟨Nat.le_of_ble_eq_true rfl, Nat.le_of_ble_eq_true rfl⟩ rfl hl.1 rfl (Nat.le_of_ble_eq_true rfl) dX1_staysAbove_22 ⟨Nat.le_of_ble_eq_true rfl, Nat.le_of_ble_eq_true rfl⟩) hP hD hS hA [1, 2] [0] rfl rfl (by decide) (by decide) ?_
          clear hP hD hS
          try clear locs
          try clear H
          intro r_4 u_5 H locs hw_r_4 hP hD hS
          have hw_r_4 : r_4 = nI (n - i) * cf i := hw_r_4
          refine W.widen (k := 0) (n := 0) (Nat.le_of_ble_eq_true rfl) (Nat.le_of_ble_eq_true rfl) ?_
          replace hP : va_P D vwCl [(hc, .inr (1, [.ref hr, .ref ab, .ref rb, .ref ob, .ref tb, .int fd])), (hr, .inr (7, [.int (nI n), .int (nI k), .int (nI al), .int (nI be), .int ea, .int pr, .ref sm, .int (nI se), .ref ca])), (ca, .inl (cs 0, 8, .inl cf))] H := hP
          replace hD : va_D A [(hc, .inr (1, [.ref hr, .ref ab, .ref rb, .ref ob, .ref tb, .int fd])), (hr, .inr (7, [.int (nI n), .int (nI k), .int (nI al), .int (nI be), .int ea, .int pr, .ref sm, .int (nI se), .ref ca])), (ca, .inl (cs 0, 8, .inl cf))] := hD
          refine lv_if_ne (tgt := 45) hx hb dX1_staysAbove_25 (by decide) (fun c_6 => ?_) (fun c_6 => ?_)
          · -- 25 t
            refine lv_iinc (v := nI (i + 1)) (lv' := [(2, .int (nI (i + 1))), (0, .ref hc), (1, .int (nI j))]) hx hb dX1_staysAbove_45 hl (k := 0) rfl (nI_add i 1) (by decide) rfl ?_
            clear hl
            try clear ls
            intro ls hl
            refine lv_goto (tgt := 2) hx hb dX1_staysAbove_48 (by decide) ?_
            exact ih_loop_1 (i + 1) (by omega) (by omega) (by omega) H locs ls hP hD hS (lv_sub hl [0, 1, 2] rfl)
          · -- 25 f
            refine lv_aload_n hx hb dX1_staysAbove_28 rfl (lv_at hl 1 rfl) ?_
            refine xget C hP 0 rfl rfl zuX1 0 (by decide) zw2_133 rfl dX1_staysAbove_29 ?_
            refine lv_iload_n hx hb dX1_staysAbove_32 rfl (lv_at hl 0 rfl) ?_
            refine xi (wr := [(hc, .inr (1, [.ref hr, .ref ab, .ref rb, .ref ob, .ref tb, .int fd]))]) (xV (As := [.int (nI i)]) (rest := []) C (c_X7_down l D cs hr sm ca n k al be ea pr (nI se) cf i hn (by omega) (by omega)) kX1_51 hP hD [1, 2] rfl (by decide) 0 rfl rfl rfl ⟨Nat.le_of_ble_eq_true rfl, Nat.le_of_ble_eq_true rfl⟩ rfl hl.1 rfl (Nat.le_of_ble_eq_true rfl) dX1_staysAbove_33 ⟨Nat.le_of_ble_eq_true rfl, Nat.le_of_ble_eq_true rfl⟩) hP hD hS hA [1, 2] [0] rfl rfl (by decide) (by decide) ?_
            clear hP hD hS
            try clear locs
            try clear H
            intro r_7 u_8 H locs hw_r_7 hP hD hS
            have hw_r_7 : r_7 = nI i * cf (n - i) := hw_r_7
            refine W.widen (k := 0) (n := 0) (Nat.le_of_ble_eq_true rfl) (Nat.le_of_ble_eq_true rfl) ?_
            replace hP : va_P D vwCl [(hc, .inr (1, [.ref hr, .ref ab, .ref rb, .ref ob, .ref tb, .int fd])), (hr, .inr (7, [.int (nI n), .int (nI k), .int (nI al), .int (nI be), .int ea, .int pr, .ref sm, .int (nI se), .ref ca])), (ca, .inl (cs 0, 8, .inl cf))] H := hP
            replace hD : va_D A [(hc, .inr (1, [.ref hr, .ref ab, .ref rb, .ref ob, .ref tb, .int fd])), (hr, .inr (7, [.int (nI n), .int (nI k), .int (nI al), .int (nI be), .int ea, .int pr, .ref sm, .int (nI se), .ref ca])), (ca, .inl (cs 0, 8, .inl cf))] := hD
            refine lv_if_ne (tgt := 43) hx hb dX1_staysAbove_36 (by decide) (fun c_9 => ?_) (fun c_9 => ?_)
            · -- 36 t
              refine lv_iconst (v := nI 0) hx hb dX1_staysAbove_43 (by decide) ?_
              exact xreti C () (by decide) hP hD hS (Nat.le_of_ble_eq_true rfl) (Nat.le_of_ble_eq_true rfl) (by decide) dX1_staysAbove_44
            · -- 36 f
              refine lv_iconst (v := nI 1) hx hb dX1_staysAbove_39 (by decide) ?_
              refine lv_goto (tgt := 44) hx hb dX1_staysAbove_40 (by decide) ?_
              exact xreti C () (by decide) hP hD hS (Nat.le_of_ble_eq_true rfl) (Nat.le_of_ble_eq_true rfl) (by decide) dX1_staysAbove_44
  exact loop_1 _ j (by omega) hj (Nat.lt_succ_self _) H locs ls hP hD hS (lv_sub hl [0, 1, 2] rfl)

set_option maxHeartbeats 4000000 in
set_option maxRecDepth 100000 in
theorem c_X1_staysBelow (l : Launch) (D : va_G) (cs : Nat → ClassId) (hc ab rb ob tb : Nat) (fd : Int32) (hr sm ca n k al be se : Nat) (ea pr : Int32) (cf : Nat → Int32) (j : Nat) (hn : n ≤ 8) (hj : j ≤ n) : xMet l D cs yX1_staysBelow cX1_staysBelow 3 (some .boolean) ({ frames := 2, cells := 0, slots := 0, locals := 42 } : Room) [.ref hc, .int (nI j)] [(hc, .inr (1, [.ref hr, .ref ab, .ref rb, .ref ob, .ref tb, .int fd])), (hr, .inr (7, [.int (nI n), .int (nI k), .int (nI al), .int (nI be), .int ea, .int pr, .ref sm, .int (nI se), .ref ca])), (ca, .inl (cs 0, 8, .inl cf))] (xQi D (fun (r : Int32) (_u : Unit) => (r = nI 0 ∨ r = nI 1)) (fun (_u : Unit) => [(hc, .inr (1, [.ref hr, .ref ab, .ref rb, .ref ob, .ref tb, .int fd])), (hr, .inr (7, [.int (nI n), .int (nI k), .int (nI al), .int (nI be), .int ea, .int pr, .ref sm, .int (nI se), .ref ca])), (ca, .inl (cs 0, 8, .inl cf))])) := by
  refine xMet.intro (by decide) (Nat.le_of_ble_eq_true rfl) ?_
  intro p e s m args below meth c A ls C hP hD hS hl
  have hx := C.1
  have hb := C.2.1
  have hz := C.2.2.2.2.1
  have hown := C.2.2.2.1
  have hA := C.2.2.2.2.2.2.2.2.2
  have hAO := C.2.2.2.2.2.2.2.2.1.2.2
  replace hl : lv_has ls 3 [(0, .ref hc), (1, .int (nI j))] := hl
  obtain ⟨H, hH⟩ : ∃ H, H = s.heap := ⟨_, rfl⟩
  replace hP : va_P D vwCl [(hc, .inr (1, [.ref hr, .ref ab, .ref rb, .ref ob, .ref tb, .int fd])), (hr, .inr (7, [.int (nI n), .int (nI k), .int (nI al), .int (nI be), .int ea, .int pr, .ref sm, .int (nI se), .ref ca])), (ca, .inl (cs 0, 8, .inl cf))] H := by rw [hH]; exact hP
  replace hS : va_S A s.heap H [] := by rw [hH]; exact hS
  obtain ⟨locs, hlocs⟩ : ∃ z : List Loc, z = [] := ⟨_, rfl⟩
  rw [← hlocs] at hS
  suffices hW : W p l e ({ frames := 2, cells := 0, slots := 0, locals := 42 } : Room) s m args below meth c H locs 0 0 (MQ below ((xQi D (fun (r : Int32) (_u : Unit) => (r = nI 0 ∨ r = nI 1)) (fun (_u : Unit) => [(hc, .inr (1, [.ref hr, .ref ab, .ref rb, .ref ob, .ref tb, .int fd])), (hr, .inr (7, [.int (nI n), .int (nI k), .int (nI al), .int (nI be), .int ea, .int pr, .ref sm, .int (nI se), .ref ca])), (ca, .inl (cs 0, 8, .inl cf))])) A) args s 0 0 A) (F0 m 0 ls []) by rw [hlocs, hH] at hW; exact hW
  clear hH hlocs
  refine lv_iload_n hx hb dX1_staysBelow_0 rfl (lv_at hl 1 rfl) ?_
  refine lv_istore_n (lv' := [(2, .int (nI j)), (0, .ref hc), (1, .int (nI j))]) hx hb dX1_staysBelow_1 rfl hl (by decide) rfl ?_
  clear hl
  try clear ls
  intro ls hl
  have loop_1 : ∀ (n_loop_1 : Nat) (i : Nat), (i ≤ 100) → (i ≤ n) → i < n_loop_1 → ∀ (H : Heap) (locs : List Loc) (ls : Array Slot), va_P D vwCl [(hc, .inr (1, [.ref hr, .ref ab, .ref rb, .ref ob, .ref tb, .int fd])), (hr, .inr (7, [.int (nI n), .int (nI k), .int (nI al), .int (nI be), .int ea, .int pr, .ref sm, .int (nI se), .ref ca])), (ca, .inl (cs 0, 8, .inl cf))] H → va_D A [(hc, .inr (1, [.ref hr, .ref ab, .ref rb, .ref ob, .ref tb, .int fd])), (hr, .inr (7, [.int (nI n), .int (nI k), .int (nI al), .int (nI be), .int ea, .int pr, .ref sm, .int (nI se), .ref ca])), (ca, .inl (cs 0, 8, .inl cf))] → va_S A s.heap H locs → lv_has ls 3 [(2, .int (nI i)), (0, .ref hc), (1, .int (nI j))] → W p l e ({ frames := 2, cells := 0, slots := 0, locals := 42 } : Room) s m args below meth c H locs 0 0 (MQ below ((xQi D (fun (r : Int32) (_u : Unit) => (r = nI 0 ∨ r = nI 1)) (fun (_u : Unit) => [(hc, .inr (1, [.ref hr, .ref ab, .ref rb, .ref ob, .ref tb, .int fd])), (hr, .inr (7, [.int (nI n), .int (nI k), .int (nI al), .int (nI be), .int ea, .int pr, .ref sm, .int (nI se), .ref ca])), (ca, .inl (cs 0, 8, .inl cf))])) A) args s 0 0 A) (F0 m 2 ls []) := by
    intro n_loop_1
    induction n_loop_1 with
    | zero => intro i h_i hin hlt H locs ls hP hD hS hl; exact absurd hlt (Nat.not_lt_zero _)
    | succ n_loop_1 ih_loop_1 =>
      intro i h_i hin hlt_loop_1 H locs ls hP hD hS hl
      refine lv_iload_n hx hb dX1_staysBelow_2 rfl (lv_at hl 0 rfl) ?_
      refine lv_if_le (tgt := 51) hx hb dX1_staysBelow_3 (by decide) (fun c_2 => ?_) (fun c_2 => ?_)
      · -- 3 t
        have fc_2 : i ≤ 0 := nf_le (by omega) (by omega) c_2
        refine lv_iconst (v := nI 0) hx hb dX1_staysBelow_51 (by decide) ?_
        exact xreti C () (by decide) hP hD hS (Nat.le_of_ble_eq_true rfl) (Nat.le_of_ble_eq_true rfl) (by decide) dX1_staysBelow_52
      · -- 3 f
        have fc_2 : 0 < i := nf_nle (by omega) (by omega) c_2
        refine lv_iload_n hx hb dX1_staysBelow_6 rfl (lv_at hl 0 rfl) ?_
        refine lv_aload_n hx hb dX1_staysBelow_7 rfl (lv_at hl 1 rfl) ?_
        refine xget C hP 0 rfl rfl zuX1 0 (by decide) zw2_133 rfl dX1_staysBelow_8 ?_
        refine xget C hP 1 rfl rfl zuX7 0 (by decide) zw1_79 rfl dX1_staysBelow_11 ?_
        refine lv_icmp_ge (tgt := 51) hx hb dX1_staysBelow_14 (by decide) (fun c_3 => ?_) (fun c_3 => ?_)
        · -- 14 t
          have fc_3 : n ≤ i := nf_le (by omega) (by omega) c_3
          refine lv_iconst (v := nI 0) hx hb dX1_staysBelow_51 (by decide) ?_
          exact xreti C () (by decide) hP hD hS (Nat.le_of_ble_eq_true rfl) (Nat.le_of_ble_eq_true rfl) (by decide) dX1_staysBelow_52
        · -- 14 f
          have fc_3 : i < n := nf_nle (by omega) (by omega) c_3
          refine lv_aload_n hx hb dX1_staysBelow_17 rfl (lv_at hl 1 rfl) ?_
          refine xget C hP 0 rfl rfl zuX1 0 (by decide) zw2_133 rfl dX1_staysBelow_18 ?_
          refine lv_iload_n hx hb dX1_staysBelow_21 rfl (lv_at hl 0 rfl) ?_
          refine xi (wr := [(hc, .inr (1, [.ref hr, .ref ab, .ref rb, .ref ob, .ref tb, .int fd]))]) (xV (As := [.int (nI i)]) (rest := []) C (c_X7_down l D cs hr sm ca n k al be ea pr (nI se) cf i hn (by omega) (by omega)) kX1_51 hP hD [1, 2] rfl (by decide) 0 rfl rfl rfl ⟨Nat.le_of_ble_eq_true rfl, Nat.le_of_ble_eq_true rfl⟩ rfl hl.1 rfl (Nat.le_of_ble_eq_true rfl) dX1_staysBelow_22 ⟨Nat.le_of_ble_eq_true rfl, Nat.le_of_ble_eq_true rfl⟩) hP hD hS hA [1, 2] [0] rfl rfl (by decide) (by decide) ?_
          clear hP hD hS
          try clear locs
          try clear H
          intro r_4 u_5 H locs hw_r_4 hP hD hS
          have hw_r_4 : r_4 = nI i * cf (n - i) := hw_r_4
          refine W.widen (k := 0) (n := 0) (Nat.le_of_ble_eq_true rfl) (Nat.le_of_ble_eq_true rfl) ?_
          replace hP : va_P D vwCl [(hc, .inr (1, [.ref hr, .ref ab, .ref rb, .ref ob, .ref tb, .int fd])), (hr, .inr (7, [.int (nI n), .int (nI k), .int (nI al), .int (nI be), .int ea, .int pr, .ref sm, .int (nI se), .ref ca])), (ca, .inl (cs 0, 8, .inl cf))] H := hP
          replace hD : va_D A [(hc, .inr (1, [.ref hr, .ref ab, .ref rb, .ref ob, .ref tb, .int fd])), (hr, .inr (7, [.int (nI n), .int (nI k), .int (nI al), .int (nI be), .int ea, .int pr, .ref sm, .int (nI se), .ref ca])), (ca, .inl (cs 0, 8, .inl cf))] := hD
          refine lv_if_ne (tgt := 45) hx hb dX1_staysBelow_25 (by decide) (fun c_6 => ?_) (fun c_6 => ?_)
          · -- 25 t
            refine lv_iinc (v := nI (i - 1)) (lv' := [(2, .int (nI (i - 1))), (0, .ref hc), (1, .int (nI j))]) hx hb dX1_staysBelow_45 hl (k := 0) rfl (nI_dec (by omega)) (by decide) rfl ?_
            clear hl
            try clear ls
            intro ls hl
            refine lv_goto (tgt := 2) hx hb dX1_staysBelow_48 (by decide) ?_
            exact ih_loop_1 (i - 1) (by omega) (by omega) (by omega) H locs ls hP hD hS (lv_sub hl [0, 1, 2] rfl)
          · -- 25 f
            refine lv_aload_n hx hb dX1_staysBelow_28 rfl (lv_at hl 1 rfl) ?_
            refine xget C hP 0 rfl rfl zuX1 0 (by decide) zw2_133 rfl dX1_staysBelow_29 ?_
            refine lv_iload_n hx hb dX1_staysBelow_32 rfl (lv_at hl 0 rfl) ?_
            refine xi (wr := [(hc, .inr (1, [.ref hr, .ref ab, .ref rb, .ref ob, .ref tb, .int fd]))]) (xV (As := [.int (nI i)]) (rest := []) C (c_X7_up l D cs hr sm ca n k al be ea pr (nI se) cf i hn (by omega)) kX1_47 hP hD [1, 2] rfl (by decide) 0 rfl rfl rfl ⟨Nat.le_of_ble_eq_true rfl, Nat.le_of_ble_eq_true rfl⟩ rfl hl.1 rfl (Nat.le_of_ble_eq_true rfl) dX1_staysBelow_33 ⟨Nat.le_of_ble_eq_true rfl, Nat.le_of_ble_eq_true rfl⟩) hP hD hS hA [1, 2] [0] rfl rfl (by decide) (by decide) ?_
            clear hP hD hS
            try clear locs
            try clear H
            intro r_7 u_8 H locs hw_r_7 hP hD hS
            have hw_r_7 : r_7 = nI (n - i) * cf i := hw_r_7
            refine W.widen (k := 0) (n := 0) (Nat.le_of_ble_eq_true rfl) (Nat.le_of_ble_eq_true rfl) ?_
            replace hP : va_P D vwCl [(hc, .inr (1, [.ref hr, .ref ab, .ref rb, .ref ob, .ref tb, .int fd])), (hr, .inr (7, [.int (nI n), .int (nI k), .int (nI al), .int (nI be), .int ea, .int pr, .ref sm, .int (nI se), .ref ca])), (ca, .inl (cs 0, 8, .inl cf))] H := hP
            replace hD : va_D A [(hc, .inr (1, [.ref hr, .ref ab, .ref rb, .ref ob, .ref tb, .int fd])), (hr, .inr (7, [.int (nI n), .int (nI k), .int (nI al), .int (nI be), .int ea, .int pr, .ref sm, .int (nI se), .ref ca])), (ca, .inl (cs 0, 8, .inl cf))] := hD
            refine lv_if_ne (tgt := 43) hx hb dX1_staysBelow_36 (by decide) (fun c_9 => ?_) (fun c_9 => ?_)
            · -- 36 t
              refine lv_iconst (v := nI 0) hx hb dX1_staysBelow_43 (by decide) ?_
              exact xreti C () (by decide) hP hD hS (Nat.le_of_ble_eq_true rfl) (Nat.le_of_ble_eq_true rfl) (by decide) dX1_staysBelow_44
            · -- 36 f
              refine lv_iconst (v := nI 1) hx hb dX1_staysBelow_39 (by decide) ?_
              refine lv_goto (tgt := 44) hx hb dX1_staysBelow_40 (by decide) ?_
              exact xreti C () (by decide) hP hD hS (Nat.le_of_ble_eq_true rfl) (Nat.le_of_ble_eq_true rfl) (by decide) dX1_staysBelow_44
  exact loop_1 _ j (by omega) hj (Nat.lt_succ_self _) H locs ls hP hD hS (lv_sub hl [0, 1, 2] rfl)

set_option maxHeartbeats 4000000 in
set_option maxRecDepth 100000 in
theorem c_X1_mayStay (l : Launch) (D : va_G) (cs : Nat → ClassId) (hc ab rb ob tb : Nat) (fd : Int32) (hr sm ca n k al be se : Nat) (ea pr : Int32) (cf : Nat → Int32) (j : Nat) (hn : n ≤ 8) (hj : j ≤ n) : xMet l D cs yX1_mayStay cX1_mayStay 2 (some .boolean) ({ frames := 3, cells := 0, slots := 0, locals := 64 } : Room) [.ref hc, .int (nI j)] [(hc, .inr (1, [.ref hr, .ref ab, .ref rb, .ref ob, .ref tb, .int fd])), (hr, .inr (7, [.int (nI n), .int (nI k), .int (nI al), .int (nI be), .int ea, .int pr, .ref sm, .int (nI se), .ref ca])), (ca, .inl (cs 0, 8, .inl cf))] (xQi D (fun (r : Int32) (_u : Unit) => (r = nI 0 ∨ r = nI 1)) (fun (_u : Unit) => [(hc, .inr (1, [.ref hr, .ref ab, .ref rb, .ref ob, .ref tb, .int fd])), (hr, .inr (7, [.int (nI n), .int (nI k), .int (nI al), .int (nI be), .int ea, .int pr, .ref sm, .int (nI se), .ref ca])), (ca, .inl (cs 0, 8, .inl cf))])) := by
  refine xMet.intro (by decide) (Nat.le_of_ble_eq_true rfl) ?_
  intro p e s m args below meth c A ls C hP hD hS hl
  have hx := C.1
  have hb := C.2.1
  have hz := C.2.2.2.2.1
  have hown := C.2.2.2.1
  have hA := C.2.2.2.2.2.2.2.2.2
  have hAO := C.2.2.2.2.2.2.2.2.1.2.2
  replace hl : lv_has ls 2 [(0, .ref hc), (1, .int (nI j))] := hl
  obtain ⟨H, hH⟩ : ∃ H, H = s.heap := ⟨_, rfl⟩
  replace hP : va_P D vwCl [(hc, .inr (1, [.ref hr, .ref ab, .ref rb, .ref ob, .ref tb, .int fd])), (hr, .inr (7, [.int (nI n), .int (nI k), .int (nI al), .int (nI be), .int ea, .int pr, .ref sm, .int (nI se), .ref ca])), (ca, .inl (cs 0, 8, .inl cf))] H := by rw [hH]; exact hP
  replace hS : va_S A s.heap H [] := by rw [hH]; exact hS
  obtain ⟨locs, hlocs⟩ : ∃ z : List Loc, z = [] := ⟨_, rfl⟩
  rw [← hlocs] at hS
  suffices hW : W p l e ({ frames := 3, cells := 0, slots := 0, locals := 64 } : Room) s m args below meth c H locs 0 0 (MQ below ((xQi D (fun (r : Int32) (_u : Unit) => (r = nI 0 ∨ r = nI 1)) (fun (_u : Unit) => [(hc, .inr (1, [.ref hr, .ref ab, .ref rb, .ref ob, .ref tb, .int fd])), (hr, .inr (7, [.int (nI n), .int (nI k), .int (nI al), .int (nI be), .int ea, .int pr, .ref sm, .int (nI se), .ref ca])), (ca, .inl (cs 0, 8, .inl cf))])) A) args s 0 0 A) (F0 m 0 ls []) by rw [hlocs, hH] at hW; exact hW
  clear hH hlocs
  refine lv_aload_n hx hb dX1_mayStay_0 rfl (lv_at hl 0 rfl) ?_
  refine lv_iload_n hx hb dX1_mayStay_1 rfl (lv_at hl 1 rfl) ?_
  refine xi (wr := []) (xV (As := [.int (nI j)]) (rest := []) C (c_X1_staysAbove l D cs hc ab rb ob tb fd hr sm ca n k al be se ea pr cf j hn hj) kX1_34 hP hD [0, 1, 2] rfl (by decide) 0 rfl rfl rfl ⟨Nat.le_of_ble_eq_true rfl, Nat.le_of_ble_eq_true rfl⟩ rfl hl.1 rfl (Nat.le_of_ble_eq_true rfl) dX1_mayStay_2 ⟨Nat.le_of_ble_eq_true rfl, Nat.le_of_ble_eq_true rfl⟩) hP hD hS hA [0, 1, 2] [] rfl rfl (by decide) (by decide) ?_
  clear hP hD hS
  try clear locs
  try clear H
  intro r_1 u_2 H locs hw_r_1 hP hD hS
  have hw_r_1 : (r_1 = nI 0 ∨ r_1 = nI 1) := hw_r_1
  refine W.widen (k := 0) (n := 0) (Nat.le_of_ble_eq_true rfl) (Nat.le_of_ble_eq_true rfl) ?_
  replace hP : va_P D vwCl [(hc, .inr (1, [.ref hr, .ref ab, .ref rb, .ref ob, .ref tb, .int fd])), (hr, .inr (7, [.int (nI n), .int (nI k), .int (nI al), .int (nI be), .int ea, .int pr, .ref sm, .int (nI se), .ref ca])), (ca, .inl (cs 0, 8, .inl cf))] H := hP
  replace hD : va_D A [(hc, .inr (1, [.ref hr, .ref ab, .ref rb, .ref ob, .ref tb, .int fd])), (hr, .inr (7, [.int (nI n), .int (nI k), .int (nI al), .int (nI be), .int ea, .int pr, .ref sm, .int (nI se), .ref ca])), (ca, .inl (cs 0, 8, .inl cf))] := hD
  refine lv_if_ne (tgt := 16) hx hb dX1_mayStay_5 (by decide) (fun c_3 => ?_) (fun c_3 => ?_)
  · -- 5 t
    refine lv_iconst (v := nI 1) hx hb dX1_mayStay_16 (by decide) ?_
    refine lv_goto (tgt := 21) hx hb dX1_mayStay_17 (by decide) ?_
    exact xreti C () (by decide) hP hD hS (Nat.le_of_ble_eq_true rfl) (Nat.le_of_ble_eq_true rfl) (by decide) dX1_mayStay_21
  · -- 5 f
    refine lv_aload_n hx hb dX1_mayStay_8 rfl (lv_at hl 0 rfl) ?_
    refine lv_iload_n hx hb dX1_mayStay_9 rfl (lv_at hl 1 rfl) ?_
    refine xi (wr := []) (xV (As := [.int (nI j)]) (rest := []) C (c_X1_staysBelow l D cs hc ab rb ob tb fd hr sm ca n k al be se ea pr cf j hn hj) kX1_38 hP hD [0, 1, 2] rfl (by decide) 0 rfl rfl rfl ⟨Nat.le_of_ble_eq_true rfl, Nat.le_of_ble_eq_true rfl⟩ rfl hl.1 rfl (Nat.le_of_ble_eq_true rfl) dX1_mayStay_10 ⟨Nat.le_of_ble_eq_true rfl, Nat.le_of_ble_eq_true rfl⟩) hP hD hS hA [0, 1, 2] [] rfl rfl (by decide) (by decide) ?_
    clear hP hD hS
    try clear locs
    try clear H
    intro r_4 u_5 H locs hw_r_4 hP hD hS
    have hw_r_4 : (r_4 = nI 0 ∨ r_4 = nI 1) := hw_r_4
    refine W.widen (k := 0) (n := 0) (Nat.le_of_ble_eq_true rfl) (Nat.le_of_ble_eq_true rfl) ?_
    replace hP : va_P D vwCl [(hc, .inr (1, [.ref hr, .ref ab, .ref rb, .ref ob, .ref tb, .int fd])), (hr, .inr (7, [.int (nI n), .int (nI k), .int (nI al), .int (nI be), .int ea, .int pr, .ref sm, .int (nI se), .ref ca])), (ca, .inl (cs 0, 8, .inl cf))] H := hP
    replace hD : va_D A [(hc, .inr (1, [.ref hr, .ref ab, .ref rb, .ref ob, .ref tb, .int fd])), (hr, .inr (7, [.int (nI n), .int (nI k), .int (nI al), .int (nI be), .int ea, .int pr, .ref sm, .int (nI se), .ref ca])), (ca, .inl (cs 0, 8, .inl cf))] := hD
    refine lv_if_eq (tgt := 20) hx hb dX1_mayStay_13 (by decide) (fun c_6 => ?_) (fun c_6 => ?_)
    · -- 13 t
      refine lv_iconst (v := nI 0) hx hb dX1_mayStay_20 (by decide) ?_
      exact xreti C () (by decide) hP hD hS (Nat.le_of_ble_eq_true rfl) (Nat.le_of_ble_eq_true rfl) (by decide) dX1_mayStay_21
    · -- 13 f
      refine lv_iconst (v := nI 1) hx hb dX1_mayStay_16 (by decide) ?_
      refine lv_goto (tgt := 21) hx hb dX1_mayStay_17 (by decide) ?_
      exact xreti C () (by decide) hP hD hS (Nat.le_of_ble_eq_true rfl) (Nat.le_of_ble_eq_true rfl) (by decide) dX1_mayStay_21

set_option maxHeartbeats 4000000 in
set_option maxRecDepth 100000 in
theorem c_X1_eliminate (l : Launch) (D : va_G) (cs : Nat → ClassId) (hc ab rb ob tb : Nat) (fd : Int32) (hr sm ca n k al be se : Nat) (ea pr : Int32) (cf : Nat → Int32) (i i0 qx qy qk : Nat) (f g : Nat → Option Nat) (x1 x2 y1 y2 k1 k2 : Int64) (hn : n ≤ 8) (hi : 1 ≤ i ∧ i < n) (hi0 : i0 = i - 1) (hf : f i0 = some qx) (hg : g i0 = some qy) : xMet l D cs yX1_eliminate cX1_eliminate 6 none ({ frames := 4, cells := 9, slots := 18, locals := 90 } : Room) [.ref hc, .int (nI i), .ref qk] [(hc, .inr (1, [.ref hr, .ref ab, .ref rb, .ref ob, .ref tb, .int fd])), (hr, .inr (7, [.int (nI n), .int (nI k), .int (nI al), .int (nI be), .int ea, .int pr, .ref sm, .int (nI se), .ref ca])), (ca, .inl (cs 0, 8, .inl cf)), (ab, .inl (cs 4, 9, .inr (.inr (.inr (.inr f))))), (rb, .inl (cs 4, 9, .inr (.inr (.inr (.inr g))))), (qx, .inr (2, [.long x1, .long x2])), (qy, .inr (2, [.long y1, .long y2])), (qk, .inr (2, [.long k1, .long k2]))] (xQv D (fun (u : Nat × Nat × Int64 × Int64 × Int64 × Int64) => match u with | (q1, q2, a1, a2, b1, b2) => True) (fun (u : Nat × Nat × Int64 × Int64 × Int64 × Int64) => match u with | (q1, q2, a1, a2, b1, b2) => [(hc, .inr (1, [.ref hr, .ref ab, .ref rb, .ref ob, .ref tb, .int fd])), (hr, .inr (7, [.int (nI n), .int (nI k), .int (nI al), .int (nI be), .int ea, .int pr, .ref sm, .int (nI se), .ref ca])), (ca, .inl (cs 0, 8, .inl cf)), (ab, .inl (cs 4, 9, .inr (.inr (.inr (.inr (va_up f i (some q1))))))), (rb, .inl (cs 4, 9, .inr (.inr (.inr (.inr (va_up g i (some q2))))))), (qx, .inr (2, [.long x1, .long x2])), (qy, .inr (2, [.long y1, .long y2])), (qk, .inr (2, [.long k1, .long k2])), (q1, .inr (2, [.long a1, .long a2])), (q2, .inr (2, [.long b1, .long b2]))])) := by
  refine xMet.intro (by decide) (Nat.le_of_ble_eq_true rfl) ?_
  intro p e s m args below meth c A ls C hP hD hS hl
  have hx := C.1
  have hb := C.2.1
  have hz := C.2.2.2.2.1
  have hown := C.2.2.2.1
  have hA := C.2.2.2.2.2.2.2.2.2
  have hAO := C.2.2.2.2.2.2.2.2.1.2.2
  replace hl : lv_has ls 6 [(0, .ref hc), (1, .int (nI i)), (2, .ref qk)] := hl
  obtain ⟨H, hH⟩ : ∃ H, H = s.heap := ⟨_, rfl⟩
  replace hP : va_P D vwCl [(hc, .inr (1, [.ref hr, .ref ab, .ref rb, .ref ob, .ref tb, .int fd])), (hr, .inr (7, [.int (nI n), .int (nI k), .int (nI al), .int (nI be), .int ea, .int pr, .ref sm, .int (nI se), .ref ca])), (ca, .inl (cs 0, 8, .inl cf)), (ab, .inl (cs 4, 9, .inr (.inr (.inr (.inr f))))), (rb, .inl (cs 4, 9, .inr (.inr (.inr (.inr g))))), (qx, .inr (2, [.long x1, .long x2])), (qy, .inr (2, [.long y1, .long y2])), (qk, .inr (2, [.long k1, .long k2]))] H := by rw [hH]; exact hP
  replace hS : va_S A s.heap H [] := by rw [hH]; exact hS
  obtain ⟨locs, hlocs⟩ : ∃ z : List Loc, z = [] := ⟨_, rfl⟩
  rw [← hlocs] at hS
  suffices hW : W p l e ({ frames := 4, cells := 9, slots := 18, locals := 90 } : Room) s m args below meth c H locs 0 0 (MQ below ((xQv D (fun (u : Nat × Nat × Int64 × Int64 × Int64 × Int64) => match u with | (q1, q2, a1, a2, b1, b2) => True) (fun (u : Nat × Nat × Int64 × Int64 × Int64 × Int64) => match u with | (q1, q2, a1, a2, b1, b2) => [(hc, .inr (1, [.ref hr, .ref ab, .ref rb, .ref ob, .ref tb, .int fd])), (hr, .inr (7, [.int (nI n), .int (nI k), .int (nI al), .int (nI be), .int ea, .int pr, .ref sm, .int (nI se), .ref ca])), (ca, .inl (cs 0, 8, .inl cf)), (ab, .inl (cs 4, 9, .inr (.inr (.inr (.inr (va_up f i (some q1))))))), (rb, .inl (cs 4, 9, .inr (.inr (.inr (.inr (va_up g i (some q2))))))), (qx, .inr (2, [.long x1, .long x2])), (qy, .inr (2, [.long y1, .long y2])), (qk, .inr (2, [.long k1, .long k2])), (q1, .inr (2, [.long a1, .long a2])), (q2, .inr (2, [.long b1, .long b2]))])) A) args s 9 18 A) (F0 m 0 ls []) by rw [hlocs, hH] at hW; exact hW
  clear hH hlocs
  refine lv_aload_n hx hb dX1_eliminate_0 rfl (lv_at hl 0 rfl) ?_
  refine xget C hP 0 rfl rfl zuX1 0 (by decide) zw2_133 rfl dX1_eliminate_1 ?_
  refine lv_iload_n hx hb dX1_eliminate_4 rfl (lv_at hl 1 rfl) ?_
  refine xi (wr := [(hc, .inr (1, [.ref hr, .ref ab, .ref rb, .ref ob, .ref tb, .int fd])), (ab, .inl (cs 4, 9, .inr (.inr (.inr (.inr f))))), (rb, .inl (cs 4, 9, .inr (.inr (.inr (.inr g))))), (qx, .inr (2, [.long x1, .long x2])), (qy, .inr (2, [.long y1, .long y2])), (qk, .inr (2, [.long k1, .long k2]))]) (xV (As := [.int (nI i)]) (rest := []) C (c_X7_up l D cs hr sm ca n k al be ea pr (nI se) cf i hn hi.2) kX1_47 hP hD [1, 2] rfl (by decide) 0 rfl rfl rfl ⟨Nat.le_of_ble_eq_true rfl, Nat.le_of_ble_eq_true rfl⟩ rfl hl.1 rfl (Nat.le_of_ble_eq_true rfl) dX1_eliminate_5 ⟨Nat.le_of_ble_eq_true rfl, Nat.le_of_ble_eq_true rfl⟩) hP hD hS hA [1, 2] [0, 3, 4, 5, 6, 7] rfl rfl (by decide) (by decide) ?_
  clear hP hD hS
  try clear locs
  try clear H
  intro r_1 u_2 H locs hw_r_1 hP hD hS
  have hw_r_1 : r_1 = nI (n - i) * cf i := hw_r_1
  refine W.widen (k := 0) (n := 0) (Nat.le_of_ble_eq_true rfl) (Nat.le_of_ble_eq_true rfl) ?_
  replace hP : va_P D vwCl [(hc, .inr (1, [.ref hr, .ref ab, .ref rb, .ref ob, .ref tb, .int fd])), (ab, .inl (cs 4, 9, .inr (.inr (.inr (.inr f))))), (rb, .inl (cs 4, 9, .inr (.inr (.inr (.inr g))))), (qx, .inr (2, [.long x1, .long x2])), (qy, .inr (2, [.long y1, .long y2])), (qk, .inr (2, [.long k1, .long k2])), (hr, .inr (7, [.int (nI n), .int (nI k), .int (nI al), .int (nI be), .int ea, .int pr, .ref sm, .int (nI se), .ref ca])), (ca, .inl (cs 0, 8, .inl cf))] H := hP
  replace hD : va_D A [(hc, .inr (1, [.ref hr, .ref ab, .ref rb, .ref ob, .ref tb, .int fd])), (ab, .inl (cs 4, 9, .inr (.inr (.inr (.inr f))))), (rb, .inl (cs 4, 9, .inr (.inr (.inr (.inr g))))), (qx, .inr (2, [.long x1, .long x2])), (qy, .inr (2, [.long y1, .long y2])), (qk, .inr (2, [.long k1, .long k2])), (hr, .inr (7, [.int (nI n), .int (nI k), .int (nI al), .int (nI be), .int ea, .int pr, .ref sm, .int (nI se), .ref ca])), (ca, .inl (cs 0, 8, .inl cf))] := hD
  refine lv_i2l hx hb dX1_eliminate_8 rfl ?_
  refine xr (wr := [(hc, .inr (1, [.ref hr, .ref ab, .ref rb, .ref ob, .ref tb, .int fd])), (ab, .inl (cs 4, 9, .inr (.inr (.inr (.inr f))))), (rb, .inl (cs 4, 9, .inr (.inr (.inr (.inr g))))), (qx, .inr (2, [.long x1, .long x2])), (qy, .inr (2, [.long y1, .long y2])), (qk, .inr (2, [.long k1, .long k2])), (hr, .inr (7, [.int (nI n), .int (nI k), .int (nI al), .int (nI be), .int ea, .int pr, .ref sm, .int (nI se), .ref ca])), (ca, .inl (cs 0, 8, .inl cf))]) (xS (As := [.long r_1.toInt64]) (rest := []) C (c_X2_whole l D cs r_1.toInt64) kX1_54 hP hD [] rfl (by decide) ⟨Nat.le_of_ble_eq_true rfl, Nat.le_of_ble_eq_true rfl⟩ rfl hl.1 rfl (Nat.le_of_ble_eq_true rfl) dX1_eliminate_9 ⟨Nat.le_of_ble_eq_true rfl, Nat.le_of_ble_eq_true rfl⟩) hP hD hS hA [] [0, 1, 2, 3, 4, 5, 6, 7] rfl rfl (by decide) (by decide) ?_
  clear hP hD hS
  try clear locs
  try clear H
  intro u_4 r_3 H locs hw_r_3 hP hD hS
  refine W.widen (k := 1) (n := 2) (Nat.le_of_ble_eq_true rfl) (Nat.le_of_ble_eq_true rfl) ?_
  replace hP : va_P D vwCl [(hc, .inr (1, [.ref hr, .ref ab, .ref rb, .ref ob, .ref tb, .int fd])), (ab, .inl (cs 4, 9, .inr (.inr (.inr (.inr f))))), (rb, .inl (cs 4, 9, .inr (.inr (.inr (.inr g))))), (qx, .inr (2, [.long x1, .long x2])), (qy, .inr (2, [.long y1, .long y2])), (qk, .inr (2, [.long k1, .long k2])), (hr, .inr (7, [.int (nI n), .int (nI k), .int (nI al), .int (nI be), .int ea, .int pr, .ref sm, .int (nI se), .ref ca])), (ca, .inl (cs 0, 8, .inl cf)), (r_3, .inr (2, [.long r_1.toInt64, .long 1]))] H := hP
  replace hD : va_D A [(hc, .inr (1, [.ref hr, .ref ab, .ref rb, .ref ob, .ref tb, .int fd])), (ab, .inl (cs 4, 9, .inr (.inr (.inr (.inr f))))), (rb, .inl (cs 4, 9, .inr (.inr (.inr (.inr g))))), (qx, .inr (2, [.long x1, .long x2])), (qy, .inr (2, [.long y1, .long y2])), (qk, .inr (2, [.long k1, .long k2])), (hr, .inr (7, [.int (nI n), .int (nI k), .int (nI al), .int (nI be), .int ea, .int pr, .ref sm, .int (nI se), .ref ca])), (ca, .inl (cs 0, 8, .inl cf)), (r_3, .inr (2, [.long r_1.toInt64, .long 1]))] := hD
  refine lv_astore_n (lv' := [(3, .ref r_3), (0, .ref hc), (1, .int (nI i)), (2, .ref qk)]) hx hb dX1_eliminate_12 rfl hl (by decide) rfl ?_
  clear hl
  try clear ls
  intro ls hl
  refine lv_aload_n hx hb dX1_eliminate_13 rfl (lv_at hl 1 rfl) ?_
  refine xget C hP 0 rfl rfl zuX1 0 (by decide) zw2_133 rfl dX1_eliminate_14 ?_
  refine lv_iload_n hx hb dX1_eliminate_17 rfl (lv_at hl 2 rfl) ?_
  refine xi (wr := [(hc, .inr (1, [.ref hr, .ref ab, .ref rb, .ref ob, .ref tb, .int fd])), (ab, .inl (cs 4, 9, .inr (.inr (.inr (.inr f))))), (rb, .inl (cs 4, 9, .inr (.inr (.inr (.inr g))))), (qx, .inr (2, [.long x1, .long x2])), (qy, .inr (2, [.long y1, .long y2])), (qk, .inr (2, [.long k1, .long k2])), (r_3, .inr (2, [.long r_1.toInt64, .long 1]))]) (xV (As := [.int (nI i)]) (rest := []) C (c_X7_down l D cs hr sm ca n k al be ea pr (nI se) cf i hn (by omega) (by omega)) kX1_51 hP hD [6, 7] rfl (by decide) 0 rfl rfl rfl ⟨Nat.le_of_ble_eq_true rfl, Nat.le_of_ble_eq_true rfl⟩ rfl hl.1 rfl (Nat.le_of_ble_eq_true rfl) dX1_eliminate_18 ⟨Nat.le_of_ble_eq_true rfl, Nat.le_of_ble_eq_true rfl⟩) hP hD hS hA [6, 7] [0, 1, 2, 3, 4, 5, 8] rfl rfl (by decide) (by decide) ?_
  clear hP hD hS
  try clear locs
  try clear H
  intro r_5 u_6 H locs hw_r_5 hP hD hS
  have hw_r_5 : r_5 = nI i * cf (n - i) := hw_r_5
  refine W.widen (k := 1) (n := 2) (Nat.le_of_ble_eq_true rfl) (Nat.le_of_ble_eq_true rfl) ?_
  replace hP : va_P D vwCl [(hc, .inr (1, [.ref hr, .ref ab, .ref rb, .ref ob, .ref tb, .int fd])), (ab, .inl (cs 4, 9, .inr (.inr (.inr (.inr f))))), (rb, .inl (cs 4, 9, .inr (.inr (.inr (.inr g))))), (qx, .inr (2, [.long x1, .long x2])), (qy, .inr (2, [.long y1, .long y2])), (qk, .inr (2, [.long k1, .long k2])), (r_3, .inr (2, [.long r_1.toInt64, .long 1])), (hr, .inr (7, [.int (nI n), .int (nI k), .int (nI al), .int (nI be), .int ea, .int pr, .ref sm, .int (nI se), .ref ca])), (ca, .inl (cs 0, 8, .inl cf))] H := hP
  replace hD : va_D A [(hc, .inr (1, [.ref hr, .ref ab, .ref rb, .ref ob, .ref tb, .int fd])), (ab, .inl (cs 4, 9, .inr (.inr (.inr (.inr f))))), (rb, .inl (cs 4, 9, .inr (.inr (.inr (.inr g))))), (qx, .inr (2, [.long x1, .long x2])), (qy, .inr (2, [.long y1, .long y2])), (qk, .inr (2, [.long k1, .long k2])), (r_3, .inr (2, [.long r_1.toInt64, .long 1])), (hr, .inr (7, [.int (nI n), .int (nI k), .int (nI al), .int (nI be), .int ea, .int pr, .ref sm, .int (nI se), .ref ca])), (ca, .inl (cs 0, 8, .inl cf))] := hD
  refine lv_i2l hx hb dX1_eliminate_21 rfl ?_
  refine xr (wr := [(hc, .inr (1, [.ref hr, .ref ab, .ref rb, .ref ob, .ref tb, .int fd])), (ab, .inl (cs 4, 9, .inr (.inr (.inr (.inr f))))), (rb, .inl (cs 4, 9, .inr (.inr (.inr (.inr g))))), (qx, .inr (2, [.long x1, .long x2])), (qy, .inr (2, [.long y1, .long y2])), (qk, .inr (2, [.long k1, .long k2])), (r_3, .inr (2, [.long r_1.toInt64, .long 1])), (hr, .inr (7, [.int (nI n), .int (nI k), .int (nI al), .int (nI be), .int ea, .int pr, .ref sm, .int (nI se), .ref ca])), (ca, .inl (cs 0, 8, .inl cf))]) (xS (As := [.long r_5.toInt64]) (rest := []) C (c_X2_whole l D cs r_5.toInt64) kX1_54 hP hD [] rfl (by decide) ⟨Nat.le_of_ble_eq_true rfl, Nat.le_of_ble_eq_true rfl⟩ rfl hl.1 rfl (Nat.le_of_ble_eq_true rfl) dX1_eliminate_22 ⟨Nat.le_of_ble_eq_true rfl, Nat.le_of_ble_eq_true rfl⟩) hP hD hS hA [] [0, 1, 2, 3, 4, 5, 6, 7, 8] rfl rfl (by decide) (by decide) ?_
  clear hP hD hS
  try clear locs
  try clear H
  intro u_8 r_7 H locs hw_r_7 hP hD hS
  refine W.widen (k := 2) (n := 4) (Nat.le_of_ble_eq_true rfl) (Nat.le_of_ble_eq_true rfl) ?_
  replace hP : va_P D vwCl [(hc, .inr (1, [.ref hr, .ref ab, .ref rb, .ref ob, .ref tb, .int fd])), (ab, .inl (cs 4, 9, .inr (.inr (.inr (.inr f))))), (rb, .inl (cs 4, 9, .inr (.inr (.inr (.inr g))))), (qx, .inr (2, [.long x1, .long x2])), (qy, .inr (2, [.long y1, .long y2])), (qk, .inr (2, [.long k1, .long k2])), (r_3, .inr (2, [.long r_1.toInt64, .long 1])), (hr, .inr (7, [.int (nI n), .int (nI k), .int (nI al), .int (nI be), .int ea, .int pr, .ref sm, .int (nI se), .ref ca])), (ca, .inl (cs 0, 8, .inl cf)), (r_7, .inr (2, [.long r_5.toInt64, .long 1]))] H := hP
  replace hD : va_D A [(hc, .inr (1, [.ref hr, .ref ab, .ref rb, .ref ob, .ref tb, .int fd])), (ab, .inl (cs 4, 9, .inr (.inr (.inr (.inr f))))), (rb, .inl (cs 4, 9, .inr (.inr (.inr (.inr g))))), (qx, .inr (2, [.long x1, .long x2])), (qy, .inr (2, [.long y1, .long y2])), (qk, .inr (2, [.long k1, .long k2])), (r_3, .inr (2, [.long r_1.toInt64, .long 1])), (hr, .inr (7, [.int (nI n), .int (nI k), .int (nI al), .int (nI be), .int ea, .int pr, .ref sm, .int (nI se), .ref ca])), (ca, .inl (cs 0, 8, .inl cf)), (r_7, .inr (2, [.long r_5.toInt64, .long 1]))] := hD
  refine lv_astore (lv' := [(4, .ref r_7), (3, .ref r_3), (0, .ref hc), (1, .int (nI i)), (2, .ref qk)]) hx hb dX1_eliminate_25 hl (by decide) rfl ?_
  clear hl
  try clear ls
  intro ls hl
  refine lv_aload_n hx hb dX1_eliminate_27 rfl (lv_at hl 1 rfl) ?_
  refine lv_aload hx hb dX1_eliminate_28 (lv_at hl 0 rfl) ?_
  refine xr (wr := [(hc, .inr (1, [.ref hr, .ref ab, .ref rb, .ref ob, .ref tb, .int fd])), (ab, .inl (cs 4, 9, .inr (.inr (.inr (.inr f))))), (rb, .inl (cs 4, 9, .inr (.inr (.inr (.inr g))))), (qx, .inr (2, [.long x1, .long x2])), (qy, .inr (2, [.long y1, .long y2])), (qk, .inr (2, [.long k1, .long k2])), (hr, .inr (7, [.int (nI n), .int (nI k), .int (nI al), .int (nI be), .int ea, .int pr, .ref sm, .int (nI se), .ref ca])), (ca, .inl (cs 0, 8, .inl cf))]) (xV (As := [.ref r_7]) (rest := []) C (c_X2_plus_w l D cs r_3 r_7 r_1.toInt64 1 r_5.toInt64 1) kX1_73 hP hD [6, 9] rfl (by decide) 0 rfl rfl rfl ⟨Nat.le_of_ble_eq_true rfl, Nat.le_of_ble_eq_true rfl⟩ rfl hl.1 rfl (Nat.le_of_ble_eq_true rfl) dX1_eliminate_30 ⟨Nat.le_of_ble_eq_true rfl, Nat.le_of_ble_eq_true rfl⟩) hP hD hS hA [6, 9] [0, 1, 2, 3, 4, 5, 7, 8] rfl rfl (by decide) (by decide) ?_
  clear hP hD hS
  try clear locs
  try clear H
  intro u_10 r_9 H locs hw_r_9 hP hD hS
  obtain ⟨va_11, vb_12⟩ := u_10
  refine W.widen (k := 3) (n := 6) (Nat.le_of_ble_eq_true rfl) (Nat.le_of_ble_eq_true rfl) ?_
  replace hP : va_P D vwCl [(hc, .inr (1, [.ref hr, .ref ab, .ref rb, .ref ob, .ref tb, .int fd])), (ab, .inl (cs 4, 9, .inr (.inr (.inr (.inr f))))), (rb, .inl (cs 4, 9, .inr (.inr (.inr (.inr g))))), (qx, .inr (2, [.long x1, .long x2])), (qy, .inr (2, [.long y1, .long y2])), (qk, .inr (2, [.long k1, .long k2])), (hr, .inr (7, [.int (nI n), .int (nI k), .int (nI al), .int (nI be), .int ea, .int pr, .ref sm, .int (nI se), .ref ca])), (ca, .inl (cs 0, 8, .inl cf)), (r_3, .inr (2, [.long r_1.toInt64, .long 1])), (r_7, .inr (2, [.long r_5.toInt64, .long 1])), (r_9, .inr (2, [.long va_11, .long vb_12]))] H := hP
  replace hD : va_D A [(hc, .inr (1, [.ref hr, .ref ab, .ref rb, .ref ob, .ref tb, .int fd])), (ab, .inl (cs 4, 9, .inr (.inr (.inr (.inr f))))), (rb, .inl (cs 4, 9, .inr (.inr (.inr (.inr g))))), (qx, .inr (2, [.long x1, .long x2])), (qy, .inr (2, [.long y1, .long y2])), (qk, .inr (2, [.long k1, .long k2])), (hr, .inr (7, [.int (nI n), .int (nI k), .int (nI al), .int (nI be), .int ea, .int pr, .ref sm, .int (nI se), .ref ca])), (ca, .inl (cs 0, 8, .inl cf)), (r_3, .inr (2, [.long r_1.toInt64, .long 1])), (r_7, .inr (2, [.long r_5.toInt64, .long 1])), (r_9, .inr (2, [.long va_11, .long vb_12]))] := hD
  refine lv_aload hx hb dX1_eliminate_33 (lv_at hl 0 rfl) ?_
  refine lv_aload_n hx hb dX1_eliminate_35 rfl (lv_at hl 2 rfl) ?_
  refine xget C hP 0 rfl rfl zuX1 1 (by decide) zw2_134 rfl dX1_eliminate_36 ?_
  refine lv_iload_n hx hb dX1_eliminate_39 rfl (lv_at hl 3 rfl) ?_
  refine lv_iconst (v := nI 1) hx hb dX1_eliminate_40 (by decide) ?_
  refine lv_isub hx hb dX1_eliminate_41 ?_
  refine lv_topi (nm_r (e' := nI (i - 1)) (pk_sub (by omega)) ?_)
  refine xaald C hP 1 4 rfl rfl rfl i0 (by rw [hi0]) (by omega) (by decide) hf dX1_eliminate_42 ?_
  refine xr (wr := [(hc, .inr (1, [.ref hr, .ref ab, .ref rb, .ref ob, .ref tb, .int fd])), (ab, .inl (cs 4, 9, .inr (.inr (.inr (.inr f))))), (rb, .inl (cs 4, 9, .inr (.inr (.inr (.inr g))))), (qy, .inr (2, [.long y1, .long y2])), (qk, .inr (2, [.long k1, .long k2])), (hr, .inr (7, [.int (nI n), .int (nI k), .int (nI al), .int (nI be), .int ea, .int pr, .ref sm, .int (nI se), .ref ca])), (ca, .inl (cs 0, 8, .inl cf)), (r_3, .inr (2, [.long r_1.toInt64, .long 1])), (r_9, .inr (2, [.long va_11, .long vb_12]))]) (xV (As := [.ref qx]) (rest := [.ref r_9]) C (c_X2_times_w l D cs r_7 qx r_5.toInt64 1 x1 x2) kX1_69 hP hD [9, 3] rfl (by decide) 0 rfl rfl rfl ⟨Nat.le_of_ble_eq_true rfl, Nat.le_of_ble_eq_true rfl⟩ rfl hl.1 rfl (Nat.le_of_ble_eq_true rfl) dX1_eliminate_43 ⟨Nat.le_of_ble_eq_true rfl, Nat.le_of_ble_eq_true rfl⟩) hP hD hS hA [9, 3] [0, 1, 2, 4, 5, 6, 7, 8, 10] rfl rfl (by decide) (by decide) ?_
  clear hP hD hS
  try clear locs
  try clear H
  intro u_14 r_13 H locs hw_r_13 hP hD hS
  obtain ⟨va_15, vb_16⟩ := u_14
  refine W.widen (k := 4) (n := 8) (Nat.le_of_ble_eq_true rfl) (Nat.le_of_ble_eq_true rfl) ?_
  replace hP : va_P D vwCl [(hc, .inr (1, [.ref hr, .ref ab, .ref rb, .ref ob, .ref tb, .int fd])), (ab, .inl (cs 4, 9, .inr (.inr (.inr (.inr f))))), (rb, .inl (cs 4, 9, .inr (.inr (.inr (.inr g))))), (qy, .inr (2, [.long y1, .long y2])), (qk, .inr (2, [.long k1, .long k2])), (hr, .inr (7, [.int (nI n), .int (nI k), .int (nI al), .int (nI be), .int ea, .int pr, .ref sm, .int (nI se), .ref ca])), (ca, .inl (cs 0, 8, .inl cf)), (r_3, .inr (2, [.long r_1.toInt64, .long 1])), (r_9, .inr (2, [.long va_11, .long vb_12])), (r_7, .inr (2, [.long r_5.toInt64, .long 1])), (qx, .inr (2, [.long x1, .long x2])), (r_13, .inr (2, [.long va_15, .long vb_16]))] H := hP
  replace hD : va_D A [(hc, .inr (1, [.ref hr, .ref ab, .ref rb, .ref ob, .ref tb, .int fd])), (ab, .inl (cs 4, 9, .inr (.inr (.inr (.inr f))))), (rb, .inl (cs 4, 9, .inr (.inr (.inr (.inr g))))), (qy, .inr (2, [.long y1, .long y2])), (qk, .inr (2, [.long k1, .long k2])), (hr, .inr (7, [.int (nI n), .int (nI k), .int (nI al), .int (nI be), .int ea, .int pr, .ref sm, .int (nI se), .ref ca])), (ca, .inl (cs 0, 8, .inl cf)), (r_3, .inr (2, [.long r_1.toInt64, .long 1])), (r_9, .inr (2, [.long va_11, .long vb_12])), (r_7, .inr (2, [.long r_5.toInt64, .long 1])), (qx, .inr (2, [.long x1, .long x2])), (r_13, .inr (2, [.long va_15, .long vb_16]))] := hD
  refine xr (wr := [(hc, .inr (1, [.ref hr, .ref ab, .ref rb, .ref ob, .ref tb, .int fd])), (ab, .inl (cs 4, 9, .inr (.inr (.inr (.inr f))))), (rb, .inl (cs 4, 9, .inr (.inr (.inr (.inr g))))), (qy, .inr (2, [.long y1, .long y2])), (qk, .inr (2, [.long k1, .long k2])), (hr, .inr (7, [.int (nI n), .int (nI k), .int (nI al), .int (nI be), .int ea, .int pr, .ref sm, .int (nI se), .ref ca])), (ca, .inl (cs 0, 8, .inl cf)), (r_3, .inr (2, [.long r_1.toInt64, .long 1])), (r_7, .inr (2, [.long r_5.toInt64, .long 1])), (qx, .inr (2, [.long x1, .long x2]))]) (xV (As := [.ref r_13]) (rest := []) C (c_X2_less_w l D cs r_9 r_13 va_11 vb_12 va_15 vb_16) kX1_76 hP hD [8, 11] rfl (by decide) 0 rfl rfl rfl ⟨Nat.le_of_ble_eq_true rfl, Nat.le_of_ble_eq_true rfl⟩ rfl hl.1 rfl (Nat.le_of_ble_eq_true rfl) dX1_eliminate_46 ⟨Nat.le_of_ble_eq_true rfl, Nat.le_of_ble_eq_true rfl⟩) hP hD hS hA [8, 11] [0, 1, 2, 3, 4, 5, 6, 7, 9, 10] rfl rfl (by decide) (by decide) ?_
  clear hP hD hS
  try clear locs
  try clear H
  intro u_18 r_17 H locs hw_r_17 hP hD hS
  obtain ⟨va_19, vb_20⟩ := u_18
  refine W.widen (k := 5) (n := 10) (Nat.le_of_ble_eq_true rfl) (Nat.le_of_ble_eq_true rfl) ?_
  replace hP : va_P D vwCl [(hc, .inr (1, [.ref hr, .ref ab, .ref rb, .ref ob, .ref tb, .int fd])), (ab, .inl (cs 4, 9, .inr (.inr (.inr (.inr f))))), (rb, .inl (cs 4, 9, .inr (.inr (.inr (.inr g))))), (qy, .inr (2, [.long y1, .long y2])), (qk, .inr (2, [.long k1, .long k2])), (hr, .inr (7, [.int (nI n), .int (nI k), .int (nI al), .int (nI be), .int ea, .int pr, .ref sm, .int (nI se), .ref ca])), (ca, .inl (cs 0, 8, .inl cf)), (r_3, .inr (2, [.long r_1.toInt64, .long 1])), (r_7, .inr (2, [.long r_5.toInt64, .long 1])), (qx, .inr (2, [.long x1, .long x2])), (r_9, .inr (2, [.long va_11, .long vb_12])), (r_13, .inr (2, [.long va_15, .long vb_16])), (r_17, .inr (2, [.long va_19, .long vb_20]))] H := hP
  replace hD : va_D A [(hc, .inr (1, [.ref hr, .ref ab, .ref rb, .ref ob, .ref tb, .int fd])), (ab, .inl (cs 4, 9, .inr (.inr (.inr (.inr f))))), (rb, .inl (cs 4, 9, .inr (.inr (.inr (.inr g))))), (qy, .inr (2, [.long y1, .long y2])), (qk, .inr (2, [.long k1, .long k2])), (hr, .inr (7, [.int (nI n), .int (nI k), .int (nI al), .int (nI be), .int ea, .int pr, .ref sm, .int (nI se), .ref ca])), (ca, .inl (cs 0, 8, .inl cf)), (r_3, .inr (2, [.long r_1.toInt64, .long 1])), (r_7, .inr (2, [.long r_5.toInt64, .long 1])), (qx, .inr (2, [.long x1, .long x2])), (r_9, .inr (2, [.long va_11, .long vb_12])), (r_13, .inr (2, [.long va_15, .long vb_16])), (r_17, .inr (2, [.long va_19, .long vb_20]))] := hD
  refine lv_astore (lv' := [(5, .ref r_17), (4, .ref r_7), (3, .ref r_3), (0, .ref hc), (1, .int (nI i)), (2, .ref qk)]) hx hb dX1_eliminate_49 hl (by decide) rfl ?_
  clear hl
  try clear ls
  intro ls hl
  refine lv_aload hx hb dX1_eliminate_51 (lv_at hl 0 rfl) ?_
  refine xi (wr := [(hc, .inr (1, [.ref hr, .ref ab, .ref rb, .ref ob, .ref tb, .int fd])), (ab, .inl (cs 4, 9, .inr (.inr (.inr (.inr f))))), (rb, .inl (cs 4, 9, .inr (.inr (.inr (.inr g))))), (qy, .inr (2, [.long y1, .long y2])), (qk, .inr (2, [.long k1, .long k2])), (hr, .inr (7, [.int (nI n), .int (nI k), .int (nI al), .int (nI be), .int ea, .int pr, .ref sm, .int (nI se), .ref ca])), (ca, .inl (cs 0, 8, .inl cf)), (r_3, .inr (2, [.long r_1.toInt64, .long 1])), (r_7, .inr (2, [.long r_5.toInt64, .long 1])), (qx, .inr (2, [.long x1, .long x2])), (r_9, .inr (2, [.long va_11, .long vb_12])), (r_13, .inr (2, [.long va_15, .long vb_16]))]) (xV (As := []) (rest := []) C (c_X2_isZero l D cs r_17 va_19 vb_20) kX1_79 hP hD [12] rfl (by decide) 0 rfl rfl rfl ⟨Nat.le_of_ble_eq_true rfl, Nat.le_of_ble_eq_true rfl⟩ rfl hl.1 rfl (Nat.le_of_ble_eq_true rfl) dX1_eliminate_53 ⟨Nat.le_of_ble_eq_true rfl, Nat.le_of_ble_eq_true rfl⟩) hP hD hS hA [12] [0, 1, 2, 3, 4, 5, 6, 7, 8, 9, 10, 11] rfl rfl (by decide) (by decide) ?_
  clear hP hD hS
  try clear locs
  try clear H
  intro r_21 u_22 H locs hw_r_21 hP hD hS
  have hw_r_21 : r_21 = if va_19 = 0 ∧ vb_20 ≠ 0 then nI 1 else nI 0 := hw_r_21
  refine W.widen (k := 5) (n := 10) (Nat.le_of_ble_eq_true rfl) (Nat.le_of_ble_eq_true rfl) ?_
  replace hP : va_P D vwCl [(hc, .inr (1, [.ref hr, .ref ab, .ref rb, .ref ob, .ref tb, .int fd])), (ab, .inl (cs 4, 9, .inr (.inr (.inr (.inr f))))), (rb, .inl (cs 4, 9, .inr (.inr (.inr (.inr g))))), (qy, .inr (2, [.long y1, .long y2])), (qk, .inr (2, [.long k1, .long k2])), (hr, .inr (7, [.int (nI n), .int (nI k), .int (nI al), .int (nI be), .int ea, .int pr, .ref sm, .int (nI se), .ref ca])), (ca, .inl (cs 0, 8, .inl cf)), (r_3, .inr (2, [.long r_1.toInt64, .long 1])), (r_7, .inr (2, [.long r_5.toInt64, .long 1])), (qx, .inr (2, [.long x1, .long x2])), (r_9, .inr (2, [.long va_11, .long vb_12])), (r_13, .inr (2, [.long va_15, .long vb_16])), (r_17, .inr (2, [.long va_19, .long vb_20]))] H := hP
  replace hD : va_D A [(hc, .inr (1, [.ref hr, .ref ab, .ref rb, .ref ob, .ref tb, .int fd])), (ab, .inl (cs 4, 9, .inr (.inr (.inr (.inr f))))), (rb, .inl (cs 4, 9, .inr (.inr (.inr (.inr g))))), (qy, .inr (2, [.long y1, .long y2])), (qk, .inr (2, [.long k1, .long k2])), (hr, .inr (7, [.int (nI n), .int (nI k), .int (nI al), .int (nI be), .int ea, .int pr, .ref sm, .int (nI se), .ref ca])), (ca, .inl (cs 0, 8, .inl cf)), (r_3, .inr (2, [.long r_1.toInt64, .long 1])), (r_7, .inr (2, [.long r_5.toInt64, .long 1])), (qx, .inr (2, [.long x1, .long x2])), (r_9, .inr (2, [.long va_11, .long vb_12])), (r_13, .inr (2, [.long va_15, .long vb_16])), (r_17, .inr (2, [.long va_19, .long vb_20]))] := hD
  refine lv_if_eq (tgt := 82) hx hb dX1_eliminate_56 (by decide) (fun c_23 => ?_) (fun c_23 => ?_)
  · -- 56 t
    refine lv_aload_n hx hb dX1_eliminate_82 rfl (lv_at hl 3 rfl) ?_
    refine xget C hP 0 rfl rfl zuX1 1 (by decide) zw2_134 rfl dX1_eliminate_83 ?_
    refine lv_iload_n hx hb dX1_eliminate_86 rfl (lv_at hl 4 rfl) ?_
    refine lv_aload_n hx hb dX1_eliminate_87 rfl (lv_at hl 2 rfl) ?_
    refine lv_aload hx hb dX1_eliminate_88 (lv_at hl 0 rfl) ?_
    refine xr (wr := [(hc, .inr (1, [.ref hr, .ref ab, .ref rb, .ref ob, .ref tb, .int fd])), (ab, .inl (cs 4, 9, .inr (.inr (.inr (.inr f))))), (rb, .inl (cs 4, 9, .inr (.inr (.inr (.inr g))))), (qy, .inr (2, [.long y1, .long y2])), (qk, .inr (2, [.long k1, .long k2])), (hr, .inr (7, [.int (nI n), .int (nI k), .int (nI al), .int (nI be), .int ea, .int pr, .ref sm, .int (nI se), .ref ca])), (ca, .inl (cs 0, 8, .inl cf)), (r_7, .inr (2, [.long r_5.toInt64, .long 1])), (qx, .inr (2, [.long x1, .long x2])), (r_9, .inr (2, [.long va_11, .long vb_12])), (r_13, .inr (2, [.long va_15, .long vb_16]))]) (xV (As := [.ref r_17]) (rest := [.int (nI i), .ref ab]) C (c_X2_by_w l D cs r_3 r_17 r_1.toInt64 1 va_19 vb_20) kX1_83 hP hD [7, 12] rfl (by decide) 0 rfl rfl rfl ⟨Nat.le_of_ble_eq_true rfl, Nat.le_of_ble_eq_true rfl⟩ rfl hl.1 rfl (Nat.le_of_ble_eq_true rfl) dX1_eliminate_90 ⟨Nat.le_of_ble_eq_true rfl, Nat.le_of_ble_eq_true rfl⟩) hP hD hS hA [7, 12] [0, 1, 2, 3, 4, 5, 6, 8, 9, 10, 11] rfl rfl (by decide) (by decide) ?_
    clear hP hD hS
    try clear locs
    try clear H
    intro u_25 r_24 H locs hw_r_24 hP hD hS
    obtain ⟨va_26, vb_27⟩ := u_25
    refine W.widen (k := 6) (n := 12) (Nat.le_of_ble_eq_true rfl) (Nat.le_of_ble_eq_true rfl) ?_
    replace hP : va_P D vwCl [(hc, .inr (1, [.ref hr, .ref ab, .ref rb, .ref ob, .ref tb, .int fd])), (ab, .inl (cs 4, 9, .inr (.inr (.inr (.inr f))))), (rb, .inl (cs 4, 9, .inr (.inr (.inr (.inr g))))), (qy, .inr (2, [.long y1, .long y2])), (qk, .inr (2, [.long k1, .long k2])), (hr, .inr (7, [.int (nI n), .int (nI k), .int (nI al), .int (nI be), .int ea, .int pr, .ref sm, .int (nI se), .ref ca])), (ca, .inl (cs 0, 8, .inl cf)), (r_7, .inr (2, [.long r_5.toInt64, .long 1])), (qx, .inr (2, [.long x1, .long x2])), (r_9, .inr (2, [.long va_11, .long vb_12])), (r_13, .inr (2, [.long va_15, .long vb_16])), (r_3, .inr (2, [.long r_1.toInt64, .long 1])), (r_17, .inr (2, [.long va_19, .long vb_20])), (r_24, .inr (2, [.long va_26, .long vb_27]))] H := hP
    replace hD : va_D A [(hc, .inr (1, [.ref hr, .ref ab, .ref rb, .ref ob, .ref tb, .int fd])), (ab, .inl (cs 4, 9, .inr (.inr (.inr (.inr f))))), (rb, .inl (cs 4, 9, .inr (.inr (.inr (.inr g))))), (qy, .inr (2, [.long y1, .long y2])), (qk, .inr (2, [.long k1, .long k2])), (hr, .inr (7, [.int (nI n), .int (nI k), .int (nI al), .int (nI be), .int ea, .int pr, .ref sm, .int (nI se), .ref ca])), (ca, .inl (cs 0, 8, .inl cf)), (r_7, .inr (2, [.long r_5.toInt64, .long 1])), (qx, .inr (2, [.long x1, .long x2])), (r_9, .inr (2, [.long va_11, .long vb_12])), (r_13, .inr (2, [.long va_15, .long vb_16])), (r_3, .inr (2, [.long r_1.toInt64, .long 1])), (r_17, .inr (2, [.long va_19, .long vb_20])), (r_24, .inr (2, [.long va_26, .long vb_27]))] := hD
    refine xaast C hP hD hS 1 4 13 2 rfl rfl rfl rfl i rfl (by omega) (by decide) dX1_eliminate_93 ?_
    clear hP hD hS
    try clear locs
    try clear H
    intro H locs hP hD hS
    replace hP : va_P D vwCl [(hc, .inr (1, [.ref hr, .ref ab, .ref rb, .ref ob, .ref tb, .int fd])), (ab, .inl (cs 4, 9, .inr (.inr (.inr (.inr (va_up f i (some r_24))))))), (rb, .inl (cs 4, 9, .inr (.inr (.inr (.inr g))))), (qy, .inr (2, [.long y1, .long y2])), (qk, .inr (2, [.long k1, .long k2])), (hr, .inr (7, [.int (nI n), .int (nI k), .int (nI al), .int (nI be), .int ea, .int pr, .ref sm, .int (nI se), .ref ca])), (ca, .inl (cs 0, 8, .inl cf)), (r_7, .inr (2, [.long r_5.toInt64, .long 1])), (qx, .inr (2, [.long x1, .long x2])), (r_9, .inr (2, [.long va_11, .long vb_12])), (r_13, .inr (2, [.long va_15, .long vb_16])), (r_3, .inr (2, [.long r_1.toInt64, .long 1])), (r_17, .inr (2, [.long va_19, .long vb_20])), (r_24, .inr (2, [.long va_26, .long vb_27]))] H := hP
    replace hD : va_D A [(hc, .inr (1, [.ref hr, .ref ab, .ref rb, .ref ob, .ref tb, .int fd])), (ab, .inl (cs 4, 9, .inr (.inr (.inr (.inr (va_up f i (some r_24))))))), (rb, .inl (cs 4, 9, .inr (.inr (.inr (.inr g))))), (qy, .inr (2, [.long y1, .long y2])), (qk, .inr (2, [.long k1, .long k2])), (hr, .inr (7, [.int (nI n), .int (nI k), .int (nI al), .int (nI be), .int ea, .int pr, .ref sm, .int (nI se), .ref ca])), (ca, .inl (cs 0, 8, .inl cf)), (r_7, .inr (2, [.long r_5.toInt64, .long 1])), (qx, .inr (2, [.long x1, .long x2])), (r_9, .inr (2, [.long va_11, .long vb_12])), (r_13, .inr (2, [.long va_15, .long vb_16])), (r_3, .inr (2, [.long r_1.toInt64, .long 1])), (r_17, .inr (2, [.long va_19, .long vb_20])), (r_24, .inr (2, [.long va_26, .long vb_27]))] := hD
    refine lv_aload_n hx hb dX1_eliminate_94 rfl (lv_at hl 3 rfl) ?_
    refine xget C hP 0 rfl rfl zuX1 2 (by decide) zw2_135 rfl dX1_eliminate_95 ?_
    refine lv_iload_n hx hb dX1_eliminate_98 rfl (lv_at hl 4 rfl) ?_
    refine lv_aload_n hx hb dX1_eliminate_99 rfl (lv_at hl 5 rfl) ?_
    refine lv_aload hx hb dX1_eliminate_100 (lv_at hl 1 rfl) ?_
    refine lv_aload_n hx hb dX1_eliminate_102 rfl (lv_at hl 3 rfl) ?_
    refine xget C hP 0 rfl rfl zuX1 2 (by decide) zw2_135 rfl dX1_eliminate_103 ?_
    refine lv_iload_n hx hb dX1_eliminate_106 rfl (lv_at hl 4 rfl) ?_
    refine lv_iconst (v := nI 1) hx hb dX1_eliminate_107 (by decide) ?_
    refine lv_isub hx hb dX1_eliminate_108 ?_
    refine lv_topi (nm_r (e' := nI (i - 1)) (pk_sub (by omega)) ?_)
    refine xaald C hP 2 4 rfl rfl rfl i0 (by rw [hi0]) (by omega) (by decide) hg dX1_eliminate_109 ?_
    refine xr (wr := [(hc, .inr (1, [.ref hr, .ref ab, .ref rb, .ref ob, .ref tb, .int fd])), (ab, .inl (cs 4, 9, .inr (.inr (.inr (.inr (va_up f i (some r_24))))))), (rb, .inl (cs 4, 9, .inr (.inr (.inr (.inr g))))), (qk, .inr (2, [.long k1, .long k2])), (hr, .inr (7, [.int (nI n), .int (nI k), .int (nI al), .int (nI be), .int ea, .int pr, .ref sm, .int (nI se), .ref ca])), (ca, .inl (cs 0, 8, .inl cf)), (qx, .inr (2, [.long x1, .long x2])), (r_9, .inr (2, [.long va_11, .long vb_12])), (r_13, .inr (2, [.long va_15, .long vb_16])), (r_3, .inr (2, [.long r_1.toInt64, .long 1])), (r_17, .inr (2, [.long va_19, .long vb_20])), (r_24, .inr (2, [.long va_26, .long vb_27]))]) (xV (As := [.ref qy]) (rest := [.ref qk, .int (nI i), .ref rb]) C (c_X2_times_w l D cs r_7 qy r_5.toInt64 1 y1 y2) kX1_69 hP hD [7, 3] rfl (by decide) 0 rfl rfl rfl ⟨Nat.le_of_ble_eq_true rfl, Nat.le_of_ble_eq_true rfl⟩ rfl hl.1 rfl (Nat.le_of_ble_eq_true rfl) dX1_eliminate_110 ⟨Nat.le_of_ble_eq_true rfl, Nat.le_of_ble_eq_true rfl⟩) hP hD hS hA [7, 3] [0, 1, 2, 4, 5, 6, 8, 9, 10, 11, 12, 13] rfl rfl (by decide) (by decide) ?_
    clear hP hD hS
    try clear locs
    try clear H
    intro u_29 r_28 H locs hw_r_28 hP hD hS
    obtain ⟨va_30, vb_31⟩ := u_29
    refine W.widen (k := 7) (n := 14) (Nat.le_of_ble_eq_true rfl) (Nat.le_of_ble_eq_true rfl) ?_
    replace hP : va_P D vwCl [(hc, .inr (1, [.ref hr, .ref ab, .ref rb, .ref ob, .ref tb, .int fd])), (ab, .inl (cs 4, 9, .inr (.inr (.inr (.inr (va_up f i (some r_24))))))), (rb, .inl (cs 4, 9, .inr (.inr (.inr (.inr g))))), (qk, .inr (2, [.long k1, .long k2])), (hr, .inr (7, [.int (nI n), .int (nI k), .int (nI al), .int (nI be), .int ea, .int pr, .ref sm, .int (nI se), .ref ca])), (ca, .inl (cs 0, 8, .inl cf)), (qx, .inr (2, [.long x1, .long x2])), (r_9, .inr (2, [.long va_11, .long vb_12])), (r_13, .inr (2, [.long va_15, .long vb_16])), (r_3, .inr (2, [.long r_1.toInt64, .long 1])), (r_17, .inr (2, [.long va_19, .long vb_20])), (r_24, .inr (2, [.long va_26, .long vb_27])), (r_7, .inr (2, [.long r_5.toInt64, .long 1])), (qy, .inr (2, [.long y1, .long y2])), (r_28, .inr (2, [.long va_30, .long vb_31]))] H := hP
    replace hD : va_D A [(hc, .inr (1, [.ref hr, .ref ab, .ref rb, .ref ob, .ref tb, .int fd])), (ab, .inl (cs 4, 9, .inr (.inr (.inr (.inr (va_up f i (some r_24))))))), (rb, .inl (cs 4, 9, .inr (.inr (.inr (.inr g))))), (qk, .inr (2, [.long k1, .long k2])), (hr, .inr (7, [.int (nI n), .int (nI k), .int (nI al), .int (nI be), .int ea, .int pr, .ref sm, .int (nI se), .ref ca])), (ca, .inl (cs 0, 8, .inl cf)), (qx, .inr (2, [.long x1, .long x2])), (r_9, .inr (2, [.long va_11, .long vb_12])), (r_13, .inr (2, [.long va_15, .long vb_16])), (r_3, .inr (2, [.long r_1.toInt64, .long 1])), (r_17, .inr (2, [.long va_19, .long vb_20])), (r_24, .inr (2, [.long va_26, .long vb_27])), (r_7, .inr (2, [.long r_5.toInt64, .long 1])), (qy, .inr (2, [.long y1, .long y2])), (r_28, .inr (2, [.long va_30, .long vb_31]))] := hD
    refine xr (wr := [(hc, .inr (1, [.ref hr, .ref ab, .ref rb, .ref ob, .ref tb, .int fd])), (ab, .inl (cs 4, 9, .inr (.inr (.inr (.inr (va_up f i (some r_24))))))), (rb, .inl (cs 4, 9, .inr (.inr (.inr (.inr g))))), (hr, .inr (7, [.int (nI n), .int (nI k), .int (nI al), .int (nI be), .int ea, .int pr, .ref sm, .int (nI se), .ref ca])), (ca, .inl (cs 0, 8, .inl cf)), (qx, .inr (2, [.long x1, .long x2])), (r_9, .inr (2, [.long va_11, .long vb_12])), (r_13, .inr (2, [.long va_15, .long vb_16])), (r_3, .inr (2, [.long r_1.toInt64, .long 1])), (r_17, .inr (2, [.long va_19, .long vb_20])), (r_24, .inr (2, [.long va_26, .long vb_27])), (r_7, .inr (2, [.long r_5.toInt64, .long 1])), (qy, .inr (2, [.long y1, .long y2]))]) (xV (As := [.ref r_28]) (rest := [.int (nI i), .ref rb]) C (c_X2_plus_w l D cs qk r_28 k1 k2 va_30 vb_31) kX1_73 hP hD [3, 14] rfl (by decide) 0 rfl rfl rfl ⟨Nat.le_of_ble_eq_true rfl, Nat.le_of_ble_eq_true rfl⟩ rfl hl.1 rfl (Nat.le_of_ble_eq_true rfl) dX1_eliminate_113 ⟨Nat.le_of_ble_eq_true rfl, Nat.le_of_ble_eq_true rfl⟩) hP hD hS hA [3, 14] [0, 1, 2, 4, 5, 6, 7, 8, 9, 10, 11, 12, 13] rfl rfl (by decide) (by decide) ?_
    clear hP hD hS
    try clear locs
    try clear H
    intro u_33 r_32 H locs hw_r_32 hP hD hS
    obtain ⟨va_34, vb_35⟩ := u_33
    refine W.widen (k := 8) (n := 16) (Nat.le_of_ble_eq_true rfl) (Nat.le_of_ble_eq_true rfl) ?_
    replace hP : va_P D vwCl [(hc, .inr (1, [.ref hr, .ref ab, .ref rb, .ref ob, .ref tb, .int fd])), (ab, .inl (cs 4, 9, .inr (.inr (.inr (.inr (va_up f i (some r_24))))))), (rb, .inl (cs 4, 9, .inr (.inr (.inr (.inr g))))), (hr, .inr (7, [.int (nI n), .int (nI k), .int (nI al), .int (nI be), .int ea, .int pr, .ref sm, .int (nI se), .ref ca])), (ca, .inl (cs 0, 8, .inl cf)), (qx, .inr (2, [.long x1, .long x2])), (r_9, .inr (2, [.long va_11, .long vb_12])), (r_13, .inr (2, [.long va_15, .long vb_16])), (r_3, .inr (2, [.long r_1.toInt64, .long 1])), (r_17, .inr (2, [.long va_19, .long vb_20])), (r_24, .inr (2, [.long va_26, .long vb_27])), (r_7, .inr (2, [.long r_5.toInt64, .long 1])), (qy, .inr (2, [.long y1, .long y2])), (qk, .inr (2, [.long k1, .long k2])), (r_28, .inr (2, [.long va_30, .long vb_31])), (r_32, .inr (2, [.long va_34, .long vb_35]))] H := hP
    replace hD : va_D A [(hc, .inr (1, [.ref hr, .ref ab, .ref rb, .ref ob, .ref tb, .int fd])), (ab, .inl (cs 4, 9, .inr (.inr (.inr (.inr (va_up f i (some r_24))))))), (rb, .inl (cs 4, 9, .inr (.inr (.inr (.inr g))))), (hr, .inr (7, [.int (nI n), .int (nI k), .int (nI al), .int (nI be), .int ea, .int pr, .ref sm, .int (nI se), .ref ca])), (ca, .inl (cs 0, 8, .inl cf)), (qx, .inr (2, [.long x1, .long x2])), (r_9, .inr (2, [.long va_11, .long vb_12])), (r_13, .inr (2, [.long va_15, .long vb_16])), (r_3, .inr (2, [.long r_1.toInt64, .long 1])), (r_17, .inr (2, [.long va_19, .long vb_20])), (r_24, .inr (2, [.long va_26, .long vb_27])), (r_7, .inr (2, [.long r_5.toInt64, .long 1])), (qy, .inr (2, [.long y1, .long y2])), (qk, .inr (2, [.long k1, .long k2])), (r_28, .inr (2, [.long va_30, .long vb_31])), (r_32, .inr (2, [.long va_34, .long vb_35]))] := hD
    refine lv_aload hx hb dX1_eliminate_116 (lv_at hl 0 rfl) ?_
    refine xr (wr := [(hc, .inr (1, [.ref hr, .ref ab, .ref rb, .ref ob, .ref tb, .int fd])), (ab, .inl (cs 4, 9, .inr (.inr (.inr (.inr (va_up f i (some r_24))))))), (rb, .inl (cs 4, 9, .inr (.inr (.inr (.inr g))))), (hr, .inr (7, [.int (nI n), .int (nI k), .int (nI al), .int (nI be), .int ea, .int pr, .ref sm, .int (nI se), .ref ca])), (ca, .inl (cs 0, 8, .inl cf)), (qx, .inr (2, [.long x1, .long x2])), (r_9, .inr (2, [.long va_11, .long vb_12])), (r_13, .inr (2, [.long va_15, .long vb_16])), (r_3, .inr (2, [.long r_1.toInt64, .long 1])), (r_24, .inr (2, [.long va_26, .long vb_27])), (r_7, .inr (2, [.long r_5.toInt64, .long 1])), (qy, .inr (2, [.long y1, .long y2])), (qk, .inr (2, [.long k1, .long k2])), (r_28, .inr (2, [.long va_30, .long vb_31]))]) (xV (As := [.ref r_17]) (rest := [.int (nI i), .ref rb]) C (c_X2_by_w l D cs r_32 r_17 va_34 vb_35 va_19 vb_20) kX1_83 hP hD [15, 9] rfl (by decide) 0 rfl rfl rfl ⟨Nat.le_of_ble_eq_true rfl, Nat.le_of_ble_eq_true rfl⟩ rfl hl.1 rfl (Nat.le_of_ble_eq_true rfl) dX1_eliminate_118 ⟨Nat.le_of_ble_eq_true rfl, Nat.le_of_ble_eq_true rfl⟩) hP hD hS hA [15, 9] [0, 1, 2, 3, 4, 5, 6, 7, 8, 10, 11, 12, 13, 14] rfl rfl (by decide) (by decide) ?_
    clear hP hD hS
    try clear locs
    try clear H
    intro u_37 r_36 H locs hw_r_36 hP hD hS
    obtain ⟨va_38, vb_39⟩ := u_37
    refine W.widen (k := 9) (n := 18) (Nat.le_of_ble_eq_true rfl) (Nat.le_of_ble_eq_true rfl) ?_
    replace hP : va_P D vwCl [(hc, .inr (1, [.ref hr, .ref ab, .ref rb, .ref ob, .ref tb, .int fd])), (ab, .inl (cs 4, 9, .inr (.inr (.inr (.inr (va_up f i (some r_24))))))), (rb, .inl (cs 4, 9, .inr (.inr (.inr (.inr g))))), (hr, .inr (7, [.int (nI n), .int (nI k), .int (nI al), .int (nI be), .int ea, .int pr, .ref sm, .int (nI se), .ref ca])), (ca, .inl (cs 0, 8, .inl cf)), (qx, .inr (2, [.long x1, .long x2])), (r_9, .inr (2, [.long va_11, .long vb_12])), (r_13, .inr (2, [.long va_15, .long vb_16])), (r_3, .inr (2, [.long r_1.toInt64, .long 1])), (r_24, .inr (2, [.long va_26, .long vb_27])), (r_7, .inr (2, [.long r_5.toInt64, .long 1])), (qy, .inr (2, [.long y1, .long y2])), (qk, .inr (2, [.long k1, .long k2])), (r_28, .inr (2, [.long va_30, .long vb_31])), (r_32, .inr (2, [.long va_34, .long vb_35])), (r_17, .inr (2, [.long va_19, .long vb_20])), (r_36, .inr (2, [.long va_38, .long vb_39]))] H := hP
    replace hD : va_D A [(hc, .inr (1, [.ref hr, .ref ab, .ref rb, .ref ob, .ref tb, .int fd])), (ab, .inl (cs 4, 9, .inr (.inr (.inr (.inr (va_up f i (some r_24))))))), (rb, .inl (cs 4, 9, .inr (.inr (.inr (.inr g))))), (hr, .inr (7, [.int (nI n), .int (nI k), .int (nI al), .int (nI be), .int ea, .int pr, .ref sm, .int (nI se), .ref ca])), (ca, .inl (cs 0, 8, .inl cf)), (qx, .inr (2, [.long x1, .long x2])), (r_9, .inr (2, [.long va_11, .long vb_12])), (r_13, .inr (2, [.long va_15, .long vb_16])), (r_3, .inr (2, [.long r_1.toInt64, .long 1])), (r_24, .inr (2, [.long va_26, .long vb_27])), (r_7, .inr (2, [.long r_5.toInt64, .long 1])), (qy, .inr (2, [.long y1, .long y2])), (qk, .inr (2, [.long k1, .long k2])), (r_28, .inr (2, [.long va_30, .long vb_31])), (r_32, .inr (2, [.long va_34, .long vb_35])), (r_17, .inr (2, [.long va_19, .long vb_20])), (r_36, .inr (2, [.long va_38, .long vb_39]))] := hD
    refine xaast C hP hD hS 2 4 16 2 rfl rfl rfl rfl i rfl (by omega) (by decide) dX1_eliminate_121 ?_
    clear hP hD hS
    try clear locs
    try clear H
    intro H locs hP hD hS
    replace hP : va_P D vwCl [(hc, .inr (1, [.ref hr, .ref ab, .ref rb, .ref ob, .ref tb, .int fd])), (ab, .inl (cs 4, 9, .inr (.inr (.inr (.inr (va_up f i (some r_24))))))), (rb, .inl (cs 4, 9, .inr (.inr (.inr (.inr (va_up g i (some r_36))))))), (hr, .inr (7, [.int (nI n), .int (nI k), .int (nI al), .int (nI be), .int ea, .int pr, .ref sm, .int (nI se), .ref ca])), (ca, .inl (cs 0, 8, .inl cf)), (qx, .inr (2, [.long x1, .long x2])), (r_9, .inr (2, [.long va_11, .long vb_12])), (r_13, .inr (2, [.long va_15, .long vb_16])), (r_3, .inr (2, [.long r_1.toInt64, .long 1])), (r_24, .inr (2, [.long va_26, .long vb_27])), (r_7, .inr (2, [.long r_5.toInt64, .long 1])), (qy, .inr (2, [.long y1, .long y2])), (qk, .inr (2, [.long k1, .long k2])), (r_28, .inr (2, [.long va_30, .long vb_31])), (r_32, .inr (2, [.long va_34, .long vb_35])), (r_17, .inr (2, [.long va_19, .long vb_20])), (r_36, .inr (2, [.long va_38, .long vb_39]))] H := hP
    replace hD : va_D A [(hc, .inr (1, [.ref hr, .ref ab, .ref rb, .ref ob, .ref tb, .int fd])), (ab, .inl (cs 4, 9, .inr (.inr (.inr (.inr (va_up f i (some r_24))))))), (rb, .inl (cs 4, 9, .inr (.inr (.inr (.inr (va_up g i (some r_36))))))), (hr, .inr (7, [.int (nI n), .int (nI k), .int (nI al), .int (nI be), .int ea, .int pr, .ref sm, .int (nI se), .ref ca])), (ca, .inl (cs 0, 8, .inl cf)), (qx, .inr (2, [.long x1, .long x2])), (r_9, .inr (2, [.long va_11, .long vb_12])), (r_13, .inr (2, [.long va_15, .long vb_16])), (r_3, .inr (2, [.long r_1.toInt64, .long 1])), (r_24, .inr (2, [.long va_26, .long vb_27])), (r_7, .inr (2, [.long r_5.toInt64, .long 1])), (qy, .inr (2, [.long y1, .long y2])), (qk, .inr (2, [.long k1, .long k2])), (r_28, .inr (2, [.long va_30, .long vb_31])), (r_32, .inr (2, [.long va_34, .long vb_35])), (r_17, .inr (2, [.long va_19, .long vb_20])), (r_36, .inr (2, [.long va_38, .long vb_39]))] := hD
    exact xretv C (⟨r_24, r_36, va_26, vb_27, va_38, vb_39⟩) trivial (xP_map hP [0, 3, 4, 1, 2, 5, 11, 12, 9, 16] rfl) (hD.sub [0, 3, 4, 1, 2, 5, 11, 12, 9, 16] (by decide) rfl) hS (Nat.le_of_ble_eq_true rfl) (Nat.le_of_ble_eq_true rfl) dX1_eliminate_122
  · -- 56 f
    refine lv_aload_n hx hb dX1_eliminate_59 rfl (lv_at hl 3 rfl) ?_
    refine xget C hP 0 rfl rfl zuX1 1 (by decide) zw2_134 rfl dX1_eliminate_60 ?_
    refine lv_iload_n hx hb dX1_eliminate_63 rfl (lv_at hl 4 rfl) ?_
    refine lv_lconst (v := 0) hx hb dX1_eliminate_64 (by decide) ?_
    refine xr (wr := [(hc, .inr (1, [.ref hr, .ref ab, .ref rb, .ref ob, .ref tb, .int fd])), (ab, .inl (cs 4, 9, .inr (.inr (.inr (.inr f))))), (rb, .inl (cs 4, 9, .inr (.inr (.inr (.inr g))))), (qy, .inr (2, [.long y1, .long y2])), (qk, .inr (2, [.long k1, .long k2])), (hr, .inr (7, [.int (nI n), .int (nI k), .int (nI al), .int (nI be), .int ea, .int pr, .ref sm, .int (nI se), .ref ca])), (ca, .inl (cs 0, 8, .inl cf)), (r_3, .inr (2, [.long r_1.toInt64, .long 1])), (r_7, .inr (2, [.long r_5.toInt64, .long 1])), (qx, .inr (2, [.long x1, .long x2])), (r_9, .inr (2, [.long va_11, .long vb_12])), (r_13, .inr (2, [.long va_15, .long vb_16])), (r_17, .inr (2, [.long va_19, .long vb_20]))]) (xS (As := [.long 0]) (rest := [.int (nI i), .ref ab]) C (c_X2_whole l D cs 0) kX1_54 hP hD [] rfl (by decide) ⟨Nat.le_of_ble_eq_true rfl, Nat.le_of_ble_eq_true rfl⟩ rfl hl.1 rfl (Nat.le_of_ble_eq_true rfl) dX1_eliminate_65 ⟨Nat.le_of_ble_eq_true rfl, Nat.le_of_ble_eq_true rfl⟩) hP hD hS hA [] [0, 1, 2, 3, 4, 5, 6, 7, 8, 9, 10, 11, 12] rfl rfl (by decide) (by decide) ?_
    clear hP hD hS
    try clear locs
    try clear H
    intro u_41 r_40 H locs hw_r_40 hP hD hS
    refine W.widen (k := 6) (n := 12) (Nat.le_of_ble_eq_true rfl) (Nat.le_of_ble_eq_true rfl) ?_
    replace hP : va_P D vwCl [(hc, .inr (1, [.ref hr, .ref ab, .ref rb, .ref ob, .ref tb, .int fd])), (ab, .inl (cs 4, 9, .inr (.inr (.inr (.inr f))))), (rb, .inl (cs 4, 9, .inr (.inr (.inr (.inr g))))), (qy, .inr (2, [.long y1, .long y2])), (qk, .inr (2, [.long k1, .long k2])), (hr, .inr (7, [.int (nI n), .int (nI k), .int (nI al), .int (nI be), .int ea, .int pr, .ref sm, .int (nI se), .ref ca])), (ca, .inl (cs 0, 8, .inl cf)), (r_3, .inr (2, [.long r_1.toInt64, .long 1])), (r_7, .inr (2, [.long r_5.toInt64, .long 1])), (qx, .inr (2, [.long x1, .long x2])), (r_9, .inr (2, [.long va_11, .long vb_12])), (r_13, .inr (2, [.long va_15, .long vb_16])), (r_17, .inr (2, [.long va_19, .long vb_20])), (r_40, .inr (2, [.long 0, .long 1]))] H := hP
    replace hD : va_D A [(hc, .inr (1, [.ref hr, .ref ab, .ref rb, .ref ob, .ref tb, .int fd])), (ab, .inl (cs 4, 9, .inr (.inr (.inr (.inr f))))), (rb, .inl (cs 4, 9, .inr (.inr (.inr (.inr g))))), (qy, .inr (2, [.long y1, .long y2])), (qk, .inr (2, [.long k1, .long k2])), (hr, .inr (7, [.int (nI n), .int (nI k), .int (nI al), .int (nI be), .int ea, .int pr, .ref sm, .int (nI se), .ref ca])), (ca, .inl (cs 0, 8, .inl cf)), (r_3, .inr (2, [.long r_1.toInt64, .long 1])), (r_7, .inr (2, [.long r_5.toInt64, .long 1])), (qx, .inr (2, [.long x1, .long x2])), (r_9, .inr (2, [.long va_11, .long vb_12])), (r_13, .inr (2, [.long va_15, .long vb_16])), (r_17, .inr (2, [.long va_19, .long vb_20])), (r_40, .inr (2, [.long 0, .long 1]))] := hD
    refine xaast C hP hD hS 1 4 13 2 rfl rfl rfl rfl i rfl (by omega) (by decide) dX1_eliminate_68 ?_
    clear hP hD hS
    try clear locs
    try clear H
    intro H locs hP hD hS
    replace hP : va_P D vwCl [(hc, .inr (1, [.ref hr, .ref ab, .ref rb, .ref ob, .ref tb, .int fd])), (ab, .inl (cs 4, 9, .inr (.inr (.inr (.inr (va_up f i (some r_40))))))), (rb, .inl (cs 4, 9, .inr (.inr (.inr (.inr g))))), (qy, .inr (2, [.long y1, .long y2])), (qk, .inr (2, [.long k1, .long k2])), (hr, .inr (7, [.int (nI n), .int (nI k), .int (nI al), .int (nI be), .int ea, .int pr, .ref sm, .int (nI se), .ref ca])), (ca, .inl (cs 0, 8, .inl cf)), (r_3, .inr (2, [.long r_1.toInt64, .long 1])), (r_7, .inr (2, [.long r_5.toInt64, .long 1])), (qx, .inr (2, [.long x1, .long x2])), (r_9, .inr (2, [.long va_11, .long vb_12])), (r_13, .inr (2, [.long va_15, .long vb_16])), (r_17, .inr (2, [.long va_19, .long vb_20])), (r_40, .inr (2, [.long 0, .long 1]))] H := hP
    replace hD : va_D A [(hc, .inr (1, [.ref hr, .ref ab, .ref rb, .ref ob, .ref tb, .int fd])), (ab, .inl (cs 4, 9, .inr (.inr (.inr (.inr (va_up f i (some r_40))))))), (rb, .inl (cs 4, 9, .inr (.inr (.inr (.inr g))))), (qy, .inr (2, [.long y1, .long y2])), (qk, .inr (2, [.long k1, .long k2])), (hr, .inr (7, [.int (nI n), .int (nI k), .int (nI al), .int (nI be), .int ea, .int pr, .ref sm, .int (nI se), .ref ca])), (ca, .inl (cs 0, 8, .inl cf)), (r_3, .inr (2, [.long r_1.toInt64, .long 1])), (r_7, .inr (2, [.long r_5.toInt64, .long 1])), (qx, .inr (2, [.long x1, .long x2])), (r_9, .inr (2, [.long va_11, .long vb_12])), (r_13, .inr (2, [.long va_15, .long vb_16])), (r_17, .inr (2, [.long va_19, .long vb_20])), (r_40, .inr (2, [.long 0, .long 1]))] := hD
    refine lv_aload_n hx hb dX1_eliminate_69 rfl (lv_at hl 3 rfl) ?_
    refine xget C hP 0 rfl rfl zuX1 2 (by decide) zw2_135 rfl dX1_eliminate_70 ?_
    refine lv_iload_n hx hb dX1_eliminate_73 rfl (lv_at hl 4 rfl) ?_
    refine lv_lconst (v := 0) hx hb dX1_eliminate_74 (by decide) ?_
    refine xr (wr := [(hc, .inr (1, [.ref hr, .ref ab, .ref rb, .ref ob, .ref tb, .int fd])), (ab, .inl (cs 4, 9, .inr (.inr (.inr (.inr (va_up f i (some r_40))))))), (rb, .inl (cs 4, 9, .inr (.inr (.inr (.inr g))))), (qy, .inr (2, [.long y1, .long y2])), (qk, .inr (2, [.long k1, .long k2])), (hr, .inr (7, [.int (nI n), .int (nI k), .int (nI al), .int (nI be), .int ea, .int pr, .ref sm, .int (nI se), .ref ca])), (ca, .inl (cs 0, 8, .inl cf)), (r_3, .inr (2, [.long r_1.toInt64, .long 1])), (r_7, .inr (2, [.long r_5.toInt64, .long 1])), (qx, .inr (2, [.long x1, .long x2])), (r_9, .inr (2, [.long va_11, .long vb_12])), (r_13, .inr (2, [.long va_15, .long vb_16])), (r_17, .inr (2, [.long va_19, .long vb_20])), (r_40, .inr (2, [.long 0, .long 1]))]) (xS (As := [.long 0]) (rest := [.int (nI i), .ref rb]) C (c_X2_whole l D cs 0) kX1_54 hP hD [] rfl (by decide) ⟨Nat.le_of_ble_eq_true rfl, Nat.le_of_ble_eq_true rfl⟩ rfl hl.1 rfl (Nat.le_of_ble_eq_true rfl) dX1_eliminate_75 ⟨Nat.le_of_ble_eq_true rfl, Nat.le_of_ble_eq_true rfl⟩) hP hD hS hA [] [0, 1, 2, 3, 4, 5, 6, 7, 8, 9, 10, 11, 12, 13] rfl rfl (by decide) (by decide) ?_
    clear hP hD hS
    try clear locs
    try clear H
    intro u_43 r_42 H locs hw_r_42 hP hD hS
    refine W.widen (k := 7) (n := 14) (Nat.le_of_ble_eq_true rfl) (Nat.le_of_ble_eq_true rfl) ?_
    replace hP : va_P D vwCl [(hc, .inr (1, [.ref hr, .ref ab, .ref rb, .ref ob, .ref tb, .int fd])), (ab, .inl (cs 4, 9, .inr (.inr (.inr (.inr (va_up f i (some r_40))))))), (rb, .inl (cs 4, 9, .inr (.inr (.inr (.inr g))))), (qy, .inr (2, [.long y1, .long y2])), (qk, .inr (2, [.long k1, .long k2])), (hr, .inr (7, [.int (nI n), .int (nI k), .int (nI al), .int (nI be), .int ea, .int pr, .ref sm, .int (nI se), .ref ca])), (ca, .inl (cs 0, 8, .inl cf)), (r_3, .inr (2, [.long r_1.toInt64, .long 1])), (r_7, .inr (2, [.long r_5.toInt64, .long 1])), (qx, .inr (2, [.long x1, .long x2])), (r_9, .inr (2, [.long va_11, .long vb_12])), (r_13, .inr (2, [.long va_15, .long vb_16])), (r_17, .inr (2, [.long va_19, .long vb_20])), (r_40, .inr (2, [.long 0, .long 1])), (r_42, .inr (2, [.long 0, .long 1]))] H := hP
    replace hD : va_D A [(hc, .inr (1, [.ref hr, .ref ab, .ref rb, .ref ob, .ref tb, .int fd])), (ab, .inl (cs 4, 9, .inr (.inr (.inr (.inr (va_up f i (some r_40))))))), (rb, .inl (cs 4, 9, .inr (.inr (.inr (.inr g))))), (qy, .inr (2, [.long y1, .long y2])), (qk, .inr (2, [.long k1, .long k2])), (hr, .inr (7, [.int (nI n), .int (nI k), .int (nI al), .int (nI be), .int ea, .int pr, .ref sm, .int (nI se), .ref ca])), (ca, .inl (cs 0, 8, .inl cf)), (r_3, .inr (2, [.long r_1.toInt64, .long 1])), (r_7, .inr (2, [.long r_5.toInt64, .long 1])), (qx, .inr (2, [.long x1, .long x2])), (r_9, .inr (2, [.long va_11, .long vb_12])), (r_13, .inr (2, [.long va_15, .long vb_16])), (r_17, .inr (2, [.long va_19, .long vb_20])), (r_40, .inr (2, [.long 0, .long 1])), (r_42, .inr (2, [.long 0, .long 1]))] := hD
    refine xaast C hP hD hS 2 4 14 2 rfl rfl rfl rfl i rfl (by omega) (by decide) dX1_eliminate_78 ?_
    clear hP hD hS
    try clear locs
    try clear H
    intro H locs hP hD hS
    replace hP : va_P D vwCl [(hc, .inr (1, [.ref hr, .ref ab, .ref rb, .ref ob, .ref tb, .int fd])), (ab, .inl (cs 4, 9, .inr (.inr (.inr (.inr (va_up f i (some r_40))))))), (rb, .inl (cs 4, 9, .inr (.inr (.inr (.inr (va_up g i (some r_42))))))), (qy, .inr (2, [.long y1, .long y2])), (qk, .inr (2, [.long k1, .long k2])), (hr, .inr (7, [.int (nI n), .int (nI k), .int (nI al), .int (nI be), .int ea, .int pr, .ref sm, .int (nI se), .ref ca])), (ca, .inl (cs 0, 8, .inl cf)), (r_3, .inr (2, [.long r_1.toInt64, .long 1])), (r_7, .inr (2, [.long r_5.toInt64, .long 1])), (qx, .inr (2, [.long x1, .long x2])), (r_9, .inr (2, [.long va_11, .long vb_12])), (r_13, .inr (2, [.long va_15, .long vb_16])), (r_17, .inr (2, [.long va_19, .long vb_20])), (r_40, .inr (2, [.long 0, .long 1])), (r_42, .inr (2, [.long 0, .long 1]))] H := hP
    replace hD : va_D A [(hc, .inr (1, [.ref hr, .ref ab, .ref rb, .ref ob, .ref tb, .int fd])), (ab, .inl (cs 4, 9, .inr (.inr (.inr (.inr (va_up f i (some r_40))))))), (rb, .inl (cs 4, 9, .inr (.inr (.inr (.inr (va_up g i (some r_42))))))), (qy, .inr (2, [.long y1, .long y2])), (qk, .inr (2, [.long k1, .long k2])), (hr, .inr (7, [.int (nI n), .int (nI k), .int (nI al), .int (nI be), .int ea, .int pr, .ref sm, .int (nI se), .ref ca])), (ca, .inl (cs 0, 8, .inl cf)), (r_3, .inr (2, [.long r_1.toInt64, .long 1])), (r_7, .inr (2, [.long r_5.toInt64, .long 1])), (qx, .inr (2, [.long x1, .long x2])), (r_9, .inr (2, [.long va_11, .long vb_12])), (r_13, .inr (2, [.long va_15, .long vb_16])), (r_17, .inr (2, [.long va_19, .long vb_20])), (r_40, .inr (2, [.long 0, .long 1])), (r_42, .inr (2, [.long 0, .long 1]))] := hD
    refine lv_goto (tgt := 122) hx hb dX1_eliminate_79 (by decide) ?_
    exact xretv C (⟨r_40, r_42, 0, 1, 0, 1⟩) trivial (xP_map hP [0, 5, 6, 1, 2, 9, 3, 4, 13, 14] rfl) (hD.sub [0, 5, 6, 1, 2, 9, 3, 4, 13, 14] (by decide) rfl) hS (Nat.le_of_ble_eq_true rfl) (Nat.le_of_ble_eq_true rfl) dX1_eliminate_122
