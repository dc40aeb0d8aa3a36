set_option maxHeartbeats 4000000 in
set_option maxRecDepth 100000 in
theorem c_X8_begin_n (l : Launch) (D : va_G) (cs : Nat → ClassId) (hse hr ha wk2 : Nat) (few0 spl0 vse : Int32) (a : Nat) (f : Nat → Int32) : xMet l D cs yX8_begin cX8_begin 2 none ({ frames := 2, cells := 6, slots := 26110, locals := 90 } : Room) [.ref hse, .ref a] [(hse, .inr (8, [.ref hr, .ref ha, .ref wk2, .null, .null, .null, .null, .int few0, .int spl0, .int vse])), (a, .inl (cs 0, 8, .inl f))] (xQv D (fun (u : Nat × Nat × Nat × Nat × Nat × Nat × (Nat → Int32) × (Nat → Int32)) => match u with | (hs3, ra3, sa3, pa, bn, bs, rz1, fz1) => slP 1 fz1) (fun (u : Nat × Nat × Nat × Nat × Nat × Nat × (Nat → Int32) × (Nat → Int32)) => match u with | (hs3, ra3, sa3, pa, bn, bs, rz1, fz1) => [(hse, .inr (8, [.ref hr, .ref ha, .ref wk2, .ref hs3, .ref pa, .ref bn, .ref bs, .int few0, .int (nI 0), .int vse])), (hs3, .inr (9, [.ref ra3, .ref sa3, .int (nI 1)])), (ra3, .inl (cs 0, 16008, .inl rz1)), (sa3, .inl (cs 0, 4096, .inl fz1)), (pa, .inl (cs 0, 2001, .inl (fun _ => 0))), (bn, .inl (cs 0, 2001, .inl (fun _ => 0))), (bs, .inl (cs 0, 2001, .inl (fun _ => 0))), (a, .inl (cs 0, 8, .inl f))])) := by
  refine xMet.intro (by decide) (Nat.le_of_ble_eq_true rfl) ?_
  intro p e s m args below meth c A ls C hP hD hS hl
  have hx := C.1
  have hb := C.2.1
  have hz := C.2.2.2.2.1
  have hown := C.2.2.2.1
  have hA := C.2.2.2.2.2.2.2.2.2
  have hAO := C.2.2.2.2.2.2.2.2.1.2.2
  replace hl : lv_has ls 2 [(0, .ref hse), (1, .ref a)] := hl
  obtain ⟨H, hH⟩ : ∃ H, H = s.heap := ⟨_, rfl⟩
  replace hP : va_P D vwCl [(hse, .inr (8, [.ref hr, .ref ha, .ref wk2, .null, .null, .null, .null, .int few0, .int spl0, .int vse])), (a, .inl (cs 0, 8, .inl f))] H := by rw [hH]; exact hP
  replace hS : va_S A s.heap H [] := by rw [hH]; exact hS
  obtain ⟨locs, hlocs⟩ : ∃ z : List Loc, z = [] := ⟨_, rfl⟩
  rw [← hlocs] at hS
  suffices hW : W p l e ({ frames := 2, cells := 6, slots := 26110, locals := 90 } : Room) s m args below meth c H locs 0 0 (MQ below ((xQv D (fun (u : Nat × Nat × Nat × Nat × Nat × Nat × (Nat → Int32) × (Nat → Int32)) => match u with | (hs3, ra3, sa3, pa, bn, bs, rz1, fz1) => slP 1 fz1) (fun (u : Nat × Nat × Nat × Nat × Nat × Nat × (Nat → Int32) × (Nat → Int32)) => match u with | (hs3, ra3, sa3, pa, bn, bs, rz1, fz1) => [(hse, .inr (8, [.ref hr, .ref ha, .ref wk2, .ref hs3, .ref pa, .ref bn, .ref bs, .int few0, .int (nI 0), .int vse])), (hs3, .inr (9, [.ref ra3, .ref sa3, .int (nI 1)])), (ra3, .inl (cs 0, 16008, .inl rz1)), (sa3, .inl (cs 0, 4096, .inl fz1)), (pa, .inl (cs 0, 2001, .inl (fun _ => 0))), (bn, .inl (cs 0, 2001, .inl (fun _ => 0))), (bs, .inl (cs 0, 2001, .inl (fun _ => 0))), (a, .inl (cs 0, 8, .inl f))])) A) args s 6 26110 A) (F0 m 0 ls []) by rw [hlocs, hH] at hW; exact hW
  clear hH hlocs
  refine lv_aload_n hx hb dX8_begin_0 rfl (lv_at hl 0 rfl) ?_
  refine xget C hP 0 rfl rfl zuX8 3 (by decide) zw2_94 rfl dX8_begin_1 ?_
  refine lv_ifnonnullN hx hb dX8_begin_4 ?_
  refine lv_aload_n hx hb dX8_begin_7 rfl (lv_at hl 0 rfl) ?_
  refine xnew (ci := 9) (fs := [.null, .null, .int 0]) C hP hD hS rfl zuX9 tyX9 tyX9_ok zw4_53 zw3_164 zw1_18 (fun j hj => by rcases (show j = 0 ∨ j = 1 ∨ j = 2 by omega) with rfl | rfl | rfl <;> rfl) (Nat.le_of_ble_eq_true rfl) (Nat.le_of_ble_eq_true rfl) dX8_begin_8 ?_
  clear hP hD hS
  try clear H
  intro q_1 H hP hD hS
  refine W.widen (k := 1) (n := 3) (Nat.le_of_ble_eq_true rfl) (Nat.le_of_ble_eq_true rfl) ?_
  replace hP : va_P D vwCl [(hse, .inr (8, [.ref hr, .ref ha, .ref wk2, .null, .null, .null, .null, .int few0, .int spl0, .int vse])), (a, .inl (cs 0, 8, .inl f)), (q_1, .inr (9, [.null, .null, .int 0]))] H := hP
  replace hD : va_D A [(hse, .inr (8, [.ref hr, .ref ha, .ref wk2, .null, .null, .null, .null, .int few0, .int spl0, .int vse])), (a, .inl (cs 0, 8, .inl f)), (q_1, .inr (9, [.null, .null, .int 0]))] := hD
  refine lv_dup hx hb dX8_begin_11 rfl ?_
  refine xv (wr := [(hse, .inr (8, [.ref hr, .ref ha, .ref wk2, .null, .null, .null, .null, .int few0, .int spl0, .int vse])), (a, .inl (cs 0, 8, .inl f))]) (xIN (As := []) (rest := [.ref q_1, .ref hse]) C (c_X9_init l D cs q_1) kX8_65 C.2.2.2.2.2.2.2.2.1.2.1.2.2.2 hP hD [2] rfl (by decide) ⟨Nat.le_of_ble_eq_true rfl, Nat.le_of_ble_eq_true rfl⟩ rfl hl.1 rfl (Nat.le_of_ble_eq_true rfl) dX8_begin_12 ⟨Nat.le_of_ble_eq_true rfl, Nat.le_of_ble_eq_true rfl⟩) hP hD hS hA [2] [0, 1] rfl rfl (by decide) (by decide) ?_
  clear hP hD hS
  try clear locs
  try clear H
  intro u_3 H locs hw_r_2 hP hD hS
  obtain ⟨ra1_4, sa1_5⟩ := u_3
  refine W.widen (k := 3) (n := 20107) (Nat.le_of_ble_eq_true rfl) (Nat.le_of_ble_eq_true rfl) ?_
  replace hP : va_P D vwCl [(hse, .inr (8, [.ref hr, .ref ha, .ref wk2, .null, .null, .null, .null, .int few0, .int spl0, .int vse])), (a, .inl (cs 0, 8, .inl f)), (q_1, .inr (9, [.ref ra1_4, .ref sa1_5, .int (nI 0)])), (ra1_4, .inl (cs 0, 16008, .inl (fun _ => 0))), (sa1_5, .inl (cs 0, 4096, .inl (fun _ => nI 0)))] H := hP
  replace hD : va_D A [(hse, .inr (8, [.ref hr, .ref ha, .ref wk2, .null, .null, .null, .null, .int few0, .int spl0, .int vse])), (a, .inl (cs 0, 8, .inl f)), (q_1, .inr (9, [.ref ra1_4, .ref sa1_5, .int (nI 0)])), (ra1_4, .inl (cs 0, 16008, .inl (fun _ => 0))), (sa1_5, .inl (cs 0, 4096, .inl (fun _ => nI 0)))] := hD
  refine xput C hP hD hS 0 rfl rfl zuX8 tyX8 tyX8_ok nmX8 3 (by decide) zw2_94 rfl rfl rfl (Nat.le_of_ble_eq_true rfl) dX8_begin_15 ?_
  clear hP hD hS
  try clear locs
  try clear H
  intro H locs hP hD hS
  replace hP : va_P D vwCl [(hse, .inr (8, [.ref hr, .ref ha, .ref wk2, .ref q_1, .null, .null, .null, .int few0, .int spl0, .int vse])), (a, .inl (cs 0, 8, .inl f)), (q_1, .inr (9, [.ref ra1_4, .ref sa1_5, .int (nI 0)])), (ra1_4, .inl (cs 0, 16008, .inl (fun _ => 0))), (sa1_5, .inl (cs 0, 4096, .inl (fun _ => nI 0)))] H := hP
  replace hD : va_D A [(hse, .inr (8, [.ref hr, .ref ha, .ref wk2, .ref q_1, .null, .null, .null, .int few0, .int spl0, .int vse])), (a, .inl (cs 0, 8, .inl f)), (q_1, .inr (9, [.ref ra1_4, .ref sa1_5, .int (nI 0)])), (ra1_4, .inl (cs 0, 16008, .inl (fun _ => 0))), (sa1_5, .inl (cs 0, 4096, .inl (fun _ => nI 0)))] := hD
  refine lv_aload_n hx hb dX8_begin_18 rfl (lv_at hl 0 rfl) ?_
  refine lv_sipush (v := nI 2001) hx hb dX8_begin_19 (by decide) ?_
  refine xnewi (n := 2001) C hP hD hS zw1_126 rfl (by decide) (Nat.le_of_ble_eq_true rfl) (Nat.le_of_ble_eq_true rfl) dX8_begin_22 ?_
  clear hP hD hS
  try clear H
  intro q_6 H hP hD hS
  refine W.widen (k := 4) (n := 22108) (Nat.le_of_ble_eq_true rfl) (Nat.le_of_ble_eq_true rfl) ?_
  replace hP : va_P D vwCl [(hse, .inr (8, [.ref hr, .ref ha, .ref wk2, .ref q_1, .null, .null, .null, .int few0, .int spl0, .int vse])), (a, .inl (cs 0, 8, .inl f)), (q_1, .inr (9, [.ref ra1_4, .ref sa1_5, .int (nI 0)])), (ra1_4, .inl (cs 0, 16008, .inl (fun _ => 0))), (sa1_5, .inl (cs 0, 4096, .inl (fun _ => nI 0))), (q_6, .inl (cs 0, 2001, .inl (fun _ => 0)))] H := hP
  replace hD : va_D A [(hse, .inr (8, [.ref hr, .ref ha, .ref wk2, .ref q_1, .null, .null, .null, .int few0, .int spl0, .int vse])), (a, .inl (cs 0, 8, .inl f)), (q_1, .inr (9, [.ref ra1_4, .ref sa1_5, .int (nI 0)])), (ra1_4, .inl (cs 0, 16008, .inl (fun _ => 0))), (sa1_5, .inl (cs 0, 4096, .inl (fun _ => nI 0))), (q_6, .inl (cs 0, 2001, .inl (fun _ => 0)))] := hD
  refine xput C hP hD hS 0 rfl rfl zuX8 tyX8 tyX8_ok nmX8 4 (by decide) zw2_95 rfl rfl rfl (Nat.le_of_ble_eq_true rfl) dX8_begin_24 ?_
  clear hP hD hS
  try clear locs
  try clear H
  intro H locs hP hD hS
  replace hP : va_P D vwCl [(hse, .inr (8, [.ref hr, .ref ha, .ref wk2, .ref q_1, .ref q_6, .null, .null, .int few0, .int spl0, .int vse])), (a, .inl (cs 0, 8, .inl f)), (q_1, .inr (9, [.ref ra1_4, .ref sa1_5, .int (nI 0)])), (ra1_4, .inl (cs 0, 16008, .inl (fun _ => 0))), (sa1_5, .inl (cs 0, 4096, .inl (fun _ => nI 0))), (q_6, .inl (cs 0, 2001, .inl (fun _ => 0)))] H := hP
  replace hD : va_D A [(hse, .inr (8, [.ref hr, .ref ha, .ref wk2, .ref q_1, .ref q_6, .null, .null, .int few0, .int spl0, .int vse])), (a, .inl (cs 0, 8, .inl f)), (q_1, .inr (9, [.ref ra1_4, .ref sa1_5, .int (nI 0)])), (ra1_4, .inl (cs 0, 16008, .inl (fun _ => 0))), (sa1_5, .inl (cs 0, 4096, .inl (fun _ => nI 0))), (q_6, .inl (cs 0, 2001, .inl (fun _ => 0)))] := hD
  refine lv_aload_n hx hb dX8_begin_27 rfl (lv_at hl 0 rfl) ?_
  refine lv_sipush (v := nI 2001) hx hb dX8_begin_28 (by decide) ?_
  refine xnewi (n := 2001) C hP hD hS zw1_126 rfl (by decide) (Nat.le_of_ble_eq_true rfl) (Nat.le_of_ble_eq_true rfl) dX8_begin_31 ?_
  clear hP hD hS
  try clear H
  intro q_7 H hP hD hS
  refine W.widen (k := 5) (n := 24109) (Nat.le_of_ble_eq_true rfl) (Nat.le_of_ble_eq_true rfl) ?_
  replace hP : va_P D vwCl [(hse, .inr (8, [.ref hr, .ref ha, .ref wk2, .ref q_1, .ref q_6, .null, .null, .int few0, .int spl0, .int vse])), (a, .inl (cs 0, 8, .inl f)), (q_1, .inr (9, [.ref ra1_4, .ref sa1_5, .int (nI 0)])), (ra1_4, .inl (cs 0, 16008, .inl (fun _ => 0))), (sa1_5, .inl (cs 0, 4096, .inl (fun _ => nI 0))), (q_6, .inl (cs 0, 2001, .inl (fun _ => 0))), (q_7, .inl (cs 0, 2001, .inl (fun _ => 0)))] H := hP
  replace hD : va_D A [(hse, .inr (8, [.ref hr, .ref ha, .ref wk2, .ref q_1, .ref q_6, .null, .null, .int few0, .int spl0, .int vse])), (a, .inl (cs 0, 8, .inl f)), (q_1, .inr (9, [.ref ra1_4, .ref sa1_5, .int (nI 0)])), (ra1_4, .inl (cs 0, 16008, .inl (fun _ => 0))), (sa1_5, .inl (cs 0, 4096, .inl (fun _ => nI 0))), (q_6, .inl (cs 0, 2001, .inl (fun _ => 0))), (q_7, .inl (cs 0, 2001, .inl (fun _ => 0)))] := hD
  refine xput C hP hD hS 0 rfl rfl zuX8 tyX8 tyX8_ok nmX8 5 (by decide) zw2_96 rfl rfl rfl (Nat.le_of_ble_eq_true rfl) dX8_begin_33 ?_
  clear hP hD hS
  try clear locs
  try clear H
  intro H locs hP hD hS
  replace hP : va_P D vwCl [(hse, .inr (8, [.ref hr, .ref ha, .ref wk2, .ref q_1, .ref q_6, .ref q_7, .null, .int few0, .int spl0, .int vse])), (a, .inl (cs 0, 8, .inl f)), (q_1, .inr (9, [.ref ra1_4, .ref sa1_5, .int (nI 0)])), (ra1_4, .inl (cs 0, 16008, .inl (fun _ => 0))), (sa1_5, .inl (cs 0, 4096, .inl (fun _ => nI 0))), (q_6, .inl (cs 0, 2001, .inl (fun _ => 0))), (q_7, .inl (cs 0, 2001, .inl (fun _ => 0)))] H := hP
  replace hD : va_D A [(hse, .inr (8, [.ref hr, .ref ha, .ref wk2, .ref q_1, .ref q_6, .ref q_7, .null, .int few0, .int spl0, .int vse])), (a, .inl (cs 0, 8, .inl f)), (q_1, .inr (9, [.ref ra1_4, .ref sa1_5, .int (nI 0)])), (ra1_4, .inl (cs 0, 16008, .inl (fun _ => 0))), (sa1_5, .inl (cs 0, 4096, .inl (fun _ => nI 0))), (q_6, .inl (cs 0, 2001, .inl (fun _ => 0))), (q_7, .inl (cs 0, 2001, .inl (fun _ => 0)))] := hD
  refine lv_aload_n hx hb dX8_begin_36 rfl (lv_at hl 0 rfl) ?_
  refine lv_sipush (v := nI 2001) hx hb dX8_begin_37 (by decide) ?_
  refine xnewi (n := 2001) C hP hD hS zw1_126 rfl (by decide) (Nat.le_of_ble_eq_true rfl) (Nat.le_of_ble_eq_true rfl) dX8_begin_40 ?_
  clear hP hD hS
  try clear H
  intro q_8 H hP hD hS
  refine W.widen (k := 6) (n := 26110) (Nat.le_of_ble_eq_true rfl) (Nat.le_of_ble_eq_true rfl) ?_
  replace hP : va_P D vwCl [(hse, .inr (8, [.ref hr, .ref ha, .ref wk2, .ref q_1, .ref q_6, .ref q_7, .null, .int few0, .int spl0, .int vse])), (a, .inl (cs 0, 8, .inl f)), (q_1, .inr (9, [.ref ra1_4, .ref sa1_5, .int (nI 0)])), (ra1_4, .inl (cs 0, 16008, .inl (fun _ => 0))), (sa1_5, .inl (cs 0, 4096, .inl (fun _ => nI 0))), (q_6, .inl (cs 0, 2001, .inl (fun _ => 0))), (q_7, .inl (cs 0, 2001, .inl (fun _ => 0))), (q_8, .inl (cs 0, 2001, .inl (fun _ => 0)))] H := hP
  replace hD : va_D A [(hse, .inr (8, [.ref hr, .ref ha, .ref wk2, .ref q_1, .ref q_6, .ref q_7, .null, .int few0, .int spl0, .int vse])), (a, .inl (cs 0, 8, .inl f)), (q_1, .inr (9, [.ref ra1_4, .ref sa1_5, .int (nI 0)])), (ra1_4, .inl (cs 0, 16008, .inl (fun _ => 0))), (sa1_5, .inl (cs 0, 4096, .inl (fun _ => nI 0))), (q_6, .inl (cs 0, 2001, .inl (fun _ => 0))), (q_7, .inl (cs 0, 2001, .inl (fun _ => 0))), (q_8, .inl (cs 0, 2001, .inl (fun _ => 0)))] := hD
  refine xput C hP hD hS 0 rfl rfl zuX8 tyX8 tyX8_ok nmX8 6 (by decide) zw2_98 rfl rfl rfl (Nat.le_of_ble_eq_true rfl) dX8_begin_42 ?_
  clear hP hD hS
  try clear locs
  try clear H
  intro H locs hP hD hS
  replace hP : va_P D vwCl [(hse, .inr (8, [.ref hr, .ref ha, .ref wk2, .ref q_1, .ref q_6, .ref q_7, .ref q_8, .int few0, .int spl0, .int vse])), (a, .inl (cs 0, 8, .inl f)), (q_1, .inr (9, [.ref ra1_4, .ref sa1_5, .int (nI 0)])), (ra1_4, .inl (cs 0, 16008, .inl (fun _ => 0))), (sa1_5, .inl (cs 0, 4096, .inl (fun _ => nI 0))), (q_6, .inl (cs 0, 2001, .inl (fun _ => 0))), (q_7, .inl (cs 0, 2001, .inl (fun _ => 0))), (q_8, .inl (cs 0, 2001, .inl (fun _ => 0)))] H := hP
  replace hD : va_D A [(hse, .inr (8, [.ref hr, .ref ha, .ref wk2, .ref q_1, .ref q_6, .ref q_7, .ref q_8, .int few0, .int spl0, .int vse])), (a, .inl (cs 0, 8, .inl f)), (q_1, .inr (9, [.ref ra1_4, .ref sa1_5, .int (nI 0)])), (ra1_4, .inl (cs 0, 16008, .inl (fun _ => 0))), (sa1_5, .inl (cs 0, 4096, .inl (fun _ => nI 0))), (q_6, .inl (cs 0, 2001, .inl (fun _ => 0))), (q_7, .inl (cs 0, 2001, .inl (fun _ => 0))), (q_8, .inl (cs 0, 2001, .inl (fun _ => 0)))] := hD
  refine lv_aload_n hx hb dX8_begin_45 rfl (lv_at hl 0 rfl) ?_
  refine xget C hP 0 rfl rfl zuX8 3 (by decide) zw2_94 rfl dX8_begin_46 ?_
  refine xv (wr := [(hse, .inr (8, [.ref hr, .ref ha, .ref wk2, .ref q_1, .ref q_6, .ref q_7, .ref q_8, .int few0, .int spl0, .int vse])), (a, .inl (cs 0, 8, .inl f)), (q_6, .inl (cs 0, 2001, .inl (fun _ => 0))), (q_7, .inl (cs 0, 2001, .inl (fun _ => 0))), (q_8, .inl (cs 0, 2001, .inl (fun _ => 0)))]) (xV (As := []) (rest := []) C (c_X9_clear l D cs q_1 ra1_4 sa1_5 (fun _ => 0) (fun _ => nI 0) 0) kX8_75 hP hD [2, 3, 4] rfl (by decide) 0 rfl rfl rfl ⟨Nat.le_of_ble_eq_true rfl, Nat.le_of_ble_eq_true rfl⟩ rfl hl.1 rfl (Nat.le_of_ble_eq_true rfl) dX8_begin_49 ⟨Nat.le_of_ble_eq_true rfl, Nat.le_of_ble_eq_true rfl⟩) hP hD hS hA [2, 3, 4] [0, 1, 5, 6, 7] rfl rfl (by decide) (by decide) ?_
  clear hP hD hS
  try clear locs
  try clear H
  intro u_10 H locs hw_r_9 hP hD hS
  refine W.widen (k := 6) (n := 26110) (Nat.le_of_ble_eq_true rfl) (Nat.le_of_ble_eq_true rfl) ?_
  replace hP : va_P D vwCl [(hse, .inr (8, [.ref hr, .ref ha, .ref wk2, .ref q_1, .ref q_6, .ref q_7, .ref q_8, .int few0, .int spl0, .int vse])), (a, .inl (cs 0, 8, .inl f)), (q_6, .inl (cs 0, 2001, .inl (fun _ => 0))), (q_7, .inl (cs 0, 2001, .inl (fun _ => 0))), (q_8, .inl (cs 0, 2001, .inl (fun _ => 0))), (q_1, .inr (9, [.ref ra1_4, .ref sa1_5, .int (nI 0)])), (ra1_4, .inl (cs 0, 16008, .inl (fun _ => 0))), (sa1_5, .inl (cs 0, 4096, .inl (fun _ => nI 0)))] H := hP
  replace hD : va_D A [(hse, .inr (8, [.ref hr, .ref ha, .ref wk2, .ref q_1, .ref q_6, .ref q_7, .ref q_8, .int few0, .int spl0, .int vse])), (a, .inl (cs 0, 8, .inl f)), (q_6, .inl (cs 0, 2001, .inl (fun _ => 0))), (q_7, .inl (cs 0, 2001, .inl (fun _ => 0))), (q_8, .inl (cs 0, 2001, .inl (fun _ => 0))), (q_1, .inr (9, [.ref ra1_4, .ref sa1_5, .int (nI 0)])), (ra1_4, .inl (cs 0, 16008, .inl (fun _ => 0))), (sa1_5, .inl (cs 0, 4096, .inl (fun _ => nI 0)))] := hD
  refine lv_aload_n hx hb dX8_begin_52 rfl (lv_at hl 0 rfl) ?_
  refine xget C hP 0 rfl rfl zuX8 3 (by decide) zw2_94 rfl dX8_begin_53 ?_
  refine lv_aload_n hx hb dX8_begin_56 rfl (lv_at hl 0 rfl) ?_
  refine xget C hP 0 rfl rfl zuX8 3 (by decide) zw2_94 rfl dX8_begin_57 ?_
  refine lv_aload_n hx hb dX8_begin_60 rfl (lv_at hl 1 rfl) ?_
  refine xi (wr := [(hse, .inr (8, [.ref hr, .ref ha, .ref wk2, .ref q_1, .ref q_6, .ref q_7, .ref q_8, .int few0, .int spl0, .int vse])), (q_6, .inl (cs 0, 2001, .inl (fun _ => 0))), (q_7, .inl (cs 0, 2001, .inl (fun _ => 0))), (q_8, .inl (cs 0, 2001, .inl (fun _ => 0)))]) (xV (As := [.ref a]) (rest := [.ref q_1]) C (c_X9_slotOf l D cs q_1 ra1_4 sa1_5 (fun _ => 0) (fun _ => nI 0) 0 a f (slP_z 0) (by decide)) kX8_78 hP hD [5, 6, 7, 1] rfl (by decide) 0 rfl rfl rfl ⟨Nat.le_of_ble_eq_true rfl, Nat.le_of_ble_eq_true rfl⟩ rfl hl.1 rfl (Nat.le_of_ble_eq_true rfl) dX8_begin_61 ⟨Nat.le_of_ble_eq_true rfl, Nat.le_of_ble_eq_true rfl⟩) hP hD hS hA [5, 6, 7, 1] [0, 2, 3, 4] rfl rfl (by decide) (by decide) ?_
  clear hP hD hS
  try clear locs
  try clear H
  intro r_11 u_12 H locs hw_r_11 hP hD hS
  have hw_r_11 : ∃ j, j < 4096 ∧ r_11 = nI j := hw_r_11
  refine W.widen (k := 6) (n := 26110) (Nat.le_of_ble_eq_true rfl) (Nat.le_of_ble_eq_true rfl) ?_
  replace hP : va_P D vwCl [(hse, .inr (8, [.ref hr, .ref ha, .ref wk2, .ref q_1, .ref q_6, .ref q_7, .ref q_8, .int few0, .int spl0, .int vse])), (q_6, .inl (cs 0, 2001, .inl (fun _ => 0))), (q_7, .inl (cs 0, 2001, .inl (fun _ => 0))), (q_8, .inl (cs 0, 2001, .inl (fun _ => 0))), (q_1, .inr (9, [.ref ra1_4, .ref sa1_5, .int (nI 0)])), (ra1_4, .inl (cs 0, 16008, .inl (fun _ => 0))), (sa1_5, .inl (cs 0, 4096, .inl (fun _ => nI 0))), (a, .inl (cs 0, 8, .inl f))] H := hP
  replace hD : va_D A [(hse, .inr (8, [.ref hr, .ref ha, .ref wk2, .ref q_1, .ref q_6, .ref q_7, .ref q_8, .int few0, .int spl0, .int vse])), (q_6, .inl (cs 0, 2001, .inl (fun _ => 0))), (q_7, .inl (cs 0, 2001, .inl (fun _ => 0))), (q_8, .inl (cs 0, 2001, .inl (fun _ => 0))), (q_1, .inr (9, [.ref ra1_4, .ref sa1_5, .int (nI 0)])), (ra1_4, .inl (cs 0, 16008, .inl (fun _ => 0))), (sa1_5, .inl (cs 0, 4096, .inl (fun _ => nI 0))), (a, .inl (cs 0, 8, .inl f))] := hD
  obtain ⟨t_13, h_t_13, e_t_13⟩ := hw_r_11
  refine lv_topi (nm_r (e' := nI t_13) e_t_13 ?_)
  refine lv_aload_n hx hb dX8_begin_64 rfl (lv_at hl 1 rfl) ?_
  refine xi (wr := [(hse, .inr (8, [.ref hr, .ref ha, .ref wk2, .ref q_1, .ref q_6, .ref q_7, .ref q_8, .int few0, .int spl0, .int vse])), (q_6, .inl (cs 0, 2001, .inl (fun _ => 0))), (q_7, .inl (cs 0, 2001, .inl (fun _ => 0))), (q_8, .inl (cs 0, 2001, .inl (fun _ => 0)))]) (xV (As := [.int (nI t_13), .ref a]) (rest := []) C (c_X9_add l D cs q_1 ra1_4 sa1_5 (fun _ => 0) (fun _ => nI 0) 0 a f t_13 (slP_z 0) (by decide) (by assumption)) kX8_82 hP hD [4, 5, 6, 7] rfl (by decide) 0 rfl rfl rfl ⟨Nat.le_of_ble_eq_true rfl, Nat.le_of_ble_eq_true rfl⟩ rfl hl.1 rfl (Nat.le_of_ble_eq_true rfl) dX8_begin_65 ⟨Nat.le_of_ble_eq_true rfl, Nat.le_of_ble_eq_true rfl⟩) hP hD hS hA [4, 5, 6, 7] [0, 1, 2, 3] rfl rfl (by decide) (by decide) ?_
  clear hP hD hS
  try clear locs
  try clear H
  intro r_14 u_15 H locs hw_r_14 hP hD hS
  obtain ⟨rf2_16, sf2_17, sz2_18⟩ := u_15
  have hw_r_14 : slP sz2_18 sf2_17 ∧ 0 ≤ sz2_18 ∧ sz2_18 ≤ 2001 ∧ ((2000 < 0 ∧ r_14 = -1 ∧ sz2_18 = 0) ∨ (0 ≤ 2000 ∧ r_14 = nI 0 ∧ sz2_18 = 0 + 1)) := hw_r_14
  refine W.widen (k := 6) (n := 26110) (Nat.le_of_ble_eq_true rfl) (Nat.le_of_ble_eq_true rfl) ?_
  replace hP : va_P D vwCl [(hse, .inr (8, [.ref hr, .ref ha, .ref wk2, .ref q_1, .ref q_6, .ref q_7, .ref q_8, .int few0, .int spl0, .int vse])), (q_6, .inl (cs 0, 2001, .inl (fun _ => 0))), (q_7, .inl (cs 0, 2001, .inl (fun _ => 0))), (q_8, .inl (cs 0, 2001, .inl (fun _ => 0))), (q_1, .inr (9, [.ref ra1_4, .ref sa1_5, .int (nI sz2_18)])), (ra1_4, .inl (cs 0, 16008, .inl rf2_16)), (sa1_5, .inl (cs 0, 4096, .inl sf2_17)), (a, .inl (cs 0, 8, .inl f))] H := hP
  replace hD : va_D A [(hse, .inr (8, [.ref hr, .ref ha, .ref wk2, .ref q_1, .ref q_6, .ref q_7, .ref q_8, .int few0, .int spl0, .int vse])), (q_6, .inl (cs 0, 2001, .inl (fun _ => 0))), (q_7, .inl (cs 0, 2001, .inl (fun _ => 0))), (q_8, .inl (cs 0, 2001, .inl (fun _ => 0))), (q_1, .inr (9, [.ref ra1_4, .ref sa1_5, .int (nI sz2_18)])), (ra1_4, .inl (cs 0, 16008, .inl rf2_16)), (sa1_5, .inl (cs 0, 4096, .inl sf2_17)), (a, .inl (cs 0, 8, .inl f))] := hD
  obtain ⟨hA1, hA2, hA3, hA4⟩ := hw_r_14
  obtain ⟨-, rfl, hA5⟩ : 0 ≤ 2000 ∧ r_14 = nI 0 ∧ sz2_18 = 0 + 1 := hA4.resolve_left (fun q => absurd q.1 (by decide))
  obtain rfl : sz2_18 = 1 := hA5
  replace hP : va_P D vwCl [(hse, .inr (8, [.ref hr, .ref ha, .ref wk2, .ref q_1, .ref q_6, .ref q_7, .ref q_8, .int few0, .int spl0, .int vse])), (q_6, .inl (cs 0, 2001, .inl (fun _ => 0))), (q_7, .inl (cs 0, 2001, .inl (fun _ => 0))), (q_8, .inl (cs 0, 2001, .inl (fun _ => 0))), (q_1, .inr (9, [.ref ra1_4, .ref sa1_5, .int (nI 1)])), (ra1_4, .inl (cs 0, 16008, .inl rf2_16)), (sa1_5, .inl (cs 0, 4096, .inl sf2_17)), (a, .inl (cs 0, 8, .inl f))] H := hP
  replace hD : va_D A [(hse, .inr (8, [.ref hr, .ref ha, .ref wk2, .ref q_1, .ref q_6, .ref q_7, .ref q_8, .int few0, .int spl0, .int vse])), (q_6, .inl (cs 0, 2001, .inl (fun _ => 0))), (q_7, .inl (cs 0, 2001, .inl (fun _ => 0))), (q_8, .inl (cs 0, 2001, .inl (fun _ => 0))), (q_1, .inr (9, [.ref ra1_4, .ref sa1_5, .int (nI 1)])), (ra1_4, .inl (cs 0, 16008, .inl rf2_16)), (sa1_5, .inl (cs 0, 4096, .inl sf2_17)), (a, .inl (cs 0, 8, .inl f))] := hD
  refine lv_pop hx hb dX8_begin_68 rfl ?_
  refine lv_aload_n hx hb dX8_begin_69 rfl (lv_at hl 0 rfl) ?_
  refine lv_iconst (v := nI 0) hx hb dX8_begin_70 (by decide) ?_
  refine xput C hP hD hS 0 rfl rfl zuX8 tyX8 tyX8_ok nmX8 8 (by decide) zw2_102 rfl rfl rfl (Nat.le_of_ble_eq_true rfl) dX8_begin_71 ?_
  clear hP hD hS
  try clear locs
  try clear H
  intro H locs hP hD hS
  replace hP : va_P D vwCl [(hse, .inr (8, [.ref hr, .ref ha, .ref wk2, .ref q_1, .ref q_6, .ref q_7, .ref q_8, .int few0, .int (nI 0), .int vse])), (q_6, .inl (cs 0, 2001, .inl (fun _ => 0))), (q_7, .inl (cs 0, 2001, .inl (fun _ => 0))), (q_8, .inl (cs 0, 2001, .inl (fun _ => 0))), (q_1, .inr (9, [.ref ra1_4, .ref sa1_5, .int (nI 1)])), (ra1_4, .inl (cs 0, 16008, .inl rf2_16)), (sa1_5, .inl (cs 0, 4096, .inl sf2_17)), (a, .inl (cs 0, 8, .inl f))] H := hP
  replace hD : va_D A [(hse, .inr (8, [.ref hr, .ref ha, .ref wk2, .ref q_1, .ref q_6, .ref q_7, .ref q_8, .int few0, .int (nI 0), .int vse])), (q_6, .inl (cs 0, 2001, .inl (fun _ => 0))), (q_7, .inl (cs 0, 2001, .inl (fun _ => 0))), (q_8, .inl (cs 0, 2001, .inl (fun _ => 0))), (q_1, .inr (9, [.ref ra1_4, .ref sa1_5, .int (nI 1)])), (ra1_4, .inl (cs 0, 16008, .inl rf2_16)), (sa1_5, .inl (cs 0, 4096, .inl sf2_17)), (a, .inl (cs 0, 8, .inl f))] := hD
  exact xretv C (⟨q_1, ra1_4, sa1_5, q_6, q_7, q_8, rf2_16, sf2_17⟩) hA1 (xP_map hP [0, 4, 5, 6, 1, 2, 3, 7] rfl) (hD.sub [0, 4, 5, 6, 1, 2, 3, 7] (by decide) rfl) hS (Nat.le_of_ble_eq_true rfl) (Nat.le_of_ble_eq_true rfl) dX8_begin_74

set_option maxHeartbeats 4000000 in
set_option maxRecDepth 100000 in
theorem c_X8_begin_a (l : Launch) (D : va_G) (cs : Nat → ClassId) (hse hr ha wk2 hs3 pa bn bs spl : Nat) (few vse : Int32) (ra3 sa3 sz3 : Nat) (rf3 sf3 : Nat → Int32) (a : Nat) (f : Nat → Int32) : xMet l D cs yX8_begin cX8_begin 2 none ({ frames := 2, cells := 0, slots := 0, locals := 90 } : Room) [.ref hse, .ref a] [(hse, .inr (8, [.ref hr, .ref ha, .ref wk2, .ref hs3, .ref pa, .ref bn, .ref bs, .int few, .int (nI spl), .int vse])), (hs3, .inr (9, [.ref ra3, .ref sa3, .int (nI sz3)])), (ra3, .inl (cs 0, 16008, .inl rf3)), (sa3, .inl (cs 0, 4096, .inl sf3)), (a, .inl (cs 0, 8, .inl f))] (xQv D (fun (u : (Nat → Int32) × (Nat → Int32)) => match u with | (rz1, fz1) => slP 1 fz1) (fun (u : (Nat → Int32) × (Nat → Int32)) => match u with | (rz1, fz1) => [(hse, .inr (8, [.ref hr, .ref ha, .ref wk2, .ref hs3, .ref pa, .ref bn, .ref bs, .int few, .int (nI 0), .int vse])), (hs3, .inr (9, [.ref ra3, .ref sa3, .int (nI 1)])), (ra3, .inl (cs 0, 16008, .inl rz1)), (sa3, .inl (cs 0, 4096, .inl fz1)), (a, .inl (cs 0, 8, .inl f))])) := by
  refine xMet.intro (by decide) (Nat.le_of_ble_eq_true rfl) ?_
  intro p e s m args below meth c A ls C hP hD hS hl
  have hx := C.1
  have hb := C.2.1
  have hz := C.2.2.2.2.1
  have hown := C.2.2.2.1
  have hA := C.2.2.2.2.2.2.2.2.2
  have hAO := C.2.2.2.2.2.2.2.2.1.2.2
  replace hl : lv_has ls 2 [(0, .ref hse), (1, .ref a)] := hl
  obtain ⟨H, hH⟩ : ∃ H, H = s.heap := ⟨_, rfl⟩
  replace hP : va_P D vwCl [(hse, .inr (8, [.ref hr, .ref ha, .ref wk2, .ref hs3, .ref pa, .ref bn, .ref bs, .int few, .int (nI spl), .int vse])), (hs3, .inr (9, [.ref ra3, .ref sa3, .int (nI sz3)])), (ra3, .inl (cs 0, 16008, .inl rf3)), (sa3, .inl (cs 0, 4096, .inl sf3)), (a, .inl (cs 0, 8, .inl f))] H := by rw [hH]; exact hP
  replace hS : va_S A s.heap H [] := by rw [hH]; exact hS
  obtain ⟨locs, hlocs⟩ : ∃ z : List Loc, z = [] := ⟨_, rfl⟩
  rw [← hlocs] at hS
  suffices hW : W p l e ({ frames := 2, cells := 0, slots := 0, locals := 90 } : Room) s m args below meth c H locs 0 0 (MQ below ((xQv D (fun (u : (Nat → Int32) × (Nat → Int32)) => match u with | (rz1, fz1) => slP 1 fz1) (fun (u : (Nat → Int32) × (Nat → Int32)) => match u with | (rz1, fz1) => [(hse, .inr (8, [.ref hr, .ref ha, .ref wk2, .ref hs3, .ref pa, .ref bn, .ref bs, .int few, .int (nI 0), .int vse])), (hs3, .inr (9, [.ref ra3, .ref sa3, .int (nI 1)])), (ra3, .inl (cs 0, 16008, .inl rz1)), (sa3, .inl (cs 0, 4096, .inl fz1)), (a, .inl (cs 0, 8, .inl f))])) A) args s 0 0 A) (F0 m 0 ls []) by rw [hlocs, hH] at hW; exact hW
  clear hH hlocs
  refine lv_aload_n hx hb dX8_begin_0 rfl (lv_at hl 0 rfl) ?_
  refine xget C hP 0 rfl rfl zuX8 3 (by decide) zw2_94 rfl dX8_begin_1 ?_
  refine lv_ifnonnull (tgt := 45) hx hb dX8_begin_4 (by decide) ?_
  refine lv_aload_n hx hb dX8_begin_45 rfl (lv_at hl 0 rfl) ?_
  refine xget C hP 0 rfl rfl zuX8 3 (by decide) zw2_94 rfl dX8_begin_46 ?_
  refine xv (wr := [(hse, .inr (8, [.ref hr, .ref ha, .ref wk2, .ref hs3, .ref pa, .ref bn, .ref bs, .int few, .int (nI spl), .int vse])), (a, .inl (cs 0, 8, .inl f))]) (xV (As := []) (rest := []) C (c_X9_clear l D cs hs3 ra3 sa3 rf3 sf3 sz3) kX8_75 hP hD [1, 2, 3] rfl (by decide) 0 rfl rfl rfl ⟨Nat.le_of_ble_eq_true rfl, Nat.le_of_ble_eq_true rfl⟩ rfl hl.1 rfl (Nat.le_of_ble_eq_true rfl) dX8_begin_49 ⟨Nat.le_of_ble_eq_true rfl, Nat.le_of_ble_eq_true rfl⟩) hP hD hS hA [1, 2, 3] [0, 4] rfl rfl (by decide) (by decide) ?_
  clear hP hD hS
  try clear locs
  try clear H
  intro u_2 H locs hw_r_1 hP hD hS
  refine W.widen (k := 0) (n := 0) (Nat.le_of_ble_eq_true rfl) (Nat.le_of_ble_eq_true rfl) ?_
  replace hP : va_P D vwCl [(hse, .inr (8, [.ref hr, .ref ha, .ref wk2, .ref hs3, .ref pa, .ref bn, .ref bs, .int few, .int (nI spl), .int vse])), (a, .inl (cs 0, 8, .inl f)), (hs3, .inr (9, [.ref ra3, .ref sa3, .int (nI 0)])), (ra3, .inl (cs 0, 16008, .inl rf3)), (sa3, .inl (cs 0, 4096, .inl (fun _ => nI 0)))] H := hP
  replace hD : va_D A [(hse, .inr (8, [.ref hr, .ref ha, .ref wk2, .ref hs3, .ref pa, .ref bn, .ref bs, .int few, .int (nI spl), .int vse])), (a, .inl (cs 0, 8, .inl f)), (hs3, .inr (9, [.ref ra3, .ref sa3, .int (nI 0)])), (ra3, .inl (cs 0, 16008, .inl rf3)), (sa3, .inl (cs 0, 4096, .inl (fun _ => nI 0)))] := hD
  refine lv_aload_n hx hb dX8_begin_52 rfl (lv_at hl 0 rfl) ?_
  refine xget C hP 0 rfl rfl zuX8 3 (by decide) zw2_94 rfl dX8_begin_53 ?_
  refine lv_aload_n hx hb dX8_begin_56 rfl (lv_at hl 0 rfl) ?_
  refine xget C hP 0 rfl rfl zuX8 3 (by decide) zw2_94 rfl dX8_begin_57 ?_
  refine lv_aload_n hx hb dX8_begin_60 rfl (lv_at hl 1 rfl) ?_
  refine xi (wr := [(hse, .inr (8, [.ref hr, .ref ha, .ref wk2, .ref hs3, .ref pa, .ref bn, .ref bs, .int few, .int (nI spl), .int vse]))]) (xV (As := [.ref a]) (rest := [.ref hs3]) C (c_X9_slotOf l D cs hs3 ra3 sa3 rf3 (fun _ => nI 0) 0 a f (slP_z 0) (by decide)) kX8_78 hP hD [2, 3, 4, 1] rfl (by decide) 0 rfl rfl rfl ⟨Nat.le_of_ble_eq_true rfl, Nat.le_of_ble_eq_true rfl⟩ rfl hl.1 rfl (Nat.le_of_ble_eq_true rfl) dX8_begin_61 ⟨Nat.le_of_ble_eq_true rfl, Nat.le_of_ble_eq_true rfl⟩) hP hD hS hA [2, 3, 4, 1] [0] rfl rfl (by decide) (by decide) ?_
  clear hP hD hS
  try clear locs
  try clear H
  intro r_3 u_4 H locs hw_r_3 hP hD hS
  have hw_r_3 : ∃ j, j < 4096 ∧ r_3 = nI j := hw_r_3
  refine W.widen (k := 0) (n := 0) (Nat.le_of_ble_eq_true rfl) (Nat.le_of_ble_eq_true rfl) ?_
  replace hP : va_P D vwCl [(hse, .inr (8, [.ref hr, .ref ha, .ref wk2, .ref hs3, .ref pa, .ref bn, .ref bs, .int few, .int (nI spl), .int vse])), (hs3, .inr (9, [.ref ra3, .ref sa3, .int (nI 0)])), (ra3, .inl (cs 0, 16008, .inl rf3)), (sa3, .inl (cs 0, 4096, .inl (fun _ => nI 0))), (a, .inl (cs 0, 8, .inl f))] H := hP
  replace hD : va_D A [(hse, .inr (8, [.ref hr, .ref ha, .ref wk2, .ref hs3, .ref pa, .ref bn, .ref bs, .int few, .int (nI spl), .int vse])), (hs3, .inr (9, [.ref ra3, .ref sa3, .int (nI 0)])), (ra3, .inl (cs 0, 16008, .inl rf3)), (sa3, .inl (cs 0, 4096, .inl (fun _ => nI 0))), (a, .inl (cs 0, 8, .inl f))] := hD
  obtain ⟨t_5, h_t_5, e_t_5⟩ := hw_r_3
  refine lv_topi (nm_r (e' := nI t_5) e_t_5 ?_)
  refine lv_aload_n hx hb dX8_begin_64 rfl (lv_at hl 1 rfl) ?_
  refine xi (wr := [(hse, .inr (8, [.ref hr, .ref ha, .ref wk2, .ref hs3, .ref pa, .ref bn, .ref bs, .int few, .int (nI spl), .int vse]))]) (xV (As := [.int (nI t_5), .ref a]) (rest := []) C (c_X9_add l D cs hs3 ra3 sa3 rf3 (fun _ => nI 0) 0 a f t_5 (slP_z 0) (by decide) (by assumption)) kX8_82 hP hD [1, 2, 3, 4] rfl (by decide) 0 rfl rfl rfl ⟨Nat.le_of_ble_eq_true rfl, Nat.le_of_ble_eq_true rfl⟩ rfl hl.1 rfl (Nat.le_of_ble_eq_true rfl) dX8_begin_65 ⟨Nat.le_of_ble_eq_true rfl, Nat.le_of_ble_eq_true rfl⟩) hP hD hS hA [1, 2, 3, 4] [0] rfl rfl (by decide) (by decide) ?_
  clear hP hD hS
  try clear locs
  try clear H
  intro r_6 u_7 H locs hw_r_6 hP hD hS
  obtain ⟨rf2_8, sf2_9, sz2_10⟩ := u_7
  have hw_r_6 : slP sz2_10 sf2_9 ∧ 0 ≤ sz2_10 ∧ sz2_10 ≤ 2001 ∧ ((2000 < 0 ∧ r_6 = -1 ∧ sz2_10 = 0) ∨ (0 ≤ 2000 ∧ r_6 = nI 0 ∧ sz2_10 = 0 + 1)) := hw_r_6
  refine W.widen (k := 0) (n := 0) (Nat.le_of_ble_eq_true rfl) (Nat.le_of_ble_eq_true rfl) ?_
  replace hP : va_P D vwCl [(hse, .inr (8, [.ref hr, .ref ha, .ref wk2, .ref hs3, .ref pa, .ref bn, .ref bs, .int few, .int (nI spl), .int vse])), (hs3, .inr (9, [.ref ra3, .ref sa3, .int (nI sz2_10)])), (ra3, .inl (cs 0, 16008, .inl rf2_8)), (sa3, .inl (cs 0, 4096, .inl sf2_9)), (a, .inl (cs 0, 8, .inl f))] H := hP
  replace hD : va_D A [(hse, .inr (8, [.ref hr, .ref ha, .ref wk2, .ref hs3, .ref pa, .ref bn, .ref bs, .int few, .int (nI spl), .int vse])), (hs3, .inr (9, [.ref ra3, .ref sa3, .int (nI sz2_10)])), (ra3, .inl (cs 0, 16008, .inl rf2_8)), (sa3, .inl (cs 0, 4096, .inl sf2_9)), (a, .inl (cs 0, 8, .inl f))] := hD
  obtain ⟨hA1, hA2, hA3, hA4⟩ := hw_r_6
  obtain ⟨-, rfl, hA5⟩ : 0 ≤ 2000 ∧ r_6 = nI 0 ∧ sz2_10 = 0 + 1 := hA4.resolve_left (fun q => absurd q.1 (by decide))
  obtain rfl : sz2_10 = 1 := hA5
  replace hP : va_P D vwCl [(hse, .inr (8, [.ref hr, .ref ha, .ref wk2, .ref hs3, .ref pa, .ref bn, .ref bs, .int few, .int (nI spl), .int vse])), (hs3, .inr (9, [.ref ra3, .ref sa3, .int (nI 1)])), (ra3, .inl (cs 0, 16008, .inl rf2_8)), (sa3, .inl (cs 0, 4096, .inl sf2_9)), (a, .inl (cs 0, 8, .inl f))] H := hP
  replace hD : va_D A [(hse, .inr (8, [.ref hr, .ref ha, .ref wk2, .ref hs3, .ref pa, .ref bn, .ref bs, .int few, .int (nI spl), .int vse])), (hs3, .inr (9, [.ref ra3, .ref sa3, .int (nI 1)])), (ra3, .inl (cs 0, 16008, .inl rf2_8)), (sa3, .inl (cs 0, 4096, .inl sf2_9)), (a, .inl (cs 0, 8, .inl f))] := hD
  refine lv_pop hx hb dX8_begin_68 rfl ?_
  refine lv_aload_n hx hb dX8_begin_69 rfl (lv_at hl 0 rfl) ?_
  refine lv_iconst (v := nI 0) hx hb dX8_begin_70 (by decide) ?_
  refine xput C hP hD hS 0 rfl rfl zuX8 tyX8 tyX8_ok nmX8 8 (by decide) zw2_102 rfl rfl rfl (Nat.le_of_ble_eq_true rfl) dX8_begin_71 ?_
  clear hP hD hS
  try clear locs
  try clear H
  intro H locs hP hD hS
  replace hP : va_P D vwCl [(hse, .inr (8, [.ref hr, .ref ha, .ref wk2, .ref hs3, .ref pa, .ref bn, .ref bs, .int few, .int (nI 0), .int vse])), (hs3, .inr (9, [.ref ra3, .ref sa3, .int (nI 1)])), (ra3, .inl (cs 0, 16008, .inl rf2_8)), (sa3, .inl (cs 0, 4096, .inl sf2_9)), (a, .inl (cs 0, 8, .inl f))] H := hP
  replace hD : va_D A [(hse, .inr (8, [.ref hr, .ref ha, .ref wk2, .ref hs3, .ref pa, .ref bn, .ref bs, .int few, .int (nI 0), .int vse])), (hs3, .inr (9, [.ref ra3, .ref sa3, .int (nI 1)])), (ra3, .inl (cs 0, 16008, .inl rf2_8)), (sa3, .inl (cs 0, 4096, .inl sf2_9)), (a, .inl (cs 0, 8, .inl f))] := hD
  exact xretv C (⟨rf2_8, sf2_9⟩) hA1 hP hD hS (Nat.le_of_ble_eq_true rfl) (Nat.le_of_ble_eq_true rfl) dX8_begin_74
