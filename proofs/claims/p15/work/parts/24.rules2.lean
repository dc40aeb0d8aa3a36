set_option maxHeartbeats 4000000 in
set_option maxRecDepth 100000 in
theorem c_X7_take (l : Launch) (D : va_G) (cs : Nat → ClassId) (h sm ca n k al be : Nat) (ea pr se : Int32) (rw : Nat → Nat) (cf : Nat → Int32) (sg : Nat → Nat → Int32) (n0 k0 al0 be0 ea2 se2 : Int32) (h1 : 2 ≤ n ∧ n ≤ 8) (h2 : k < n) (h3 : al ≤ k) (he : ea2 = if nI be < ea then nI be else ea) (hse : se2 = chF (n - 1) k) : xMet l D cs yX7_take cX7_take 6 none ({ frames := 3, cells := 0, slots := 0, locals := 66 } : Room) [.ref h, .int (nI n), .int (nI k), .int (nI al), .int (nI be)] [(h, .inr (7, [.int n0, .int k0, .int al0, .int be0, .int ea, .int pr, .ref sm, .int se, .ref ca])), (ca, .inl (cs 0, 8, .inl cf)), (sm, .inl (cs 5, 8, .inr (.inr (.inr (.inr (fun i => if i < 8 then some (rw i) else none)))))), (rw 0, .inl (cs 0, 35, .inl (sg 0))), (rw 1, .inl (cs 0, 35, .inl (sg 1))), (rw 2, .inl (cs 0, 35, .inl (sg 2))), (rw 3, .inl (cs 0, 35, .inl (sg 3))), (rw 4, .inl (cs 0, 35, .inl (sg 4))), (rw 5, .inl (cs 0, 35, .inl (sg 5))), (rw 6, .inl (cs 0, 35, .inl (sg 6))), (rw 7, .inl (cs 0, 35, .inl (sg 7)))] (xQv D (fun (sg2 : (Nat → Nat → Int32)) => True) (fun (sg2 : (Nat → Nat → Int32)) => [(h, .inr (7, [.int (nI n), .int (nI k), .int (nI al), .int (nI be), .int ea2, .int pr, .ref sm, .int se2, .ref ca])), (ca, .inl (cs 0, 8, .inl (fcF n k al cf n))), (sm, .inl (cs 5, 8, .inr (.inr (.inr (.inr (fun i => if i < 8 then some (rw i) else none)))))), (rw 0, .inl (cs 0, 35, .inl (sg2 0))), (rw 1, .inl (cs 0, 35, .inl (sg2 1))), (rw 2, .inl (cs 0, 35, .inl (sg2 2))), (rw 3, .inl (cs 0, 35, .inl (sg2 3))), (rw 4, .inl (cs 0, 35, .inl (sg2 4))), (rw 5, .inl (cs 0, 35, .inl (sg2 5))), (rw 6, .inl (cs 0, 35, .inl (sg2 6))), (rw 7, .inl (cs 0, 35, .inl (sg2 7)))])) := by
  refine xMet.intro (by decide) (Nat.le_of_ble_eq_true rfl) ?_
  intro p e s m args below meth c A ls C hP hD hS hl
  have hx := C.1
  have hb := C.2.1
  have hz := C.2.2.2.2.1
  have hown := C.2.2.2.1
  have hA := C.2.2.2.2.2.2.2.2.2
  have hAO := C.2.2.2.2.2.2.2.2.1.2.2
  replace hl : lv_has ls 6 [(0, .ref h), (1, .int (nI n)), (2, .int (nI k)), (3, .int (nI al)), (4, .int (nI be))] := hl
  obtain ⟨H, hH⟩ : ∃ H, H = s.heap := ⟨_, rfl⟩
  replace hP : va_P D vwCl [(h, .inr (7, [.int n0, .int k0, .int al0, .int be0, .int ea, .int pr, .ref sm, .int se, .ref ca])), (ca, .inl (cs 0, 8, .inl cf)), (sm, .inl (cs 5, 8, .inr (.inr (.inr (.inr (fun i => if i < 8 then some (rw i) else none)))))), (rw 0, .inl (cs 0, 35, .inl (sg 0))), (rw 1, .inl (cs 0, 35, .inl (sg 1))), (rw 2, .inl (cs 0, 35, .inl (sg 2))), (rw 3, .inl (cs 0, 35, .inl (sg 3))), (rw 4, .inl (cs 0, 35, .inl (sg 4))), (rw 5, .inl (cs 0, 35, .inl (sg 5))), (rw 6, .inl (cs 0, 35, .inl (sg 6))), (rw 7, .inl (cs 0, 35, .inl (sg 7)))] H := by rw [hH]; exact hP
  replace hS : va_S A s.heap H [] := by rw [hH]; exact hS
  obtain ⟨locs, hlocs⟩ : ∃ z : List Loc, z = [] := ⟨_, rfl⟩
  rw [← hlocs] at hS
  suffices hW : W p l e ({ frames := 3, cells := 0, slots := 0, locals := 66 } : Room) s m args below meth c H locs 0 0 (MQ below ((xQv D (fun (sg2 : (Nat → Nat → Int32)) => True) (fun (sg2 : (Nat → Nat → Int32)) => [(h, .inr (7, [.int (nI n), .int (nI k), .int (nI al), .int (nI be), .int ea2, .int pr, .ref sm, .int se2, .ref ca])), (ca, .inl (cs 0, 8, .inl (fcF n k al cf n))), (sm, .inl (cs 5, 8, .inr (.inr (.inr (.inr (fun i => if i < 8 then some (rw i) else none)))))), (rw 0, .inl (cs 0, 35, .inl (sg2 0))), (rw 1, .inl (cs 0, 35, .inl (sg2 1))), (rw 2, .inl (cs 0, 35, .inl (sg2 2))), (rw 3, .inl (cs 0, 35, .inl (sg2 3))), (rw 4, .inl (cs 0, 35, .inl (sg2 4))), (rw 5, .inl (cs 0, 35, .inl (sg2 5))), (rw 6, .inl (cs 0, 35, .inl (sg2 6))), (rw 7, .inl (cs 0, 35, .inl (sg2 7)))])) A) args s 0 0 A) (F0 m 0 ls []) by rw [hlocs, hH] at hW; exact hW
  clear hH hlocs
  refine lv_aload_n hx hb dX7_take_0 rfl (lv_at hl 0 rfl) ?_
  refine lv_iload_n hx hb dX7_take_1 rfl (lv_at hl 1 rfl) ?_
  refine xput C hP hD hS 0 rfl rfl zuX7 tyX7 tyX7_ok nmX7 0 (by decide) zw1_78 rfl rfl rfl (Nat.le_of_ble_eq_true rfl) dX7_take_2 ?_
  clear hP hD hS
  try clear locs
  try clear H
  intro H locs hP hD hS
  replace hP : va_P D vwCl [(h, .inr (7, [.int (nI n), .int k0, .int al0, .int be0, .int ea, .int pr, .ref sm, .int se, .ref ca])), (ca, .inl (cs 0, 8, .inl cf)), (sm, .inl (cs 5, 8, .inr (.inr (.inr (.inr (fun i => if i < 8 then some (rw i) else none)))))), (rw 0, .inl (cs 0, 35, .inl (sg 0))), (rw 1, .inl (cs 0, 35, .inl (sg 1))), (rw 2, .inl (cs 0, 35, .inl (sg 2))), (rw 3, .inl (cs 0, 35, .inl (sg 3))), (rw 4, .inl (cs 0, 35, .inl (sg 4))), (rw 5, .inl (cs 0, 35, .inl (sg 5))), (rw 6, .inl (cs 0, 35, .inl (sg 6))), (rw 7, .inl (cs 0, 35, .inl (sg 7)))] H := hP
  replace hD : va_D A [(h, .inr (7, [.int (nI n), .int k0, .int al0, .int be0, .int ea, .int pr, .ref sm, .int se, .ref ca])), (ca, .inl (cs 0, 8, .inl cf)), (sm, .inl (cs 5, 8, .inr (.inr (.inr (.inr (fun i => if i < 8 then some (rw i) else none)))))), (rw 0, .inl (cs 0, 35, .inl (sg 0))), (rw 1, .inl (cs 0, 35, .inl (sg 1))), (rw 2, .inl (cs 0, 35, .inl (sg 2))), (rw 3, .inl (cs 0, 35, .inl (sg 3))), (rw 4, .inl (cs 0, 35, .inl (sg 4))), (rw 5, .inl (cs 0, 35, .inl (sg 5))), (rw 6, .inl (cs 0, 35, .inl (sg 6))), (rw 7, .inl (cs 0, 35, .inl (sg 7)))] := hD
  refine lv_aload_n hx hb dX7_take_5 rfl (lv_at hl 0 rfl) ?_
  refine lv_iload_n hx hb dX7_take_6 rfl (lv_at hl 2 rfl) ?_
  refine xput C hP hD hS 0 rfl rfl zuX7 tyX7 tyX7_ok nmX7 1 (by decide) zw1_83 rfl rfl rfl (Nat.le_of_ble_eq_true rfl) dX7_take_7 ?_
  clear hP hD hS
  try clear locs
  try clear H
  intro H locs hP hD hS
  replace hP : va_P D vwCl [(h, .inr (7, [.int (nI n), .int (nI k), .int al0, .int be0, .int ea, .int pr, .ref sm, .int se, .ref ca])), (ca, .inl (cs 0, 8, .inl cf)), (sm, .inl (cs 5, 8, .inr (.inr (.inr (.inr (fun i => if i < 8 then some (rw i) else none)))))), (rw 0, .inl (cs 0, 35, .inl (sg 0))), (rw 1, .inl (cs 0, 35, .inl (sg 1))), (rw 2, .inl (cs 0, 35, .inl (sg 2))), (rw 3, .inl (cs 0, 35, .inl (sg 3))), (rw 4, .inl (cs 0, 35, .inl (sg 4))), (rw 5, .inl (cs 0, 35, .inl (sg 5))), (rw 6, .inl (cs 0, 35, .inl (sg 6))), (rw 7, .inl (cs 0, 35, .inl (sg 7)))] H := hP
  replace hD : va_D A [(h, .inr (7, [.int (nI n), .int (nI k), .int al0, .int be0, .int ea, .int pr, .ref sm, .int se, .ref ca])), (ca, .inl (cs 0, 8, .inl cf)), (sm, .inl (cs 5, 8, .inr (.inr (.inr (.inr (fun i => if i < 8 then some (rw i) else none)))))), (rw 0, .inl (cs 0, 35, .inl (sg 0))), (rw 1, .inl (cs 0, 35, .inl (sg 1))), (rw 2, .inl (cs 0, 35, .inl (sg 2))), (rw 3, .inl (cs 0, 35, .inl (sg 3))), (rw 4, .inl (cs 0, 35, .inl (sg 4))), (rw 5, .inl (cs 0, 35, .inl (sg 5))), (rw 6, .inl (cs 0, 35, .inl (sg 6))), (rw 7, .inl (cs 0, 35, .inl (sg 7)))] := hD
  refine lv_aload_n hx hb dX7_take_10 rfl (lv_at hl 0 rfl) ?_
  refine lv_iload_n hx hb dX7_take_11 rfl (lv_at hl 3 rfl) ?_
  refine xput C hP hD hS 0 rfl rfl zuX7 tyX7 tyX7_ok nmX7 2 (by decide) zw1_85 rfl rfl rfl (Nat.le_of_ble_eq_true rfl) dX7_take_12 ?_
  clear hP hD hS
  try clear locs
  try clear H
  intro H locs hP hD hS
  replace hP : va_P D vwCl [(h, .inr (7, [.int (nI n), .int (nI k), .int (nI al), .int be0, .int ea, .int pr, .ref sm, .int se, .ref ca])), (ca, .inl (cs 0, 8, .inl cf)), (sm, .inl (cs 5, 8, .inr (.inr (.inr (.inr (fun i => if i < 8 then some (rw i) else none)))))), (rw 0, .inl (cs 0, 35, .inl (sg 0))), (rw 1, .inl (cs 0, 35, .inl (sg 1))), (rw 2, .inl (cs 0, 35, .inl (sg 2))), (rw 3, .inl (cs 0, 35, .inl (sg 3))), (rw 4, .inl (cs 0, 35, .inl (sg 4))), (rw 5, .inl (cs 0, 35, .inl (sg 5))), (rw 6, .inl (cs 0, 35, .inl (sg 6))), (rw 7, .inl (cs 0, 35, .inl (sg 7)))] H := hP
  replace hD : va_D A [(h, .inr (7, [.int (nI n), .int (nI k), .int (nI al), .int be0, .int ea, .int pr, .ref sm, .int se, .ref ca])), (ca, .inl (cs 0, 8, .inl cf)), (sm, .inl (cs 5, 8, .inr (.inr (.inr (.inr (fun i => if i < 8 then some (rw i) else none)))))), (rw 0, .inl (cs 0, 35, .inl (sg 0))), (rw 1, .inl (cs 0, 35, .inl (sg 1))), (rw 2, .inl (cs 0, 35, .inl (sg 2))), (rw 3, .inl (cs 0, 35, .inl (sg 3))), (rw 4, .inl (cs 0, 35, .inl (sg 4))), (rw 5, .inl (cs 0, 35, .inl (sg 5))), (rw 6, .inl (cs 0, 35, .inl (sg 6))), (rw 7, .inl (cs 0, 35, .inl (sg 7)))] := hD
  refine lv_aload_n hx hb dX7_take_15 rfl (lv_at hl 0 rfl) ?_
  refine lv_iload hx hb dX7_take_16 (lv_at hl 4 rfl) ?_
  refine xput C hP hD hS 0 rfl rfl zuX7 tyX7 tyX7_ok nmX7 3 (by decide) zw1_89 rfl rfl rfl (Nat.le_of_ble_eq_true rfl) dX7_take_18 ?_
  clear hP hD hS
  try clear locs
  try clear H
  intro H locs hP hD hS
  replace hP : va_P D vwCl [(h, .inr (7, [.int (nI n), .int (nI k), .int (nI al), .int (nI be), .int ea, .int pr, .ref sm, .int se, .ref ca])), (ca, .inl (cs 0, 8, .inl cf)), (sm, .inl (cs 5, 8, .inr (.inr (.inr (.inr (fun i => if i < 8 then some (rw i) else none)))))), (rw 0, .inl (cs 0, 35, .inl (sg 0))), (rw 1, .inl (cs 0, 35, .inl (sg 1))), (rw 2, .inl (cs 0, 35, .inl (sg 2))), (rw 3, .inl (cs 0, 35, .inl (sg 3))), (rw 4, .inl (cs 0, 35, .inl (sg 4))), (rw 5, .inl (cs 0, 35, .inl (sg 5))), (rw 6, .inl (cs 0, 35, .inl (sg 6))), (rw 7, .inl (cs 0, 35, .inl (sg 7)))] H := hP
  replace hD : va_D A [(h, .inr (7, [.int (nI n), .int (nI k), .int (nI al), .int (nI be), .int ea, .int pr, .ref sm, .int se, .ref ca])), (ca, .inl (cs 0, 8, .inl cf)), (sm, .inl (cs 5, 8, .inr (.inr (.inr (.inr (fun i => if i < 8 then some (rw i) else none)))))), (rw 0, .inl (cs 0, 35, .inl (sg 0))), (rw 1, .inl (cs 0, 35, .inl (sg 1))), (rw 2, .inl (cs 0, 35, .inl (sg 2))), (rw 3, .inl (cs 0, 35, .inl (sg 3))), (rw 4, .inl (cs 0, 35, .inl (sg 4))), (rw 5, .inl (cs 0, 35, .inl (sg 5))), (rw 6, .inl (cs 0, 35, .inl (sg 6))), (rw 7, .inl (cs 0, 35, .inl (sg 7)))] := hD
  refine lv_aload_n hx hb dX7_take_21 rfl (lv_at hl 0 rfl) ?_
  refine lv_aload_n hx hb dX7_take_22 rfl (lv_at hl 0 rfl) ?_
  refine xget C hP 0 rfl rfl zuX7 4 (by decide) zw1_93 rfl dX7_take_23 ?_
  refine lv_aload_n hx hb dX7_take_26 rfl (lv_at hl 0 rfl) ?_
  refine xget C hP 0 rfl rfl zuX7 3 (by decide) zw1_89 rfl dX7_take_27 ?_
  refine va_mmin hx hb (C.2.2.1.trans hl.1.symm) hown (hz _ zw1_44) (hz _ zw1_45) (hz _ zw1_3) (hz _ zw1_46) (Nat.le_of_ble_eq_true rfl) (Nat.le_of_ble_eq_true rfl) (Nat.le_of_ble_eq_true rfl) (Nat.le_of_ble_eq_true rfl) dX7_take_30 ?_
  refine lv_topi (nm_r (e' := ea2) he.symm ?_)
  refine xput C hP hD hS 0 rfl rfl zuX7 tyX7 tyX7_ok nmX7 4 (by decide) zw1_93 rfl rfl rfl (Nat.le_of_ble_eq_true rfl) dX7_take_33 ?_
  clear hP hD hS
  try clear locs
  try clear H
  intro H locs hP hD hS
  replace hP : va_P D vwCl [(h, .inr (7, [.int (nI n), .int (nI k), .int (nI al), .int (nI be), .int ea2, .int pr, .ref sm, .int se, .ref ca])), (ca, .inl (cs 0, 8, .inl cf)), (sm, .inl (cs 5, 8, .inr (.inr (.inr (.inr (fun i => if i < 8 then some (rw i) else none)))))), (rw 0, .inl (cs 0, 35, .inl (sg 0))), (rw 1, .inl (cs 0, 35, .inl (sg 1))), (rw 2, .inl (cs 0, 35, .inl (sg 2))), (rw 3, .inl (cs 0, 35, .inl (sg 3))), (rw 4, .inl (cs 0, 35, .inl (sg 4))), (rw 5, .inl (cs 0, 35, .inl (sg 5))), (rw 6, .inl (cs 0, 35, .inl (sg 6))), (rw 7, .inl (cs 0, 35, .inl (sg 7)))] H := hP
  replace hD : va_D A [(h, .inr (7, [.int (nI n), .int (nI k), .int (nI al), .int (nI be), .int ea2, .int pr, .ref sm, .int se, .ref ca])), (ca, .inl (cs 0, 8, .inl cf)), (sm, .inl (cs 5, 8, .inr (.inr (.inr (.inr (fun i => if i < 8 then some (rw i) else none)))))), (rw 0, .inl (cs 0, 35, .inl (sg 0))), (rw 1, .inl (cs 0, 35, .inl (sg 1))), (rw 2, .inl (cs 0, 35, .inl (sg 2))), (rw 3, .inl (cs 0, 35, .inl (sg 3))), (rw 4, .inl (cs 0, 35, .inl (sg 4))), (rw 5, .inl (cs 0, 35, .inl (sg 5))), (rw 6, .inl (cs 0, 35, .inl (sg 6))), (rw 7, .inl (cs 0, 35, .inl (sg 7)))] := hD
  refine lv_aload_n hx hb dX7_take_36 rfl (lv_at hl 0 rfl) ?_
  refine lv_aload_n hx hb dX7_take_37 rfl (lv_at hl 0 rfl) ?_
  refine xget C hP 0 rfl rfl zuX7 0 (by decide) zw1_78 rfl dX7_take_38 ?_
  refine lv_iconst (v := nI 1) hx hb dX7_take_41 (by decide) ?_
  refine lv_isub hx hb dX7_take_42 ?_
  refine lv_topi (nm_r (e' := nI (n - 1)) (pk_sub (by omega)) ?_)
  refine lv_aload_n hx hb dX7_take_43 rfl (lv_at hl 0 rfl) ?_
  refine xget C hP 0 rfl rfl zuX7 1 (by decide) zw1_83 rfl dX7_take_44 ?_
  refine xi (wr := [(h, .inr (7, [.int (nI n), .int (nI k), .int (nI al), .int (nI be), .int ea2, .int pr, .ref sm, .int se, .ref ca])), (ca, .inl (cs 0, 8, .inl cf)), (sm, .inl (cs 5, 8, .inr (.inr (.inr (.inr (fun i => if i < 8 then some (rw i) else none)))))), (rw 0, .inl (cs 0, 35, .inl (sg 0))), (rw 1, .inl (cs 0, 35, .inl (sg 1))), (rw 2, .inl (cs 0, 35, .inl (sg 2))), (rw 3, .inl (cs 0, 35, .inl (sg 3))), (rw 4, .inl (cs 0, 35, .inl (sg 4))), (rw 5, .inl (cs 0, 35, .inl (sg 5))), (rw 6, .inl (cs 0, 35, .inl (sg 6))), (rw 7, .inl (cs 0, 35, .inl (sg 7)))]) (xS (As := [.int (nI (n - 1)), .int (nI k)]) (rest := [.ref h]) C (c_X7_choose l D cs (n - 1) k (by first | omega | decide) (by first | omega | decide)) kX7_49 hP hD [] rfl (by decide) ⟨Nat.le_of_ble_eq_true rfl, Nat.le_of_ble_eq_true rfl⟩ rfl hl.1 rfl (Nat.le_of_ble_eq_true rfl) dX7_take_47 ⟨Nat.le_of_ble_eq_true rfl, Nat.le_of_ble_eq_true rfl⟩) hP hD hS hA [] [0, 1, 2, 3, 4, 5, 6, 7, 8, 9, 10] rfl rfl (by decide) (by decide) ?_
  clear hP hD hS
  try clear locs
  try clear H
  intro r_1 u_2 H locs hw_r_1 hP hD hS
  have hw_r_1 : r_1 = chF (n - 1) k := hw_r_1
  refine W.widen (k := 0) (n := 0) (Nat.le_of_ble_eq_true rfl) (Nat.le_of_ble_eq_true rfl) ?_
  replace hP : va_P D vwCl [(h, .inr (7, [.int (nI n), .int (nI k), .int (nI al), .int (nI be), .int ea2, .int pr, .ref sm, .int se, .ref ca])), (ca, .inl (cs 0, 8, .inl cf)), (sm, .inl (cs 5, 8, .inr (.inr (.inr (.inr (fun i => if i < 8 then some (rw i) else none)))))), (rw 0, .inl (cs 0, 35, .inl (sg 0))), (rw 1, .inl (cs 0, 35, .inl (sg 1))), (rw 2, .inl (cs 0, 35, .inl (sg 2))), (rw 3, .inl (cs 0, 35, .inl (sg 3))), (rw 4, .inl (cs 0, 35, .inl (sg 4))), (rw 5, .inl (cs 0, 35, .inl (sg 5))), (rw 6, .inl (cs 0, 35, .inl (sg 6))), (rw 7, .inl (cs 0, 35, .inl (sg 7)))] H := hP
  replace hD : va_D A [(h, .inr (7, [.int (nI n), .int (nI k), .int (nI al), .int (nI be), .int ea2, .int pr, .ref sm, .int se, .ref ca])), (ca, .inl (cs 0, 8, .inl cf)), (sm, .inl (cs 5, 8, .inr (.inr (.inr (.inr (fun i => if i < 8 then some (rw i) else none)))))), (rw 0, .inl (cs 0, 35, .inl (sg 0))), (rw 1, .inl (cs 0, 35, .inl (sg 1))), (rw 2, .inl (cs 0, 35, .inl (sg 2))), (rw 3, .inl (cs 0, 35, .inl (sg 3))), (rw 4, .inl (cs 0, 35, .inl (sg 4))), (rw 5, .inl (cs 0, 35, .inl (sg 5))), (rw 6, .inl (cs 0, 35, .inl (sg 6))), (rw 7, .inl (cs 0, 35, .inl (sg 7)))] := hD
  subst hw_r_1
  rw [← hse]
  refine xput C hP hD hS 0 rfl rfl zuX7 tyX7 tyX7_ok nmX7 7 (by decide) zw1_102 rfl rfl rfl (Nat.le_of_ble_eq_true rfl) dX7_take_50 ?_
  clear hP hD hS
  try clear locs
  try clear H
  intro H locs hP hD hS
  replace hP : va_P D vwCl [(h, .inr (7, [.int (nI n), .int (nI k), .int (nI al), .int (nI be), .int ea2, .int pr, .ref sm, .int se2, .ref ca])), (ca, .inl (cs 0, 8, .inl cf)), (sm, .inl (cs 5, 8, .inr (.inr (.inr (.inr (fun i => if i < 8 then some (rw i) else none)))))), (rw 0, .inl (cs 0, 35, .inl (sg 0))), (rw 1, .inl (cs 0, 35, .inl (sg 1))), (rw 2, .inl (cs 0, 35, .inl (sg 2))), (rw 3, .inl (cs 0, 35, .inl (sg 3))), (rw 4, .inl (cs 0, 35, .inl (sg 4))), (rw 5, .inl (cs 0, 35, .inl (sg 5))), (rw 6, .inl (cs 0, 35, .inl (sg 6))), (rw 7, .inl (cs 0, 35, .inl (sg 7)))] H := hP
  replace hD : va_D A [(h, .inr (7, [.int (nI n), .int (nI k), .int (nI al), .int (nI be), .int ea2, .int pr, .ref sm, .int se2, .ref ca])), (ca, .inl (cs 0, 8, .inl cf)), (sm, .inl (cs 5, 8, .inr (.inr (.inr (.inr (fun i => if i < 8 then some (rw i) else none)))))), (rw 0, .inl (cs 0, 35, .inl (sg 0))), (rw 1, .inl (cs 0, 35, .inl (sg 1))), (rw 2, .inl (cs 0, 35, .inl (sg 2))), (rw 3, .inl (cs 0, 35, .inl (sg 3))), (rw 4, .inl (cs 0, 35, .inl (sg 4))), (rw 5, .inl (cs 0, 35, .inl (sg 5))), (rw 6, .inl (cs 0, 35, .inl (sg 6))), (rw 7, .inl (cs 0, 35, .inl (sg 7)))] := hD
  replace hP : va_P D vwCl [(h, .inr (7, [.int (nI n), .int (nI k), .int (nI al), .int (nI be), .int ea2, .int pr, .ref sm, .int se2, .ref ca])), (ca, .inl (cs 0, 8, .inl (fcF n k al cf 0))), (sm, .inl (cs 5, 8, .inr (.inr (.inr (.inr (fun i => if i < 8 then some (rw i) else none)))))), (rw 0, .inl (cs 0, 35, .inl (sg 0))), (rw 1, .inl (cs 0, 35, .inl (sg 1))), (rw 2, .inl (cs 0, 35, .inl (sg 2))), (rw 3, .inl (cs 0, 35, .inl (sg 3))), (rw 4, .inl (cs 0, 35, .inl (sg 4))), (rw 5, .inl (cs 0, 35, .inl (sg 5))), (rw 6, .inl (cs 0, 35, .inl (sg 6))), (rw 7, .inl (cs 0, 35, .inl (sg 7)))] H := by rw [← fcF_0 n k al cf]; exact hP
  replace hD : va_D A [(h, .inr (7, [.int (nI n), .int (nI k), .int (nI al), .int (nI be), .int ea2, .int pr, .ref sm, .int se2, .ref ca])), (ca, .inl (cs 0, 8, .inl (fcF n k al cf 0))), (sm, .inl (cs 5, 8, .inr (.inr (.inr (.inr (fun i => if i < 8 then some (rw i) else none)))))), (rw 0, .inl (cs 0, 35, .inl (sg 0))), (rw 1, .inl (cs 0, 35, .inl (sg 1))), (rw 2, .inl (cs 0, 35, .inl (sg 2))), (rw 3, .inl (cs 0, 35, .inl (sg 3))), (rw 4, .inl (cs 0, 35, .inl (sg 4))), (rw 5, .inl (cs 0, 35, .inl (sg 5))), (rw 6, .inl (cs 0, 35, .inl (sg 6))), (rw 7, .inl (cs 0, 35, .inl (sg 7)))] := by rw [← fcF_0 n k al cf]; exact hD
  refine lv_iconst (v := nI 0) hx hb dX7_take_53 (by decide) ?_
  refine lv_istore (lv' := [(5, .int (nI 0)), (0, .ref h), (1, .int (nI n)), (2, .int (nI k)), (3, .int (nI al)), (4, .int (nI be))]) hx hb dX7_take_54 hl (by decide) rfl ?_
  clear hl
  try clear ls
  intro ls hl
  refine lv_iload hx hb dX7_take_56 (lv_at hl 0 rfl) ?_
  refine lv_aload_n hx hb dX7_take_58 rfl (lv_at hl 1 rfl) ?_
  refine xget C hP 0 rfl rfl zuX7 0 (by decide) zw1_78 rfl dX7_take_59 ?_
  refine lv_icmp_ge (tgt := 90) hx hb dX7_take_62 (by decide) (fun c => absurd c (fun q => absurd ((nI_leI (by omega) (by omega)).mp q) (by omega))) (fun _ => ?_)
  refine lv_aload_n hx hb dX7_take_65 rfl (lv_at hl 1 rfl) ?_
  refine lv_iload hx hb dX7_take_66 (lv_at hl 0 rfl) ?_
  refine xv (wr := [(ca, .inl (cs 0, 8, .inl (fcF n k al cf 0))), (rw 1, .inl (cs 0, 35, .inl (sg 1))), (rw 2, .inl (cs 0, 35, .inl (sg 2))), (rw 3, .inl (cs 0, 35, .inl (sg 3))), (rw 4, .inl (cs 0, 35, .inl (sg 4))), (rw 5, .inl (cs 0, 35, .inl (sg 5))), (rw 6, .inl (cs 0, 35, .inl (sg 6))), (rw 7, .inl (cs 0, 35, .inl (sg 7)))]) (xV (As := [.int (nI 0)]) (rest := []) C (c_X7_listSamples l D cs h sm ca n k al be ea2 pr se2 (rw 0) (fun i => if i < 8 then some (rw i) else none) (sg 0) 0 (by omega) (by omega) rfl) kX7_55 hP hD [0, 2, 3] rfl (by decide) 0 rfl rfl rfl ⟨Nat.le_of_ble_eq_true rfl, Nat.le_of_ble_eq_true rfl⟩ rfl hl.1 rfl (Nat.le_of_ble_eq_true rfl) dX7_take_68 ⟨Nat.le_of_ble_eq_true rfl, Nat.le_of_ble_eq_true rfl⟩) hP hD hS hA [0, 2, 3] [1, 4, 5, 6, 7, 8, 9, 10] rfl rfl (by decide) (by decide) ?_
  clear hP hD hS
  try clear locs
  try clear H
  intro u_4 H locs hw_r_3 hP hD hS
  refine W.widen (k := 0) (n := 0) (Nat.le_of_ble_eq_true rfl) (Nat.le_of_ble_eq_true rfl) ?_
  replace hP : va_P D vwCl [(ca, .inl (cs 0, 8, .inl (fcF n k al cf 0))), (rw 1, .inl (cs 0, 35, .inl (sg 1))), (rw 2, .inl (cs 0, 35, .inl (sg 2))), (rw 3, .inl (cs 0, 35, .inl (sg 3))), (rw 4, .inl (cs 0, 35, .inl (sg 4))), (rw 5, .inl (cs 0, 35, .inl (sg 5))), (rw 6, .inl (cs 0, 35, .inl (sg 6))), (rw 7, .inl (cs 0, 35, .inl (sg 7))), (h, .inr (7, [.int (nI n), .int (nI k), .int (nI al), .int (nI be), .int ea2, .int pr, .ref sm, .int se2, .ref ca])), (sm, .inl (cs 5, 8, .inr (.inr (.inr (.inr (fun i => if i < 8 then some (rw i) else none)))))), (rw 0, .inl (cs 0, 35, .inl u_4))] H := hP
  replace hD : va_D A [(ca, .inl (cs 0, 8, .inl (fcF n k al cf 0))), (rw 1, .inl (cs 0, 35, .inl (sg 1))), (rw 2, .inl (cs 0, 35, .inl (sg 2))), (rw 3, .inl (cs 0, 35, .inl (sg 3))), (rw 4, .inl (cs 0, 35, .inl (sg 4))), (rw 5, .inl (cs 0, 35, .inl (sg 5))), (rw 6, .inl (cs 0, 35, .inl (sg 6))), (rw 7, .inl (cs 0, 35, .inl (sg 7))), (h, .inr (7, [.int (nI n), .int (nI k), .int (nI al), .int (nI be), .int ea2, .int pr, .ref sm, .int se2, .ref ca])), (sm, .inl (cs 5, 8, .inr (.inr (.inr (.inr (fun i => if i < 8 then some (rw i) else none)))))), (rw 0, .inl (cs 0, 35, .inl u_4))] := hD
  refine lv_aload_n hx hb dX7_take_71 rfl (lv_at hl 1 rfl) ?_
  refine xget C hP 8 rfl rfl zuX7 8 (by decide) zw1_106 rfl dX7_take_72 ?_
  refine lv_iload hx hb dX7_take_75 (lv_at hl 0 rfl) ?_
  refine lv_aload_n hx hb dX7_take_77 rfl (lv_at hl 1 rfl) ?_
  refine lv_iload hx hb dX7_take_78 (lv_at hl 0 rfl) ?_
  refine xi (wr := [(ca, .inl (cs 0, 8, .inl (fcF n k al cf 0))), (rw 1, .inl (cs 0, 35, .inl (sg 1))), (rw 2, .inl (cs 0, 35, .inl (sg 2))), (rw 3, .inl (cs 0, 35, .inl (sg 3))), (rw 4, .inl (cs 0, 35, .inl (sg 4))), (rw 5, .inl (cs 0, 35, .inl (sg 5))), (rw 6, .inl (cs 0, 35, .inl (sg 6))), (rw 7, .inl (cs 0, 35, .inl (sg 7))), (sm, .inl (cs 5, 8, .inr (.inr (.inr (.inr (fun i => if i < 8 then some (rw i) else none)))))), (rw 0, .inl (cs 0, 35, .inl u_4))]) (xV (As := [.int (nI 0)]) (rest := [.int (nI 0), .ref ca]) C (c_X7_countCarried l D cs h sm ca n k al be ea2 pr se2 0 (by omega) (by omega) (by omega) (by omega)) kX7_59 hP hD [8] rfl (by decide) 0 rfl rfl rfl ⟨Nat.le_of_ble_eq_true rfl, Nat.le_of_ble_eq_true rfl⟩ rfl hl.1 rfl (Nat.le_of_ble_eq_true rfl) dX7_take_80 ⟨Nat.le_of_ble_eq_true rfl, Nat.le_of_ble_eq_true rfl⟩) hP hD hS hA [8] [0, 1, 2, 3, 4, 5, 6, 7, 9, 10] rfl rfl (by decide) (by decide) ?_
  clear hP hD hS
  try clear locs
  try clear H
  intro r_5 u_6 H locs hw_r_5 hP hD hS
  have hw_r_5 : r_5 = ccS 0 n k al (k + 1 - al) := hw_r_5
  refine W.widen (k := 0) (n := 0) (Nat.le_of_ble_eq_true rfl) (Nat.le_of_ble_eq_true rfl) ?_
  replace hP : va_P D vwCl [(ca, .inl (cs 0, 8, .inl (fcF n k al cf 0))), (rw 1, .inl (cs 0, 35, .inl (sg 1))), (rw 2, .inl (cs 0, 35, .inl (sg 2))), (rw 3, .inl (cs 0, 35, .inl (sg 3))), (rw 4, .inl (cs 0, 35, .inl (sg 4))), (rw 5, .inl (cs 0, 35, .inl (sg 5))), (rw 6, .inl (cs 0, 35, .inl (sg 6))), (rw 7, .inl (cs 0, 35, .inl (sg 7))), (sm, .inl (cs 5, 8, .inr (.inr (.inr (.inr (fun i => if i < 8 then some (rw i) else none)))))), (rw 0, .inl (cs 0, 35, .inl u_4)), (h, .inr (7, [.int (nI n), .int (nI k), .int (nI al), .int (nI be), .int ea2, .int pr, .ref sm, .int se2, .ref ca]))] H := hP
  replace hD : va_D A [(ca, .inl (cs 0, 8, .inl (fcF n k al cf 0))), (rw 1, .inl (cs 0, 35, .inl (sg 1))), (rw 2, .inl (cs 0, 35, .inl (sg 2))), (rw 3, .inl (cs 0, 35, .inl (sg 3))), (rw 4, .inl (cs 0, 35, .inl (sg 4))), (rw 5, .inl (cs 0, 35, .inl (sg 5))), (rw 6, .inl (cs 0, 35, .inl (sg 6))), (rw 7, .inl (cs 0, 35, .inl (sg 7))), (sm, .inl (cs 5, 8, .inr (.inr (.inr (.inr (fun i => if i < 8 then some (rw i) else none)))))), (rw 0, .inl (cs 0, 35, .inl u_4)), (h, .inr (7, [.int (nI n), .int (nI k), .int (nI al), .int (nI be), .int ea2, .int pr, .ref sm, .int se2, .ref ca]))] := hD
  subst hw_r_5
  refine xiast C hP hD hS 0 rfl 0 rfl (by decide) (by decide) dX7_take_83 ?_
  clear hP hD hS
  try clear locs
  try clear H
  intro H locs hP hD hS
  replace hP : va_P D vwCl [(ca, .inl (cs 0, 8, .inl (upd (fcF n k al cf 0) 0 (ccS 0 n k al (k + 1 - al))))), (rw 1, .inl (cs 0, 35, .inl (sg 1))), (rw 2, .inl (cs 0, 35, .inl (sg 2))), (rw 3, .inl (cs 0, 35, .inl (sg 3))), (rw 4, .inl (cs 0, 35, .inl (sg 4))), (rw 5, .inl (cs 0, 35, .inl (sg 5))), (rw 6, .inl (cs 0, 35, .inl (sg 6))), (rw 7, .inl (cs 0, 35, .inl (sg 7))), (sm, .inl (cs 5, 8, .inr (.inr (.inr (.inr (fun i => if i < 8 then some (rw i) else none)))))), (rw 0, .inl (cs 0, 35, .inl u_4)), (h, .inr (7, [.int (nI n), .int (nI k), .int (nI al), .int (nI be), .int ea2, .int pr, .ref sm, .int se2, .ref ca]))] H := hP
  replace hD : va_D A [(ca, .inl (cs 0, 8, .inl (upd (fcF n k al cf 0) 0 (ccS 0 n k al (k + 1 - al))))), (rw 1, .inl (cs 0, 35, .inl (sg 1))), (rw 2, .inl (cs 0, 35, .inl (sg 2))), (rw 3, .inl (cs 0, 35, .inl (sg 3))), (rw 4, .inl (cs 0, 35, .inl (sg 4))), (rw 5, .inl (cs 0, 35, .inl (sg 5))), (rw 6, .inl (cs 0, 35, .inl (sg 6))), (rw 7, .inl (cs 0, 35, .inl (sg 7))), (sm, .inl (cs 5, 8, .inr (.inr (.inr (.inr (fun i => if i < 8 then some (rw i) else none)))))), (rw 0, .inl (cs 0, 35, .inl u_4)), (h, .inr (7, [.int (nI n), .int (nI k), .int (nI al), .int (nI be), .int ea2, .int pr, .ref sm, .int se2, .ref ca]))] := hD
  replace hP : va_P D vwCl [(ca, .inl (cs 0, 8, .inl (fcF n k al cf 1))), (rw 1, .inl (cs 0, 35, .inl (sg 1))), (rw 2, .inl (cs 0, 35, .inl (sg 2))), (rw 3, .inl (cs 0, 35, .inl (sg 3))), (rw 4, .inl (cs 0, 35, .inl (sg 4))), (rw 5, .inl (cs 0, 35, .inl (sg 5))), (rw 6, .inl (cs 0, 35, .inl (sg 6))), (rw 7, .inl (cs 0, 35, .inl (sg 7))), (sm, .inl (cs 5, 8, .inr (.inr (.inr (.inr (fun i => if i < 8 then some (rw i) else none)))))), (rw 0, .inl (cs 0, 35, .inl u_4)), (h, .inr (7, [.int (nI n), .int (nI k), .int (nI al), .int (nI be), .int ea2, .int pr, .ref sm, .int se2, .ref ca]))] H := by rw [← fcF_s n k al cf 0]; exact hP
  replace hD : va_D A [(ca, .inl (cs 0, 8, .inl (fcF n k al cf 1))), (rw 1, .inl (cs 0, 35, .inl (sg 1))), (rw 2, .inl (cs 0, 35, .inl (sg 2))), (rw 3, .inl (cs 0, 35, .inl (sg 3))), (rw 4, .inl (cs 0, 35, .inl (sg 4))), (rw 5, .inl (cs 0, 35, .inl (sg 5))), (rw 6, .inl (cs 0, 35, .inl (sg 6))), (rw 7, .inl (cs 0, 35, .inl (sg 7))), (sm, .inl (cs 5, 8, .inr (.inr (.inr (.inr (fun i => if i < 8 then some (rw i) else none)))))), (rw 0, .inl (cs 0, 35, .inl u_4)), (h, .inr (7, [.int (nI n), .int (nI k), .int (nI al), .int (nI be), .int ea2, .int pr, .ref sm, .int se2, .ref ca]))] := by rw [← fcF_s n k al cf 0]; exact hD
  refine lv_iinc (v := nI 1) (lv' := [(5, .int (nI 1)), (0, .ref h), (1, .int (nI n)), (2, .int (nI k)), (3, .int (nI al)), (4, .int (nI be))]) hx hb dX7_take_84 hl (k := 0) rfl (by decide) (by decide) rfl ?_
  clear hl
  try clear ls
  intro ls hl
  refine lv_goto (tgt := 56) hx hb dX7_take_87 (by decide) ?_
  refine lv_iload hx hb dX7_take_56 (lv_at hl 0 rfl) ?_
  refine lv_aload_n hx hb dX7_take_58 rfl (lv_at hl 1 rfl) ?_
  refine xget C hP 10 rfl rfl zuX7 0 (by decide) zw1_78 rfl dX7_take_59 ?_
  refine lv_icmp_ge (tgt := 90) hx hb dX7_take_62 (by decide) (fun c => absurd c (fun q => absurd ((nI_leI (by omega) (by omega)).mp q) (by omega))) (fun _ => ?_)
  refine lv_aload_n hx hb dX7_take_65 rfl (lv_at hl 1 rfl) ?_
  refine lv_iload hx hb dX7_take_66 (lv_at hl 0 rfl) ?_
  refine xv (wr := [(ca, .inl (cs 0, 8, .inl (fcF n k al cf 1))), (rw 2, .inl (cs 0, 35, .inl (sg 2))), (rw 3, .inl (cs 0, 35, .inl (sg 3))), (rw 4, .inl (cs 0, 35, .inl (sg 4))), (rw 5, .inl (cs 0, 35, .inl (sg 5))), (rw 6, .inl (cs 0, 35, .inl (sg 6))), (rw 7, .inl (cs 0, 35, .inl (sg 7))), (rw 0, .inl (cs 0, 35, .inl u_4))]) (xV (As := [.int (nI 1)]) (rest := []) C (c_X7_listSamples l D cs h sm ca n k al be ea2 pr se2 (rw 1) (fun i => if i < 8 then some (rw i) else none) (sg 1) 1 (by omega) (by omega) rfl) kX7_55 hP hD [10, 8, 1] rfl (by decide) 0 rfl rfl rfl ⟨Nat.le_of_ble_eq_true rfl, Nat.le_of_ble_eq_true rfl⟩ rfl hl.1 rfl (Nat.le_of_ble_eq_true rfl) dX7_take_68 ⟨Nat.le_of_ble_eq_true rfl, Nat.le_of_ble_eq_true rfl⟩) hP hD hS hA [10, 8, 1] [0, 2, 3, 4, 5, 6, 7, 9] rfl rfl (by decide) (by decide) ?_
  clear hP hD hS
  try clear locs
  try clear H
  intro u_8 H locs hw_r_7 hP hD hS
  refine W.widen (k := 0) (n := 0) (Nat.le_of_ble_eq_true rfl) (Nat.le_of_ble_eq_true rfl) ?_
  replace hP : va_P D vwCl [(ca, .inl (cs 0, 8, .inl (fcF n k al cf 1))), (rw 2, .inl (cs 0, 35, .inl (sg 2))), (rw 3, .inl (cs 0, 35, .inl (sg 3))), (rw 4, .inl (cs 0, 35, .inl (sg 4))), (rw 5, .inl (cs 0, 35, .inl (sg 5))), (rw 6, .inl (cs 0, 35, .inl (sg 6))), (rw 7, .inl (cs 0, 35, .inl (sg 7))), (rw 0, .inl (cs 0, 35, .inl u_4)), (h, .inr (7, [.int (nI n), .int (nI k), .int (nI al), .int (nI be), .int ea2, .int pr, .ref sm, .int se2, .ref ca])), (sm, .inl (cs 5, 8, .inr (.inr (.inr (.inr (fun i => if i < 8 then some (rw i) else none)))))), (rw 1, .inl (cs 0, 35, .inl u_8))] H := hP
  replace hD : va_D A [(ca, .inl (cs 0, 8, .inl (fcF n k al cf 1))), (rw 2, .inl (cs 0, 35, .inl (sg 2))), (rw 3, .inl (cs 0, 35, .inl (sg 3))), (rw 4, .inl (cs 0, 35, .inl (sg 4))), (rw 5, .inl (cs 0, 35, .inl (sg 5))), (rw 6, .inl (cs 0, 35, .inl (sg 6))), (rw 7, .inl (cs 0, 35, .inl (sg 7))), (rw 0, .inl (cs 0, 35, .inl u_4)), (h, .inr (7, [.int (nI n), .int (nI k), .int (nI al), .int (nI be), .int ea2, .int pr, .ref sm, .int se2, .ref ca])), (sm, .inl (cs 5, 8, .inr (.inr (.inr (.inr (fun i => if i < 8 then some (rw i) else none)))))), (rw 1, .inl (cs 0, 35, .inl u_8))] := hD
  refine lv_aload_n hx hb dX7_take_71 rfl (lv_at hl 1 rfl) ?_
  refine xget C hP 8 rfl rfl zuX7 8 (by decide) zw1_106 rfl dX7_take_72 ?_
  refine lv_iload hx hb dX7_take_75 (lv_at hl 0 rfl) ?_
  refine lv_aload_n hx hb dX7_take_77 rfl (lv_at hl 1 rfl) ?_
  refine lv_iload hx hb dX7_take_78 (lv_at hl 0 rfl) ?_
  refine xi (wr := [(ca, .inl (cs 0, 8, .inl (fcF n k al cf 1))), (rw 2, .inl (cs 0, 35, .inl (sg 2))), (rw 3, .inl (cs 0, 35, .inl (sg 3))), (rw 4, .inl (cs 0, 35, .inl (sg 4))), (rw 5, .inl (cs 0, 35, .inl (sg 5))), (rw 6, .inl (cs 0, 35, .inl (sg 6))), (rw 7, .inl (cs 0, 35, .inl (sg 7))), (rw 0, .inl (cs 0, 35, .inl u_4)), (sm, .inl (cs 5, 8, .inr (.inr (.inr (.inr (fun i => if i < 8 then some (rw i) else none)))))), (rw 1, .inl (cs 0, 35, .inl u_8))]) (xV (As := [.int (nI 1)]) (rest := [.int (nI 1), .ref ca]) C (c_X7_countCarried l D cs h sm ca n k al be ea2 pr se2 1 (by omega) (by omega) (by omega) (by omega)) kX7_59 hP hD [8] rfl (by decide) 0 rfl rfl rfl ⟨Nat.le_of_ble_eq_true rfl, Nat.le_of_ble_eq_true rfl⟩ rfl hl.1 rfl (Nat.le_of_ble_eq_true rfl) dX7_take_80 ⟨Nat.le_of_ble_eq_true rfl, Nat.le_of_ble_eq_true rfl⟩) hP hD hS hA [8] [0, 1, 2, 3, 4, 5, 6, 7, 9, 10] rfl rfl (by decide) (by decide) ?_
  clear hP hD hS
  try clear locs
  try clear H
  intro r_9 u_10 H locs hw_r_9 hP hD hS
  have hw_r_9 : r_9 = ccS 1 n k al (k + 1 - al) := hw_r_9
  refine W.widen (k := 0) (n := 0) (Nat.le_of_ble_eq_true rfl) (Nat.le_of_ble_eq_true rfl) ?_
  replace hP : va_P D vwCl [(ca, .inl (cs 0, 8, .inl (fcF n k al cf 1))), (rw 2, .inl (cs 0, 35, .inl (sg 2))), (rw 3, .inl (cs 0, 35, .inl (sg 3))), (rw 4, .inl (cs 0, 35, .inl (sg 4))), (rw 5, .inl (cs 0, 35, .inl (sg 5))), (rw 6, .inl (cs 0, 35, .inl (sg 6))), (rw 7, .inl (cs 0, 35, .inl (sg 7))), (rw 0, .inl (cs 0, 35, .inl u_4)), (sm, .inl (cs 5, 8, .inr (.inr (.inr (.inr (fun i => if i < 8 then some (rw i) else none)))))), (rw 1, .inl (cs 0, 35, .inl u_8)), (h, .inr (7, [.int (nI n), .int (nI k), .int (nI al), .int (nI be), .int ea2, .int pr, .ref sm, .int se2, .ref ca]))] H := hP
  replace hD : va_D A [(ca, .inl (cs 0, 8, .inl (fcF n k al cf 1))), (rw 2, .inl (cs 0, 35, .inl (sg 2))), (rw 3, .inl (cs 0, 35, .inl (sg 3))), (rw 4, .inl (cs 0, 35, .inl (sg 4))), (rw 5, .inl (cs 0, 35, .inl (sg 5))), (rw 6, .inl (cs 0, 35, .inl (sg 6))), (rw 7, .inl (cs 0, 35, .inl (sg 7))), (rw 0, .inl (cs 0, 35, .inl u_4)), (sm, .inl (cs 5, 8, .inr (.inr (.inr (.inr (fun i => if i < 8 then some (rw i) else none)))))), (rw 1, .inl (cs 0, 35, .inl u_8)), (h, .inr (7, [.int (nI n), .int (nI k), .int (nI al), .int (nI be), .int ea2, .int pr, .ref sm, .int se2, .ref ca]))] := hD
  subst hw_r_9
  refine xiast C hP hD hS 0 rfl 1 rfl (by decide) (by decide) dX7_take_83 ?_
  clear hP hD hS
  try clear locs
  try clear H
  intro H locs hP hD hS
  replace hP : va_P D vwCl [(ca, .inl (cs 0, 8, .inl (upd (fcF n k al cf 1) 1 (ccS 1 n k al (k + 1 - al))))), (rw 2, .inl (cs 0, 35, .inl (sg 2))), (rw 3, .inl (cs 0, 35, .inl (sg 3))), (rw 4, .inl (cs 0, 35, .inl (sg 4))), (rw 5, .inl (cs 0, 35, .inl (sg 5))), (rw 6, .inl (cs 0, 35, .inl (sg 6))), (rw 7, .inl (cs 0, 35, .inl (sg 7))), (rw 0, .inl (cs 0, 35, .inl u_4)), (sm, .inl (cs 5, 8, .inr (.inr (.inr (.inr (fun i => if i < 8 then some (rw i) else none)))))), (rw 1, .inl (cs 0, 35, .inl u_8)), (h, .inr (7, [.int (nI n), .int (nI k), .int (nI al), .int (nI be), .int ea2, .int pr, .ref sm, .int se2, .ref ca]))] H := hP
  replace hD : va_D A [(ca, .inl (cs 0, 8, .inl (upd (fcF n k al cf 1) 1 (ccS 1 n k al (k + 1 - al))))), (rw 2, .inl (cs 0, 35, .inl (sg 2))), (rw 3, .inl (cs 0, 35, .inl (sg 3))), (rw 4, .inl (cs 0, 35, .inl (sg 4))), (rw 5, .inl (cs 0, 35, .inl (sg 5))), (rw 6, .inl (cs 0, 35, .inl (sg 6))), (rw 7, .inl (cs 0, 35, .inl (sg 7))), (rw 0, .inl (cs 0, 35, .inl u_4)), (sm, .inl (cs 5, 8, .inr (.inr (.inr (.inr (fun i => if i < 8 then some (rw i) else none)))))), (rw 1, .inl (cs 0, 35, .inl u_8)), (h, .inr (7, [.int (nI n), .int (nI k), .int (nI al), .int (nI be), .int ea2, .int pr, .ref sm, .int se2, .ref ca]))] := hD
  replace hP : va_P D vwCl [(ca, .inl (cs 0, 8, .inl (fcF n k al cf 2))), (rw 2, .inl (cs 0, 35, .inl (sg 2))), (rw 3, .inl (cs 0, 35, .inl (sg 3))), (rw 4, .inl (cs 0, 35, .inl (sg 4))), (rw 5, .inl (cs 0, 35, .inl (sg 5))), (rw 6, .inl (cs 0, 35, .inl (sg 6))), (rw 7, .inl (cs 0, 35, .inl (sg 7))), (rw 0, .inl (cs 0, 35, .inl u_4)), (sm, .inl (cs 5, 8, .inr (.inr (.inr (.inr (fun i => if i < 8 then some (rw i) else none)))))), (rw 1, .inl (cs 0, 35, .inl u_8)), (h, .inr (7, [.int (nI n), .int (nI k), .int (nI al), .int (nI be), .int ea2, .int pr, .ref sm, .int se2, .ref ca]))] H := by rw [← fcF_s n k al cf 1]; exact hP
  replace hD : va_D A [(ca, .inl (cs 0, 8, .inl (fcF n k al cf 2))), (rw 2, .inl (cs 0, 35, .inl (sg 2))), (rw 3, .inl (cs 0, 35, .inl (sg 3))), (rw 4, .inl (cs 0, 35, .inl (sg 4))), (rw 5, .inl (cs 0, 35, .inl (sg 5))), (rw 6, .inl (cs 0, 35, .inl (sg 6))), (rw 7, .inl (cs 0, 35, .inl (sg 7))), (rw 0, .inl (cs 0, 35, .inl u_4)), (sm, .inl (cs 5, 8, .inr (.inr (.inr (.inr (fun i => if i < 8 then some (rw i) else none)))))), (rw 1, .inl (cs 0, 35, .inl u_8)), (h, .inr (7, [.int (nI n), .int (nI k), .int (nI al), .int (nI be), .int ea2, .int pr, .ref sm, .int se2, .ref ca]))] := by rw [← fcF_s n k al cf 1]; exact hD
  refine lv_iinc (v := nI 2) (lv' := [(5, .int (nI 2)), (0, .ref h), (1, .int (nI n)), (2, .int (nI k)), (3, .int (nI al)), (4, .int (nI be))]) hx hb dX7_take_84 hl (k := 0) rfl (by decide) (by decide) rfl ?_
  clear hl
  try clear ls
  intro ls hl
  refine lv_goto (tgt := 56) hx hb dX7_take_87 (by decide) ?_
  refine lv_iload hx hb dX7_take_56 (lv_at hl 0 rfl) ?_
  refine lv_aload_n hx hb dX7_take_58 rfl (lv_at hl 1 rfl) ?_
  refine xget C hP 10 rfl rfl zuX7 0 (by decide) zw1_78 rfl dX7_take_59 ?_
  refine lv_icmp_ge (tgt := 90) hx hb dX7_take_62 (by decide) (fun c_11 => ?_) (fun c_11 => ?_)
  · -- 62 t
    have fc_11 : n ≤ 2 := nf_le (by omega) (by omega) c_11
    have en : n = 2 := by omega
    have hPD := xcongi (q0 := 0) (fcF n k al cf n) hP hD rfl (fun z hz => by rw [show (fcF n k al cf 2) = fcF n k al cf n from by rw [show n = 2 by omega]])
    clear hP hD
    obtain ⟨hP, hD⟩ := hPD
    replace hP : va_P D vwCl [(ca, .inl (cs 0, 8, .inl (fcF n k al cf n))), (rw 2, .inl (cs 0, 35, .inl (sg 2))), (rw 3, .inl (cs 0, 35, .inl (sg 3))), (rw 4, .inl (cs 0, 35, .inl (sg 4))), (rw 5, .inl (cs 0, 35, .inl (sg 5))), (rw 6, .inl (cs 0, 35, .inl (sg 6))), (rw 7, .inl (cs 0, 35, .inl (sg 7))), (rw 0, .inl (cs 0, 35, .inl u_4)), (sm, .inl (cs 5, 8, .inr (.inr (.inr (.inr (fun i => if i < 8 then some (rw i) else none)))))), (rw 1, .inl (cs 0, 35, .inl u_8)), (h, .inr (7, [.int (nI n), .int (nI k), .int (nI al), .int (nI be), .int ea2, .int pr, .ref sm, .int se2, .ref ca]))] H := hP
    replace hD : va_D A [(ca, .inl (cs 0, 8, .inl (fcF n k al cf n))), (rw 2, .inl (cs 0, 35, .inl (sg 2))), (rw 3, .inl (cs 0, 35, .inl (sg 3))), (rw 4, .inl (cs 0, 35, .inl (sg 4))), (rw 5, .inl (cs 0, 35, .inl (sg 5))), (rw 6, .inl (cs 0, 35, .inl (sg 6))), (rw 7, .inl (cs 0, 35, .inl (sg 7))), (rw 0, .inl (cs 0, 35, .inl u_4)), (sm, .inl (cs 5, 8, .inr (.inr (.inr (.inr (fun i => if i < 8 then some (rw i) else none)))))), (rw 1, .inl (cs 0, 35, .inl u_8)), (h, .inr (7, [.int (nI n), .int (nI k), .int (nI al), .int (nI be), .int ea2, .int pr, .ref sm, .int se2, .ref ca]))] := hD
    exact xretv C (fun k => ([u_4, u_8, sg 2, sg 3, sg 4, sg 5, sg 6, sg 7] : List (Nat → Int32)).getD k (fun _ => 0)) trivial (xP_map hP [10, 0, 8, 7, 9, 1, 2, 3, 4, 5, 6] rfl) (hD.sub [10, 0, 8, 7, 9, 1, 2, 3, 4, 5, 6] (by decide) rfl) hS (Nat.le_of_ble_eq_true rfl) (Nat.le_of_ble_eq_true rfl) dX7_take_90
  · -- 62 f
    have fc_11 : 2 < n := nf_nle (by omega) (by omega) c_11
    refine lv_aload_n hx hb dX7_take_65 rfl (lv_at hl 1 rfl) ?_
    refine lv_iload hx hb dX7_take_66 (lv_at hl 0 rfl) ?_
    refine xv (wr := [(ca, .inl (cs 0, 8, .inl (fcF n k al cf 2))), (rw 3, .inl (cs 0, 35, .inl (sg 3))), (rw 4, .inl (cs 0, 35, .inl (sg 4))), (rw 5, .inl (cs 0, 35, .inl (sg 5))), (rw 6, .inl (cs 0, 35, .inl (sg 6))), (rw 7, .inl (cs 0, 35, .inl (sg 7))), (rw 0, .inl (cs 0, 35, .inl u_4)), (rw 1, .inl (cs 0, 35, .inl u_8))]) (xV (As := [.int (nI 2)]) (rest := []) C (c_X7_listSamples l D cs h sm ca n k al be ea2 pr se2 (rw 2) (fun i => if i < 8 then some (rw i) else none) (sg 2) 2 (by omega) (by omega) rfl) kX7_55 hP hD [10, 8, 1] rfl (by decide) 0 rfl rfl rfl ⟨Nat.le_of_ble_eq_true rfl, Nat.le_of_ble_eq_true rfl⟩ rfl hl.1 rfl (Nat.le_of_ble_eq_true rfl) dX7_take_68 ⟨Nat.le_of_ble_eq_true rfl, Nat.le_of_ble_eq_true rfl⟩) hP hD hS hA [10, 8, 1] [0, 2, 3, 4, 5, 6, 7, 9] rfl rfl (by decide) (by decide) ?_
    clear hP hD hS
    try clear locs
    try clear H
    intro u_13 H locs hw_r_12 hP hD hS
    refine W.widen (k := 0) (n := 0) (Nat.le_of_ble_eq_true rfl) (Nat.le_of_ble_eq_true rfl) ?_
    replace hP : va_P D vwCl [(ca, .inl (cs 0, 8, .inl (fcF n k al cf 2))), (rw 3, .inl (cs 0, 35, .inl (sg 3))), (rw 4, .inl (cs 0, 35, .inl (sg 4))), (rw 5, .inl (cs 0, 35, .inl (sg 5))), (rw 6, .inl (cs 0, 35, .inl (sg 6))), (rw 7, .inl (cs 0, 35, .inl (sg 7))), (rw 0, .inl (cs 0, 35, .inl u_4)), (rw 1, .inl (cs 0, 35, .inl u_8)), (h, .inr (7, [.int (nI n), .int (nI k), .int (nI al), .int (nI be), .int ea2, .int pr, .ref sm, .int se2, .ref ca])), (sm, .inl (cs 5, 8, .inr (.inr (.inr (.inr (fun i => if i < 8 then some (rw i) else none)))))), (rw 2, .inl (cs 0, 35, .inl u_13))] H := hP
    replace hD : va_D A [(ca, .inl (cs 0, 8, .inl (fcF n k al cf 2))), (rw 3, .inl (cs 0, 35, .inl (sg 3))), (rw 4, .inl (cs 0, 35, .inl (sg 4))), (rw 5, .inl (cs 0, 35, .inl (sg 5))), (rw 6, .inl (cs 0, 35, .inl (sg 6))), (rw 7, .inl (cs 0, 35, .inl (sg 7))), (rw 0, .inl (cs 0, 35, .inl u_4)), (rw 1, .inl (cs 0, 35, .inl u_8)), (h, .inr (7, [.int (nI n), .int (nI k), .int (nI al), .int (nI be), .int ea2, .int pr, .ref sm, .int se2, .ref ca])), (sm, .inl (cs 5, 8, .inr (.inr (.inr (.inr (fun i => if i < 8 then some (rw i) else none)))))), (rw 2, .inl (cs 0, 35, .inl u_13))] := hD
    refine lv_aload_n hx hb dX7_take_71 rfl (lv_at hl 1 rfl) ?_
    refine xget C hP 8 rfl rfl zuX7 8 (by decide) zw1_106 rfl dX7_take_72 ?_
    refine lv_iload hx hb dX7_take_75 (lv_at hl 0 rfl) ?_
    refine lv_aload_n hx hb dX7_take_77 rfl (lv_at hl 1 rfl) ?_
    refine lv_iload hx hb dX7_take_78 (lv_at hl 0 rfl) ?_
    refine xi (wr := [(ca, .inl (cs 0, 8, .inl (fcF n k al cf 2))), (rw 3, .inl (cs 0, 35, .inl (sg 3))), (rw 4, .inl (cs 0, 35, .inl (sg 4))), (rw 5, .inl (cs 0, 35, .inl (sg 5))), (rw 6, .inl (cs 0, 35, .inl (sg 6))), (rw 7, .inl (cs 0, 35, .inl (sg 7))), (rw 0, .inl (cs 0, 35, .inl u_4)), (rw 1, .inl (cs 0, 35, .inl u_8)), (sm, .inl (cs 5, 8, .inr (.inr (.inr (.inr (fun i => if i < 8 then some (rw i) else none)))))), (rw 2, .inl (cs 0, 35, .inl u_13))]) (xV (As := [.int (nI 2)]) (rest := [.int (nI 2), .ref ca]) C (c_X7_countCarried l D cs h sm ca n k al be ea2 pr se2 2 (by omega) (by omega) (by omega) (by omega)) kX7_59 hP hD [8] rfl (by decide) 0 rfl rfl rfl ⟨Nat.le_of_ble_eq_true rfl, Nat.le_of_ble_eq_true rfl⟩ rfl hl.1 rfl (Nat.le_of_ble_eq_true rfl) dX7_take_80 ⟨Nat.le_of_ble_eq_true rfl, Nat.le_of_ble_eq_true rfl⟩) hP hD hS hA [8] [0, 1, 2, 3, 4, 5, 6, 7, 9, 10] rfl rfl (by decide) (by decide) ?_
    clear hP hD hS
    try clear locs
    try clear H
    intro r_14 u_15 H locs hw_r_14 hP hD hS
    have hw_r_14 : r_14 = ccS 2 n k al (k + 1 - al) := hw_r_14
    refine W.widen (k := 0) (n := 0) (Nat.le_of_ble_eq_true rfl) (Nat.le_of_ble_eq_true rfl) ?_
    replace hP : va_P D vwCl [(ca, .inl (cs 0, 8, .inl (fcF n k al cf 2))), (rw 3, .inl (cs 0, 35, .inl (sg 3))), (rw 4, .inl (cs 0, 35, .inl (sg 4))), (rw 5, .inl (cs 0, 35, .inl (sg 5))), (rw 6, .inl (cs 0, 35, .inl (sg 6))), (rw 7, .inl (cs 0, 35, .inl (sg 7))), (rw 0, .inl (cs 0, 35, .inl u_4)), (rw 1, .inl (cs 0, 35, .inl u_8)), (sm, .inl (cs 5, 8, .inr (.inr (.inr (.inr (fun i => if i < 8 then some (rw i) else none)))))), (rw 2, .inl (cs 0, 35, .inl u_13)), (h, .inr (7, [.int (nI n), .int (nI k), .int (nI al), .int (nI be), .int ea2, .int pr, .ref sm, .int se2, .ref ca]))] H := hP
    replace hD : va_D A [(ca, .inl (cs 0, 8, .inl (fcF n k al cf 2))), (rw 3, .inl (cs 0, 35, .inl (sg 3))), (rw 4, .inl (cs 0, 35, .inl (sg 4))), (rw 5, .inl (cs 0, 35, .inl (sg 5))), (rw 6, .inl (cs 0, 35, .inl (sg 6))), (rw 7, .inl (cs 0, 35, .inl (sg 7))), (rw 0, .inl (cs 0, 35, .inl u_4)), (rw 1, .inl (cs 0, 35, .inl u_8)), (sm, .inl (cs 5, 8, .inr (.inr (.inr (.inr (fun i => if i < 8 then some (rw i) else none)))))), (rw 2, .inl (cs 0, 35, .inl u_13)), (h, .inr (7, [.int (nI n), .int (nI k), .int (nI al), .int (nI be), .int ea2, .int pr, .ref sm, .int se2, .ref ca]))] := hD
    subst hw_r_14
    refine xiast C hP hD hS 0 rfl 2 rfl (by decide) (by decide) dX7_take_83 ?_
    clear hP hD hS
    try clear locs
    try clear H
    intro H locs hP hD hS
    replace hP : va_P D vwCl [(ca, .inl (cs 0, 8, .inl (upd (fcF n k al cf 2) 2 (ccS 2 n k al (k + 1 - al))))), (rw 3, .inl (cs 0, 35, .inl (sg 3))), (rw 4, .inl (cs 0, 35, .inl (sg 4))), (rw 5, .inl (cs 0, 35, .inl (sg 5))), (rw 6, .inl (cs 0, 35, .inl (sg 6))), (rw 7, .inl (cs 0, 35, .inl (sg 7))), (rw 0, .inl (cs 0, 35, .inl u_4)), (rw 1, .inl (cs 0, 35, .inl u_8)), (sm, .inl (cs 5, 8, .inr (.inr (.inr (.inr (fun i => if i < 8 then some (rw i) else none)))))), (rw 2, .inl (cs 0, 35, .inl u_13)), (h, .inr (7, [.int (nI n), .int (nI k), .int (nI al), .int (nI be), .int ea2, .int pr, .ref sm, .int se2, .ref ca]))] H := hP
    replace hD : va_D A [(ca, .inl (cs 0, 8, .inl (upd (fcF n k al cf 2) 2 (ccS 2 n k al (k + 1 - al))))), (rw 3, .inl (cs 0, 35, .inl (sg 3))), (rw 4, .inl (cs 0, 35, .inl (sg 4))), (rw 5, .inl (cs 0, 35, .inl (sg 5))), (rw 6, .inl (cs 0, 35, .inl (sg 6))), (rw 7, .inl (cs 0, 35, .inl (sg 7))), (rw 0, .inl (cs 0, 35, .inl u_4)), (rw 1, .inl (cs 0, 35, .inl u_8)), (sm, .inl (cs 5, 8, .inr (.inr (.inr (.inr (fun i => if i < 8 then some (rw i) else none)))))), (rw 2, .inl (cs 0, 35, .inl u_13)), (h, .inr (7, [.int (nI n), .int (nI k), .int (nI al), .int (nI be), .int ea2, .int pr, .ref sm, .int se2, .ref ca]))] := hD
    replace hP : va_P D vwCl [(ca, .inl (cs 0, 8, .inl (fcF n k al cf 3))), (rw 3, .inl (cs 0, 35, .inl (sg 3))), (rw 4, .inl (cs 0, 35, .inl (sg 4))), (rw 5, .inl (cs 0, 35, .inl (sg 5))), (rw 6, .inl (cs 0, 35, .inl (sg 6))), (rw 7, .inl (cs 0, 35, .inl (sg 7))), (rw 0, .inl (cs 0, 35, .inl u_4)), (rw 1, .inl (cs 0, 35, .inl u_8)), (sm, .inl (cs 5, 8, .inr (.inr (.inr (.inr (fun i => if i < 8 then some (rw i) else none)))))), (rw 2, .inl (cs 0, 35, .inl u_13)), (h, .inr (7, [.int (nI n), .int (nI k), .int (nI al), .int (nI be), .int ea2, .int pr, .ref sm, .int se2, .ref ca]))] H := by rw [← fcF_s n k al cf 2]; exact hP
    replace hD : va_D A [(ca, .inl (cs 0, 8, .inl (fcF n k al cf 3))), (rw 3, .inl (cs 0, 35, .inl (sg 3))), (rw 4, .inl (cs 0, 35, .inl (sg 4))), (rw 5, .inl (cs 0, 35, .inl (sg 5))), (rw 6, .inl (cs 0, 35, .inl (sg 6))), (rw 7, .inl (cs 0, 35, .inl (sg 7))), (rw 0, .inl (cs 0, 35, .inl u_4)), (rw 1, .inl (cs 0, 35, .inl u_8)), (sm, .inl (cs 5, 8, .inr (.inr (.inr (.inr (fun i => if i < 8 then some (rw i) else none)))))), (rw 2, .inl (cs 0, 35, .inl u_13)), (h, .inr (7, [.int (nI n), .int (nI k), .int (nI al), .int (nI be), .int ea2, .int pr, .ref sm, .int se2, .ref ca]))] := by rw [← fcF_s n k al cf 2]; exact hD
    refine lv_iinc (v := nI 3) (lv' := [(5, .int (nI 3)), (0, .ref h), (1, .int (nI n)), (2, .int (nI k)), (3, .int (nI al)), (4, .int (nI be))]) hx hb dX7_take_84 hl (k := 0) rfl (by decide) (by decide) rfl ?_
    clear hl
    try clear ls
    intro ls hl
    refine lv_goto (tgt := 56) hx hb dX7_take_87 (by decide) ?_
    refine lv_iload hx hb dX7_take_56 (lv_at hl 0 rfl) ?_
    refine lv_aload_n hx hb dX7_take_58 rfl (lv_at hl 1 rfl) ?_
    refine xget C hP 10 rfl rfl zuX7 0 (by decide) zw1_78 rfl dX7_take_59 ?_
    refine lv_icmp_ge (tgt := 90) hx hb dX7_take_62 (by decide) (fun c_16 => ?_) (fun c_16 => ?_)
    · -- 62 t
      have fc_16 : n ≤ 3 := nf_le (by omega) (by omega) c_16
      have en : n = 3 := by omega
      have hPD := xcongi (q0 := 0) (fcF n k al cf n) hP hD rfl (fun z hz => by rw [show (fcF n k al cf 3) = fcF n k al cf n from by rw [show n = 3 by omega]])
      clear hP hD
      obtain ⟨hP, hD⟩ := hPD
      replace hP : va_P D vwCl [(ca, .inl (cs 0, 8, .inl (fcF n k al cf n))), (rw 3, .inl (cs 0, 35, .inl (sg 3))), (rw 4, .inl (cs 0, 35, .inl (sg 4))), (rw 5, .inl (cs 0, 35, .inl (sg 5))), (rw 6, .inl (cs 0, 35, .inl (sg 6))), (rw 7, .inl (cs 0, 35, .inl (sg 7))), (rw 0, .inl (cs 0, 35, .inl u_4)), (rw 1, .inl (cs 0, 35, .inl u_8)), (sm, .inl (cs 5, 8, .inr (.inr (.inr (.inr (fun i => if i < 8 then some (rw i) else none)))))), (rw 2, .inl (cs 0, 35, .inl u_13)), (h, .inr (7, [.int (nI n), .int (nI k), .int (nI al), .int (nI be), .int ea2, .int pr, .ref sm, .int se2, .ref ca]))] H := hP
      replace hD : va_D A [(ca, .inl (cs 0, 8, .inl (fcF n k al cf n))), (rw 3, .inl (cs 0, 35, .inl (sg 3))), (rw 4, .inl (cs 0, 35, .inl (sg 4))), (rw 5, .inl (cs 0, 35, .inl (sg 5))), (rw 6, .inl (cs 0, 35, .inl (sg 6))), (rw 7, .inl (cs 0, 35, .inl (sg 7))), (rw 0, .inl (cs 0, 35, .inl u_4)), (rw 1, .inl (cs 0, 35, .inl u_8)), (sm, .inl (cs 5, 8, .inr (.inr (.inr (.inr (fun i => if i < 8 then some (rw i) else none)))))), (rw 2, .inl (cs 0, 35, .inl u_13)), (h, .inr (7, [.int (nI n), .int (nI k), .int (nI al), .int (nI be), .int ea2, .int pr, .ref sm, .int se2, .ref ca]))] := hD
      exact xretv C (fun k => ([u_4, u_8, u_13, sg 3, sg 4, sg 5, sg 6, sg 7] : List (Nat → Int32)).getD k (fun _ => 0)) trivial (xP_map hP [10, 0, 8, 6, 7, 9, 1, 2, 3, 4, 5] rfl) (hD.sub [10, 0, 8, 6, 7, 9, 1, 2, 3, 4, 5] (by decide) rfl) hS (Nat.le_of_ble_eq_true rfl) (Nat.le_of_ble_eq_true rfl) dX7_take_90
    · -- 62 f
      have fc_16 : 3 < n := nf_nle (by omega) (by omega) c_16
      refine lv_aload_n hx hb dX7_take_65 rfl (lv_at hl 1 rfl) ?_
      refine lv_iload hx hb dX7_take_66 (lv_at hl 0 rfl) ?_
      refine xv (wr := [(ca, .inl (cs 0, 8, .inl (fcF n k al cf 3))), (rw 4, .inl (cs 0, 35, .inl (sg 4))), (rw 5, .inl (cs 0, 35, .inl (sg 5))), (rw 6, .inl (cs 0, 35, .inl (sg 6))), (rw 7, .inl (cs 0, 35, .inl (sg 7))), (rw 0, .inl (cs 0, 35, .inl u_4)), (rw 1, .inl (cs 0, 35, .inl u_8)), (rw 2, .inl (cs 0, 35, .inl u_13))]) (xV (As := [.int (nI 3)]) (rest := []) C (c_X7_listSamples l D cs h sm ca n k al be ea2 pr se2 (rw 3) (fun i => if i < 8 then some (rw i) else none) (sg 3) 3 (by omega) (by omega) rfl) kX7_55 hP hD [10, 8, 1] rfl (by decide) 0 rfl rfl rfl ⟨Nat.le_of_ble_eq_true rfl, Nat.le_of_ble_eq_true rfl⟩ rfl hl.1 rfl (Nat.le_of_ble_eq_true rfl) dX7_take_68 ⟨Nat.le_of_ble_eq_true rfl, Nat.le_of_ble_eq_true rfl⟩) hP hD hS hA [10, 8, 1] [0, 2, 3, 4, 5, 6, 7, 9] rfl rfl (by decide) (by decide) ?_
      clear hP hD hS
      try clear locs
      try clear H
      intro u_18 H locs hw_r_17 hP hD hS
      refine W.widen (k := 0) (n := 0) (Nat.le_of_ble_eq_true rfl) (Nat.le_of_ble_eq_true rfl) ?_
      replace hP : va_P D vwCl [(ca, .inl (cs 0, 8, .inl (fcF n k al cf 3))), (rw 4, .inl (cs 0, 35, .inl (sg 4))), (rw 5, .inl (cs 0, 35, .inl (sg 5))), (rw 6, .inl (cs 0, 35, .inl (sg 6))), (rw 7, .inl (cs 0, 35, .inl (sg 7))), (rw 0, .inl (cs 0, 35, .inl u_4)), (rw 1, .inl (cs 0, 35, .inl u_8)), (rw 2, .inl (cs 0, 35, .inl u_13)), (h, .inr (7, [.int (nI n), .int (nI k), .int (nI al), .int (nI be), .int ea2, .int pr, .ref sm, .int se2, .ref ca])), (sm, .inl (cs 5, 8, .inr (.inr (.inr (.inr (fun i => if i < 8 then some (rw i) else none)))))), (rw 3, .inl (cs 0, 35, .inl u_18))] H := hP
      replace hD : va_D A [(ca, .inl (cs 0, 8, .inl (fcF n k al cf 3))), (rw 4, .inl (cs 0, 35, .inl (sg 4))), (rw 5, .inl (cs 0, 35, .inl (sg 5))), (rw 6, .inl (cs 0, 35, .inl (sg 6))), (rw 7, .inl (cs 0, 35, .inl (sg 7))), (rw 0, .inl (cs 0, 35, .inl u_4)), (rw 1, .inl (cs 0, 35, .inl u_8)), (rw 2, .inl (cs 0, 35, .inl u_13)), (h, .inr (7, [.int (nI n), .int (nI k), .int (nI al), .int (nI be), .int ea2, .int pr, .ref sm, .int se2, .ref ca])), (sm, .inl (cs 5, 8, .inr (.inr (.inr (.inr (fun i => if i < 8 then some (rw i) else none)))))), (rw 3, .inl (cs 0, 35, .inl u_18))] := hD
      refine lv_aload_n hx hb dX7_take_71 rfl (lv_at hl 1 rfl) ?_
      refine xget C hP 8 rfl rfl zuX7 8 (by decide) zw1_106 rfl dX7_take_72 ?_
      refine lv_iload hx hb dX7_take_75 (lv_at hl 0 rfl) ?_
      refine lv_aload_n hx hb dX7_take_77 rfl (lv_at hl 1 rfl) ?_
      refine lv_iload hx hb dX7_take_78 (lv_at hl 0 rfl) ?_
      refine xi (wr := [(ca, .inl (cs 0, 8, .inl (fcF n k al cf 3))), (rw 4, .inl (cs 0, 35, .inl (sg 4))), (rw 5, .inl (cs 0, 35, .inl (sg 5))), (rw 6, .inl (cs 0, 35, .inl (sg 6))), (rw 7, .inl (cs 0, 35, .inl (sg 7))), (rw 0, .inl (cs 0, 35, .inl u_4)), (rw 1, .inl (cs 0, 35, .inl u_8)), (rw 2, .inl (cs 0, 35, .inl u_13)), (sm, .inl (cs 5, 8, .inr (.inr (.inr (.inr (fun i => if i < 8 then some (rw i) else none)))))), (rw 3, .inl (cs 0, 35, .inl u_18))]) (xV (As := [.int (nI 3)]) (rest := [.int (nI 3), .ref ca]) C (c_X7_countCarried l D cs h sm ca n k al be ea2 pr se2 3 (by omega) (by omega) (by omega) (by omega)) kX7_59 hP hD [8] rfl (by decide) 0 rfl rfl rfl ⟨Nat.le_of_ble_eq_true rfl, Nat.le_of_ble_eq_true rfl⟩ rfl hl.1 rfl (Nat.le_of_ble_eq_true rfl) dX7_take_80 ⟨Nat.le_of_ble_eq_true rfl, Nat.le_of_ble_eq_true rfl⟩) hP hD hS hA [8] [0, 1, 2, 3, 4, 5, 6, 7, 9, 10] rfl rfl (by decide) (by decide) ?_
      clear hP hD hS
      try clear locs
      try clear H
      intro r_19 u_20 H locs hw_r_19 hP hD hS
      have hw_r_19 : r_19 = ccS 3 n k al (k + 1 - al) := hw_r_19
      refine W.widen (k := 0) (n := 0) (Nat.le_of_ble_eq_true rfl) (Nat.le_of_ble_eq_true rfl) ?_
      replace hP : va_P D vwCl [(ca, .inl (cs 0, 8, .inl (fcF n k al cf 3))), (rw 4, .inl (cs 0, 35, .inl (sg 4))), (rw 5, .inl (cs 0, 35, .inl (sg 5))), (rw 6, .inl (cs 0, 35, .inl (sg 6))), (rw 7, .inl (cs 0, 35, .inl (sg 7))), (rw 0, .inl (cs 0, 35, .inl u_4)), (rw 1, .inl (cs 0, 35, .inl u_8)), (rw 2, .inl (cs 0, 35, .inl u_13)), (sm, .inl (cs 5, 8, .inr (.inr (.inr (.inr (fun i => if i < 8 then some (rw i) else none)))))), (rw 3, .inl (cs 0, 35, .inl u_18)), (h, .inr (7, [.int (nI n), .int (nI k), .int (nI al), .int (nI be), .int ea2, .int pr, .ref sm, .int se2, .ref ca]))] H := hP
      replace hD : va_D A [(ca, .inl (cs 0, 8, .inl (fcF n k al cf 3))), (rw 4, .inl (cs 0, 35, .inl (sg 4))), (rw 5, .inl (cs 0, 35, .inl (sg 5))), (rw 6, .inl (cs 0, 35, .inl (sg 6))), (rw 7, .inl (cs 0, 35, .inl (sg 7))), (rw 0, .inl (cs 0, 35, .inl u_4)), (rw 1, .inl (cs 0, 35, .inl u_8)), (rw 2, .inl (cs 0, 35, .inl u_13)), (sm, .inl (cs 5, 8, .inr (.inr (.inr (.inr (fun i => if i < 8 then some (rw i) else none)))))), (rw 3, .inl (cs 0, 35, .inl u_18)), (h, .inr (7, [.int (nI n), .int (nI k), .int (nI al), .int (nI be), .int ea2, .int pr, .ref sm, .int se2, .ref ca]))] := hD
      subst hw_r_19
      refine xiast C hP hD hS 0 rfl 3 rfl (by decide) (by decide) dX7_take_83 ?_
      clear hP hD hS
      try clear locs
      try clear H
      intro H locs hP hD hS
      replace hP : va_P D vwCl [(ca, .inl (cs 0, 8, .inl (upd (fcF n k al cf 3) 3 (ccS 3 n k al (k + 1 - al))))), (rw 4, .inl (cs 0, 35, .inl (sg 4))), (rw 5, .inl (cs 0, 35, .inl (sg 5))), (rw 6, .inl (cs 0, 35, .inl (sg 6))), (rw 7, .inl (cs 0, 35, .inl (sg 7))), (rw 0, .inl (cs 0, 35, .inl u_4)), (rw 1, .inl (cs 0, 35, .inl u_8)), (rw 2, .inl (cs 0, 35, .inl u_13)), (sm, .inl (cs 5, 8, .inr (.inr (.inr (.inr (fun i => if i < 8 then some (rw i) else none)))))), (rw 3, .inl (cs 0, 35, .inl u_18)), (h, .inr (7, [.int (nI n), .int (nI k), .int (nI al), .int (nI be), .int ea2, .int pr, .ref sm, .int se2, .ref ca]))] H := hP
      replace hD : va_D A [(ca, .inl (cs 0, 8, .inl (upd (fcF n k al cf 3) 3 (ccS 3 n k al (k + 1 - al))))), (rw 4, .inl (cs 0, 35, .inl (sg 4))), (rw 5, .inl (cs 0, 35, .inl (sg 5))), (rw 6, .inl (cs 0, 35, .inl (sg 6))), (rw 7, .inl (cs 0, 35, .inl (sg 7))), (rw 0, .inl (cs 0, 35, .inl u_4)), (rw 1, .inl (cs 0, 35, .inl u_8)), (rw 2, .inl (cs 0, 35, .inl u_13)), (sm, .inl (cs 5, 8, .inr (.inr (.inr (.inr (fun i => if i < 8 then some (rw i) else none)))))), (rw 3, .inl (cs 0, 35, .inl u_18)), (h, .inr (7, [.int (nI n), .int (nI k), .int (nI al), .int (nI be), .int ea2, .int pr, .ref sm, .int se2, .ref ca]))] := hD
      replace hP : va_P D vwCl [(ca, .inl (cs 0, 8, .inl (fcF n k al cf 4))), (rw 4, .inl (cs 0, 35, .inl (sg 4))), (rw 5, .inl (cs 0, 35, .inl (sg 5))), (rw 6, .inl (cs 0, 35, .inl (sg 6))), (rw 7, .inl (cs 0, 35, .inl (sg 7))), (rw 0, .inl (cs 0, 35, .inl u_4)), (rw 1, .inl (cs 0, 35, .inl u_8)), (rw 2, .inl (cs 0, 35, .inl u_13)), (sm, .inl (cs 5, 8, .inr (.inr (.inr (.inr (fun i => if i < 8 then some (rw i) else none)))))), (rw 3, .inl (cs 0, 35, .inl u_18)), (h, .inr (7, [.int (nI n), .int (nI k), .int (nI al), .int (nI be), .int ea2, .int pr, .ref sm, .int se2, .ref ca]))] H := by rw [← fcF_s n k al cf 3]; exact hP
      replace hD : va_D A [(ca, .inl (cs 0, 8, .inl (fcF n k al cf 4))), (rw 4, .inl (cs 0, 35, .inl (sg 4))), (rw 5, .inl (cs 0, 35, .inl (sg 5))), (rw 6, .inl (cs 0, 35, .inl (sg 6))), (rw 7, .inl (cs 0, 35, .inl (sg 7))), (rw 0, .inl (cs 0, 35, .inl u_4)), (rw 1, .inl (cs 0, 35, .inl u_8)), (rw 2, .inl (cs 0, 35, .inl u_13)), (sm, .inl (cs 5, 8, .inr (.inr (.inr (.inr (fun i => if i < 8 then some (rw i) else none)))))), (rw 3, .inl (cs 0, 35, .inl u_18)), (h, .inr (7, [.int (nI n), .int (nI k), .int (nI al), .int (nI be), .int ea2, .int pr, .ref sm, .int se2, .ref ca]))] := by rw [← fcF_s n k al cf 3]; exact hD
      refine lv_iinc (v := nI 4) (lv' := [(5, .int (nI 4)), (0, .ref h), (1, .int (nI n)), (2, .int (nI k)), (3, .int (nI al)), (4, .int (nI be))]) hx hb dX7_take_84 hl (k := 0) rfl (by decide) (by decide) rfl ?_
      clear hl
      try clear ls
      intro ls hl
      refine lv_goto (tgt := 56) hx hb dX7_take_87 (by decide) ?_
      refine lv_iload hx hb dX7_take_56 (lv_at hl 0 rfl) ?_
      refine lv_aload_n hx hb dX7_take_58 rfl (lv_at hl 1 rfl) ?_
      refine xget C hP 10 rfl rfl zuX7 0 (by decide) zw1_78 rfl dX7_take_59 ?_
      refine lv_icmp_ge (tgt := 90) hx hb dX7_take_62 (by decide) (fun c_21 => ?_) (fun c_21 => ?_)
      · -- 62 t
        have fc_21 : n ≤ 4 := nf_le (by omega) (by omega) c_21
        have en : n = 4 := by omega
        have hPD := xcongi (q0 := 0) (fcF n k al cf n) hP hD rfl (fun z hz => by rw [show (fcF n k al cf 4) = fcF n k al cf n from by rw [show n = 4 by omega]])
        clear hP hD
        obtain ⟨hP, hD⟩ := hPD
        replace hP : va_P D vwCl [(ca, .inl (cs 0, 8, .inl (fcF n k al cf n))), (rw 4, .inl (cs 0, 35, .inl (sg 4))), (rw 5, .inl (cs 0, 35, .inl (sg 5))), (rw 6, .inl (cs 0, 35, .inl (sg 6))), (rw 7, .inl (cs 0, 35, .inl (sg 7))), (rw 0, .inl (cs 0, 35, .inl u_4)), (rw 1, .inl (cs 0, 35, .inl u_8)), (rw 2, .inl (cs 0, 35, .inl u_13)), (sm, .inl (cs 5, 8, .inr (.inr (.inr (.inr (fun i => if i < 8 then some (rw i) else none)))))), (rw 3, .inl (cs 0, 35, .inl u_18)), (h, .inr (7, [.int (nI n), .int (nI k), .int (nI al), .int (nI be), .int ea2, .int pr, .ref sm, .int se2, .ref ca]))] H := hP
        replace hD : va_D A [(ca, .inl (cs 0, 8, .inl (fcF n k al cf n))), (rw 4, .inl (cs 0, 35, .inl (sg 4))), (rw 5, .inl (cs 0, 35, .inl (sg 5))), (rw 6, .inl (cs 0, 35, .inl (sg 6))), (rw 7, .inl (cs 0, 35, .inl (sg 7))), (rw 0, .inl (cs 0, 35, .inl u_4)), (rw 1, .inl (cs 0, 35, .inl u_8)), (rw 2, .inl (cs 0, 35, .inl u_13)), (sm, .inl (cs 5, 8, .inr (.inr (.inr (.inr (fun i => if i < 8 then some (rw i) else none)))))), (rw 3, .inl (cs 0, 35, .inl u_18)), (h, .inr (7, [.int (nI n), .int (nI k), .int (nI al), .int (nI be), .int ea2, .int pr, .ref sm, .int se2, .ref ca]))] := hD
        exact xretv C (fun k => ([u_4, u_8, u_13, u_18, sg 4, sg 5, sg 6, sg 7] : List (Nat → Int32)).getD k (fun _ => 0)) trivial (xP_map hP [10, 0, 8, 5, 6, 7, 9, 1, 2, 3, 4] rfl) (hD.sub [10, 0, 8, 5, 6, 7, 9, 1, 2, 3, 4] (by decide) rfl) hS (Nat.le_of_ble_eq_true rfl) (Nat.le_of_ble_eq_true rfl) dX7_take_90
      · -- 62 f
        have fc_21 : 4 < n := nf_nle (by omega) (by omega) c_21
        refine lv_aload_n hx hb dX7_take_65 rfl (lv_at hl 1 rfl) ?_
        refine lv_iload hx hb dX7_take_66 (lv_at hl 0 rfl) ?_
        refine xv (wr := [(ca, .inl (cs 0, 8, .inl (fcF n k al cf 4))), (rw 5, .inl (cs 0, 35, .inl (sg 5))), (rw 6, .inl (cs 0, 35, .inl (sg 6))), (rw 7, .inl (cs 0, 35, .inl (sg 7))), (rw 0, .inl (cs 0, 35, .inl u_4)), (rw 1, .inl (cs 0, 35, .inl u_8)), (rw 2, .inl (cs 0, 35, .inl u_13)), (rw 3, .inl (cs 0, 35, .inl u_18))]) (xV (As := [.int (nI 4)]) (rest := []) C (c_X7_listSamples l D cs h sm ca n k al be ea2 pr se2 (rw 4) (fun i => if i < 8 then some (rw i) else none) (sg 4) 4 (by omega) (by omega) rfl) kX7_55 hP hD [10, 8, 1] rfl (by decide) 0 rfl rfl rfl ⟨Nat.le_of_ble_eq_true rfl, Nat.le_of_ble_eq_true rfl⟩ rfl hl.1 rfl (Nat.le_of_ble_eq_true rfl) dX7_take_68 ⟨Nat.le_of_ble_eq_true rfl, Nat.le_of_ble_eq_true rfl⟩) hP hD hS hA [10, 8, 1] [0, 2, 3, 4, 5, 6, 7, 9] rfl rfl (by decide) (by decide) ?_
        clear hP hD hS
        try clear locs
        try clear H
        intro u_23 H locs hw_r_22 hP hD hS
        refine W.widen (k := 0) (n := 0) (Nat.le_of_ble_eq_true rfl) (Nat.le_of_ble_eq_true rfl) ?_
        replace hP : va_P D vwCl [(ca, .inl (cs 0, 8, .inl (fcF n k al cf 4))), (rw 5, .inl (cs 0, 35, .inl (sg 5))), (rw 6, .inl (cs 0, 35, .inl (sg 6))), (rw 7, .inl (cs 0, 35, .inl (sg 7))), (rw 0, .inl (cs 0, 35, .inl u_4)), (rw 1, .inl (cs 0, 35, .inl u_8)), (rw 2, .inl (cs 0, 35, .inl u_13)), (rw 3, .inl (cs 0, 35, .inl u_18)), (h, .inr (7, [.int (nI n), .int (nI k), .int (nI al), .int (nI be), .int ea2, .int pr, .ref sm, .int se2, .ref ca])), (sm, .inl (cs 5, 8, .inr (.inr (.inr (.inr (fun i => if i < 8 then some (rw i) else none)))))), (rw 4, .inl (cs 0, 35, .inl u_23))] H := hP
        replace hD : va_D A [(ca, .inl (cs 0, 8, .inl (fcF n k al cf 4))), (rw 5, .inl (cs 0, 35, .inl (sg 5))), (rw 6, .inl (cs 0, 35, .inl (sg 6))), (rw 7, .inl (cs 0, 35, .inl (sg 7))), (rw 0, .inl (cs 0, 35, .inl u_4)), (rw 1, .inl (cs 0, 35, .inl u_8)), (rw 2, .inl (cs 0, 35, .inl u_13)), (rw 3, .inl (cs 0, 35, .inl u_18)), (h, .inr (7, [.int (nI n), .int (nI k), .int (nI al), .int (nI be), .int ea2, .int pr, .ref sm, .int se2, .ref ca])), (sm, .inl (cs 5, 8, .inr (.inr (.inr (.inr (fun i => if i < 8 then some (rw i) else none)))))), (rw 4, .inl (cs 0, 35, .inl u_23))] := hD
        refine lv_aload_n hx hb dX7_take_71 rfl (lv_at hl 1 rfl) ?_
        refine xget C hP 8 rfl rfl zuX7 8 (by decide) zw1_106 rfl dX7_take_72 ?_
        refine lv_iload hx hb dX7_take_75 (lv_at hl 0 rfl) ?_
        refine lv_aload_n hx hb dX7_take_77 rfl (lv_at hl 1 rfl) ?_
        refine lv_iload hx hb dX7_take_78 (lv_at hl 0 rfl) ?_
        refine xi (wr := [(ca, .inl (cs 0, 8, .inl (fcF n k al cf 4))), (rw 5, .inl (cs 0, 35, .inl (sg 5))), (rw 6, .inl (cs 0, 35, .inl (sg 6))), (rw 7, .inl (cs 0, 35, .inl (sg 7))), (rw 0, .inl (cs 0, 35, .inl u_4)), (rw 1, .inl (cs 0, 35, .inl u_8)), (rw 2, .inl (cs 0, 35, .inl u_13)), (rw 3, .inl (cs 0, 35, .inl u_18)), (sm, .inl (cs 5, 8, .inr (.inr (.inr (.inr (fun i => if i < 8 then some (rw i) else none)))))), (rw 4, .inl (cs 0, 35, .inl u_23))]) (xV (As := [.int (nI 4)]) (rest := [.int (nI 4), .ref ca]) C (c_X7_countCarried l D cs h sm ca n k al be ea2 pr se2 4 (by omega) (by omega) (by omega) (by omega)) kX7_59 hP hD [8] rfl (by decide) 0 rfl rfl rfl ⟨Nat.le_of_ble_eq_true rfl, Nat.le_of_ble_eq_true rfl⟩ rfl hl.1 rfl (Nat.le_of_ble_eq_true rfl) dX7_take_80 ⟨Nat.le_of_ble_eq_true rfl, Nat.le_of_ble_eq_true rfl⟩) hP hD hS hA [8] [0, 1, 2, 3, 4, 5, 6, 7, 9, 10] rfl rfl (by decide) (by decide) ?_
        clear hP hD hS
        try clear locs
        try clear H
        intro r_24 u_25 H locs hw_r_24 hP hD hS
        have hw_r_24 : r_24 = ccS 4 n k al (k + 1 - al) := hw_r_24
        refine W.widen (k := 0) (n := 0) (Nat.le_of_ble_eq_true rfl) (Nat.le_of_ble_eq_true rfl) ?_
        replace hP : va_P D vwCl [(ca, .inl (cs 0, 8, .inl (fcF n k al cf 4))), (rw 5, .inl (cs 0, 35, .inl (sg 5))), (rw 6, .inl (cs 0, 35, .inl (sg 6))), (rw 7, .inl (cs 0, 35, .inl (sg 7))), (rw 0, .inl (cs 0, 35, .inl u_4)), (rw 1, .inl (cs 0, 35, .inl u_8)), (rw 2, .inl (cs 0, 35, .inl u_13)), (rw 3, .inl (cs 0, 35, .inl u_18)), (sm, .inl (cs 5, 8, .inr (.inr (.inr (.inr (fun i => if i < 8 then some (rw i) else none)))))), (rw 4, .inl (cs 0, 35, .inl u_23)), (h, .inr (7, [.int (nI n), .int (nI k), .int (nI al), .int (nI be), .int ea2, .int pr, .ref sm, .int se2, .ref ca]))] H := hP
        replace hD : va_D A [(ca, .inl (cs 0, 8, .inl (fcF n k al cf 4))), (rw 5, .inl (cs 0, 35, .inl (sg 5))), (rw 6, .inl (cs 0, 35, .inl (sg 6))), (rw 7, .inl (cs 0, 35, .inl (sg 7))), (rw 0, .inl (cs 0, 35, .inl u_4)), (rw 1, .inl (cs 0, 35, .inl u_8)), (rw 2, .inl (cs 0, 35, .inl u_13)), (rw 3, .inl (cs 0, 35, .inl u_18)), (sm, .inl (cs 5, 8, .inr (.inr (.inr (.inr (fun i => if i < 8 then some (rw i) else none)))))), (rw 4, .inl (cs 0, 35, .inl u_23)), (h, .inr (7, [.int (nI n), .int (nI k), .int (nI al), .int (nI be), .int ea2, .int pr, .ref sm, .int se2, .ref ca]))] := hD
        subst hw_r_24
        refine xiast C hP hD hS 0 rfl 4 rfl (by decide) (by decide) dX7_take_83 ?_
        clear hP hD hS
        try clear locs
        try clear H
        intro H locs hP hD hS
        replace hP : va_P D vwCl [(ca, .inl (cs 0, 8, .inl (upd (fcF n k al cf 4) 4 (ccS 4 n k al (k + 1 - al))))), (rw 5, .inl (cs 0, 35, .inl (sg 5))), (rw 6, .inl (cs 0, 35, .inl (sg 6))), (rw 7, .inl (cs 0, 35, .inl (sg 7))), (rw 0, .inl (cs 0, 35, .inl u_4)), (rw 1, .inl (cs 0, 35, .inl u_8)), (rw 2, .inl (cs 0, 35, .inl u_13)), (rw 3, .inl (cs 0, 35, .inl u_18)), (sm, .inl (cs 5, 8, .inr (.inr (.inr (.inr (fun i => if i < 8 then some (rw i) else none)))))), (rw 4, .inl (cs 0, 35, .inl u_23)), (h, .inr (7, [.int (nI n), .int (nI k), .int (nI al), .int (nI be), .int ea2, .int pr, .ref sm, .int se2, .ref ca]))] H := hP
        replace hD : va_D A [(ca, .inl (cs 0, 8, .inl (upd (fcF n k al cf 4) 4 (ccS 4 n k al (k + 1 - al))))), (rw 5, .inl (cs 0, 35, .inl (sg 5))), (rw 6, .inl (cs 0, 35, .inl (sg 6))), (rw 7, .inl (cs 0, 35, .inl (sg 7))), (rw 0, .inl (cs 0, 35, .inl u_4)), (rw 1, .inl (cs 0, 35, .inl u_8)), (rw 2, .inl (cs 0, 35, .inl u_13)), (rw 3, .inl (cs 0, 35, .inl u_18)), (sm, .inl (cs 5, 8, .inr (.inr (.inr (.inr (fun i => if i < 8 then some (rw i) else none)))))), (rw 4, .inl (cs 0, 35, .inl u_23)), (h, .inr (7, [.int (nI n), .int (nI k), .int (nI al), .int (nI be), .int ea2, .int pr, .ref sm, .int se2, .ref ca]))] := hD
        replace hP : va_P D vwCl [(ca, .inl (cs 0, 8, .inl (fcF n k al cf 5))), (rw 5, .inl (cs 0, 35, .inl (sg 5))), (rw 6, .inl (cs 0, 35, .inl (sg 6))), (rw 7, .inl (cs 0, 35, .inl (sg 7))), (rw 0, .inl (cs 0, 35, .inl u_4)), (rw 1, .inl (cs 0, 35, .inl u_8)), (rw 2, .inl (cs 0, 35, .inl u_13)), (rw 3, .inl (cs 0, 35, .inl u_18)), (sm, .inl (cs 5, 8, .inr (.inr (.inr (.inr (fun i => if i < 8 then some (rw i) else none)))))), (rw 4, .inl (cs 0, 35, .inl u_23)), (h, .inr (7, [.int (nI n), .int (nI k), .int (nI al), .int (nI be), .int ea2, .int pr, .ref sm, .int se2, .ref ca]))] H := by rw [← fcF_s n k al cf 4]; exact hP
        replace hD : va_D A [(ca, .inl (cs 0, 8, .inl (fcF n k al cf 5))), (rw 5, .inl (cs 0, 35, .inl (sg 5))), (rw 6, .inl (cs 0, 35, .inl (sg 6))), (rw 7, .inl (cs 0, 35, .inl (sg 7))), (rw 0, .inl (cs 0, 35, .inl u_4)), (rw 1, .inl (cs 0, 35, .inl u_8)), (rw 2, .inl (cs 0, 35, .inl u_13)), (rw 3, .inl (cs 0, 35, .inl u_18)), (sm, .inl (cs 5, 8, .inr (.inr (.inr (.inr (fun i => if i < 8 then some (rw i) else none)))))), (rw 4, .inl (cs 0, 35, .inl u_23)), (h, .inr (7, [.int (nI n), .int (nI k), .int (nI al), .int (nI be), .int ea2, .int pr, .ref sm, .int se2, .ref ca]))] := by rw [← fcF_s n k al cf 4]; exact hD
        refine lv_iinc (v := nI 5) (lv' := [(5, .int (nI 5)), (0, .ref h), (1, .int (nI n)), (2, .int (nI k)), (3, .int (nI al)), (4, .int (nI be))]) hx hb dX7_take_84 hl (k := 0) rfl (by decide) (by decide) rfl ?_
        clear hl
        try clear ls
        intro ls hl
        refine lv_goto (tgt := 56) hx hb dX7_take_87 (by decide) ?_
        refine lv_iload hx hb dX7_take_56 (lv_at hl 0 rfl) ?_
        refine lv_aload_n hx hb dX7_take_58 rfl (lv_at hl 1 rfl) ?_
        refine xget C hP 10 rfl rfl zuX7 0 (by decide) zw1_78 rfl dX7_take_59 ?_
        refine lv_icmp_ge (tgt := 90) hx hb dX7_take_62 (by decide) (fun c_26 => ?_) (fun c_26 => ?_)
        · -- 62 t
          have fc_26 : n ≤ 5 := nf_le (by omega) (by omega) c_26
          have en : n = 5 := by omega
          have hPD := xcongi (q0 := 0) (fcF n k al cf n) hP hD rfl (fun z hz => by rw [show (fcF n k al cf 5) = fcF n k al cf n from by rw [show n = 5 by omega]])
          clear hP hD
          obtain ⟨hP, hD⟩ := hPD
          replace hP : va_P D vwCl [(ca, .inl (cs 0, 8, .inl (fcF n k al cf n))), (rw 5, .inl (cs 0, 35, .inl (sg 5))), (rw 6, .inl (cs 0, 35, .inl (sg 6))), (rw 7, .inl (cs 0, 35, .inl (sg 7))), (rw 0, .inl (cs 0, 35, .inl u_4)), (rw 1, .inl (cs 0, 35, .inl u_8)), (rw 2, .inl (cs 0, 35, .inl u_13)), (rw 3, .inl (cs 0, 35, .inl u_18)), (sm, .inl (cs 5, 8, .inr (.inr (.inr (.inr (fun i => if i < 8 then some (rw i) else none)))))), (rw 4, .inl (cs 0, 35, .inl u_23)), (h, .inr (7, [.int (nI n), .int (nI k), .int (nI al), .int (nI be), .int ea2, .int pr, .ref sm, .int se2, .ref ca]))] H := hP
          replace hD : va_D A [(ca, .inl (cs 0, 8, .inl (fcF n k al cf n))), (rw 5, .inl (cs 0, 35, .inl (sg 5))), (rw 6, .inl (cs 0, 35, .inl (sg 6))), (rw 7, .inl (cs 0, 35, .inl (sg 7))), (rw 0, .inl (cs 0, 35, .inl u_4)), (rw 1, .inl (cs 0, 35, .inl u_8)), (rw 2, .inl (cs 0, 35, .inl u_13)), (rw 3, .inl (cs 0, 35, .inl u_18)), (sm, .inl (cs 5, 8, .inr (.inr (.inr (.inr (fun i => if i < 8 then some (rw i) else none)))))), (rw 4, .inl (cs 0, 35, .inl u_23)), (h, .inr (7, [.int (nI n), .int (nI k), .int (nI al), .int (nI be), .int ea2, .int pr, .ref sm, .int se2, .ref ca]))] := hD
          exact xretv C (fun k => ([u_4, u_8, u_13, u_18, u_23, sg 5, sg 6, sg 7] : List (Nat → Int32)).getD k (fun _ => 0)) trivial (xP_map hP [10, 0, 8, 4, 5, 6, 7, 9, 1, 2, 3] rfl) (hD.sub [10, 0, 8, 4, 5, 6, 7, 9, 1, 2, 3] (by decide) rfl) hS (Nat.le_of_ble_eq_true rfl) (Nat.le_of_ble_eq_true rfl) dX7_take_90
        · -- 62 f
          have fc_26 : 5 < n := nf_nle (by omega) (by omega) c_26
          refine lv_aload_n hx hb dX7_take_65 rfl (lv_at hl 1 rfl) ?_
          refine lv_iload hx hb dX7_take_66 (lv_at hl 0 rfl) ?_
          refine xv (wr := [(ca, .inl (cs 0, 8, .inl (fcF n k al cf 5))), (rw 6, .inl (cs 0, 35, .inl (sg 6))), (rw 7, .inl (cs 0, 35, .inl (sg 7))), (rw 0, .inl (cs 0, 35, .inl u_4)), (rw 1, .inl (cs 0, 35, .inl u_8)), (rw 2, .inl (cs 0, 35, .inl u_13)), (rw 3, .inl (cs 0, 35, .inl u_18)), (rw 4, .inl (cs 0, 35, .inl u_23))]) (xV (As := [.int (nI 5)]) (rest := []) C (c_X7_listSamples l D cs h sm ca n k al be ea2 pr se2 (rw 5) (fun i => if i < 8 then some (rw i) else none) (sg 5) 5 (by omega) (by omega) rfl) kX7_55 hP hD [10, 8, 1] rfl (by decide) 0 rfl rfl rfl ⟨Nat.le_of_ble_eq_true rfl, Nat.le_of_ble_eq_true rfl⟩ rfl hl.1 rfl (Nat.le_of_ble_eq_true rfl) dX7_take_68 ⟨Nat.le_of_ble_eq_true rfl, Nat.le_of_ble_eq_true rfl⟩) hP hD hS hA [10, 8, 1] [0, 2, 3, 4, 5, 6, 7, 9] rfl rfl (by decide) (by decide) ?_
          clear hP hD hS
          try clear locs
          try clear H
          intro u_28 H locs hw_r_27 hP hD hS
          refine W.widen (k := 0) (n := 0) (Nat.le_of_ble_eq_true rfl) (Nat.le_of_ble_eq_true rfl) ?_
          replace hP : va_P D vwCl [(ca, .inl (cs 0, 8, .inl (fcF n k al cf 5))), (rw 6, .inl (cs 0, 35, .inl (sg 6))), (rw 7, .inl (cs 0, 35, .inl (sg 7))), (rw 0, .inl (cs 0, 35, .inl u_4)), (rw 1, .inl (cs 0, 35, .inl u_8)), (rw 2, .inl (cs 0, 35, .inl u_13)), (rw 3, .inl (cs 0, 35, .inl u_18)), (rw 4, .inl (cs 0, 35, .inl u_23)), (h, .inr (7, [.int (nI n), .int (nI k), .int (nI al), .int (nI be), .int ea2, .int pr, .ref sm, .int se2, .ref ca])), (sm, .inl (cs 5, 8, .inr (.inr (.inr (.inr (fun i => if i < 8 then some (rw i) else none)))))), (rw 5, .inl (cs 0, 35, .inl u_28))] H := hP
          replace hD : va_D A [(ca, .inl (cs 0, 8, .inl (fcF n k al cf 5))), (rw 6, .inl (cs 0, 35, .inl (sg 6))), (rw 7, .inl (cs 0, 35, .inl (sg 7))), (rw 0, .inl (cs 0, 35, .inl u_4)), (rw 1, .inl (cs 0, 35, .inl u_8)), (rw 2, .inl (cs 0, 35, .inl u_13)), (rw 3, .inl (cs 0, 35, .inl u_18)), (rw 4, .inl (cs 0, 35, .inl u_23)), (h, .inr (7, [.int (nI n), .int (nI k), .int (nI al), .int (nI be), .int ea2, .int pr, .ref sm, .int se2, .ref ca])), (sm, .inl (cs 5, 8, .inr (.inr (.inr (.inr (fun i => if i < 8 then some (rw i) else none)))))), (rw 5, .inl (cs 0, 35, .inl u_28))] := hD
          refine lv_aload_n hx hb dX7_take_71 rfl (lv_at hl 1 rfl) ?_
          refine xget C hP 8 rfl rfl zuX7 8 (by decide) zw1_106 rfl dX7_take_72 ?_
          refine lv_iload hx hb dX7_take_75 (lv_at hl 0 rfl) ?_
          refine lv_aload_n hx hb dX7_take_77 rfl (lv_at hl 1 rfl) ?_
          refine lv_iload hx hb dX7_take_78 (lv_at hl 0 rfl) ?_
          refine xi (wr := [(ca, .inl (cs 0, 8, .inl (fcF n k al cf 5))), (rw 6, .inl (cs 0, 35, .inl (sg 6))), (rw 7, .inl (cs 0, 35, .inl (sg 7))), (rw 0, .inl (cs 0, 35, .inl u_4)), (rw 1, .inl (cs 0, 35, .inl u_8)), (rw 2, .inl (cs 0, 35, .inl u_13)), (rw 3, .inl (cs 0, 35, .inl u_18)), (rw 4, .inl (cs 0, 35, .inl u_23)), (sm, .inl (cs 5, 8, .inr (.inr (.inr (.inr (fun i => if i < 8 then some (rw i) else none)))))), (rw 5, .inl (cs 0, 35, .inl u_28))]) (xV (As := [.int (nI 5)]) (rest := [.int (nI 5), .ref ca]) C (c_X7_countCarried l D cs h sm ca n k al be ea2 pr se2 5 (by omega) (by omega) (by omega) (by omega)) kX7_59 hP hD [8] rfl (by decide) 0 rfl rfl rfl ⟨Nat.le_of_ble_eq_true rfl, Nat.le_of_ble_eq_true rfl⟩ rfl hl.1 rfl (Nat.le_of_ble_eq_true rfl) dX7_take_80 ⟨Nat.le_of_ble_eq_true rfl, Nat.le_of_ble_eq_true rfl⟩) hP hD hS hA [8] [0, 1, 2, 3, 4, 5, 6, 7, 9, 10] rfl rfl (by decide) (by decide) ?_
          clear hP hD hS
          try clear locs
          try clear H
          intro r_29 u_30 H locs hw_r_29 hP hD hS
          have hw_r_29 : r_29 = ccS 5 n k al (k + 1 - al) := hw_r_29
          refine W.widen (k := 0) (n := 0) (Nat.le_of_ble_eq_true rfl) (Nat.le_of_ble_eq_true rfl) ?_
          replace hP : va_P D vwCl [(ca, .inl (cs 0, 8, .inl (fcF n k al cf 5))), (rw 6, .inl (cs 0, 35, .inl (sg 6))), (rw 7, .inl (cs 0, 35, .inl (sg 7))), (rw 0, .inl (cs 0, 35, .inl u_4)), (rw 1, .inl (cs 0, 35, .inl u_8)), (rw 2, .inl (cs 0, 35, .inl u_13)), (rw 3, .inl (cs 0, 35, .inl u_18)), (rw 4, .inl (cs 0, 35, .inl u_23)), (sm, .inl (cs 5, 8, .inr (.inr (.inr (.inr (fun i => if i < 8 then some (rw i) else none)))))), (rw 5, .inl (cs 0, 35, .inl u_28)), (h, .inr (7, [.int (nI n), .int (nI k), .int (nI al), .int (nI be), .int ea2, .int pr, .ref sm, .int se2, .ref ca]))] H := hP
          replace hD : va_D A [(ca, .inl (cs 0, 8, .inl (fcF n k al cf 5))), (rw 6, .inl (cs 0, 35, .inl (sg 6))), (rw 7, .inl (cs 0, 35, .inl (sg 7))), (rw 0, .inl (cs 0, 35, .inl u_4)), (rw 1, .inl (cs 0, 35, .inl u_8)), (rw 2, .inl (cs 0, 35, .inl u_13)), (rw 3, .inl (cs 0, 35, .inl u_18)), (rw 4, .inl (cs 0, 35, .inl u_23)), (sm, .inl (cs 5, 8, .inr (.inr (.inr (.inr (fun i => if i < 8 then some (rw i) else none)))))), (rw 5, .inl (cs 0, 35, .inl u_28)), (h, .inr (7, [.int (nI n), .int (nI k), .int (nI al), .int (nI be), .int ea2, .int pr, .ref sm, .int se2, .ref ca]))] := hD
          subst hw_r_29
          refine xiast C hP hD hS 0 rfl 5 rfl (by decide) (by decide) dX7_take_83 ?_
          clear hP hD hS
          try clear locs
          try clear H
          intro H locs hP hD hS
          replace hP : va_P D vwCl [(ca, .inl (cs 0, 8, .inl (upd (fcF n k al cf 5) 5 (ccS 5 n k al (k + 1 - al))))), (rw 6, .inl (cs 0, 35, .inl (sg 6))), (rw 7, .inl (cs 0, 35, .inl (sg 7))), (rw 0, .inl (cs 0, 35, .inl u_4)), (rw 1, .inl (cs 0, 35, .inl u_8)), (rw 2, .inl (cs 0, 35, .inl u_13)), (rw 3, .inl (cs 0, 35, .inl u_18)), (rw 4, .inl (cs 0, 35, .inl u_23)), (sm, .inl (cs 5, 8, .inr (.inr (.inr (.inr (fun i => if i < 8 then some (rw i) else none)))))), (rw 5, .inl (cs 0, 35, .inl u_28)), (h, .inr (7, [.int (nI n), .int (nI k), .int (nI al), .int (nI be), .int ea2, .int pr, .ref sm, .int se2, .ref ca]))] H := hP
          replace hD : va_D A [(ca, .inl (cs 0, 8, .inl (upd (fcF n k al cf 5) 5 (ccS 5 n k al (k + 1 - al))))), (rw 6, .inl (cs 0, 35, .inl (sg 6))), (rw 7, .inl (cs 0, 35, .inl (sg 7))), (rw 0, .inl (cs 0, 35, .inl u_4)), (rw 1, .inl (cs 0, 35, .inl u_8)), (rw 2, .inl (cs 0, 35, .inl u_13)), (rw 3, .inl (cs 0, 35, .inl u_18)), (rw 4, .inl (cs 0, 35, .inl u_23)), (sm, .inl (cs 5, 8, .inr (.inr (.inr (.inr (fun i => if i < 8 then some (rw i) else none)))))), (rw 5, .inl (cs 0, 35, .inl u_28)), (h, .inr (7, [.int (nI n), .int (nI k), .int (nI al), .int (nI be), .int ea2, .int pr, .ref sm, .int se2, .ref ca]))] := hD
          replace hP : va_P D vwCl [(ca, .inl (cs 0, 8, .inl (fcF n k al cf 6))), (rw 6, .inl (cs 0, 35, .inl (sg 6))), (rw 7, .inl (cs 0, 35, .inl (sg 7))), (rw 0, .inl (cs 0, 35, .inl u_4)), (rw 1, .inl (cs 0, 35, .inl u_8)), (rw 2, .inl (cs 0, 35, .inl u_13)), (rw 3, .inl (cs 0, 35, .inl u_18)), (rw 4, .inl (cs 0, 35, .inl u_23)), (sm, .inl (cs 5, 8, .inr (.inr (.inr (.inr (fun i => if i < 8 then some (rw i) else none)))))), (rw 5, .inl (cs 0, 35, .inl u_28)), (h, .inr (7, [.int (nI n), .int (nI k), .int (nI al), .int (nI be), .int ea2, .int pr, .ref sm, .int se2, .ref ca]))] H := by rw [← fcF_s n k al cf 5]; exact hP
          replace hD : va_D A [(ca, .inl (cs 0, 8, .inl (fcF n k al cf 6))), (rw 6, .inl (cs 0, 35, .inl (sg 6))), (rw 7, .inl (cs 0, 35, .inl (sg 7))), (rw 0, .inl (cs 0, 35, .inl u_4)), (rw 1, .inl (cs 0, 35, .inl u_8)), (rw 2, .inl (cs 0, 35, .inl u_13)), (rw 3, .inl (cs 0, 35, .inl u_18)), (rw 4, .inl (cs 0, 35, .inl u_23)), (sm, .inl (cs 5, 8, .inr (.inr (.inr (.inr (fun i => if i < 8 then some (rw i) else none)))))), (rw 5, .inl (cs 0, 35, .inl u_28)), (h, .inr (7, [.int (nI n), .int (nI k), .int (nI al), .int (nI be), .int ea2, .int pr, .ref sm, .int se2, .ref ca]))] := by rw [← fcF_s n k al cf 5]; exact hD
          refine lv_iinc (v := nI 6) (lv' := [(5, .int (nI 6)), (0, .ref h), (1, .int (nI n)), (2, .int (nI k)), (3, .int (nI al)), (4, .int (nI be))]) hx hb dX7_take_84 hl (k := 0) rfl (by decide) (by decide) rfl ?_
          clear hl
          try clear ls
          intro ls hl
          refine lv_goto (tgt := 56) hx hb dX7_take_87 (by decide) ?_
          refine lv_iload hx hb dX7_take_56 (lv_at hl 0 rfl) ?_
          refine lv_aload_n hx hb dX7_take_58 rfl (lv_at hl 1 rfl) ?_
          refine xget C hP 10 rfl rfl zuX7 0 (by decide) zw1_78 rfl dX7_take_59 ?_
          refine lv_icmp_ge (tgt := 90) hx hb dX7_take_62 (by decide) (fun c_31 => ?_) (fun c_31 => ?_)
          · -- 62 t
            have fc_31 : n ≤ 6 := nf_le (by omega) (by omega) c_31
            have en : n = 6 := by omega
            have hPD := xcongi (q0 := 0) (fcF n k al cf n) hP hD rfl (fun z hz => by rw [show (fcF n k al cf 6) = fcF n k al cf n from by rw [show n = 6 by omega]])
            clear hP hD
            obtain ⟨hP, hD⟩ := hPD
            replace hP : va_P D vwCl [(ca, .inl (cs 0, 8, .inl (fcF n k al cf n))), (rw 6, .inl (cs 0, 35, .inl (sg 6))), (rw 7, .inl (cs 0, 35, .inl (sg 7))), (rw 0, .inl (cs 0, 35, .inl u_4)), (rw 1, .inl (cs 0, 35, .inl u_8)), (rw 2, .inl (cs 0, 35, .inl u_13)), (rw 3, .inl (cs 0, 35, .inl u_18)), (rw 4, .inl (cs 0, 35, .inl u_23)), (sm, .inl (cs 5, 8, .inr (.inr (.inr (.inr (fun i => if i < 8 then some (rw i) else none)))))), (rw 5, .inl (cs 0, 35, .inl u_28)), (h, .inr (7, [.int (nI n), .int (nI k), .int (nI al), .int (nI be), .int ea2, .int pr, .ref sm, .int se2, .ref ca]))] H := hP
            replace hD : va_D A [(ca, .inl (cs 0, 8, .inl (fcF n k al cf n))), (rw 6, .inl (cs 0, 35, .inl (sg 6))), (rw 7, .inl (cs 0, 35, .inl (sg 7))), (rw 0, .inl (cs 0, 35, .inl u_4)), (rw 1, .inl (cs 0, 35, .inl u_8)), (rw 2, .inl (cs 0, 35, .inl u_13)), (rw 3, .inl (cs 0, 35, .inl u_18)), (rw 4, .inl (cs 0, 35, .inl u_23)), (sm, .inl (cs 5, 8, .inr (.inr (.inr (.inr (fun i => if i < 8 then some (rw i) else none)))))), (rw 5, .inl (cs 0, 35, .inl u_28)), (h, .inr (7, [.int (nI n), .int (nI k), .int (nI al), .int (nI be), .int ea2, .int pr, .ref sm, .int se2, .ref ca]))] := hD
            exact xretv C (fun k => ([u_4, u_8, u_13, u_18, u_23, u_28, sg 6, sg 7] : List (Nat → Int32)).getD k (fun _ => 0)) trivial (xP_map hP [10, 0, 8, 3, 4, 5, 6, 7, 9, 1, 2] rfl) (hD.sub [10, 0, 8, 3, 4, 5, 6, 7, 9, 1, 2] (by decide) rfl) hS (Nat.le_of_ble_eq_true rfl) (Nat.le_of_ble_eq_true rfl) dX7_take_90
          · -- 62 f
            have fc_31 : 6 < n := nf_nle (by omega) (by omega) c_31
            refine lv_aload_n hx hb dX7_take_65 rfl (lv_at hl 1 rfl) ?_
            refine lv_iload hx hb dX7_take_66 (lv_at hl 0 rfl) ?_
            refine xv (wr := [(ca, .inl (cs 0, 8, .inl (fcF n k al cf 6))), (rw 7, .inl (cs 0, 35, .inl (sg 7))), (rw 0, .inl (cs 0, 35, .inl u_4)), (rw 1, .inl (cs 0, 35, .inl u_8)), (rw 2, .inl (cs 0, 35, .inl u_13)), (rw 3, .inl (cs 0, 35, .inl u_18)), (rw 4, .inl (cs 0, 35, .inl u_23)), (rw 5, .inl (cs 0, 35, .inl u_28))]) (xV (As := [.int (nI 6)]) (rest := []) C (c_X7_listSamples l D cs h sm ca n k al be ea2 pr se2 (rw 6) (fun i => if i < 8 then some (rw i) else none) (sg 6) 6 (by omega) (by omega) rfl) kX7_55 hP hD [10, 8, 1] rfl (by decide) 0 rfl rfl rfl ⟨Nat.le_of_ble_eq_true rfl, Nat.le_of_ble_eq_true rfl⟩ rfl hl.1 rfl (Nat.le_of_ble_eq_true rfl) dX7_take_68 ⟨Nat.le_of_ble_eq_true rfl, Nat.le_of_ble_eq_true rfl⟩) hP hD hS hA [10, 8, 1] [0, 2, 3, 4, 5, 6, 7, 9] rfl rfl (by decide) (by decide) ?_
            clear hP hD hS
            try clear locs
            try clear H
            intro u_33 H locs hw_r_32 hP hD hS
            refine W.widen (k := 0) (n := 0) (Nat.le_of_ble_eq_true rfl) (Nat.le_of_ble_eq_true rfl) ?_
            replace hP : va_P D vwCl [(ca, .inl (cs 0, 8, .inl (fcF n k al cf 6))), (rw 7, .inl (cs 0, 35, .inl (sg 7))), (rw 0, .inl (cs 0, 35, .inl u_4)), (rw 1, .inl (cs 0, 35, .inl u_8)), (rw 2, .inl (cs 0, 35, .inl u_13)), (rw 3, .inl (cs 0, 35, .inl u_18)), (rw 4, .inl (cs 0, 35, .inl u_23)), (rw 5, .inl (cs 0, 35, .inl u_28)), (h, .inr (7, [.int (nI n), .int (nI k), .int (nI al), .int (nI be), .int ea2, .int pr, .ref sm, .int se2, .ref ca])), (sm, .inl (cs 5, 8, .inr (.inr (.inr (.inr (fun i => if i < 8 then some (rw i) else none)))))), (rw 6, .inl (cs 0, 35, .inl u_33))] H := hP
            replace hD : va_D A [(ca, .inl (cs 0, 8, .inl (fcF n k al cf 6))), (rw 7, .inl (cs 0, 35, .inl (sg 7))), (rw 0, .inl (cs 0, 35, .inl u_4)), (rw 1, .inl (cs 0, 35, .inl u_8)), (rw 2, .inl (cs 0, 35, .inl u_13)), (rw 3, .inl (cs 0, 35, .inl u_18)), (rw 4, .inl (cs 0, 35, .inl u_23)), (rw 5, .inl (cs 0, 35, .inl u_28)), (h, .inr (7, [.int (nI n), .int (nI k), .int (nI al), .int (nI be), .int ea2, .int pr, .ref sm, .int se2, .ref ca])), (sm, .inl (cs 5, 8, .inr (.inr (.inr (.inr (fun i => if i < 8 then some (rw i) else none)))))), (rw 6, .inl (cs 0, 35, .inl u_33))] := hD
            refine lv_aload_n hx hb dX7_take_71 rfl (lv_at hl 1 rfl) ?_
            refine xget C hP 8 rfl rfl zuX7 8 (by decide) zw1_106 rfl dX7_take_72 ?_
            refine lv_iload hx hb dX7_take_75 (lv_at hl 0 rfl) ?_
            refine lv_aload_n hx hb dX7_take_77 rfl (lv_at hl 1 rfl) ?_
            refine lv_iload hx hb dX7_take_78 (lv_at hl 0 rfl) ?_
            refine xi (wr := [(ca, .inl (cs 0, 8, .inl (fcF n k al cf 6))), (rw 7, .inl (cs 0, 35, .inl (sg 7))), (rw 0, .inl (cs 0, 35, .inl u_4)), (rw 1, .inl (cs 0, 35, .inl u_8)), (rw 2, .inl (cs 0, 35, .inl u_13)), (rw 3, .inl (cs 0, 35, .inl u_18)), (rw 4, .inl (cs 0, 35, .inl u_23)), (rw 5, .inl (cs 0, 35, .inl u_28)), (sm, .inl (cs 5, 8, .inr (.inr (.inr (.inr (fun i => if i < 8 then some (rw i) else none)))))), (rw 6, .inl (cs 0, 35, .inl u_33))]) (xV (As := [.int (nI 6)]) (rest := [.int (nI 6), .ref ca]) C (c_X7_countCarried l D cs h sm ca n k al be ea2 pr se2 6 (by omega) (by omega) (by omega) (by omega)) kX7_59 hP hD [8] rfl (by decide) 0 rfl rfl rfl ⟨Nat.le_of_ble_eq_true rfl, Nat.le_of_ble_eq_true rfl⟩ rfl hl.1 rfl (Nat.le_of_ble_eq_true rfl) dX7_take_80 ⟨Nat.le_of_ble_eq_true rfl, Nat.le_of_ble_eq_true rfl⟩) hP hD hS hA [8] [0, 1, 2, 3, 4, 5, 6, 7, 9, 10] rfl rfl (by decide) (by decide) ?_
            clear hP hD hS
            try clear locs
            try clear H
            intro r_34 u_35 H locs hw_r_34 hP hD hS
            have hw_r_34 : r_34 = ccS 6 n k al (k + 1 - al) := hw_r_34
            refine W.widen (k := 0) (n := 0) (Nat.le_of_ble_eq_true rfl) (Nat.le_of_ble_eq_true rfl) ?_
            replace hP : va_P D vwCl [(ca, .inl (cs 0, 8, .inl (fcF n k al cf 6))), (rw 7, .inl (cs 0, 35, .inl (sg 7))), (rw 0, .inl (cs 0, 35, .inl u_4)), (rw 1, .inl (cs 0, 35, .inl u_8)), (rw 2, .inl (cs 0, 35, .inl u_13)), (rw 3, .inl (cs 0, 35, .inl u_18)), (rw 4, .inl (cs 0, 35, .inl u_23)), (rw 5, .inl (cs 0, 35, .inl u_28)), (sm, .inl (cs 5, 8, .inr (.inr (.inr (.inr (fun i => if i < 8 then some (rw i) else none)))))), (rw 6, .inl (cs 0, 35, .inl u_33)), (h, .inr (7, [.int (nI n), .int (nI k), .int (nI al), .int (nI be), .int ea2, .int pr, .ref sm, .int se2, .ref ca]))] H := hP
            replace hD : va_D A [(ca, .inl (cs 0, 8, .inl (fcF n k al cf 6))), (rw 7, .inl (cs 0, 35, .inl (sg 7))), (rw 0, .inl (cs 0, 35, .inl u_4)), (rw 1, .inl (cs 0, 35, .inl u_8)), (rw 2, .inl (cs 0, 35, .inl u_13)), (rw 3, .inl (cs 0, 35, .inl u_18)), (rw 4, .inl (cs 0, 35, .inl u_23)), (rw 5, .inl (cs 0, 35, .inl u_28)), (sm, .inl (cs 5, 8, .inr (.inr (.inr (.inr (fun i => if i < 8 then some (rw i) else none)))))), (rw 6, .inl (cs 0, 35, .inl u_33)), (h, .inr (7, [.int (nI n), .int (nI k), .int (nI al), .int (nI be), .int ea2, .int pr, .ref sm, .int se2, .ref ca]))] := hD
            subst hw_r_34
            refine xiast C hP hD hS 0 rfl 6 rfl (by decide) (by decide) dX7_take_83 ?_
            clear hP hD hS
            try clear locs
            try clear H
            intro H locs hP hD hS
            replace hP : va_P D vwCl [(ca, .inl (cs 0, 8, .inl (upd (fcF n k al cf 6) 6 (ccS 6 n k al (k + 1 - al))))), (rw 7, .inl (cs 0, 35, .inl (sg 7))), (rw 0, .inl (cs 0, 35, .inl u_4)), (rw 1, .inl (cs 0, 35, .inl u_8)), (rw 2, .inl (cs 0, 35, .inl u_13)), (rw 3, .inl (cs 0, 35, .inl u_18)), (rw 4, .inl (cs 0, 35, .inl u_23)), (rw 5, .inl (cs 0, 35, .inl u_28)), (sm, .inl (cs 5, 8, .inr (.inr (.inr (.inr (fun i => if i < 8 then some (rw i) else none)))))), (rw 6, .inl (cs 0, 35, .inl u_33)), (h, .inr (7, [.int (nI n), .int (nI k), .int (nI al), .int (nI be), .int ea2, .int pr, .ref sm, .int se2, .ref ca]))] H := hP
            replace hD : va_D A [(ca, .inl (cs 0, 8, .inl (upd (fcF n k al cf 6) 6 (ccS 6 n k al (k + 1 - al))))), (rw 7, .inl (cs 0, 35, .inl (sg 7))), (rw 0, .inl (cs 0, 35, .inl u_4)), (rw 1, .inl (cs 0, 35, .inl u_8)), (rw 2, .inl (cs 0, 35, .inl u_13)), (rw 3, .inl (cs 0, 35, .inl u_18)), (rw 4, .inl (cs 0, 35, .inl u_23)), (rw 5, .inl (cs 0, 35, .inl u_28)), (sm, .inl (cs 5, 8, .inr (.inr (.inr (.inr (fun i => if i < 8 then some (rw i) else none)))))), (rw 6, .inl (cs 0, 35, .inl u_33)), (h, .inr (7, [.int (nI n), .int (nI k), .int (nI al), .int (nI be), .int ea2, .int pr, .ref sm, .int se2, .ref ca]))] := hD
            replace hP : va_P D vwCl [(ca, .inl (cs 0, 8, .inl (fcF n k al cf 7))), (rw 7, .inl (cs 0, 35, .inl (sg 7))), (rw 0, .inl (cs 0, 35, .inl u_4)), (rw 1, .inl (cs 0, 35, .inl u_8)), (rw 2, .inl (cs 0, 35, .inl u_13)), (rw 3, .inl (cs 0, 35, .inl u_18)), (rw 4, .inl (cs 0, 35, .inl u_23)), (rw 5, .inl (cs 0, 35, .inl u_28)), (sm, .inl (cs 5, 8, .inr (.inr (.inr (.inr (fun i => if i < 8 then some (rw i) else none)))))), (rw 6, .inl (cs 0, 35, .inl u_33)), (h, .inr (7, [.int (nI n), .int (nI k), .int (nI al), .int (nI be), .int ea2, .int pr, .ref sm, .int se2, .ref ca]))] H := by rw [← fcF_s n k al cf 6]; exact hP
            replace hD : va_D A [(ca, .inl (cs 0, 8, .inl (fcF n k al cf 7))), (rw 7, .inl (cs 0, 35, .inl (sg 7))), (rw 0, .inl (cs 0, 35, .inl u_4)), (rw 1, .inl (cs 0, 35, .inl u_8)), (rw 2, .inl (cs 0, 35, .inl u_13)), (rw 3, .inl (cs 0, 35, .inl u_18)), (rw 4, .inl (cs 0, 35, .inl u_23)), (rw 5, .inl (cs 0, 35, .inl u_28)), (sm, .inl (cs 5, 8, .inr (.inr (.inr (.inr (fun i => if i < 8 then some (rw i) else none)))))), (rw 6, .inl (cs 0, 35, .inl u_33)), (h, .inr (7, [.int (nI n), .int (nI k), .int (nI al), .int (nI be), .int ea2, .int pr, .ref sm, .int se2, .ref ca]))] := by rw [← fcF_s n k al cf 6]; exact hD
            refine lv_iinc (v := nI 7) (lv' := [(5, .int (nI 7)), (0, .ref h), (1, .int (nI n)), (2, .int (nI k)), (3, .int (nI al)), (4, .int (nI be))]) hx hb dX7_take_84 hl (k := 0) rfl (by decide) (by decide) rfl ?_
            clear hl
            try clear ls
            intro ls hl
            refine lv_goto (tgt := 56) hx hb dX7_take_87 (by decide) ?_
            refine lv_iload hx hb dX7_take_56 (lv_at hl 0 rfl) ?_
            refine lv_aload_n hx hb dX7_take_58 rfl (lv_at hl 1 rfl) ?_
            refine xget C hP 10 rfl rfl zuX7 0 (by decide) zw1_78 rfl dX7_take_59 ?_
            refine lv_icmp_ge (tgt := 90) hx hb dX7_take_62 (by decide) (fun c_36 => ?_) (fun c_36 => ?_)
            · -- 62 t
              have fc_36 : n ≤ 7 := nf_le (by omega) (by omega) c_36
              have en : n = 7 := by omega
              have hPD := xcongi (q0 := 0) (fcF n k al cf n) hP hD rfl (fun z hz => by rw [show (fcF n k al cf 7) = fcF n k al cf n from by rw [show n = 7 by omega]])
              clear hP hD
              obtain ⟨hP, hD⟩ := hPD
              replace hP : va_P D vwCl [(ca, .inl (cs 0, 8, .inl (fcF n k al cf n))), (rw 7, .inl (cs 0, 35, .inl (sg 7))), (rw 0, .inl (cs 0, 35, .inl u_4)), (rw 1, .inl (cs 0, 35, .inl u_8)), (rw 2, .inl (cs 0, 35, .inl u_13)), (rw 3, .inl (cs 0, 35, .inl u_18)), (rw 4, .inl (cs 0, 35, .inl u_23)), (rw 5, .inl (cs 0, 35, .inl u_28)), (sm, .inl (cs 5, 8, .inr (.inr (.inr (.inr (fun i => if i < 8 then some (rw i) else none)))))), (rw 6, .inl (cs 0, 35, .inl u_33)), (h, .inr (7, [.int (nI n), .int (nI k), .int (nI al), .int (nI be), .int ea2, .int pr, .ref sm, .int se2, .ref ca]))] H := hP
              replace hD : va_D A [(ca, .inl (cs 0, 8, .inl (fcF n k al cf n))), (rw 7, .inl (cs 0, 35, .inl (sg 7))), (rw 0, .inl (cs 0, 35, .inl u_4)), (rw 1, .inl (cs 0, 35, .inl u_8)), (rw 2, .inl (cs 0, 35, .inl u_13)), (rw 3, .inl (cs 0, 35, .inl u_18)), (rw 4, .inl (cs 0, 35, .inl u_23)), (rw 5, .inl (cs 0, 35, .inl u_28)), (sm, .inl (cs 5, 8, .inr (.inr (.inr (.inr (fun i => if i < 8 then some (rw i) else none)))))), (rw 6, .inl (cs 0, 35, .inl u_33)), (h, .inr (7, [.int (nI n), .int (nI k), .int (nI al), .int (nI be), .int ea2, .int pr, .ref sm, .int se2, .ref ca]))] := hD
              exact xretv C (fun k => ([u_4, u_8, u_13, u_18, u_23, u_28, u_33, sg 7] : List (Nat → Int32)).getD k (fun _ => 0)) trivial (xP_map hP [10, 0, 8, 2, 3, 4, 5, 6, 7, 9, 1] rfl) (hD.sub [10, 0, 8, 2, 3, 4, 5, 6, 7, 9, 1] (by decide) rfl) hS (Nat.le_of_ble_eq_true rfl) (Nat.le_of_ble_eq_true rfl) dX7_take_90
            · -- 62 f
              have fc_36 : 7 < n := nf_nle (by omega) (by omega) c_36
              refine lv_aload_n hx hb dX7_take_65 rfl (lv_at hl 1 rfl) ?_
              refine lv_iload hx hb dX7_take_66 (lv_at hl 0 rfl) ?_
              refine xv (wr := [(ca, .inl (cs 0, 8, .inl (fcF n k al cf 7))), (rw 0, .inl (cs 0, 35, .inl u_4)), (rw 1, .inl (cs 0, 35, .inl u_8)), (rw 2, .inl (cs 0, 35, .inl u_13)), (rw 3, .inl (cs 0, 35, .inl u_18)), (rw 4, .inl (cs 0, 35, .inl u_23)), (rw 5, .inl (cs 0, 35, .inl u_28)), (rw 6, .inl (cs 0, 35, .inl u_33))]) (xV (As := [.int (nI 7)]) (rest := []) C (c_X7_listSamples l D cs h sm ca n k al be ea2 pr se2 (rw 7) (fun i => if i < 8 then some (rw i) else none) (sg 7) 7 (by omega) (by omega) rfl) kX7_55 hP hD [10, 8, 1] rfl (by decide) 0 rfl rfl rfl ⟨Nat.le_of_ble_eq_true rfl, Nat.le_of_ble_eq_true rfl⟩ rfl hl.1 rfl (Nat.le_of_ble_eq_true rfl) dX7_take_68 ⟨Nat.le_of_ble_eq_true rfl, Nat.le_of_ble_eq_true rfl⟩) hP hD hS hA [10, 8, 1] [0, 2, 3, 4, 5, 6, 7, 9] rfl rfl (by decide) (by decide) ?_
              clear hP hD hS
              try clear locs
              try clear H
              intro u_38 H locs hw_r_37 hP hD hS
              refine W.widen (k := 0) (n := 0) (Nat.le_of_ble_eq_true rfl) (Nat.le_of_ble_eq_true rfl) ?_
              replace hP : va_P D vwCl [(ca, .inl (cs 0, 8, .inl (fcF n k al cf 7))), (rw 0, .inl (cs 0, 35, .inl u_4)), (rw 1, .inl (cs 0, 35, .inl u_8)), (rw 2, .inl (cs 0, 35, .inl u_13)), (rw 3, .inl (cs 0, 35, .inl u_18)), (rw 4, .inl (cs 0, 35, .inl u_23)), (rw 5, .inl (cs 0, 35, .inl u_28)), (rw 6, .inl (cs 0, 35, .inl u_33)), (h, .inr (7, [.int (nI n), .int (nI k), .int (nI al), .int (nI be), .int ea2, .int pr, .ref sm, .int se2, .ref ca])), (sm, .inl (cs 5, 8, .inr (.inr (.inr (.inr (fun i => if i < 8 then some (rw i) else none)))))), (rw 7, .inl (cs 0, 35, .inl u_38))] H := hP
              replace hD : va_D A [(ca, .inl (cs 0, 8, .inl (fcF n k al cf 7))), (rw 0, .inl (cs 0, 35, .inl u_4)), (rw 1, .inl (cs 0, 35, .inl u_8)), (rw 2, .inl (cs 0, 35, .inl u_13)), (rw 3, .inl (cs 0, 35, .inl u_18)), (rw 4, .inl (cs 0, 35, .inl u_23)), (rw 5, .inl (cs 0, 35, .inl u_28)), (rw 6, .inl (cs 0, 35, .inl u_33)), (h, .inr (7, [.int (nI n), .int (nI k), .int (nI al), .int (nI be), .int ea2, .int pr, .ref sm, .int se2, .ref ca])), (sm, .inl (cs 5, 8, .inr (.inr (.inr (.inr (fun i => if i < 8 then some (rw i) else none)))))), (rw 7, .inl (cs 0, 35, .inl u_38))] := hD
              refine lv_aload_n hx hb dX7_take_71 rfl (lv_at hl 1 rfl) ?_
              refine xget C hP 8 rfl rfl zuX7 8 (by decide) zw1_106 rfl dX7_take_72 ?_
              refine lv_iload hx hb dX7_take_75 (lv_at hl 0 rfl) ?_
              refine lv_aload_n hx hb dX7_take_77 rfl (lv_at hl 1 rfl) ?_
              refine lv_iload hx hb dX7_take_78 (lv_at hl 0 rfl) ?_
              refine xi (wr := [(ca, .inl (cs 0, 8, .inl (fcF n k al cf 7))), (rw 0, .inl (cs 0, 35, .inl u_4)), (rw 1, .inl (cs 0, 35, .inl u_8)), (rw 2, .inl (cs 0, 35, .inl u_13)), (rw 3, .inl (cs 0, 35, .inl u_18)), (rw 4, .inl (cs 0, 35, .inl u_23)), (rw 5, .inl (cs 0, 35, .inl u_28)), (rw 6, .inl (cs 0, 35, .inl u_33)), (sm, .inl (cs 5, 8, .inr (.inr (.inr (.inr (fun i => if i < 8 then some (rw i) else none)))))), (rw 7, .inl (cs 0, 35, .inl u_38))]) (xV (As := [.int (nI 7)]) (rest := [.int (nI 7), .ref ca]) C (c_X7_countCarried l D cs h sm ca n k al be ea2 pr se2 7 (by omega) (by omega) (by omega) (by omega)) kX7_59 hP hD [8] rfl (by decide) 0 rfl rfl rfl ⟨Nat.le_of_ble_eq_true rfl, Nat.le_of_ble_eq_true rfl⟩ rfl hl.1 rfl (Nat.le_of_ble_eq_true rfl) dX7_take_80 ⟨Nat.le_of_ble_eq_true rfl, Nat.le_of_ble_eq_true rfl⟩) hP hD hS hA [8] [0, 1, 2, 3, 4, 5, 6, 7, 9, 10] rfl rfl (by decide) (by decide) ?_
              clear hP hD hS
              try clear locs
              try clear H
              intro r_39 u_40 H locs hw_r_39 hP hD hS
              have hw_r_39 : r_39 = ccS 7 n k al (k + 1 - al) := hw_r_39
              refine W.widen (k := 0) (n := 0) (Nat.le_of_ble_eq_true rfl) (Nat.le_of_ble_eq_true rfl) ?_
              replace hP : va_P D vwCl [(ca, .inl (cs 0, 8, .inl (fcF n k al cf 7))), (rw 0, .inl (cs 0, 35, .inl u_4)), (rw 1, .inl (cs 0, 35, .inl u_8)), (rw 2, .inl (cs 0, 35, .inl u_13)), (rw 3, .inl (cs 0, 35, .inl u_18)), (rw 4, .inl (cs 0, 35, .inl u_23)), (rw 5, .inl (cs 0, 35, .inl u_28)), (rw 6, .inl (cs 0, 35, .inl u_33)), (sm, .inl (cs 5, 8, .inr (.inr (.inr (.inr (fun i => if i < 8 then some (rw i) else none)))))), (rw 7, .inl (cs 0, 35, .inl u_38)), (h, .inr (7, [.int (nI n), .int (nI k), .int (nI al), .int (nI be), .int ea2, .int pr, .ref sm, .int se2, .ref ca]))] H := hP
              replace hD : va_D A [(ca, .inl (cs 0, 8, .inl (fcF n k al cf 7))), (rw 0, .inl (cs 0, 35, .inl u_4)), (rw 1, .inl (cs 0, 35, .inl u_8)), (rw 2, .inl (cs 0, 35, .inl u_13)), (rw 3, .inl (cs 0, 35, .inl u_18)), (rw 4, .inl (cs 0, 35, .inl u_23)), (rw 5, .inl (cs 0, 35, .inl u_28)), (rw 6, .inl (cs 0, 35, .inl u_33)), (sm, .inl (cs 5, 8, .inr (.inr (.inr (.inr (fun i => if i < 8 then some (rw i) else none)))))), (rw 7, .inl (cs 0, 35, .inl u_38)), (h, .inr (7, [.int (nI n), .int (nI k), .int (nI al), .int (nI be), .int ea2, .int pr, .ref sm, .int se2, .ref ca]))] := hD
              subst hw_r_39
              refine xiast C hP hD hS 0 rfl 7 rfl (by decide) (by decide) dX7_take_83 ?_
              clear hP hD hS
              try clear locs
              try clear H
              intro H locs hP hD hS
              replace hP : va_P D vwCl [(ca, .inl (cs 0, 8, .inl (upd (fcF n k al cf 7) 7 (ccS 7 n k al (k + 1 - al))))), (rw 0, .inl (cs 0, 35, .inl u_4)), (rw 1, .inl (cs 0, 35, .inl u_8)), (rw 2, .inl (cs 0, 35, .inl u_13)), (rw 3, .inl (cs 0, 35, .inl u_18)), (rw 4, .inl (cs 0, 35, .inl u_23)), (rw 5, .inl (cs 0, 35, .inl u_28)), (rw 6, .inl (cs 0, 35, .inl u_33)), (sm, .inl (cs 5, 8, .inr (.inr (.inr (.inr (fun i => if i < 8 then some (rw i) else none)))))), (rw 7, .inl (cs 0, 35, .inl u_38)), (h, .inr (7, [.int (nI n), .int (nI k), .int (nI al), .int (nI be), .int ea2, .int pr, .ref sm, .int se2, .ref ca]))] H := hP
              replace hD : va_D A [(ca, .inl (cs 0, 8, .inl (upd (fcF n k al cf 7) 7 (ccS 7 n k al (k + 1 - al))))), (rw 0, .inl (cs 0, 35, .inl u_4)), (rw 1, .inl (cs 0, 35, .inl u_8)), (rw 2, .inl (cs 0, 35, .inl u_13)), (rw 3, .inl (cs 0, 35, .inl u_18)), (rw 4, .inl (cs 0, 35, .inl u_23)), (rw 5, .inl (cs 0, 35, .inl u_28)), (rw 6, .inl (cs 0, 35, .inl u_33)), (sm, .inl (cs 5, 8, .inr (.inr (.inr (.inr (fun i => if i < 8 then some (rw i) else none)))))), (rw 7, .inl (cs 0, 35, .inl u_38)), (h, .inr (7, [.int (nI n), .int (nI k), .int (nI al), .int (nI be), .int ea2, .int pr, .ref sm, .int se2, .ref ca]))] := hD
              replace hP : va_P D vwCl [(ca, .inl (cs 0, 8, .inl (fcF n k al cf 8))), (rw 0, .inl (cs 0, 35, .inl u_4)), (rw 1, .inl (cs 0, 35, .inl u_8)), (rw 2, .inl (cs 0, 35, .inl u_13)), (rw 3, .inl (cs 0, 35, .inl u_18)), (rw 4, .inl (cs 0, 35, .inl u_23)), (rw 5, .inl (cs 0, 35, .inl u_28)), (rw 6, .inl (cs 0, 35, .inl u_33)), (sm, .inl (cs 5, 8, .inr (.inr (.inr (.inr (fun i => if i < 8 then some (rw i) else none)))))), (rw 7, .inl (cs 0, 35, .inl u_38)), (h, .inr (7, [.int (nI n), .int (nI k), .int (nI al), .int (nI be), .int ea2, .int pr, .ref sm, .int se2, .ref ca]))] H := by rw [← fcF_s n k al cf 7]; exact hP
              replace hD : va_D A [(ca, .inl (cs 0, 8, .inl (fcF n k al cf 8))), (rw 0, .inl (cs 0, 35, .inl u_4)), (rw 1, .inl (cs 0, 35, .inl u_8)), (rw 2, .inl (cs 0, 35, .inl u_13)), (rw 3, .inl (cs 0, 35, .inl u_18)), (rw 4, .inl (cs 0, 35, .inl u_23)), (rw 5, .inl (cs 0, 35, .inl u_28)), (rw 6, .inl (cs 0, 35, .inl u_33)), (sm, .inl (cs 5, 8, .inr (.inr (.inr (.inr (fun i => if i < 8 then some (rw i) else none)))))), (rw 7, .inl (cs 0, 35, .inl u_38)), (h, .inr (7, [.int (nI n), .int (nI k), .int (nI al), .int (nI be), .int ea2, .int pr, .ref sm, .int se2, .ref ca]))] := by rw [← fcF_s n k al cf 7]; exact hD
              refine lv_iinc (v := nI 8) (lv' := [(5, .int (nI 8)), (0, .ref h), (1, .int (nI n)), (2, .int (nI k)), (3, .int (nI al)), (4, .int (nI be))]) hx hb dX7_take_84 hl (k := 0) rfl (by decide) (by decide) rfl ?_
              clear hl
              try clear ls
              intro ls hl
              refine lv_goto (tgt := 56) hx hb dX7_take_87 (by decide) ?_
              refine lv_iload hx hb dX7_take_56 (lv_at hl 0 rfl) ?_
              refine lv_aload_n hx hb dX7_take_58 rfl (lv_at hl 1 rfl) ?_
              refine xget C hP 10 rfl rfl zuX7 0 (by decide) zw1_78 rfl dX7_take_59 ?_
              refine lv_icmp_ge (tgt := 90) hx hb dX7_take_62 (by decide) (fun _ => ?_) (fun c => absurd (nI_le (by omega) (by omega)) c)
              have en : n = 8 := by omega
              have hPD := xcongi (q0 := 0) (fcF n k al cf n) hP hD rfl (fun z hz => by rw [show (fcF n k al cf 8) = fcF n k al cf n from by rw [show n = 8 by omega]])
              clear hP hD
              obtain ⟨hP, hD⟩ := hPD
              replace hP : va_P D vwCl [(ca, .inl (cs 0, 8, .inl (fcF n k al cf n))), (rw 0, .inl (cs 0, 35, .inl u_4)), (rw 1, .inl (cs 0, 35, .inl u_8)), (rw 2, .inl (cs 0, 35, .inl u_13)), (rw 3, .inl (cs 0, 35, .inl u_18)), (rw 4, .inl (cs 0, 35, .inl u_23)), (rw 5, .inl (cs 0, 35, .inl u_28)), (rw 6, .inl (cs 0, 35, .inl u_33)), (sm, .inl (cs 5, 8, .inr (.inr (.inr (.inr (fun i => if i < 8 then some (rw i) else none)))))), (rw 7, .inl (cs 0, 35, .inl u_38)), (h, .inr (7, [.int (nI n), .int (nI k), .int (nI al), .int (nI be), .int ea2, .int pr, .ref sm, .int se2, .ref ca]))] H := hP
              replace hD : va_D A [(ca, .inl (cs 0, 8, .inl (fcF n k al cf n))), (rw 0, .inl (cs 0, 35, .inl u_4)), (rw 1, .inl (cs 0, 35, .inl u_8)), (rw 2, .inl (cs 0, 35, .inl u_13)), (rw 3, .inl (cs 0, 35, .inl u_18)), (rw 4, .inl (cs 0, 35, .inl u_23)), (rw 5, .inl (cs 0, 35, .inl u_28)), (rw 6, .inl (cs 0, 35, .inl u_33)), (sm, .inl (cs 5, 8, .inr (.inr (.inr (.inr (fun i => if i < 8 then some (rw i) else none)))))), (rw 7, .inl (cs 0, 35, .inl u_38)), (h, .inr (7, [.int (nI n), .int (nI k), .int (nI al), .int (nI be), .int ea2, .int pr, .ref sm, .int se2, .ref ca]))] := hD
              exact xretv C (fun k => ([u_4, u_8, u_13, u_18, u_23, u_28, u_33, u_38] : List (Nat → Int32)).getD k (fun _ => 0)) trivial (xP_map hP [10, 0, 8, 1, 2, 3, 4, 5, 6, 7, 9] rfl) (hD.sub [10, 0, 8, 1, 2, 3, 4, 5, 6, 7, 9] (by decide) rfl) hS (Nat.le_of_ble_eq_true rfl) (Nat.le_of_ble_eq_true rfl) dX7_take_90

set_option maxHeartbeats 4000000 in
set_option maxRecDepth 100000 in
theorem c_X7_init (l : Launch) (D : va_G) (cs : Nat → ClassId) (h : Nat) : xMet l D cs yX7_init cX7_init 1 none ({ frames := 4, cells := 10, slots := 296, locals := 91 } : Room) [.ref h] [(h, .inr (7, [.int 0, .int 0, .int 0, .int 0, .int 0, .int 0, .null, .int 0, .null]))] (xQv D (fun (u : Nat × Nat × (Nat → Nat) × (Nat → Nat → Int32)) => match u with | (sm, ca, rw, sg) => True) (fun (u : Nat × Nat × (Nat → Nat) × (Nat → Nat → Int32)) => match u with | (sm, ca, rw, sg) => [(h, .inr (7, [.int (nI 4), .int (nI 2), .int (nI 2), .int (nI 3), .int (nI 2), .int (nI 1), .ref sm, .int (nI 3), .ref ca])), (ca, .inl (cs 0, 8, .inl (fcF 4 2 2 (fun _ => 0) 4))), (sm, .inl (cs 5, 8, .inr (.inr (.inr (.inr (fun i => if i < 8 then some (rw i) else none)))))), (rw 0, .inl (cs 0, 35, .inl (sg 0))), (rw 1, .inl (cs 0, 35, .inl (sg 1))), (rw 2, .inl (cs 0, 35, .inl (sg 2))), (rw 3, .inl (cs 0, 35, .inl (sg 3))), (rw 4, .inl (cs 0, 35, .inl (sg 4))), (rw 5, .inl (cs 0, 35, .inl (sg 5))), (rw 6, .inl (cs 0, 35, .inl (sg 6))), (rw 7, .inl (cs 0, 35, .inl (sg 7)))])) := by
  refine xMet.intro (by decide) (Nat.le_of_ble_eq_true rfl) ?_
  intro p e s m args below meth c A ls C hP hD hS hl
  have hx := C.1
  have hb := C.2.1
  have hz := C.2.2.2.2.1
  have hown := C.2.2.2.1
  have hA := C.2.2.2.2.2.2.2.2.2
  have hAO := C.2.2.2.2.2.2.2.2.1.2.2
  replace hl : lv_has ls 1 [(0, .ref h)] := hl
  obtain ⟨H, hH⟩ : ∃ H, H = s.heap := ⟨_, rfl⟩
  replace hP : va_P D vwCl [(h, .inr (7, [.int 0, .int 0, .int 0, .int 0, .int 0, .int 0, .null, .int 0, .null]))] H := by rw [hH]; exact hP
  replace hS : va_S A s.heap H [] := by rw [hH]; exact hS
  obtain ⟨locs, hlocs⟩ : ∃ z : List Loc, z = [] := ⟨_, rfl⟩
  rw [← hlocs] at hS
  suffices hW : W p l e ({ frames := 4, cells := 10, slots := 296, locals := 91 } : Room) s m args below meth c H locs 0 0 (MQ below ((xQv D (fun (u : Nat × Nat × (Nat → Nat) × (Nat → Nat → Int32)) => match u with | (sm, ca, rw, sg) => True) (fun (u : Nat × Nat × (Nat → Nat) × (Nat → Nat → Int32)) => match u with | (sm, ca, rw, sg) => [(h, .inr (7, [.int (nI 4), .int (nI 2), .int (nI 2), .int (nI 3), .int (nI 2), .int (nI 1), .ref sm, .int (nI 3), .ref ca])), (ca, .inl (cs 0, 8, .inl (fcF 4 2 2 (fun _ => 0) 4))), (sm, .inl (cs 5, 8, .inr (.inr (.inr (.inr (fun i => if i < 8 then some (rw i) else none)))))), (rw 0, .inl (cs 0, 35, .inl (sg 0))), (rw 1, .inl (cs 0, 35, .inl (sg 1))), (rw 2, .inl (cs 0, 35, .inl (sg 2))), (rw 3, .inl (cs 0, 35, .inl (sg 3))), (rw 4, .inl (cs 0, 35, .inl (sg 4))), (rw 5, .inl (cs 0, 35, .inl (sg 5))), (rw 6, .inl (cs 0, 35, .inl (sg 6))), (rw 7, .inl (cs 0, 35, .inl (sg 7)))])) A) args s 10 296 A) (F0 m 0 ls []) by rw [hlocs, hH] at hW; exact hW
  clear hH hlocs
  refine lv_aload_n hx hb dX7_init_0 rfl (lv_at hl 0 rfl) ?_
  refine W.objInit hx hb hown (hz _ zw1_37) (hz _ zw1_30) (hz _ zw1_31) rfl (by rw [C.2.2.1]; exact hl.1) rfl dX7_init_1 (Nat.le_of_ble_eq_true rfl) (Nat.le_of_ble_eq_true rfl) ?_
  refine W.eq (g2 := F0 m 4 ls []) rfl ?_
  refine lv_aload_n hx hb dX7_init_4 rfl (lv_at hl 0 rfl) ?_
  refine lv_iconst (v := nI 2) hx hb dX7_init_5 (by decide) ?_
  refine xput C hP hD hS 0 rfl rfl zuX7 tyX7 tyX7_ok nmX7 4 (by decide) zw1_93 rfl rfl rfl (Nat.le_of_ble_eq_true rfl) dX7_init_6 ?_
  clear hP hD hS
  try clear locs
  try clear H
  intro H locs hP hD hS
  replace hP : va_P D vwCl [(h, .inr (7, [.int 0, .int 0, .int 0, .int 0, .int (nI 2), .int 0, .null, .int 0, .null]))] H := hP
  replace hD : va_D A [(h, .inr (7, [.int 0, .int 0, .int 0, .int 0, .int (nI 2), .int 0, .null, .int 0, .null]))] := hD
  refine lv_aload_n hx hb dX7_init_9 rfl (lv_at hl 0 rfl) ?_
  refine lv_iconst (v := nI 1) hx hb dX7_init_10 (by decide) ?_
  refine xput C hP hD hS 0 rfl rfl zuX7 tyX7 tyX7_ok nmX7 5 (by decide) zw1_96 rfl rfl rfl (Nat.le_of_ble_eq_true rfl) dX7_init_11 ?_
  clear hP hD hS
  try clear locs
  try clear H
  intro H locs hP hD hS
  replace hP : va_P D vwCl [(h, .inr (7, [.int 0, .int 0, .int 0, .int 0, .int (nI 2), .int (nI 1), .null, .int 0, .null]))] H := hP
  replace hD : va_D A [(h, .inr (7, [.int 0, .int 0, .int 0, .int 0, .int (nI 2), .int (nI 1), .null, .int 0, .null]))] := hD
  refine lv_aload_n hx hb dX7_init_14 rfl (lv_at hl 0 rfl) ?_
  refine lv_bipush (v := nI 8) hx hb dX7_init_15 (by decide) ?_
  refine lv_bipush (v := nI 35) hx hb dX7_init_17 (by decide) ?_
  refine xmna (ty := .int) C hP hD hS 5 0 rfl (C.2.2.2.2.2.2.2.2.1.1.2 0 _ rfl).2 hAO.2.2.2.1 zw1_126 zw1_38 (35, .inl (fun _ => 0)) (N' := 8) (K' := 35) rfl rfl (by decide) (by decide) (by decide) (by decide) (by decide) (Nat.le_of_ble_eq_true rfl) (Nat.le_of_ble_eq_true rfl) (fun c => by show ({ cls := c, slots := Array.replicate 35 (.int 0), vm := .none } : Cell) = _; rw [arrV_new]; rfl) dX7_init_19 ?_
  clear hP hD hS
  try clear H
  intro q_1 rw_2 H hP hD hS
  refine W.widen (k := 9) (n := 288) (Nat.le_of_ble_eq_true rfl) (Nat.le_of_ble_eq_true rfl) ?_
  replace hP : va_P D vwCl [(h, .inr (7, [.int 0, .int 0, .int 0, .int 0, .int (nI 2), .int (nI 1), .null, .int 0, .null])), (q_1, .inl (cs 5, 8, .inr (.inr (.inr (.inr (fun i => if i < 8 then some (rw_2 i) else none)))))), (rw_2 0, .inl (cs 0, 35, .inl (fun _ => 0))), (rw_2 1, .inl (cs 0, 35, .inl (fun _ => 0))), (rw_2 2, .inl (cs 0, 35, .inl (fun _ => 0))), (rw_2 3, .inl (cs 0, 35, .inl (fun _ => 0))), (rw_2 4, .inl (cs 0, 35, .inl (fun _ => 0))), (rw_2 5, .inl (cs 0, 35, .inl (fun _ => 0))), (rw_2 6, .inl (cs 0, 35, .inl (fun _ => 0))), (rw_2 7, .inl (cs 0, 35, .inl (fun _ => 0)))] H := hP
  replace hD : va_D A [(h, .inr (7, [.int 0, .int 0, .int 0, .int 0, .int (nI 2), .int (nI 1), .null, .int 0, .null])), (q_1, .inl (cs 5, 8, .inr (.inr (.inr (.inr (fun i => if i < 8 then some (rw_2 i) else none)))))), (rw_2 0, .inl (cs 0, 35, .inl (fun _ => 0))), (rw_2 1, .inl (cs 0, 35, .inl (fun _ => 0))), (rw_2 2, .inl (cs 0, 35, .inl (fun _ => 0))), (rw_2 3, .inl (cs 0, 35, .inl (fun _ => 0))), (rw_2 4, .inl (cs 0, 35, .inl (fun _ => 0))), (rw_2 5, .inl (cs 0, 35, .inl (fun _ => 0))), (rw_2 6, .inl (cs 0, 35, .inl (fun _ => 0))), (rw_2 7, .inl (cs 0, 35, .inl (fun _ => 0)))] := hD
  refine xputF C hP hD hS 0 rfl rfl zuX7 tyX7 tyX7_ok nmX7 6 (by decide) zw1_99 rfl rfl rfl rfl rfl (Nat.le_of_ble_eq_true rfl) dX7_init_23 ?_
  clear hP hD hS
  try clear locs
  try clear H
  intro H locs hP hD hS
  replace hP : va_P D vwCl [(h, .inr (7, [.int 0, .int 0, .int 0, .int 0, .int (nI 2), .int (nI 1), .ref q_1, .int 0, .null])), (q_1, .inl (cs 5, 8, .inr (.inr (.inr (.inr (fun i => if i < 8 then some (rw_2 i) else none)))))), (rw_2 0, .inl (cs 0, 35, .inl (fun _ => 0))), (rw_2 1, .inl (cs 0, 35, .inl (fun _ => 0))), (rw_2 2, .inl (cs 0, 35, .inl (fun _ => 0))), (rw_2 3, .inl (cs 0, 35, .inl (fun _ => 0))), (rw_2 4, .inl (cs 0, 35, .inl (fun _ => 0))), (rw_2 5, .inl (cs 0, 35, .inl (fun _ => 0))), (rw_2 6, .inl (cs 0, 35, .inl (fun _ => 0))), (rw_2 7, .inl (cs 0, 35, .inl (fun _ => 0)))] H := hP
  replace hD : va_D A [(h, .inr (7, [.int 0, .int 0, .int 0, .int 0, .int (nI 2), .int (nI 1), .ref q_1, .int 0, .null])), (q_1, .inl (cs 5, 8, .inr (.inr (.inr (.inr (fun i => if i < 8 then some (rw_2 i) else none)))))), (rw_2 0, .inl (cs 0, 35, .inl (fun _ => 0))), (rw_2 1, .inl (cs 0, 35, .inl (fun _ => 0))), (rw_2 2, .inl (cs 0, 35, .inl (fun _ => 0))), (rw_2 3, .inl (cs 0, 35, .inl (fun _ => 0))), (rw_2 4, .inl (cs 0, 35, .inl (fun _ => 0))), (rw_2 5, .inl (cs 0, 35, .inl (fun _ => 0))), (rw_2 6, .inl (cs 0, 35, .inl (fun _ => 0))), (rw_2 7, .inl (cs 0, 35, .inl (fun _ => 0)))] := hD
  refine lv_aload_n hx hb dX7_init_26 rfl (lv_at hl 0 rfl) ?_
  refine lv_bipush (v := nI 8) hx hb dX7_init_27 (by decide) ?_
  refine xnewi (n := 8) C hP hD hS zw1_126 rfl (by decide) (Nat.le_of_ble_eq_true rfl) (Nat.le_of_ble_eq_true rfl) dX7_init_29 ?_
  clear hP hD hS
  try clear H
  intro q_3 H hP hD hS
  refine W.widen (k := 10) (n := 296) (Nat.le_of_ble_eq_true rfl) (Nat.le_of_ble_eq_true rfl) ?_
  replace hP : va_P D vwCl [(h, .inr (7, [.int 0, .int 0, .int 0, .int 0, .int (nI 2), .int (nI 1), .ref q_1, .int 0, .null])), (q_1, .inl (cs 5, 8, .inr (.inr (.inr (.inr (fun i => if i < 8 then some (rw_2 i) else none)))))), (rw_2 0, .inl (cs 0, 35, .inl (fun _ => 0))), (rw_2 1, .inl (cs 0, 35, .inl (fun _ => 0))), (rw_2 2, .inl (cs 0, 35, .inl (fun _ => 0))), (rw_2 3, .inl (cs 0, 35, .inl (fun _ => 0))), (rw_2 4, .inl (cs 0, 35, .inl (fun _ => 0))), (rw_2 5, .inl (cs 0, 35, .inl (fun _ => 0))), (rw_2 6, .inl (cs 0, 35, .inl (fun _ => 0))), (rw_2 7, .inl (cs 0, 35, .inl (fun _ => 0))), (q_3, .inl (cs 0, 8, .inl (fun _ => 0)))] H := hP
  replace hD : va_D A [(h, .inr (7, [.int 0, .int 0, .int 0, .int 0, .int (nI 2), .int (nI 1), .ref q_1, .int 0, .null])), (q_1, .inl (cs 5, 8, .inr (.inr (.inr (.inr (fun i => if i < 8 then some (rw_2 i) else none)))))), (rw_2 0, .inl (cs 0, 35, .inl (fun _ => 0))), (rw_2 1, .inl (cs 0, 35, .inl (fun _ => 0))), (rw_2 2, .inl (cs 0, 35, .inl (fun _ => 0))), (rw_2 3, .inl (cs 0, 35, .inl (fun _ => 0))), (rw_2 4, .inl (cs 0, 35, .inl (fun _ => 0))), (rw_2 5, .inl (cs 0, 35, .inl (fun _ => 0))), (rw_2 6, .inl (cs 0, 35, .inl (fun _ => 0))), (rw_2 7, .inl (cs 0, 35, .inl (fun _ => 0))), (q_3, .inl (cs 0, 8, .inl (fun _ => 0)))] := hD
  refine xputF C hP hD hS 0 rfl rfl zuX7 tyX7 tyX7_ok nmX7 8 (by decide) zw1_106 rfl rfl rfl rfl rfl (Nat.le_of_ble_eq_true rfl) dX7_init_31 ?_
  clear hP hD hS
  try clear locs
  try clear H
  intro H locs hP hD hS
  replace hP : va_P D vwCl [(h, .inr (7, [.int 0, .int 0, .int 0, .int 0, .int (nI 2), .int (nI 1), .ref q_1, .int 0, .ref q_3])), (q_1, .inl (cs 5, 8, .inr (.inr (.inr (.inr (fun i => if i < 8 then some (rw_2 i) else none)))))), (rw_2 0, .inl (cs 0, 35, .inl (fun _ => 0))), (rw_2 1, .inl (cs 0, 35, .inl (fun _ => 0))), (rw_2 2, .inl (cs 0, 35, .inl (fun _ => 0))), (rw_2 3, .inl (cs 0, 35, .inl (fun _ => 0))), (rw_2 4, .inl (cs 0, 35, .inl (fun _ => 0))), (rw_2 5, .inl (cs 0, 35, .inl (fun _ => 0))), (rw_2 6, .inl (cs 0, 35, .inl (fun _ => 0))), (rw_2 7, .inl (cs 0, 35, .inl (fun _ => 0))), (q_3, .inl (cs 0, 8, .inl (fun _ => 0)))] H := hP
  replace hD : va_D A [(h, .inr (7, [.int 0, .int 0, .int 0, .int 0, .int (nI 2), .int (nI 1), .ref q_1, .int 0, .ref q_3])), (q_1, .inl (cs 5, 8, .inr (.inr (.inr (.inr (fun i => if i < 8 then some (rw_2 i) else none)))))), (rw_2 0, .inl (cs 0, 35, .inl (fun _ => 0))), (rw_2 1, .inl (cs 0, 35, .inl (fun _ => 0))), (rw_2 2, .inl (cs 0, 35, .inl (fun _ => 0))), (rw_2 3, .inl (cs 0, 35, .inl (fun _ => 0))), (rw_2 4, .inl (cs 0, 35, .inl (fun _ => 0))), (rw_2 5, .inl (cs 0, 35, .inl (fun _ => 0))), (rw_2 6, .inl (cs 0, 35, .inl (fun _ => 0))), (rw_2 7, .inl (cs 0, 35, .inl (fun _ => 0))), (q_3, .inl (cs 0, 8, .inl (fun _ => 0)))] := hD
  refine lv_aload_n hx hb dX7_init_34 rfl (lv_at hl 0 rfl) ?_
  refine lv_iconst (v := nI 4) hx hb dX7_init_35 (by decide) ?_
  refine lv_iconst (v := nI 2) hx hb dX7_init_36 (by decide) ?_
  refine lv_iconst (v := nI 2) hx hb dX7_init_37 (by decide) ?_
  refine lv_iconst (v := nI 3) hx hb dX7_init_38 (by decide) ?_
  refine xv (wr := []) (xV (As := [.int (nI 4), .int (nI 2), .int (nI 2), .int (nI 3)]) (rest := []) C (c_X7_take l D cs h q_1 q_3 4 2 2 3 (nI 2) (nI 1) 0 rw_2 (fun _ => 0) (fun _ _ => 0) 0 0 0 0 (nI 2) (nI 3) (by decide) (by decide) (by decide) (by decide) (by decide)) kX7_27 hP hD [0, 10, 1, 2, 3, 4, 5, 6, 7, 8, 9] rfl (by decide) 0 rfl rfl rfl ⟨Nat.le_of_ble_eq_true rfl, Nat.le_of_ble_eq_true rfl⟩ rfl hl.1 rfl (Nat.le_of_ble_eq_true rfl) dX7_init_39 ⟨Nat.le_of_ble_eq_true rfl, Nat.le_of_ble_eq_true rfl⟩) hP hD hS hA [0, 10, 1, 2, 3, 4, 5, 6, 7, 8, 9] [] rfl rfl (by decide) (by decide) ?_
  clear hP hD hS
  try clear locs
  try clear H
  intro u_5 H locs hw_r_4 hP hD hS
  refine W.widen (k := 10) (n := 296) (Nat.le_of_ble_eq_true rfl) (Nat.le_of_ble_eq_true rfl) ?_
  replace hP : va_P D vwCl [(h, .inr (7, [.int (nI 4), .int (nI 2), .int (nI 2), .int (nI 3), .int (nI 2), .int (nI 1), .ref q_1, .int (nI 3), .ref q_3])), (q_3, .inl (cs 0, 8, .inl (fcF 4 2 2 (fun _ => 0) 4))), (q_1, .inl (cs 5, 8, .inr (.inr (.inr (.inr (fun i => if i < 8 then some (rw_2 i) else none)))))), (rw_2 0, .inl (cs 0, 35, .inl (u_5 0))), (rw_2 1, .inl (cs 0, 35, .inl (u_5 1))), (rw_2 2, .inl (cs 0, 35, .inl (u_5 2))), (rw_2 3, .inl (cs 0, 35, .inl (u_5 3))), (rw_2 4, .inl (cs 0, 35, .inl (u_5 4))), (rw_2 5, .inl (cs 0, 35, .inl (u_5 5))), (rw_2 6, .inl (cs 0, 35, .inl (u_5 6))), (rw_2 7, .inl (cs 0, 35, .inl (u_5 7)))] H := hP
  replace hD : va_D A [(h, .inr (7, [.int (nI 4), .int (nI 2), .int (nI 2), .int (nI 3), .int (nI 2), .int (nI 1), .ref q_1, .int (nI 3), .ref q_3])), (q_3, .inl (cs 0, 8, .inl (fcF 4 2 2 (fun _ => 0) 4))), (q_1, .inl (cs 5, 8, .inr (.inr (.inr (.inr (fun i => if i < 8 then some (rw_2 i) else none)))))), (rw_2 0, .inl (cs 0, 35, .inl (u_5 0))), (rw_2 1, .inl (cs 0, 35, .inl (u_5 1))), (rw_2 2, .inl (cs 0, 35, .inl (u_5 2))), (rw_2 3, .inl (cs 0, 35, .inl (u_5 3))), (rw_2 4, .inl (cs 0, 35, .inl (u_5 4))), (rw_2 5, .inl (cs 0, 35, .inl (u_5 5))), (rw_2 6, .inl (cs 0, 35, .inl (u_5 6))), (rw_2 7, .inl (cs 0, 35, .inl (u_5 7)))] := hD
  exact xretv C (⟨q_1, q_3, rw_2, u_5⟩) trivial hP hD hS (Nat.le_of_ble_eq_true rfl) (Nat.le_of_ble_eq_true rfl) dX7_init_42

set_option maxHeartbeats 4000000 in
set_option maxRecDepth 100000 in
theorem c_X7_carriedBy (l : Launch) (D : va_G) (cs : Nat → ClassId) (h sm ca n k al be : Nat) (ea pr se : Int32) (cf : Nat → Int32) (x : Int32) (hn : n ≤ 8) : xMet l D cs yX7_carriedBy cX7_carriedBy 2 (some .int) ({ frames := 0, cells := 0, slots := 0, locals := 0 } : Room) [.ref h, .int x] [(h, .inr (7, [.int (nI n), .int (nI k), .int (nI al), .int (nI be), .int ea, .int pr, .ref sm, .int se, .ref ca])), (ca, .inl (cs 0, 8, .inl cf))] (xQi D (fun (r : Int32) (_u : Unit) => (¬ okN n x ∧ r = nI 0) ∨ ∃ j, j < n ∧ x = nI j ∧ r = cf j) (fun (_u : Unit) => [(h, .inr (7, [.int (nI n), .int (nI k), .int (nI al), .int (nI be), .int ea, .int pr, .ref sm, .int se, .ref ca])), (ca, .inl (cs 0, 8, .inl cf))])) := by
  refine xMet.intro (by decide) (Nat.le_of_ble_eq_true rfl) ?_
  intro p e s m args below meth c A ls C hP hD hS hl
  have hx := C.1
  have hb := C.2.1
  have hz := C.2.2.2.2.1
  have hown := C.2.2.2.1
  have hA := C.2.2.2.2.2.2.2.2.2
  have hAO := C.2.2.2.2.2.2.2.2.1.2.2
  replace hl : lv_has ls 2 [(0, .ref h), (1, .int x)] := hl
  obtain ⟨H, hH⟩ : ∃ H, H = s.heap := ⟨_, rfl⟩
  replace hP : va_P D vwCl [(h, .inr (7, [.int (nI n), .int (nI k), .int (nI al), .int (nI be), .int ea, .int pr, .ref sm, .int se, .ref ca])), (ca, .inl (cs 0, 8, .inl cf))] H := by rw [hH]; exact hP
  replace hS : va_S A s.heap H [] := by rw [hH]; exact hS
  obtain ⟨locs, hlocs⟩ : ∃ z : List Loc, z = [] := ⟨_, rfl⟩
  rw [← hlocs] at hS
  suffices hW : W p l e ({ frames := 0, cells := 0, slots := 0, locals := 0 } : Room) s m args below meth c H locs 0 0 (MQ below ((xQi D (fun (r : Int32) (_u : Unit) => (¬ okN n x ∧ r = nI 0) ∨ ∃ j, j < n ∧ x = nI j ∧ r = cf j) (fun (_u : Unit) => [(h, .inr (7, [.int (nI n), .int (nI k), .int (nI al), .int (nI be), .int ea, .int pr, .ref sm, .int se, .ref ca])), (ca, .inl (cs 0, 8, .inl cf))])) A) args s 0 0 A) (F0 m 0 ls []) by rw [hlocs, hH] at hW; exact hW
  clear hH hlocs
  refine lv_iload_n hx hb dX7_carriedBy_0 rfl (lv_at hl 1 rfl) ?_
  refine lv_if_lt (tgt := 12) hx hb dX7_carriedBy_1 (by decide) (fun c_1 => ?_) (fun c_1 => ?_)
  · -- 1 t
    refine lv_iconst (v := nI 0) hx hb dX7_carriedBy_12 (by decide) ?_
    refine lv_goto (tgt := 22) hx hb dX7_carriedBy_13 (by decide) ?_
    exact xreti C () (Or.inl ⟨fun q => q.1 c_1, rfl⟩) hP hD hS (Nat.le_of_ble_eq_true rfl) (Nat.le_of_ble_eq_true rfl) rfl dX7_carriedBy_22
  · -- 1 f
    refine lv_iload_n hx hb dX7_carriedBy_4 rfl (lv_at hl 1 rfl) ?_
    refine lv_aload_n hx hb dX7_carriedBy_5 rfl (lv_at hl 0 rfl) ?_
    refine xget C hP 0 rfl rfl zuX7 0 (by decide) zw1_78 rfl dX7_carriedBy_6 ?_
    refine lv_icmp_lt (tgt := 16) hx hb dX7_carriedBy_9 (by decide) (fun c_2 => ?_) (fun c_2 => ?_)
    · -- 9 t
      obtain ⟨j, hj, ej⟩ := okN_of (n := n) (x := x) ⟨c_1, fun q => Int32.lt_irrefl (Int32.lt_of_le_of_lt q c_2)⟩ (by omega)
      refine lv_aload_n hx hb dX7_carriedBy_16 rfl (lv_at hl 0 rfl) ?_
      refine xget C hP 0 rfl rfl zuX7 8 (by decide) zw1_106 rfl dX7_carriedBy_17 ?_
      refine lv_iload_n hx hb dX7_carriedBy_20 rfl (lv_at hl 1 rfl) ?_
      refine xiald C hP 1 rfl j ej (by omega) (by decide) dX7_carriedBy_21 ?_
      exact xreti C () (Or.inr ⟨j, hj, ej, rfl⟩) hP hD hS (Nat.le_of_ble_eq_true rfl) (Nat.le_of_ble_eq_true rfl) rfl dX7_carriedBy_22
    · -- 9 f
      refine lv_iconst (v := nI 0) hx hb dX7_carriedBy_12 (by decide) ?_
      refine lv_goto (tgt := 22) hx hb dX7_carriedBy_13 (by decide) ?_
      exact xreti C () (Or.inl ⟨fun q => q.2 (Int32.not_lt.mp c_2), rfl⟩) hP hD hS (Nat.le_of_ble_eq_true rfl) (Nat.le_of_ble_eq_true rfl) rfl dX7_carriedBy_22
