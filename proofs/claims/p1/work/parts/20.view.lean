set_option maxHeartbeats 4000000 in
set_option maxRecDepth 100000 in
theorem c_X10_put (l : Launch) (D : va_G) (cs : Nat → ClassId) (h a : Nat) (ch po : Int32) (f : Nat → Int32) (i j : Nat) (x : Int32) (hi : i < 8) (hj : j < 4) : xMet l D cs yX10_put cX10_put 4 none ({ frames := 0, cells := 0, slots := 0, locals := 0 } : Room) [.ref h, .int (nI i), .int (nI j), .int x] [(h, .inr (10, [.int ch, .int po, .ref a])), (a, .inl (cs 0, 32, .inl f))] (xQv D (fun (u : Unit) => True) (fun u => [(h, .inr (10, [.int ch, .int po, .ref a])), (a, .inl (cs 0, 32, .inl (upd f (i * 4 + j) x)))])) := by
  refine xMet.intro (by decide) (by decide) ?_
  intro p e s m args below meth c A ls C hP hD hS hl
  have hx := C.1
  have hb := C.2.1
  have hz := C.2.2.2.2.1
  have hown := C.2.2.2.1
  have hA := C.2.2.2.2.2.2.2.2.2
  have hl : lv_has ls 4 [(0, .ref h), (1, .int (nI i)), (2, .int (nI j)), (3, .int x)] := hl
  obtain ⟨H, hH⟩ : ∃ H, H = s.heap := ⟨_, rfl⟩
  have hP : va_P D vwCl [(h, .inr (10, [.int ch, .int po, .ref a])), (a, .inl (cs 0, 32, .inl f))] H := by rw [hH]; exact hP
  have hS : va_S A s.heap H [] := by rw [hH]; exact hS
  obtain ⟨locs, hlocs⟩ : ∃ z : List Loc, z = [] := ⟨_, rfl⟩
  rw [← hlocs] at hS
  suffices hW : W p l e ({ frames := 0, cells := 0, slots := 0, locals := 0 } : Room) s m args below meth c H locs 0 0 (MQ below ((xQv D (fun (u : Unit) => True) (fun u => [(h, .inr (10, [.int ch, .int po, .ref a])), (a, .inl (cs 0, 32, .inl (upd f (i * 4 + j) x)))])) A) args s 0 0 A) (F0 m 0 ls []) by rw [hlocs, hH] at hW; exact hW
  refine lv_aload_n hx hb dX10_put_0 rfl (lv_at hl 0 rfl) ?_
  refine xget C hP 0 rfl rfl zuX10 2 (by decide) zw1_146 rfl dX10_put_1 ?_
  refine lv_iload_n hx hb dX10_put_4 rfl (lv_at hl 1 rfl) ?_
  refine lv_iconst (v := nI 4) hx hb dX10_put_5 (by decide) ?_
  refine lv_imul hx hb dX10_put_6 ?_
  refine lv_topi (nm_r (e' := nI (i * 4)) (pk_mul _ _) ?_)
  refine lv_iload_n hx hb dX10_put_7 rfl (lv_at hl 2 rfl) ?_
  refine lv_iadd hx hb dX10_put_8 ?_
  refine lv_topi (nm_r (e' := nI ((i * 4) + j)) (nI_add _ _) ?_)
  refine lv_iload_n hx hb dX10_put_9 rfl (lv_at hl 3 rfl) ?_
  refine xiast C hP hD hS 1 rfl ((i * 4) + j) rfl (by omega) (by decide) dX10_put_10 (fun H locs hP hD hS => ?_)
  have hP : va_P D vwCl [(h, .inr (10, [.int ch, .int po, .ref a])), (a, .inl (cs 0, 32, .inl (upd f ((i * 4) + j) x)))] H := hP
  have hD : va_D A [(h, .inr (10, [.int ch, .int po, .ref a])), (a, .inl (cs 0, 32, .inl (upd f ((i * 4) + j) x)))] := hD
  exact xretv C () trivial hP hD hS (Nat.le_of_ble_eq_true rfl) (Nat.le_of_ble_eq_true rfl) dX10_put_11

set_option maxHeartbeats 4000000 in
set_option maxRecDepth 100000 in
theorem c_X10_get (l : Launch) (D : va_G) (cs : Nat → ClassId) (h a : Nat) (ch po : Int32) (f : Nat → Int32) (i j : Nat) (hi : i < 8) (hj : j < 4) : xMet l D cs yX10_get cX10_get 3 (some .int) ({ frames := 0, cells := 0, slots := 0, locals := 0 } : Room) [.ref h, .int (nI i), .int (nI j)] [(h, .inr (10, [.int ch, .int po, .ref a])), (a, .inl (cs 0, 32, .inl f))] (xQi D (fun (r : Int32) (u : Unit) => r = f (i * 4 + j)) (fun u => [(h, .inr (10, [.int ch, .int po, .ref a])), (a, .inl (cs 0, 32, .inl f))])) := by
  refine xMet.intro (by decide) (by decide) ?_
  intro p e s m args below meth c A ls C hP hD hS hl
  have hx := C.1
  have hb := C.2.1
  have hz := C.2.2.2.2.1
  have hown := C.2.2.2.1
  have hA := C.2.2.2.2.2.2.2.2.2
  have hl : lv_has ls 3 [(0, .ref h), (1, .int (nI i)), (2, .int (nI j))] := hl
  obtain ⟨H, hH⟩ : ∃ H, H = s.heap := ⟨_, rfl⟩
  have hP : va_P D vwCl [(h, .inr (10, [.int ch, .int po, .ref a])), (a, .inl (cs 0, 32, .inl f))] H := by rw [hH]; exact hP
  have hS : va_S A s.heap H [] := by rw [hH]; exact hS
  obtain ⟨locs, hlocs⟩ : ∃ z : List Loc, z = [] := ⟨_, rfl⟩
  rw [← hlocs] at hS
  suffices hW : W p l e ({ frames := 0, cells := 0, slots := 0, locals := 0 } : Room) s m args below meth c H locs 0 0 (MQ below ((xQi D (fun (r : Int32) (u : Unit) => r = f (i * 4 + j)) (fun u => [(h, .inr (10, [.int ch, .int po, .ref a])), (a, .inl (cs 0, 32, .inl f))])) A) args s 0 0 A) (F0 m 0 ls []) by rw [hlocs, hH] at hW; exact hW
  refine lv_aload_n hx hb dX10_get_0 rfl (lv_at hl 0 rfl) ?_
  refine xget C hP 0 rfl rfl zuX10 2 (by decide) zw1_146 rfl dX10_get_1 ?_
  refine lv_iload_n hx hb dX10_get_4 rfl (lv_at hl 1 rfl) ?_
  refine lv_iconst (v := nI 4) hx hb dX10_get_5 (by decide) ?_
  refine lv_imul hx hb dX10_get_6 ?_
  refine lv_topi (nm_r (e' := nI (i * 4)) (pk_mul _ _) ?_)
  refine lv_iload_n hx hb dX10_get_7 rfl (lv_at hl 2 rfl) ?_
  refine lv_iadd hx hb dX10_get_8 ?_
  refine lv_topi (nm_r (e' := nI ((i * 4) + j)) (nI_add _ _) ?_)
  refine xiald C hP 1 rfl ((i * 4) + j) rfl (by omega) (by decide) dX10_get_9 ?_
  exact xreti C () rfl hP hD hS (Nat.le_of_ble_eq_true rfl) (Nat.le_of_ble_eq_true rfl) rfl dX10_get_10
