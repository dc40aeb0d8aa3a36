/-- what is preferred is none or an entry's number -/
def prP (f : Nat → Int32) : Prop := ∀ i, i < 8 → f (i * 4 + 0) = -1 ∨ ∃ e, e < 16 ∧ f (i * 4 + 0) = nI e
theorem prP_o {f : Nat → Int32} (h : prP f) (i j : Nat) (x : Int32) (hj : 1 ≤ j ∧ j < 4) : prP (upd f (i * 4 + j) x) := fun k hk => by
  unfold upd
  rw [if_neg (by omega)]
  exact h k hk
theorem prP_p {f : Nat → Int32} (h : prP f) (i e : Nat) (he : e < 16) : prP (upd f (i * 4 + 0) (nI e)) := fun k hk => by
  unfold upd
  by_cases q : k * 4 + 0 = i * 4 + 0
  · rw [if_pos q]; exact Or.inr ⟨e, he, rfl⟩
  · rw [if_neg q]; exact h k hk
theorem prP_vF : prP vF := fun i hi => Or.inl (by
  have h : ∀ i, i < 8 → vF (i * 4 + 0) = -1 := by decide
  exact h i hi)

set_option maxHeartbeats 4000000 in
set_option maxRecDepth 100000 in
theorem c_X6_init (l : Launch) (D : va_G) (cs : Nat → ClassId) (hpo hr hg hgr : Nat) : xMet l D cs yX6_init cX6_init 4 none ({ frames := 1, cells := 0, slots := 0, locals := 20 } : Room) [.ref hpo, .ref hr, .ref hg, .ref hgr] [(hpo, .inr (6, [.null, .null, .null]))] (xQv D (fun (_u : Unit) => True) (fun (_u : Unit) => [(hpo, .inr (6, [.ref hr, .ref hg, .ref hgr]))])) := by
  refine xMet.intro (by decide) (Nat.le_of_ble_eq_true rfl) ?_
  intro p e s m args below meth c A ls C hP hD hS hl
  have hx := C.1
  have hb := C.2.1
  have hz := C.2.2.2.2.1
  have hown := C.2.2.2.1
  have hA := C.2.2.2.2.2.2.2.2.2
  have hAO := C.2.2.2.2.2.2.2.2.1.2.2
  replace hl : lv_has ls 4 [(0, .ref hpo), (1, .ref hr), (2, .ref hg), (3, .ref hgr)] := hl
  obtain ⟨H, hH⟩ : ∃ H, H = s.heap := ⟨_, rfl⟩
  replace hP : va_P D vwCl [(hpo, .inr (6, [.null, .null, .null]))] H := by rw [hH]; exact hP
  replace hS : va_S A s.heap H [] := by rw [hH]; exact hS
  obtain ⟨locs, hlocs⟩ : ∃ z : List Loc, z = [] := ⟨_, rfl⟩
  rw [← hlocs] at hS
  suffices hW : W p l e ({ frames := 1, cells := 0, slots := 0, locals := 20 } : Room) s m args below meth c H locs 0 0 (MQ below ((xQv D (fun (_u : Unit) => True) (fun (_u : Unit) => [(hpo, .inr (6, [.ref hr, .ref hg, .ref hgr]))])) A) args s 0 0 A) (F0 m 0 ls []) by rw [hlocs, hH] at hW; exact hW
  clear hH hlocs
  refine lv_aload_n hx hb dX6_init_0 rfl (lv_at hl 0 rfl) ?_
  refine W.objInit hx hb hown (hz _ zw2_22) (hz _ zw1_30) (hz _ zw1_31) rfl (by rw [C.2.2.1]; exact hl.1) rfl dX6_init_1 (Nat.le_of_ble_eq_true rfl) (Nat.le_of_ble_eq_true rfl) ?_
  refine W.eq (g2 := F0 m 4 ls []) rfl ?_
  refine lv_aload_n hx hb dX6_init_4 rfl (lv_at hl 0 rfl) ?_
  refine lv_aload_n hx hb dX6_init_5 rfl (lv_at hl 1 rfl) ?_
  refine xputF C hP hD hS 0 rfl rfl zuX6 tyX6 tyX6_ok nmX6 0 (by decide) zw2_23 rfl rfl rfl rfl rfl (Nat.le_of_ble_eq_true rfl) dX6_init_6 ?_
  clear hP hD hS
  try clear locs
  try clear H
  intro H locs hP hD hS
  replace hP : va_P D vwCl [(hpo, .inr (6, [.ref hr, .null, .null]))] H := hP
  replace hD : va_D A [(hpo, .inr (6, [.ref hr, .null, .null]))] := hD
  refine lv_aload_n hx hb dX6_init_9 rfl (lv_at hl 0 rfl) ?_
  refine lv_aload_n hx hb dX6_init_10 rfl (lv_at hl 2 rfl) ?_
  refine xputF C hP hD hS 0 rfl rfl zuX6 tyX6 tyX6_ok nmX6 1 (by decide) zw2_24 rfl rfl rfl rfl rfl (Nat.le_of_ble_eq_true rfl) dX6_init_11 ?_
  clear hP hD hS
  try clear locs
  try clear H
  intro H locs hP hD hS
  replace hP : va_P D vwCl [(hpo, .inr (6, [.ref hr, .ref hg, .null]))] H := hP
  replace hD : va_D A [(hpo, .inr (6, [.ref hr, .ref hg, .null]))] := hD
  refine lv_aload_n hx hb dX6_init_14 rfl (lv_at hl 0 rfl) ?_
  refine lv_aload_n hx hb dX6_init_15 rfl (lv_at hl 3 rfl) ?_
  refine xputF C hP hD hS 0 rfl rfl zuX6 tyX6 tyX6_ok nmX6 2 (by decide) zw2_25 rfl rfl rfl rfl rfl (Nat.le_of_ble_eq_true rfl) dX6_init_16 ?_
  clear hP hD hS
  try clear locs
  try clear H
  intro H locs hP hD hS
  replace hP : va_P D vwCl [(hpo, .inr (6, [.ref hr, .ref hg, .ref hgr]))] H := hP
  replace hD : va_D A [(hpo, .inr (6, [.ref hr, .ref hg, .ref hgr]))] := hD
  exact xretv C () trivial hP hD hS (Nat.le_of_ble_eq_true rfl) (Nat.le_of_ble_eq_true rfl) dX6_init_19

set_option maxHeartbeats 4000000 in
set_option maxRecDepth 100000 in
theorem c_X6_confidence (l : Launch) (D : va_G) (cs : Nat → ClassId) (hpo : Nat) (hr hg : Nat) (hgr en gs g1r g2r gan gpr gde gme : Nat) (hv av : Nat) (ch po : Int32) (f : Nat → Int32) (gpf : Nat → Int32) (e0 : Nat) (he : e0 < 16) : xMet l D cs yX6_confidence cX6_confidence 3 (some .int) ({ frames := 1, cells := 0, slots := 0, locals := 20 } : Room) [.ref hpo, .ref hv, .int (nI e0)] [(hpo, .inr (6, [.ref hr, .ref hg, .ref hgr])), (hgr, .inr (3, [.int (nI en), .ref gs, .ref g1r, .ref g2r, .ref gan, .ref gpr, .ref gde, .ref gme])), (hv, .inr (10, [.int ch, .int po, .ref av])), (av, .inl (cs 0, 32, .inl f)), (gpr, .inl (cs 0, 16, .inl gpf))] (xQi D (fun (r : Int32) (_u : Unit) => True) (fun (_u : Unit) => [(hpo, .inr (6, [.ref hr, .ref hg, .ref hgr])), (hgr, .inr (3, [.int (nI en), .ref gs, .ref g1r, .ref g2r, .ref gan, .ref gpr, .ref gde, .ref gme])), (hv, .inr (10, [.int ch, .int po, .ref av])), (av, .inl (cs 0, 32, .inl f)), (gpr, .inl (cs 0, 16, .inl gpf))])) := by
  refine xMet.intro (by decide) (Nat.le_of_ble_eq_true rfl) ?_
  intro p e s m args below meth c A ls C hP hD hS hl
  have hx := C.1
  have hb := C.2.1
  have hz := C.2.2.2.2.1
  have hown := C.2.2.2.1
  have hA := C.2.2.2.2.2.2.2.2.2
  have hAO := C.2.2.2.2.2.2.2.2.1.2.2
  replace hl : lv_has ls 3 [(0, .ref hpo), (1, .ref hv), (2, .int (nI e0))] := hl
  obtain ⟨H, hH⟩ : ∃ H, H = s.heap := ⟨_, rfl⟩
  replace hP : va_P D vwCl [(hpo, .inr (6, [.ref hr, .ref hg, .ref hgr])), (hgr, .inr (3, [.int (nI en), .ref gs, .ref g1r, .ref g2r, .ref gan, .ref gpr, .ref gde, .ref gme])), (hv, .inr (10, [.int ch, .int po, .ref av])), (av, .inl (cs 0, 32, .inl f)), (gpr, .inl (cs 0, 16, .inl gpf))] H := by rw [hH]; exact hP
  replace hS : va_S A s.heap H [] := by rw [hH]; exact hS
  obtain ⟨locs, hlocs⟩ : ∃ z : List Loc, z = [] := ⟨_, rfl⟩
  rw [← hlocs] at hS
  suffices hW : W p l e ({ frames := 1, cells := 0, slots := 0, locals := 20 } : Room) s m args below meth c H locs 0 0 (MQ below ((xQi D (fun (r : Int32) (_u : Unit) => True) (fun (_u : Unit) => [(hpo, .inr (6, [.ref hr, .ref hg, .ref hgr])), (hgr, .inr (3, [.int (nI en), .ref gs, .ref g1r, .ref g2r, .ref gan, .ref gpr, .ref gde, .ref gme])), (hv, .inr (10, [.int ch, .int po, .ref av])), (av, .inl (cs 0, 32, .inl f)), (gpr, .inl (cs 0, 16, .inl gpf))])) A) args s 0 0 A) (F0 m 0 ls []) by rw [hlocs, hH] at hW; exact hW
  clear hH hlocs
  refine lv_aload_n hx hb dX6_confidence_0 rfl (lv_at hl 1 rfl) ?_
  refine xget C hP 2 rfl rfl zuX10 0 (by decide) zw1_141 rfl dX6_confidence_1 ?_
  refine lv_aload_n hx hb dX6_confidence_4 rfl (lv_at hl 0 rfl) ?_
  refine xget C hP 0 rfl rfl zuX6 2 (by decide) zw2_25 rfl dX6_confidence_5 ?_
  refine xget C hP 1 rfl rfl zuX3 5 (by decide) zw1_208 rfl dX6_confidence_8 ?_
  refine lv_iload_n hx hb dX6_confidence_11 rfl (lv_at hl 2 rfl) ?_
  refine xiald C hP 4 rfl e0 rfl (by omega) (by decide) dX6_confidence_12 ?_
  refine lv_iconst (v := nI 1) hx hb dX6_confidence_13 (by decide) ?_
  refine lv_iload_n hx hb dX6_confidence_14 rfl (lv_at hl 2 rfl) ?_
  refine lv_ishl hx hb dX6_confidence_15 ?_
  refine lv_ior hx hb dX6_confidence_16 ?_
  refine lv_iand hx hb dX6_confidence_17 ?_
  refine xi (wr := [(hpo, .inr (6, [.ref hr, .ref hg, .ref hgr])), (hgr, .inr (3, [.int (nI en), .ref gs, .ref g1r, .ref g2r, .ref gan, .ref gpr, .ref gde, .ref gme])), (hv, .inr (10, [.int ch, .int po, .ref av])), (av, .inl (cs 0, 32, .inl f)), (gpr, .inl (cs 0, 16, .inl gpf))]) (xS (As := [.int (ch &&& ((gpf e0) ||| ((nI 1) <<< ((nI e0) &&& 31))))]) (rest := []) C (c_J6_bitCount_0f7a4 l D cs (ch &&& ((gpf e0) ||| ((nI 1) <<< ((nI e0) &&& 31))))) kX6_56 hP hD [] rfl (by decide) ⟨Nat.le_of_ble_eq_true rfl, Nat.le_of_ble_eq_true rfl⟩ rfl hl.1 rfl (Nat.le_of_ble_eq_true rfl) dX6_confidence_18 ⟨Nat.le_of_ble_eq_true rfl, Nat.le_of_ble_eq_true rfl⟩) hP hD hS hA [] [0, 1, 2, 3, 4] rfl rfl (by decide) (by decide) ?_
  clear hP hD hS
  try clear locs
  try clear H
  intro r_1 u_2 H locs hw_r_1 hP hD hS
  have hw_r_1 : r_1 = bcF (ch &&& ((gpf e0) ||| ((nI 1) <<< ((nI e0) &&& 31)))) := hw_r_1
  refine W.widen (k := 0) (n := 0) (Nat.le_of_ble_eq_true rfl) (Nat.le_of_ble_eq_true rfl) ?_
  replace hP : va_P D vwCl [(hpo, .inr (6, [.ref hr, .ref hg, .ref hgr])), (hgr, .inr (3, [.int (nI en), .ref gs, .ref g1r, .ref g2r, .ref gan, .ref gpr, .ref gde, .ref gme])), (hv, .inr (10, [.int ch, .int po, .ref av])), (av, .inl (cs 0, 32, .inl f)), (gpr, .inl (cs 0, 16, .inl gpf))] H := hP
  replace hD : va_D A [(hpo, .inr (6, [.ref hr, .ref hg, .ref hgr])), (hgr, .inr (3, [.int (nI en), .ref gs, .ref g1r, .ref g2r, .ref gan, .ref gpr, .ref gde, .ref gme])), (hv, .inr (10, [.int ch, .int po, .ref av])), (av, .inl (cs 0, 32, .inl f)), (gpr, .inl (cs 0, 16, .inl gpf))] := hD
  exact xreti C () trivial hP hD hS (Nat.le_of_ble_eq_true rfl) (Nat.le_of_ble_eq_true rfl) rfl dX6_confidence_21

set_option maxHeartbeats 4000000 in
set_option maxRecDepth 100000 in
theorem c_X6_isStrong (l : Launch) (D : va_G) (cs : Nat → ClassId) (hpo : Nat) (hr hg : Nat) (hgr en gs g1r g2r gan gpr gde gme : Nat) (hv av : Nat) (ch po : Int32) (f : Nat → Int32) (gaf gsf : Nat → Int32) (e0 : Nat) (hen : en ≤ 16) (hgs : inP 16 8 gsf) (he : e0 < 16) : xMet l D cs yX6_isStrong cX6_isStrong 5 (some .boolean) ({ frames := 2, cells := 0, slots := 0, locals := 42 } : Room) [.ref hpo, .ref hv, .int (nI e0)] [(hpo, .inr (6, [.ref hr, .ref hg, .ref hgr])), (hgr, .inr (3, [.int (nI en), .ref gs, .ref g1r, .ref g2r, .ref gan, .ref gpr, .ref gde, .ref gme])), (hv, .inr (10, [.int ch, .int po, .ref av])), (av, .inl (cs 0, 32, .inl f)), (gan, .inl (cs 0, 16, .inl gaf)), (gs, .inl (cs 0, 16, .inl gsf))] (xQi D (fun (r : Int32) (_u : Unit) => (r = nI 0 ∨ r = nI 1)) (fun (_u : Unit) => [(hpo, .inr (6, [.ref hr, .ref hg, .ref hgr])), (hgr, .inr (3, [.int (nI en), .ref gs, .ref g1r, .ref g2r, .ref gan, .ref gpr, .ref gde, .ref gme])), (hv, .inr (10, [.int ch, .int po, .ref av])), (av, .inl (cs 0, 32, .inl f)), (gan, .inl (cs 0, 16, .inl gaf)), (gs, .inl (cs 0, 16, .inl gsf))])) := by
  refine xMet.intro (by decide) (Nat.le_of_ble_eq_true rfl) ?_
  intro p e s m args below meth c A ls C hP hD hS hl
  have hx := C.1
  have hb := C.2.1
  have hz := C.2.2.2.2.1
  have hown := C.2.2.2.1
  have hA := C.2.2.2.2.2.2.2.2.2
  have hAO := C.2.2.2.2.2.2.2.2.1.2.2
  replace hl : lv_has ls 5 [(0, .ref hpo), (1, .ref hv), (2, .int (nI e0))] := hl
  obtain ⟨H, hH⟩ : ∃ H, H = s.heap := ⟨_, rfl⟩
  replace hP : va_P D vwCl [(hpo, .inr (6, [.ref hr, .ref hg, .ref hgr])), (hgr, .inr (3, [.int (nI en), .ref gs, .ref g1r, .ref g2r, .ref gan, .ref gpr, .ref gde, .ref gme])), (hv, .inr (10, [.int ch, .int po, .ref av])), (av, .inl (cs 0, 32, .inl f)), (gan, .inl (cs 0, 16, .inl gaf)), (gs, .inl (cs 0, 16, .inl gsf))] H := by rw [hH]; exact hP
  replace hS : va_S A s.heap H [] := by rw [hH]; exact hS
  obtain ⟨locs, hlocs⟩ : ∃ z : List Loc, z = [] := ⟨_, rfl⟩
  rw [← hlocs] at hS
  suffices hW : W p l e ({ frames := 2, cells := 0, slots := 0, locals := 42 } : Room) s m args below meth c H locs 0 0 (MQ below ((xQi D (fun (r : Int32) (_u : Unit) => (r = nI 0 ∨ r = nI 1)) (fun (_u : Unit) => [(hpo, .inr (6, [.ref hr, .ref hg, .ref hgr])), (hgr, .inr (3, [.int (nI en), .ref gs, .ref g1r, .ref g2r, .ref gan, .ref gpr, .ref gde, .ref gme])), (hv, .inr (10, [.int ch, .int po, .ref av])), (av, .inl (cs 0, 32, .inl f)), (gan, .inl (cs 0, 16, .inl gaf)), (gs, .inl (cs 0, 16, .inl gsf))])) A) args s 0 0 A) (F0 m 0 ls []) by rw [hlocs, hH] at hW; exact hW
  clear hH hlocs
  refine lv_aload_n hx hb dX6_isStrong_0 rfl (lv_at hl 0 rfl) ?_
  refine xget C hP 0 rfl rfl zuX6 2 (by decide) zw2_25 rfl dX6_isStrong_1 ?_
  refine lv_iload_n hx hb dX6_isStrong_4 rfl (lv_at hl 2 rfl) ?_
  refine xi (wr := [(hpo, .inr (6, [.ref hr, .ref hg, .ref hgr])), (hv, .inr (10, [.int ch, .int po, .ref av])), (av, .inl (cs 0, 32, .inl f)), (gs, .inl (cs 0, 16, .inl gsf))]) (xV (As := [.int (nI e0)]) (rest := []) C (c_X3_lineOf l D cs hgr en gs g1r g2r gan gpr gde gme gaf (nI e0) hen) kX6_62 hP hD [1, 4] rfl (by decide) 0 rfl rfl rfl ⟨Nat.le_of_ble_eq_true rfl, Nat.le_of_ble_eq_true rfl⟩ rfl hl.1 rfl (Nat.le_of_ble_eq_true rfl) dX6_isStrong_5 ⟨Nat.le_of_ble_eq_true rfl, Nat.le_of_ble_eq_true rfl⟩) hP hD hS hA [1, 4] [0, 2, 3, 5] rfl rfl (by decide) (by decide) ?_
  clear hP hD hS
  try clear locs
  try clear H
  intro r_1 u_2 H locs hw_r_1 hP hD hS
  refine W.widen (k := 0) (n := 0) (Nat.le_of_ble_eq_true rfl) (Nat.le_of_ble_eq_true rfl) ?_
  replace hP : va_P D vwCl [(hpo, .inr (6, [.ref hr, .ref hg, .ref hgr])), (hv, .inr (10, [.int ch, .int po, .ref av])), (av, .inl (cs 0, 32, .inl f)), (gs, .inl (cs 0, 16, .inl gsf)), (hgr, .inr (3, [.int (nI en), .ref gs, .ref g1r, .ref g2r, .ref gan, .ref gpr, .ref gde, .ref gme])), (gan, .inl (cs 0, 16, .inl gaf))] H := hP
  replace hD : va_D A [(hpo, .inr (6, [.ref hr, .ref hg, .ref hgr])), (hv, .inr (10, [.int ch, .int po, .ref av])), (av, .inl (cs 0, 32, .inl f)), (gs, .inl (cs 0, 16, .inl gsf)), (hgr, .inr (3, [.int (nI en), .ref gs, .ref g1r, .ref g2r, .ref gan, .ref gpr, .ref gde, .ref gme])), (gan, .inl (cs 0, 16, .inl gaf))] := hD
  refine lv_istore_n (lv' := [(3, .int r_1), (0, .ref hpo), (1, .ref hv), (2, .int (nI e0))]) hx hb dX6_isStrong_8 rfl hl (by decide) rfl ?_
  clear hl
  try clear ls
  intro ls hl
  refine lv_iconst (v := nI 0) hx hb dX6_isStrong_9 (by decide) ?_
  refine lv_istore (lv' := [(4, .int (nI 0)), (3, .int r_1), (0, .ref hpo), (1, .ref hv), (2, .int (nI e0))]) hx hb dX6_isStrong_10 hl (by decide) rfl ?_
  clear hl
  try clear ls
  intro ls hl
  have loop_3 : ∀ (n_loop_3 : Nat) (e9 : Nat), (e9 ≤ 16) → 16 - e9 < n_loop_3 → ∀ (H : Heap) (locs : List Loc) (ls : Array Slot), va_P D vwCl [(hpo, .inr (6, [.ref hr, .ref hg, .ref hgr])), (hv, .inr (10, [.int ch, .int po, .ref av])), (av, .inl (cs 0, 32, .inl f)), (gs, .inl (cs 0, 16, .inl gsf)), (hgr, .inr (3, [.int (nI en), .ref gs, .ref g1r, .ref g2r, .ref gan, .ref gpr, .ref gde, .ref gme])), (gan, .inl (cs 0, 16, .inl gaf))] H → va_D A [(hpo, .inr (6, [.ref hr, .ref hg, .ref hgr])), (hv, .inr (10, [.int ch, .int po, .ref av])), (av, .inl (cs 0, 32, .inl f)), (gs, .inl (cs 0, 16, .inl gsf)), (hgr, .inr (3, [.int (nI en), .ref gs, .ref g1r, .ref g2r, .ref gan, .ref gpr, .ref gde, .ref gme])), (gan, .inl (cs 0, 16, .inl gaf))] → va_S A s.heap H locs → lv_has ls 5 [(4, .int (nI e9)), (3, .int r_1), (0, .ref hpo), (1, .ref hv), (2, .int (nI e0))] → W p l e ({ frames := 2, cells := 0, slots := 0, locals := 42 } : Room) s m args below meth c H locs 0 0 (MQ below ((xQi D (fun (r : Int32) (_u : Unit) => (r = nI 0 ∨ r = nI 1)) (fun (_u : Unit) => [(hpo, .inr (6, [.ref hr, .ref hg, .ref hgr])), (hgr, .inr (3, [.int (nI en), .ref gs, .ref g1r, .ref g2r, .ref gan, .ref gpr, .ref gde, .ref gme])), (hv, .inr (10, [.int ch, .int po, .ref av])), (av, .inl (cs 0, 32, .inl f)), (gan, .inl (cs 0, 16, .inl gaf)), (gs, .inl (cs 0, 16, .inl gsf))])) A) args s 0 0 A) (F0 m 12 ls []) := by
    intro n_loop_3
    induction n_loop_3 with
    | zero => intro e9 h_e9 hlt H locs ls hP hD hS hl; exact absurd hlt (Nat.not_lt_zero _)
    | succ n_loop_3 ih_loop_3 =>
      intro e9 h_e9 hlt_loop_3 H locs ls hP hD hS hl
      refine lv_iload hx hb dX6_isStrong_12 (lv_at hl 0 rfl) ?_
      refine lv_iload_n hx hb dX6_isStrong_14 rfl (lv_at hl 4 rfl) ?_
      refine lv_icmp_gt (tgt := 56) hx hb dX6_isStrong_15 (by decide) (fun c_4 => ?_) (fun c_4 => ?_)
      · -- 15 t
        have fc_4 : e0 < e9 := nf_lt (by omega) (by omega) c_4
        refine lv_iconst (v := nI 1) hx hb dX6_isStrong_56 (by decide) ?_
        exact xreti C () (by decide) (xP_map hP [0, 4, 1, 2, 5, 3] rfl) (hD.sub [0, 4, 1, 2, 5, 3] (by decide) rfl) hS (Nat.le_of_ble_eq_true rfl) (Nat.le_of_ble_eq_true rfl) (by decide) dX6_isStrong_57
      · -- 15 f
        have fc_4 : e9 ≤ e0 := nf_nlt (by omega) (by omega) c_4
        refine lv_iload_n hx hb dX6_isStrong_18 rfl (lv_at hl 1 rfl) ?_
        refine lv_iload hx hb dX6_isStrong_19 (lv_at hl 0 rfl) ?_
        refine lv_ishr hx hb dX6_isStrong_21 ?_
        refine lv_iconst (v := nI 1) hx hb dX6_isStrong_22 (by decide) ?_
        refine lv_iand hx hb dX6_isStrong_23 ?_
        refine lv_iconst (v := nI 1) hx hb dX6_isStrong_24 (by decide) ?_
        refine lv_icmp_ne (tgt := 50) hx hb dX6_isStrong_25 (by decide) (fun c_5 => ?_) (fun c_5 => ?_)
        · -- 25 t
          refine lv_iinc (v := nI (e9 + 1)) (lv' := [(4, .int (nI (e9 + 1))), (3, .int r_1), (0, .ref hpo), (1, .ref hv), (2, .int (nI e0))]) hx hb dX6_isStrong_50 hl (k := 0) rfl (nI_add e9 1) (by decide) rfl ?_
          clear hl
          try clear ls
          intro ls hl
          refine lv_goto (tgt := 12) hx hb dX6_isStrong_53 (by decide) ?_
          exact ih_loop_3 (e9 + 1) (by omega) (by omega) H locs ls hP hD hS (lv_sub hl [0, 1, 2, 3, 4] rfl)
        · -- 25 f
          refine lv_aload_n hx hb dX6_isStrong_28 rfl (lv_at hl 3 rfl) ?_
          refine lv_aload_n hx hb dX6_isStrong_29 rfl (lv_at hl 2 rfl) ?_
          refine xget C hP 0 rfl rfl zuX6 2 (by decide) zw2_25 rfl dX6_isStrong_30 ?_
          refine xget C hP 4 rfl rfl zuX3 1 (by decide) zw1_199 rfl dX6_isStrong_33 ?_
          refine lv_iload hx hb dX6_isStrong_36 (lv_at hl 0 rfl) ?_
          refine xiald C hP 3 rfl e9 rfl (by omega) (by decide) dX6_isStrong_38 ?_
          obtain ⟨t_6, h_t_6, e_t_6⟩ := hgs e9 (by omega)
          refine lv_topi (nm_r (e' := nI t_6) e_t_6 ?_)
          refine lv_iconst (v := nI 0) hx hb dX6_isStrong_39 (by decide) ?_
          refine xi (wr := [(hpo, .inr (6, [.ref hr, .ref hg, .ref hgr])), (gs, .inl (cs 0, 16, .inl gsf)), (hgr, .inr (3, [.int (nI en), .ref gs, .ref g1r, .ref g2r, .ref gan, .ref gpr, .ref gde, .ref gme])), (gan, .inl (cs 0, 16, .inl gaf))]) (xV (As := [.int (nI t_6), .int (nI 0)]) (rest := []) C (c_X10_get l D cs hv av ch po f t_6 0 (by omega) (by decide)) kX6_68 hP hD [1, 2] rfl (by decide) 0 rfl rfl rfl ⟨Nat.le_of_ble_eq_true rfl, Nat.le_of_ble_eq_true rfl⟩ rfl hl.1 rfl (Nat.le_of_ble_eq_true rfl) dX6_isStrong_40 ⟨Nat.le_of_ble_eq_true rfl, Nat.le_of_ble_eq_true rfl⟩) hP hD hS hA [1, 2] [0, 3, 4, 5] rfl rfl (by decide) (by decide) ?_
          clear hP hD hS
          try clear locs
          try clear H
          intro r_7 u_8 H locs hw_r_7 hP hD hS
          have hw_r_7 : r_7 = f (t_6 * 4 + 0) := hw_r_7
          refine W.widen (k := 0) (n := 0) (Nat.le_of_ble_eq_true rfl) (Nat.le_of_ble_eq_true rfl) ?_
          replace hP : va_P D vwCl [(hpo, .inr (6, [.ref hr, .ref hg, .ref hgr])), (gs, .inl (cs 0, 16, .inl gsf)), (hgr, .inr (3, [.int (nI en), .ref gs, .ref g1r, .ref g2r, .ref gan, .ref gpr, .ref gde, .ref gme])), (gan, .inl (cs 0, 16, .inl gaf)), (hv, .inr (10, [.int ch, .int po, .ref av])), (av, .inl (cs 0, 32, .inl f))] H := hP
          replace hD : va_D A [(hpo, .inr (6, [.ref hr, .ref hg, .ref hgr])), (gs, .inl (cs 0, 16, .inl gsf)), (hgr, .inr (3, [.int (nI en), .ref gs, .ref g1r, .ref g2r, .ref gan, .ref gpr, .ref gde, .ref gme])), (gan, .inl (cs 0, 16, .inl gaf)), (hv, .inr (10, [.int ch, .int po, .ref av])), (av, .inl (cs 0, 32, .inl f))] := hD
          refine lv_iload hx hb dX6_isStrong_43 (lv_at hl 0 rfl) ?_
          refine lv_icmp_eq (tgt := 50) hx hb dX6_isStrong_45 (by decide) (fun c_9 => ?_) (fun c_9 => ?_)
          · -- 45 t
            refine lv_iinc (v := nI (e9 + 1)) (lv' := [(4, .int (nI (e9 + 1))), (3, .int r_1), (0, .ref hpo), (1, .ref hv), (2, .int (nI e0))]) hx hb dX6_isStrong_50 hl (k := 0) rfl (nI_add e9 1) (by decide) rfl ?_
            clear hl
            try clear ls
            intro ls hl
            refine lv_goto (tgt := 12) hx hb dX6_isStrong_53 (by decide) ?_
            exact ih_loop_3 (e9 + 1) (by omega) (by omega) H locs ls (xP_map hP [0, 4, 5, 1, 2, 3] rfl) (hD.sub [0, 4, 5, 1, 2, 3] (by decide) rfl) hS (lv_sub hl [0, 1, 2, 3, 4] rfl)
          · -- 45 f
            refine lv_iconst (v := nI 0) hx hb dX6_isStrong_48 (by decide) ?_
            exact xreti C () (by decide) (xP_map hP [0, 2, 4, 5, 3, 1] rfl) (hD.sub [0, 2, 4, 5, 3, 1] (by decide) rfl) hS (Nat.le_of_ble_eq_true rfl) (Nat.le_of_ble_eq_true rfl) (by decide) dX6_isStrong_49
  exact loop_3 _ 0 (by omega) (Nat.lt_succ_self _) H locs ls hP hD hS (lv_sub hl [0, 1, 2, 3, 4] rfl)

set_option maxHeartbeats 4000000 in
set_option maxRecDepth 100000 in
theorem c_X6_standing (l : Launch) (D : va_G) (cs : Nat → ClassId) (hpo : Nat) (hr hg : Nat) (hgr en gs g1r g2r gan gpr gde gme : Nat) (hv av : Nat) (ch po : Int32) (f : Nat → Int32) (gsf : Nat → Int32) (e0 : Nat) (hgs : inP 16 8 gsf) (he : e0 < 16) : xMet l D cs yX6_standing cX6_standing 4 (some .int) ({ frames := 2, cells := 0, slots := 0, locals := 43 } : Room) [.ref hpo, .ref hv, .int (nI e0)] [(hpo, .inr (6, [.ref hr, .ref hg, .ref hgr])), (hgr, .inr (3, [.int (nI en), .ref gs, .ref g1r, .ref g2r, .ref gan, .ref gpr, .ref gde, .ref gme])), (hv, .inr (10, [.int ch, .int po, .ref av])), (av, .inl (cs 0, 32, .inl f)), (gs, .inl (cs 0, 16, .inl gsf))] (xQi D (fun (r : Int32) (_u : Unit) => True) (fun (_u : Unit) => [(hpo, .inr (6, [.ref hr, .ref hg, .ref hgr])), (hgr, .inr (3, [.int (nI en), .ref gs, .ref g1r, .ref g2r, .ref gan, .ref gpr, .ref gde, .ref gme])), (hv, .inr (10, [.int ch, .int po, .ref av])), (av, .inl (cs 0, 32, .inl f)), (gs, .inl (cs 0, 16, .inl gsf))])) := by
  refine xMet.intro (by decide) (Nat.le_of_ble_eq_true rfl) ?_
  intro p e s m args below meth c A ls C hP hD hS hl
  have hx := C.1
  have hb := C.2.1
  have hz := C.2.2.2.2.1
  have hown := C.2.2.2.1
  have hA := C.2.2.2.2.2.2.2.2.2
  have hAO := C.2.2.2.2.2.2.2.2.1.2.2
  replace hl : lv_has ls 4 [(0, .ref hpo), (1, .ref hv), (2, .int (nI e0))] := hl
  obtain ⟨H, hH⟩ : ∃ H, H = s.heap := ⟨_, rfl⟩
  replace hP : va_P D vwCl [(hpo, .inr (6, [.ref hr, .ref hg, .ref hgr])), (hgr, .inr (3, [.int (nI en), .ref gs, .ref g1r, .ref g2r, .ref gan, .ref gpr, .ref gde, .ref gme])), (hv, .inr (10, [.int ch, .int po, .ref av])), (av, .inl (cs 0, 32, .inl f)), (gs, .inl (cs 0, 16, .inl gsf))] H := by rw [hH]; exact hP
  replace hS : va_S A s.heap H [] := by rw [hH]; exact hS
  obtain ⟨locs, hlocs⟩ : ∃ z : List Loc, z = [] := ⟨_, rfl⟩
  rw [← hlocs] at hS
  suffices hW : W p l e ({ frames := 2, cells := 0, slots := 0, locals := 43 } : Room) s m args below meth c H locs 0 0 (MQ below ((xQi D (fun (r : Int32) (_u : Unit) => True) (fun (_u : Unit) => [(hpo, .inr (6, [.ref hr, .ref hg, .ref hgr])), (hgr, .inr (3, [.int (nI en), .ref gs, .ref g1r, .ref g2r, .ref gan, .ref gpr, .ref gde, .ref gme])), (hv, .inr (10, [.int ch, .int po, .ref av])), (av, .inl (cs 0, 32, .inl f)), (gs, .inl (cs 0, 16, .inl gsf))])) A) args s 0 0 A) (F0 m 0 ls []) by rw [hlocs, hH] at hW; exact hW
  clear hH hlocs
  refine lv_aload_n hx hb dX6_standing_0 rfl (lv_at hl 0 rfl) ?_
  refine xget C hP 0 rfl rfl zuX6 2 (by decide) zw2_25 rfl dX6_standing_1 ?_
  refine xget C hP 1 rfl rfl zuX3 1 (by decide) zw1_199 rfl dX6_standing_4 ?_
  refine lv_iload_n hx hb dX6_standing_7 rfl (lv_at hl 2 rfl) ?_
  refine xiald C hP 4 rfl e0 rfl (by omega) (by decide) dX6_standing_8 ?_
  obtain ⟨t_1, h_t_1, e_t_1⟩ := hgs e0 (by omega)
  refine lv_topi (nm_r (e' := nI t_1) e_t_1 ?_)
  refine lv_istore_n (lv' := [(3, .int (nI t_1)), (0, .ref hpo), (1, .ref hv), (2, .int (nI e0))]) hx hb dX6_standing_9 rfl hl (by decide) rfl ?_
  clear hl
  try clear ls
  intro ls hl
  refine lv_aload_n hx hb dX6_standing_10 rfl (lv_at hl 2 rfl) ?_
  refine lv_iload_n hx hb dX6_standing_11 rfl (lv_at hl 0 rfl) ?_
  refine xi (wr := [(hpo, .inr (6, [.ref hr, .ref hg, .ref hgr])), (hgr, .inr (3, [.int (nI en), .ref gs, .ref g1r, .ref g2r, .ref gan, .ref gpr, .ref gde, .ref gme])), (gs, .inl (cs 0, 16, .inl gsf))]) (xV (As := [.int (nI t_1)]) (rest := []) C (c_X10_isOpen l D cs hv av ch po f t_1 (by omega)) kX6_72 hP hD [2, 3] rfl (by decide) 0 rfl rfl rfl ⟨Nat.le_of_ble_eq_true rfl, Nat.le_of_ble_eq_true rfl⟩ rfl hl.1 rfl (Nat.le_of_ble_eq_true rfl) dX6_standing_12 ⟨Nat.le_of_ble_eq_true rfl, Nat.le_of_ble_eq_true rfl⟩) hP hD hS hA [2, 3] [0, 1, 4] rfl rfl (by decide) (by decide) ?_
  clear hP hD hS
  try clear locs
  try clear H
  intro r_2 u_3 H locs hw_r_2 hP hD hS
  have hw_r_2 : r_2 = if f (t_1 * 4 + 3) = -1 then nI 1 else nI 0 := hw_r_2
  refine W.widen (k := 0) (n := 0) (Nat.le_of_ble_eq_true rfl) (Nat.le_of_ble_eq_true rfl) ?_
  replace hP : va_P D vwCl [(hpo, .inr (6, [.ref hr, .ref hg, .ref hgr])), (hgr, .inr (3, [.int (nI en), .ref gs, .ref g1r, .ref g2r, .ref gan, .ref gpr, .ref gde, .ref gme])), (gs, .inl (cs 0, 16, .inl gsf)), (hv, .inr (10, [.int ch, .int po, .ref av])), (av, .inl (cs 0, 32, .inl f))] H := hP
  replace hD : va_D A [(hpo, .inr (6, [.ref hr, .ref hg, .ref hgr])), (hgr, .inr (3, [.int (nI en), .ref gs, .ref g1r, .ref g2r, .ref gan, .ref gpr, .ref gde, .ref gme])), (gs, .inl (cs 0, 16, .inl gsf)), (hv, .inr (10, [.int ch, .int po, .ref av])), (av, .inl (cs 0, 32, .inl f))] := hD
  refine lv_if_eq (tgt := 20) hx hb dX6_standing_15 (by decide) (fun c_4 => ?_) (fun c_4 => ?_)
  · -- 15 t
    refine lv_aload_n hx hb dX6_standing_20 rfl (lv_at hl 2 rfl) ?_
    refine lv_iload_n hx hb dX6_standing_21 rfl (lv_at hl 0 rfl) ?_
    refine lv_iconst (v := nI 3) hx hb dX6_standing_22 (by decide) ?_
    refine xi (wr := [(hpo, .inr (6, [.ref hr, .ref hg, .ref hgr])), (hgr, .inr (3, [.int (nI en), .ref gs, .ref g1r, .ref g2r, .ref gan, .ref gpr, .ref gde, .ref gme])), (gs, .inl (cs 0, 16, .inl gsf))]) (xV (As := [.int (nI t_1), .int (nI 3)]) (rest := []) C (c_X10_get l D cs hv av ch po f t_1 3 (by omega) (by decide)) kX6_68 hP hD [3, 4] rfl (by decide) 0 rfl rfl rfl ⟨Nat.le_of_ble_eq_true rfl, Nat.le_of_ble_eq_true rfl⟩ rfl hl.1 rfl (Nat.le_of_ble_eq_true rfl) dX6_standing_23 ⟨Nat.le_of_ble_eq_true rfl, Nat.le_of_ble_eq_true rfl⟩) hP hD hS hA [3, 4] [0, 1, 2] rfl rfl (by decide) (by decide) ?_
    clear hP hD hS
    try clear locs
    try clear H
    intro r_5 u_6 H locs hw_r_5 hP hD hS
    have hw_r_5 : r_5 = f (t_1 * 4 + 3) := hw_r_5
    refine W.widen (k := 0) (n := 0) (Nat.le_of_ble_eq_true rfl) (Nat.le_of_ble_eq_true rfl) ?_
    replace hP : va_P D vwCl [(hpo, .inr (6, [.ref hr, .ref hg, .ref hgr])), (hgr, .inr (3, [.int (nI en), .ref gs, .ref g1r, .ref g2r, .ref gan, .ref gpr, .ref gde, .ref gme])), (gs, .inl (cs 0, 16, .inl gsf)), (hv, .inr (10, [.int ch, .int po, .ref av])), (av, .inl (cs 0, 32, .inl f))] H := hP
    replace hD : va_D A [(hpo, .inr (6, [.ref hr, .ref hg, .ref hgr])), (hgr, .inr (3, [.int (nI en), .ref gs, .ref g1r, .ref g2r, .ref gan, .ref gpr, .ref gde, .ref gme])), (gs, .inl (cs 0, 16, .inl gsf)), (hv, .inr (10, [.int ch, .int po, .ref av])), (av, .inl (cs 0, 32, .inl f))] := hD
    refine lv_iload_n hx hb dX6_standing_26 rfl (lv_at hl 3 rfl) ?_
    refine lv_icmp_ne (tgt := 34) hx hb dX6_standing_27 (by decide) (fun c_7 => ?_) (fun c_7 => ?_)
    · -- 27 t
      refine lv_iconst (v := nI 2) hx hb dX6_standing_34 (by decide) ?_
      exact xreti C () trivial (xP_map hP [0, 1, 3, 4, 2] rfl) (hD.sub [0, 1, 3, 4, 2] (by decide) rfl) hS (Nat.le_of_ble_eq_true rfl) (Nat.le_of_ble_eq_true rfl) rfl dX6_standing_35
    · -- 27 f
      refine lv_iconst (v := nI 1) hx hb dX6_standing_30 (by decide) ?_
      refine lv_goto (tgt := 35) hx hb dX6_standing_31 (by decide) ?_
      exact xreti C () trivial (xP_map hP [0, 1, 3, 4, 2] rfl) (hD.sub [0, 1, 3, 4, 2] (by decide) rfl) hS (Nat.le_of_ble_eq_true rfl) (Nat.le_of_ble_eq_true rfl) rfl dX6_standing_35
  · -- 15 f
    refine lv_iconst (v := nI 0) hx hb dX6_standing_18 (by decide) ?_
    exact xreti C () trivial (xP_map hP [0, 1, 3, 4, 2] rfl) (hD.sub [0, 1, 3, 4, 2] (by decide) rfl) hS (Nat.le_of_ble_eq_true rfl) (Nat.le_of_ble_eq_true rfl) rfl dX6_standing_19

set_option maxHeartbeats 4000000 in
set_option maxRecDepth 100000 in
theorem c_X6_isOpenOf (l : Launch) (D : va_G) (cs : Nat → ClassId) (hpo : Nat) (hr hg : Nat) (hgr en gs g1r g2r gan gpr gde gme : Nat) (hv av : Nat) (ch po : Int32) (f : Nat → Int32) (gsf : Nat → Int32) (x : Int32) (e0 : Nat) (hgs : inP 16 8 gsf) (he : e0 < 16) : xMet l D cs yX6_isOpenOf cX6_isOpenOf 4 (some .boolean) ({ frames := 2, cells := 0, slots := 0, locals := 43 } : Room) [.ref hpo, .ref hv, .int x, .int (nI e0)] [(hpo, .inr (6, [.ref hr, .ref hg, .ref hgr])), (hgr, .inr (3, [.int (nI en), .ref gs, .ref g1r, .ref g2r, .ref gan, .ref gpr, .ref gde, .ref gme])), (hv, .inr (10, [.int ch, .int po, .ref av])), (av, .inl (cs 0, 32, .inl f)), (gs, .inl (cs 0, 16, .inl gsf))] (xQi D (fun (r : Int32) (_u : Unit) => (r = nI 0 ∨ r = nI 1)) (fun (_u : Unit) => [(hpo, .inr (6, [.ref hr, .ref hg, .ref hgr])), (hgr, .inr (3, [.int (nI en), .ref gs, .ref g1r, .ref g2r, .ref gan, .ref gpr, .ref gde, .ref gme])), (hv, .inr (10, [.int ch, .int po, .ref av])), (av, .inl (cs 0, 32, .inl f)), (gs, .inl (cs 0, 16, .inl gsf))])) := by
  refine xMet.intro (by decide) (Nat.le_of_ble_eq_true rfl) ?_
  intro p e s m args below meth c A ls C hP hD hS hl
  have hx := C.1
  have hb := C.2.1
  have hz := C.2.2.2.2.1
  have hown := C.2.2.2.1
  have hA := C.2.2.2.2.2.2.2.2.2
  have hAO := C.2.2.2.2.2.2.2.2.1.2.2
  replace hl : lv_has ls 4 [(0, .ref hpo), (1, .ref hv), (2, .int x), (3, .int (nI e0))] := hl
  obtain ⟨H, hH⟩ : ∃ H, H = s.heap := ⟨_, rfl⟩
  replace hP : va_P D vwCl [(hpo, .inr (6, [.ref hr, .ref hg, .ref hgr])), (hgr, .inr (3, [.int (nI en), .ref gs, .ref g1r, .ref g2r, .ref gan, .ref gpr, .ref gde, .ref gme])), (hv, .inr (10, [.int ch, .int po, .ref av])), (av, .inl (cs 0, 32, .inl f)), (gs, .inl (cs 0, 16, .inl gsf))] H := by rw [hH]; exact hP
  replace hS : va_S A s.heap H [] := by rw [hH]; exact hS
  obtain ⟨locs, hlocs⟩ : ∃ z : List Loc, z = [] := ⟨_, rfl⟩
  rw [← hlocs] at hS
  suffices hW : W p l e ({ frames := 2, cells := 0, slots := 0, locals := 43 } : Room) s m args below meth c H locs 0 0 (MQ below ((xQi D (fun (r : Int32) (_u : Unit) => (r = nI 0 ∨ r = nI 1)) (fun (_u : Unit) => [(hpo, .inr (6, [.ref hr, .ref hg, .ref hgr])), (hgr, .inr (3, [.int (nI en), .ref gs, .ref g1r, .ref g2r, .ref gan, .ref gpr, .ref gde, .ref gme])), (hv, .inr (10, [.int ch, .int po, .ref av])), (av, .inl (cs 0, 32, .inl f)), (gs, .inl (cs 0, 16, .inl gsf))])) A) args s 0 0 A) (F0 m 0 ls []) by rw [hlocs, hH] at hW; exact hW
  clear hH hlocs
  refine lv_iload_n hx hb dX6_isOpenOf_0 rfl (lv_at hl 2 rfl) ?_
  refine lv_iload_n hx hb dX6_isOpenOf_1 rfl (lv_at hl 3 rfl) ?_
  refine lv_ishr hx hb dX6_isOpenOf_2 ?_
  refine lv_iconst (v := nI 1) hx hb dX6_isOpenOf_3 (by decide) ?_
  refine lv_iand hx hb dX6_isOpenOf_4 ?_
  refine lv_iconst (v := nI 1) hx hb dX6_isOpenOf_5 (by decide) ?_
  refine lv_icmp_ne (tgt := 29) hx hb dX6_isOpenOf_6 (by decide) (fun c_1 => ?_) (fun c_1 => ?_)
  · -- 6 t
    refine lv_iconst (v := nI 0) hx hb dX6_isOpenOf_29 (by decide) ?_
    exact xreti C () (by decide) hP hD hS (Nat.le_of_ble_eq_true rfl) (Nat.le_of_ble_eq_true rfl) (by decide) dX6_isOpenOf_30
  · -- 6 f
    refine lv_aload_n hx hb dX6_isOpenOf_9 rfl (lv_at hl 1 rfl) ?_
    refine lv_aload_n hx hb dX6_isOpenOf_10 rfl (lv_at hl 0 rfl) ?_
    refine xget C hP 0 rfl rfl zuX6 2 (by decide) zw2_25 rfl dX6_isOpenOf_11 ?_
    refine xget C hP 1 rfl rfl zuX3 1 (by decide) zw1_199 rfl dX6_isOpenOf_14 ?_
    refine lv_iload_n hx hb dX6_isOpenOf_17 rfl (lv_at hl 3 rfl) ?_
    refine xiald C hP 4 rfl e0 rfl (by omega) (by decide) dX6_isOpenOf_18 ?_
    obtain ⟨t_2, h_t_2, e_t_2⟩ := hgs e0 (by omega)
    refine lv_topi (nm_r (e' := nI t_2) e_t_2 ?_)
    refine xi (wr := [(hpo, .inr (6, [.ref hr, .ref hg, .ref hgr])), (hgr, .inr (3, [.int (nI en), .ref gs, .ref g1r, .ref g2r, .ref gan, .ref gpr, .ref gde, .ref gme])), (gs, .inl (cs 0, 16, .inl gsf))]) (xV (As := [.int (nI t_2)]) (rest := []) C (c_X10_isOpen l D cs hv av ch po f t_2 (by omega)) kX6_72 hP hD [2, 3] rfl (by decide) 0 rfl rfl rfl ⟨Nat.le_of_ble_eq_true rfl, Nat.le_of_ble_eq_true rfl⟩ rfl hl.1 rfl (Nat.le_of_ble_eq_true rfl) dX6_isOpenOf_19 ⟨Nat.le_of_ble_eq_true rfl, Nat.le_of_ble_eq_true rfl⟩) hP hD hS hA [2, 3] [0, 1, 4] rfl rfl (by decide) (by decide) ?_
    clear hP hD hS
    try clear locs
    try clear H
    intro r_3 u_4 H locs hw_r_3 hP hD hS
    have hw_r_3 : r_3 = if f (t_2 * 4 + 3) = -1 then nI 1 else nI 0 := hw_r_3
    refine W.widen (k := 0) (n := 0) (Nat.le_of_ble_eq_true rfl) (Nat.le_of_ble_eq_true rfl) ?_
    replace hP : va_P D vwCl [(hpo, .inr (6, [.ref hr, .ref hg, .ref hgr])), (hgr, .inr (3, [.int (nI en), .ref gs, .ref g1r, .ref g2r, .ref gan, .ref gpr, .ref gde, .ref gme])), (gs, .inl (cs 0, 16, .inl gsf)), (hv, .inr (10, [.int ch, .int po, .ref av])), (av, .inl (cs 0, 32, .inl f))] H := hP
    replace hD : va_D A [(hpo, .inr (6, [.ref hr, .ref hg, .ref hgr])), (hgr, .inr (3, [.int (nI en), .ref gs, .ref g1r, .ref g2r, .ref gan, .ref gpr, .ref gde, .ref gme])), (gs, .inl (cs 0, 16, .inl gsf)), (hv, .inr (10, [.int ch, .int po, .ref av])), (av, .inl (cs 0, 32, .inl f))] := hD
    refine lv_if_eq (tgt := 29) hx hb dX6_isOpenOf_22 (by decide) (fun c_5 => ?_) (fun c_5 => ?_)
    · -- 22 t
      refine lv_iconst (v := nI 0) hx hb dX6_isOpenOf_29 (by decide) ?_
      exact xreti C () (by decide) (xP_map hP [0, 1, 3, 4, 2] rfl) (hD.sub [0, 1, 3, 4, 2] (by decide) rfl) hS (Nat.le_of_ble_eq_true rfl) (Nat.le_of_ble_eq_true rfl) (by decide) dX6_isOpenOf_30
    · -- 22 f
      refine lv_iconst (v := nI 1) hx hb dX6_isOpenOf_25 (by decide) ?_
      refine lv_goto (tgt := 30) hx hb dX6_isOpenOf_26 (by decide) ?_
      exact xreti C () (by decide) (xP_map hP [0, 1, 3, 4, 2] rfl) (hD.sub [0, 1, 3, 4, 2] (by decide) rfl) hS (Nat.le_of_ble_eq_true rfl) (Nat.le_of_ble_eq_true rfl) (by decide) dX6_isOpenOf_30

set_option maxHeartbeats 4000000 in
set_option maxRecDepth 100000 in
theorem c_X6_lose (l : Launch) (D : va_G) (cs : Nat → ClassId) (hpo : Nat) (hr hg : Nat) (hgr en gs g1r g2r gan gpr gde gme : Nat) (hv av : Nat) (ch po : Int32) (f : Nat → Int32) (gsf : Nat → Int32) (x : Int32) (hen : en ≤ 16) (hgs : inP 16 8 gsf) (hpr : prP f) : xMet l D cs yX6_lose cX6_lose 4 none ({ frames := 3, cells := 0, slots := 0, locals := 66 } : Room) [.ref hpo, .ref hv, .int x] [(hpo, .inr (6, [.ref hr, .ref hg, .ref hgr])), (hgr, .inr (3, [.int (nI en), .ref gs, .ref g1r, .ref g2r, .ref gan, .ref gpr, .ref gde, .ref gme])), (hv, .inr (10, [.int ch, .int po, .ref av])), (av, .inl (cs 0, 32, .inl f)), (gs, .inl (cs 0, 16, .inl gsf))] (xQv D (fun (fz : (Nat → Int32)) => prP fz) (fun (fz : (Nat → Int32)) => [(hpo, .inr (6, [.ref hr, .ref hg, .ref hgr])), (hgr, .inr (3, [.int (nI en), .ref gs, .ref g1r, .ref g2r, .ref gan, .ref gpr, .ref gde, .ref gme])), (hv, .inr (10, [.int ch, .int po, .ref av])), (av, .inl (cs 0, 32, .inl fz)), (gs, .inl (cs 0, 16, .inl gsf))])) := by
  refine xMet.intro (by decide) (Nat.le_of_ble_eq_true rfl) ?_
  intro p e s m args below meth c A ls C hP hD hS hl
  have hx := C.1
  have hb := C.2.1
  have hz := C.2.2.2.2.1
  have hown := C.2.2.2.1
  have hA := C.2.2.2.2.2.2.2.2.2
  have hAO := C.2.2.2.2.2.2.2.2.1.2.2
  replace hl : lv_has ls 4 [(0, .ref hpo), (1, .ref hv), (2, .int x)] := hl
  obtain ⟨H, hH⟩ : ∃ H, H = s.heap := ⟨_, rfl⟩
  replace hP : va_P D vwCl [(hpo, .inr (6, [.ref hr, .ref hg, .ref hgr])), (hgr, .inr (3, [.int (nI en), .ref gs, .ref g1r, .ref g2r, .ref gan, .ref gpr, .ref gde, .ref gme])), (hv, .inr (10, [.int ch, .int po, .ref av])), (av, .inl (cs 0, 32, .inl f)), (gs, .inl (cs 0, 16, .inl gsf))] H := by rw [hH]; exact hP
  replace hS : va_S A s.heap H [] := by rw [hH]; exact hS
  obtain ⟨locs, hlocs⟩ : ∃ z : List Loc, z = [] := ⟨_, rfl⟩
  rw [← hlocs] at hS
  suffices hW : W p l e ({ frames := 3, cells := 0, slots := 0, locals := 66 } : Room) s m args below meth c H locs 0 0 (MQ below ((xQv D (fun (fz : (Nat → Int32)) => prP fz) (fun (fz : (Nat → Int32)) => [(hpo, .inr (6, [.ref hr, .ref hg, .ref hgr])), (hgr, .inr (3, [.int (nI en), .ref gs, .ref g1r, .ref g2r, .ref gan, .ref gpr, .ref gde, .ref gme])), (hv, .inr (10, [.int ch, .int po, .ref av])), (av, .inl (cs 0, 32, .inl fz)), (gs, .inl (cs 0, 16, .inl gsf))])) A) args s 0 0 A) (F0 m 0 ls []) by rw [hlocs, hH] at hW; exact hW
  clear hH hlocs
  refine lv_iconst (v := nI 0) hx hb dX6_lose_0 (by decide) ?_
  refine lv_istore_n (lv' := [(3, .int (nI 0)), (0, .ref hpo), (1, .ref hv), (2, .int x)]) hx hb dX6_lose_1 rfl hl (by decide) rfl ?_
  clear hl
  try clear ls
  intro ls hl
  have loop_1 : ∀ (n_loop_1 : Nat) (e9 : Nat) (f9 : Nat → Int32), (e9 ≤ en) → (prP f9) → en - e9 < n_loop_1 → ∀ (H : Heap) (locs : List Loc) (ls : Array Slot), va_P D vwCl [(hpo, .inr (6, [.ref hr, .ref hg, .ref hgr])), (hgr, .inr (3, [.int (nI en), .ref gs, .ref g1r, .ref g2r, .ref gan, .ref gpr, .ref gde, .ref gme])), (hv, .inr (10, [.int ch, .int po, .ref av])), (av, .inl (cs 0, 32, .inl f9)), (gs, .inl (cs 0, 16, .inl gsf))] H → va_D A [(hpo, .inr (6, [.ref hr, .ref hg, .ref hgr])), (hgr, .inr (3, [.int (nI en), .ref gs, .ref g1r, .ref g2r, .ref gan, .ref gpr, .ref gde, .ref gme])), (hv, .inr (10, [.int ch, .int po, .ref av])), (av, .inl (cs 0, 32, .inl f9)), (gs, .inl (cs 0, 16, .inl gsf))] → va_S A s.heap H locs → lv_has ls 4 [(3, .int (nI e9)), (0, .ref hpo), (1, .ref hv), (2, .int x)] → W p l e ({ frames := 3, cells := 0, slots := 0, locals := 66 } : Room) s m args below meth c H locs 0 0 (MQ below ((xQv D (fun (fz : (Nat → Int32)) => prP fz) (fun (fz : (Nat → Int32)) => [(hpo, .inr (6, [.ref hr, .ref hg, .ref hgr])), (hgr, .inr (3, [.int (nI en), .ref gs, .ref g1r, .ref g2r, .ref gan, .ref gpr, .ref gde, .ref gme])), (hv, .inr (10, [.int ch, .int po, .ref av])), (av, .inl (cs 0, 32, .inl fz)), (gs, .inl (cs 0, 16, .inl gsf))])) A) args s 0 0 A) (F0 m 2 ls []) := by
    intro n_loop_1
    induction n_loop_1 with
    | zero => intro e9 f9 h_e9 hpr9 hlt H locs ls hP hD hS hl; exact absurd hlt (Nat.not_lt_zero _)
    | succ n_loop_1 ih_loop_1 =>
      intro e9 f9 h_e9 hpr9 hlt_loop_1 H locs ls hP hD hS hl
      refine lv_iload_n hx hb dX6_lose_2 rfl (lv_at hl 0 rfl) ?_
      refine lv_aload_n hx hb dX6_lose_3 rfl (lv_at hl 1 rfl) ?_
      refine xget C hP 0 rfl rfl zuX6 2 (by decide) zw2_25 rfl dX6_lose_4 ?_
      refine xget C hP 1 rfl rfl zuX3 0 (by decide) zw1_196 rfl dX6_lose_7 ?_
      refine lv_icmp_ge (tgt := 44) hx hb dX6_lose_10 (by decide) (fun c_2 => ?_) (fun c_2 => ?_)
      · -- 10 t
        have fc_2 : en ≤ e9 := nf_le (by omega) (by omega) c_2
        exact xretv C f9 hpr9 hP hD hS (Nat.le_of_ble_eq_true rfl) (Nat.le_of_ble_eq_true rfl) dX6_lose_44
      · -- 10 f
        have fc_2 : e9 < en := nf_nle (by omega) (by omega) c_2
        refine lv_aload_n hx hb dX6_lose_13 rfl (lv_at hl 1 rfl) ?_
        refine lv_aload_n hx hb dX6_lose_14 rfl (lv_at hl 2 rfl) ?_
        refine lv_iload_n hx hb dX6_lose_15 rfl (lv_at hl 3 rfl) ?_
        refine lv_iload_n hx hb dX6_lose_16 rfl (lv_at hl 0 rfl) ?_
        refine xi (wr := []) (xV (As := [.ref hv, .int x, .int (nI e9)]) (rest := []) C (c_X6_isOpenOf l D cs hpo hr hg hgr en gs g1r g2r gan gpr gde gme hv av ch po f9 gsf x e9 hgs (by omega)) kX6_114 hP hD [0, 1, 2, 3, 4] rfl (by decide) 0 rfl rfl rfl ⟨Nat.le_of_ble_eq_true rfl, Nat.le_of_ble_eq_true rfl⟩ rfl hl.1 rfl (Nat.le_of_ble_eq_true rfl) dX6_lose_17 ⟨Nat.le_of_ble_eq_true rfl, Nat.le_of_ble_eq_true rfl⟩) hP hD hS hA [0, 1, 2, 3, 4] [] rfl rfl (by decide) (by decide) ?_
        clear hP hD hS
        try clear locs
        try clear H
        intro r_3 u_4 H locs hw_r_3 hP hD hS
        have hw_r_3 : (r_3 = nI 0 ∨ r_3 = nI 1) := hw_r_3
        refine W.widen (k := 0) (n := 0) (Nat.le_of_ble_eq_true rfl) (Nat.le_of_ble_eq_true rfl) ?_
        replace hP : va_P D vwCl [(hpo, .inr (6, [.ref hr, .ref hg, .ref hgr])), (hgr, .inr (3, [.int (nI en), .ref gs, .ref g1r, .ref g2r, .ref gan, .ref gpr, .ref gde, .ref gme])), (hv, .inr (10, [.int ch, .int po, .ref av])), (av, .inl (cs 0, 32, .inl f9)), (gs, .inl (cs 0, 16, .inl gsf))] H := hP
        replace hD : va_D A [(hpo, .inr (6, [.ref hr, .ref hg, .ref hgr])), (hgr, .inr (3, [.int (nI en), .ref gs, .ref g1r, .ref g2r, .ref gan, .ref gpr, .ref gde, .ref gme])), (hv, .inr (10, [.int ch, .int po, .ref av])), (av, .inl (cs 0, 32, .inl f9)), (gs, .inl (cs 0, 16, .inl gsf))] := hD
        refine lv_if_eq (tgt := 38) hx hb dX6_lose_20 (by decide) (fun c_5 => ?_) (fun c_5 => ?_)
        · -- 20 t
          refine lv_iinc (v := nI (e9 + 1)) (lv' := [(3, .int (nI (e9 + 1))), (0, .ref hpo), (1, .ref hv), (2, .int x)]) hx hb dX6_lose_38 hl (k := 0) rfl (nI_add e9 1) (by decide) rfl ?_
          clear hl
          try clear ls
          intro ls hl
          refine lv_goto (tgt := 2) hx hb dX6_lose_41 (by decide) ?_
          exact ih_loop_1 (e9 + 1) f9 (by omega) hpr9 (by omega) H locs ls hP hD hS (lv_sub hl [0, 1, 2, 3] rfl)
        · -- 20 f
          refine lv_aload_n hx hb dX6_lose_23 rfl (lv_at hl 2 rfl) ?_
          refine lv_aload_n hx hb dX6_lose_24 rfl (lv_at hl 1 rfl) ?_
          refine xget C hP 0 rfl rfl zuX6 2 (by decide) zw2_25 rfl dX6_lose_25 ?_
          refine xget C hP 1 rfl rfl zuX3 1 (by decide) zw1_199 rfl dX6_lose_28 ?_
          refine lv_iload_n hx hb dX6_lose_31 rfl (lv_at hl 0 rfl) ?_
          refine xiald C hP 4 rfl e9 rfl (by omega) (by decide) dX6_lose_32 ?_
          obtain ⟨t_6, h_t_6, e_t_6⟩ := hgs e9 (by omega)
          refine lv_topi (nm_r (e' := nI t_6) e_t_6 ?_)
          refine lv_iconst (v := nI 2) hx hb dX6_lose_33 (by decide) ?_
          refine lv_iconst (v := nI 0) hx hb dX6_lose_34 (by decide) ?_
          refine xv (wr := [(hpo, .inr (6, [.ref hr, .ref hg, .ref hgr])), (hgr, .inr (3, [.int (nI en), .ref gs, .ref g1r, .ref g2r, .ref gan, .ref gpr, .ref gde, .ref gme])), (gs, .inl (cs 0, 16, .inl gsf))]) (xV (As := [.int (nI t_6), .int (nI 2), .int (nI 0)]) (rest := []) C (c_X10_put l D cs hv av ch po f9 t_6 2 (nI 0) (by omega) (by decide)) kX6_118 hP hD [2, 3] rfl (by decide) 0 rfl rfl rfl ⟨Nat.le_of_ble_eq_true rfl, Nat.le_of_ble_eq_true rfl⟩ rfl hl.1 rfl (Nat.le_of_ble_eq_true rfl) dX6_lose_35 ⟨Nat.le_of_ble_eq_true rfl, Nat.le_of_ble_eq_true rfl⟩) hP hD hS hA [2, 3] [0, 1, 4] rfl rfl (by decide) (by decide) ?_
          clear hP hD hS
          try clear locs
          try clear H
          intro u_8 H locs hw_r_7 hP hD hS
          refine W.widen (k := 0) (n := 0) (Nat.le_of_ble_eq_true rfl) (Nat.le_of_ble_eq_true rfl) ?_
          replace hP : va_P D vwCl [(hpo, .inr (6, [.ref hr, .ref hg, .ref hgr])), (hgr, .inr (3, [.int (nI en), .ref gs, .ref g1r, .ref g2r, .ref gan, .ref gpr, .ref gde, .ref gme])), (gs, .inl (cs 0, 16, .inl gsf)), (hv, .inr (10, [.int ch, .int po, .ref av])), (av, .inl (cs 0, 32, .inl (upd f9 (t_6 * 4 + 2) (nI 0))))] H := hP
          replace hD : va_D A [(hpo, .inr (6, [.ref hr, .ref hg, .ref hgr])), (hgr, .inr (3, [.int (nI en), .ref gs, .ref g1r, .ref g2r, .ref gan, .ref gpr, .ref gde, .ref gme])), (gs, .inl (cs 0, 16, .inl gsf)), (hv, .inr (10, [.int ch, .int po, .ref av])), (av, .inl (cs 0, 32, .inl (upd f9 (t_6 * 4 + 2) (nI 0))))] := hD
          refine lv_iinc (v := nI (e9 + 1)) (lv' := [(3, .int (nI (e9 + 1))), (0, .ref hpo), (1, .ref hv), (2, .int x)]) hx hb dX6_lose_38 hl (k := 0) rfl (nI_add e9 1) (by decide) rfl ?_
          clear hl
          try clear ls
          intro ls hl
          refine lv_goto (tgt := 2) hx hb dX6_lose_41 (by decide) ?_
          exact ih_loop_1 (e9 + 1) (upd f9 (t_6 * 4 + 2) (nI 0)) (by omega) (prP_o hpr9 _ _ _ (by decide)) (by omega) H locs ls (xP_map hP [0, 1, 3, 4, 2] rfl) (hD.sub [0, 1, 3, 4, 2] (by decide) rfl) hS (lv_sub hl [0, 1, 2, 3] rfl)
  exact loop_1 _ 0 f (by omega) hpr (Nat.lt_succ_self _) H locs ls hP hD hS (lv_sub hl [0, 1, 2, 3] rfl)

set_option maxHeartbeats 4000000 in
set_option maxRecDepth 100000 in
theorem c_X6_gainOne (l : Launch) (D : va_G) (cs : Nat → ClassId) (hpo : Nat) (hr hg : Nat) (hgr en gs g1r g2r gan gpr gde gme : Nat) (hv av : Nat) (ch po : Int32) (f : Nat → Int32) (gpf : Nat → Int32) (t9 e0 : Nat) (hpr : prP f) (ht9 : t9 < 8) (he : e0 < 16) : xMet l D cs yX6_gainOne cX6_gainOne 5 none ({ frames := 2, cells := 0, slots := 0, locals := 42 } : Room) [.ref hpo, .ref hv, .int (nI t9), .int (nI e0)] [(hpo, .inr (6, [.ref hr, .ref hg, .ref hgr])), (hgr, .inr (3, [.int (nI en), .ref gs, .ref g1r, .ref g2r, .ref gan, .ref gpr, .ref gde, .ref gme])), (hv, .inr (10, [.int ch, .int po, .ref av])), (av, .inl (cs 0, 32, .inl f)), (gpr, .inl (cs 0, 16, .inl gpf))] (xQv D (fun (fz : (Nat → Int32)) => prP fz) (fun (fz : (Nat → Int32)) => [(hpo, .inr (6, [.ref hr, .ref hg, .ref hgr])), (hgr, .inr (3, [.int (nI en), .ref gs, .ref g1r, .ref g2r, .ref gan, .ref gpr, .ref gde, .ref gme])), (hv, .inr (10, [.int ch, .int po, .ref av])), (av, .inl (cs 0, 32, .inl fz)), (gpr, .inl (cs 0, 16, .inl gpf))])) := by
  refine xMet.intro (by decide) (Nat.le_of_ble_eq_true rfl) ?_
  intro p e s m args below meth c A ls C hP hD hS hl
  have hx := C.1
  have hb := C.2.1
  have hz := C.2.2.2.2.1
  have hown := C.2.2.2.1
  have hA := C.2.2.2.2.2.2.2.2.2
  have hAO := C.2.2.2.2.2.2.2.2.1.2.2
  replace hl : lv_has ls 5 [(0, .ref hpo), (1, .ref hv), (2, .int (nI t9)), (3, .int (nI e0))] := hl
  obtain ⟨H, hH⟩ : ∃ H, H = s.heap := ⟨_, rfl⟩
  replace hP : va_P D vwCl [(hpo, .inr (6, [.ref hr, .ref hg, .ref hgr])), (hgr, .inr (3, [.int (nI en), .ref gs, .ref g1r, .ref g2r, .ref gan, .ref gpr, .ref gde, .ref gme])), (hv, .inr (10, [.int ch, .int po, .ref av])), (av, .inl (cs 0, 32, .inl f)), (gpr, .inl (cs 0, 16, .inl gpf))] H := by rw [hH]; exact hP
  replace hS : va_S A s.heap H [] := by rw [hH]; exact hS
  obtain ⟨locs, hlocs⟩ : ∃ z : List Loc, z = [] := ⟨_, rfl⟩
  rw [← hlocs] at hS
  suffices hW : W p l e ({ frames := 2, cells := 0, slots := 0, locals := 42 } : Room) s m args below meth c H locs 0 0 (MQ below ((xQv D (fun (fz : (Nat → Int32)) => prP fz) (fun (fz : (Nat → Int32)) => [(hpo, .inr (6, [.ref hr, .ref hg, .ref hgr])), (hgr, .inr (3, [.int (nI en), .ref gs, .ref g1r, .ref g2r, .ref gan, .ref gpr, .ref gde, .ref gme])), (hv, .inr (10, [.int ch, .int po, .ref av])), (av, .inl (cs 0, 32, .inl fz)), (gpr, .inl (cs 0, 16, .inl gpf))])) A) args s 0 0 A) (F0 m 0 ls []) by rw [hlocs, hH] at hW; exact hW
  clear hH hlocs
  refine lv_aload_n hx hb dX6_gainOne_0 rfl (lv_at hl 1 rfl) ?_
  refine lv_iload_n hx hb dX6_gainOne_1 rfl (lv_at hl 2 rfl) ?_
  refine lv_iconst (v := nI 0) hx hb dX6_gainOne_2 (by decide) ?_
  refine xi (wr := [(hpo, .inr (6, [.ref hr, .ref hg, .ref hgr])), (hgr, .inr (3, [.int (nI en), .ref gs, .ref g1r, .ref g2r, .ref gan, .ref gpr, .ref gde, .ref gme])), (gpr, .inl (cs 0, 16, .inl gpf))]) (xV (As := [.int (nI t9), .int (nI 0)]) (rest := []) C (c_X10_get l D cs hv av ch po f t9 0 (by omega) (by decide)) kX6_68 hP hD [2, 3] rfl (by decide) 0 rfl rfl rfl ⟨Nat.le_of_ble_eq_true rfl, Nat.le_of_ble_eq_true rfl⟩ rfl hl.1 rfl (Nat.le_of_ble_eq_true rfl) dX6_gainOne_3 ⟨Nat.le_of_ble_eq_true rfl, Nat.le_of_ble_eq_true rfl⟩) hP hD hS hA [2, 3] [0, 1, 4] rfl rfl (by decide) (by decide) ?_
  clear hP hD hS
  try clear locs
  try clear H
  intro r_1 u_2 H locs hw_r_1 hP hD hS
  have hw_r_1 : r_1 = f (t9 * 4 + 0) := hw_r_1
  refine W.widen (k := 0) (n := 0) (Nat.le_of_ble_eq_true rfl) (Nat.le_of_ble_eq_true rfl) ?_
  replace hP : va_P D vwCl [(hpo, .inr (6, [.ref hr, .ref hg, .ref hgr])), (hgr, .inr (3, [.int (nI en), .ref gs, .ref g1r, .ref g2r, .ref gan, .ref gpr, .ref gde, .ref gme])), (gpr, .inl (cs 0, 16, .inl gpf)), (hv, .inr (10, [.int ch, .int po, .ref av])), (av, .inl (cs 0, 32, .inl f))] H := hP
  replace hD : va_D A [(hpo, .inr (6, [.ref hr, .ref hg, .ref hgr])), (hgr, .inr (3, [.int (nI en), .ref gs, .ref g1r, .ref g2r, .ref gan, .ref gpr, .ref gde, .ref gme])), (gpr, .inl (cs 0, 16, .inl gpf)), (hv, .inr (10, [.int ch, .int po, .ref av])), (av, .inl (cs 0, 32, .inl f))] := hD
  have hq_pr := hpr t9 ht9
  rw [← hw_r_1] at hq_pr
  refine lv_istore (lv' := [(4, .int r_1), (0, .ref hpo), (1, .ref hv), (2, .int (nI t9)), (3, .int (nI e0))]) hx hb dX6_gainOne_6 hl (by decide) rfl ?_
  clear hl
  try clear ls
  intro ls hl
  refine lv_iload hx hb dX6_gainOne_8 (lv_at hl 0 rfl) ?_
  refine lv_iconst (v := (-1)) hx hb dX6_gainOne_10 (by decide) ?_
  refine lv_icmp_eq (tgt := 30) hx hb dX6_gainOne_11 (by decide) (fun c_3 => ?_) (fun c_3 => ?_)
  · -- 11 t
    refine lv_aload_n hx hb dX6_gainOne_30 rfl (lv_at hl 2 rfl) ?_
    refine lv_iload_n hx hb dX6_gainOne_31 rfl (lv_at hl 3 rfl) ?_
    refine lv_iconst (v := nI 0) hx hb dX6_gainOne_32 (by decide) ?_
    refine lv_iload_n hx hb dX6_gainOne_33 rfl (lv_at hl 4 rfl) ?_
    refine xv (wr := [(hpo, .inr (6, [.ref hr, .ref hg, .ref hgr])), (hgr, .inr (3, [.int (nI en), .ref gs, .ref g1r, .ref g2r, .ref gan, .ref gpr, .ref gde, .ref gme])), (gpr, .inl (cs 0, 16, .inl gpf))]) (xV (As := [.int (nI t9), .int (nI 0), .int (nI e0)]) (rest := []) C (c_X10_put l D cs hv av ch po f t9 0 (nI e0) (by omega) (by decide)) kX6_118 hP hD [3, 4] rfl (by decide) 0 rfl rfl rfl ⟨Nat.le_of_ble_eq_true rfl, Nat.le_of_ble_eq_true rfl⟩ rfl hl.1 rfl (Nat.le_of_ble_eq_true rfl) dX6_gainOne_34 ⟨Nat.le_of_ble_eq_true rfl, Nat.le_of_ble_eq_true rfl⟩) hP hD hS hA [3, 4] [0, 1, 2] rfl rfl (by decide) (by decide) ?_
    clear hP hD hS
    try clear locs
    try clear H
    intro u_5 H locs hw_r_4 hP hD hS
    refine W.widen (k := 0) (n := 0) (Nat.le_of_ble_eq_true rfl) (Nat.le_of_ble_eq_true rfl) ?_
    replace hP : va_P D vwCl [(hpo, .inr (6, [.ref hr, .ref hg, .ref hgr])), (hgr, .inr (3, [.int (nI en), .ref gs, .ref g1r, .ref g2r, .ref gan, .ref gpr, .ref gde, .ref gme])), (gpr, .inl (cs 0, 16, .inl gpf)), (hv, .inr (10, [.int ch, .int po, .ref av])), (av, .inl (cs 0, 32, .inl (upd f (t9 * 4 + 0) (nI e0))))] H := hP
    replace hD : va_D A [(hpo, .inr (6, [.ref hr, .ref hg, .ref hgr])), (hgr, .inr (3, [.int (nI en), .ref gs, .ref g1r, .ref g2r, .ref gan, .ref gpr, .ref gde, .ref gme])), (gpr, .inl (cs 0, 16, .inl gpf)), (hv, .inr (10, [.int ch, .int po, .ref av])), (av, .inl (cs 0, 32, .inl (upd f (t9 * 4 + 0) (nI e0))))] := hD
    refine lv_aload_n hx hb dX6_gainOne_37 rfl (lv_at hl 2 rfl) ?_
    refine lv_iload_n hx hb dX6_gainOne_38 rfl (lv_at hl 3 rfl) ?_
    refine lv_iconst (v := nI 1) hx hb dX6_gainOne_39 (by decide) ?_
    refine xi (wr := [(hpo, .inr (6, [.ref hr, .ref hg, .ref hgr])), (hgr, .inr (3, [.int (nI en), .ref gs, .ref g1r, .ref g2r, .ref gan, .ref gpr, .ref gde, .ref gme])), (gpr, .inl (cs 0, 16, .inl gpf))]) (xV (As := [.int (nI t9), .int (nI 1)]) (rest := []) C (c_X10_get l D cs hv av ch po (upd f (t9 * 4 + 0) (nI e0)) t9 1 (by omega) (by decide)) kX6_68 hP hD [3, 4] rfl (by decide) 0 rfl rfl rfl ⟨Nat.le_of_ble_eq_true rfl, Nat.le_of_ble_eq_true rfl⟩ rfl hl.1 rfl (Nat.le_of_ble_eq_true rfl) dX6_gainOne_40 ⟨Nat.le_of_ble_eq_true rfl, Nat.le_of_ble_eq_true rfl⟩) hP hD hS hA [3, 4] [0, 1, 2] rfl rfl (by decide) (by decide) ?_
    clear hP hD hS
    try clear locs
    try clear H
    intro r_6 u_7 H locs hw_r_6 hP hD hS
    have hw_r_6 : r_6 = (upd f (t9 * 4 + 0) (nI e0)) (t9 * 4 + 1) := hw_r_6
    refine W.widen (k := 0) (n := 0) (Nat.le_of_ble_eq_true rfl) (Nat.le_of_ble_eq_true rfl) ?_
    replace hP : va_P D vwCl [(hpo, .inr (6, [.ref hr, .ref hg, .ref hgr])), (hgr, .inr (3, [.int (nI en), .ref gs, .ref g1r, .ref g2r, .ref gan, .ref gpr, .ref gde, .ref gme])), (gpr, .inl (cs 0, 16, .inl gpf)), (hv, .inr (10, [.int ch, .int po, .ref av])), (av, .inl (cs 0, 32, .inl (upd f (t9 * 4 + 0) (nI e0))))] H := hP
    replace hD : va_D A [(hpo, .inr (6, [.ref hr, .ref hg, .ref hgr])), (hgr, .inr (3, [.int (nI en), .ref gs, .ref g1r, .ref g2r, .ref gan, .ref gpr, .ref gde, .ref gme])), (gpr, .inl (cs 0, 16, .inl gpf)), (hv, .inr (10, [.int ch, .int po, .ref av])), (av, .inl (cs 0, 32, .inl (upd f (t9 * 4 + 0) (nI e0))))] := hD
    refine lv_iload_n hx hb dX6_gainOne_43 rfl (lv_at hl 4 rfl) ?_
    refine lv_icmp_ne (tgt := 64) hx hb dX6_gainOne_44 (by decide) (fun c_8 => ?_) (fun c_8 => ?_)
    · -- 44 t
      refine lv_aload_n hx hb dX6_gainOne_64 rfl (lv_at hl 2 rfl) ?_
      refine lv_iload_n hx hb dX6_gainOne_65 rfl (lv_at hl 3 rfl) ?_
      refine lv_iconst (v := nI 1) hx hb dX6_gainOne_66 (by decide) ?_
      refine lv_iload_n hx hb dX6_gainOne_67 rfl (lv_at hl 4 rfl) ?_
      refine xv (wr := [(hpo, .inr (6, [.ref hr, .ref hg, .ref hgr])), (hgr, .inr (3, [.int (nI en), .ref gs, .ref g1r, .ref g2r, .ref gan, .ref gpr, .ref gde, .ref gme])), (gpr, .inl (cs 0, 16, .inl gpf))]) (xV (As := [.int (nI t9), .int (nI 1), .int (nI e0)]) (rest := []) C (c_X10_put l D cs hv av ch po (upd f (t9 * 4 + 0) (nI e0)) t9 1 (nI e0) (by omega) (by decide)) kX6_118 hP hD [3, 4] rfl (by decide) 0 rfl rfl rfl ⟨Nat.le_of_ble_eq_true rfl, Nat.le_of_ble_eq_true rfl⟩ rfl hl.1 rfl (Nat.le_of_ble_eq_true rfl) dX6_gainOne_68 ⟨Nat.le_of_ble_eq_true rfl, Nat.le_of_ble_eq_true rfl⟩) hP hD hS hA [3, 4] [0, 1, 2] rfl rfl (by decide) (by decide) ?_
      clear hP hD hS
      try clear locs
      try clear H
      intro u_10 H locs hw_r_9 hP hD hS
      refine W.widen (k := 0) (n := 0) (Nat.le_of_ble_eq_true rfl) (Nat.le_of_ble_eq_true rfl) ?_
      replace hP : va_P D vwCl [(hpo, .inr (6, [.ref hr, .ref hg, .ref hgr])), (hgr, .inr (3, [.int (nI en), .ref gs, .ref g1r, .ref g2r, .ref gan, .ref gpr, .ref gde, .ref gme])), (gpr, .inl (cs 0, 16, .inl gpf)), (hv, .inr (10, [.int ch, .int po, .ref av])), (av, .inl (cs 0, 32, .inl (upd (upd f (t9 * 4 + 0) (nI e0)) (t9 * 4 + 1) (nI e0))))] H := hP
      replace hD : va_D A [(hpo, .inr (6, [.ref hr, .ref hg, .ref hgr])), (hgr, .inr (3, [.int (nI en), .ref gs, .ref g1r, .ref g2r, .ref gan, .ref gpr, .ref gde, .ref gme])), (gpr, .inl (cs 0, 16, .inl gpf)), (hv, .inr (10, [.int ch, .int po, .ref av])), (av, .inl (cs 0, 32, .inl (upd (upd f (t9 * 4 + 0) (nI e0)) (t9 * 4 + 1) (nI e0))))] := hD
      refine lv_aload_n hx hb dX6_gainOne_71 rfl (lv_at hl 2 rfl) ?_
      refine lv_iload_n hx hb dX6_gainOne_72 rfl (lv_at hl 3 rfl) ?_
      refine lv_iconst (v := nI 2) hx hb dX6_gainOne_73 (by decide) ?_
      refine lv_iconst (v := nI 1) hx hb dX6_gainOne_74 (by decide) ?_
      refine xv (wr := [(hpo, .inr (6, [.ref hr, .ref hg, .ref hgr])), (hgr, .inr (3, [.int (nI en), .ref gs, .ref g1r, .ref g2r, .ref gan, .ref gpr, .ref gde, .ref gme])), (gpr, .inl (cs 0, 16, .inl gpf))]) (xV (As := [.int (nI t9), .int (nI 2), .int (nI 1)]) (rest := []) C (c_X10_put l D cs hv av ch po (upd (upd f (t9 * 4 + 0) (nI e0)) (t9 * 4 + 1) (nI e0)) t9 2 (nI 1) (by omega) (by decide)) kX6_118 hP hD [3, 4] rfl (by decide) 0 rfl rfl rfl ⟨Nat.le_of_ble_eq_true rfl, Nat.le_of_ble_eq_true rfl⟩ rfl hl.1 rfl (Nat.le_of_ble_eq_true rfl) dX6_gainOne_75 ⟨Nat.le_of_ble_eq_true rfl, Nat.le_of_ble_eq_true rfl⟩) hP hD hS hA [3, 4] [0, 1, 2] rfl rfl (by decide) (by decide) ?_
      clear hP hD hS
      try clear locs
      try clear H
      intro u_12 H locs hw_r_11 hP hD hS
      refine W.widen (k := 0) (n := 0) (Nat.le_of_ble_eq_true rfl) (Nat.le_of_ble_eq_true rfl) ?_
      replace hP : va_P D vwCl [(hpo, .inr (6, [.ref hr, .ref hg, .ref hgr])), (hgr, .inr (3, [.int (nI en), .ref gs, .ref g1r, .ref g2r, .ref gan, .ref gpr, .ref gde, .ref gme])), (gpr, .inl (cs 0, 16, .inl gpf)), (hv, .inr (10, [.int ch, .int po, .ref av])), (av, .inl (cs 0, 32, .inl (upd (upd (upd f (t9 * 4 + 0) (nI e0)) (t9 * 4 + 1) (nI e0)) (t9 * 4 + 2) (nI 1))))] H := hP
      replace hD : va_D A [(hpo, .inr (6, [.ref hr, .ref hg, .ref hgr])), (hgr, .inr (3, [.int (nI en), .ref gs, .ref g1r, .ref g2r, .ref gan, .ref gpr, .ref gde, .ref gme])), (gpr, .inl (cs 0, 16, .inl gpf)), (hv, .inr (10, [.int ch, .int po, .ref av])), (av, .inl (cs 0, 32, .inl (upd (upd (upd f (t9 * 4 + 0) (nI e0)) (t9 * 4 + 1) (nI e0)) (t9 * 4 + 2) (nI 1))))] := hD
      exact xretv C (upd (upd (upd f (t9 * 4 + 0) (nI e0)) (t9 * 4 + 1) (nI e0)) (t9 * 4 + 2) (nI 1)) (prP_o (prP_o (prP_p hpr _ _ he) _ _ _ (by decide)) _ _ _ (by decide)) (xP_map hP [0, 1, 3, 4, 2] rfl) (hD.sub [0, 1, 3, 4, 2] (by decide) rfl) hS (Nat.le_of_ble_eq_true rfl) (Nat.le_of_ble_eq_true rfl) dX6_gainOne_78
    · -- 44 f
      refine lv_aload_n hx hb dX6_gainOne_47 rfl (lv_at hl 2 rfl) ?_
      refine lv_iload_n hx hb dX6_gainOne_48 rfl (lv_at hl 3 rfl) ?_
      refine lv_iconst (v := nI 2) hx hb dX6_gainOne_49 (by decide) ?_
      refine lv_aload_n hx hb dX6_gainOne_50 rfl (lv_at hl 2 rfl) ?_
      refine lv_iload_n hx hb dX6_gainOne_51 rfl (lv_at hl 3 rfl) ?_
      refine lv_iconst (v := nI 2) hx hb dX6_gainOne_52 (by decide) ?_
      refine xi (wr := [(hpo, .inr (6, [.ref hr, .ref hg, .ref hgr])), (hgr, .inr (3, [.int (nI en), .ref gs, .ref g1r, .ref g2r, .ref gan, .ref gpr, .ref gde, .ref gme])), (gpr, .inl (cs 0, 16, .inl gpf))]) (xV (As := [.int (nI t9), .int (nI 2)]) (rest := [.int (nI 2), .int (nI t9), .ref hv]) C (c_X10_get l D cs hv av ch po (upd f (t9 * 4 + 0) (nI e0)) t9 2 (by omega) (by decide)) kX6_68 hP hD [3, 4] rfl (by decide) 0 rfl rfl rfl ⟨Nat.le_of_ble_eq_true rfl, Nat.le_of_ble_eq_true rfl⟩ rfl hl.1 rfl (Nat.le_of_ble_eq_true rfl) dX6_gainOne_53 ⟨Nat.le_of_ble_eq_true rfl, Nat.le_of_ble_eq_true rfl⟩) hP hD hS hA [3, 4] [0, 1, 2] rfl rfl (by decide) (by decide) ?_
      clear hP hD hS
      try clear locs
      try clear H
      intro r_13 u_14 H locs hw_r_13 hP hD hS
      have hw_r_13 : r_13 = (upd f (t9 * 4 + 0) (nI e0)) (t9 * 4 + 2) := hw_r_13
      refine W.widen (k := 0) (n := 0) (Nat.le_of_ble_eq_true rfl) (Nat.le_of_ble_eq_true rfl) ?_
      replace hP : va_P D vwCl [(hpo, .inr (6, [.ref hr, .ref hg, .ref hgr])), (hgr, .inr (3, [.int (nI en), .ref gs, .ref g1r, .ref g2r, .ref gan, .ref gpr, .ref gde, .ref gme])), (gpr, .inl (cs 0, 16, .inl gpf)), (hv, .inr (10, [.int ch, .int po, .ref av])), (av, .inl (cs 0, 32, .inl (upd f (t9 * 4 + 0) (nI e0))))] H := hP
      replace hD : va_D A [(hpo, .inr (6, [.ref hr, .ref hg, .ref hgr])), (hgr, .inr (3, [.int (nI en), .ref gs, .ref g1r, .ref g2r, .ref gan, .ref gpr, .ref gde, .ref gme])), (gpr, .inl (cs 0, 16, .inl gpf)), (hv, .inr (10, [.int ch, .int po, .ref av])), (av, .inl (cs 0, 32, .inl (upd f (t9 * 4 + 0) (nI e0))))] := hD
      refine lv_iconst (v := nI 1) hx hb dX6_gainOne_56 (by decide) ?_
      refine lv_iadd hx hb dX6_gainOne_57 ?_
      refine xv (wr := [(hpo, .inr (6, [.ref hr, .ref hg, .ref hgr])), (hgr, .inr (3, [.int (nI en), .ref gs, .ref g1r, .ref g2r, .ref gan, .ref gpr, .ref gde, .ref gme])), (gpr, .inl (cs 0, 16, .inl gpf))]) (xV (As := [.int (nI t9), .int (nI 2), .int (r_13 + (nI 1))]) (rest := []) C (c_X10_put l D cs hv av ch po (upd f (t9 * 4 + 0) (nI e0)) t9 2 (r_13 + (nI 1)) (by omega) (by decide)) kX6_118 hP hD [3, 4] rfl (by decide) 0 rfl rfl rfl ⟨Nat.le_of_ble_eq_true rfl, Nat.le_of_ble_eq_true rfl⟩ rfl hl.1 rfl (Nat.le_of_ble_eq_true rfl) dX6_gainOne_58 ⟨Nat.le_of_ble_eq_true rfl, Nat.le_of_ble_eq_true rfl⟩) hP hD hS hA [3, 4] [0, 1, 2] rfl rfl (by decide) (by decide) ?_
      clear hP hD hS
      try clear locs
      try clear H
      intro u_16 H locs hw_r_15 hP hD hS
      refine W.widen (k := 0) (n := 0) (Nat.le_of_ble_eq_true rfl) (Nat.le_of_ble_eq_true rfl) ?_
      replace hP : va_P D vwCl [(hpo, .inr (6, [.ref hr, .ref hg, .ref hgr])), (hgr, .inr (3, [.int (nI en), .ref gs, .ref g1r, .ref g2r, .ref gan, .ref gpr, .ref gde, .ref gme])), (gpr, .inl (cs 0, 16, .inl gpf)), (hv, .inr (10, [.int ch, .int po, .ref av])), (av, .inl (cs 0, 32, .inl (upd (upd f (t9 * 4 + 0) (nI e0)) (t9 * 4 + 2) (r_13 + (nI 1)))))] H := hP
      replace hD : va_D A [(hpo, .inr (6, [.ref hr, .ref hg, .ref hgr])), (hgr, .inr (3, [.int (nI en), .ref gs, .ref g1r, .ref g2r, .ref gan, .ref gpr, .ref gde, .ref gme])), (gpr, .inl (cs 0, 16, .inl gpf)), (hv, .inr (10, [.int ch, .int po, .ref av])), (av, .inl (cs 0, 32, .inl (upd (upd f (t9 * 4 + 0) (nI e0)) (t9 * 4 + 2) (r_13 + (nI 1)))))] := hD
      refine lv_goto (tgt := 78) hx hb dX6_gainOne_61 (by decide) ?_
      exact xretv C (upd (upd f (t9 * 4 + 0) (nI e0)) (t9 * 4 + 2) (r_13 + (nI 1))) (prP_o (prP_p hpr _ _ he) _ _ _ (by decide)) (xP_map hP [0, 1, 3, 4, 2] rfl) (hD.sub [0, 1, 3, 4, 2] (by decide) rfl) hS (Nat.le_of_ble_eq_true rfl) (Nat.le_of_ble_eq_true rfl) dX6_gainOne_78
  · -- 11 f
    obtain ⟨e8, he8, rfl⟩ := hq_pr.resolve_left c_3
    replace hP : va_P D vwCl [(hpo, .inr (6, [.ref hr, .ref hg, .ref hgr])), (hgr, .inr (3, [.int (nI en), .ref gs, .ref g1r, .ref g2r, .ref gan, .ref gpr, .ref gde, .ref gme])), (gpr, .inl (cs 0, 16, .inl gpf)), (hv, .inr (10, [.int ch, .int po, .ref av])), (av, .inl (cs 0, 32, .inl f))] H := hP
    replace hD : va_D A [(hpo, .inr (6, [.ref hr, .ref hg, .ref hgr])), (hgr, .inr (3, [.int (nI en), .ref gs, .ref g1r, .ref g2r, .ref gan, .ref gpr, .ref gde, .ref gme])), (gpr, .inl (cs 0, 16, .inl gpf)), (hv, .inr (10, [.int ch, .int po, .ref av])), (av, .inl (cs 0, 32, .inl f))] := hD
    refine lv_aload_n hx hb dX6_gainOne_14 rfl (lv_at hl 1 rfl) ?_
    refine lv_aload_n hx hb dX6_gainOne_15 rfl (lv_at hl 2 rfl) ?_
    refine lv_iload_n hx hb dX6_gainOne_16 rfl (lv_at hl 4 rfl) ?_
    refine xi (wr := []) (xV (As := [.ref hv, .int (nI e0)]) (rest := []) C (c_X6_confidence l D cs hpo hr hg hgr en gs g1r g2r gan gpr gde gme hv av ch po f gpf e0 he) kX6_126 hP hD [0, 1, 3, 4, 2] rfl (by decide) 0 rfl rfl rfl ⟨Nat.le_of_ble_eq_true rfl, Nat.le_of_ble_eq_true rfl⟩ rfl hl.1 rfl (Nat.le_of_ble_eq_true rfl) dX6_gainOne_17 ⟨Nat.le_of_ble_eq_true rfl, Nat.le_of_ble_eq_true rfl⟩) hP hD hS hA [0, 1, 3, 4, 2] [] rfl rfl (by decide) (by decide) ?_
    clear hP hD hS
    try clear locs
    try clear H
    intro r_17 u_18 H locs hw_r_17 hP hD hS
    refine W.widen (k := 0) (n := 0) (Nat.le_of_ble_eq_true rfl) (Nat.le_of_ble_eq_true rfl) ?_
    replace hP : va_P D vwCl [(hpo, .inr (6, [.ref hr, .ref hg, .ref hgr])), (hgr, .inr (3, [.int (nI en), .ref gs, .ref g1r, .ref g2r, .ref gan, .ref gpr, .ref gde, .ref gme])), (hv, .inr (10, [.int ch, .int po, .ref av])), (av, .inl (cs 0, 32, .inl f)), (gpr, .inl (cs 0, 16, .inl gpf))] H := hP
    replace hD : va_D A [(hpo, .inr (6, [.ref hr, .ref hg, .ref hgr])), (hgr, .inr (3, [.int (nI en), .ref gs, .ref g1r, .ref g2r, .ref gan, .ref gpr, .ref gde, .ref gme])), (hv, .inr (10, [.int ch, .int po, .ref av])), (av, .inl (cs 0, 32, .inl f)), (gpr, .inl (cs 0, 16, .inl gpf))] := hD
    refine lv_aload_n hx hb dX6_gainOne_20 rfl (lv_at hl 1 rfl) ?_
    refine lv_aload_n hx hb dX6_gainOne_21 rfl (lv_at hl 2 rfl) ?_
    refine lv_iload hx hb dX6_gainOne_22 (lv_at hl 0 rfl) ?_
    refine xi (wr := []) (xV (As := [.ref hv, .int (nI e8)]) (rest := [.int r_17]) C (c_X6_confidence l D cs hpo hr hg hgr en gs g1r g2r gan gpr gde gme hv av ch po f gpf e8 he8) kX6_126 hP hD [0, 1, 2, 3, 4] rfl (by decide) 0 rfl rfl rfl ⟨Nat.le_of_ble_eq_true rfl, Nat.le_of_ble_eq_true rfl⟩ rfl hl.1 rfl (Nat.le_of_ble_eq_true rfl) dX6_gainOne_24 ⟨Nat.le_of_ble_eq_true rfl, Nat.le_of_ble_eq_true rfl⟩) hP hD hS hA [0, 1, 2, 3, 4] [] rfl rfl (by decide) (by decide) ?_
    clear hP hD hS
    try clear locs
    try clear H
    intro r_19 u_20 H locs hw_r_19 hP hD hS
    refine W.widen (k := 0) (n := 0) (Nat.le_of_ble_eq_true rfl) (Nat.le_of_ble_eq_true rfl) ?_
    replace hP : va_P D vwCl [(hpo, .inr (6, [.ref hr, .ref hg, .ref hgr])), (hgr, .inr (3, [.int (nI en), .ref gs, .ref g1r, .ref g2r, .ref gan, .ref gpr, .ref gde, .ref gme])), (hv, .inr (10, [.int ch, .int po, .ref av])), (av, .inl (cs 0, 32, .inl f)), (gpr, .inl (cs 0, 16, .inl gpf))] H := hP
    replace hD : va_D A [(hpo, .inr (6, [.ref hr, .ref hg, .ref hgr])), (hgr, .inr (3, [.int (nI en), .ref gs, .ref g1r, .ref g2r, .ref gan, .ref gpr, .ref gde, .ref gme])), (hv, .inr (10, [.int ch, .int po, .ref av])), (av, .inl (cs 0, 32, .inl f)), (gpr, .inl (cs 0, 16, .inl gpf))] := hD
    refine lv_icmp_le (tgt := 37) hx hb dX6_gainOne_27 (by decide) (fun c_21 => ?_) (fun c_21 => ?_)
    · -- 27 t
      refine lv_aload_n hx hb dX6_gainOne_37 rfl (lv_at hl 2 rfl) ?_
      refine lv_iload_n hx hb dX6_gainOne_38 rfl (lv_at hl 3 rfl) ?_
      refine lv_iconst (v := nI 1) hx hb dX6_gainOne_39 (by decide) ?_
      refine xi (wr := [(hpo, .inr (6, [.ref hr, .ref hg, .ref hgr])), (hgr, .inr (3, [.int (nI en), .ref gs, .ref g1r, .ref g2r, .ref gan, .ref gpr, .ref gde, .ref gme])), (gpr, .inl (cs 0, 16, .inl gpf))]) (xV (As := [.int (nI t9), .int (nI 1)]) (rest := []) C (c_X10_get l D cs hv av ch po f t9 1 (by omega) (by decide)) kX6_68 hP hD [2, 3] rfl (by decide) 0 rfl rfl rfl ⟨Nat.le_of_ble_eq_true rfl, Nat.le_of_ble_eq_true rfl⟩ rfl hl.1 rfl (Nat.le_of_ble_eq_true rfl) dX6_gainOne_40 ⟨Nat.le_of_ble_eq_true rfl, Nat.le_of_ble_eq_true rfl⟩) hP hD hS hA [2, 3] [0, 1, 4] rfl rfl (by decide) (by decide) ?_
      clear hP hD hS
      try clear locs
      try clear H
      intro r_22 u_23 H locs hw_r_22 hP hD hS
      have hw_r_22 : r_22 = f (t9 * 4 + 1) := hw_r_22
      refine W.widen (k := 0) (n := 0) (Nat.le_of_ble_eq_true rfl) (Nat.le_of_ble_eq_true rfl) ?_
      replace hP : va_P D vwCl [(hpo, .inr (6, [.ref hr, .ref hg, .ref hgr])), (hgr, .inr (3, [.int (nI en), .ref gs, .ref g1r, .ref g2r, .ref gan, .ref gpr, .ref gde, .ref gme])), (gpr, .inl (cs 0, 16, .inl gpf)), (hv, .inr (10, [.int ch, .int po, .ref av])), (av, .inl (cs 0, 32, .inl f))] H := hP
      replace hD : va_D A [(hpo, .inr (6, [.ref hr, .ref hg, .ref hgr])), (hgr, .inr (3, [.int (nI en), .ref gs, .ref g1r, .ref g2r, .ref gan, .ref gpr, .ref gde, .ref gme])), (gpr, .inl (cs 0, 16, .inl gpf)), (hv, .inr (10, [.int ch, .int po, .ref av])), (av, .inl (cs 0, 32, .inl f))] := hD
      refine lv_iload_n hx hb dX6_gainOne_43 rfl (lv_at hl 4 rfl) ?_
      refine lv_icmp_ne (tgt := 64) hx hb dX6_gainOne_44 (by decide) (fun c_24 => ?_) (fun c_24 => ?_)
      · -- 44 t
        refine lv_aload_n hx hb dX6_gainOne_64 rfl (lv_at hl 2 rfl) ?_
        refine lv_iload_n hx hb dX6_gainOne_65 rfl (lv_at hl 3 rfl) ?_
        refine lv_iconst (v := nI 1) hx hb dX6_gainOne_66 (by decide) ?_
        refine lv_iload_n hx hb dX6_gainOne_67 rfl (lv_at hl 4 rfl) ?_
        refine xv (wr := [(hpo, .inr (6, [.ref hr, .ref hg, .ref hgr])), (hgr, .inr (3, [.int (nI en), .ref gs, .ref g1r, .ref g2r, .ref gan, .ref gpr, .ref gde, .ref gme])), (gpr, .inl (cs 0, 16, .inl gpf))]) (xV (As := [.int (nI t9), .int (nI 1), .int (nI e0)]) (rest := []) C (c_X10_put l D cs hv av ch po f t9 1 (nI e0) (by omega) (by decide)) kX6_118 hP hD [3, 4] rfl (by decide) 0 rfl rfl rfl ⟨Nat.le_of_ble_eq_true rfl, Nat.le_of_ble_eq_true rfl⟩ rfl hl.1 rfl (Nat.le_of_ble_eq_true rfl) dX6_gainOne_68 ⟨Nat.le_of_ble_eq_true rfl, Nat.le_of_ble_eq_true rfl⟩) hP hD hS hA [3, 4] [0, 1, 2] rfl rfl (by decide) (by decide) ?_
        clear hP hD hS
        try clear locs
        try clear H
        intro u_26 H locs hw_r_25 hP hD hS
        refine W.widen (k := 0) (n := 0) (Nat.le_of_ble_eq_true rfl) (Nat.le_of_ble_eq_true rfl) ?_
        replace hP : va_P D vwCl [(hpo, .inr (6, [.ref hr, .ref hg, .ref hgr])), (hgr, .inr (3, [.int (nI en), .ref gs, .ref g1r, .ref g2r, .ref gan, .ref gpr, .ref gde, .ref gme])), (gpr, .inl (cs 0, 16, .inl gpf)), (hv, .inr (10, [.int ch, .int po, .ref av])), (av, .inl (cs 0, 32, .inl (upd f (t9 * 4 + 1) (nI e0))))] H := hP
        replace hD : va_D A [(hpo, .inr (6, [.ref hr, .ref hg, .ref hgr])), (hgr, .inr (3, [.int (nI en), .ref gs, .ref g1r, .ref g2r, .ref gan, .ref gpr, .ref gde, .ref gme])), (gpr, .inl (cs 0, 16, .inl gpf)), (hv, .inr (10, [.int ch, .int po, .ref av])), (av, .inl (cs 0, 32, .inl (upd f (t9 * 4 + 1) (nI e0))))] := hD
        refine lv_aload_n hx hb dX6_gainOne_71 rfl (lv_at hl 2 rfl) ?_
        refine lv_iload_n hx hb dX6_gainOne_72 rfl (lv_at hl 3 rfl) ?_
        refine lv_iconst (v := nI 2) hx hb dX6_gainOne_73 (by decide) ?_
        refine lv_iconst (v := nI 1) hx hb dX6_gainOne_74 (by decide) ?_
        refine xv (wr := [(hpo, .inr (6, [.ref hr, .ref hg, .ref hgr])), (hgr, .inr (3, [.int (nI en), .ref gs, .ref g1r, .ref g2r, .ref gan, .ref gpr, .ref gde, .ref gme])), (gpr, .inl (cs 0, 16, .inl gpf))]) (xV (As := [.int (nI t9), .int (nI 2), .int (nI 1)]) (rest := []) C (c_X10_put l D cs hv av ch po (upd f (t9 * 4 + 1) (nI e0)) t9 2 (nI 1) (by omega) (by decide)) kX6_118 hP hD [3, 4] rfl (by decide) 0 rfl rfl rfl ⟨Nat.le_of_ble_eq_true rfl, Nat.le_of_ble_eq_true rfl⟩ rfl hl.1 rfl (Nat.le_of_ble_eq_true rfl) dX6_gainOne_75 ⟨Nat.le_of_ble_eq_true rfl, Nat.le_of_ble_eq_true rfl⟩) hP hD hS hA [3, 4] [0, 1, 2] rfl rfl (by decide) (by decide) ?_
        clear hP hD hS
        try clear locs
        try clear H
        intro u_28 H locs hw_r_27 hP hD hS
        refine W.widen (k := 0) (n := 0) (Nat.le_of_ble_eq_true rfl) (Nat.le_of_ble_eq_true rfl) ?_
        replace hP : va_P D vwCl [(hpo, .inr (6, [.ref hr, .ref hg, .ref hgr])), (hgr, .inr (3, [.int (nI en), .ref gs, .ref g1r, .ref g2r, .ref gan, .ref gpr, .ref gde, .ref gme])), (gpr, .inl (cs 0, 16, .inl gpf)), (hv, .inr (10, [.int ch, .int po, .ref av])), (av, .inl (cs 0, 32, .inl (upd (upd f (t9 * 4 + 1) (nI e0)) (t9 * 4 + 2) (nI 1))))] H := hP
        replace hD : va_D A [(hpo, .inr (6, [.ref hr, .ref hg, .ref hgr])), (hgr, .inr (3, [.int (nI en), .ref gs, .ref g1r, .ref g2r, .ref gan, .ref gpr, .ref gde, .ref gme])), (gpr, .inl (cs 0, 16, .inl gpf)), (hv, .inr (10, [.int ch, .int po, .ref av])), (av, .inl (cs 0, 32, .inl (upd (upd f (t9 * 4 + 1) (nI e0)) (t9 * 4 + 2) (nI 1))))] := hD
        exact xretv C (upd (upd f (t9 * 4 + 1) (nI e0)) (t9 * 4 + 2) (nI 1)) (prP_o (prP_o hpr _ _ _ (by decide)) _ _ _ (by decide)) (xP_map hP [0, 1, 3, 4, 2] rfl) (hD.sub [0, 1, 3, 4, 2] (by decide) rfl) hS (Nat.le_of_ble_eq_true rfl) (Nat.le_of_ble_eq_true rfl) dX6_gainOne_78
      · -- 44 f
        refine lv_aload_n hx hb dX6_gainOne_47 rfl (lv_at hl 2 rfl) ?_
        refine lv_iload_n hx hb dX6_gainOne_48 rfl (lv_at hl 3 rfl) ?_
        refine lv_iconst (v := nI 2) hx hb dX6_gainOne_49 (by decide) ?_
        refine lv_aload_n hx hb dX6_gainOne_50 rfl (lv_at hl 2 rfl) ?_
        refine lv_iload_n hx hb dX6_gainOne_51 rfl (lv_at hl 3 rfl) ?_
        refine lv_iconst (v := nI 2) hx hb dX6_gainOne_52 (by decide) ?_
        refine xi (wr := [(hpo, .inr (6, [.ref hr, .ref hg, .ref hgr])), (hgr, .inr (3, [.int (nI en), .ref gs, .ref g1r, .ref g2r, .ref gan, .ref gpr, .ref gde, .ref gme])), (gpr, .inl (cs 0, 16, .inl gpf))]) (xV (As := [.int (nI t9), .int (nI 2)]) (rest := [.int (nI 2), .int (nI t9), .ref hv]) C (c_X10_get l D cs hv av ch po f t9 2 (by omega) (by decide)) kX6_68 hP hD [3, 4] rfl (by decide) 0 rfl rfl rfl ⟨Nat.le_of_ble_eq_true rfl, Nat.le_of_ble_eq_true rfl⟩ rfl hl.1 rfl (Nat.le_of_ble_eq_true rfl) dX6_gainOne_53 ⟨Nat.le_of_ble_eq_true rfl, Nat.le_of_ble_eq_true rfl⟩) hP hD hS hA [3, 4] [0, 1, 2] rfl rfl (by decide) (by decide) ?_
        clear hP hD hS
        try clear locs
        try clear H
        intro r_29 u_30 H locs hw_r_29 hP hD hS
        have hw_r_29 : r_29 = f (t9 * 4 + 2) := hw_r_29
        refine W.widen (k := 0) (n := 0) (Nat.le_of_ble_eq_true rfl) (Nat.le_of_ble_eq_true rfl) ?_
        replace hP : va_P D vwCl [(hpo, .inr (6, [.ref hr, .ref hg, .ref hgr])), (hgr, .inr (3, [.int (nI en), .ref gs, .ref g1r, .ref g2r, .ref gan, .ref gpr, .ref gde, .ref gme])), (gpr, .inl (cs 0, 16, .inl gpf)), (hv, .inr (10, [.int ch, .int po, .ref av])), (av, .inl (cs 0, 32, .inl f))] H := hP
        replace hD : va_D A [(hpo, .inr (6, [.ref hr, .ref hg, .ref hgr])), (hgr, .inr (3, [.int (nI en), .ref gs, .ref g1r, .ref g2r, .ref gan, .ref gpr, .ref gde, .ref gme])), (gpr, .inl (cs 0, 16, .inl gpf)), (hv, .inr (10, [.int ch, .int po, .ref av])), (av, .inl (cs 0, 32, .inl f))] := hD
        refine lv_iconst (v := nI 1) hx hb dX6_gainOne_56 (by decide) ?_
        refine lv_iadd hx hb dX6_gainOne_57 ?_
        refine xv (wr := [(hpo, .inr (6, [.ref hr, .ref hg, .ref hgr])), (hgr, .inr (3, [.int (nI en), .ref gs, .ref g1r, .ref g2r, .ref gan, .ref gpr, .ref gde, .ref gme])), (gpr, .inl (cs 0, 16, .inl gpf))]) (xV (As := [.int (nI t9), .int (nI 2), .int (r_29 + (nI 1))]) (rest := []) C (c_X10_put l D cs hv av ch po f t9 2 (r_29 + (nI 1)) (by omega) (by decide)) kX6_118 hP hD [3, 4] rfl (by decide) 0 rfl rfl rfl ⟨Nat.le_of_ble_eq_true rfl, Nat.le_of_ble_eq_true rfl⟩ rfl hl.1 rfl (Nat.le_of_ble_eq_true rfl) dX6_gainOne_58 ⟨Nat.le_of_ble_eq_true rfl, Nat.le_of_ble_eq_true rfl⟩) hP hD hS hA [3, 4] [0, 1, 2] rfl rfl (by decide) (by decide) ?_
        clear hP hD hS
        try clear locs
        try clear H
        intro u_32 H locs hw_r_31 hP hD hS
        refine W.widen (k := 0) (n := 0) (Nat.le_of_ble_eq_true rfl) (Nat.le_of_ble_eq_true rfl) ?_
        replace hP : va_P D vwCl [(hpo, .inr (6, [.ref hr, .ref hg, .ref hgr])), (hgr, .inr (3, [.int (nI en), .ref gs, .ref g1r, .ref g2r, .ref gan, .ref gpr, .ref gde, .ref gme])), (gpr, .inl (cs 0, 16, .inl gpf)), (hv, .inr (10, [.int ch, .int po, .ref av])), (av, .inl (cs 0, 32, .inl (upd f (t9 * 4 + 2) (r_29 + (nI 1)))))] H := hP
        replace hD : va_D A [(hpo, .inr (6, [.ref hr, .ref hg, .ref hgr])), (hgr, .inr (3, [.int (nI en), .ref gs, .ref g1r, .ref g2r, .ref gan, .ref gpr, .ref gde, .ref gme])), (gpr, .inl (cs 0, 16, .inl gpf)), (hv, .inr (10, [.int ch, .int po, .ref av])), (av, .inl (cs 0, 32, .inl (upd f (t9 * 4 + 2) (r_29 + (nI 1)))))] := hD
        refine lv_goto (tgt := 78) hx hb dX6_gainOne_61 (by decide) ?_
        exact xretv C (upd f (t9 * 4 + 2) (r_29 + (nI 1))) (prP_o hpr _ _ _ (by decide)) (xP_map hP [0, 1, 3, 4, 2] rfl) (hD.sub [0, 1, 3, 4, 2] (by decide) rfl) hS (Nat.le_of_ble_eq_true rfl) (Nat.le_of_ble_eq_true rfl) dX6_gainOne_78
    · -- 27 f
      refine lv_aload_n hx hb dX6_gainOne_30 rfl (lv_at hl 2 rfl) ?_
      refine lv_iload_n hx hb dX6_gainOne_31 rfl (lv_at hl 3 rfl) ?_
      refine lv_iconst (v := nI 0) hx hb dX6_gainOne_32 (by decide) ?_
      refine lv_iload_n hx hb dX6_gainOne_33 rfl (lv_at hl 4 rfl) ?_
      refine xv (wr := [(hpo, .inr (6, [.ref hr, .ref hg, .ref hgr])), (hgr, .inr (3, [.int (nI en), .ref gs, .ref g1r, .ref g2r, .ref gan, .ref gpr, .ref gde, .ref gme])), (gpr, .inl (cs 0, 16, .inl gpf))]) (xV (As := [.int (nI t9), .int (nI 0), .int (nI e0)]) (rest := []) C (c_X10_put l D cs hv av ch po f t9 0 (nI e0) (by omega) (by decide)) kX6_118 hP hD [2, 3] rfl (by decide) 0 rfl rfl rfl ⟨Nat.le_of_ble_eq_true rfl, Nat.le_of_ble_eq_true rfl⟩ rfl hl.1 rfl (Nat.le_of_ble_eq_true rfl) dX6_gainOne_34 ⟨Nat.le_of_ble_eq_true rfl, Nat.le_of_ble_eq_true rfl⟩) hP hD hS hA [2, 3] [0, 1, 4] rfl rfl (by decide) (by decide) ?_
      clear hP hD hS
      try clear locs
      try clear H
      intro u_34 H locs hw_r_33 hP hD hS
      refine W.widen (k := 0) (n := 0) (Nat.le_of_ble_eq_true rfl) (Nat.le_of_ble_eq_true rfl) ?_
      replace hP : va_P D vwCl [(hpo, .inr (6, [.ref hr, .ref hg, .ref hgr])), (hgr, .inr (3, [.int (nI en), .ref gs, .ref g1r, .ref g2r, .ref gan, .ref gpr, .ref gde, .ref gme])), (gpr, .inl (cs 0, 16, .inl gpf)), (hv, .inr (10, [.int ch, .int po, .ref av])), (av, .inl (cs 0, 32, .inl (upd f (t9 * 4 + 0) (nI e0))))] H := hP
      replace hD : va_D A [(hpo, .inr (6, [.ref hr, .ref hg, .ref hgr])), (hgr, .inr (3, [.int (nI en), .ref gs, .ref g1r, .ref g2r, .ref gan, .ref gpr, .ref gde, .ref gme])), (gpr, .inl (cs 0, 16, .inl gpf)), (hv, .inr (10, [.int ch, .int po, .ref av])), (av, .inl (cs 0, 32, .inl (upd f (t9 * 4 + 0) (nI e0))))] := hD
      refine lv_aload_n hx hb dX6_gainOne_37 rfl (lv_at hl 2 rfl) ?_
      refine lv_iload_n hx hb dX6_gainOne_38 rfl (lv_at hl 3 rfl) ?_
      refine lv_iconst (v := nI 1) hx hb dX6_gainOne_39 (by decide) ?_
      refine xi (wr := [(hpo, .inr (6, [.ref hr, .ref hg, .ref hgr])), (hgr, .inr (3, [.int (nI en), .ref gs, .ref g1r, .ref g2r, .ref gan, .ref gpr, .ref gde, .ref gme])), (gpr, .inl (cs 0, 16, .inl gpf))]) (xV (As := [.int (nI t9), .int (nI 1)]) (rest := []) C (c_X10_get l D cs hv av ch po (upd f (t9 * 4 + 0) (nI e0)) t9 1 (by omega) (by decide)) kX6_68 hP hD [3, 4] rfl (by decide) 0 rfl rfl rfl ⟨Nat.le_of_ble_eq_true rfl, Nat.le_of_ble_eq_true rfl⟩ rfl hl.1 rfl (Nat.le_of_ble_eq_true rfl) dX6_gainOne_40 ⟨Nat.le_of_ble_eq_true rfl, Nat.le_of_ble_eq_true rfl⟩) hP hD hS hA [3, 4] [0, 1, 2] rfl rfl (by decide) (by decide) ?_
      clear hP hD hS
      try clear locs
      try clear H
      intro r_35 u_36 H locs hw_r_35 hP hD hS
      have hw_r_35 : r_35 = (upd f (t9 * 4 + 0) (nI e0)) (t9 * 4 + 1) := hw_r_35
      refine W.widen (k := 0) (n := 0) (Nat.le_of_ble_eq_true rfl) (Nat.le_of_ble_eq_true rfl) ?_
      replace hP : va_P D vwCl [(hpo, .inr (6, [.ref hr, .ref hg, .ref hgr])), (hgr, .inr (3, [.int (nI en), .ref gs, .ref g1r, .ref g2r, .ref gan, .ref gpr, .ref gde, .ref gme])), (gpr, .inl (cs 0, 16, .inl gpf)), (hv, .inr (10, [.int ch, .int po, .ref av])), (av, .inl (cs 0, 32, .inl (upd f (t9 * 4 + 0) (nI e0))))] H := hP
      replace hD : va_D A [(hpo, .inr (6, [.ref hr, .ref hg, .ref hgr])), (hgr, .inr (3, [.int (nI en), .ref gs, .ref g1r, .ref g2r, .ref gan, .ref gpr, .ref gde, .ref gme])), (gpr, .inl (cs 0, 16, .inl gpf)), (hv, .inr (10, [.int ch, .int po, .ref av])), (av, .inl (cs 0, 32, .inl (upd f (t9 * 4 + 0) (nI e0))))] := hD
      refine lv_iload_n hx hb dX6_gainOne_43 rfl (lv_at hl 4 rfl) ?_
      refine lv_icmp_ne (tgt := 64) hx hb dX6_gainOne_44 (by decide) (fun c_37 => ?_) (fun c_37 => ?_)
      · -- 44 t
        refine lv_aload_n hx hb dX6_gainOne_64 rfl (lv_at hl 2 rfl) ?_
        refine lv_iload_n hx hb dX6_gainOne_65 rfl (lv_at hl 3 rfl) ?_
        refine lv_iconst (v := nI 1) hx hb dX6_gainOne_66 (by decide) ?_
        refine lv_iload_n hx hb dX6_gainOne_67 rfl (lv_at hl 4 rfl) ?_
        refine xv (wr := [(hpo, .inr (6, [.ref hr, .ref hg, .ref hgr])), (hgr, .inr (3, [.int (nI en), .ref gs, .ref g1r, .ref g2r, .ref gan, .ref gpr, .ref gde, .ref gme])), (gpr, .inl (cs 0, 16, .inl gpf))]) (xV (As := [.int (nI t9), .int (nI 1), .int (nI e0)]) (rest := []) C (c_X10_put l D cs hv av ch po (upd f (t9 * 4 + 0) (nI e0)) t9 1 (nI e0) (by omega) (by decide)) kX6_118 hP hD [3, 4] rfl (by decide) 0 rfl rfl rfl ⟨Nat.le_of_ble_eq_true rfl, Nat.le_of_ble_eq_true rfl⟩ rfl hl.1 rfl (Nat.le_of_ble_eq_true rfl) dX6_gainOne_68 ⟨Nat.le_of_ble_eq_true rfl, Nat.le_of_ble_eq_true rfl⟩) hP hD hS hA [3, 4] [0, 1, 2] rfl rfl (by decide) (by decide) ?_
        clear hP hD hS
        try clear locs
        try clear H
        intro u_39 H locs hw_r_38 hP hD hS
        refine W.widen (k := 0) (n := 0) (Nat.le_of_ble_eq_true rfl) (Nat.le_of_ble_eq_true rfl) ?_
        replace hP : va_P D vwCl [(hpo, .inr (6, [.ref hr, .ref hg, .ref hgr])), (hgr, .inr (3, [.int (nI en), .ref gs, .ref g1r, .ref g2r, .ref gan, .ref gpr, .ref gde, .ref gme])), (gpr, .inl (cs 0, 16, .inl gpf)), (hv, .inr (10, [.int ch, .int po, .ref av])), (av, .inl (cs 0, 32, .inl (upd (upd f (t9 * 4 + 0) (nI e0)) (t9 * 4 + 1) (nI e0))))] H := hP
        replace hD : va_D A [(hpo, .inr (6, [.ref hr, .ref hg, .ref hgr])), (hgr, .inr (3, [.int (nI en), .ref gs, .ref g1r, .ref g2r, .ref gan, .ref gpr, .ref gde, .ref gme])), (gpr, .inl (cs 0, 16, .inl gpf)), (hv, .inr (10, [.int ch, .int po, .ref av])), (av, .inl (cs 0, 32, .inl (upd (upd f (t9 * 4 + 0) (nI e0)) (t9 * 4 + 1) (nI e0))))] := hD
        refine lv_aload_n hx hb dX6_gainOne_71 rfl (lv_at hl 2 rfl) ?_
        refine lv_iload_n hx hb dX6_gainOne_72 rfl (lv_at hl 3 rfl) ?_
        refine lv_iconst (v := nI 2) hx hb dX6_gainOne_73 (by decide) ?_
        refine lv_iconst (v := nI 1) hx hb dX6_gainOne_74 (by decide) ?_
        refine xv (wr := [(hpo, .inr (6, [.ref hr, .ref hg, .ref hgr])), (hgr, .inr (3, [.int (nI en), .ref gs, .ref g1r, .ref g2r, .ref gan, .ref gpr, .ref gde, .ref gme])), (gpr, .inl (cs 0, 16, .inl gpf))]) (xV (As := [.int (nI t9), .int (nI 2), .int (nI 1)]) (rest := []) C (c_X10_put l D cs hv av ch po (upd (upd f (t9 * 4 + 0) (nI e0)) (t9 * 4 + 1) (nI e0)) t9 2 (nI 1) (by omega) (by decide)) kX6_118 hP hD [3, 4] rfl (by decide) 0 rfl rfl rfl ⟨Nat.le_of_ble_eq_true rfl, Nat.le_of_ble_eq_true rfl⟩ rfl hl.1 rfl (Nat.le_of_ble_eq_true rfl) dX6_gainOne_75 ⟨Nat.le_of_ble_eq_true rfl, Nat.le_of_ble_eq_true rfl⟩) hP hD hS hA [3, 4] [0, 1, 2] rfl rfl (by decide) (by decide) ?_
        clear hP hD hS
        try clear locs
        try clear H
        intro u_41 H locs hw_r_40 hP hD hS
        refine W.widen (k := 0) (n := 0) (Nat.le_of_ble_eq_true rfl) (Nat.le_of_ble_eq_true rfl) ?_
        replace hP : va_P D vwCl [(hpo, .inr (6, [.ref hr, .ref hg, .ref hgr])), (hgr, .inr (3, [.int (nI en), .ref gs, .ref g1r, .ref g2r, .ref gan, .ref gpr, .ref gde, .ref gme])), (gpr, .inl (cs 0, 16, .inl gpf)), (hv, .inr (10, [.int ch, .int po, .ref av])), (av, .inl (cs 0, 32, .inl (upd (upd (upd f (t9 * 4 + 0) (nI e0)) (t9 * 4 + 1) (nI e0)) (t9 * 4 + 2) (nI 1))))] H := hP
        replace hD : va_D A [(hpo, .inr (6, [.ref hr, .ref hg, .ref hgr])), (hgr, .inr (3, [.int (nI en), .ref gs, .ref g1r, .ref g2r, .ref gan, .ref gpr, .ref gde, .ref gme])), (gpr, .inl (cs 0, 16, .inl gpf)), (hv, .inr (10, [.int ch, .int po, .ref av])), (av, .inl (cs 0, 32, .inl (upd (upd (upd f (t9 * 4 + 0) (nI e0)) (t9 * 4 + 1) (nI e0)) (t9 * 4 + 2) (nI 1))))] := hD
        exact xretv C (upd (upd (upd f (t9 * 4 + 0) (nI e0)) (t9 * 4 + 1) (nI e0)) (t9 * 4 + 2) (nI 1)) (prP_o (prP_o (prP_p hpr _ _ he) _ _ _ (by decide)) _ _ _ (by decide)) (xP_map hP [0, 1, 3, 4, 2] rfl) (hD.sub [0, 1, 3, 4, 2] (by decide) rfl) hS (Nat.le_of_ble_eq_true rfl) (Nat.le_of_ble_eq_true rfl) dX6_gainOne_78
      · -- 44 f
        refine lv_aload_n hx hb dX6_gainOne_47 rfl (lv_at hl 2 rfl) ?_
        refine lv_iload_n hx hb dX6_gainOne_48 rfl (lv_at hl 3 rfl) ?_
        refine lv_iconst (v := nI 2) hx hb dX6_gainOne_49 (by decide) ?_
        refine lv_aload_n hx hb dX6_gainOne_50 rfl (lv_at hl 2 rfl) ?_
        refine lv_iload_n hx hb dX6_gainOne_51 rfl (lv_at hl 3 rfl) ?_
        refine lv_iconst (v := nI 2) hx hb dX6_gainOne_52 (by decide) ?_
        refine xi (wr := [(hpo, .inr (6, [.ref hr, .ref hg, .ref hgr])), (hgr, .inr (3, [.int (nI en), .ref gs, .ref g1r, .ref g2r, .ref gan, .ref gpr, .ref gde, .ref gme])), (gpr, .inl (cs 0, 16, .inl gpf))]) (xV (As := [.int (nI t9), .int (nI 2)]) (rest := [.int (nI 2), .int (nI t9), .ref hv]) C (c_X10_get l D cs hv av ch po (upd f (t9 * 4 + 0) (nI e0)) t9 2 (by omega) (by decide)) kX6_68 hP hD [3, 4] rfl (by decide) 0 rfl rfl rfl ⟨Nat.le_of_ble_eq_true rfl, Nat.le_of_ble_eq_true rfl⟩ rfl hl.1 rfl (Nat.le_of_ble_eq_true rfl) dX6_gainOne_53 ⟨Nat.le_of_ble_eq_true rfl, Nat.le_of_ble_eq_true rfl⟩) hP hD hS hA [3, 4] [0, 1, 2] rfl rfl (by decide) (by decide) ?_
        clear hP hD hS
        try clear locs
        try clear H
        intro r_42 u_43 H locs hw_r_42 hP hD hS
        have hw_r_42 : r_42 = (upd f (t9 * 4 + 0) (nI e0)) (t9 * 4 + 2) := hw_r_42
        refine W.widen (k := 0) (n := 0) (Nat.le_of_ble_eq_true rfl) (Nat.le_of_ble_eq_true rfl) ?_
        replace hP : va_P D vwCl [(hpo, .inr (6, [.ref hr, .ref hg, .ref hgr])), (hgr, .inr (3, [.int (nI en), .ref gs, .ref g1r, .ref g2r, .ref gan, .ref gpr, .ref gde, .ref gme])), (gpr, .inl (cs 0, 16, .inl gpf)), (hv, .inr (10, [.int ch, .int po, .ref av])), (av, .inl (cs 0, 32, .inl (upd f (t9 * 4 + 0) (nI e0))))] H := hP
        replace hD : va_D A [(hpo, .inr (6, [.ref hr, .ref hg, .ref hgr])), (hgr, .inr (3, [.int (nI en), .ref gs, .ref g1r, .ref g2r, .ref gan, .ref gpr, .ref gde, .ref gme])), (gpr, .inl (cs 0, 16, .inl gpf)), (hv, .inr (10, [.int ch, .int po, .ref av])), (av, .inl (cs 0, 32, .inl (upd f (t9 * 4 + 0) (nI e0))))] := hD
        refine lv_iconst (v := nI 1) hx hb dX6_gainOne_56 (by decide) ?_
        refine lv_iadd hx hb dX6_gainOne_57 ?_
        refine xv (wr := [(hpo, .inr (6, [.ref hr, .ref hg, .ref hgr])), (hgr, .inr (3, [.int (nI en), .ref gs, .ref g1r, .ref g2r, .ref gan, .ref gpr, .ref gde, .ref gme])), (gpr, .inl (cs 0, 16, .inl gpf))]) (xV (As := [.int (nI t9), .int (nI 2), .int (r_42 + (nI 1))]) (rest := []) C (c_X10_put l D cs hv av ch po (upd f (t9 * 4 + 0) (nI e0)) t9 2 (r_42 + (nI 1)) (by omega) (by decide)) kX6_118 hP hD [3, 4] rfl (by decide) 0 rfl rfl rfl ⟨Nat.le_of_ble_eq_true rfl, Nat.le_of_ble_eq_true rfl⟩ rfl hl.1 rfl (Nat.le_of_ble_eq_true rfl) dX6_gainOne_58 ⟨Nat.le_of_ble_eq_true rfl, Nat.le_of_ble_eq_true rfl⟩) hP hD hS hA [3, 4] [0, 1, 2] rfl rfl (by decide) (by decide) ?_
        clear hP hD hS
        try clear locs
        try clear H
        intro u_45 H locs hw_r_44 hP hD hS
        refine W.widen (k := 0) (n := 0) (Nat.le_of_ble_eq_true rfl) (Nat.le_of_ble_eq_true rfl) ?_
        replace hP : va_P D vwCl [(hpo, .inr (6, [.ref hr, .ref hg, .ref hgr])), (hgr, .inr (3, [.int (nI en), .ref gs, .ref g1r, .ref g2r, .ref gan, .ref gpr, .ref gde, .ref gme])), (gpr, .inl (cs 0, 16, .inl gpf)), (hv, .inr (10, [.int ch, .int po, .ref av])), (av, .inl (cs 0, 32, .inl (upd (upd f (t9 * 4 + 0) (nI e0)) (t9 * 4 + 2) (r_42 + (nI 1)))))] H := hP
        replace hD : va_D A [(hpo, .inr (6, [.ref hr, .ref hg, .ref hgr])), (hgr, .inr (3, [.int (nI en), .ref gs, .ref g1r, .ref g2r, .ref gan, .ref gpr, .ref gde, .ref gme])), (gpr, .inl (cs 0, 16, .inl gpf)), (hv, .inr (10, [.int ch, .int po, .ref av])), (av, .inl (cs 0, 32, .inl (upd (upd f (t9 * 4 + 0) (nI e0)) (t9 * 4 + 2) (r_42 + (nI 1)))))] := hD
        refine lv_goto (tgt := 78) hx hb dX6_gainOne_61 (by decide) ?_
        exact xretv C (upd (upd f (t9 * 4 + 0) (nI e0)) (t9 * 4 + 2) (r_42 + (nI 1))) (prP_o (prP_p hpr _ _ he) _ _ _ (by decide)) (xP_map hP [0, 1, 3, 4, 2] rfl) (hD.sub [0, 1, 3, 4, 2] (by decide) rfl) hS (Nat.le_of_ble_eq_true rfl) (Nat.le_of_ble_eq_true rfl) dX6_gainOne_78

set_option maxHeartbeats 4000000 in
set_option maxRecDepth 100000 in
theorem c_X6_gain (l : Launch) (D : va_G) (cs : Nat → ClassId) (hpo : Nat) (hr hg : Nat) (hgr en gs g1r g2r gan gpr gde gme : Nat) (hv av : Nat) (ch po : Int32) (f : Nat → Int32) (gsf gpf : Nat → Int32) (x : Int32) (hen : en ≤ 16) (hgs : inP 16 8 gsf) (hpr : prP f) : xMet l D cs yX6_gain cX6_gain 4 none ({ frames := 3, cells := 0, slots := 0, locals := 66 } : Room) [.ref hpo, .ref hv, .int x] [(hpo, .inr (6, [.ref hr, .ref hg, .ref hgr])), (hgr, .inr (3, [.int (nI en), .ref gs, .ref g1r, .ref g2r, .ref gan, .ref gpr, .ref gde, .ref gme])), (hv, .inr (10, [.int ch, .int po, .ref av])), (av, .inl (cs 0, 32, .inl f)), (gs, .inl (cs 0, 16, .inl gsf)), (gpr, .inl (cs 0, 16, .inl gpf))] (xQv D (fun (fz : (Nat → Int32)) => prP fz) (fun (fz : (Nat → Int32)) => [(hpo, .inr (6, [.ref hr, .ref hg, .ref hgr])), (hgr, .inr (3, [.int (nI en), .ref gs, .ref g1r, .ref g2r, .ref gan, .ref gpr, .ref gde, .ref gme])), (hv, .inr (10, [.int ch, .int po, .ref av])), (av, .inl (cs 0, 32, .inl fz)), (gs, .inl (cs 0, 16, .inl gsf)), (gpr, .inl (cs 0, 16, .inl gpf))])) := by
  refine xMet.intro (by decide) (Nat.le_of_ble_eq_true rfl) ?_
  intro p e s m args below meth c A ls C hP hD hS hl
  have hx := C.1
  have hb := C.2.1
  have hz := C.2.2.2.2.1
  have hown := C.2.2.2.1
  have hA := C.2.2.2.2.2.2.2.2.2
  have hAO := C.2.2.2.2.2.2.2.2.1.2.2
  replace hl : lv_has ls 4 [(0, .ref hpo), (1, .ref hv), (2, .int x)] := hl
  obtain ⟨H, hH⟩ : ∃ H, H = s.heap := ⟨_, rfl⟩
  replace hP : va_P D vwCl [(hpo, .inr (6, [.ref hr, .ref hg, .ref hgr])), (hgr, .inr (3, [.int (nI en), .ref gs, .ref g1r, .ref g2r, .ref gan, .ref gpr, .ref gde, .ref gme])), (hv, .inr (10, [.int ch, .int po, .ref av])), (av, .inl (cs 0, 32, .inl f)), (gs, .inl (cs 0, 16, .inl gsf)), (gpr, .inl (cs 0, 16, .inl gpf))] H := by rw [hH]; exact hP
  replace hS : va_S A s.heap H [] := by rw [hH]; exact hS
  obtain ⟨locs, hlocs⟩ : ∃ z : List Loc, z = [] := ⟨_, rfl⟩
  rw [← hlocs] at hS
  suffices hW : W p l e ({ frames := 3, cells := 0, slots := 0, locals := 66 } : Room) s m args below meth c H locs 0 0 (MQ below ((xQv D (fun (fz : (Nat → Int32)) => prP fz) (fun (fz : (Nat → Int32)) => [(hpo, .inr (6, [.ref hr, .ref hg, .ref hgr])), (hgr, .inr (3, [.int (nI en), .ref gs, .ref g1r, .ref g2r, .ref gan, .ref gpr, .ref gde, .ref gme])), (hv, .inr (10, [.int ch, .int po, .ref av])), (av, .inl (cs 0, 32, .inl fz)), (gs, .inl (cs 0, 16, .inl gsf)), (gpr, .inl (cs 0, 16, .inl gpf))])) A) args s 0 0 A) (F0 m 0 ls []) by rw [hlocs, hH] at hW; exact hW
  clear hH hlocs
  refine lv_iconst (v := nI 0) hx hb dX6_gain_0 (by decide) ?_
  refine lv_istore_n (lv' := [(3, .int (nI 0)), (0, .ref hpo), (1, .ref hv), (2, .int x)]) hx hb dX6_gain_1 rfl hl (by decide) rfl ?_
  clear hl
  try clear ls
  intro ls hl
  have loop_1 : ∀ (n_loop_1 : Nat) (e9 : Nat) (f9 : Nat → Int32), (e9 ≤ en) → (prP f9) → en - e9 < n_loop_1 → ∀ (H : Heap) (locs : List Loc) (ls : Array Slot), va_P D vwCl [(hpo, .inr (6, [.ref hr, .ref hg, .ref hgr])), (hgr, .inr (3, [.int (nI en), .ref gs, .ref g1r, .ref g2r, .ref gan, .ref gpr, .ref gde, .ref gme])), (hv, .inr (10, [.int ch, .int po, .ref av])), (av, .inl (cs 0, 32, .inl f9)), (gs, .inl (cs 0, 16, .inl gsf)), (gpr, .inl (cs 0, 16, .inl gpf))] H → va_D A [(hpo, .inr (6, [.ref hr, .ref hg, .ref hgr])), (hgr, .inr (3, [.int (nI en), .ref gs, .ref g1r, .ref g2r, .ref gan, .ref gpr, .ref gde, .ref gme])), (hv, .inr (10, [.int ch, .int po, .ref av])), (av, .inl (cs 0, 32, .inl f9)), (gs, .inl (cs 0, 16, .inl gsf)), (gpr, .inl (cs 0, 16, .inl gpf))] → va_S A s.heap H locs → lv_has ls 4 [(3, .int (nI e9)), (0, .ref hpo), (1, .ref hv), (2, .int x)] → W p l e ({ frames := 3, cells := 0, slots := 0, locals := 66 } : Room) s m args below meth c H locs 0 0 (MQ below ((xQv D (fun (fz : (Nat → Int32)) => prP fz) (fun (fz : (Nat → Int32)) => [(hpo, .inr (6, [.ref hr, .ref hg, .ref hgr])), (hgr, .inr (3, [.int (nI en), .ref gs, .ref g1r, .ref g2r, .ref gan, .ref gpr, .ref gde, .ref gme])), (hv, .inr (10, [.int ch, .int po, .ref av])), (av, .inl (cs 0, 32, .inl fz)), (gs, .inl (cs 0, 16, .inl gsf)), (gpr, .inl (cs 0, 16, .inl gpf))])) A) args s 0 0 A) (F0 m 2 ls []) := by
    intro n_loop_1
    induction n_loop_1 with
    | zero => intro e9 f9 h_e9 hpr9 hlt H locs ls hP hD hS hl; exact absurd hlt (Nat.not_lt_zero _)
    | succ n_loop_1 ih_loop_1 =>
      intro e9 f9 h_e9 hpr9 hlt_loop_1 H locs ls hP hD hS hl
      refine lv_iload_n hx hb dX6_gain_2 rfl (lv_at hl 0 rfl) ?_
      refine lv_aload_n hx hb dX6_gain_3 rfl (lv_at hl 1 rfl) ?_
      refine xget C hP 0 rfl rfl zuX6 2 (by decide) zw2_25 rfl dX6_gain_4 ?_
      refine xget C hP 1 rfl rfl zuX3 0 (by decide) zw1_196 rfl dX6_gain_7 ?_
      refine lv_icmp_ge (tgt := 44) hx hb dX6_gain_10 (by decide) (fun c_2 => ?_) (fun c_2 => ?_)
      · -- 10 t
        have fc_2 : en ≤ e9 := nf_le (by omega) (by omega) c_2
        exact xretv C f9 hpr9 hP hD hS (Nat.le_of_ble_eq_true rfl) (Nat.le_of_ble_eq_true rfl) dX6_gain_44
      · -- 10 f
        have fc_2 : e9 < en := nf_nle (by omega) (by omega) c_2
        refine lv_aload_n hx hb dX6_gain_13 rfl (lv_at hl 1 rfl) ?_
        refine lv_aload_n hx hb dX6_gain_14 rfl (lv_at hl 2 rfl) ?_
        refine lv_iload_n hx hb dX6_gain_15 rfl (lv_at hl 3 rfl) ?_
        refine lv_iload_n hx hb dX6_gain_16 rfl (lv_at hl 0 rfl) ?_
        refine xi (wr := [(gpr, .inl (cs 0, 16, .inl gpf))]) (xV (As := [.ref hv, .int x, .int (nI e9)]) (rest := []) C (c_X6_isOpenOf l D cs hpo hr hg hgr en gs g1r g2r gan gpr gde gme hv av ch po f9 gsf x e9 hgs (by omega)) kX6_114 hP hD [0, 1, 2, 3, 4] rfl (by decide) 0 rfl rfl rfl ⟨Nat.le_of_ble_eq_true rfl, Nat.le_of_ble_eq_true rfl⟩ rfl hl.1 rfl (Nat.le_of_ble_eq_true rfl) dX6_gain_17 ⟨Nat.le_of_ble_eq_true rfl, Nat.le_of_ble_eq_true rfl⟩) hP hD hS hA [0, 1, 2, 3, 4] [5] rfl rfl (by decide) (by decide) ?_
        clear hP hD hS
        try clear locs
        try clear H
        intro r_3 u_4 H locs hw_r_3 hP hD hS
        have hw_r_3 : (r_3 = nI 0 ∨ r_3 = nI 1) := hw_r_3
        refine W.widen (k := 0) (n := 0) (Nat.le_of_ble_eq_true rfl) (Nat.le_of_ble_eq_true rfl) ?_
        replace hP : va_P D vwCl [(gpr, .inl (cs 0, 16, .inl gpf)), (hpo, .inr (6, [.ref hr, .ref hg, .ref hgr])), (hgr, .inr (3, [.int (nI en), .ref gs, .ref g1r, .ref g2r, .ref gan, .ref gpr, .ref gde, .ref gme])), (hv, .inr (10, [.int ch, .int po, .ref av])), (av, .inl (cs 0, 32, .inl f9)), (gs, .inl (cs 0, 16, .inl gsf))] H := hP
        replace hD : va_D A [(gpr, .inl (cs 0, 16, .inl gpf)), (hpo, .inr (6, [.ref hr, .ref hg, .ref hgr])), (hgr, .inr (3, [.int (nI en), .ref gs, .ref g1r, .ref g2r, .ref gan, .ref gpr, .ref gde, .ref gme])), (hv, .inr (10, [.int ch, .int po, .ref av])), (av, .inl (cs 0, 32, .inl f9)), (gs, .inl (cs 0, 16, .inl gsf))] := hD
        refine lv_if_eq (tgt := 38) hx hb dX6_gain_20 (by decide) (fun c_5 => ?_) (fun c_5 => ?_)
        · -- 20 t
          refine lv_iinc (v := nI (e9 + 1)) (lv' := [(3, .int (nI (e9 + 1))), (0, .ref hpo), (1, .ref hv), (2, .int x)]) hx hb dX6_gain_38 hl (k := 0) rfl (nI_add e9 1) (by decide) rfl ?_
          clear hl
          try clear ls
          intro ls hl
          refine lv_goto (tgt := 2) hx hb dX6_gain_41 (by decide) ?_
          exact ih_loop_1 (e9 + 1) f9 (by omega) hpr9 (by omega) H locs ls (xP_map hP [1, 2, 3, 4, 5, 0] rfl) (hD.sub [1, 2, 3, 4, 5, 0] (by decide) rfl) hS (lv_sub hl [0, 1, 2, 3] rfl)
        · -- 20 f
          refine lv_aload_n hx hb dX6_gain_23 rfl (lv_at hl 1 rfl) ?_
          refine lv_aload_n hx hb dX6_gain_24 rfl (lv_at hl 2 rfl) ?_
          refine lv_aload_n hx hb dX6_gain_25 rfl (lv_at hl 1 rfl) ?_
          refine xget C hP 1 rfl rfl zuX6 2 (by decide) zw2_25 rfl dX6_gain_26 ?_
          refine xget C hP 2 rfl rfl zuX3 1 (by decide) zw1_199 rfl dX6_gain_29 ?_
          refine lv_iload_n hx hb dX6_gain_32 rfl (lv_at hl 0 rfl) ?_
          refine xiald C hP 5 rfl e9 rfl (by omega) (by decide) dX6_gain_33 ?_
          obtain ⟨t_6, h_t_6, e_t_6⟩ := hgs e9 (by omega)
          refine lv_topi (nm_r (e' := nI t_6) e_t_6 ?_)
          refine lv_iload_n hx hb dX6_gain_34 rfl (lv_at hl 0 rfl) ?_
          refine xv (wr := [(gs, .inl (cs 0, 16, .inl gsf))]) (xV (As := [.ref hv, .int (nI t_6), .int (nI e9)]) (rest := []) C (c_X6_gainOne l D cs hpo hr hg hgr en gs g1r g2r gan gpr gde gme hv av ch po f9 gpf t_6 e9 hpr9 (by omega) (by omega)) kX6_122 hP hD [1, 2, 3, 4, 0] rfl (by decide) 0 rfl rfl rfl ⟨Nat.le_of_ble_eq_true rfl, Nat.le_of_ble_eq_true rfl⟩ rfl hl.1 rfl (Nat.le_of_ble_eq_true rfl) dX6_gain_35 ⟨Nat.le_of_ble_eq_true rfl, Nat.le_of_ble_eq_true rfl⟩) hP hD hS hA [1, 2, 3, 4, 0] [5] rfl rfl (by decide) (by decide) ?_
          clear hP hD hS
          try clear locs
          try clear H
          intro u_8 H locs hw_r_7 hP hD hS
          have hw_r_7 : prP u_8 := hw_r_7
          refine W.widen (k := 0) (n := 0) (Nat.le_of_ble_eq_true rfl) (Nat.le_of_ble_eq_true rfl) ?_
          replace hP : va_P D vwCl [(gs, .inl (cs 0, 16, .inl gsf)), (hpo, .inr (6, [.ref hr, .ref hg, .ref hgr])), (hgr, .inr (3, [.int (nI en), .ref gs, .ref g1r, .ref g2r, .ref gan, .ref gpr, .ref gde, .ref gme])), (hv, .inr (10, [.int ch, .int po, .ref av])), (av, .inl (cs 0, 32, .inl u_8)), (gpr, .inl (cs 0, 16, .inl gpf))] H := hP
          replace hD : va_D A [(gs, .inl (cs 0, 16, .inl gsf)), (hpo, .inr (6, [.ref hr, .ref hg, .ref hgr])), (hgr, .inr (3, [.int (nI en), .ref gs, .ref g1r, .ref g2r, .ref gan, .ref gpr, .ref gde, .ref gme])), (hv, .inr (10, [.int ch, .int po, .ref av])), (av, .inl (cs 0, 32, .inl u_8)), (gpr, .inl (cs 0, 16, .inl gpf))] := hD
          refine lv_iinc (v := nI (e9 + 1)) (lv' := [(3, .int (nI (e9 + 1))), (0, .ref hpo), (1, .ref hv), (2, .int x)]) hx hb dX6_gain_38 hl (k := 0) rfl (nI_add e9 1) (by decide) rfl ?_
          clear hl
          try clear ls
          intro ls hl
          refine lv_goto (tgt := 2) hx hb dX6_gain_41 (by decide) ?_
          exact ih_loop_1 (e9 + 1) u_8 (by omega) hw_r_7 (by omega) H locs ls (xP_map hP [1, 2, 3, 4, 0, 5] rfl) (hD.sub [1, 2, 3, 4, 0, 5] (by decide) rfl) hS (lv_sub hl [0, 1, 2, 3] rfl)
  exact loop_1 _ 0 f (by omega) hpr (Nat.lt_succ_self _) H locs ls hP hD hS (lv_sub hl [0, 1, 2, 3] rfl)

set_option maxHeartbeats 4000000 in
set_option maxRecDepth 100000 in
theorem c_X6_areAccepted (l : Launch) (D : va_G) (cs : Nat → ClassId) (hpo : Nat) (hr hg : Nat) (hgr en gs g1r g2r gan gpr gde gme : Nat) (hv av : Nat) (ch po : Int32) (f : Nat → Int32) (gsf : Nat → Int32) (x : Int32) (hen : en ≤ 16) (hgs : inP 16 8 gsf) : xMet l D cs yX6_areAccepted cX6_areAccepted 4 (some .boolean) ({ frames := 3, cells := 0, slots := 0, locals := 66 } : Room) [.ref hpo, .ref hv, .int x] [(hpo, .inr (6, [.ref hr, .ref hg, .ref hgr])), (hgr, .inr (3, [.int (nI en), .ref gs, .ref g1r, .ref g2r, .ref gan, .ref gpr, .ref gde, .ref gme])), (hv, .inr (10, [.int ch, .int po, .ref av])), (av, .inl (cs 0, 32, .inl f)), (gs, .inl (cs 0, 16, .inl gsf))] (xQi D (fun (r : Int32) (_u : Unit) => (r = nI 0 ∨ r = nI 1)) (fun (_u : Unit) => [(hpo, .inr (6, [.ref hr, .ref hg, .ref hgr])), (hgr, .inr (3, [.int (nI en), .ref gs, .ref g1r, .ref g2r, .ref gan, .ref gpr, .ref gde, .ref gme])), (hv, .inr (10, [.int ch, .int po, .ref av])), (av, .inl (cs 0, 32, .inl f)), (gs, .inl (cs 0, 16, .inl gsf))])) := by
  refine xMet.intro (by decide) (Nat.le_of_ble_eq_true rfl) ?_
  intro p e s m args below meth c A ls C hP hD hS hl
  have hx := C.1
  have hb := C.2.1
  have hz := C.2.2.2.2.1
  have hown := C.2.2.2.1
  have hA := C.2.2.2.2.2.2.2.2.2
  have hAO := C.2.2.2.2.2.2.2.2.1.2.2
  replace hl : lv_has ls 4 [(0, .ref hpo), (1, .ref hv), (2, .int x)] := hl
  obtain ⟨H, hH⟩ : ∃ H, H = s.heap := ⟨_, rfl⟩
  replace hP : va_P D vwCl [(hpo, .inr (6, [.ref hr, .ref hg, .ref hgr])), (hgr, .inr (3, [.int (nI en), .ref gs, .ref g1r, .ref g2r, .ref gan, .ref gpr, .ref gde, .ref gme])), (hv, .inr (10, [.int ch, .int po, .ref av])), (av, .inl (cs 0, 32, .inl f)), (gs, .inl (cs 0, 16, .inl gsf))] H := by rw [hH]; exact hP
  replace hS : va_S A s.heap H [] := by rw [hH]; exact hS
  obtain ⟨locs, hlocs⟩ : ∃ z : List Loc, z = [] := ⟨_, rfl⟩
  rw [← hlocs] at hS
  suffices hW : W p l e ({ frames := 3, cells := 0, slots := 0, locals := 66 } : Room) s m args below meth c H locs 0 0 (MQ below ((xQi D (fun (r : Int32) (_u : Unit) => (r = nI 0 ∨ r = nI 1)) (fun (_u : Unit) => [(hpo, .inr (6, [.ref hr, .ref hg, .ref hgr])), (hgr, .inr (3, [.int (nI en), .ref gs, .ref g1r, .ref g2r, .ref gan, .ref gpr, .ref gde, .ref gme])), (hv, .inr (10, [.int ch, .int po, .ref av])), (av, .inl (cs 0, 32, .inl f)), (gs, .inl (cs 0, 16, .inl gsf))])) A) args s 0 0 A) (F0 m 0 ls []) by rw [hlocs, hH] at hW; exact hW
  clear hH hlocs
  refine lv_iconst (v := nI 0) hx hb dX6_areAccepted_0 (by decide) ?_
  refine lv_istore_n (lv' := [(3, .int (nI 0)), (0, .ref hpo), (1, .ref hv), (2, .int x)]) hx hb dX6_areAccepted_1 rfl hl (by decide) rfl ?_
  clear hl
  try clear ls
  intro ls hl
  have loop_1 : ∀ (n_loop_1 : Nat) (e9 : Nat), (e9 ≤ en) → en - e9 < n_loop_1 → ∀ (H : Heap) (locs : List Loc) (ls : Array Slot), va_P D vwCl [(hpo, .inr (6, [.ref hr, .ref hg, .ref hgr])), (hgr, .inr (3, [.int (nI en), .ref gs, .ref g1r, .ref g2r, .ref gan, .ref gpr, .ref gde, .ref gme])), (hv, .inr (10, [.int ch, .int po, .ref av])), (av, .inl (cs 0, 32, .inl f)), (gs, .inl (cs 0, 16, .inl gsf))] H → va_D A [(hpo, .inr (6, [.ref hr, .ref hg, .ref hgr])), (hgr, .inr (3, [.int (nI en), .ref gs, .ref g1r, .ref g2r, .ref gan, .ref gpr, .ref gde, .ref gme])), (hv, .inr (10, [.int ch, .int po, .ref av])), (av, .inl (cs 0, 32, .inl f)), (gs, .inl (cs 0, 16, .inl gsf))] → va_S A s.heap H locs → lv_has ls 4 [(3, .int (nI e9)), (0, .ref hpo), (1, .ref hv), (2, .int x)] → W p l e ({ frames := 3, cells := 0, slots := 0, locals := 66 } : Room) s m args below meth c H locs 0 0 (MQ below ((xQi D (fun (r : Int32) (_u : Unit) => (r = nI 0 ∨ r = nI 1)) (fun (_u : Unit) => [(hpo, .inr (6, [.ref hr, .ref hg, .ref hgr])), (hgr, .inr (3, [.int (nI en), .ref gs, .ref g1r, .ref g2r, .ref gan, .ref gpr, .ref gde, .ref gme])), (hv, .inr (10, [.int ch, .int po, .ref av])), (av, .inl (cs 0, 32, .inl f)), (gs, .inl (cs 0, 16, .inl gsf))])) A) args s 0 0 A) (F0 m 2 ls []) := by
    intro n_loop_1
    induction n_loop_1 with
    | zero => intro e9 h_e9 hlt H locs ls hP hD hS hl; exact absurd hlt (Nat.not_lt_zero _)
    | succ n_loop_1 ih_loop_1 =>
      intro e9 h_e9 hlt_loop_1 H locs ls hP hD hS hl
      refine lv_iload_n hx hb dX6_areAccepted_2 rfl (lv_at hl 0 rfl) ?_
      refine lv_aload_n hx hb dX6_areAccepted_3 rfl (lv_at hl 1 rfl) ?_
      refine xget C hP 0 rfl rfl zuX6 2 (by decide) zw2_25 rfl dX6_areAccepted_4 ?_
      refine xget C hP 1 rfl rfl zuX3 0 (by decide) zw1_196 rfl dX6_areAccepted_7 ?_
      refine lv_icmp_ge (tgt := 40) hx hb dX6_areAccepted_10 (by decide) (fun c_2 => ?_) (fun c_2 => ?_)
      · -- 10 t
        have fc_2 : en ≤ e9 := nf_le (by omega) (by omega) c_2
        refine lv_iconst (v := nI 1) hx hb dX6_areAccepted_40 (by decide) ?_
        exact xreti C () (by decide) hP hD hS (Nat.le_of_ble_eq_true rfl) (Nat.le_of_ble_eq_true rfl) (by decide) dX6_areAccepted_41
      · -- 10 f
        have fc_2 : e9 < en := nf_nle (by omega) (by omega) c_2
        refine lv_iload_n hx hb dX6_areAccepted_13 rfl (lv_at hl 3 rfl) ?_
        refine lv_iload_n hx hb dX6_areAccepted_14 rfl (lv_at hl 0 rfl) ?_
        refine lv_ishr hx hb dX6_areAccepted_15 ?_
        refine lv_iconst (v := nI 1) hx hb dX6_areAccepted_16 (by decide) ?_
        refine lv_iand hx hb dX6_areAccepted_17 ?_
        refine lv_iconst (v := nI 1) hx hb dX6_areAccepted_18 (by decide) ?_
        refine lv_icmp_ne (tgt := 34) hx hb dX6_areAccepted_19 (by decide) (fun c_3 => ?_) (fun c_3 => ?_)
        · -- 19 t
          refine lv_iinc (v := nI (e9 + 1)) (lv' := [(3, .int (nI (e9 + 1))), (0, .ref hpo), (1, .ref hv), (2, .int x)]) hx hb dX6_areAccepted_34 hl (k := 0) rfl (nI_add e9 1) (by decide) rfl ?_
          clear hl
          try clear ls
          intro ls hl
          refine lv_goto (tgt := 2) hx hb dX6_areAccepted_37 (by decide) ?_
          exact ih_loop_1 (e9 + 1) (by omega) (by omega) H locs ls hP hD hS (lv_sub hl [0, 1, 2, 3] rfl)
        · -- 19 f
          refine lv_aload_n hx hb dX6_areAccepted_22 rfl (lv_at hl 1 rfl) ?_
          refine lv_aload_n hx hb dX6_areAccepted_23 rfl (lv_at hl 2 rfl) ?_
          refine lv_iload_n hx hb dX6_areAccepted_24 rfl (lv_at hl 0 rfl) ?_
          refine xi (wr := []) (xV (As := [.ref hv, .int (nI e9)]) (rest := []) C (c_X6_standing l D cs hpo hr hg hgr en gs g1r g2r gan gpr gde gme hv av ch po f gsf e9 hgs (by omega)) kX6_78 hP hD [0, 1, 2, 3, 4] rfl (by decide) 0 rfl rfl rfl ⟨Nat.le_of_ble_eq_true rfl, Nat.le_of_ble_eq_true rfl⟩ rfl hl.1 rfl (Nat.le_of_ble_eq_true rfl) dX6_areAccepted_25 ⟨Nat.le_of_ble_eq_true rfl, Nat.le_of_ble_eq_true rfl⟩) hP hD hS hA [0, 1, 2, 3, 4] [] rfl rfl (by decide) (by decide) ?_
          clear hP hD hS
          try clear locs
          try clear H
          intro r_4 u_5 H locs hw_r_4 hP hD hS
          refine W.widen (k := 0) (n := 0) (Nat.le_of_ble_eq_true rfl) (Nat.le_of_ble_eq_true rfl) ?_
          replace hP : va_P D vwCl [(hpo, .inr (6, [.ref hr, .ref hg, .ref hgr])), (hgr, .inr (3, [.int (nI en), .ref gs, .ref g1r, .ref g2r, .ref gan, .ref gpr, .ref gde, .ref gme])), (hv, .inr (10, [.int ch, .int po, .ref av])), (av, .inl (cs 0, 32, .inl f)), (gs, .inl (cs 0, 16, .inl gsf))] H := hP
          replace hD : va_D A [(hpo, .inr (6, [.ref hr, .ref hg, .ref hgr])), (hgr, .inr (3, [.int (nI en), .ref gs, .ref g1r, .ref g2r, .ref gan, .ref gpr, .ref gde, .ref gme])), (hv, .inr (10, [.int ch, .int po, .ref av])), (av, .inl (cs 0, 32, .inl f)), (gs, .inl (cs 0, 16, .inl gsf))] := hD
          refine lv_iconst (v := nI 1) hx hb dX6_areAccepted_28 (by decide) ?_
          refine lv_icmp_eq (tgt := 34) hx hb dX6_areAccepted_29 (by decide) (fun c_6 => ?_) (fun c_6 => ?_)
          · -- 29 t
            refine lv_iinc (v := nI (e9 + 1)) (lv' := [(3, .int (nI (e9 + 1))), (0, .ref hpo), (1, .ref hv), (2, .int x)]) hx hb dX6_areAccepted_34 hl (k := 0) rfl (nI_add e9 1) (by decide) rfl ?_
            clear hl
            try clear ls
            intro ls hl
            refine lv_goto (tgt := 2) hx hb dX6_areAccepted_37 (by decide) ?_
            exact ih_loop_1 (e9 + 1) (by omega) (by omega) H locs ls hP hD hS (lv_sub hl [0, 1, 2, 3] rfl)
          · -- 29 f
            refine lv_iconst (v := nI 0) hx hb dX6_areAccepted_32 (by decide) ?_
            exact xreti C () (by decide) hP hD hS (Nat.le_of_ble_eq_true rfl) (Nat.le_of_ble_eq_true rfl) (by decide) dX6_areAccepted_33
  exact loop_1 _ 0 (by omega) (Nat.lt_succ_self _) H locs ls hP hD hS (lv_sub hl [0, 1, 2, 3] rfl)

set_option maxHeartbeats 4000000 in
set_option maxRecDepth 100000 in
theorem c_X6_isRipe (l : Launch) (D : va_G) (cs : Nat → ClassId) (hpo : Nat) (hr sm ca n k al be se : Nat) (ea pr : Int32) (hg : Nat) (hgr en gs g1r g2r gan gpr gde gme : Nat) (hv av : Nat) (ch po : Int32) (f : Nat → Int32) (gsf g1f g2f gmf : Nat → Int32) (t9 e0 : Nat) (hen : en ≤ 16) (hgs : inP 16 8 gsf) (ht9 : t9 < 8) (he : e0 < 16) : xMet l D cs yX6_isRipe cX6_isRipe 5 (some .boolean) ({ frames := 4, cells := 0, slots := 0, locals := 89 } : Room) [.ref hpo, .ref hv, .int (nI t9), .int (nI e0)] [(hpo, .inr (6, [.ref hr, .ref hg, .ref hgr])), (hr, .inr (7, [.int (nI n), .int (nI k), .int (nI al), .int (nI be), .int ea, .int pr, .ref sm, .int (nI se), .ref ca])), (hgr, .inr (3, [.int (nI en), .ref gs, .ref g1r, .ref g2r, .ref gan, .ref gpr, .ref gde, .ref gme])), (hv, .inr (10, [.int ch, .int po, .ref av])), (av, .inl (cs 0, 32, .inl f)), (gs, .inl (cs 0, 16, .inl gsf)), (g1r, .inl (cs 0, 16, .inl g1f)), (g2r, .inl (cs 0, 16, .inl g2f)), (gme, .inl (cs 0, 8, .inl gmf))] (xQi D (fun (r : Int32) (_u : Unit) => (r = nI 0 ∨ r = nI 1)) (fun (_u : Unit) => [(hpo, .inr (6, [.ref hr, .ref hg, .ref hgr])), (hr, .inr (7, [.int (nI n), .int (nI k), .int (nI al), .int (nI be), .int ea, .int pr, .ref sm, .int (nI se), .ref ca])), (hgr, .inr (3, [.int (nI en), .ref gs, .ref g1r, .ref g2r, .ref gan, .ref gpr, .ref gde, .ref gme])), (hv, .inr (10, [.int ch, .int po, .ref av])), (av, .inl (cs 0, 32, .inl f)), (gs, .inl (cs 0, 16, .inl gsf)), (g1r, .inl (cs 0, 16, .inl g1f)), (g2r, .inl (cs 0, 16, .inl g2f)), (gme, .inl (cs 0, 8, .inl gmf))])) := by
  refine xMet.intro (by decide) (Nat.le_of_ble_eq_true rfl) ?_
  intro p e s m args below meth c A ls C hP hD hS hl
  have hx := C.1
  have hb := C.2.1
  have hz := C.2.2.2.2.1
  have hown := C.2.2.2.1
  have hA := C.2.2.2.2.2.2.2.2.2
  have hAO := C.2.2.2.2.2.2.2.2.1.2.2
  replace hl : lv_has ls 5 [(0, .ref hpo), (1, .ref hv), (2, .int (nI t9)), (3, .int (nI e0))] := hl
  obtain ⟨H, hH⟩ : ∃ H, H = s.heap := ⟨_, rfl⟩
  replace hP : va_P D vwCl [(hpo, .inr (6, [.ref hr, .ref hg, .ref hgr])), (hr, .inr (7, [.int (nI n), .int (nI k), .int (nI al), .int (nI be), .int ea, .int pr, .ref sm, .int (nI se), .ref ca])), (hgr, .inr (3, [.int (nI en), .ref gs, .ref g1r, .ref g2r, .ref gan, .ref gpr, .ref gde, .ref gme])), (hv, .inr (10, [.int ch, .int po, .ref av])), (av, .inl (cs 0, 32, .inl f)), (gs, .inl (cs 0, 16, .inl gsf)), (g1r, .inl (cs 0, 16, .inl g1f)), (g2r, .inl (cs 0, 16, .inl g2f)), (gme, .inl (cs 0, 8, .inl gmf))] H := by rw [hH]; exact hP
  replace hS : va_S A s.heap H [] := by rw [hH]; exact hS
  obtain ⟨locs, hlocs⟩ : ∃ z : List Loc, z = [] := ⟨_, rfl⟩
  rw [← hlocs] at hS
  suffices hW : W p l e ({ frames := 4, cells := 0, slots := 0, locals := 89 } : Room) s m args below meth c H locs 0 0 (MQ below ((xQi D (fun (r : Int32) (_u : Unit) => (r = nI 0 ∨ r = nI 1)) (fun (_u : Unit) => [(hpo, .inr (6, [.ref hr, .ref hg, .ref hgr])), (hr, .inr (7, [.int (nI n), .int (nI k), .int (nI al), .int (nI be), .int ea, .int pr, .ref sm, .int (nI se), .ref ca])), (hgr, .inr (3, [.int (nI en), .ref gs, .ref g1r, .ref g2r, .ref gan, .ref gpr, .ref gde, .ref gme])), (hv, .inr (10, [.int ch, .int po, .ref av])), (av, .inl (cs 0, 32, .inl f)), (gs, .inl (cs 0, 16, .inl gsf)), (g1r, .inl (cs 0, 16, .inl g1f)), (g2r, .inl (cs 0, 16, .inl g2f)), (gme, .inl (cs 0, 8, .inl gmf))])) A) args s 0 0 A) (F0 m 0 ls []) by rw [hlocs, hH] at hW; exact hW
  clear hH hlocs
  refine lv_aload_n hx hb dX6_isRipe_0 rfl (lv_at hl 1 rfl) ?_
  refine lv_iload_n hx hb dX6_isRipe_1 rfl (lv_at hl 2 rfl) ?_
  refine lv_iconst (v := nI 1) hx hb dX6_isRipe_2 (by decide) ?_
  refine xi (wr := [(hpo, .inr (6, [.ref hr, .ref hg, .ref hgr])), (hr, .inr (7, [.int (nI n), .int (nI k), .int (nI al), .int (nI be), .int ea, .int pr, .ref sm, .int (nI se), .ref ca])), (hgr, .inr (3, [.int (nI en), .ref gs, .ref g1r, .ref g2r, .ref gan, .ref gpr, .ref gde, .ref gme])), (gs, .inl (cs 0, 16, .inl gsf)), (g1r, .inl (cs 0, 16, .inl g1f)), (g2r, .inl (cs 0, 16, .inl g2f)), (gme, .inl (cs 0, 8, .inl gmf))]) (xV (As := [.int (nI t9), .int (nI 1)]) (rest := []) C (c_X10_get l D cs hv av ch po f t9 1 (by omega) (by decide)) kX6_68 hP hD [3, 4] rfl (by decide) 0 rfl rfl rfl ⟨Nat.le_of_ble_eq_true rfl, Nat.le_of_ble_eq_true rfl⟩ rfl hl.1 rfl (Nat.le_of_ble_eq_true rfl) dX6_isRipe_3 ⟨Nat.le_of_ble_eq_true rfl, Nat.le_of_ble_eq_true rfl⟩) hP hD hS hA [3, 4] [0, 1, 2, 5, 6, 7, 8] rfl rfl (by decide) (by decide) ?_
  clear hP hD hS
  try clear locs
  try clear H
  intro r_1 u_2 H locs hw_r_1 hP hD hS
  have hw_r_1 : r_1 = f (t9 * 4 + 1) := hw_r_1
  refine W.widen (k := 0) (n := 0) (Nat.le_of_ble_eq_true rfl) (Nat.le_of_ble_eq_true rfl) ?_
  replace hP : va_P D vwCl [(hpo, .inr (6, [.ref hr, .ref hg, .ref hgr])), (hr, .inr (7, [.int (nI n), .int (nI k), .int (nI al), .int (nI be), .int ea, .int pr, .ref sm, .int (nI se), .ref ca])), (hgr, .inr (3, [.int (nI en), .ref gs, .ref g1r, .ref g2r, .ref gan, .ref gpr, .ref gde, .ref gme])), (gs, .inl (cs 0, 16, .inl gsf)), (g1r, .inl (cs 0, 16, .inl g1f)), (g2r, .inl (cs 0, 16, .inl g2f)), (gme, .inl (cs 0, 8, .inl gmf)), (hv, .inr (10, [.int ch, .int po, .ref av])), (av, .inl (cs 0, 32, .inl f))] H := hP
  replace hD : va_D A [(hpo, .inr (6, [.ref hr, .ref hg, .ref hgr])), (hr, .inr (7, [.int (nI n), .int (nI k), .int (nI al), .int (nI be), .int ea, .int pr, .ref sm, .int (nI se), .ref ca])), (hgr, .inr (3, [.int (nI en), .ref gs, .ref g1r, .ref g2r, .ref gan, .ref gpr, .ref gde, .ref gme])), (gs, .inl (cs 0, 16, .inl gsf)), (g1r, .inl (cs 0, 16, .inl g1f)), (g2r, .inl (cs 0, 16, .inl g2f)), (gme, .inl (cs 0, 8, .inl gmf)), (hv, .inr (10, [.int ch, .int po, .ref av])), (av, .inl (cs 0, 32, .inl f))] := hD
  refine lv_iload_n hx hb dX6_isRipe_6 rfl (lv_at hl 3 rfl) ?_
  refine lv_icmp_ne (tgt := 20) hx hb dX6_isRipe_7 (by decide) (fun c_3 => ?_) (fun c_3 => ?_)
  · -- 7 t
    refine lv_iconst (v := nI 0) hx hb dX6_isRipe_20 (by decide) ?_
    exact xreti C () (by decide) (xP_map hP [0, 1, 2, 7, 8, 3, 4, 5, 6] rfl) (hD.sub [0, 1, 2, 7, 8, 3, 4, 5, 6] (by decide) rfl) hS (Nat.le_of_ble_eq_true rfl) (Nat.le_of_ble_eq_true rfl) (by decide) dX6_isRipe_21
  · -- 7 f
    refine lv_aload_n hx hb dX6_isRipe_10 rfl (lv_at hl 1 rfl) ?_
    refine lv_iload_n hx hb dX6_isRipe_11 rfl (lv_at hl 2 rfl) ?_
    refine lv_iconst (v := nI 0) hx hb dX6_isRipe_12 (by decide) ?_
    refine xi (wr := [(hpo, .inr (6, [.ref hr, .ref hg, .ref hgr])), (hr, .inr (7, [.int (nI n), .int (nI k), .int (nI al), .int (nI be), .int ea, .int pr, .ref sm, .int (nI se), .ref ca])), (hgr, .inr (3, [.int (nI en), .ref gs, .ref g1r, .ref g2r, .ref gan, .ref gpr, .ref gde, .ref gme])), (gs, .inl (cs 0, 16, .inl gsf)), (g1r, .inl (cs 0, 16, .inl g1f)), (g2r, .inl (cs 0, 16, .inl g2f)), (gme, .inl (cs 0, 8, .inl gmf))]) (xV (As := [.int (nI t9), .int (nI 0)]) (rest := []) C (c_X10_get l D cs hv av ch po f t9 0 (by omega) (by decide)) kX6_68 hP hD [7, 8] rfl (by decide) 0 rfl rfl rfl ⟨Nat.le_of_ble_eq_true rfl, Nat.le_of_ble_eq_true rfl⟩ rfl hl.1 rfl (Nat.le_of_ble_eq_true rfl) dX6_isRipe_13 ⟨Nat.le_of_ble_eq_true rfl, Nat.le_of_ble_eq_true rfl⟩) hP hD hS hA [7, 8] [0, 1, 2, 3, 4, 5, 6] rfl rfl (by decide) (by decide) ?_
    clear hP hD hS
    try clear locs
    try clear H
    intro r_4 u_5 H locs hw_r_4 hP hD hS
    have hw_r_4 : r_4 = f (t9 * 4 + 0) := hw_r_4
    refine W.widen (k := 0) (n := 0) (Nat.le_of_ble_eq_true rfl) (Nat.le_of_ble_eq_true rfl) ?_
    replace hP : va_P D vwCl [(hpo, .inr (6, [.ref hr, .ref hg, .ref hgr])), (hr, .inr (7, [.int (nI n), .int (nI k), .int (nI al), .int (nI be), .int ea, .int pr, .ref sm, .int (nI se), .ref ca])), (hgr, .inr (3, [.int (nI en), .ref gs, .ref g1r, .ref g2r, .ref gan, .ref gpr, .ref gde, .ref gme])), (gs, .inl (cs 0, 16, .inl gsf)), (g1r, .inl (cs 0, 16, .inl g1f)), (g2r, .inl (cs 0, 16, .inl g2f)), (gme, .inl (cs 0, 8, .inl gmf)), (hv, .inr (10, [.int ch, .int po, .ref av])), (av, .inl (cs 0, 32, .inl f))] H := hP
    replace hD : va_D A [(hpo, .inr (6, [.ref hr, .ref hg, .ref hgr])), (hr, .inr (7, [.int (nI n), .int (nI k), .int (nI al), .int (nI be), .int ea, .int pr, .ref sm, .int (nI se), .ref ca])), (hgr, .inr (3, [.int (nI en), .ref gs, .ref g1r, .ref g2r, .ref gan, .ref gpr, .ref gde, .ref gme])), (gs, .inl (cs 0, 16, .inl gsf)), (g1r, .inl (cs 0, 16, .inl g1f)), (g2r, .inl (cs 0, 16, .inl g2f)), (gme, .inl (cs 0, 8, .inl gmf)), (hv, .inr (10, [.int ch, .int po, .ref av])), (av, .inl (cs 0, 32, .inl f))] := hD
    refine lv_iload_n hx hb dX6_isRipe_16 rfl (lv_at hl 3 rfl) ?_
    refine lv_icmp_eq (tgt := 22) hx hb dX6_isRipe_17 (by decide) (fun c_6 => ?_) (fun c_6 => ?_)
    · -- 17 t
      refine lv_aload_n hx hb dX6_isRipe_22 rfl (lv_at hl 1 rfl) ?_
      refine lv_iload_n hx hb dX6_isRipe_23 rfl (lv_at hl 2 rfl) ?_
      refine lv_iconst (v := nI 2) hx hb dX6_isRipe_24 (by decide) ?_
      refine xi (wr := [(hpo, .inr (6, [.ref hr, .ref hg, .ref hgr])), (hr, .inr (7, [.int (nI n), .int (nI k), .int (nI al), .int (nI be), .int ea, .int pr, .ref sm, .int (nI se), .ref ca])), (hgr, .inr (3, [.int (nI en), .ref gs, .ref g1r, .ref g2r, .ref gan, .ref gpr, .ref gde, .ref gme])), (gs, .inl (cs 0, 16, .inl gsf)), (g1r, .inl (cs 0, 16, .inl g1f)), (g2r, .inl (cs 0, 16, .inl g2f)), (gme, .inl (cs 0, 8, .inl gmf))]) (xV (As := [.int (nI t9), .int (nI 2)]) (rest := []) C (c_X10_get l D cs hv av ch po f t9 2 (by omega) (by decide)) kX6_68 hP hD [7, 8] rfl (by decide) 0 rfl rfl rfl ⟨Nat.le_of_ble_eq_true rfl, Nat.le_of_ble_eq_true rfl⟩ rfl hl.1 rfl (Nat.le_of_ble_eq_true rfl) dX6_isRipe_25 ⟨Nat.le_of_ble_eq_true rfl, Nat.le_of_ble_eq_true rfl⟩) hP hD hS hA [7, 8] [0, 1, 2, 3, 4, 5, 6] rfl rfl (by decide) (by decide) ?_
      clear hP hD hS
      try clear locs
      try clear H
      intro r_7 u_8 H locs hw_r_7 hP hD hS
      have hw_r_7 : r_7 = f (t9 * 4 + 2) := hw_r_7
      refine W.widen (k := 0) (n := 0) (Nat.le_of_ble_eq_true rfl) (Nat.le_of_ble_eq_true rfl) ?_
      replace hP : va_P D vwCl [(hpo, .inr (6, [.ref hr, .ref hg, .ref hgr])), (hr, .inr (7, [.int (nI n), .int (nI k), .int (nI al), .int (nI be), .int ea, .int pr, .ref sm, .int (nI se), .ref ca])), (hgr, .inr (3, [.int (nI en), .ref gs, .ref g1r, .ref g2r, .ref gan, .ref gpr, .ref gde, .ref gme])), (gs, .inl (cs 0, 16, .inl gsf)), (g1r, .inl (cs 0, 16, .inl g1f)), (g2r, .inl (cs 0, 16, .inl g2f)), (gme, .inl (cs 0, 8, .inl gmf)), (hv, .inr (10, [.int ch, .int po, .ref av])), (av, .inl (cs 0, 32, .inl f))] H := hP
      replace hD : va_D A [(hpo, .inr (6, [.ref hr, .ref hg, .ref hgr])), (hr, .inr (7, [.int (nI n), .int (nI k), .int (nI al), .int (nI be), .int ea, .int pr, .ref sm, .int (nI se), .ref ca])), (hgr, .inr (3, [.int (nI en), .ref gs, .ref g1r, .ref g2r, .ref gan, .ref gpr, .ref gde, .ref gme])), (gs, .inl (cs 0, 16, .inl gsf)), (g1r, .inl (cs 0, 16, .inl g1f)), (g2r, .inl (cs 0, 16, .inl g2f)), (gme, .inl (cs 0, 8, .inl gmf)), (hv, .inr (10, [.int ch, .int po, .ref av])), (av, .inl (cs 0, 32, .inl f))] := hD
      refine lv_istore (lv' := [(4, .int r_7), (0, .ref hpo), (1, .ref hv), (2, .int (nI t9)), (3, .int (nI e0))]) hx hb dX6_isRipe_28 hl (by decide) rfl ?_
      clear hl
      try clear ls
      intro ls hl
      refine lv_iload hx hb dX6_isRipe_30 (lv_at hl 0 rfl) ?_
      refine lv_aload_n hx hb dX6_isRipe_32 rfl (lv_at hl 1 rfl) ?_
      refine xget C hP 0 rfl rfl zuX6 0 (by decide) zw2_23 rfl dX6_isRipe_33 ?_
      refine xget C hP 1 rfl rfl zuX7 3 (by decide) zw1_92 rfl dX6_isRipe_36 ?_
      refine lv_icmp_ge (tgt := 81) hx hb dX6_isRipe_39 (by decide) (fun c_9 => ?_) (fun c_9 => ?_)
      · -- 39 t
        refine lv_iconst (v := nI 1) hx hb dX6_isRipe_81 (by decide) ?_
        refine lv_goto (tgt := 86) hx hb dX6_isRipe_82 (by decide) ?_
        exact xreti C () (by decide) (xP_map hP [0, 1, 2, 7, 8, 3, 4, 5, 6] rfl) (hD.sub [0, 1, 2, 7, 8, 3, 4, 5, 6] (by decide) rfl) hS (Nat.le_of_ble_eq_true rfl) (Nat.le_of_ble_eq_true rfl) (by decide) dX6_isRipe_86
      · -- 39 f
        refine lv_iload hx hb dX6_isRipe_42 (lv_at hl 0 rfl) ?_
        refine lv_aload_n hx hb dX6_isRipe_44 rfl (lv_at hl 1 rfl) ?_
        refine xget C hP 0 rfl rfl zuX6 0 (by decide) zw2_23 rfl dX6_isRipe_45 ?_
        refine xget C hP 1 rfl rfl zuX7 4 (by decide) zw1_95 rfl dX6_isRipe_48 ?_
        refine lv_icmp_lt (tgt := 85) hx hb dX6_isRipe_51 (by decide) (fun c_10 => ?_) (fun c_10 => ?_)
        · -- 51 t
          refine lv_iconst (v := nI 0) hx hb dX6_isRipe_85 (by decide) ?_
          exact xreti C () (by decide) (xP_map hP [0, 1, 2, 7, 8, 3, 4, 5, 6] rfl) (hD.sub [0, 1, 2, 7, 8, 3, 4, 5, 6] (by decide) rfl) hS (Nat.le_of_ble_eq_true rfl) (Nat.le_of_ble_eq_true rfl) (by decide) dX6_isRipe_86
        · -- 51 f
          refine lv_aload_n hx hb dX6_isRipe_54 rfl (lv_at hl 1 rfl) ?_
          refine xget C hP 0 rfl rfl zuX6 2 (by decide) zw2_25 rfl dX6_isRipe_55 ?_
          refine lv_iload_n hx hb dX6_isRipe_58 rfl (lv_at hl 4 rfl) ?_
          refine xi (wr := [(hpo, .inr (6, [.ref hr, .ref hg, .ref hgr])), (hr, .inr (7, [.int (nI n), .int (nI k), .int (nI al), .int (nI be), .int ea, .int pr, .ref sm, .int (nI se), .ref ca])), (g1r, .inl (cs 0, 16, .inl g1f)), (g2r, .inl (cs 0, 16, .inl g2f)), (hv, .inr (10, [.int ch, .int po, .ref av])), (av, .inl (cs 0, 32, .inl f))]) (xV (As := [.int (nI e0)]) (rest := []) C (c_X3_isAlone l D cs hgr en gs g1r g2r gan gpr gde gme gsf gmf e0 hgs he) kX6_138 hP hD [2, 3, 6] rfl (by decide) 0 rfl rfl rfl ⟨Nat.le_of_ble_eq_true rfl, Nat.le_of_ble_eq_true rfl⟩ rfl hl.1 rfl (Nat.le_of_ble_eq_true rfl) dX6_isRipe_59 ⟨Nat.le_of_ble_eq_true rfl, Nat.le_of_ble_eq_true rfl⟩) hP hD hS hA [2, 3, 6] [0, 1, 4, 5, 7, 8] rfl rfl (by decide) (by decide) ?_
          clear hP hD hS
          try clear locs
          try clear H
          intro r_11 u_12 H locs hw_r_11 hP hD hS
          have hw_r_11 : (r_11 = nI 0 ∨ r_11 = nI 1) := hw_r_11
          refine W.widen (k := 0) (n := 0) (Nat.le_of_ble_eq_true rfl) (Nat.le_of_ble_eq_true rfl) ?_
          replace hP : va_P D vwCl [(hpo, .inr (6, [.ref hr, .ref hg, .ref hgr])), (hr, .inr (7, [.int (nI n), .int (nI k), .int (nI al), .int (nI be), .int ea, .int pr, .ref sm, .int (nI se), .ref ca])), (g1r, .inl (cs 0, 16, .inl g1f)), (g2r, .inl (cs 0, 16, .inl g2f)), (hv, .inr (10, [.int ch, .int po, .ref av])), (av, .inl (cs 0, 32, .inl f)), (hgr, .inr (3, [.int (nI en), .ref gs, .ref g1r, .ref g2r, .ref gan, .ref gpr, .ref gde, .ref gme])), (gs, .inl (cs 0, 16, .inl gsf)), (gme, .inl (cs 0, 8, .inl gmf))] H := hP
          replace hD : va_D A [(hpo, .inr (6, [.ref hr, .ref hg, .ref hgr])), (hr, .inr (7, [.int (nI n), .int (nI k), .int (nI al), .int (nI be), .int ea, .int pr, .ref sm, .int (nI se), .ref ca])), (g1r, .inl (cs 0, 16, .inl g1f)), (g2r, .inl (cs 0, 16, .inl g2f)), (hv, .inr (10, [.int ch, .int po, .ref av])), (av, .inl (cs 0, 32, .inl f)), (hgr, .inr (3, [.int (nI en), .ref gs, .ref g1r, .ref g2r, .ref gan, .ref gpr, .ref gde, .ref gme])), (gs, .inl (cs 0, 16, .inl gsf)), (gme, .inl (cs 0, 8, .inl gmf))] := hD
          refine lv_if_eq (tgt := 85) hx hb dX6_isRipe_62 (by decide) (fun c_13 => ?_) (fun c_13 => ?_)
          · -- 62 t
            refine lv_iconst (v := nI 0) hx hb dX6_isRipe_85 (by decide) ?_
            exact xreti C () (by decide) (xP_map hP [0, 1, 6, 4, 5, 7, 2, 3, 8] rfl) (hD.sub [0, 1, 6, 4, 5, 7, 2, 3, 8] (by decide) rfl) hS (Nat.le_of_ble_eq_true rfl) (Nat.le_of_ble_eq_true rfl) (by decide) dX6_isRipe_86
          · -- 62 f
            refine lv_aload_n hx hb dX6_isRipe_65 rfl (lv_at hl 1 rfl) ?_
            refine lv_aload_n hx hb dX6_isRipe_66 rfl (lv_at hl 2 rfl) ?_
            refine lv_aload_n hx hb dX6_isRipe_67 rfl (lv_at hl 1 rfl) ?_
            refine xget C hP 0 rfl rfl zuX6 2 (by decide) zw2_25 rfl dX6_isRipe_68 ?_
            refine lv_iload_n hx hb dX6_isRipe_71 rfl (lv_at hl 4 rfl) ?_
            refine xi (wr := [(hpo, .inr (6, [.ref hr, .ref hg, .ref hgr])), (hr, .inr (7, [.int (nI n), .int (nI k), .int (nI al), .int (nI be), .int ea, .int pr, .ref sm, .int (nI se), .ref ca])), (hv, .inr (10, [.int ch, .int po, .ref av])), (av, .inl (cs 0, 32, .inl f)), (gs, .inl (cs 0, 16, .inl gsf)), (gme, .inl (cs 0, 8, .inl gmf))]) (xV (As := [.int (nI e0)]) (rest := [.ref hv, .ref hpo]) C (c_X3_parentBits l D cs hgr en gs g1r g2r gan gpr gde gme g1f g2f e0 he) kX6_141 hP hD [6, 2, 3] rfl (by decide) 0 rfl rfl rfl ⟨Nat.le_of_ble_eq_true rfl, Nat.le_of_ble_eq_true rfl⟩ rfl hl.1 rfl (Nat.le_of_ble_eq_true rfl) dX6_isRipe_72 ⟨Nat.le_of_ble_eq_true rfl, Nat.le_of_ble_eq_true rfl⟩) hP hD hS hA [6, 2, 3] [0, 1, 4, 5, 7, 8] rfl rfl (by decide) (by decide) ?_
            clear hP hD hS
            try clear locs
            try clear H
            intro r_14 u_15 H locs hw_r_14 hP hD hS
            refine W.widen (k := 0) (n := 0) (Nat.le_of_ble_eq_true rfl) (Nat.le_of_ble_eq_true rfl) ?_
            replace hP : va_P D vwCl [(hpo, .inr (6, [.ref hr, .ref hg, .ref hgr])), (hr, .inr (7, [.int (nI n), .int (nI k), .int (nI al), .int (nI be), .int ea, .int pr, .ref sm, .int (nI se), .ref ca])), (hv, .inr (10, [.int ch, .int po, .ref av])), (av, .inl (cs 0, 32, .inl f)), (gs, .inl (cs 0, 16, .inl gsf)), (gme, .inl (cs 0, 8, .inl gmf)), (hgr, .inr (3, [.int (nI en), .ref gs, .ref g1r, .ref g2r, .ref gan, .ref gpr, .ref gde, .ref gme])), (g1r, .inl (cs 0, 16, .inl g1f)), (g2r, .inl (cs 0, 16, .inl g2f))] H := hP
            replace hD : va_D A [(hpo, .inr (6, [.ref hr, .ref hg, .ref hgr])), (hr, .inr (7, [.int (nI n), .int (nI k), .int (nI al), .int (nI be), .int ea, .int pr, .ref sm, .int (nI se), .ref ca])), (hv, .inr (10, [.int ch, .int po, .ref av])), (av, .inl (cs 0, 32, .inl f)), (gs, .inl (cs 0, 16, .inl gsf)), (gme, .inl (cs 0, 8, .inl gmf)), (hgr, .inr (3, [.int (nI en), .ref gs, .ref g1r, .ref g2r, .ref gan, .ref gpr, .ref gde, .ref gme])), (g1r, .inl (cs 0, 16, .inl g1f)), (g2r, .inl (cs 0, 16, .inl g2f))] := hD
            refine xi (wr := [(hr, .inr (7, [.int (nI n), .int (nI k), .int (nI al), .int (nI be), .int ea, .int pr, .ref sm, .int (nI se), .ref ca])), (gme, .inl (cs 0, 8, .inl gmf)), (g1r, .inl (cs 0, 16, .inl g1f)), (g2r, .inl (cs 0, 16, .inl g2f))]) (xV (As := [.ref hv, .int r_14]) (rest := []) C (c_X6_areAccepted l D cs hpo hr hg hgr en gs g1r g2r gan gpr gde gme hv av ch po f gsf r_14 hen hgs) kX6_144 hP hD [0, 6, 2, 3, 4] rfl (by decide) 0 rfl rfl rfl ⟨Nat.le_of_ble_eq_true rfl, Nat.le_of_ble_eq_true rfl⟩ rfl hl.1 rfl (Nat.le_of_ble_eq_true rfl) dX6_isRipe_75 ⟨Nat.le_of_ble_eq_true rfl, Nat.le_of_ble_eq_true rfl⟩) hP hD hS hA [0, 6, 2, 3, 4] [1, 5, 7, 8] rfl rfl (by decide) (by decide) ?_
            clear hP hD hS
            try clear locs
            try clear H
            intro r_16 u_17 H locs hw_r_16 hP hD hS
            have hw_r_16 : (r_16 = nI 0 ∨ r_16 = nI 1) := hw_r_16
            refine W.widen (k := 0) (n := 0) (Nat.le_of_ble_eq_true rfl) (Nat.le_of_ble_eq_true rfl) ?_
            replace hP : va_P D vwCl [(hr, .inr (7, [.int (nI n), .int (nI k), .int (nI al), .int (nI be), .int ea, .int pr, .ref sm, .int (nI se), .ref ca])), (gme, .inl (cs 0, 8, .inl gmf)), (g1r, .inl (cs 0, 16, .inl g1f)), (g2r, .inl (cs 0, 16, .inl g2f)), (hpo, .inr (6, [.ref hr, .ref hg, .ref hgr])), (hgr, .inr (3, [.int (nI en), .ref gs, .ref g1r, .ref g2r, .ref gan, .ref gpr, .ref gde, .ref gme])), (hv, .inr (10, [.int ch, .int po, .ref av])), (av, .inl (cs 0, 32, .inl f)), (gs, .inl (cs 0, 16, .inl gsf))] H := hP
            replace hD : va_D A [(hr, .inr (7, [.int (nI n), .int (nI k), .int (nI al), .int (nI be), .int ea, .int pr, .ref sm, .int (nI se), .ref ca])), (gme, .inl (cs 0, 8, .inl gmf)), (g1r, .inl (cs 0, 16, .inl g1f)), (g2r, .inl (cs 0, 16, .inl g2f)), (hpo, .inr (6, [.ref hr, .ref hg, .ref hgr])), (hgr, .inr (3, [.int (nI en), .ref gs, .ref g1r, .ref g2r, .ref gan, .ref gpr, .ref gde, .ref gme])), (hv, .inr (10, [.int ch, .int po, .ref av])), (av, .inl (cs 0, 32, .inl f)), (gs, .inl (cs 0, 16, .inl gsf))] := hD
            refine lv_if_eq (tgt := 85) hx hb dX6_isRipe_78 (by decide) (fun c_18 => ?_) (fun c_18 => ?_)
            · -- 78 t
              refine lv_iconst (v := nI 0) hx hb dX6_isRipe_85 (by decide) ?_
              exact xreti C () (by decide) (xP_map hP [4, 0, 5, 6, 7, 8, 2, 3, 1] rfl) (hD.sub [4, 0, 5, 6, 7, 8, 2, 3, 1] (by decide) rfl) hS (Nat.le_of_ble_eq_true rfl) (Nat.le_of_ble_eq_true rfl) (by decide) dX6_isRipe_86
            · -- 78 f
              refine lv_iconst (v := nI 1) hx hb dX6_isRipe_81 (by decide) ?_
              refine lv_goto (tgt := 86) hx hb dX6_isRipe_82 (by decide) ?_
              exact xreti C () (by decide) (xP_map hP [4, 0, 5, 6, 7, 8, 2, 3, 1] rfl) (hD.sub [4, 0, 5, 6, 7, 8, 2, 3, 1] (by decide) rfl) hS (Nat.le_of_ble_eq_true rfl) (Nat.le_of_ble_eq_true rfl) (by decide) dX6_isRipe_86
    · -- 17 f
      refine lv_iconst (v := nI 0) hx hb dX6_isRipe_20 (by decide) ?_
      exact xreti C () (by decide) (xP_map hP [0, 1, 2, 7, 8, 3, 4, 5, 6] rfl) (hD.sub [0, 1, 2, 7, 8, 3, 4, 5, 6] (by decide) rfl) hS (Nat.le_of_ble_eq_true rfl) (Nat.le_of_ble_eq_true rfl) (by decide) dX6_isRipe_21

set_option maxHeartbeats 4000000 in
set_option maxRecDepth 100000 in
theorem c_X6_accept (l : Launch) (D : va_G) (cs : Nat → ClassId) (hpo : Nat) (hr sm ca n k al be se : Nat) (ea pr : Int32) (hg : Nat) (hgr en gs g1r g2r gan gpr gde gme : Nat) (hv av : Nat) (ch po : Int32) (f : Nat → Int32) (gsf g1f g2f gmf : Nat → Int32) (x : Int32) (hen : en ≤ 16) (hgs : inP 16 8 gsf) (hpr : prP f) : xMet l D cs yX6_accept cX6_accept 5 (some .boolean) ({ frames := 5, cells := 0, slots := 0, locals := 113 } : Room) [.ref hpo, .ref hv, .int x] [(hpo, .inr (6, [.ref hr, .ref hg, .ref hgr])), (hr, .inr (7, [.int (nI n), .int (nI k), .int (nI al), .int (nI be), .int ea, .int pr, .ref sm, .int (nI se), .ref ca])), (hgr, .inr (3, [.int (nI en), .ref gs, .ref g1r, .ref g2r, .ref gan, .ref gpr, .ref gde, .ref gme])), (hv, .inr (10, [.int ch, .int po, .ref av])), (av, .inl (cs 0, 32, .inl f)), (gs, .inl (cs 0, 16, .inl gsf)), (g1r, .inl (cs 0, 16, .inl g1f)), (g2r, .inl (cs 0, 16, .inl g2f)), (gme, .inl (cs 0, 8, .inl gmf))] (xQi D (fun (r : Int32) (fz : (Nat → Int32)) => (r = nI 0 ∨ r = nI 1) ∧ prP fz) (fun (fz : (Nat → Int32)) => [(hpo, .inr (6, [.ref hr, .ref hg, .ref hgr])), (hr, .inr (7, [.int (nI n), .int (nI k), .int (nI al), .int (nI be), .int ea, .int pr, .ref sm, .int (nI se), .ref ca])), (hgr, .inr (3, [.int (nI en), .ref gs, .ref g1r, .ref g2r, .ref gan, .ref gpr, .ref gde, .ref gme])), (hv, .inr (10, [.int ch, .int po, .ref av])), (av, .inl (cs 0, 32, .inl fz)), (gs, .inl (cs 0, 16, .inl gsf)), (g1r, .inl (cs 0, 16, .inl g1f)), (g2r, .inl (cs 0, 16, .inl g2f)), (gme, .inl (cs 0, 8, .inl gmf))])) := by
  refine xMet.intro (by decide) (Nat.le_of_ble_eq_true rfl) ?_
  intro p e s m args below meth c A ls C hP hD hS hl
  have hx := C.1
  have hb := C.2.1
  have hz := C.2.2.2.2.1
  have hown := C.2.2.2.1
  have hA := C.2.2.2.2.2.2.2.2.2
  have hAO := C.2.2.2.2.2.2.2.2.1.2.2
  replace hl : lv_has ls 5 [(0, .ref hpo), (1, .ref hv), (2, .int x)] := hl
  obtain ⟨H, hH⟩ : ∃ H, H = s.heap := ⟨_, rfl⟩
  replace hP : va_P D vwCl [(hpo, .inr (6, [.ref hr, .ref hg, .ref hgr])), (hr, .inr (7, [.int (nI n), .int (nI k), .int (nI al), .int (nI be), .int ea, .int pr, .ref sm, .int (nI se), .ref ca])), (hgr, .inr (3, [.int (nI en), .ref gs, .ref g1r, .ref g2r, .ref gan, .ref gpr, .ref gde, .ref gme])), (hv, .inr (10, [.int ch, .int po, .ref av])), (av, .inl (cs 0, 32, .inl f)), (gs, .inl (cs 0, 16, .inl gsf)), (g1r, .inl (cs 0, 16, .inl g1f)), (g2r, .inl (cs 0, 16, .inl g2f)), (gme, .inl (cs 0, 8, .inl gmf))] H := by rw [hH]; exact hP
  replace hS : va_S A s.heap H [] := by rw [hH]; exact hS
  obtain ⟨locs, hlocs⟩ : ∃ z : List Loc, z = [] := ⟨_, rfl⟩
  rw [← hlocs] at hS
  suffices hW : W p l e ({ frames := 5, cells := 0, slots := 0, locals := 113 } : Room) s m args below meth c H locs 0 0 (MQ below ((xQi D (fun (r : Int32) (fz : (Nat → Int32)) => (r = nI 0 ∨ r = nI 1) ∧ prP fz) (fun (fz : (Nat → Int32)) => [(hpo, .inr (6, [.ref hr, .ref hg, .ref hgr])), (hr, .inr (7, [.int (nI n), .int (nI k), .int (nI al), .int (nI be), .int ea, .int pr, .ref sm, .int (nI se), .ref ca])), (hgr, .inr (3, [.int (nI en), .ref gs, .ref g1r, .ref g2r, .ref gan, .ref gpr, .ref gde, .ref gme])), (hv, .inr (10, [.int ch, .int po, .ref av])), (av, .inl (cs 0, 32, .inl fz)), (gs, .inl (cs 0, 16, .inl gsf)), (g1r, .inl (cs 0, 16, .inl g1f)), (g2r, .inl (cs 0, 16, .inl g2f)), (gme, .inl (cs 0, 8, .inl gmf))])) A) args s 0 0 A) (F0 m 0 ls []) by rw [hlocs, hH] at hW; exact hW
  clear hH hlocs
  refine lv_iconst (v := nI 0) hx hb dX6_accept_0 (by decide) ?_
  refine lv_istore_n (lv' := [(3, .int (nI 0)), (0, .ref hpo), (1, .ref hv), (2, .int x)]) hx hb dX6_accept_1 rfl hl (by decide) rfl ?_
  clear hl
  try clear ls
  intro ls hl
  refine lv_iconst (v := nI 0) hx hb dX6_accept_2 (by decide) ?_
  refine lv_istore (lv' := [(4, .int (nI 0)), (3, .int (nI 0)), (0, .ref hpo), (1, .ref hv), (2, .int x)]) hx hb dX6_accept_3 hl (by decide) rfl ?_
  clear hl
  try clear ls
  intro ls hl
  have loop_1 : ∀ (n_loop_1 : Nat) (e9 : Nat) (f9 : Nat → Int32) (b9 : Nat), (e9 ≤ en) → (prP f9) → (b9 = 0 ∨ b9 = 1) → en - e9 < n_loop_1 → ∀ (H : Heap) (locs : List Loc) (ls : Array Slot), va_P D vwCl [(hpo, .inr (6, [.ref hr, .ref hg, .ref hgr])), (hr, .inr (7, [.int (nI n), .int (nI k), .int (nI al), .int (nI be), .int ea, .int pr, .ref sm, .int (nI se), .ref ca])), (hgr, .inr (3, [.int (nI en), .ref gs, .ref g1r, .ref g2r, .ref gan, .ref gpr, .ref gde, .ref gme])), (hv, .inr (10, [.int ch, .int po, .ref av])), (av, .inl (cs 0, 32, .inl f9)), (gs, .inl (cs 0, 16, .inl gsf)), (g1r, .inl (cs 0, 16, .inl g1f)), (g2r, .inl (cs 0, 16, .inl g2f)), (gme, .inl (cs 0, 8, .inl gmf))] H → va_D A [(hpo, .inr (6, [.ref hr, .ref hg, .ref hgr])), (hr, .inr (7, [.int (nI n), .int (nI k), .int (nI al), .int (nI be), .int ea, .int pr, .ref sm, .int (nI se), .ref ca])), (hgr, .inr (3, [.int (nI en), .ref gs, .ref g1r, .ref g2r, .ref gan, .ref gpr, .ref gde, .ref gme])), (hv, .inr (10, [.int ch, .int po, .ref av])), (av, .inl (cs 0, 32, .inl f9)), (gs, .inl (cs 0, 16, .inl gsf)), (g1r, .inl (cs 0, 16, .inl g1f)), (g2r, .inl (cs 0, 16, .inl g2f)), (gme, .inl (cs 0, 8, .inl gmf))] → va_S A s.heap H locs → lv_has ls 5 [(4, .int (nI e9)), (3, .int (nI b9)), (0, .ref hpo), (1, .ref hv), (2, .int x)] → W p l e ({ frames := 5, cells := 0, slots := 0, locals := 113 } : Room) s m args below meth c H locs 0 0 (MQ below ((xQi D (fun (r : Int32) (fz : (Nat → Int32)) => (r = nI 0 ∨ r = nI 1) ∧ prP fz) (fun (fz : (Nat → Int32)) => [(hpo, .inr (6, [.ref hr, .ref hg, .ref hgr])), (hr, .inr (7, [.int (nI n), .int (nI k), .int (nI al), .int (nI be), .int ea, .int pr, .ref sm, .int (nI se), .ref ca])), (hgr, .inr (3, [.int (nI en), .ref gs, .ref g1r, .ref g2r, .ref gan, .ref gpr, .ref gde, .ref gme])), (hv, .inr (10, [.int ch, .int po, .ref av])), (av, .inl (cs 0, 32, .inl fz)), (gs, .inl (cs 0, 16, .inl gsf)), (g1r, .inl (cs 0, 16, .inl g1f)), (g2r, .inl (cs 0, 16, .inl g2f)), (gme, .inl (cs 0, 8, .inl gmf))])) A) args s 0 0 A) (F0 m 5 ls []) := by
    intro n_loop_1
    induction n_loop_1 with
    | zero => intro e9 f9 b9 h_e9 hpr9 hb9 hlt H locs ls hP hD hS hl; exact absurd hlt (Nat.not_lt_zero _)
    | succ n_loop_1 ih_loop_1 =>
      intro e9 f9 b9 h_e9 hpr9 hb9 hlt_loop_1 H locs ls hP hD hS hl
      refine lv_iload hx hb dX6_accept_5 (lv_at hl 0 rfl) ?_
      refine lv_aload_n hx hb dX6_accept_7 rfl (lv_at hl 2 rfl) ?_
      refine xget C hP 0 rfl rfl zuX6 2 (by decide) zw2_25 rfl dX6_accept_8 ?_
      refine xget C hP 2 rfl rfl zuX3 0 (by decide) zw1_196 rfl dX6_accept_11 ?_
      refine lv_icmp_ge (tgt := 73) hx hb dX6_accept_14 (by decide) (fun c_2 => ?_) (fun c_2 => ?_)
      · -- 14 t
        have fc_2 : en ≤ e9 := nf_le (by omega) (by omega) c_2
        refine lv_iload_n hx hb dX6_accept_73 rfl (lv_at hl 1 rfl) ?_
        exact xreti C f9 (⟨hb9.elim (fun q => Or.inl (by rw [q])) (fun q => Or.inr (by rw [q])), hpr9⟩) hP hD hS (Nat.le_of_ble_eq_true rfl) (Nat.le_of_ble_eq_true rfl) (nb_of (r := nI b9) (hb9.elim (fun q => Or.inl (by rw [q])) (fun q => Or.inr (by rw [q])))) dX6_accept_74
      · -- 14 f
        have fc_2 : e9 < en := nf_nle (by omega) (by omega) c_2
        refine lv_aload_n hx hb dX6_accept_17 rfl (lv_at hl 2 rfl) ?_
        refine lv_aload_n hx hb dX6_accept_18 rfl (lv_at hl 3 rfl) ?_
        refine lv_iload_n hx hb dX6_accept_19 rfl (lv_at hl 4 rfl) ?_
        refine lv_iload hx hb dX6_accept_20 (lv_at hl 0 rfl) ?_
        refine xi (wr := [(hr, .inr (7, [.int (nI n), .int (nI k), .int (nI al), .int (nI be), .int ea, .int pr, .ref sm, .int (nI se), .ref ca])), (g1r, .inl (cs 0, 16, .inl g1f)), (g2r, .inl (cs 0, 16, .inl g2f)), (gme, .inl (cs 0, 8, .inl gmf))]) (xV (As := [.ref hv, .int x, .int (nI e9)]) (rest := []) C (c_X6_isOpenOf l D cs hpo hr hg hgr en gs g1r g2r gan gpr gde gme hv av ch po f9 gsf x e9 hgs (by omega)) kX6_114 hP hD [0, 2, 3, 4, 5] rfl (by decide) 0 rfl rfl rfl ⟨Nat.le_of_ble_eq_true rfl, Nat.le_of_ble_eq_true rfl⟩ rfl hl.1 rfl (Nat.le_of_ble_eq_true rfl) dX6_accept_22 ⟨Nat.le_of_ble_eq_true rfl, Nat.le_of_ble_eq_true rfl⟩) hP hD hS hA [0, 2, 3, 4, 5] [1, 6, 7, 8] rfl rfl (by decide) (by decide) ?_
        clear hP hD hS
        try clear locs
        try clear H
        intro r_3 u_4 H locs hw_r_3 hP hD hS
        have hw_r_3 : (r_3 = nI 0 ∨ r_3 = nI 1) := hw_r_3
        refine W.widen (k := 0) (n := 0) (Nat.le_of_ble_eq_true rfl) (Nat.le_of_ble_eq_true rfl) ?_
        replace hP : va_P D vwCl [(hr, .inr (7, [.int (nI n), .int (nI k), .int (nI al), .int (nI be), .int ea, .int pr, .ref sm, .int (nI se), .ref ca])), (g1r, .inl (cs 0, 16, .inl g1f)), (g2r, .inl (cs 0, 16, .inl g2f)), (gme, .inl (cs 0, 8, .inl gmf)), (hpo, .inr (6, [.ref hr, .ref hg, .ref hgr])), (hgr, .inr (3, [.int (nI en), .ref gs, .ref g1r, .ref g2r, .ref gan, .ref gpr, .ref gde, .ref gme])), (hv, .inr (10, [.int ch, .int po, .ref av])), (av, .inl (cs 0, 32, .inl f9)), (gs, .inl (cs 0, 16, .inl gsf))] H := hP
        replace hD : va_D A [(hr, .inr (7, [.int (nI n), .int (nI k), .int (nI al), .int (nI be), .int ea, .int pr, .ref sm, .int (nI se), .ref ca])), (g1r, .inl (cs 0, 16, .inl g1f)), (g2r, .inl (cs 0, 16, .inl g2f)), (gme, .inl (cs 0, 8, .inl gmf)), (hpo, .inr (6, [.ref hr, .ref hg, .ref hgr])), (hgr, .inr (3, [.int (nI en), .ref gs, .ref g1r, .ref g2r, .ref gan, .ref gpr, .ref gde, .ref gme])), (hv, .inr (10, [.int ch, .int po, .ref av])), (av, .inl (cs 0, 32, .inl f9)), (gs, .inl (cs 0, 16, .inl gsf))] := hD
        refine lv_if_eq (tgt := 67) hx hb dX6_accept_25 (by decide) (fun c_5 => ?_) (fun c_5 => ?_)
        · -- 25 t
          refine lv_iinc (v := nI (e9 + 1)) (lv' := [(4, .int (nI (e9 + 1))), (3, .int (nI b9)), (0, .ref hpo), (1, .ref hv), (2, .int x)]) hx hb dX6_accept_67 hl (k := 0) rfl (nI_add e9 1) (by decide) rfl ?_
          clear hl
          try clear ls
          intro ls hl
          refine lv_goto (tgt := 5) hx hb dX6_accept_70 (by decide) ?_
          exact ih_loop_1 (e9 + 1) f9 b9 (by omega) hpr9 hb9 (by omega) H locs ls (xP_map hP [4, 0, 5, 6, 7, 8, 1, 2, 3] rfl) (hD.sub [4, 0, 5, 6, 7, 8, 1, 2, 3] (by decide) rfl) hS (lv_sub hl [0, 1, 2, 3, 4] rfl)
        · -- 25 f
          refine lv_aload_n hx hb dX6_accept_28 rfl (lv_at hl 2 rfl) ?_
          refine lv_aload_n hx hb dX6_accept_29 rfl (lv_at hl 3 rfl) ?_
          refine lv_aload_n hx hb dX6_accept_30 rfl (lv_at hl 2 rfl) ?_
          refine xget C hP 4 rfl rfl zuX6 2 (by decide) zw2_25 rfl dX6_accept_31 ?_
          refine xget C hP 5 rfl rfl zuX3 1 (by decide) zw1_199 rfl dX6_accept_34 ?_
          refine lv_iload hx hb dX6_accept_37 (lv_at hl 0 rfl) ?_
          refine xiald C hP 8 rfl e9 rfl (by omega) (by decide) dX6_accept_39 ?_
          obtain ⟨t_6, h_t_6, e_t_6⟩ := hgs e9 (by omega)
          refine lv_topi (nm_r (e' := nI t_6) e_t_6 ?_)
          refine lv_iload hx hb dX6_accept_40 (lv_at hl 0 rfl) ?_
          refine xi (wr := []) (xV (As := [.ref hv, .int (nI t_6), .int (nI e9)]) (rest := []) C (c_X6_isRipe l D cs hpo hr sm ca n k al be se ea pr hg hgr en gs g1r g2r gan gpr gde gme hv av ch po f9 gsf g1f g2f gmf t_6 e9 hen hgs (by omega) (by omega)) kX6_129 hP hD [4, 0, 5, 6, 7, 8, 1, 2, 3] rfl (by decide) 0 rfl rfl rfl ⟨Nat.le_of_ble_eq_true rfl, Nat.le_of_ble_eq_true rfl⟩ rfl hl.1 rfl (Nat.le_of_ble_eq_true rfl) dX6_accept_42 ⟨Nat.le_of_ble_eq_true rfl, Nat.le_of_ble_eq_true rfl⟩) hP hD hS hA [4, 0, 5, 6, 7, 8, 1, 2, 3] [] rfl rfl (by decide) (by decide) ?_
          clear hP hD hS
          try clear locs
          try clear H
          intro r_7 u_8 H locs hw_r_7 hP hD hS
          have hw_r_7 : (r_7 = nI 0 ∨ r_7 = nI 1) := hw_r_7
          refine W.widen (k := 0) (n := 0) (Nat.le_of_ble_eq_true rfl) (Nat.le_of_ble_eq_true rfl) ?_
          replace hP : va_P D vwCl [(hpo, .inr (6, [.ref hr, .ref hg, .ref hgr])), (hr, .inr (7, [.int (nI n), .int (nI k), .int (nI al), .int (nI be), .int ea, .int pr, .ref sm, .int (nI se), .ref ca])), (hgr, .inr (3, [.int (nI en), .ref gs, .ref g1r, .ref g2r, .ref gan, .ref gpr, .ref gde, .ref gme])), (hv, .inr (10, [.int ch, .int po, .ref av])), (av, .inl (cs 0, 32, .inl f9)), (gs, .inl (cs 0, 16, .inl gsf)), (g1r, .inl (cs 0, 16, .inl g1f)), (g2r, .inl (cs 0, 16, .inl g2f)), (gme, .inl (cs 0, 8, .inl gmf))] H := hP
          replace hD : va_D A [(hpo, .inr (6, [.ref hr, .ref hg, .ref hgr])), (hr, .inr (7, [.int (nI n), .int (nI k), .int (nI al), .int (nI be), .int ea, .int pr, .ref sm, .int (nI se), .ref ca])), (hgr, .inr (3, [.int (nI en), .ref gs, .ref g1r, .ref g2r, .ref gan, .ref gpr, .ref gde, .ref gme])), (hv, .inr (10, [.int ch, .int po, .ref av])), (av, .inl (cs 0, 32, .inl f9)), (gs, .inl (cs 0, 16, .inl gsf)), (g1r, .inl (cs 0, 16, .inl g1f)), (g2r, .inl (cs 0, 16, .inl g2f)), (gme, .inl (cs 0, 8, .inl gmf))] := hD
          refine lv_if_eq (tgt := 67) hx hb dX6_accept_45 (by decide) (fun c_9 => ?_) (fun c_9 => ?_)
          · -- 45 t
            refine lv_iinc (v := nI (e9 + 1)) (lv' := [(4, .int (nI (e9 + 1))), (3, .int (nI b9)), (0, .ref hpo), (1, .ref hv), (2, .int x)]) hx hb dX6_accept_67 hl (k := 0) rfl (nI_add e9 1) (by decide) rfl ?_
            clear hl
            try clear ls
            intro ls hl
            refine lv_goto (tgt := 5) hx hb dX6_accept_70 (by decide) ?_
            exact ih_loop_1 (e9 + 1) f9 b9 (by omega) hpr9 hb9 (by omega) H locs ls hP hD hS (lv_sub hl [0, 1, 2, 3, 4] rfl)
          · -- 45 f
            refine lv_aload_n hx hb dX6_accept_48 rfl (lv_at hl 3 rfl) ?_
            refine lv_aload_n hx hb dX6_accept_49 rfl (lv_at hl 2 rfl) ?_
            refine xget C hP 0 rfl rfl zuX6 2 (by decide) zw2_25 rfl dX6_accept_50 ?_
            refine xget C hP 2 rfl rfl zuX3 1 (by decide) zw1_199 rfl dX6_accept_53 ?_
            refine lv_iload hx hb dX6_accept_56 (lv_at hl 0 rfl) ?_
            refine xiald C hP 5 rfl e9 rfl (by omega) (by decide) dX6_accept_58 ?_
            refine lv_topi (nm_r (e' := nI t_6) e_t_6 ?_)
            refine lv_iconst (v := nI 3) hx hb dX6_accept_59 (by decide) ?_
            refine lv_iload hx hb dX6_accept_60 (lv_at hl 0 rfl) ?_
            refine xv (wr := [(hpo, .inr (6, [.ref hr, .ref hg, .ref hgr])), (hr, .inr (7, [.int (nI n), .int (nI k), .int (nI al), .int (nI be), .int ea, .int pr, .ref sm, .int (nI se), .ref ca])), (hgr, .inr (3, [.int (nI en), .ref gs, .ref g1r, .ref g2r, .ref gan, .ref gpr, .ref gde, .ref gme])), (gs, .inl (cs 0, 16, .inl gsf)), (g1r, .inl (cs 0, 16, .inl g1f)), (g2r, .inl (cs 0, 16, .inl g2f)), (gme, .inl (cs 0, 8, .inl gmf))]) (xV (As := [.int (nI t_6), .int (nI 3), .int (nI e9)]) (rest := []) C (c_X10_put l D cs hv av ch po f9 t_6 3 (nI e9) (by omega) (by decide)) kX6_118 hP hD [3, 4] rfl (by decide) 0 rfl rfl rfl ⟨Nat.le_of_ble_eq_true rfl, Nat.le_of_ble_eq_true rfl⟩ rfl hl.1 rfl (Nat.le_of_ble_eq_true rfl) dX6_accept_62 ⟨Nat.le_of_ble_eq_true rfl, Nat.le_of_ble_eq_true rfl⟩) hP hD hS hA [3, 4] [0, 1, 2, 5, 6, 7, 8] rfl rfl (by decide) (by decide) ?_
            clear hP hD hS
            try clear locs
            try clear H
            intro u_11 H locs hw_r_10 hP hD hS
            refine W.widen (k := 0) (n := 0) (Nat.le_of_ble_eq_true rfl) (Nat.le_of_ble_eq_true rfl) ?_
            replace hP : va_P D vwCl [(hpo, .inr (6, [.ref hr, .ref hg, .ref hgr])), (hr, .inr (7, [.int (nI n), .int (nI k), .int (nI al), .int (nI be), .int ea, .int pr, .ref sm, .int (nI se), .ref ca])), (hgr, .inr (3, [.int (nI en), .ref gs, .ref g1r, .ref g2r, .ref gan, .ref gpr, .ref gde, .ref gme])), (gs, .inl (cs 0, 16, .inl gsf)), (g1r, .inl (cs 0, 16, .inl g1f)), (g2r, .inl (cs 0, 16, .inl g2f)), (gme, .inl (cs 0, 8, .inl gmf)), (hv, .inr (10, [.int ch, .int po, .ref av])), (av, .inl (cs 0, 32, .inl (upd f9 (t_6 * 4 + 3) (nI e9))))] H := hP
            replace hD : va_D A [(hpo, .inr (6, [.ref hr, .ref hg, .ref hgr])), (hr, .inr (7, [.int (nI n), .int (nI k), .int (nI al), .int (nI be), .int ea, .int pr, .ref sm, .int (nI se), .ref ca])), (hgr, .inr (3, [.int (nI en), .ref gs, .ref g1r, .ref g2r, .ref gan, .ref gpr, .ref gde, .ref gme])), (gs, .inl (cs 0, 16, .inl gsf)), (g1r, .inl (cs 0, 16, .inl g1f)), (g2r, .inl (cs 0, 16, .inl g2f)), (gme, .inl (cs 0, 8, .inl gmf)), (hv, .inr (10, [.int ch, .int po, .ref av])), (av, .inl (cs 0, 32, .inl (upd f9 (t_6 * 4 + 3) (nI e9))))] := hD
            refine lv_iconst (v := nI 1) hx hb dX6_accept_65 (by decide) ?_
            refine lv_istore_n (lv' := [(3, .int (nI 1)), (4, .int (nI e9)), (0, .ref hpo), (1, .ref hv), (2, .int x)]) hx hb dX6_accept_66 rfl hl (by decide) rfl ?_
            clear hl
            try clear ls
            intro ls hl
            refine lv_iinc (v := nI (e9 + 1)) (lv' := [(4, .int (nI (e9 + 1))), (3, .int (nI 1)), (0, .ref hpo), (1, .ref hv), (2, .int x)]) hx hb dX6_accept_67 hl (k := 1) rfl (nI_add e9 1) (by decide) rfl ?_
            clear hl
            try clear ls
            intro ls hl
            refine lv_goto (tgt := 5) hx hb dX6_accept_70 (by decide) ?_
            exact ih_loop_1 (e9 + 1) (upd f9 (t_6 * 4 + 3) (nI e9)) 1 (by omega) (prP_o hpr9 _ _ _ (by decide)) (Or.inr rfl) (by omega) H locs ls (xP_map hP [0, 1, 2, 7, 8, 3, 4, 5, 6] rfl) (hD.sub [0, 1, 2, 7, 8, 3, 4, 5, 6] (by decide) rfl) hS (lv_sub hl [0, 1, 2, 3, 4] rfl)
  exact loop_1 _ 0 f 0 (by omega) hpr (Or.inl rfl) (Nat.lt_succ_self _) H locs ls hP hD hS (lv_sub hl [0, 1, 2, 3, 4] rfl)
