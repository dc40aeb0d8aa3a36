set_option maxHeartbeats 4000000 in
set_option maxRecDepth 100000 in
theorem c_X3_lineOf_f (l : Launch) (D : va_G) (cs : Nat → ClassId) (hgr en gs g1r g2r gan gpr gde gme : Nat) (gaf : Nat → Int32) (j : Nat) (hen : en ≤ 16) (hj : j < en) : xMet l D cs yX3_lineOf cX3_lineOf 2 (some .int) ({ frames := 1, cells := 0, slots := 0, locals := 21 } : Room) [.ref hgr, .int (nI j)] [(hgr, .inr (3, [.int (nI en), .ref gs, .ref g1r, .ref g2r, .ref gan, .ref gpr, .ref gde, .ref gme])), (gan, .inl (cs 0, 16, .inl gaf))] (xQi D (fun (r : Int32) (_u : Unit) => r = gaf j ||| bitI j) (fun (_u : Unit) => [(hgr, .inr (3, [.int (nI en), .ref gs, .ref g1r, .ref g2r, .ref gan, .ref gpr, .ref gde, .ref gme])), (gan, .inl (cs 0, 16, .inl gaf))])) := by
  refine xMet.intro (by decide) (Nat.le_of_ble_eq_true rfl) ?_
  intro p e s m args below meth c A ls C hP hD hS hl
  have hx := C.1
  have hb := C.2.1
  have hz := C.2.2.2.2.1
  have hown := C.2.2.2.1
  have hA := C.2.2.2.2.2.2.2.2.2
  have hAO := C.2.2.2.2.2.2.2.2.1.2.2
  replace hl : lv_has ls 2 [(0, .ref hgr), (1, .int (nI j))] := hl
  obtain ⟨H, hH⟩ : ∃ H, H = s.heap := ⟨_, rfl⟩
  replace hP : va_P D vwCl [(hgr, .inr (3, [.int (nI en), .ref gs, .ref g1r, .ref g2r, .ref gan, .ref gpr, .ref gde, .ref gme])), (gan, .inl (cs 0, 16, .inl gaf))] H := by rw [hH]; exact hP
  replace hS : va_S A s.heap H [] := by rw [hH]; exact hS
  obtain ⟨locs, hlocs⟩ : ∃ z : List Loc, z = [] := ⟨_, rfl⟩
  rw [← hlocs] at hS
  suffices hW : W p l e ({ frames := 1, cells := 0, slots := 0, locals := 21 } : Room) s m args below meth c H locs 0 0 (MQ below ((xQi D (fun (r : Int32) (_u : Unit) => r = gaf j ||| bitI j) (fun (_u : Unit) => [(hgr, .inr (3, [.int (nI en), .ref gs, .ref g1r, .ref g2r, .ref gan, .ref gpr, .ref gde, .ref gme])), (gan, .inl (cs 0, 16, .inl gaf))])) A) args s 0 0 A) (F0 m 0 ls []) by rw [hlocs, hH] at hW; exact hW
  clear hH hlocs
  refine lv_aload_n hx hb dX3_lineOf_0 rfl (lv_at hl 0 rfl) ?_
  refine lv_iload_n hx hb dX3_lineOf_1 rfl (lv_at hl 1 rfl) ?_
  refine xi (wr := [(gan, .inl (cs 0, 16, .inl gaf))]) (xV (As := [.int (nI j)]) (rest := []) C (c_X3_isEntry l D cs hgr en gs g1r g2r gan gpr gde gme (nI j) (by first | omega | decide)) kX3_43 hP hD [0] rfl (by decide +kernel) 0 rfl rfl rfl ⟨Nat.le_of_ble_eq_true rfl, Nat.le_of_ble_eq_true rfl⟩ rfl hl.1 rfl (Nat.le_of_ble_eq_true rfl) dX3_lineOf_2 ⟨Nat.le_of_ble_eq_true rfl, Nat.le_of_ble_eq_true rfl⟩) hP hD hS hA [0] [1] rfl rfl (by decide +kernel) (by decide +kernel) ?_
  clear hP hD hS
  try clear locs
  try clear H
  intro r_1 u_2 H locs hw_r_1 hP hD hS
  have hw_r_1 : PQ (okN en (nI j)) r_1 (nI 1) (nI 0) := hw_r_1
  refine W.widen (k := 0) (n := 0) (Nat.le_of_ble_eq_true rfl) (Nat.le_of_ble_eq_true rfl) ?_
  replace hP : va_P D vwCl [(gan, .inl (cs 0, 16, .inl gaf)), (hgr, .inr (3, [.int (nI en), .ref gs, .ref g1r, .ref g2r, .ref gan, .ref gpr, .ref gde, .ref gme]))] H := hP
  replace hD : va_D A [(gan, .inl (cs 0, 16, .inl gaf)), (hgr, .inr (3, [.int (nI en), .ref gs, .ref g1r, .ref g2r, .ref gan, .ref gpr, .ref gde, .ref gme]))] := hD
  refine lv_if_eq (tgt := 21) hx hb dX3_lineOf_5 (by decide) (fun c => absurd c (fun c => PQ.no hw_r_1 c (by decide) (okN_nI hj (by omega)))) (fun _ => ?_)
  refine lv_aload_n hx hb dX3_lineOf_8 rfl (lv_at hl 0 rfl) ?_
  refine xget C hP 1 rfl rfl zuX3 4 (by decide) zw1_205 rfl dX3_lineOf_9 ?_
  refine lv_iload_n hx hb dX3_lineOf_12 rfl (lv_at hl 1 rfl) ?_
  refine xiald C hP 0 rfl j rfl (by omega) (by decide) dX3_lineOf_13 ?_
  refine lv_iconst (v := nI 1) hx hb dX3_lineOf_14 (by decide) ?_
  refine lv_iload_n hx hb dX3_lineOf_15 rfl (lv_at hl 1 rfl) ?_
  refine lv_ishl hx hb dX3_lineOf_16 ?_
  refine lv_ior hx hb dX3_lineOf_17 ?_
  refine lv_goto (tgt := 22) hx hb dX3_lineOf_18 (by decide) ?_
  exact xreti C () rfl (xP_map hP [1, 0] rfl) (hD.sub [1, 0] (by decide +kernel) rfl) hS (Nat.le_of_ble_eq_true rfl) (Nat.le_of_ble_eq_true rfl) rfl dX3_lineOf_22

set_option maxHeartbeats 4000000 in
set_option maxRecDepth 100000 in
theorem c_X6_confidence_f (l : Launch) (D : va_G) (cs : Nat → ClassId) (hpo : Nat) (hr hg : Nat) (hgr en gs g1r g2r gan gpr gde gme : Nat) (hv av : Nat) (ch po : Int32) (f : Nat → Int32) (gpf : Nat → Int32) (e0 : Nat) (he : e0 < 16) : xMet l D cs yX6_confidence cX6_confidence 3 (some .int) ({ frames := 1, cells := 0, slots := 0, locals := 20 } : Room) [.ref hpo, .ref hv, .int (nI e0)] [(hpo, .inr (6, [.ref hr, .ref hg, .ref hgr])), (hgr, .inr (3, [.int (nI en), .ref gs, .ref g1r, .ref g2r, .ref gan, .ref gpr, .ref gde, .ref gme])), (hv, .inr (10, [.int ch, .int po, .ref av])), (av, .inl (cs 0, 32, .inl f)), (gpr, .inl (cs 0, 16, .inl gpf))] (xQi D (fun (r : Int32) (_u : Unit) => r = cnfC gpf ch e0) (fun (_u : Unit) => [(hpo, .inr (6, [.ref hr, .ref hg, .ref hgr])), (hgr, .inr (3, [.int (nI en), .ref gs, .ref g1r, .ref g2r, .ref gan, .ref gpr, .ref gde, .ref gme])), (hv, .inr (10, [.int ch, .int po, .ref av])), (av, .inl (cs 0, 32, .inl f)), (gpr, .inl (cs 0, 16, .inl gpf))])) := by
  refine xMet.intro (by decide) (Nat.le_of_ble_eq_true rfl) ?_
  intro p e s m args below meth c A ls C hP hD hS hl
  have hx := C.1
  have hb := C.2.1
  have hz := C.2.2.2.2.1
  have hown := C.2.2.2.1
  have hA := C.2.2.2.2.2.2.2.2.2
  have hAO := C.2.2.2.2.2.2.2.2.1.2.2
  replace hl : lv_has ls 3 [(0, .ref hpo), (1, .ref hv), (2, .int (nI e0))] := hl
  obtain ⟨H, hH⟩ : ∃ H, H = s.heap := ⟨_, rfl⟩
  replace hP : va_P D vwCl [(hpo, .inr (6, [.ref hr, .ref hg, .ref hgr])), (hgr, .inr (3, [.int (nI en), .ref gs, .ref g1r, .ref g2r, .ref gan, .ref gpr, .ref gde, .ref gme])), (hv, .inr (10, [.int ch, .int po, .ref av])), (av, .inl (cs 0, 32, .inl f)), (gpr, .inl (cs 0, 16, .inl gpf))] H := by rw [hH]; exact hP
  replace hS : va_S A s.heap H [] := by rw [hH]; exact hS
  obtain ⟨locs, hlocs⟩ : ∃ z : List Loc, z = [] := ⟨_, rfl⟩
  rw [← hlocs] at hS
  suffices hW : W p l e ({ frames := 1, cells := 0, slots := 0, locals := 20 } : Room) s m args below meth c H locs 0 0 (MQ below ((xQi D (fun (r : Int32) (_u : Unit) => r = cnfC gpf ch e0) (fun (_u : Unit) => [(hpo, .inr (6, [.ref hr, .ref hg, .ref hgr])), (hgr, .inr (3, [.int (nI en), .ref gs, .ref g1r, .ref g2r, .ref gan, .ref gpr, .ref gde, .ref gme])), (hv, .inr (10, [.int ch, .int po, .ref av])), (av, .inl (cs 0, 32, .inl f)), (gpr, .inl (cs 0, 16, .inl gpf))])) A) args s 0 0 A) (F0 m 0 ls []) by rw [hlocs, hH] at hW; exact hW
  clear hH hlocs
  refine lv_aload_n hx hb dX6_confidence_0 rfl (lv_at hl 1 rfl) ?_
  refine xget C hP 2 rfl rfl zuX10 0 (by decide) zw1_141 rfl dX6_confidence_1 ?_
  refine lv_aload_n hx hb dX6_confidence_4 rfl (lv_at hl 0 rfl) ?_
  refine xget C hP 0 rfl rfl zuX6 2 (by decide) zw2_25 rfl dX6_confidence_5 ?_
  refine xget C hP 1 rfl rfl zuX3 5 (by decide) zw1_208 rfl dX6_confidence_8 ?_
  refine lv_iload_n hx hb dX6_confidence_11 rfl (lv_at hl 2 rfl) ?_
  refine xiald C hP 4 rfl e0 rfl (by omega) (by decide) dX6_confidence_12 ?_
  refine lv_iconst (v := nI 1) hx hb dX6_confidence_13 (by decide) ?_
  refine lv_iload_n hx hb dX6_confidence_14 rfl (lv_at hl 2 rfl) ?_
  refine lv_ishl hx hb dX6_confidence_15 ?_
  refine lv_ior hx hb dX6_confidence_16 ?_
  refine lv_iand hx hb dX6_confidence_17 ?_
  refine xi (wr := [(hpo, .inr (6, [.ref hr, .ref hg, .ref hgr])), (hgr, .inr (3, [.int (nI en), .ref gs, .ref g1r, .ref g2r, .ref gan, .ref gpr, .ref gde, .ref gme])), (hv, .inr (10, [.int ch, .int po, .ref av])), (av, .inl (cs 0, 32, .inl f)), (gpr, .inl (cs 0, 16, .inl gpf))]) (xS (As := [.int (ch &&& ((gpf e0) ||| ((nI 1) <<< ((nI e0) &&& 31))))]) (rest := []) C (c_J6_bitCount_0f7a4 l D cs (ch &&& ((gpf e0) ||| ((nI 1) <<< ((nI e0) &&& 31))))) kX6_56 hP hD [] rfl (by decide +kernel) ⟨Nat.le_of_ble_eq_true rfl, Nat.le_of_ble_eq_true rfl⟩ rfl hl.1 rfl (Nat.le_of_ble_eq_true rfl) dX6_confidence_18 ⟨Nat.le_of_ble_eq_true rfl, Nat.le_of_ble_eq_true rfl⟩) hP hD hS hA [] [0, 1, 2, 3, 4] rfl rfl (by decide +kernel) (by decide +kernel) ?_
  clear hP hD hS
  try clear locs
  try clear H
  intro r_1 u_2 H locs hw_r_1 hP hD hS
  have hw_r_1 : r_1 = bcF (ch &&& ((gpf e0) ||| ((nI 1) <<< ((nI e0) &&& 31)))) := hw_r_1
  refine W.widen (k := 0) (n := 0) (Nat.le_of_ble_eq_true rfl) (Nat.le_of_ble_eq_true rfl) ?_
  replace hP : va_P D vwCl [(hpo, .inr (6, [.ref hr, .ref hg, .ref hgr])), (hgr, .inr (3, [.int (nI en), .ref gs, .ref g1r, .ref g2r, .ref gan, .ref gpr, .ref gde, .ref gme])), (hv, .inr (10, [.int ch, .int po, .ref av])), (av, .inl (cs 0, 32, .inl f)), (gpr, .inl (cs 0, 16, .inl gpf))] H := hP
  replace hD : va_D A [(hpo, .inr (6, [.ref hr, .ref hg, .ref hgr])), (hgr, .inr (3, [.int (nI en), .ref gs, .ref g1r, .ref g2r, .ref gan, .ref gpr, .ref gde, .ref gme])), (hv, .inr (10, [.int ch, .int po, .ref av])), (av, .inl (cs 0, 32, .inl f)), (gpr, .inl (cs 0, 16, .inl gpf))] := hD
  exact xreti C () hw_r_1 hP hD hS (Nat.le_of_ble_eq_true rfl) (Nat.le_of_ble_eq_true rfl) rfl dX6_confidence_21

set_option maxHeartbeats 4000000 in
set_option maxRecDepth 100000 in
theorem c_X6_isStrong_f (l : Launch) (D : va_G) (cs : Nat → ClassId) (hpo : Nat) (hr hg : Nat) (hgr en gs g1r g2r gan gpr gde gme : Nat) (hv av : Nat) (ch po : Int32) (f : Nat → Int32) (gaf gsf : Nat → Int32) (e0 : Nat) (hen : en ≤ 16) (he : e0 < en) (hgs : inP 16 8 gsf) : xMet l D cs yX6_isStrong cX6_isStrong 5 (some .boolean) ({ frames := 2, cells := 0, slots := 0, locals := 42 } : Room) [.ref hpo, .ref hv, .int (nI e0)] [(hpo, .inr (6, [.ref hr, .ref hg, .ref hgr])), (hgr, .inr (3, [.int (nI en), .ref gs, .ref g1r, .ref g2r, .ref gan, .ref gpr, .ref gde, .ref gme])), (hv, .inr (10, [.int ch, .int po, .ref av])), (av, .inl (cs 0, 32, .inl f)), (gan, .inl (cs 0, 16, .inl gaf)), (gs, .inl (cs 0, 16, .inl gsf))] (xQi D (fun (r : Int32) (_u : Unit) => PQ (strC gaf gsf f e0) r (nI 1) (nI 0)) (fun (_u : Unit) => [(hpo, .inr (6, [.ref hr, .ref hg, .ref hgr])), (hgr, .inr (3, [.int (nI en), .ref gs, .ref g1r, .ref g2r, .ref gan, .ref gpr, .ref gde, .ref gme])), (hv, .inr (10, [.int ch, .int po, .ref av])), (av, .inl (cs 0, 32, .inl f)), (gan, .inl (cs 0, 16, .inl gaf)), (gs, .inl (cs 0, 16, .inl gsf))])) := by
  refine xMet.intro (by decide) (Nat.le_of_ble_eq_true rfl) ?_
  intro p e s m args below meth c A ls C hP hD hS hl
  have hx := C.1
  have hb := C.2.1
  have hz := C.2.2.2.2.1
  have hown := C.2.2.2.1
  have hA := C.2.2.2.2.2.2.2.2.2
  have hAO := C.2.2.2.2.2.2.2.2.1.2.2
  replace hl : lv_has ls 5 [(0, .ref hpo), (1, .ref hv), (2, .int (nI e0))] := hl
  obtain ⟨H, hH⟩ : ∃ H, H = s.heap := ⟨_, rfl⟩
  replace hP : va_P D vwCl [(hpo, .inr (6, [.ref hr, .ref hg, .ref hgr])), (hgr, .inr (3, [.int (nI en), .ref gs, .ref g1r, .ref g2r, .ref gan, .ref gpr, .ref gde, .ref gme])), (hv, .inr (10, [.int ch, .int po, .ref av])), (av, .inl (cs 0, 32, .inl f)), (gan, .inl (cs 0, 16, .inl gaf)), (gs, .inl (cs 0, 16, .inl gsf))] H := by rw [hH]; exact hP
  replace hS : va_S A s.heap H [] := by rw [hH]; exact hS
  obtain ⟨locs, hlocs⟩ : ∃ z : List Loc, z = [] := ⟨_, rfl⟩
  rw [← hlocs] at hS
  suffices hW : W p l e ({ frames := 2, cells := 0, slots := 0, locals := 42 } : Room) s m args below meth c H locs 0 0 (MQ below ((xQi D (fun (r : Int32) (_u : Unit) => PQ (strC gaf gsf f e0) r (nI 1) (nI 0)) (fun (_u : Unit) => [(hpo, .inr (6, [.ref hr, .ref hg, .ref hgr])), (hgr, .inr (3, [.int (nI en), .ref gs, .ref g1r, .ref g2r, .ref gan, .ref gpr, .ref gde, .ref gme])), (hv, .inr (10, [.int ch, .int po, .ref av])), (av, .inl (cs 0, 32, .inl f)), (gan, .inl (cs 0, 16, .inl gaf)), (gs, .inl (cs 0, 16, .inl gsf))])) A) args s 0 0 A) (F0 m 0 ls []) by rw [hlocs, hH] at hW; exact hW
  clear hH hlocs
  refine lv_aload_n hx hb dX6_isStrong_0 rfl (lv_at hl 0 rfl) ?_
  refine xget C hP 0 rfl rfl zuX6 2 (by decide) zw2_25 rfl dX6_isStrong_1 ?_
  refine lv_iload_n hx hb dX6_isStrong_4 rfl (lv_at hl 2 rfl) ?_
  refine xi (wr := [(hpo, .inr (6, [.ref hr, .ref hg, .ref hgr])), (hv, .inr (10, [.int ch, .int po, .ref av])), (av, .inl (cs 0, 32, .inl f)), (gs, .inl (cs 0, 16, .inl gsf))]) (xV (As := [.int (nI e0)]) (rest := []) C (c_X3_lineOf_f l D cs hgr en gs g1r g2r gan gpr gde gme gaf e0 hen (by omega)) kX6_62 hP hD [1, 4] rfl (by decide +kernel) 0 rfl rfl rfl ⟨Nat.le_of_ble_eq_true rfl, Nat.le_of_ble_eq_true rfl⟩ rfl hl.1 rfl (Nat.le_of_ble_eq_true rfl) dX6_isStrong_5 ⟨Nat.le_of_ble_eq_true rfl, Nat.le_of_ble_eq_true rfl⟩) hP hD hS hA [1, 4] [0, 2, 3, 5] rfl rfl (by decide +kernel) (by decide +kernel) ?_
  clear hP hD hS
  try clear locs
  try clear H
  intro r_1 u_2 H locs hw_r_1 hP hD hS
  have hw_r_1 : r_1 = gaf e0 ||| bitI e0 := hw_r_1
  refine W.widen (k := 0) (n := 0) (Nat.le_of_ble_eq_true rfl) (Nat.le_of_ble_eq_true rfl) ?_
  replace hP : va_P D vwCl [(hpo, .inr (6, [.ref hr, .ref hg, .ref hgr])), (hv, .inr (10, [.int ch, .int po, .ref av])), (av, .inl (cs 0, 32, .inl f)), (gs, .inl (cs 0, 16, .inl gsf)), (hgr, .inr (3, [.int (nI en), .ref gs, .ref g1r, .ref g2r, .ref gan, .ref gpr, .ref gde, .ref gme])), (gan, .inl (cs 0, 16, .inl gaf))] H := hP
  replace hD : va_D A [(hpo, .inr (6, [.ref hr, .ref hg, .ref hgr])), (hv, .inr (10, [.int ch, .int po, .ref av])), (av, .inl (cs 0, 32, .inl f)), (gs, .inl (cs 0, 16, .inl gsf)), (hgr, .inr (3, [.int (nI en), .ref gs, .ref g1r, .ref g2r, .ref gan, .ref gpr, .ref gde, .ref gme])), (gan, .inl (cs 0, 16, .inl gaf))] := hD
  obtain rfl : r_1 = gaf e0 ||| bitI e0 := hw_r_1
  refine lv_istore_n (lv' := [(3, .int (gaf e0 ||| bitI e0)), (0, .ref hpo), (1, .ref hv), (2, .int (nI e0))]) hx hb dX6_isStrong_8 rfl hl (by decide) rfl ?_
  clear hl
  try clear ls
  intro ls hl
  refine lv_iconst (v := nI 0) hx hb dX6_isStrong_9 (by decide) ?_
  refine lv_istore (lv' := [(4, .int (nI 0)), (3, .int (gaf e0 ||| bitI e0)), (0, .ref hpo), (1, .ref hv), (2, .int (nI e0))]) hx hb dX6_isStrong_10 hl (by decide) rfl ?_
  clear hl
  try clear ls
  intro ls hl
  have loop_3 : ∀ (n_loop_3 : Nat) (e9 : Nat), (e9 ≤ 16) → (∀ i, i < e9 → hasB (gaf e0 ||| bitI e0) i → f (sT gsf i * 4 + 0) = nI i) → 16 - e9 < n_loop_3 → ∀ (H : Heap) (locs : List Loc) (ls : Array Slot), va_P D vwCl [(hpo, .inr (6, [.ref hr, .ref hg, .ref hgr])), (hv, .inr (10, [.int ch, .int po, .ref av])), (av, .inl (cs 0, 32, .inl f)), (gs, .inl (cs 0, 16, .inl gsf)), (hgr, .inr (3, [.int (nI en), .ref gs, .ref g1r, .ref g2r, .ref gan, .ref gpr, .ref gde, .ref gme])), (gan, .inl (cs 0, 16, .inl gaf))] H → va_D A [(hpo, .inr (6, [.ref hr, .ref hg, .ref hgr])), (hv, .inr (10, [.int ch, .int po, .ref av])), (av, .inl (cs 0, 32, .inl f)), (gs, .inl (cs 0, 16, .inl gsf)), (hgr, .inr (3, [.int (nI en), .ref gs, .ref g1r, .ref g2r, .ref gan, .ref gpr, .ref gde, .ref gme])), (gan, .inl (cs 0, 16, .inl gaf))] → va_S A s.heap H locs → lv_has ls 5 [(4, .int (nI e9)), (3, .int (gaf e0 ||| bitI e0)), (0, .ref hpo), (1, .ref hv), (2, .int (nI e0))] → W p l e ({ frames := 2, cells := 0, slots := 0, locals := 42 } : Room) s m args below meth c H locs 0 0 (MQ below ((xQi D (fun (r : Int32) (_u : Unit) => PQ (strC gaf gsf f e0) r (nI 1) (nI 0)) (fun (_u : Unit) => [(hpo, .inr (6, [.ref hr, .ref hg, .ref hgr])), (hgr, .inr (3, [.int (nI en), .ref gs, .ref g1r, .ref g2r, .ref gan, .ref gpr, .ref gde, .ref gme])), (hv, .inr (10, [.int ch, .int po, .ref av])), (av, .inl (cs 0, 32, .inl f)), (gan, .inl (cs 0, 16, .inl gaf)), (gs, .inl (cs 0, 16, .inl gsf))])) A) args s 0 0 A) (F0 m 12 ls []) := by
    intro n_loop_3
    induction n_loop_3 with
    | zero => intro e9 h_e9 hst9 hlt H locs ls hP hD hS hl; exact absurd hlt (Nat.not_lt_zero _)
    | succ n_loop_3 ih_loop_3 =>
      intro e9 h_e9 hst9 hlt_loop_3 H locs ls hP hD hS hl
      refine lv_iload hx hb dX6_isStrong_12 (lv_at hl 0 rfl) ?_
      refine lv_iload_n hx hb dX6_isStrong_14 rfl (lv_at hl 4 rfl) ?_
      refine lv_icmp_gt (tgt := 56) hx hb dX6_isStrong_15 (by decide) (fun c_4 => ?_) (fun c_4 => ?_)
      · -- 15 t
        have fc_4 : e0 < e9 := nf_lt (by omega) (by omega) c_4
        refine lv_iconst (v := nI 1) hx hb dX6_isStrong_56 (by decide) ?_
        exact xreti C () (Or.inl ⟨fun i hi hb => hst9 i (by omega) hb, rfl⟩) (xP_map hP [0, 4, 1, 2, 5, 3] rfl) (hD.sub [0, 4, 1, 2, 5, 3] (by decide +kernel) rfl) hS (Nat.le_of_ble_eq_true rfl) (Nat.le_of_ble_eq_true rfl) (by decide) dX6_isStrong_57
      · -- 15 f
        have fc_4 : e9 ≤ e0 := nf_nlt (by omega) (by omega) c_4
        refine lv_iload_n hx hb dX6_isStrong_18 rfl (lv_at hl 1 rfl) ?_
        refine lv_iload hx hb dX6_isStrong_19 (lv_at hl 0 rfl) ?_
        refine lv_ishr hx hb dX6_isStrong_21 ?_
        refine lv_iconst (v := nI 1) hx hb dX6_isStrong_22 (by decide) ?_
        refine lv_iand hx hb dX6_isStrong_23 ?_
        refine lv_iconst (v := nI 1) hx hb dX6_isStrong_24 (by decide) ?_
        refine lv_icmp_ne (tgt := 50) hx hb dX6_isStrong_25 (by decide) (fun c_5 => ?_) (fun c_5 => ?_)
        · -- 25 t
          refine lv_iinc (v := nI (e9 + 1)) (lv' := [(4, .int (nI (e9 + 1))), (3, .int (gaf e0 ||| bitI e0)), (0, .ref hpo), (1, .ref hv), (2, .int (nI e0))]) hx hb dX6_isStrong_50 hl (k := 0) rfl (nI_add e9 1) (by decide) rfl ?_
          clear hl
          try clear ls
          intro ls hl
          refine lv_goto (tgt := 12) hx hb dX6_isStrong_53 (by decide) ?_
          exact ih_loop_3 (e9 + 1) (by omega) (fun i hi hb => by by_cases q : i = e9; subst q; exact absurd hb c_5; exact hst9 i (by omega) hb) (by omega) H locs ls hP hD hS (lv_sub hl [0, 1, 2, 3, 4] rfl)
        · -- 25 f
          refine lv_aload_n hx hb dX6_isStrong_28 rfl (lv_at hl 3 rfl) ?_
          refine lv_aload_n hx hb dX6_isStrong_29 rfl (lv_at hl 2 rfl) ?_
          refine xget C hP 0 rfl rfl zuX6 2 (by decide) zw2_25 rfl dX6_isStrong_30 ?_
          refine xget C hP 4 rfl rfl zuX3 1 (by decide) zw1_199 rfl dX6_isStrong_33 ?_
          refine lv_iload hx hb dX6_isStrong_36 (lv_at hl 0 rfl) ?_
          refine xiald C hP 3 rfl e9 rfl (by omega) (by decide) dX6_isStrong_38 ?_
          refine lv_topi (nm_r (e' := nI (sT gsf e9)) ((sT_eq hgs (by omega)).2) ?_)
          refine lv_iconst (v := nI 0) hx hb dX6_isStrong_39 (by decide) ?_
          refine xi (wr := [(hpo, .inr (6, [.ref hr, .ref hg, .ref hgr])), (gs, .inl (cs 0, 16, .inl gsf)), (hgr, .inr (3, [.int (nI en), .ref gs, .ref g1r, .ref g2r, .ref gan, .ref gpr, .ref gde, .ref gme])), (gan, .inl (cs 0, 16, .inl gaf))]) (xV (As := [.int (nI (sT gsf e9)), .int (nI 0)]) (rest := []) C (c_X10_get l D cs hv av ch po f (sT gsf e9) 0 ((sT_eq hgs (by omega)).1) (by decide)) kX6_68 hP hD [1, 2] rfl (by decide +kernel) 0 rfl rfl rfl ⟨Nat.le_of_ble_eq_true rfl, Nat.le_of_ble_eq_true rfl⟩ rfl hl.1 rfl (Nat.le_of_ble_eq_true rfl) dX6_isStrong_40 ⟨Nat.le_of_ble_eq_true rfl, Nat.le_of_ble_eq_true rfl⟩) hP hD hS hA [1, 2] [0, 3, 4, 5] rfl rfl (by decide +kernel) (by decide +kernel) ?_
          clear hP hD hS
          try clear locs
          try clear H
          intro r_6 u_7 H locs hw_r_6 hP hD hS
          have hw_r_6 : r_6 = f ((sT gsf e9) * 4 + 0) := hw_r_6
          refine W.widen (k := 0) (n := 0) (Nat.le_of_ble_eq_true rfl) (Nat.le_of_ble_eq_true rfl) ?_
          replace hP : va_P D vwCl [(hpo, .inr (6, [.ref hr, .ref hg, .ref hgr])), (gs, .inl (cs 0, 16, .inl gsf)), (hgr, .inr (3, [.int (nI en), .ref gs, .ref g1r, .ref g2r, .ref gan, .ref gpr, .ref gde, .ref gme])), (gan, .inl (cs 0, 16, .inl gaf)), (hv, .inr (10, [.int ch, .int po, .ref av])), (av, .inl (cs 0, 32, .inl f))] H := hP
          replace hD : va_D A [(hpo, .inr (6, [.ref hr, .ref hg, .ref hgr])), (gs, .inl (cs 0, 16, .inl gsf)), (hgr, .inr (3, [.int (nI en), .ref gs, .ref g1r, .ref g2r, .ref gan, .ref gpr, .ref gde, .ref gme])), (gan, .inl (cs 0, 16, .inl gaf)), (hv, .inr (10, [.int ch, .int po, .ref av])), (av, .inl (cs 0, 32, .inl f))] := hD
          refine lv_iload hx hb dX6_isStrong_43 (lv_at hl 0 rfl) ?_
          refine lv_icmp_eq (tgt := 50) hx hb dX6_isStrong_45 (by decide) (fun c_8 => ?_) (fun c_8 => ?_)
          · -- 45 t
            refine lv_iinc (v := nI (e9 + 1)) (lv' := [(4, .int (nI (e9 + 1))), (3, .int (gaf e0 ||| bitI e0)), (0, .ref hpo), (1, .ref hv), (2, .int (nI e0))]) hx hb dX6_isStrong_50 hl (k := 0) rfl (nI_add e9 1) (by decide) rfl ?_
            clear hl
            try clear ls
            intro ls hl
            refine lv_goto (tgt := 12) hx hb dX6_isStrong_53 (by decide) ?_
            exact ih_loop_3 (e9 + 1) (by omega) (fun i hi hb => by by_cases q : i = e9; subst q; exact hw_r_6.symm.trans c_8; exact hst9 i (by omega) hb) (by omega) H locs ls (xP_map hP [0, 4, 5, 1, 2, 3] rfl) (hD.sub [0, 4, 5, 1, 2, 3] (by decide +kernel) rfl) hS (lv_sub hl [0, 1, 2, 3, 4] rfl)
          · -- 45 f
            refine lv_iconst (v := nI 0) hx hb dX6_isStrong_48 (by decide) ?_
            exact xreti C () (Or.inr ⟨fun q => c_8 (hw_r_6.trans (q e9 (by omega) c_5)), rfl⟩) (xP_map hP [0, 2, 4, 5, 3, 1] rfl) (hD.sub [0, 2, 4, 5, 3, 1] (by decide +kernel) rfl) hS (Nat.le_of_ble_eq_true rfl) (Nat.le_of_ble_eq_true rfl) (by decide) dX6_isStrong_49
  exact loop_3 _ 0 (by omega) (fun i hi => absurd hi (Nat.not_lt_zero _)) (Nat.lt_succ_self _) H locs ls hP hD hS (lv_sub hl [0, 1, 2, 3, 4] rfl)

set_option maxHeartbeats 4000000 in
set_option maxRecDepth 100000 in
theorem c_X6_standing_f (l : Launch) (D : va_G) (cs : Nat → ClassId) (hpo : Nat) (hr hg : Nat) (hgr en gs g1r g2r gan gpr gde gme : Nat) (hv av : Nat) (ch po : Int32) (f : Nat → Int32) (gsf : Nat → Int32) (e0 : Nat) (hgs : inP 16 8 gsf) (he : e0 < 16) : xMet l D cs yX6_standing cX6_standing 4 (some .int) ({ frames := 2, cells := 0, slots := 0, locals := 43 } : Room) [.ref hpo, .ref hv, .int (nI e0)] [(hpo, .inr (6, [.ref hr, .ref hg, .ref hgr])), (hgr, .inr (3, [.int (nI en), .ref gs, .ref g1r, .ref g2r, .ref gan, .ref gpr, .ref gde, .ref gme])), (hv, .inr (10, [.int ch, .int po, .ref av])), (av, .inl (cs 0, 32, .inl f)), (gs, .inl (cs 0, 16, .inl gsf))] (xQi D (fun (r : Int32) (_u : Unit) => r = stdF (f (sT gsf e0 * 4 + 3)) e0) (fun (_u : Unit) => [(hpo, .inr (6, [.ref hr, .ref hg, .ref hgr])), (hgr, .inr (3, [.int (nI en), .ref gs, .ref g1r, .ref g2r, .ref gan, .ref gpr, .ref gde, .ref gme])), (hv, .inr (10, [.int ch, .int po, .ref av])), (av, .inl (cs 0, 32, .inl f)), (gs, .inl (cs 0, 16, .inl gsf))])) := by
  refine xMet.intro (by decide) (Nat.le_of_ble_eq_true rfl) ?_
  intro p e s m args below meth c A ls C hP hD hS hl
  have hx := C.1
  have hb := C.2.1
  have hz := C.2.2.2.2.1
  have hown := C.2.2.2.1
  have hA := C.2.2.2.2.2.2.2.2.2
  have hAO := C.2.2.2.2.2.2.2.2.1.2.2
  replace hl : lv_has ls 4 [(0, .ref hpo), (1, .ref hv), (2, .int (nI e0))] := hl
  obtain ⟨H, hH⟩ : ∃ H, H = s.heap := ⟨_, rfl⟩
  replace hP : va_P D vwCl [(hpo, .inr (6, [.ref hr, .ref hg, .ref hgr])), (hgr, .inr (3, [.int (nI en), .ref gs, .ref g1r, .ref g2r, .ref gan, .ref gpr, .ref gde, .ref gme])), (hv, .inr (10, [.int ch, .int po, .ref av])), (av, .inl (cs 0, 32, .inl f)), (gs, .inl (cs 0, 16, .inl gsf))] H := by rw [hH]; exact hP
  replace hS : va_S A s.heap H [] := by rw [hH]; exact hS
  obtain ⟨locs, hlocs⟩ : ∃ z : List Loc, z = [] := ⟨_, rfl⟩
  rw [← hlocs] at hS
  suffices hW : W p l e ({ frames := 2, cells := 0, slots := 0, locals := 43 } : Room) s m args below meth c H locs 0 0 (MQ below ((xQi D (fun (r : Int32) (_u : Unit) => r = stdF (f (sT gsf e0 * 4 + 3)) e0) (fun (_u : Unit) => [(hpo, .inr (6, [.ref hr, .ref hg, .ref hgr])), (hgr, .inr (3, [.int (nI en), .ref gs, .ref g1r, .ref g2r, .ref gan, .ref gpr, .ref gde, .ref gme])), (hv, .inr (10, [.int ch, .int po, .ref av])), (av, .inl (cs 0, 32, .inl f)), (gs, .inl (cs 0, 16, .inl gsf))])) A) args s 0 0 A) (F0 m 0 ls []) by rw [hlocs, hH] at hW; exact hW
  clear hH hlocs
  refine lv_aload_n hx hb dX6_standing_0 rfl (lv_at hl 0 rfl) ?_
  refine xget C hP 0 rfl rfl zuX6 2 (by decide) zw2_25 rfl dX6_standing_1 ?_
  refine xget C hP 1 rfl rfl zuX3 1 (by decide) zw1_199 rfl dX6_standing_4 ?_
  refine lv_iload_n hx hb dX6_standing_7 rfl (lv_at hl 2 rfl) ?_
  refine xiald C hP 4 rfl e0 rfl (by omega) (by decide) dX6_standing_8 ?_
  refine lv_topi (nm_r (e' := nI (sT gsf e0)) ((sT_eq hgs (by omega)).2) ?_)
  refine lv_istore_n (lv' := [(3, .int (nI (sT gsf e0))), (0, .ref hpo), (1, .ref hv), (2, .int (nI e0))]) hx hb dX6_standing_9 rfl hl (by decide) rfl ?_
  clear hl
  try clear ls
  intro ls hl
  refine lv_aload_n hx hb dX6_standing_10 rfl (lv_at hl 2 rfl) ?_
  refine lv_iload_n hx hb dX6_standing_11 rfl (lv_at hl 0 rfl) ?_
  refine xi (wr := [(hpo, .inr (6, [.ref hr, .ref hg, .ref hgr])), (hgr, .inr (3, [.int (nI en), .ref gs, .ref g1r, .ref g2r, .ref gan, .ref gpr, .ref gde, .ref gme])), (gs, .inl (cs 0, 16, .inl gsf))]) (xV (As := [.int (nI (sT gsf e0))]) (rest := []) C (c_X10_isOpen l D cs hv av ch po f (sT gsf e0) ((sT_eq hgs (by omega)).1)) kX6_72 hP hD [2, 3] rfl (by decide +kernel) 0 rfl rfl rfl ⟨Nat.le_of_ble_eq_true rfl, Nat.le_of_ble_eq_true rfl⟩ rfl hl.1 rfl (Nat.le_of_ble_eq_true rfl) dX6_standing_12 ⟨Nat.le_of_ble_eq_true rfl, Nat.le_of_ble_eq_true rfl⟩) hP hD hS hA [2, 3] [0, 1, 4] rfl rfl (by decide +kernel) (by decide +kernel) ?_
  clear hP hD hS
  try clear locs
  try clear H
  intro r_1 u_2 H locs hw_r_1 hP hD hS
  have hw_r_1 : r_1 = if f ((sT gsf e0) * 4 + 3) = -1 then nI 1 else nI 0 := hw_r_1
  refine W.widen (k := 0) (n := 0) (Nat.le_of_ble_eq_true rfl) (Nat.le_of_ble_eq_true rfl) ?_
  replace hP : va_P D vwCl [(hpo, .inr (6, [.ref hr, .ref hg, .ref hgr])), (hgr, .inr (3, [.int (nI en), .ref gs, .ref g1r, .ref g2r, .ref gan, .ref gpr, .ref gde, .ref gme])), (gs, .inl (cs 0, 16, .inl gsf)), (hv, .inr (10, [.int ch, .int po, .ref av])), (av, .inl (cs 0, 32, .inl f))] H := hP
  replace hD : va_D A [(hpo, .inr (6, [.ref hr, .ref hg, .ref hgr])), (hgr, .inr (3, [.int (nI en), .ref gs, .ref g1r, .ref g2r, .ref gan, .ref gpr, .ref gde, .ref gme])), (gs, .inl (cs 0, 16, .inl gsf)), (hv, .inr (10, [.int ch, .int po, .ref av])), (av, .inl (cs 0, 32, .inl f))] := hD
  refine lv_if_eq (tgt := 20) hx hb dX6_standing_15 (by decide) (fun c_3 => ?_) (fun c_3 => ?_)
  · -- 15 t
    refine lv_aload_n hx hb dX6_standing_20 rfl (lv_at hl 2 rfl) ?_
    refine lv_iload_n hx hb dX6_standing_21 rfl (lv_at hl 0 rfl) ?_
    refine lv_iconst (v := nI 3) hx hb dX6_standing_22 (by decide) ?_
    refine xi (wr := [(hpo, .inr (6, [.ref hr, .ref hg, .ref hgr])), (hgr, .inr (3, [.int (nI en), .ref gs, .ref g1r, .ref g2r, .ref gan, .ref gpr, .ref gde, .ref gme])), (gs, .inl (cs 0, 16, .inl gsf))]) (xV (As := [.int (nI (sT gsf e0)), .int (nI 3)]) (rest := []) C (c_X10_get l D cs hv av ch po f (sT gsf e0) 3 ((sT_eq hgs (by omega)).1) (by decide)) kX6_68 hP hD [3, 4] rfl (by decide +kernel) 0 rfl rfl rfl ⟨Nat.le_of_ble_eq_true rfl, Nat.le_of_ble_eq_true rfl⟩ rfl hl.1 rfl (Nat.le_of_ble_eq_true rfl) dX6_standing_23 ⟨Nat.le_of_ble_eq_true rfl, Nat.le_of_ble_eq_true rfl⟩) hP hD hS hA [3, 4] [0, 1, 2] rfl rfl (by decide +kernel) (by decide +kernel) ?_
    clear hP hD hS
    try clear locs
    try clear H
    intro r_4 u_5 H locs hw_r_4 hP hD hS
    have hw_r_4 : r_4 = f ((sT gsf e0) * 4 + 3) := hw_r_4
    refine W.widen (k := 0) (n := 0) (Nat.le_of_ble_eq_true rfl) (Nat.le_of_ble_eq_true rfl) ?_
    replace hP : va_P D vwCl [(hpo, .inr (6, [.ref hr, .ref hg, .ref hgr])), (hgr, .inr (3, [.int (nI en), .ref gs, .ref g1r, .ref g2r, .ref gan, .ref gpr, .ref gde, .ref gme])), (gs, .inl (cs 0, 16, .inl gsf)), (hv, .inr (10, [.int ch, .int po, .ref av])), (av, .inl (cs 0, 32, .inl f))] H := hP
    replace hD : va_D A [(hpo, .inr (6, [.ref hr, .ref hg, .ref hgr])), (hgr, .inr (3, [.int (nI en), .ref gs, .ref g1r, .ref g2r, .ref gan, .ref gpr, .ref gde, .ref gme])), (gs, .inl (cs 0, 16, .inl gsf)), (hv, .inr (10, [.int ch, .int po, .ref av])), (av, .inl (cs 0, 32, .inl f))] := hD
    refine lv_iload_n hx hb dX6_standing_26 rfl (lv_at hl 3 rfl) ?_
    refine lv_icmp_ne (tgt := 34) hx hb dX6_standing_27 (by decide) (fun c_6 => ?_) (fun c_6 => ?_)
    · -- 27 t
      refine lv_iconst (v := nI 2) hx hb dX6_standing_34 (by decide) ?_
      exact xreti C () (by unfold stdF; rw [if_neg (fun q => absurd ((hw_r_1.symm.trans c_3)).symm (by rw [if_pos q]; decide)), if_neg (fun q => c_6 (hw_r_4.trans q))]) (xP_map hP [0, 1, 3, 4, 2] rfl) (hD.sub [0, 1, 3, 4, 2] (by decide +kernel) rfl) hS (Nat.le_of_ble_eq_true rfl) (Nat.le_of_ble_eq_true rfl) rfl dX6_standing_35
    · -- 27 f
      refine lv_iconst (v := nI 1) hx hb dX6_standing_30 (by decide) ?_
      refine lv_goto (tgt := 35) hx hb dX6_standing_31 (by decide) ?_
      exact xreti C () (by unfold stdF; rw [if_neg (fun q => absurd ((hw_r_1.symm.trans c_3)).symm (by rw [if_pos q]; decide)), if_pos (hw_r_4.symm.trans c_6)]) (xP_map hP [0, 1, 3, 4, 2] rfl) (hD.sub [0, 1, 3, 4, 2] (by decide +kernel) rfl) hS (Nat.le_of_ble_eq_true rfl) (Nat.le_of_ble_eq_true rfl) rfl dX6_standing_35
  · -- 15 f
    refine lv_iconst (v := nI 0) hx hb dX6_standing_18 (by decide) ?_
    exact xreti C () (by unfold stdF; rw [if_pos (show f (sT gsf e0 * 4 + 3) = -1 from Decidable.byContradiction (fun q => c_3 (hw_r_1.trans (if_neg q))))]) (xP_map hP [0, 1, 3, 4, 2] rfl) (hD.sub [0, 1, 3, 4, 2] (by decide +kernel) rfl) hS (Nat.le_of_ble_eq_true rfl) (Nat.le_of_ble_eq_true rfl) rfl dX6_standing_19

set_option maxHeartbeats 4000000 in
set_option maxRecDepth 100000 in
theorem c_X6_isOpenOf_f (l : Launch) (D : va_G) (cs : Nat → ClassId) (hpo : Nat) (hr hg : Nat) (hgr en gs g1r g2r gan gpr gde gme : Nat) (hv av : Nat) (ch po : Int32) (f : Nat → Int32) (gsf : Nat → Int32) (x : Int32) (e0 : Nat) (hgs : inP 16 8 gsf) (he : e0 < 16) : xMet l D cs yX6_isOpenOf cX6_isOpenOf 4 (some .boolean) ({ frames := 2, cells := 0, slots := 0, locals := 43 } : Room) [.ref hpo, .ref hv, .int x, .int (nI e0)] [(hpo, .inr (6, [.ref hr, .ref hg, .ref hgr])), (hgr, .inr (3, [.int (nI en), .ref gs, .ref g1r, .ref g2r, .ref gan, .ref gpr, .ref gde, .ref gme])), (hv, .inr (10, [.int ch, .int po, .ref av])), (av, .inl (cs 0, 32, .inl f)), (gs, .inl (cs 0, 16, .inl gsf))] (xQi D (fun (r : Int32) (_u : Unit) => PQ (opnC gsf x f e0) r (nI 1) (nI 0)) (fun (_u : Unit) => [(hpo, .inr (6, [.ref hr, .ref hg, .ref hgr])), (hgr, .inr (3, [.int (nI en), .ref gs, .ref g1r, .ref g2r, .ref gan, .ref gpr, .ref gde, .ref gme])), (hv, .inr (10, [.int ch, .int po, .ref av])), (av, .inl (cs 0, 32, .inl f)), (gs, .inl (cs 0, 16, .inl gsf))])) := by
  refine xMet.intro (by decide) (Nat.le_of_ble_eq_true rfl) ?_
  intro p e s m args below meth c A ls C hP hD hS hl
  have hx := C.1
  have hb := C.2.1
  have hz := C.2.2.2.2.1
  have hown := C.2.2.2.1
  have hA := C.2.2.2.2.2.2.2.2.2
  have hAO := C.2.2.2.2.2.2.2.2.1.2.2
  replace hl : lv_has ls 4 [(0, .ref hpo), (1, .ref hv), (2, .int x), (3, .int (nI e0))] := hl
  obtain ⟨H, hH⟩ : ∃ H, H = s.heap := ⟨_, rfl⟩
  replace hP : va_P D vwCl [(hpo, .inr (6, [.ref hr, .ref hg, .ref hgr])), (hgr, .inr (3, [.int (nI en), .ref gs, .ref g1r, .ref g2r, .ref gan, .ref gpr, .ref gde, .ref gme])), (hv, .inr (10, [.int ch, .int po, .ref av])), (av, .inl (cs 0, 32, .inl f)), (gs, .inl (cs 0, 16, .inl gsf))] H := by rw [hH]; exact hP
  replace hS : va_S A s.heap H [] := by rw [hH]; exact hS
  obtain ⟨locs, hlocs⟩ : ∃ z : List Loc, z = [] := ⟨_, rfl⟩
  rw [← hlocs] at hS
  suffices hW : W p l e ({ frames := 2, cells := 0, slots := 0, locals := 43 } : Room) s m args below meth c H locs 0 0 (MQ below ((xQi D (fun (r : Int32) (_u : Unit) => PQ (opnC gsf x f e0) r (nI 1) (nI 0)) (fun (_u : Unit) => [(hpo, .inr (6, [.ref hr, .ref hg, .ref hgr])), (hgr, .inr (3, [.int (nI en), .ref gs, .ref g1r, .ref g2r, .ref gan, .ref gpr, .ref gde, .ref gme])), (hv, .inr (10, [.int ch, .int po, .ref av])), (av, .inl (cs 0, 32, .inl f)), (gs, .inl (cs 0, 16, .inl gsf))])) A) args s 0 0 A) (F0 m 0 ls []) by rw [hlocs, hH] at hW; exact hW
  clear hH hlocs
  refine lv_iload_n hx hb dX6_isOpenOf_0 rfl (lv_at hl 2 rfl) ?_
  refine lv_iload_n hx hb dX6_isOpenOf_1 rfl (lv_at hl 3 rfl) ?_
  refine lv_ishr hx hb dX6_isOpenOf_2 ?_
  refine lv_iconst (v := nI 1) hx hb dX6_isOpenOf_3 (by decide) ?_
  refine lv_iand hx hb dX6_isOpenOf_4 ?_
  refine lv_iconst (v := nI 1) hx hb dX6_isOpenOf_5 (by decide) ?_
  refine lv_icmp_ne (tgt := 29) hx hb dX6_isOpenOf_6 (by decide) (fun c_1 => ?_) (fun c_1 => ?_)
  · -- 6 t
    refine lv_iconst (v := nI 0) hx hb dX6_isOpenOf_29 (by decide) ?_
    exact xreti C () (Or.inr ⟨fun q => c_1 q.1, rfl⟩) hP hD hS (Nat.le_of_ble_eq_true rfl) (Nat.le_of_ble_eq_true rfl) (by decide) dX6_isOpenOf_30
  · -- 6 f
    refine lv_aload_n hx hb dX6_isOpenOf_9 rfl (lv_at hl 1 rfl) ?_
    refine lv_aload_n hx hb dX6_isOpenOf_10 rfl (lv_at hl 0 rfl) ?_
    refine xget C hP 0 rfl rfl zuX6 2 (by decide) zw2_25 rfl dX6_isOpenOf_11 ?_
    refine xget C hP 1 rfl rfl zuX3 1 (by decide) zw1_199 rfl dX6_isOpenOf_14 ?_
    refine lv_iload_n hx hb dX6_isOpenOf_17 rfl (lv_at hl 3 rfl) ?_
    refine xiald C hP 4 rfl e0 rfl (by omega) (by decide) dX6_isOpenOf_18 ?_
    refine lv_topi (nm_r (e' := nI (sT gsf e0)) ((sT_eq hgs (by omega)).2) ?_)
    refine xi (wr := [(hpo, .inr (6, [.ref hr, .ref hg, .ref hgr])), (hgr, .inr (3, [.int (nI en), .ref gs, .ref g1r, .ref g2r, .ref gan, .ref gpr, .ref gde, .ref gme])), (gs, .inl (cs 0, 16, .inl gsf))]) (xV (As := [.int (nI (sT gsf e0))]) (rest := []) C (c_X10_isOpen l D cs hv av ch po f (sT gsf e0) ((sT_eq hgs (by omega)).1)) kX6_72 hP hD [2, 3] rfl (by decide +kernel) 0 rfl rfl rfl ⟨Nat.le_of_ble_eq_true rfl, Nat.le_of_ble_eq_true rfl⟩ rfl hl.1 rfl (Nat.le_of_ble_eq_true rfl) dX6_isOpenOf_19 ⟨Nat.le_of_ble_eq_true rfl, Nat.le_of_ble_eq_true rfl⟩) hP hD hS hA [2, 3] [0, 1, 4] rfl rfl (by decide +kernel) (by decide +kernel) ?_
    clear hP hD hS
    try clear locs
    try clear H
    intro r_2 u_3 H locs hw_r_2 hP hD hS
    have hw_r_2 : r_2 = if f ((sT gsf e0) * 4 + 3) = -1 then nI 1 else nI 0 := hw_r_2
    refine W.widen (k := 0) (n := 0) (Nat.le_of_ble_eq_true rfl) (Nat.le_of_ble_eq_true rfl) ?_
    replace hP : va_P D vwCl [(hpo, .inr (6, [.ref hr, .ref hg, .ref hgr])), (hgr, .inr (3, [.int (nI en), .ref gs, .ref g1r, .ref g2r, .ref gan, .ref gpr, .ref gde, .ref gme])), (gs, .inl (cs 0, 16, .inl gsf)), (hv, .inr (10, [.int ch, .int po, .ref av])), (av, .inl (cs 0, 32, .inl f))] H := hP
    replace hD : va_D A [(hpo, .inr (6, [.ref hr, .ref hg, .ref hgr])), (hgr, .inr (3, [.int (nI en), .ref gs, .ref g1r, .ref g2r, .ref gan, .ref gpr, .ref gde, .ref gme])), (gs, .inl (cs 0, 16, .inl gsf)), (hv, .inr (10, [.int ch, .int po, .ref av])), (av, .inl (cs 0, 32, .inl f))] := hD
    refine lv_if_eq (tgt := 29) hx hb dX6_isOpenOf_22 (by decide) (fun c_4 => ?_) (fun c_4 => ?_)
    · -- 22 t
      refine lv_iconst (v := nI 0) hx hb dX6_isOpenOf_29 (by decide) ?_
      exact xreti C () (Or.inr ⟨fun q => absurd (hw_r_2.symm.trans c_4) (by rw [if_pos q.2]; decide), rfl⟩) (xP_map hP [0, 1, 3, 4, 2] rfl) (hD.sub [0, 1, 3, 4, 2] (by decide +kernel) rfl) hS (Nat.le_of_ble_eq_true rfl) (Nat.le_of_ble_eq_true rfl) (by decide) dX6_isOpenOf_30
    · -- 22 f
      refine lv_iconst (v := nI 1) hx hb dX6_isOpenOf_25 (by decide) ?_
      refine lv_goto (tgt := 30) hx hb dX6_isOpenOf_26 (by decide) ?_
      exact xreti C () (Or.inl ⟨⟨c_1, Decidable.byContradiction (fun q => c_4 (hw_r_2.trans (if_neg q)))⟩, rfl⟩) (xP_map hP [0, 1, 3, 4, 2] rfl) (hD.sub [0, 1, 3, 4, 2] (by decide +kernel) rfl) hS (Nat.le_of_ble_eq_true rfl) (Nat.le_of_ble_eq_true rfl) (by decide) dX6_isOpenOf_30

set_option maxHeartbeats 4000000 in
set_option maxRecDepth 100000 in
theorem c_X6_lose_f (l : Launch) (D : va_G) (cs : Nat → ClassId) (hpo : Nat) (hr hg : Nat) (hgr en gs g1r g2r gan gpr gde gme : Nat) (hv av : Nat) (ch po : Int32) (f : Nat → Int32) (gsf : Nat → Int32) (x : Int32) (hen : en ≤ 16) (hgs : inP 16 8 gsf) : xMet l D cs yX6_lose cX6_lose 4 none ({ frames := 3, cells := 0, slots := 0, locals := 66 } : Room) [.ref hpo, .ref hv, .int x] [(hpo, .inr (6, [.ref hr, .ref hg, .ref hgr])), (hgr, .inr (3, [.int (nI en), .ref gs, .ref g1r, .ref g2r, .ref gan, .ref gpr, .ref gde, .ref gme])), (hv, .inr (10, [.int ch, .int po, .ref av])), (av, .inl (cs 0, 32, .inl f)), (gs, .inl (cs 0, 16, .inl gsf))] (xQv D (fun (fz : (Nat → Int32)) => losC gsf x en f fz) (fun (fz : (Nat → Int32)) => [(hpo, .inr (6, [.ref hr, .ref hg, .ref hgr])), (hgr, .inr (3, [.int (nI en), .ref gs, .ref g1r, .ref g2r, .ref gan, .ref gpr, .ref gde, .ref gme])), (hv, .inr (10, [.int ch, .int po, .ref av])), (av, .inl (cs 0, 32, .inl fz)), (gs, .inl (cs 0, 16, .inl gsf))])) := by
  refine xMet.intro (by decide) (Nat.le_of_ble_eq_true rfl) ?_
  intro p e s m args below meth c A ls C hP hD hS hl
  have hx := C.1
  have hb := C.2.1
  have hz := C.2.2.2.2.1
  have hown := C.2.2.2.1
  have hA := C.2.2.2.2.2.2.2.2.2
  have hAO := C.2.2.2.2.2.2.2.2.1.2.2
  replace hl : lv_has ls 4 [(0, .ref hpo), (1, .ref hv), (2, .int x)] := hl
  obtain ⟨H, hH⟩ : ∃ H, H = s.heap := ⟨_, rfl⟩
  replace hP : va_P D vwCl [(hpo, .inr (6, [.ref hr, .ref hg, .ref hgr])), (hgr, .inr (3, [.int (nI en), .ref gs, .ref g1r, .ref g2r, .ref gan, .ref gpr, .ref gde, .ref gme])), (hv, .inr (10, [.int ch, .int po, .ref av])), (av, .inl (cs 0, 32, .inl f)), (gs, .inl (cs 0, 16, .inl gsf))] H := by rw [hH]; exact hP
  replace hS : va_S A s.heap H [] := by rw [hH]; exact hS
  obtain ⟨locs, hlocs⟩ : ∃ z : List Loc, z = [] := ⟨_, rfl⟩
  rw [← hlocs] at hS
  suffices hW : W p l e ({ frames := 3, cells := 0, slots := 0, locals := 66 } : Room) s m args below meth c H locs 0 0 (MQ below ((xQv D (fun (fz : (Nat → Int32)) => losC gsf x en f fz) (fun (fz : (Nat → Int32)) => [(hpo, .inr (6, [.ref hr, .ref hg, .ref hgr])), (hgr, .inr (3, [.int (nI en), .ref gs, .ref g1r, .ref g2r, .ref gan, .ref gpr, .ref gde, .ref gme])), (hv, .inr (10, [.int ch, .int po, .ref av])), (av, .inl (cs 0, 32, .inl fz)), (gs, .inl (cs 0, 16, .inl gsf))])) A) args s 0 0 A) (F0 m 0 ls []) by rw [hlocs, hH] at hW; exact hW
  clear hH hlocs
  refine lv_iconst (v := nI 0) hx hb dX6_lose_0 (by decide) ?_
  refine lv_istore_n (lv' := [(3, .int (nI 0)), (0, .ref hpo), (1, .ref hv), (2, .int x)]) hx hb dX6_lose_1 rfl hl (by decide) rfl ?_
  clear hl
  try clear ls
  intro ls hl
  have loop_1 : ∀ (n_loop_1 : Nat) (e9 : Nat) (f9 : Nat → Int32), (e9 ≤ en) → (losC gsf x e9 f f9) → en - e9 < n_loop_1 → ∀ (H : Heap) (locs : List Loc) (ls : Array Slot), va_P D vwCl [(hpo, .inr (6, [.ref hr, .ref hg, .ref hgr])), (hgr, .inr (3, [.int (nI en), .ref gs, .ref g1r, .ref g2r, .ref gan, .ref gpr, .ref gde, .ref gme])), (hv, .inr (10, [.int ch, .int po, .ref av])), (av, .inl (cs 0, 32, .inl f9)), (gs, .inl (cs 0, 16, .inl gsf))] H → va_D A [(hpo, .inr (6, [.ref hr, .ref hg, .ref hgr])), (hgr, .inr (3, [.int (nI en), .ref gs, .ref g1r, .ref g2r, .ref gan, .ref gpr, .ref gde, .ref gme])), (hv, .inr (10, [.int ch, .int po, .ref av])), (av, .inl (cs 0, 32, .inl f9)), (gs, .inl (cs 0, 16, .inl gsf))] → va_S A s.heap H locs → lv_has ls 4 [(3, .int (nI e9)), (0, .ref hpo), (1, .ref hv), (2, .int x)] → W p l e ({ frames := 3, cells := 0, slots := 0, locals := 66 } : Room) s m args below meth c H locs 0 0 (MQ below ((xQv D (fun (fz : (Nat → Int32)) => losC gsf x en f fz) (fun (fz : (Nat → Int32)) => [(hpo, .inr (6, [.ref hr, .ref hg, .ref hgr])), (hgr, .inr (3, [.int (nI en), .ref gs, .ref g1r, .ref g2r, .ref gan, .ref gpr, .ref gde, .ref gme])), (hv, .inr (10, [.int ch, .int po, .ref av])), (av, .inl (cs 0, 32, .inl fz)), (gs, .inl (cs 0, 16, .inl gsf))])) A) args s 0 0 A) (F0 m 2 ls []) := by
    intro n_loop_1
    induction n_loop_1 with
    | zero => intro e9 f9 h_e9 hlo9 hlt H locs ls hP hD hS hl; exact absurd hlt (Nat.not_lt_zero _)
    | succ n_loop_1 ih_loop_1 =>
      intro e9 f9 h_e9 hlo9 hlt_loop_1 H locs ls hP hD hS hl
      refine lv_iload_n hx hb dX6_lose_2 rfl (lv_at hl 0 rfl) ?_
      refine lv_aload_n hx hb dX6_lose_3 rfl (lv_at hl 1 rfl) ?_
      refine xget C hP 0 rfl rfl zuX6 2 (by decide) zw2_25 rfl dX6_lose_4 ?_
      refine xget C hP 1 rfl rfl zuX3 0 (by decide) zw1_196 rfl dX6_lose_7 ?_
      refine lv_icmp_ge (tgt := 44) hx hb dX6_lose_10 (by decide) (fun c_2 => ?_) (fun c_2 => ?_)
      · -- 10 t
        have fc_2 : en ≤ e9 := nf_le (by omega) (by omega) c_2
        exact xretv C f9 (by have q7 : e9 = en := (by omega); rw [← q7]; exact hlo9) hP hD hS (Nat.le_of_ble_eq_true rfl) (Nat.le_of_ble_eq_true rfl) dX6_lose_44
      · -- 10 f
        have fc_2 : e9 < en := nf_nle (by omega) (by omega) c_2
        refine lv_aload_n hx hb dX6_lose_13 rfl (lv_at hl 1 rfl) ?_
        refine lv_aload_n hx hb dX6_lose_14 rfl (lv_at hl 2 rfl) ?_
        refine lv_iload_n hx hb dX6_lose_15 rfl (lv_at hl 3 rfl) ?_
        refine lv_iload_n hx hb dX6_lose_16 rfl (lv_at hl 0 rfl) ?_
        refine xi (wr := []) (xV (As := [.ref hv, .int x, .int (nI e9)]) (rest := []) C (c_X6_isOpenOf_f l D cs hpo hr hg hgr en gs g1r g2r gan gpr gde gme hv av ch po f9 gsf x e9 hgs (by omega)) kX6_114 hP hD [0, 1, 2, 3, 4] rfl (by decide +kernel) 0 rfl rfl rfl ⟨Nat.le_of_ble_eq_true rfl, Nat.le_of_ble_eq_true rfl⟩ rfl hl.1 rfl (Nat.le_of_ble_eq_true rfl) dX6_lose_17 ⟨Nat.le_of_ble_eq_true rfl, Nat.le_of_ble_eq_true rfl⟩) hP hD hS hA [0, 1, 2, 3, 4] [] rfl rfl (by decide +kernel) (by decide +kernel) ?_
        clear hP hD hS
        try clear locs
        try clear H
        intro r_3 u_4 H locs hw_r_3 hP hD hS
        have hw_r_3 : PQ (opnC gsf x f9 e9) r_3 (nI 1) (nI 0) := hw_r_3
        refine W.widen (k := 0) (n := 0) (Nat.le_of_ble_eq_true rfl) (Nat.le_of_ble_eq_true rfl) ?_
        replace hP : va_P D vwCl [(hpo, .inr (6, [.ref hr, .ref hg, .ref hgr])), (hgr, .inr (3, [.int (nI en), .ref gs, .ref g1r, .ref g2r, .ref gan, .ref gpr, .ref gde, .ref gme])), (hv, .inr (10, [.int ch, .int po, .ref av])), (av, .inl (cs 0, 32, .inl f9)), (gs, .inl (cs 0, 16, .inl gsf))] H := hP
        replace hD : va_D A [(hpo, .inr (6, [.ref hr, .ref hg, .ref hgr])), (hgr, .inr (3, [.int (nI en), .ref gs, .ref g1r, .ref g2r, .ref gan, .ref gpr, .ref gde, .ref gme])), (hv, .inr (10, [.int ch, .int po, .ref av])), (av, .inl (cs 0, 32, .inl f9)), (gs, .inl (cs 0, 16, .inl gsf))] := hD
        refine lv_if_eq (tgt := 38) hx hb dX6_lose_20 (by decide) (fun c_5 => ?_) (fun c_5 => ?_)
        · -- 20 t
          refine lv_iinc (v := nI (e9 + 1)) (lv' := [(3, .int (nI (e9 + 1))), (0, .ref hpo), (1, .ref hv), (2, .int x)]) hx hb dX6_lose_38 hl (k := 0) rfl (nI_add e9 1) (by decide) rfl ?_
          clear hl
          try clear ls
          intro ls hl
          refine lv_goto (tgt := 2) hx hb dX6_lose_41 (by decide) ?_
          exact ih_loop_1 (e9 + 1) f9 (by omega) (⟨_, hlo9, Or.inr ⟨PQ.no hw_r_3 c_5 (by decide), rfl⟩⟩) (by omega) H locs ls hP hD hS (lv_sub hl [0, 1, 2, 3] rfl)
        · -- 20 f
          refine lv_aload_n hx hb dX6_lose_23 rfl (lv_at hl 2 rfl) ?_
          refine lv_aload_n hx hb dX6_lose_24 rfl (lv_at hl 1 rfl) ?_
          refine xget C hP 0 rfl rfl zuX6 2 (by decide) zw2_25 rfl dX6_lose_25 ?_
          refine xget C hP 1 rfl rfl zuX3 1 (by decide) zw1_199 rfl dX6_lose_28 ?_
          refine lv_iload_n hx hb dX6_lose_31 rfl (lv_at hl 0 rfl) ?_
          refine xiald C hP 4 rfl e9 rfl (by omega) (by decide) dX6_lose_32 ?_
          refine lv_topi (nm_r (e' := nI (sT gsf e9)) ((sT_eq hgs (by omega)).2) ?_)
          refine lv_iconst (v := nI 2) hx hb dX6_lose_33 (by decide) ?_
          refine lv_iconst (v := nI 0) hx hb dX6_lose_34 (by decide) ?_
          refine xv (wr := [(hpo, .inr (6, [.ref hr, .ref hg, .ref hgr])), (hgr, .inr (3, [.int (nI en), .ref gs, .ref g1r, .ref g2r, .ref gan, .ref gpr, .ref gde, .ref gme])), (gs, .inl (cs 0, 16, .inl gsf))]) (xV (As := [.int (nI (sT gsf e9)), .int (nI 2), .int (nI 0)]) (rest := []) C (c_X10_put l D cs hv av ch po f9 (sT gsf e9) 2 (nI 0) ((sT_eq hgs (by omega)).1) (by decide)) kX6_118 hP hD [2, 3] rfl (by decide +kernel) 0 rfl rfl rfl ⟨Nat.le_of_ble_eq_true rfl, Nat.le_of_ble_eq_true rfl⟩ rfl hl.1 rfl (Nat.le_of_ble_eq_true rfl) dX6_lose_35 ⟨Nat.le_of_ble_eq_true rfl, Nat.le_of_ble_eq_true rfl⟩) hP hD hS hA [2, 3] [0, 1, 4] rfl rfl (by decide +kernel) (by decide +kernel) ?_
          clear hP hD hS
          try clear locs
          try clear H
          intro u_7 H locs hw_r_6 hP hD hS
          refine W.widen (k := 0) (n := 0) (Nat.le_of_ble_eq_true rfl) (Nat.le_of_ble_eq_true rfl) ?_
          replace hP : va_P D vwCl [(hpo, .inr (6, [.ref hr, .ref hg, .ref hgr])), (hgr, .inr (3, [.int (nI en), .ref gs, .ref g1r, .ref g2r, .ref gan, .ref gpr, .ref gde, .ref gme])), (gs, .inl (cs 0, 16, .inl gsf)), (hv, .inr (10, [.int ch, .int po, .ref av])), (av, .inl (cs 0, 32, .inl (upd f9 ((sT gsf e9) * 4 + 2) (nI 0))))] H := hP
          replace hD : va_D A [(hpo, .inr (6, [.ref hr, .ref hg, .ref hgr])), (hgr, .inr (3, [.int (nI en), .ref gs, .ref g1r, .ref g2r, .ref gan, .ref gpr, .ref gde, .ref gme])), (gs, .inl (cs 0, 16, .inl gsf)), (hv, .inr (10, [.int ch, .int po, .ref av])), (av, .inl (cs 0, 32, .inl (upd f9 ((sT gsf e9) * 4 + 2) (nI 0))))] := hD
          refine lv_iinc (v := nI (e9 + 1)) (lv' := [(3, .int (nI (e9 + 1))), (0, .ref hpo), (1, .ref hv), (2, .int x)]) hx hb dX6_lose_38 hl (k := 0) rfl (nI_add e9 1) (by decide) rfl ?_
          clear hl
          try clear ls
          intro ls hl
          refine lv_goto (tgt := 2) hx hb dX6_lose_41 (by decide) ?_
          exact ih_loop_1 (e9 + 1) (upd f9 ((sT gsf e9) * 4 + 2) (nI 0)) (by omega) (⟨_, hlo9, Or.inl ⟨PQ.yes hw_r_3 c_5, rfl⟩⟩) (by omega) H locs ls (xP_map hP [0, 1, 3, 4, 2] rfl) (hD.sub [0, 1, 3, 4, 2] (by decide +kernel) rfl) hS (lv_sub hl [0, 1, 2, 3] rfl)
  exact loop_1 _ 0 f (by omega) rfl (Nat.lt_succ_self _) H locs ls hP hD hS (lv_sub hl [0, 1, 2, 3] rfl)
