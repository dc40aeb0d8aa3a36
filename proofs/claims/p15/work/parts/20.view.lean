set_option maxHeartbeats 4000000 in
set_option maxRecDepth 100000 in
theorem c_X10_init (l : Launch) (D : va_G) (cs : Nat → ClassId) (h : Nat) : xMet l D cs yX10_init cX10_init 1 none ({ frames := 1, cells := 1, slots := 32, locals := 20 } : Room) [.ref h] [(h, .inr (10, [.int 0, .int 0, .null]))] (xQv D (fun (q : Nat) => True) (fun (q : Nat) => [(h, .inr (10, [.int 0, .int 0, .ref q])), (q, .inl (cs 0, 32, .inl (fun _ => 0)))])) := by
  refine xMet.intro (by decide) (Nat.le_of_ble_eq_true rfl) ?_
  intro p e s m args below meth c A ls C hP hD hS hl
  have hx := C.1
  have hb := C.2.1
  have hz := C.2.2.2.2.1
  have hown := C.2.2.2.1
  have hA := C.2.2.2.2.2.2.2.2.2
  have hAO := C.2.2.2.2.2.2.2.2.1.2.2
  replace hl : lv_has ls 1 [(0, .ref h)] := hl
  obtain ⟨H, hH⟩ : ∃ H, H = s.heap := ⟨_, rfl⟩
  replace hP : va_P D vwCl [(h, .inr (10, [.int 0, .int 0, .null]))] H := by rw [hH]; exact hP
  replace hS : va_S A s.heap H [] := by rw [hH]; exact hS
  obtain ⟨locs, hlocs⟩ : ∃ z : List Loc, z = [] := ⟨_, rfl⟩
  rw [← hlocs] at hS
  suffices hW : W p l e ({ frames := 1, cells := 1, slots := 32, locals := 20 } : Room) s m args below meth c H locs 0 0 (MQ below ((xQv D (fun (q : Nat) => True) (fun (q : Nat) => [(h, .inr (10, [.int 0, .int 0, .ref q])), (q, .inl (cs 0, 32, .inl (fun _ => 0)))])) A) args s 1 32 A) (F0 m 0 ls []) by rw [hlocs, hH] at hW; exact hW
  clear hH hlocs
  refine lv_aload_n hx hb dX10_init_0 rfl (lv_at hl 0 rfl) ?_
  refine W.objInit hx hb hown (hz _ zw1_139) (hz _ zw1_30) (hz _ zw1_31) rfl (by rw [C.2.2.1]; exact hl.1) rfl dX10_init_1 (Nat.le_of_ble_eq_true rfl) (Nat.le_of_ble_eq_true rfl) ?_
  refine W.eq (g2 := F0 m 4 ls []) rfl ?_
  refine lv_aload_n hx hb dX10_init_4 rfl (lv_at hl 0 rfl) ?_
  refine lv_bipush (v := nI 32) hx hb dX10_init_5 (by decide) ?_
  refine xnewi (n := 32) C hP hD hS zw1_126 rfl (by decide) (Nat.le_of_ble_eq_true rfl) (Nat.le_of_ble_eq_true rfl) dX10_init_7 ?_
  clear hP hD hS
  try clear H
  intro q_1 H hP hD hS
  refine W.widen (k := 1) (n := 32) (Nat.le_of_ble_eq_true rfl) (Nat.le_of_ble_eq_true rfl) ?_
  replace hP : va_P D vwCl [(h, .inr (10, [.int 0, .int 0, .null])), (q_1, .inl (cs 0, 32, .inl (fun _ => 0)))] H := hP
  replace hD : va_D A [(h, .inr (10, [.int 0, .int 0, .null])), (q_1, .inl (cs 0, 32, .inl (fun _ => 0)))] := hD
  refine xputF C hP hD hS 0 rfl rfl zuX10 tyX10 tyX10_ok nmX10 2 (by decide) zw1_146 rfl rfl rfl rfl rfl (Nat.le_of_ble_eq_true rfl) dX10_init_9 ?_
  clear hP hD hS
  try clear locs
  try clear H
  intro H locs hP hD hS
  replace hP : va_P D vwCl [(h, .inr (10, [.int 0, .int 0, .ref q_1])), (q_1, .inl (cs 0, 32, .inl (fun _ => 0)))] H := hP
  replace hD : va_D A [(h, .inr (10, [.int 0, .int 0, .ref q_1])), (q_1, .inl (cs 0, 32, .inl (fun _ => 0)))] := hD
  exact xretv C q_1 trivial hP hD hS (Nat.le_of_ble_eq_true rfl) (Nat.le_of_ble_eq_true rfl) dX10_init_12

set_option maxHeartbeats 4000000 in
set_option maxRecDepth 100000 in
theorem c_X10_put (l : Launch) (D : va_G) (cs : Nat → ClassId) (h a : Nat) (ch po : Int32) (f : Nat → Int32) (i j : Nat) (x : Int32) (hi : i < 8) (hj : j < 4) : xMet l D cs yX10_put cX10_put 4 none ({ frames := 0, cells := 0, slots := 0, locals := 0 } : Room) [.ref h, .int (nI i), .int (nI j), .int x] [(h, .inr (10, [.int ch, .int po, .ref a])), (a, .inl (cs 0, 32, .inl f))] (xQv D (fun (_u : Unit) => True) (fun (_u : Unit) => [(h, .inr (10, [.int ch, .int po, .ref a])), (a, .inl (cs 0, 32, .inl (upd f (i * 4 + j) x)))])) := by
  refine xMet.intro (by decide) (Nat.le_of_ble_eq_true rfl) ?_
  intro p e s m args below meth c A ls C hP hD hS hl
  have hx := C.1
  have hb := C.2.1
  have hz := C.2.2.2.2.1
  have hown := C.2.2.2.1
  have hA := C.2.2.2.2.2.2.2.2.2
  have hAO := C.2.2.2.2.2.2.2.2.1.2.2
  replace hl : lv_has ls 4 [(0, .ref h), (1, .int (nI i)), (2, .int (nI j)), (3, .int x)] := hl
  obtain ⟨H, hH⟩ : ∃ H, H = s.heap := ⟨_, rfl⟩
  replace hP : va_P D vwCl [(h, .inr (10, [.int ch, .int po, .ref a])), (a, .inl (cs 0, 32, .inl f))] H := by rw [hH]; exact hP
  replace hS : va_S A s.heap H [] := by rw [hH]; exact hS
  obtain ⟨locs, hlocs⟩ : ∃ z : List Loc, z = [] := ⟨_, rfl⟩
  rw [← hlocs] at hS
  suffices hW : W p l e ({ frames := 0, cells := 0, slots := 0, locals := 0 } : Room) s m args below meth c H locs 0 0 (MQ below ((xQv D (fun (_u : Unit) => True) (fun (_u : Unit) => [(h, .inr (10, [.int ch, .int po, .ref a])), (a, .inl (cs 0, 32, .inl (upd f (i * 4 + j) x)))])) A) args s 0 0 A) (F0 m 0 ls []) by rw [hlocs, hH] at hW; exact hW
  clear hH hlocs
  refine lv_aload_n hx hb dX10_put_0 rfl (lv_at hl 0 rfl) ?_
  refine xget C hP 0 rfl rfl zuX10 2 (by decide) zw1_146 rfl dX10_put_1 ?_
  refine lv_iload_n hx hb dX10_put_4 rfl (lv_at hl 1 rfl) ?_
  refine lv_iconst (v := nI 4) hx hb dX10_put_5 (by decide) ?_
  refine lv_imul hx hb dX10_put_6 ?_
  refine lv_topi (nm_r (e' := nI (i * 4)) (pk_mul _ _) ?_)
  refine lv_iload_n hx hb dX10_put_7 rfl (lv_at hl 2 rfl) ?_
  refine lv_iadd hx hb dX10_put_8 ?_
  refine lv_topi (nm_r (e' := nI ((i * 4) + j)) (nI_add _ _) ?_)
  refine lv_iload_n hx hb dX10_put_9 rfl (lv_at hl 3 rfl) ?_
  refine xiast C hP hD hS 1 rfl ((i * 4) + j) rfl (by omega) (by decide) dX10_put_10 ?_
  clear hP hD hS
  try clear locs
  try clear H
  intro H locs hP hD hS
  replace hP : va_P D vwCl [(h, .inr (10, [.int ch, .int po, .ref a])), (a, .inl (cs 0, 32, .inl (upd f ((i * 4) + j) x)))] H := hP
  replace hD : va_D A [(h, .inr (10, [.int ch, .int po, .ref a])), (a, .inl (cs 0, 32, .inl (upd f ((i * 4) + j) x)))] := hD
  exact xretv C () trivial hP hD hS (Nat.le_of_ble_eq_true rfl) (Nat.le_of_ble_eq_true rfl) dX10_put_11

set_option maxHeartbeats 4000000 in
set_option maxRecDepth 100000 in
theorem c_X10_get (l : Launch) (D : va_G) (cs : Nat → ClassId) (h a : Nat) (ch po : Int32) (f : Nat → Int32) (i j : Nat) (hi : i < 8) (hj : j < 4) : xMet l D cs yX10_get cX10_get 3 (some .int) ({ frames := 0, cells := 0, slots := 0, locals := 0 } : Room) [.ref h, .int (nI i), .int (nI j)] [(h, .inr (10, [.int ch, .int po, .ref a])), (a, .inl (cs 0, 32, .inl f))] (xQi D (fun (r : Int32) (_u : Unit) => r = f (i * 4 + j)) (fun (_u : Unit) => [(h, .inr (10, [.int ch, .int po, .ref a])), (a, .inl (cs 0, 32, .inl f))])) := by
  refine xMet.intro (by decide) (Nat.le_of_ble_eq_true rfl) ?_
  intro p e s m args below meth c A ls C hP hD hS hl
  have hx := C.1
  have hb := C.2.1
  have hz := C.2.2.2.2.1
  have hown := C.2.2.2.1
  have hA := C.2.2.2.2.2.2.2.2.2
  have hAO := C.2.2.2.2.2.2.2.2.1.2.2
  replace hl : lv_has ls 3 [(0, .ref h), (1, .int (nI i)), (2, .int (nI j))] := hl
  obtain ⟨H, hH⟩ : ∃ H, H = s.heap := ⟨_, rfl⟩
  replace hP : va_P D vwCl [(h, .inr (10, [.int ch, .int po, .ref a])), (a, .inl (cs 0, 32, .inl f))] H := by rw [hH]; exact hP
  replace hS : va_S A s.heap H [] := by rw [hH]; exact hS
  obtain ⟨locs, hlocs⟩ : ∃ z : List Loc, z = [] := ⟨_, rfl⟩
  rw [← hlocs] at hS
  suffices hW : W p l e ({ frames := 0, cells := 0, slots := 0, locals := 0 } : Room) s m args below meth c H locs 0 0 (MQ below ((xQi D (fun (r : Int32) (_u : Unit) => r = f (i * 4 + j)) (fun (_u : Unit) => [(h, .inr (10, [.int ch, .int po, .ref a])), (a, .inl (cs 0, 32, .inl f))])) A) args s 0 0 A) (F0 m 0 ls []) by rw [hlocs, hH] at hW; exact hW
  clear hH hlocs
  refine lv_aload_n hx hb dX10_get_0 rfl (lv_at hl 0 rfl) ?_
  refine xget C hP 0 rfl rfl zuX10 2 (by decide) zw1_146 rfl dX10_get_1 ?_
  refine lv_iload_n hx hb dX10_get_4 rfl (lv_at hl 1 rfl) ?_
  refine lv_iconst (v := nI 4) hx hb dX10_get_5 (by decide) ?_
  refine lv_imul hx hb dX10_get_6 ?_
  refine lv_topi (nm_r (e' := nI (i * 4)) (pk_mul _ _) ?_)
  refine lv_iload_n hx hb dX10_get_7 rfl (lv_at hl 2 rfl) ?_
  refine lv_iadd hx hb dX10_get_8 ?_
  refine lv_topi (nm_r (e' := nI ((i * 4) + j)) (nI_add _ _) ?_)
  refine xiald C hP 1 rfl ((i * 4) + j) rfl (by omega) (by decide) dX10_get_9 ?_
  exact xreti C () rfl hP hD hS (Nat.le_of_ble_eq_true rfl) (Nat.le_of_ble_eq_true rfl) rfl dX10_get_10

/-- a view's sets as at first, up to set i -/
def vS (f : Nat → Int32) (i : Nat) : Nat → Int32 := fun k => if k < 4 * i then (if k % 4 = 2 then 0 else -1) else f k
theorem vS_step (f : Nat → Int32) (i : Nat) : upd (upd (upd (upd (vS f i) (i * 4 + 0) (-1)) (i * 4 + 1) (-1)) (i * 4 + 2) (nI 0)) (i * 4 + 3) (-1) = vS f (i + 1) := by
  funext k
  simp only [upd, vS]
  by_cases h3 : k = i * 4 + 3
  · rw [if_pos h3, if_pos (by omega), if_neg (by omega)]
  by_cases h2 : k = i * 4 + 2
  · rw [if_neg h3, if_pos h2, if_pos (by omega), if_pos (by omega)]; rfl
  by_cases h1 : k = i * 4 + 1
  · rw [if_neg h3, if_neg h2, if_pos h1, if_pos (by omega), if_neg (by omega)]
  by_cases h0 : k = i * 4 + 0
  · rw [if_neg h3, if_neg h2, if_neg h1, if_pos h0, if_pos (by omega), if_neg (by omega)]
  rw [if_neg h3, if_neg h2, if_neg h1, if_neg h0]
  by_cases hk : k < 4 * i
  · rw [if_pos hk, if_pos (show k < 4 * (i + 1) by omega)]
  · rw [if_neg hk, if_neg (by omega)]
theorem vS_0 (f : Nat → Int32) : f = vS f 0 := by
  funext k
  simp only [vS]
  rw [if_neg (by omega)]

/-- a view's sets as at first -/
def vF : Nat → Int32 := fun k => if k % 4 = 2 then 0 else -1

set_option maxHeartbeats 4000000 in
set_option maxRecDepth 100000 in
theorem c_X10_begin (l : Launch) (D : va_G) (cs : Nat → ClassId) (h a : Nat) (ch po : Int32) (f : Nat → Int32) : xMet l D cs yX10_begin cX10_begin 2 none ({ frames := 1, cells := 0, slots := 0, locals := 23 } : Room) [.ref h] [(h, .inr (10, [.int ch, .int po, .ref a])), (a, .inl (cs 0, 32, .inl f))] (xQv D (fun (_u : Unit) => True) (fun (_u : Unit) => [(h, .inr (10, [.int (nI 0), .int (nI 0), .ref a])), (a, .inl (cs 0, 32, .inl vF))])) := by
  refine xMet.intro (by decide) (Nat.le_of_ble_eq_true rfl) ?_
  intro p e s m args below meth c A ls C hP hD hS hl
  have hx := C.1
  have hb := C.2.1
  have hz := C.2.2.2.2.1
  have hown := C.2.2.2.1
  have hA := C.2.2.2.2.2.2.2.2.2
  have hAO := C.2.2.2.2.2.2.2.2.1.2.2
  replace hl : lv_has ls 2 [(0, .ref h)] := hl
  obtain ⟨H, hH⟩ : ∃ H, H = s.heap := ⟨_, rfl⟩
  replace hP : va_P D vwCl [(h, .inr (10, [.int ch, .int po, .ref a])), (a, .inl (cs 0, 32, .inl f))] H := by rw [hH]; exact hP
  replace hS : va_S A s.heap H [] := by rw [hH]; exact hS
  obtain ⟨locs, hlocs⟩ : ∃ z : List Loc, z = [] := ⟨_, rfl⟩
  rw [← hlocs] at hS
  suffices hW : W p l e ({ frames := 1, cells := 0, slots := 0, locals := 23 } : Room) s m args below meth c H locs 0 0 (MQ below ((xQv D (fun (_u : Unit) => True) (fun (_u : Unit) => [(h, .inr (10, [.int (nI 0), .int (nI 0), .ref a])), (a, .inl (cs 0, 32, .inl vF))])) A) args s 0 0 A) (F0 m 0 ls []) by rw [hlocs, hH] at hW; exact hW
  clear hH hlocs
  refine lv_aload_n hx hb dX10_begin_0 rfl (lv_at hl 0 rfl) ?_
  refine lv_iconst (v := nI 0) hx hb dX10_begin_1 (by decide) ?_
  refine xput C hP hD hS 0 rfl rfl zuX10 tyX10 tyX10_ok nmX10 0 (by decide) zw1_140 rfl rfl rfl (Nat.le_of_ble_eq_true rfl) dX10_begin_2 ?_
  clear hP hD hS
  try clear locs
  try clear H
  intro H locs hP hD hS
  replace hP : va_P D vwCl [(h, .inr (10, [.int (nI 0), .int po, .ref a])), (a, .inl (cs 0, 32, .inl f))] H := hP
  replace hD : va_D A [(h, .inr (10, [.int (nI 0), .int po, .ref a])), (a, .inl (cs 0, 32, .inl f))] := hD
  refine lv_aload_n hx hb dX10_begin_5 rfl (lv_at hl 0 rfl) ?_
  refine lv_iconst (v := nI 0) hx hb dX10_begin_6 (by decide) ?_
  refine xput C hP hD hS 0 rfl rfl zuX10 tyX10 tyX10_ok nmX10 1 (by decide) zw1_143 rfl rfl rfl (Nat.le_of_ble_eq_true rfl) dX10_begin_7 ?_
  clear hP hD hS
  try clear locs
  try clear H
  intro H locs hP hD hS
  replace hP : va_P D vwCl [(h, .inr (10, [.int (nI 0), .int (nI 0), .ref a])), (a, .inl (cs 0, 32, .inl f))] H := hP
  replace hD : va_D A [(h, .inr (10, [.int (nI 0), .int (nI 0), .ref a])), (a, .inl (cs 0, 32, .inl f))] := hD
  refine lv_iconst (v := nI 0) hx hb dX10_begin_10 (by decide) ?_
  refine lv_istore_n (lv' := [(1, .int (nI 0)), (0, .ref h)]) hx hb dX10_begin_11 rfl hl (by decide) rfl ?_
  clear hl
  try clear ls
  intro ls hl
  replace hP : va_P D vwCl [(h, .inr (10, [.int (nI 0), .int (nI 0), .ref a])), (a, .inl (cs 0, 32, .inl (vS f 0)))] H := by rw [← vS_0 f]; exact hP
  replace hD : va_D A [(h, .inr (10, [.int (nI 0), .int (nI 0), .ref a])), (a, .inl (cs 0, 32, .inl (vS f 0)))] := by rw [← vS_0 f]; exact hD
  have loop_1 : ∀ (n_loop_1 : Nat) (i : Nat), (i ≤ 8) → 8 - i < n_loop_1 → ∀ (H : Heap) (locs : List Loc) (ls : Array Slot), va_P D vwCl [(h, .inr (10, [.int (nI 0), .int (nI 0), .ref a])), (a, .inl (cs 0, 32, .inl (vS f i)))] H → va_D A [(h, .inr (10, [.int (nI 0), .int (nI 0), .ref a])), (a, .inl (cs 0, 32, .inl (vS f i)))] → va_S A s.heap H locs → lv_has ls 2 [(1, .int (nI i)), (0, .ref h)] → W p l e ({ frames := 1, cells := 0, slots := 0, locals := 23 } : Room) s m args below meth c H locs 0 0 (MQ below ((xQv D (fun (_u : Unit) => True) (fun (_u : Unit) => [(h, .inr (10, [.int (nI 0), .int (nI 0), .ref a])), (a, .inl (cs 0, 32, .inl vF))])) A) args s 0 0 A) (F0 m 12 ls []) := by
    intro n_loop_1
    induction n_loop_1 with
    | zero => intro i hi8 hlt H locs ls hP hD hS hl; exact absurd hlt (Nat.not_lt_zero _)
    | succ n_loop_1 ih_loop_1 =>
      intro i hi8 hlt_loop_1 H locs ls hP hD hS hl
      refine lv_iload_n hx hb dX10_begin_12 rfl (lv_at hl 0 rfl) ?_
      refine lv_bipush (v := nI 8) hx hb dX10_begin_13 (by decide) ?_
      refine lv_icmp_ge (tgt := 52) hx hb dX10_begin_15 (by decide) (fun c_2 => ?_) (fun c_2 => ?_)
      · -- 15 t
        have fc_2 : 8 ≤ i := nf_le (by omega) (by omega) c_2
        obtain rfl : 8 = i := by omega
        replace hP : va_P D vwCl [(h, .inr (10, [.int (nI 0), .int (nI 0), .ref a])), (a, .inl (cs 0, 32, .inl (vS f 8)))] H := hP
        replace hD : va_D A [(h, .inr (10, [.int (nI 0), .int (nI 0), .ref a])), (a, .inl (cs 0, 32, .inl (vS f 8)))] := hD
        have hPD := xcongi (q0 := 1) (vF) hP hD rfl (fun j hj => by simp only [vF, vS]; rw [if_pos (show j < 4 * 8 by omega)])
        clear hP hD
        obtain ⟨hP, hD⟩ := hPD
        replace hP : va_P D vwCl [(h, .inr (10, [.int (nI 0), .int (nI 0), .ref a])), (a, .inl (cs 0, 32, .inl vF))] H := hP
        replace hD : va_D A [(h, .inr (10, [.int (nI 0), .int (nI 0), .ref a])), (a, .inl (cs 0, 32, .inl vF))] := hD
        exact xretv C () trivial hP hD hS (Nat.le_of_ble_eq_true rfl) (Nat.le_of_ble_eq_true rfl) dX10_begin_52
      · -- 15 f
        have fc_2 : i < 8 := nf_nle (by omega) (by omega) c_2
        refine lv_aload_n hx hb dX10_begin_18 rfl (lv_at hl 1 rfl) ?_
        refine lv_iload_n hx hb dX10_begin_19 rfl (lv_at hl 0 rfl) ?_
        refine lv_iconst (v := nI 0) hx hb dX10_begin_20 (by decide) ?_
        refine lv_iconst (v := (-1)) hx hb dX10_begin_21 (by decide) ?_
        refine xv (wr := []) (xV (As := [.int (nI i), .int (nI 0), .int (-1)]) (rest := []) C (c_X10_put l D cs h a (nI 0) (nI 0) (vS f i) i 0 (-1) (by first | omega | decide) (by first | omega | decide)) kX10_22 hP hD [0, 1] rfl (by decide) 0 rfl rfl rfl ⟨Nat.le_of_ble_eq_true rfl, Nat.le_of_ble_eq_true rfl⟩ rfl hl.1 rfl (Nat.le_of_ble_eq_true rfl) dX10_begin_22 ⟨Nat.le_of_ble_eq_true rfl, Nat.le_of_ble_eq_true rfl⟩) hP hD hS hA [0, 1] [] rfl rfl (by decide) (by decide) ?_
        clear hP hD hS
        try clear locs
        try clear H
        intro u_4 H locs hw_r_3 hP hD hS
        refine W.widen (k := 0) (n := 0) (Nat.le_of_ble_eq_true rfl) (Nat.le_of_ble_eq_true rfl) ?_
        replace hP : va_P D vwCl [(h, .inr (10, [.int (nI 0), .int (nI 0), .ref a])), (a, .inl (cs 0, 32, .inl (upd (vS f i) (i * 4 + 0) (-1))))] H := hP
        replace hD : va_D A [(h, .inr (10, [.int (nI 0), .int (nI 0), .ref a])), (a, .inl (cs 0, 32, .inl (upd (vS f i) (i * 4 + 0) (-1))))] := hD
        refine lv_aload_n hx hb dX10_begin_25 rfl (lv_at hl 1 rfl) ?_
        refine lv_iload_n hx hb dX10_begin_26 rfl (lv_at hl 0 rfl) ?_
        refine lv_iconst (v := nI 1) hx hb dX10_begin_27 (by decide) ?_
        refine lv_iconst (v := (-1)) hx hb dX10_begin_28 (by decide) ?_
        refine xv (wr := []) (xV (As := [.int (nI i), .int (nI 1), .int (-1)]) (rest := []) C (c_X10_put l D cs h a (nI 0) (nI 0) (upd (vS f i) (i * 4 + 0) (-1)) i 1 (-1) (by first | omega | decide) (by first | omega | decide)) kX10_22 hP hD [0, 1] rfl (by decide) 0 rfl rfl rfl ⟨Nat.le_of_ble_eq_true rfl, Nat.le_of_ble_eq_true rfl⟩ rfl hl.1 rfl (Nat.le_of_ble_eq_true rfl) dX10_begin_29 ⟨Nat.le_of_ble_eq_true rfl, Nat.le_of_ble_eq_true rfl⟩) hP hD hS hA [0, 1] [] rfl rfl (by decide) (by decide) ?_
        clear hP hD hS
        try clear locs
        try clear H
        intro u_6 H locs hw_r_5 hP hD hS
        refine W.widen (k := 0) (n := 0) (Nat.le_of_ble_eq_true rfl) (Nat.le_of_ble_eq_true rfl) ?_
        replace hP : va_P D vwCl [(h, .inr (10, [.int (nI 0), .int (nI 0), .ref a])), (a, .inl (cs 0, 32, .inl (upd (upd (vS f i) (i * 4 + 0) (-1)) (i * 4 + 1) (-1))))] H := hP
        replace hD : va_D A [(h, .inr (10, [.int (nI 0), .int (nI 0), .ref a])), (a, .inl (cs 0, 32, .inl (upd (upd (vS f i) (i * 4 + 0) (-1)) (i * 4 + 1) (-1))))] := hD
        refine lv_aload_n hx hb dX10_begin_32 rfl (lv_at hl 1 rfl) ?_
        refine lv_iload_n hx hb dX10_begin_33 rfl (lv_at hl 0 rfl) ?_
        refine lv_iconst (v := nI 2) hx hb dX10_begin_34 (by decide) ?_
        refine lv_iconst (v := nI 0) hx hb dX10_begin_35 (by decide) ?_
        refine xv (wr := []) (xV (As := [.int (nI i), .int (nI 2), .int (nI 0)]) (rest := []) C (c_X10_put l D cs h a (nI 0) (nI 0) (upd (upd (vS f i) (i * 4 + 0) (-1)) (i * 4 + 1) (-1)) i 2 (nI 0) (by first | omega | decide) (by first | omega | decide)) kX10_22 hP hD [0, 1] rfl (by decide) 0 rfl rfl rfl ⟨Nat.le_of_ble_eq_true rfl, Nat.le_of_ble_eq_true rfl⟩ rfl hl.1 rfl (Nat.le_of_ble_eq_true rfl) dX10_begin_36 ⟨Nat.le_of_ble_eq_true rfl, Nat.le_of_ble_eq_true rfl⟩) hP hD hS hA [0, 1] [] rfl rfl (by decide) (by decide) ?_
        clear hP hD hS
        try clear locs
        try clear H
        intro u_8 H locs hw_r_7 hP hD hS
        refine W.widen (k := 0) (n := 0) (Nat.le_of_ble_eq_true rfl) (Nat.le_of_ble_eq_true rfl) ?_
        replace hP : va_P D vwCl [(h, .inr (10, [.int (nI 0), .int (nI 0), .ref a])), (a, .inl (cs 0, 32, .inl (upd (upd (upd (vS f i) (i * 4 + 0) (-1)) (i * 4 + 1) (-1)) (i * 4 + 2) (nI 0))))] H := hP
        replace hD : va_D A [(h, .inr (10, [.int (nI 0), .int (nI 0), .ref a])), (a, .inl (cs 0, 32, .inl (upd (upd (upd (vS f i) (i * 4 + 0) (-1)) (i * 4 + 1) (-1)) (i * 4 + 2) (nI 0))))] := hD
        refine lv_aload_n hx hb dX10_begin_39 rfl (lv_at hl 1 rfl) ?_
        refine lv_iload_n hx hb dX10_begin_40 rfl (lv_at hl 0 rfl) ?_
        refine lv_iconst (v := nI 3) hx hb dX10_begin_41 (by decide) ?_
        refine lv_iconst (v := (-1)) hx hb dX10_begin_42 (by decide) ?_
        refine xv (wr := []) (xV (As := [.int (nI i), .int (nI 3), .int (-1)]) (rest := []) C (c_X10_put l D cs h a (nI 0) (nI 0) (upd (upd (upd (vS f i) (i * 4 + 0) (-1)) (i * 4 + 1) (-1)) (i * 4 + 2) (nI 0)) i 3 (-1) (by first | omega | decide) (by first | omega | decide)) kX10_22 hP hD [0, 1] rfl (by decide) 0 rfl rfl rfl ⟨Nat.le_of_ble_eq_true rfl, Nat.le_of_ble_eq_true rfl⟩ rfl hl.1 rfl (Nat.le_of_ble_eq_true rfl) dX10_begin_43 ⟨Nat.le_of_ble_eq_true rfl, Nat.le_of_ble_eq_true rfl⟩) hP hD hS hA [0, 1] [] rfl rfl (by decide) (by decide) ?_
        clear hP hD hS
        try clear locs
        try clear H
        intro u_10 H locs hw_r_9 hP hD hS
        refine W.widen (k := 0) (n := 0) (Nat.le_of_ble_eq_true rfl) (Nat.le_of_ble_eq_true rfl) ?_
        replace hP : va_P D vwCl [(h, .inr (10, [.int (nI 0), .int (nI 0), .ref a])), (a, .inl (cs 0, 32, .inl (upd (upd (upd (upd (vS f i) (i * 4 + 0) (-1)) (i * 4 + 1) (-1)) (i * 4 + 2) (nI 0)) (i * 4 + 3) (-1))))] H := hP
        replace hD : va_D A [(h, .inr (10, [.int (nI 0), .int (nI 0), .ref a])), (a, .inl (cs 0, 32, .inl (upd (upd (upd (upd (vS f i) (i * 4 + 0) (-1)) (i * 4 + 1) (-1)) (i * 4 + 2) (nI 0)) (i * 4 + 3) (-1))))] := hD
        refine lv_iinc (v := nI (i + 1)) (lv' := [(1, .int (nI (i + 1))), (0, .ref h)]) hx hb dX10_begin_46 hl (k := 0) rfl (nI_add i 1) (by decide) rfl ?_
        clear hl
        try clear ls
        intro ls hl
        refine lv_goto (tgt := 12) hx hb dX10_begin_49 (by decide) ?_
        replace hP : va_P D vwCl [(h, .inr (10, [.int (nI 0), .int (nI 0), .ref a])), (a, .inl (cs 0, 32, .inl (vS f (i + 1))))] H := by rw [← vS_step f i]; exact hP
        replace hD : va_D A [(h, .inr (10, [.int (nI 0), .int (nI 0), .ref a])), (a, .inl (cs 0, 32, .inl (vS f (i + 1))))] := by rw [← vS_step f i]; exact hD
        exact ih_loop_1 (i + 1) (by omega) (by omega) H locs ls hP hD hS (lv_sub hl [0, 1] rfl)
  exact loop_1 _ 0 (by decide) (Nat.lt_succ_self _) H locs ls hP hD hS (lv_sub hl [0, 1] rfl)

set_option maxHeartbeats 4000000 in
set_option maxRecDepth 100000 in
theorem c_X10_takeFrom (l : Launch) (D : va_G) (cs : Nat → ClassId) (h a : Nat) (ch po : Int32) (f : Nat → Int32) (h2 a2 : Nat) (ch2 po2 : Int32) (f2 : Nat → Int32) : xMet l D cs yX10_takeFrom cX10_takeFrom 2 none ({ frames := 1, cells := 0, slots := 0, locals := 68 } : Room) [.ref h, .ref h2] [(h, .inr (10, [.int ch, .int po, .ref a])), (a, .inl (cs 0, 32, .inl f)), (h2, .inr (10, [.int ch2, .int po2, .ref a2])), (a2, .inl (cs 0, 32, .inl f2))] (xQv D (fun (_u : Unit) => True) (fun (_u : Unit) => [(h, .inr (10, [.int ch2, .int po2, .ref a])), (a, .inl (cs 0, 32, .inl f2)), (h2, .inr (10, [.int ch2, .int po2, .ref a2])), (a2, .inl (cs 0, 32, .inl f2))])) := by
  refine xMet.intro (by decide) (Nat.le_of_ble_eq_true rfl) ?_
  intro p e s m args below meth c A ls C hP hD hS hl
  have hx := C.1
  have hb := C.2.1
  have hz := C.2.2.2.2.1
  have hown := C.2.2.2.1
  have hA := C.2.2.2.2.2.2.2.2.2
  have hAO := C.2.2.2.2.2.2.2.2.1.2.2
  replace hl : lv_has ls 2 [(0, .ref h), (1, .ref h2)] := hl
  obtain ⟨H, hH⟩ : ∃ H, H = s.heap := ⟨_, rfl⟩
  replace hP : va_P D vwCl [(h, .inr (10, [.int ch, .int po, .ref a])), (a, .inl (cs 0, 32, .inl f)), (h2, .inr (10, [.int ch2, .int po2, .ref a2])), (a2, .inl (cs 0, 32, .inl f2))] H := by rw [hH]; exact hP
  replace hS : va_S A s.heap H [] := by rw [hH]; exact hS
  obtain ⟨locs, hlocs⟩ : ∃ z : List Loc, z = [] := ⟨_, rfl⟩
  rw [← hlocs] at hS
  suffices hW : W p l e ({ frames := 1, cells := 0, slots := 0, locals := 68 } : Room) s m args below meth c H locs 0 0 (MQ below ((xQv D (fun (_u : Unit) => True) (fun (_u : Unit) => [(h, .inr (10, [.int ch2, .int po2, .ref a])), (a, .inl (cs 0, 32, .inl f2)), (h2, .inr (10, [.int ch2, .int po2, .ref a2])), (a2, .inl (cs 0, 32, .inl f2))])) A) args s 0 0 A) (F0 m 0 ls []) by rw [hlocs, hH] at hW; exact hW
  clear hH hlocs
  refine lv_aload_n hx hb dX10_takeFrom_0 rfl (lv_at hl 0 rfl) ?_
  refine lv_aload_n hx hb dX10_takeFrom_1 rfl (lv_at hl 1 rfl) ?_
  refine xget C hP 2 rfl rfl zuX10 0 (by decide) zw1_140 rfl dX10_takeFrom_2 ?_
  refine xput C hP hD hS 0 rfl rfl zuX10 tyX10 tyX10_ok nmX10 0 (by decide) zw1_140 rfl rfl rfl (Nat.le_of_ble_eq_true rfl) dX10_takeFrom_5 ?_
  clear hP hD hS
  try clear locs
  try clear H
  intro H locs hP hD hS
  replace hP : va_P D vwCl [(h, .inr (10, [.int ch2, .int po, .ref a])), (a, .inl (cs 0, 32, .inl f)), (h2, .inr (10, [.int ch2, .int po2, .ref a2])), (a2, .inl (cs 0, 32, .inl f2))] H := hP
  replace hD : va_D A [(h, .inr (10, [.int ch2, .int po, .ref a])), (a, .inl (cs 0, 32, .inl f)), (h2, .inr (10, [.int ch2, .int po2, .ref a2])), (a2, .inl (cs 0, 32, .inl f2))] := hD
  refine lv_aload_n hx hb dX10_takeFrom_8 rfl (lv_at hl 0 rfl) ?_
  refine lv_aload_n hx hb dX10_takeFrom_9 rfl (lv_at hl 1 rfl) ?_
  refine xget C hP 2 rfl rfl zuX10 1 (by decide) zw1_143 rfl dX10_takeFrom_10 ?_
  refine xput C hP hD hS 0 rfl rfl zuX10 tyX10 tyX10_ok nmX10 1 (by decide) zw1_143 rfl rfl rfl (Nat.le_of_ble_eq_true rfl) dX10_takeFrom_13 ?_
  clear hP hD hS
  try clear locs
  try clear H
  intro H locs hP hD hS
  replace hP : va_P D vwCl [(h, .inr (10, [.int ch2, .int po2, .ref a])), (a, .inl (cs 0, 32, .inl f)), (h2, .inr (10, [.int ch2, .int po2, .ref a2])), (a2, .inl (cs 0, 32, .inl f2))] H := hP
  replace hD : va_D A [(h, .inr (10, [.int ch2, .int po2, .ref a])), (a, .inl (cs 0, 32, .inl f)), (h2, .inr (10, [.int ch2, .int po2, .ref a2])), (a2, .inl (cs 0, 32, .inl f2))] := hD
  refine lv_aload_n hx hb dX10_takeFrom_16 rfl (lv_at hl 1 rfl) ?_
  refine xget C hP 2 rfl rfl zuX10 2 (by decide) zw1_146 rfl dX10_takeFrom_17 ?_
  refine lv_iconst (v := nI 0) hx hb dX10_takeFrom_20 (by decide) ?_
  refine lv_aload_n hx hb dX10_takeFrom_21 rfl (lv_at hl 0 rfl) ?_
  refine xget C hP 0 rfl rfl zuX10 2 (by decide) zw1_146 rfl dX10_takeFrom_22 ?_
  refine lv_iconst (v := nI 0) hx hb dX10_takeFrom_25 (by decide) ?_
  refine lv_bipush (v := nI 32) hx hb dX10_takeFrom_26 (by decide) ?_
  refine xcopy C hP hD hS 3 1 rfl rfl (sp := 0) (dp := 0) (k := 32) rfl rfl rfl (by decide) (by decide) ⟨by decide, by decide⟩ zw3_11 zw3_6 zw3_5 zw1_16 (Nat.le_of_ble_eq_true rfl) (Nat.le_of_ble_eq_true rfl) hl.1 dX10_takeFrom_28 ?_
  clear hP hD hS
  try clear locs
  try clear H
  intro H locs hP hD hS
  replace hP : va_P D vwCl [(h, .inr (10, [.int ch2, .int po2, .ref a])), (a, .inl (cs 0, 32, .inl (va_cpy f2 f 0 0 32))), (h2, .inr (10, [.int ch2, .int po2, .ref a2])), (a2, .inl (cs 0, 32, .inl f2))] H := hP
  replace hD : va_D A [(h, .inr (10, [.int ch2, .int po2, .ref a])), (a, .inl (cs 0, 32, .inl (va_cpy f2 f 0 0 32))), (h2, .inr (10, [.int ch2, .int po2, .ref a2])), (a2, .inl (cs 0, 32, .inl f2))] := hD
  have hPD := xcongi (q0 := 1) (f2) hP hD rfl (fun j hj => by rw [pk_cpy_in (Nat.zero_le j) (by omega)]; simp)
  clear hP hD
  obtain ⟨hP, hD⟩ := hPD
  replace hP : va_P D vwCl [(h, .inr (10, [.int ch2, .int po2, .ref a])), (a, .inl (cs 0, 32, .inl f2)), (h2, .inr (10, [.int ch2, .int po2, .ref a2])), (a2, .inl (cs 0, 32, .inl f2))] H := hP
  replace hD : va_D A [(h, .inr (10, [.int ch2, .int po2, .ref a])), (a, .inl (cs 0, 32, .inl f2)), (h2, .inr (10, [.int ch2, .int po2, .ref a2])), (a2, .inl (cs 0, 32, .inl f2))] := hD
  exact xretv C () trivial hP hD hS (Nat.le_of_ble_eq_true rfl) (Nat.le_of_ble_eq_true rfl) dX10_takeFrom_31

set_option maxHeartbeats 4000000 in
set_option maxRecDepth 100000 in
theorem c_X10_isOpen (l : Launch) (D : va_G) (cs : Nat → ClassId) (h a : Nat) (ch po : Int32) (f : Nat → Int32) (i : Nat) (hi : i < 8) : xMet l D cs yX10_isOpen cX10_isOpen 2 (some .boolean) ({ frames := 1, cells := 0, slots := 0, locals := 22 } : Room) [.ref h, .int (nI i)] [(h, .inr (10, [.int ch, .int po, .ref a])), (a, .inl (cs 0, 32, .inl f))] (xQi D (fun (r : Int32) (_u : Unit) => r = if f (i * 4 + 3) = -1 then nI 1 else nI 0) (fun (_u : Unit) => [(h, .inr (10, [.int ch, .int po, .ref a])), (a, .inl (cs 0, 32, .inl f))])) := by
  refine xMet.intro (by decide) (Nat.le_of_ble_eq_true rfl) ?_
  intro p e s m args below meth c A ls C hP hD hS hl
  have hx := C.1
  have hb := C.2.1
  have hz := C.2.2.2.2.1
  have hown := C.2.2.2.1
  have hA := C.2.2.2.2.2.2.2.2.2
  have hAO := C.2.2.2.2.2.2.2.2.1.2.2
  replace hl : lv_has ls 2 [(0, .ref h), (1, .int (nI i))] := hl
  obtain ⟨H, hH⟩ : ∃ H, H = s.heap := ⟨_, rfl⟩
  replace hP : va_P D vwCl [(h, .inr (10, [.int ch, .int po, .ref a])), (a, .inl (cs 0, 32, .inl f))] H := by rw [hH]; exact hP
  replace hS : va_S A s.heap H [] := by rw [hH]; exact hS
  obtain ⟨locs, hlocs⟩ : ∃ z : List Loc, z = [] := ⟨_, rfl⟩
  rw [← hlocs] at hS
  suffices hW : W p l e ({ frames := 1, cells := 0, slots := 0, locals := 22 } : Room) s m args below meth c H locs 0 0 (MQ below ((xQi D (fun (r : Int32) (_u : Unit) => r = if f (i * 4 + 3) = -1 then nI 1 else nI 0) (fun (_u : Unit) => [(h, .inr (10, [.int ch, .int po, .ref a])), (a, .inl (cs 0, 32, .inl f))])) A) args s 0 0 A) (F0 m 0 ls []) by rw [hlocs, hH] at hW; exact hW
  clear hH hlocs
  refine lv_aload_n hx hb dX10_isOpen_0 rfl (lv_at hl 0 rfl) ?_
  refine lv_iload_n hx hb dX10_isOpen_1 rfl (lv_at hl 1 rfl) ?_
  refine lv_iconst (v := nI 3) hx hb dX10_isOpen_2 (by decide) ?_
  refine xi (wr := []) (xV (As := [.int (nI i), .int (nI 3)]) (rest := []) C (c_X10_get l D cs h a ch po f i 3 (by first | omega | decide) (by first | omega | decide)) kX10_32 hP hD [0, 1] rfl (by decide) 0 rfl rfl rfl ⟨Nat.le_of_ble_eq_true rfl, Nat.le_of_ble_eq_true rfl⟩ rfl hl.1 rfl (Nat.le_of_ble_eq_true rfl) dX10_isOpen_3 ⟨Nat.le_of_ble_eq_true rfl, Nat.le_of_ble_eq_true rfl⟩) hP hD hS hA [0, 1] [] rfl rfl (by decide) (by decide) ?_
  clear hP hD hS
  try clear locs
  try clear H
  intro r_1 u_2 H locs hw_r_1 hP hD hS
  have hw_r_1 : r_1 = f (i * 4 + 3) := hw_r_1
  refine W.widen (k := 0) (n := 0) (Nat.le_of_ble_eq_true rfl) (Nat.le_of_ble_eq_true rfl) ?_
  replace hP : va_P D vwCl [(h, .inr (10, [.int ch, .int po, .ref a])), (a, .inl (cs 0, 32, .inl f))] H := hP
  replace hD : va_D A [(h, .inr (10, [.int ch, .int po, .ref a])), (a, .inl (cs 0, 32, .inl f))] := hD
  subst hw_r_1
  refine lv_iconst (v := (-1)) hx hb dX10_isOpen_6 (by decide) ?_
  refine lv_icmp_ne (tgt := 14) hx hb dX10_isOpen_7 (by decide) (fun c_3 => ?_) (fun c_3 => ?_)
  · -- 7 t
    refine lv_iconst (v := nI 0) hx hb dX10_isOpen_14 (by decide) ?_
    exact xreti C () ((if_neg c_3).symm) hP hD hS (Nat.le_of_ble_eq_true rfl) (Nat.le_of_ble_eq_true rfl) (by decide) dX10_isOpen_15
  · -- 7 f
    refine lv_iconst (v := nI 1) hx hb dX10_isOpen_10 (by decide) ?_
    refine lv_goto (tgt := 15) hx hb dX10_isOpen_11 (by decide) ?_
    exact xreti C () ((if_pos c_3).symm) hP hD hS (Nat.le_of_ble_eq_true rfl) (Nat.le_of_ble_eq_true rfl) (by decide) dX10_isOpen_15
