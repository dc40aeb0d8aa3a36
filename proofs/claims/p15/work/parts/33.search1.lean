def inP (m n : Nat) (f : Nat → Int32) : Prop := ∀ j, j < m → ∃ v, v < n ∧ f j = nI v
theorem inP_z {m n : Nat} (h : 0 < n) : inP m n (fun _ => 0) := fun _ _ => ⟨0, h, rfl⟩
theorem inP_up {m n : Nat} {f : Nat → Int32} (h : inP m n f) (k v : Nat) (hv : v < n) : inP m n (upd f k (nI v)) := fun j hj => by
  unfold upd
  by_cases q : j = k
  · rw [if_pos q]; exact ⟨v, hv, rfl⟩
  · rw [if_neg q]; exact h j hj
def fewP (x : Int32) : Prop := x = -1 ∨ x = -3 ∨ ∃ v, v ≤ 2000 ∧ x = nI v
theorem nI_dec {v : Nat} (h : 1 ≤ v) : nI v + (-1) = nI (v - 1) := by
  obtain ⟨w, rfl⟩ : ∃ w, v = w + 1 := ⟨v - 1, by omega⟩
  exact pk_m1 w

set_option maxHeartbeats 4000000 in
set_option maxRecDepth 100000 in
theorem c_X8_init (l : Launch) (D : va_G) (cs : Nat → ClassId) (hse hr ha : Nat) : xMet l D cs yX8_init cX8_init 3 none ({ frames := 1, cells := 1, slots := 8, locals := 20 } : Room) [.ref hse, .ref hr, .ref ha] [(hse, .inr (8, [.null, .null, .null, .null, .null, .null, .null, .int 0, .int 0, .int 0]))] (xQv D (fun (wk2 : Nat) => True) (fun (wk2 : Nat) => [(hse, .inr (8, [.ref hr, .ref ha, .ref wk2, .null, .null, .null, .null, .int 0, .int 0, .int 0])), (wk2, .inl (cs 0, 8, .inl (fun _ => 0)))])) := by
  refine xMet.intro (by decide) (Nat.le_of_ble_eq_true rfl) ?_
  intro p e s m args below meth c A ls C hP hD hS hl
  have hx := C.1
  have hb := C.2.1
  have hz := C.2.2.2.2.1
  have hown := C.2.2.2.1
  have hA := C.2.2.2.2.2.2.2.2.2
  have hAO := C.2.2.2.2.2.2.2.2.1.2.2
  replace hl : lv_has ls 3 [(0, .ref hse), (1, .ref hr), (2, .ref ha)] := hl
  obtain ⟨H, hH⟩ : ∃ H, H = s.heap := ⟨_, rfl⟩
  replace hP : va_P D vwCl [(hse, .inr (8, [.null, .null, .null, .null, .null, .null, .null, .int 0, .int 0, .int 0]))] H := by rw [hH]; exact hP
  replace hS : va_S A s.heap H [] := by rw [hH]; exact hS
  obtain ⟨locs, hlocs⟩ : ∃ z : List Loc, z = [] := ⟨_, rfl⟩
  rw [← hlocs] at hS
  suffices hW : W p l e ({ frames := 1, cells := 1, slots := 8, locals := 20 } : Room) s m args below meth c H locs 0 0 (MQ below ((xQv D (fun (wk2 : Nat) => True) (fun (wk2 : Nat) => [(hse, .inr (8, [.ref hr, .ref ha, .ref wk2, .null, .null, .null, .null, .int 0, .int 0, .int 0])), (wk2, .inl (cs 0, 8, .inl (fun _ => 0)))])) A) args s 1 8 A) (F0 m 0 ls []) by rw [hlocs, hH] at hW; exact hW
  clear hH hlocs
  refine lv_aload_n hx hb dX8_init_0 rfl (lv_at hl 0 rfl) ?_
  refine W.objInit hx hb hown (hz _ zw2_90) (hz _ zw1_30) (hz _ zw1_31) rfl (by rw [C.2.2.1]; exact hl.1) rfl dX8_init_1 (Nat.le_of_ble_eq_true rfl) (Nat.le_of_ble_eq_true rfl) ?_
  refine W.eq (g2 := F0 m 4 ls []) rfl ?_
  refine lv_aload_n hx hb dX8_init_4 rfl (lv_at hl 0 rfl) ?_
  refine lv_bipush (v := nI 8) hx hb dX8_init_5 (by decide) ?_
  refine xnewi (n := 8) C hP hD hS zw1_126 rfl (by decide) (Nat.le_of_ble_eq_true rfl) (Nat.le_of_ble_eq_true rfl) dX8_init_7 ?_
  clear hP hD hS
  try clear H
  intro q_1 H hP hD hS
  refine W.widen (k := 1) (n := 8) (Nat.le_of_ble_eq_true rfl) (Nat.le_of_ble_eq_true rfl) ?_
  replace hP : va_P D vwCl [(hse, .inr (8, [.null, .null, .null, .null, .null, .null, .null, .int 0, .int 0, .int 0])), (q_1, .inl (cs 0, 8, .inl (fun _ => 0)))] H := hP
  replace hD : va_D A [(hse, .inr (8, [.null, .null, .null, .null, .null, .null, .null, .int 0, .int 0, .int 0])), (q_1, .inl (cs 0, 8, .inl (fun _ => 0)))] := hD
  refine xputF C hP hD hS 0 rfl rfl zuX8 tyX8 tyX8_ok nmX8 2 (by decide) zw2_93 rfl rfl rfl rfl rfl (Nat.le_of_ble_eq_true rfl) dX8_init_9 ?_
  clear hP hD hS
  try clear locs
  try clear H
  intro H locs hP hD hS
  replace hP : va_P D vwCl [(hse, .inr (8, [.null, .null, .ref q_1, .null, .null, .null, .null, .int 0, .int 0, .int 0])), (q_1, .inl (cs 0, 8, .inl (fun _ => 0)))] H := hP
  replace hD : va_D A [(hse, .inr (8, [.null, .null, .ref q_1, .null, .null, .null, .null, .int 0, .int 0, .int 0])), (q_1, .inl (cs 0, 8, .inl (fun _ => 0)))] := hD
  refine lv_aload_n hx hb dX8_init_12 rfl (lv_at hl 0 rfl) ?_
  refine lv_aload_n hx hb dX8_init_13 rfl (lv_at hl 1 rfl) ?_
  refine xputF C hP hD hS 0 rfl rfl zuX8 tyX8 tyX8_ok nmX8 0 (by decide) zw2_91 rfl rfl rfl rfl rfl (Nat.le_of_ble_eq_true rfl) dX8_init_14 ?_
  clear hP hD hS
  try clear locs
  try clear H
  intro H locs hP hD hS
  replace hP : va_P D vwCl [(hse, .inr (8, [.ref hr, .null, .ref q_1, .null, .null, .null, .null, .int 0, .int 0, .int 0])), (q_1, .inl (cs 0, 8, .inl (fun _ => 0)))] H := hP
  replace hD : va_D A [(hse, .inr (8, [.ref hr, .null, .ref q_1, .null, .null, .null, .null, .int 0, .int 0, .int 0])), (q_1, .inl (cs 0, 8, .inl (fun _ => 0)))] := hD
  refine lv_aload_n hx hb dX8_init_17 rfl (lv_at hl 0 rfl) ?_
  refine lv_aload_n hx hb dX8_init_18 rfl (lv_at hl 2 rfl) ?_
  refine xputF C hP hD hS 0 rfl rfl zuX8 tyX8 tyX8_ok nmX8 1 (by decide) zw2_92 rfl rfl rfl rfl rfl (Nat.le_of_ble_eq_true rfl) dX8_init_19 ?_
  clear hP hD hS
  try clear locs
  try clear H
  intro H locs hP hD hS
  replace hP : va_P D vwCl [(hse, .inr (8, [.ref hr, .ref ha, .ref q_1, .null, .null, .null, .null, .int 0, .int 0, .int 0])), (q_1, .inl (cs 0, 8, .inl (fun _ => 0)))] H := hP
  replace hD : va_D A [(hse, .inr (8, [.ref hr, .ref ha, .ref q_1, .null, .null, .null, .null, .int 0, .int 0, .int 0])), (q_1, .inl (cs 0, 8, .inl (fun _ => 0)))] := hD
  exact xretv C q_1 trivial hP hD hS (Nat.le_of_ble_eq_true rfl) (Nat.le_of_ble_eq_true rfl) dX8_init_22

set_option maxHeartbeats 4000000 in
set_option maxRecDepth 100000 in
theorem c_X8_depth (l : Launch) (D : va_G) (cs : Nat → ClassId) (hse hr ha wk2 hs3 pa bn bs spl : Nat) (few vse : Int32) (pf : Nat → Int32) (v : Nat) (hp : inP 2001 2001 pf) (hv : v < 2001) : xMet l D cs yX8_depth cX8_depth 4 (some .int) ({ frames := 0, cells := 0, slots := 0, locals := 0 } : Room) [.ref hse, .int (nI v)] [(hse, .inr (8, [.ref hr, .ref ha, .ref wk2, .ref hs3, .ref pa, .ref bn, .ref bs, .int few, .int (nI spl), .int vse])), (pa, .inl (cs 0, 2001, .inl pf))] (xQi D (fun (r : Int32) (_u : Unit) => ∃ s, s ≤ 2000 ∧ r = nI s) (fun (_u : Unit) => [(hse, .inr (8, [.ref hr, .ref ha, .ref wk2, .ref hs3, .ref pa, .ref bn, .ref bs, .int few, .int (nI spl), .int vse])), (pa, .inl (cs 0, 2001, .inl pf))])) := by
  refine xMet.intro (by decide) (Nat.le_of_ble_eq_true rfl) ?_
  intro p e s m args below meth c A ls C hP hD hS hl
  have hx := C.1
  have hb := C.2.1
  have hz := C.2.2.2.2.1
  have hown := C.2.2.2.1
  have hA := C.2.2.2.2.2.2.2.2.2
  have hAO := C.2.2.2.2.2.2.2.2.1.2.2
  replace hl : lv_has ls 4 [(0, .ref hse), (1, .int (nI v))] := hl
  obtain ⟨H, hH⟩ : ∃ H, H = s.heap := ⟨_, rfl⟩
  replace hP : va_P D vwCl [(hse, .inr (8, [.ref hr, .ref ha, .ref wk2, .ref hs3, .ref pa, .ref bn, .ref bs, .int few, .int (nI spl), .int vse])), (pa, .inl (cs 0, 2001, .inl pf))] H := by rw [hH]; exact hP
  replace hS : va_S A s.heap H [] := by rw [hH]; exact hS
  obtain ⟨locs, hlocs⟩ : ∃ z : List Loc, z = [] := ⟨_, rfl⟩
  rw [← hlocs] at hS
  suffices hW : W p l e ({ frames := 0, cells := 0, slots := 0, locals := 0 } : Room) s m args below meth c H locs 0 0 (MQ below ((xQi D (fun (r : Int32) (_u : Unit) => ∃ s, s ≤ 2000 ∧ r = nI s) (fun (_u : Unit) => [(hse, .inr (8, [.ref hr, .ref ha, .ref wk2, .ref hs3, .ref pa, .ref bn, .ref bs, .int few, .int (nI spl), .int vse])), (pa, .inl (cs 0, 2001, .inl pf))])) A) args s 0 0 A) (F0 m 0 ls []) by rw [hlocs, hH] at hW; exact hW
  clear hH hlocs
  refine lv_iconst (v := nI 0) hx hb dX8_depth_0 (by decide) ?_
  refine lv_istore_n (lv' := [(2, .int (nI 0)), (0, .ref hse), (1, .int (nI v))]) hx hb dX8_depth_1 rfl hl (by decide) rfl ?_
  clear hl
  try clear ls
  intro ls hl
  refine lv_iload_n hx hb dX8_depth_2 rfl (lv_at hl 2 rfl) ?_
  refine lv_istore_n (lv' := [(3, .int (nI v)), (2, .int (nI 0)), (0, .ref hse), (1, .int (nI v))]) hx hb dX8_depth_3 rfl hl (by decide) rfl ?_
  clear hl
  try clear ls
  intro ls hl
  have loop_1 : ∀ (n_loop_1 : Nat) (o : Nat) (q : Nat), (o ≤ 2000) → (q < 2001) → 2000 - o < n_loop_1 → ∀ (H : Heap) (locs : List Loc) (ls : Array Slot), va_P D vwCl [(hse, .inr (8, [.ref hr, .ref ha, .ref wk2, .ref hs3, .ref pa, .ref bn, .ref bs, .int few, .int (nI spl), .int vse])), (pa, .inl (cs 0, 2001, .inl pf))] H → va_D A [(hse, .inr (8, [.ref hr, .ref ha, .ref wk2, .ref hs3, .ref pa, .ref bn, .ref bs, .int few, .int (nI spl), .int vse])), (pa, .inl (cs 0, 2001, .inl pf))] → va_S A s.heap H locs → lv_has ls 4 [(3, .int (nI q)), (2, .int (nI o)), (0, .ref hse), (1, .int (nI v))] → W p l e ({ frames := 0, cells := 0, slots := 0, locals := 0 } : Room) s m args below meth c H locs 0 0 (MQ below ((xQi D (fun (r : Int32) (_u : Unit) => ∃ s, s ≤ 2000 ∧ r = nI s) (fun (_u : Unit) => [(hse, .inr (8, [.ref hr, .ref ha, .ref wk2, .ref hs3, .ref pa, .ref bn, .ref bs, .int few, .int (nI spl), .int vse])), (pa, .inl (cs 0, 2001, .inl pf))])) A) args s 0 0 A) (F0 m 4 ls []) := by
    intro n_loop_1
    induction n_loop_1 with
    | zero => intro o q h_o hq hlt H locs ls hP hD hS hl; exact absurd hlt (Nat.not_lt_zero _)
    | succ n_loop_1 ih_loop_1 =>
      intro o q h_o hq hlt_loop_1 H locs ls hP hD hS hl
      refine lv_iload_n hx hb dX8_depth_4 rfl (lv_at hl 0 rfl) ?_
      refine lv_if_le (tgt := 28) hx hb dX8_depth_5 (by decide) (fun c_2 => ?_) (fun c_2 => ?_)
      · -- 5 t
        have fc_2 : q ≤ 0 := nf_le (by omega) (by omega) c_2
        refine lv_iload_n hx hb dX8_depth_28 rfl (lv_at hl 1 rfl) ?_
        exact xreti C () (⟨o, h_o, rfl⟩) hP hD hS (Nat.le_of_ble_eq_true rfl) (Nat.le_of_ble_eq_true rfl) rfl dX8_depth_29
      · -- 5 f
        have fc_2 : 0 < q := nf_nle (by omega) (by omega) c_2
        refine lv_iload_n hx hb dX8_depth_8 rfl (lv_at hl 1 rfl) ?_
        refine lv_sipush (v := nI 2000) hx hb dX8_depth_9 (by decide) ?_
        refine lv_icmp_ge (tgt := 28) hx hb dX8_depth_12 (by decide) (fun c_3 => ?_) (fun c_3 => ?_)
        · -- 12 t
          have fc_3 : 2000 ≤ o := nf_le (by omega) (by omega) c_3
          refine lv_iload_n hx hb dX8_depth_28 rfl (lv_at hl 1 rfl) ?_
          exact xreti C () (⟨o, h_o, rfl⟩) hP hD hS (Nat.le_of_ble_eq_true rfl) (Nat.le_of_ble_eq_true rfl) rfl dX8_depth_29
        · -- 12 f
          have fc_3 : o < 2000 := nf_nle (by omega) (by omega) c_3
          refine lv_iinc (v := nI (o + 1)) (lv' := [(2, .int (nI (o + 1))), (3, .int (nI q)), (0, .ref hse), (1, .int (nI v))]) hx hb dX8_depth_15 hl (k := 1) rfl (nI_add o 1) (by decide) rfl ?_
          clear hl
          try clear ls
          intro ls hl
          refine lv_aload_n hx hb dX8_depth_18 rfl (lv_at hl 2 rfl) ?_
          refine xget C hP 0 rfl rfl zuX8 4 (by decide) zw2_95 rfl dX8_depth_19 ?_
          refine lv_iload_n hx hb dX8_depth_22 rfl (lv_at hl 1 rfl) ?_
          refine xiald C hP 1 rfl q rfl (by omega) (by decide) dX8_depth_23 ?_
          obtain ⟨t_4, h_t_4, e_t_4⟩ := hp q hq
          refine lv_topi (nm_r (e' := nI t_4) e_t_4 ?_)
          refine lv_istore_n (lv' := [(3, .int (nI t_4)), (2, .int (nI (o + 1))), (0, .ref hse), (1, .int (nI v))]) hx hb dX8_depth_24 rfl hl (by decide) rfl ?_
          clear hl
          try clear ls
          intro ls hl
          refine lv_goto (tgt := 4) hx hb dX8_depth_25 (by decide) ?_
          exact ih_loop_1 (o + 1) t_4 (by omega) (by assumption) (by omega) H locs ls hP hD hS (lv_sub hl [0, 1, 2, 3] rfl)
  exact loop_1 _ 0 v (by omega) hv (Nat.lt_succ_self _) H locs ls hP hD hS (lv_sub hl [0, 1, 2, 3] rfl)

set_option maxHeartbeats 4000000 in
set_option maxRecDepth 100000 in
theorem c_X8_behind (l : Launch) (D : va_G) (cs : Nat → ClassId) (hse hr ha wk2 hs3 pa bn bs spl : Nat) (few vse : Int32) (pf : Nat → Int32) (i fz : Nat) (hp : inP 2001 2001 pf) (hs : spl < 2001) (hi : i < fz) (hf : fz ≤ 2000) : xMet l D cs yX8_behind cX8_behind 4 (some .int) ({ frames := 0, cells := 0, slots := 0, locals := 0 } : Room) [.ref hse, .int (nI i)] [(hse, .inr (8, [.ref hr, .ref ha, .ref wk2, .ref hs3, .ref pa, .ref bn, .ref bs, .int (nI fz), .int (nI spl), .int vse])), (pa, .inl (cs 0, 2001, .inl pf))] (xQi D (fun (r : Int32) (_u : Unit) => ∃ s, s < 2001 ∧ r = nI s) (fun (_u : Unit) => [(hse, .inr (8, [.ref hr, .ref ha, .ref wk2, .ref hs3, .ref pa, .ref bn, .ref bs, .int (nI fz), .int (nI spl), .int vse])), (pa, .inl (cs 0, 2001, .inl pf))])) := by
  refine xMet.intro (by decide) (Nat.le_of_ble_eq_true rfl) ?_
  intro p e s m args below meth c A ls C hP hD hS hl
  have hx := C.1
  have hb := C.2.1
  have hz := C.2.2.2.2.1
  have hown := C.2.2.2.1
  have hA := C.2.2.2.2.2.2.2.2.2
  have hAO := C.2.2.2.2.2.2.2.2.1.2.2
  replace hl : lv_has ls 4 [(0, .ref hse), (1, .int (nI i))] := hl
  obtain ⟨H, hH⟩ : ∃ H, H = s.heap := ⟨_, rfl⟩
  replace hP : va_P D vwCl [(hse, .inr (8, [.ref hr, .ref ha, .ref wk2, .ref hs3, .ref pa, .ref bn, .ref bs, .int (nI fz), .int (nI spl), .int vse])), (pa, .inl (cs 0, 2001, .inl pf))] H := by rw [hH]; exact hP
  replace hS : va_S A s.heap H [] := by rw [hH]; exact hS
  obtain ⟨locs, hlocs⟩ : ∃ z : List Loc, z = [] := ⟨_, rfl⟩
  rw [← hlocs] at hS
  suffices hW : W p l e ({ frames := 0, cells := 0, slots := 0, locals := 0 } : Room) s m args below meth c H locs 0 0 (MQ below ((xQi D (fun (r : Int32) (_u : Unit) => ∃ s, s < 2001 ∧ r = nI s) (fun (_u : Unit) => [(hse, .inr (8, [.ref hr, .ref ha, .ref wk2, .ref hs3, .ref pa, .ref bn, .ref bs, .int (nI fz), .int (nI spl), .int vse])), (pa, .inl (cs 0, 2001, .inl pf))])) A) args s 0 0 A) (F0 m 0 ls []) by rw [hlocs, hH] at hW; exact hW
  clear hH hlocs
  refine lv_aload_n hx hb dX8_behind_0 rfl (lv_at hl 0 rfl) ?_
  refine xget C hP 0 rfl rfl zuX8 8 (by decide) zw2_102 rfl dX8_behind_1 ?_
  refine lv_istore_n (lv' := [(2, .int (nI spl)), (0, .ref hse), (1, .int (nI i))]) hx hb dX8_behind_4 rfl hl (by decide) rfl ?_
  clear hl
  try clear ls
  intro ls hl
  refine lv_aload_n hx hb dX8_behind_5 rfl (lv_at hl 1 rfl) ?_
  refine xget C hP 0 rfl rfl zuX8 7 (by decide) zw2_100 rfl dX8_behind_6 ?_
  refine lv_iconst (v := nI 1) hx hb dX8_behind_9 (by decide) ?_
  refine lv_isub hx hb dX8_behind_10 ?_
  refine lv_topi (nm_r (e' := nI (fz - 1)) (pk_sub (by omega)) ?_)
  refine lv_istore_n (lv' := [(3, .int (nI (fz - 1))), (2, .int (nI spl)), (0, .ref hse), (1, .int (nI i))]) hx hb dX8_behind_11 rfl hl (by decide) rfl ?_
  clear hl
  try clear ls
  intro ls hl
  have loop_1 : ∀ (n_loop_1 : Nat) (stp : Nat) (q : Nat), (stp ≤ 2000) → (q < 2001) → stp < n_loop_1 → ∀ (H : Heap) (locs : List Loc) (ls : Array Slot), va_P D vwCl [(hse, .inr (8, [.ref hr, .ref ha, .ref wk2, .ref hs3, .ref pa, .ref bn, .ref bs, .int (nI fz), .int (nI spl), .int vse])), (pa, .inl (cs 0, 2001, .inl pf))] H → va_D A [(hse, .inr (8, [.ref hr, .ref ha, .ref wk2, .ref hs3, .ref pa, .ref bn, .ref bs, .int (nI fz), .int (nI spl), .int vse])), (pa, .inl (cs 0, 2001, .inl pf))] → va_S A s.heap H locs → lv_has ls 4 [(3, .int (nI stp)), (2, .int (nI q)), (0, .ref hse), (1, .int (nI i))] → W p l e ({ frames := 0, cells := 0, slots := 0, locals := 0 } : Room) s m args below meth c H locs 0 0 (MQ below ((xQi D (fun (r : Int32) (_u : Unit) => ∃ s, s < 2001 ∧ r = nI s) (fun (_u : Unit) => [(hse, .inr (8, [.ref hr, .ref ha, .ref wk2, .ref hs3, .ref pa, .ref bn, .ref bs, .int (nI fz), .int (nI spl), .int vse])), (pa, .inl (cs 0, 2001, .inl pf))])) A) args s 0 0 A) (F0 m 12 ls []) := by
    intro n_loop_1
    induction n_loop_1 with
    | zero => intro stp q h_stp hq hlt H locs ls hP hD hS hl; exact absurd hlt (Nat.not_lt_zero _)
    | succ n_loop_1 ih_loop_1 =>
      intro stp q h_stp hq hlt_loop_1 H locs ls hP hD hS hl
      refine lv_iload_n hx hb dX8_behind_12 rfl (lv_at hl 0 rfl) ?_
      refine lv_iload_n hx hb dX8_behind_13 rfl (lv_at hl 3 rfl) ?_
      refine lv_icmp_le (tgt := 30) hx hb dX8_behind_14 (by decide) (fun c_2 => ?_) (fun c_2 => ?_)
      · -- 14 t
        have fc_2 : stp ≤ i := nf_le (by omega) (by omega) c_2
        refine lv_iload_n hx hb dX8_behind_30 rfl (lv_at hl 1 rfl) ?_
        exact xreti C () (⟨q, hq, rfl⟩) hP hD hS (Nat.le_of_ble_eq_true rfl) (Nat.le_of_ble_eq_true rfl) rfl dX8_behind_31
      · -- 14 f
        have fc_2 : i < stp := nf_nle (by omega) (by omega) c_2
        refine lv_aload_n hx hb dX8_behind_17 rfl (lv_at hl 2 rfl) ?_
        refine xget C hP 0 rfl rfl zuX8 4 (by decide) zw2_95 rfl dX8_behind_18 ?_
        refine lv_iload_n hx hb dX8_behind_21 rfl (lv_at hl 1 rfl) ?_
        refine xiald C hP 1 rfl q rfl (by omega) (by decide) dX8_behind_22 ?_
        obtain ⟨t_3, h_t_3, e_t_3⟩ := hp q hq
        refine lv_topi (nm_r (e' := nI t_3) e_t_3 ?_)
        refine lv_istore_n (lv' := [(2, .int (nI t_3)), (3, .int (nI stp)), (0, .ref hse), (1, .int (nI i))]) hx hb dX8_behind_23 rfl hl (by decide) rfl ?_
        clear hl
        try clear ls
        intro ls hl
        refine lv_iinc (v := nI (stp - 1)) (lv' := [(3, .int (nI (stp - 1))), (2, .int (nI t_3)), (0, .ref hse), (1, .int (nI i))]) hx hb dX8_behind_24 hl (k := 1) rfl (nI_dec (by omega)) (by decide) rfl ?_
        clear hl
        try clear ls
        intro ls hl
        refine lv_goto (tgt := 12) hx hb dX8_behind_27 (by decide) ?_
        exact ih_loop_1 (stp - 1) t_3 (by omega) (by assumption) (by omega) H locs ls hP hD hS (lv_sub hl [0, 1, 2, 3] rfl)
  exact loop_1 _ (fz - 1) spl (by omega) hs (Nat.lt_succ_self _) H locs ls hP hD hS (lv_sub hl [0, 1, 2, 3] rfl)

set_option maxHeartbeats 4000000 in
set_option maxRecDepth 100000 in
theorem c_X8_comes (l : Launch) (D : va_G) (cs : Nat → ClassId) (hse hr ha wk2 hs3 pa bn bs spl : Nat) (few vse : Int32) (hg sm ca n k al be se nd kd lk vw : Nat) (ea pr z1 z2 z3 : Int32) (kf wf : Nat → Int32) (ra3 sa3 sz3 : Nat) (rf3 sf3 : Nat → Int32) (pf bf cf3 : Nat → Int32) (v i : Nat) (x : Int32) (hn : n ≤ 8) (hsl : slP sz3 sf3) (hsz : sz3 ≤ 2001) (hp : inP 2001 2001 pf) (hspl : spl < 2001) (hfew : fewP few) (hv : v < 2001) : xMet l D cs yX8_comes cX8_comes 7 (some .boolean) ({ frames := 3, cells := 0, slots := 0, locals := 90 } : Room) [.ref hse, .int (nI v), .int (nI i), .int x] [(hse, .inr (8, [.ref hr, .ref ha, .ref wk2, .ref hs3, .ref pa, .ref bn, .ref bs, .int few, .int (nI spl), .int vse])), (ha, .inr (0, [.ref hr, .ref hg, .int z1, .int z2, .int z3])), (hr, .inr (7, [.int (nI n), .int (nI k), .int (nI al), .int (nI be), .int ea, .int pr, .ref sm, .int (nI se), .ref ca])), (hs3, .inr (9, [.ref ra3, .ref sa3, .int (nI sz3)])), (ra3, .inl (cs 0, 16008, .inl rf3)), (sa3, .inl (cs 0, 4096, .inl sf3)), (wk2, .inl (cs 0, 8, .inl wf)), (pa, .inl (cs 0, 2001, .inl pf)), (bn, .inl (cs 0, 2001, .inl bf)), (bs, .inl (cs 0, 2001, .inl cf3)), (hg, .inr (4, [.ref nd, .ref kd, .ref lk, .ref vw])), (kd, .inl (cs 0, 8, .inl kf))] (xQi D (fun (r : Int32) (u : (Nat → Int32) × (Nat → Int32) × (Nat → Int32) × (Nat → Int32) × (Nat → Int32) × Nat × Nat × Int32) => match u with | (rz3, fz3, pz, bz, cz, zz3, splz, fewz) => slP zz3 fz3 ∧ zz3 ≤ 2001 ∧ inP 2001 2001 pz ∧ splz < 2001 ∧ fewP fewz) (fun (u : (Nat → Int32) × (Nat → Int32) × (Nat → Int32) × (Nat → Int32) × (Nat → Int32) × Nat × Nat × Int32) => match u with | (rz3, fz3, pz, bz, cz, zz3, splz, fewz) => [(hse, .inr (8, [.ref hr, .ref ha, .ref wk2, .ref hs3, .ref pa, .ref bn, .ref bs, .int fewz, .int (nI splz), .int vse])), (ha, .inr (0, [.ref hr, .ref hg, .int z1, .int z2, .int z3])), (hr, .inr (7, [.int (nI n), .int (nI k), .int (nI al), .int (nI be), .int ea, .int pr, .ref sm, .int (nI se), .ref ca])), (hs3, .inr (9, [.ref ra3, .ref sa3, .int (nI zz3)])), (ra3, .inl (cs 0, 16008, .inl rz3)), (sa3, .inl (cs 0, 4096, .inl fz3)), (wk2, .inl (cs 0, 8, .inl wf)), (pa, .inl (cs 0, 2001, .inl pz)), (bn, .inl (cs 0, 2001, .inl bz)), (bs, .inl (cs 0, 2001, .inl cz)), (hg, .inr (4, [.ref nd, .ref kd, .ref lk, .ref vw])), (kd, .inl (cs 0, 8, .inl kf))])) := by
  refine xMet.intro (by decide) (Nat.le_of_ble_eq_true rfl) ?_
  intro p e s m args below meth c A ls C hP hD hS hl
  have hx := C.1
  have hb := C.2.1
  have hz := C.2.2.2.2.1
  have hown := C.2.2.2.1
  have hA := C.2.2.2.2.2.2.2.2.2
  have hAO := C.2.2.2.2.2.2.2.2.1.2.2
  replace hl : lv_has ls 7 [(0, .ref hse), (1, .int (nI v)), (2, .int (nI i)), (3, .int x)] := hl
  obtain ⟨H, hH⟩ : ∃ H, H = s.heap := ⟨_, rfl⟩
  replace hP : va_P D vwCl [(hse, .inr (8, [.ref hr, .ref ha, .ref wk2, .ref hs3, .ref pa, .ref bn, .ref bs, .int few, .int (nI spl), .int vse])), (ha, .inr (0, [.ref hr, .ref hg, .int z1, .int z2, .int z3])), (hr, .inr (7, [.int (nI n), .int (nI k), .int (nI al), .int (nI be), .int ea, .int pr, .ref sm, .int (nI se), .ref ca])), (hs3, .inr (9, [.ref ra3, .ref sa3, .int (nI sz3)])), (ra3, .inl (cs 0, 16008, .inl rf3)), (sa3, .inl (cs 0, 4096, .inl sf3)), (wk2, .inl (cs 0, 8, .inl wf)), (pa, .inl (cs 0, 2001, .inl pf)), (bn, .inl (cs 0, 2001, .inl bf)), (bs, .inl (cs 0, 2001, .inl cf3)), (hg, .inr (4, [.ref nd, .ref kd, .ref lk, .ref vw])), (kd, .inl (cs 0, 8, .inl kf))] H := by rw [hH]; exact hP
  replace hS : va_S A s.heap H [] := by rw [hH]; exact hS
  obtain ⟨locs, hlocs⟩ : ∃ z : List Loc, z = [] := ⟨_, rfl⟩
  rw [← hlocs] at hS
  suffices hW : W p l e ({ frames := 3, cells := 0, slots := 0, locals := 90 } : Room) s m args below meth c H locs 0 0 (MQ below ((xQi D (fun (r : Int32) (u : (Nat → Int32) × (Nat → Int32) × (Nat → Int32) × (Nat → Int32) × (Nat → Int32) × Nat × Nat × Int32) => match u with | (rz3, fz3, pz, bz, cz, zz3, splz, fewz) => slP zz3 fz3 ∧ zz3 ≤ 2001 ∧ inP 2001 2001 pz ∧ splz < 2001 ∧ fewP fewz) (fun (u : (Nat → Int32) × (Nat → Int32) × (Nat → Int32) × (Nat → Int32) × (Nat → Int32) × Nat × Nat × Int32) => match u with | (rz3, fz3, pz, bz, cz, zz3, splz, fewz) => [(hse, .inr (8, [.ref hr, .ref ha, .ref wk2, .ref hs3, .ref pa, .ref bn, .ref bs, .int fewz, .int (nI splz), .int vse])), (ha, .inr (0, [.ref hr, .ref hg, .int z1, .int z2, .int z3])), (hr, .inr (7, [.int (nI n), .int (nI k), .int (nI al), .int (nI be), .int ea, .int pr, .ref sm, .int (nI se), .ref ca])), (hs3, .inr (9, [.ref ra3, .ref sa3, .int (nI zz3)])), (ra3, .inl (cs 0, 16008, .inl rz3)), (sa3, .inl (cs 0, 4096, .inl fz3)), (wk2, .inl (cs 0, 8, .inl wf)), (pa, .inl (cs 0, 2001, .inl pz)), (bn, .inl (cs 0, 2001, .inl bz)), (bs, .inl (cs 0, 2001, .inl cz)), (hg, .inr (4, [.ref nd, .ref kd, .ref lk, .ref vw])), (kd, .inl (cs 0, 8, .inl kf))])) A) args s 0 0 A) (F0 m 0 ls []) by rw [hlocs, hH] at hW; exact hW
  clear hH hlocs
  refine lv_aload_n hx hb dX8_comes_0 rfl (lv_at hl 0 rfl) ?_
  refine xget C hP 0 rfl rfl zuX8 3 (by decide) zw2_94 rfl dX8_comes_1 ?_
  refine lv_aload_n hx hb dX8_comes_4 rfl (lv_at hl 0 rfl) ?_
  refine xget C hP 0 rfl rfl zuX8 2 (by decide) zw2_93 rfl dX8_comes_5 ?_
  refine xi (wr := [(hse, .inr (8, [.ref hr, .ref ha, .ref wk2, .ref hs3, .ref pa, .ref bn, .ref bs, .int few, .int (nI spl), .int vse])), (ha, .inr (0, [.ref hr, .ref hg, .int z1, .int z2, .int z3])), (hr, .inr (7, [.int (nI n), .int (nI k), .int (nI al), .int (nI be), .int ea, .int pr, .ref sm, .int (nI se), .ref ca])), (pa, .inl (cs 0, 2001, .inl pf)), (bn, .inl (cs 0, 2001, .inl bf)), (bs, .inl (cs 0, 2001, .inl cf3)), (hg, .inr (4, [.ref nd, .ref kd, .ref lk, .ref vw])), (kd, .inl (cs 0, 8, .inl kf))]) (xV (As := [.ref wk2]) (rest := []) C (c_X9_slotOf l D cs hs3 ra3 sa3 rf3 sf3 sz3 wk2 wf hsl hsz) kX8_78 hP hD [3, 4, 5, 6] rfl (by decide) 0 rfl rfl rfl ⟨Nat.le_of_ble_eq_true rfl, Nat.le_of_ble_eq_true rfl⟩ rfl hl.1 rfl (Nat.le_of_ble_eq_true rfl) dX8_comes_8 ⟨Nat.le_of_ble_eq_true rfl, Nat.le_of_ble_eq_true rfl⟩) hP hD hS hA [3, 4, 5, 6] [0, 1, 2, 7, 8, 9, 10, 11] rfl rfl (by decide) (by decide) ?_
  clear hP hD hS
  try clear locs
  try clear H
  intro r_1 u_2 H locs hw_r_1 hP hD hS
  have hw_r_1 : ∃ j, j < 4096 ∧ r_1 = nI j := hw_r_1
  refine W.widen (k := 0) (n := 0) (Nat.le_of_ble_eq_true rfl) (Nat.le_of_ble_eq_true rfl) ?_
  replace hP : va_P D vwCl [(hse, .inr (8, [.ref hr, .ref ha, .ref wk2, .ref hs3, .ref pa, .ref bn, .ref bs, .int few, .int (nI spl), .int vse])), (ha, .inr (0, [.ref hr, .ref hg, .int z1, .int z2, .int z3])), (hr, .inr (7, [.int (nI n), .int (nI k), .int (nI al), .int (nI be), .int ea, .int pr, .ref sm, .int (nI se), .ref ca])), (pa, .inl (cs 0, 2001, .inl pf)), (bn, .inl (cs 0, 2001, .inl bf)), (bs, .inl (cs 0, 2001, .inl cf3)), (hg, .inr (4, [.ref nd, .ref kd, .ref lk, .ref vw])), (kd, .inl (cs 0, 8, .inl kf)), (hs3, .inr (9, [.ref ra3, .ref sa3, .int (nI sz3)])), (ra3, .inl (cs 0, 16008, .inl rf3)), (sa3, .inl (cs 0, 4096, .inl sf3)), (wk2, .inl (cs 0, 8, .inl wf))] H := hP
  replace hD : va_D A [(hse, .inr (8, [.ref hr, .ref ha, .ref wk2, .ref hs3, .ref pa, .ref bn, .ref bs, .int few, .int (nI spl), .int vse])), (ha, .inr (0, [.ref hr, .ref hg, .int z1, .int z2, .int z3])), (hr, .inr (7, [.int (nI n), .int (nI k), .int (nI al), .int (nI be), .int ea, .int pr, .ref sm, .int (nI se), .ref ca])), (pa, .inl (cs 0, 2001, .inl pf)), (bn, .inl (cs 0, 2001, .inl bf)), (bs, .inl (cs 0, 2001, .inl cf3)), (hg, .inr (4, [.ref nd, .ref kd, .ref lk, .ref vw])), (kd, .inl (cs 0, 8, .inl kf)), (hs3, .inr (9, [.ref ra3, .ref sa3, .int (nI sz3)])), (ra3, .inl (cs 0, 16008, .inl rf3)), (sa3, .inl (cs 0, 4096, .inl sf3)), (wk2, .inl (cs 0, 8, .inl wf))] := hD
  obtain ⟨t_3, h_t_3, e_t_3⟩ := hw_r_1
  refine lv_topi (nm_r (e' := nI t_3) e_t_3 ?_)
  refine lv_istore (lv' := [(4, .int (nI t_3)), (0, .ref hse), (1, .int (nI v)), (2, .int (nI i)), (3, .int x)]) hx hb dX8_comes_11 hl (by decide) rfl ?_
  clear hl
  try clear ls
  intro ls hl
  refine lv_aload_n hx hb dX8_comes_13 rfl (lv_at hl 1 rfl) ?_
  refine xget C hP 0 rfl rfl zuX8 3 (by decide) zw2_94 rfl dX8_comes_14 ?_
  refine lv_iload hx hb dX8_comes_17 (lv_at hl 0 rfl) ?_
  refine xi (wr := [(hse, .inr (8, [.ref hr, .ref ha, .ref wk2, .ref hs3, .ref pa, .ref bn, .ref bs, .int few, .int (nI spl), .int vse])), (ha, .inr (0, [.ref hr, .ref hg, .int z1, .int z2, .int z3])), (hr, .inr (7, [.int (nI n), .int (nI k), .int (nI al), .int (nI be), .int ea, .int pr, .ref sm, .int (nI se), .ref ca])), (pa, .inl (cs 0, 2001, .inl pf)), (bn, .inl (cs 0, 2001, .inl bf)), (bs, .inl (cs 0, 2001, .inl cf3)), (hg, .inr (4, [.ref nd, .ref kd, .ref lk, .ref vw])), (kd, .inl (cs 0, 8, .inl kf)), (wk2, .inl (cs 0, 8, .inl wf))]) (xV (As := [.int (nI t_3)]) (rest := []) C (c_X9_at l D cs hs3 ra3 sa3 rf3 sf3 sz3 t_3 hsl (by assumption)) kX8_115 hP hD [8, 9, 10] rfl (by decide) 0 rfl rfl rfl ⟨Nat.le_of_ble_eq_true rfl, Nat.le_of_ble_eq_true rfl⟩ rfl hl.1 rfl (Nat.le_of_ble_eq_true rfl) dX8_comes_19 ⟨Nat.le_of_ble_eq_true rfl, Nat.le_of_ble_eq_true rfl⟩) hP hD hS hA [8, 9, 10] [0, 1, 2, 3, 4, 5, 6, 7, 11] rfl rfl (by decide) (by decide) ?_
  clear hP hD hS
  try clear locs
  try clear H
  intro r_4 u_5 H locs hw_r_4 hP hD hS
  have hw_r_4 : noneOr sz3 r_4 := hw_r_4
  refine W.widen (k := 0) (n := 0) (Nat.le_of_ble_eq_true rfl) (Nat.le_of_ble_eq_true rfl) ?_
  replace hP : va_P D vwCl [(hse, .inr (8, [.ref hr, .ref ha, .ref wk2, .ref hs3, .ref pa, .ref bn, .ref bs, .int few, .int (nI spl), .int vse])), (ha, .inr (0, [.ref hr, .ref hg, .int z1, .int z2, .int z3])), (hr, .inr (7, [.int (nI n), .int (nI k), .int (nI al), .int (nI be), .int ea, .int pr, .ref sm, .int (nI se), .ref ca])), (pa, .inl (cs 0, 2001, .inl pf)), (bn, .inl (cs 0, 2001, .inl bf)), (bs, .inl (cs 0, 2001, .inl cf3)), (hg, .inr (4, [.ref nd, .ref kd, .ref lk, .ref vw])), (kd, .inl (cs 0, 8, .inl kf)), (wk2, .inl (cs 0, 8, .inl wf)), (hs3, .inr (9, [.ref ra3, .ref sa3, .int (nI sz3)])), (ra3, .inl (cs 0, 16008, .inl rf3)), (sa3, .inl (cs 0, 4096, .inl sf3))] H := hP
  replace hD : va_D A [(hse, .inr (8, [.ref hr, .ref ha, .ref wk2, .ref hs3, .ref pa, .ref bn, .ref bs, .int few, .int (nI spl), .int vse])), (ha, .inr (0, [.ref hr, .ref hg, .int z1, .int z2, .int z3])), (hr, .inr (7, [.int (nI n), .int (nI k), .int (nI al), .int (nI be), .int ea, .int pr, .ref sm, .int (nI se), .ref ca])), (pa, .inl (cs 0, 2001, .inl pf)), (bn, .inl (cs 0, 2001, .inl bf)), (bs, .inl (cs 0, 2001, .inl cf3)), (hg, .inr (4, [.ref nd, .ref kd, .ref lk, .ref vw])), (kd, .inl (cs 0, 8, .inl kf)), (wk2, .inl (cs 0, 8, .inl wf)), (hs3, .inr (9, [.ref ra3, .ref sa3, .int (nI sz3)])), (ra3, .inl (cs 0, 16008, .inl rf3)), (sa3, .inl (cs 0, 4096, .inl sf3))] := hD
  refine lv_iconst (v := (-1)) hx hb dX8_comes_22 (by decide) ?_
  refine lv_icmp_eq (tgt := 28) hx hb dX8_comes_23 (by decide) (fun c_6 => ?_) (fun c_6 => ?_)
  · -- 23 t
    refine lv_aload_n hx hb dX8_comes_28 rfl (lv_at hl 1 rfl) ?_
    refine xget C hP 0 rfl rfl zuX8 1 (by decide) zw2_92 rfl dX8_comes_29 ?_
    refine lv_aload_n hx hb dX8_comes_32 rfl (lv_at hl 1 rfl) ?_
    refine xget C hP 0 rfl rfl zuX8 2 (by decide) zw2_93 rfl dX8_comes_33 ?_
    refine lv_iconst (v := nI 0) hx hb dX8_comes_36 (by decide) ?_
    refine xi (wr := [(hse, .inr (8, [.ref hr, .ref ha, .ref wk2, .ref hs3, .ref pa, .ref bn, .ref bs, .int few, .int (nI spl), .int vse])), (pa, .inl (cs 0, 2001, .inl pf)), (bn, .inl (cs 0, 2001, .inl bf)), (bs, .inl (cs 0, 2001, .inl cf3)), (hs3, .inr (9, [.ref ra3, .ref sa3, .int (nI sz3)])), (ra3, .inl (cs 0, 16008, .inl rf3)), (sa3, .inl (cs 0, 4096, .inl sf3))]) (xV (As := [.ref wk2, .int (nI 0)]) (rest := []) C (c_X0_isSplit l D cs ha hg hr sm ca n k al be se ea pr z1 z2 z3 nd kd lk vw kf wk2 8 0 wf hn (by decide) (by decide)) kX8_35 hP hD [1, 2, 6, 7, 8] rfl (by decide) 0 rfl rfl rfl ⟨Nat.le_of_ble_eq_true rfl, Nat.le_of_ble_eq_true rfl⟩ rfl hl.1 rfl (Nat.le_of_ble_eq_true rfl) dX8_comes_37 ⟨Nat.le_of_ble_eq_true rfl, Nat.le_of_ble_eq_true rfl⟩) hP hD hS hA [1, 2, 6, 7, 8] [0, 3, 4, 5, 9, 10, 11] rfl rfl (by decide) (by decide) ?_
    clear hP hD hS
    try clear locs
    try clear H
    intro r_7 u_8 H locs hw_r_7 hP hD hS
    have hw_r_7 : r_7 = nI 1 ∨ r_7 = nI 0 := hw_r_7
    refine W.widen (k := 0) (n := 0) (Nat.le_of_ble_eq_true rfl) (Nat.le_of_ble_eq_true rfl) ?_
    replace hP : va_P D vwCl [(hse, .inr (8, [.ref hr, .ref ha, .ref wk2, .ref hs3, .ref pa, .ref bn, .ref bs, .int few, .int (nI spl), .int vse])), (pa, .inl (cs 0, 2001, .inl pf)), (bn, .inl (cs 0, 2001, .inl bf)), (bs, .inl (cs 0, 2001, .inl cf3)), (hs3, .inr (9, [.ref ra3, .ref sa3, .int (nI sz3)])), (ra3, .inl (cs 0, 16008, .inl rf3)), (sa3, .inl (cs 0, 4096, .inl sf3)), (ha, .inr (0, [.ref hr, .ref hg, .int z1, .int z2, .int z3])), (hr, .inr (7, [.int (nI n), .int (nI k), .int (nI al), .int (nI be), .int ea, .int pr, .ref sm, .int (nI se), .ref ca])), (hg, .inr (4, [.ref nd, .ref kd, .ref lk, .ref vw])), (kd, .inl (cs 0, 8, .inl kf)), (wk2, .inl (cs 0, 8, .inl wf))] H := hP
    replace hD : va_D A [(hse, .inr (8, [.ref hr, .ref ha, .ref wk2, .ref hs3, .ref pa, .ref bn, .ref bs, .int few, .int (nI spl), .int vse])), (pa, .inl (cs 0, 2001, .inl pf)), (bn, .inl (cs 0, 2001, .inl bf)), (bs, .inl (cs 0, 2001, .inl cf3)), (hs3, .inr (9, [.ref ra3, .ref sa3, .int (nI sz3)])), (ra3, .inl (cs 0, 16008, .inl rf3)), (sa3, .inl (cs 0, 4096, .inl sf3)), (ha, .inr (0, [.ref hr, .ref hg, .int z1, .int z2, .int z3])), (hr, .inr (7, [.int (nI n), .int (nI k), .int (nI al), .int (nI be), .int ea, .int pr, .ref sm, .int (nI se), .ref ca])), (hg, .inr (4, [.ref nd, .ref kd, .ref lk, .ref vw])), (kd, .inl (cs 0, 8, .inl kf)), (wk2, .inl (cs 0, 8, .inl wf))] := hD
    rcases hw_r_7 with rfl | rfl
    · -- split
      replace hP : va_P D vwCl [(hse, .inr (8, [.ref hr, .ref ha, .ref wk2, .ref hs3, .ref pa, .ref bn, .ref bs, .int few, .int (nI spl), .int vse])), (pa, .inl (cs 0, 2001, .inl pf)), (bn, .inl (cs 0, 2001, .inl bf)), (bs, .inl (cs 0, 2001, .inl cf3)), (hs3, .inr (9, [.ref ra3, .ref sa3, .int (nI sz3)])), (ra3, .inl (cs 0, 16008, .inl rf3)), (sa3, .inl (cs 0, 4096, .inl sf3)), (ha, .inr (0, [.ref hr, .ref hg, .int z1, .int z2, .int z3])), (hr, .inr (7, [.int (nI n), .int (nI k), .int (nI al), .int (nI be), .int ea, .int pr, .ref sm, .int (nI se), .ref ca])), (hg, .inr (4, [.ref nd, .ref kd, .ref lk, .ref vw])), (kd, .inl (cs 0, 8, .inl kf)), (wk2, .inl (cs 0, 8, .inl wf))] H := hP
      replace hD : va_D A [(hse, .inr (8, [.ref hr, .ref ha, .ref wk2, .ref hs3, .ref pa, .ref bn, .ref bs, .int few, .int (nI spl), .int vse])), (pa, .inl (cs 0, 2001, .inl pf)), (bn, .inl (cs 0, 2001, .inl bf)), (bs, .inl (cs 0, 2001, .inl cf3)), (hs3, .inr (9, [.ref ra3, .ref sa3, .int (nI sz3)])), (ra3, .inl (cs 0, 16008, .inl rf3)), (sa3, .inl (cs 0, 4096, .inl sf3)), (ha, .inr (0, [.ref hr, .ref hg, .int z1, .int z2, .int z3])), (hr, .inr (7, [.int (nI n), .int (nI k), .int (nI al), .int (nI be), .int ea, .int pr, .ref sm, .int (nI se), .ref ca])), (hg, .inr (4, [.ref nd, .ref kd, .ref lk, .ref vw])), (kd, .inl (cs 0, 8, .inl kf)), (wk2, .inl (cs 0, 8, .inl wf))] := hD
      refine lv_istore (lv' := [(5, .int (nI 1)), (4, .int (nI t_3)), (0, .ref hse), (1, .int (nI v)), (2, .int (nI i)), (3, .int x)]) hx hb dX8_comes_40 hl (by decide) rfl ?_
      clear hl
      try clear ls
      intro ls hl
      refine lv_iload hx hb dX8_comes_42 (lv_at hl 0 rfl) ?_
      refine lv_if_ne (tgt := 57) hx hb dX8_comes_44 (by decide) (fun _ => ?_) (fun c => absurd c (by decide))
      refine lv_aload_n hx hb dX8_comes_57 rfl (lv_at hl 2 rfl) ?_
      refine xget C hP 0 rfl rfl zuX8 3 (by decide) zw2_94 rfl dX8_comes_58 ?_
      refine lv_iload hx hb dX8_comes_61 (lv_at hl 1 rfl) ?_
      refine lv_aload_n hx hb dX8_comes_63 rfl (lv_at hl 2 rfl) ?_
      refine xget C hP 0 rfl rfl zuX8 2 (by decide) zw2_93 rfl dX8_comes_64 ?_
      refine xi (wr := [(hse, .inr (8, [.ref hr, .ref ha, .ref wk2, .ref hs3, .ref pa, .ref bn, .ref bs, .int few, .int (nI spl), .int vse])), (pa, .inl (cs 0, 2001, .inl pf)), (bn, .inl (cs 0, 2001, .inl bf)), (bs, .inl (cs 0, 2001, .inl cf3)), (ha, .inr (0, [.ref hr, .ref hg, .int z1, .int z2, .int z3])), (hr, .inr (7, [.int (nI n), .int (nI k), .int (nI al), .int (nI be), .int ea, .int pr, .ref sm, .int (nI se), .ref ca])), (hg, .inr (4, [.ref nd, .ref kd, .ref lk, .ref vw])), (kd, .inl (cs 0, 8, .inl kf))]) (xV (As := [.int (nI t_3), .ref wk2]) (rest := []) C (c_X9_add l D cs hs3 ra3 sa3 rf3 sf3 sz3 wk2 wf t_3 hsl hsz (by assumption)) kX8_82 hP hD [4, 5, 6, 11] rfl (by decide) 0 rfl rfl rfl ⟨Nat.le_of_ble_eq_true rfl, Nat.le_of_ble_eq_true rfl⟩ rfl hl.1 rfl (Nat.le_of_ble_eq_true rfl) dX8_comes_67 ⟨Nat.le_of_ble_eq_true rfl, Nat.le_of_ble_eq_true rfl⟩) hP hD hS hA [4, 5, 6, 11] [0, 1, 2, 3, 7, 8, 9, 10] rfl rfl (by decide) (by decide) ?_
      clear hP hD hS
      try clear locs
      try clear H
      intro r_9 u_10 H locs hw_r_9 hP hD hS
      obtain ⟨rf2_11, sf2_12, sz2_13⟩ := u_10
      have hw_r_9 : slP sz2_13 sf2_12 ∧ sz3 ≤ sz2_13 ∧ sz2_13 ≤ 2001 ∧ ((2000 < sz3 ∧ r_9 = -1 ∧ sz2_13 = sz3) ∨ (sz3 ≤ 2000 ∧ r_9 = nI sz3 ∧ sz2_13 = sz3 + 1)) := hw_r_9
      refine W.widen (k := 0) (n := 0) (Nat.le_of_ble_eq_true rfl) (Nat.le_of_ble_eq_true rfl) ?_
      replace hP : va_P D vwCl [(hse, .inr (8, [.ref hr, .ref ha, .ref wk2, .ref hs3, .ref pa, .ref bn, .ref bs, .int few, .int (nI spl), .int vse])), (pa, .inl (cs 0, 2001, .inl pf)), (bn, .inl (cs 0, 2001, .inl bf)), (bs, .inl (cs 0, 2001, .inl cf3)), (ha, .inr (0, [.ref hr, .ref hg, .int z1, .int z2, .int z3])), (hr, .inr (7, [.int (nI n), .int (nI k), .int (nI al), .int (nI be), .int ea, .int pr, .ref sm, .int (nI se), .ref ca])), (hg, .inr (4, [.ref nd, .ref kd, .ref lk, .ref vw])), (kd, .inl (cs 0, 8, .inl kf)), (hs3, .inr (9, [.ref ra3, .ref sa3, .int (nI sz2_13)])), (ra3, .inl (cs 0, 16008, .inl rf2_11)), (sa3, .inl (cs 0, 4096, .inl sf2_12)), (wk2, .inl (cs 0, 8, .inl wf))] H := hP
      replace hD : va_D A [(hse, .inr (8, [.ref hr, .ref ha, .ref wk2, .ref hs3, .ref pa, .ref bn, .ref bs, .int few, .int (nI spl), .int vse])), (pa, .inl (cs 0, 2001, .inl pf)), (bn, .inl (cs 0, 2001, .inl bf)), (bs, .inl (cs 0, 2001, .inl cf3)), (ha, .inr (0, [.ref hr, .ref hg, .int z1, .int z2, .int z3])), (hr, .inr (7, [.int (nI n), .int (nI k), .int (nI al), .int (nI be), .int ea, .int pr, .ref sm, .int (nI se), .ref ca])), (hg, .inr (4, [.ref nd, .ref kd, .ref lk, .ref vw])), (kd, .inl (cs 0, 8, .inl kf)), (hs3, .inr (9, [.ref ra3, .ref sa3, .int (nI sz2_13)])), (ra3, .inl (cs 0, 16008, .inl rf2_11)), (sa3, .inl (cs 0, 4096, .inl sf2_12)), (wk2, .inl (cs 0, 8, .inl wf))] := hD
      obtain ⟨hA1, hA2, hA3, hA4⟩ := hw_r_9
      rcases hA4 with ⟨hA5, hA6, hA7⟩ | ⟨hA5, hA6, hA7⟩
      · -- split
        refine lv_topi (nm_r (e' := -1) hA6 ?_)
        refine lv_goto (tgt := 74) hx hb dX8_comes_70 (by decide) ?_
        refine lv_istore (lv' := [(6, .int (-1)), (5, .int (nI 1)), (4, .int (nI t_3)), (0, .ref hse), (1, .int (nI v)), (2, .int (nI i)), (3, .int x)]) hx hb dX8_comes_74 hl (by decide) rfl ?_
        clear hl
        try clear ls
        intro ls hl
        refine lv_iload hx hb dX8_comes_76 (lv_at hl 0 rfl) ?_
        refine lv_iconst (v := (-1)) hx hb dX8_comes_78 (by decide) ?_
        refine lv_icmp_ne (tgt := 90) hx hb dX8_comes_79 (by decide) (fun c => absurd rfl c) (fun _ => ?_)
        refine lv_aload_n hx hb dX8_comes_82 rfl (lv_at hl 3 rfl) ?_
        refine lv_bipush (v := (-3)) hx hb dX8_comes_83 (by decide) ?_
        refine xput C hP hD hS 0 rfl rfl zuX8 tyX8 tyX8_ok nmX8 7 (by decide) zw2_100 rfl rfl rfl (Nat.le_of_ble_eq_true rfl) dX8_comes_85 ?_
        clear hP hD hS
        try clear locs
        try clear H
        intro H locs hP hD hS
        replace hP : va_P D vwCl [(hse, .inr (8, [.ref hr, .ref ha, .ref wk2, .ref hs3, .ref pa, .ref bn, .ref bs, .int (-3), .int (nI spl), .int vse])), (pa, .inl (cs 0, 2001, .inl pf)), (bn, .inl (cs 0, 2001, .inl bf)), (bs, .inl (cs 0, 2001, .inl cf3)), (ha, .inr (0, [.ref hr, .ref hg, .int z1, .int z2, .int z3])), (hr, .inr (7, [.int (nI n), .int (nI k), .int (nI al), .int (nI be), .int ea, .int pr, .ref sm, .int (nI se), .ref ca])), (hg, .inr (4, [.ref nd, .ref kd, .ref lk, .ref vw])), (kd, .inl (cs 0, 8, .inl kf)), (hs3, .inr (9, [.ref ra3, .ref sa3, .int (nI sz2_13)])), (ra3, .inl (cs 0, 16008, .inl rf2_11)), (sa3, .inl (cs 0, 4096, .inl sf2_12)), (wk2, .inl (cs 0, 8, .inl wf))] H := hP
        replace hD : va_D A [(hse, .inr (8, [.ref hr, .ref ha, .ref wk2, .ref hs3, .ref pa, .ref bn, .ref bs, .int (-3), .int (nI spl), .int vse])), (pa, .inl (cs 0, 2001, .inl pf)), (bn, .inl (cs 0, 2001, .inl bf)), (bs, .inl (cs 0, 2001, .inl cf3)), (ha, .inr (0, [.ref hr, .ref hg, .int z1, .int z2, .int z3])), (hr, .inr (7, [.int (nI n), .int (nI k), .int (nI al), .int (nI be), .int ea, .int pr, .ref sm, .int (nI se), .ref ca])), (hg, .inr (4, [.ref nd, .ref kd, .ref lk, .ref vw])), (kd, .inl (cs 0, 8, .inl kf)), (hs3, .inr (9, [.ref ra3, .ref sa3, .int (nI sz2_13)])), (ra3, .inl (cs 0, 16008, .inl rf2_11)), (sa3, .inl (cs 0, 4096, .inl sf2_12)), (wk2, .inl (cs 0, 8, .inl wf))] := hD
        refine lv_iconst (v := nI 1) hx hb dX8_comes_88 (by decide) ?_
        exact xreti C (⟨rf2_11, sf2_12, pf, bf, cf3, sz2_13, spl, (-3)⟩) (⟨hA1, hA3, hp, hspl, Or.inr (Or.inl rfl)⟩) (xP_map hP [0, 4, 5, 8, 9, 10, 11, 1, 2, 3, 6, 7] rfl) (hD.sub [0, 4, 5, 8, 9, 10, 11, 1, 2, 3, 6, 7] (by decide) rfl) hS (Nat.le_of_ble_eq_true rfl) (Nat.le_of_ble_eq_true rfl) (by decide) dX8_comes_89
      · -- split
        refine lv_topi (nm_r (e' := nI sz3) hA6 ?_)
        refine lv_goto (tgt := 74) hx hb dX8_comes_70 (by decide) ?_
        refine lv_istore (lv' := [(6, .int (nI sz3)), (5, .int (nI 1)), (4, .int (nI t_3)), (0, .ref hse), (1, .int (nI v)), (2, .int (nI i)), (3, .int x)]) hx hb dX8_comes_74 hl (by decide) rfl ?_
        clear hl
        try clear ls
        intro ls hl
        refine lv_iload hx hb dX8_comes_76 (lv_at hl 0 rfl) ?_
        refine lv_iconst (v := (-1)) hx hb dX8_comes_78 (by decide) ?_
        refine lv_icmp_ne (tgt := 90) hx hb dX8_comes_79 (by decide) (fun _ => ?_) (fun c => absurd c (nI_ne_m1 (by omega)))
        refine lv_aload_n hx hb dX8_comes_90 rfl (lv_at hl 3 rfl) ?_
        refine xget C hP 0 rfl rfl zuX8 4 (by decide) zw2_95 rfl dX8_comes_91 ?_
        refine lv_iload hx hb dX8_comes_94 (lv_at hl 0 rfl) ?_
        refine lv_iload_n hx hb dX8_comes_96 rfl (lv_at hl 4 rfl) ?_
        refine xiast C hP hD hS 1 rfl sz3 rfl (by omega) (by decide) dX8_comes_97 ?_
        clear hP hD hS
        try clear locs
        try clear H
        intro H locs hP hD hS
        replace hP : va_P D vwCl [(hse, .inr (8, [.ref hr, .ref ha, .ref wk2, .ref hs3, .ref pa, .ref bn, .ref bs, .int few, .int (nI spl), .int vse])), (pa, .inl (cs 0, 2001, .inl (upd pf sz3 (nI v)))), (bn, .inl (cs 0, 2001, .inl bf)), (bs, .inl (cs 0, 2001, .inl cf3)), (ha, .inr (0, [.ref hr, .ref hg, .int z1, .int z2, .int z3])), (hr, .inr (7, [.int (nI n), .int (nI k), .int (nI al), .int (nI be), .int ea, .int pr, .ref sm, .int (nI se), .ref ca])), (hg, .inr (4, [.ref nd, .ref kd, .ref lk, .ref vw])), (kd, .inl (cs 0, 8, .inl kf)), (hs3, .inr (9, [.ref ra3, .ref sa3, .int (nI sz2_13)])), (ra3, .inl (cs 0, 16008, .inl rf2_11)), (sa3, .inl (cs 0, 4096, .inl sf2_12)), (wk2, .inl (cs 0, 8, .inl wf))] H := hP
        replace hD : va_D A [(hse, .inr (8, [.ref hr, .ref ha, .ref wk2, .ref hs3, .ref pa, .ref bn, .ref bs, .int few, .int (nI spl), .int vse])), (pa, .inl (cs 0, 2001, .inl (upd pf sz3 (nI v)))), (bn, .inl (cs 0, 2001, .inl bf)), (bs, .inl (cs 0, 2001, .inl cf3)), (ha, .inr (0, [.ref hr, .ref hg, .int z1, .int z2, .int z3])), (hr, .inr (7, [.int (nI n), .int (nI k), .int (nI al), .int (nI be), .int ea, .int pr, .ref sm, .int (nI se), .ref ca])), (hg, .inr (4, [.ref nd, .ref kd, .ref lk, .ref vw])), (kd, .inl (cs 0, 8, .inl kf)), (hs3, .inr (9, [.ref ra3, .ref sa3, .int (nI sz2_13)])), (ra3, .inl (cs 0, 16008, .inl rf2_11)), (sa3, .inl (cs 0, 4096, .inl sf2_12)), (wk2, .inl (cs 0, 8, .inl wf))] := hD
        refine lv_aload_n hx hb dX8_comes_98 rfl (lv_at hl 3 rfl) ?_
        refine xget C hP 0 rfl rfl zuX8 5 (by decide) zw2_96 rfl dX8_comes_99 ?_
        refine lv_iload hx hb dX8_comes_102 (lv_at hl 0 rfl) ?_
        refine lv_iload_n hx hb dX8_comes_104 rfl (lv_at hl 5 rfl) ?_
        refine xiast C hP hD hS 2 rfl sz3 rfl (by omega) (by decide) dX8_comes_105 ?_
        clear hP hD hS
        try clear locs
        try clear H
        intro H locs hP hD hS
        replace hP : va_P D vwCl [(hse, .inr (8, [.ref hr, .ref ha, .ref wk2, .ref hs3, .ref pa, .ref bn, .ref bs, .int few, .int (nI spl), .int vse])), (pa, .inl (cs 0, 2001, .inl (upd pf sz3 (nI v)))), (bn, .inl (cs 0, 2001, .inl (upd bf sz3 (nI i)))), (bs, .inl (cs 0, 2001, .inl cf3)), (ha, .inr (0, [.ref hr, .ref hg, .int z1, .int z2, .int z3])), (hr, .inr (7, [.int (nI n), .int (nI k), .int (nI al), .int (nI be), .int ea, .int pr, .ref sm, .int (nI se), .ref ca])), (hg, .inr (4, [.ref nd, .ref kd, .ref lk, .ref vw])), (kd, .inl (cs 0, 8, .inl kf)), (hs3, .inr (9, [.ref ra3, .ref sa3, .int (nI sz2_13)])), (ra3, .inl (cs 0, 16008, .inl rf2_11)), (sa3, .inl (cs 0, 4096, .inl sf2_12)), (wk2, .inl (cs 0, 8, .inl wf))] H := hP
        replace hD : va_D A [(hse, .inr (8, [.ref hr, .ref ha, .ref wk2, .ref hs3, .ref pa, .ref bn, .ref bs, .int few, .int (nI spl), .int vse])), (pa, .inl (cs 0, 2001, .inl (upd pf sz3 (nI v)))), (bn, .inl (cs 0, 2001, .inl (upd bf sz3 (nI i)))), (bs, .inl (cs 0, 2001, .inl cf3)), (ha, .inr (0, [.ref hr, .ref hg, .int z1, .int z2, .int z3])), (hr, .inr (7, [.int (nI n), .int (nI k), .int (nI al), .int (nI be), .int ea, .int pr, .ref sm, .int (nI se), .ref ca])), (hg, .inr (4, [.ref nd, .ref kd, .ref lk, .ref vw])), (kd, .inl (cs 0, 8, .inl kf)), (hs3, .inr (9, [.ref ra3, .ref sa3, .int (nI sz2_13)])), (ra3, .inl (cs 0, 16008, .inl rf2_11)), (sa3, .inl (cs 0, 4096, .inl sf2_12)), (wk2, .inl (cs 0, 8, .inl wf))] := hD
        refine lv_aload_n hx hb dX8_comes_106 rfl (lv_at hl 3 rfl) ?_
        refine xget C hP 0 rfl rfl zuX8 6 (by decide) zw2_98 rfl dX8_comes_107 ?_
        refine lv_iload hx hb dX8_comes_110 (lv_at hl 0 rfl) ?_
        refine lv_iload_n hx hb dX8_comes_112 rfl (lv_at hl 6 rfl) ?_
        refine xiast C hP hD hS 3 rfl sz3 rfl (by omega) (by decide) dX8_comes_113 ?_
        clear hP hD hS
        try clear locs
        try clear H
        intro H locs hP hD hS
        replace hP : va_P D vwCl [(hse, .inr (8, [.ref hr, .ref ha, .ref wk2, .ref hs3, .ref pa, .ref bn, .ref bs, .int few, .int (nI spl), .int vse])), (pa, .inl (cs 0, 2001, .inl (upd pf sz3 (nI v)))), (bn, .inl (cs 0, 2001, .inl (upd bf sz3 (nI i)))), (bs, .inl (cs 0, 2001, .inl (upd cf3 sz3 x))), (ha, .inr (0, [.ref hr, .ref hg, .int z1, .int z2, .int z3])), (hr, .inr (7, [.int (nI n), .int (nI k), .int (nI al), .int (nI be), .int ea, .int pr, .ref sm, .int (nI se), .ref ca])), (hg, .inr (4, [.ref nd, .ref kd, .ref lk, .ref vw])), (kd, .inl (cs 0, 8, .inl kf)), (hs3, .inr (9, [.ref ra3, .ref sa3, .int (nI sz2_13)])), (ra3, .inl (cs 0, 16008, .inl rf2_11)), (sa3, .inl (cs 0, 4096, .inl sf2_12)), (wk2, .inl (cs 0, 8, .inl wf))] H := hP
        replace hD : va_D A [(hse, .inr (8, [.ref hr, .ref ha, .ref wk2, .ref hs3, .ref pa, .ref bn, .ref bs, .int few, .int (nI spl), .int vse])), (pa, .inl (cs 0, 2001, .inl (upd pf sz3 (nI v)))), (bn, .inl (cs 0, 2001, .inl (upd bf sz3 (nI i)))), (bs, .inl (cs 0, 2001, .inl (upd cf3 sz3 x))), (ha, .inr (0, [.ref hr, .ref hg, .int z1, .int z2, .int z3])), (hr, .inr (7, [.int (nI n), .int (nI k), .int (nI al), .int (nI be), .int ea, .int pr, .ref sm, .int (nI se), .ref ca])), (hg, .inr (4, [.ref nd, .ref kd, .ref lk, .ref vw])), (kd, .inl (cs 0, 8, .inl kf)), (hs3, .inr (9, [.ref ra3, .ref sa3, .int (nI sz2_13)])), (ra3, .inl (cs 0, 16008, .inl rf2_11)), (sa3, .inl (cs 0, 4096, .inl sf2_12)), (wk2, .inl (cs 0, 8, .inl wf))] := hD
        refine lv_iload hx hb dX8_comes_114 (lv_at hl 1 rfl) ?_
        refine lv_if_eq (tgt := 135) hx hb dX8_comes_116 (by decide) (fun c => absurd c (by decide)) (fun _ => ?_)
        refine lv_aload_n hx hb dX8_comes_119 rfl (lv_at hl 3 rfl) ?_
        refine lv_iload hx hb dX8_comes_120 (lv_at hl 0 rfl) ?_
        refine xput C hP hD hS 0 rfl rfl zuX8 tyX8 tyX8_ok nmX8 8 (by decide) zw2_102 rfl rfl rfl (Nat.le_of_ble_eq_true rfl) dX8_comes_122 ?_
        clear hP hD hS
        try clear locs
        try clear H
        intro H locs hP hD hS
        replace hP : va_P D vwCl [(hse, .inr (8, [.ref hr, .ref ha, .ref wk2, .ref hs3, .ref pa, .ref bn, .ref bs, .int few, .int (nI sz3), .int vse])), (pa, .inl (cs 0, 2001, .inl (upd pf sz3 (nI v)))), (bn, .inl (cs 0, 2001, .inl (upd bf sz3 (nI i)))), (bs, .inl (cs 0, 2001, .inl (upd cf3 sz3 x))), (ha, .inr (0, [.ref hr, .ref hg, .int z1, .int z2, .int z3])), (hr, .inr (7, [.int (nI n), .int (nI k), .int (nI al), .int (nI be), .int ea, .int pr, .ref sm, .int (nI se), .ref ca])), (hg, .inr (4, [.ref nd, .ref kd, .ref lk, .ref vw])), (kd, .inl (cs 0, 8, .inl kf)), (hs3, .inr (9, [.ref ra3, .ref sa3, .int (nI sz2_13)])), (ra3, .inl (cs 0, 16008, .inl rf2_11)), (sa3, .inl (cs 0, 4096, .inl sf2_12)), (wk2, .inl (cs 0, 8, .inl wf))] H := hP
        replace hD : va_D A [(hse, .inr (8, [.ref hr, .ref ha, .ref wk2, .ref hs3, .ref pa, .ref bn, .ref bs, .int few, .int (nI sz3), .int vse])), (pa, .inl (cs 0, 2001, .inl (upd pf sz3 (nI v)))), (bn, .inl (cs 0, 2001, .inl (upd bf sz3 (nI i)))), (bs, .inl (cs 0, 2001, .inl (upd cf3 sz3 x))), (ha, .inr (0, [.ref hr, .ref hg, .int z1, .int z2, .int z3])), (hr, .inr (7, [.int (nI n), .int (nI k), .int (nI al), .int (nI be), .int ea, .int pr, .ref sm, .int (nI se), .ref ca])), (hg, .inr (4, [.ref nd, .ref kd, .ref lk, .ref vw])), (kd, .inl (cs 0, 8, .inl kf)), (hs3, .inr (9, [.ref ra3, .ref sa3, .int (nI sz2_13)])), (ra3, .inl (cs 0, 16008, .inl rf2_11)), (sa3, .inl (cs 0, 4096, .inl sf2_12)), (wk2, .inl (cs 0, 8, .inl wf))] := hD
        refine lv_aload_n hx hb dX8_comes_125 rfl (lv_at hl 3 rfl) ?_
        refine lv_aload_n hx hb dX8_comes_126 rfl (lv_at hl 3 rfl) ?_
        refine lv_iload hx hb dX8_comes_127 (lv_at hl 0 rfl) ?_
        refine xi (wr := [(bn, .inl (cs 0, 2001, .inl (upd bf sz3 (nI i)))), (bs, .inl (cs 0, 2001, .inl (upd cf3 sz3 x))), (ha, .inr (0, [.ref hr, .ref hg, .int z1, .int z2, .int z3])), (hr, .inr (7, [.int (nI n), .int (nI k), .int (nI al), .int (nI be), .int ea, .int pr, .ref sm, .int (nI se), .ref ca])), (hg, .inr (4, [.ref nd, .ref kd, .ref lk, .ref vw])), (kd, .inl (cs 0, 8, .inl kf)), (hs3, .inr (9, [.ref ra3, .ref sa3, .int (nI sz2_13)])), (ra3, .inl (cs 0, 16008, .inl rf2_11)), (sa3, .inl (cs 0, 4096, .inl sf2_12)), (wk2, .inl (cs 0, 8, .inl wf))]) (xV (As := [.int (nI sz3)]) (rest := [.ref hse]) C (c_X8_depth l D cs hse hr ha wk2 hs3 pa bn bs sz3 few vse (upd pf sz3 (nI v)) sz3 (inP_up hp _ _ hv) (by omega)) kX8_122 hP hD [0, 1] rfl (by decide) 0 rfl rfl rfl ⟨Nat.le_of_ble_eq_true rfl, Nat.le_of_ble_eq_true rfl⟩ rfl hl.1 rfl (Nat.le_of_ble_eq_true rfl) dX8_comes_129 ⟨Nat.le_of_ble_eq_true rfl, Nat.le_of_ble_eq_true rfl⟩) hP hD hS hA [0, 1] [2, 3, 4, 5, 6, 7, 8, 9, 10, 11] rfl rfl (by decide) (by decide) ?_
        clear hP hD hS
        try clear locs
        try clear H
        intro r_14 u_15 H locs hw_r_14 hP hD hS
        have hw_r_14 : ∃ s, s ≤ 2000 ∧ r_14 = nI s := hw_r_14
        refine W.widen (k := 0) (n := 0) (Nat.le_of_ble_eq_true rfl) (Nat.le_of_ble_eq_true rfl) ?_
        replace hP : va_P D vwCl [(bn, .inl (cs 0, 2001, .inl (upd bf sz3 (nI i)))), (bs, .inl (cs 0, 2001, .inl (upd cf3 sz3 x))), (ha, .inr (0, [.ref hr, .ref hg, .int z1, .int z2, .int z3])), (hr, .inr (7, [.int (nI n), .int (nI k), .int (nI al), .int (nI be), .int ea, .int pr, .ref sm, .int (nI se), .ref ca])), (hg, .inr (4, [.ref nd, .ref kd, .ref lk, .ref vw])), (kd, .inl (cs 0, 8, .inl kf)), (hs3, .inr (9, [.ref ra3, .ref sa3, .int (nI sz2_13)])), (ra3, .inl (cs 0, 16008, .inl rf2_11)), (sa3, .inl (cs 0, 4096, .inl sf2_12)), (wk2, .inl (cs 0, 8, .inl wf)), (hse, .inr (8, [.ref hr, .ref ha, .ref wk2, .ref hs3, .ref pa, .ref bn, .ref bs, .int few, .int (nI sz3), .int vse])), (pa, .inl (cs 0, 2001, .inl (upd pf sz3 (nI v))))] H := hP
        replace hD : va_D A [(bn, .inl (cs 0, 2001, .inl (upd bf sz3 (nI i)))), (bs, .inl (cs 0, 2001, .inl (upd cf3 sz3 x))), (ha, .inr (0, [.ref hr, .ref hg, .int z1, .int z2, .int z3])), (hr, .inr (7, [.int (nI n), .int (nI k), .int (nI al), .int (nI be), .int ea, .int pr, .ref sm, .int (nI se), .ref ca])), (hg, .inr (4, [.ref nd, .ref kd, .ref lk, .ref vw])), (kd, .inl (cs 0, 8, .inl kf)), (hs3, .inr (9, [.ref ra3, .ref sa3, .int (nI sz2_13)])), (ra3, .inl (cs 0, 16008, .inl rf2_11)), (sa3, .inl (cs 0, 4096, .inl sf2_12)), (wk2, .inl (cs 0, 8, .inl wf)), (hse, .inr (8, [.ref hr, .ref ha, .ref wk2, .ref hs3, .ref pa, .ref bn, .ref bs, .int few, .int (nI sz3), .int vse])), (pa, .inl (cs 0, 2001, .inl (upd pf sz3 (nI v))))] := hD
        obtain ⟨dd_16, h_dd_16, e_dd_16⟩ := hw_r_14
        refine lv_topi (nm_r (e' := nI dd_16) e_dd_16 ?_)
        refine xput C hP hD hS 10 rfl rfl zuX8 tyX8 tyX8_ok nmX8 7 (by decide) zw2_100 rfl rfl rfl (Nat.le_of_ble_eq_true rfl) dX8_comes_132 ?_
        clear hP hD hS
        try clear locs
        try clear H
        intro H locs hP hD hS
        replace hP : va_P D vwCl [(bn, .inl (cs 0, 2001, .inl (upd bf sz3 (nI i)))), (bs, .inl (cs 0, 2001, .inl (upd cf3 sz3 x))), (ha, .inr (0, [.ref hr, .ref hg, .int z1, .int z2, .int z3])), (hr, .inr (7, [.int (nI n), .int (nI k), .int (nI al), .int (nI be), .int ea, .int pr, .ref sm, .int (nI se), .ref ca])), (hg, .inr (4, [.ref nd, .ref kd, .ref lk, .ref vw])), (kd, .inl (cs 0, 8, .inl kf)), (hs3, .inr (9, [.ref ra3, .ref sa3, .int (nI sz2_13)])), (ra3, .inl (cs 0, 16008, .inl rf2_11)), (sa3, .inl (cs 0, 4096, .inl sf2_12)), (wk2, .inl (cs 0, 8, .inl wf)), (hse, .inr (8, [.ref hr, .ref ha, .ref wk2, .ref hs3, .ref pa, .ref bn, .ref bs, .int (nI dd_16), .int (nI sz3), .int vse])), (pa, .inl (cs 0, 2001, .inl (upd pf sz3 (nI v))))] H := hP
        replace hD : va_D A [(bn, .inl (cs 0, 2001, .inl (upd bf sz3 (nI i)))), (bs, .inl (cs 0, 2001, .inl (upd cf3 sz3 x))), (ha, .inr (0, [.ref hr, .ref hg, .int z1, .int z2, .int z3])), (hr, .inr (7, [.int (nI n), .int (nI k), .int (nI al), .int (nI be), .int ea, .int pr, .ref sm, .int (nI se), .ref ca])), (hg, .inr (4, [.ref nd, .ref kd, .ref lk, .ref vw])), (kd, .inl (cs 0, 8, .inl kf)), (hs3, .inr (9, [.ref ra3, .ref sa3, .int (nI sz2_13)])), (ra3, .inl (cs 0, 16008, .inl rf2_11)), (sa3, .inl (cs 0, 4096, .inl sf2_12)), (wk2, .inl (cs 0, 8, .inl wf)), (hse, .inr (8, [.ref hr, .ref ha, .ref wk2, .ref hs3, .ref pa, .ref bn, .ref bs, .int (nI dd_16), .int (nI sz3), .int vse])), (pa, .inl (cs 0, 2001, .inl (upd pf sz3 (nI v))))] := hD
        refine lv_iload hx hb dX8_comes_135 (lv_at hl 1 rfl) ?_
        exact xreti C (⟨rf2_11, sf2_12, (upd pf sz3 (nI v)), (upd bf sz3 (nI i)), (upd cf3 sz3 x), sz2_13, sz3, (nI dd_16)⟩) (⟨hA1, hA3, inP_up hp _ _ hv, by omega, Or.inr (Or.inr ⟨_, h_dd_16, rfl⟩)⟩) (xP_map hP [10, 2, 3, 6, 7, 8, 9, 11, 0, 1, 4, 5] rfl) (hD.sub [10, 2, 3, 6, 7, 8, 9, 11, 0, 1, 4, 5] (by decide) rfl) hS (Nat.le_of_ble_eq_true rfl) (Nat.le_of_ble_eq_true rfl) (by decide) dX8_comes_137
    · -- split
      replace hP : va_P D vwCl [(hse, .inr (8, [.ref hr, .ref ha, .ref wk2, .ref hs3, .ref pa, .ref bn, .ref bs, .int few, .int (nI spl), .int vse])), (pa, .inl (cs 0, 2001, .inl pf)), (bn, .inl (cs 0, 2001, .inl bf)), (bs, .inl (cs 0, 2001, .inl cf3)), (hs3, .inr (9, [.ref ra3, .ref sa3, .int (nI sz3)])), (ra3, .inl (cs 0, 16008, .inl rf3)), (sa3, .inl (cs 0, 4096, .inl sf3)), (ha, .inr (0, [.ref hr, .ref hg, .int z1, .int z2, .int z3])), (hr, .inr (7, [.int (nI n), .int (nI k), .int (nI al), .int (nI be), .int ea, .int pr, .ref sm, .int (nI se), .ref ca])), (hg, .inr (4, [.ref nd, .ref kd, .ref lk, .ref vw])), (kd, .inl (cs 0, 8, .inl kf)), (wk2, .inl (cs 0, 8, .inl wf))] H := hP
      replace hD : va_D A [(hse, .inr (8, [.ref hr, .ref ha, .ref wk2, .ref hs3, .ref pa, .ref bn, .ref bs, .int few, .int (nI spl), .int vse])), (pa, .inl (cs 0, 2001, .inl pf)), (bn, .inl (cs 0, 2001, .inl bf)), (bs, .inl (cs 0, 2001, .inl cf3)), (hs3, .inr (9, [.ref ra3, .ref sa3, .int (nI sz3)])), (ra3, .inl (cs 0, 16008, .inl rf3)), (sa3, .inl (cs 0, 4096, .inl sf3)), (ha, .inr (0, [.ref hr, .ref hg, .int z1, .int z2, .int z3])), (hr, .inr (7, [.int (nI n), .int (nI k), .int (nI al), .int (nI be), .int ea, .int pr, .ref sm, .int (nI se), .ref ca])), (hg, .inr (4, [.ref nd, .ref kd, .ref lk, .ref vw])), (kd, .inl (cs 0, 8, .inl kf)), (wk2, .inl (cs 0, 8, .inl wf))] := hD
      refine lv_istore (lv' := [(5, .int (nI 0)), (4, .int (nI t_3)), (0, .ref hse), (1, .int (nI v)), (2, .int (nI i)), (3, .int x)]) hx hb dX8_comes_40 hl (by decide) rfl ?_
      clear hl
      try clear ls
      intro ls hl
      refine lv_iload hx hb dX8_comes_42 (lv_at hl 0 rfl) ?_
      refine lv_if_ne (tgt := 57) hx hb dX8_comes_44 (by decide) (fun c => absurd (by decide) c) (fun _ => ?_)
      refine lv_aload_n hx hb dX8_comes_47 rfl (lv_at hl 2 rfl) ?_
      refine xget C hP 0 rfl rfl zuX8 3 (by decide) zw2_94 rfl dX8_comes_48 ?_
      refine xi (wr := [(hse, .inr (8, [.ref hr, .ref ha, .ref wk2, .ref hs3, .ref pa, .ref bn, .ref bs, .int few, .int (nI spl), .int vse])), (pa, .inl (cs 0, 2001, .inl pf)), (bn, .inl (cs 0, 2001, .inl bf)), (bs, .inl (cs 0, 2001, .inl cf3)), (ha, .inr (0, [.ref hr, .ref hg, .int z1, .int z2, .int z3])), (hr, .inr (7, [.int (nI n), .int (nI k), .int (nI al), .int (nI be), .int ea, .int pr, .ref sm, .int (nI se), .ref ca])), (hg, .inr (4, [.ref nd, .ref kd, .ref lk, .ref vw])), (kd, .inl (cs 0, 8, .inl kf)), (wk2, .inl (cs 0, 8, .inl wf))]) (xV (As := []) (rest := []) C (c_X9_isFull l D cs hs3 ra3 sa3 rf3 sf3 sz3 hsz) kX8_118 hP hD [4, 5, 6] rfl (by decide) 0 rfl rfl rfl ⟨Nat.le_of_ble_eq_true rfl, Nat.le_of_ble_eq_true rfl⟩ rfl hl.1 rfl (Nat.le_of_ble_eq_true rfl) dX8_comes_51 ⟨Nat.le_of_ble_eq_true rfl, Nat.le_of_ble_eq_true rfl⟩) hP hD hS hA [4, 5, 6] [0, 1, 2, 3, 7, 8, 9, 10, 11] rfl rfl (by decide) (by decide) ?_
      clear hP hD hS
      try clear locs
      try clear H
      intro r_17 u_18 H locs hw_r_17 hP hD hS
      have hw_r_17 : PQ (2000 ≤ sz3) r_17 (nI 1) (nI 0) := hw_r_17
      refine W.widen (k := 0) (n := 0) (Nat.le_of_ble_eq_true rfl) (Nat.le_of_ble_eq_true rfl) ?_
      replace hP : va_P D vwCl [(hse, .inr (8, [.ref hr, .ref ha, .ref wk2, .ref hs3, .ref pa, .ref bn, .ref bs, .int few, .int (nI spl), .int vse])), (pa, .inl (cs 0, 2001, .inl pf)), (bn, .inl (cs 0, 2001, .inl bf)), (bs, .inl (cs 0, 2001, .inl cf3)), (ha, .inr (0, [.ref hr, .ref hg, .int z1, .int z2, .int z3])), (hr, .inr (7, [.int (nI n), .int (nI k), .int (nI al), .int (nI be), .int ea, .int pr, .ref sm, .int (nI se), .ref ca])), (hg, .inr (4, [.ref nd, .ref kd, .ref lk, .ref vw])), (kd, .inl (cs 0, 8, .inl kf)), (wk2, .inl (cs 0, 8, .inl wf)), (hs3, .inr (9, [.ref ra3, .ref sa3, .int (nI sz3)])), (ra3, .inl (cs 0, 16008, .inl rf3)), (sa3, .inl (cs 0, 4096, .inl sf3))] H := hP
      replace hD : va_D A [(hse, .inr (8, [.ref hr, .ref ha, .ref wk2, .ref hs3, .ref pa, .ref bn, .ref bs, .int few, .int (nI spl), .int vse])), (pa, .inl (cs 0, 2001, .inl pf)), (bn, .inl (cs 0, 2001, .inl bf)), (bs, .inl (cs 0, 2001, .inl cf3)), (ha, .inr (0, [.ref hr, .ref hg, .int z1, .int z2, .int z3])), (hr, .inr (7, [.int (nI n), .int (nI k), .int (nI al), .int (nI be), .int ea, .int pr, .ref sm, .int (nI se), .ref ca])), (hg, .inr (4, [.ref nd, .ref kd, .ref lk, .ref vw])), (kd, .inl (cs 0, 8, .inl kf)), (wk2, .inl (cs 0, 8, .inl wf)), (hs3, .inr (9, [.ref ra3, .ref sa3, .int (nI sz3)])), (ra3, .inl (cs 0, 16008, .inl rf3)), (sa3, .inl (cs 0, 4096, .inl sf3))] := hD
      refine lv_if_ne (tgt := 73) hx hb dX8_comes_54 (by decide) (fun c_19 => ?_) (fun c_19 => ?_)
      · -- 54 t
        refine lv_iconst (v := (-1)) hx hb dX8_comes_73 (by decide) ?_
        refine lv_istore (lv' := [(6, .int (-1)), (5, .int (nI 0)), (4, .int (nI t_3)), (0, .ref hse), (1, .int (nI v)), (2, .int (nI i)), (3, .int x)]) hx hb dX8_comes_74 hl (by decide) rfl ?_
        clear hl
        try clear ls
        intro ls hl
        refine lv_iload hx hb dX8_comes_76 (lv_at hl 0 rfl) ?_
        refine lv_iconst (v := (-1)) hx hb dX8_comes_78 (by decide) ?_
        refine lv_icmp_ne (tgt := 90) hx hb dX8_comes_79 (by decide) (fun c => absurd rfl c) (fun _ => ?_)
        refine lv_aload_n hx hb dX8_comes_82 rfl (lv_at hl 3 rfl) ?_
        refine lv_bipush (v := (-3)) hx hb dX8_comes_83 (by decide) ?_
        refine xput C hP hD hS 0 rfl rfl zuX8 tyX8 tyX8_ok nmX8 7 (by decide) zw2_100 rfl rfl rfl (Nat.le_of_ble_eq_true rfl) dX8_comes_85 ?_
        clear hP hD hS
        try clear locs
        try clear H
        intro H locs hP hD hS
        replace hP : va_P D vwCl [(hse, .inr (8, [.ref hr, .ref ha, .ref wk2, .ref hs3, .ref pa, .ref bn, .ref bs, .int (-3), .int (nI spl), .int vse])), (pa, .inl (cs 0, 2001, .inl pf)), (bn, .inl (cs 0, 2001, .inl bf)), (bs, .inl (cs 0, 2001, .inl cf3)), (ha, .inr (0, [.ref hr, .ref hg, .int z1, .int z2, .int z3])), (hr, .inr (7, [.int (nI n), .int (nI k), .int (nI al), .int (nI be), .int ea, .int pr, .ref sm, .int (nI se), .ref ca])), (hg, .inr (4, [.ref nd, .ref kd, .ref lk, .ref vw])), (kd, .inl (cs 0, 8, .inl kf)), (wk2, .inl (cs 0, 8, .inl wf)), (hs3, .inr (9, [.ref ra3, .ref sa3, .int (nI sz3)])), (ra3, .inl (cs 0, 16008, .inl rf3)), (sa3, .inl (cs 0, 4096, .inl sf3))] H := hP
        replace hD : va_D A [(hse, .inr (8, [.ref hr, .ref ha, .ref wk2, .ref hs3, .ref pa, .ref bn, .ref bs, .int (-3), .int (nI spl), .int vse])), (pa, .inl (cs 0, 2001, .inl pf)), (bn, .inl (cs 0, 2001, .inl bf)), (bs, .inl (cs 0, 2001, .inl cf3)), (ha, .inr (0, [.ref hr, .ref hg, .int z1, .int z2, .int z3])), (hr, .inr (7, [.int (nI n), .int (nI k), .int (nI al), .int (nI be), .int ea, .int pr, .ref sm, .int (nI se), .ref ca])), (hg, .inr (4, [.ref nd, .ref kd, .ref lk, .ref vw])), (kd, .inl (cs 0, 8, .inl kf)), (wk2, .inl (cs 0, 8, .inl wf)), (hs3, .inr (9, [.ref ra3, .ref sa3, .int (nI sz3)])), (ra3, .inl (cs 0, 16008, .inl rf3)), (sa3, .inl (cs 0, 4096, .inl sf3))] := hD
        refine lv_iconst (v := nI 1) hx hb dX8_comes_88 (by decide) ?_
        exact xreti C (⟨rf3, sf3, pf, bf, cf3, sz3, spl, (-3)⟩) (⟨hsl, hsz, hp, hspl, Or.inr (Or.inl rfl)⟩) (xP_map hP [0, 4, 5, 9, 10, 11, 8, 1, 2, 3, 6, 7] rfl) (hD.sub [0, 4, 5, 9, 10, 11, 8, 1, 2, 3, 6, 7] (by decide) rfl) hS (Nat.le_of_ble_eq_true rfl) (Nat.le_of_ble_eq_true rfl) (by decide) dX8_comes_89
      · -- 54 f
        refine lv_aload_n hx hb dX8_comes_57 rfl (lv_at hl 2 rfl) ?_
        refine xget C hP 0 rfl rfl zuX8 3 (by decide) zw2_94 rfl dX8_comes_58 ?_
        refine lv_iload hx hb dX8_comes_61 (lv_at hl 1 rfl) ?_
        refine lv_aload_n hx hb dX8_comes_63 rfl (lv_at hl 2 rfl) ?_
        refine xget C hP 0 rfl rfl zuX8 2 (by decide) zw2_93 rfl dX8_comes_64 ?_
        refine xi (wr := [(hse, .inr (8, [.ref hr, .ref ha, .ref wk2, .ref hs3, .ref pa, .ref bn, .ref bs, .int few, .int (nI spl), .int vse])), (pa, .inl (cs 0, 2001, .inl pf)), (bn, .inl (cs 0, 2001, .inl bf)), (bs, .inl (cs 0, 2001, .inl cf3)), (ha, .inr (0, [.ref hr, .ref hg, .int z1, .int z2, .int z3])), (hr, .inr (7, [.int (nI n), .int (nI k), .int (nI al), .int (nI be), .int ea, .int pr, .ref sm, .int (nI se), .ref ca])), (hg, .inr (4, [.ref nd, .ref kd, .ref lk, .ref vw])), (kd, .inl (cs 0, 8, .inl kf))]) (xV (As := [.int (nI t_3), .ref wk2]) (rest := []) C (c_X9_add l D cs hs3 ra3 sa3 rf3 sf3 sz3 wk2 wf t_3 hsl hsz (by assumption)) kX8_82 hP hD [9, 10, 11, 8] rfl (by decide) 0 rfl rfl rfl ⟨Nat.le_of_ble_eq_true rfl, Nat.le_of_ble_eq_true rfl⟩ rfl hl.1 rfl (Nat.le_of_ble_eq_true rfl) dX8_comes_67 ⟨Nat.le_of_ble_eq_true rfl, Nat.le_of_ble_eq_true rfl⟩) hP hD hS hA [9, 10, 11, 8] [0, 1, 2, 3, 4, 5, 6, 7] rfl rfl (by decide) (by decide) ?_
        clear hP hD hS
        try clear locs
        try clear H
        intro r_20 u_21 H locs hw_r_20 hP hD hS
        obtain ⟨rf2_22, sf2_23, sz2_24⟩ := u_21
        have hw_r_20 : slP sz2_24 sf2_23 ∧ sz3 ≤ sz2_24 ∧ sz2_24 ≤ 2001 ∧ ((2000 < sz3 ∧ r_20 = -1 ∧ sz2_24 = sz3) ∨ (sz3 ≤ 2000 ∧ r_20 = nI sz3 ∧ sz2_24 = sz3 + 1)) := hw_r_20
        refine W.widen (k := 0) (n := 0) (Nat.le_of_ble_eq_true rfl) (Nat.le_of_ble_eq_true rfl) ?_
        replace hP : va_P D vwCl [(hse, .inr (8, [.ref hr, .ref ha, .ref wk2, .ref hs3, .ref pa, .ref bn, .ref bs, .int few, .int (nI spl), .int vse])), (pa, .inl (cs 0, 2001, .inl pf)), (bn, .inl (cs 0, 2001, .inl bf)), (bs, .inl (cs 0, 2001, .inl cf3)), (ha, .inr (0, [.ref hr, .ref hg, .int z1, .int z2, .int z3])), (hr, .inr (7, [.int (nI n), .int (nI k), .int (nI al), .int (nI be), .int ea, .int pr, .ref sm, .int (nI se), .ref ca])), (hg, .inr (4, [.ref nd, .ref kd, .ref lk, .ref vw])), (kd, .inl (cs 0, 8, .inl kf)), (hs3, .inr (9, [.ref ra3, .ref sa3, .int (nI sz2_24)])), (ra3, .inl (cs 0, 16008, .inl rf2_22)), (sa3, .inl (cs 0, 4096, .inl sf2_23)), (wk2, .inl (cs 0, 8, .inl wf))] H := hP
        replace hD : va_D A [(hse, .inr (8, [.ref hr, .ref ha, .ref wk2, .ref hs3, .ref pa, .ref bn, .ref bs, .int few, .int (nI spl), .int vse])), (pa, .inl (cs 0, 2001, .inl pf)), (bn, .inl (cs 0, 2001, .inl bf)), (bs, .inl (cs 0, 2001, .inl cf3)), (ha, .inr (0, [.ref hr, .ref hg, .int z1, .int z2, .int z3])), (hr, .inr (7, [.int (nI n), .int (nI k), .int (nI al), .int (nI be), .int ea, .int pr, .ref sm, .int (nI se), .ref ca])), (hg, .inr (4, [.ref nd, .ref kd, .ref lk, .ref vw])), (kd, .inl (cs 0, 8, .inl kf)), (hs3, .inr (9, [.ref ra3, .ref sa3, .int (nI sz2_24)])), (ra3, .inl (cs 0, 16008, .inl rf2_22)), (sa3, .inl (cs 0, 4096, .inl sf2_23)), (wk2, .inl (cs 0, 8, .inl wf))] := hD
        obtain ⟨hA1, hA2, hA3, hA4⟩ := hw_r_20
        rcases hA4 with ⟨hA5, hA6, hA7⟩ | ⟨hA5, hA6, hA7⟩
        · -- split
          refine lv_topi (nm_r (e' := -1) hA6 ?_)
          refine lv_goto (tgt := 74) hx hb dX8_comes_70 (by decide) ?_
          refine lv_istore (lv' := [(6, .int (-1)), (5, .int (nI 0)), (4, .int (nI t_3)), (0, .ref hse), (1, .int (nI v)), (2, .int (nI i)), (3, .int x)]) hx hb dX8_comes_74 hl (by decide) rfl ?_
          clear hl
          try clear ls
          intro ls hl
          refine lv_iload hx hb dX8_comes_76 (lv_at hl 0 rfl) ?_
          refine lv_iconst (v := (-1)) hx hb dX8_comes_78 (by decide) ?_
          refine lv_icmp_ne (tgt := 90) hx hb dX8_comes_79 (by decide) (fun c => absurd rfl c) (fun _ => ?_)
          refine lv_aload_n hx hb dX8_comes_82 rfl (lv_at hl 3 rfl) ?_
          refine lv_bipush (v := (-3)) hx hb dX8_comes_83 (by decide) ?_
          refine xput C hP hD hS 0 rfl rfl zuX8 tyX8 tyX8_ok nmX8 7 (by decide) zw2_100 rfl rfl rfl (Nat.le_of_ble_eq_true rfl) dX8_comes_85 ?_
          clear hP hD hS
          try clear locs
          try clear H
          intro H locs hP hD hS
          replace hP : va_P D vwCl [(hse, .inr (8, [.ref hr, .ref ha, .ref wk2, .ref hs3, .ref pa, .ref bn, .ref bs, .int (-3), .int (nI spl), .int vse])), (pa, .inl (cs 0, 2001, .inl pf)), (bn, .inl (cs 0, 2001, .inl bf)), (bs, .inl (cs 0, 2001, .inl cf3)), (ha, .inr (0, [.ref hr, .ref hg, .int z1, .int z2, .int z3])), (hr, .inr (7, [.int (nI n), .int (nI k), .int (nI al), .int (nI be), .int ea, .int pr, .ref sm, .int (nI se), .ref ca])), (hg, .inr (4, [.ref nd, .ref kd, .ref lk, .ref vw])), (kd, .inl (cs 0, 8, .inl kf)), (hs3, .inr (9, [.ref ra3, .ref sa3, .int (nI sz2_24)])), (ra3, .inl (cs 0, 16008, .inl rf2_22)), (sa3, .inl (cs 0, 4096, .inl sf2_23)), (wk2, .inl (cs 0, 8, .inl wf))] H := hP
          replace hD : va_D A [(hse, .inr (8, [.ref hr, .ref ha, .ref wk2, .ref hs3, .ref pa, .ref bn, .ref bs, .int (-3), .int (nI spl), .int vse])), (pa, .inl (cs 0, 2001, .inl pf)), (bn, .inl (cs 0, 2001, .inl bf)), (bs, .inl (cs 0, 2001, .inl cf3)), (ha, .inr (0, [.ref hr, .ref hg, .int z1, .int z2, .int z3])), (hr, .inr (7, [.int (nI n), .int (nI k), .int (nI al), .int (nI be), .int ea, .int pr, .ref sm, .int (nI se), .ref ca])), (hg, .inr (4, [.ref nd, .ref kd, .ref lk, .ref vw])), (kd, .inl (cs 0, 8, .inl kf)), (hs3, .inr (9, [.ref ra3, .ref sa3, .int (nI sz2_24)])), (ra3, .inl (cs 0, 16008, .inl rf2_22)), (sa3, .inl (cs 0, 4096, .inl sf2_23)), (wk2, .inl (cs 0, 8, .inl wf))] := hD
          refine lv_iconst (v := nI 1) hx hb dX8_comes_88 (by decide) ?_
          exact xreti C (⟨rf2_22, sf2_23, pf, bf, cf3, sz2_24, spl, (-3)⟩) (⟨hA1, hA3, hp, hspl, Or.inr (Or.inl rfl)⟩) (xP_map hP [0, 4, 5, 8, 9, 10, 11, 1, 2, 3, 6, 7] rfl) (hD.sub [0, 4, 5, 8, 9, 10, 11, 1, 2, 3, 6, 7] (by decide) rfl) hS (Nat.le_of_ble_eq_true rfl) (Nat.le_of_ble_eq_true rfl) (by decide) dX8_comes_89
        · -- split
          refine lv_topi (nm_r (e' := nI sz3) hA6 ?_)
          refine lv_goto (tgt := 74) hx hb dX8_comes_70 (by decide) ?_
          refine lv_istore (lv' := [(6, .int (nI sz3)), (5, .int (nI 0)), (4, .int (nI t_3)), (0, .ref hse), (1, .int (nI v)), (2, .int (nI i)), (3, .int x)]) hx hb dX8_comes_74 hl (by decide) rfl ?_
          clear hl
          try clear ls
          intro ls hl
          refine lv_iload hx hb dX8_comes_76 (lv_at hl 0 rfl) ?_
          refine lv_iconst (v := (-1)) hx hb dX8_comes_78 (by decide) ?_
          refine lv_icmp_ne (tgt := 90) hx hb dX8_comes_79 (by decide) (fun _ => ?_) (fun c => absurd c (nI_ne_m1 (by omega)))
          refine lv_aload_n hx hb dX8_comes_90 rfl (lv_at hl 3 rfl) ?_
          refine xget C hP 0 rfl rfl zuX8 4 (by decide) zw2_95 rfl dX8_comes_91 ?_
          refine lv_iload hx hb dX8_comes_94 (lv_at hl 0 rfl) ?_
          refine lv_iload_n hx hb dX8_comes_96 rfl (lv_at hl 4 rfl) ?_
          refine xiast C hP hD hS 1 rfl sz3 rfl (by omega) (by decide) dX8_comes_97 ?_
          clear hP hD hS
          try clear locs
          try clear H
          intro H locs hP hD hS
          replace hP : va_P D vwCl [(hse, .inr (8, [.ref hr, .ref ha, .ref wk2, .ref hs3, .ref pa, .ref bn, .ref bs, .int few, .int (nI spl), .int vse])), (pa, .inl (cs 0, 2001, .inl (upd pf sz3 (nI v)))), (bn, .inl (cs 0, 2001, .inl bf)), (bs, .inl (cs 0, 2001, .inl cf3)), (ha, .inr (0, [.ref hr, .ref hg, .int z1, .int z2, .int z3])), (hr, .inr (7, [.int (nI n), .int (nI k), .int (nI al), .int (nI be), .int ea, .int pr, .ref sm, .int (nI se), .ref ca])), (hg, .inr (4, [.ref nd, .ref kd, .ref lk, .ref vw])), (kd, .inl (cs 0, 8, .inl kf)), (hs3, .inr (9, [.ref ra3, .ref sa3, .int (nI sz2_24)])), (ra3, .inl (cs 0, 16008, .inl rf2_22)), (sa3, .inl (cs 0, 4096, .inl sf2_23)), (wk2, .inl (cs 0, 8, .inl wf))] H := hP
          replace hD : va_D A [(hse, .inr (8, [.ref hr, .ref ha, .ref wk2, .ref hs3, .ref pa, .ref bn, .ref bs, .int few, .int (nI spl), .int vse])), (pa, .inl (cs 0, 2001, .inl (upd pf sz3 (nI v)))), (bn, .inl (cs 0, 2001, .inl bf)), (bs, .inl (cs 0, 2001, .inl cf3)), (ha, .inr (0, [.ref hr, .ref hg, .int z1, .int z2, .int z3])), (hr, .inr (7, [.int (nI n), .int (nI k), .int (nI al), .int (nI be), .int ea, .int pr, .ref sm, .int (nI se), .ref ca])), (hg, .inr (4, [.ref nd, .ref kd, .ref lk, .ref vw])), (kd, .inl (cs 0, 8, .inl kf)), (hs3, .inr (9, [.ref ra3, .ref sa3, .int (nI sz2_24)])), (ra3, .inl (cs 0, 16008, .inl rf2_22)), (sa3, .inl (cs 0, 4096, .inl sf2_23)), (wk2, .inl (cs 0, 8, .inl wf))] := hD
          refine lv_aload_n hx hb dX8_comes_98 rfl (lv_at hl 3 rfl) ?_
          refine xget C hP 0 rfl rfl zuX8 5 (by decide) zw2_96 rfl dX8_comes_99 ?_
          refine lv_iload hx hb dX8_comes_102 (lv_at hl 0 rfl) ?_
          refine lv_iload_n hx hb dX8_comes_104 rfl (lv_at hl 5 rfl) ?_
          refine xiast C hP hD hS 2 rfl sz3 rfl (by omega) (by decide) dX8_comes_105 ?_
          clear hP hD hS
          try clear locs
          try clear H
          intro H locs hP hD hS
          replace hP : va_P D vwCl [(hse, .inr (8, [.ref hr, .ref ha, .ref wk2, .ref hs3, .ref pa, .ref bn, .ref bs, .int few, .int (nI spl), .int vse])), (pa, .inl (cs 0, 2001, .inl (upd pf sz3 (nI v)))), (bn, .inl (cs 0, 2001, .inl (upd bf sz3 (nI i)))), (bs, .inl (cs 0, 2001, .inl cf3)), (ha, .inr (0, [.ref hr, .ref hg, .int z1, .int z2, .int z3])), (hr, .inr (7, [.int (nI n), .int (nI k), .int (nI al), .int (nI be), .int ea, .int pr, .ref sm, .int (nI se), .ref ca])), (hg, .inr (4, [.ref nd, .ref kd, .ref lk, .ref vw])), (kd, .inl (cs 0, 8, .inl kf)), (hs3, .inr (9, [.ref ra3, .ref sa3, .int (nI sz2_24)])), (ra3, .inl (cs 0, 16008, .inl rf2_22)), (sa3, .inl (cs 0, 4096, .inl sf2_23)), (wk2, .inl (cs 0, 8, .inl wf))] H := hP
          replace hD : va_D A [(hse, .inr (8, [.ref hr, .ref ha, .ref wk2, .ref hs3, .ref pa, .ref bn, .ref bs, .int few, .int (nI spl), .int vse])), (pa, .inl (cs 0, 2001, .inl (upd pf sz3 (nI v)))), (bn, .inl (cs 0, 2001, .inl (upd bf sz3 (nI i)))), (bs, .inl (cs 0, 2001, .inl cf3)), (ha, .inr (0, [.ref hr, .ref hg, .int z1, .int z2, .int z3])), (hr, .inr (7, [.int (nI n), .int (nI k), .int (nI al), .int (nI be), .int ea, .int pr, .ref sm, .int (nI se), .ref ca])), (hg, .inr (4, [.ref nd, .ref kd, .ref lk, .ref vw])), (kd, .inl (cs 0, 8, .inl kf)), (hs3, .inr (9, [.ref ra3, .ref sa3, .int (nI sz2_24)])), (ra3, .inl (cs 0, 16008, .inl rf2_22)), (sa3, .inl (cs 0, 4096, .inl sf2_23)), (wk2, .inl (cs 0, 8, .inl wf))] := hD
          refine lv_aload_n hx hb dX8_comes_106 rfl (lv_at hl 3 rfl) ?_
          refine xget C hP 0 rfl rfl zuX8 6 (by decide) zw2_98 rfl dX8_comes_107 ?_
          refine lv_iload hx hb dX8_comes_110 (lv_at hl 0 rfl) ?_
          refine lv_iload_n hx hb dX8_comes_112 rfl (lv_at hl 6 rfl) ?_
          refine xiast C hP hD hS 3 rfl sz3 rfl (by omega) (by decide) dX8_comes_113 ?_
          clear hP hD hS
          try clear locs
          try clear H
          intro H locs hP hD hS
          replace hP : va_P D vwCl [(hse, .inr (8, [.ref hr, .ref ha, .ref wk2, .ref hs3, .ref pa, .ref bn, .ref bs, .int few, .int (nI spl), .int vse])), (pa, .inl (cs 0, 2001, .inl (upd pf sz3 (nI v)))), (bn, .inl (cs 0, 2001, .inl (upd bf sz3 (nI i)))), (bs, .inl (cs 0, 2001, .inl (upd cf3 sz3 x))), (ha, .inr (0, [.ref hr, .ref hg, .int z1, .int z2, .int z3])), (hr, .inr (7, [.int (nI n), .int (nI k), .int (nI al), .int (nI be), .int ea, .int pr, .ref sm, .int (nI se), .ref ca])), (hg, .inr (4, [.ref nd, .ref kd, .ref lk, .ref vw])), (kd, .inl (cs 0, 8, .inl kf)), (hs3, .inr (9, [.ref ra3, .ref sa3, .int (nI sz2_24)])), (ra3, .inl (cs 0, 16008, .inl rf2_22)), (sa3, .inl (cs 0, 4096, .inl sf2_23)), (wk2, .inl (cs 0, 8, .inl wf))] H := hP
          replace hD : va_D A [(hse, .inr (8, [.ref hr, .ref ha, .ref wk2, .ref hs3, .ref pa, .ref bn, .ref bs, .int few, .int (nI spl), .int vse])), (pa, .inl (cs 0, 2001, .inl (upd pf sz3 (nI v)))), (bn, .inl (cs 0, 2001, .inl (upd bf sz3 (nI i)))), (bs, .inl (cs 0, 2001, .inl (upd cf3 sz3 x))), (ha, .inr (0, [.ref hr, .ref hg, .int z1, .int z2, .int z3])), (hr, .inr (7, [.int (nI n), .int (nI k), .int (nI al), .int (nI be), .int ea, .int pr, .ref sm, .int (nI se), .ref ca])), (hg, .inr (4, [.ref nd, .ref kd, .ref lk, .ref vw])), (kd, .inl (cs 0, 8, .inl kf)), (hs3, .inr (9, [.ref ra3, .ref sa3, .int (nI sz2_24)])), (ra3, .inl (cs 0, 16008, .inl rf2_22)), (sa3, .inl (cs 0, 4096, .inl sf2_23)), (wk2, .inl (cs 0, 8, .inl wf))] := hD
          refine lv_iload hx hb dX8_comes_114 (lv_at hl 1 rfl) ?_
          refine lv_if_eq (tgt := 135) hx hb dX8_comes_116 (by decide) (fun _ => ?_) (fun c => absurd (by decide) c)
          refine lv_iload hx hb dX8_comes_135 (lv_at hl 1 rfl) ?_
          exact xreti C (⟨rf2_22, sf2_23, (upd pf sz3 (nI v)), (upd bf sz3 (nI i)), (upd cf3 sz3 x), sz2_24, spl, few⟩) (⟨hA1, hA3, inP_up hp _ _ hv, hspl, hfew⟩) (xP_map hP [0, 4, 5, 8, 9, 10, 11, 1, 2, 3, 6, 7] rfl) (hD.sub [0, 4, 5, 8, 9, 10, 11, 1, 2, 3, 6, 7] (by decide) rfl) hS (Nat.le_of_ble_eq_true rfl) (Nat.le_of_ble_eq_true rfl) (by decide) dX8_comes_137
  · -- 23 f
    refine lv_iconst (v := nI 0) hx hb dX8_comes_26 (by decide) ?_
    exact xreti C (⟨rf3, sf3, pf, bf, cf3, sz3, spl, few⟩) (⟨hsl, hsz, hp, hspl, hfew⟩) (xP_map hP [0, 1, 2, 9, 10, 11, 8, 3, 4, 5, 6, 7] rfl) (hD.sub [0, 1, 2, 9, 10, 11, 8, 3, 4, 5, 6, 7] (by decide) rfl) hS (Nat.le_of_ble_eq_true rfl) (Nat.le_of_ble_eq_true rfl) (by decide) dX8_comes_27
