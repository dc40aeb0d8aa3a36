set_option maxHeartbeats 4000000 in
set_option maxRecDepth 100000 in
theorem c_X12_choose_0_2 (l : Launch) (D : va_G) (cs : Nat → ClassId) (u9 : Nat) : xMet l D cs yX12_choose cX12_choose 5 (some .long) ({ frames := 0, cells := 0, slots := 0, locals := 0 } : Room) [.int (nI 0), .int (nI 2)] [] (xQl D (fun (r : Int64) (_u : Unit) => r = 0) (fun (_u : Unit) => [])) := by
  refine xMet.intro (by decide) (Nat.le_of_ble_eq_true rfl) ?_
  intro p e s m args below meth c A ls C hP hD hS hl
  have hx := C.1
  have hb := C.2.1
  have hz := C.2.2.2.2.1
  have hown := C.2.2.2.1
  have hA := C.2.2.2.2.2.2.2.2.2
  have hAO := C.2.2.2.2.2.2.2.2.1.2.2
  replace hl : lv_has ls 5 [(0, .int (nI 0)), (1, .int (nI 2))] := hl
  obtain ⟨H, hH⟩ : ∃ H, H = s.heap := ⟨_, rfl⟩
  replace hP : va_P D vwCl [] H := by rw [hH]; exact hP
  replace hS : va_S A s.heap H [] := by rw [hH]; exact hS
  obtain ⟨locs, hlocs⟩ : ∃ z : List Loc, z = [] := ⟨_, rfl⟩
  rw [← hlocs] at hS
  suffices hW : W p l e ({ frames := 0, cells := 0, slots := 0, locals := 0 } : Room) s m args below meth c H locs 0 0 (MQ below ((xQl D (fun (r : Int64) (_u : Unit) => r = 0) (fun (_u : Unit) => [])) A) args s 0 0 A) (F0 m 0 ls []) by rw [hlocs, hH] at hW; exact hW
  clear hH hlocs
  refine lv_lconst (v := 1) hx hb dX12_choose_0 (by decide) ?_
  refine lv_lstore_n (lv' := [(2, .long 1), (0, .int (nI 0)), (1, .int (nI 2))]) hx hb dX12_choose_1 rfl hl (by decide) rfl ?_
  clear hl
  try clear ls
  intro ls hl
  refine lv_iconst (v := nI 0) hx hb dX12_choose_2 (by decide) ?_
  refine lv_istore (lv' := [(4, .int (nI 0)), (2, .long 1), (0, .int (nI 0)), (1, .int (nI 2))]) hx hb dX12_choose_3 hl (by decide) rfl ?_
  clear hl
  try clear ls
  intro ls hl
  refine lv_iload hx hb dX12_choose_5 (lv_at hl 0 rfl) ?_
  refine lv_iload_n hx hb dX12_choose_7 rfl (lv_at hl 3 rfl) ?_
  refine lv_icmp_ge (tgt := 31) hx hb dX12_choose_8 (by decide) (fun c => absurd c (by decide)) (fun _ => ?_)
  refine lv_lload_n hx hb dX12_choose_11 rfl (lv_at hl 1 rfl) ?_
  refine lv_iload_n hx hb dX12_choose_12 rfl (lv_at hl 2 rfl) ?_
  refine lv_iload hx hb dX12_choose_13 (lv_at hl 0 rfl) ?_
  refine lv_isub hx hb dX12_choose_15 ?_
  refine lv_topi (nm_r (e' := nI 0) (by decide) ?_)
  refine lv_i2l hx hb dX12_choose_16 rfl ?_
  refine lv_lmul hx hb dX12_choose_17 ?_
  refine lv_iload hx hb dX12_choose_18 (lv_at hl 0 rfl) ?_
  refine lv_iconst (v := nI 1) hx hb dX12_choose_20 (by decide) ?_
  refine lv_iadd hx hb dX12_choose_21 ?_
  refine lv_topi (nm_r (e' := nI 1) (by decide) ?_)
  refine lv_i2l hx hb dX12_choose_22 rfl ?_
  refine lv_ldiv hx hb dX12_choose_23 (by decide) ?_
  refine lv_topl (nm_r (e' := 0) (by decide) ?_)
  refine lv_lstore_n (lv' := [(2, .long 0), (4, .int (nI 0)), (0, .int (nI 0)), (1, .int (nI 2))]) hx hb dX12_choose_24 rfl hl (by decide) rfl ?_
  clear hl
  try clear ls
  intro ls hl
  refine lv_iinc (v := nI 1) (lv' := [(4, .int (nI 1)), (2, .long 0), (0, .int (nI 0)), (1, .int (nI 2))]) hx hb dX12_choose_25 hl (k := 1) rfl (by decide) (by decide) rfl ?_
  clear hl
  try clear ls
  intro ls hl
  refine lv_goto (tgt := 5) hx hb dX12_choose_28 (by decide) ?_
  refine lv_iload hx hb dX12_choose_5 (lv_at hl 0 rfl) ?_
  refine lv_iload_n hx hb dX12_choose_7 rfl (lv_at hl 3 rfl) ?_
  refine lv_icmp_ge (tgt := 31) hx hb dX12_choose_8 (by decide) (fun c => absurd c (by decide)) (fun _ => ?_)
  refine lv_lload_n hx hb dX12_choose_11 rfl (lv_at hl 1 rfl) ?_
  refine lv_iload_n hx hb dX12_choose_12 rfl (lv_at hl 2 rfl) ?_
  refine lv_iload hx hb dX12_choose_13 (lv_at hl 0 rfl) ?_
  refine lv_isub hx hb dX12_choose_15 ?_
  refine lv_topi (nm_r (e' := (-1)) (by decide) ?_)
  refine lv_i2l hx hb dX12_choose_16 rfl ?_
  refine lv_lmul hx hb dX12_choose_17 ?_
  refine lv_iload hx hb dX12_choose_18 (lv_at hl 0 rfl) ?_
  refine lv_iconst (v := nI 1) hx hb dX12_choose_20 (by decide) ?_
  refine lv_iadd hx hb dX12_choose_21 ?_
  refine lv_topi (nm_r (e' := nI 2) (by decide) ?_)
  refine lv_i2l hx hb dX12_choose_22 rfl ?_
  refine lv_ldiv hx hb dX12_choose_23 (by decide) ?_
  refine lv_topl (nm_r (e' := 0) (by decide) ?_)
  refine lv_lstore_n (lv' := [(2, .long 0), (4, .int (nI 1)), (0, .int (nI 0)), (1, .int (nI 2))]) hx hb dX12_choose_24 rfl hl (by decide) rfl ?_
  clear hl
  try clear ls
  intro ls hl
  refine lv_iinc (v := nI 2) (lv' := [(4, .int (nI 2)), (2, .long 0), (0, .int (nI 0)), (1, .int (nI 2))]) hx hb dX12_choose_25 hl (k := 1) rfl (by decide) (by decide) rfl ?_
  clear hl
  try clear ls
  intro ls hl
  refine lv_goto (tgt := 5) hx hb dX12_choose_28 (by decide) ?_
  refine lv_iload hx hb dX12_choose_5 (lv_at hl 0 rfl) ?_
  refine lv_iload_n hx hb dX12_choose_7 rfl (lv_at hl 3 rfl) ?_
  refine lv_icmp_ge (tgt := 31) hx hb dX12_choose_8 (by decide) (fun _ => ?_) (fun c => absurd (by decide) c)
  refine lv_iload_n hx hb dX12_choose_31 rfl (lv_at hl 3 rfl) ?_
  refine lv_if_lt (tgt := 40) hx hb dX12_choose_32 (by decide) (fun c => absurd c (by decide)) (fun _ => ?_)
  refine lv_iload_n hx hb dX12_choose_35 rfl (lv_at hl 3 rfl) ?_
  refine lv_iload_n hx hb dX12_choose_36 rfl (lv_at hl 2 rfl) ?_
  refine lv_icmp_le (tgt := 44) hx hb dX12_choose_37 (by decide) (fun c => absurd c (by decide)) (fun _ => ?_)
  refine lv_lconst (v := 0) hx hb dX12_choose_40 (by decide) ?_
  refine lv_goto (tgt := 45) hx hb dX12_choose_41 (by decide) ?_
  exact xretl C () rfl hP hD hS (Nat.le_of_ble_eq_true rfl) (Nat.le_of_ble_eq_true rfl) dX12_choose_45

set_option maxHeartbeats 4000000 in
set_option maxRecDepth 100000 in
theorem c_X12_choose_0_0 (l : Launch) (D : va_G) (cs : Nat → ClassId) (u9 : Nat) : xMet l D cs yX12_choose cX12_choose 5 (some .long) ({ frames := 0, cells := 0, slots := 0, locals := 0 } : Room) [.int (nI 0), .int (nI 0)] [] (xQl D (fun (r : Int64) (_u : Unit) => r = 1) (fun (_u : Unit) => [])) := by
  refine xMet.intro (by decide) (Nat.le_of_ble_eq_true rfl) ?_
  intro p e s m args below meth c A ls C hP hD hS hl
  have hx := C.1
  have hb := C.2.1
  have hz := C.2.2.2.2.1
  have hown := C.2.2.2.1
  have hA := C.2.2.2.2.2.2.2.2.2
  have hAO := C.2.2.2.2.2.2.2.2.1.2.2
  replace hl : lv_has ls 5 [(0, .int (nI 0)), (1, .int (nI 0))] := hl
  obtain ⟨H, hH⟩ : ∃ H, H = s.heap := ⟨_, rfl⟩
  replace hP : va_P D vwCl [] H := by rw [hH]; exact hP
  replace hS : va_S A s.heap H [] := by rw [hH]; exact hS
  obtain ⟨locs, hlocs⟩ : ∃ z : List Loc, z = [] := ⟨_, rfl⟩
  rw [← hlocs] at hS
  suffices hW : W p l e ({ frames := 0, cells := 0, slots := 0, locals := 0 } : Room) s m args below meth c H locs 0 0 (MQ below ((xQl D (fun (r : Int64) (_u : Unit) => r = 1) (fun (_u : Unit) => [])) A) args s 0 0 A) (F0 m 0 ls []) by rw [hlocs, hH] at hW; exact hW
  clear hH hlocs
  refine lv_lconst (v := 1) hx hb dX12_choose_0 (by decide) ?_
  refine lv_lstore_n (lv' := [(2, .long 1), (0, .int (nI 0)), (1, .int (nI 0))]) hx hb dX12_choose_1 rfl hl (by decide) rfl ?_
  clear hl
  try clear ls
  intro ls hl
  refine lv_iconst (v := nI 0) hx hb dX12_choose_2 (by decide) ?_
  refine lv_istore (lv' := [(4, .int (nI 0)), (2, .long 1), (0, .int (nI 0)), (1, .int (nI 0))]) hx hb dX12_choose_3 hl (by decide) rfl ?_
  clear hl
  try clear ls
  intro ls hl
  refine lv_iload hx hb dX12_choose_5 (lv_at hl 0 rfl) ?_
  refine lv_iload_n hx hb dX12_choose_7 rfl (lv_at hl 3 rfl) ?_
  refine lv_icmp_ge (tgt := 31) hx hb dX12_choose_8 (by decide) (fun _ => ?_) (fun c => absurd (by decide) c)
  refine lv_iload_n hx hb dX12_choose_31 rfl (lv_at hl 3 rfl) ?_
  refine lv_if_lt (tgt := 40) hx hb dX12_choose_32 (by decide) (fun c => absurd c (by decide)) (fun _ => ?_)
  refine lv_iload_n hx hb dX12_choose_35 rfl (lv_at hl 3 rfl) ?_
  refine lv_iload_n hx hb dX12_choose_36 rfl (lv_at hl 2 rfl) ?_
  refine lv_icmp_le (tgt := 44) hx hb dX12_choose_37 (by decide) (fun _ => ?_) (fun c => absurd (by decide) c)
  refine lv_lload_n hx hb dX12_choose_44 rfl (lv_at hl 1 rfl) ?_
  exact xretl C () rfl hP hD hS (Nat.le_of_ble_eq_true rfl) (Nat.le_of_ble_eq_true rfl) dX12_choose_45

set_option maxHeartbeats 4000000 in
set_option maxRecDepth 100000 in
theorem c_X12_choose_1_2 (l : Launch) (D : va_G) (cs : Nat → ClassId) (u9 : Nat) : xMet l D cs yX12_choose cX12_choose 5 (some .long) ({ frames := 0, cells := 0, slots := 0, locals := 0 } : Room) [.int (nI 1), .int (nI 2)] [] (xQl D (fun (r : Int64) (_u : Unit) => r = 0) (fun (_u : Unit) => [])) := by
  refine xMet.intro (by decide) (Nat.le_of_ble_eq_true rfl) ?_
  intro p e s m args below meth c A ls C hP hD hS hl
  have hx := C.1
  have hb := C.2.1
  have hz := C.2.2.2.2.1
  have hown := C.2.2.2.1
  have hA := C.2.2.2.2.2.2.2.2.2
  have hAO := C.2.2.2.2.2.2.2.2.1.2.2
  replace hl : lv_has ls 5 [(0, .int (nI 1)), (1, .int (nI 2))] := hl
  obtain ⟨H, hH⟩ : ∃ H, H = s.heap := ⟨_, rfl⟩
  replace hP : va_P D vwCl [] H := by rw [hH]; exact hP
  replace hS : va_S A s.heap H [] := by rw [hH]; exact hS
  obtain ⟨locs, hlocs⟩ : ∃ z : List Loc, z = [] := ⟨_, rfl⟩
  rw [← hlocs] at hS
  suffices hW : W p l e ({ frames := 0, cells := 0, slots := 0, locals := 0 } : Room) s m args below meth c H locs 0 0 (MQ below ((xQl D (fun (r : Int64) (_u : Unit) => r = 0) (fun (_u : Unit) => [])) A) args s 0 0 A) (F0 m 0 ls []) by rw [hlocs, hH] at hW; exact hW
  clear hH hlocs
  refine lv_lconst (v := 1) hx hb dX12_choose_0 (by decide) ?_
  refine lv_lstore_n (lv' := [(2, .long 1), (0, .int (nI 1)), (1, .int (nI 2))]) hx hb dX12_choose_1 rfl hl (by decide) rfl ?_
  clear hl
  try clear ls
  intro ls hl
  refine lv_iconst (v := nI 0) hx hb dX12_choose_2 (by decide) ?_
  refine lv_istore (lv' := [(4, .int (nI 0)), (2, .long 1), (0, .int (nI 1)), (1, .int (nI 2))]) hx hb dX12_choose_3 hl (by decide) rfl ?_
  clear hl
  try clear ls
  intro ls hl
  refine lv_iload hx hb dX12_choose_5 (lv_at hl 0 rfl) ?_
  refine lv_iload_n hx hb dX12_choose_7 rfl (lv_at hl 3 rfl) ?_
  refine lv_icmp_ge (tgt := 31) hx hb dX12_choose_8 (by decide) (fun c => absurd c (by decide)) (fun _ => ?_)
  refine lv_lload_n hx hb dX12_choose_11 rfl (lv_at hl 1 rfl) ?_
  refine lv_iload_n hx hb dX12_choose_12 rfl (lv_at hl 2 rfl) ?_
  refine lv_iload hx hb dX12_choose_13 (lv_at hl 0 rfl) ?_
  refine lv_isub hx hb dX12_choose_15 ?_
  refine lv_topi (nm_r (e' := nI 1) (by decide) ?_)
  refine lv_i2l hx hb dX12_choose_16 rfl ?_
  refine lv_lmul hx hb dX12_choose_17 ?_
  refine lv_iload hx hb dX12_choose_18 (lv_at hl 0 rfl) ?_
  refine lv_iconst (v := nI 1) hx hb dX12_choose_20 (by decide) ?_
  refine lv_iadd hx hb dX12_choose_21 ?_
  refine lv_topi (nm_r (e' := nI 1) (by decide) ?_)
  refine lv_i2l hx hb dX12_choose_22 rfl ?_
  refine lv_ldiv hx hb dX12_choose_23 (by decide) ?_
  refine lv_topl (nm_r (e' := 1) (by decide) ?_)
  refine lv_lstore_n (lv' := [(2, .long 1), (4, .int (nI 0)), (0, .int (nI 1)), (1, .int (nI 2))]) hx hb dX12_choose_24 rfl hl (by decide) rfl ?_
  clear hl
  try clear ls
  intro ls hl
  refine lv_iinc (v := nI 1) (lv' := [(4, .int (nI 1)), (2, .long 1), (0, .int (nI 1)), (1, .int (nI 2))]) hx hb dX12_choose_25 hl (k := 1) rfl (by decide) (by decide) rfl ?_
  clear hl
  try clear ls
  intro ls hl
  refine lv_goto (tgt := 5) hx hb dX12_choose_28 (by decide) ?_
  refine lv_iload hx hb dX12_choose_5 (lv_at hl 0 rfl) ?_
  refine lv_iload_n hx hb dX12_choose_7 rfl (lv_at hl 3 rfl) ?_
  refine lv_icmp_ge (tgt := 31) hx hb dX12_choose_8 (by decide) (fun c => absurd c (by decide)) (fun _ => ?_)
  refine lv_lload_n hx hb dX12_choose_11 rfl (lv_at hl 1 rfl) ?_
  refine lv_iload_n hx hb dX12_choose_12 rfl (lv_at hl 2 rfl) ?_
  refine lv_iload hx hb dX12_choose_13 (lv_at hl 0 rfl) ?_
  refine lv_isub hx hb dX12_choose_15 ?_
  refine lv_topi (nm_r (e' := nI 0) (by decide) ?_)
  refine lv_i2l hx hb dX12_choose_16 rfl ?_
  refine lv_lmul hx hb dX12_choose_17 ?_
  refine lv_iload hx hb dX12_choose_18 (lv_at hl 0 rfl) ?_
  refine lv_iconst (v := nI 1) hx hb dX12_choose_20 (by decide) ?_
  refine lv_iadd hx hb dX12_choose_21 ?_
  refine lv_topi (nm_r (e' := nI 2) (by decide) ?_)
  refine lv_i2l hx hb dX12_choose_22 rfl ?_
  refine lv_ldiv hx hb dX12_choose_23 (by decide) ?_
  refine lv_topl (nm_r (e' := 0) (by decide) ?_)
  refine lv_lstore_n (lv' := [(2, .long 0), (4, .int (nI 1)), (0, .int (nI 1)), (1, .int (nI 2))]) hx hb dX12_choose_24 rfl hl (by decide) rfl ?_
  clear hl
  try clear ls
  intro ls hl
  refine lv_iinc (v := nI 2) (lv' := [(4, .int (nI 2)), (2, .long 0), (0, .int (nI 1)), (1, .int (nI 2))]) hx hb dX12_choose_25 hl (k := 1) rfl (by decide) (by decide) rfl ?_
  clear hl
  try clear ls
  intro ls hl
  refine lv_goto (tgt := 5) hx hb dX12_choose_28 (by decide) ?_
  refine lv_iload hx hb dX12_choose_5 (lv_at hl 0 rfl) ?_
  refine lv_iload_n hx hb dX12_choose_7 rfl (lv_at hl 3 rfl) ?_
  refine lv_icmp_ge (tgt := 31) hx hb dX12_choose_8 (by decide) (fun _ => ?_) (fun c => absurd (by decide) c)
  refine lv_iload_n hx hb dX12_choose_31 rfl (lv_at hl 3 rfl) ?_
  refine lv_if_lt (tgt := 40) hx hb dX12_choose_32 (by decide) (fun c => absurd c (by decide)) (fun _ => ?_)
  refine lv_iload_n hx hb dX12_choose_35 rfl (lv_at hl 3 rfl) ?_
  refine lv_iload_n hx hb dX12_choose_36 rfl (lv_at hl 2 rfl) ?_
  refine lv_icmp_le (tgt := 44) hx hb dX12_choose_37 (by decide) (fun c => absurd c (by decide)) (fun _ => ?_)
  refine lv_lconst (v := 0) hx hb dX12_choose_40 (by decide) ?_
  refine lv_goto (tgt := 45) hx hb dX12_choose_41 (by decide) ?_
  exact xretl C () rfl hP hD hS (Nat.le_of_ble_eq_true rfl) (Nat.le_of_ble_eq_true rfl) dX12_choose_45

set_option maxHeartbeats 4000000 in
set_option maxRecDepth 100000 in
theorem c_X12_choose_1_0 (l : Launch) (D : va_G) (cs : Nat → ClassId) (u9 : Nat) : xMet l D cs yX12_choose cX12_choose 5 (some .long) ({ frames := 0, cells := 0, slots := 0, locals := 0 } : Room) [.int (nI 1), .int (nI 0)] [] (xQl D (fun (r : Int64) (_u : Unit) => r = 1) (fun (_u : Unit) => [])) := by
  refine xMet.intro (by decide) (Nat.le_of_ble_eq_true rfl) ?_
  intro p e s m args below meth c A ls C hP hD hS hl
  have hx := C.1
  have hb := C.2.1
  have hz := C.2.2.2.2.1
  have hown := C.2.2.2.1
  have hA := C.2.2.2.2.2.2.2.2.2
  have hAO := C.2.2.2.2.2.2.2.2.1.2.2
  replace hl : lv_has ls 5 [(0, .int (nI 1)), (1, .int (nI 0))] := hl
  obtain ⟨H, hH⟩ : ∃ H, H = s.heap := ⟨_, rfl⟩
  replace hP : va_P D vwCl [] H := by rw [hH]; exact hP
  replace hS : va_S A s.heap H [] := by rw [hH]; exact hS
  obtain ⟨locs, hlocs⟩ : ∃ z : List Loc, z = [] := ⟨_, rfl⟩
  rw [← hlocs] at hS
  suffices hW : W p l e ({ frames := 0, cells := 0, slots := 0, locals := 0 } : Room) s m args below meth c H locs 0 0 (MQ below ((xQl D (fun (r : Int64) (_u : Unit) => r = 1) (fun (_u : Unit) => [])) A) args s 0 0 A) (F0 m 0 ls []) by rw [hlocs, hH] at hW; exact hW
  clear hH hlocs
  refine lv_lconst (v := 1) hx hb dX12_choose_0 (by decide) ?_
  refine lv_lstore_n (lv' := [(2, .long 1), (0, .int (nI 1)), (1, .int (nI 0))]) hx hb dX12_choose_1 rfl hl (by decide) rfl ?_
  clear hl
  try clear ls
  intro ls hl
  refine lv_iconst (v := nI 0) hx hb dX12_choose_2 (by decide) ?_
  refine lv_istore (lv' := [(4, .int (nI 0)), (2, .long 1), (0, .int (nI 1)), (1, .int (nI 0))]) hx hb dX12_choose_3 hl (by decide) rfl ?_
  clear hl
  try clear ls
  intro ls hl
  refine lv_iload hx hb dX12_choose_5 (lv_at hl 0 rfl) ?_
  refine lv_iload_n hx hb dX12_choose_7 rfl (lv_at hl 3 rfl) ?_
  refine lv_icmp_ge (tgt := 31) hx hb dX12_choose_8 (by decide) (fun _ => ?_) (fun c => absurd (by decide) c)
  refine lv_iload_n hx hb dX12_choose_31 rfl (lv_at hl 3 rfl) ?_
  refine lv_if_lt (tgt := 40) hx hb dX12_choose_32 (by decide) (fun c => absurd c (by decide)) (fun _ => ?_)
  refine lv_iload_n hx hb dX12_choose_35 rfl (lv_at hl 3 rfl) ?_
  refine lv_iload_n hx hb dX12_choose_36 rfl (lv_at hl 2 rfl) ?_
  refine lv_icmp_le (tgt := 44) hx hb dX12_choose_37 (by decide) (fun _ => ?_) (fun c => absurd (by decide) c)
  refine lv_lload_n hx hb dX12_choose_44 rfl (lv_at hl 1 rfl) ?_
  exact xretl C () rfl hP hD hS (Nat.le_of_ble_eq_true rfl) (Nat.le_of_ble_eq_true rfl) dX12_choose_45

set_option maxHeartbeats 4000000 in
set_option maxRecDepth 100000 in
theorem c_X12_choose_2_2 (l : Launch) (D : va_G) (cs : Nat → ClassId) (u9 : Nat) : xMet l D cs yX12_choose cX12_choose 5 (some .long) ({ frames := 0, cells := 0, slots := 0, locals := 0 } : Room) [.int (nI 2), .int (nI 2)] [] (xQl D (fun (r : Int64) (_u : Unit) => r = 1) (fun (_u : Unit) => [])) := by
  refine xMet.intro (by decide) (Nat.le_of_ble_eq_true rfl) ?_
  intro p e s m args below meth c A ls C hP hD hS hl
  have hx := C.1
  have hb := C.2.1
  have hz := C.2.2.2.2.1
  have hown := C.2.2.2.1
  have hA := C.2.2.2.2.2.2.2.2.2
  have hAO := C.2.2.2.2.2.2.2.2.1.2.2
  replace hl : lv_has ls 5 [(0, .int (nI 2)), (1, .int (nI 2))] := hl
  obtain ⟨H, hH⟩ : ∃ H, H = s.heap := ⟨_, rfl⟩
  replace hP : va_P D vwCl [] H := by rw [hH]; exact hP
  replace hS : va_S A s.heap H [] := by rw [hH]; exact hS
  obtain ⟨locs, hlocs⟩ : ∃ z : List Loc, z = [] := ⟨_, rfl⟩
  rw [← hlocs] at hS
  suffices hW : W p l e ({ frames := 0, cells := 0, slots := 0, locals := 0 } : Room) s m args below meth c H locs 0 0 (MQ below ((xQl D (fun (r : Int64) (_u : Unit) => r = 1) (fun (_u : Unit) => [])) A) args s 0 0 A) (F0 m 0 ls []) by rw [hlocs, hH] at hW; exact hW
  clear hH hlocs
  refine lv_lconst (v := 1) hx hb dX12_choose_0 (by decide) ?_
  refine lv_lstore_n (lv' := [(2, .long 1), (0, .int (nI 2)), (1, .int (nI 2))]) hx hb dX12_choose_1 rfl hl (by decide) rfl ?_
  clear hl
  try clear ls
  intro ls hl
  refine lv_iconst (v := nI 0) hx hb dX12_choose_2 (by decide) ?_
  refine lv_istore (lv' := [(4, .int (nI 0)), (2, .long 1), (0, .int (nI 2)), (1, .int (nI 2))]) hx hb dX12_choose_3 hl (by decide) rfl ?_
  clear hl
  try clear ls
  intro ls hl
  refine lv_iload hx hb dX12_choose_5 (lv_at hl 0 rfl) ?_
  refine lv_iload_n hx hb dX12_choose_7 rfl (lv_at hl 3 rfl) ?_
  refine lv_icmp_ge (tgt := 31) hx hb dX12_choose_8 (by decide) (fun c => absurd c (by decide)) (fun _ => ?_)
  refine lv_lload_n hx hb dX12_choose_11 rfl (lv_at hl 1 rfl) ?_
  refine lv_iload_n hx hb dX12_choose_12 rfl (lv_at hl 2 rfl) ?_
  refine lv_iload hx hb dX12_choose_13 (lv_at hl 0 rfl) ?_
  refine lv_isub hx hb dX12_choose_15 ?_
  refine lv_topi (nm_r (e' := nI 2) (by decide) ?_)
  refine lv_i2l hx hb dX12_choose_16 rfl ?_
  refine lv_lmul hx hb dX12_choose_17 ?_
  refine lv_iload hx hb dX12_choose_18 (lv_at hl 0 rfl) ?_
  refine lv_iconst (v := nI 1) hx hb dX12_choose_20 (by decide) ?_
  refine lv_iadd hx hb dX12_choose_21 ?_
  refine lv_topi (nm_r (e' := nI 1) (by decide) ?_)
  refine lv_i2l hx hb dX12_choose_22 rfl ?_
  refine lv_ldiv hx hb dX12_choose_23 (by decide) ?_
  refine lv_topl (nm_r (e' := 2) (by decide) ?_)
  refine lv_lstore_n (lv' := [(2, .long 2), (4, .int (nI 0)), (0, .int (nI 2)), (1, .int (nI 2))]) hx hb dX12_choose_24 rfl hl (by decide) rfl ?_
  clear hl
  try clear ls
  intro ls hl
  refine lv_iinc (v := nI 1) (lv' := [(4, .int (nI 1)), (2, .long 2), (0, .int (nI 2)), (1, .int (nI 2))]) hx hb dX12_choose_25 hl (k := 1) rfl (by decide) (by decide) rfl ?_
  clear hl
  try clear ls
  intro ls hl
  refine lv_goto (tgt := 5) hx hb dX12_choose_28 (by decide) ?_
  refine lv_iload hx hb dX12_choose_5 (lv_at hl 0 rfl) ?_
  refine lv_iload_n hx hb dX12_choose_7 rfl (lv_at hl 3 rfl) ?_
  refine lv_icmp_ge (tgt := 31) hx hb dX12_choose_8 (by decide) (fun c => absurd c (by decide)) (fun _ => ?_)
  refine lv_lload_n hx hb dX12_choose_11 rfl (lv_at hl 1 rfl) ?_
  refine lv_iload_n hx hb dX12_choose_12 rfl (lv_at hl 2 rfl) ?_
  refine lv_iload hx hb dX12_choose_13 (lv_at hl 0 rfl) ?_
  refine lv_isub hx hb dX12_choose_15 ?_
  refine lv_topi (nm_r (e' := nI 1) (by decide) ?_)
  refine lv_i2l hx hb dX12_choose_16 rfl ?_
  refine lv_lmul hx hb dX12_choose_17 ?_
  refine lv_iload hx hb dX12_choose_18 (lv_at hl 0 rfl) ?_
  refine lv_iconst (v := nI 1) hx hb dX12_choose_20 (by decide) ?_
  refine lv_iadd hx hb dX12_choose_21 ?_
  refine lv_topi (nm_r (e' := nI 2) (by decide) ?_)
  refine lv_i2l hx hb dX12_choose_22 rfl ?_
  refine lv_ldiv hx hb dX12_choose_23 (by decide) ?_
  refine lv_topl (nm_r (e' := 1) (by decide) ?_)
  refine lv_lstore_n (lv' := [(2, .long 1), (4, .int (nI 1)), (0, .int (nI 2)), (1, .int (nI 2))]) hx hb dX12_choose_24 rfl hl (by decide) rfl ?_
  clear hl
  try clear ls
  intro ls hl
  refine lv_iinc (v := nI 2) (lv' := [(4, .int (nI 2)), (2, .long 1), (0, .int (nI 2)), (1, .int (nI 2))]) hx hb dX12_choose_25 hl (k := 1) rfl (by decide) (by decide) rfl ?_
  clear hl
  try clear ls
  intro ls hl
  refine lv_goto (tgt := 5) hx hb dX12_choose_28 (by decide) ?_
  refine lv_iload hx hb dX12_choose_5 (lv_at hl 0 rfl) ?_
  refine lv_iload_n hx hb dX12_choose_7 rfl (lv_at hl 3 rfl) ?_
  refine lv_icmp_ge (tgt := 31) hx hb dX12_choose_8 (by decide) (fun _ => ?_) (fun c => absurd (by decide) c)
  refine lv_iload_n hx hb dX12_choose_31 rfl (lv_at hl 3 rfl) ?_
  refine lv_if_lt (tgt := 40) hx hb dX12_choose_32 (by decide) (fun c => absurd c (by decide)) (fun _ => ?_)
  refine lv_iload_n hx hb dX12_choose_35 rfl (lv_at hl 3 rfl) ?_
  refine lv_iload_n hx hb dX12_choose_36 rfl (lv_at hl 2 rfl) ?_
  refine lv_icmp_le (tgt := 44) hx hb dX12_choose_37 (by decide) (fun _ => ?_) (fun c => absurd (by decide) c)
  refine lv_lload_n hx hb dX12_choose_44 rfl (lv_at hl 1 rfl) ?_
  exact xretl C () rfl hP hD hS (Nat.le_of_ble_eq_true rfl) (Nat.le_of_ble_eq_true rfl) dX12_choose_45

set_option maxHeartbeats 4000000 in
set_option maxRecDepth 100000 in
theorem c_X12_choose_2_0 (l : Launch) (D : va_G) (cs : Nat → ClassId) (u9 : Nat) : xMet l D cs yX12_choose cX12_choose 5 (some .long) ({ frames := 0, cells := 0, slots := 0, locals := 0 } : Room) [.int (nI 2), .int (nI 0)] [] (xQl D (fun (r : Int64) (_u : Unit) => r = 1) (fun (_u : Unit) => [])) := by
  refine xMet.intro (by decide) (Nat.le_of_ble_eq_true rfl) ?_
  intro p e s m args below meth c A ls C hP hD hS hl
  have hx := C.1
  have hb := C.2.1
  have hz := C.2.2.2.2.1
  have hown := C.2.2.2.1
  have hA := C.2.2.2.2.2.2.2.2.2
  have hAO := C.2.2.2.2.2.2.2.2.1.2.2
  replace hl : lv_has ls 5 [(0, .int (nI 2)), (1, .int (nI 0))] := hl
  obtain ⟨H, hH⟩ : ∃ H, H = s.heap := ⟨_, rfl⟩
  replace hP : va_P D vwCl [] H := by rw [hH]; exact hP
  replace hS : va_S A s.heap H [] := by rw [hH]; exact hS
  obtain ⟨locs, hlocs⟩ : ∃ z : List Loc, z = [] := ⟨_, rfl⟩
  rw [← hlocs] at hS
  suffices hW : W p l e ({ frames := 0, cells := 0, slots := 0, locals := 0 } : Room) s m args below meth c H locs 0 0 (MQ below ((xQl D (fun (r : Int64) (_u : Unit) => r = 1) (fun (_u : Unit) => [])) A) args s 0 0 A) (F0 m 0 ls []) by rw [hlocs, hH] at hW; exact hW
  clear hH hlocs
  refine lv_lconst (v := 1) hx hb dX12_choose_0 (by decide) ?_
  refine lv_lstore_n (lv' := [(2, .long 1), (0, .int (nI 2)), (1, .int (nI 0))]) hx hb dX12_choose_1 rfl hl (by decide) rfl ?_
  clear hl
  try clear ls
  intro ls hl
  refine lv_iconst (v := nI 0) hx hb dX12_choose_2 (by decide) ?_
  refine lv_istore (lv' := [(4, .int (nI 0)), (2, .long 1), (0, .int (nI 2)), (1, .int (nI 0))]) hx hb dX12_choose_3 hl (by decide) rfl ?_
  clear hl
  try clear ls
  intro ls hl
  refine lv_iload hx hb dX12_choose_5 (lv_at hl 0 rfl) ?_
  refine lv_iload_n hx hb dX12_choose_7 rfl (lv_at hl 3 rfl) ?_
  refine lv_icmp_ge (tgt := 31) hx hb dX12_choose_8 (by decide) (fun _ => ?_) (fun c => absurd (by decide) c)
  refine lv_iload_n hx hb dX12_choose_31 rfl (lv_at hl 3 rfl) ?_
  refine lv_if_lt (tgt := 40) hx hb dX12_choose_32 (by decide) (fun c => absurd c (by decide)) (fun _ => ?_)
  refine lv_iload_n hx hb dX12_choose_35 rfl (lv_at hl 3 rfl) ?_
  refine lv_iload_n hx hb dX12_choose_36 rfl (lv_at hl 2 rfl) ?_
  refine lv_icmp_le (tgt := 44) hx hb dX12_choose_37 (by decide) (fun _ => ?_) (fun c => absurd (by decide) c)
  refine lv_lload_n hx hb dX12_choose_44 rfl (lv_at hl 1 rfl) ?_
  exact xretl C () rfl hP hD hS (Nat.le_of_ble_eq_true rfl) (Nat.le_of_ble_eq_true rfl) dX12_choose_45

set_option maxHeartbeats 4000000 in
set_option maxRecDepth 100000 in
theorem c_X12_choose_3_2 (l : Launch) (D : va_G) (cs : Nat → ClassId) (u9 : Nat) : xMet l D cs yX12_choose cX12_choose 5 (some .long) ({ frames := 0, cells := 0, slots := 0, locals := 0 } : Room) [.int (nI 3), .int (nI 2)] [] (xQl D (fun (r : Int64) (_u : Unit) => r = 3) (fun (_u : Unit) => [])) := by
  refine xMet.intro (by decide) (Nat.le_of_ble_eq_true rfl) ?_
  intro p e s m args below meth c A ls C hP hD hS hl
  have hx := C.1
  have hb := C.2.1
  have hz := C.2.2.2.2.1
  have hown := C.2.2.2.1
  have hA := C.2.2.2.2.2.2.2.2.2
  have hAO := C.2.2.2.2.2.2.2.2.1.2.2
  replace hl : lv_has ls 5 [(0, .int (nI 3)), (1, .int (nI 2))] := hl
  obtain ⟨H, hH⟩ : ∃ H, H = s.heap := ⟨_, rfl⟩
  replace hP : va_P D vwCl [] H := by rw [hH]; exact hP
  replace hS : va_S A s.heap H [] := by rw [hH]; exact hS
  obtain ⟨locs, hlocs⟩ : ∃ z : List Loc, z = [] := ⟨_, rfl⟩
  rw [← hlocs] at hS
  suffices hW : W p l e ({ frames := 0, cells := 0, slots := 0, locals := 0 } : Room) s m args below meth c H locs 0 0 (MQ below ((xQl D (fun (r : Int64) (_u : Unit) => r = 3) (fun (_u : Unit) => [])) A) args s 0 0 A) (F0 m 0 ls []) by rw [hlocs, hH] at hW; exact hW
  clear hH hlocs
  refine lv_lconst (v := 1) hx hb dX12_choose_0 (by decide) ?_
  refine lv_lstore_n (lv' := [(2, .long 1), (0, .int (nI 3)), (1, .int (nI 2))]) hx hb dX12_choose_1 rfl hl (by decide) rfl ?_
  clear hl
  try clear ls
  intro ls hl
  refine lv_iconst (v := nI 0) hx hb dX12_choose_2 (by decide) ?_
  refine lv_istore (lv' := [(4, .int (nI 0)), (2, .long 1), (0, .int (nI 3)), (1, .int (nI 2))]) hx hb dX12_choose_3 hl (by decide) rfl ?_
  clear hl
  try clear ls
  intro ls hl
  refine lv_iload hx hb dX12_choose_5 (lv_at hl 0 rfl) ?_
  refine lv_iload_n hx hb dX12_choose_7 rfl (lv_at hl 3 rfl) ?_
  refine lv_icmp_ge (tgt := 31) hx hb dX12_choose_8 (by decide) (fun c => absurd c (by decide)) (fun _ => ?_)
  refine lv_lload_n hx hb dX12_choose_11 rfl (lv_at hl 1 rfl) ?_
  refine lv_iload_n hx hb dX12_choose_12 rfl (lv_at hl 2 rfl) ?_
  refine lv_iload hx hb dX12_choose_13 (lv_at hl 0 rfl) ?_
  refine lv_isub hx hb dX12_choose_15 ?_
  refine lv_topi (nm_r (e' := nI 3) (by decide) ?_)
  refine lv_i2l hx hb dX12_choose_16 rfl ?_
  refine lv_lmul hx hb dX12_choose_17 ?_
  refine lv_iload hx hb dX12_choose_18 (lv_at hl 0 rfl) ?_
  refine lv_iconst (v := nI 1) hx hb dX12_choose_20 (by decide) ?_
  refine lv_iadd hx hb dX12_choose_21 ?_
  refine lv_topi (nm_r (e' := nI 1) (by decide) ?_)
  refine lv_i2l hx hb dX12_choose_22 rfl ?_
  refine lv_ldiv hx hb dX12_choose_23 (by decide) ?_
  refine lv_topl (nm_r (e' := 3) (by decide) ?_)
  refine lv_lstore_n (lv' := [(2, .long 3), (4, .int (nI 0)), (0, .int (nI 3)), (1, .int (nI 2))]) hx hb dX12_choose_24 rfl hl (by decide) rfl ?_
  clear hl
  try clear ls
  intro ls hl
  refine lv_iinc (v := nI 1) (lv' := [(4, .int (nI 1)), (2, .long 3), (0, .int (nI 3)), (1, .int (nI 2))]) hx hb dX12_choose_25 hl (k := 1) rfl (by decide) (by decide) rfl ?_
  clear hl
  try clear ls
  intro ls hl
  refine lv_goto (tgt := 5) hx hb dX12_choose_28 (by decide) ?_
  refine lv_iload hx hb dX12_choose_5 (lv_at hl 0 rfl) ?_
  refine lv_iload_n hx hb dX12_choose_7 rfl (lv_at hl 3 rfl) ?_
  refine lv_icmp_ge (tgt := 31) hx hb dX12_choose_8 (by decide) (fun c => absurd c (by decide)) (fun _ => ?_)
  refine lv_lload_n hx hb dX12_choose_11 rfl (lv_at hl 1 rfl) ?_
  refine lv_iload_n hx hb dX12_choose_12 rfl (lv_at hl 2 rfl) ?_
  refine lv_iload hx hb dX12_choose_13 (lv_at hl 0 rfl) ?_
  refine lv_isub hx hb dX12_choose_15 ?_
  refine lv_topi (nm_r (e' := nI 2) (by decide) ?_)
  refine lv_i2l hx hb dX12_choose_16 rfl ?_
  refine lv_lmul hx hb dX12_choose_17 ?_
  refine lv_iload hx hb dX12_choose_18 (lv_at hl 0 rfl) ?_
  refine lv_iconst (v := nI 1) hx hb dX12_choose_20 (by decide) ?_
  refine lv_iadd hx hb dX12_choose_21 ?_
  refine lv_topi (nm_r (e' := nI 2) (by decide) ?_)
  refine lv_i2l hx hb dX12_choose_22 rfl ?_
  refine lv_ldiv hx hb dX12_choose_23 (by decide) ?_
  refine lv_topl (nm_r (e' := 3) (by decide) ?_)
  refine lv_lstore_n (lv' := [(2, .long 3), (4, .int (nI 1)), (0, .int (nI 3)), (1, .int (nI 2))]) hx hb dX12_choose_24 rfl hl (by decide) rfl ?_
  clear hl
  try clear ls
  intro ls hl
  refine lv_iinc (v := nI 2) (lv' := [(4, .int (nI 2)), (2, .long 3), (0, .int (nI 3)), (1, .int (nI 2))]) hx hb dX12_choose_25 hl (k := 1) rfl (by decide) (by decide) rfl ?_
  clear hl
  try clear ls
  intro ls hl
  refine lv_goto (tgt := 5) hx hb dX12_choose_28 (by decide) ?_
  refine lv_iload hx hb dX12_choose_5 (lv_at hl 0 rfl) ?_
  refine lv_iload_n hx hb dX12_choose_7 rfl (lv_at hl 3 rfl) ?_
  refine lv_icmp_ge (tgt := 31) hx hb dX12_choose_8 (by decide) (fun _ => ?_) (fun c => absurd (by decide) c)
  refine lv_iload_n hx hb dX12_choose_31 rfl (lv_at hl 3 rfl) ?_
  refine lv_if_lt (tgt := 40) hx hb dX12_choose_32 (by decide) (fun c => absurd c (by decide)) (fun _ => ?_)
  refine lv_iload_n hx hb dX12_choose_35 rfl (lv_at hl 3 rfl) ?_
  refine lv_iload_n hx hb dX12_choose_36 rfl (lv_at hl 2 rfl) ?_
  refine lv_icmp_le (tgt := 44) hx hb dX12_choose_37 (by decide) (fun _ => ?_) (fun c => absurd (by decide) c)
  refine lv_lload_n hx hb dX12_choose_44 rfl (lv_at hl 1 rfl) ?_
  exact xretl C () rfl hP hD hS (Nat.le_of_ble_eq_true rfl) (Nat.le_of_ble_eq_true rfl) dX12_choose_45

set_option maxHeartbeats 4000000 in
set_option maxRecDepth 100000 in
theorem c_X12_choose_3_0 (l : Launch) (D : va_G) (cs : Nat → ClassId) (u9 : Nat) : xMet l D cs yX12_choose cX12_choose 5 (some .long) ({ frames := 0, cells := 0, slots := 0, locals := 0 } : Room) [.int (nI 3), .int (nI 0)] [] (xQl D (fun (r : Int64) (_u : Unit) => r = 1) (fun (_u : Unit) => [])) := by
  refine xMet.intro (by decide) (Nat.le_of_ble_eq_true rfl) ?_
  intro p e s m args below meth c A ls C hP hD hS hl
  have hx := C.1
  have hb := C.2.1
  have hz := C.2.2.2.2.1
  have hown := C.2.2.2.1
  have hA := C.2.2.2.2.2.2.2.2.2
  have hAO := C.2.2.2.2.2.2.2.2.1.2.2
  replace hl : lv_has ls 5 [(0, .int (nI 3)), (1, .int (nI 0))] := hl
  obtain ⟨H, hH⟩ : ∃ H, H = s.heap := ⟨_, rfl⟩
  replace hP : va_P D vwCl [] H := by rw [hH]; exact hP
  replace hS : va_S A s.heap H [] := by rw [hH]; exact hS
  obtain ⟨locs, hlocs⟩ : ∃ z : List Loc, z = [] := ⟨_, rfl⟩
  rw [← hlocs] at hS
  suffices hW : W p l e ({ frames := 0, cells := 0, slots := 0, locals := 0 } : Room) s m args below meth c H locs 0 0 (MQ below ((xQl D (fun (r : Int64) (_u : Unit) => r = 1) (fun (_u : Unit) => [])) A) args s 0 0 A) (F0 m 0 ls []) by rw [hlocs, hH] at hW; exact hW
  clear hH hlocs
  refine lv_lconst (v := 1) hx hb dX12_choose_0 (by decide) ?_
  refine lv_lstore_n (lv' := [(2, .long 1), (0, .int (nI 3)), (1, .int (nI 0))]) hx hb dX12_choose_1 rfl hl (by decide) rfl ?_
  clear hl
  try clear ls
  intro ls hl
  refine lv_iconst (v := nI 0) hx hb dX12_choose_2 (by decide) ?_
  refine lv_istore (lv' := [(4, .int (nI 0)), (2, .long 1), (0, .int (nI 3)), (1, .int (nI 0))]) hx hb dX12_choose_3 hl (by decide) rfl ?_
  clear hl
  try clear ls
  intro ls hl
  refine lv_iload hx hb dX12_choose_5 (lv_at hl 0 rfl) ?_
  refine lv_iload_n hx hb dX12_choose_7 rfl (lv_at hl 3 rfl) ?_
  refine lv_icmp_ge (tgt := 31) hx hb dX12_choose_8 (by decide) (fun _ => ?_) (fun c => absurd (by decide) c)
  refine lv_iload_n hx hb dX12_choose_31 rfl (lv_at hl 3 rfl) ?_
  refine lv_if_lt (tgt := 40) hx hb dX12_choose_32 (by decide) (fun c => absurd c (by decide)) (fun _ => ?_)
  refine lv_iload_n hx hb dX12_choose_35 rfl (lv_at hl 3 rfl) ?_
  refine lv_iload_n hx hb dX12_choose_36 rfl (lv_at hl 2 rfl) ?_
  refine lv_icmp_le (tgt := 44) hx hb dX12_choose_37 (by decide) (fun _ => ?_) (fun c => absurd (by decide) c)
  refine lv_lload_n hx hb dX12_choose_44 rfl (lv_at hl 1 rfl) ?_
  exact xretl C () rfl hP hD hS (Nat.le_of_ble_eq_true rfl) (Nat.le_of_ble_eq_true rfl) dX12_choose_45

set_option maxHeartbeats 4000000 in
set_option maxRecDepth 100000 in
theorem c_X12_enough_0 (l : Launch) (D : va_G) (cs : Nat → ClassId) (hm ms mkp mtr mas mso mon mot man mst msm mtb mti mfr mbn mbs mde maa mab mba mbb : Nat) (ab be : Int64) : xMet l D cs yX12_enough cX12_enough 5 (some .long) ({ frames := 1, cells := 0, slots := 0, locals := 24 } : Room) [.ref hm, .int (nI 0)] [(hm, .inr (12, [.ref ms, .ref mkp, .int (nI 0), .ref mtr, .int (nI 4), .int (nI 2), .int (nI 2), .int (nI 3), .int (nI 2), .int (nI 1), .ref mas, .int (nI 0), .int (nI 0), .int (nI 0), .ref mso, .ref mon, .ref mot, .ref man, .int (nI 0), .int (nI 0), .ref mst, .ref msm, .ref mtb, .ref mti, .ref mfr, .ref mbn, .ref mbs, .ref mde, .int (nI 0), .int (nI 0), .int (nI 0), .int (nI 0), .long ab, .long be, .ref maa, .ref mab, .ref mba, .ref mbb]))] (xQl D (fun (r : Int64) (_u : Unit) => r = 0) (fun (_u : Unit) => [(hm, .inr (12, [.ref ms, .ref mkp, .int (nI 0), .ref mtr, .int (nI 4), .int (nI 2), .int (nI 2), .int (nI 3), .int (nI 2), .int (nI 1), .ref mas, .int (nI 0), .int (nI 0), .int (nI 0), .ref mso, .ref mon, .ref mot, .ref man, .int (nI 0), .int (nI 0), .ref mst, .ref msm, .ref mtb, .ref mti, .ref mfr, .ref mbn, .ref mbs, .ref mde, .int (nI 0), .int (nI 0), .int (nI 0), .int (nI 0), .long ab, .long be, .ref maa, .ref mab, .ref mba, .ref mbb]))])) := by
  refine xMet.intro (by decide) (Nat.le_of_ble_eq_true rfl) ?_
  intro p e s m args below meth c A ls C hP hD hS hl
  have hx := C.1
  have hb := C.2.1
  have hz := C.2.2.2.2.1
  have hown := C.2.2.2.1
  have hA := C.2.2.2.2.2.2.2.2.2
  have hAO := C.2.2.2.2.2.2.2.2.1.2.2
  replace hl : lv_has ls 5 [(0, .ref hm), (1, .int (nI 0))] := hl
  obtain ⟨H, hH⟩ : ∃ H, H = s.heap := ⟨_, rfl⟩
  replace hP : va_P D vwCl [(hm, .inr (12, [.ref ms, .ref mkp, .int (nI 0), .ref mtr, .int (nI 4), .int (nI 2), .int (nI 2), .int (nI 3), .int (nI 2), .int (nI 1), .ref mas, .int (nI 0), .int (nI 0), .int (nI 0), .ref mso, .ref mon, .ref mot, .ref man, .int (nI 0), .int (nI 0), .ref mst, .ref msm, .ref mtb, .ref mti, .ref mfr, .ref mbn, .ref mbs, .ref mde, .int (nI 0), .int (nI 0), .int (nI 0), .int (nI 0), .long ab, .long be, .ref maa, .ref mab, .ref mba, .ref mbb]))] H := by rw [hH]; exact hP
  replace hS : va_S A s.heap H [] := by rw [hH]; exact hS
  obtain ⟨locs, hlocs⟩ : ∃ z : List Loc, z = [] := ⟨_, rfl⟩
  rw [← hlocs] at hS
  suffices hW : W p l e ({ frames := 1, cells := 0, slots := 0, locals := 24 } : Room) s m args below meth c H locs 0 0 (MQ below ((xQl D (fun (r : Int64) (_u : Unit) => r = 0) (fun (_u : Unit) => [(hm, .inr (12, [.ref ms, .ref mkp, .int (nI 0), .ref mtr, .int (nI 4), .int (nI 2), .int (nI 2), .int (nI 3), .int (nI 2), .int (nI 1), .ref mas, .int (nI 0), .int (nI 0), .int (nI 0), .ref mso, .ref mon, .ref mot, .ref man, .int (nI 0), .int (nI 0), .ref mst, .ref msm, .ref mtb, .ref mti, .ref mfr, .ref mbn, .ref mbs, .ref mde, .int (nI 0), .int (nI 0), .int (nI 0), .int (nI 0), .long ab, .long be, .ref maa, .ref mab, .ref mba, .ref mbb]))])) A) args s 0 0 A) (F0 m 0 ls []) by rw [hlocs, hH] at hW; exact hW
  clear hH hlocs
  refine lv_lconst (v := 0) hx hb dX12_enough_0 (by decide) ?_
  refine lv_lstore_n (lv' := [(2, .long 0), (0, .ref hm), (1, .int (nI 0))]) hx hb dX12_enough_1 rfl hl (by decide) rfl ?_
  clear hl
  try clear ls
  intro ls hl
  refine lv_aload_n hx hb dX12_enough_2 rfl (lv_at hl 1 rfl) ?_
  refine xget C hP 0 rfl rfl zuX12 6 (by decide) zw5_219 rfl dX12_enough_3 ?_
  refine lv_istore (lv' := [(4, .int (nI 2)), (2, .long 0), (0, .ref hm), (1, .int (nI 0))]) hx hb dX12_enough_6 hl (by decide) rfl ?_
  clear hl
  try clear ls
  intro ls hl
  refine lv_iload hx hb dX12_enough_8 (lv_at hl 0 rfl) ?_
  refine lv_aload_n hx hb dX12_enough_10 rfl (lv_at hl 2 rfl) ?_
  refine xget C hP 0 rfl rfl zuX12 5 (by decide) zw5_218 rfl dX12_enough_11 ?_
  refine lv_icmp_gt (tgt := 51) hx hb dX12_enough_14 (by decide) (fun c => absurd c (by decide)) (fun _ => ?_)
  refine lv_lload_n hx hb dX12_enough_17 rfl (lv_at hl 1 rfl) ?_
  refine lv_iload_n hx hb dX12_enough_18 rfl (lv_at hl 3 rfl) ?_
  refine lv_iload hx hb dX12_enough_19 (lv_at hl 0 rfl) ?_
  refine xl (wr := [(hm, .inr (12, [.ref ms, .ref mkp, .int (nI 0), .ref mtr, .int (nI 4), .int (nI 2), .int (nI 2), .int (nI 3), .int (nI 2), .int (nI 1), .ref mas, .int (nI 0), .int (nI 0), .int (nI 0), .ref mso, .ref mon, .ref mot, .ref man, .int (nI 0), .int (nI 0), .ref mst, .ref msm, .ref mtb, .ref mti, .ref mfr, .ref mbn, .ref mbs, .ref mde, .int (nI 0), .int (nI 0), .int (nI 0), .int (nI 0), .long ab, .long be, .ref maa, .ref mab, .ref mba, .ref mbb]))]) (xS (As := [.int (nI 0), .int (nI 2)]) (rest := [.long 0]) C (c_X12_choose_0_2 l D cs 0) kX12_176 hP hD [] rfl (by decide +kernel) ⟨Nat.le_of_ble_eq_true rfl, Nat.le_of_ble_eq_true rfl⟩ rfl hl.1 rfl (Nat.le_of_ble_eq_true rfl) dX12_enough_21 ⟨Nat.le_of_ble_eq_true rfl, Nat.le_of_ble_eq_true rfl⟩) hP hD hS hA [] [0] rfl rfl (by decide +kernel) (by decide +kernel) ?_
  clear hP hD hS
  try clear locs
  try clear H
  intro r_1 u_2 H locs hw_r_1 hP hD hS
  have hw_r_1 : r_1 = 0 := hw_r_1
  refine W.widen (k := 0) (n := 0) (Nat.le_of_ble_eq_true rfl) (Nat.le_of_ble_eq_true rfl) ?_
  replace hP : va_P D vwCl [(hm, .inr (12, [.ref ms, .ref mkp, .int (nI 0), .ref mtr, .int (nI 4), .int (nI 2), .int (nI 2), .int (nI 3), .int (nI 2), .int (nI 1), .ref mas, .int (nI 0), .int (nI 0), .int (nI 0), .ref mso, .ref mon, .ref mot, .ref man, .int (nI 0), .int (nI 0), .ref mst, .ref msm, .ref mtb, .ref mti, .ref mfr, .ref mbn, .ref mbs, .ref mde, .int (nI 0), .int (nI 0), .int (nI 0), .int (nI 0), .long ab, .long be, .ref maa, .ref mab, .ref mba, .ref mbb]))] H := hP
  replace hD : va_D A [(hm, .inr (12, [.ref ms, .ref mkp, .int (nI 0), .ref mtr, .int (nI 4), .int (nI 2), .int (nI 2), .int (nI 3), .int (nI 2), .int (nI 1), .ref mas, .int (nI 0), .int (nI 0), .int (nI 0), .ref mso, .ref mon, .ref mot, .ref man, .int (nI 0), .int (nI 0), .ref mst, .ref msm, .ref mtb, .ref mti, .ref mfr, .ref mbn, .ref mbs, .ref mde, .int (nI 0), .int (nI 0), .int (nI 0), .int (nI 0), .long ab, .long be, .ref maa, .ref mab, .ref mba, .ref mbb]))] := hD
  subst hw_r_1
  refine lv_aload_n hx hb dX12_enough_24 rfl (lv_at hl 2 rfl) ?_
  refine xget C hP 0 rfl rfl zuX12 4 (by decide) zw5_217 rfl dX12_enough_25 ?_
  refine lv_iconst (v := nI 1) hx hb dX12_enough_28 (by decide) ?_
  refine lv_isub hx hb dX12_enough_29 ?_
  refine lv_topi (nm_r (e' := nI 3) (by decide) ?_)
  refine lv_iload_n hx hb dX12_enough_30 rfl (lv_at hl 3 rfl) ?_
  refine lv_isub hx hb dX12_enough_31 ?_
  refine lv_topi (nm_r (e' := nI 3) (by decide) ?_)
  refine lv_aload_n hx hb dX12_enough_32 rfl (lv_at hl 2 rfl) ?_
  refine xget C hP 0 rfl rfl zuX12 5 (by decide) zw5_218 rfl dX12_enough_33 ?_
  refine lv_iload hx hb dX12_enough_36 (lv_at hl 0 rfl) ?_
  refine lv_isub hx hb dX12_enough_38 ?_
  refine lv_topi (nm_r (e' := nI 0) (by decide) ?_)
  refine xl (wr := [(hm, .inr (12, [.ref ms, .ref mkp, .int (nI 0), .ref mtr, .int (nI 4), .int (nI 2), .int (nI 2), .int (nI 3), .int (nI 2), .int (nI 1), .ref mas, .int (nI 0), .int (nI 0), .int (nI 0), .ref mso, .ref mon, .ref mot, .ref man, .int (nI 0), .int (nI 0), .ref mst, .ref msm, .ref mtb, .ref mti, .ref mfr, .ref mbn, .ref mbs, .ref mde, .int (nI 0), .int (nI 0), .int (nI 0), .int (nI 0), .long ab, .long be, .ref maa, .ref mab, .ref mba, .ref mbb]))]) (xS (As := [.int (nI 3), .int (nI 0)]) (rest := [.long 0, .long 0]) C (c_X12_choose_3_0 l D cs 0) kX12_176 hP hD [] rfl (by decide +kernel) ⟨Nat.le_of_ble_eq_true rfl, Nat.le_of_ble_eq_true rfl⟩ rfl hl.1 rfl (Nat.le_of_ble_eq_true rfl) dX12_enough_39 ⟨Nat.le_of_ble_eq_true rfl, Nat.le_of_ble_eq_true rfl⟩) hP hD hS hA [] [0] rfl rfl (by decide +kernel) (by decide +kernel) ?_
  clear hP hD hS
  try clear locs
  try clear H
  intro r_3 u_4 H locs hw_r_3 hP hD hS
  have hw_r_3 : r_3 = 1 := hw_r_3
  refine W.widen (k := 0) (n := 0) (Nat.le_of_ble_eq_true rfl) (Nat.le_of_ble_eq_true rfl) ?_
  replace hP : va_P D vwCl [(hm, .inr (12, [.ref ms, .ref mkp, .int (nI 0), .ref mtr, .int (nI 4), .int (nI 2), .int (nI 2), .int (nI 3), .int (nI 2), .int (nI 1), .ref mas, .int (nI 0), .int (nI 0), .int (nI 0), .ref mso, .ref mon, .ref mot, .ref man, .int (nI 0), .int (nI 0), .ref mst, .ref msm, .ref mtb, .ref mti, .ref mfr, .ref mbn, .ref mbs, .ref mde, .int (nI 0), .int (nI 0), .int (nI 0), .int (nI 0), .long ab, .long be, .ref maa, .ref mab, .ref mba, .ref mbb]))] H := hP
  replace hD : va_D A [(hm, .inr (12, [.ref ms, .ref mkp, .int (nI 0), .ref mtr, .int (nI 4), .int (nI 2), .int (nI 2), .int (nI 3), .int (nI 2), .int (nI 1), .ref mas, .int (nI 0), .int (nI 0), .int (nI 0), .ref mso, .ref mon, .ref mot, .ref man, .int (nI 0), .int (nI 0), .ref mst, .ref msm, .ref mtb, .ref mti, .ref mfr, .ref mbn, .ref mbs, .ref mde, .int (nI 0), .int (nI 0), .int (nI 0), .int (nI 0), .long ab, .long be, .ref maa, .ref mab, .ref mba, .ref mbb]))] := hD
  subst hw_r_3
  refine lv_lmul hx hb dX12_enough_42 ?_
  refine lv_topl (nm_r (e' := 0) (by decide) ?_)
  refine lv_ladd hx hb dX12_enough_43 ?_
  refine lv_topl (nm_r (e' := 0) (by decide) ?_)
  refine lv_lstore_n (lv' := [(2, .long 0), (4, .int (nI 2)), (0, .ref hm), (1, .int (nI 0))]) hx hb dX12_enough_44 rfl hl (by decide) rfl ?_
  clear hl
  try clear ls
  intro ls hl
  refine lv_iinc (v := nI 3) (lv' := [(4, .int (nI 3)), (2, .long 0), (0, .ref hm), (1, .int (nI 0))]) hx hb dX12_enough_45 hl (k := 1) rfl (by decide) (by decide) rfl ?_
  clear hl
  try clear ls
  intro ls hl
  refine lv_goto (tgt := 8) hx hb dX12_enough_48 (by decide) ?_
  refine lv_iload hx hb dX12_enough_8 (lv_at hl 0 rfl) ?_
  refine lv_aload_n hx hb dX12_enough_10 rfl (lv_at hl 2 rfl) ?_
  refine xget C hP 0 rfl rfl zuX12 5 (by decide) zw5_218 rfl dX12_enough_11 ?_
  refine lv_icmp_gt (tgt := 51) hx hb dX12_enough_14 (by decide) (fun _ => ?_) (fun c => absurd (by decide) c)
  refine lv_lload_n hx hb dX12_enough_51 rfl (lv_at hl 1 rfl) ?_
  exact xretl C () rfl hP hD hS (Nat.le_of_ble_eq_true rfl) (Nat.le_of_ble_eq_true rfl) dX12_enough_52

set_option maxHeartbeats 4000000 in
set_option maxRecDepth 100000 in
theorem c_X12_enough_1 (l : Launch) (D : va_G) (cs : Nat → ClassId) (hm ms mkp mtr mas mso mon mot man mst msm mtb mti mfr mbn mbs mde maa mab mba mbb : Nat) (ab be : Int64) : xMet l D cs yX12_enough cX12_enough 5 (some .long) ({ frames := 1, cells := 0, slots := 0, locals := 24 } : Room) [.ref hm, .int (nI 1)] [(hm, .inr (12, [.ref ms, .ref mkp, .int (nI 0), .ref mtr, .int (nI 4), .int (nI 2), .int (nI 2), .int (nI 3), .int (nI 2), .int (nI 1), .ref mas, .int (nI 0), .int (nI 0), .int (nI 0), .ref mso, .ref mon, .ref mot, .ref man, .int (nI 0), .int (nI 0), .ref mst, .ref msm, .ref mtb, .ref mti, .ref mfr, .ref mbn, .ref mbs, .ref mde, .int (nI 0), .int (nI 0), .int (nI 0), .int (nI 0), .long ab, .long be, .ref maa, .ref mab, .ref mba, .ref mbb]))] (xQl D (fun (r : Int64) (_u : Unit) => r = 0) (fun (_u : Unit) => [(hm, .inr (12, [.ref ms, .ref mkp, .int (nI 0), .ref mtr, .int (nI 4), .int (nI 2), .int (nI 2), .int (nI 3), .int (nI 2), .int (nI 1), .ref mas, .int (nI 0), .int (nI 0), .int (nI 0), .ref mso, .ref mon, .ref mot, .ref man, .int (nI 0), .int (nI 0), .ref mst, .ref msm, .ref mtb, .ref mti, .ref mfr, .ref mbn, .ref mbs, .ref mde, .int (nI 0), .int (nI 0), .int (nI 0), .int (nI 0), .long ab, .long be, .ref maa, .ref mab, .ref mba, .ref mbb]))])) := by
  refine xMet.intro (by decide) (Nat.le_of_ble_eq_true rfl) ?_
  intro p e s m args below meth c A ls C hP hD hS hl
  have hx := C.1
  have hb := C.2.1
  have hz := C.2.2.2.2.1
  have hown := C.2.2.2.1
  have hA := C.2.2.2.2.2.2.2.2.2
  have hAO := C.2.2.2.2.2.2.2.2.1.2.2
  replace hl : lv_has ls 5 [(0, .ref hm), (1, .int (nI 1))] := hl
  obtain ⟨H, hH⟩ : ∃ H, H = s.heap := ⟨_, rfl⟩
  replace hP : va_P D vwCl [(hm, .inr (12, [.ref ms, .ref mkp, .int (nI 0), .ref mtr, .int (nI 4), .int (nI 2), .int (nI 2), .int (nI 3), .int (nI 2), .int (nI 1), .ref mas, .int (nI 0), .int (nI 0), .int (nI 0), .ref mso, .ref mon, .ref mot, .ref man, .int (nI 0), .int (nI 0), .ref mst, .ref msm, .ref mtb, .ref mti, .ref mfr, .ref mbn, .ref mbs, .ref mde, .int (nI 0), .int (nI 0), .int (nI 0), .int (nI 0), .long ab, .long be, .ref maa, .ref mab, .ref mba, .ref mbb]))] H := by rw [hH]; exact hP
  replace hS : va_S A s.heap H [] := by rw [hH]; exact hS
  obtain ⟨locs, hlocs⟩ : ∃ z : List Loc, z = [] := ⟨_, rfl⟩
  rw [← hlocs] at hS
  suffices hW : W p l e ({ frames := 1, cells := 0, slots := 0, locals := 24 } : Room) s m args below meth c H locs 0 0 (MQ below ((xQl D (fun (r : Int64) (_u : Unit) => r = 0) (fun (_u : Unit) => [(hm, .inr (12, [.ref ms, .ref mkp, .int (nI 0), .ref mtr, .int (nI 4), .int (nI 2), .int (nI 2), .int (nI 3), .int (nI 2), .int (nI 1), .ref mas, .int (nI 0), .int (nI 0), .int (nI 0), .ref mso, .ref mon, .ref mot, .ref man, .int (nI 0), .int (nI 0), .ref mst, .ref msm, .ref mtb, .ref mti, .ref mfr, .ref mbn, .ref mbs, .ref mde, .int (nI 0), .int (nI 0), .int (nI 0), .int (nI 0), .long ab, .long be, .ref maa, .ref mab, .ref mba, .ref mbb]))])) A) args s 0 0 A) (F0 m 0 ls []) by rw [hlocs, hH] at hW; exact hW
  clear hH hlocs
  refine lv_lconst (v := 0) hx hb dX12_enough_0 (by decide) ?_
  refine lv_lstore_n (lv' := [(2, .long 0), (0, .ref hm), (1, .int (nI 1))]) hx hb dX12_enough_1 rfl hl (by decide) rfl ?_
  clear hl
  try clear ls
  intro ls hl
  refine lv_aload_n hx hb dX12_enough_2 rfl (lv_at hl 1 rfl) ?_
  refine xget C hP 0 rfl rfl zuX12 6 (by decide) zw5_219 rfl dX12_enough_3 ?_
  refine lv_istore (lv' := [(4, .int (nI 2)), (2, .long 0), (0, .ref hm), (1, .int (nI 1))]) hx hb dX12_enough_6 hl (by decide) rfl ?_
  clear hl
  try clear ls
  intro ls hl
  refine lv_iload hx hb dX12_enough_8 (lv_at hl 0 rfl) ?_
  refine lv_aload_n hx hb dX12_enough_10 rfl (lv_at hl 2 rfl) ?_
  refine xget C hP 0 rfl rfl zuX12 5 (by decide) zw5_218 rfl dX12_enough_11 ?_
  refine lv_icmp_gt (tgt := 51) hx hb dX12_enough_14 (by decide) (fun c => absurd c (by decide)) (fun _ => ?_)
  refine lv_lload_n hx hb dX12_enough_17 rfl (lv_at hl 1 rfl) ?_
  refine lv_iload_n hx hb dX12_enough_18 rfl (lv_at hl 3 rfl) ?_
  refine lv_iload hx hb dX12_enough_19 (lv_at hl 0 rfl) ?_
  refine xl (wr := [(hm, .inr (12, [.ref ms, .ref mkp, .int (nI 0), .ref mtr, .int (nI 4), .int (nI 2), .int (nI 2), .int (nI 3), .int (nI 2), .int (nI 1), .ref mas, .int (nI 0), .int (nI 0), .int (nI 0), .ref mso, .ref mon, .ref mot, .ref man, .int (nI 0), .int (nI 0), .ref mst, .ref msm, .ref mtb, .ref mti, .ref mfr, .ref mbn, .ref mbs, .ref mde, .int (nI 0), .int (nI 0), .int (nI 0), .int (nI 0), .long ab, .long be, .ref maa, .ref mab, .ref mba, .ref mbb]))]) (xS (As := [.int (nI 1), .int (nI 2)]) (rest := [.long 0]) C (c_X12_choose_1_2 l D cs 0) kX12_176 hP hD [] rfl (by decide +kernel) ⟨Nat.le_of_ble_eq_true rfl, Nat.le_of_ble_eq_true rfl⟩ rfl hl.1 rfl (Nat.le_of_ble_eq_true rfl) dX12_enough_21 ⟨Nat.le_of_ble_eq_true rfl, Nat.le_of_ble_eq_true rfl⟩) hP hD hS hA [] [0] rfl rfl (by decide +kernel) (by decide +kernel) ?_
  clear hP hD hS
  try clear locs
  try clear H
  intro r_1 u_2 H locs hw_r_1 hP hD hS
  have hw_r_1 : r_1 = 0 := hw_r_1
  refine W.widen (k := 0) (n := 0) (Nat.le_of_ble_eq_true rfl) (Nat.le_of_ble_eq_true rfl) ?_
  replace hP : va_P D vwCl [(hm, .inr (12, [.ref ms, .ref mkp, .int (nI 0), .ref mtr, .int (nI 4), .int (nI 2), .int (nI 2), .int (nI 3), .int (nI 2), .int (nI 1), .ref mas, .int (nI 0), .int (nI 0), .int (nI 0), .ref mso, .ref mon, .ref mot, .ref man, .int (nI 0), .int (nI 0), .ref mst, .ref msm, .ref mtb, .ref mti, .ref mfr, .ref mbn, .ref mbs, .ref mde, .int (nI 0), .int (nI 0), .int (nI 0), .int (nI 0), .long ab, .long be, .ref maa, .ref mab, .ref mba, .ref mbb]))] H := hP
  replace hD : va_D A [(hm, .inr (12, [.ref ms, .ref mkp, .int (nI 0), .ref mtr, .int (nI 4), .int (nI 2), .int (nI 2), .int (nI 3), .int (nI 2), .int (nI 1), .ref mas, .int (nI 0), .int (nI 0), .int (nI 0), .ref mso, .ref mon, .ref mot, .ref man, .int (nI 0), .int (nI 0), .ref mst, .ref msm, .ref mtb, .ref mti, .ref mfr, .ref mbn, .ref mbs, .ref mde, .int (nI 0), .int (nI 0), .int (nI 0), .int (nI 0), .long ab, .long be, .ref maa, .ref mab, .ref mba, .ref mbb]))] := hD
  subst hw_r_1
  refine lv_aload_n hx hb dX12_enough_24 rfl (lv_at hl 2 rfl) ?_
  refine xget C hP 0 rfl rfl zuX12 4 (by decide) zw5_217 rfl dX12_enough_25 ?_
  refine lv_iconst (v := nI 1) hx hb dX12_enough_28 (by decide) ?_
  refine lv_isub hx hb dX12_enough_29 ?_
  refine lv_topi (nm_r (e' := nI 3) (by decide) ?_)
  refine lv_iload_n hx hb dX12_enough_30 rfl (lv_at hl 3 rfl) ?_
  refine lv_isub hx hb dX12_enough_31 ?_
  refine lv_topi (nm_r (e' := nI 2) (by decide) ?_)
  refine lv_aload_n hx hb dX12_enough_32 rfl (lv_at hl 2 rfl) ?_
  refine xget C hP 0 rfl rfl zuX12 5 (by decide) zw5_218 rfl dX12_enough_33 ?_
  refine lv_iload hx hb dX12_enough_36 (lv_at hl 0 rfl) ?_
  refine lv_isub hx hb dX12_enough_38 ?_
  refine lv_topi (nm_r (e' := nI 0) (by decide) ?_)
  refine xl (wr := [(hm, .inr (12, [.ref ms, .ref mkp, .int (nI 0), .ref mtr, .int (nI 4), .int (nI 2), .int (nI 2), .int (nI 3), .int (nI 2), .int (nI 1), .ref mas, .int (nI 0), .int (nI 0), .int (nI 0), .ref mso, .ref mon, .ref mot, .ref man, .int (nI 0), .int (nI 0), .ref mst, .ref msm, .ref mtb, .ref mti, .ref mfr, .ref mbn, .ref mbs, .ref mde, .int (nI 0), .int (nI 0), .int (nI 0), .int (nI 0), .long ab, .long be, .ref maa, .ref mab, .ref mba, .ref mbb]))]) (xS (As := [.int (nI 2), .int (nI 0)]) (rest := [.long 0, .long 0]) C (c_X12_choose_2_0 l D cs 0) kX12_176 hP hD [] rfl (by decide +kernel) ⟨Nat.le_of_ble_eq_true rfl, Nat.le_of_ble_eq_true rfl⟩ rfl hl.1 rfl (Nat.le_of_ble_eq_true rfl) dX12_enough_39 ⟨Nat.le_of_ble_eq_true rfl, Nat.le_of_ble_eq_true rfl⟩) hP hD hS hA [] [0] rfl rfl (by decide +kernel) (by decide +kernel) ?_
  clear hP hD hS
  try clear locs
  try clear H
  intro r_3 u_4 H locs hw_r_3 hP hD hS
  have hw_r_3 : r_3 = 1 := hw_r_3
  refine W.widen (k := 0) (n := 0) (Nat.le_of_ble_eq_true rfl) (Nat.le_of_ble_eq_true rfl) ?_
  replace hP : va_P D vwCl [(hm, .inr (12, [.ref ms, .ref mkp, .int (nI 0), .ref mtr, .int (nI 4), .int (nI 2), .int (nI 2), .int (nI 3), .int (nI 2), .int (nI 1), .ref mas, .int (nI 0), .int (nI 0), .int (nI 0), .ref mso, .ref mon, .ref mot, .ref man, .int (nI 0), .int (nI 0), .ref mst, .ref msm, .ref mtb, .ref mti, .ref mfr, .ref mbn, .ref mbs, .ref mde, .int (nI 0), .int (nI 0), .int (nI 0), .int (nI 0), .long ab, .long be, .ref maa, .ref mab, .ref mba, .ref mbb]))] H := hP
  replace hD : va_D A [(hm, .inr (12, [.ref ms, .ref mkp, .int (nI 0), .ref mtr, .int (nI 4), .int (nI 2), .int (nI 2), .int (nI 3), .int (nI 2), .int (nI 1), .ref mas, .int (nI 0), .int (nI 0), .int (nI 0), .ref mso, .ref mon, .ref mot, .ref man, .int (nI 0), .int (nI 0), .ref mst, .ref msm, .ref mtb, .ref mti, .ref mfr, .ref mbn, .ref mbs, .ref mde, .int (nI 0), .int (nI 0), .int (nI 0), .int (nI 0), .long ab, .long be, .ref maa, .ref mab, .ref mba, .ref mbb]))] := hD
  subst hw_r_3
  refine lv_lmul hx hb dX12_enough_42 ?_
  refine lv_topl (nm_r (e' := 0) (by decide) ?_)
  refine lv_ladd hx hb dX12_enough_43 ?_
  refine lv_topl (nm_r (e' := 0) (by decide) ?_)
  refine lv_lstore_n (lv' := [(2, .long 0), (4, .int (nI 2)), (0, .ref hm), (1, .int (nI 1))]) hx hb dX12_enough_44 rfl hl (by decide) rfl ?_
  clear hl
  try clear ls
  intro ls hl
  refine lv_iinc (v := nI 3) (lv' := [(4, .int (nI 3)), (2, .long 0), (0, .ref hm), (1, .int (nI 1))]) hx hb dX12_enough_45 hl (k := 1) rfl (by decide) (by decide) rfl ?_
  clear hl
  try clear ls
  intro ls hl
  refine lv_goto (tgt := 8) hx hb dX12_enough_48 (by decide) ?_
  refine lv_iload hx hb dX12_enough_8 (lv_at hl 0 rfl) ?_
  refine lv_aload_n hx hb dX12_enough_10 rfl (lv_at hl 2 rfl) ?_
  refine xget C hP 0 rfl rfl zuX12 5 (by decide) zw5_218 rfl dX12_enough_11 ?_
  refine lv_icmp_gt (tgt := 51) hx hb dX12_enough_14 (by decide) (fun _ => ?_) (fun c => absurd (by decide) c)
  refine lv_lload_n hx hb dX12_enough_51 rfl (lv_at hl 1 rfl) ?_
  exact xretl C () rfl hP hD hS (Nat.le_of_ble_eq_true rfl) (Nat.le_of_ble_eq_true rfl) dX12_enough_52

set_option maxHeartbeats 4000000 in
set_option maxRecDepth 100000 in
theorem c_X12_enough_2 (l : Launch) (D : va_G) (cs : Nat → ClassId) (hm ms mkp mtr mas mso mon mot man mst msm mtb mti mfr mbn mbs mde maa mab mba mbb : Nat) (ab be : Int64) : xMet l D cs yX12_enough cX12_enough 5 (some .long) ({ frames := 1, cells := 0, slots := 0, locals := 24 } : Room) [.ref hm, .int (nI 2)] [(hm, .inr (12, [.ref ms, .ref mkp, .int (nI 0), .ref mtr, .int (nI 4), .int (nI 2), .int (nI 2), .int (nI 3), .int (nI 2), .int (nI 1), .ref mas, .int (nI 0), .int (nI 0), .int (nI 0), .ref mso, .ref mon, .ref mot, .ref man, .int (nI 0), .int (nI 0), .ref mst, .ref msm, .ref mtb, .ref mti, .ref mfr, .ref mbn, .ref mbs, .ref mde, .int (nI 0), .int (nI 0), .int (nI 0), .int (nI 0), .long ab, .long be, .ref maa, .ref mab, .ref mba, .ref mbb]))] (xQl D (fun (r : Int64) (_u : Unit) => r = 1) (fun (_u : Unit) => [(hm, .inr (12, [.ref ms, .ref mkp, .int (nI 0), .ref mtr, .int (nI 4), .int (nI 2), .int (nI 2), .int (nI 3), .int (nI 2), .int (nI 1), .ref mas, .int (nI 0), .int (nI 0), .int (nI 0), .ref mso, .ref mon, .ref mot, .ref man, .int (nI 0), .int (nI 0), .ref mst, .ref msm, .ref mtb, .ref mti, .ref mfr, .ref mbn, .ref mbs, .ref mde, .int (nI 0), .int (nI 0), .int (nI 0), .int (nI 0), .long ab, .long be, .ref maa, .ref mab, .ref mba, .ref mbb]))])) := by
  refine xMet.intro (by decide) (Nat.le_of_ble_eq_true rfl) ?_
  intro p e s m args below meth c A ls C hP hD hS hl
  have hx := C.1
  have hb := C.2.1
  have hz := C.2.2.2.2.1
  have hown := C.2.2.2.1
  have hA := C.2.2.2.2.2.2.2.2.2
  have hAO := C.2.2.2.2.2.2.2.2.1.2.2
  replace hl : lv_has ls 5 [(0, .ref hm), (1, .int (nI 2))] := hl
  obtain ⟨H, hH⟩ : ∃ H, H = s.heap := ⟨_, rfl⟩
  replace hP : va_P D vwCl [(hm, .inr (12, [.ref ms, .ref mkp, .int (nI 0), .ref mtr, .int (nI 4), .int (nI 2), .int (nI 2), .int (nI 3), .int (nI 2), .int (nI 1), .ref mas, .int (nI 0), .int (nI 0), .int (nI 0), .ref mso, .ref mon, .ref mot, .ref man, .int (nI 0), .int (nI 0), .ref mst, .ref msm, .ref mtb, .ref mti, .ref mfr, .ref mbn, .ref mbs, .ref mde, .int (nI 0), .int (nI 0), .int (nI 0), .int (nI 0), .long ab, .long be, .ref maa, .ref mab, .ref mba, .ref mbb]))] H := by rw [hH]; exact hP
  replace hS : va_S A s.heap H [] := by rw [hH]; exact hS
  obtain ⟨locs, hlocs⟩ : ∃ z : List Loc, z = [] := ⟨_, rfl⟩
  rw [← hlocs] at hS
  suffices hW : W p l e ({ frames := 1, cells := 0, slots := 0, locals := 24 } : Room) s m args below meth c H locs 0 0 (MQ below ((xQl D (fun (r : Int64) (_u : Unit) => r = 1) (fun (_u : Unit) => [(hm, .inr (12, [.ref ms, .ref mkp, .int (nI 0), .ref mtr, .int (nI 4), .int (nI 2), .int (nI 2), .int (nI 3), .int (nI 2), .int (nI 1), .ref mas, .int (nI 0), .int (nI 0), .int (nI 0), .ref mso, .ref mon, .ref mot, .ref man, .int (nI 0), .int (nI 0), .ref mst, .ref msm, .ref mtb, .ref mti, .ref mfr, .ref mbn, .ref mbs, .ref mde, .int (nI 0), .int (nI 0), .int (nI 0), .int (nI 0), .long ab, .long be, .ref maa, .ref mab, .ref mba, .ref mbb]))])) A) args s 0 0 A) (F0 m 0 ls []) by rw [hlocs, hH] at hW; exact hW
  clear hH hlocs
  refine lv_lconst (v := 0) hx hb dX12_enough_0 (by decide) ?_
  refine lv_lstore_n (lv' := [(2, .long 0), (0, .ref hm), (1, .int (nI 2))]) hx hb dX12_enough_1 rfl hl (by decide) rfl ?_
  clear hl
  try clear ls
  intro ls hl
  refine lv_aload_n hx hb dX12_enough_2 rfl (lv_at hl 1 rfl) ?_
  refine xget C hP 0 rfl rfl zuX12 6 (by decide) zw5_219 rfl dX12_enough_3 ?_
  refine lv_istore (lv' := [(4, .int (nI 2)), (2, .long 0), (0, .ref hm), (1, .int (nI 2))]) hx hb dX12_enough_6 hl (by decide) rfl ?_
  clear hl
  try clear ls
  intro ls hl
  refine lv_iload hx hb dX12_enough_8 (lv_at hl 0 rfl) ?_
  refine lv_aload_n hx hb dX12_enough_10 rfl (lv_at hl 2 rfl) ?_
  refine xget C hP 0 rfl rfl zuX12 5 (by decide) zw5_218 rfl dX12_enough_11 ?_
  refine lv_icmp_gt (tgt := 51) hx hb dX12_enough_14 (by decide) (fun c => absurd c (by decide)) (fun _ => ?_)
  refine lv_lload_n hx hb dX12_enough_17 rfl (lv_at hl 1 rfl) ?_
  refine lv_iload_n hx hb dX12_enough_18 rfl (lv_at hl 3 rfl) ?_
  refine lv_iload hx hb dX12_enough_19 (lv_at hl 0 rfl) ?_
  refine xl (wr := [(hm, .inr (12, [.ref ms, .ref mkp, .int (nI 0), .ref mtr, .int (nI 4), .int (nI 2), .int (nI 2), .int (nI 3), .int (nI 2), .int (nI 1), .ref mas, .int (nI 0), .int (nI 0), .int (nI 0), .ref mso, .ref mon, .ref mot, .ref man, .int (nI 0), .int (nI 0), .ref mst, .ref msm, .ref mtb, .ref mti, .ref mfr, .ref mbn, .ref mbs, .ref mde, .int (nI 0), .int (nI 0), .int (nI 0), .int (nI 0), .long ab, .long be, .ref maa, .ref mab, .ref mba, .ref mbb]))]) (xS (As := [.int (nI 2), .int (nI 2)]) (rest := [.long 0]) C (c_X12_choose_2_2 l D cs 0) kX12_176 hP hD [] rfl (by decide +kernel) ⟨Nat.le_of_ble_eq_true rfl, Nat.le_of_ble_eq_true rfl⟩ rfl hl.1 rfl (Nat.le_of_ble_eq_true rfl) dX12_enough_21 ⟨Nat.le_of_ble_eq_true rfl, Nat.le_of_ble_eq_true rfl⟩) hP hD hS hA [] [0] rfl rfl (by decide +kernel) (by decide +kernel) ?_
  clear hP hD hS
  try clear locs
  try clear H
  intro r_1 u_2 H locs hw_r_1 hP hD hS
  have hw_r_1 : r_1 = 1 := hw_r_1
  refine W.widen (k := 0) (n := 0) (Nat.le_of_ble_eq_true rfl) (Nat.le_of_ble_eq_true rfl) ?_
  replace hP : va_P D vwCl [(hm, .inr (12, [.ref ms, .ref mkp, .int (nI 0), .ref mtr, .int (nI 4), .int (nI 2), .int (nI 2), .int (nI 3), .int (nI 2), .int (nI 1), .ref mas, .int (nI 0), .int (nI 0), .int (nI 0), .ref mso, .ref mon, .ref mot, .ref man, .int (nI 0), .int (nI 0), .ref mst, .ref msm, .ref mtb, .ref mti, .ref mfr, .ref mbn, .ref mbs, .ref mde, .int (nI 0), .int (nI 0), .int (nI 0), .int (nI 0), .long ab, .long be, .ref maa, .ref mab, .ref mba, .ref mbb]))] H := hP
  replace hD : va_D A [(hm, .inr (12, [.ref ms, .ref mkp, .int (nI 0), .ref mtr, .int (nI 4), .int (nI 2), .int (nI 2), .int (nI 3), .int (nI 2), .int (nI 1), .ref mas, .int (nI 0), .int (nI 0), .int (nI 0), .ref mso, .ref mon, .ref mot, .ref man, .int (nI 0), .int (nI 0), .ref mst, .ref msm, .ref mtb, .ref mti, .ref mfr, .ref mbn, .ref mbs, .ref mde, .int (nI 0), .int (nI 0), .int (nI 0), .int (nI 0), .long ab, .long be, .ref maa, .ref mab, .ref mba, .ref mbb]))] := hD
  subst hw_r_1
  refine lv_aload_n hx hb dX12_enough_24 rfl (lv_at hl 2 rfl) ?_
  refine xget C hP 0 rfl rfl zuX12 4 (by decide) zw5_217 rfl dX12_enough_25 ?_
  refine lv_iconst (v := nI 1) hx hb dX12_enough_28 (by decide) ?_
  refine lv_isub hx hb dX12_enough_29 ?_
  refine lv_topi (nm_r (e' := nI 3) (by decide) ?_)
  refine lv_iload_n hx hb dX12_enough_30 rfl (lv_at hl 3 rfl) ?_
  refine lv_isub hx hb dX12_enough_31 ?_
  refine lv_topi (nm_r (e' := nI 1) (by decide) ?_)
  refine lv_aload_n hx hb dX12_enough_32 rfl (lv_at hl 2 rfl) ?_
  refine xget C hP 0 rfl rfl zuX12 5 (by decide) zw5_218 rfl dX12_enough_33 ?_
  refine lv_iload hx hb dX12_enough_36 (lv_at hl 0 rfl) ?_
  refine lv_isub hx hb dX12_enough_38 ?_
  refine lv_topi (nm_r (e' := nI 0) (by decide) ?_)
  refine xl (wr := [(hm, .inr (12, [.ref ms, .ref mkp, .int (nI 0), .ref mtr, .int (nI 4), .int (nI 2), .int (nI 2), .int (nI 3), .int (nI 2), .int (nI 1), .ref mas, .int (nI 0), .int (nI 0), .int (nI 0), .ref mso, .ref mon, .ref mot, .ref man, .int (nI 0), .int (nI 0), .ref mst, .ref msm, .ref mtb, .ref mti, .ref mfr, .ref mbn, .ref mbs, .ref mde, .int (nI 0), .int (nI 0), .int (nI 0), .int (nI 0), .long ab, .long be, .ref maa, .ref mab, .ref mba, .ref mbb]))]) (xS (As := [.int (nI 1), .int (nI 0)]) (rest := [.long 1, .long 0]) C (c_X12_choose_1_0 l D cs 0) kX12_176 hP hD [] rfl (by decide +kernel) ⟨Nat.le_of_ble_eq_true rfl, Nat.le_of_ble_eq_true rfl⟩ rfl hl.1 rfl (Nat.le_of_ble_eq_true rfl) dX12_enough_39 ⟨Nat.le_of_ble_eq_true rfl, Nat.le_of_ble_eq_true rfl⟩) hP hD hS hA [] [0] rfl rfl (by decide +kernel) (by decide +kernel) ?_
  clear hP hD hS
  try clear locs
  try clear H
  intro r_3 u_4 H locs hw_r_3 hP hD hS
  have hw_r_3 : r_3 = 1 := hw_r_3
  refine W.widen (k := 0) (n := 0) (Nat.le_of_ble_eq_true rfl) (Nat.le_of_ble_eq_true rfl) ?_
  replace hP : va_P D vwCl [(hm, .inr (12, [.ref ms, .ref mkp, .int (nI 0), .ref mtr, .int (nI 4), .int (nI 2), .int (nI 2), .int (nI 3), .int (nI 2), .int (nI 1), .ref mas, .int (nI 0), .int (nI 0), .int (nI 0), .ref mso, .ref mon, .ref mot, .ref man, .int (nI 0), .int (nI 0), .ref mst, .ref msm, .ref mtb, .ref mti, .ref mfr, .ref mbn, .ref mbs, .ref mde, .int (nI 0), .int (nI 0), .int (nI 0), .int (nI 0), .long ab, .long be, .ref maa, .ref mab, .ref mba, .ref mbb]))] H := hP
  replace hD : va_D A [(hm, .inr (12, [.ref ms, .ref mkp, .int (nI 0), .ref mtr, .int (nI 4), .int (nI 2), .int (nI 2), .int (nI 3), .int (nI 2), .int (nI 1), .ref mas, .int (nI 0), .int (nI 0), .int (nI 0), .ref mso, .ref mon, .ref mot, .ref man, .int (nI 0), .int (nI 0), .ref mst, .ref msm, .ref mtb, .ref mti, .ref mfr, .ref mbn, .ref mbs, .ref mde, .int (nI 0), .int (nI 0), .int (nI 0), .int (nI 0), .long ab, .long be, .ref maa, .ref mab, .ref mba, .ref mbb]))] := hD
  subst hw_r_3
  refine lv_lmul hx hb dX12_enough_42 ?_
  refine lv_topl (nm_r (e' := 1) (by decide) ?_)
  refine lv_ladd hx hb dX12_enough_43 ?_
  refine lv_topl (nm_r (e' := 1) (by decide) ?_)
  refine lv_lstore_n (lv' := [(2, .long 1), (4, .int (nI 2)), (0, .ref hm), (1, .int (nI 2))]) hx hb dX12_enough_44 rfl hl (by decide) rfl ?_
  clear hl
  try clear ls
  intro ls hl
  refine lv_iinc (v := nI 3) (lv' := [(4, .int (nI 3)), (2, .long 1), (0, .ref hm), (1, .int (nI 2))]) hx hb dX12_enough_45 hl (k := 1) rfl (by decide) (by decide) rfl ?_
  clear hl
  try clear ls
  intro ls hl
  refine lv_goto (tgt := 8) hx hb dX12_enough_48 (by decide) ?_
  refine lv_iload hx hb dX12_enough_8 (lv_at hl 0 rfl) ?_
  refine lv_aload_n hx hb dX12_enough_10 rfl (lv_at hl 2 rfl) ?_
  refine xget C hP 0 rfl rfl zuX12 5 (by decide) zw5_218 rfl dX12_enough_11 ?_
  refine lv_icmp_gt (tgt := 51) hx hb dX12_enough_14 (by decide) (fun _ => ?_) (fun c => absurd (by decide) c)
  refine lv_lload_n hx hb dX12_enough_51 rfl (lv_at hl 1 rfl) ?_
  exact xretl C () rfl hP hD hS (Nat.le_of_ble_eq_true rfl) (Nat.le_of_ble_eq_true rfl) dX12_enough_52

set_option maxHeartbeats 4000000 in
set_option maxRecDepth 100000 in
theorem c_X12_enough_3 (l : Launch) (D : va_G) (cs : Nat → ClassId) (hm ms mkp mtr mas mso mon mot man mst msm mtb mti mfr mbn mbs mde maa mab mba mbb : Nat) (ab be : Int64) : xMet l D cs yX12_enough cX12_enough 5 (some .long) ({ frames := 1, cells := 0, slots := 0, locals := 24 } : Room) [.ref hm, .int (nI 3)] [(hm, .inr (12, [.ref ms, .ref mkp, .int (nI 0), .ref mtr, .int (nI 4), .int (nI 2), .int (nI 2), .int (nI 3), .int (nI 2), .int (nI 1), .ref mas, .int (nI 0), .int (nI 0), .int (nI 0), .ref mso, .ref mon, .ref mot, .ref man, .int (nI 0), .int (nI 0), .ref mst, .ref msm, .ref mtb, .ref mti, .ref mfr, .ref mbn, .ref mbs, .ref mde, .int (nI 0), .int (nI 0), .int (nI 0), .int (nI 0), .long ab, .long be, .ref maa, .ref mab, .ref mba, .ref mbb]))] (xQl D (fun (r : Int64) (_u : Unit) => r = 3) (fun (_u : Unit) => [(hm, .inr (12, [.ref ms, .ref mkp, .int (nI 0), .ref mtr, .int (nI 4), .int (nI 2), .int (nI 2), .int (nI 3), .int (nI 2), .int (nI 1), .ref mas, .int (nI 0), .int (nI 0), .int (nI 0), .ref mso, .ref mon, .ref mot, .ref man, .int (nI 0), .int (nI 0), .ref mst, .ref msm, .ref mtb, .ref mti, .ref mfr, .ref mbn, .ref mbs, .ref mde, .int (nI 0), .int (nI 0), .int (nI 0), .int (nI 0), .long ab, .long be, .ref maa, .ref mab, .ref mba, .ref mbb]))])) := by
  refine xMet.intro (by decide) (Nat.le_of_ble_eq_true rfl) ?_
  intro p e s m args below meth c A ls C hP hD hS hl
  have hx := C.1
  have hb := C.2.1
  have hz := C.2.2.2.2.1
  have hown := C.2.2.2.1
  have hA := C.2.2.2.2.2.2.2.2.2
  have hAO := C.2.2.2.2.2.2.2.2.1.2.2
  replace hl : lv_has ls 5 [(0, .ref hm), (1, .int (nI 3))] := hl
  obtain ⟨H, hH⟩ : ∃ H, H = s.heap := ⟨_, rfl⟩
  replace hP : va_P D vwCl [(hm, .inr (12, [.ref ms, .ref mkp, .int (nI 0), .ref mtr, .int (nI 4), .int (nI 2), .int (nI 2), .int (nI 3), .int (nI 2), .int (nI 1), .ref mas, .int (nI 0), .int (nI 0), .int (nI 0), .ref mso, .ref mon, .ref mot, .ref man, .int (nI 0), .int (nI 0), .ref mst, .ref msm, .ref mtb, .ref mti, .ref mfr, .ref mbn, .ref mbs, .ref mde, .int (nI 0), .int (nI 0), .int (nI 0), .int (nI 0), .long ab, .long be, .ref maa, .ref mab, .ref mba, .ref mbb]))] H := by rw [hH]; exact hP
  replace hS : va_S A s.heap H [] := by rw [hH]; exact hS
  obtain ⟨locs, hlocs⟩ : ∃ z : List Loc, z = [] := ⟨_, rfl⟩
  rw [← hlocs] at hS
  suffices hW : W p l e ({ frames := 1, cells := 0, slots := 0, locals := 24 } : Room) s m args below meth c H locs 0 0 (MQ below ((xQl D (fun (r : Int64) (_u : Unit) => r = 3) (fun (_u : Unit) => [(hm, .inr (12, [.ref ms, .ref mkp, .int (nI 0), .ref mtr, .int (nI 4), .int (nI 2), .int (nI 2), .int (nI 3), .int (nI 2), .int (nI 1), .ref mas, .int (nI 0), .int (nI 0), .int (nI 0), .ref mso, .ref mon, .ref mot, .ref man, .int (nI 0), .int (nI 0), .ref mst, .ref msm, .ref mtb, .ref mti, .ref mfr, .ref mbn, .ref mbs, .ref mde, .int (nI 0), .int (nI 0), .int (nI 0), .int (nI 0), .long ab, .long be, .ref maa, .ref mab, .ref mba, .ref mbb]))])) A) args s 0 0 A) (F0 m 0 ls []) by rw [hlocs, hH] at hW; exact hW
  clear hH hlocs
  refine lv_lconst (v := 0) hx hb dX12_enough_0 (by decide) ?_
  refine lv_lstore_n (lv' := [(2, .long 0), (0, .ref hm), (1, .int (nI 3))]) hx hb dX12_enough_1 rfl hl (by decide) rfl ?_
  clear hl
  try clear ls
  intro ls hl
  refine lv_aload_n hx hb dX12_enough_2 rfl (lv_at hl 1 rfl) ?_
  refine xget C hP 0 rfl rfl zuX12 6 (by decide) zw5_219 rfl dX12_enough_3 ?_
  refine lv_istore (lv' := [(4, .int (nI 2)), (2, .long 0), (0, .ref hm), (1, .int (nI 3))]) hx hb dX12_enough_6 hl (by decide) rfl ?_
  clear hl
  try clear ls
  intro ls hl
  refine lv_iload hx hb dX12_enough_8 (lv_at hl 0 rfl) ?_
  refine lv_aload_n hx hb dX12_enough_10 rfl (lv_at hl 2 rfl) ?_
  refine xget C hP 0 rfl rfl zuX12 5 (by decide) zw5_218 rfl dX12_enough_11 ?_
  refine lv_icmp_gt (tgt := 51) hx hb dX12_enough_14 (by decide) (fun c => absurd c (by decide)) (fun _ => ?_)
  refine lv_lload_n hx hb dX12_enough_17 rfl (lv_at hl 1 rfl) ?_
  refine lv_iload_n hx hb dX12_enough_18 rfl (lv_at hl 3 rfl) ?_
  refine lv_iload hx hb dX12_enough_19 (lv_at hl 0 rfl) ?_
  refine xl (wr := [(hm, .inr (12, [.ref ms, .ref mkp, .int (nI 0), .ref mtr, .int (nI 4), .int (nI 2), .int (nI 2), .int (nI 3), .int (nI 2), .int (nI 1), .ref mas, .int (nI 0), .int (nI 0), .int (nI 0), .ref mso, .ref mon, .ref mot, .ref man, .int (nI 0), .int (nI 0), .ref mst, .ref msm, .ref mtb, .ref mti, .ref mfr, .ref mbn, .ref mbs, .ref mde, .int (nI 0), .int (nI 0), .int (nI 0), .int (nI 0), .long ab, .long be, .ref maa, .ref mab, .ref mba, .ref mbb]))]) (xS (As := [.int (nI 3), .int (nI 2)]) (rest := [.long 0]) C (c_X12_choose_3_2 l D cs 0) kX12_176 hP hD [] rfl (by decide +kernel) ⟨Nat.le_of_ble_eq_true rfl, Nat.le_of_ble_eq_true rfl⟩ rfl hl.1 rfl (Nat.le_of_ble_eq_true rfl) dX12_enough_21 ⟨Nat.le_of_ble_eq_true rfl, Nat.le_of_ble_eq_true rfl⟩) hP hD hS hA [] [0] rfl rfl (by decide +kernel) (by decide +kernel) ?_
  clear hP hD hS
  try clear locs
  try clear H
  intro r_1 u_2 H locs hw_r_1 hP hD hS
  have hw_r_1 : r_1 = 3 := hw_r_1
  refine W.widen (k := 0) (n := 0) (Nat.le_of_ble_eq_true rfl) (Nat.le_of_ble_eq_true rfl) ?_
  replace hP : va_P D vwCl [(hm, .inr (12, [.ref ms, .ref mkp, .int (nI 0), .ref mtr, .int (nI 4), .int (nI 2), .int (nI 2), .int (nI 3), .int (nI 2), .int (nI 1), .ref mas, .int (nI 0), .int (nI 0), .int (nI 0), .ref mso, .ref mon, .ref mot, .ref man, .int (nI 0), .int (nI 0), .ref mst, .ref msm, .ref mtb, .ref mti, .ref mfr, .ref mbn, .ref mbs, .ref mde, .int (nI 0), .int (nI 0), .int (nI 0), .int (nI 0), .long ab, .long be, .ref maa, .ref mab, .ref mba, .ref mbb]))] H := hP
  replace hD : va_D A [(hm, .inr (12, [.ref ms, .ref mkp, .int (nI 0), .ref mtr, .int (nI 4), .int (nI 2), .int (nI 2), .int (nI 3), .int (nI 2), .int (nI 1), .ref mas, .int (nI 0), .int (nI 0), .int (nI 0), .ref mso, .ref mon, .ref mot, .ref man, .int (nI 0), .int (nI 0), .ref mst, .ref msm, .ref mtb, .ref mti, .ref mfr, .ref mbn, .ref mbs, .ref mde, .int (nI 0), .int (nI 0), .int (nI 0), .int (nI 0), .long ab, .long be, .ref maa, .ref mab, .ref mba, .ref mbb]))] := hD
  subst hw_r_1
  refine lv_aload_n hx hb dX12_enough_24 rfl (lv_at hl 2 rfl) ?_
  refine xget C hP 0 rfl rfl zuX12 4 (by decide) zw5_217 rfl dX12_enough_25 ?_
  refine lv_iconst (v := nI 1) hx hb dX12_enough_28 (by decide) ?_
  refine lv_isub hx hb dX12_enough_29 ?_
  refine lv_topi (nm_r (e' := nI 3) (by decide) ?_)
  refine lv_iload_n hx hb dX12_enough_30 rfl (lv_at hl 3 rfl) ?_
  refine lv_isub hx hb dX12_enough_31 ?_
  refine lv_topi (nm_r (e' := nI 0) (by decide) ?_)
  refine lv_aload_n hx hb dX12_enough_32 rfl (lv_at hl 2 rfl) ?_
  refine xget C hP 0 rfl rfl zuX12 5 (by decide) zw5_218 rfl dX12_enough_33 ?_
  refine lv_iload hx hb dX12_enough_36 (lv_at hl 0 rfl) ?_
  refine lv_isub hx hb dX12_enough_38 ?_
  refine lv_topi (nm_r (e' := nI 0) (by decide) ?_)
  refine xl (wr := [(hm, .inr (12, [.ref ms, .ref mkp, .int (nI 0), .ref mtr, .int (nI 4), .int (nI 2), .int (nI 2), .int (nI 3), .int (nI 2), .int (nI 1), .ref mas, .int (nI 0), .int (nI 0), .int (nI 0), .ref mso, .ref mon, .ref mot, .ref man, .int (nI 0), .int (nI 0), .ref mst, .ref msm, .ref mtb, .ref mti, .ref mfr, .ref mbn, .ref mbs, .ref mde, .int (nI 0), .int (nI 0), .int (nI 0), .int (nI 0), .long ab, .long be, .ref maa, .ref mab, .ref mba, .ref mbb]))]) (xS (As := [.int (nI 0), .int (nI 0)]) (rest := [.long 3, .long 0]) C (c_X12_choose_0_0 l D cs 0) kX12_176 hP hD [] rfl (by decide +kernel) ⟨Nat.le_of_ble_eq_true rfl, Nat.le_of_ble_eq_true rfl⟩ rfl hl.1 rfl (Nat.le_of_ble_eq_true rfl) dX12_enough_39 ⟨Nat.le_of_ble_eq_true rfl, Nat.le_of_ble_eq_true rfl⟩) hP hD hS hA [] [0] rfl rfl (by decide +kernel) (by decide +kernel) ?_
  clear hP hD hS
  try clear locs
  try clear H
  intro r_3 u_4 H locs hw_r_3 hP hD hS
  have hw_r_3 : r_3 = 1 := hw_r_3
  refine W.widen (k := 0) (n := 0) (Nat.le_of_ble_eq_true rfl) (Nat.le_of_ble_eq_true rfl) ?_
  replace hP : va_P D vwCl [(hm, .inr (12, [.ref ms, .ref mkp, .int (nI 0), .ref mtr, .int (nI 4), .int (nI 2), .int (nI 2), .int (nI 3), .int (nI 2), .int (nI 1), .ref mas, .int (nI 0), .int (nI 0), .int (nI 0), .ref mso, .ref mon, .ref mot, .ref man, .int (nI 0), .int (nI 0), .ref mst, .ref msm, .ref mtb, .ref mti, .ref mfr, .ref mbn, .ref mbs, .ref mde, .int (nI 0), .int (nI 0), .int (nI 0), .int (nI 0), .long ab, .long be, .ref maa, .ref mab, .ref mba, .ref mbb]))] H := hP
  replace hD : va_D A [(hm, .inr (12, [.ref ms, .ref mkp, .int (nI 0), .ref mtr, .int (nI 4), .int (nI 2), .int (nI 2), .int (nI 3), .int (nI 2), .int (nI 1), .ref mas, .int (nI 0), .int (nI 0), .int (nI 0), .ref mso, .ref mon, .ref mot, .ref man, .int (nI 0), .int (nI 0), .ref mst, .ref msm, .ref mtb, .ref mti, .ref mfr, .ref mbn, .ref mbs, .ref mde, .int (nI 0), .int (nI 0), .int (nI 0), .int (nI 0), .long ab, .long be, .ref maa, .ref mab, .ref mba, .ref mbb]))] := hD
  subst hw_r_3
  refine lv_lmul hx hb dX12_enough_42 ?_
  refine lv_topl (nm_r (e' := 3) (by decide) ?_)
  refine lv_ladd hx hb dX12_enough_43 ?_
  refine lv_topl (nm_r (e' := 3) (by decide) ?_)
  refine lv_lstore_n (lv' := [(2, .long 3), (4, .int (nI 2)), (0, .ref hm), (1, .int (nI 3))]) hx hb dX12_enough_44 rfl hl (by decide) rfl ?_
  clear hl
  try clear ls
  intro ls hl
  refine lv_iinc (v := nI 3) (lv' := [(4, .int (nI 3)), (2, .long 3), (0, .ref hm), (1, .int (nI 3))]) hx hb dX12_enough_45 hl (k := 1) rfl (by decide) (by decide) rfl ?_
  clear hl
  try clear ls
  intro ls hl
  refine lv_goto (tgt := 8) hx hb dX12_enough_48 (by decide) ?_
  refine lv_iload hx hb dX12_enough_8 (lv_at hl 0 rfl) ?_
  refine lv_aload_n hx hb dX12_enough_10 rfl (lv_at hl 2 rfl) ?_
  refine xget C hP 0 rfl rfl zuX12 5 (by decide) zw5_218 rfl dX12_enough_11 ?_
  refine lv_icmp_gt (tgt := 51) hx hb dX12_enough_14 (by decide) (fun _ => ?_) (fun c => absurd (by decide) c)
  refine lv_lload_n hx hb dX12_enough_51 rfl (lv_at hl 1 rfl) ?_
  exact xretl C () rfl hP hD hS (Nat.le_of_ble_eq_true rfl) (Nat.le_of_ble_eq_true rfl) dX12_enough_52

set_option maxHeartbeats 4000000 in
set_option maxRecDepth 100000 in
theorem c_X12_up_0 (l : Launch) (D : va_G) (cs : Nat → ClassId) (hm ms mkp mtr mas mso mon mot man mst msm mtb mti mfr mbn mbs mde maa mab mba mbb : Nat) (ab be : Int64) : xMet l D cs yX12_up cX12_up 2 (some .long) ({ frames := 2, cells := 0, slots := 0, locals := 48 } : Room) [.ref hm, .int (nI 0)] [(hm, .inr (12, [.ref ms, .ref mkp, .int (nI 0), .ref mtr, .int (nI 4), .int (nI 2), .int (nI 2), .int (nI 3), .int (nI 2), .int (nI 1), .ref mas, .int (nI 0), .int (nI 0), .int (nI 0), .ref mso, .ref mon, .ref mot, .ref man, .int (nI 0), .int (nI 0), .ref mst, .ref msm, .ref mtb, .ref mti, .ref mfr, .ref mbn, .ref mbs, .ref mde, .int (nI 0), .int (nI 0), .int (nI 0), .int (nI 0), .long ab, .long be, .ref maa, .ref mab, .ref mba, .ref mbb]))] (xQl D (fun (r : Int64) (_u : Unit) => r = 0) (fun (_u : Unit) => [(hm, .inr (12, [.ref ms, .ref mkp, .int (nI 0), .ref mtr, .int (nI 4), .int (nI 2), .int (nI 2), .int (nI 3), .int (nI 2), .int (nI 1), .ref mas, .int (nI 0), .int (nI 0), .int (nI 0), .ref mso, .ref mon, .ref mot, .ref man, .int (nI 0), .int (nI 0), .ref mst, .ref msm, .ref mtb, .ref mti, .ref mfr, .ref mbn, .ref mbs, .ref mde, .int (nI 0), .int (nI 0), .int (nI 0), .int (nI 0), .long ab, .long be, .ref maa, .ref mab, .ref mba, .ref mbb]))])) := by
  refine xMet.intro (by decide) (Nat.le_of_ble_eq_true rfl) ?_
  intro p e s m args below meth c A ls C hP hD hS hl
  have hx := C.1
  have hb := C.2.1
  have hz := C.2.2.2.2.1
  have hown := C.2.2.2.1
  have hA := C.2.2.2.2.2.2.2.2.2
  have hAO := C.2.2.2.2.2.2.2.2.1.2.2
  replace hl : lv_has ls 2 [(0, .ref hm), (1, .int (nI 0))] := hl
  obtain ⟨H, hH⟩ : ∃ H, H = s.heap := ⟨_, rfl⟩
  replace hP : va_P D vwCl [(hm, .inr (12, [.ref ms, .ref mkp, .int (nI 0), .ref mtr, .int (nI 4), .int (nI 2), .int (nI 2), .int (nI 3), .int (nI 2), .int (nI 1), .ref mas, .int (nI 0), .int (nI 0), .int (nI 0), .ref mso, .ref mon, .ref mot, .ref man, .int (nI 0), .int (nI 0), .ref mst, .ref msm, .ref mtb, .ref mti, .ref mfr, .ref mbn, .ref mbs, .ref mde, .int (nI 0), .int (nI 0), .int (nI 0), .int (nI 0), .long ab, .long be, .ref maa, .ref mab, .ref mba, .ref mbb]))] H := by rw [hH]; exact hP
  replace hS : va_S A s.heap H [] := by rw [hH]; exact hS
  obtain ⟨locs, hlocs⟩ : ∃ z : List Loc, z = [] := ⟨_, rfl⟩
  rw [← hlocs] at hS
  suffices hW : W p l e ({ frames := 2, cells := 0, slots := 0, locals := 48 } : Room) s m args below meth c H locs 0 0 (MQ below ((xQl D (fun (r : Int64) (_u : Unit) => r = 0) (fun (_u : Unit) => [(hm, .inr (12, [.ref ms, .ref mkp, .int (nI 0), .ref mtr, .int (nI 4), .int (nI 2), .int (nI 2), .int (nI 3), .int (nI 2), .int (nI 1), .ref mas, .int (nI 0), .int (nI 0), .int (nI 0), .ref mso, .ref mon, .ref mot, .ref man, .int (nI 0), .int (nI 0), .ref mst, .ref msm, .ref mtb, .ref mti, .ref mfr, .ref mbn, .ref mbs, .ref mde, .int (nI 0), .int (nI 0), .int (nI 0), .int (nI 0), .long ab, .long be, .ref maa, .ref mab, .ref mba, .ref mbb]))])) A) args s 0 0 A) (F0 m 0 ls []) by rw [hlocs, hH] at hW; exact hW
  clear hH hlocs
  refine lv_aload_n hx hb dX12_up_0 rfl (lv_at hl 0 rfl) ?_
  refine xget C hP 0 rfl rfl zuX12 4 (by decide) zw5_217 rfl dX12_up_1 ?_
  refine lv_iload_n hx hb dX12_up_4 rfl (lv_at hl 1 rfl) ?_
  refine lv_isub hx hb dX12_up_5 ?_
  refine lv_topi (nm_r (e' := nI 4) (by decide) ?_)
  refine lv_i2l hx hb dX12_up_6 rfl ?_
  refine lv_aload_n hx hb dX12_up_7 rfl (lv_at hl 0 rfl) ?_
  refine lv_iload_n hx hb dX12_up_8 rfl (lv_at hl 1 rfl) ?_
  refine xl (wr := []) (xV (As := [.int (nI 0)]) (rest := [.long ((nI 4).toInt64)]) C (c_X12_enough_0 l D cs hm ms mkp mtr mas mso mon mot man mst msm mtb mti mfr mbn mbs mde maa mab mba mbb ab be) kX12_273 hP hD [0] rfl (by decide +kernel) 0 rfl rfl rfl ⟨Nat.le_of_ble_eq_true rfl, Nat.le_of_ble_eq_true rfl⟩ rfl hl.1 rfl (Nat.le_of_ble_eq_true rfl) dX12_up_9 ⟨Nat.le_of_ble_eq_true rfl, Nat.le_of_ble_eq_true rfl⟩) hP hD hS hA [0] [] rfl rfl (by decide +kernel) (by decide +kernel) ?_
  clear hP hD hS
  try clear locs
  try clear H
  intro r_1 u_2 H locs hw_r_1 hP hD hS
  have hw_r_1 : r_1 = 0 := hw_r_1
  refine W.widen (k := 0) (n := 0) (Nat.le_of_ble_eq_true rfl) (Nat.le_of_ble_eq_true rfl) ?_
  replace hP : va_P D vwCl [(hm, .inr (12, [.ref ms, .ref mkp, .int (nI 0), .ref mtr, .int (nI 4), .int (nI 2), .int (nI 2), .int (nI 3), .int (nI 2), .int (nI 1), .ref mas, .int (nI 0), .int (nI 0), .int (nI 0), .ref mso, .ref mon, .ref mot, .ref man, .int (nI 0), .int (nI 0), .ref mst, .ref msm, .ref mtb, .ref mti, .ref mfr, .ref mbn, .ref mbs, .ref mde, .int (nI 0), .int (nI 0), .int (nI 0), .int (nI 0), .long ab, .long be, .ref maa, .ref mab, .ref mba, .ref mbb]))] H := hP
  replace hD : va_D A [(hm, .inr (12, [.ref ms, .ref mkp, .int (nI 0), .ref mtr, .int (nI 4), .int (nI 2), .int (nI 2), .int (nI 3), .int (nI 2), .int (nI 1), .ref mas, .int (nI 0), .int (nI 0), .int (nI 0), .ref mso, .ref mon, .ref mot, .ref man, .int (nI 0), .int (nI 0), .ref mst, .ref msm, .ref mtb, .ref mti, .ref mfr, .ref mbn, .ref mbs, .ref mde, .int (nI 0), .int (nI 0), .int (nI 0), .int (nI 0), .long ab, .long be, .ref maa, .ref mab, .ref mba, .ref mbb]))] := hD
  subst hw_r_1
  refine lv_lmul hx hb dX12_up_12 ?_
  refine lv_topl (nm_r (e' := 0) (by decide) ?_)
  exact xretl C () rfl hP hD hS (Nat.le_of_ble_eq_true rfl) (Nat.le_of_ble_eq_true rfl) dX12_up_13

set_option maxHeartbeats 4000000 in
set_option maxRecDepth 100000 in
theorem c_X12_up_1 (l : Launch) (D : va_G) (cs : Nat → ClassId) (hm ms mkp mtr mas mso mon mot man mst msm mtb mti mfr mbn mbs mde maa mab mba mbb : Nat) (ab be : Int64) : xMet l D cs yX12_up cX12_up 2 (some .long) ({ frames := 2, cells := 0, slots := 0, locals := 48 } : Room) [.ref hm, .int (nI 1)] [(hm, .inr (12, [.ref ms, .ref mkp, .int (nI 0), .ref mtr, .int (nI 4), .int (nI 2), .int (nI 2), .int (nI 3), .int (nI 2), .int (nI 1), .ref mas, .int (nI 0), .int (nI 0), .int (nI 0), .ref mso, .ref mon, .ref mot, .ref man, .int (nI 0), .int (nI 0), .ref mst, .ref msm, .ref mtb, .ref mti, .ref mfr, .ref mbn, .ref mbs, .ref mde, .int (nI 0), .int (nI 0), .int (nI 0), .int (nI 0), .long ab, .long be, .ref maa, .ref mab, .ref mba, .ref mbb]))] (xQl D (fun (r : Int64) (_u : Unit) => r = 0) (fun (_u : Unit) => [(hm, .inr (12, [.ref ms, .ref mkp, .int (nI 0), .ref mtr, .int (nI 4), .int (nI 2), .int (nI 2), .int (nI 3), .int (nI 2), .int (nI 1), .ref mas, .int (nI 0), .int (nI 0), .int (nI 0), .ref mso, .ref mon, .ref mot, .ref man, .int (nI 0), .int (nI 0), .ref mst, .ref msm, .ref mtb, .ref mti, .ref mfr, .ref mbn, .ref mbs, .ref mde, .int (nI 0), .int (nI 0), .int (nI 0), .int (nI 0), .long ab, .long be, .ref maa, .ref mab, .ref mba, .ref mbb]))])) := by
  refine xMet.intro (by decide) (Nat.le_of_ble_eq_true rfl) ?_
  intro p e s m args below meth c A ls C hP hD hS hl
  have hx := C.1
  have hb := C.2.1
  have hz := C.2.2.2.2.1
  have hown := C.2.2.2.1
  have hA := C.2.2.2.2.2.2.2.2.2
  have hAO := C.2.2.2.2.2.2.2.2.1.2.2
  replace hl : lv_has ls 2 [(0, .ref hm), (1, .int (nI 1))] := hl
  obtain ⟨H, hH⟩ : ∃ H, H = s.heap := ⟨_, rfl⟩
  replace hP : va_P D vwCl [(hm, .inr (12, [.ref ms, .ref mkp, .int (nI 0), .ref mtr, .int (nI 4), .int (nI 2), .int (nI 2), .int (nI 3), .int (nI 2), .int (nI 1), .ref mas, .int (nI 0), .int (nI 0), .int (nI 0), .ref mso, .ref mon, .ref mot, .ref man, .int (nI 0), .int (nI 0), .ref mst, .ref msm, .ref mtb, .ref mti, .ref mfr, .ref mbn, .ref mbs, .ref mde, .int (nI 0), .int (nI 0), .int (nI 0), .int (nI 0), .long ab, .long be, .ref maa, .ref mab, .ref mba, .ref mbb]))] H := by rw [hH]; exact hP
  replace hS : va_S A s.heap H [] := by rw [hH]; exact hS
  obtain ⟨locs, hlocs⟩ : ∃ z : List Loc, z = [] := ⟨_, rfl⟩
  rw [← hlocs] at hS
  suffices hW : W p l e ({ frames := 2, cells := 0, slots := 0, locals := 48 } : Room) s m args below meth c H locs 0 0 (MQ below ((xQl D (fun (r : Int64) (_u : Unit) => r = 0) (fun (_u : Unit) => [(hm, .inr (12, [.ref ms, .ref mkp, .int (nI 0), .ref mtr, .int (nI 4), .int (nI 2), .int (nI 2), .int (nI 3), .int (nI 2), .int (nI 1), .ref mas, .int (nI 0), .int (nI 0), .int (nI 0), .ref mso, .ref mon, .ref mot, .ref man, .int (nI 0), .int (nI 0), .ref mst, .ref msm, .ref mtb, .ref mti, .ref mfr, .ref mbn, .ref mbs, .ref mde, .int (nI 0), .int (nI 0), .int (nI 0), .int (nI 0), .long ab, .long be, .ref maa, .ref mab, .ref mba, .ref mbb]))])) A) args s 0 0 A) (F0 m 0 ls []) by rw [hlocs, hH] at hW; exact hW
  clear hH hlocs
  refine lv_aload_n hx hb dX12_up_0 rfl (lv_at hl 0 rfl) ?_
  refine xget C hP 0 rfl rfl zuX12 4 (by decide) zw5_217 rfl dX12_up_1 ?_
  refine lv_iload_n hx hb dX12_up_4 rfl (lv_at hl 1 rfl) ?_
  refine lv_isub hx hb dX12_up_5 ?_
  refine lv_topi (nm_r (e' := nI 3) (by decide) ?_)
  refine lv_i2l hx hb dX12_up_6 rfl ?_
  refine lv_aload_n hx hb dX12_up_7 rfl (lv_at hl 0 rfl) ?_
  refine lv_iload_n hx hb dX12_up_8 rfl (lv_at hl 1 rfl) ?_
  refine xl (wr := []) (xV (As := [.int (nI 1)]) (rest := [.long ((nI 3).toInt64)]) C (c_X12_enough_1 l D cs hm ms mkp mtr mas mso mon mot man mst msm mtb mti mfr mbn mbs mde maa mab mba mbb ab be) kX12_273 hP hD [0] rfl (by decide +kernel) 0 rfl rfl rfl ⟨Nat.le_of_ble_eq_true rfl, Nat.le_of_ble_eq_true rfl⟩ rfl hl.1 rfl (Nat.le_of_ble_eq_true rfl) dX12_up_9 ⟨Nat.le_of_ble_eq_true rfl, Nat.le_of_ble_eq_true rfl⟩) hP hD hS hA [0] [] rfl rfl (by decide +kernel) (by decide +kernel) ?_
  clear hP hD hS
  try clear locs
  try clear H
  intro r_1 u_2 H locs hw_r_1 hP hD hS
  have hw_r_1 : r_1 = 0 := hw_r_1
  refine W.widen (k := 0) (n := 0) (Nat.le_of_ble_eq_true rfl) (Nat.le_of_ble_eq_true rfl) ?_
  replace hP : va_P D vwCl [(hm, .inr (12, [.ref ms, .ref mkp, .int (nI 0), .ref mtr, .int (nI 4), .int (nI 2), .int (nI 2), .int (nI 3), .int (nI 2), .int (nI 1), .ref mas, .int (nI 0), .int (nI 0), .int (nI 0), .ref mso, .ref mon, .ref mot, .ref man, .int (nI 0), .int (nI 0), .ref mst, .ref msm, .ref mtb, .ref mti, .ref mfr, .ref mbn, .ref mbs, .ref mde, .int (nI 0), .int (nI 0), .int (nI 0), .int (nI 0), .long ab, .long be, .ref maa, .ref mab, .ref mba, .ref mbb]))] H := hP
  replace hD : va_D A [(hm, .inr (12, [.ref ms, .ref mkp, .int (nI 0), .ref mtr, .int (nI 4), .int (nI 2), .int (nI 2), .int (nI 3), .int (nI 2), .int (nI 1), .ref mas, .int (nI 0), .int (nI 0), .int (nI 0), .ref mso, .ref mon, .ref mot, .ref man, .int (nI 0), .int (nI 0), .ref mst, .ref msm, .ref mtb, .ref mti, .ref mfr, .ref mbn, .ref mbs, .ref mde, .int (nI 0), .int (nI 0), .int (nI 0), .int (nI 0), .long ab, .long be, .ref maa, .ref mab, .ref mba, .ref mbb]))] := hD
  subst hw_r_1
  refine lv_lmul hx hb dX12_up_12 ?_
  refine lv_topl (nm_r (e' := 0) (by decide) ?_)
  exact xretl C () rfl hP hD hS (Nat.le_of_ble_eq_true rfl) (Nat.le_of_ble_eq_true rfl) dX12_up_13

set_option maxHeartbeats 4000000 in
set_option maxRecDepth 100000 in
theorem c_X12_down_1 (l : Launch) (D : va_G) (cs : Nat → ClassId) (hm ms mkp mtr mas mso mon mot man mst msm mtb mti mfr mbn mbs mde maa mab mba mbb : Nat) (ab be : Int64) : xMet l D cs yX12_down cX12_down 2 (some .long) ({ frames := 2, cells := 0, slots := 0, locals := 48 } : Room) [.ref hm, .int (nI 1)] [(hm, .inr (12, [.ref ms, .ref mkp, .int (nI 0), .ref mtr, .int (nI 4), .int (nI 2), .int (nI 2), .int (nI 3), .int (nI 2), .int (nI 1), .ref mas, .int (nI 0), .int (nI 0), .int (nI 0), .ref mso, .ref mon, .ref mot, .ref man, .int (nI 0), .int (nI 0), .ref mst, .ref msm, .ref mtb, .ref mti, .ref mfr, .ref mbn, .ref mbs, .ref mde, .int (nI 0), .int (nI 0), .int (nI 0), .int (nI 0), .long ab, .long be, .ref maa, .ref mab, .ref mba, .ref mbb]))] (xQl D (fun (r : Int64) (_u : Unit) => r = 3) (fun (_u : Unit) => [(hm, .inr (12, [.ref ms, .ref mkp, .int (nI 0), .ref mtr, .int (nI 4), .int (nI 2), .int (nI 2), .int (nI 3), .int (nI 2), .int (nI 1), .ref mas, .int (nI 0), .int (nI 0), .int (nI 0), .ref mso, .ref mon, .ref mot, .ref man, .int (nI 0), .int (nI 0), .ref mst, .ref msm, .ref mtb, .ref mti, .ref mfr, .ref mbn, .ref mbs, .ref mde, .int (nI 0), .int (nI 0), .int (nI 0), .int (nI 0), .long ab, .long be, .ref maa, .ref mab, .ref mba, .ref mbb]))])) := by
  refine xMet.intro (by decide) (Nat.le_of_ble_eq_true rfl) ?_
  intro p e s m args below meth c A ls C hP hD hS hl
  have hx := C.1
  have hb := C.2.1
  have hz := C.2.2.2.2.1
  have hown := C.2.2.2.1
  have hA := C.2.2.2.2.2.2.2.2.2
  have hAO := C.2.2.2.2.2.2.2.2.1.2.2
  replace hl : lv_has ls 2 [(0, .ref hm), (1, .int (nI 1))] := hl
  obtain ⟨H, hH⟩ : ∃ H, H = s.heap := ⟨_, rfl⟩
  replace hP : va_P D vwCl [(hm, .inr (12, [.ref ms, .ref mkp, .int (nI 0), .ref mtr, .int (nI 4), .int (nI 2), .int (nI 2), .int (nI 3), .int (nI 2), .int (nI 1), .ref mas, .int (nI 0), .int (nI 0), .int (nI 0), .ref mso, .ref mon, .ref mot, .ref man, .int (nI 0), .int (nI 0), .ref mst, .ref msm, .ref mtb, .ref mti, .ref mfr, .ref mbn, .ref mbs, .ref mde, .int (nI 0), .int (nI 0), .int (nI 0), .int (nI 0), .long ab, .long be, .ref maa, .ref mab, .ref mba, .ref mbb]))] H := by rw [hH]; exact hP
  replace hS : va_S A s.heap H [] := by rw [hH]; exact hS
  obtain ⟨locs, hlocs⟩ : ∃ z : List Loc, z = [] := ⟨_, rfl⟩
  rw [← hlocs] at hS
  suffices hW : W p l e ({ frames := 2, cells := 0, slots := 0, locals := 48 } : Room) s m args below meth c H locs 0 0 (MQ below ((xQl D (fun (r : Int64) (_u : Unit) => r = 3) (fun (_u : Unit) => [(hm, .inr (12, [.ref ms, .ref mkp, .int (nI 0), .ref mtr, .int (nI 4), .int (nI 2), .int (nI 2), .int (nI 3), .int (nI 2), .int (nI 1), .ref mas, .int (nI 0), .int (nI 0), .int (nI 0), .ref mso, .ref mon, .ref mot, .ref man, .int (nI 0), .int (nI 0), .ref mst, .ref msm, .ref mtb, .ref mti, .ref mfr, .ref mbn, .ref mbs, .ref mde, .int (nI 0), .int (nI 0), .int (nI 0), .int (nI 0), .long ab, .long be, .ref maa, .ref mab, .ref mba, .ref mbb]))])) A) args s 0 0 A) (F0 m 0 ls []) by rw [hlocs, hH] at hW; exact hW
  clear hH hlocs
  refine lv_iload_n hx hb dX12_down_0 rfl (lv_at hl 1 rfl) ?_
  refine lv_i2l hx hb dX12_down_1 rfl ?_
  refine lv_aload_n hx hb dX12_down_2 rfl (lv_at hl 0 rfl) ?_
  refine lv_aload_n hx hb dX12_down_3 rfl (lv_at hl 0 rfl) ?_
  refine xget C hP 0 rfl rfl zuX12 4 (by decide) zw5_217 rfl dX12_down_4 ?_
  refine lv_iload_n hx hb dX12_down_7 rfl (lv_at hl 1 rfl) ?_
  refine lv_isub hx hb dX12_down_8 ?_
  refine lv_topi (nm_r (e' := nI 3) (by decide) ?_)
  refine xl (wr := []) (xV (As := [.int (nI 3)]) (rest := [.long ((nI 1).toInt64)]) C (c_X12_enough_3 l D cs hm ms mkp mtr mas mso mon mot man mst msm mtb mti mfr mbn mbs mde maa mab mba mbb ab be) kX12_273 hP hD [0] rfl (by decide +kernel) 0 rfl rfl rfl ⟨Nat.le_of_ble_eq_true rfl, Nat.le_of_ble_eq_true rfl⟩ rfl hl.1 rfl (Nat.le_of_ble_eq_true rfl) dX12_down_9 ⟨Nat.le_of_ble_eq_true rfl, Nat.le_of_ble_eq_true rfl⟩) hP hD hS hA [0] [] rfl rfl (by decide +kernel) (by decide +kernel) ?_
  clear hP hD hS
  try clear locs
  try clear H
  intro r_1 u_2 H locs hw_r_1 hP hD hS
  have hw_r_1 : r_1 = 3 := hw_r_1
  refine W.widen (k := 0) (n := 0) (Nat.le_of_ble_eq_true rfl) (Nat.le_of_ble_eq_true rfl) ?_
  replace hP : va_P D vwCl [(hm, .inr (12, [.ref ms, .ref mkp, .int (nI 0), .ref mtr, .int (nI 4), .int (nI 2), .int (nI 2), .int (nI 3), .int (nI 2), .int (nI 1), .ref mas, .int (nI 0), .int (nI 0), .int (nI 0), .ref mso, .ref mon, .ref mot, .ref man, .int (nI 0), .int (nI 0), .ref mst, .ref msm, .ref mtb, .ref mti, .ref mfr, .ref mbn, .ref mbs, .ref mde, .int (nI 0), .int (nI 0), .int (nI 0), .int (nI 0), .long ab, .long be, .ref maa, .ref mab, .ref mba, .ref mbb]))] H := hP
  replace hD : va_D A [(hm, .inr (12, [.ref ms, .ref mkp, .int (nI 0), .ref mtr, .int (nI 4), .int (nI 2), .int (nI 2), .int (nI 3), .int (nI 2), .int (nI 1), .ref mas, .int (nI 0), .int (nI 0), .int (nI 0), .ref mso, .ref mon, .ref mot, .ref man, .int (nI 0), .int (nI 0), .ref mst, .ref msm, .ref mtb, .ref mti, .ref mfr, .ref mbn, .ref mbs, .ref mde, .int (nI 0), .int (nI 0), .int (nI 0), .int (nI 0), .long ab, .long be, .ref maa, .ref mab, .ref mba, .ref mbb]))] := hD
  subst hw_r_1
  refine lv_lmul hx hb dX12_down_12 ?_
  refine lv_topl (nm_r (e' := 3) (by decide) ?_)
  exact xretl C () rfl hP hD hS (Nat.le_of_ble_eq_true rfl) (Nat.le_of_ble_eq_true rfl) dX12_down_13

set_option maxHeartbeats 4000000 in
set_option maxRecDepth 100000 in
theorem c_X12_up_2 (l : Launch) (D : va_G) (cs : Nat → ClassId) (hm ms mkp mtr mas mso mon mot man mst msm mtb mti mfr mbn mbs mde maa mab mba mbb : Nat) (ab be : Int64) : xMet l D cs yX12_up cX12_up 2 (some .long) ({ frames := 2, cells := 0, slots := 0, locals := 48 } : Room) [.ref hm, .int (nI 2)] [(hm, .inr (12, [.ref ms, .ref mkp, .int (nI 0), .ref mtr, .int (nI 4), .int (nI 2), .int (nI 2), .int (nI 3), .int (nI 2), .int (nI 1), .ref mas, .int (nI 0), .int (nI 0), .int (nI 0), .ref mso, .ref mon, .ref mot, .ref man, .int (nI 0), .int (nI 0), .ref mst, .ref msm, .ref mtb, .ref mti, .ref mfr, .ref mbn, .ref mbs, .ref mde, .int (nI 0), .int (nI 0), .int (nI 0), .int (nI 0), .long ab, .long be, .ref maa, .ref mab, .ref mba, .ref mbb]))] (xQl D (fun (r : Int64) (_u : Unit) => r = 2) (fun (_u : Unit) => [(hm, .inr (12, [.ref ms, .ref mkp, .int (nI 0), .ref mtr, .int (nI 4), .int (nI 2), .int (nI 2), .int (nI 3), .int (nI 2), .int (nI 1), .ref mas, .int (nI 0), .int (nI 0), .int (nI 0), .ref mso, .ref mon, .ref mot, .ref man, .int (nI 0), .int (nI 0), .ref mst, .ref msm, .ref mtb, .ref mti, .ref mfr, .ref mbn, .ref mbs, .ref mde, .int (nI 0), .int (nI 0), .int (nI 0), .int (nI 0), .long ab, .long be, .ref maa, .ref mab, .ref mba, .ref mbb]))])) := by
  refine xMet.intro (by decide) (Nat.le_of_ble_eq_true rfl) ?_
  intro p e s m args below meth c A ls C hP hD hS hl
  have hx := C.1
  have hb := C.2.1
  have hz := C.2.2.2.2.1
  have hown := C.2.2.2.1
  have hA := C.2.2.2.2.2.2.2.2.2
  have hAO := C.2.2.2.2.2.2.2.2.1.2.2
  replace hl : lv_has ls 2 [(0, .ref hm), (1, .int (nI 2))] := hl
  obtain ⟨H, hH⟩ : ∃ H, H = s.heap := ⟨_, rfl⟩
  replace hP : va_P D vwCl [(hm, .inr (12, [.ref ms, .ref mkp, .int (nI 0), .ref mtr, .int (nI 4), .int (nI 2), .int (nI 2), .int (nI 3), .int (nI 2), .int (nI 1), .ref mas, .int (nI 0), .int (nI 0), .int (nI 0), .ref mso, .ref mon, .ref mot, .ref man, .int (nI 0), .int (nI 0), .ref mst, .ref msm, .ref mtb, .ref mti, .ref mfr, .ref mbn, .ref mbs, .ref mde, .int (nI 0), .int (nI 0), .int (nI 0), .int (nI 0), .long ab, .long be, .ref maa, .ref mab, .ref mba, .ref mbb]))] H := by rw [hH]; exact hP
  replace hS : va_S A s.heap H [] := by rw [hH]; exact hS
  obtain ⟨locs, hlocs⟩ : ∃ z : List Loc, z = [] := ⟨_, rfl⟩
  rw [← hlocs] at hS
  suffices hW : W p l e ({ frames := 2, cells := 0, slots := 0, locals := 48 } : Room) s m args below meth c H locs 0 0 (MQ below ((xQl D (fun (r : Int64) (_u : Unit) => r = 2) (fun (_u : Unit) => [(hm, .inr (12, [.ref ms, .ref mkp, .int (nI 0), .ref mtr, .int (nI 4), .int (nI 2), .int (nI 2), .int (nI 3), .int (nI 2), .int (nI 1), .ref mas, .int (nI 0), .int (nI 0), .int (nI 0), .ref mso, .ref mon, .ref mot, .ref man, .int (nI 0), .int (nI 0), .ref mst, .ref msm, .ref mtb, .ref mti, .ref mfr, .ref mbn, .ref mbs, .ref mde, .int (nI 0), .int (nI 0), .int (nI 0), .int (nI 0), .long ab, .long be, .ref maa, .ref mab, .ref mba, .ref mbb]))])) A) args s 0 0 A) (F0 m 0 ls []) by rw [hlocs, hH] at hW; exact hW
  clear hH hlocs
  refine lv_aload_n hx hb dX12_up_0 rfl (lv_at hl 0 rfl) ?_
  refine xget C hP 0 rfl rfl zuX12 4 (by decide) zw5_217 rfl dX12_up_1 ?_
  refine lv_iload_n hx hb dX12_up_4 rfl (lv_at hl 1 rfl) ?_
  refine lv_isub hx hb dX12_up_5 ?_
  refine lv_topi (nm_r (e' := nI 2) (by decide) ?_)
  refine lv_i2l hx hb dX12_up_6 rfl ?_
  refine lv_aload_n hx hb dX12_up_7 rfl (lv_at hl 0 rfl) ?_
  refine lv_iload_n hx hb dX12_up_8 rfl (lv_at hl 1 rfl) ?_
  refine xl (wr := []) (xV (As := [.int (nI 2)]) (rest := [.long ((nI 2).toInt64)]) C (c_X12_enough_2 l D cs hm ms mkp mtr mas mso mon mot man mst msm mtb mti mfr mbn mbs mde maa mab mba mbb ab be) kX12_273 hP hD [0] rfl (by decide +kernel) 0 rfl rfl rfl ⟨Nat.le_of_ble_eq_true rfl, Nat.le_of_ble_eq_true rfl⟩ rfl hl.1 rfl (Nat.le_of_ble_eq_true rfl) dX12_up_9 ⟨Nat.le_of_ble_eq_true rfl, Nat.le_of_ble_eq_true rfl⟩) hP hD hS hA [0] [] rfl rfl (by decide +kernel) (by decide +kernel) ?_
  clear hP hD hS
  try clear locs
  try clear H
  intro r_1 u_2 H locs hw_r_1 hP hD hS
  have hw_r_1 : r_1 = 1 := hw_r_1
  refine W.widen (k := 0) (n := 0) (Nat.le_of_ble_eq_true rfl) (Nat.le_of_ble_eq_true rfl) ?_
  replace hP : va_P D vwCl [(hm, .inr (12, [.ref ms, .ref mkp, .int (nI 0), .ref mtr, .int (nI 4), .int (nI 2), .int (nI 2), .int (nI 3), .int (nI 2), .int (nI 1), .ref mas, .int (nI 0), .int (nI 0), .int (nI 0), .ref mso, .ref mon, .ref mot, .ref man, .int (nI 0), .int (nI 0), .ref mst, .ref msm, .ref mtb, .ref mti, .ref mfr, .ref mbn, .ref mbs, .ref mde, .int (nI 0), .int (nI 0), .int (nI 0), .int (nI 0), .long ab, .long be, .ref maa, .ref mab, .ref mba, .ref mbb]))] H := hP
  replace hD : va_D A [(hm, .inr (12, [.ref ms, .ref mkp, .int (nI 0), .ref mtr, .int (nI 4), .int (nI 2), .int (nI 2), .int (nI 3), .int (nI 2), .int (nI 1), .ref mas, .int (nI 0), .int (nI 0), .int (nI 0), .ref mso, .ref mon, .ref mot, .ref man, .int (nI 0), .int (nI 0), .ref mst, .ref msm, .ref mtb, .ref mti, .ref mfr, .ref mbn, .ref mbs, .ref mde, .int (nI 0), .int (nI 0), .int (nI 0), .int (nI 0), .long ab, .long be, .ref maa, .ref mab, .ref mba, .ref mbb]))] := hD
  subst hw_r_1
  refine lv_lmul hx hb dX12_up_12 ?_
  refine lv_topl (nm_r (e' := 2) (by decide) ?_)
  exact xretl C () rfl hP hD hS (Nat.le_of_ble_eq_true rfl) (Nat.le_of_ble_eq_true rfl) dX12_up_13

set_option maxHeartbeats 4000000 in
set_option maxRecDepth 100000 in
theorem c_X12_down_2 (l : Launch) (D : va_G) (cs : Nat → ClassId) (hm ms mkp mtr mas mso mon mot man mst msm mtb mti mfr mbn mbs mde maa mab mba mbb : Nat) (ab be : Int64) : xMet l D cs yX12_down cX12_down 2 (some .long) ({ frames := 2, cells := 0, slots := 0, locals := 48 } : Room) [.ref hm, .int (nI 2)] [(hm, .inr (12, [.ref ms, .ref mkp, .int (nI 0), .ref mtr, .int (nI 4), .int (nI 2), .int (nI 2), .int (nI 3), .int (nI 2), .int (nI 1), .ref mas, .int (nI 0), .int (nI 0), .int (nI 0), .ref mso, .ref mon, .ref mot, .ref man, .int (nI 0), .int (nI 0), .ref mst, .ref msm, .ref mtb, .ref mti, .ref mfr, .ref mbn, .ref mbs, .ref mde, .int (nI 0), .int (nI 0), .int (nI 0), .int (nI 0), .long ab, .long be, .ref maa, .ref mab, .ref mba, .ref mbb]))] (xQl D (fun (r : Int64) (_u : Unit) => r = 2) (fun (_u : Unit) => [(hm, .inr (12, [.ref ms, .ref mkp, .int (nI 0), .ref mtr, .int (nI 4), .int (nI 2), .int (nI 2), .int (nI 3), .int (nI 2), .int (nI 1), .ref mas, .int (nI 0), .int (nI 0), .int (nI 0), .ref mso, .ref mon, .ref mot, .ref man, .int (nI 0), .int (nI 0), .ref mst, .ref msm, .ref mtb, .ref mti, .ref mfr, .ref mbn, .ref mbs, .ref mde, .int (nI 0), .int (nI 0), .int (nI 0), .int (nI 0), .long ab, .long be, .ref maa, .ref mab, .ref mba, .ref mbb]))])) := by
  refine xMet.intro (by decide) (Nat.le_of_ble_eq_true rfl) ?_
  intro p e s m args below meth c A ls C hP hD hS hl
  have hx := C.1
  have hb := C.2.1
  have hz := C.2.2.2.2.1
  have hown := C.2.2.2.1
  have hA := C.2.2.2.2.2.2.2.2.2
  have hAO := C.2.2.2.2.2.2.2.2.1.2.2
  replace hl : lv_has ls 2 [(0, .ref hm), (1, .int (nI 2))] := hl
  obtain ⟨H, hH⟩ : ∃ H, H = s.heap := ⟨_, rfl⟩
  replace hP : va_P D vwCl [(hm, .inr (12, [.ref ms, .ref mkp, .int (nI 0), .ref mtr, .int (nI 4), .int (nI 2), .int (nI 2), .int (nI 3), .int (nI 2), .int (nI 1), .ref mas, .int (nI 0), .int (nI 0), .int (nI 0), .ref mso, .ref mon, .ref mot, .ref man, .int (nI 0), .int (nI 0), .ref mst, .ref msm, .ref mtb, .ref mti, .ref mfr, .ref mbn, .ref mbs, .ref mde, .int (nI 0), .int (nI 0), .int (nI 0), .int (nI 0), .long ab, .long be, .ref maa, .ref mab, .ref mba, .ref mbb]))] H := by rw [hH]; exact hP
  replace hS : va_S A s.heap H [] := by rw [hH]; exact hS
  obtain ⟨locs, hlocs⟩ : ∃ z : List Loc, z = [] := ⟨_, rfl⟩
  rw [← hlocs] at hS
  suffices hW : W p l e ({ frames := 2, cells := 0, slots := 0, locals := 48 } : Room) s m args below meth c H locs 0 0 (MQ below ((xQl D (fun (r : Int64) (_u : Unit) => r = 2) (fun (_u : Unit) => [(hm, .inr (12, [.ref ms, .ref mkp, .int (nI 0), .ref mtr, .int (nI 4), .int (nI 2), .int (nI 2), .int (nI 3), .int (nI 2), .int (nI 1), .ref mas, .int (nI 0), .int (nI 0), .int (nI 0), .ref mso, .ref mon, .ref mot, .ref man, .int (nI 0), .int (nI 0), .ref mst, .ref msm, .ref mtb, .ref mti, .ref mfr, .ref mbn, .ref mbs, .ref mde, .int (nI 0), .int (nI 0), .int (nI 0), .int (nI 0), .long ab, .long be, .ref maa, .ref mab, .ref mba, .ref mbb]))])) A) args s 0 0 A) (F0 m 0 ls []) by rw [hlocs, hH] at hW; exact hW
  clear hH hlocs
  refine lv_iload_n hx hb dX12_down_0 rfl (lv_at hl 1 rfl) ?_
  refine lv_i2l hx hb dX12_down_1 rfl ?_
  refine lv_aload_n hx hb dX12_down_2 rfl (lv_at hl 0 rfl) ?_
  refine lv_aload_n hx hb dX12_down_3 rfl (lv_at hl 0 rfl) ?_
  refine xget C hP 0 rfl rfl zuX12 4 (by decide) zw5_217 rfl dX12_down_4 ?_
  refine lv_iload_n hx hb dX12_down_7 rfl (lv_at hl 1 rfl) ?_
  refine lv_isub hx hb dX12_down_8 ?_
  refine lv_topi (nm_r (e' := nI 2) (by decide) ?_)
  refine xl (wr := []) (xV (As := [.int (nI 2)]) (rest := [.long ((nI 2).toInt64)]) C (c_X12_enough_2 l D cs hm ms mkp mtr mas mso mon mot man mst msm mtb mti mfr mbn mbs mde maa mab mba mbb ab be) kX12_273 hP hD [0] rfl (by decide +kernel) 0 rfl rfl rfl ⟨Nat.le_of_ble_eq_true rfl, Nat.le_of_ble_eq_true rfl⟩ rfl hl.1 rfl (Nat.le_of_ble_eq_true rfl) dX12_down_9 ⟨Nat.le_of_ble_eq_true rfl, Nat.le_of_ble_eq_true rfl⟩) hP hD hS hA [0] [] rfl rfl (by decide +kernel) (by decide +kernel) ?_
  clear hP hD hS
  try clear locs
  try clear H
  intro r_1 u_2 H locs hw_r_1 hP hD hS
  have hw_r_1 : r_1 = 1 := hw_r_1
  refine W.widen (k := 0) (n := 0) (Nat.le_of_ble_eq_true rfl) (Nat.le_of_ble_eq_true rfl) ?_
  replace hP : va_P D vwCl [(hm, .inr (12, [.ref ms, .ref mkp, .int (nI 0), .ref mtr, .int (nI 4), .int (nI 2), .int (nI 2), .int (nI 3), .int (nI 2), .int (nI 1), .ref mas, .int (nI 0), .int (nI 0), .int (nI 0), .ref mso, .ref mon, .ref mot, .ref man, .int (nI 0), .int (nI 0), .ref mst, .ref msm, .ref mtb, .ref mti, .ref mfr, .ref mbn, .ref mbs, .ref mde, .int (nI 0), .int (nI 0), .int (nI 0), .int (nI 0), .long ab, .long be, .ref maa, .ref mab, .ref mba, .ref mbb]))] H := hP
  replace hD : va_D A [(hm, .inr (12, [.ref ms, .ref mkp, .int (nI 0), .ref mtr, .int (nI 4), .int (nI 2), .int (nI 2), .int (nI 3), .int (nI 2), .int (nI 1), .ref mas, .int (nI 0), .int (nI 0), .int (nI 0), .ref mso, .ref mon, .ref mot, .ref man, .int (nI 0), .int (nI 0), .ref mst, .ref msm, .ref mtb, .ref mti, .ref mfr, .ref mbn, .ref mbs, .ref mde, .int (nI 0), .int (nI 0), .int (nI 0), .int (nI 0), .long ab, .long be, .ref maa, .ref mab, .ref mba, .ref mbb]))] := hD
  subst hw_r_1
  refine lv_lmul hx hb dX12_down_12 ?_
  refine lv_topl (nm_r (e' := 2) (by decide) ?_)
  exact xretl C () rfl hP hD hS (Nat.le_of_ble_eq_true rfl) (Nat.le_of_ble_eq_true rfl) dX12_down_13

set_option maxHeartbeats 4000000 in
set_option maxRecDepth 100000 in
theorem c_X12_up_3 (l : Launch) (D : va_G) (cs : Nat → ClassId) (hm ms mkp mtr mas mso mon mot man mst msm mtb mti mfr mbn mbs mde maa mab mba mbb : Nat) (ab be : Int64) : xMet l D cs yX12_up cX12_up 2 (some .long) ({ frames := 2, cells := 0, slots := 0, locals := 48 } : Room) [.ref hm, .int (nI 3)] [(hm, .inr (12, [.ref ms, .ref mkp, .int (nI 0), .ref mtr, .int (nI 4), .int (nI 2), .int (nI 2), .int (nI 3), .int (nI 2), .int (nI 1), .ref mas, .int (nI 0), .int (nI 0), .int (nI 0), .ref mso, .ref mon, .ref mot, .ref man, .int (nI 0), .int (nI 0), .ref mst, .ref msm, .ref mtb, .ref mti, .ref mfr, .ref mbn, .ref mbs, .ref mde, .int (nI 0), .int (nI 0), .int (nI 0), .int (nI 0), .long ab, .long be, .ref maa, .ref mab, .ref mba, .ref mbb]))] (xQl D (fun (r : Int64) (_u : Unit) => r = 3) (fun (_u : Unit) => [(hm, .inr (12, [.ref ms, .ref mkp, .int (nI 0), .ref mtr, .int (nI 4), .int (nI 2), .int (nI 2), .int (nI 3), .int (nI 2), .int (nI 1), .ref mas, .int (nI 0), .int (nI 0), .int (nI 0), .ref mso, .ref mon, .ref mot, .ref man, .int (nI 0), .int (nI 0), .ref mst, .ref msm, .ref mtb, .ref mti, .ref mfr, .ref mbn, .ref mbs, .ref mde, .int (nI 0), .int (nI 0), .int (nI 0), .int (nI 0), .long ab, .long be, .ref maa, .ref mab, .ref mba, .ref mbb]))])) := by
  refine xMet.intro (by decide) (Nat.le_of_ble_eq_true rfl) ?_
  intro p e s m args below meth c A ls C hP hD hS hl
  have hx := C.1
  have hb := C.2.1
  have hz := C.2.2.2.2.1
  have hown := C.2.2.2.1
  have hA := C.2.2.2.2.2.2.2.2.2
  have hAO := C.2.2.2.2.2.2.2.2.1.2.2
  replace hl : lv_has ls 2 [(0, .ref hm), (1, .int (nI 3))] := hl
  obtain ⟨H, hH⟩ : ∃ H, H = s.heap := ⟨_, rfl⟩
  replace hP : va_P D vwCl [(hm, .inr (12, [.ref ms, .ref mkp, .int (nI 0), .ref mtr, .int (nI 4), .int (nI 2), .int (nI 2), .int (nI 3), .int (nI 2), .int (nI 1), .ref mas, .int (nI 0), .int (nI 0), .int (nI 0), .ref mso, .ref mon, .ref mot, .ref man, .int (nI 0), .int (nI 0), .ref mst, .ref msm, .ref mtb, .ref mti, .ref mfr, .ref mbn, .ref mbs, .ref mde, .int (nI 0), .int (nI 0), .int (nI 0), .int (nI 0), .long ab, .long be, .ref maa, .ref mab, .ref mba, .ref mbb]))] H := by rw [hH]; exact hP
  replace hS : va_S A s.heap H [] := by rw [hH]; exact hS
  obtain ⟨locs, hlocs⟩ : ∃ z : List Loc, z = [] := ⟨_, rfl⟩
  rw [← hlocs] at hS
  suffices hW : W p l e ({ frames := 2, cells := 0, slots := 0, locals := 48 } : Room) s m args below meth c H locs 0 0 (MQ below ((xQl D (fun (r : Int64) (_u : Unit) => r = 3) (fun (_u : Unit) => [(hm, .inr (12, [.ref ms, .ref mkp, .int (nI 0), .ref mtr, .int (nI 4), .int (nI 2), .int (nI 2), .int (nI 3), .int (nI 2), .int (nI 1), .ref mas, .int (nI 0), .int (nI 0), .int (nI 0), .ref mso, .ref mon, .ref mot, .ref man, .int (nI 0), .int (nI 0), .ref mst, .ref msm, .ref mtb, .ref mti, .ref mfr, .ref mbn, .ref mbs, .ref mde, .int (nI 0), .int (nI 0), .int (nI 0), .int (nI 0), .long ab, .long be, .ref maa, .ref mab, .ref mba, .ref mbb]))])) A) args s 0 0 A) (F0 m 0 ls []) by rw [hlocs, hH] at hW; exact hW
  clear hH hlocs
  refine lv_aload_n hx hb dX12_up_0 rfl (lv_at hl 0 rfl) ?_
  refine xget C hP 0 rfl rfl zuX12 4 (by decide) zw5_217 rfl dX12_up_1 ?_
  refine lv_iload_n hx hb dX12_up_4 rfl (lv_at hl 1 rfl) ?_
  refine lv_isub hx hb dX12_up_5 ?_
  refine lv_topi (nm_r (e' := nI 1) (by decide) ?_)
  refine lv_i2l hx hb dX12_up_6 rfl ?_
  refine lv_aload_n hx hb dX12_up_7 rfl (lv_at hl 0 rfl) ?_
  refine lv_iload_n hx hb dX12_up_8 rfl (lv_at hl 1 rfl) ?_
  refine xl (wr := []) (xV (As := [.int (nI 3)]) (rest := [.long ((nI 1).toInt64)]) C (c_X12_enough_3 l D cs hm ms mkp mtr mas mso mon mot man mst msm mtb mti mfr mbn mbs mde maa mab mba mbb ab be) kX12_273 hP hD [0] rfl (by decide +kernel) 0 rfl rfl rfl ⟨Nat.le_of_ble_eq_true rfl, Nat.le_of_ble_eq_true rfl⟩ rfl hl.1 rfl (Nat.le_of_ble_eq_true rfl) dX12_up_9 ⟨Nat.le_of_ble_eq_true rfl, Nat.le_of_ble_eq_true rfl⟩) hP hD hS hA [0] [] rfl rfl (by decide +kernel) (by decide +kernel) ?_
  clear hP hD hS
  try clear locs
  try clear H
  intro r_1 u_2 H locs hw_r_1 hP hD hS
  have hw_r_1 : r_1 = 3 := hw_r_1
  refine W.widen (k := 0) (n := 0) (Nat.le_of_ble_eq_true rfl) (Nat.le_of_ble_eq_true rfl) ?_
  replace hP : va_P D vwCl [(hm, .inr (12, [.ref ms, .ref mkp, .int (nI 0), .ref mtr, .int (nI 4), .int (nI 2), .int (nI 2), .int (nI 3), .int (nI 2), .int (nI 1), .ref mas, .int (nI 0), .int (nI 0), .int (nI 0), .ref mso, .ref mon, .ref mot, .ref man, .int (nI 0), .int (nI 0), .ref mst, .ref msm, .ref mtb, .ref mti, .ref mfr, .ref mbn, .ref mbs, .ref mde, .int (nI 0), .int (nI 0), .int (nI 0), .int (nI 0), .long ab, .long be, .ref maa, .ref mab, .ref mba, .ref mbb]))] H := hP
  replace hD : va_D A [(hm, .inr (12, [.ref ms, .ref mkp, .int (nI 0), .ref mtr, .int (nI 4), .int (nI 2), .int (nI 2), .int (nI 3), .int (nI 2), .int (nI 1), .ref mas, .int (nI 0), .int (nI 0), .int (nI 0), .ref mso, .ref mon, .ref mot, .ref man, .int (nI 0), .int (nI 0), .ref mst, .ref msm, .ref mtb, .ref mti, .ref mfr, .ref mbn, .ref mbs, .ref mde, .int (nI 0), .int (nI 0), .int (nI 0), .int (nI 0), .long ab, .long be, .ref maa, .ref mab, .ref mba, .ref mbb]))] := hD
  subst hw_r_1
  refine lv_lmul hx hb dX12_up_12 ?_
  refine lv_topl (nm_r (e' := 3) (by decide) ?_)
  exact xretl C () rfl hP hD hS (Nat.le_of_ble_eq_true rfl) (Nat.le_of_ble_eq_true rfl) dX12_up_13

set_option maxHeartbeats 4000000 in
set_option maxRecDepth 100000 in
theorem c_X12_down_3 (l : Launch) (D : va_G) (cs : Nat → ClassId) (hm ms mkp mtr mas mso mon mot man mst msm mtb mti mfr mbn mbs mde maa mab mba mbb : Nat) (ab be : Int64) : xMet l D cs yX12_down cX12_down 2 (some .long) ({ frames := 2, cells := 0, slots := 0, locals := 48 } : Room) [.ref hm, .int (nI 3)] [(hm, .inr (12, [.ref ms, .ref mkp, .int (nI 0), .ref mtr, .int (nI 4), .int (nI 2), .int (nI 2), .int (nI 3), .int (nI 2), .int (nI 1), .ref mas, .int (nI 0), .int (nI 0), .int (nI 0), .ref mso, .ref mon, .ref mot, .ref man, .int (nI 0), .int (nI 0), .ref mst, .ref msm, .ref mtb, .ref mti, .ref mfr, .ref mbn, .ref mbs, .ref mde, .int (nI 0), .int (nI 0), .int (nI 0), .int (nI 0), .long ab, .long be, .ref maa, .ref mab, .ref mba, .ref mbb]))] (xQl D (fun (r : Int64) (_u : Unit) => r = 0) (fun (_u : Unit) => [(hm, .inr (12, [.ref ms, .ref mkp, .int (nI 0), .ref mtr, .int (nI 4), .int (nI 2), .int (nI 2), .int (nI 3), .int (nI 2), .int (nI 1), .ref mas, .int (nI 0), .int (nI 0), .int (nI 0), .ref mso, .ref mon, .ref mot, .ref man, .int (nI 0), .int (nI 0), .ref mst, .ref msm, .ref mtb, .ref mti, .ref mfr, .ref mbn, .ref mbs, .ref mde, .int (nI 0), .int (nI 0), .int (nI 0), .int (nI 0), .long ab, .long be, .ref maa, .ref mab, .ref mba, .ref mbb]))])) := by
  refine xMet.intro (by decide) (Nat.le_of_ble_eq_true rfl) ?_
  intro p e s m args below meth c A ls C hP hD hS hl
  have hx := C.1
  have hb := C.2.1
  have hz := C.2.2.2.2.1
  have hown := C.2.2.2.1
  have hA := C.2.2.2.2.2.2.2.2.2
  have hAO := C.2.2.2.2.2.2.2.2.1.2.2
  replace hl : lv_has ls 2 [(0, .ref hm), (1, .int (nI 3))] := hl
  obtain ⟨H, hH⟩ : ∃ H, H = s.heap := ⟨_, rfl⟩
  replace hP : va_P D vwCl [(hm, .inr (12, [.ref ms, .ref mkp, .int (nI 0), .ref mtr, .int (nI 4), .int (nI 2), .int (nI 2), .int (nI 3), .int (nI 2), .int (nI 1), .ref mas, .int (nI 0), .int (nI 0), .int (nI 0), .ref mso, .ref mon, .ref mot, .ref man, .int (nI 0), .int (nI 0), .ref mst, .ref msm, .ref mtb, .ref mti, .ref mfr, .ref mbn, .ref mbs, .ref mde, .int (nI 0), .int (nI 0), .int (nI 0), .int (nI 0), .long ab, .long be, .ref maa, .ref mab, .ref mba, .ref mbb]))] H := by rw [hH]; exact hP
  replace hS : va_S A s.heap H [] := by rw [hH]; exact hS
  obtain ⟨locs, hlocs⟩ : ∃ z : List Loc, z = [] := ⟨_, rfl⟩
  rw [← hlocs] at hS
  suffices hW : W p l e ({ frames := 2, cells := 0, slots := 0, locals := 48 } : Room) s m args below meth c H locs 0 0 (MQ below ((xQl D (fun (r : Int64) (_u : Unit) => r = 0) (fun (_u : Unit) => [(hm, .inr (12, [.ref ms, .ref mkp, .int (nI 0), .ref mtr, .int (nI 4), .int (nI 2), .int (nI 2), .int (nI 3), .int (nI 2), .int (nI 1), .ref mas, .int (nI 0), .int (nI 0), .int (nI 0), .ref mso, .ref mon, .ref mot, .ref man, .int (nI 0), .int (nI 0), .ref mst, .ref msm, .ref mtb, .ref mti, .ref mfr, .ref mbn, .ref mbs, .ref mde, .int (nI 0), .int (nI 0), .int (nI 0), .int (nI 0), .long ab, .long be, .ref maa, .ref mab, .ref mba, .ref mbb]))])) A) args s 0 0 A) (F0 m 0 ls []) by rw [hlocs, hH] at hW; exact hW
  clear hH hlocs
  refine lv_iload_n hx hb dX12_down_0 rfl (lv_at hl 1 rfl) ?_
  refine lv_i2l hx hb dX12_down_1 rfl ?_
  refine lv_aload_n hx hb dX12_down_2 rfl (lv_at hl 0 rfl) ?_
  refine lv_aload_n hx hb dX12_down_3 rfl (lv_at hl 0 rfl) ?_
  refine xget C hP 0 rfl rfl zuX12 4 (by decide) zw5_217 rfl dX12_down_4 ?_
  refine lv_iload_n hx hb dX12_down_7 rfl (lv_at hl 1 rfl) ?_
  refine lv_isub hx hb dX12_down_8 ?_
  refine lv_topi (nm_r (e' := nI 1) (by decide) ?_)
  refine xl (wr := []) (xV (As := [.int (nI 1)]) (rest := [.long ((nI 3).toInt64)]) C (c_X12_enough_1 l D cs hm ms mkp mtr mas mso mon mot man mst msm mtb mti mfr mbn mbs mde maa mab mba mbb ab be) kX12_273 hP hD [0] rfl (by decide +kernel) 0 rfl rfl rfl ⟨Nat.le_of_ble_eq_true rfl, Nat.le_of_ble_eq_true rfl⟩ rfl hl.1 rfl (Nat.le_of_ble_eq_true rfl) dX12_down_9 ⟨Nat.le_of_ble_eq_true rfl, Nat.le_of_ble_eq_true rfl⟩) hP hD hS hA [0] [] rfl rfl (by decide +kernel) (by decide +kernel) ?_
  clear hP hD hS
  try clear locs
  try clear H
  intro r_1 u_2 H locs hw_r_1 hP hD hS
  have hw_r_1 : r_1 = 0 := hw_r_1
  refine W.widen (k := 0) (n := 0) (Nat.le_of_ble_eq_true rfl) (Nat.le_of_ble_eq_true rfl) ?_
  replace hP : va_P D vwCl [(hm, .inr (12, [.ref ms, .ref mkp, .int (nI 0), .ref mtr, .int (nI 4), .int (nI 2), .int (nI 2), .int (nI 3), .int (nI 2), .int (nI 1), .ref mas, .int (nI 0), .int (nI 0), .int (nI 0), .ref mso, .ref mon, .ref mot, .ref man, .int (nI 0), .int (nI 0), .ref mst, .ref msm, .ref mtb, .ref mti, .ref mfr, .ref mbn, .ref mbs, .ref mde, .int (nI 0), .int (nI 0), .int (nI 0), .int (nI 0), .long ab, .long be, .ref maa, .ref mab, .ref mba, .ref mbb]))] H := hP
  replace hD : va_D A [(hm, .inr (12, [.ref ms, .ref mkp, .int (nI 0), .ref mtr, .int (nI 4), .int (nI 2), .int (nI 2), .int (nI 3), .int (nI 2), .int (nI 1), .ref mas, .int (nI 0), .int (nI 0), .int (nI 0), .ref mso, .ref mon, .ref mot, .ref man, .int (nI 0), .int (nI 0), .ref mst, .ref msm, .ref mtb, .ref mti, .ref mfr, .ref mbn, .ref mbs, .ref mde, .int (nI 0), .int (nI 0), .int (nI 0), .int (nI 0), .long ab, .long be, .ref maa, .ref mab, .ref mba, .ref mbb]))] := hD
  subst hw_r_1
  refine lv_lmul hx hb dX12_down_12 ?_
  refine lv_topl (nm_r (e' := 0) (by decide) ?_)
  exact xretl C () rfl hP hD hS (Nat.le_of_ble_eq_true rfl) (Nat.le_of_ble_eq_true rfl) dX12_down_13

set_option maxHeartbeats 4000000 in
set_option maxRecDepth 100000 in
theorem c_X12_samples_c (l : Launch) (D : va_G) (cs : Nat → ClassId) (hm ms mkp mtr mas mso mon mot man mst msm mtb mti mfr mbn mbs mde maa mab mba mbb : Nat) (ab be : Int64) : xMet l D cs yX12_samples cX12_samples 1 (some .long) ({ frames := 1, cells := 0, slots := 0, locals := 24 } : Room) [.ref hm] [(hm, .inr (12, [.ref ms, .ref mkp, .int (nI 0), .ref mtr, .int (nI 4), .int (nI 2), .int (nI 2), .int (nI 3), .int (nI 2), .int (nI 1), .ref mas, .int (nI 0), .int (nI 0), .int (nI 0), .ref mso, .ref mon, .ref mot, .ref man, .int (nI 0), .int (nI 0), .ref mst, .ref msm, .ref mtb, .ref mti, .ref mfr, .ref mbn, .ref mbs, .ref mde, .int (nI 0), .int (nI 0), .int (nI 0), .int (nI 0), .long ab, .long be, .ref maa, .ref mab, .ref mba, .ref mbb]))] (xQl D (fun (r : Int64) (_u : Unit) => r = 3) (fun (_u : Unit) => [(hm, .inr (12, [.ref ms, .ref mkp, .int (nI 0), .ref mtr, .int (nI 4), .int (nI 2), .int (nI 2), .int (nI 3), .int (nI 2), .int (nI 1), .ref mas, .int (nI 0), .int (nI 0), .int (nI 0), .ref mso, .ref mon, .ref mot, .ref man, .int (nI 0), .int (nI 0), .ref mst, .ref msm, .ref mtb, .ref mti, .ref mfr, .ref mbn, .ref mbs, .ref mde, .int (nI 0), .int (nI 0), .int (nI 0), .int (nI 0), .long ab, .long be, .ref maa, .ref mab, .ref mba, .ref mbb]))])) := by
  refine xMet.intro (by decide) (Nat.le_of_ble_eq_true rfl) ?_
  intro p e s m args below meth c A ls C hP hD hS hl
  have hx := C.1
  have hb := C.2.1
  have hz := C.2.2.2.2.1
  have hown := C.2.2.2.1
  have hA := C.2.2.2.2.2.2.2.2.2
  have hAO := C.2.2.2.2.2.2.2.2.1.2.2
  replace hl : lv_has ls 1 [(0, .ref hm)] := hl
  obtain ⟨H, hH⟩ : ∃ H, H = s.heap := ⟨_, rfl⟩
  replace hP : va_P D vwCl [(hm, .inr (12, [.ref ms, .ref mkp, .int (nI 0), .ref mtr, .int (nI 4), .int (nI 2), .int (nI 2), .int (nI 3), .int (nI 2), .int (nI 1), .ref mas, .int (nI 0), .int (nI 0), .int (nI 0), .ref mso, .ref mon, .ref mot, .ref man, .int (nI 0), .int (nI 0), .ref mst, .ref msm, .ref mtb, .ref mti, .ref mfr, .ref mbn, .ref mbs, .ref mde, .int (nI 0), .int (nI 0), .int (nI 0), .int (nI 0), .long ab, .long be, .ref maa, .ref mab, .ref mba, .ref mbb]))] H := by rw [hH]; exact hP
  replace hS : va_S A s.heap H [] := by rw [hH]; exact hS
  obtain ⟨locs, hlocs⟩ : ∃ z : List Loc, z = [] := ⟨_, rfl⟩
  rw [← hlocs] at hS
  suffices hW : W p l e ({ frames := 1, cells := 0, slots := 0, locals := 24 } : Room) s m args below meth c H locs 0 0 (MQ below ((xQl D (fun (r : Int64) (_u : Unit) => r = 3) (fun (_u : Unit) => [(hm, .inr (12, [.ref ms, .ref mkp, .int (nI 0), .ref mtr, .int (nI 4), .int (nI 2), .int (nI 2), .int (nI 3), .int (nI 2), .int (nI 1), .ref mas, .int (nI 0), .int (nI 0), .int (nI 0), .ref mso, .ref mon, .ref mot, .ref man, .int (nI 0), .int (nI 0), .ref mst, .ref msm, .ref mtb, .ref mti, .ref mfr, .ref mbn, .ref mbs, .ref mde, .int (nI 0), .int (nI 0), .int (nI 0), .int (nI 0), .long ab, .long be, .ref maa, .ref mab, .ref mba, .ref mbb]))])) A) args s 0 0 A) (F0 m 0 ls []) by rw [hlocs, hH] at hW; exact hW
  clear hH hlocs
  refine lv_aload_n hx hb dX12_samples_0 rfl (lv_at hl 0 rfl) ?_
  refine xget C hP 0 rfl rfl zuX12 4 (by decide) zw5_217 rfl dX12_samples_1 ?_
  refine lv_iconst (v := nI 1) hx hb dX12_samples_4 (by decide) ?_
  refine lv_isub hx hb dX12_samples_5 ?_
  refine lv_topi (nm_r (e' := nI 3) (by decide) ?_)
  refine lv_aload_n hx hb dX12_samples_6 rfl (lv_at hl 0 rfl) ?_
  refine xget C hP 0 rfl rfl zuX12 5 (by decide) zw5_218 rfl dX12_samples_7 ?_
  refine xl (wr := [(hm, .inr (12, [.ref ms, .ref mkp, .int (nI 0), .ref mtr, .int (nI 4), .int (nI 2), .int (nI 2), .int (nI 3), .int (nI 2), .int (nI 1), .ref mas, .int (nI 0), .int (nI 0), .int (nI 0), .ref mso, .ref mon, .ref mot, .ref man, .int (nI 0), .int (nI 0), .ref mst, .ref msm, .ref mtb, .ref mti, .ref mfr, .ref mbn, .ref mbs, .ref mde, .int (nI 0), .int (nI 0), .int (nI 0), .int (nI 0), .long ab, .long be, .ref maa, .ref mab, .ref mba, .ref mbb]))]) (xS (As := [.int (nI 3), .int (nI 2)]) (rest := []) C (c_X12_choose_3_2 l D cs 0) kX12_176 hP hD [] rfl (by decide +kernel) ⟨Nat.le_of_ble_eq_true rfl, Nat.le_of_ble_eq_true rfl⟩ rfl hl.1 rfl (Nat.le_of_ble_eq_true rfl) dX12_samples_10 ⟨Nat.le_of_ble_eq_true rfl, Nat.le_of_ble_eq_true rfl⟩) hP hD hS hA [] [0] rfl rfl (by decide +kernel) (by decide +kernel) ?_
  clear hP hD hS
  try clear locs
  try clear H
  intro r_1 u_2 H locs hw_r_1 hP hD hS
  have hw_r_1 : r_1 = 3 := hw_r_1
  refine W.widen (k := 0) (n := 0) (Nat.le_of_ble_eq_true rfl) (Nat.le_of_ble_eq_true rfl) ?_
  replace hP : va_P D vwCl [(hm, .inr (12, [.ref ms, .ref mkp, .int (nI 0), .ref mtr, .int (nI 4), .int (nI 2), .int (nI 2), .int (nI 3), .int (nI 2), .int (nI 1), .ref mas, .int (nI 0), .int (nI 0), .int (nI 0), .ref mso, .ref mon, .ref mot, .ref man, .int (nI 0), .int (nI 0), .ref mst, .ref msm, .ref mtb, .ref mti, .ref mfr, .ref mbn, .ref mbs, .ref mde, .int (nI 0), .int (nI 0), .int (nI 0), .int (nI 0), .long ab, .long be, .ref maa, .ref mab, .ref mba, .ref mbb]))] H := hP
  replace hD : va_D A [(hm, .inr (12, [.ref ms, .ref mkp, .int (nI 0), .ref mtr, .int (nI 4), .int (nI 2), .int (nI 2), .int (nI 3), .int (nI 2), .int (nI 1), .ref mas, .int (nI 0), .int (nI 0), .int (nI 0), .ref mso, .ref mon, .ref mot, .ref man, .int (nI 0), .int (nI 0), .ref mst, .ref msm, .ref mtb, .ref mti, .ref mfr, .ref mbn, .ref mbs, .ref mde, .int (nI 0), .int (nI 0), .int (nI 0), .int (nI 0), .long ab, .long be, .ref maa, .ref mab, .ref mba, .ref mbb]))] := hD
  subst hw_r_1
  exact xretl C () rfl hP hD hS (Nat.le_of_ble_eq_true rfl) (Nat.le_of_ble_eq_true rfl) dX12_samples_13

set_option maxHeartbeats 4000000 in
set_option maxRecDepth 100000 in
theorem c_X12_mayStay_0 (l : Launch) (D : va_G) (cs : Nat → ClassId) (hm ms mkp mtr mas mso mon mot man mst msm mtb mti mfr mbn mbs mde maa mab mba mbb : Nat) (ab be : Int64) : xMet l D cs yX12_mayStay cX12_mayStay 5 (some .boolean) ({ frames := 0, cells := 0, slots := 0, locals := 0 } : Room) [.ref hm, .int (nI 0)] [(hm, .inr (12, [.ref ms, .ref mkp, .int (nI 0), .ref mtr, .int (nI 4), .int (nI 2), .int (nI 2), .int (nI 3), .int (nI 2), .int (nI 1), .ref mas, .int (nI 0), .int (nI 0), .int (nI 0), .ref mso, .ref mon, .ref mot, .ref man, .int (nI 0), .int (nI 0), .ref mst, .ref msm, .ref mtb, .ref mti, .ref mfr, .ref mbn, .ref mbs, .ref mde, .int (nI 0), .int (nI 0), .int (nI 0), .int (nI 0), .long ab, .long be, .ref maa, .ref mab, .ref mba, .ref mbb]))] (xQi D (fun (r : Int32) (_u : Unit) => r = nI 0) (fun (_u : Unit) => [(hm, .inr (12, [.ref ms, .ref mkp, .int (nI 0), .ref mtr, .int (nI 4), .int (nI 2), .int (nI 2), .int (nI 3), .int (nI 2), .int (nI 1), .ref mas, .int (nI 0), .int (nI 0), .int (nI 0), .ref mso, .ref mon, .ref mot, .ref man, .int (nI 0), .int (nI 0), .ref mst, .ref msm, .ref mtb, .ref mti, .ref mfr, .ref mbn, .ref mbs, .ref mde, .int (nI 0), .int (nI 0), .int (nI 0), .int (nI 0), .long ab, .long be, .ref maa, .ref mab, .ref mba, .ref mbb]))])) := by
  refine xMet.intro (by decide) (Nat.le_of_ble_eq_true rfl) ?_
  intro p e s m args below meth c A ls C hP hD hS hl
  have hx := C.1
  have hb := C.2.1
  have hz := C.2.2.2.2.1
  have hown := C.2.2.2.1
  have hA := C.2.2.2.2.2.2.2.2.2
  have hAO := C.2.2.2.2.2.2.2.2.1.2.2
  replace hl : lv_has ls 5 [(0, .ref hm), (1, .int (nI 0))] := hl
  obtain ⟨H, hH⟩ : ∃ H, H = s.heap := ⟨_, rfl⟩
  replace hP : va_P D vwCl [(hm, .inr (12, [.ref ms, .ref mkp, .int (nI 0), .ref mtr, .int (nI 4), .int (nI 2), .int (nI 2), .int (nI 3), .int (nI 2), .int (nI 1), .ref mas, .int (nI 0), .int (nI 0), .int (nI 0), .ref mso, .ref mon, .ref mot, .ref man, .int (nI 0), .int (nI 0), .ref mst, .ref msm, .ref mtb, .ref mti, .ref mfr, .ref mbn, .ref mbs, .ref mde, .int (nI 0), .int (nI 0), .int (nI 0), .int (nI 0), .long ab, .long be, .ref maa, .ref mab, .ref mba, .ref mbb]))] H := by rw [hH]; exact hP
  replace hS : va_S A s.heap H [] := by rw [hH]; exact hS
  obtain ⟨locs, hlocs⟩ : ∃ z : List Loc, z = [] := ⟨_, rfl⟩
  rw [← hlocs] at hS
  suffices hW : W p l e ({ frames := 0, cells := 0, slots := 0, locals := 0 } : Room) s m args below meth c H locs 0 0 (MQ below ((xQi D (fun (r : Int32) (_u : Unit) => r = nI 0) (fun (_u : Unit) => [(hm, .inr (12, [.ref ms, .ref mkp, .int (nI 0), .ref mtr, .int (nI 4), .int (nI 2), .int (nI 2), .int (nI 3), .int (nI 2), .int (nI 1), .ref mas, .int (nI 0), .int (nI 0), .int (nI 0), .ref mso, .ref mon, .ref mot, .ref man, .int (nI 0), .int (nI 0), .ref mst, .ref msm, .ref mtb, .ref mti, .ref mfr, .ref mbn, .ref mbs, .ref mde, .int (nI 0), .int (nI 0), .int (nI 0), .int (nI 0), .long ab, .long be, .ref maa, .ref mab, .ref mba, .ref mbb]))])) A) args s 0 0 A) (F0 m 0 ls []) by rw [hlocs, hH] at hW; exact hW
  clear hH hlocs
  refine lv_iload_n hx hb dX12_mayStay_0 rfl (lv_at hl 1 rfl) ?_
  refine lv_if_eq (tgt := 12) hx hb dX12_mayStay_1 (by decide) (fun _ => ?_) (fun c => absurd (by decide) c)
  refine lv_iconst (v := nI 0) hx hb dX12_mayStay_12 (by decide) ?_
  exact xreti C () rfl hP hD hS (Nat.le_of_ble_eq_true rfl) (Nat.le_of_ble_eq_true rfl) (by decide) dX12_mayStay_13

set_option maxHeartbeats 4000000 in
set_option maxRecDepth 100000 in
theorem c_X12_mayStay_1 (l : Launch) (D : va_G) (cs : Nat → ClassId) (hm ms mkp mtr mas mso mon mot man mst msm mtb mti mfr mbn mbs mde maa mab mba mbb : Nat) (ab be : Int64) : xMet l D cs yX12_mayStay cX12_mayStay 5 (some .boolean) ({ frames := 3, cells := 0, slots := 0, locals := 69 } : Room) [.ref hm, .int (nI 1)] [(hm, .inr (12, [.ref ms, .ref mkp, .int (nI 0), .ref mtr, .int (nI 4), .int (nI 2), .int (nI 2), .int (nI 3), .int (nI 2), .int (nI 1), .ref mas, .int (nI 0), .int (nI 0), .int (nI 0), .ref mso, .ref mon, .ref mot, .ref man, .int (nI 0), .int (nI 0), .ref mst, .ref msm, .ref mtb, .ref mti, .ref mfr, .ref mbn, .ref mbs, .ref mde, .int (nI 0), .int (nI 0), .int (nI 0), .int (nI 0), .long ab, .long be, .ref maa, .ref mab, .ref mba, .ref mbb]))] (xQi D (fun (r : Int32) (_u : Unit) => r = nI 0) (fun (_u : Unit) => [(hm, .inr (12, [.ref ms, .ref mkp, .int (nI 0), .ref mtr, .int (nI 4), .int (nI 2), .int (nI 2), .int (nI 3), .int (nI 2), .int (nI 1), .ref mas, .int (nI 0), .int (nI 0), .int (nI 0), .ref mso, .ref mon, .ref mot, .ref man, .int (nI 0), .int (nI 0), .ref mst, .ref msm, .ref mtb, .ref mti, .ref mfr, .ref mbn, .ref mbs, .ref mde, .int (nI 0), .int (nI 0), .int (nI 0), .int (nI 0), .long ab, .long be, .ref maa, .ref mab, .ref mba, .ref mbb]))])) := by
  refine xMet.intro (by decide) (Nat.le_of_ble_eq_true rfl) ?_
  intro p e s m args below meth c A ls C hP hD hS hl
  have hx := C.1
  have hb := C.2.1
  have hz := C.2.2.2.2.1
  have hown := C.2.2.2.1
  have hA := C.2.2.2.2.2.2.2.2.2
  have hAO := C.2.2.2.2.2.2.2.2.1.2.2
  replace hl : lv_has ls 5 [(0, .ref hm), (1, .int (nI 1))] := hl
  obtain ⟨H, hH⟩ : ∃ H, H = s.heap := ⟨_, rfl⟩
  replace hP : va_P D vwCl [(hm, .inr (12, [.ref ms, .ref mkp, .int (nI 0), .ref mtr, .int (nI 4), .int (nI 2), .int (nI 2), .int (nI 3), .int (nI 2), .int (nI 1), .ref mas, .int (nI 0), .int (nI 0), .int (nI 0), .ref mso, .ref mon, .ref mot, .ref man, .int (nI 0), .int (nI 0), .ref mst, .ref msm, .ref mtb, .ref mti, .ref mfr, .ref mbn, .ref mbs, .ref mde, .int (nI 0), .int (nI 0), .int (nI 0), .int (nI 0), .long ab, .long be, .ref maa, .ref mab, .ref mba, .ref mbb]))] H := by rw [hH]; exact hP
  replace hS : va_S A s.heap H [] := by rw [hH]; exact hS
  obtain ⟨locs, hlocs⟩ : ∃ z : List Loc, z = [] := ⟨_, rfl⟩
  rw [← hlocs] at hS
  suffices hW : W p l e ({ frames := 3, cells := 0, slots := 0, locals := 69 } : Room) s m args below meth c H locs 0 0 (MQ below ((xQi D (fun (r : Int32) (_u : Unit) => r = nI 0) (fun (_u : Unit) => [(hm, .inr (12, [.ref ms, .ref mkp, .int (nI 0), .ref mtr, .int (nI 4), .int (nI 2), .int (nI 2), .int (nI 3), .int (nI 2), .int (nI 1), .ref mas, .int (nI 0), .int (nI 0), .int (nI 0), .ref mso, .ref mon, .ref mot, .ref man, .int (nI 0), .int (nI 0), .ref mst, .ref msm, .ref mtb, .ref mti, .ref mfr, .ref mbn, .ref mbs, .ref mde, .int (nI 0), .int (nI 0), .int (nI 0), .int (nI 0), .long ab, .long be, .ref maa, .ref mab, .ref mba, .ref mbb]))])) A) args s 0 0 A) (F0 m 0 ls []) by rw [hlocs, hH] at hW; exact hW
  clear hH hlocs
  refine lv_iload_n hx hb dX12_mayStay_0 rfl (lv_at hl 1 rfl) ?_
  refine lv_if_eq (tgt := 12) hx hb dX12_mayStay_1 (by decide) (fun c => absurd c (by decide)) (fun _ => ?_)
  refine lv_iload_n hx hb dX12_mayStay_4 rfl (lv_at hl 1 rfl) ?_
  refine lv_aload_n hx hb dX12_mayStay_5 rfl (lv_at hl 0 rfl) ?_
  refine xget C hP 0 rfl rfl zuX12 4 (by decide) zw5_217 rfl dX12_mayStay_6 ?_
  refine lv_icmp_ne (tgt := 14) hx hb dX12_mayStay_9 (by decide) (fun _ => ?_) (fun c => absurd c (by decide))
  refine lv_iload_n hx hb dX12_mayStay_14 rfl (lv_at hl 1 rfl) ?_
  refine lv_istore_n (lv' := [(2, .int (nI 1)), (0, .ref hm), (1, .int (nI 1))]) hx hb dX12_mayStay_15 rfl hl (by decide) rfl ?_
  clear hl
  try clear ls
  intro ls hl
  refine lv_iload_n hx hb dX12_mayStay_16 rfl (lv_at hl 0 rfl) ?_
  refine lv_if_le (tgt := 36) hx hb dX12_mayStay_17 (by decide) (fun c => absurd c (by decide)) (fun _ => ?_)
  refine lv_aload_n hx hb dX12_mayStay_20 rfl (lv_at hl 1 rfl) ?_
  refine lv_iload_n hx hb dX12_mayStay_21 rfl (lv_at hl 0 rfl) ?_
  refine xl (wr := []) (xV (As := [.int (nI 1)]) (rest := []) C (c_X12_down_1 l D cs hm ms mkp mtr mas mso mon mot man mst msm mtb mti mfr mbn mbs mde maa mab mba mbb ab be) kX12_283 hP hD [0] rfl (by decide +kernel) 0 rfl rfl rfl ⟨Nat.le_of_ble_eq_true rfl, Nat.le_of_ble_eq_true rfl⟩ rfl hl.1 rfl (Nat.le_of_ble_eq_true rfl) dX12_mayStay_22 ⟨Nat.le_of_ble_eq_true rfl, Nat.le_of_ble_eq_true rfl⟩) hP hD hS hA [0] [] rfl rfl (by decide +kernel) (by decide +kernel) ?_
  clear hP hD hS
  try clear locs
  try clear H
  intro r_1 u_2 H locs hw_r_1 hP hD hS
  have hw_r_1 : r_1 = 3 := hw_r_1
  refine W.widen (k := 0) (n := 0) (Nat.le_of_ble_eq_true rfl) (Nat.le_of_ble_eq_true rfl) ?_
  replace hP : va_P D vwCl [(hm, .inr (12, [.ref ms, .ref mkp, .int (nI 0), .ref mtr, .int (nI 4), .int (nI 2), .int (nI 2), .int (nI 3), .int (nI 2), .int (nI 1), .ref mas, .int (nI 0), .int (nI 0), .int (nI 0), .ref mso, .ref mon, .ref mot, .ref man, .int (nI 0), .int (nI 0), .ref mst, .ref msm, .ref mtb, .ref mti, .ref mfr, .ref mbn, .ref mbs, .ref mde, .int (nI 0), .int (nI 0), .int (nI 0), .int (nI 0), .long ab, .long be, .ref maa, .ref mab, .ref mba, .ref mbb]))] H := hP
  replace hD : va_D A [(hm, .inr (12, [.ref ms, .ref mkp, .int (nI 0), .ref mtr, .int (nI 4), .int (nI 2), .int (nI 2), .int (nI 3), .int (nI 2), .int (nI 1), .ref mas, .int (nI 0), .int (nI 0), .int (nI 0), .ref mso, .ref mon, .ref mot, .ref man, .int (nI 0), .int (nI 0), .ref mst, .ref msm, .ref mtb, .ref mti, .ref mfr, .ref mbn, .ref mbs, .ref mde, .int (nI 0), .int (nI 0), .int (nI 0), .int (nI 0), .long ab, .long be, .ref maa, .ref mab, .ref mba, .ref mbb]))] := hD
  subst hw_r_1
  refine lv_lconst (v := 0) hx hb dX12_mayStay_25 (by decide) ?_
  refine W.lcmp hx hb dX12_mayStay_26 ?_
  refine lv_if_le (tgt := 36) hx hb dX12_mayStay_27 (by decide) (fun c => absurd c (by decide)) (fun _ => ?_)
  refine lv_iinc (v := nI 0) (lv' := [(2, .int (nI 0)), (0, .ref hm), (1, .int (nI 1))]) hx hb dX12_mayStay_30 hl (k := 0) rfl (by decide) (by decide) rfl ?_
  clear hl
  try clear ls
  intro ls hl
  refine lv_goto (tgt := 16) hx hb dX12_mayStay_33 (by decide) ?_
  refine lv_iload_n hx hb dX12_mayStay_16 rfl (lv_at hl 0 rfl) ?_
  refine lv_if_le (tgt := 36) hx hb dX12_mayStay_17 (by decide) (fun _ => ?_) (fun c => absurd (by decide) c)
  refine lv_iload_n hx hb dX12_mayStay_36 rfl (lv_at hl 2 rfl) ?_
  refine lv_istore_n (lv' := [(3, .int (nI 1)), (2, .int (nI 0)), (0, .ref hm), (1, .int (nI 1))]) hx hb dX12_mayStay_37 rfl hl (by decide) rfl ?_
  clear hl
  try clear ls
  intro ls hl
  refine lv_iload_n hx hb dX12_mayStay_38 rfl (lv_at hl 0 rfl) ?_
  refine lv_aload_n hx hb dX12_mayStay_39 rfl (lv_at hl 2 rfl) ?_
  refine xget C hP 0 rfl rfl zuX12 4 (by decide) zw5_217 rfl dX12_mayStay_40 ?_
  refine lv_icmp_ge (tgt := 62) hx hb dX12_mayStay_43 (by decide) (fun c => absurd c (by decide)) (fun _ => ?_)
  refine lv_aload_n hx hb dX12_mayStay_46 rfl (lv_at hl 2 rfl) ?_
  refine lv_iload_n hx hb dX12_mayStay_47 rfl (lv_at hl 0 rfl) ?_
  refine xl (wr := []) (xV (As := [.int (nI 1)]) (rest := []) C (c_X12_up_1 l D cs hm ms mkp mtr mas mso mon mot man mst msm mtb mti mfr mbn mbs mde maa mab mba mbb ab be) kX12_280 hP hD [0] rfl (by decide +kernel) 0 rfl rfl rfl ⟨Nat.le_of_ble_eq_true rfl, Nat.le_of_ble_eq_true rfl⟩ rfl hl.1 rfl (Nat.le_of_ble_eq_true rfl) dX12_mayStay_48 ⟨Nat.le_of_ble_eq_true rfl, Nat.le_of_ble_eq_true rfl⟩) hP hD hS hA [0] [] rfl rfl (by decide +kernel) (by decide +kernel) ?_
  clear hP hD hS
  try clear locs
  try clear H
  intro r_3 u_4 H locs hw_r_3 hP hD hS
  have hw_r_3 : r_3 = 0 := hw_r_3
  refine W.widen (k := 0) (n := 0) (Nat.le_of_ble_eq_true rfl) (Nat.le_of_ble_eq_true rfl) ?_
  replace hP : va_P D vwCl [(hm, .inr (12, [.ref ms, .ref mkp, .int (nI 0), .ref mtr, .int (nI 4), .int (nI 2), .int (nI 2), .int (nI 3), .int (nI 2), .int (nI 1), .ref mas, .int (nI 0), .int (nI 0), .int (nI 0), .ref mso, .ref mon, .ref mot, .ref man, .int (nI 0), .int (nI 0), .ref mst, .ref msm, .ref mtb, .ref mti, .ref mfr, .ref mbn, .ref mbs, .ref mde, .int (nI 0), .int (nI 0), .int (nI 0), .int (nI 0), .long ab, .long be, .ref maa, .ref mab, .ref mba, .ref mbb]))] H := hP
  replace hD : va_D A [(hm, .inr (12, [.ref ms, .ref mkp, .int (nI 0), .ref mtr, .int (nI 4), .int (nI 2), .int (nI 2), .int (nI 3), .int (nI 2), .int (nI 1), .ref mas, .int (nI 0), .int (nI 0), .int (nI 0), .ref mso, .ref mon, .ref mot, .ref man, .int (nI 0), .int (nI 0), .ref mst, .ref msm, .ref mtb, .ref mti, .ref mfr, .ref mbn, .ref mbs, .ref mde, .int (nI 0), .int (nI 0), .int (nI 0), .int (nI 0), .long ab, .long be, .ref maa, .ref mab, .ref mba, .ref mbb]))] := hD
  subst hw_r_3
  refine lv_lconst (v := 0) hx hb dX12_mayStay_51 (by decide) ?_
  refine W.lcmp hx hb dX12_mayStay_52 ?_
  refine lv_if_le (tgt := 62) hx hb dX12_mayStay_53 (by decide) (fun _ => ?_) (fun c => absurd (by decide) c)
  refine lv_iload_n hx hb dX12_mayStay_62 rfl (lv_at hl 1 rfl) ?_
  refine lv_iconst (v := nI 1) hx hb dX12_mayStay_63 (by decide) ?_
  refine lv_icmp_le (tgt := 71) hx hb dX12_mayStay_64 (by decide) (fun _ => ?_) (fun c => absurd (by decide) c)
  refine lv_iconst (v := nI 1) hx hb dX12_mayStay_71 (by decide) ?_
  refine lv_istore (lv' := [(4, .int (nI 1)), (3, .int (nI 1)), (2, .int (nI 0)), (0, .ref hm), (1, .int (nI 1))]) hx hb dX12_mayStay_72 hl (by decide) rfl ?_
  clear hl
  try clear ls
  intro ls hl
  refine lv_iload hx hb dX12_mayStay_74 (lv_at hl 0 rfl) ?_
  refine lv_iload_n hx hb dX12_mayStay_76 rfl (lv_at hl 1 rfl) ?_
  refine lv_icmp_gt (tgt := 119) hx hb dX12_mayStay_77 (by decide) (fun c => absurd c (by decide)) (fun _ => ?_)
  refine lv_iload hx hb dX12_mayStay_80 (lv_at hl 0 rfl) ?_
  refine lv_aload_n hx hb dX12_mayStay_82 rfl (lv_at hl 3 rfl) ?_
  refine xget C hP 0 rfl rfl zuX12 4 (by decide) zw5_217 rfl dX12_mayStay_83 ?_
  refine lv_icmp_ge (tgt := 119) hx hb dX12_mayStay_86 (by decide) (fun c => absurd c (by decide)) (fun _ => ?_)
  refine lv_aload_n hx hb dX12_mayStay_89 rfl (lv_at hl 3 rfl) ?_
  refine lv_iload hx hb dX12_mayStay_90 (lv_at hl 0 rfl) ?_
  refine xl (wr := []) (xV (As := [.int (nI 1)]) (rest := []) C (c_X12_up_1 l D cs hm ms mkp mtr mas mso mon mot man mst msm mtb mti mfr mbn mbs mde maa mab mba mbb ab be) kX12_280 hP hD [0] rfl (by decide +kernel) 0 rfl rfl rfl ⟨Nat.le_of_ble_eq_true rfl, Nat.le_of_ble_eq_true rfl⟩ rfl hl.1 rfl (Nat.le_of_ble_eq_true rfl) dX12_mayStay_92 ⟨Nat.le_of_ble_eq_true rfl, Nat.le_of_ble_eq_true rfl⟩) hP hD hS hA [0] [] rfl rfl (by decide +kernel) (by decide +kernel) ?_
  clear hP hD hS
  try clear locs
  try clear H
  intro r_5 u_6 H locs hw_r_5 hP hD hS
  have hw_r_5 : r_5 = 0 := hw_r_5
  refine W.widen (k := 0) (n := 0) (Nat.le_of_ble_eq_true rfl) (Nat.le_of_ble_eq_true rfl) ?_
  replace hP : va_P D vwCl [(hm, .inr (12, [.ref ms, .ref mkp, .int (nI 0), .ref mtr, .int (nI 4), .int (nI 2), .int (nI 2), .int (nI 3), .int (nI 2), .int (nI 1), .ref mas, .int (nI 0), .int (nI 0), .int (nI 0), .ref mso, .ref mon, .ref mot, .ref man, .int (nI 0), .int (nI 0), .ref mst, .ref msm, .ref mtb, .ref mti, .ref mfr, .ref mbn, .ref mbs, .ref mde, .int (nI 0), .int (nI 0), .int (nI 0), .int (nI 0), .long ab, .long be, .ref maa, .ref mab, .ref mba, .ref mbb]))] H := hP
  replace hD : va_D A [(hm, .inr (12, [.ref ms, .ref mkp, .int (nI 0), .ref mtr, .int (nI 4), .int (nI 2), .int (nI 2), .int (nI 3), .int (nI 2), .int (nI 1), .ref mas, .int (nI 0), .int (nI 0), .int (nI 0), .ref mso, .ref mon, .ref mot, .ref man, .int (nI 0), .int (nI 0), .ref mst, .ref msm, .ref mtb, .ref mti, .ref mfr, .ref mbn, .ref mbs, .ref mde, .int (nI 0), .int (nI 0), .int (nI 0), .int (nI 0), .long ab, .long be, .ref maa, .ref mab, .ref mba, .ref mbb]))] := hD
  subst hw_r_5
  refine lv_lconst (v := 0) hx hb dX12_mayStay_95 (by decide) ?_
  refine W.lcmp hx hb dX12_mayStay_96 ?_
  refine lv_if_ne (tgt := 113) hx hb dX12_mayStay_97 (by decide) (fun c => absurd (by decide) c) (fun _ => ?_)
  refine lv_aload_n hx hb dX12_mayStay_100 rfl (lv_at hl 3 rfl) ?_
  refine lv_iload hx hb dX12_mayStay_101 (lv_at hl 0 rfl) ?_
  refine xl (wr := []) (xV (As := [.int (nI 1)]) (rest := []) C (c_X12_down_1 l D cs hm ms mkp mtr mas mso mon mot man mst msm mtb mti mfr mbn mbs mde maa mab mba mbb ab be) kX12_283 hP hD [0] rfl (by decide +kernel) 0 rfl rfl rfl ⟨Nat.le_of_ble_eq_true rfl, Nat.le_of_ble_eq_true rfl⟩ rfl hl.1 rfl (Nat.le_of_ble_eq_true rfl) dX12_mayStay_103 ⟨Nat.le_of_ble_eq_true rfl, Nat.le_of_ble_eq_true rfl⟩) hP hD hS hA [0] [] rfl rfl (by decide +kernel) (by decide +kernel) ?_
  clear hP hD hS
  try clear locs
  try clear H
  intro r_7 u_8 H locs hw_r_7 hP hD hS
  have hw_r_7 : r_7 = 3 := hw_r_7
  refine W.widen (k := 0) (n := 0) (Nat.le_of_ble_eq_true rfl) (Nat.le_of_ble_eq_true rfl) ?_
  replace hP : va_P D vwCl [(hm, .inr (12, [.ref ms, .ref mkp, .int (nI 0), .ref mtr, .int (nI 4), .int (nI 2), .int (nI 2), .int (nI 3), .int (nI 2), .int (nI 1), .ref mas, .int (nI 0), .int (nI 0), .int (nI 0), .ref mso, .ref mon, .ref mot, .ref man, .int (nI 0), .int (nI 0), .ref mst, .ref msm, .ref mtb, .ref mti, .ref mfr, .ref mbn, .ref mbs, .ref mde, .int (nI 0), .int (nI 0), .int (nI 0), .int (nI 0), .long ab, .long be, .ref maa, .ref mab, .ref mba, .ref mbb]))] H := hP
  replace hD : va_D A [(hm, .inr (12, [.ref ms, .ref mkp, .int (nI 0), .ref mtr, .int (nI 4), .int (nI 2), .int (nI 2), .int (nI 3), .int (nI 2), .int (nI 1), .ref mas, .int (nI 0), .int (nI 0), .int (nI 0), .ref mso, .ref mon, .ref mot, .ref man, .int (nI 0), .int (nI 0), .ref mst, .ref msm, .ref mtb, .ref mti, .ref mfr, .ref mbn, .ref mbs, .ref mde, .int (nI 0), .int (nI 0), .int (nI 0), .int (nI 0), .long ab, .long be, .ref maa, .ref mab, .ref mba, .ref mbb]))] := hD
  subst hw_r_7
  refine lv_lconst (v := 0) hx hb dX12_mayStay_106 (by decide) ?_
  refine W.lcmp hx hb dX12_mayStay_107 ?_
  refine lv_if_ne (tgt := 113) hx hb dX12_mayStay_108 (by decide) (fun _ => ?_) (fun c => absurd c (by decide))
  refine lv_iinc (v := nI 2) (lv' := [(4, .int (nI 2)), (3, .int (nI 1)), (2, .int (nI 0)), (0, .ref hm), (1, .int (nI 1))]) hx hb dX12_mayStay_113 hl (k := 0) rfl (by decide) (by decide) rfl ?_
  clear hl
  try clear ls
  intro ls hl
  refine lv_goto (tgt := 74) hx hb dX12_mayStay_116 (by decide) ?_
  refine lv_iload hx hb dX12_mayStay_74 (lv_at hl 0 rfl) ?_
  refine lv_iload_n hx hb dX12_mayStay_76 rfl (lv_at hl 1 rfl) ?_
  refine lv_icmp_gt (tgt := 119) hx hb dX12_mayStay_77 (by decide) (fun _ => ?_) (fun c => absurd (by decide) c)
  refine lv_iconst (v := nI 0) hx hb dX12_mayStay_119 (by decide) ?_
  exact xreti C () rfl hP hD hS (Nat.le_of_ble_eq_true rfl) (Nat.le_of_ble_eq_true rfl) (by decide) dX12_mayStay_120

set_option maxHeartbeats 4000000 in
set_option maxRecDepth 100000 in
theorem c_X12_mayStay_2 (l : Launch) (D : va_G) (cs : Nat → ClassId) (hm ms mkp mtr mas mso mon mot man mst msm mtb mti mfr mbn mbs mde maa mab mba mbb : Nat) (ab be : Int64) : xMet l D cs yX12_mayStay cX12_mayStay 5 (some .boolean) ({ frames := 3, cells := 0, slots := 0, locals := 69 } : Room) [.ref hm, .int (nI 2)] [(hm, .inr (12, [.ref ms, .ref mkp, .int (nI 0), .ref mtr, .int (nI 4), .int (nI 2), .int (nI 2), .int (nI 3), .int (nI 2), .int (nI 1), .ref mas, .int (nI 0), .int (nI 0), .int (nI 0), .ref mso, .ref mon, .ref mot, .ref man, .int (nI 0), .int (nI 0), .ref mst, .ref msm, .ref mtb, .ref mti, .ref mfr, .ref mbn, .ref mbs, .ref mde, .int (nI 0), .int (nI 0), .int (nI 0), .int (nI 0), .long ab, .long be, .ref maa, .ref mab, .ref mba, .ref mbb]))] (xQi D (fun (r : Int32) (_u : Unit) => r = nI 0) (fun (_u : Unit) => [(hm, .inr (12, [.ref ms, .ref mkp, .int (nI 0), .ref mtr, .int (nI 4), .int (nI 2), .int (nI 2), .int (nI 3), .int (nI 2), .int (nI 1), .ref mas, .int (nI 0), .int (nI 0), .int (nI 0), .ref mso, .ref mon, .ref mot, .ref man, .int (nI 0), .int (nI 0), .ref mst, .ref msm, .ref mtb, .ref mti, .ref mfr, .ref mbn, .ref mbs, .ref mde, .int (nI 0), .int (nI 0), .int (nI 0), .int (nI 0), .long ab, .long be, .ref maa, .ref mab, .ref mba, .ref mbb]))])) := by
  refine xMet.intro (by decide) (Nat.le_of_ble_eq_true rfl) ?_
  intro p e s m args below meth c A ls C hP hD hS hl
  have hx := C.1
  have hb := C.2.1
  have hz := C.2.2.2.2.1
  have hown := C.2.2.2.1
  have hA := C.2.2.2.2.2.2.2.2.2
  have hAO := C.2.2.2.2.2.2.2.2.1.2.2
  replace hl : lv_has ls 5 [(0, .ref hm), (1, .int (nI 2))] := hl
  obtain ⟨H, hH⟩ : ∃ H, H = s.heap := ⟨_, rfl⟩
  replace hP : va_P D vwCl [(hm, .inr (12, [.ref ms, .ref mkp, .int (nI 0), .ref mtr, .int (nI 4), .int (nI 2), .int (nI 2), .int (nI 3), .int (nI 2), .int (nI 1), .ref mas, .int (nI 0), .int (nI 0), .int (nI 0), .ref mso, .ref mon, .ref mot, .ref man, .int (nI 0), .int (nI 0), .ref mst, .ref msm, .ref mtb, .ref mti, .ref mfr, .ref mbn, .ref mbs, .ref mde, .int (nI 0), .int (nI 0), .int (nI 0), .int (nI 0), .long ab, .long be, .ref maa, .ref mab, .ref mba, .ref mbb]))] H := by rw [hH]; exact hP
  replace hS : va_S A s.heap H [] := by rw [hH]; exact hS
  obtain ⟨locs, hlocs⟩ : ∃ z : List Loc, z = [] := ⟨_, rfl⟩
  rw [← hlocs] at hS
  suffices hW : W p l e ({ frames := 3, cells := 0, slots := 0, locals := 69 } : Room) s m args below meth c H locs 0 0 (MQ below ((xQi D (fun (r : Int32) (_u : Unit) => r = nI 0) (fun (_u : Unit) => [(hm, .inr (12, [.ref ms, .ref mkp, .int (nI 0), .ref mtr, .int (nI 4), .int (nI 2), .int (nI 2), .int (nI 3), .int (nI 2), .int (nI 1), .ref mas, .int (nI 0), .int (nI 0), .int (nI 0), .ref mso, .ref mon, .ref mot, .ref man, .int (nI 0), .int (nI 0), .ref mst, .ref msm, .ref mtb, .ref mti, .ref mfr, .ref mbn, .ref mbs, .ref mde, .int (nI 0), .int (nI 0), .int (nI 0), .int (nI 0), .long ab, .long be, .ref maa, .ref mab, .ref mba, .ref mbb]))])) A) args s 0 0 A) (F0 m 0 ls []) by rw [hlocs, hH] at hW; exact hW
  clear hH hlocs
  refine lv_iload_n hx hb dX12_mayStay_0 rfl (lv_at hl 1 rfl) ?_
  refine lv_if_eq (tgt := 12) hx hb dX12_mayStay_1 (by decide) (fun c => absurd c (by decide)) (fun _ => ?_)
  refine lv_iload_n hx hb dX12_mayStay_4 rfl (lv_at hl 1 rfl) ?_
  refine lv_aload_n hx hb dX12_mayStay_5 rfl (lv_at hl 0 rfl) ?_
  refine xget C hP 0 rfl rfl zuX12 4 (by decide) zw5_217 rfl dX12_mayStay_6 ?_
  refine lv_icmp_ne (tgt := 14) hx hb dX12_mayStay_9 (by decide) (fun _ => ?_) (fun c => absurd c (by decide))
  refine lv_iload_n hx hb dX12_mayStay_14 rfl (lv_at hl 1 rfl) ?_
  refine lv_istore_n (lv' := [(2, .int (nI 2)), (0, .ref hm), (1, .int (nI 2))]) hx hb dX12_mayStay_15 rfl hl (by decide) rfl ?_
  clear hl
  try clear ls
  intro ls hl
  refine lv_iload_n hx hb dX12_mayStay_16 rfl (lv_at hl 0 rfl) ?_
  refine lv_if_le (tgt := 36) hx hb dX12_mayStay_17 (by decide) (fun c => absurd c (by decide)) (fun _ => ?_)
  refine lv_aload_n hx hb dX12_mayStay_20 rfl (lv_at hl 1 rfl) ?_
  refine lv_iload_n hx hb dX12_mayStay_21 rfl (lv_at hl 0 rfl) ?_
  refine xl (wr := []) (xV (As := [.int (nI 2)]) (rest := []) C (c_X12_down_2 l D cs hm ms mkp mtr mas mso mon mot man mst msm mtb mti mfr mbn mbs mde maa mab mba mbb ab be) kX12_283 hP hD [0] rfl (by decide +kernel) 0 rfl rfl rfl ⟨Nat.le_of_ble_eq_true rfl, Nat.le_of_ble_eq_true rfl⟩ rfl hl.1 rfl (Nat.le_of_ble_eq_true rfl) dX12_mayStay_22 ⟨Nat.le_of_ble_eq_true rfl, Nat.le_of_ble_eq_true rfl⟩) hP hD hS hA [0] [] rfl rfl (by decide +kernel) (by decide +kernel) ?_
  clear hP hD hS
  try clear locs
  try clear H
  intro r_1 u_2 H locs hw_r_1 hP hD hS
  have hw_r_1 : r_1 = 2 := hw_r_1
  refine W.widen (k := 0) (n := 0) (Nat.le_of_ble_eq_true rfl) (Nat.le_of_ble_eq_true rfl) ?_
  replace hP : va_P D vwCl [(hm, .inr (12, [.ref ms, .ref mkp, .int (nI 0), .ref mtr, .int (nI 4), .int (nI 2), .int (nI 2), .int (nI 3), .int (nI 2), .int (nI 1), .ref mas, .int (nI 0), .int (nI 0), .int (nI 0), .ref mso, .ref mon, .ref mot, .ref man, .int (nI 0), .int (nI 0), .ref mst, .ref msm, .ref mtb, .ref mti, .ref mfr, .ref mbn, .ref mbs, .ref mde, .int (nI 0), .int (nI 0), .int (nI 0), .int (nI 0), .long ab, .long be, .ref maa, .ref mab, .ref mba, .ref mbb]))] H := hP
  replace hD : va_D A [(hm, .inr (12, [.ref ms, .ref mkp, .int (nI 0), .ref mtr, .int (nI 4), .int (nI 2), .int (nI 2), .int (nI 3), .int (nI 2), .int (nI 1), .ref mas, .int (nI 0), .int (nI 0), .int (nI 0), .ref mso, .ref mon, .ref mot, .ref man, .int (nI 0), .int (nI 0), .ref mst, .ref msm, .ref mtb, .ref mti, .ref mfr, .ref mbn, .ref mbs, .ref mde, .int (nI 0), .int (nI 0), .int (nI 0), .int (nI 0), .long ab, .long be, .ref maa, .ref mab, .ref mba, .ref mbb]))] := hD
  subst hw_r_1
  refine lv_lconst (v := 0) hx hb dX12_mayStay_25 (by decide) ?_
  refine W.lcmp hx hb dX12_mayStay_26 ?_
  refine lv_if_le (tgt := 36) hx hb dX12_mayStay_27 (by decide) (fun c => absurd c (by decide)) (fun _ => ?_)
  refine lv_iinc (v := nI 1) (lv' := [(2, .int (nI 1)), (0, .ref hm), (1, .int (nI 2))]) hx hb dX12_mayStay_30 hl (k := 0) rfl (by decide) (by decide) rfl ?_
  clear hl
  try clear ls
  intro ls hl
  refine lv_goto (tgt := 16) hx hb dX12_mayStay_33 (by decide) ?_
  refine lv_iload_n hx hb dX12_mayStay_16 rfl (lv_at hl 0 rfl) ?_
  refine lv_if_le (tgt := 36) hx hb dX12_mayStay_17 (by decide) (fun c => absurd c (by decide)) (fun _ => ?_)
  refine lv_aload_n hx hb dX12_mayStay_20 rfl (lv_at hl 1 rfl) ?_
  refine lv_iload_n hx hb dX12_mayStay_21 rfl (lv_at hl 0 rfl) ?_
  refine xl (wr := []) (xV (As := [.int (nI 1)]) (rest := []) C (c_X12_down_1 l D cs hm ms mkp mtr mas mso mon mot man mst msm mtb mti mfr mbn mbs mde maa mab mba mbb ab be) kX12_283 hP hD [0] rfl (by decide +kernel) 0 rfl rfl rfl ⟨Nat.le_of_ble_eq_true rfl, Nat.le_of_ble_eq_true rfl⟩ rfl hl.1 rfl (Nat.le_of_ble_eq_true rfl) dX12_mayStay_22 ⟨Nat.le_of_ble_eq_true rfl, Nat.le_of_ble_eq_true rfl⟩) hP hD hS hA [0] [] rfl rfl (by decide +kernel) (by decide +kernel) ?_
  clear hP hD hS
  try clear locs
  try clear H
  intro r_3 u_4 H locs hw_r_3 hP hD hS
  have hw_r_3 : r_3 = 3 := hw_r_3
  refine W.widen (k := 0) (n := 0) (Nat.le_of_ble_eq_true rfl) (Nat.le_of_ble_eq_true rfl) ?_
  replace hP : va_P D vwCl [(hm, .inr (12, [.ref ms, .ref mkp, .int (nI 0), .ref mtr, .int (nI 4), .int (nI 2), .int (nI 2), .int (nI 3), .int (nI 2), .int (nI 1), .ref mas, .int (nI 0), .int (nI 0), .int (nI 0), .ref mso, .ref mon, .ref mot, .ref man, .int (nI 0), .int (nI 0), .ref mst, .ref msm, .ref mtb, .ref mti, .ref mfr, .ref mbn, .ref mbs, .ref mde, .int (nI 0), .int (nI 0), .int (nI 0), .int (nI 0), .long ab, .long be, .ref maa, .ref mab, .ref mba, .ref mbb]))] H := hP
  replace hD : va_D A [(hm, .inr (12, [.ref ms, .ref mkp, .int (nI 0), .ref mtr, .int (nI 4), .int (nI 2), .int (nI 2), .int (nI 3), .int (nI 2), .int (nI 1), .ref mas, .int (nI 0), .int (nI 0), .int (nI 0), .ref mso, .ref mon, .ref mot, .ref man, .int (nI 0), .int (nI 0), .ref mst, .ref msm, .ref mtb, .ref mti, .ref mfr, .ref mbn, .ref mbs, .ref mde, .int (nI 0), .int (nI 0), .int (nI 0), .int (nI 0), .long ab, .long be, .ref maa, .ref mab, .ref mba, .ref mbb]))] := hD
  subst hw_r_3
  refine lv_lconst (v := 0) hx hb dX12_mayStay_25 (by decide) ?_
  refine W.lcmp hx hb dX12_mayStay_26 ?_
  refine lv_if_le (tgt := 36) hx hb dX12_mayStay_27 (by decide) (fun c => absurd c (by decide)) (fun _ => ?_)
  refine lv_iinc (v := nI 0) (lv' := [(2, .int (nI 0)), (0, .ref hm), (1, .int (nI 2))]) hx hb dX12_mayStay_30 hl (k := 0) rfl (by decide) (by decide) rfl ?_
  clear hl
  try clear ls
  intro ls hl
  refine lv_goto (tgt := 16) hx hb dX12_mayStay_33 (by decide) ?_
  refine lv_iload_n hx hb dX12_mayStay_16 rfl (lv_at hl 0 rfl) ?_
  refine lv_if_le (tgt := 36) hx hb dX12_mayStay_17 (by decide) (fun _ => ?_) (fun c => absurd (by decide) c)
  refine lv_iload_n hx hb dX12_mayStay_36 rfl (lv_at hl 2 rfl) ?_
  refine lv_istore_n (lv' := [(3, .int (nI 2)), (2, .int (nI 0)), (0, .ref hm), (1, .int (nI 2))]) hx hb dX12_mayStay_37 rfl hl (by decide) rfl ?_
  clear hl
  try clear ls
  intro ls hl
  refine lv_iload_n hx hb dX12_mayStay_38 rfl (lv_at hl 0 rfl) ?_
  refine lv_aload_n hx hb dX12_mayStay_39 rfl (lv_at hl 2 rfl) ?_
  refine xget C hP 0 rfl rfl zuX12 4 (by decide) zw5_217 rfl dX12_mayStay_40 ?_
  refine lv_icmp_ge (tgt := 62) hx hb dX12_mayStay_43 (by decide) (fun c => absurd c (by decide)) (fun _ => ?_)
  refine lv_aload_n hx hb dX12_mayStay_46 rfl (lv_at hl 2 rfl) ?_
  refine lv_iload_n hx hb dX12_mayStay_47 rfl (lv_at hl 0 rfl) ?_
  refine xl (wr := []) (xV (As := [.int (nI 2)]) (rest := []) C (c_X12_up_2 l D cs hm ms mkp mtr mas mso mon mot man mst msm mtb mti mfr mbn mbs mde maa mab mba mbb ab be) kX12_280 hP hD [0] rfl (by decide +kernel) 0 rfl rfl rfl ⟨Nat.le_of_ble_eq_true rfl, Nat.le_of_ble_eq_true rfl⟩ rfl hl.1 rfl (Nat.le_of_ble_eq_true rfl) dX12_mayStay_48 ⟨Nat.le_of_ble_eq_true rfl, Nat.le_of_ble_eq_true rfl⟩) hP hD hS hA [0] [] rfl rfl (by decide +kernel) (by decide +kernel) ?_
  clear hP hD hS
  try clear locs
  try clear H
  intro r_5 u_6 H locs hw_r_5 hP hD hS
  have hw_r_5 : r_5 = 2 := hw_r_5
  refine W.widen (k := 0) (n := 0) (Nat.le_of_ble_eq_true rfl) (Nat.le_of_ble_eq_true rfl) ?_
  replace hP : va_P D vwCl [(hm, .inr (12, [.ref ms, .ref mkp, .int (nI 0), .ref mtr, .int (nI 4), .int (nI 2), .int (nI 2), .int (nI 3), .int (nI 2), .int (nI 1), .ref mas, .int (nI 0), .int (nI 0), .int (nI 0), .ref mso, .ref mon, .ref mot, .ref man, .int (nI 0), .int (nI 0), .ref mst, .ref msm, .ref mtb, .ref mti, .ref mfr, .ref mbn, .ref mbs, .ref mde, .int (nI 0), .int (nI 0), .int (nI 0), .int (nI 0), .long ab, .long be, .ref maa, .ref mab, .ref mba, .ref mbb]))] H := hP
  replace hD : va_D A [(hm, .inr (12, [.ref ms, .ref mkp, .int (nI 0), .ref mtr, .int (nI 4), .int (nI 2), .int (nI 2), .int (nI 3), .int (nI 2), .int (nI 1), .ref mas, .int (nI 0), .int (nI 0), .int (nI 0), .ref mso, .ref mon, .ref mot, .ref man, .int (nI 0), .int (nI 0), .ref mst, .ref msm, .ref mtb, .ref mti, .ref mfr, .ref mbn, .ref mbs, .ref mde, .int (nI 0), .int (nI 0), .int (nI 0), .int (nI 0), .long ab, .long be, .ref maa, .ref mab, .ref mba, .ref mbb]))] := hD
  subst hw_r_5
  refine lv_lconst (v := 0) hx hb dX12_mayStay_51 (by decide) ?_
  refine W.lcmp hx hb dX12_mayStay_52 ?_
  refine lv_if_le (tgt := 62) hx hb dX12_mayStay_53 (by decide) (fun c => absurd c (by decide)) (fun _ => ?_)
  refine lv_iinc (v := nI 3) (lv' := [(3, .int (nI 3)), (2, .int (nI 0)), (0, .ref hm), (1, .int (nI 2))]) hx hb dX12_mayStay_56 hl (k := 0) rfl (by decide) (by decide) rfl ?_
  clear hl
  try clear ls
  intro ls hl
  refine lv_goto (tgt := 38) hx hb dX12_mayStay_59 (by decide) ?_
  refine lv_iload_n hx hb dX12_mayStay_38 rfl (lv_at hl 0 rfl) ?_
  refine lv_aload_n hx hb dX12_mayStay_39 rfl (lv_at hl 2 rfl) ?_
  refine xget C hP 0 rfl rfl zuX12 4 (by decide) zw5_217 rfl dX12_mayStay_40 ?_
  refine lv_icmp_ge (tgt := 62) hx hb dX12_mayStay_43 (by decide) (fun c => absurd c (by decide)) (fun _ => ?_)
  refine lv_aload_n hx hb dX12_mayStay_46 rfl (lv_at hl 2 rfl) ?_
  refine lv_iload_n hx hb dX12_mayStay_47 rfl (lv_at hl 0 rfl) ?_
  refine xl (wr := []) (xV (As := [.int (nI 3)]) (rest := []) C (c_X12_up_3 l D cs hm ms mkp mtr mas mso mon mot man mst msm mtb mti mfr mbn mbs mde maa mab mba mbb ab be) kX12_280 hP hD [0] rfl (by decide +kernel) 0 rfl rfl rfl ⟨Nat.le_of_ble_eq_true rfl, Nat.le_of_ble_eq_true rfl⟩ rfl hl.1 rfl (Nat.le_of_ble_eq_true rfl) dX12_mayStay_48 ⟨Nat.le_of_ble_eq_true rfl, Nat.le_of_ble_eq_true rfl⟩) hP hD hS hA [0] [] rfl rfl (by decide +kernel) (by decide +kernel) ?_
  clear hP hD hS
  try clear locs
  try clear H
  intro r_7 u_8 H locs hw_r_7 hP hD hS
  have hw_r_7 : r_7 = 3 := hw_r_7
  refine W.widen (k := 0) (n := 0) (Nat.le_of_ble_eq_true rfl) (Nat.le_of_ble_eq_true rfl) ?_
  replace hP : va_P D vwCl [(hm, .inr (12, [.ref ms, .ref mkp, .int (nI 0), .ref mtr, .int (nI 4), .int (nI 2), .int (nI 2), .int (nI 3), .int (nI 2), .int (nI 1), .ref mas, .int (nI 0), .int (nI 0), .int (nI 0), .ref mso, .ref mon, .ref mot, .ref man, .int (nI 0), .int (nI 0), .ref mst, .ref msm, .ref mtb, .ref mti, .ref mfr, .ref mbn, .ref mbs, .ref mde, .int (nI 0), .int (nI 0), .int (nI 0), .int (nI 0), .long ab, .long be, .ref maa, .ref mab, .ref mba, .ref mbb]))] H := hP
  replace hD : va_D A [(hm, .inr (12, [.ref ms, .ref mkp, .int (nI 0), .ref mtr, .int (nI 4), .int (nI 2), .int (nI 2), .int (nI 3), .int (nI 2), .int (nI 1), .ref mas, .int (nI 0), .int (nI 0), .int (nI 0), .ref mso, .ref mon, .ref mot, .ref man, .int (nI 0), .int (nI 0), .ref mst, .ref msm, .ref mtb, .ref mti, .ref mfr, .ref mbn, .ref mbs, .ref mde, .int (nI 0), .int (nI 0), .int (nI 0), .int (nI 0), .long ab, .long be, .ref maa, .ref mab, .ref mba, .ref mbb]))] := hD
  subst hw_r_7
  refine lv_lconst (v := 0) hx hb dX12_mayStay_51 (by decide) ?_
  refine W.lcmp hx hb dX12_mayStay_52 ?_
  refine lv_if_le (tgt := 62) hx hb dX12_mayStay_53 (by decide) (fun c => absurd c (by decide)) (fun _ => ?_)
  refine lv_iinc (v := nI 4) (lv' := [(3, .int (nI 4)), (2, .int (nI 0)), (0, .ref hm), (1, .int (nI 2))]) hx hb dX12_mayStay_56 hl (k := 0) rfl (by decide) (by decide) rfl ?_
  clear hl
  try clear ls
  intro ls hl
  refine lv_goto (tgt := 38) hx hb dX12_mayStay_59 (by decide) ?_
  refine lv_iload_n hx hb dX12_mayStay_38 rfl (lv_at hl 0 rfl) ?_
  refine lv_aload_n hx hb dX12_mayStay_39 rfl (lv_at hl 2 rfl) ?_
  refine xget C hP 0 rfl rfl zuX12 4 (by decide) zw5_217 rfl dX12_mayStay_40 ?_
  refine lv_icmp_ge (tgt := 62) hx hb dX12_mayStay_43 (by decide) (fun _ => ?_) (fun c => absurd (by decide) c)
  refine lv_iload_n hx hb dX12_mayStay_62 rfl (lv_at hl 1 rfl) ?_
  refine lv_iconst (v := nI 1) hx hb dX12_mayStay_63 (by decide) ?_
  refine lv_icmp_le (tgt := 71) hx hb dX12_mayStay_64 (by decide) (fun _ => ?_) (fun c => absurd (by decide) c)
  refine lv_iconst (v := nI 1) hx hb dX12_mayStay_71 (by decide) ?_
  refine lv_istore (lv' := [(4, .int (nI 1)), (3, .int (nI 4)), (2, .int (nI 0)), (0, .ref hm), (1, .int (nI 2))]) hx hb dX12_mayStay_72 hl (by decide) rfl ?_
  clear hl
  try clear ls
  intro ls hl
  refine lv_iload hx hb dX12_mayStay_74 (lv_at hl 0 rfl) ?_
  refine lv_iload_n hx hb dX12_mayStay_76 rfl (lv_at hl 1 rfl) ?_
  refine lv_icmp_gt (tgt := 119) hx hb dX12_mayStay_77 (by decide) (fun c => absurd c (by decide)) (fun _ => ?_)
  refine lv_iload hx hb dX12_mayStay_80 (lv_at hl 0 rfl) ?_
  refine lv_aload_n hx hb dX12_mayStay_82 rfl (lv_at hl 3 rfl) ?_
  refine xget C hP 0 rfl rfl zuX12 4 (by decide) zw5_217 rfl dX12_mayStay_83 ?_
  refine lv_icmp_ge (tgt := 119) hx hb dX12_mayStay_86 (by decide) (fun c => absurd c (by decide)) (fun _ => ?_)
  refine lv_aload_n hx hb dX12_mayStay_89 rfl (lv_at hl 3 rfl) ?_
  refine lv_iload hx hb dX12_mayStay_90 (lv_at hl 0 rfl) ?_
  refine xl (wr := []) (xV (As := [.int (nI 1)]) (rest := []) C (c_X12_up_1 l D cs hm ms mkp mtr mas mso mon mot man mst msm mtb mti mfr mbn mbs mde maa mab mba mbb ab be) kX12_280 hP hD [0] rfl (by decide +kernel) 0 rfl rfl rfl ⟨Nat.le_of_ble_eq_true rfl, Nat.le_of_ble_eq_true rfl⟩ rfl hl.1 rfl (Nat.le_of_ble_eq_true rfl) dX12_mayStay_92 ⟨Nat.le_of_ble_eq_true rfl, Nat.le_of_ble_eq_true rfl⟩) hP hD hS hA [0] [] rfl rfl (by decide +kernel) (by decide +kernel) ?_
  clear hP hD hS
  try clear locs
  try clear H
  intro r_9 u_10 H locs hw_r_9 hP hD hS
  have hw_r_9 : r_9 = 0 := hw_r_9
  refine W.widen (k := 0) (n := 0) (Nat.le_of_ble_eq_true rfl) (Nat.le_of_ble_eq_true rfl) ?_
  replace hP : va_P D vwCl [(hm, .inr (12, [.ref ms, .ref mkp, .int (nI 0), .ref mtr, .int (nI 4), .int (nI 2), .int (nI 2), .int (nI 3), .int (nI 2), .int (nI 1), .ref mas, .int (nI 0), .int (nI 0), .int (nI 0), .ref mso, .ref mon, .ref mot, .ref man, .int (nI 0), .int (nI 0), .ref mst, .ref msm, .ref mtb, .ref mti, .ref mfr, .ref mbn, .ref mbs, .ref mde, .int (nI 0), .int (nI 0), .int (nI 0), .int (nI 0), .long ab, .long be, .ref maa, .ref mab, .ref mba, .ref mbb]))] H := hP
  replace hD : va_D A [(hm, .inr (12, [.ref ms, .ref mkp, .int (nI 0), .ref mtr, .int (nI 4), .int (nI 2), .int (nI 2), .int (nI 3), .int (nI 2), .int (nI 1), .ref mas, .int (nI 0), .int (nI 0), .int (nI 0), .ref mso, .ref mon, .ref mot, .ref man, .int (nI 0), .int (nI 0), .ref mst, .ref msm, .ref mtb, .ref mti, .ref mfr, .ref mbn, .ref mbs, .ref mde, .int (nI 0), .int (nI 0), .int (nI 0), .int (nI 0), .long ab, .long be, .ref maa, .ref mab, .ref mba, .ref mbb]))] := hD
  subst hw_r_9
  refine lv_lconst (v := 0) hx hb dX12_mayStay_95 (by decide) ?_
  refine W.lcmp hx hb dX12_mayStay_96 ?_
  refine lv_if_ne (tgt := 113) hx hb dX12_mayStay_97 (by decide) (fun c => absurd (by decide) c) (fun _ => ?_)
  refine lv_aload_n hx hb dX12_mayStay_100 rfl (lv_at hl 3 rfl) ?_
  refine lv_iload hx hb dX12_mayStay_101 (lv_at hl 0 rfl) ?_
  refine xl (wr := []) (xV (As := [.int (nI 1)]) (rest := []) C (c_X12_down_1 l D cs hm ms mkp mtr mas mso mon mot man mst msm mtb mti mfr mbn mbs mde maa mab mba mbb ab be) kX12_283 hP hD [0] rfl (by decide +kernel) 0 rfl rfl rfl ⟨Nat.le_of_ble_eq_true rfl, Nat.le_of_ble_eq_true rfl⟩ rfl hl.1 rfl (Nat.le_of_ble_eq_true rfl) dX12_mayStay_103 ⟨Nat.le_of_ble_eq_true rfl, Nat.le_of_ble_eq_true rfl⟩) hP hD hS hA [0] [] rfl rfl (by decide +kernel) (by decide +kernel) ?_
  clear hP hD hS
  try clear locs
  try clear H
  intro r_11 u_12 H locs hw_r_11 hP hD hS
  have hw_r_11 : r_11 = 3 := hw_r_11
  refine W.widen (k := 0) (n := 0) (Nat.le_of_ble_eq_true rfl) (Nat.le_of_ble_eq_true rfl) ?_
  replace hP : va_P D vwCl [(hm, .inr (12, [.ref ms, .ref mkp, .int (nI 0), .ref mtr, .int (nI 4), .int (nI 2), .int (nI 2), .int (nI 3), .int (nI 2), .int (nI 1), .ref mas, .int (nI 0), .int (nI 0), .int (nI 0), .ref mso, .ref mon, .ref mot, .ref man, .int (nI 0), .int (nI 0), .ref mst, .ref msm, .ref mtb, .ref mti, .ref mfr, .ref mbn, .ref mbs, .ref mde, .int (nI 0), .int (nI 0), .int (nI 0), .int (nI 0), .long ab, .long be, .ref maa, .ref mab, .ref mba, .ref mbb]))] H := hP
  replace hD : va_D A [(hm, .inr (12, [.ref ms, .ref mkp, .int (nI 0), .ref mtr, .int (nI 4), .int (nI 2), .int (nI 2), .int (nI 3), .int (nI 2), .int (nI 1), .ref mas, .int (nI 0), .int (nI 0), .int (nI 0), .ref mso, .ref mon, .ref mot, .ref man, .int (nI 0), .int (nI 0), .ref mst, .ref msm, .ref mtb, .ref mti, .ref mfr, .ref mbn, .ref mbs, .ref mde, .int (nI 0), .int (nI 0), .int (nI 0), .int (nI 0), .long ab, .long be, .ref maa, .ref mab, .ref mba, .ref mbb]))] := hD
  subst hw_r_11
  refine lv_lconst (v := 0) hx hb dX12_mayStay_106 (by decide) ?_
  refine W.lcmp hx hb dX12_mayStay_107 ?_
  refine lv_if_ne (tgt := 113) hx hb dX12_mayStay_108 (by decide) (fun _ => ?_) (fun c => absurd c (by decide))
  refine lv_iinc (v := nI 2) (lv' := [(4, .int (nI 2)), (3, .int (nI 4)), (2, .int (nI 0)), (0, .ref hm), (1, .int (nI 2))]) hx hb dX12_mayStay_113 hl (k := 0) rfl (by decide) (by decide) rfl ?_
  clear hl
  try clear ls
  intro ls hl
  refine lv_goto (tgt := 74) hx hb dX12_mayStay_116 (by decide) ?_
  refine lv_iload hx hb dX12_mayStay_74 (lv_at hl 0 rfl) ?_
  refine lv_iload_n hx hb dX12_mayStay_76 rfl (lv_at hl 1 rfl) ?_
  refine lv_icmp_gt (tgt := 119) hx hb dX12_mayStay_77 (by decide) (fun c => absurd c (by decide)) (fun _ => ?_)
  refine lv_iload hx hb dX12_mayStay_80 (lv_at hl 0 rfl) ?_
  refine lv_aload_n hx hb dX12_mayStay_82 rfl (lv_at hl 3 rfl) ?_
  refine xget C hP 0 rfl rfl zuX12 4 (by decide) zw5_217 rfl dX12_mayStay_83 ?_
  refine lv_icmp_ge (tgt := 119) hx hb dX12_mayStay_86 (by decide) (fun c => absurd c (by decide)) (fun _ => ?_)
  refine lv_aload_n hx hb dX12_mayStay_89 rfl (lv_at hl 3 rfl) ?_
  refine lv_iload hx hb dX12_mayStay_90 (lv_at hl 0 rfl) ?_
  refine xl (wr := []) (xV (As := [.int (nI 2)]) (rest := []) C (c_X12_up_2 l D cs hm ms mkp mtr mas mso mon mot man mst msm mtb mti mfr mbn mbs mde maa mab mba mbb ab be) kX12_280 hP hD [0] rfl (by decide +kernel) 0 rfl rfl rfl ⟨Nat.le_of_ble_eq_true rfl, Nat.le_of_ble_eq_true rfl⟩ rfl hl.1 rfl (Nat.le_of_ble_eq_true rfl) dX12_mayStay_92 ⟨Nat.le_of_ble_eq_true rfl, Nat.le_of_ble_eq_true rfl⟩) hP hD hS hA [0] [] rfl rfl (by decide +kernel) (by decide +kernel) ?_
  clear hP hD hS
  try clear locs
  try clear H
  intro r_13 u_14 H locs hw_r_13 hP hD hS
  have hw_r_13 : r_13 = 2 := hw_r_13
  refine W.widen (k := 0) (n := 0) (Nat.le_of_ble_eq_true rfl) (Nat.le_of_ble_eq_true rfl) ?_
  replace hP : va_P D vwCl [(hm, .inr (12, [.ref ms, .ref mkp, .int (nI 0), .ref mtr, .int (nI 4), .int (nI 2), .int (nI 2), .int (nI 3), .int (nI 2), .int (nI 1), .ref mas, .int (nI 0), .int (nI 0), .int (nI 0), .ref mso, .ref mon, .ref mot, .ref man, .int (nI 0), .int (nI 0), .ref mst, .ref msm, .ref mtb, .ref mti, .ref mfr, .ref mbn, .ref mbs, .ref mde, .int (nI 0), .int (nI 0), .int (nI 0), .int (nI 0), .long ab, .long be, .ref maa, .ref mab, .ref mba, .ref mbb]))] H := hP
  replace hD : va_D A [(hm, .inr (12, [.ref ms, .ref mkp, .int (nI 0), .ref mtr, .int (nI 4), .int (nI 2), .int (nI 2), .int (nI 3), .int (nI 2), .int (nI 1), .ref mas, .int (nI 0), .int (nI 0), .int (nI 0), .ref mso, .ref mon, .ref mot, .ref man, .int (nI 0), .int (nI 0), .ref mst, .ref msm, .ref mtb, .ref mti, .ref mfr, .ref mbn, .ref mbs, .ref mde, .int (nI 0), .int (nI 0), .int (nI 0), .int (nI 0), .long ab, .long be, .ref maa, .ref mab, .ref mba, .ref mbb]))] := hD
  subst hw_r_13
  refine lv_lconst (v := 0) hx hb dX12_mayStay_95 (by decide) ?_
  refine W.lcmp hx hb dX12_mayStay_96 ?_
  refine lv_if_ne (tgt := 113) hx hb dX12_mayStay_97 (by decide) (fun _ => ?_) (fun c => absurd c (by decide))
  refine lv_iinc (v := nI 3) (lv' := [(4, .int (nI 3)), (3, .int (nI 4)), (2, .int (nI 0)), (0, .ref hm), (1, .int (nI 2))]) hx hb dX12_mayStay_113 hl (k := 0) rfl (by decide) (by decide) rfl ?_
  clear hl
  try clear ls
  intro ls hl
  refine lv_goto (tgt := 74) hx hb dX12_mayStay_116 (by decide) ?_
  refine lv_iload hx hb dX12_mayStay_74 (lv_at hl 0 rfl) ?_
  refine lv_iload_n hx hb dX12_mayStay_76 rfl (lv_at hl 1 rfl) ?_
  refine lv_icmp_gt (tgt := 119) hx hb dX12_mayStay_77 (by decide) (fun c => absurd c (by decide)) (fun _ => ?_)
  refine lv_iload hx hb dX12_mayStay_80 (lv_at hl 0 rfl) ?_
  refine lv_aload_n hx hb dX12_mayStay_82 rfl (lv_at hl 3 rfl) ?_
  refine xget C hP 0 rfl rfl zuX12 4 (by decide) zw5_217 rfl dX12_mayStay_83 ?_
  refine lv_icmp_ge (tgt := 119) hx hb dX12_mayStay_86 (by decide) (fun c => absurd c (by decide)) (fun _ => ?_)
  refine lv_aload_n hx hb dX12_mayStay_89 rfl (lv_at hl 3 rfl) ?_
  refine lv_iload hx hb dX12_mayStay_90 (lv_at hl 0 rfl) ?_
  refine xl (wr := []) (xV (As := [.int (nI 3)]) (rest := []) C (c_X12_up_3 l D cs hm ms mkp mtr mas mso mon mot man mst msm mtb mti mfr mbn mbs mde maa mab mba mbb ab be) kX12_280 hP hD [0] rfl (by decide +kernel) 0 rfl rfl rfl ⟨Nat.le_of_ble_eq_true rfl, Nat.le_of_ble_eq_true rfl⟩ rfl hl.1 rfl (Nat.le_of_ble_eq_true rfl) dX12_mayStay_92 ⟨Nat.le_of_ble_eq_true rfl, Nat.le_of_ble_eq_true rfl⟩) hP hD hS hA [0] [] rfl rfl (by decide +kernel) (by decide +kernel) ?_
  clear hP hD hS
  try clear locs
  try clear H
  intro r_15 u_16 H locs hw_r_15 hP hD hS
  have hw_r_15 : r_15 = 3 := hw_r_15
  refine W.widen (k := 0) (n := 0) (Nat.le_of_ble_eq_true rfl) (Nat.le_of_ble_eq_true rfl) ?_
  replace hP : va_P D vwCl [(hm, .inr (12, [.ref ms, .ref mkp, .int (nI 0), .ref mtr, .int (nI 4), .int (nI 2), .int (nI 2), .int (nI 3), .int (nI 2), .int (nI 1), .ref mas, .int (nI 0), .int (nI 0), .int (nI 0), .ref mso, .ref mon, .ref mot, .ref man, .int (nI 0), .int (nI 0), .ref mst, .ref msm, .ref mtb, .ref mti, .ref mfr, .ref mbn, .ref mbs, .ref mde, .int (nI 0), .int (nI 0), .int (nI 0), .int (nI 0), .long ab, .long be, .ref maa, .ref mab, .ref mba, .ref mbb]))] H := hP
  replace hD : va_D A [(hm, .inr (12, [.ref ms, .ref mkp, .int (nI 0), .ref mtr, .int (nI 4), .int (nI 2), .int (nI 2), .int (nI 3), .int (nI 2), .int (nI 1), .ref mas, .int (nI 0), .int (nI 0), .int (nI 0), .ref mso, .ref mon, .ref mot, .ref man, .int (nI 0), .int (nI 0), .ref mst, .ref msm, .ref mtb, .ref mti, .ref mfr, .ref mbn, .ref mbs, .ref mde, .int (nI 0), .int (nI 0), .int (nI 0), .int (nI 0), .long ab, .long be, .ref maa, .ref mab, .ref mba, .ref mbb]))] := hD
  subst hw_r_15
  refine lv_lconst (v := 0) hx hb dX12_mayStay_95 (by decide) ?_
  refine W.lcmp hx hb dX12_mayStay_96 ?_
  refine lv_if_ne (tgt := 113) hx hb dX12_mayStay_97 (by decide) (fun _ => ?_) (fun c => absurd c (by decide))
  refine lv_iinc (v := nI 4) (lv' := [(4, .int (nI 4)), (3, .int (nI 4)), (2, .int (nI 0)), (0, .ref hm), (1, .int (nI 2))]) hx hb dX12_mayStay_113 hl (k := 0) rfl (by decide) (by decide) rfl ?_
  clear hl
  try clear ls
  intro ls hl
  refine lv_goto (tgt := 74) hx hb dX12_mayStay_116 (by decide) ?_
  refine lv_iload hx hb dX12_mayStay_74 (lv_at hl 0 rfl) ?_
  refine lv_iload_n hx hb dX12_mayStay_76 rfl (lv_at hl 1 rfl) ?_
  refine lv_icmp_gt (tgt := 119) hx hb dX12_mayStay_77 (by decide) (fun c => absurd c (by decide)) (fun _ => ?_)
  refine lv_iload hx hb dX12_mayStay_80 (lv_at hl 0 rfl) ?_
  refine lv_aload_n hx hb dX12_mayStay_82 rfl (lv_at hl 3 rfl) ?_
  refine xget C hP 0 rfl rfl zuX12 4 (by decide) zw5_217 rfl dX12_mayStay_83 ?_
  refine lv_icmp_ge (tgt := 119) hx hb dX12_mayStay_86 (by decide) (fun _ => ?_) (fun c => absurd (by decide) c)
  refine lv_iconst (v := nI 0) hx hb dX12_mayStay_119 (by decide) ?_
  exact xreti C () rfl hP hD hS (Nat.le_of_ble_eq_true rfl) (Nat.le_of_ble_eq_true rfl) (by decide) dX12_mayStay_120

set_option maxHeartbeats 4000000 in
set_option maxRecDepth 100000 in
theorem c_X12_mayStay_3 (l : Launch) (D : va_G) (cs : Nat → ClassId) (hm ms mkp mtr mas mso mon mot man mst msm mtb mti mfr mbn mbs mde maa mab mba mbb : Nat) (ab be : Int64) : xMet l D cs yX12_mayStay cX12_mayStay 5 (some .boolean) ({ frames := 3, cells := 0, slots := 0, locals := 69 } : Room) [.ref hm, .int (nI 3)] [(hm, .inr (12, [.ref ms, .ref mkp, .int (nI 0), .ref mtr, .int (nI 4), .int (nI 2), .int (nI 2), .int (nI 3), .int (nI 2), .int (nI 1), .ref mas, .int (nI 0), .int (nI 0), .int (nI 0), .ref mso, .ref mon, .ref mot, .ref man, .int (nI 0), .int (nI 0), .ref mst, .ref msm, .ref mtb, .ref mti, .ref mfr, .ref mbn, .ref mbs, .ref mde, .int (nI 0), .int (nI 0), .int (nI 0), .int (nI 0), .long ab, .long be, .ref maa, .ref mab, .ref mba, .ref mbb]))] (xQi D (fun (r : Int32) (_u : Unit) => r = nI 0) (fun (_u : Unit) => [(hm, .inr (12, [.ref ms, .ref mkp, .int (nI 0), .ref mtr, .int (nI 4), .int (nI 2), .int (nI 2), .int (nI 3), .int (nI 2), .int (nI 1), .ref mas, .int (nI 0), .int (nI 0), .int (nI 0), .ref mso, .ref mon, .ref mot, .ref man, .int (nI 0), .int (nI 0), .ref mst, .ref msm, .ref mtb, .ref mti, .ref mfr, .ref mbn, .ref mbs, .ref mde, .int (nI 0), .int (nI 0), .int (nI 0), .int (nI 0), .long ab, .long be, .ref maa, .ref mab, .ref mba, .ref mbb]))])) := by
  refine xMet.intro (by decide) (Nat.le_of_ble_eq_true rfl) ?_
  intro p e s m args below meth c A ls C hP hD hS hl
  have hx := C.1
  have hb := C.2.1
  have hz := C.2.2.2.2.1
  have hown := C.2.2.2.1
  have hA := C.2.2.2.2.2.2.2.2.2
  have hAO := C.2.2.2.2.2.2.2.2.1.2.2
  replace hl : lv_has ls 5 [(0, .ref hm), (1, .int (nI 3))] := hl
  obtain ⟨H, hH⟩ : ∃ H, H = s.heap := ⟨_, rfl⟩
  replace hP : va_P D vwCl [(hm, .inr (12, [.ref ms, .ref mkp, .int (nI 0), .ref mtr, .int (nI 4), .int (nI 2), .int (nI 2), .int (nI 3), .int (nI 2), .int (nI 1), .ref mas, .int (nI 0), .int (nI 0), .int (nI 0), .ref mso, .ref mon, .ref mot, .ref man, .int (nI 0), .int (nI 0), .ref mst, .ref msm, .ref mtb, .ref mti, .ref mfr, .ref mbn, .ref mbs, .ref mde, .int (nI 0), .int (nI 0), .int (nI 0), .int (nI 0), .long ab, .long be, .ref maa, .ref mab, .ref mba, .ref mbb]))] H := by rw [hH]; exact hP
  replace hS : va_S A s.heap H [] := by rw [hH]; exact hS
  obtain ⟨locs, hlocs⟩ : ∃ z : List Loc, z = [] := ⟨_, rfl⟩
  rw [← hlocs] at hS
  suffices hW : W p l e ({ frames := 3, cells := 0, slots := 0, locals := 69 } : Room) s m args below meth c H locs 0 0 (MQ below ((xQi D (fun (r : Int32) (_u : Unit) => r = nI 0) (fun (_u : Unit) => [(hm, .inr (12, [.ref ms, .ref mkp, .int (nI 0), .ref mtr, .int (nI 4), .int (nI 2), .int (nI 2), .int (nI 3), .int (nI 2), .int (nI 1), .ref mas, .int (nI 0), .int (nI 0), .int (nI 0), .ref mso, .ref mon, .ref mot, .ref man, .int (nI 0), .int (nI 0), .ref mst, .ref msm, .ref mtb, .ref mti, .ref mfr, .ref mbn, .ref mbs, .ref mde, .int (nI 0), .int (nI 0), .int (nI 0), .int (nI 0), .long ab, .long be, .ref maa, .ref mab, .ref mba, .ref mbb]))])) A) args s 0 0 A) (F0 m 0 ls []) by rw [hlocs, hH] at hW; exact hW
  clear hH hlocs
  refine lv_iload_n hx hb dX12_mayStay_0 rfl (lv_at hl 1 rfl) ?_
  refine lv_if_eq (tgt := 12) hx hb dX12_mayStay_1 (by decide) (fun c => absurd c (by decide)) (fun _ => ?_)
  refine lv_iload_n hx hb dX12_mayStay_4 rfl (lv_at hl 1 rfl) ?_
  refine lv_aload_n hx hb dX12_mayStay_5 rfl (lv_at hl 0 rfl) ?_
  refine xget C hP 0 rfl rfl zuX12 4 (by decide) zw5_217 rfl dX12_mayStay_6 ?_
  refine lv_icmp_ne (tgt := 14) hx hb dX12_mayStay_9 (by decide) (fun _ => ?_) (fun c => absurd c (by decide))
  refine lv_iload_n hx hb dX12_mayStay_14 rfl (lv_at hl 1 rfl) ?_
  refine lv_istore_n (lv' := [(2, .int (nI 3)), (0, .ref hm), (1, .int (nI 3))]) hx hb dX12_mayStay_15 rfl hl (by decide) rfl ?_
  clear hl
  try clear ls
  intro ls hl
  refine lv_iload_n hx hb dX12_mayStay_16 rfl (lv_at hl 0 rfl) ?_
  refine lv_if_le (tgt := 36) hx hb dX12_mayStay_17 (by decide) (fun c => absurd c (by decide)) (fun _ => ?_)
  refine lv_aload_n hx hb dX12_mayStay_20 rfl (lv_at hl 1 rfl) ?_
  refine lv_iload_n hx hb dX12_mayStay_21 rfl (lv_at hl 0 rfl) ?_
  refine xl (wr := []) (xV (As := [.int (nI 3)]) (rest := []) C (c_X12_down_3 l D cs hm ms mkp mtr mas mso mon mot man mst msm mtb mti mfr mbn mbs mde maa mab mba mbb ab be) kX12_283 hP hD [0] rfl (by decide +kernel) 0 rfl rfl rfl ⟨Nat.le_of_ble_eq_true rfl, Nat.le_of_ble_eq_true rfl⟩ rfl hl.1 rfl (Nat.le_of_ble_eq_true rfl) dX12_mayStay_22 ⟨Nat.le_of_ble_eq_true rfl, Nat.le_of_ble_eq_true rfl⟩) hP hD hS hA [0] [] rfl rfl (by decide +kernel) (by decide +kernel) ?_
  clear hP hD hS
  try clear locs
  try clear H
  intro r_1 u_2 H locs hw_r_1 hP hD hS
  have hw_r_1 : r_1 = 0 := hw_r_1
  refine W.widen (k := 0) (n := 0) (Nat.le_of_ble_eq_true rfl) (Nat.le_of_ble_eq_true rfl) ?_
  replace hP : va_P D vwCl [(hm, .inr (12, [.ref ms, .ref mkp, .int (nI 0), .ref mtr, .int (nI 4), .int (nI 2), .int (nI 2), .int (nI 3), .int (nI 2), .int (nI 1), .ref mas, .int (nI 0), .int (nI 0), .int (nI 0), .ref mso, .ref mon, .ref mot, .ref man, .int (nI 0), .int (nI 0), .ref mst, .ref msm, .ref mtb, .ref mti, .ref mfr, .ref mbn, .ref mbs, .ref mde, .int (nI 0), .int (nI 0), .int (nI 0), .int (nI 0), .long ab, .long be, .ref maa, .ref mab, .ref mba, .ref mbb]))] H := hP
  replace hD : va_D A [(hm, .inr (12, [.ref ms, .ref mkp, .int (nI 0), .ref mtr, .int (nI 4), .int (nI 2), .int (nI 2), .int (nI 3), .int (nI 2), .int (nI 1), .ref mas, .int (nI 0), .int (nI 0), .int (nI 0), .ref mso, .ref mon, .ref mot, .ref man, .int (nI 0), .int (nI 0), .ref mst, .ref msm, .ref mtb, .ref mti, .ref mfr, .ref mbn, .ref mbs, .ref mde, .int (nI 0), .int (nI 0), .int (nI 0), .int (nI 0), .long ab, .long be, .ref maa, .ref mab, .ref mba, .ref mbb]))] := hD
  subst hw_r_1
  refine lv_lconst (v := 0) hx hb dX12_mayStay_25 (by decide) ?_
  refine W.lcmp hx hb dX12_mayStay_26 ?_
  refine lv_if_le (tgt := 36) hx hb dX12_mayStay_27 (by decide) (fun _ => ?_) (fun c => absurd (by decide) c)
  refine lv_iload_n hx hb dX12_mayStay_36 rfl (lv_at hl 2 rfl) ?_
  refine lv_istore_n (lv' := [(3, .int (nI 3)), (2, .int (nI 3)), (0, .ref hm), (1, .int (nI 3))]) hx hb dX12_mayStay_37 rfl hl (by decide) rfl ?_
  clear hl
  try clear ls
  intro ls hl
  refine lv_iload_n hx hb dX12_mayStay_38 rfl (lv_at hl 0 rfl) ?_
  refine lv_aload_n hx hb dX12_mayStay_39 rfl (lv_at hl 2 rfl) ?_
  refine xget C hP 0 rfl rfl zuX12 4 (by decide) zw5_217 rfl dX12_mayStay_40 ?_
  refine lv_icmp_ge (tgt := 62) hx hb dX12_mayStay_43 (by decide) (fun c => absurd c (by decide)) (fun _ => ?_)
  refine lv_aload_n hx hb dX12_mayStay_46 rfl (lv_at hl 2 rfl) ?_
  refine lv_iload_n hx hb dX12_mayStay_47 rfl (lv_at hl 0 rfl) ?_
  refine xl (wr := []) (xV (As := [.int (nI 3)]) (rest := []) C (c_X12_up_3 l D cs hm ms mkp mtr mas mso mon mot man mst msm mtb mti mfr mbn mbs mde maa mab mba mbb ab be) kX12_280 hP hD [0] rfl (by decide +kernel) 0 rfl rfl rfl ⟨Nat.le_of_ble_eq_true rfl, Nat.le_of_ble_eq_true rfl⟩ rfl hl.1 rfl (Nat.le_of_ble_eq_true rfl) dX12_mayStay_48 ⟨Nat.le_of_ble_eq_true rfl, Nat.le_of_ble_eq_true rfl⟩) hP hD hS hA [0] [] rfl rfl (by decide +kernel) (by decide +kernel) ?_
  clear hP hD hS
  try clear locs
  try clear H
  intro r_3 u_4 H locs hw_r_3 hP hD hS
  have hw_r_3 : r_3 = 3 := hw_r_3
  refine W.widen (k := 0) (n := 0) (Nat.le_of_ble_eq_true rfl) (Nat.le_of_ble_eq_true rfl) ?_
  replace hP : va_P D vwCl [(hm, .inr (12, [.ref ms, .ref mkp, .int (nI 0), .ref mtr, .int (nI 4), .int (nI 2), .int (nI 2), .int (nI 3), .int (nI 2), .int (nI 1), .ref mas, .int (nI 0), .int (nI 0), .int (nI 0), .ref mso, .ref mon, .ref mot, .ref man, .int (nI 0), .int (nI 0), .ref mst, .ref msm, .ref mtb, .ref mti, .ref mfr, .ref mbn, .ref mbs, .ref mde, .int (nI 0), .int (nI 0), .int (nI 0), .int (nI 0), .long ab, .long be, .ref maa, .ref mab, .ref mba, .ref mbb]))] H := hP
  replace hD : va_D A [(hm, .inr (12, [.ref ms, .ref mkp, .int (nI 0), .ref mtr, .int (nI 4), .int (nI 2), .int (nI 2), .int (nI 3), .int (nI 2), .int (nI 1), .ref mas, .int (nI 0), .int (nI 0), .int (nI 0), .ref mso, .ref mon, .ref mot, .ref man, .int (nI 0), .int (nI 0), .ref mst, .ref msm, .ref mtb, .ref mti, .ref mfr, .ref mbn, .ref mbs, .ref mde, .int (nI 0), .int (nI 0), .int (nI 0), .int (nI 0), .long ab, .long be, .ref maa, .ref mab, .ref mba, .ref mbb]))] := hD
  subst hw_r_3
  refine lv_lconst (v := 0) hx hb dX12_mayStay_51 (by decide) ?_
  refine W.lcmp hx hb dX12_mayStay_52 ?_
  refine lv_if_le (tgt := 62) hx hb dX12_mayStay_53 (by decide) (fun c => absurd c (by decide)) (fun _ => ?_)
  refine lv_iinc (v := nI 4) (lv' := [(3, .int (nI 4)), (2, .int (nI 3)), (0, .ref hm), (1, .int (nI 3))]) hx hb dX12_mayStay_56 hl (k := 0) rfl (by decide) (by decide) rfl ?_
  clear hl
  try clear ls
  intro ls hl
  refine lv_goto (tgt := 38) hx hb dX12_mayStay_59 (by decide) ?_
  refine lv_iload_n hx hb dX12_mayStay_38 rfl (lv_at hl 0 rfl) ?_
  refine lv_aload_n hx hb dX12_mayStay_39 rfl (lv_at hl 2 rfl) ?_
  refine xget C hP 0 rfl rfl zuX12 4 (by decide) zw5_217 rfl dX12_mayStay_40 ?_
  refine lv_icmp_ge (tgt := 62) hx hb dX12_mayStay_43 (by decide) (fun _ => ?_) (fun c => absurd (by decide) c)
  refine lv_iload_n hx hb dX12_mayStay_62 rfl (lv_at hl 1 rfl) ?_
  refine lv_iconst (v := nI 1) hx hb dX12_mayStay_63 (by decide) ?_
  refine lv_icmp_le (tgt := 71) hx hb dX12_mayStay_64 (by decide) (fun c => absurd c (by decide)) (fun _ => ?_)
  refine lv_iload_n hx hb dX12_mayStay_67 rfl (lv_at hl 1 rfl) ?_
  refine lv_goto (tgt := 72) hx hb dX12_mayStay_68 (by decide) ?_
  refine lv_istore (lv' := [(4, .int (nI 3)), (3, .int (nI 4)), (2, .int (nI 3)), (0, .ref hm), (1, .int (nI 3))]) hx hb dX12_mayStay_72 hl (by decide) rfl ?_
  clear hl
  try clear ls
  intro ls hl
  refine lv_iload hx hb dX12_mayStay_74 (lv_at hl 0 rfl) ?_
  refine lv_iload_n hx hb dX12_mayStay_76 rfl (lv_at hl 1 rfl) ?_
  refine lv_icmp_gt (tgt := 119) hx hb dX12_mayStay_77 (by decide) (fun c => absurd c (by decide)) (fun _ => ?_)
  refine lv_iload hx hb dX12_mayStay_80 (lv_at hl 0 rfl) ?_
  refine lv_aload_n hx hb dX12_mayStay_82 rfl (lv_at hl 3 rfl) ?_
  refine xget C hP 0 rfl rfl zuX12 4 (by decide) zw5_217 rfl dX12_mayStay_83 ?_
  refine lv_icmp_ge (tgt := 119) hx hb dX12_mayStay_86 (by decide) (fun c => absurd c (by decide)) (fun _ => ?_)
  refine lv_aload_n hx hb dX12_mayStay_89 rfl (lv_at hl 3 rfl) ?_
  refine lv_iload hx hb dX12_mayStay_90 (lv_at hl 0 rfl) ?_
  refine xl (wr := []) (xV (As := [.int (nI 3)]) (rest := []) C (c_X12_up_3 l D cs hm ms mkp mtr mas mso mon mot man mst msm mtb mti mfr mbn mbs mde maa mab mba mbb ab be) kX12_280 hP hD [0] rfl (by decide +kernel) 0 rfl rfl rfl ⟨Nat.le_of_ble_eq_true rfl, Nat.le_of_ble_eq_true rfl⟩ rfl hl.1 rfl (Nat.le_of_ble_eq_true rfl) dX12_mayStay_92 ⟨Nat.le_of_ble_eq_true rfl, Nat.le_of_ble_eq_true rfl⟩) hP hD hS hA [0] [] rfl rfl (by decide +kernel) (by decide +kernel) ?_
  clear hP hD hS
  try clear locs
  try clear H
  intro r_5 u_6 H locs hw_r_5 hP hD hS
  have hw_r_5 : r_5 = 3 := hw_r_5
  refine W.widen (k := 0) (n := 0) (Nat.le_of_ble_eq_true rfl) (Nat.le_of_ble_eq_true rfl) ?_
  replace hP : va_P D vwCl [(hm, .inr (12, [.ref ms, .ref mkp, .int (nI 0), .ref mtr, .int (nI 4), .int (nI 2), .int (nI 2), .int (nI 3), .int (nI 2), .int (nI 1), .ref mas, .int (nI 0), .int (nI 0), .int (nI 0), .ref mso, .ref mon, .ref mot, .ref man, .int (nI 0), .int (nI 0), .ref mst, .ref msm, .ref mtb, .ref mti, .ref mfr, .ref mbn, .ref mbs, .ref mde, .int (nI 0), .int (nI 0), .int (nI 0), .int (nI 0), .long ab, .long be, .ref maa, .ref mab, .ref mba, .ref mbb]))] H := hP
  replace hD : va_D A [(hm, .inr (12, [.ref ms, .ref mkp, .int (nI 0), .ref mtr, .int (nI 4), .int (nI 2), .int (nI 2), .int (nI 3), .int (nI 2), .int (nI 1), .ref mas, .int (nI 0), .int (nI 0), .int (nI 0), .ref mso, .ref mon, .ref mot, .ref man, .int (nI 0), .int (nI 0), .ref mst, .ref msm, .ref mtb, .ref mti, .ref mfr, .ref mbn, .ref mbs, .ref mde, .int (nI 0), .int (nI 0), .int (nI 0), .int (nI 0), .long ab, .long be, .ref maa, .ref mab, .ref mba, .ref mbb]))] := hD
  subst hw_r_5
  refine lv_lconst (v := 0) hx hb dX12_mayStay_95 (by decide) ?_
  refine W.lcmp hx hb dX12_mayStay_96 ?_
  refine lv_if_ne (tgt := 113) hx hb dX12_mayStay_97 (by decide) (fun _ => ?_) (fun c => absurd c (by decide))
  refine lv_iinc (v := nI 4) (lv' := [(4, .int (nI 4)), (3, .int (nI 4)), (2, .int (nI 3)), (0, .ref hm), (1, .int (nI 3))]) hx hb dX12_mayStay_113 hl (k := 0) rfl (by decide) (by decide) rfl ?_
  clear hl
  try clear ls
  intro ls hl
  refine lv_goto (tgt := 74) hx hb dX12_mayStay_116 (by decide) ?_
  refine lv_iload hx hb dX12_mayStay_74 (lv_at hl 0 rfl) ?_
  refine lv_iload_n hx hb dX12_mayStay_76 rfl (lv_at hl 1 rfl) ?_
  refine lv_icmp_gt (tgt := 119) hx hb dX12_mayStay_77 (by decide) (fun c => absurd c (by decide)) (fun _ => ?_)
  refine lv_iload hx hb dX12_mayStay_80 (lv_at hl 0 rfl) ?_
  refine lv_aload_n hx hb dX12_mayStay_82 rfl (lv_at hl 3 rfl) ?_
  refine xget C hP 0 rfl rfl zuX12 4 (by decide) zw5_217 rfl dX12_mayStay_83 ?_
  refine lv_icmp_ge (tgt := 119) hx hb dX12_mayStay_86 (by decide) (fun _ => ?_) (fun c => absurd (by decide) c)
  refine lv_iconst (v := nI 0) hx hb dX12_mayStay_119 (by decide) ?_
  exact xreti C () rfl hP hD hS (Nat.le_of_ble_eq_true rfl) (Nat.le_of_ble_eq_true rfl) (by decide) dX12_mayStay_120

set_option maxHeartbeats 4000000 in
set_option maxRecDepth 100000 in
theorem c_X12_mayStay_4 (l : Launch) (D : va_G) (cs : Nat → ClassId) (hm ms mkp mtr mas mso mon mot man mst msm mtb mti mfr mbn mbs mde maa mab mba mbb : Nat) (ab be : Int64) : xMet l D cs yX12_mayStay cX12_mayStay 5 (some .boolean) ({ frames := 0, cells := 0, slots := 0, locals := 0 } : Room) [.ref hm, .int (nI 4)] [(hm, .inr (12, [.ref ms, .ref mkp, .int (nI 0), .ref mtr, .int (nI 4), .int (nI 2), .int (nI 2), .int (nI 3), .int (nI 2), .int (nI 1), .ref mas, .int (nI 0), .int (nI 0), .int (nI 0), .ref mso, .ref mon, .ref mot, .ref man, .int (nI 0), .int (nI 0), .ref mst, .ref msm, .ref mtb, .ref mti, .ref mfr, .ref mbn, .ref mbs, .ref mde, .int (nI 0), .int (nI 0), .int (nI 0), .int (nI 0), .long ab, .long be, .ref maa, .ref mab, .ref mba, .ref mbb]))] (xQi D (fun (r : Int32) (_u : Unit) => r = nI 0) (fun (_u : Unit) => [(hm, .inr (12, [.ref ms, .ref mkp, .int (nI 0), .ref mtr, .int (nI 4), .int (nI 2), .int (nI 2), .int (nI 3), .int (nI 2), .int (nI 1), .ref mas, .int (nI 0), .int (nI 0), .int (nI 0), .ref mso, .ref mon, .ref mot, .ref man, .int (nI 0), .int (nI 0), .ref mst, .ref msm, .ref mtb, .ref mti, .ref mfr, .ref mbn, .ref mbs, .ref mde, .int (nI 0), .int (nI 0), .int (nI 0), .int (nI 0), .long ab, .long be, .ref maa, .ref mab, .ref mba, .ref mbb]))])) := by
  refine xMet.intro (by decide) (Nat.le_of_ble_eq_true rfl) ?_
  intro p e s m args below meth c A ls C hP hD hS hl
  have hx := C.1
  have hb := C.2.1
  have hz := C.2.2.2.2.1
  have hown := C.2.2.2.1
  have hA := C.2.2.2.2.2.2.2.2.2
  have hAO := C.2.2.2.2.2.2.2.2.1.2.2
  replace hl : lv_has ls 5 [(0, .ref hm), (1, .int (nI 4))] := hl
  obtain ⟨H, hH⟩ : ∃ H, H = s.heap := ⟨_, rfl⟩
  replace hP : va_P D vwCl [(hm, .inr (12, [.ref ms, .ref mkp, .int (nI 0), .ref mtr, .int (nI 4), .int (nI 2), .int (nI 2), .int (nI 3), .int (nI 2), .int (nI 1), .ref mas, .int (nI 0), .int (nI 0), .int (nI 0), .ref mso, .ref mon, .ref mot, .ref man, .int (nI 0), .int (nI 0), .ref mst, .ref msm, .ref mtb, .ref mti, .ref mfr, .ref mbn, .ref mbs, .ref mde, .int (nI 0), .int (nI 0), .int (nI 0), .int (nI 0), .long ab, .long be, .ref maa, .ref mab, .ref mba, .ref mbb]))] H := by rw [hH]; exact hP
  replace hS : va_S A s.heap H [] := by rw [hH]; exact hS
  obtain ⟨locs, hlocs⟩ : ∃ z : List Loc, z = [] := ⟨_, rfl⟩
  rw [← hlocs] at hS
  suffices hW : W p l e ({ frames := 0, cells := 0, slots := 0, locals := 0 } : Room) s m args below meth c H locs 0 0 (MQ below ((xQi D (fun (r : Int32) (_u : Unit) => r = nI 0) (fun (_u : Unit) => [(hm, .inr (12, [.ref ms, .ref mkp, .int (nI 0), .ref mtr, .int (nI 4), .int (nI 2), .int (nI 2), .int (nI 3), .int (nI 2), .int (nI 1), .ref mas, .int (nI 0), .int (nI 0), .int (nI 0), .ref mso, .ref mon, .ref mot, .ref man, .int (nI 0), .int (nI 0), .ref mst, .ref msm, .ref mtb, .ref mti, .ref mfr, .ref mbn, .ref mbs, .ref mde, .int (nI 0), .int (nI 0), .int (nI 0), .int (nI 0), .long ab, .long be, .ref maa, .ref mab, .ref mba, .ref mbb]))])) A) args s 0 0 A) (F0 m 0 ls []) by rw [hlocs, hH] at hW; exact hW
  clear hH hlocs
  refine lv_iload_n hx hb dX12_mayStay_0 rfl (lv_at hl 1 rfl) ?_
  refine lv_if_eq (tgt := 12) hx hb dX12_mayStay_1 (by decide) (fun c => absurd c (by decide)) (fun _ => ?_)
  refine lv_iload_n hx hb dX12_mayStay_4 rfl (lv_at hl 1 rfl) ?_
  refine lv_aload_n hx hb dX12_mayStay_5 rfl (lv_at hl 0 rfl) ?_
  refine xget C hP 0 rfl rfl zuX12 4 (by decide) zw5_217 rfl dX12_mayStay_6 ?_
  refine lv_icmp_ne (tgt := 14) hx hb dX12_mayStay_9 (by decide) (fun c => absurd (by decide) c) (fun _ => ?_)
  refine lv_iconst (v := nI 0) hx hb dX12_mayStay_12 (by decide) ?_
  exact xreti C () rfl hP hD hS (Nat.le_of_ble_eq_true rfl) (Nat.le_of_ble_eq_true rfl) (by decide) dX12_mayStay_13
