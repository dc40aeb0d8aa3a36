set_option maxHeartbeats 4000000 in
set_option maxRecDepth 100000 in
theorem c_X3_widestOf_0 (l : Launch) (D : va_G) (cs : Nat → ClassId) (hgr en gs g1r g2r gan gpr gde gme : Nat) (gaf gpf : Nat → Int32) (x : Int32) (fr : Nat) (hen : en ≤ 16) (hfr : fr ≤ 17) (hd : en ≤ fr + 0) : xMet l D cs yX3_widestOf cX3_widestOf 7 (some .int) ({ frames := 0, cells := 0, slots := 0, locals := 0 } : Room) [.ref hgr, .int x, .int (nI fr)] [(hgr, .inr (3, [.int (nI en), .ref gs, .ref g1r, .ref g2r, .ref gan, .ref gpr, .ref gde, .ref gme])), (gan, .inl (cs 0, 16, .inl gaf)), (gpr, .inl (cs 0, 16, .inl gpf))] (xQi D (fun (r : Int32) (_u : Unit) => True) (fun (_u : Unit) => [(hgr, .inr (3, [.int (nI en), .ref gs, .ref g1r, .ref g2r, .ref gan, .ref gpr, .ref gde, .ref gme])), (gan, .inl (cs 0, 16, .inl gaf)), (gpr, .inl (cs 0, 16, .inl gpf))])) := by
  refine xMet.intro (by decide) (Nat.le_of_ble_eq_true rfl) ?_
  intro p e s m args below meth c A ls C hP hD hS hl
  have hx := C.1
  have hb := C.2.1
  have hz := C.2.2.2.2.1
  have hown := C.2.2.2.1
  have hA := C.2.2.2.2.2.2.2.2.2
  have hAO := C.2.2.2.2.2.2.2.2.1.2.2
  replace hl : lv_has ls 7 [(0, .ref hgr), (1, .int x), (2, .int (nI fr))] := hl
  obtain ⟨H, hH⟩ : ∃ H, H = s.heap := ⟨_, rfl⟩
  replace hP : va_P D vwCl [(hgr, .inr (3, [.int (nI en), .ref gs, .ref g1r, .ref g2r, .ref gan, .ref gpr, .ref gde, .ref gme])), (gan, .inl (cs 0, 16, .inl gaf)), (gpr, .inl (cs 0, 16, .inl gpf))] H := by rw [hH]; exact hP
  replace hS : va_S A s.heap H [] := by rw [hH]; exact hS
  obtain ⟨locs, hlocs⟩ : ∃ z : List Loc, z = [] := ⟨_, rfl⟩
  rw [← hlocs] at hS
  suffices hW : W p l e ({ frames := 0, cells := 0, slots := 0, locals := 0 } : Room) s m args below meth c H locs 0 0 (MQ below ((xQi D (fun (r : Int32) (_u : Unit) => True) (fun (_u : Unit) => [(hgr, .inr (3, [.int (nI en), .ref gs, .ref g1r, .ref g2r, .ref gan, .ref gpr, .ref gde, .ref gme])), (gan, .inl (cs 0, 16, .inl gaf)), (gpr, .inl (cs 0, 16, .inl gpf))])) A) args s 0 0 A) (F0 m 0 ls []) by rw [hlocs, hH] at hW; exact hW
  clear hH hlocs
  refine lv_iload_n hx hb dX3_widestOf_0 rfl (lv_at hl 2 rfl) ?_
  refine lv_istore_n (lv' := [(3, .int (nI fr)), (0, .ref hgr), (1, .int x), (2, .int (nI fr))]) hx hb dX3_widestOf_1 rfl hl (by decide) rfl ?_
  clear hl
  try clear ls
  intro ls hl
  have loop_1 : ∀ (n_loop_1 : Nat) (e9 : Nat), (e9 ≤ 17) → (fr ≤ e9) → 17 - e9 < n_loop_1 → ∀ (H : Heap) (locs : List Loc) (ls : Array Slot), va_P D vwCl [(hgr, .inr (3, [.int (nI en), .ref gs, .ref g1r, .ref g2r, .ref gan, .ref gpr, .ref gde, .ref gme])), (gan, .inl (cs 0, 16, .inl gaf)), (gpr, .inl (cs 0, 16, .inl gpf))] H → va_D A [(hgr, .inr (3, [.int (nI en), .ref gs, .ref g1r, .ref g2r, .ref gan, .ref gpr, .ref gde, .ref gme])), (gan, .inl (cs 0, 16, .inl gaf)), (gpr, .inl (cs 0, 16, .inl gpf))] → va_S A s.heap H locs → lv_has ls 7 [(3, .int (nI e9)), (0, .ref hgr), (1, .int x), (2, .int (nI fr))] → W p l e ({ frames := 0, cells := 0, slots := 0, locals := 0 } : Room) s m args below meth c H locs 0 0 (MQ below ((xQi D (fun (r : Int32) (_u : Unit) => True) (fun (_u : Unit) => [(hgr, .inr (3, [.int (nI en), .ref gs, .ref g1r, .ref g2r, .ref gan, .ref gpr, .ref gde, .ref gme])), (gan, .inl (cs 0, 16, .inl gaf)), (gpr, .inl (cs 0, 16, .inl gpf))])) A) args s 0 0 A) (F0 m 2 ls []) := by
    intro n_loop_1
    induction n_loop_1 with
    | zero => intro e9 h_e9 hfe hlt H locs ls hP hD hS hl; exact absurd hlt (Nat.not_lt_zero _)
    | succ n_loop_1 ih_loop_1 =>
      intro e9 h_e9 hfe hlt_loop_1 H locs ls hP hD hS hl
      refine lv_iload_n hx hb dX3_widestOf_2 rfl (lv_at hl 0 rfl) ?_
      refine lv_aload_n hx hb dX3_widestOf_3 rfl (lv_at hl 1 rfl) ?_
      refine xget C hP 0 rfl rfl zuX3 0 (by decide) zw1_195 rfl dX3_widestOf_4 ?_
      refine lv_icmp_ge (tgt := 94) hx hb dX3_widestOf_7 (by decide) (fun _ => ?_) (fun c => absurd ((nI_leI (by omega) (by omega)).mpr (by omega)) c)
      refine lv_iconst (v := nI 0) hx hb dX3_widestOf_94 (by decide) ?_
      exact xreti C () trivial hP hD hS (Nat.le_of_ble_eq_true rfl) (Nat.le_of_ble_eq_true rfl) rfl dX3_widestOf_95
  exact loop_1 _ fr (by omega) (Nat.le_refl _) (Nat.lt_succ_self _) H locs ls hP hD hS (lv_sub hl [0, 1, 2, 3] rfl)

set_option maxHeartbeats 4000000 in
set_option maxRecDepth 100000 in
theorem c_X3_widestOf_1 (l : Launch) (D : va_G) (cs : Nat → ClassId) (hgr en gs g1r g2r gan gpr gde gme : Nat) (gaf gpf : Nat → Int32) (x : Int32) (fr : Nat) (hen : en ≤ 16) (hfr : fr ≤ 17) (hd : en ≤ fr + 1) : xMet l D cs yX3_widestOf cX3_widestOf 7 (some .int) ({ frames := 1, cells := 0, slots := 0, locals := 26 } : Room) [.ref hgr, .int x, .int (nI fr)] [(hgr, .inr (3, [.int (nI en), .ref gs, .ref g1r, .ref g2r, .ref gan, .ref gpr, .ref gde, .ref gme])), (gan, .inl (cs 0, 16, .inl gaf)), (gpr, .inl (cs 0, 16, .inl gpf))] (xQi D (fun (r : Int32) (_u : Unit) => True) (fun (_u : Unit) => [(hgr, .inr (3, [.int (nI en), .ref gs, .ref g1r, .ref g2r, .ref gan, .ref gpr, .ref gde, .ref gme])), (gan, .inl (cs 0, 16, .inl gaf)), (gpr, .inl (cs 0, 16, .inl gpf))])) := by
  refine xMet.intro (by decide) (Nat.le_of_ble_eq_true rfl) ?_
  intro p e s m args below meth c A ls C hP hD hS hl
  have hx := C.1
  have hb := C.2.1
  have hz := C.2.2.2.2.1
  have hown := C.2.2.2.1
  have hA := C.2.2.2.2.2.2.2.2.2
  have hAO := C.2.2.2.2.2.2.2.2.1.2.2
  replace hl : lv_has ls 7 [(0, .ref hgr), (1, .int x), (2, .int (nI fr))] := hl
  obtain ⟨H, hH⟩ : ∃ H, H = s.heap := ⟨_, rfl⟩
  replace hP : va_P D vwCl [(hgr, .inr (3, [.int (nI en), .ref gs, .ref g1r, .ref g2r, .ref gan, .ref gpr, .ref gde, .ref gme])), (gan, .inl (cs 0, 16, .inl gaf)), (gpr, .inl (cs 0, 16, .inl gpf))] H := by rw [hH]; exact hP
  replace hS : va_S A s.heap H [] := by rw [hH]; exact hS
  obtain ⟨locs, hlocs⟩ : ∃ z : List Loc, z = [] := ⟨_, rfl⟩
  rw [← hlocs] at hS
  suffices hW : W p l e ({ frames := 1, cells := 0, slots := 0, locals := 26 } : Room) s m args below meth c H locs 0 0 (MQ below ((xQi D (fun (r : Int32) (_u : Unit) => True) (fun (_u : Unit) => [(hgr, .inr (3, [.int (nI en), .ref gs, .ref g1r, .ref g2r, .ref gan, .ref gpr, .ref gde, .ref gme])), (gan, .inl (cs 0, 16, .inl gaf)), (gpr, .inl (cs 0, 16, .inl gpf))])) A) args s 0 0 A) (F0 m 0 ls []) by rw [hlocs, hH] at hW; exact hW
  clear hH hlocs
  refine lv_iload_n hx hb dX3_widestOf_0 rfl (lv_at hl 2 rfl) ?_
  refine lv_istore_n (lv' := [(3, .int (nI fr)), (0, .ref hgr), (1, .int x), (2, .int (nI fr))]) hx hb dX3_widestOf_1 rfl hl (by decide) rfl ?_
  clear hl
  try clear ls
  intro ls hl
  have loop_1 : ∀ (n_loop_1 : Nat) (e9 : Nat), (e9 ≤ 17) → (fr ≤ e9) → 17 - e9 < n_loop_1 → ∀ (H : Heap) (locs : List Loc) (ls : Array Slot), va_P D vwCl [(hgr, .inr (3, [.int (nI en), .ref gs, .ref g1r, .ref g2r, .ref gan, .ref gpr, .ref gde, .ref gme])), (gan, .inl (cs 0, 16, .inl gaf)), (gpr, .inl (cs 0, 16, .inl gpf))] H → va_D A [(hgr, .inr (3, [.int (nI en), .ref gs, .ref g1r, .ref g2r, .ref gan, .ref gpr, .ref gde, .ref gme])), (gan, .inl (cs 0, 16, .inl gaf)), (gpr, .inl (cs 0, 16, .inl gpf))] → va_S A s.heap H locs → lv_has ls 7 [(3, .int (nI e9)), (0, .ref hgr), (1, .int x), (2, .int (nI fr))] → W p l e ({ frames := 1, cells := 0, slots := 0, locals := 26 } : Room) s m args below meth c H locs 0 0 (MQ below ((xQi D (fun (r : Int32) (_u : Unit) => True) (fun (_u : Unit) => [(hgr, .inr (3, [.int (nI en), .ref gs, .ref g1r, .ref g2r, .ref gan, .ref gpr, .ref gde, .ref gme])), (gan, .inl (cs 0, 16, .inl gaf)), (gpr, .inl (cs 0, 16, .inl gpf))])) A) args s 0 0 A) (F0 m 2 ls []) := by
    intro n_loop_1
    induction n_loop_1 with
    | zero => intro e9 h_e9 hfe hlt H locs ls hP hD hS hl; exact absurd hlt (Nat.not_lt_zero _)
    | succ n_loop_1 ih_loop_1 =>
      intro e9 h_e9 hfe hlt_loop_1 H locs ls hP hD hS hl
      refine lv_iload_n hx hb dX3_widestOf_2 rfl (lv_at hl 0 rfl) ?_
      refine lv_aload_n hx hb dX3_widestOf_3 rfl (lv_at hl 1 rfl) ?_
      refine xget C hP 0 rfl rfl zuX3 0 (by decide) zw1_195 rfl dX3_widestOf_4 ?_
      refine lv_icmp_ge (tgt := 94) hx hb dX3_widestOf_7 (by decide) (fun c_2 => ?_) (fun c_2 => ?_)
      · -- 7 t
        have fc_2 : en ≤ e9 := nf_le (by omega) (by omega) c_2
        refine lv_iconst (v := nI 0) hx hb dX3_widestOf_94 (by decide) ?_
        exact xreti C () trivial hP hD hS (Nat.le_of_ble_eq_true rfl) (Nat.le_of_ble_eq_true rfl) rfl dX3_widestOf_95
      · -- 7 f
        have fc_2 : e9 < en := nf_nle (by omega) (by omega) c_2
        refine lv_iload_n hx hb dX3_widestOf_10 rfl (lv_at hl 2 rfl) ?_
        refine lv_iload_n hx hb dX3_widestOf_11 rfl (lv_at hl 0 rfl) ?_
        refine lv_ishr hx hb dX3_widestOf_12 ?_
        refine lv_iconst (v := nI 1) hx hb dX3_widestOf_13 (by decide) ?_
        refine lv_iand hx hb dX3_widestOf_14 ?_
        refine lv_iconst (v := nI 1) hx hb dX3_widestOf_15 (by decide) ?_
        refine lv_icmp_ne (tgt := 88) hx hb dX3_widestOf_16 (by decide) (fun c_3 => ?_) (fun c_3 => ?_)
        · -- 16 t
          refine lv_iinc (v := nI (e9 + 1)) (lv' := [(3, .int (nI (e9 + 1))), (0, .ref hgr), (1, .int x), (2, .int (nI fr))]) hx hb dX3_widestOf_88 hl (k := 0) rfl (nI_add e9 1) (by decide) rfl ?_
          clear hl
          try clear ls
          intro ls hl
          refine lv_goto (tgt := 2) hx hb dX3_widestOf_91 (by decide) ?_
          exact ih_loop_1 (e9 + 1) (by omega) (by omega) (by omega) H locs ls hP hD hS (lv_sub hl [0, 1, 2, 3] rfl)
        · -- 16 f
          refine lv_iload_n hx hb dX3_widestOf_19 rfl (lv_at hl 2 rfl) ?_
          refine lv_iconst (v := nI 1) hx hb dX3_widestOf_20 (by decide) ?_
          refine lv_iload_n hx hb dX3_widestOf_21 rfl (lv_at hl 0 rfl) ?_
          refine lv_ishl hx hb dX3_widestOf_22 ?_
          refine lv_iconst (v := (-1)) hx hb dX3_widestOf_23 (by decide) ?_
          refine lv_ixor hx hb dX3_widestOf_24 ?_
          refine lv_iand hx hb dX3_widestOf_25 ?_
          refine lv_istore (lv' := [(4, .int (x &&& (((nI 1) <<< ((nI e9) &&& 31)) ^^^ (-1)))), (3, .int (nI e9)), (0, .ref hgr), (1, .int x), (2, .int (nI fr))]) hx hb dX3_widestOf_26 hl (by decide) rfl ?_
          clear hl
          try clear ls
          intro ls hl
          refine lv_iload hx hb dX3_widestOf_28 (lv_at hl 0 rfl) ?_
          refine lv_aload_n hx hb dX3_widestOf_30 rfl (lv_at hl 2 rfl) ?_
          refine xget C hP 0 rfl rfl zuX3 4 (by decide) zw1_205 rfl dX3_widestOf_31 ?_
          refine lv_iload_n hx hb dX3_widestOf_34 rfl (lv_at hl 1 rfl) ?_
          refine xiald C hP 1 rfl e9 rfl (by omega) (by decide) dX3_widestOf_35 ?_
          refine lv_aload_n hx hb dX3_widestOf_36 rfl (lv_at hl 2 rfl) ?_
          refine xget C hP 0 rfl rfl zuX3 5 (by decide) zw1_207 rfl dX3_widestOf_37 ?_
          refine lv_iload_n hx hb dX3_widestOf_40 rfl (lv_at hl 1 rfl) ?_
          refine xiald C hP 2 rfl e9 rfl (by omega) (by decide) dX3_widestOf_41 ?_
          refine lv_ior hx hb dX3_widestOf_42 ?_
          refine lv_iconst (v := (-1)) hx hb dX3_widestOf_43 (by decide) ?_
          refine lv_ixor hx hb dX3_widestOf_44 ?_
          refine lv_iand hx hb dX3_widestOf_45 ?_
          refine lv_istore (lv' := [(5, .int ((x &&& (((nI 1) <<< ((nI e9) &&& 31)) ^^^ (-1))) &&& (((gaf e9) ||| (gpf e9)) ^^^ (-1)))), (4, .int (x &&& (((nI 1) <<< ((nI e9) &&& 31)) ^^^ (-1)))), (3, .int (nI e9)), (0, .ref hgr), (1, .int x), (2, .int (nI fr))]) hx hb dX3_widestOf_46 hl (by decide) rfl ?_
          clear hl
          try clear ls
          intro ls hl
          refine lv_iconst (v := nI 1) hx hb dX3_widestOf_48 (by decide) ?_
          refine lv_aload_n hx hb dX3_widestOf_49 rfl (lv_at hl 3 rfl) ?_
          refine lv_iload hx hb dX3_widestOf_50 (lv_at hl 0 rfl) ?_
          refine lv_iload_n hx hb dX3_widestOf_52 rfl (lv_at hl 2 rfl) ?_
          refine lv_iconst (v := nI 1) hx hb dX3_widestOf_53 (by decide) ?_
          refine lv_iadd hx hb dX3_widestOf_54 ?_
          refine lv_topi (nm_r (e' := nI (e9 + 1)) (nI_add _ _) ?_)
          refine xi (wr := []) (xS (As := [.ref hgr, .int ((x &&& (((nI 1) <<< ((nI e9) &&& 31)) ^^^ (-1))) &&& (((gaf e9) ||| (gpf e9)) ^^^ (-1))), .int (nI (e9 + 1))]) (rest := [.int (nI 1)]) C (c_X3_widestOf_0 l D cs hgr en gs g1r g2r gan gpr gde gme gaf gpf ((x &&& (((nI 1) <<< ((nI e9) &&& 31)) ^^^ (-1))) &&& (((gaf e9) ||| (gpf e9)) ^^^ (-1))) (e9 + 1) hen (by omega) (by omega)) kX3_60 hP hD [0, 1, 2] rfl (by decide) ⟨Nat.le_of_ble_eq_true rfl, Nat.le_of_ble_eq_true rfl⟩ rfl hl.1 rfl (Nat.le_of_ble_eq_true rfl) dX3_widestOf_55 ⟨Nat.le_of_ble_eq_true rfl, Nat.le_of_ble_eq_true rfl⟩) hP hD hS hA [0, 1, 2] [] rfl rfl (by decide) (by decide) ?_
          clear hP hD hS
          try clear locs
          try clear H
          intro r_4 u_5 H locs hw_r_4 hP hD hS
          refine W.widen (k := 0) (n := 0) (Nat.le_of_ble_eq_true rfl) (Nat.le_of_ble_eq_true rfl) ?_
          replace hP : va_P D vwCl [(hgr, .inr (3, [.int (nI en), .ref gs, .ref g1r, .ref g2r, .ref gan, .ref gpr, .ref gde, .ref gme])), (gan, .inl (cs 0, 16, .inl gaf)), (gpr, .inl (cs 0, 16, .inl gpf))] H := hP
          replace hD : va_D A [(hgr, .inr (3, [.int (nI en), .ref gs, .ref g1r, .ref g2r, .ref gan, .ref gpr, .ref gde, .ref gme])), (gan, .inl (cs 0, 16, .inl gaf)), (gpr, .inl (cs 0, 16, .inl gpf))] := hD
          refine lv_iadd hx hb dX3_widestOf_58 ?_
          refine lv_istore (lv' := [(6, .int ((nI 1) + r_4)), (5, .int ((x &&& (((nI 1) <<< ((nI e9) &&& 31)) ^^^ (-1))) &&& (((gaf e9) ||| (gpf e9)) ^^^ (-1)))), (4, .int (x &&& (((nI 1) <<< ((nI e9) &&& 31)) ^^^ (-1)))), (3, .int (nI e9)), (0, .ref hgr), (1, .int x), (2, .int (nI fr))]) hx hb dX3_widestOf_59 hl (by decide) rfl ?_
          clear hl
          try clear ls
          intro ls hl
          refine lv_iload hx hb dX3_widestOf_61 (lv_at hl 1 rfl) ?_
          refine lv_iload hx hb dX3_widestOf_63 (lv_at hl 2 rfl) ?_
          refine lv_icmp_ne (tgt := 73) hx hb dX3_widestOf_65 (by decide) (fun c_6 => ?_) (fun c_6 => ?_)
          · -- 65 t
            refine lv_iload hx hb dX3_widestOf_73 (lv_at hl 0 rfl) ?_
            refine lv_aload_n hx hb dX3_widestOf_75 rfl (lv_at hl 4 rfl) ?_
            refine lv_iload hx hb dX3_widestOf_76 (lv_at hl 2 rfl) ?_
            refine lv_iload_n hx hb dX3_widestOf_78 rfl (lv_at hl 3 rfl) ?_
            refine lv_iconst (v := nI 1) hx hb dX3_widestOf_79 (by decide) ?_
            refine lv_iadd hx hb dX3_widestOf_80 ?_
            refine lv_topi (nm_r (e' := nI (e9 + 1)) (nI_add _ _) ?_)
            refine xi (wr := []) (xS (As := [.ref hgr, .int (x &&& (((nI 1) <<< ((nI e9) &&& 31)) ^^^ (-1))), .int (nI (e9 + 1))]) (rest := [.int ((nI 1) + r_4)]) C (c_X3_widestOf_0 l D cs hgr en gs g1r g2r gan gpr gde gme gaf gpf (x &&& (((nI 1) <<< ((nI e9) &&& 31)) ^^^ (-1))) (e9 + 1) hen (by omega) (by omega)) kX3_60 hP hD [0, 1, 2] rfl (by decide) ⟨Nat.le_of_ble_eq_true rfl, Nat.le_of_ble_eq_true rfl⟩ rfl hl.1 rfl (Nat.le_of_ble_eq_true rfl) dX3_widestOf_81 ⟨Nat.le_of_ble_eq_true rfl, Nat.le_of_ble_eq_true rfl⟩) hP hD hS hA [0, 1, 2] [] rfl rfl (by decide) (by decide) ?_
            clear hP hD hS
            try clear locs
            try clear H
            intro r_7 u_8 H locs hw_r_7 hP hD hS
            refine W.widen (k := 0) (n := 0) (Nat.le_of_ble_eq_true rfl) (Nat.le_of_ble_eq_true rfl) ?_
            replace hP : va_P D vwCl [(hgr, .inr (3, [.int (nI en), .ref gs, .ref g1r, .ref g2r, .ref gan, .ref gpr, .ref gde, .ref gme])), (gan, .inl (cs 0, 16, .inl gaf)), (gpr, .inl (cs 0, 16, .inl gpf))] H := hP
            replace hD : va_D A [(hgr, .inr (3, [.int (nI en), .ref gs, .ref g1r, .ref g2r, .ref gan, .ref gpr, .ref gde, .ref gme])), (gan, .inl (cs 0, 16, .inl gaf)), (gpr, .inl (cs 0, 16, .inl gpf))] := hD
            refine va_mmax hx hb (C.2.2.1.trans hl.1.symm) hown (hz _ zw4_201) (hz _ zw4_202) (hz _ zw1_3) (hz _ zw4_203) (Nat.le_of_ble_eq_true rfl) (Nat.le_of_ble_eq_true rfl) (Nat.le_of_ble_eq_true rfl) (Nat.le_of_ble_eq_true rfl) dX3_widestOf_84 ?_
            exact xreti C () trivial hP hD hS (Nat.le_of_ble_eq_true rfl) (Nat.le_of_ble_eq_true rfl) rfl dX3_widestOf_87
          · -- 65 f
            refine lv_iload hx hb dX3_widestOf_68 (lv_at hl 0 rfl) ?_
            refine lv_goto (tgt := 87) hx hb dX3_widestOf_70 (by decide) ?_
            exact xreti C () trivial hP hD hS (Nat.le_of_ble_eq_true rfl) (Nat.le_of_ble_eq_true rfl) rfl dX3_widestOf_87
  exact loop_1 _ fr (by omega) (Nat.le_refl _) (Nat.lt_succ_self _) H locs ls hP hD hS (lv_sub hl [0, 1, 2, 3] rfl)

set_option maxHeartbeats 4000000 in
set_option maxRecDepth 100000 in
theorem c_X3_widestOf_2 (l : Launch) (D : va_G) (cs : Nat → ClassId) (hgr en gs g1r g2r gan gpr gde gme : Nat) (gaf gpf : Nat → Int32) (x : Int32) (fr : Nat) (hen : en ≤ 16) (hfr : fr ≤ 17) (hd : en ≤ fr + 2) : xMet l D cs yX3_widestOf cX3_widestOf 7 (some .int) ({ frames := 2, cells := 0, slots := 0, locals := 52 } : Room) [.ref hgr, .int x, .int (nI fr)] [(hgr, .inr (3, [.int (nI en), .ref gs, .ref g1r, .ref g2r, .ref gan, .ref gpr, .ref gde, .ref gme])), (gan, .inl (cs 0, 16, .inl gaf)), (gpr, .inl (cs 0, 16, .inl gpf))] (xQi D (fun (r : Int32) (_u : Unit) => True) (fun (_u : Unit) => [(hgr, .inr (3, [.int (nI en), .ref gs, .ref g1r, .ref g2r, .ref gan, .ref gpr, .ref gde, .ref gme])), (gan, .inl (cs 0, 16, .inl gaf)), (gpr, .inl (cs 0, 16, .inl gpf))])) := by
  refine xMet.intro (by decide) (Nat.le_of_ble_eq_true rfl) ?_
  intro p e s m args below meth c A ls C hP hD hS hl
  have hx := C.1
  have hb := C.2.1
  have hz := C.2.2.2.2.1
  have hown := C.2.2.2.1
  have hA := C.2.2.2.2.2.2.2.2.2
  have hAO := C.2.2.2.2.2.2.2.2.1.2.2
  replace hl : lv_has ls 7 [(0, .ref hgr), (1, .int x), (2, .int (nI fr))] := hl
  obtain ⟨H, hH⟩ : ∃ H, H = s.heap := ⟨_, rfl⟩
  replace hP : va_P D vwCl [(hgr, .inr (3, [.int (nI en), .ref gs, .ref g1r, .ref g2r, .ref gan, .ref gpr, .ref gde, .ref gme])), (gan, .inl (cs 0, 16, .inl gaf)), (gpr, .inl (cs 0, 16, .inl gpf))] H := by rw [hH]; exact hP
  replace hS : va_S A s.heap H [] := by rw [hH]; exact hS
  obtain ⟨locs, hlocs⟩ : ∃ z : List Loc, z = [] := ⟨_, rfl⟩
  rw [← hlocs] at hS
  suffices hW : W p l e ({ frames := 2, cells := 0, slots := 0, locals := 52 } : Room) s m args below meth c H locs 0 0 (MQ below ((xQi D (fun (r : Int32) (_u : Unit) => True) (fun (_u : Unit) => [(hgr, .inr (3, [.int (nI en), .ref gs, .ref g1r, .ref g2r, .ref gan, .ref gpr, .ref gde, .ref gme])), (gan, .inl (cs 0, 16, .inl gaf)), (gpr, .inl (cs 0, 16, .inl gpf))])) A) args s 0 0 A) (F0 m 0 ls []) by rw [hlocs, hH] at hW; exact hW
  clear hH hlocs
  refine lv_iload_n hx hb dX3_widestOf_0 rfl (lv_at hl 2 rfl) ?_
  refine lv_istore_n (lv' := [(3, .int (nI fr)), (0, .ref hgr), (1, .int x), (2, .int (nI fr))]) hx hb dX3_widestOf_1 rfl hl (by decide) rfl ?_
  clear hl
  try clear ls
  intro ls hl
  have loop_1 : ∀ (n_loop_1 : Nat) (e9 : Nat), (e9 ≤ 17) → (fr ≤ e9) → 17 - e9 < n_loop_1 → ∀ (H : Heap) (locs : List Loc) (ls : Array Slot), va_P D vwCl [(hgr, .inr (3, [.int (nI en), .ref gs, .ref g1r, .ref g2r, .ref gan, .ref gpr, .ref gde, .ref gme])), (gan, .inl (cs 0, 16, .inl gaf)), (gpr, .inl (cs 0, 16, .inl gpf))] H → va_D A [(hgr, .inr (3, [.int (nI en), .ref gs, .ref g1r, .ref g2r, .ref gan, .ref gpr, .ref gde, .ref gme])), (gan, .inl (cs 0, 16, .inl gaf)), (gpr, .inl (cs 0, 16, .inl gpf))] → va_S A s.heap H locs → lv_has ls 7 [(3, .int (nI e9)), (0, .ref hgr), (1, .int x), (2, .int (nI fr))] → W p l e ({ frames := 2, cells := 0, slots := 0, locals := 52 } : Room) s m args below meth c H locs 0 0 (MQ below ((xQi D (fun (r : Int32) (_u : Unit) => True) (fun (_u : Unit) => [(hgr, .inr (3, [.int (nI en), .ref gs, .ref g1r, .ref g2r, .ref gan, .ref gpr, .ref gde, .ref gme])), (gan, .inl (cs 0, 16, .inl gaf)), (gpr, .inl (cs 0, 16, .inl gpf))])) A) args s 0 0 A) (F0 m 2 ls []) := by
    intro n_loop_1
    induction n_loop_1 with
    | zero => intro e9 h_e9 hfe hlt H locs ls hP hD hS hl; exact absurd hlt (Nat.not_lt_zero _)
    | succ n_loop_1 ih_loop_1 =>
      intro e9 h_e9 hfe hlt_loop_1 H locs ls hP hD hS hl
      refine lv_iload_n hx hb dX3_widestOf_2 rfl (lv_at hl 0 rfl) ?_
      refine lv_aload_n hx hb dX3_widestOf_3 rfl (lv_at hl 1 rfl) ?_
      refine xget C hP 0 rfl rfl zuX3 0 (by decide) zw1_195 rfl dX3_widestOf_4 ?_
      refine lv_icmp_ge (tgt := 94) hx hb dX3_widestOf_7 (by decide) (fun c_2 => ?_) (fun c_2 => ?_)
      · -- 7 t
        have fc_2 : en ≤ e9 := nf_le (by omega) (by omega) c_2
        refine lv_iconst (v := nI 0) hx hb dX3_widestOf_94 (by decide) ?_
        exact xreti C () trivial hP hD hS (Nat.le_of_ble_eq_true rfl) (Nat.le_of_ble_eq_true rfl) rfl dX3_widestOf_95
      · -- 7 f
        have fc_2 : e9 < en := nf_nle (by omega) (by omega) c_2
        refine lv_iload_n hx hb dX3_widestOf_10 rfl (lv_at hl 2 rfl) ?_
        refine lv_iload_n hx hb dX3_widestOf_11 rfl (lv_at hl 0 rfl) ?_
        refine lv_ishr hx hb dX3_widestOf_12 ?_
        refine lv_iconst (v := nI 1) hx hb dX3_widestOf_13 (by decide) ?_
        refine lv_iand hx hb dX3_widestOf_14 ?_
        refine lv_iconst (v := nI 1) hx hb dX3_widestOf_15 (by decide) ?_
        refine lv_icmp_ne (tgt := 88) hx hb dX3_widestOf_16 (by decide) (fun c_3 => ?_) (fun c_3 => ?_)
        · -- 16 t
          refine lv_iinc (v := nI (e9 + 1)) (lv' := [(3, .int (nI (e9 + 1))), (0, .ref hgr), (1, .int x), (2, .int (nI fr))]) hx hb dX3_widestOf_88 hl (k := 0) rfl (nI_add e9 1) (by decide) rfl ?_
          clear hl
          try clear ls
          intro ls hl
          refine lv_goto (tgt := 2) hx hb dX3_widestOf_91 (by decide) ?_
          exact ih_loop_1 (e9 + 1) (by omega) (by omega) (by omega) H locs ls hP hD hS (lv_sub hl [0, 1, 2, 3] rfl)
        · -- 16 f
          refine lv_iload_n hx hb dX3_widestOf_19 rfl (lv_at hl 2 rfl) ?_
          refine lv_iconst (v := nI 1) hx hb dX3_widestOf_20 (by decide) ?_
          refine lv_iload_n hx hb dX3_widestOf_21 rfl (lv_at hl 0 rfl) ?_
          refine lv_ishl hx hb dX3_widestOf_22 ?_
          refine lv_iconst (v := (-1)) hx hb dX3_widestOf_23 (by decide) ?_
          refine lv_ixor hx hb dX3_widestOf_24 ?_
          refine lv_iand hx hb dX3_widestOf_25 ?_
          refine lv_istore (lv' := [(4, .int (x &&& (((nI 1) <<< ((nI e9) &&& 31)) ^^^ (-1)))), (3, .int (nI e9)), (0, .ref hgr), (1, .int x), (2, .int (nI fr))]) hx hb dX3_widestOf_26 hl (by decide) rfl ?_
          clear hl
          try clear ls
          intro ls hl
          refine lv_iload hx hb dX3_widestOf_28 (lv_at hl 0 rfl) ?_
          refine lv_aload_n hx hb dX3_widestOf_30 rfl (lv_at hl 2 rfl) ?_
          refine xget C hP 0 rfl rfl zuX3 4 (by decide) zw1_205 rfl dX3_widestOf_31 ?_
          refine lv_iload_n hx hb dX3_widestOf_34 rfl (lv_at hl 1 rfl) ?_
          refine xiald C hP 1 rfl e9 rfl (by omega) (by decide) dX3_widestOf_35 ?_
          refine lv_aload_n hx hb dX3_widestOf_36 rfl (lv_at hl 2 rfl) ?_
          refine xget C hP 0 rfl rfl zuX3 5 (by decide) zw1_207 rfl dX3_widestOf_37 ?_
          refine lv_iload_n hx hb dX3_widestOf_40 rfl (lv_at hl 1 rfl) ?_
          refine xiald C hP 2 rfl e9 rfl (by omega) (by decide) dX3_widestOf_41 ?_
          refine lv_ior hx hb dX3_widestOf_42 ?_
          refine lv_iconst (v := (-1)) hx hb dX3_widestOf_43 (by decide) ?_
          refine lv_ixor hx hb dX3_widestOf_44 ?_
          refine lv_iand hx hb dX3_widestOf_45 ?_
          refine lv_istore (lv' := [(5, .int ((x &&& (((nI 1) <<< ((nI e9) &&& 31)) ^^^ (-1))) &&& (((gaf e9) ||| (gpf e9)) ^^^ (-1)))), (4, .int (x &&& (((nI 1) <<< ((nI e9) &&& 31)) ^^^ (-1)))), (3, .int (nI e9)), (0, .ref hgr), (1, .int x), (2, .int (nI fr))]) hx hb dX3_widestOf_46 hl (by decide) rfl ?_
          clear hl
          try clear ls
          intro ls hl
          refine lv_iconst (v := nI 1) hx hb dX3_widestOf_48 (by decide) ?_
          refine lv_aload_n hx hb dX3_widestOf_49 rfl (lv_at hl 3 rfl) ?_
          refine lv_iload hx hb dX3_widestOf_50 (lv_at hl 0 rfl) ?_
          refine lv_iload_n hx hb dX3_widestOf_52 rfl (lv_at hl 2 rfl) ?_
          refine lv_iconst (v := nI 1) hx hb dX3_widestOf_53 (by decide) ?_
          refine lv_iadd hx hb dX3_widestOf_54 ?_
          refine lv_topi (nm_r (e' := nI (e9 + 1)) (nI_add _ _) ?_)
          refine xi (wr := []) (xS (As := [.ref hgr, .int ((x &&& (((nI 1) <<< ((nI e9) &&& 31)) ^^^ (-1))) &&& (((gaf e9) ||| (gpf e9)) ^^^ (-1))), .int (nI (e9 + 1))]) (rest := [.int (nI 1)]) C (c_X3_widestOf_1 l D cs hgr en gs g1r g2r gan gpr gde gme gaf gpf ((x &&& (((nI 1) <<< ((nI e9) &&& 31)) ^^^ (-1))) &&& (((gaf e9) ||| (gpf e9)) ^^^ (-1))) (e9 + 1) hen (by omega) (by omega)) kX3_60 hP hD [0, 1, 2] rfl (by decide) ⟨Nat.le_of_ble_eq_true rfl, Nat.le_of_ble_eq_true rfl⟩ rfl hl.1 rfl (Nat.le_of_ble_eq_true rfl) dX3_widestOf_55 ⟨Nat.le_of_ble_eq_true rfl, Nat.le_of_ble_eq_true rfl⟩) hP hD hS hA [0, 1, 2] [] rfl rfl (by decide) (by decide) ?_
          clear hP hD hS
          try clear locs
          try clear H
          intro r_4 u_5 H locs hw_r_4 hP hD hS
          refine W.widen (k := 0) (n := 0) (Nat.le_of_ble_eq_true rfl) (Nat.le_of_ble_eq_true rfl) ?_
          replace hP : va_P D vwCl [(hgr, .inr (3, [.int (nI en), .ref gs, .ref g1r, .ref g2r, .ref gan, .ref gpr, .ref gde, .ref gme])), (gan, .inl (cs 0, 16, .inl gaf)), (gpr, .inl (cs 0, 16, .inl gpf))] H := hP
          replace hD : va_D A [(hgr, .inr (3, [.int (nI en), .ref gs, .ref g1r, .ref g2r, .ref gan, .ref gpr, .ref gde, .ref gme])), (gan, .inl (cs 0, 16, .inl gaf)), (gpr, .inl (cs 0, 16, .inl gpf))] := hD
          refine lv_iadd hx hb dX3_widestOf_58 ?_
          refine lv_istore (lv' := [(6, .int ((nI 1) + r_4)), (5, .int ((x &&& (((nI 1) <<< ((nI e9) &&& 31)) ^^^ (-1))) &&& (((gaf e9) ||| (gpf e9)) ^^^ (-1)))), (4, .int (x &&& (((nI 1) <<< ((nI e9) &&& 31)) ^^^ (-1)))), (3, .int (nI e9)), (0, .ref hgr), (1, .int x), (2, .int (nI fr))]) hx hb dX3_widestOf_59 hl (by decide) rfl ?_
          clear hl
          try clear ls
          intro ls hl
          refine lv_iload hx hb dX3_widestOf_61 (lv_at hl 1 rfl) ?_
          refine lv_iload hx hb dX3_widestOf_63 (lv_at hl 2 rfl) ?_
          refine lv_icmp_ne (tgt := 73) hx hb dX3_widestOf_65 (by decide) (fun c_6 => ?_) (fun c_6 => ?_)
          · -- 65 t
            refine lv_iload hx hb dX3_widestOf_73 (lv_at hl 0 rfl) ?_
            refine lv_aload_n hx hb dX3_widestOf_75 rfl (lv_at hl 4 rfl) ?_
            refine lv_iload hx hb dX3_widestOf_76 (lv_at hl 2 rfl) ?_
            refine lv_iload_n hx hb dX3_widestOf_78 rfl (lv_at hl 3 rfl) ?_
            refine lv_iconst (v := nI 1) hx hb dX3_widestOf_79 (by decide) ?_
            refine lv_iadd hx hb dX3_widestOf_80 ?_
            refine lv_topi (nm_r (e' := nI (e9 + 1)) (nI_add _ _) ?_)
            refine xi (wr := []) (xS (As := [.ref hgr, .int (x &&& (((nI 1) <<< ((nI e9) &&& 31)) ^^^ (-1))), .int (nI (e9 + 1))]) (rest := [.int ((nI 1) + r_4)]) C (c_X3_widestOf_1 l D cs hgr en gs g1r g2r gan gpr gde gme gaf gpf (x &&& (((nI 1) <<< ((nI e9) &&& 31)) ^^^ (-1))) (e9 + 1) hen (by omega) (by omega)) kX3_60 hP hD [0, 1, 2] rfl (by decide) ⟨Nat.le_of_ble_eq_true rfl, Nat.le_of_ble_eq_true rfl⟩ rfl hl.1 rfl (Nat.le_of_ble_eq_true rfl) dX3_widestOf_81 ⟨Nat.le_of_ble_eq_true rfl, Nat.le_of_ble_eq_true rfl⟩) hP hD hS hA [0, 1, 2] [] rfl rfl (by decide) (by decide) ?_
            clear hP hD hS
            try clear locs
            try clear H
            intro r_7 u_8 H locs hw_r_7 hP hD hS
            refine W.widen (k := 0) (n := 0) (Nat.le_of_ble_eq_true rfl) (Nat.le_of_ble_eq_true rfl) ?_
            replace hP : va_P D vwCl [(hgr, .inr (3, [.int (nI en), .ref gs, .ref g1r, .ref g2r, .ref gan, .ref gpr, .ref gde, .ref gme])), (gan, .inl (cs 0, 16, .inl gaf)), (gpr, .inl (cs 0, 16, .inl gpf))] H := hP
            replace hD : va_D A [(hgr, .inr (3, [.int (nI en), .ref gs, .ref g1r, .ref g2r, .ref gan, .ref gpr, .ref gde, .ref gme])), (gan, .inl (cs 0, 16, .inl gaf)), (gpr, .inl (cs 0, 16, .inl gpf))] := hD
            refine va_mmax hx hb (C.2.2.1.trans hl.1.symm) hown (hz _ zw4_201) (hz _ zw4_202) (hz _ zw1_3) (hz _ zw4_203) (Nat.le_of_ble_eq_true rfl) (Nat.le_of_ble_eq_true rfl) (Nat.le_of_ble_eq_true rfl) (Nat.le_of_ble_eq_true rfl) dX3_widestOf_84 ?_
            exact xreti C () trivial hP hD hS (Nat.le_of_ble_eq_true rfl) (Nat.le_of_ble_eq_true rfl) rfl dX3_widestOf_87
          · -- 65 f
            refine lv_iload hx hb dX3_widestOf_68 (lv_at hl 0 rfl) ?_
            refine lv_goto (tgt := 87) hx hb dX3_widestOf_70 (by decide) ?_
            exact xreti C () trivial hP hD hS (Nat.le_of_ble_eq_true rfl) (Nat.le_of_ble_eq_true rfl) rfl dX3_widestOf_87
  exact loop_1 _ fr (by omega) (Nat.le_refl _) (Nat.lt_succ_self _) H locs ls hP hD hS (lv_sub hl [0, 1, 2, 3] rfl)

set_option maxHeartbeats 4000000 in
set_option maxRecDepth 100000 in
theorem c_X3_widestOf_3 (l : Launch) (D : va_G) (cs : Nat → ClassId) (hgr en gs g1r g2r gan gpr gde gme : Nat) (gaf gpf : Nat → Int32) (x : Int32) (fr : Nat) (hen : en ≤ 16) (hfr : fr ≤ 17) (hd : en ≤ fr + 3) : xMet l D cs yX3_widestOf cX3_widestOf 7 (some .int) ({ frames := 3, cells := 0, slots := 0, locals := 78 } : Room) [.ref hgr, .int x, .int (nI fr)] [(hgr, .inr (3, [.int (nI en), .ref gs, .ref g1r, .ref g2r, .ref gan, .ref gpr, .ref gde, .ref gme])), (gan, .inl (cs 0, 16, .inl gaf)), (gpr, .inl (cs 0, 16, .inl gpf))] (xQi D (fun (r : Int32) (_u : Unit) => True) (fun (_u : Unit) => [(hgr, .inr (3, [.int (nI en), .ref gs, .ref g1r, .ref g2r, .ref gan, .ref gpr, .ref gde, .ref gme])), (gan, .inl (cs 0, 16, .inl gaf)), (gpr, .inl (cs 0, 16, .inl gpf))])) := by
  refine xMet.intro (by decide) (Nat.le_of_ble_eq_true rfl) ?_
  intro p e s m args below meth c A ls C hP hD hS hl
  have hx := C.1
  have hb := C.2.1
  have hz := C.2.2.2.2.1
  have hown := C.2.2.2.1
  have hA := C.2.2.2.2.2.2.2.2.2
  have hAO := C.2.2.2.2.2.2.2.2.1.2.2
  replace hl : lv_has ls 7 [(0, .ref hgr), (1, .int x), (2, .int (nI fr))] := hl
  obtain ⟨H, hH⟩ : ∃ H, H = s.heap := ⟨_, rfl⟩
  replace hP : va_P D vwCl [(hgr, .inr (3, [.int (nI en), .ref gs, .ref g1r, .ref g2r, .ref gan, .ref gpr, .ref gde, .ref gme])), (gan, .inl (cs 0, 16, .inl gaf)), (gpr, .inl (cs 0, 16, .inl gpf))] H := by rw [hH]; exact hP
  replace hS : va_S A s.heap H [] := by rw [hH]; exact hS
  obtain ⟨locs, hlocs⟩ : ∃ z : List Loc, z = [] := ⟨_, rfl⟩
  rw [← hlocs] at hS
  suffices hW : W p l e ({ frames := 3, cells := 0, slots := 0, locals := 78 } : Room) s m args below meth c H locs 0 0 (MQ below ((xQi D (fun (r : Int32) (_u : Unit) => True) (fun (_u : Unit) => [(hgr, .inr (3, [.int (nI en), .ref gs, .ref g1r, .ref g2r, .ref gan, .ref gpr, .ref gde, .ref gme])), (gan, .inl (cs 0, 16, .inl gaf)), (gpr, .inl (cs 0, 16, .inl gpf))])) A) args s 0 0 A) (F0 m 0 ls []) by rw [hlocs, hH] at hW; exact hW
  clear hH hlocs
  refine lv_iload_n hx hb dX3_widestOf_0 rfl (lv_at hl 2 rfl) ?_
  refine lv_istore_n (lv' := [(3, .int (nI fr)), (0, .ref hgr), (1, .int x), (2, .int (nI fr))]) hx hb dX3_widestOf_1 rfl hl (by decide) rfl ?_
  clear hl
  try clear ls
  intro ls hl
  have loop_1 : ∀ (n_loop_1 : Nat) (e9 : Nat), (e9 ≤ 17) → (fr ≤ e9) → 17 - e9 < n_loop_1 → ∀ (H : Heap) (locs : List Loc) (ls : Array Slot), va_P D vwCl [(hgr, .inr (3, [.int (nI en), .ref gs, .ref g1r, .ref g2r, .ref gan, .ref gpr, .ref gde, .ref gme])), (gan, .inl (cs 0, 16, .inl gaf)), (gpr, .inl (cs 0, 16, .inl gpf))] H → va_D A [(hgr, .inr (3, [.int (nI en), .ref gs, .ref g1r, .ref g2r, .ref gan, .ref gpr, .ref gde, .ref gme])), (gan, .inl (cs 0, 16, .inl gaf)), (gpr, .inl (cs 0, 16, .inl gpf))] → va_S A s.heap H locs → lv_has ls 7 [(3, .int (nI e9)), (0, .ref hgr), (1, .int x), (2, .int (nI fr))] → W p l e ({ frames := 3, cells := 0, slots := 0, locals := 78 } : Room) s m args below meth c H locs 0 0 (MQ below ((xQi D (fun (r : Int32) (_u : Unit) => True) (fun (_u : Unit) => [(hgr, .inr (3, [.int (nI en), .ref gs, .ref g1r, .ref g2r, .ref gan, .ref gpr, .ref gde, .ref gme])), (gan, .inl (cs 0, 16, .inl gaf)), (gpr, .inl (cs 0, 16, .inl gpf))])) A) args s 0 0 A) (F0 m 2 ls []) := by
    intro n_loop_1
    induction n_loop_1 with
    | zero => intro e9 h_e9 hfe hlt H locs ls hP hD hS hl; exact absurd hlt (Nat.not_lt_zero _)
    | succ n_loop_1 ih_loop_1 =>
      intro e9 h_e9 hfe hlt_loop_1 H locs ls hP hD hS hl
      refine lv_iload_n hx hb dX3_widestOf_2 rfl (lv_at hl 0 rfl) ?_
      refine lv_aload_n hx hb dX3_widestOf_3 rfl (lv_at hl 1 rfl) ?_
      refine xget C hP 0 rfl rfl zuX3 0 (by decide) zw1_195 rfl dX3_widestOf_4 ?_
      refine lv_icmp_ge (tgt := 94) hx hb dX3_widestOf_7 (by decide) (fun c_2 => ?_) (fun c_2 => ?_)
      · -- 7 t
        have fc_2 : en ≤ e9 := nf_le (by omega) (by omega) c_2
        refine lv_iconst (v := nI 0) hx hb dX3_widestOf_94 (by decide) ?_
        exact xreti C () trivial hP hD hS (Nat.le_of_ble_eq_true rfl) (Nat.le_of_ble_eq_true rfl) rfl dX3_widestOf_95
      · -- 7 f
        have fc_2 : e9 < en := nf_nle (by omega) (by omega) c_2
        refine lv_iload_n hx hb dX3_widestOf_10 rfl (lv_at hl 2 rfl) ?_
        refine lv_iload_n hx hb dX3_widestOf_11 rfl (lv_at hl 0 rfl) ?_
        refine lv_ishr hx hb dX3_widestOf_12 ?_
        refine lv_iconst (v := nI 1) hx hb dX3_widestOf_13 (by decide) ?_
        refine lv_iand hx hb dX3_widestOf_14 ?_
        refine lv_iconst (v := nI 1) hx hb dX3_widestOf_15 (by decide) ?_
        refine lv_icmp_ne (tgt := 88) hx hb dX3_widestOf_16 (by decide) (fun c_3 => ?_) (fun c_3 => ?_)
        · -- 16 t
          refine lv_iinc (v := nI (e9 + 1)) (lv' := [(3, .int (nI (e9 + 1))), (0, .ref hgr), (1, .int x), (2, .int (nI fr))]) hx hb dX3_widestOf_88 hl (k := 0) rfl (nI_add e9 1) (by decide) rfl ?_
          clear hl
          try clear ls
          intro ls hl
          refine lv_goto (tgt := 2) hx hb dX3_widestOf_91 (by decide) ?_
          exact ih_loop_1 (e9 + 1) (by omega) (by omega) (by omega) H locs ls hP hD hS (lv_sub hl [0, 1, 2, 3] rfl)
        · -- 16 f
          refine lv_iload_n hx hb dX3_widestOf_19 rfl (lv_at hl 2 rfl) ?_
          refine lv_iconst (v := nI 1) hx hb dX3_widestOf_20 (by decide) ?_
          refine lv_iload_n hx hb dX3_widestOf_21 rfl (lv_at hl 0 rfl) ?_
          refine lv_ishl hx hb dX3_widestOf_22 ?_
          refine lv_iconst (v := (-1)) hx hb dX3_widestOf_23 (by decide) ?_
          refine lv_ixor hx hb dX3_widestOf_24 ?_
          refine lv_iand hx hb dX3_widestOf_25 ?_
          refine lv_istore (lv' := [(4, .int (x &&& (((nI 1) <<< ((nI e9) &&& 31)) ^^^ (-1)))), (3, .int (nI e9)), (0, .ref hgr), (1, .int x), (2, .int (nI fr))]) hx hb dX3_widestOf_26 hl (by decide) rfl ?_
          clear hl
          try clear ls
          intro ls hl
          refine lv_iload hx hb dX3_widestOf_28 (lv_at hl 0 rfl) ?_
          refine lv_aload_n hx hb dX3_widestOf_30 rfl (lv_at hl 2 rfl) ?_
          refine xget C hP 0 rfl rfl zuX3 4 (by decide) zw1_205 rfl dX3_widestOf_31 ?_
          refine lv_iload_n hx hb dX3_widestOf_34 rfl (lv_at hl 1 rfl) ?_
          refine xiald C hP 1 rfl e9 rfl (by omega) (by decide) dX3_widestOf_35 ?_
          refine lv_aload_n hx hb dX3_widestOf_36 rfl (lv_at hl 2 rfl) ?_
          refine xget C hP 0 rfl rfl zuX3 5 (by decide) zw1_207 rfl dX3_widestOf_37 ?_
          refine lv_iload_n hx hb dX3_widestOf_40 rfl (lv_at hl 1 rfl) ?_
          refine xiald C hP 2 rfl e9 rfl (by omega) (by decide) dX3_widestOf_41 ?_
          refine lv_ior hx hb dX3_widestOf_42 ?_
          refine lv_iconst (v := (-1)) hx hb dX3_widestOf_43 (by decide) ?_
          refine lv_ixor hx hb dX3_widestOf_44 ?_
          refine lv_iand hx hb dX3_widestOf_45 ?_
          refine lv_istore (lv' := [(5, .int ((x &&& (((nI 1) <<< ((nI e9) &&& 31)) ^^^ (-1))) &&& (((gaf e9) ||| (gpf e9)) ^^^ (-1)))), (4, .int (x &&& (((nI 1) <<< ((nI e9) &&& 31)) ^^^ (-1)))), (3, .int (nI e9)), (0, .ref hgr), (1, .int x), (2, .int (nI fr))]) hx hb dX3_widestOf_46 hl (by decide) rfl ?_
          clear hl
          try clear ls
          intro ls hl
          refine lv_iconst (v := nI 1) hx hb dX3_widestOf_48 (by decide) ?_
          refine lv_aload_n hx hb dX3_widestOf_49 rfl (lv_at hl 3 rfl) ?_
          refine lv_iload hx hb dX3_widestOf_50 (lv_at hl 0 rfl) ?_
          refine lv_iload_n hx hb dX3_widestOf_52 rfl (lv_at hl 2 rfl) ?_
          refine lv_iconst (v := nI 1) hx hb dX3_widestOf_53 (by decide) ?_
          refine lv_iadd hx hb dX3_widestOf_54 ?_
          refine lv_topi (nm_r (e' := nI (e9 + 1)) (nI_add _ _) ?_)
          refine xi (wr := []) (xS (As := [.ref hgr, .int ((x &&& (((nI 1) <<< ((nI e9) &&& 31)) ^^^ (-1))) &&& (((gaf e9) ||| (gpf e9)) ^^^ (-1))), .int (nI (e9 + 1))]) (rest := [.int (nI 1)]) C (c_X3_widestOf_2 l D cs hgr en gs g1r g2r gan gpr gde gme gaf gpf ((x &&& (((nI 1) <<< ((nI e9) &&& 31)) ^^^ (-1))) &&& (((gaf e9) ||| (gpf e9)) ^^^ (-1))) (e9 + 1) hen (by omega) (by omega)) kX3_60 hP hD [0, 1, 2] rfl (by decide) ⟨Nat.le_of_ble_eq_true rfl, Nat.le_of_ble_eq_true rfl⟩ rfl hl.1 rfl (Nat.le_of_ble_eq_true rfl) dX3_widestOf_55 ⟨Nat.le_of_ble_eq_true rfl, Nat.le_of_ble_eq_true rfl⟩) hP hD hS hA [0, 1, 2] [] rfl rfl (by decide) (by decide) ?_
          clear hP hD hS
          try clear locs
          try clear H
          intro r_4 u_5 H locs hw_r_4 hP hD hS
          refine W.widen (k := 0) (n := 0) (Nat.le_of_ble_eq_true rfl) (Nat.le_of_ble_eq_true rfl) ?_
          replace hP : va_P D vwCl [(hgr, .inr (3, [.int (nI en), .ref gs, .ref g1r, .ref g2r, .ref gan, .ref gpr, .ref gde, .ref gme])), (gan, .inl (cs 0, 16, .inl gaf)), (gpr, .inl (cs 0, 16, .inl gpf))] H := hP
          replace hD : va_D A [(hgr, .inr (3, [.int (nI en), .ref gs, .ref g1r, .ref g2r, .ref gan, .ref gpr, .ref gde, .ref gme])), (gan, .inl (cs 0, 16, .inl gaf)), (gpr, .inl (cs 0, 16, .inl gpf))] := hD
          refine lv_iadd hx hb dX3_widestOf_58 ?_
          refine lv_istore (lv' := [(6, .int ((nI 1) + r_4)), (5, .int ((x &&& (((nI 1) <<< ((nI e9) &&& 31)) ^^^ (-1))) &&& (((gaf e9) ||| (gpf e9)) ^^^ (-1)))), (4, .int (x &&& (((nI 1) <<< ((nI e9) &&& 31)) ^^^ (-1)))), (3, .int (nI e9)), (0, .ref hgr), (1, .int x), (2, .int (nI fr))]) hx hb dX3_widestOf_59 hl (by decide) rfl ?_
          clear hl
          try clear ls
          intro ls hl
          refine lv_iload hx hb dX3_widestOf_61 (lv_at hl 1 rfl) ?_
          refine lv_iload hx hb dX3_widestOf_63 (lv_at hl 2 rfl) ?_
          refine lv_icmp_ne (tgt := 73) hx hb dX3_widestOf_65 (by decide) (fun c_6 => ?_) (fun c_6 => ?_)
          · -- 65 t
            refine lv_iload hx hb dX3_widestOf_73 (lv_at hl 0 rfl) ?_
            refine lv_aload_n hx hb dX3_widestOf_75 rfl (lv_at hl 4 rfl) ?_
            refine lv_iload hx hb dX3_widestOf_76 (lv_at hl 2 rfl) ?_
            refine lv_iload_n hx hb dX3_widestOf_78 rfl (lv_at hl 3 rfl) ?_
            refine lv_iconst (v := nI 1) hx hb dX3_widestOf_79 (by decide) ?_
            refine lv_iadd hx hb dX3_widestOf_80 ?_
            refine lv_topi (nm_r (e' := nI (e9 + 1)) (nI_add _ _) ?_)
            refine xi (wr := []) (xS (As := [.ref hgr, .int (x &&& (((nI 1) <<< ((nI e9) &&& 31)) ^^^ (-1))), .int (nI (e9 + 1))]) (rest := [.int ((nI 1) + r_4)]) C (c_X3_widestOf_2 l D cs hgr en gs g1r g2r gan gpr gde gme gaf gpf (x &&& (((nI 1) <<< ((nI e9) &&& 31)) ^^^ (-1))) (e9 + 1) hen (by omega) (by omega)) kX3_60 hP hD [0, 1, 2] rfl (by decide) ⟨Nat.le_of_ble_eq_true rfl, Nat.le_of_ble_eq_true rfl⟩ rfl hl.1 rfl (Nat.le_of_ble_eq_true rfl) dX3_widestOf_81 ⟨Nat.le_of_ble_eq_true rfl, Nat.le_of_ble_eq_true rfl⟩) hP hD hS hA [0, 1, 2] [] rfl rfl (by decide) (by decide) ?_
            clear hP hD hS
            try clear locs
            try clear H
            intro r_7 u_8 H locs hw_r_7 hP hD hS
            refine W.widen (k := 0) (n := 0) (Nat.le_of_ble_eq_true rfl) (Nat.le_of_ble_eq_true rfl) ?_
            replace hP : va_P D vwCl [(hgr, .inr (3, [.int (nI en), .ref gs, .ref g1r, .ref g2r, .ref gan, .ref gpr, .ref gde, .ref gme])), (gan, .inl (cs 0, 16, .inl gaf)), (gpr, .inl (cs 0, 16, .inl gpf))] H := hP
            replace hD : va_D A [(hgr, .inr (3, [.int (nI en), .ref gs, .ref g1r, .ref g2r, .ref gan, .ref gpr, .ref gde, .ref gme])), (gan, .inl (cs 0, 16, .inl gaf)), (gpr, .inl (cs 0, 16, .inl gpf))] := hD
            refine va_mmax hx hb (C.2.2.1.trans hl.1.symm) hown (hz _ zw4_201) (hz _ zw4_202) (hz _ zw1_3) (hz _ zw4_203) (Nat.le_of_ble_eq_true rfl) (Nat.le_of_ble_eq_true rfl) (Nat.le_of_ble_eq_true rfl) (Nat.le_of_ble_eq_true rfl) dX3_widestOf_84 ?_
            exact xreti C () trivial hP hD hS (Nat.le_of_ble_eq_true rfl) (Nat.le_of_ble_eq_true rfl) rfl dX3_widestOf_87
          · -- 65 f
            refine lv_iload hx hb dX3_widestOf_68 (lv_at hl 0 rfl) ?_
            refine lv_goto (tgt := 87) hx hb dX3_widestOf_70 (by decide) ?_
            exact xreti C () trivial hP hD hS (Nat.le_of_ble_eq_true rfl) (Nat.le_of_ble_eq_true rfl) rfl dX3_widestOf_87
  exact loop_1 _ fr (by omega) (Nat.le_refl _) (Nat.lt_succ_self _) H locs ls hP hD hS (lv_sub hl [0, 1, 2, 3] rfl)

set_option maxHeartbeats 4000000 in
set_option maxRecDepth 100000 in
theorem c_X3_widestOf_4 (l : Launch) (D : va_G) (cs : Nat → ClassId) (hgr en gs g1r g2r gan gpr gde gme : Nat) (gaf gpf : Nat → Int32) (x : Int32) (fr : Nat) (hen : en ≤ 16) (hfr : fr ≤ 17) (hd : en ≤ fr + 4) : xMet l D cs yX3_widestOf cX3_widestOf 7 (some .int) ({ frames := 4, cells := 0, slots := 0, locals := 104 } : Room) [.ref hgr, .int x, .int (nI fr)] [(hgr, .inr (3, [.int (nI en), .ref gs, .ref g1r, .ref g2r, .ref gan, .ref gpr, .ref gde, .ref gme])), (gan, .inl (cs 0, 16, .inl gaf)), (gpr, .inl (cs 0, 16, .inl gpf))] (xQi D (fun (r : Int32) (_u : Unit) => True) (fun (_u : Unit) => [(hgr, .inr (3, [.int (nI en), .ref gs, .ref g1r, .ref g2r, .ref gan, .ref gpr, .ref gde, .ref gme])), (gan, .inl (cs 0, 16, .inl gaf)), (gpr, .inl (cs 0, 16, .inl gpf))])) := by
  refine xMet.intro (by decide) (Nat.le_of_ble_eq_true rfl) ?_
  intro p e s m args below meth c A ls C hP hD hS hl
  have hx := C.1
  have hb := C.2.1
  have hz := C.2.2.2.2.1
  have hown := C.2.2.2.1
  have hA := C.2.2.2.2.2.2.2.2.2
  have hAO := C.2.2.2.2.2.2.2.2.1.2.2
  replace hl : lv_has ls 7 [(0, .ref hgr), (1, .int x), (2, .int (nI fr))] := hl
  obtain ⟨H, hH⟩ : ∃ H, H = s.heap := ⟨_, rfl⟩
  replace hP : va_P D vwCl [(hgr, .inr (3, [.int (nI en), .ref gs, .ref g1r, .ref g2r, .ref gan, .ref gpr, .ref gde, .ref gme])), (gan, .inl (cs 0, 16, .inl gaf)), (gpr, .inl (cs 0, 16, .inl gpf))] H := by rw [hH]; exact hP
  replace hS : va_S A s.heap H [] := by rw [hH]; exact hS
  obtain ⟨locs, hlocs⟩ : ∃ z : List Loc, z = [] := ⟨_, rfl⟩
  rw [← hlocs] at hS
  suffices hW : W p l e ({ frames := 4, cells := 0, slots := 0, locals := 104 } : Room) s m args below meth c H locs 0 0 (MQ below ((xQi D (fun (r : Int32) (_u : Unit) => True) (fun (_u : Unit) => [(hgr, .inr (3, [.int (nI en), .ref gs, .ref g1r, .ref g2r, .ref gan, .ref gpr, .ref gde, .ref gme])), (gan, .inl (cs 0, 16, .inl gaf)), (gpr, .inl (cs 0, 16, .inl gpf))])) A) args s 0 0 A) (F0 m 0 ls []) by rw [hlocs, hH] at hW; exact hW
  clear hH hlocs
  refine lv_iload_n hx hb dX3_widestOf_0 rfl (lv_at hl 2 rfl) ?_
  refine lv_istore_n (lv' := [(3, .int (nI fr)), (0, .ref hgr), (1, .int x), (2, .int (nI fr))]) hx hb dX3_widestOf_1 rfl hl (by decide) rfl ?_
  clear hl
  try clear ls
  intro ls hl
  have loop_1 : ∀ (n_loop_1 : Nat) (e9 : Nat), (e9 ≤ 17) → (fr ≤ e9) → 17 - e9 < n_loop_1 → ∀ (H : Heap) (locs : List Loc) (ls : Array Slot), va_P D vwCl [(hgr, .inr (3, [.int (nI en), .ref gs, .ref g1r, .ref g2r, .ref gan, .ref gpr, .ref gde, .ref gme])), (gan, .inl (cs 0, 16, .inl gaf)), (gpr, .inl (cs 0, 16, .inl gpf))] H → va_D A [(hgr, .inr (3, [.int (nI en), .ref gs, .ref g1r, .ref g2r, .ref gan, .ref gpr, .ref gde, .ref gme])), (gan, .inl (cs 0, 16, .inl gaf)), (gpr, .inl (cs 0, 16, .inl gpf))] → va_S A s.heap H locs → lv_has ls 7 [(3, .int (nI e9)), (0, .ref hgr), (1, .int x), (2, .int (nI fr))] → W p l e ({ frames := 4, cells := 0, slots := 0, locals := 104 } : Room) s m args below meth c H locs 0 0 (MQ below ((xQi D (fun (r : Int32) (_u : Unit) => True) (fun (_u : Unit) => [(hgr, .inr (3, [.int (nI en), .ref gs, .ref g1r, .ref g2r, .ref gan, .ref gpr, .ref gde, .ref gme])), (gan, .inl (cs 0, 16, .inl gaf)), (gpr, .inl (cs 0, 16, .inl gpf))])) A) args s 0 0 A) (F0 m 2 ls []) := by
    intro n_loop_1
    induction n_loop_1 with
    | zero => intro e9 h_e9 hfe hlt H locs ls hP hD hS hl; exact absurd hlt (Nat.not_lt_zero _)
    | succ n_loop_1 ih_loop_1 =>
      intro e9 h_e9 hfe hlt_loop_1 H locs ls hP hD hS hl
      refine lv_iload_n hx hb dX3_widestOf_2 rfl (lv_at hl 0 rfl) ?_
      refine lv_aload_n hx hb dX3_widestOf_3 rfl (lv_at hl 1 rfl) ?_
      refine xget C hP 0 rfl rfl zuX3 0 (by decide) zw1_195 rfl dX3_widestOf_4 ?_
      refine lv_icmp_ge (tgt := 94) hx hb dX3_widestOf_7 (by decide) (fun c_2 => ?_) (fun c_2 => ?_)
      · -- 7 t
        have fc_2 : en ≤ e9 := nf_le (by omega) (by omega) c_2
        refine lv_iconst (v := nI 0) hx hb dX3_widestOf_94 (by decide) ?_
        exact xreti C () trivial hP hD hS (Nat.le_of_ble_eq_true rfl) (Nat.le_of_ble_eq_true rfl) rfl dX3_widestOf_95
      · -- 7 f
        have fc_2 : e9 < en := nf_nle (by omega) (by omega) c_2
        refine lv_iload_n hx hb dX3_widestOf_10 rfl (lv_at hl 2 rfl) ?_
        refine lv_iload_n hx hb dX3_widestOf_11 rfl (lv_at hl 0 rfl) ?_
        refine lv_ishr hx hb dX3_widestOf_12 ?_
        refine lv_iconst (v := nI 1) hx hb dX3_widestOf_13 (by decide) ?_
        refine lv_iand hx hb dX3_widestOf_14 ?_
        refine lv_iconst (v := nI 1) hx hb dX3_widestOf_15 (by decide) ?_
        refine lv_icmp_ne (tgt := 88) hx hb dX3_widestOf_16 (by decide) (fun c_3 => ?_) (fun c_3 => ?_)
        · -- 16 t
          refine lv_iinc (v := nI (e9 + 1)) (lv' := [(3, .int (nI (e9 + 1))), (0, .ref hgr), (1, .int x), (2, .int (nI fr))]) hx hb dX3_widestOf_88 hl (k := 0) rfl (nI_add e9 1) (by decide) rfl ?_
          clear hl
          try clear ls
          intro ls hl
          refine lv_goto (tgt := 2) hx hb dX3_widestOf_91 (by decide) ?_
          exact ih_loop_1 (e9 + 1) (by omega) (by omega) (by omega) H locs ls hP hD hS (lv_sub hl [0, 1, 2, 3] rfl)
        · -- 16 f
          refine lv_iload_n hx hb dX3_widestOf_19 rfl (lv_at hl 2 rfl) ?_
          refine lv_iconst (v := nI 1) hx hb dX3_widestOf_20 (by decide) ?_
          refine lv_iload_n hx hb dX3_widestOf_21 rfl (lv_at hl 0 rfl) ?_
          refine lv_ishl hx hb dX3_widestOf_22 ?_
          refine lv_iconst (v := (-1)) hx hb dX3_widestOf_23 (by decide) ?_
          refine lv_ixor hx hb dX3_widestOf_24 ?_
          refine lv_iand hx hb dX3_widestOf_25 ?_
          refine lv_istore (lv' := [(4, .int (x &&& (((nI 1) <<< ((nI e9) &&& 31)) ^^^ (-1)))), (3, .int (nI e9)), (0, .ref hgr), (1, .int x), (2, .int (nI fr))]) hx hb dX3_widestOf_26 hl (by decide) rfl ?_
          clear hl
          try clear ls
          intro ls hl
          refine lv_iload hx hb dX3_widestOf_28 (lv_at hl 0 rfl) ?_
          refine lv_aload_n hx hb dX3_widestOf_30 rfl (lv_at hl 2 rfl) ?_
          refine xget C hP 0 rfl rfl zuX3 4 (by decide) zw1_205 rfl dX3_widestOf_31 ?_
          refine lv_iload_n hx hb dX3_widestOf_34 rfl (lv_at hl 1 rfl) ?_
          refine xiald C hP 1 rfl e9 rfl (by omega) (by decide) dX3_widestOf_35 ?_
          refine lv_aload_n hx hb dX3_widestOf_36 rfl (lv_at hl 2 rfl) ?_
          refine xget C hP 0 rfl rfl zuX3 5 (by decide) zw1_207 rfl dX3_widestOf_37 ?_
          refine lv_iload_n hx hb dX3_widestOf_40 rfl (lv_at hl 1 rfl) ?_
          refine xiald C hP 2 rfl e9 rfl (by omega) (by decide) dX3_widestOf_41 ?_
          refine lv_ior hx hb dX3_widestOf_42 ?_
          refine lv_iconst (v := (-1)) hx hb dX3_widestOf_43 (by decide) ?_
          refine lv_ixor hx hb dX3_widestOf_44 ?_
          refine lv_iand hx hb dX3_widestOf_45 ?_
          refine lv_istore (lv' := [(5, .int ((x &&& (((nI 1) <<< ((nI e9) &&& 31)) ^^^ (-1))) &&& (((gaf e9) ||| (gpf e9)) ^^^ (-1)))), (4, .int (x &&& (((nI 1) <<< ((nI e9) &&& 31)) ^^^ (-1)))), (3, .int (nI e9)), (0, .ref hgr), (1, .int x), (2, .int (nI fr))]) hx hb dX3_widestOf_46 hl (by decide) rfl ?_
          clear hl
          try clear ls
          intro ls hl
          refine lv_iconst (v := nI 1) hx hb dX3_widestOf_48 (by decide) ?_
          refine lv_aload_n hx hb dX3_widestOf_49 rfl (lv_at hl 3 rfl) ?_
          refine lv_iload hx hb dX3_widestOf_50 (lv_at hl 0 rfl) ?_
          refine lv_iload_n hx hb dX3_widestOf_52 rfl (lv_at hl 2 rfl) ?_
          refine lv_iconst (v := nI 1) hx hb dX3_widestOf_53 (by decide) ?_
          refine lv_iadd hx hb dX3_widestOf_54 ?_
          refine lv_topi (nm_r (e' := nI (e9 + 1)) (nI_add _ _) ?_)
          refine xi (wr := []) (xS (As := [.ref hgr, .int ((x &&& (((nI 1) <<< ((nI e9) &&& 31)) ^^^ (-1))) &&& (((gaf e9) ||| (gpf e9)) ^^^ (-1))), .int (nI (e9 + 1))]) (rest := [.int (nI 1)]) C (c_X3_widestOf_3 l D cs hgr en gs g1r g2r gan gpr gde gme gaf gpf ((x &&& (((nI 1) <<< ((nI e9) &&& 31)) ^^^ (-1))) &&& (((gaf e9) ||| (gpf e9)) ^^^ (-1))) (e9 + 1) hen (by omega) (by omega)) kX3_60 hP hD [0, 1, 2] rfl (by decide) ⟨Nat.le_of_ble_eq_true rfl, Nat.le_of_ble_eq_true rfl⟩ rfl hl.1 rfl (Nat.le_of_ble_eq_true rfl) dX3_widestOf_55 ⟨Nat.le_of_ble_eq_true rfl, Nat.le_of_ble_eq_true rfl⟩) hP hD hS hA [0, 1, 2] [] rfl rfl (by decide) (by decide) ?_
          clear hP hD hS
          try clear locs
          try clear H
          intro r_4 u_5 H locs hw_r_4 hP hD hS
          refine W.widen (k := 0) (n := 0) (Nat.le_of_ble_eq_true rfl) (Nat.le_of_ble_eq_true rfl) ?_
          replace hP : va_P D vwCl [(hgr, .inr (3, [.int (nI en), .ref gs, .ref g1r, .ref g2r, .ref gan, .ref gpr, .ref gde, .ref gme])), (gan, .inl (cs 0, 16, .inl gaf)), (gpr, .inl (cs 0, 16, .inl gpf))] H := hP
          replace hD : va_D A [(hgr, .inr (3, [.int (nI en), .ref gs, .ref g1r, .ref g2r, .ref gan, .ref gpr, .ref gde, .ref gme])), (gan, .inl (cs 0, 16, .inl gaf)), (gpr, .inl (cs 0, 16, .inl gpf))] := hD
          refine lv_iadd hx hb dX3_widestOf_58 ?_
          refine lv_istore (lv' := [(6, .int ((nI 1) + r_4)), (5, .int ((x &&& (((nI 1) <<< ((nI e9) &&& 31)) ^^^ (-1))) &&& (((gaf e9) ||| (gpf e9)) ^^^ (-1)))), (4, .int (x &&& (((nI 1) <<< ((nI e9) &&& 31)) ^^^ (-1)))), (3, .int (nI e9)), (0, .ref hgr), (1, .int x), (2, .int (nI fr))]) hx hb dX3_widestOf_59 hl (by decide) rfl ?_
          clear hl
          try clear ls
          intro ls hl
          refine lv_iload hx hb dX3_widestOf_61 (lv_at hl 1 rfl) ?_
          refine lv_iload hx hb dX3_widestOf_63 (lv_at hl 2 rfl) ?_
          refine lv_icmp_ne (tgt := 73) hx hb dX3_widestOf_65 (by decide) (fun c_6 => ?_) (fun c_6 => ?_)
          · -- 65 t
            refine lv_iload hx hb dX3_widestOf_73 (lv_at hl 0 rfl) ?_
            refine lv_aload_n hx hb dX3_widestOf_75 rfl (lv_at hl 4 rfl) ?_
            refine lv_iload hx hb dX3_widestOf_76 (lv_at hl 2 rfl) ?_
            refine lv_iload_n hx hb dX3_widestOf_78 rfl (lv_at hl 3 rfl) ?_
            refine lv_iconst (v := nI 1) hx hb dX3_widestOf_79 (by decide) ?_
            refine lv_iadd hx hb dX3_widestOf_80 ?_
            refine lv_topi (nm_r (e' := nI (e9 + 1)) (nI_add _ _) ?_)
            refine xi (wr := []) (xS (As := [.ref hgr, .int (x &&& (((nI 1) <<< ((nI e9) &&& 31)) ^^^ (-1))), .int (nI (e9 + 1))]) (rest := [.int ((nI 1) + r_4)]) C (c_X3_widestOf_3 l D cs hgr en gs g1r g2r gan gpr gde gme gaf gpf (x &&& (((nI 1) <<< ((nI e9) &&& 31)) ^^^ (-1))) (e9 + 1) hen (by omega) (by omega)) kX3_60 hP hD [0, 1, 2] rfl (by decide) ⟨Nat.le_of_ble_eq_true rfl, Nat.le_of_ble_eq_true rfl⟩ rfl hl.1 rfl (Nat.le_of_ble_eq_true rfl) dX3_widestOf_81 ⟨Nat.le_of_ble_eq_true rfl, Nat.le_of_ble_eq_true rfl⟩) hP hD hS hA [0, 1, 2] [] rfl rfl (by decide) (by decide) ?_
            clear hP hD hS
            try clear locs
            try clear H
            intro r_7 u_8 H locs hw_r_7 hP hD hS
            refine W.widen (k := 0) (n := 0) (Nat.le_of_ble_eq_true rfl) (Nat.le_of_ble_eq_true rfl) ?_
            replace hP : va_P D vwCl [(hgr, .inr (3, [.int (nI en), .ref gs, .ref g1r, .ref g2r, .ref gan, .ref gpr, .ref gde, .ref gme])), (gan, .inl (cs 0, 16, .inl gaf)), (gpr, .inl (cs 0, 16, .inl gpf))] H := hP
            replace hD : va_D A [(hgr, .inr (3, [.int (nI en), .ref gs, .ref g1r, .ref g2r, .ref gan, .ref gpr, .ref gde, .ref gme])), (gan, .inl (cs 0, 16, .inl gaf)), (gpr, .inl (cs 0, 16, .inl gpf))] := hD
            refine va_mmax hx hb (C.2.2.1.trans hl.1.symm) hown (hz _ zw4_201) (hz _ zw4_202) (hz _ zw1_3) (hz _ zw4_203) (Nat.le_of_ble_eq_true rfl) (Nat.le_of_ble_eq_true rfl) (Nat.le_of_ble_eq_true rfl) (Nat.le_of_ble_eq_true rfl) dX3_widestOf_84 ?_
            exact xreti C () trivial hP hD hS (Nat.le_of_ble_eq_true rfl) (Nat.le_of_ble_eq_true rfl) rfl dX3_widestOf_87
          · -- 65 f
            refine lv_iload hx hb dX3_widestOf_68 (lv_at hl 0 rfl) ?_
            refine lv_goto (tgt := 87) hx hb dX3_widestOf_70 (by decide) ?_
            exact xreti C () trivial hP hD hS (Nat.le_of_ble_eq_true rfl) (Nat.le_of_ble_eq_true rfl) rfl dX3_widestOf_87
  exact loop_1 _ fr (by omega) (Nat.le_refl _) (Nat.lt_succ_self _) H locs ls hP hD hS (lv_sub hl [0, 1, 2, 3] rfl)

set_option maxHeartbeats 4000000 in
set_option maxRecDepth 100000 in
theorem c_X3_widestOf_5 (l : Launch) (D : va_G) (cs : Nat → ClassId) (hgr en gs g1r g2r gan gpr gde gme : Nat) (gaf gpf : Nat → Int32) (x : Int32) (fr : Nat) (hen : en ≤ 16) (hfr : fr ≤ 17) (hd : en ≤ fr + 5) : xMet l D cs yX3_widestOf cX3_widestOf 7 (some .int) ({ frames := 5, cells := 0, slots := 0, locals := 130 } : Room) [.ref hgr, .int x, .int (nI fr)] [(hgr, .inr (3, [.int (nI en), .ref gs, .ref g1r, .ref g2r, .ref gan, .ref gpr, .ref gde, .ref gme])), (gan, .inl (cs 0, 16, .inl gaf)), (gpr, .inl (cs 0, 16, .inl gpf))] (xQi D (fun (r : Int32) (_u : Unit) => True) (fun (_u : Unit) => [(hgr, .inr (3, [.int (nI en), .ref gs, .ref g1r, .ref g2r, .ref gan, .ref gpr, .ref gde, .ref gme])), (gan, .inl (cs 0, 16, .inl gaf)), (gpr, .inl (cs 0, 16, .inl gpf))])) := by
  refine xMet.intro (by decide) (Nat.le_of_ble_eq_true rfl) ?_
  intro p e s m args below meth c A ls C hP hD hS hl
  have hx := C.1
  have hb := C.2.1
  have hz := C.2.2.2.2.1
  have hown := C.2.2.2.1
  have hA := C.2.2.2.2.2.2.2.2.2
  have hAO := C.2.2.2.2.2.2.2.2.1.2.2
  replace hl : lv_has ls 7 [(0, .ref hgr), (1, .int x), (2, .int (nI fr))] := hl
  obtain ⟨H, hH⟩ : ∃ H, H = s.heap := ⟨_, rfl⟩
  replace hP : va_P D vwCl [(hgr, .inr (3, [.int (nI en), .ref gs, .ref g1r, .ref g2r, .ref gan, .ref gpr, .ref gde, .ref gme])), (gan, .inl (cs 0, 16, .inl gaf)), (gpr, .inl (cs 0, 16, .inl gpf))] H := by rw [hH]; exact hP
  replace hS : va_S A s.heap H [] := by rw [hH]; exact hS
  obtain ⟨locs, hlocs⟩ : ∃ z : List Loc, z = [] := ⟨_, rfl⟩
  rw [← hlocs] at hS
  suffices hW : W p l e ({ frames := 5, cells := 0, slots := 0, locals := 130 } : Room) s m args below meth c H locs 0 0 (MQ below ((xQi D (fun (r : Int32) (_u : Unit) => True) (fun (_u : Unit) => [(hgr, .inr (3, [.int (nI en), .ref gs, .ref g1r, .ref g2r, .ref gan, .ref gpr, .ref gde, .ref gme])), (gan, .inl (cs 0, 16, .inl gaf)), (gpr, .inl (cs 0, 16, .inl gpf))])) A) args s 0 0 A) (F0 m 0 ls []) by rw [hlocs, hH] at hW; exact hW
  clear hH hlocs
  refine lv_iload_n hx hb dX3_widestOf_0 rfl (lv_at hl 2 rfl) ?_
  refine lv_istore_n (lv' := [(3, .int (nI fr)), (0, .ref hgr), (1, .int x), (2, .int (nI fr))]) hx hb dX3_widestOf_1 rfl hl (by decide) rfl ?_
  clear hl
  try clear ls
  intro ls hl
  have loop_1 : ∀ (n_loop_1 : Nat) (e9 : Nat), (e9 ≤ 17) → (fr ≤ e9) → 17 - e9 < n_loop_1 → ∀ (H : Heap) (locs : List Loc) (ls : Array Slot), va_P D vwCl [(hgr, .inr (3, [.int (nI en), .ref gs, .ref g1r, .ref g2r, .ref gan, .ref gpr, .ref gde, .ref gme])), (gan, .inl (cs 0, 16, .inl gaf)), (gpr, .inl (cs 0, 16, .inl gpf))] H → va_D A [(hgr, .inr (3, [.int (nI en), .ref gs, .ref g1r, .ref g2r, .ref gan, .ref gpr, .ref gde, .ref gme])), (gan, .inl (cs 0, 16, .inl gaf)), (gpr, .inl (cs 0, 16, .inl gpf))] → va_S A s.heap H locs → lv_has ls 7 [(3, .int (nI e9)), (0, .ref hgr), (1, .int x), (2, .int (nI fr))] → W p l e ({ frames := 5, cells := 0, slots := 0, locals := 130 } : Room) s m args below meth c H locs 0 0 (MQ below ((xQi D (fun (r : Int32) (_u : Unit) => True) (fun (_u : Unit) => [(hgr, .inr (3, [.int (nI en), .ref gs, .ref g1r, .ref g2r, .ref gan, .ref gpr, .ref gde, .ref gme])), (gan, .inl (cs 0, 16, .inl gaf)), (gpr, .inl (cs 0, 16, .inl gpf))])) A) args s 0 0 A) (F0 m 2 ls []) := by
    intro n_loop_1
    induction n_loop_1 with
    | zero => intro e9 h_e9 hfe hlt H locs ls hP hD hS hl; exact absurd hlt (Nat.not_lt_zero _)
    | succ n_loop_1 ih_loop_1 =>
      intro e9 h_e9 hfe hlt_loop_1 H locs ls hP hD hS hl
      refine lv_iload_n hx hb dX3_widestOf_2 rfl (lv_at hl 0 rfl) ?_
      refine lv_aload_n hx hb dX3_widestOf_3 rfl (lv_at hl 1 rfl) ?_
      refine xget C hP 0 rfl rfl zuX3 0 (by decide) zw1_195 rfl dX3_widestOf_4 ?_
      refine lv_icmp_ge (tgt := 94) hx hb dX3_widestOf_7 (by decide) (fun c_2 => ?_) (fun c_2 => ?_)
      · -- 7 t
        have fc_2 : en ≤ e9 := nf_le (by omega) (by omega) c_2
        refine lv_iconst (v := nI 0) hx hb dX3_widestOf_94 (by decide) ?_
        exact xreti C () trivial hP hD hS (Nat.le_of_ble_eq_true rfl) (Nat.le_of_ble_eq_true rfl) rfl dX3_widestOf_95
      · -- 7 f
        have fc_2 : e9 < en := nf_nle (by omega) (by omega) c_2
        refine lv_iload_n hx hb dX3_widestOf_10 rfl (lv_at hl 2 rfl) ?_
        refine lv_iload_n hx hb dX3_widestOf_11 rfl (lv_at hl 0 rfl) ?_
        refine lv_ishr hx hb dX3_widestOf_12 ?_
        refine lv_iconst (v := nI 1) hx hb dX3_widestOf_13 (by decide) ?_
        refine lv_iand hx hb dX3_widestOf_14 ?_
        refine lv_iconst (v := nI 1) hx hb dX3_widestOf_15 (by decide) ?_
        refine lv_icmp_ne (tgt := 88) hx hb dX3_widestOf_16 (by decide) (fun c_3 => ?_) (fun c_3 => ?_)
        · -- 16 t
          refine lv_iinc (v := nI (e9 + 1)) (lv' := [(3, .int (nI (e9 + 1))), (0, .ref hgr), (1, .int x), (2, .int (nI fr))]) hx hb dX3_widestOf_88 hl (k := 0) rfl (nI_add e9 1) (by decide) rfl ?_
          clear hl
          try clear ls
          intro ls hl
          refine lv_goto (tgt := 2) hx hb dX3_widestOf_91 (by decide) ?_
          exact ih_loop_1 (e9 + 1) (by omega) (by omega) (by omega) H locs ls hP hD hS (lv_sub hl [0, 1, 2, 3] rfl)
        · -- 16 f
          refine lv_iload_n hx hb dX3_widestOf_19 rfl (lv_at hl 2 rfl) ?_
          refine lv_iconst (v := nI 1) hx hb dX3_widestOf_20 (by decide) ?_
          refine lv_iload_n hx hb dX3_widestOf_21 rfl (lv_at hl 0 rfl) ?_
          refine lv_ishl hx hb dX3_widestOf_22 ?_
          refine lv_iconst (v := (-1)) hx hb dX3_widestOf_23 (by decide) ?_
          refine lv_ixor hx hb dX3_widestOf_24 ?_
          refine lv_iand hx hb dX3_widestOf_25 ?_
          refine lv_istore (lv' := [(4, .int (x &&& (((nI 1) <<< ((nI e9) &&& 31)) ^^^ (-1)))), (3, .int (nI e9)), (0, .ref hgr), (1, .int x), (2, .int (nI fr))]) hx hb dX3_widestOf_26 hl (by decide) rfl ?_
          clear hl
          try clear ls
          intro ls hl
          refine lv_iload hx hb dX3_widestOf_28 (lv_at hl 0 rfl) ?_
          refine lv_aload_n hx hb dX3_widestOf_30 rfl (lv_at hl 2 rfl) ?_
          refine xget C hP 0 rfl rfl zuX3 4 (by decide) zw1_205 rfl dX3_widestOf_31 ?_
          refine lv_iload_n hx hb dX3_widestOf_34 rfl (lv_at hl 1 rfl) ?_
          refine xiald C hP 1 rfl e9 rfl (by omega) (by decide) dX3_widestOf_35 ?_
          refine lv_aload_n hx hb dX3_widestOf_36 rfl (lv_at hl 2 rfl) ?_
          refine xget C hP 0 rfl rfl zuX3 5 (by decide) zw1_207 rfl dX3_widestOf_37 ?_
          refine lv_iload_n hx hb dX3_widestOf_40 rfl (lv_at hl 1 rfl) ?_
          refine xiald C hP 2 rfl e9 rfl (by omega) (by decide) dX3_widestOf_41 ?_
          refine lv_ior hx hb dX3_widestOf_42 ?_
          refine lv_iconst (v := (-1)) hx hb dX3_widestOf_43 (by decide) ?_
          refine lv_ixor hx hb dX3_widestOf_44 ?_
          refine lv_iand hx hb dX3_widestOf_45 ?_
          refine lv_istore (lv' := [(5, .int ((x &&& (((nI 1) <<< ((nI e9) &&& 31)) ^^^ (-1))) &&& (((gaf e9) ||| (gpf e9)) ^^^ (-1)))), (4, .int (x &&& (((nI 1) <<< ((nI e9) &&& 31)) ^^^ (-1)))), (3, .int (nI e9)), (0, .ref hgr), (1, .int x), (2, .int (nI fr))]) hx hb dX3_widestOf_46 hl (by decide) rfl ?_
          clear hl
          try clear ls
          intro ls hl
          refine lv_iconst (v := nI 1) hx hb dX3_widestOf_48 (by decide) ?_
          refine lv_aload_n hx hb dX3_widestOf_49 rfl (lv_at hl 3 rfl) ?_
          refine lv_iload hx hb dX3_widestOf_50 (lv_at hl 0 rfl) ?_
          refine lv_iload_n hx hb dX3_widestOf_52 rfl (lv_at hl 2 rfl) ?_
          refine lv_iconst (v := nI 1) hx hb dX3_widestOf_53 (by decide) ?_
          refine lv_iadd hx hb dX3_widestOf_54 ?_
          refine lv_topi (nm_r (e' := nI (e9 + 1)) (nI_add _ _) ?_)
          refine xi (wr := []) (xS (As := [.ref hgr, .int ((x &&& (((nI 1) <<< ((nI e9) &&& 31)) ^^^ (-1))) &&& (((gaf e9) ||| (gpf e9)) ^^^ (-1))), .int (nI (e9 + 1))]) (rest := [.int (nI 1)]) C (c_X3_widestOf_4 l D cs hgr en gs g1r g2r gan gpr gde gme gaf gpf ((x &&& (((nI 1) <<< ((nI e9) &&& 31)) ^^^ (-1))) &&& (((gaf e9) ||| (gpf e9)) ^^^ (-1))) (e9 + 1) hen (by omega) (by omega)) kX3_60 hP hD [0, 1, 2] rfl (by decide) ⟨Nat.le_of_ble_eq_true rfl, Nat.le_of_ble_eq_true rfl⟩ rfl hl.1 rfl (Nat.le_of_ble_eq_true rfl) dX3_widestOf_55 ⟨Nat.le_of_ble_eq_true rfl, Nat.le_of_ble_eq_true rfl⟩) hP hD hS hA [0, 1, 2] [] rfl rfl (by decide) (by decide) ?_
          clear hP hD hS
          try clear locs
          try clear H
          intro r_4 u_5 H locs hw_r_4 hP hD hS
          refine W.widen (k := 0) (n := 0) (Nat.le_of_ble_eq_true rfl) (Nat.le_of_ble_eq_true rfl) ?_
          replace hP : va_P D vwCl [(hgr, .inr (3, [.int (nI en), .ref gs, .ref g1r, .ref g2r, .ref gan, .ref gpr, .ref gde, .ref gme])), (gan, .inl (cs 0, 16, .inl gaf)), (gpr, .inl (cs 0, 16, .inl gpf))] H := hP
          replace hD : va_D A [(hgr, .inr (3, [.int (nI en), .ref gs, .ref g1r, .ref g2r, .ref gan, .ref gpr, .ref gde, .ref gme])), (gan, .inl (cs 0, 16, .inl gaf)), (gpr, .inl (cs 0, 16, .inl gpf))] := hD
          refine lv_iadd hx hb dX3_widestOf_58 ?_
          refine lv_istore (lv' := [(6, .int ((nI 1) + r_4)), (5, .int ((x &&& (((nI 1) <<< ((nI e9) &&& 31)) ^^^ (-1))) &&& (((gaf e9) ||| (gpf e9)) ^^^ (-1)))), (4, .int (x &&& (((nI 1) <<< ((nI e9) &&& 31)) ^^^ (-1)))), (3, .int (nI e9)), (0, .ref hgr), (1, .int x), (2, .int (nI fr))]) hx hb dX3_widestOf_59 hl (by decide) rfl ?_
          clear hl
          try clear ls
          intro ls hl
          refine lv_iload hx hb dX3_widestOf_61 (lv_at hl 1 rfl) ?_
          refine lv_iload hx hb dX3_widestOf_63 (lv_at hl 2 rfl) ?_
          refine lv_icmp_ne (tgt := 73) hx hb dX3_widestOf_65 (by decide) (fun c_6 => ?_) (fun c_6 => ?_)
          · -- 65 t
            refine lv_iload hx hb dX3_widestOf_73 (lv_at hl 0 rfl) ?_
            refine lv_aload_n hx hb dX3_widestOf_75 rfl (lv_at hl 4 rfl) ?_
            refine lv_iload hx hb dX3_widestOf_76 (lv_at hl 2 rfl) ?_
            refine lv_iload_n hx hb dX3_widestOf_78 rfl (lv_at hl 3 rfl) ?_
            refine lv_iconst (v := nI 1) hx hb dX3_widestOf_79 (by decide) ?_
            refine lv_iadd hx hb dX3_widestOf_80 ?_
            refine lv_topi (nm_r (e' := nI (e9 + 1)) (nI_add _ _) ?_)
            refine xi (wr := []) (xS (As := [.ref hgr, .int (x &&& (((nI 1) <<< ((nI e9) &&& 31)) ^^^ (-1))), .int (nI (e9 + 1))]) (rest := [.int ((nI 1) + r_4)]) C (c_X3_widestOf_4 l D cs hgr en gs g1r g2r gan gpr gde gme gaf gpf (x &&& (((nI 1) <<< ((nI e9) &&& 31)) ^^^ (-1))) (e9 + 1) hen (by omega) (by omega)) kX3_60 hP hD [0, 1, 2] rfl (by decide) ⟨Nat.le_of_ble_eq_true rfl, Nat.le_of_ble_eq_true rfl⟩ rfl hl.1 rfl (Nat.le_of_ble_eq_true rfl) dX3_widestOf_81 ⟨Nat.le_of_ble_eq_true rfl, Nat.le_of_ble_eq_true rfl⟩) hP hD hS hA [0, 1, 2] [] rfl rfl (by decide) (by decide) ?_
            clear hP hD hS
            try clear locs
            try clear H
            intro r_7 u_8 H locs hw_r_7 hP hD hS
            refine W.widen (k := 0) (n := 0) (Nat.le_of_ble_eq_true rfl) (Nat.le_of_ble_eq_true rfl) ?_
            replace hP : va_P D vwCl [(hgr, .inr (3, [.int (nI en), .ref gs, .ref g1r, .ref g2r, .ref gan, .ref gpr, .ref gde, .ref gme])), (gan, .inl (cs 0, 16, .inl gaf)), (gpr, .inl (cs 0, 16, .inl gpf))] H := hP
            replace hD : va_D A [(hgr, .inr (3, [.int (nI en), .ref gs, .ref g1r, .ref g2r, .ref gan, .ref gpr, .ref gde, .ref gme])), (gan, .inl (cs 0, 16, .inl gaf)), (gpr, .inl (cs 0, 16, .inl gpf))] := hD
            refine va_mmax hx hb (C.2.2.1.trans hl.1.symm) hown (hz _ zw4_201) (hz _ zw4_202) (hz _ zw1_3) (hz _ zw4_203) (Nat.le_of_ble_eq_true rfl) (Nat.le_of_ble_eq_true rfl) (Nat.le_of_ble_eq_true rfl) (Nat.le_of_ble_eq_true rfl) dX3_widestOf_84 ?_
            exact xreti C () trivial hP hD hS (Nat.le_of_ble_eq_true rfl) (Nat.le_of_ble_eq_true rfl) rfl dX3_widestOf_87
          · -- 65 f
            refine lv_iload hx hb dX3_widestOf_68 (lv_at hl 0 rfl) ?_
            refine lv_goto (tgt := 87) hx hb dX3_widestOf_70 (by decide) ?_
            exact xreti C () trivial hP hD hS (Nat.le_of_ble_eq_true rfl) (Nat.le_of_ble_eq_true rfl) rfl dX3_widestOf_87
  exact loop_1 _ fr (by omega) (Nat.le_refl _) (Nat.lt_succ_self _) H locs ls hP hD hS (lv_sub hl [0, 1, 2, 3] rfl)

set_option maxHeartbeats 4000000 in
set_option maxRecDepth 100000 in
theorem c_X3_widestOf_6 (l : Launch) (D : va_G) (cs : Nat → ClassId) (hgr en gs g1r g2r gan gpr gde gme : Nat) (gaf gpf : Nat → Int32) (x : Int32) (fr : Nat) (hen : en ≤ 16) (hfr : fr ≤ 17) (hd : en ≤ fr + 6) : xMet l D cs yX3_widestOf cX3_widestOf 7 (some .int) ({ frames := 6, cells := 0, slots := 0, locals := 156 } : Room) [.ref hgr, .int x, .int (nI fr)] [(hgr, .inr (3, [.int (nI en), .ref gs, .ref g1r, .ref g2r, .ref gan, .ref gpr, .ref gde, .ref gme])), (gan, .inl (cs 0, 16, .inl gaf)), (gpr, .inl (cs 0, 16, .inl gpf))] (xQi D (fun (r : Int32) (_u : Unit) => True) (fun (_u : Unit) => [(hgr, .inr (3, [.int (nI en), .ref gs, .ref g1r, .ref g2r, .ref gan, .ref gpr, .ref gde, .ref gme])), (gan, .inl (cs 0, 16, .inl gaf)), (gpr, .inl (cs 0, 16, .inl gpf))])) := by
  refine xMet.intro (by decide) (Nat.le_of_ble_eq_true rfl) ?_
  intro p e s m args below meth c A ls C hP hD hS hl
  have hx := C.1
  have hb := C.2.1
  have hz := C.2.2.2.2.1
  have hown := C.2.2.2.1
  have hA := C.2.2.2.2.2.2.2.2.2
  have hAO := C.2.2.2.2.2.2.2.2.1.2.2
  replace hl : lv_has ls 7 [(0, .ref hgr), (1, .int x), (2, .int (nI fr))] := hl
  obtain ⟨H, hH⟩ : ∃ H, H = s.heap := ⟨_, rfl⟩
  replace hP : va_P D vwCl [(hgr, .inr (3, [.int (nI en), .ref gs, .ref g1r, .ref g2r, .ref gan, .ref gpr, .ref gde, .ref gme])), (gan, .inl (cs 0, 16, .inl gaf)), (gpr, .inl (cs 0, 16, .inl gpf))] H := by rw [hH]; exact hP
  replace hS : va_S A s.heap H [] := by rw [hH]; exact hS
  obtain ⟨locs, hlocs⟩ : ∃ z : List Loc, z = [] := ⟨_, rfl⟩
  rw [← hlocs] at hS
  suffices hW : W p l e ({ frames := 6, cells := 0, slots := 0, locals := 156 } : Room) s m args below meth c H locs 0 0 (MQ below ((xQi D (fun (r : Int32) (_u : Unit) => True) (fun (_u : Unit) => [(hgr, .inr (3, [.int (nI en), .ref gs, .ref g1r, .ref g2r, .ref gan, .ref gpr, .ref gde, .ref gme])), (gan, .inl (cs 0, 16, .inl gaf)), (gpr, .inl (cs 0, 16, .inl gpf))])) A) args s 0 0 A) (F0 m 0 ls []) by rw [hlocs, hH] at hW; exact hW
  clear hH hlocs
  refine lv_iload_n hx hb dX3_widestOf_0 rfl (lv_at hl 2 rfl) ?_
  refine lv_istore_n (lv' := [(3, .int (nI fr)), (0, .ref hgr), (1, .int x), (2, .int (nI fr))]) hx hb dX3_widestOf_1 rfl hl (by decide) rfl ?_
  clear hl
  try clear ls
  intro ls hl
  have loop_1 : ∀ (n_loop_1 : Nat) (e9 : Nat), (e9 ≤ 17) → (fr ≤ e9) → 17 - e9 < n_loop_1 → ∀ (H : Heap) (locs : List Loc) (ls : Array Slot), va_P D vwCl [(hgr, .inr (3, [.int (nI en), .ref gs, .ref g1r, .ref g2r, .ref gan, .ref gpr, .ref gde, .ref gme])), (gan, .inl (cs 0, 16, .inl gaf)), (gpr, .inl (cs 0, 16, .inl gpf))] H → va_D A [(hgr, .inr (3, [.int (nI en), .ref gs, .ref g1r, .ref g2r, .ref gan, .ref gpr, .ref gde, .ref gme])), (gan, .inl (cs 0, 16, .inl gaf)), (gpr, .inl (cs 0, 16, .inl gpf))] → va_S A s.heap H locs → lv_has ls 7 [(3, .int (nI e9)), (0, .ref hgr), (1, .int x), (2, .int (nI fr))] → W p l e ({ frames := 6, cells := 0, slots := 0, locals := 156 } : Room) s m args below meth c H locs 0 0 (MQ below ((xQi D (fun (r : Int32) (_u : Unit) => True) (fun (_u : Unit) => [(hgr, .inr (3, [.int (nI en), .ref gs, .ref g1r, .ref g2r, .ref gan, .ref gpr, .ref gde, .ref gme])), (gan, .inl (cs 0, 16, .inl gaf)), (gpr, .inl (cs 0, 16, .inl gpf))])) A) args s 0 0 A) (F0 m 2 ls []) := by
    intro n_loop_1
    induction n_loop_1 with
    | zero => intro e9 h_e9 hfe hlt H locs ls hP hD hS hl; exact absurd hlt (Nat.not_lt_zero _)
    | succ n_loop_1 ih_loop_1 =>
      intro e9 h_e9 hfe hlt_loop_1 H locs ls hP hD hS hl
      refine lv_iload_n hx hb dX3_widestOf_2 rfl (lv_at hl 0 rfl) ?_
      refine lv_aload_n hx hb dX3_widestOf_3 rfl (lv_at hl 1 rfl) ?_
      refine xget C hP 0 rfl rfl zuX3 0 (by decide) zw1_195 rfl dX3_widestOf_4 ?_
      refine lv_icmp_ge (tgt := 94) hx hb dX3_widestOf_7 (by decide) (fun c_2 => ?_) (fun c_2 => ?_)
      · -- 7 t
        have fc_2 : en ≤ e9 := nf_le (by omega) (by omega) c_2
        refine lv_iconst (v := nI 0) hx hb dX3_widestOf_94 (by decide) ?_
        exact xreti C () trivial hP hD hS (Nat.le_of_ble_eq_true rfl) (Nat.le_of_ble_eq_true rfl) rfl dX3_widestOf_95
      · -- 7 f
        have fc_2 : e9 < en := nf_nle (by omega) (by omega) c_2
        refine lv_iload_n hx hb dX3_widestOf_10 rfl (lv_at hl 2 rfl) ?_
        refine lv_iload_n hx hb dX3_widestOf_11 rfl (lv_at hl 0 rfl) ?_
        refine lv_ishr hx hb dX3_widestOf_12 ?_
        refine lv_iconst (v := nI 1) hx hb dX3_widestOf_13 (by decide) ?_
        refine lv_iand hx hb dX3_widestOf_14 ?_
        refine lv_iconst (v := nI 1) hx hb dX3_widestOf_15 (by decide) ?_
        refine lv_icmp_ne (tgt := 88) hx hb dX3_widestOf_16 (by decide) (fun c_3 => ?_) (fun c_3 => ?_)
        · -- 16 t
          refine lv_iinc (v := nI (e9 + 1)) (lv' := [(3, .int (nI (e9 + 1))), (0, .ref hgr), (1, .int x), (2, .int (nI fr))]) hx hb dX3_widestOf_88 hl (k := 0) rfl (nI_add e9 1) (by decide) rfl ?_
          clear hl
          try clear ls
          intro ls hl
          refine lv_goto (tgt := 2) hx hb dX3_widestOf_91 (by decide) ?_
          exact ih_loop_1 (e9 + 1) (by omega) (by omega) (by omega) H locs ls hP hD hS (lv_sub hl [0, 1, 2, 3] rfl)
        · -- 16 f
          refine lv_iload_n hx hb dX3_widestOf_19 rfl (lv_at hl 2 rfl) ?_
          refine lv_iconst (v := nI 1) hx hb dX3_widestOf_20 (by decide) ?_
          refine lv_iload_n hx hb dX3_widestOf_21 rfl (lv_at hl 0 rfl) ?_
          refine lv_ishl hx hb dX3_widestOf_22 ?_
          refine lv_iconst (v := (-1)) hx hb dX3_widestOf_23 (by decide) ?_
          refine lv_ixor hx hb dX3_widestOf_24 ?_
          refine lv_iand hx hb dX3_widestOf_25 ?_
          refine lv_istore (lv' := [(4, .int (x &&& (((nI 1) <<< ((nI e9) &&& 31)) ^^^ (-1)))), (3, .int (nI e9)), (0, .ref hgr), (1, .int x), (2, .int (nI fr))]) hx hb dX3_widestOf_26 hl (by decide) rfl ?_
          clear hl
          try clear ls
          intro ls hl
          refine lv_iload hx hb dX3_widestOf_28 (lv_at hl 0 rfl) ?_
          refine lv_aload_n hx hb dX3_widestOf_30 rfl (lv_at hl 2 rfl) ?_
          refine xget C hP 0 rfl rfl zuX3 4 (by decide) zw1_205 rfl dX3_widestOf_31 ?_
          refine lv_iload_n hx hb dX3_widestOf_34 rfl (lv_at hl 1 rfl) ?_
          refine xiald C hP 1 rfl e9 rfl (by omega) (by decide) dX3_widestOf_35 ?_
          refine lv_aload_n hx hb dX3_widestOf_36 rfl (lv_at hl 2 rfl) ?_
          refine xget C hP 0 rfl rfl zuX3 5 (by decide) zw1_207 rfl dX3_widestOf_37 ?_
          refine lv_iload_n hx hb dX3_widestOf_40 rfl (lv_at hl 1 rfl) ?_
          refine xiald C hP 2 rfl e9 rfl (by omega) (by decide) dX3_widestOf_41 ?_
          refine lv_ior hx hb dX3_widestOf_42 ?_
          refine lv_iconst (v := (-1)) hx hb dX3_widestOf_43 (by decide) ?_
          refine lv_ixor hx hb dX3_widestOf_44 ?_
          refine lv_iand hx hb dX3_widestOf_45 ?_
          refine lv_istore (lv' := [(5, .int ((x &&& (((nI 1) <<< ((nI e9) &&& 31)) ^^^ (-1))) &&& (((gaf e9) ||| (gpf e9)) ^^^ (-1)))), (4, .int (x &&& (((nI 1) <<< ((nI e9) &&& 31)) ^^^ (-1)))), (3, .int (nI e9)), (0, .ref hgr), (1, .int x), (2, .int (nI fr))]) hx hb dX3_widestOf_46 hl (by decide) rfl ?_
          clear hl
          try clear ls
          intro ls hl
          refine lv_iconst (v := nI 1) hx hb dX3_widestOf_48 (by decide) ?_
          refine lv_aload_n hx hb dX3_widestOf_49 rfl (lv_at hl 3 rfl) ?_
          refine lv_iload hx hb dX3_widestOf_50 (lv_at hl 0 rfl) ?_
          refine lv_iload_n hx hb dX3_widestOf_52 rfl (lv_at hl 2 rfl) ?_
          refine lv_iconst (v := nI 1) hx hb dX3_widestOf_53 (by decide) ?_
          refine lv_iadd hx hb dX3_widestOf_54 ?_
          refine lv_topi (nm_r (e' := nI (e9 + 1)) (nI_add _ _) ?_)
          refine xi (wr := []) (xS (As := [.ref hgr, .int ((x &&& (((nI 1) <<< ((nI e9) &&& 31)) ^^^ (-1))) &&& (((gaf e9) ||| (gpf e9)) ^^^ (-1))), .int (nI (e9 + 1))]) (rest := [.int (nI 1)]) C (c_X3_widestOf_5 l D cs hgr en gs g1r g2r gan gpr gde gme gaf gpf ((x &&& (((nI 1) <<< ((nI e9) &&& 31)) ^^^ (-1))) &&& (((gaf e9) ||| (gpf e9)) ^^^ (-1))) (e9 + 1) hen (by omega) (by omega)) kX3_60 hP hD [0, 1, 2] rfl (by decide) ⟨Nat.le_of_ble_eq_true rfl, Nat.le_of_ble_eq_true rfl⟩ rfl hl.1 rfl (Nat.le_of_ble_eq_true rfl) dX3_widestOf_55 ⟨Nat.le_of_ble_eq_true rfl, Nat.le_of_ble_eq_true rfl⟩) hP hD hS hA [0, 1, 2] [] rfl rfl (by decide) (by decide) ?_
          clear hP hD hS
          try clear locs
          try clear H
          intro r_4 u_5 H locs hw_r_4 hP hD hS
          refine W.widen (k := 0) (n := 0) (Nat.le_of_ble_eq_true rfl) (Nat.le_of_ble_eq_true rfl) ?_
          replace hP : va_P D vwCl [(hgr, .inr (3, [.int (nI en), .ref gs, .ref g1r, .ref g2r, .ref gan, .ref gpr, .ref gde, .ref gme])), (gan, .inl (cs 0, 16, .inl gaf)), (gpr, .inl (cs 0, 16, .inl gpf))] H := hP
          replace hD : va_D A [(hgr, .inr (3, [.int (nI en), .ref gs, .ref g1r, .ref g2r, .ref gan, .ref gpr, .ref gde, .ref gme])), (gan, .inl (cs 0, 16, .inl gaf)), (gpr, .inl (cs 0, 16, .inl gpf))] := hD
          refine lv_iadd hx hb dX3_widestOf_58 ?_
          refine lv_istore (lv' := [(6, .int ((nI 1) + r_4)), (5, .int ((x &&& (((nI 1) <<< ((nI e9) &&& 31)) ^^^ (-1))) &&& (((gaf e9) ||| (gpf e9)) ^^^ (-1)))), (4, .int (x &&& (((nI 1) <<< ((nI e9) &&& 31)) ^^^ (-1)))), (3, .int (nI e9)), (0, .ref hgr), (1, .int x), (2, .int (nI fr))]) hx hb dX3_widestOf_59 hl (by decide) rfl ?_
          clear hl
          try clear ls
          intro ls hl
          refine lv_iload hx hb dX3_widestOf_61 (lv_at hl 1 rfl) ?_
          refine lv_iload hx hb dX3_widestOf_63 (lv_at hl 2 rfl) ?_
          refine lv_icmp_ne (tgt := 73) hx hb dX3_widestOf_65 (by decide) (fun c_6 => ?_) (fun c_6 => ?_)
          · -- 65 t
            refine lv_iload hx hb dX3_widestOf_73 (lv_at hl 0 rfl) ?_
            refine lv_aload_n hx hb dX3_widestOf_75 rfl (lv_at hl 4 rfl) ?_
            refine lv_iload hx hb dX3_widestOf_76 (lv_at hl 2 rfl) ?_
            refine lv_iload_n hx hb dX3_widestOf_78 rfl (lv_at hl 3 rfl) ?_
            refine lv_iconst (v := nI 1) hx hb dX3_widestOf_79 (by decide) ?_
            refine lv_iadd hx hb dX3_widestOf_80 ?_
            refine lv_topi (nm_r (e' := nI (e9 + 1)) (nI_add _ _) ?_)
            refine xi (wr := []) (xS (As := [.ref hgr, .int (x &&& (((nI 1) <<< ((nI e9) &&& 31)) ^^^ (-1))), .int (nI (e9 + 1))]) (rest := [.int ((nI 1) + r_4)]) C (c_X3_widestOf_5 l D cs hgr en gs g1r g2r gan gpr gde gme gaf gpf (x &&& (((nI 1) <<< ((nI e9) &&& 31)) ^^^ (-1))) (e9 + 1) hen (by omega) (by omega)) kX3_60 hP hD [0, 1, 2] rfl (by decide) ⟨Nat.le_of_ble_eq_true rfl, Nat.le_of_ble_eq_true rfl⟩ rfl hl.1 rfl (Nat.le_of_ble_eq_true rfl) dX3_widestOf_81 ⟨Nat.le_of_ble_eq_true rfl, Nat.le_of_ble_eq_true rfl⟩) hP hD hS hA [0, 1, 2] [] rfl rfl (by decide) (by decide) ?_
            clear hP hD hS
            try clear locs
            try clear H
            intro r_7 u_8 H locs hw_r_7 hP hD hS
            refine W.widen (k := 0) (n := 0) (Nat.le_of_ble_eq_true rfl) (Nat.le_of_ble_eq_true rfl) ?_
            replace hP : va_P D vwCl [(hgr, .inr (3, [.int (nI en), .ref gs, .ref g1r, .ref g2r, .ref gan, .ref gpr, .ref gde, .ref gme])), (gan, .inl (cs 0, 16, .inl gaf)), (gpr, .inl (cs 0, 16, .inl gpf))] H := hP
            replace hD : va_D A [(hgr, .inr (3, [.int (nI en), .ref gs, .ref g1r, .ref g2r, .ref gan, .ref gpr, .ref gde, .ref gme])), (gan, .inl (cs 0, 16, .inl gaf)), (gpr, .inl (cs 0, 16, .inl gpf))] := hD
            refine va_mmax hx hb (C.2.2.1.trans hl.1.symm) hown (hz _ zw4_201) (hz _ zw4_202) (hz _ zw1_3) (hz _ zw4_203) (Nat.le_of_ble_eq_true rfl) (Nat.le_of_ble_eq_true rfl) (Nat.le_of_ble_eq_true rfl) (Nat.le_of_ble_eq_true rfl) dX3_widestOf_84 ?_
            exact xreti C () trivial hP hD hS (Nat.le_of_ble_eq_true rfl) (Nat.le_of_ble_eq_true rfl) rfl dX3_widestOf_87
          · -- 65 f
            refine lv_iload hx hb dX3_widestOf_68 (lv_at hl 0 rfl) ?_
            refine lv_goto (tgt := 87) hx hb dX3_widestOf_70 (by decide) ?_
            exact xreti C () trivial hP hD hS (Nat.le_of_ble_eq_true rfl) (Nat.le_of_ble_eq_true rfl) rfl dX3_widestOf_87
  exact loop_1 _ fr (by omega) (Nat.le_refl _) (Nat.lt_succ_self _) H locs ls hP hD hS (lv_sub hl [0, 1, 2, 3] rfl)

set_option maxHeartbeats 4000000 in
set_option maxRecDepth 100000 in
theorem c_X3_widestOf_7 (l : Launch) (D : va_G) (cs : Nat → ClassId) (hgr en gs g1r g2r gan gpr gde gme : Nat) (gaf gpf : Nat → Int32) (x : Int32) (fr : Nat) (hen : en ≤ 16) (hfr : fr ≤ 17) (hd : en ≤ fr + 7) : xMet l D cs yX3_widestOf cX3_widestOf 7 (some .int) ({ frames := 7, cells := 0, slots := 0, locals := 182 } : Room) [.ref hgr, .int x, .int (nI fr)] [(hgr, .inr (3, [.int (nI en), .ref gs, .ref g1r, .ref g2r, .ref gan, .ref gpr, .ref gde, .ref gme])), (gan, .inl (cs 0, 16, .inl gaf)), (gpr, .inl (cs 0, 16, .inl gpf))] (xQi D (fun (r : Int32) (_u : Unit) => True) (fun (_u : Unit) => [(hgr, .inr (3, [.int (nI en), .ref gs, .ref g1r, .ref g2r, .ref gan, .ref gpr, .ref gde, .ref gme])), (gan, .inl (cs 0, 16, .inl gaf)), (gpr, .inl (cs 0, 16, .inl gpf))])) := by
  refine xMet.intro (by decide) (Nat.le_of_ble_eq_true rfl) ?_
  intro p e s m args below meth c A ls C hP hD hS hl
  have hx := C.1
  have hb := C.2.1
  have hz := C.2.2.2.2.1
  have hown := C.2.2.2.1
  have hA := C.2.2.2.2.2.2.2.2.2
  have hAO := C.2.2.2.2.2.2.2.2.1.2.2
  replace hl : lv_has ls 7 [(0, .ref hgr), (1, .int x), (2, .int (nI fr))] := hl
  obtain ⟨H, hH⟩ : ∃ H, H = s.heap := ⟨_, rfl⟩
  replace hP : va_P D vwCl [(hgr, .inr (3, [.int (nI en), .ref gs, .ref g1r, .ref g2r, .ref gan, .ref gpr, .ref gde, .ref gme])), (gan, .inl (cs 0, 16, .inl gaf)), (gpr, .inl (cs 0, 16, .inl gpf))] H := by rw [hH]; exact hP
  replace hS : va_S A s.heap H [] := by rw [hH]; exact hS
  obtain ⟨locs, hlocs⟩ : ∃ z : List Loc, z = [] := ⟨_, rfl⟩
  rw [← hlocs] at hS
  suffices hW : W p l e ({ frames := 7, cells := 0, slots := 0, locals := 182 } : Room) s m args below meth c H locs 0 0 (MQ below ((xQi D (fun (r : Int32) (_u : Unit) => True) (fun (_u : Unit) => [(hgr, .inr (3, [.int (nI en), .ref gs, .ref g1r, .ref g2r, .ref gan, .ref gpr, .ref gde, .ref gme])), (gan, .inl (cs 0, 16, .inl gaf)), (gpr, .inl (cs 0, 16, .inl gpf))])) A) args s 0 0 A) (F0 m 0 ls []) by rw [hlocs, hH] at hW; exact hW
  clear hH hlocs
  refine lv_iload_n hx hb dX3_widestOf_0 rfl (lv_at hl 2 rfl) ?_
  refine lv_istore_n (lv' := [(3, .int (nI fr)), (0, .ref hgr), (1, .int x), (2, .int (nI fr))]) hx hb dX3_widestOf_1 rfl hl (by decide) rfl ?_
  clear hl
  try clear ls
  intro ls hl
  have loop_1 : ∀ (n_loop_1 : Nat) (e9 : Nat), (e9 ≤ 17) → (fr ≤ e9) → 17 - e9 < n_loop_1 → ∀ (H : Heap) (locs : List Loc) (ls : Array Slot), va_P D vwCl [(hgr, .inr (3, [.int (nI en), .ref gs, .ref g1r, .ref g2r, .ref gan, .ref gpr, .ref gde, .ref gme])), (gan, .inl (cs 0, 16, .inl gaf)), (gpr, .inl (cs 0, 16, .inl gpf))] H → va_D A [(hgr, .inr (3, [.int (nI en), .ref gs, .ref g1r, .ref g2r, .ref gan, .ref gpr, .ref gde, .ref gme])), (gan, .inl (cs 0, 16, .inl gaf)), (gpr, .inl (cs 0, 16, .inl gpf))] → va_S A s.heap H locs → lv_has ls 7 [(3, .int (nI e9)), (0, .ref hgr), (1, .int x), (2, .int (nI fr))] → W p l e ({ frames := 7, cells := 0, slots := 0, locals := 182 } : Room) s m args below meth c H locs 0 0 (MQ below ((xQi D (fun (r : Int32) (_u : Unit) => True) (fun (_u : Unit) => [(hgr, .inr (3, [.int (nI en), .ref gs, .ref g1r, .ref g2r, .ref gan, .ref gpr, .ref gde, .ref gme])), (gan, .inl (cs 0, 16, .inl gaf)), (gpr, .inl (cs 0, 16, .inl gpf))])) A) args s 0 0 A) (F0 m 2 ls []) := by
    intro n_loop_1
    induction n_loop_1 with
    | zero => intro e9 h_e9 hfe hlt H locs ls hP hD hS hl; exact absurd hlt (Nat.not_lt_zero _)
    | succ n_loop_1 ih_loop_1 =>
      intro e9 h_e9 hfe hlt_loop_1 H locs ls hP hD hS hl
      refine lv_iload_n hx hb dX3_widestOf_2 rfl (lv_at hl 0 rfl) ?_
      refine lv_aload_n hx hb dX3_widestOf_3 rfl (lv_at hl 1 rfl) ?_
      refine xget C hP 0 rfl rfl zuX3 0 (by decide) zw1_195 rfl dX3_widestOf_4 ?_
      refine lv_icmp_ge (tgt := 94) hx hb dX3_widestOf_7 (by decide) (fun c_2 => ?_) (fun c_2 => ?_)
      · -- 7 t
        have fc_2 : en ≤ e9 := nf_le (by omega) (by omega) c_2
        refine lv_iconst (v := nI 0) hx hb dX3_widestOf_94 (by decide) ?_
        exact xreti C () trivial hP hD hS (Nat.le_of_ble_eq_true rfl) (Nat.le_of_ble_eq_true rfl) rfl dX3_widestOf_95
      · -- 7 f
        have fc_2 : e9 < en := nf_nle (by omega) (by omega) c_2
        refine lv_iload_n hx hb dX3_widestOf_10 rfl (lv_at hl 2 rfl) ?_
        refine lv_iload_n hx hb dX3_widestOf_11 rfl (lv_at hl 0 rfl) ?_
        refine lv_ishr hx hb dX3_widestOf_12 ?_
        refine lv_iconst (v := nI 1) hx hb dX3_widestOf_13 (by decide) ?_
        refine lv_iand hx hb dX3_widestOf_14 ?_
        refine lv_iconst (v := nI 1) hx hb dX3_widestOf_15 (by decide) ?_
        refine lv_icmp_ne (tgt := 88) hx hb dX3_widestOf_16 (by decide) (fun c_3 => ?_) (fun c_3 => ?_)
        · -- 16 t
          refine lv_iinc (v := nI (e9 + 1)) (lv' := [(3, .int (nI (e9 + 1))), (0, .ref hgr), (1, .int x), (2, .int (nI fr))]) hx hb dX3_widestOf_88 hl (k := 0) rfl (nI_add e9 1) (by decide) rfl ?_
          clear hl
          try clear ls
          intro ls hl
          refine lv_goto (tgt := 2) hx hb dX3_widestOf_91 (by decide) ?_
          exact ih_loop_1 (e9 + 1) (by omega) (by omega) (by omega) H locs ls hP hD hS (lv_sub hl [0, 1, 2, 3] rfl)
        · -- 16 f
          refine lv_iload_n hx hb dX3_widestOf_19 rfl (lv_at hl 2 rfl) ?_
          refine lv_iconst (v := nI 1) hx hb dX3_widestOf_20 (by decide) ?_
          refine lv_iload_n hx hb dX3_widestOf_21 rfl (lv_at hl 0 rfl) ?_
          refine lv_ishl hx hb dX3_widestOf_22 ?_
          refine lv_iconst (v := (-1)) hx hb dX3_widestOf_23 (by decide) ?_
          refine lv_ixor hx hb dX3_widestOf_24 ?_
          refine lv_iand hx hb dX3_widestOf_25 ?_
          refine lv_istore (lv' := [(4, .int (x &&& (((nI 1) <<< ((nI e9) &&& 31)) ^^^ (-1)))), (3, .int (nI e9)), (0, .ref hgr), (1, .int x), (2, .int (nI fr))]) hx hb dX3_widestOf_26 hl (by decide) rfl ?_
          clear hl
          try clear ls
          intro ls hl
          refine lv_iload hx hb dX3_widestOf_28 (lv_at hl 0 rfl) ?_
          refine lv_aload_n hx hb dX3_widestOf_30 rfl (lv_at hl 2 rfl) ?_
          refine xget C hP 0 rfl rfl zuX3 4 (by decide) zw1_205 rfl dX3_widestOf_31 ?_
          refine lv_iload_n hx hb dX3_widestOf_34 rfl (lv_at hl 1 rfl) ?_
          refine xiald C hP 1 rfl e9 rfl (by omega) (by decide) dX3_widestOf_35 ?_
          refine lv_aload_n hx hb dX3_widestOf_36 rfl (lv_at hl 2 rfl) ?_
          refine xget C hP 0 rfl rfl zuX3 5 (by decide) zw1_207 rfl dX3_widestOf_37 ?_
          refine lv_iload_n hx hb dX3_widestOf_40 rfl (lv_at hl 1 rfl) ?_
          refine xiald C hP 2 rfl e9 rfl (by omega) (by decide) dX3_widestOf_41 ?_
          refine lv_ior hx hb dX3_widestOf_42 ?_
          refine lv_iconst (v := (-1)) hx hb dX3_widestOf_43 (by decide) ?_
          refine lv_ixor hx hb dX3_widestOf_44 ?_
          refine lv_iand hx hb dX3_widestOf_45 ?_
          refine lv_istore (lv' := [(5, .int ((x &&& (((nI 1) <<< ((nI e9) &&& 31)) ^^^ (-1))) &&& (((gaf e9) ||| (gpf e9)) ^^^ (-1)))), (4, .int (x &&& (((nI 1) <<< ((nI e9) &&& 31)) ^^^ (-1)))), (3, .int (nI e9)), (0, .ref hgr), (1, .int x), (2, .int (nI fr))]) hx hb dX3_widestOf_46 hl (by decide) rfl ?_
          clear hl
          try clear ls
          intro ls hl
          refine lv_iconst (v := nI 1) hx hb dX3_widestOf_48 (by decide) ?_
          refine lv_aload_n hx hb dX3_widestOf_49 rfl (lv_at hl 3 rfl) ?_
          refine lv_iload hx hb dX3_widestOf_50 (lv_at hl 0 rfl) ?_
          refine lv_iload_n hx hb dX3_widestOf_52 rfl (lv_at hl 2 rfl) ?_
          refine lv_iconst (v := nI 1) hx hb dX3_widestOf_53 (by decide) ?_
          refine lv_iadd hx hb dX3_widestOf_54 ?_
          refine lv_topi (nm_r (e' := nI (e9 + 1)) (nI_add _ _) ?_)
          refine xi (wr := []) (xS (As := [.ref hgr, .int ((x &&& (((nI 1) <<< ((nI e9) &&& 31)) ^^^ (-1))) &&& (((gaf e9) ||| (gpf e9)) ^^^ (-1))), .int (nI (e9 + 1))]) (rest := [.int (nI 1)]) C (c_X3_widestOf_6 l D cs hgr en gs g1r g2r gan gpr gde gme gaf gpf ((x &&& (((nI 1) <<< ((nI e9) &&& 31)) ^^^ (-1))) &&& (((gaf e9) ||| (gpf e9)) ^^^ (-1))) (e9 + 1) hen (by omega) (by omega)) kX3_60 hP hD [0, 1, 2] rfl (by decide) ⟨Nat.le_of_ble_eq_true rfl, Nat.le_of_ble_eq_true rfl⟩ rfl hl.1 rfl (Nat.le_of_ble_eq_true rfl) dX3_widestOf_55 ⟨Nat.le_of_ble_eq_true rfl, Nat.le_of_ble_eq_true rfl⟩) hP hD hS hA [0, 1, 2] [] rfl rfl (by decide) (by decide) ?_
          clear hP hD hS
          try clear locs
          try clear H
          intro r_4 u_5 H locs hw_r_4 hP hD hS
          refine W.widen (k := 0) (n := 0) (Nat.le_of_ble_eq_true rfl) (Nat.le_of_ble_eq_true rfl) ?_
          replace hP : va_P D vwCl [(hgr, .inr (3, [.int (nI en), .ref gs, .ref g1r, .ref g2r, .ref gan, .ref gpr, .ref gde, .ref gme])), (gan, .inl (cs 0, 16, .inl gaf)), (gpr, .inl (cs 0, 16, .inl gpf))] H := hP
          replace hD : va_D A [(hgr, .inr (3, [.int (nI en), .ref gs, .ref g1r, .ref g2r, .ref gan, .ref gpr, .ref gde, .ref gme])), (gan, .inl (cs 0, 16, .inl gaf)), (gpr, .inl (cs 0, 16, .inl gpf))] := hD
          refine lv_iadd hx hb dX3_widestOf_58 ?_
          refine lv_istore (lv' := [(6, .int ((nI 1) + r_4)), (5, .int ((x &&& (((nI 1) <<< ((nI e9) &&& 31)) ^^^ (-1))) &&& (((gaf e9) ||| (gpf e9)) ^^^ (-1)))), (4, .int (x &&& (((nI 1) <<< ((nI e9) &&& 31)) ^^^ (-1)))), (3, .int (nI e9)), (0, .ref hgr), (1, .int x), (2, .int (nI fr))]) hx hb dX3_widestOf_59 hl (by decide) rfl ?_
          clear hl
          try clear ls
          intro ls hl
          refine lv_iload hx hb dX3_widestOf_61 (lv_at hl 1 rfl) ?_
          refine lv_iload hx hb dX3_widestOf_63 (lv_at hl 2 rfl) ?_
          refine lv_icmp_ne (tgt := 73) hx hb dX3_widestOf_65 (by decide) (fun c_6 => ?_) (fun c_6 => ?_)
          · -- 65 t
            refine lv_iload hx hb dX3_widestOf_73 (lv_at hl 0 rfl) ?_
            refine lv_aload_n hx hb dX3_widestOf_75 rfl (lv_at hl 4 rfl) ?_
            refine lv_iload hx hb dX3_widestOf_76 (lv_at hl 2 rfl) ?_
            refine lv_iload_n hx hb dX3_widestOf_78 rfl (lv_at hl 3 rfl) ?_
            refine lv_iconst (v := nI 1) hx hb dX3_widestOf_79 (by decide) ?_
            refine lv_iadd hx hb dX3_widestOf_80 ?_
            refine lv_topi (nm_r (e' := nI (e9 + 1)) (nI_add _ _) ?_)
            refine xi (wr := []) (xS (As := [.ref hgr, .int (x &&& (((nI 1) <<< ((nI e9) &&& 31)) ^^^ (-1))), .int (nI (e9 + 1))]) (rest := [.int ((nI 1) + r_4)]) C (c_X3_widestOf_6 l D cs hgr en gs g1r g2r gan gpr gde gme gaf gpf (x &&& (((nI 1) <<< ((nI e9) &&& 31)) ^^^ (-1))) (e9 + 1) hen (by omega) (by omega)) kX3_60 hP hD [0, 1, 2] rfl (by decide) ⟨Nat.le_of_ble_eq_true rfl, Nat.le_of_ble_eq_true rfl⟩ rfl hl.1 rfl (Nat.le_of_ble_eq_true rfl) dX3_widestOf_81 ⟨Nat.le_of_ble_eq_true rfl, Nat.le_of_ble_eq_true rfl⟩) hP hD hS hA [0, 1, 2] [] rfl rfl (by decide) (by decide) ?_
            clear hP hD hS
            try clear locs
            try clear H
            intro r_7 u_8 H locs hw_r_7 hP hD hS
            refine W.widen (k := 0) (n := 0) (Nat.le_of_ble_eq_true rfl) (Nat.le_of_ble_eq_true rfl) ?_
            replace hP : va_P D vwCl [(hgr, .inr (3, [.int (nI en), .ref gs, .ref g1r, .ref g2r, .ref gan, .ref gpr, .ref gde, .ref gme])), (gan, .inl (cs 0, 16, .inl gaf)), (gpr, .inl (cs 0, 16, .inl gpf))] H := hP
            replace hD : va_D A [(hgr, .inr (3, [.int (nI en), .ref gs, .ref g1r, .ref g2r, .ref gan, .ref gpr, .ref gde, .ref gme])), (gan, .inl (cs 0, 16, .inl gaf)), (gpr, .inl (cs 0, 16, .inl gpf))] := hD
            refine va_mmax hx hb (C.2.2.1.trans hl.1.symm) hown (hz _ zw4_201) (hz _ zw4_202) (hz _ zw1_3) (hz _ zw4_203) (Nat.le_of_ble_eq_true rfl) (Nat.le_of_ble_eq_true rfl) (Nat.le_of_ble_eq_true rfl) (Nat.le_of_ble_eq_true rfl) dX3_widestOf_84 ?_
            exact xreti C () trivial hP hD hS (Nat.le_of_ble_eq_true rfl) (Nat.le_of_ble_eq_true rfl) rfl dX3_widestOf_87
          · -- 65 f
            refine lv_iload hx hb dX3_widestOf_68 (lv_at hl 0 rfl) ?_
            refine lv_goto (tgt := 87) hx hb dX3_widestOf_70 (by decide) ?_
            exact xreti C () trivial hP hD hS (Nat.le_of_ble_eq_true rfl) (Nat.le_of_ble_eq_true rfl) rfl dX3_widestOf_87
  exact loop_1 _ fr (by omega) (Nat.le_refl _) (Nat.lt_succ_self _) H locs ls hP hD hS (lv_sub hl [0, 1, 2, 3] rfl)

set_option maxHeartbeats 4000000 in
set_option maxRecDepth 100000 in
theorem c_X3_widestOf_8 (l : Launch) (D : va_G) (cs : Nat → ClassId) (hgr en gs g1r g2r gan gpr gde gme : Nat) (gaf gpf : Nat → Int32) (x : Int32) (fr : Nat) (hen : en ≤ 16) (hfr : fr ≤ 17) (hd : en ≤ fr + 8) : xMet l D cs yX3_widestOf cX3_widestOf 7 (some .int) ({ frames := 8, cells := 0, slots := 0, locals := 208 } : Room) [.ref hgr, .int x, .int (nI fr)] [(hgr, .inr (3, [.int (nI en), .ref gs, .ref g1r, .ref g2r, .ref gan, .ref gpr, .ref gde, .ref gme])), (gan, .inl (cs 0, 16, .inl gaf)), (gpr, .inl (cs 0, 16, .inl gpf))] (xQi D (fun (r : Int32) (_u : Unit) => True) (fun (_u : Unit) => [(hgr, .inr (3, [.int (nI en), .ref gs, .ref g1r, .ref g2r, .ref gan, .ref gpr, .ref gde, .ref gme])), (gan, .inl (cs 0, 16, .inl gaf)), (gpr, .inl (cs 0, 16, .inl gpf))])) := by
  refine xMet.intro (by decide) (Nat.le_of_ble_eq_true rfl) ?_
  intro p e s m args below meth c A ls C hP hD hS hl
  have hx := C.1
  have hb := C.2.1
  have hz := C.2.2.2.2.1
  have hown := C.2.2.2.1
  have hA := C.2.2.2.2.2.2.2.2.2
  have hAO := C.2.2.2.2.2.2.2.2.1.2.2
  replace hl : lv_has ls 7 [(0, .ref hgr), (1, .int x), (2, .int (nI fr))] := hl
  obtain ⟨H, hH⟩ : ∃ H, H = s.heap := ⟨_, rfl⟩
  replace hP : va_P D vwCl [(hgr, .inr (3, [.int (nI en), .ref gs, .ref g1r, .ref g2r, .ref gan, .ref gpr, .ref gde, .ref gme])), (gan, .inl (cs 0, 16, .inl gaf)), (gpr, .inl (cs 0, 16, .inl gpf))] H := by rw [hH]; exact hP
  replace hS : va_S A s.heap H [] := by rw [hH]; exact hS
  obtain ⟨locs, hlocs⟩ : ∃ z : List Loc, z = [] := ⟨_, rfl⟩
  rw [← hlocs] at hS
  suffices hW : W p l e ({ frames := 8, cells := 0, slots := 0, locals := 208 } : Room) s m args below meth c H locs 0 0 (MQ below ((xQi D (fun (r : Int32) (_u : Unit) => True) (fun (_u : Unit) => [(hgr, .inr (3, [.int (nI en), .ref gs, .ref g1r, .ref g2r, .ref gan, .ref gpr, .ref gde, .ref gme])), (gan, .inl (cs 0, 16, .inl gaf)), (gpr, .inl (cs 0, 16, .inl gpf))])) A) args s 0 0 A) (F0 m 0 ls []) by rw [hlocs, hH] at hW; exact hW
  clear hH hlocs
  refine lv_iload_n hx hb dX3_widestOf_0 rfl (lv_at hl 2 rfl) ?_
  refine lv_istore_n (lv' := [(3, .int (nI fr)), (0, .ref hgr), (1, .int x), (2, .int (nI fr))]) hx hb dX3_widestOf_1 rfl hl (by decide) rfl ?_
  clear hl
  try clear ls
  intro ls hl
  have loop_1 : ∀ (n_loop_1 : Nat) (e9 : Nat), (e9 ≤ 17) → (fr ≤ e9) → 17 - e9 < n_loop_1 → ∀ (H : Heap) (locs : List Loc) (ls : Array Slot), va_P D vwCl [(hgr, .inr (3, [.int (nI en), .ref gs, .ref g1r, .ref g2r, .ref gan, .ref gpr, .ref gde, .ref gme])), (gan, .inl (cs 0, 16, .inl gaf)), (gpr, .inl (cs 0, 16, .inl gpf))] H → va_D A [(hgr, .inr (3, [.int (nI en), .ref gs, .ref g1r, .ref g2r, .ref gan, .ref gpr, .ref gde, .ref gme])), (gan, .inl (cs 0, 16, .inl gaf)), (gpr, .inl (cs 0, 16, .inl gpf))] → va_S A s.heap H locs → lv_has ls 7 [(3, .int (nI e9)), (0, .ref hgr), (1, .int x), (2, .int (nI fr))] → W p l e ({ frames := 8, cells := 0, slots := 0, locals := 208 } : Room) s m args below meth c H locs 0 0 (MQ below ((xQi D (fun (r : Int32) (_u : Unit) => True) (fun (_u : Unit) => [(hgr, .inr (3, [.int (nI en), .ref gs, .ref g1r, .ref g2r, .ref gan, .ref gpr, .ref gde, .ref gme])), (gan, .inl (cs 0, 16, .inl gaf)), (gpr, .inl (cs 0, 16, .inl gpf))])) A) args s 0 0 A) (F0 m 2 ls []) := by
    intro n_loop_1
    induction n_loop_1 with
    | zero => intro e9 h_e9 hfe hlt H locs ls hP hD hS hl; exact absurd hlt (Nat.not_lt_zero _)
    | succ n_loop_1 ih_loop_1 =>
      intro e9 h_e9 hfe hlt_loop_1 H locs ls hP hD hS hl
      refine lv_iload_n hx hb dX3_widestOf_2 rfl (lv_at hl 0 rfl) ?_
      refine lv_aload_n hx hb dX3_widestOf_3 rfl (lv_at hl 1 rfl) ?_
      refine xget C hP 0 rfl rfl zuX3 0 (by decide) zw1_195 rfl dX3_widestOf_4 ?_
      refine lv_icmp_ge (tgt := 94) hx hb dX3_widestOf_7 (by decide) (fun c_2 => ?_) (fun c_2 => ?_)
      · -- 7 t
        have fc_2 : en ≤ e9 := nf_le (by omega) (by omega) c_2
        refine lv_iconst (v := nI 0) hx hb dX3_widestOf_94 (by decide) ?_
        exact xreti C () trivial hP hD hS (Nat.le_of_ble_eq_true rfl) (Nat.le_of_ble_eq_true rfl) rfl dX3_widestOf_95
      · -- 7 f
        have fc_2 : e9 < en := nf_nle (by omega) (by omega) c_2
        refine lv_iload_n hx hb dX3_widestOf_10 rfl (lv_at hl 2 rfl) ?_
        refine lv_iload_n hx hb dX3_widestOf_11 rfl (lv_at hl 0 rfl) ?_
        refine lv_ishr hx hb dX3_widestOf_12 ?_
        refine lv_iconst (v := nI 1) hx hb dX3_widestOf_13 (by decide) ?_
        refine lv_iand hx hb dX3_widestOf_14 ?_
        refine lv_iconst (v := nI 1) hx hb dX3_widestOf_15 (by decide) ?_
        refine lv_icmp_ne (tgt := 88) hx hb dX3_widestOf_16 (by decide) (fun c_3 => ?_) (fun c_3 => ?_)
        · -- 16 t
          refine lv_iinc (v := nI (e9 + 1)) (lv' := [(3, .int (nI (e9 + 1))), (0, .ref hgr), (1, .int x), (2, .int (nI fr))]) hx hb dX3_widestOf_88 hl (k := 0) rfl (nI_add e9 1) (by decide) rfl ?_
          clear hl
          try clear ls
          intro ls hl
          refine lv_goto (tgt := 2) hx hb dX3_widestOf_91 (by decide) ?_
          exact ih_loop_1 (e9 + 1) (by omega) (by omega) (by omega) H locs ls hP hD hS (lv_sub hl [0, 1, 2, 3] rfl)
        · -- 16 f
          refine lv_iload_n hx hb dX3_widestOf_19 rfl (lv_at hl 2 rfl) ?_
          refine lv_iconst (v := nI 1) hx hb dX3_widestOf_20 (by decide) ?_
          refine lv_iload_n hx hb dX3_widestOf_21 rfl (lv_at hl 0 rfl) ?_
          refine lv_ishl hx hb dX3_widestOf_22 ?_
          refine lv_iconst (v := (-1)) hx hb dX3_widestOf_23 (by decide) ?_
          refine lv_ixor hx hb dX3_widestOf_24 ?_
          refine lv_iand hx hb dX3_widestOf_25 ?_
          refine lv_istore (lv' := [(4, .int (x &&& (((nI 1) <<< ((nI e9) &&& 31)) ^^^ (-1)))), (3, .int (nI e9)), (0, .ref hgr), (1, .int x), (2, .int (nI fr))]) hx hb dX3_widestOf_26 hl (by decide) rfl ?_
          clear hl
          try clear ls
          intro ls hl
          refine lv_iload hx hb dX3_widestOf_28 (lv_at hl 0 rfl) ?_
          refine lv_aload_n hx hb dX3_widestOf_30 rfl (lv_at hl 2 rfl) ?_
          refine xget C hP 0 rfl rfl zuX3 4 (by decide) zw1_205 rfl dX3_widestOf_31 ?_
          refine lv_iload_n hx hb dX3_widestOf_34 rfl (lv_at hl 1 rfl) ?_
          refine xiald C hP 1 rfl e9 rfl (by omega) (by decide) dX3_widestOf_35 ?_
          refine lv_aload_n hx hb dX3_widestOf_36 rfl (lv_at hl 2 rfl) ?_
          refine xget C hP 0 rfl rfl zuX3 5 (by decide) zw1_207 rfl dX3_widestOf_37 ?_
          refine lv_iload_n hx hb dX3_widestOf_40 rfl (lv_at hl 1 rfl) ?_
          refine xiald C hP 2 rfl e9 rfl (by omega) (by decide) dX3_widestOf_41 ?_
          refine lv_ior hx hb dX3_widestOf_42 ?_
          refine lv_iconst (v := (-1)) hx hb dX3_widestOf_43 (by decide) ?_
          refine lv_ixor hx hb dX3_widestOf_44 ?_
          refine lv_iand hx hb dX3_widestOf_45 ?_
          refine lv_istore (lv' := [(5, .int ((x &&& (((nI 1) <<< ((nI e9) &&& 31)) ^^^ (-1))) &&& (((gaf e9) ||| (gpf e9)) ^^^ (-1)))), (4, .int (x &&& (((nI 1) <<< ((nI e9) &&& 31)) ^^^ (-1)))), (3, .int (nI e9)), (0, .ref hgr), (1, .int x), (2, .int (nI fr))]) hx hb dX3_widestOf_46 hl (by decide) rfl ?_
          clear hl
          try clear ls
          intro ls hl
          refine lv_iconst (v := nI 1) hx hb dX3_widestOf_48 (by decide) ?_
          refine lv_aload_n hx hb dX3_widestOf_49 rfl (lv_at hl 3 rfl) ?_
          refine lv_iload hx hb dX3_widestOf_50 (lv_at hl 0 rfl) ?_
          refine lv_iload_n hx hb dX3_widestOf_52 rfl (lv_at hl 2 rfl) ?_
          refine lv_iconst (v := nI 1) hx hb dX3_widestOf_53 (by decide) ?_
          refine lv_iadd hx hb dX3_widestOf_54 ?_
          refine lv_topi (nm_r (e' := nI (e9 + 1)) (nI_add _ _) ?_)
          refine xi (wr := []) (xS (As := [.ref hgr, .int ((x &&& (((nI 1) <<< ((nI e9) &&& 31)) ^^^ (-1))) &&& (((gaf e9) ||| (gpf e9)) ^^^ (-1))), .int (nI (e9 + 1))]) (rest := [.int (nI 1)]) C (c_X3_widestOf_7 l D cs hgr en gs g1r g2r gan gpr gde gme gaf gpf ((x &&& (((nI 1) <<< ((nI e9) &&& 31)) ^^^ (-1))) &&& (((gaf e9) ||| (gpf e9)) ^^^ (-1))) (e9 + 1) hen (by omega) (by omega)) kX3_60 hP hD [0, 1, 2] rfl (by decide) ⟨Nat.le_of_ble_eq_true rfl, Nat.le_of_ble_eq_true rfl⟩ rfl hl.1 rfl (Nat.le_of_ble_eq_true rfl) dX3_widestOf_55 ⟨Nat.le_of_ble_eq_true rfl, Nat.le_of_ble_eq_true rfl⟩) hP hD hS hA [0, 1, 2] [] rfl rfl (by decide) (by decide) ?_
          clear hP hD hS
          try clear locs
          try clear H
          intro r_4 u_5 H locs hw_r_4 hP hD hS
          refine W.widen (k := 0) (n := 0) (Nat.le_of_ble_eq_true rfl) (Nat.le_of_ble_eq_true rfl) ?_
          replace hP : va_P D vwCl [(hgr, .inr (3, [.int (nI en), .ref gs, .ref g1r, .ref g2r, .ref gan, .ref gpr, .ref gde, .ref gme])), (gan, .inl (cs 0, 16, .inl gaf)), (gpr, .inl (cs 0, 16, .inl gpf))] H := hP
          replace hD : va_D A [(hgr, .inr (3, [.int (nI en), .ref gs, .ref g1r, .ref g2r, .ref gan, .ref gpr, .ref gde, .ref gme])), (gan, .inl (cs 0, 16, .inl gaf)), (gpr, .inl (cs 0, 16, .inl gpf))] := hD
          refine lv_iadd hx hb dX3_widestOf_58 ?_
          refine lv_istore (lv' := [(6, .int ((nI 1) + r_4)), (5, .int ((x &&& (((nI 1) <<< ((nI e9) &&& 31)) ^^^ (-1))) &&& (((gaf e9) ||| (gpf e9)) ^^^ (-1)))), (4, .int (x &&& (((nI 1) <<< ((nI e9) &&& 31)) ^^^ (-1)))), (3, .int (nI e9)), (0, .ref hgr), (1, .int x), (2, .int (nI fr))]) hx hb dX3_widestOf_59 hl (by decide) rfl ?_
          clear hl
          try clear ls
          intro ls hl
          refine lv_iload hx hb dX3_widestOf_61 (lv_at hl 1 rfl) ?_
          refine lv_iload hx hb dX3_widestOf_63 (lv_at hl 2 rfl) ?_
          refine lv_icmp_ne (tgt := 73) hx hb dX3_widestOf_65 (by decide) (fun c_6 => ?_) (fun c_6 => ?_)
          · -- 65 t
            refine lv_iload hx hb dX3_widestOf_73 (lv_at hl 0 rfl) ?_
            refine lv_aload_n hx hb dX3_widestOf_75 rfl (lv_at hl 4 rfl) ?_
            refine lv_iload hx hb dX3_widestOf_76 (lv_at hl 2 rfl) ?_
            refine lv_iload_n hx hb dX3_widestOf_78 rfl (lv_at hl 3 rfl) ?_
            refine lv_iconst (v := nI 1) hx hb dX3_widestOf_79 (by decide) ?_
            refine lv_iadd hx hb dX3_widestOf_80 ?_
            refine lv_topi (nm_r (e' := nI (e9 + 1)) (nI_add _ _) ?_)
            refine xi (wr := []) (xS (As := [.ref hgr, .int (x &&& (((nI 1) <<< ((nI e9) &&& 31)) ^^^ (-1))), .int (nI (e9 + 1))]) (rest := [.int ((nI 1) + r_4)]) C (c_X3_widestOf_7 l D cs hgr en gs g1r g2r gan gpr gde gme gaf gpf (x &&& (((nI 1) <<< ((nI e9) &&& 31)) ^^^ (-1))) (e9 + 1) hen (by omega) (by omega)) kX3_60 hP hD [0, 1, 2] rfl (by decide) ⟨Nat.le_of_ble_eq_true rfl, Nat.le_of_ble_eq_true rfl⟩ rfl hl.1 rfl (Nat.le_of_ble_eq_true rfl) dX3_widestOf_81 ⟨Nat.le_of_ble_eq_true rfl, Nat.le_of_ble_eq_true rfl⟩) hP hD hS hA [0, 1, 2] [] rfl rfl (by decide) (by decide) ?_
            clear hP hD hS
            try clear locs
            try clear H
            intro r_7 u_8 H locs hw_r_7 hP hD hS
            refine W.widen (k := 0) (n := 0) (Nat.le_of_ble_eq_true rfl) (Nat.le_of_ble_eq_true rfl) ?_
            replace hP : va_P D vwCl [(hgr, .inr (3, [.int (nI en), .ref gs, .ref g1r, .ref g2r, .ref gan, .ref gpr, .ref gde, .ref gme])), (gan, .inl (cs 0, 16, .inl gaf)), (gpr, .inl (cs 0, 16, .inl gpf))] H := hP
            replace hD : va_D A [(hgr, .inr (3, [.int (nI en), .ref gs, .ref g1r, .ref g2r, .ref gan, .ref gpr, .ref gde, .ref gme])), (gan, .inl (cs 0, 16, .inl gaf)), (gpr, .inl (cs 0, 16, .inl gpf))] := hD
            refine va_mmax hx hb (C.2.2.1.trans hl.1.symm) hown (hz _ zw4_201) (hz _ zw4_202) (hz _ zw1_3) (hz _ zw4_203) (Nat.le_of_ble_eq_true rfl) (Nat.le_of_ble_eq_true rfl) (Nat.le_of_ble_eq_true rfl) (Nat.le_of_ble_eq_true rfl) dX3_widestOf_84 ?_
            exact xreti C () trivial hP hD hS (Nat.le_of_ble_eq_true rfl) (Nat.le_of_ble_eq_true rfl) rfl dX3_widestOf_87
          · -- 65 f
            refine lv_iload hx hb dX3_widestOf_68 (lv_at hl 0 rfl) ?_
            refine lv_goto (tgt := 87) hx hb dX3_widestOf_70 (by decide) ?_
            exact xreti C () trivial hP hD hS (Nat.le_of_ble_eq_true rfl) (Nat.le_of_ble_eq_true rfl) rfl dX3_widestOf_87
  exact loop_1 _ fr (by omega) (Nat.le_refl _) (Nat.lt_succ_self _) H locs ls hP hD hS (lv_sub hl [0, 1, 2, 3] rfl)

set_option maxHeartbeats 4000000 in
set_option maxRecDepth 100000 in
theorem c_X3_widestOf_9 (l : Launch) (D : va_G) (cs : Nat → ClassId) (hgr en gs g1r g2r gan gpr gde gme : Nat) (gaf gpf : Nat → Int32) (x : Int32) (fr : Nat) (hen : en ≤ 16) (hfr : fr ≤ 17) (hd : en ≤ fr + 9) : xMet l D cs yX3_widestOf cX3_widestOf 7 (some .int) ({ frames := 9, cells := 0, slots := 0, locals := 234 } : Room) [.ref hgr, .int x, .int (nI fr)] [(hgr, .inr (3, [.int (nI en), .ref gs, .ref g1r, .ref g2r, .ref gan, .ref gpr, .ref gde, .ref gme])), (gan, .inl (cs 0, 16, .inl gaf)), (gpr, .inl (cs 0, 16, .inl gpf))] (xQi D (fun (r : Int32) (_u : Unit) => True) (fun (_u : Unit) => [(hgr, .inr (3, [.int (nI en), .ref gs, .ref g1r, .ref g2r, .ref gan, .ref gpr, .ref gde, .ref gme])), (gan, .inl (cs 0, 16, .inl gaf)), (gpr, .inl (cs 0, 16, .inl gpf))])) := by
  refine xMet.intro (by decide) (Nat.le_of_ble_eq_true rfl) ?_
  intro p e s m args below meth c A ls C hP hD hS hl
  have hx := C.1
  have hb := C.2.1
  have hz := C.2.2.2.2.1
  have hown := C.2.2.2.1
  have hA := C.2.2.2.2.2.2.2.2.2
  have hAO := C.2.2.2.2.2.2.2.2.1.2.2
  replace hl : lv_has ls 7 [(0, .ref hgr), (1, .int x), (2, .int (nI fr))] := hl
  obtain ⟨H, hH⟩ : ∃ H, H = s.heap := ⟨_, rfl⟩
  replace hP : va_P D vwCl [(hgr, .inr (3, [.int (nI en), .ref gs, .ref g1r, .ref g2r, .ref gan, .ref gpr, .ref gde, .ref gme])), (gan, .inl (cs 0, 16, .inl gaf)), (gpr, .inl (cs 0, 16, .inl gpf))] H := by rw [hH]; exact hP
  replace hS : va_S A s.heap H [] := by rw [hH]; exact hS
  obtain ⟨locs, hlocs⟩ : ∃ z : List Loc, z = [] := ⟨_, rfl⟩
  rw [← hlocs] at hS
  suffices hW : W p l e ({ frames := 9, cells := 0, slots := 0, locals := 234 } : Room) s m args below meth c H locs 0 0 (MQ below ((xQi D (fun (r : Int32) (_u : Unit) => True) (fun (_u : Unit) => [(hgr, .inr (3, [.int (nI en), .ref gs, .ref g1r, .ref g2r, .ref gan, .ref gpr, .ref gde, .ref gme])), (gan, .inl (cs 0, 16, .inl gaf)), (gpr, .inl (cs 0, 16, .inl gpf))])) A) args s 0 0 A) (F0 m 0 ls []) by rw [hlocs, hH] at hW; exact hW
  clear hH hlocs
  refine lv_iload_n hx hb dX3_widestOf_0 rfl (lv_at hl 2 rfl) ?_
  refine lv_istore_n (lv' := [(3, .int (nI fr)), (0, .ref hgr), (1, .int x), (2, .int (nI fr))]) hx hb dX3_widestOf_1 rfl hl (by decide) rfl ?_
  clear hl
  try clear ls
  intro ls hl
  have loop_1 : ∀ (n_loop_1 : Nat) (e9 : Nat), (e9 ≤ 17) → (fr ≤ e9) → 17 - e9 < n_loop_1 → ∀ (H : Heap) (locs : List Loc) (ls : Array Slot), va_P D vwCl [(hgr, .inr (3, [.int (nI en), .ref gs, .ref g1r, .ref g2r, .ref gan, .ref gpr, .ref gde, .ref gme])), (gan, .inl (cs 0, 16, .inl gaf)), (gpr, .inl (cs 0, 16, .inl gpf))] H → va_D A [(hgr, .inr (3, [.int (nI en), .ref gs, .ref g1r, .ref g2r, .ref gan, .ref gpr, .ref gde, .ref gme])), (gan, .inl (cs 0, 16, .inl gaf)), (gpr, .inl (cs 0, 16, .inl gpf))] → va_S A s.heap H locs → lv_has ls 7 [(3, .int (nI e9)), (0, .ref hgr), (1, .int x), (2, .int (nI fr))] → W p l e ({ frames := 9, cells := 0, slots := 0, locals := 234 } : Room) s m args below meth c H locs 0 0 (MQ below ((xQi D (fun (r : Int32) (_u : Unit) => True) (fun (_u : Unit) => [(hgr, .inr (3, [.int (nI en), .ref gs, .ref g1r, .ref g2r, .ref gan, .ref gpr, .ref gde, .ref gme])), (gan, .inl (cs 0, 16, .inl gaf)), (gpr, .inl (cs 0, 16, .inl gpf))])) A) args s 0 0 A) (F0 m 2 ls []) := by
    intro n_loop_1
    induction n_loop_1 with
    | zero => intro e9 h_e9 hfe hlt H locs ls hP hD hS hl; exact absurd hlt (Nat.not_lt_zero _)
    | succ n_loop_1 ih_loop_1 =>
      intro e9 h_e9 hfe hlt_loop_1 H locs ls hP hD hS hl
      refine lv_iload_n hx hb dX3_widestOf_2 rfl (lv_at hl 0 rfl) ?_
      refine lv_aload_n hx hb dX3_widestOf_3 rfl (lv_at hl 1 rfl) ?_
      refine xget C hP 0 rfl rfl zuX3 0 (by decide) zw1_195 rfl dX3_widestOf_4 ?_
      refine lv_icmp_ge (tgt := 94) hx hb dX3_widestOf_7 (by decide) (fun c_2 => ?_) (fun c_2 => ?_)
      · -- 7 t
        have fc_2 : en ≤ e9 := nf_le (by omega) (by omega) c_2
        refine lv_iconst (v := nI 0) hx hb dX3_widestOf_94 (by decide) ?_
        exact xreti C () trivial hP hD hS (Nat.le_of_ble_eq_true rfl) (Nat.le_of_ble_eq_true rfl) rfl dX3_widestOf_95
      · -- 7 f
        have fc_2 : e9 < en := nf_nle (by omega) (by omega) c_2
        refine lv_iload_n hx hb dX3_widestOf_10 rfl (lv_at hl 2 rfl) ?_
        refine lv_iload_n hx hb dX3_widestOf_11 rfl (lv_at hl 0 rfl) ?_
        refine lv_ishr hx hb dX3_widestOf_12 ?_
        refine lv_iconst (v := nI 1) hx hb dX3_widestOf_13 (by decide) ?_
        refine lv_iand hx hb dX3_widestOf_14 ?_
        refine lv_iconst (v := nI 1) hx hb dX3_widestOf_15 (by decide) ?_
        refine lv_icmp_ne (tgt := 88) hx hb dX3_widestOf_16 (by decide) (fun c_3 => ?_) (fun c_3 => ?_)
        · -- 16 t
          refine lv_iinc (v := nI (e9 + 1)) (lv' := [(3, .int (nI (e9 + 1))), (0, .ref hgr), (1, .int x), (2, .int (nI fr))]) hx hb dX3_widestOf_88 hl (k := 0) rfl (nI_add e9 1) (by decide) rfl ?_
          clear hl
          try clear ls
          intro ls hl
          refine lv_goto (tgt := 2) hx hb dX3_widestOf_91 (by decide) ?_
          exact ih_loop_1 (e9 + 1) (by omega) (by omega) (by omega) H locs ls hP hD hS (lv_sub hl [0, 1, 2, 3] rfl)
        · -- 16 f
          refine lv_iload_n hx hb dX3_widestOf_19 rfl (lv_at hl 2 rfl) ?_
          refine lv_iconst (v := nI 1) hx hb dX3_widestOf_20 (by decide) ?_
          refine lv_iload_n hx hb dX3_widestOf_21 rfl (lv_at hl 0 rfl) ?_
          refine lv_ishl hx hb dX3_widestOf_22 ?_
          refine lv_iconst (v := (-1)) hx hb dX3_widestOf_23 (by decide) ?_
          refine lv_ixor hx hb dX3_widestOf_24 ?_
          refine lv_iand hx hb dX3_widestOf_25 ?_
          refine lv_istore (lv' := [(4, .int (x &&& (((nI 1) <<< ((nI e9) &&& 31)) ^^^ (-1)))), (3, .int (nI e9)), (0, .ref hgr), (1, .int x), (2, .int (nI fr))]) hx hb dX3_widestOf_26 hl (by decide) rfl ?_
          clear hl
          try clear ls
          intro ls hl
          refine lv_iload hx hb dX3_widestOf_28 (lv_at hl 0 rfl) ?_
          refine lv_aload_n hx hb dX3_widestOf_30 rfl (lv_at hl 2 rfl) ?_
          refine xget C hP 0 rfl rfl zuX3 4 (by decide) zw1_205 rfl dX3_widestOf_31 ?_
          refine lv_iload_n hx hb dX3_widestOf_34 rfl (lv_at hl 1 rfl) ?_
          refine xiald C hP 1 rfl e9 rfl (by omega) (by decide) dX3_widestOf_35 ?_
          refine lv_aload_n hx hb dX3_widestOf_36 rfl (lv_at hl 2 rfl) ?_
          refine xget C hP 0 rfl rfl zuX3 5 (by decide) zw1_207 rfl dX3_widestOf_37 ?_
          refine lv_iload_n hx hb dX3_widestOf_40 rfl (lv_at hl 1 rfl) ?_
          refine xiald C hP 2 rfl e9 rfl (by omega) (by decide) dX3_widestOf_41 ?_
          refine lv_ior hx hb dX3_widestOf_42 ?_
          refine lv_iconst (v := (-1)) hx hb dX3_widestOf_43 (by decide) ?_
          refine lv_ixor hx hb dX3_widestOf_44 ?_
          refine lv_iand hx hb dX3_widestOf_45 ?_
          refine lv_istore (lv' := [(5, .int ((x &&& (((nI 1) <<< ((nI e9) &&& 31)) ^^^ (-1))) &&& (((gaf e9) ||| (gpf e9)) ^^^ (-1)))), (4, .int (x &&& (((nI 1) <<< ((nI e9) &&& 31)) ^^^ (-1)))), (3, .int (nI e9)), (0, .ref hgr), (1, .int x), (2, .int (nI fr))]) hx hb dX3_widestOf_46 hl (by decide) rfl ?_
          clear hl
          try clear ls
          intro ls hl
          refine lv_iconst (v := nI 1) hx hb dX3_widestOf_48 (by decide) ?_
          refine lv_aload_n hx hb dX3_widestOf_49 rfl (lv_at hl 3 rfl) ?_
          refine lv_iload hx hb dX3_widestOf_50 (lv_at hl 0 rfl) ?_
          refine lv_iload_n hx hb dX3_widestOf_52 rfl (lv_at hl 2 rfl) ?_
          refine lv_iconst (v := nI 1) hx hb dX3_widestOf_53 (by decide) ?_
          refine lv_iadd hx hb dX3_widestOf_54 ?_
          refine lv_topi (nm_r (e' := nI (e9 + 1)) (nI_add _ _) ?_)
          refine xi (wr := []) (xS (As := [.ref hgr, .int ((x &&& (((nI 1) <<< ((nI e9) &&& 31)) ^^^ (-1))) &&& (((gaf e9) ||| (gpf e9)) ^^^ (-1))), .int (nI (e9 + 1))]) (rest := [.int (nI 1)]) C (c_X3_widestOf_8 l D cs hgr en gs g1r g2r gan gpr gde gme gaf gpf ((x &&& (((nI 1) <<< ((nI e9) &&& 31)) ^^^ (-1))) &&& (((gaf e9) ||| (gpf e9)) ^^^ (-1))) (e9 + 1) hen (by omega) (by omega)) kX3_60 hP hD [0, 1, 2] rfl (by decide) ⟨Nat.le_of_ble_eq_true rfl, Nat.le_of_ble_eq_true rfl⟩ rfl hl.1 rfl (Nat.le_of_ble_eq_true rfl) dX3_widestOf_55 ⟨Nat.le_of_ble_eq_true rfl, Nat.le_of_ble_eq_true rfl⟩) hP hD hS hA [0, 1, 2] [] rfl rfl (by decide) (by decide) ?_
          clear hP hD hS
          try clear locs
          try clear H
          intro r_4 u_5 H locs hw_r_4 hP hD hS
          refine W.widen (k := 0) (n := 0) (Nat.le_of_ble_eq_true rfl) (Nat.le_of_ble_eq_true rfl) ?_
          replace hP : va_P D vwCl [(hgr, .inr (3, [.int (nI en), .ref gs, .ref g1r, .ref g2r, .ref gan, .ref gpr, .ref gde, .ref gme])), (gan, .inl (cs 0, 16, .inl gaf)), (gpr, .inl (cs 0, 16, .inl gpf))] H := hP
          replace hD : va_D A [(hgr, .inr (3, [.int (nI en), .ref gs, .ref g1r, .ref g2r, .ref gan, .ref gpr, .ref gde, .ref gme])), (gan, .inl (cs 0, 16, .inl gaf)), (gpr, .inl (cs 0, 16, .inl gpf))] := hD
          refine lv_iadd hx hb dX3_widestOf_58 ?_
          refine lv_istore (lv' := [(6, .int ((nI 1) + r_4)), (5, .int ((x &&& (((nI 1) <<< ((nI e9) &&& 31)) ^^^ (-1))) &&& (((gaf e9) ||| (gpf e9)) ^^^ (-1)))), (4, .int (x &&& (((nI 1) <<< ((nI e9) &&& 31)) ^^^ (-1)))), (3, .int (nI e9)), (0, .ref hgr), (1, .int x), (2, .int (nI fr))]) hx hb dX3_widestOf_59 hl (by decide) rfl ?_
          clear hl
          try clear ls
          intro ls hl
          refine lv_iload hx hb dX3_widestOf_61 (lv_at hl 1 rfl) ?_
          refine lv_iload hx hb dX3_widestOf_63 (lv_at hl 2 rfl) ?_
          refine lv_icmp_ne (tgt := 73) hx hb dX3_widestOf_65 (by decide) (fun c_6 => ?_) (fun c_6 => ?_)
          · -- 65 t
            refine lv_iload hx hb dX3_widestOf_73 (lv_at hl 0 rfl) ?_
            refine lv_aload_n hx hb dX3_widestOf_75 rfl (lv_at hl 4 rfl) ?_
            refine lv_iload hx hb dX3_widestOf_76 (lv_at hl 2 rfl) ?_
            refine lv_iload_n hx hb dX3_widestOf_78 rfl (lv_at hl 3 rfl) ?_
            refine lv_iconst (v := nI 1) hx hb dX3_widestOf_79 (by decide) ?_
            refine lv_iadd hx hb dX3_widestOf_80 ?_
            refine lv_topi (nm_r (e' := nI (e9 + 1)) (nI_add _ _) ?_)
            refine xi (wr := []) (xS (As := [.ref hgr, .int (x &&& (((nI 1) <<< ((nI e9) &&& 31)) ^^^ (-1))), .int (nI (e9 + 1))]) (rest := [.int ((nI 1) + r_4)]) C (c_X3_widestOf_8 l D cs hgr en gs g1r g2r gan gpr gde gme gaf gpf (x &&& (((nI 1) <<< ((nI e9) &&& 31)) ^^^ (-1))) (e9 + 1) hen (by omega) (by omega)) kX3_60 hP hD [0, 1, 2] rfl (by decide) ⟨Nat.le_of_ble_eq_true rfl, Nat.le_of_ble_eq_true rfl⟩ rfl hl.1 rfl (Nat.le_of_ble_eq_true rfl) dX3_widestOf_81 ⟨Nat.le_of_ble_eq_true rfl, Nat.le_of_ble_eq_true rfl⟩) hP hD hS hA [0, 1, 2] [] rfl rfl (by decide) (by decide) ?_
            clear hP hD hS
            try clear locs
            try clear H
            intro r_7 u_8 H locs hw_r_7 hP hD hS
            refine W.widen (k := 0) (n := 0) (Nat.le_of_ble_eq_true rfl) (Nat.le_of_ble_eq_true rfl) ?_
            replace hP : va_P D vwCl [(hgr, .inr (3, [.int (nI en), .ref gs, .ref g1r, .ref g2r, .ref gan, .ref gpr, .ref gde, .ref gme])), (gan, .inl (cs 0, 16, .inl gaf)), (gpr, .inl (cs 0, 16, .inl gpf))] H := hP
            replace hD : va_D A [(hgr, .inr (3, [.int (nI en), .ref gs, .ref g1r, .ref g2r, .ref gan, .ref gpr, .ref gde, .ref gme])), (gan, .inl (cs 0, 16, .inl gaf)), (gpr, .inl (cs 0, 16, .inl gpf))] := hD
            refine va_mmax hx hb (C.2.2.1.trans hl.1.symm) hown (hz _ zw4_201) (hz _ zw4_202) (hz _ zw1_3) (hz _ zw4_203) (Nat.le_of_ble_eq_true rfl) (Nat.le_of_ble_eq_true rfl) (Nat.le_of_ble_eq_true rfl) (Nat.le_of_ble_eq_true rfl) dX3_widestOf_84 ?_
            exact xreti C () trivial hP hD hS (Nat.le_of_ble_eq_true rfl) (Nat.le_of_ble_eq_true rfl) rfl dX3_widestOf_87
          · -- 65 f
            refine lv_iload hx hb dX3_widestOf_68 (lv_at hl 0 rfl) ?_
            refine lv_goto (tgt := 87) hx hb dX3_widestOf_70 (by decide) ?_
            exact xreti C () trivial hP hD hS (Nat.le_of_ble_eq_true rfl) (Nat.le_of_ble_eq_true rfl) rfl dX3_widestOf_87
  exact loop_1 _ fr (by omega) (Nat.le_refl _) (Nat.lt_succ_self _) H locs ls hP hD hS (lv_sub hl [0, 1, 2, 3] rfl)

set_option maxHeartbeats 4000000 in
set_option maxRecDepth 100000 in
theorem c_X3_widestOf_10 (l : Launch) (D : va_G) (cs : Nat → ClassId) (hgr en gs g1r g2r gan gpr gde gme : Nat) (gaf gpf : Nat → Int32) (x : Int32) (fr : Nat) (hen : en ≤ 16) (hfr : fr ≤ 17) (hd : en ≤ fr + 10) : xMet l D cs yX3_widestOf cX3_widestOf 7 (some .int) ({ frames := 10, cells := 0, slots := 0, locals := 260 } : Room) [.ref hgr, .int x, .int (nI fr)] [(hgr, .inr (3, [.int (nI en), .ref gs, .ref g1r, .ref g2r, .ref gan, .ref gpr, .ref gde, .ref gme])), (gan, .inl (cs 0, 16, .inl gaf)), (gpr, .inl (cs 0, 16, .inl gpf))] (xQi D (fun (r : Int32) (_u : Unit) => True) (fun (_u : Unit) => [(hgr, .inr (3, [.int (nI en), .ref gs, .ref g1r, .ref g2r, .ref gan, .ref gpr, .ref gde, .ref gme])), (gan, .inl (cs 0, 16, .inl gaf)), (gpr, .inl (cs 0, 16, .inl gpf))])) := by
  refine xMet.intro (by decide) (Nat.le_of_ble_eq_true rfl) ?_
  intro p e s m args below meth c A ls C hP hD hS hl
  have hx := C.1
  have hb := C.2.1
  have hz := C.2.2.2.2.1
  have hown := C.2.2.2.1
  have hA := C.2.2.2.2.2.2.2.2.2
  have hAO := C.2.2.2.2.2.2.2.2.1.2.2
  replace hl : lv_has ls 7 [(0, .ref hgr), (1, .int x), (2, .int (nI fr))] := hl
  obtain ⟨H, hH⟩ : ∃ H, H = s.heap := ⟨_, rfl⟩
  replace hP : va_P D vwCl [(hgr, .inr (3, [.int (nI en), .ref gs, .ref g1r, .ref g2r, .ref gan, .ref gpr, .ref gde, .ref gme])), (gan, .inl (cs 0, 16, .inl gaf)), (gpr, .inl (cs 0, 16, .inl gpf))] H := by rw [hH]; exact hP
  replace hS : va_S A s.heap H [] := by rw [hH]; exact hS
  obtain ⟨locs, hlocs⟩ : ∃ z : List Loc, z = [] := ⟨_, rfl⟩
  rw [← hlocs] at hS
  suffices hW : W p l e ({ frames := 10, cells := 0, slots := 0, locals := 260 } : Room) s m args below meth c H locs 0 0 (MQ below ((xQi D (fun (r : Int32) (_u : Unit) => True) (fun (_u : Unit) => [(hgr, .inr (3, [.int (nI en), .ref gs, .ref g1r, .ref g2r, .ref gan, .ref gpr, .ref gde, .ref gme])), (gan, .inl (cs 0, 16, .inl gaf)), (gpr, .inl (cs 0, 16, .inl gpf))])) A) args s 0 0 A) (F0 m 0 ls []) by rw [hlocs, hH] at hW; exact hW
  clear hH hlocs
  refine lv_iload_n hx hb dX3_widestOf_0 rfl (lv_at hl 2 rfl) ?_
  refine lv_istore_n (lv' := [(3, .int (nI fr)), (0, .ref hgr), (1, .int x), (2, .int (nI fr))]) hx hb dX3_widestOf_1 rfl hl (by decide) rfl ?_
  clear hl
  try clear ls
  intro ls hl
  have loop_1 : ∀ (n_loop_1 : Nat) (e9 : Nat), (e9 ≤ 17) → (fr ≤ e9) → 17 - e9 < n_loop_1 → ∀ (H : Heap) (locs : List Loc) (ls : Array Slot), va_P D vwCl [(hgr, .inr (3, [.int (nI en), .ref gs, .ref g1r, .ref g2r, .ref gan, .ref gpr, .ref gde, .ref gme])), (gan, .inl (cs 0, 16, .inl gaf)), (gpr, .inl (cs 0, 16, .inl gpf))] H → va_D A [(hgr, .inr (3, [.int (nI en), .ref gs, .ref g1r, .ref g2r, .ref gan, .ref gpr, .ref gde, .ref gme])), (gan, .inl (cs 0, 16, .inl gaf)), (gpr, .inl (cs 0, 16, .inl gpf))] → va_S A s.heap H locs → lv_has ls 7 [(3, .int (nI e9)), (0, .ref hgr), (1, .int x), (2, .int (nI fr))] → W p l e ({ frames := 10, cells := 0, slots := 0, locals := 260 } : Room) s m args below meth c H locs 0 0 (MQ below ((xQi D (fun (r : Int32) (_u : Unit) => True) (fun (_u : Unit) => [(hgr, .inr (3, [.int (nI en), .ref gs, .ref g1r, .ref g2r, .ref gan, .ref gpr, .ref gde, .ref gme])), (gan, .inl (cs 0, 16, .inl gaf)), (gpr, .inl (cs 0, 16, .inl gpf))])) A) args s 0 0 A) (F0 m 2 ls []) := by
    intro n_loop_1
    induction n_loop_1 with
    | zero => intro e9 h_e9 hfe hlt H locs ls hP hD hS hl; exact absurd hlt (Nat.not_lt_zero _)
    | succ n_loop_1 ih_loop_1 =>
      intro e9 h_e9 hfe hlt_loop_1 H locs ls hP hD hS hl
      refine lv_iload_n hx hb dX3_widestOf_2 rfl (lv_at hl 0 rfl) ?_
      refine lv_aload_n hx hb dX3_widestOf_3 rfl (lv_at hl 1 rfl) ?_
      refine xget C hP 0 rfl rfl zuX3 0 (by decide) zw1_195 rfl dX3_widestOf_4 ?_
      refine lv_icmp_ge (tgt := 94) hx hb dX3_widestOf_7 (by decide) (fun c_2 => ?_) (fun c_2 => ?_)
      · -- 7 t
        have fc_2 : en ≤ e9 := nf_le (by omega) (by omega) c_2
        refine lv_iconst (v := nI 0) hx hb dX3_widestOf_94 (by decide) ?_
        exact xreti C () trivial hP hD hS (Nat.le_of_ble_eq_true rfl) (Nat.le_of_ble_eq_true rfl) rfl dX3_widestOf_95
      · -- 7 f
        have fc_2 : e9 < en := nf_nle (by omega) (by omega) c_2
        refine lv_iload_n hx hb dX3_widestOf_10 rfl (lv_at hl 2 rfl) ?_
        refine lv_iload_n hx hb dX3_widestOf_11 rfl (lv_at hl 0 rfl) ?_
        refine lv_ishr hx hb dX3_widestOf_12 ?_
        refine lv_iconst (v := nI 1) hx hb dX3_widestOf_13 (by decide) ?_
        refine lv_iand hx hb dX3_widestOf_14 ?_
        refine lv_iconst (v := nI 1) hx hb dX3_widestOf_15 (by decide) ?_
        refine lv_icmp_ne (tgt := 88) hx hb dX3_widestOf_16 (by decide) (fun c_3 => ?_) (fun c_3 => ?_)
        · -- 16 t
          refine lv_iinc (v := nI (e9 + 1)) (lv' := [(3, .int (nI (e9 + 1))), (0, .ref hgr), (1, .int x), (2, .int (nI fr))]) hx hb dX3_widestOf_88 hl (k := 0) rfl (nI_add e9 1) (by decide) rfl ?_
          clear hl
          try clear ls
          intro ls hl
          refine lv_goto (tgt := 2) hx hb dX3_widestOf_91 (by decide) ?_
          exact ih_loop_1 (e9 + 1) (by omega) (by omega) (by omega) H locs ls hP hD hS (lv_sub hl [0, 1, 2, 3] rfl)
        · -- 16 f
          refine lv_iload_n hx hb dX3_widestOf_19 rfl (lv_at hl 2 rfl) ?_
          refine lv_iconst (v := nI 1) hx hb dX3_widestOf_20 (by decide) ?_
          refine lv_iload_n hx hb dX3_widestOf_21 rfl (lv_at hl 0 rfl) ?_
          refine lv_ishl hx hb dX3_widestOf_22 ?_
          refine lv_iconst (v := (-1)) hx hb dX3_widestOf_23 (by decide) ?_
          refine lv_ixor hx hb dX3_widestOf_24 ?_
          refine lv_iand hx hb dX3_widestOf_25 ?_
          refine lv_istore (lv' := [(4, .int (x &&& (((nI 1) <<< ((nI e9) &&& 31)) ^^^ (-1)))), (3, .int (nI e9)), (0, .ref hgr), (1, .int x), (2, .int (nI fr))]) hx hb dX3_widestOf_26 hl (by decide) rfl ?_
          clear hl
          try clear ls
          intro ls hl
          refine lv_iload hx hb dX3_widestOf_28 (lv_at hl 0 rfl) ?_
          refine lv_aload_n hx hb dX3_widestOf_30 rfl (lv_at hl 2 rfl) ?_
          refine xget C hP 0 rfl rfl zuX3 4 (by decide) zw1_205 rfl dX3_widestOf_31 ?_
          refine lv_iload_n hx hb dX3_widestOf_34 rfl (lv_at hl 1 rfl) ?_
          refine xiald C hP 1 rfl e9 rfl (by omega) (by decide) dX3_widestOf_35 ?_
          refine lv_aload_n hx hb dX3_widestOf_36 rfl (lv_at hl 2 rfl) ?_
          refine xget C hP 0 rfl rfl zuX3 5 (by decide) zw1_207 rfl dX3_widestOf_37 ?_
          refine lv_iload_n hx hb dX3_widestOf_40 rfl (lv_at hl 1 rfl) ?_
          refine xiald C hP 2 rfl e9 rfl (by omega) (by decide) dX3_widestOf_41 ?_
          refine lv_ior hx hb dX3_widestOf_42 ?_
          refine lv_iconst (v := (-1)) hx hb dX3_widestOf_43 (by decide) ?_
          refine lv_ixor hx hb dX3_widestOf_44 ?_
          refine lv_iand hx hb dX3_widestOf_45 ?_
          refine lv_istore (lv' := [(5, .int ((x &&& (((nI 1) <<< ((nI e9) &&& 31)) ^^^ (-1))) &&& (((gaf e9) ||| (gpf e9)) ^^^ (-1)))), (4, .int (x &&& (((nI 1) <<< ((nI e9) &&& 31)) ^^^ (-1)))), (3, .int (nI e9)), (0, .ref hgr), (1, .int x), (2, .int (nI fr))]) hx hb dX3_widestOf_46 hl (by decide) rfl ?_
          clear hl
          try clear ls
          intro ls hl
          refine lv_iconst (v := nI 1) hx hb dX3_widestOf_48 (by decide) ?_
          refine lv_aload_n hx hb dX3_widestOf_49 rfl (lv_at hl 3 rfl) ?_
          refine lv_iload hx hb dX3_widestOf_50 (lv_at hl 0 rfl) ?_
          refine lv_iload_n hx hb dX3_widestOf_52 rfl (lv_at hl 2 rfl) ?_
          refine lv_iconst (v := nI 1) hx hb dX3_widestOf_53 (by decide) ?_
          refine lv_iadd hx hb dX3_widestOf_54 ?_
          refine lv_topi (nm_r (e' := nI (e9 + 1)) (nI_add _ _) ?_)
          refine xi (wr := []) (xS (As := [.ref hgr, .int ((x &&& (((nI 1) <<< ((nI e9) &&& 31)) ^^^ (-1))) &&& (((gaf e9) ||| (gpf e9)) ^^^ (-1))), .int (nI (e9 + 1))]) (rest := [.int (nI 1)]) C (c_X3_widestOf_9 l D cs hgr en gs g1r g2r gan gpr gde gme gaf gpf ((x &&& (((nI 1) <<< ((nI e9) &&& 31)) ^^^ (-1))) &&& (((gaf e9) ||| (gpf e9)) ^^^ (-1))) (e9 + 1) hen (by omega) (by omega)) kX3_60 hP hD [0, 1, 2] rfl (by decide) ⟨Nat.le_of_ble_eq_true rfl, Nat.le_of_ble_eq_true rfl⟩ rfl hl.1 rfl (Nat.le_of_ble_eq_true rfl) dX3_widestOf_55 ⟨Nat.le_of_ble_eq_true rfl, Nat.le_of_ble_eq_true rfl⟩) hP hD hS hA [0, 1, 2] [] rfl rfl (by decide) (by decide) ?_
          clear hP hD hS
          try clear locs
          try clear H
          intro r_4 u_5 H locs hw_r_4 hP hD hS
          refine W.widen (k := 0) (n := 0) (Nat.le_of_ble_eq_true rfl) (Nat.le_of_ble_eq_true rfl) ?_
          replace hP : va_P D vwCl [(hgr, .inr (3, [.int (nI en), .ref gs, .ref g1r, .ref g2r, .ref gan, .ref gpr, .ref gde, .ref gme])), (gan, .inl (cs 0, 16, .inl gaf)), (gpr, .inl (cs 0, 16, .inl gpf))] H := hP
          replace hD : va_D A [(hgr, .inr (3, [.int (nI en), .ref gs, .ref g1r, .ref g2r, .ref gan, .ref gpr, .ref gde, .ref gme])), (gan, .inl (cs 0, 16, .inl gaf)), (gpr, .inl (cs 0, 16, .inl gpf))] := hD
          refine lv_iadd hx hb dX3_widestOf_58 ?_
          refine lv_istore (lv' := [(6, .int ((nI 1) + r_4)), (5, .int ((x &&& (((nI 1) <<< ((nI e9) &&& 31)) ^^^ (-1))) &&& (((gaf e9) ||| (gpf e9)) ^^^ (-1)))), (4, .int (x &&& (((nI 1) <<< ((nI e9) &&& 31)) ^^^ (-1)))), (3, .int (nI e9)), (0, .ref hgr), (1, .int x), (2, .int (nI fr))]) hx hb dX3_widestOf_59 hl (by decide) rfl ?_
          clear hl
          try clear ls
          intro ls hl
          refine lv_iload hx hb dX3_widestOf_61 (lv_at hl 1 rfl) ?_
          refine lv_iload hx hb dX3_widestOf_63 (lv_at hl 2 rfl) ?_
          refine lv_icmp_ne (tgt := 73) hx hb dX3_widestOf_65 (by decide) (fun c_6 => ?_) (fun c_6 => ?_)
          · -- 65 t
            refine lv_iload hx hb dX3_widestOf_73 (lv_at hl 0 rfl) ?_
            refine lv_aload_n hx hb dX3_widestOf_75 rfl (lv_at hl 4 rfl) ?_
            refine lv_iload hx hb dX3_widestOf_76 (lv_at hl 2 rfl) ?_
            refine lv_iload_n hx hb dX3_widestOf_78 rfl (lv_at hl 3 rfl) ?_
            refine lv_iconst (v := nI 1) hx hb dX3_widestOf_79 (by decide) ?_
            refine lv_iadd hx hb dX3_widestOf_80 ?_
            refine lv_topi (nm_r (e' := nI (e9 + 1)) (nI_add _ _) ?_)
            refine xi (wr := []) (xS (As := [.ref hgr, .int (x &&& (((nI 1) <<< ((nI e9) &&& 31)) ^^^ (-1))), .int (nI (e9 + 1))]) (rest := [.int ((nI 1) + r_4)]) C (c_X3_widestOf_9 l D cs hgr en gs g1r g2r gan gpr gde gme gaf gpf (x &&& (((nI 1) <<< ((nI e9) &&& 31)) ^^^ (-1))) (e9 + 1) hen (by omega) (by omega)) kX3_60 hP hD [0, 1, 2] rfl (by decide) ⟨Nat.le_of_ble_eq_true rfl, Nat.le_of_ble_eq_true rfl⟩ rfl hl.1 rfl (Nat.le_of_ble_eq_true rfl) dX3_widestOf_81 ⟨Nat.le_of_ble_eq_true rfl, Nat.le_of_ble_eq_true rfl⟩) hP hD hS hA [0, 1, 2] [] rfl rfl (by decide) (by decide) ?_
            clear hP hD hS
            try clear locs
            try clear H
            intro r_7 u_8 H locs hw_r_7 hP hD hS
            refine W.widen (k := 0) (n := 0) (Nat.le_of_ble_eq_true rfl) (Nat.le_of_ble_eq_true rfl) ?_
            replace hP : va_P D vwCl [(hgr, .inr (3, [.int (nI en), .ref gs, .ref g1r, .ref g2r, .ref gan, .ref gpr, .ref gde, .ref gme])), (gan, .inl (cs 0, 16, .inl gaf)), (gpr, .inl (cs 0, 16, .inl gpf))] H := hP
            replace hD : va_D A [(hgr, .inr (3, [.int (nI en), .ref gs, .ref g1r, .ref g2r, .ref gan, .ref gpr, .ref gde, .ref gme])), (gan, .inl (cs 0, 16, .inl gaf)), (gpr, .inl (cs 0, 16, .inl gpf))] := hD
            refine va_mmax hx hb (C.2.2.1.trans hl.1.symm) hown (hz _ zw4_201) (hz _ zw4_202) (hz _ zw1_3) (hz _ zw4_203) (Nat.le_of_ble_eq_true rfl) (Nat.le_of_ble_eq_true rfl) (Nat.le_of_ble_eq_true rfl) (Nat.le_of_ble_eq_true rfl) dX3_widestOf_84 ?_
            exact xreti C () trivial hP hD hS (Nat.le_of_ble_eq_true rfl) (Nat.le_of_ble_eq_true rfl) rfl dX3_widestOf_87
          · -- 65 f
            refine lv_iload hx hb dX3_widestOf_68 (lv_at hl 0 rfl) ?_
            refine lv_goto (tgt := 87) hx hb dX3_widestOf_70 (by decide) ?_
            exact xreti C () trivial hP hD hS (Nat.le_of_ble_eq_true rfl) (Nat.le_of_ble_eq_true rfl) rfl dX3_widestOf_87
  exact loop_1 _ fr (by omega) (Nat.le_refl _) (Nat.lt_succ_self _) H locs ls hP hD hS (lv_sub hl [0, 1, 2, 3] rfl)

set_option maxHeartbeats 4000000 in
set_option maxRecDepth 100000 in
theorem c_X3_widestOf_11 (l : Launch) (D : va_G) (cs : Nat → ClassId) (hgr en gs g1r g2r gan gpr gde gme : Nat) (gaf gpf : Nat → Int32) (x : Int32) (fr : Nat) (hen : en ≤ 16) (hfr : fr ≤ 17) (hd : en ≤ fr + 11) : xMet l D cs yX3_widestOf cX3_widestOf 7 (some .int) ({ frames := 11, cells := 0, slots := 0, locals := 286 } : Room) [.ref hgr, .int x, .int (nI fr)] [(hgr, .inr (3, [.int (nI en), .ref gs, .ref g1r, .ref g2r, .ref gan, .ref gpr, .ref gde, .ref gme])), (gan, .inl (cs 0, 16, .inl gaf)), (gpr, .inl (cs 0, 16, .inl gpf))] (xQi D (fun (r : Int32) (_u : Unit) => True) (fun (_u : Unit) => [(hgr, .inr (3, [.int (nI en), .ref gs, .ref g1r, .ref g2r, .ref gan, .ref gpr, .ref gde, .ref gme])), (gan, .inl (cs 0, 16, .inl gaf)), (gpr, .inl (cs 0, 16, .inl gpf))])) := by
  refine xMet.intro (by decide) (Nat.le_of_ble_eq_true rfl) ?_
  intro p e s m args below meth c A ls C hP hD hS hl
  have hx := C.1
  have hb := C.2.1
  have hz := C.2.2.2.2.1
  have hown := C.2.2.2.1
  have hA := C.2.2.2.2.2.2.2.2.2
  have hAO := C.2.2.2.2.2.2.2.2.1.2.2
  replace hl : lv_has ls 7 [(0, .ref hgr), (1, .int x), (2, .int (nI fr))] := hl
  obtain ⟨H, hH⟩ : ∃ H, H = s.heap := ⟨_, rfl⟩
  replace hP : va_P D vwCl [(hgr, .inr (3, [.int (nI en), .ref gs, .ref g1r, .ref g2r, .ref gan, .ref gpr, .ref gde, .ref gme])), (gan, .inl (cs 0, 16, .inl gaf)), (gpr, .inl (cs 0, 16, .inl gpf))] H := by rw [hH]; exact hP
  replace hS : va_S A s.heap H [] := by rw [hH]; exact hS
  obtain ⟨locs, hlocs⟩ : ∃ z : List Loc, z = [] := ⟨_, rfl⟩
  rw [← hlocs] at hS
  suffices hW : W p l e ({ frames := 11, cells := 0, slots := 0, locals := 286 } : Room) s m args below meth c H locs 0 0 (MQ below ((xQi D (fun (r : Int32) (_u : Unit) => True) (fun (_u : Unit) => [(hgr, .inr (3, [.int (nI en), .ref gs, .ref g1r, .ref g2r, .ref gan, .ref gpr, .ref gde, .ref gme])), (gan, .inl (cs 0, 16, .inl gaf)), (gpr, .inl (cs 0, 16, .inl gpf))])) A) args s 0 0 A) (F0 m 0 ls []) by rw [hlocs, hH] at hW; exact hW
  clear hH hlocs
  refine lv_iload_n hx hb dX3_widestOf_0 rfl (lv_at hl 2 rfl) ?_
  refine lv_istore_n (lv' := [(3, .int (nI fr)), (0, .ref hgr), (1, .int x), (2, .int (nI fr))]) hx hb dX3_widestOf_1 rfl hl (by decide) rfl ?_
  clear hl
  try clear ls
  intro ls hl
  have loop_1 : ∀ (n_loop_1 : Nat) (e9 : Nat), (e9 ≤ 17) → (fr ≤ e9) → 17 - e9 < n_loop_1 → ∀ (H : Heap) (locs : List Loc) (ls : Array Slot), va_P D vwCl [(hgr, .inr (3, [.int (nI en), .ref gs, .ref g1r, .ref g2r, .ref gan, .ref gpr, .ref gde, .ref gme])), (gan, .inl (cs 0, 16, .inl gaf)), (gpr, .inl (cs 0, 16, .inl gpf))] H → va_D A [(hgr, .inr (3, [.int (nI en), .ref gs, .ref g1r, .ref g2r, .ref gan, .ref gpr, .ref gde, .ref gme])), (gan, .inl (cs 0, 16, .inl gaf)), (gpr, .inl (cs 0, 16, .inl gpf))] → va_S A s.heap H locs → lv_has ls 7 [(3, .int (nI e9)), (0, .ref hgr), (1, .int x), (2, .int (nI fr))] → W p l e ({ frames := 11, cells := 0, slots := 0, locals := 286 } : Room) s m args below meth c H locs 0 0 (MQ below ((xQi D (fun (r : Int32) (_u : Unit) => True) (fun (_u : Unit) => [(hgr, .inr (3, [.int (nI en), .ref gs, .ref g1r, .ref g2r, .ref gan, .ref gpr, .ref gde, .ref gme])), (gan, .inl (cs 0, 16, .inl gaf)), (gpr, .inl (cs 0, 16, .inl gpf))])) A) args s 0 0 A) (F0 m 2 ls []) := by
    intro n_loop_1
    induction n_loop_1 with
    | zero => intro e9 h_e9 hfe hlt H locs ls hP hD hS hl; exact absurd hlt (Nat.not_lt_zero _)
    | succ n_loop_1 ih_loop_1 =>
      intro e9 h_e9 hfe hlt_loop_1 H locs ls hP hD hS hl
      refine lv_iload_n hx hb dX3_widestOf_2 rfl (lv_at hl 0 rfl) ?_
      refine lv_aload_n hx hb dX3_widestOf_3 rfl (lv_at hl 1 rfl) ?_
      refine xget C hP 0 rfl rfl zuX3 0 (by decide) zw1_195 rfl dX3_widestOf_4 ?_
      refine lv_icmp_ge (tgt := 94) hx hb dX3_widestOf_7 (by decide) (fun c_2 => ?_) (fun c_2 => ?_)
      · -- 7 t
        have fc_2 : en ≤ e9 := nf_le (by omega) (by omega) c_2
        refine lv_iconst (v := nI 0) hx hb dX3_widestOf_94 (by decide) ?_
        exact xreti C () trivial hP hD hS (Nat.le_of_ble_eq_true rfl) (Nat.le_of_ble_eq_true rfl) rfl dX3_widestOf_95
      · -- 7 f
        have fc_2 : e9 < en := nf_nle (by omega) (by omega) c_2
        refine lv_iload_n hx hb dX3_widestOf_10 rfl (lv_at hl 2 rfl) ?_
        refine lv_iload_n hx hb dX3_widestOf_11 rfl (lv_at hl 0 rfl) ?_
        refine lv_ishr hx hb dX3_widestOf_12 ?_
        refine lv_iconst (v := nI 1) hx hb dX3_widestOf_13 (by decide) ?_
        refine lv_iand hx hb dX3_widestOf_14 ?_
        refine lv_iconst (v := nI 1) hx hb dX3_widestOf_15 (by decide) ?_
        refine lv_icmp_ne (tgt := 88) hx hb dX3_widestOf_16 (by decide) (fun c_3 => ?_) (fun c_3 => ?_)
        · -- 16 t
          refine lv_iinc (v := nI (e9 + 1)) (lv' := [(3, .int (nI (e9 + 1))), (0, .ref hgr), (1, .int x), (2, .int (nI fr))]) hx hb dX3_widestOf_88 hl (k := 0) rfl (nI_add e9 1) (by decide) rfl ?_
          clear hl
          try clear ls
          intro ls hl
          refine lv_goto (tgt := 2) hx hb dX3_widestOf_91 (by decide) ?_
          exact ih_loop_1 (e9 + 1) (by omega) (by omega) (by omega) H locs ls hP hD hS (lv_sub hl [0, 1, 2, 3] rfl)
        · -- 16 f
          refine lv_iload_n hx hb dX3_widestOf_19 rfl (lv_at hl 2 rfl) ?_
          refine lv_iconst (v := nI 1) hx hb dX3_widestOf_20 (by decide) ?_
          refine lv_iload_n hx hb dX3_widestOf_21 rfl (lv_at hl 0 rfl) ?_
          refine lv_ishl hx hb dX3_widestOf_22 ?_
          refine lv_iconst (v := (-1)) hx hb dX3_widestOf_23 (by decide) ?_
          refine lv_ixor hx hb dX3_widestOf_24 ?_
          refine lv_iand hx hb dX3_widestOf_25 ?_
          refine lv_istore (lv' := [(4, .int (x &&& (((nI 1) <<< ((nI e9) &&& 31)) ^^^ (-1)))), (3, .int (nI e9)), (0, .ref hgr), (1, .int x), (2, .int (nI fr))]) hx hb dX3_widestOf_26 hl (by decide) rfl ?_
          clear hl
          try clear ls
          intro ls hl
          refine lv_iload hx hb dX3_widestOf_28 (lv_at hl 0 rfl) ?_
          refine lv_aload_n hx hb dX3_widestOf_30 rfl (lv_at hl 2 rfl) ?_
          refine xget C hP 0 rfl rfl zuX3 4 (by decide) zw1_205 rfl dX3_widestOf_31 ?_
          refine lv_iload_n hx hb dX3_widestOf_34 rfl (lv_at hl 1 rfl) ?_
          refine xiald C hP 1 rfl e9 rfl (by omega) (by decide) dX3_widestOf_35 ?_
          refine lv_aload_n hx hb dX3_widestOf_36 rfl (lv_at hl 2 rfl) ?_
          refine xget C hP 0 rfl rfl zuX3 5 (by decide) zw1_207 rfl dX3_widestOf_37 ?_
          refine lv_iload_n hx hb dX3_widestOf_40 rfl (lv_at hl 1 rfl) ?_
          refine xiald C hP 2 rfl e9 rfl (by omega) (by decide) dX3_widestOf_41 ?_
          refine lv_ior hx hb dX3_widestOf_42 ?_
          refine lv_iconst (v := (-1)) hx hb dX3_widestOf_43 (by decide) ?_
          refine lv_ixor hx hb dX3_widestOf_44 ?_
          refine lv_iand hx hb dX3_widestOf_45 ?_
          refine lv_istore (lv' := [(5, .int ((x &&& (((nI 1) <<< ((nI e9) &&& 31)) ^^^ (-1))) &&& (((gaf e9) ||| (gpf e9)) ^^^ (-1)))), (4, .int (x &&& (((nI 1) <<< ((nI e9) &&& 31)) ^^^ (-1)))), (3, .int (nI e9)), (0, .ref hgr), (1, .int x), (2, .int (nI fr))]) hx hb dX3_widestOf_46 hl (by decide) rfl ?_
          clear hl
          try clear ls
          intro ls hl
          refine lv_iconst (v := nI 1) hx hb dX3_widestOf_48 (by decide) ?_
          refine lv_aload_n hx hb dX3_widestOf_49 rfl (lv_at hl 3 rfl) ?_
          refine lv_iload hx hb dX3_widestOf_50 (lv_at hl 0 rfl) ?_
          refine lv_iload_n hx hb dX3_widestOf_52 rfl (lv_at hl 2 rfl) ?_
          refine lv_iconst (v := nI 1) hx hb dX3_widestOf_53 (by decide) ?_
          refine lv_iadd hx hb dX3_widestOf_54 ?_
          refine lv_topi (nm_r (e' := nI (e9 + 1)) (nI_add _ _) ?_)
          refine xi (wr := []) (xS (As := [.ref hgr, .int ((x &&& (((nI 1) <<< ((nI e9) &&& 31)) ^^^ (-1))) &&& (((gaf e9) ||| (gpf e9)) ^^^ (-1))), .int (nI (e9 + 1))]) (rest := [.int (nI 1)]) C (c_X3_widestOf_10 l D cs hgr en gs g1r g2r gan gpr gde gme gaf gpf ((x &&& (((nI 1) <<< ((nI e9) &&& 31)) ^^^ (-1))) &&& (((gaf e9) ||| (gpf e9)) ^^^ (-1))) (e9 + 1) hen (by omega) (by omega)) kX3_60 hP hD [0, 1, 2] rfl (by decide) ⟨Nat.le_of_ble_eq_true rfl, Nat.le_of_ble_eq_true rfl⟩ rfl hl.1 rfl (Nat.le_of_ble_eq_true rfl) dX3_widestOf_55 ⟨Nat.le_of_ble_eq_true rfl, Nat.le_of_ble_eq_true rfl⟩) hP hD hS hA [0, 1, 2] [] rfl rfl (by decide) (by decide) ?_
          clear hP hD hS
          try clear locs
          try clear H
          intro r_4 u_5 H locs hw_r_4 hP hD hS
          refine W.widen (k := 0) (n := 0) (Nat.le_of_ble_eq_true rfl) (Nat.le_of_ble_eq_true rfl) ?_
          replace hP : va_P D vwCl [(hgr, .inr (3, [.int (nI en), .ref gs, .ref g1r, .ref g2r, .ref gan, .ref gpr, .ref gde, .ref gme])), (gan, .inl (cs 0, 16, .inl gaf)), (gpr, .inl (cs 0, 16, .inl gpf))] H := hP
          replace hD : va_D A [(hgr, .inr (3, [.int (nI en), .ref gs, .ref g1r, .ref g2r, .ref gan, .ref gpr, .ref gde, .ref gme])), (gan, .inl (cs 0, 16, .inl gaf)), (gpr, .inl (cs 0, 16, .inl gpf))] := hD
          refine lv_iadd hx hb dX3_widestOf_58 ?_
          refine lv_istore (lv' := [(6, .int ((nI 1) + r_4)), (5, .int ((x &&& (((nI 1) <<< ((nI e9) &&& 31)) ^^^ (-1))) &&& (((gaf e9) ||| (gpf e9)) ^^^ (-1)))), (4, .int (x &&& (((nI 1) <<< ((nI e9) &&& 31)) ^^^ (-1)))), (3, .int (nI e9)), (0, .ref hgr), (1, .int x), (2, .int (nI fr))]) hx hb dX3_widestOf_59 hl (by decide) rfl ?_
          clear hl
          try clear ls
          intro ls hl
          refine lv_iload hx hb dX3_widestOf_61 (lv_at hl 1 rfl) ?_
          refine lv_iload hx hb dX3_widestOf_63 (lv_at hl 2 rfl) ?_
          refine lv_icmp_ne (tgt := 73) hx hb dX3_widestOf_65 (by decide) (fun c_6 => ?_) (fun c_6 => ?_)
          · -- 65 t
            refine lv_iload hx hb dX3_widestOf_73 (lv_at hl 0 rfl) ?_
            refine lv_aload_n hx hb dX3_widestOf_75 rfl (lv_at hl 4 rfl) ?_
            refine lv_iload hx hb dX3_widestOf_76 (lv_at hl 2 rfl) ?_
            refine lv_iload_n hx hb dX3_widestOf_78 rfl (lv_at hl 3 rfl) ?_
            refine lv_iconst (v := nI 1) hx hb dX3_widestOf_79 (by decide) ?_
            refine lv_iadd hx hb dX3_widestOf_80 ?_
            refine lv_topi (nm_r (e' := nI (e9 + 1)) (nI_add _ _) ?_)
            refine xi (wr := []) (xS (As := [.ref hgr, .int (x &&& (((nI 1) <<< ((nI e9) &&& 31)) ^^^ (-1))), .int (nI (e9 + 1))]) (rest := [.int ((nI 1) + r_4)]) C (c_X3_widestOf_10 l D cs hgr en gs g1r g2r gan gpr gde gme gaf gpf (x &&& (((nI 1) <<< ((nI e9) &&& 31)) ^^^ (-1))) (e9 + 1) hen (by omega) (by omega)) kX3_60 hP hD [0, 1, 2] rfl (by decide) ⟨Nat.le_of_ble_eq_true rfl, Nat.le_of_ble_eq_true rfl⟩ rfl hl.1 rfl (Nat.le_of_ble_eq_true rfl) dX3_widestOf_81 ⟨Nat.le_of_ble_eq_true rfl, Nat.le_of_ble_eq_true rfl⟩) hP hD hS hA [0, 1, 2] [] rfl rfl (by decide) (by decide) ?_
            clear hP hD hS
            try clear locs
            try clear H
            intro r_7 u_8 H locs hw_r_7 hP hD hS
            refine W.widen (k := 0) (n := 0) (Nat.le_of_ble_eq_true rfl) (Nat.le_of_ble_eq_true rfl) ?_
            replace hP : va_P D vwCl [(hgr, .inr (3, [.int (nI en), .ref gs, .ref g1r, .ref g2r, .ref gan, .ref gpr, .ref gde, .ref gme])), (gan, .inl (cs 0, 16, .inl gaf)), (gpr, .inl (cs 0, 16, .inl gpf))] H := hP
            replace hD : va_D A [(hgr, .inr (3, [.int (nI en), .ref gs, .ref g1r, .ref g2r, .ref gan, .ref gpr, .ref gde, .ref gme])), (gan, .inl (cs 0, 16, .inl gaf)), (gpr, .inl (cs 0, 16, .inl gpf))] := hD
            refine va_mmax hx hb (C.2.2.1.trans hl.1.symm) hown (hz _ zw4_201) (hz _ zw4_202) (hz _ zw1_3) (hz _ zw4_203) (Nat.le_of_ble_eq_true rfl) (Nat.le_of_ble_eq_true rfl) (Nat.le_of_ble_eq_true rfl) (Nat.le_of_ble_eq_true rfl) dX3_widestOf_84 ?_
            exact xreti C () trivial hP hD hS (Nat.le_of_ble_eq_true rfl) (Nat.le_of_ble_eq_true rfl) rfl dX3_widestOf_87
          · -- 65 f
            refine lv_iload hx hb dX3_widestOf_68 (lv_at hl 0 rfl) ?_
            refine lv_goto (tgt := 87) hx hb dX3_widestOf_70 (by decide) ?_
            exact xreti C () trivial hP hD hS (Nat.le_of_ble_eq_true rfl) (Nat.le_of_ble_eq_true rfl) rfl dX3_widestOf_87
  exact loop_1 _ fr (by omega) (Nat.le_refl _) (Nat.lt_succ_self _) H locs ls hP hD hS (lv_sub hl [0, 1, 2, 3] rfl)

set_option maxHeartbeats 4000000 in
set_option maxRecDepth 100000 in
theorem c_X3_widestOf_12 (l : Launch) (D : va_G) (cs : Nat → ClassId) (hgr en gs g1r g2r gan gpr gde gme : Nat) (gaf gpf : Nat → Int32) (x : Int32) (fr : Nat) (hen : en ≤ 16) (hfr : fr ≤ 17) (hd : en ≤ fr + 12) : xMet l D cs yX3_widestOf cX3_widestOf 7 (some .int) ({ frames := 12, cells := 0, slots := 0, locals := 312 } : Room) [.ref hgr, .int x, .int (nI fr)] [(hgr, .inr (3, [.int (nI en), .ref gs, .ref g1r, .ref g2r, .ref gan, .ref gpr, .ref gde, .ref gme])), (gan, .inl (cs 0, 16, .inl gaf)), (gpr, .inl (cs 0, 16, .inl gpf))] (xQi D (fun (r : Int32) (_u : Unit) => True) (fun (_u : Unit) => [(hgr, .inr (3, [.int (nI en), .ref gs, .ref g1r, .ref g2r, .ref gan, .ref gpr, .ref gde, .ref gme])), (gan, .inl (cs 0, 16, .inl gaf)), (gpr, .inl (cs 0, 16, .inl gpf))])) := by
  refine xMet.intro (by decide) (Nat.le_of_ble_eq_true rfl) ?_
  intro p e s m args below meth c A ls C hP hD hS hl
  have hx := C.1
  have hb := C.2.1
  have hz := C.2.2.2.2.1
  have hown := C.2.2.2.1
  have hA := C.2.2.2.2.2.2.2.2.2
  have hAO := C.2.2.2.2.2.2.2.2.1.2.2
  replace hl : lv_has ls 7 [(0, .ref hgr), (1, .int x), (2, .int (nI fr))] := hl
  obtain ⟨H, hH⟩ : ∃ H, H = s.heap := ⟨_, rfl⟩
  replace hP : va_P D vwCl [(hgr, .inr (3, [.int (nI en), .ref gs, .ref g1r, .ref g2r, .ref gan, .ref gpr, .ref gde, .ref gme])), (gan, .inl (cs 0, 16, .inl gaf)), (gpr, .inl (cs 0, 16, .inl gpf))] H := by rw [hH]; exact hP
  replace hS : va_S A s.heap H [] := by rw [hH]; exact hS
  obtain ⟨locs, hlocs⟩ : ∃ z : List Loc, z = [] := ⟨_, rfl⟩
  rw [← hlocs] at hS
  suffices hW : W p l e ({ frames := 12, cells := 0, slots := 0, locals := 312 } : Room) s m args below meth c H locs 0 0 (MQ below ((xQi D (fun (r : Int32) (_u : Unit) => True) (fun (_u : Unit) => [(hgr, .inr (3, [.int (nI en), .ref gs, .ref g1r, .ref g2r, .ref gan, .ref gpr, .ref gde, .ref gme])), (gan, .inl (cs 0, 16, .inl gaf)), (gpr, .inl (cs 0, 16, .inl gpf))])) A) args s 0 0 A) (F0 m 0 ls []) by rw [hlocs, hH] at hW; exact hW
  clear hH hlocs
  refine lv_iload_n hx hb dX3_widestOf_0 rfl (lv_at hl 2 rfl) ?_
  refine lv_istore_n (lv' := [(3, .int (nI fr)), (0, .ref hgr), (1, .int x), (2, .int (nI fr))]) hx hb dX3_widestOf_1 rfl hl (by decide) rfl ?_
  clear hl
  try clear ls
  intro ls hl
  have loop_1 : ∀ (n_loop_1 : Nat) (e9 : Nat), (e9 ≤ 17) → (fr ≤ e9) → 17 - e9 < n_loop_1 → ∀ (H : Heap) (locs : List Loc) (ls : Array Slot), va_P D vwCl [(hgr, .inr (3, [.int (nI en), .ref gs, .ref g1r, .ref g2r, .ref gan, .ref gpr, .ref gde, .ref gme])), (gan, .inl (cs 0, 16, .inl gaf)), (gpr, .inl (cs 0, 16, .inl gpf))] H → va_D A [(hgr, .inr (3, [.int (nI en), .ref gs, .ref g1r, .ref g2r, .ref gan, .ref gpr, .ref gde, .ref gme])), (gan, .inl (cs 0, 16, .inl gaf)), (gpr, .inl (cs 0, 16, .inl gpf))] → va_S A s.heap H locs → lv_has ls 7 [(3, .int (nI e9)), (0, .ref hgr), (1, .int x), (2, .int (nI fr))] → W p l e ({ frames := 12, cells := 0, slots := 0, locals := 312 } : Room) s m args below meth c H locs 0 0 (MQ below ((xQi D (fun (r : Int32) (_u : Unit) => True) (fun (_u : Unit) => [(hgr, .inr (3, [.int (nI en), .ref gs, .ref g1r, .ref g2r, .ref gan, .ref gpr, .ref gde, .ref gme])), (gan, .inl (cs 0, 16, .inl gaf)), (gpr, .inl (cs 0, 16, .inl gpf))])) A) args s 0 0 A) (F0 m 2 ls []) := by
    intro n_loop_1
    induction n_loop_1 with
    | zero => intro e9 h_e9 hfe hlt H locs ls hP hD hS hl; exact absurd hlt (Nat.not_lt_zero _)
    | succ n_loop_1 ih_loop_1 =>
      intro e9 h_e9 hfe hlt_loop_1 H locs ls hP hD hS hl
      refine lv_iload_n hx hb dX3_widestOf_2 rfl (lv_at hl 0 rfl) ?_
      refine lv_aload_n hx hb dX3_widestOf_3 rfl (lv_at hl 1 rfl) ?_
      refine xget C hP 0 rfl rfl zuX3 0 (by decide) zw1_195 rfl dX3_widestOf_4 ?_
      refine lv_icmp_ge (tgt := 94) hx hb dX3_widestOf_7 (by decide) (fun c_2 => ?_) (fun c_2 => ?_)
      · -- 7 t
        have fc_2 : en ≤ e9 := nf_le (by omega) (by omega) c_2
        refine lv_iconst (v := nI 0) hx hb dX3_widestOf_94 (by decide) ?_
        exact xreti C () trivial hP hD hS (Nat.le_of_ble_eq_true rfl) (Nat.le_of_ble_eq_true rfl) rfl dX3_widestOf_95
      · -- 7 f
        have fc_2 : e9 < en := nf_nle (by omega) (by omega) c_2
        refine lv_iload_n hx hb dX3_widestOf_10 rfl (lv_at hl 2 rfl) ?_
        refine lv_iload_n hx hb dX3_widestOf_11 rfl (lv_at hl 0 rfl) ?_
        refine lv_ishr hx hb dX3_widestOf_12 ?_
        refine lv_iconst (v := nI 1) hx hb dX3_widestOf_13 (by decide) ?_
        refine lv_iand hx hb dX3_widestOf_14 ?_
        refine lv_iconst (v := nI 1) hx hb dX3_widestOf_15 (by decide) ?_
        refine lv_icmp_ne (tgt := 88) hx hb dX3_widestOf_16 (by decide) (fun c_3 => ?_) (fun c_3 => ?_)
        · -- 16 t
          refine lv_iinc (v := nI (e9 + 1)) (lv' := [(3, .int (nI (e9 + 1))), (0, .ref hgr), (1, .int x), (2, .int (nI fr))]) hx hb dX3_widestOf_88 hl (k := 0) rfl (nI_add e9 1) (by decide) rfl ?_
          clear hl
          try clear ls
          intro ls hl
          refine lv_goto (tgt := 2) hx hb dX3_widestOf_91 (by decide) ?_
          exact ih_loop_1 (e9 + 1) (by omega) (by omega) (by omega) H locs ls hP hD hS (lv_sub hl [0, 1, 2, 3] rfl)
        · -- 16 f
          refine lv_iload_n hx hb dX3_widestOf_19 rfl (lv_at hl 2 rfl) ?_
          refine lv_iconst (v := nI 1) hx hb dX3_widestOf_20 (by decide) ?_
          refine lv_iload_n hx hb dX3_widestOf_21 rfl (lv_at hl 0 rfl) ?_
          refine lv_ishl hx hb dX3_widestOf_22 ?_
          refine lv_iconst (v := (-1)) hx hb dX3_widestOf_23 (by decide) ?_
          refine lv_ixor hx hb dX3_widestOf_24 ?_
          refine lv_iand hx hb dX3_widestOf_25 ?_
          refine lv_istore (lv' := [(4, .int (x &&& (((nI 1) <<< ((nI e9) &&& 31)) ^^^ (-1)))), (3, .int (nI e9)), (0, .ref hgr), (1, .int x), (2, .int (nI fr))]) hx hb dX3_widestOf_26 hl (by decide) rfl ?_
          clear hl
          try clear ls
          intro ls hl
          refine lv_iload hx hb dX3_widestOf_28 (lv_at hl 0 rfl) ?_
          refine lv_aload_n hx hb dX3_widestOf_30 rfl (lv_at hl 2 rfl) ?_
          refine xget C hP 0 rfl rfl zuX3 4 (by decide) zw1_205 rfl dX3_widestOf_31 ?_
          refine lv_iload_n hx hb dX3_widestOf_34 rfl (lv_at hl 1 rfl) ?_
          refine xiald C hP 1 rfl e9 rfl (by omega) (by decide) dX3_widestOf_35 ?_
          refine lv_aload_n hx hb dX3_widestOf_36 rfl (lv_at hl 2 rfl) ?_
          refine xget C hP 0 rfl rfl zuX3 5 (by decide) zw1_207 rfl dX3_widestOf_37 ?_
          refine lv_iload_n hx hb dX3_widestOf_40 rfl (lv_at hl 1 rfl) ?_
          refine xiald C hP 2 rfl e9 rfl (by omega) (by decide) dX3_widestOf_41 ?_
          refine lv_ior hx hb dX3_widestOf_42 ?_
          refine lv_iconst (v := (-1)) hx hb dX3_widestOf_43 (by decide) ?_
          refine lv_ixor hx hb dX3_widestOf_44 ?_
          refine lv_iand hx hb dX3_widestOf_45 ?_
          refine lv_istore (lv' := [(5, .int ((x &&& (((nI 1) <<< ((nI e9) &&& 31)) ^^^ (-1))) &&& (((gaf e9) ||| (gpf e9)) ^^^ (-1)))), (4, .int (x &&& (((nI 1) <<< ((nI e9) &&& 31)) ^^^ (-1)))), (3, .int (nI e9)), (0, .ref hgr), (1, .int x), (2, .int (nI fr))]) hx hb dX3_widestOf_46 hl (by decide) rfl ?_
          clear hl
          try clear ls
          intro ls hl
          refine lv_iconst (v := nI 1) hx hb dX3_widestOf_48 (by decide) ?_
          refine lv_aload_n hx hb dX3_widestOf_49 rfl (lv_at hl 3 rfl) ?_
          refine lv_iload hx hb dX3_widestOf_50 (lv_at hl 0 rfl) ?_
          refine lv_iload_n hx hb dX3_widestOf_52 rfl (lv_at hl 2 rfl) ?_
          refine lv_iconst (v := nI 1) hx hb dX3_widestOf_53 (by decide) ?_
          refine lv_iadd hx hb dX3_widestOf_54 ?_
          refine lv_topi (nm_r (e' := nI (e9 + 1)) (nI_add _ _) ?_)
          refine xi (wr := []) (xS (As := [.ref hgr, .int ((x &&& (((nI 1) <<< ((nI e9) &&& 31)) ^^^ (-1))) &&& (((gaf e9) ||| (gpf e9)) ^^^ (-1))), .int (nI (e9 + 1))]) (rest := [.int (nI 1)]) C (c_X3_widestOf_11 l D cs hgr en gs g1r g2r gan gpr gde gme gaf gpf ((x &&& (((nI 1) <<< ((nI e9) &&& 31)) ^^^ (-1))) &&& (((gaf e9) ||| (gpf e9)) ^^^ (-1))) (e9 + 1) hen (by omega) (by omega)) kX3_60 hP hD [0, 1, 2] rfl (by decide) ⟨Nat.le_of_ble_eq_true rfl, Nat.le_of_ble_eq_true rfl⟩ rfl hl.1 rfl (Nat.le_of_ble_eq_true rfl) dX3_widestOf_55 ⟨Nat.le_of_ble_eq_true rfl, Nat.le_of_ble_eq_true rfl⟩) hP hD hS hA [0, 1, 2] [] rfl rfl (by decide) (by decide) ?_
          clear hP hD hS
          try clear locs
          try clear H
          intro r_4 u_5 H locs hw_r_4 hP hD hS
          refine W.widen (k := 0) (n := 0) (Nat.le_of_ble_eq_true rfl) (Nat.le_of_ble_eq_true rfl) ?_
          replace hP : va_P D vwCl [(hgr, .inr (3, [.int (nI en), .ref gs, .ref g1r, .ref g2r, .ref gan, .ref gpr, .ref gde, .ref gme])), (gan, .inl (cs 0, 16, .inl gaf)), (gpr, .inl (cs 0, 16, .inl gpf))] H := hP
          replace hD : va_D A [(hgr, .inr (3, [.int (nI en), .ref gs, .ref g1r, .ref g2r, .ref gan, .ref gpr, .ref gde, .ref gme])), (gan, .inl (cs 0, 16, .inl gaf)), (gpr, .inl (cs 0, 16, .inl gpf))] := hD
          refine lv_iadd hx hb dX3_widestOf_58 ?_
          refine lv_istore (lv' := [(6, .int ((nI 1) + r_4)), (5, .int ((x &&& (((nI 1) <<< ((nI e9) &&& 31)) ^^^ (-1))) &&& (((gaf e9) ||| (gpf e9)) ^^^ (-1)))), (4, .int (x &&& (((nI 1) <<< ((nI e9) &&& 31)) ^^^ (-1)))), (3, .int (nI e9)), (0, .ref hgr), (1, .int x), (2, .int (nI fr))]) hx hb dX3_widestOf_59 hl (by decide) rfl ?_
          clear hl
          try clear ls
          intro ls hl
          refine lv_iload hx hb dX3_widestOf_61 (lv_at hl 1 rfl) ?_
          refine lv_iload hx hb dX3_widestOf_63 (lv_at hl 2 rfl) ?_
          refine lv_icmp_ne (tgt := 73) hx hb dX3_widestOf_65 (by decide) (fun c_6 => ?_) (fun c_6 => ?_)
          · -- 65 t
            refine lv_iload hx hb dX3_widestOf_73 (lv_at hl 0 rfl) ?_
            refine lv_aload_n hx hb dX3_widestOf_75 rfl (lv_at hl 4 rfl) ?_
            refine lv_iload hx hb dX3_widestOf_76 (lv_at hl 2 rfl) ?_
            refine lv_iload_n hx hb dX3_widestOf_78 rfl (lv_at hl 3 rfl) ?_
            refine lv_iconst (v := nI 1) hx hb dX3_widestOf_79 (by decide) ?_
            refine lv_iadd hx hb dX3_widestOf_80 ?_
            refine lv_topi (nm_r (e' := nI (e9 + 1)) (nI_add _ _) ?_)
            refine xi (wr := []) (xS (As := [.ref hgr, .int (x &&& (((nI 1) <<< ((nI e9) &&& 31)) ^^^ (-1))), .int (nI (e9 + 1))]) (rest := [.int ((nI 1) + r_4)]) C (c_X3_widestOf_11 l D cs hgr en gs g1r g2r gan gpr gde gme gaf gpf (x &&& (((nI 1) <<< ((nI e9) &&& 31)) ^^^ (-1))) (e9 + 1) hen (by omega) (by omega)) kX3_60 hP hD [0, 1, 2] rfl (by decide) ⟨Nat.le_of_ble_eq_true rfl, Nat.le_of_ble_eq_true rfl⟩ rfl hl.1 rfl (Nat.le_of_ble_eq_true rfl) dX3_widestOf_81 ⟨Nat.le_of_ble_eq_true rfl, Nat.le_of_ble_eq_true rfl⟩) hP hD hS hA [0, 1, 2] [] rfl rfl (by decide) (by decide) ?_
            clear hP hD hS
            try clear locs
            try clear H
            intro r_7 u_8 H locs hw_r_7 hP hD hS
            refine W.widen (k := 0) (n := 0) (Nat.le_of_ble_eq_true rfl) (Nat.le_of_ble_eq_true rfl) ?_
            replace hP : va_P D vwCl [(hgr, .inr (3, [.int (nI en), .ref gs, .ref g1r, .ref g2r, .ref gan, .ref gpr, .ref gde, .ref gme])), (gan, .inl (cs 0, 16, .inl gaf)), (gpr, .inl (cs 0, 16, .inl gpf))] H := hP
            replace hD : va_D A [(hgr, .inr (3, [.int (nI en), .ref gs, .ref g1r, .ref g2r, .ref gan, .ref gpr, .ref gde, .ref gme])), (gan, .inl (cs 0, 16, .inl gaf)), (gpr, .inl (cs 0, 16, .inl gpf))] := hD
            refine va_mmax hx hb (C.2.2.1.trans hl.1.symm) hown (hz _ zw4_201) (hz _ zw4_202) (hz _ zw1_3) (hz _ zw4_203) (Nat.le_of_ble_eq_true rfl) (Nat.le_of_ble_eq_true rfl) (Nat.le_of_ble_eq_true rfl) (Nat.le_of_ble_eq_true rfl) dX3_widestOf_84 ?_
            exact xreti C () trivial hP hD hS (Nat.le_of_ble_eq_true rfl) (Nat.le_of_ble_eq_true rfl) rfl dX3_widestOf_87
          · -- 65 f
            refine lv_iload hx hb dX3_widestOf_68 (lv_at hl 0 rfl) ?_
            refine lv_goto (tgt := 87) hx hb dX3_widestOf_70 (by decide) ?_
            exact xreti C () trivial hP hD hS (Nat.le_of_ble_eq_true rfl) (Nat.le_of_ble_eq_true rfl) rfl dX3_widestOf_87
  exact loop_1 _ fr (by omega) (Nat.le_refl _) (Nat.lt_succ_self _) H locs ls hP hD hS (lv_sub hl [0, 1, 2, 3] rfl)

set_option maxHeartbeats 4000000 in
set_option maxRecDepth 100000 in
theorem c_X3_widestOf_13 (l : Launch) (D : va_G) (cs : Nat → ClassId) (hgr en gs g1r g2r gan gpr gde gme : Nat) (gaf gpf : Nat → Int32) (x : Int32) (fr : Nat) (hen : en ≤ 16) (hfr : fr ≤ 17) (hd : en ≤ fr + 13) : xMet l D cs yX3_widestOf cX3_widestOf 7 (some .int) ({ frames := 13, cells := 0, slots := 0, locals := 338 } : Room) [.ref hgr, .int x, .int (nI fr)] [(hgr, .inr (3, [.int (nI en), .ref gs, .ref g1r, .ref g2r, .ref gan, .ref gpr, .ref gde, .ref gme])), (gan, .inl (cs 0, 16, .inl gaf)), (gpr, .inl (cs 0, 16, .inl gpf))] (xQi D (fun (r : Int32) (_u : Unit) => True) (fun (_u : Unit) => [(hgr, .inr (3, [.int (nI en), .ref gs, .ref g1r, .ref g2r, .ref gan, .ref gpr, .ref gde, .ref gme])), (gan, .inl (cs 0, 16, .inl gaf)), (gpr, .inl (cs 0, 16, .inl gpf))])) := by
  refine xMet.intro (by decide) (Nat.le_of_ble_eq_true rfl) ?_
  intro p e s m args below meth c A ls C hP hD hS hl
  have hx := C.1
  have hb := C.2.1
  have hz := C.2.2.2.2.1
  have hown := C.2.2.2.1
  have hA := C.2.2.2.2.2.2.2.2.2
  have hAO := C.2.2.2.2.2.2.2.2.1.2.2
  replace hl : lv_has ls 7 [(0, .ref hgr), (1, .int x), (2, .int (nI fr))] := hl
  obtain ⟨H, hH⟩ : ∃ H, H = s.heap := ⟨_, rfl⟩
  replace hP : va_P D vwCl [(hgr, .inr (3, [.int (nI en), .ref gs, .ref g1r, .ref g2r, .ref gan, .ref gpr, .ref gde, .ref gme])), (gan, .inl (cs 0, 16, .inl gaf)), (gpr, .inl (cs 0, 16, .inl gpf))] H := by rw [hH]; exact hP
  replace hS : va_S A s.heap H [] := by rw [hH]; exact hS
  obtain ⟨locs, hlocs⟩ : ∃ z : List Loc, z = [] := ⟨_, rfl⟩
  rw [← hlocs] at hS
  suffices hW : W p l e ({ frames := 13, cells := 0, slots := 0, locals := 338 } : Room) s m args below meth c H locs 0 0 (MQ below ((xQi D (fun (r : Int32) (_u : Unit) => True) (fun (_u : Unit) => [(hgr, .inr (3, [.int (nI en), .ref gs, .ref g1r, .ref g2r, .ref gan, .ref gpr, .ref gde, .ref gme])), (gan, .inl (cs 0, 16, .inl gaf)), (gpr, .inl (cs 0, 16, .inl gpf))])) A) args s 0 0 A) (F0 m 0 ls []) by rw [hlocs, hH] at hW; exact hW
  clear hH hlocs
  refine lv_iload_n hx hb dX3_widestOf_0 rfl (lv_at hl 2 rfl) ?_
  refine lv_istore_n (lv' := [(3, .int (nI fr)), (0, .ref hgr), (1, .int x), (2, .int (nI fr))]) hx hb dX3_widestOf_1 rfl hl (by decide) rfl ?_
  clear hl
  try clear ls
  intro ls hl
  have loop_1 : ∀ (n_loop_1 : Nat) (e9 : Nat), (e9 ≤ 17) → (fr ≤ e9) → 17 - e9 < n_loop_1 → ∀ (H : Heap) (locs : List Loc) (ls : Array Slot), va_P D vwCl [(hgr, .inr (3, [.int (nI en), .ref gs, .ref g1r, .ref g2r, .ref gan, .ref gpr, .ref gde, .ref gme])), (gan, .inl (cs 0, 16, .inl gaf)), (gpr, .inl (cs 0, 16, .inl gpf))] H → va_D A [(hgr, .inr (3, [.int (nI en), .ref gs, .ref g1r, .ref g2r, .ref gan, .ref gpr, .ref gde, .ref gme])), (gan, .inl (cs 0, 16, .inl gaf)), (gpr, .inl (cs 0, 16, .inl gpf))] → va_S A s.heap H locs → lv_has ls 7 [(3, .int (nI e9)), (0, .ref hgr), (1, .int x), (2, .int (nI fr))] → W p l e ({ frames := 13, cells := 0, slots := 0, locals := 338 } : Room) s m args below meth c H locs 0 0 (MQ below ((xQi D (fun (r : Int32) (_u : Unit) => True) (fun (_u : Unit) => [(hgr, .inr (3, [.int (nI en), .ref gs, .ref g1r, .ref g2r, .ref gan, .ref gpr, .ref gde, .ref gme])), (gan, .inl (cs 0, 16, .inl gaf)), (gpr, .inl (cs 0, 16, .inl gpf))])) A) args s 0 0 A) (F0 m 2 ls []) := by
    intro n_loop_1
    induction n_loop_1 with
    | zero => intro e9 h_e9 hfe hlt H locs ls hP hD hS hl; exact absurd hlt (Nat.not_lt_zero _)
    | succ n_loop_1 ih_loop_1 =>
      intro e9 h_e9 hfe hlt_loop_1 H locs ls hP hD hS hl
      refine lv_iload_n hx hb dX3_widestOf_2 rfl (lv_at hl 0 rfl) ?_
      refine lv_aload_n hx hb dX3_widestOf_3 rfl (lv_at hl 1 rfl) ?_
      refine xget C hP 0 rfl rfl zuX3 0 (by decide) zw1_195 rfl dX3_widestOf_4 ?_
      refine lv_icmp_ge (tgt := 94) hx hb dX3_widestOf_7 (by decide) (fun c_2 => ?_) (fun c_2 => ?_)
      · -- 7 t
        have fc_2 : en ≤ e9 := nf_le (by omega) (by omega) c_2
        refine lv_iconst (v := nI 0) hx hb dX3_widestOf_94 (by decide) ?_
        exact xreti C () trivial hP hD hS (Nat.le_of_ble_eq_true rfl) (Nat.le_of_ble_eq_true rfl) rfl dX3_widestOf_95
      · -- 7 f
        have fc_2 : e9 < en := nf_nle (by omega) (by omega) c_2
        refine lv_iload_n hx hb dX3_widestOf_10 rfl (lv_at hl 2 rfl) ?_
        refine lv_iload_n hx hb dX3_widestOf_11 rfl (lv_at hl 0 rfl) ?_
        refine lv_ishr hx hb dX3_widestOf_12 ?_
        refine lv_iconst (v := nI 1) hx hb dX3_widestOf_13 (by decide) ?_
        refine lv_iand hx hb dX3_widestOf_14 ?_
        refine lv_iconst (v := nI 1) hx hb dX3_widestOf_15 (by decide) ?_
        refine lv_icmp_ne (tgt := 88) hx hb dX3_widestOf_16 (by decide) (fun c_3 => ?_) (fun c_3 => ?_)
        · -- 16 t
          refine lv_iinc (v := nI (e9 + 1)) (lv' := [(3, .int (nI (e9 + 1))), (0, .ref hgr), (1, .int x), (2, .int (nI fr))]) hx hb dX3_widestOf_88 hl (k := 0) rfl (nI_add e9 1) (by decide) rfl ?_
          clear hl
          try clear ls
          intro ls hl
          refine lv_goto (tgt := 2) hx hb dX3_widestOf_91 (by decide) ?_
          exact ih_loop_1 (e9 + 1) (by omega) (by omega) (by omega) H locs ls hP hD hS (lv_sub hl [0, 1, 2, 3] rfl)
        · -- 16 f
          refine lv_iload_n hx hb dX3_widestOf_19 rfl (lv_at hl 2 rfl) ?_
          refine lv_iconst (v := nI 1) hx hb dX3_widestOf_20 (by decide) ?_
          refine lv_iload_n hx hb dX3_widestOf_21 rfl (lv_at hl 0 rfl) ?_
          refine lv_ishl hx hb dX3_widestOf_22 ?_
          refine lv_iconst (v := (-1)) hx hb dX3_widestOf_23 (by decide) ?_
          refine lv_ixor hx hb dX3_widestOf_24 ?_
          refine lv_iand hx hb dX3_widestOf_25 ?_
          refine lv_istore (lv' := [(4, .int (x &&& (((nI 1) <<< ((nI e9) &&& 31)) ^^^ (-1)))), (3, .int (nI e9)), (0, .ref hgr), (1, .int x), (2, .int (nI fr))]) hx hb dX3_widestOf_26 hl (by decide) rfl ?_
          clear hl
          try clear ls
          intro ls hl
          refine lv_iload hx hb dX3_widestOf_28 (lv_at hl 0 rfl) ?_
          refine lv_aload_n hx hb dX3_widestOf_30 rfl (lv_at hl 2 rfl) ?_
          refine xget C hP 0 rfl rfl zuX3 4 (by decide) zw1_205 rfl dX3_widestOf_31 ?_
          refine lv_iload_n hx hb dX3_widestOf_34 rfl (lv_at hl 1 rfl) ?_
          refine xiald C hP 1 rfl e9 rfl (by omega) (by decide) dX3_widestOf_35 ?_
          refine lv_aload_n hx hb dX3_widestOf_36 rfl (lv_at hl 2 rfl) ?_
          refine xget C hP 0 rfl rfl zuX3 5 (by decide) zw1_207 rfl dX3_widestOf_37 ?_
          refine lv_iload_n hx hb dX3_widestOf_40 rfl (lv_at hl 1 rfl) ?_
          refine xiald C hP 2 rfl e9 rfl (by omega) (by decide) dX3_widestOf_41 ?_
          refine lv_ior hx hb dX3_widestOf_42 ?_
          refine lv_iconst (v := (-1)) hx hb dX3_widestOf_43 (by decide) ?_
          refine lv_ixor hx hb dX3_widestOf_44 ?_
          refine lv_iand hx hb dX3_widestOf_45 ?_
          refine lv_istore (lv' := [(5, .int ((x &&& (((nI 1) <<< ((nI e9) &&& 31)) ^^^ (-1))) &&& (((gaf e9) ||| (gpf e9)) ^^^ (-1)))), (4, .int (x &&& (((nI 1) <<< ((nI e9) &&& 31)) ^^^ (-1)))), (3, .int (nI e9)), (0, .ref hgr), (1, .int x), (2, .int (nI fr))]) hx hb dX3_widestOf_46 hl (by decide) rfl ?_
          clear hl
          try clear ls
          intro ls hl
          refine lv_iconst (v := nI 1) hx hb dX3_widestOf_48 (by decide) ?_
          refine lv_aload_n hx hb dX3_widestOf_49 rfl (lv_at hl 3 rfl) ?_
          refine lv_iload hx hb dX3_widestOf_50 (lv_at hl 0 rfl) ?_
          refine lv_iload_n hx hb dX3_widestOf_52 rfl (lv_at hl 2 rfl) ?_
          refine lv_iconst (v := nI 1) hx hb dX3_widestOf_53 (by decide) ?_
          refine lv_iadd hx hb dX3_widestOf_54 ?_
          refine lv_topi (nm_r (e' := nI (e9 + 1)) (nI_add _ _) ?_)
          refine xi (wr := []) (xS (As := [.ref hgr, .int ((x &&& (((nI 1) <<< ((nI e9) &&& 31)) ^^^ (-1))) &&& (((gaf e9) ||| (gpf e9)) ^^^ (-1))), .int (nI (e9 + 1))]) (rest := [.int (nI 1)]) C (c_X3_widestOf_12 l D cs hgr en gs g1r g2r gan gpr gde gme gaf gpf ((x &&& (((nI 1) <<< ((nI e9) &&& 31)) ^^^ (-1))) &&& (((gaf e9) ||| (gpf e9)) ^^^ (-1))) (e9 + 1) hen (by omega) (by omega)) kX3_60 hP hD [0, 1, 2] rfl (by decide) ⟨Nat.le_of_ble_eq_true rfl, Nat.le_of_ble_eq_true rfl⟩ rfl hl.1 rfl (Nat.le_of_ble_eq_true rfl) dX3_widestOf_55 ⟨Nat.le_of_ble_eq_true rfl, Nat.le_of_ble_eq_true rfl⟩) hP hD hS hA [0, 1, 2] [] rfl rfl (by decide) (by decide) ?_
          clear hP hD hS
          try clear locs
          try clear H
          intro r_4 u_5 H locs hw_r_4 hP hD hS
          refine W.widen (k := 0) (n := 0) (Nat.le_of_ble_eq_true rfl) (Nat.le_of_ble_eq_true rfl) ?_
          replace hP : va_P D vwCl [(hgr, .inr (3, [.int (nI en), .ref gs, .ref g1r, .ref g2r, .ref gan, .ref gpr, .ref gde, .ref gme])), (gan, .inl (cs 0, 16, .inl gaf)), (gpr, .inl (cs 0, 16, .inl gpf))] H := hP
          replace hD : va_D A [(hgr, .inr (3, [.int (nI en), .ref gs, .ref g1r, .ref g2r, .ref gan, .ref gpr, .ref gde, .ref gme])), (gan, .inl (cs 0, 16, .inl gaf)), (gpr, .inl (cs 0, 16, .inl gpf))] := hD
          refine lv_iadd hx hb dX3_widestOf_58 ?_
          refine lv_istore (lv' := [(6, .int ((nI 1) + r_4)), (5, .int ((x &&& (((nI 1) <<< ((nI e9) &&& 31)) ^^^ (-1))) &&& (((gaf e9) ||| (gpf e9)) ^^^ (-1)))), (4, .int (x &&& (((nI 1) <<< ((nI e9) &&& 31)) ^^^ (-1)))), (3, .int (nI e9)), (0, .ref hgr), (1, .int x), (2, .int (nI fr))]) hx hb dX3_widestOf_59 hl (by decide) rfl ?_
          clear hl
          try clear ls
          intro ls hl
          refine lv_iload hx hb dX3_widestOf_61 (lv_at hl 1 rfl) ?_
          refine lv_iload hx hb dX3_widestOf_63 (lv_at hl 2 rfl) ?_
          refine lv_icmp_ne (tgt := 73) hx hb dX3_widestOf_65 (by decide) (fun c_6 => ?_) (fun c_6 => ?_)
          · -- 65 t
            refine lv_iload hx hb dX3_widestOf_73 (lv_at hl 0 rfl) ?_
            refine lv_aload_n hx hb dX3_widestOf_75 rfl (lv_at hl 4 rfl) ?_
            refine lv_iload hx hb dX3_widestOf_76 (lv_at hl 2 rfl) ?_
            refine lv_iload_n hx hb dX3_widestOf_78 rfl (lv_at hl 3 rfl) ?_
            refine lv_iconst (v := nI 1) hx hb dX3_widestOf_79 (by decide) ?_
            refine lv_iadd hx hb dX3_widestOf_80 ?_
            refine lv_topi (nm_r (e' := nI (e9 + 1)) (nI_add _ _) ?_)
            refine xi (wr := []) (xS (As := [.ref hgr, .int (x &&& (((nI 1) <<< ((nI e9) &&& 31)) ^^^ (-1))), .int (nI (e9 + 1))]) (rest := [.int ((nI 1) + r_4)]) C (c_X3_widestOf_12 l D cs hgr en gs g1r g2r gan gpr gde gme gaf gpf (x &&& (((nI 1) <<< ((nI e9) &&& 31)) ^^^ (-1))) (e9 + 1) hen (by omega) (by omega)) kX3_60 hP hD [0, 1, 2] rfl (by decide) ⟨Nat.le_of_ble_eq_true rfl, Nat.le_of_ble_eq_true rfl⟩ rfl hl.1 rfl (Nat.le_of_ble_eq_true rfl) dX3_widestOf_81 ⟨Nat.le_of_ble_eq_true rfl, Nat.le_of_ble_eq_true rfl⟩) hP hD hS hA [0, 1, 2] [] rfl rfl (by decide) (by decide) ?_
            clear hP hD hS
            try clear locs
            try clear H
            intro r_7 u_8 H locs hw_r_7 hP hD hS
            refine W.widen (k := 0) (n := 0) (Nat.le_of_ble_eq_true rfl) (Nat.le_of_ble_eq_true rfl) ?_
            replace hP : va_P D vwCl [(hgr, .inr (3, [.int (nI en), .ref gs, .ref g1r, .ref g2r, .ref gan, .ref gpr, .ref gde, .ref gme])), (gan, .inl (cs 0, 16, .inl gaf)), (gpr, .inl (cs 0, 16, .inl gpf))] H := hP
            replace hD : va_D A [(hgr, .inr (3, [.int (nI en), .ref gs, .ref g1r, .ref g2r, .ref gan, .ref gpr, .ref gde, .ref gme])), (gan, .inl (cs 0, 16, .inl gaf)), (gpr, .inl (cs 0, 16, .inl gpf))] := hD
            refine va_mmax hx hb (C.2.2.1.trans hl.1.symm) hown (hz _ zw4_201) (hz _ zw4_202) (hz _ zw1_3) (hz _ zw4_203) (Nat.le_of_ble_eq_true rfl) (Nat.le_of_ble_eq_true rfl) (Nat.le_of_ble_eq_true rfl) (Nat.le_of_ble_eq_true rfl) dX3_widestOf_84 ?_
            exact xreti C () trivial hP hD hS (Nat.le_of_ble_eq_true rfl) (Nat.le_of_ble_eq_true rfl) rfl dX3_widestOf_87
          · -- 65 f
            refine lv_iload hx hb dX3_widestOf_68 (lv_at hl 0 rfl) ?_
            refine lv_goto (tgt := 87) hx hb dX3_widestOf_70 (by decide) ?_
            exact xreti C () trivial hP hD hS (Nat.le_of_ble_eq_true rfl) (Nat.le_of_ble_eq_true rfl) rfl dX3_widestOf_87
  exact loop_1 _ fr (by omega) (Nat.le_refl _) (Nat.lt_succ_self _) H locs ls hP hD hS (lv_sub hl [0, 1, 2, 3] rfl)

set_option maxHeartbeats 4000000 in
set_option maxRecDepth 100000 in
theorem c_X3_widestOf_14 (l : Launch) (D : va_G) (cs : Nat → ClassId) (hgr en gs g1r g2r gan gpr gde gme : Nat) (gaf gpf : Nat → Int32) (x : Int32) (fr : Nat) (hen : en ≤ 16) (hfr : fr ≤ 17) (hd : en ≤ fr + 14) : xMet l D cs yX3_widestOf cX3_widestOf 7 (some .int) ({ frames := 14, cells := 0, slots := 0, locals := 364 } : Room) [.ref hgr, .int x, .int (nI fr)] [(hgr, .inr (3, [.int (nI en), .ref gs, .ref g1r, .ref g2r, .ref gan, .ref gpr, .ref gde, .ref gme])), (gan, .inl (cs 0, 16, .inl gaf)), (gpr, .inl (cs 0, 16, .inl gpf))] (xQi D (fun (r : Int32) (_u : Unit) => True) (fun (_u : Unit) => [(hgr, .inr (3, [.int (nI en), .ref gs, .ref g1r, .ref g2r, .ref gan, .ref gpr, .ref gde, .ref gme])), (gan, .inl (cs 0, 16, .inl gaf)), (gpr, .inl (cs 0, 16, .inl gpf))])) := by
  refine xMet.intro (by decide) (Nat.le_of_ble_eq_true rfl) ?_
  intro p e s m args below meth c A ls C hP hD hS hl
  have hx := C.1
  have hb := C.2.1
  have hz := C.2.2.2.2.1
  have hown := C.2.2.2.1
  have hA := C.2.2.2.2.2.2.2.2.2
  have hAO := C.2.2.2.2.2.2.2.2.1.2.2
  replace hl : lv_has ls 7 [(0, .ref hgr), (1, .int x), (2, .int (nI fr))] := hl
  obtain ⟨H, hH⟩ : ∃ H, H = s.heap := ⟨_, rfl⟩
  replace hP : va_P D vwCl [(hgr, .inr (3, [.int (nI en), .ref gs, .ref g1r, .ref g2r, .ref gan, .ref gpr, .ref gde, .ref gme])), (gan, .inl (cs 0, 16, .inl gaf)), (gpr, .inl (cs 0, 16, .inl gpf))] H := by rw [hH]; exact hP
  replace hS : va_S A s.heap H [] := by rw [hH]; exact hS
  obtain ⟨locs, hlocs⟩ : ∃ z : List Loc, z = [] := ⟨_, rfl⟩
  rw [← hlocs] at hS
  suffices hW : W p l e ({ frames := 14, cells := 0, slots := 0, locals := 364 } : Room) s m args below meth c H locs 0 0 (MQ below ((xQi D (fun (r : Int32) (_u : Unit) => True) (fun (_u : Unit) => [(hgr, .inr (3, [.int (nI en), .ref gs, .ref g1r, .ref g2r, .ref gan, .ref gpr, .ref gde, .ref gme])), (gan, .inl (cs 0, 16, .inl gaf)), (gpr, .inl (cs 0, 16, .inl gpf))])) A) args s 0 0 A) (F0 m 0 ls []) by rw [hlocs, hH] at hW; exact hW
  clear hH hlocs
  refine lv_iload_n hx hb dX3_widestOf_0 rfl (lv_at hl 2 rfl) ?_
  refine lv_istore_n (lv' := [(3, .int (nI fr)), (0, .ref hgr), (1, .int x), (2, .int (nI fr))]) hx hb dX3_widestOf_1 rfl hl (by decide) rfl ?_
  clear hl
  try clear ls
  intro ls hl
  have loop_1 : ∀ (n_loop_1 : Nat) (e9 : Nat), (e9 ≤ 17) → (fr ≤ e9) → 17 - e9 < n_loop_1 → ∀ (H : Heap) (locs : List Loc) (ls : Array Slot), va_P D vwCl [(hgr, .inr (3, [.int (nI en), .ref gs, .ref g1r, .ref g2r, .ref gan, .ref gpr, .ref gde, .ref gme])), (gan, .inl (cs 0, 16, .inl gaf)), (gpr, .inl (cs 0, 16, .inl gpf))] H → va_D A [(hgr, .inr (3, [.int (nI en), .ref gs, .ref g1r, .ref g2r, .ref gan, .ref gpr, .ref gde, .ref gme])), (gan, .inl (cs 0, 16, .inl gaf)), (gpr, .inl (cs 0, 16, .inl gpf))] → va_S A s.heap H locs → lv_has ls 7 [(3, .int (nI e9)), (0, .ref hgr), (1, .int x), (2, .int (nI fr))] → W p l e ({ frames := 14, cells := 0, slots := 0, locals := 364 } : Room) s m args below meth c H locs 0 0 (MQ below ((xQi D (fun (r : Int32) (_u : Unit) => True) (fun (_u : Unit) => [(hgr, .inr (3, [.int (nI en), .ref gs, .ref g1r, .ref g2r, .ref gan, .ref gpr, .ref gde, .ref gme])), (gan, .inl (cs 0, 16, .inl gaf)), (gpr, .inl (cs 0, 16, .inl gpf))])) A) args s 0 0 A) (F0 m 2 ls []) := by
    intro n_loop_1
    induction n_loop_1 with
    | zero => intro e9 h_e9 hfe hlt H locs ls hP hD hS hl; exact absurd hlt (Nat.not_lt_zero _)
    | succ n_loop_1 ih_loop_1 =>
      intro e9 h_e9 hfe hlt_loop_1 H locs ls hP hD hS hl
      refine lv_iload_n hx hb dX3_widestOf_2 rfl (lv_at hl 0 rfl) ?_
      refine lv_aload_n hx hb dX3_widestOf_3 rfl (lv_at hl 1 rfl) ?_
      refine xget C hP 0 rfl rfl zuX3 0 (by decide) zw1_195 rfl dX3_widestOf_4 ?_
      refine lv_icmp_ge (tgt := 94) hx hb dX3_widestOf_7 (by decide) (fun c_2 => ?_) (fun c_2 => ?_)
      · -- 7 t
        have fc_2 : en ≤ e9 := nf_le (by omega) (by omega) c_2
        refine lv_iconst (v := nI 0) hx hb dX3_widestOf_94 (by decide) ?_
        exact xreti C () trivial hP hD hS (Nat.le_of_ble_eq_true rfl) (Nat.le_of_ble_eq_true rfl) rfl dX3_widestOf_95
      · -- 7 f
        have fc_2 : e9 < en := nf_nle (by omega) (by omega) c_2
        refine lv_iload_n hx hb dX3_widestOf_10 rfl (lv_at hl 2 rfl) ?_
        refine lv_iload_n hx hb dX3_widestOf_11 rfl (lv_at hl 0 rfl) ?_
        refine lv_ishr hx hb dX3_widestOf_12 ?_
        refine lv_iconst (v := nI 1) hx hb dX3_widestOf_13 (by decide) ?_
        refine lv_iand hx hb dX3_widestOf_14 ?_
        refine lv_iconst (v := nI 1) hx hb dX3_widestOf_15 (by decide) ?_
        refine lv_icmp_ne (tgt := 88) hx hb dX3_widestOf_16 (by decide) (fun c_3 => ?_) (fun c_3 => ?_)
        · -- 16 t
          refine lv_iinc (v := nI (e9 + 1)) (lv' := [(3, .int (nI (e9 + 1))), (0, .ref hgr), (1, .int x), (2, .int (nI fr))]) hx hb dX3_widestOf_88 hl (k := 0) rfl (nI_add e9 1) (by decide) rfl ?_
          clear hl
          try clear ls
          intro ls hl
          refine lv_goto (tgt := 2) hx hb dX3_widestOf_91 (by decide) ?_
          exact ih_loop_1 (e9 + 1) (by omega) (by omega) (by omega) H locs ls hP hD hS (lv_sub hl [0, 1, 2, 3] rfl)
        · -- 16 f
          refine lv_iload_n hx hb dX3_widestOf_19 rfl (lv_at hl 2 rfl) ?_
          refine lv_iconst (v := nI 1) hx hb dX3_widestOf_20 (by decide) ?_
          refine lv_iload_n hx hb dX3_widestOf_21 rfl (lv_at hl 0 rfl) ?_
          refine lv_ishl hx hb dX3_widestOf_22 ?_
          refine lv_iconst (v := (-1)) hx hb dX3_widestOf_23 (by decide) ?_
          refine lv_ixor hx hb dX3_widestOf_24 ?_
          refine lv_iand hx hb dX3_widestOf_25 ?_
          refine lv_istore (lv' := [(4, .int (x &&& (((nI 1) <<< ((nI e9) &&& 31)) ^^^ (-1)))), (3, .int (nI e9)), (0, .ref hgr), (1, .int x), (2, .int (nI fr))]) hx hb dX3_widestOf_26 hl (by decide) rfl ?_
          clear hl
          try clear ls
          intro ls hl
          refine lv_iload hx hb dX3_widestOf_28 (lv_at hl 0 rfl) ?_
          refine lv_aload_n hx hb dX3_widestOf_30 rfl (lv_at hl 2 rfl) ?_
          refine xget C hP 0 rfl rfl zuX3 4 (by decide) zw1_205 rfl dX3_widestOf_31 ?_
          refine lv_iload_n hx hb dX3_widestOf_34 rfl (lv_at hl 1 rfl) ?_
          refine xiald C hP 1 rfl e9 rfl (by omega) (by decide) dX3_widestOf_35 ?_
          refine lv_aload_n hx hb dX3_widestOf_36 rfl (lv_at hl 2 rfl) ?_
          refine xget C hP 0 rfl rfl zuX3 5 (by decide) zw1_207 rfl dX3_widestOf_37 ?_
          refine lv_iload_n hx hb dX3_widestOf_40 rfl (lv_at hl 1 rfl) ?_
          refine xiald C hP 2 rfl e9 rfl (by omega) (by decide) dX3_widestOf_41 ?_
          refine lv_ior hx hb dX3_widestOf_42 ?_
          refine lv_iconst (v := (-1)) hx hb dX3_widestOf_43 (by decide) ?_
          refine lv_ixor hx hb dX3_widestOf_44 ?_
          refine lv_iand hx hb dX3_widestOf_45 ?_
          refine lv_istore (lv' := [(5, .int ((x &&& (((nI 1) <<< ((nI e9) &&& 31)) ^^^ (-1))) &&& (((gaf e9) ||| (gpf e9)) ^^^ (-1)))), (4, .int (x &&& (((nI 1) <<< ((nI e9) &&& 31)) ^^^ (-1)))), (3, .int (nI e9)), (0, .ref hgr), (1, .int x), (2, .int (nI fr))]) hx hb dX3_widestOf_46 hl (by decide) rfl ?_
          clear hl
          try clear ls
          intro ls hl
          refine lv_iconst (v := nI 1) hx hb dX3_widestOf_48 (by decide) ?_
          refine lv_aload_n hx hb dX3_widestOf_49 rfl (lv_at hl 3 rfl) ?_
          refine lv_iload hx hb dX3_widestOf_50 (lv_at hl 0 rfl) ?_
          refine lv_iload_n hx hb dX3_widestOf_52 rfl (lv_at hl 2 rfl) ?_
          refine lv_iconst (v := nI 1) hx hb dX3_widestOf_53 (by decide) ?_
          refine lv_iadd hx hb dX3_widestOf_54 ?_
          refine lv_topi (nm_r (e' := nI (e9 + 1)) (nI_add _ _) ?_)
          refine xi (wr := []) (xS (As := [.ref hgr, .int ((x &&& (((nI 1) <<< ((nI e9) &&& 31)) ^^^ (-1))) &&& (((gaf e9) ||| (gpf e9)) ^^^ (-1))), .int (nI (e9 + 1))]) (rest := [.int (nI 1)]) C (c_X3_widestOf_13 l D cs hgr en gs g1r g2r gan gpr gde gme gaf gpf ((x &&& (((nI 1) <<< ((nI e9) &&& 31)) ^^^ (-1))) &&& (((gaf e9) ||| (gpf e9)) ^^^ (-1))) (e9 + 1) hen (by omega) (by omega)) kX3_60 hP hD [0, 1, 2] rfl (by decide) ⟨Nat.le_of_ble_eq_true rfl, Nat.le_of_ble_eq_true rfl⟩ rfl hl.1 rfl (Nat.le_of_ble_eq_true rfl) dX3_widestOf_55 ⟨Nat.le_of_ble_eq_true rfl, Nat.le_of_ble_eq_true rfl⟩) hP hD hS hA [0, 1, 2] [] rfl rfl (by decide) (by decide) ?_
          clear hP hD hS
          try clear locs
          try clear H
          intro r_4 u_5 H locs hw_r_4 hP hD hS
          refine W.widen (k := 0) (n := 0) (Nat.le_of_ble_eq_true rfl) (Nat.le_of_ble_eq_true rfl) ?_
          replace hP : va_P D vwCl [(hgr, .inr (3, [.int (nI en), .ref gs, .ref g1r, .ref g2r, .ref gan, .ref gpr, .ref gde, .ref gme])), (gan, .inl (cs 0, 16, .inl gaf)), (gpr, .inl (cs 0, 16, .inl gpf))] H := hP
          replace hD : va_D A [(hgr, .inr (3, [.int (nI en), .ref gs, .ref g1r, .ref g2r, .ref gan, .ref gpr, .ref gde, .ref gme])), (gan, .inl (cs 0, 16, .inl gaf)), (gpr, .inl (cs 0, 16, .inl gpf))] := hD
          refine lv_iadd hx hb dX3_widestOf_58 ?_
          refine lv_istore (lv' := [(6, .int ((nI 1) + r_4)), (5, .int ((x &&& (((nI 1) <<< ((nI e9) &&& 31)) ^^^ (-1))) &&& (((gaf e9) ||| (gpf e9)) ^^^ (-1)))), (4, .int (x &&& (((nI 1) <<< ((nI e9) &&& 31)) ^^^ (-1)))), (3, .int (nI e9)), (0, .ref hgr), (1, .int x), (2, .int (nI fr))]) hx hb dX3_widestOf_59 hl (by decide) rfl ?_
          clear hl
          try clear ls
          intro ls hl
          refine lv_iload hx hb dX3_widestOf_61 (lv_at hl 1 rfl) ?_
          refine lv_iload hx hb dX3_widestOf_63 (lv_at hl 2 rfl) ?_
          refine lv_icmp_ne (tgt := 73) hx hb dX3_widestOf_65 (by decide) (fun c_6 => ?_) (fun c_6 => ?_)
          · -- 65 t
            refine lv_iload hx hb dX3_widestOf_73 (lv_at hl 0 rfl) ?_
            refine lv_aload_n hx hb dX3_widestOf_75 rfl (lv_at hl 4 rfl) ?_
            refine lv_iload hx hb dX3_widestOf_76 (lv_at hl 2 rfl) ?_
            refine lv_iload_n hx hb dX3_widestOf_78 rfl (lv_at hl 3 rfl) ?_
            refine lv_iconst (v := nI 1) hx hb dX3_widestOf_79 (by decide) ?_
            refine lv_iadd hx hb dX3_widestOf_80 ?_
            refine lv_topi (nm_r (e' := nI (e9 + 1)) (nI_add _ _) ?_)
            refine xi (wr := []) (xS (As := [.ref hgr, .int (x &&& (((nI 1) <<< ((nI e9) &&& 31)) ^^^ (-1))), .int (nI (e9 + 1))]) (rest := [.int ((nI 1) + r_4)]) C (c_X3_widestOf_13 l D cs hgr en gs g1r g2r gan gpr gde gme gaf gpf (x &&& (((nI 1) <<< ((nI e9) &&& 31)) ^^^ (-1))) (e9 + 1) hen (by omega) (by omega)) kX3_60 hP hD [0, 1, 2] rfl (by decide) ⟨Nat.le_of_ble_eq_true rfl, Nat.le_of_ble_eq_true rfl⟩ rfl hl.1 rfl (Nat.le_of_ble_eq_true rfl) dX3_widestOf_81 ⟨Nat.le_of_ble_eq_true rfl, Nat.le_of_ble_eq_true rfl⟩) hP hD hS hA [0, 1, 2] [] rfl rfl (by decide) (by decide) ?_
            clear hP hD hS
            try clear locs
            try clear H
            intro r_7 u_8 H locs hw_r_7 hP hD hS
            refine W.widen (k := 0) (n := 0) (Nat.le_of_ble_eq_true rfl) (Nat.le_of_ble_eq_true rfl) ?_
            replace hP : va_P D vwCl [(hgr, .inr (3, [.int (nI en), .ref gs, .ref g1r, .ref g2r, .ref gan, .ref gpr, .ref gde, .ref gme])), (gan, .inl (cs 0, 16, .inl gaf)), (gpr, .inl (cs 0, 16, .inl gpf))] H := hP
            replace hD : va_D A [(hgr, .inr (3, [.int (nI en), .ref gs, .ref g1r, .ref g2r, .ref gan, .ref gpr, .ref gde, .ref gme])), (gan, .inl (cs 0, 16, .inl gaf)), (gpr, .inl (cs 0, 16, .inl gpf))] := hD
            refine va_mmax hx hb (C.2.2.1.trans hl.1.symm) hown (hz _ zw4_201) (hz _ zw4_202) (hz _ zw1_3) (hz _ zw4_203) (Nat.le_of_ble_eq_true rfl) (Nat.le_of_ble_eq_true rfl) (Nat.le_of_ble_eq_true rfl) (Nat.le_of_ble_eq_true rfl) dX3_widestOf_84 ?_
            exact xreti C () trivial hP hD hS (Nat.le_of_ble_eq_true rfl) (Nat.le_of_ble_eq_true rfl) rfl dX3_widestOf_87
          · -- 65 f
            refine lv_iload hx hb dX3_widestOf_68 (lv_at hl 0 rfl) ?_
            refine lv_goto (tgt := 87) hx hb dX3_widestOf_70 (by decide) ?_
            exact xreti C () trivial hP hD hS (Nat.le_of_ble_eq_true rfl) (Nat.le_of_ble_eq_true rfl) rfl dX3_widestOf_87
  exact loop_1 _ fr (by omega) (Nat.le_refl _) (Nat.lt_succ_self _) H locs ls hP hD hS (lv_sub hl [0, 1, 2, 3] rfl)

set_option maxHeartbeats 4000000 in
set_option maxRecDepth 100000 in
theorem c_X3_widestOf_15 (l : Launch) (D : va_G) (cs : Nat → ClassId) (hgr en gs g1r g2r gan gpr gde gme : Nat) (gaf gpf : Nat → Int32) (x : Int32) (fr : Nat) (hen : en ≤ 16) (hfr : fr ≤ 17) (hd : en ≤ fr + 15) : xMet l D cs yX3_widestOf cX3_widestOf 7 (some .int) ({ frames := 15, cells := 0, slots := 0, locals := 390 } : Room) [.ref hgr, .int x, .int (nI fr)] [(hgr, .inr (3, [.int (nI en), .ref gs, .ref g1r, .ref g2r, .ref gan, .ref gpr, .ref gde, .ref gme])), (gan, .inl (cs 0, 16, .inl gaf)), (gpr, .inl (cs 0, 16, .inl gpf))] (xQi D (fun (r : Int32) (_u : Unit) => True) (fun (_u : Unit) => [(hgr, .inr (3, [.int (nI en), .ref gs, .ref g1r, .ref g2r, .ref gan, .ref gpr, .ref gde, .ref gme])), (gan, .inl (cs 0, 16, .inl gaf)), (gpr, .inl (cs 0, 16, .inl gpf))])) := by
  refine xMet.intro (by decide) (Nat.le_of_ble_eq_true rfl) ?_
  intro p e s m args below meth c A ls C hP hD hS hl
  have hx := C.1
  have hb := C.2.1
  have hz := C.2.2.2.2.1
  have hown := C.2.2.2.1
  have hA := C.2.2.2.2.2.2.2.2.2
  have hAO := C.2.2.2.2.2.2.2.2.1.2.2
  replace hl : lv_has ls 7 [(0, .ref hgr), (1, .int x), (2, .int (nI fr))] := hl
  obtain ⟨H, hH⟩ : ∃ H, H = s.heap := ⟨_, rfl⟩
  replace hP : va_P D vwCl [(hgr, .inr (3, [.int (nI en), .ref gs, .ref g1r, .ref g2r, .ref gan, .ref gpr, .ref gde, .ref gme])), (gan, .inl (cs 0, 16, .inl gaf)), (gpr, .inl (cs 0, 16, .inl gpf))] H := by rw [hH]; exact hP
  replace hS : va_S A s.heap H [] := by rw [hH]; exact hS
  obtain ⟨locs, hlocs⟩ : ∃ z : List Loc, z = [] := ⟨_, rfl⟩
  rw [← hlocs] at hS
  suffices hW : W p l e ({ frames := 15, cells := 0, slots := 0, locals := 390 } : Room) s m args below meth c H locs 0 0 (MQ below ((xQi D (fun (r : Int32) (_u : Unit) => True) (fun (_u : Unit) => [(hgr, .inr (3, [.int (nI en), .ref gs, .ref g1r, .ref g2r, .ref gan, .ref gpr, .ref gde, .ref gme])), (gan, .inl (cs 0, 16, .inl gaf)), (gpr, .inl (cs 0, 16, .inl gpf))])) A) args s 0 0 A) (F0 m 0 ls []) by rw [hlocs, hH] at hW; exact hW
  clear hH hlocs
  refine lv_iload_n hx hb dX3_widestOf_0 rfl (lv_at hl 2 rfl) ?_
  refine lv_istore_n (lv' := [(3, .int (nI fr)), (0, .ref hgr), (1, .int x), (2, .int (nI fr))]) hx hb dX3_widestOf_1 rfl hl (by decide) rfl ?_
  clear hl
  try clear ls
  intro ls hl
  have loop_1 : ∀ (n_loop_1 : Nat) (e9 : Nat), (e9 ≤ 17) → (fr ≤ e9) → 17 - e9 < n_loop_1 → ∀ (H : Heap) (locs : List Loc) (ls : Array Slot), va_P D vwCl [(hgr, .inr (3, [.int (nI en), .ref gs, .ref g1r, .ref g2r, .ref gan, .ref gpr, .ref gde, .ref gme])), (gan, .inl (cs 0, 16, .inl gaf)), (gpr, .inl (cs 0, 16, .inl gpf))] H → va_D A [(hgr, .inr (3, [.int (nI en), .ref gs, .ref g1r, .ref g2r, .ref gan, .ref gpr, .ref gde, .ref gme])), (gan, .inl (cs 0, 16, .inl gaf)), (gpr, .inl (cs 0, 16, .inl gpf))] → va_S A s.heap H locs → lv_has ls 7 [(3, .int (nI e9)), (0, .ref hgr), (1, .int x), (2, .int (nI fr))] → W p l e ({ frames := 15, cells := 0, slots := 0, locals := 390 } : Room) s m args below meth c H locs 0 0 (MQ below ((xQi D (fun (r : Int32) (_u : Unit) => True) (fun (_u : Unit) => [(hgr, .inr (3, [.int (nI en), .ref gs, .ref g1r, .ref g2r, .ref gan, .ref gpr, .ref gde, .ref gme])), (gan, .inl (cs 0, 16, .inl gaf)), (gpr, .inl (cs 0, 16, .inl gpf))])) A) args s 0 0 A) (F0 m 2 ls []) := by
    intro n_loop_1
    induction n_loop_1 with
    | zero => intro e9 h_e9 hfe hlt H locs ls hP hD hS hl; exact absurd hlt (Nat.not_lt_zero _)
    | succ n_loop_1 ih_loop_1 =>
      intro e9 h_e9 hfe hlt_loop_1 H locs ls hP hD hS hl
      refine lv_iload_n hx hb dX3_widestOf_2 rfl (lv_at hl 0 rfl) ?_
      refine lv_aload_n hx hb dX3_widestOf_3 rfl (lv_at hl 1 rfl) ?_
      refine xget C hP 0 rfl rfl zuX3 0 (by decide) zw1_195 rfl dX3_widestOf_4 ?_
      refine lv_icmp_ge (tgt := 94) hx hb dX3_widestOf_7 (by decide) (fun c_2 => ?_) (fun c_2 => ?_)
      · -- 7 t
        have fc_2 : en ≤ e9 := nf_le (by omega) (by omega) c_2
        refine lv_iconst (v := nI 0) hx hb dX3_widestOf_94 (by decide) ?_
        exact xreti C () trivial hP hD hS (Nat.le_of_ble_eq_true rfl) (Nat.le_of_ble_eq_true rfl) rfl dX3_widestOf_95
      · -- 7 f
        have fc_2 : e9 < en := nf_nle (by omega) (by omega) c_2
        refine lv_iload_n hx hb dX3_widestOf_10 rfl (lv_at hl 2 rfl) ?_
        refine lv_iload_n hx hb dX3_widestOf_11 rfl (lv_at hl 0 rfl) ?_
        refine lv_ishr hx hb dX3_widestOf_12 ?_
        refine lv_iconst (v := nI 1) hx hb dX3_widestOf_13 (by decide) ?_
        refine lv_iand hx hb dX3_widestOf_14 ?_
        refine lv_iconst (v := nI 1) hx hb dX3_widestOf_15 (by decide) ?_
        refine lv_icmp_ne (tgt := 88) hx hb dX3_widestOf_16 (by decide) (fun c_3 => ?_) (fun c_3 => ?_)
        · -- 16 t
          refine lv_iinc (v := nI (e9 + 1)) (lv' := [(3, .int (nI (e9 + 1))), (0, .ref hgr), (1, .int x), (2, .int (nI fr))]) hx hb dX3_widestOf_88 hl (k := 0) rfl (nI_add e9 1) (by decide) rfl ?_
          clear hl
          try clear ls
          intro ls hl
          refine lv_goto (tgt := 2) hx hb dX3_widestOf_91 (by decide) ?_
          exact ih_loop_1 (e9 + 1) (by omega) (by omega) (by omega) H locs ls hP hD hS (lv_sub hl [0, 1, 2, 3] rfl)
        · -- 16 f
          refine lv_iload_n hx hb dX3_widestOf_19 rfl (lv_at hl 2 rfl) ?_
          refine lv_iconst (v := nI 1) hx hb dX3_widestOf_20 (by decide) ?_
          refine lv_iload_n hx hb dX3_widestOf_21 rfl (lv_at hl 0 rfl) ?_
          refine lv_ishl hx hb dX3_widestOf_22 ?_
          refine lv_iconst (v := (-1)) hx hb dX3_widestOf_23 (by decide) ?_
          refine lv_ixor hx hb dX3_widestOf_24 ?_
          refine lv_iand hx hb dX3_widestOf_25 ?_
          refine lv_istore (lv' := [(4, .int (x &&& (((nI 1) <<< ((nI e9) &&& 31)) ^^^ (-1)))), (3, .int (nI e9)), (0, .ref hgr), (1, .int x), (2, .int (nI fr))]) hx hb dX3_widestOf_26 hl (by decide) rfl ?_
          clear hl
          try clear ls
          intro ls hl
          refine lv_iload hx hb dX3_widestOf_28 (lv_at hl 0 rfl) ?_
          refine lv_aload_n hx hb dX3_widestOf_30 rfl (lv_at hl 2 rfl) ?_
          refine xget C hP 0 rfl rfl zuX3 4 (by decide) zw1_205 rfl dX3_widestOf_31 ?_
          refine lv_iload_n hx hb dX3_widestOf_34 rfl (lv_at hl 1 rfl) ?_
          refine xiald C hP 1 rfl e9 rfl (by omega) (by decide) dX3_widestOf_35 ?_
          refine lv_aload_n hx hb dX3_widestOf_36 rfl (lv_at hl 2 rfl) ?_
          refine xget C hP 0 rfl rfl zuX3 5 (by decide) zw1_207 rfl dX3_widestOf_37 ?_
          refine lv_iload_n hx hb dX3_widestOf_40 rfl (lv_at hl 1 rfl) ?_
          refine xiald C hP 2 rfl e9 rfl (by omega) (by decide) dX3_widestOf_41 ?_
          refine lv_ior hx hb dX3_widestOf_42 ?_
          refine lv_iconst (v := (-1)) hx hb dX3_widestOf_43 (by decide) ?_
          refine lv_ixor hx hb dX3_widestOf_44 ?_
          refine lv_iand hx hb dX3_widestOf_45 ?_
          refine lv_istore (lv' := [(5, .int ((x &&& (((nI 1) <<< ((nI e9) &&& 31)) ^^^ (-1))) &&& (((gaf e9) ||| (gpf e9)) ^^^ (-1)))), (4, .int (x &&& (((nI 1) <<< ((nI e9) &&& 31)) ^^^ (-1)))), (3, .int (nI e9)), (0, .ref hgr), (1, .int x), (2, .int (nI fr))]) hx hb dX3_widestOf_46 hl (by decide) rfl ?_
          clear hl
          try clear ls
          intro ls hl
          refine lv_iconst (v := nI 1) hx hb dX3_widestOf_48 (by decide) ?_
          refine lv_aload_n hx hb dX3_widestOf_49 rfl (lv_at hl 3 rfl) ?_
          refine lv_iload hx hb dX3_widestOf_50 (lv_at hl 0 rfl) ?_
          refine lv_iload_n hx hb dX3_widestOf_52 rfl (lv_at hl 2 rfl) ?_
          refine lv_iconst (v := nI 1) hx hb dX3_widestOf_53 (by decide) ?_
          refine lv_iadd hx hb dX3_widestOf_54 ?_
          refine lv_topi (nm_r (e' := nI (e9 + 1)) (nI_add _ _) ?_)
          refine xi (wr := []) (xS (As := [.ref hgr, .int ((x &&& (((nI 1) <<< ((nI e9) &&& 31)) ^^^ (-1))) &&& (((gaf e9) ||| (gpf e9)) ^^^ (-1))), .int (nI (e9 + 1))]) (rest := [.int (nI 1)]) C (c_X3_widestOf_14 l D cs hgr en gs g1r g2r gan gpr gde gme gaf gpf ((x &&& (((nI 1) <<< ((nI e9) &&& 31)) ^^^ (-1))) &&& (((gaf e9) ||| (gpf e9)) ^^^ (-1))) (e9 + 1) hen (by omega) (by omega)) kX3_60 hP hD [0, 1, 2] rfl (by decide) ⟨Nat.le_of_ble_eq_true rfl, Nat.le_of_ble_eq_true rfl⟩ rfl hl.1 rfl (Nat.le_of_ble_eq_true rfl) dX3_widestOf_55 ⟨Nat.le_of_ble_eq_true rfl, Nat.le_of_ble_eq_true rfl⟩) hP hD hS hA [0, 1, 2] [] rfl rfl (by decide) (by decide) ?_
          clear hP hD hS
          try clear locs
          try clear H
          intro r_4 u_5 H locs hw_r_4 hP hD hS
          refine W.widen (k := 0) (n := 0) (Nat.le_of_ble_eq_true rfl) (Nat.le_of_ble_eq_true rfl) ?_
          replace hP : va_P D vwCl [(hgr, .inr (3, [.int (nI en), .ref gs, .ref g1r, .ref g2r, .ref gan, .ref gpr, .ref gde, .ref gme])), (gan, .inl (cs 0, 16, .inl gaf)), (gpr, .inl (cs 0, 16, .inl gpf))] H := hP
          replace hD : va_D A [(hgr, .inr (3, [.int (nI en), .ref gs, .ref g1r, .ref g2r, .ref gan, .ref gpr, .ref gde, .ref gme])), (gan, .inl (cs 0, 16, .inl gaf)), (gpr, .inl (cs 0, 16, .inl gpf))] := hD
          refine lv_iadd hx hb dX3_widestOf_58 ?_
          refine lv_istore (lv' := [(6, .int ((nI 1) + r_4)), (5, .int ((x &&& (((nI 1) <<< ((nI e9) &&& 31)) ^^^ (-1))) &&& (((gaf e9) ||| (gpf e9)) ^^^ (-1)))), (4, .int (x &&& (((nI 1) <<< ((nI e9) &&& 31)) ^^^ (-1)))), (3, .int (nI e9)), (0, .ref hgr), (1, .int x), (2, .int (nI fr))]) hx hb dX3_widestOf_59 hl (by decide) rfl ?_
          clear hl
          try clear ls
          intro ls hl
          refine lv_iload hx hb dX3_widestOf_61 (lv_at hl 1 rfl) ?_
          refine lv_iload hx hb dX3_widestOf_63 (lv_at hl 2 rfl) ?_
          refine lv_icmp_ne (tgt := 73) hx hb dX3_widestOf_65 (by decide) (fun c_6 => ?_) (fun c_6 => ?_)
          · -- 65 t
            refine lv_iload hx hb dX3_widestOf_73 (lv_at hl 0 rfl) ?_
            refine lv_aload_n hx hb dX3_widestOf_75 rfl (lv_at hl 4 rfl) ?_
            refine lv_iload hx hb dX3_widestOf_76 (lv_at hl 2 rfl) ?_
            refine lv_iload_n hx hb dX3_widestOf_78 rfl (lv_at hl 3 rfl) ?_
            refine lv_iconst (v := nI 1) hx hb dX3_widestOf_79 (by decide) ?_
            refine lv_iadd hx hb dX3_widestOf_80 ?_
            refine lv_topi (nm_r (e' := nI (e9 + 1)) (nI_add _ _) ?_)
            refine xi (wr := []) (xS (As := [.ref hgr, .int (x &&& (((nI 1) <<< ((nI e9) &&& 31)) ^^^ (-1))), .int (nI (e9 + 1))]) (rest := [.int ((nI 1) + r_4)]) C (c_X3_widestOf_14 l D cs hgr en gs g1r g2r gan gpr gde gme gaf gpf (x &&& (((nI 1) <<< ((nI e9) &&& 31)) ^^^ (-1))) (e9 + 1) hen (by omega) (by omega)) kX3_60 hP hD [0, 1, 2] rfl (by decide) ⟨Nat.le_of_ble_eq_true rfl, Nat.le_of_ble_eq_true rfl⟩ rfl hl.1 rfl (Nat.le_of_ble_eq_true rfl) dX3_widestOf_81 ⟨Nat.le_of_ble_eq_true rfl, Nat.le_of_ble_eq_true rfl⟩) hP hD hS hA [0, 1, 2] [] rfl rfl (by decide) (by decide) ?_
            clear hP hD hS
            try clear locs
            try clear H
            intro r_7 u_8 H locs hw_r_7 hP hD hS
            refine W.widen (k := 0) (n := 0) (Nat.le_of_ble_eq_true rfl) (Nat.le_of_ble_eq_true rfl) ?_
            replace hP : va_P D vwCl [(hgr, .inr (3, [.int (nI en), .ref gs, .ref g1r, .ref g2r, .ref gan, .ref gpr, .ref gde, .ref gme])), (gan, .inl (cs 0, 16, .inl gaf)), (gpr, .inl (cs 0, 16, .inl gpf))] H := hP
            replace hD : va_D A [(hgr, .inr (3, [.int (nI en), .ref gs, .ref g1r, .ref g2r, .ref gan, .ref gpr, .ref gde, .ref gme])), (gan, .inl (cs 0, 16, .inl gaf)), (gpr, .inl (cs 0, 16, .inl gpf))] := hD
            refine va_mmax hx hb (C.2.2.1.trans hl.1.symm) hown (hz _ zw4_201) (hz _ zw4_202) (hz _ zw1_3) (hz _ zw4_203) (Nat.le_of_ble_eq_true rfl) (Nat.le_of_ble_eq_true rfl) (Nat.le_of_ble_eq_true rfl) (Nat.le_of_ble_eq_true rfl) dX3_widestOf_84 ?_
            exact xreti C () trivial hP hD hS (Nat.le_of_ble_eq_true rfl) (Nat.le_of_ble_eq_true rfl) rfl dX3_widestOf_87
          · -- 65 f
            refine lv_iload hx hb dX3_widestOf_68 (lv_at hl 0 rfl) ?_
            refine lv_goto (tgt := 87) hx hb dX3_widestOf_70 (by decide) ?_
            exact xreti C () trivial hP hD hS (Nat.le_of_ble_eq_true rfl) (Nat.le_of_ble_eq_true rfl) rfl dX3_widestOf_87
  exact loop_1 _ fr (by omega) (Nat.le_refl _) (Nat.lt_succ_self _) H locs ls hP hD hS (lv_sub hl [0, 1, 2, 3] rfl)

set_option maxHeartbeats 4000000 in
set_option maxRecDepth 100000 in
theorem c_X3_widestOf_16 (l : Launch) (D : va_G) (cs : Nat → ClassId) (hgr en gs g1r g2r gan gpr gde gme : Nat) (gaf gpf : Nat → Int32) (x : Int32) (fr : Nat) (hen : en ≤ 16) (hfr : fr ≤ 17) (hd : en ≤ fr + 16) : xMet l D cs yX3_widestOf cX3_widestOf 7 (some .int) ({ frames := 16, cells := 0, slots := 0, locals := 416 } : Room) [.ref hgr, .int x, .int (nI fr)] [(hgr, .inr (3, [.int (nI en), .ref gs, .ref g1r, .ref g2r, .ref gan, .ref gpr, .ref gde, .ref gme])), (gan, .inl (cs 0, 16, .inl gaf)), (gpr, .inl (cs 0, 16, .inl gpf))] (xQi D (fun (r : Int32) (_u : Unit) => True) (fun (_u : Unit) => [(hgr, .inr (3, [.int (nI en), .ref gs, .ref g1r, .ref g2r, .ref gan, .ref gpr, .ref gde, .ref gme])), (gan, .inl (cs 0, 16, .inl gaf)), (gpr, .inl (cs 0, 16, .inl gpf))])) := by
  refine xMet.intro (by decide) (Nat.le_of_ble_eq_true rfl) ?_
  intro p e s m args below meth c A ls C hP hD hS hl
  have hx := C.1
  have hb := C.2.1
  have hz := C.2.2.2.2.1
  have hown := C.2.2.2.1
  have hA := C.2.2.2.2.2.2.2.2.2
  have hAO := C.2.2.2.2.2.2.2.2.1.2.2
  replace hl : lv_has ls 7 [(0, .ref hgr), (1, .int x), (2, .int (nI fr))] := hl
  obtain ⟨H, hH⟩ : ∃ H, H = s.heap := ⟨_, rfl⟩
  replace hP : va_P D vwCl [(hgr, .inr (3, [.int (nI en), .ref gs, .ref g1r, .ref g2r, .ref gan, .ref gpr, .ref gde, .ref gme])), (gan, .inl (cs 0, 16, .inl gaf)), (gpr, .inl (cs 0, 16, .inl gpf))] H := by rw [hH]; exact hP
  replace hS : va_S A s.heap H [] := by rw [hH]; exact hS
  obtain ⟨locs, hlocs⟩ : ∃ z : List Loc, z = [] := ⟨_, rfl⟩
  rw [← hlocs] at hS
  suffices hW : W p l e ({ frames := 16, cells := 0, slots := 0, locals := 416 } : Room) s m args below meth c H locs 0 0 (MQ below ((xQi D (fun (r : Int32) (_u : Unit) => True) (fun (_u : Unit) => [(hgr, .inr (3, [.int (nI en), .ref gs, .ref g1r, .ref g2r, .ref gan, .ref gpr, .ref gde, .ref gme])), (gan, .inl (cs 0, 16, .inl gaf)), (gpr, .inl (cs 0, 16, .inl gpf))])) A) args s 0 0 A) (F0 m 0 ls []) by rw [hlocs, hH] at hW; exact hW
  clear hH hlocs
  refine lv_iload_n hx hb dX3_widestOf_0 rfl (lv_at hl 2 rfl) ?_
  refine lv_istore_n (lv' := [(3, .int (nI fr)), (0, .ref hgr), (1, .int x), (2, .int (nI fr))]) hx hb dX3_widestOf_1 rfl hl (by decide) rfl ?_
  clear hl
  try clear ls
  intro ls hl
  have loop_1 : ∀ (n_loop_1 : Nat) (e9 : Nat), (e9 ≤ 17) → (fr ≤ e9) → 17 - e9 < n_loop_1 → ∀ (H : Heap) (locs : List Loc) (ls : Array Slot), va_P D vwCl [(hgr, .inr (3, [.int (nI en), .ref gs, .ref g1r, .ref g2r, .ref gan, .ref gpr, .ref gde, .ref gme])), (gan, .inl (cs 0, 16, .inl gaf)), (gpr, .inl (cs 0, 16, .inl gpf))] H → va_D A [(hgr, .inr (3, [.int (nI en), .ref gs, .ref g1r, .ref g2r, .ref gan, .ref gpr, .ref gde, .ref gme])), (gan, .inl (cs 0, 16, .inl gaf)), (gpr, .inl (cs 0, 16, .inl gpf))] → va_S A s.heap H locs → lv_has ls 7 [(3, .int (nI e9)), (0, .ref hgr), (1, .int x), (2, .int (nI fr))] → W p l e ({ frames := 16, cells := 0, slots := 0, locals := 416 } : Room) s m args below meth c H locs 0 0 (MQ below ((xQi D (fun (r : Int32) (_u : Unit) => True) (fun (_u : Unit) => [(hgr, .inr (3, [.int (nI en), .ref gs, .ref g1r, .ref g2r, .ref gan, .ref gpr, .ref gde, .ref gme])), (gan, .inl (cs 0, 16, .inl gaf)), (gpr, .inl (cs 0, 16, .inl gpf))])) A) args s 0 0 A) (F0 m 2 ls []) := by
    intro n_loop_1
    induction n_loop_1 with
    | zero => intro e9 h_e9 hfe hlt H locs ls hP hD hS hl; exact absurd hlt (Nat.not_lt_zero _)
    | succ n_loop_1 ih_loop_1 =>
      intro e9 h_e9 hfe hlt_loop_1 H locs ls hP hD hS hl
      refine lv_iload_n hx hb dX3_widestOf_2 rfl (lv_at hl 0 rfl) ?_
      refine lv_aload_n hx hb dX3_widestOf_3 rfl (lv_at hl 1 rfl) ?_
      refine xget C hP 0 rfl rfl zuX3 0 (by decide) zw1_195 rfl dX3_widestOf_4 ?_
      refine lv_icmp_ge (tgt := 94) hx hb dX3_widestOf_7 (by decide) (fun c_2 => ?_) (fun c_2 => ?_)
      · -- 7 t
        have fc_2 : en ≤ e9 := nf_le (by omega) (by omega) c_2
        refine lv_iconst (v := nI 0) hx hb dX3_widestOf_94 (by decide) ?_
        exact xreti C () trivial hP hD hS (Nat.le_of_ble_eq_true rfl) (Nat.le_of_ble_eq_true rfl) rfl dX3_widestOf_95
      · -- 7 f
        have fc_2 : e9 < en := nf_nle (by omega) (by omega) c_2
        refine lv_iload_n hx hb dX3_widestOf_10 rfl (lv_at hl 2 rfl) ?_
        refine lv_iload_n hx hb dX3_widestOf_11 rfl (lv_at hl 0 rfl) ?_
        refine lv_ishr hx hb dX3_widestOf_12 ?_
        refine lv_iconst (v := nI 1) hx hb dX3_widestOf_13 (by decide) ?_
        refine lv_iand hx hb dX3_widestOf_14 ?_
        refine lv_iconst (v := nI 1) hx hb dX3_widestOf_15 (by decide) ?_
        refine lv_icmp_ne (tgt := 88) hx hb dX3_widestOf_16 (by decide) (fun c_3 => ?_) (fun c_3 => ?_)
        · -- 16 t
          refine lv_iinc (v := nI (e9 + 1)) (lv' := [(3, .int (nI (e9 + 1))), (0, .ref hgr), (1, .int x), (2, .int (nI fr))]) hx hb dX3_widestOf_88 hl (k := 0) rfl (nI_add e9 1) (by decide) rfl ?_
          clear hl
          try clear ls
          intro ls hl
          refine lv_goto (tgt := 2) hx hb dX3_widestOf_91 (by decide) ?_
          exact ih_loop_1 (e9 + 1) (by omega) (by omega) (by omega) H locs ls hP hD hS (lv_sub hl [0, 1, 2, 3] rfl)
        · -- 16 f
          refine lv_iload_n hx hb dX3_widestOf_19 rfl (lv_at hl 2 rfl) ?_
          refine lv_iconst (v := nI 1) hx hb dX3_widestOf_20 (by decide) ?_
          refine lv_iload_n hx hb dX3_widestOf_21 rfl (lv_at hl 0 rfl) ?_
          refine lv_ishl hx hb dX3_widestOf_22 ?_
          refine lv_iconst (v := (-1)) hx hb dX3_widestOf_23 (by decide) ?_
          refine lv_ixor hx hb dX3_widestOf_24 ?_
          refine lv_iand hx hb dX3_widestOf_25 ?_
          refine lv_istore (lv' := [(4, .int (x &&& (((nI 1) <<< ((nI e9) &&& 31)) ^^^ (-1)))), (3, .int (nI e9)), (0, .ref hgr), (1, .int x), (2, .int (nI fr))]) hx hb dX3_widestOf_26 hl (by decide) rfl ?_
          clear hl
          try clear ls
          intro ls hl
          refine lv_iload hx hb dX3_widestOf_28 (lv_at hl 0 rfl) ?_
          refine lv_aload_n hx hb dX3_widestOf_30 rfl (lv_at hl 2 rfl) ?_
          refine xget C hP 0 rfl rfl zuX3 4 (by decide) zw1_205 rfl dX3_widestOf_31 ?_
          refine lv_iload_n hx hb dX3_widestOf_34 rfl (lv_at hl 1 rfl) ?_
          refine xiald C hP 1 rfl e9 rfl (by omega) (by decide) dX3_widestOf_35 ?_
          refine lv_aload_n hx hb dX3_widestOf_36 rfl (lv_at hl 2 rfl) ?_
          refine xget C hP 0 rfl rfl zuX3 5 (by decide) zw1_207 rfl dX3_widestOf_37 ?_
          refine lv_iload_n hx hb dX3_widestOf_40 rfl (lv_at hl 1 rfl) ?_
          refine xiald C hP 2 rfl e9 rfl (by omega) (by decide) dX3_widestOf_41 ?_
          refine lv_ior hx hb dX3_widestOf_42 ?_
          refine lv_iconst (v := (-1)) hx hb dX3_widestOf_43 (by decide) ?_
          refine lv_ixor hx hb dX3_widestOf_44 ?_
          refine lv_iand hx hb dX3_widestOf_45 ?_
          refine lv_istore (lv' := [(5, .int ((x &&& (((nI 1) <<< ((nI e9) &&& 31)) ^^^ (-1))) &&& (((gaf e9) ||| (gpf e9)) ^^^ (-1)))), (4, .int (x &&& (((nI 1) <<< ((nI e9) &&& 31)) ^^^ (-1)))), (3, .int (nI e9)), (0, .ref hgr), (1, .int x), (2, .int (nI fr))]) hx hb dX3_widestOf_46 hl (by decide) rfl ?_
          clear hl
          try clear ls
          intro ls hl
          refine lv_iconst (v := nI 1) hx hb dX3_widestOf_48 (by decide) ?_
          refine lv_aload_n hx hb dX3_widestOf_49 rfl (lv_at hl 3 rfl) ?_
          refine lv_iload hx hb dX3_widestOf_50 (lv_at hl 0 rfl) ?_
          refine lv_iload_n hx hb dX3_widestOf_52 rfl (lv_at hl 2 rfl) ?_
          refine lv_iconst (v := nI 1) hx hb dX3_widestOf_53 (by decide) ?_
          refine lv_iadd hx hb dX3_widestOf_54 ?_
          refine lv_topi (nm_r (e' := nI (e9 + 1)) (nI_add _ _) ?_)
          refine xi (wr := []) (xS (As := [.ref hgr, .int ((x &&& (((nI 1) <<< ((nI e9) &&& 31)) ^^^ (-1))) &&& (((gaf e9) ||| (gpf e9)) ^^^ (-1))), .int (nI (e9 + 1))]) (rest := [.int (nI 1)]) C (c_X3_widestOf_15 l D cs hgr en gs g1r g2r gan gpr gde gme gaf gpf ((x &&& (((nI 1) <<< ((nI e9) &&& 31)) ^^^ (-1))) &&& (((gaf e9) ||| (gpf e9)) ^^^ (-1))) (e9 + 1) hen (by omega) (by omega)) kX3_60 hP hD [0, 1, 2] rfl (by decide) ⟨Nat.le_of_ble_eq_true rfl, Nat.le_of_ble_eq_true rfl⟩ rfl hl.1 rfl (Nat.le_of_ble_eq_true rfl) dX3_widestOf_55 ⟨Nat.le_of_ble_eq_true rfl, Nat.le_of_ble_eq_true rfl⟩) hP hD hS hA [0, 1, 2] [] rfl rfl (by decide) (by decide) ?_
          clear hP hD hS
          try clear locs
          try clear H
          intro r_4 u_5 H locs hw_r_4 hP hD hS
          refine W.widen (k := 0) (n := 0) (Nat.le_of_ble_eq_true rfl) (Nat.le_of_ble_eq_true rfl) ?_
          replace hP : va_P D vwCl [(hgr, .inr (3, [.int (nI en), .ref gs, .ref g1r, .ref g2r, .ref gan, .ref gpr, .ref gde, .ref gme])), (gan, .inl (cs 0, 16, .inl gaf)), (gpr, .inl (cs 0, 16, .inl gpf))] H := hP
          replace hD : va_D A [(hgr, .inr (3, [.int (nI en), .ref gs, .ref g1r, .ref g2r, .ref gan, .ref gpr, .ref gde, .ref gme])), (gan, .inl (cs 0, 16, .inl gaf)), (gpr, .inl (cs 0, 16, .inl gpf))] := hD
          refine lv_iadd hx hb dX3_widestOf_58 ?_
          refine lv_istore (lv' := [(6, .int ((nI 1) + r_4)), (5, .int ((x &&& (((nI 1) <<< ((nI e9) &&& 31)) ^^^ (-1))) &&& (((gaf e9) ||| (gpf e9)) ^^^ (-1)))), (4, .int (x &&& (((nI 1) <<< ((nI e9) &&& 31)) ^^^ (-1)))), (3, .int (nI e9)), (0, .ref hgr), (1, .int x), (2, .int (nI fr))]) hx hb dX3_widestOf_59 hl (by decide) rfl ?_
          clear hl
          try clear ls
          intro ls hl
          refine lv_iload hx hb dX3_widestOf_61 (lv_at hl 1 rfl) ?_
          refine lv_iload hx hb dX3_widestOf_63 (lv_at hl 2 rfl) ?_
          refine lv_icmp_ne (tgt := 73) hx hb dX3_widestOf_65 (by decide) (fun c_6 => ?_) (fun c_6 => ?_)
          · -- 65 t
            refine lv_iload hx hb dX3_widestOf_73 (lv_at hl 0 rfl) ?_
            refine lv_aload_n hx hb dX3_widestOf_75 rfl (lv_at hl 4 rfl) ?_
            refine lv_iload hx hb dX3_widestOf_76 (lv_at hl 2 rfl) ?_
            refine lv_iload_n hx hb dX3_widestOf_78 rfl (lv_at hl 3 rfl) ?_
            refine lv_iconst (v := nI 1) hx hb dX3_widestOf_79 (by decide) ?_
            refine lv_iadd hx hb dX3_widestOf_80 ?_
            refine lv_topi (nm_r (e' := nI (e9 + 1)) (nI_add _ _) ?_)
            refine xi (wr := []) (xS (As := [.ref hgr, .int (x &&& (((nI 1) <<< ((nI e9) &&& 31)) ^^^ (-1))), .int (nI (e9 + 1))]) (rest := [.int ((nI 1) + r_4)]) C (c_X3_widestOf_15 l D cs hgr en gs g1r g2r gan gpr gde gme gaf gpf (x &&& (((nI 1) <<< ((nI e9) &&& 31)) ^^^ (-1))) (e9 + 1) hen (by omega) (by omega)) kX3_60 hP hD [0, 1, 2] rfl (by decide) ⟨Nat.le_of_ble_eq_true rfl, Nat.le_of_ble_eq_true rfl⟩ rfl hl.1 rfl (Nat.le_of_ble_eq_true rfl) dX3_widestOf_81 ⟨Nat.le_of_ble_eq_true rfl, Nat.le_of_ble_eq_true rfl⟩) hP hD hS hA [0, 1, 2] [] rfl rfl (by decide) (by decide) ?_
            clear hP hD hS
            try clear locs
            try clear H
            intro r_7 u_8 H locs hw_r_7 hP hD hS
            refine W.widen (k := 0) (n := 0) (Nat.le_of_ble_eq_true rfl) (Nat.le_of_ble_eq_true rfl) ?_
            replace hP : va_P D vwCl [(hgr, .inr (3, [.int (nI en), .ref gs, .ref g1r, .ref g2r, .ref gan, .ref gpr, .ref gde, .ref gme])), (gan, .inl (cs 0, 16, .inl gaf)), (gpr, .inl (cs 0, 16, .inl gpf))] H := hP
            replace hD : va_D A [(hgr, .inr (3, [.int (nI en), .ref gs, .ref g1r, .ref g2r, .ref gan, .ref gpr, .ref gde, .ref gme])), (gan, .inl (cs 0, 16, .inl gaf)), (gpr, .inl (cs 0, 16, .inl gpf))] := hD
            refine va_mmax hx hb (C.2.2.1.trans hl.1.symm) hown (hz _ zw4_201) (hz _ zw4_202) (hz _ zw1_3) (hz _ zw4_203) (Nat.le_of_ble_eq_true rfl) (Nat.le_of_ble_eq_true rfl) (Nat.le_of_ble_eq_true rfl) (Nat.le_of_ble_eq_true rfl) dX3_widestOf_84 ?_
            exact xreti C () trivial hP hD hS (Nat.le_of_ble_eq_true rfl) (Nat.le_of_ble_eq_true rfl) rfl dX3_widestOf_87
          · -- 65 f
            refine lv_iload hx hb dX3_widestOf_68 (lv_at hl 0 rfl) ?_
            refine lv_goto (tgt := 87) hx hb dX3_widestOf_70 (by decide) ?_
            exact xreti C () trivial hP hD hS (Nat.le_of_ble_eq_true rfl) (Nat.le_of_ble_eq_true rfl) rfl dX3_widestOf_87
  exact loop_1 _ fr (by omega) (Nat.le_refl _) (Nat.lt_succ_self _) H locs ls hP hD hS (lv_sub hl [0, 1, 2, 3] rfl)

set_option maxHeartbeats 4000000 in
set_option maxRecDepth 100000 in
theorem c_X3_widest (l : Launch) (D : va_G) (cs : Nat → ClassId) (hgr en gs g1r g2r gan gpr gde gme : Nat) (gaf gpf : Nat → Int32) (hen : en ≤ 16) : xMet l D cs yX3_widest cX3_widest 1 (some .int) ({ frames := 17, cells := 0, slots := 0, locals := 442 } : Room) [.ref hgr] [(hgr, .inr (3, [.int (nI en), .ref gs, .ref g1r, .ref g2r, .ref gan, .ref gpr, .ref gde, .ref gme])), (gan, .inl (cs 0, 16, .inl gaf)), (gpr, .inl (cs 0, 16, .inl gpf))] (xQi D (fun (r : Int32) (_u : Unit) => True) (fun (_u : Unit) => [(hgr, .inr (3, [.int (nI en), .ref gs, .ref g1r, .ref g2r, .ref gan, .ref gpr, .ref gde, .ref gme])), (gan, .inl (cs 0, 16, .inl gaf)), (gpr, .inl (cs 0, 16, .inl gpf))])) := by
  refine xMet.intro (by decide) (Nat.le_of_ble_eq_true rfl) ?_
  intro p e s m args below meth c A ls C hP hD hS hl
  have hx := C.1
  have hb := C.2.1
  have hz := C.2.2.2.2.1
  have hown := C.2.2.2.1
  have hA := C.2.2.2.2.2.2.2.2.2
  have hAO := C.2.2.2.2.2.2.2.2.1.2.2
  replace hl : lv_has ls 1 [(0, .ref hgr)] := hl
  obtain ⟨H, hH⟩ : ∃ H, H = s.heap := ⟨_, rfl⟩
  replace hP : va_P D vwCl [(hgr, .inr (3, [.int (nI en), .ref gs, .ref g1r, .ref g2r, .ref gan, .ref gpr, .ref gde, .ref gme])), (gan, .inl (cs 0, 16, .inl gaf)), (gpr, .inl (cs 0, 16, .inl gpf))] H := by rw [hH]; exact hP
  replace hS : va_S A s.heap H [] := by rw [hH]; exact hS
  obtain ⟨locs, hlocs⟩ : ∃ z : List Loc, z = [] := ⟨_, rfl⟩
  rw [← hlocs] at hS
  suffices hW : W p l e ({ frames := 17, cells := 0, slots := 0, locals := 442 } : Room) s m args below meth c H locs 0 0 (MQ below ((xQi D (fun (r : Int32) (_u : Unit) => True) (fun (_u : Unit) => [(hgr, .inr (3, [.int (nI en), .ref gs, .ref g1r, .ref g2r, .ref gan, .ref gpr, .ref gde, .ref gme])), (gan, .inl (cs 0, 16, .inl gaf)), (gpr, .inl (cs 0, 16, .inl gpf))])) A) args s 0 0 A) (F0 m 0 ls []) by rw [hlocs, hH] at hW; exact hW
  clear hH hlocs
  refine lv_aload_n hx hb dX3_widest_0 rfl (lv_at hl 0 rfl) ?_
  refine lv_iconst (v := nI 1) hx hb dX3_widest_1 (by decide) ?_
  refine lv_aload_n hx hb dX3_widest_2 rfl (lv_at hl 0 rfl) ?_
  refine xget C hP 0 rfl rfl zuX3 0 (by decide) zw1_195 rfl dX3_widest_3 ?_
  refine lv_ishl hx hb dX3_widest_6 ?_
  refine lv_iconst (v := nI 1) hx hb dX3_widest_7 (by decide) ?_
  refine lv_isub hx hb dX3_widest_8 ?_
  refine lv_iconst (v := nI 0) hx hb dX3_widest_9 (by decide) ?_
  refine xi (wr := []) (xS (As := [.ref hgr, .int (((nI 1) <<< ((nI en) &&& 31)) - (nI 1)), .int (nI 0)]) (rest := []) C (c_X3_widestOf_16 l D cs hgr en gs g1r g2r gan gpr gde gme gaf gpf (((nI 1) <<< ((nI en) &&& 31)) - (nI 1)) 0 hen (by decide) (by omega)) kX3_60 hP hD [0, 1, 2] rfl (by decide) ⟨Nat.le_of_ble_eq_true rfl, Nat.le_of_ble_eq_true rfl⟩ rfl hl.1 rfl (Nat.le_of_ble_eq_true rfl) dX3_widest_10 ⟨Nat.le_of_ble_eq_true rfl, Nat.le_of_ble_eq_true rfl⟩) hP hD hS hA [0, 1, 2] [] rfl rfl (by decide) (by decide) ?_
  clear hP hD hS
  try clear locs
  try clear H
  intro r_1 u_2 H locs hw_r_1 hP hD hS
  refine W.widen (k := 0) (n := 0) (Nat.le_of_ble_eq_true rfl) (Nat.le_of_ble_eq_true rfl) ?_
  replace hP : va_P D vwCl [(hgr, .inr (3, [.int (nI en), .ref gs, .ref g1r, .ref g2r, .ref gan, .ref gpr, .ref gde, .ref gme])), (gan, .inl (cs 0, 16, .inl gaf)), (gpr, .inl (cs 0, 16, .inl gpf))] H := hP
  replace hD : va_D A [(hgr, .inr (3, [.int (nI en), .ref gs, .ref g1r, .ref g2r, .ref gan, .ref gpr, .ref gde, .ref gme])), (gan, .inl (cs 0, 16, .inl gaf)), (gpr, .inl (cs 0, 16, .inl gpf))] := hD
  exact xreti C () trivial hP hD hS (Nat.le_of_ble_eq_true rfl) (Nat.le_of_ble_eq_true rfl) rfl dX3_widest_13
