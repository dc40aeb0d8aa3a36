set_option maxHeartbeats 4000000 in
set_option maxRecDepth 100000 in
theorem c_X11_draw_f (l : Launch) (D : va_G) (cs : Nat → ClassId) (h0 hr hg hgr ha hpo hly hse hc pa spr qm ke nk : Nat) (pm dr ver : Int32) (x : Int32) : xMet l D cs yX11_draw cX11_draw 2 (some .int) ({ frames := 0, cells := 0, slots := 0, locals := 0 } : Room) [.ref h0, .int x] [(h0, .inr (11, [.ref hr, .ref hg, .ref hgr, .ref ha, .ref hpo, .ref hly, .ref hse, .ref hc, .ref pa, .ref spr, .ref qm, .int pm, .int (nI ke), .int (nI nk), .int dr, .int ver]))] (xQi D (fun (r : Int32) (dz : Int32) => dz = nxD dr ∧ r = (if nI 1 ≤ x then drV (nxD dr) x else nI 0)) (fun (dz : Int32) => [(h0, .inr (11, [.ref hr, .ref hg, .ref hgr, .ref ha, .ref hpo, .ref hly, .ref hse, .ref hc, .ref pa, .ref spr, .ref qm, .int pm, .int (nI ke), .int (nI nk), .int dz, .int ver]))])) := by
  refine xMet.intro (by decide) (Nat.le_of_ble_eq_true rfl) ?_
  intro p e s m args below meth c A ls C hP hD hS hl
  have hx := C.1
  have hb := C.2.1
  have hz := C.2.2.2.2.1
  have hown := C.2.2.2.1
  have hA := C.2.2.2.2.2.2.2.2.2
  have hAO := C.2.2.2.2.2.2.2.2.1.2.2
  replace hl : lv_has ls 2 [(0, .ref h0), (1, .int x)] := hl
  obtain ⟨H, hH⟩ : ∃ H, H = s.heap := ⟨_, rfl⟩
  replace hP : va_P D vwCl [(h0, .inr (11, [.ref hr, .ref hg, .ref hgr, .ref ha, .ref hpo, .ref hly, .ref hse, .ref hc, .ref pa, .ref spr, .ref qm, .int pm, .int (nI ke), .int (nI nk), .int dr, .int ver]))] H := by rw [hH]; exact hP
  replace hS : va_S A s.heap H [] := by rw [hH]; exact hS
  obtain ⟨locs, hlocs⟩ : ∃ z : List Loc, z = [] := ⟨_, rfl⟩
  rw [← hlocs] at hS
  suffices hW : W p l e ({ frames := 0, cells := 0, slots := 0, locals := 0 } : Room) s m args below meth c H locs 0 0 (MQ below ((xQi D (fun (r : Int32) (dz : Int32) => dz = nxD dr ∧ r = (if nI 1 ≤ x then drV (nxD dr) x else nI 0)) (fun (dz : Int32) => [(h0, .inr (11, [.ref hr, .ref hg, .ref hgr, .ref ha, .ref hpo, .ref hly, .ref hse, .ref hc, .ref pa, .ref spr, .ref qm, .int pm, .int (nI ke), .int (nI nk), .int dz, .int ver]))])) A) args s 0 0 A) (F0 m 0 ls []) by rw [hlocs, hH] at hW; exact hW
  clear hH hlocs
  refine lv_aload_n hx hb dX11_draw_0 rfl (lv_at hl 0 rfl) ?_
  refine lv_aload_n hx hb dX11_draw_1 rfl (lv_at hl 0 rfl) ?_
  refine xget C hP 0 rfl rfl zuX11 14 (by decide) zw2_169 rfl dX11_draw_2 ?_
  refine lv_ldcw (v := nI 1103515245) hx hb hown (hz _ zw3_118) dX11_draw_5 ?_
  refine lv_imul hx hb dX11_draw_8 ?_
  refine lv_sipush (v := nI 12345) hx hb dX11_draw_9 (by decide) ?_
  refine lv_iadd hx hb dX11_draw_12 ?_
  refine xput C hP hD hS 0 rfl rfl zuX11 tyX11 tyX11_ok nmX11 14 (by decide) zw2_169 rfl rfl rfl (Nat.le_of_ble_eq_true rfl) dX11_draw_13 ?_
  clear hP hD hS
  try clear locs
  try clear H
  intro H locs hP hD hS
  replace hP : va_P D vwCl [(h0, .inr (11, [.ref hr, .ref hg, .ref hgr, .ref ha, .ref hpo, .ref hly, .ref hse, .ref hc, .ref pa, .ref spr, .ref qm, .int pm, .int (nI ke), .int (nI nk), .int ((dr * (nI 1103515245)) + (nI 12345)), .int ver]))] H := hP
  replace hD : va_D A [(h0, .inr (11, [.ref hr, .ref hg, .ref hgr, .ref ha, .ref hpo, .ref hly, .ref hse, .ref hc, .ref pa, .ref spr, .ref qm, .int pm, .int (nI ke), .int (nI nk), .int ((dr * (nI 1103515245)) + (nI 12345)), .int ver]))] := hD
  refine lv_iload_n hx hb dX11_draw_16 rfl (lv_at hl 1 rfl) ?_
  refine lv_iconst (v := nI 1) hx hb dX11_draw_17 (by decide) ?_
  refine lv_icmp_ge (tgt := 25) hx hb dX11_draw_18 (by decide) (fun c_1 => ?_) (fun c_1 => ?_)
  · -- 18 t
    have hne : ¬ x = 0 := fun q => by rw [q] at c_1; exact absurd c_1 (by decide)
    refine lv_aload_n hx hb dX11_draw_25 rfl (lv_at hl 0 rfl) ?_
    refine xget C hP 0 rfl rfl zuX11 14 (by decide) zw2_169 rfl dX11_draw_26 ?_
    refine lv_bipush (v := nI 8) hx hb dX11_draw_29 (by decide) ?_
    refine lv_iushr hx hb dX11_draw_31 rfl ?_
    refine lv_iload_n hx hb dX11_draw_32 rfl (lv_at hl 1 rfl) ?_
    refine lv_irem hx hb dX11_draw_33 hne ?_
    exact xreti C ((dr * (nI 1103515245)) + (nI 12345)) (⟨rfl, (if_pos c_1).symm⟩) hP hD hS (Nat.le_of_ble_eq_true rfl) (Nat.le_of_ble_eq_true rfl) rfl dX11_draw_34
  · -- 18 f
    refine lv_iconst (v := nI 0) hx hb dX11_draw_21 (by decide) ?_
    refine lv_goto (tgt := 34) hx hb dX11_draw_22 (by decide) ?_
    exact xreti C ((dr * (nI 1103515245)) + (nI 12345)) (⟨rfl, (if_neg c_1).symm⟩) hP hD hS (Nat.le_of_ble_eq_true rfl) (Nat.le_of_ble_eq_true rfl) rfl dX11_draw_34

set_option maxHeartbeats 4000000 in
set_option maxRecDepth 100000 in
theorem c_X11_bitAt_f (l : Launch) (D : va_G) (cs : Nat → ClassId) (x y : Int32) : xMet l D cs yX11_bitAt cX11_bitAt 4 (some .int) ({ frames := 0, cells := 0, slots := 0, locals := 0 } : Room) [.int x, .int y] [] (xQi D (fun (r : Int32) (_u : Unit) => r = nI (nthB x 31 y)) (fun (_u : Unit) => [])) := by
  refine xMet.intro (by decide) (Nat.le_of_ble_eq_true rfl) ?_
  intro p e s m args below meth c A ls C hP hD hS hl
  have hx := C.1
  have hb := C.2.1
  have hz := C.2.2.2.2.1
  have hown := C.2.2.2.1
  have hA := C.2.2.2.2.2.2.2.2.2
  have hAO := C.2.2.2.2.2.2.2.2.1.2.2
  replace hl : lv_has ls 4 [(0, .int x), (1, .int y)] := hl
  obtain ⟨H, hH⟩ : ∃ H, H = s.heap := ⟨_, rfl⟩
  replace hP : va_P D vwCl [] H := by rw [hH]; exact hP
  replace hS : va_S A s.heap H [] := by rw [hH]; exact hS
  obtain ⟨locs, hlocs⟩ : ∃ z : List Loc, z = [] := ⟨_, rfl⟩
  rw [← hlocs] at hS
  suffices hW : W p l e ({ frames := 0, cells := 0, slots := 0, locals := 0 } : Room) s m args below meth c H locs 0 0 (MQ below ((xQi D (fun (r : Int32) (_u : Unit) => r = nI (nthB x 31 y)) (fun (_u : Unit) => [])) A) args s 0 0 A) (F0 m 0 ls []) by rw [hlocs, hH] at hW; exact hW
  clear hH hlocs
  refine lv_iload_n hx hb dX11_bitAt_0 rfl (lv_at hl 1 rfl) ?_
  refine lv_istore_n (lv' := [(2, .int y), (0, .int x), (1, .int y)]) hx hb dX11_bitAt_1 rfl hl (by decide) rfl ?_
  clear hl
  try clear ls
  intro ls hl
  refine lv_iconst (v := nI 0) hx hb dX11_bitAt_2 (by decide) ?_
  refine lv_istore_n (lv' := [(3, .int (nI 0)), (2, .int y), (0, .int x), (1, .int y)]) hx hb dX11_bitAt_3 rfl hl (by decide) rfl ?_
  clear hl
  try clear ls
  intro ls hl
  have loop_1 : ∀ (n_loop_1 : Nat) (o : Nat) (sk : Int32), (o ≤ 31) → (nthB x (31 - o) sk = nthB x 31 y) → 31 - o < n_loop_1 → ∀ (H : Heap) (locs : List Loc) (ls : Array Slot), va_P D vwCl [] H → va_D A [] → va_S A s.heap H locs → lv_has ls 4 [(3, .int (nI o)), (2, .int sk), (0, .int x), (1, .int y)] → W p l e ({ frames := 0, cells := 0, slots := 0, locals := 0 } : Room) s m args below meth c H locs 0 0 (MQ below ((xQi D (fun (r : Int32) (_u : Unit) => r = nI (nthB x 31 y)) (fun (_u : Unit) => [])) A) args s 0 0 A) (F0 m 4 ls []) := by
    intro n_loop_1
    induction n_loop_1 with
    | zero => intro o sk h_o hi9 hlt H locs ls hP hD hS hl; exact absurd hlt (Nat.not_lt_zero _)
    | succ n_loop_1 ih_loop_1 =>
      intro o sk h_o hi9 hlt_loop_1 H locs ls hP hD hS hl
      refine lv_iload_n hx hb dX11_bitAt_4 rfl (lv_at hl 0 rfl) ?_
      refine lv_bipush (v := nI 31) hx hb dX11_bitAt_5 (by decide) ?_
      refine lv_icmp_ge (tgt := 34) hx hb dX11_bitAt_7 (by decide) (fun c_2 => ?_) (fun c_2 => ?_)
      · -- 7 t
        have fc_2 : 31 ≤ o := nf_le (by omega) (by omega) c_2
        refine lv_iconst (v := nI 0) hx hb dX11_bitAt_34 (by decide) ?_
        exact xreti C () (by rw [← hi9, show 31 - o = 0 by omega]; rfl) hP hD hS (Nat.le_of_ble_eq_true rfl) (Nat.le_of_ble_eq_true rfl) rfl dX11_bitAt_35
      · -- 7 f
        have fc_2 : o < 31 := nf_nle (by omega) (by omega) c_2
        refine lv_iload_n hx hb dX11_bitAt_10 rfl (lv_at hl 2 rfl) ?_
        refine lv_iload_n hx hb dX11_bitAt_11 rfl (lv_at hl 0 rfl) ?_
        refine lv_ishr hx hb dX11_bitAt_12 ?_
        refine lv_iconst (v := nI 1) hx hb dX11_bitAt_13 (by decide) ?_
        refine lv_iand hx hb dX11_bitAt_14 ?_
        refine lv_iconst (v := nI 1) hx hb dX11_bitAt_15 (by decide) ?_
        refine lv_icmp_ne (tgt := 28) hx hb dX11_bitAt_16 (by decide) (fun c_3 => ?_) (fun c_3 => ?_)
        · -- 16 t
          refine lv_iinc (v := nI (o + 1)) (lv' := [(3, .int (nI (o + 1))), (2, .int sk), (0, .int x), (1, .int y)]) hx hb dX11_bitAt_28 hl (k := 0) rfl (nI_add o 1) (by decide) rfl ?_
          clear hl
          try clear ls
          intro ls hl
          refine lv_goto (tgt := 4) hx hb dX11_bitAt_31 (by decide) ?_
          exact ih_loop_1 (o + 1) sk (by omega) ((nthB_no (by omega) c_3).symm.trans hi9) (by omega) H locs ls hP hD hS (lv_sub hl [0, 1, 2, 3] rfl)
        · -- 16 f
          refine lv_iload_n hx hb dX11_bitAt_19 rfl (lv_at hl 1 rfl) ?_
          refine lv_if_ne (tgt := 25) hx hb dX11_bitAt_20 (by decide) (fun c_4 => ?_) (fun c_4 => ?_)
          · -- 20 t
            refine lv_iinc (v := sk + (-1)) (lv' := [(2, .int (sk + (-1))), (3, .int (nI o)), (0, .int x), (1, .int y)]) hx hb dX11_bitAt_25 hl (k := 1) rfl rfl (by decide) rfl ?_
            clear hl
            try clear ls
            intro ls hl
            refine lv_iinc (v := nI (o + 1)) (lv' := [(3, .int (nI (o + 1))), (2, .int (sk + (-1))), (0, .int x), (1, .int y)]) hx hb dX11_bitAt_28 hl (k := 1) rfl (nI_add o 1) (by decide) rfl ?_
            clear hl
            try clear ls
            intro ls hl
            refine lv_goto (tgt := 4) hx hb dX11_bitAt_31 (by decide) ?_
            exact ih_loop_1 (o + 1) (sk + (-1)) (by omega) ((nthB_yes (by omega) c_3 c_4).symm.trans hi9) (by omega) H locs ls hP hD hS (lv_sub hl [0, 1, 2, 3] rfl)
          · -- 20 f
            refine lv_iload_n hx hb dX11_bitAt_23 rfl (lv_at hl 0 rfl) ?_
            exact xreti C () (by rw [← hi9, nthB_at (by omega) c_3 c_4]) hP hD hS (Nat.le_of_ble_eq_true rfl) (Nat.le_of_ble_eq_true rfl) rfl dX11_bitAt_24
  exact loop_1 _ 0 y (by omega) rfl (Nat.lt_succ_self _) H locs ls hP hD hS (lv_sub hl [0, 1, 2, 3] rfl)

set_option maxHeartbeats 4000000 in
set_option maxRecDepth 100000 in
theorem c_X11_drawSample_f (l : Launch) (D : va_G) (cs : Nat → ClassId) (h0 hr hg hgr ha hpo hly hse hc pa spr qm ke nk : Nat) (pm dr ver : Int32) (sm ca n k al be se : Nat) (ea pr : Int32) (i0 : Nat) (hn : n ≤ 8) (hk : k < n) : xMet l D cs yX11_drawSample cX11_drawSample 6 (some .int) ({ frames := 1, cells := 0, slots := 0, locals := 23 } : Room) [.ref h0, .int (nI i0)] [(h0, .inr (11, [.ref hr, .ref hg, .ref hgr, .ref ha, .ref hpo, .ref hly, .ref hse, .ref hc, .ref pa, .ref spr, .ref qm, .int pm, .int (nI ke), .int (nI nk), .int dr, .int ver])), (hr, .inr (7, [.int (nI n), .int (nI k), .int (nI al), .int (nI be), .int ea, .int pr, .ref sm, .int (nI se), .ref ca]))] (xQi D (fun (r : Int32) (dz : Int32) => ∃ l9, dsI n (dr, lefI n i0, nI 0) k dz l9 r) (fun (dz : Int32) => [(h0, .inr (11, [.ref hr, .ref hg, .ref hgr, .ref ha, .ref hpo, .ref hly, .ref hse, .ref hc, .ref pa, .ref spr, .ref qm, .int pm, .int (nI ke), .int (nI nk), .int dz, .int ver])), (hr, .inr (7, [.int (nI n), .int (nI k), .int (nI al), .int (nI be), .int ea, .int pr, .ref sm, .int (nI se), .ref ca]))])) := by
  refine xMet.intro (by decide) (Nat.le_of_ble_eq_true rfl) ?_
  intro p e s m args below meth c A ls C hP hD hS hl
  have hx := C.1
  have hb := C.2.1
  have hz := C.2.2.2.2.1
  have hown := C.2.2.2.1
  have hA := C.2.2.2.2.2.2.2.2.2
  have hAO := C.2.2.2.2.2.2.2.2.1.2.2
  replace hl : lv_has ls 6 [(0, .ref h0), (1, .int (nI i0))] := hl
  obtain ⟨H, hH⟩ : ∃ H, H = s.heap := ⟨_, rfl⟩
  replace hP : va_P D vwCl [(h0, .inr (11, [.ref hr, .ref hg, .ref hgr, .ref ha, .ref hpo, .ref hly, .ref hse, .ref hc, .ref pa, .ref spr, .ref qm, .int pm, .int (nI ke), .int (nI nk), .int dr, .int ver])), (hr, .inr (7, [.int (nI n), .int (nI k), .int (nI al), .int (nI be), .int ea, .int pr, .ref sm, .int (nI se), .ref ca]))] H := by rw [hH]; exact hP
  replace hS : va_S A s.heap H [] := by rw [hH]; exact hS
  obtain ⟨locs, hlocs⟩ : ∃ z : List Loc, z = [] := ⟨_, rfl⟩
  rw [← hlocs] at hS
  suffices hW : W p l e ({ frames := 1, cells := 0, slots := 0, locals := 23 } : Room) s m args below meth c H locs 0 0 (MQ below ((xQi D (fun (r : Int32) (dz : Int32) => ∃ l9, dsI n (dr, lefI n i0, nI 0) k dz l9 r) (fun (dz : Int32) => [(h0, .inr (11, [.ref hr, .ref hg, .ref hgr, .ref ha, .ref hpo, .ref hly, .ref hse, .ref hc, .ref pa, .ref spr, .ref qm, .int pm, .int (nI ke), .int (nI nk), .int dz, .int ver])), (hr, .inr (7, [.int (nI n), .int (nI k), .int (nI al), .int (nI be), .int ea, .int pr, .ref sm, .int (nI se), .ref ca]))])) A) args s 0 0 A) (F0 m 0 ls []) by rw [hlocs, hH] at hW; exact hW
  clear hH hlocs
  refine lv_aload_n hx hb dX11_drawSample_0 rfl (lv_at hl 0 rfl) ?_
  refine xget C hP 0 rfl rfl zuX11 0 (by decide) zw2_155 rfl dX11_drawSample_1 ?_
  refine xi (wr := [(h0, .inr (11, [.ref hr, .ref hg, .ref hgr, .ref ha, .ref hpo, .ref hly, .ref hse, .ref hc, .ref pa, .ref spr, .ref qm, .int pm, .int (nI ke), .int (nI nk), .int dr, .int ver]))]) (xV (As := []) (rest := []) C (c_X7_allNodes l D cs hr sm ca n k al be ea pr (nI se) hn) kX11_419 hP hD [1] rfl (by decide) 0 rfl rfl rfl ⟨Nat.le_of_ble_eq_true rfl, Nat.le_of_ble_eq_true rfl⟩ rfl hl.1 rfl (Nat.le_of_ble_eq_true rfl) dX11_drawSample_4 ⟨Nat.le_of_ble_eq_true rfl, Nat.le_of_ble_eq_true rfl⟩) hP hD hS hA [1] [0] rfl rfl (by decide) (by decide) ?_
  clear hP hD hS
  try clear locs
  try clear H
  intro r_1 u_2 H locs hw_r_1 hP hD hS
  have hw_r_1 : r_1 = nI (2 ^ n - 1) := hw_r_1
  refine W.widen (k := 0) (n := 0) (Nat.le_of_ble_eq_true rfl) (Nat.le_of_ble_eq_true rfl) ?_
  replace hP : va_P D vwCl [(h0, .inr (11, [.ref hr, .ref hg, .ref hgr, .ref ha, .ref hpo, .ref hly, .ref hse, .ref hc, .ref pa, .ref spr, .ref qm, .int pm, .int (nI ke), .int (nI nk), .int dr, .int ver])), (hr, .inr (7, [.int (nI n), .int (nI k), .int (nI al), .int (nI be), .int ea, .int pr, .ref sm, .int (nI se), .ref ca]))] H := hP
  replace hD : va_D A [(h0, .inr (11, [.ref hr, .ref hg, .ref hgr, .ref ha, .ref hpo, .ref hly, .ref hse, .ref hc, .ref pa, .ref spr, .ref qm, .int pm, .int (nI ke), .int (nI nk), .int dr, .int ver])), (hr, .inr (7, [.int (nI n), .int (nI k), .int (nI al), .int (nI be), .int ea, .int pr, .ref sm, .int (nI se), .ref ca]))] := hD
  obtain rfl : r_1 = nI (2 ^ n - 1) := hw_r_1
  refine lv_iconst (v := nI 1) hx hb dX11_drawSample_7 (by decide) ?_
  refine lv_iload_n hx hb dX11_drawSample_8 rfl (lv_at hl 1 rfl) ?_
  refine lv_ishl hx hb dX11_drawSample_9 ?_
  refine lv_iconst (v := (-1)) hx hb dX11_drawSample_10 (by decide) ?_
  refine lv_ixor hx hb dX11_drawSample_11 ?_
  refine lv_iand hx hb dX11_drawSample_12 ?_
  refine lv_topi (nm_r (e' := lefI n i0) (lefI_c hn) ?_)
  refine lv_istore_n (lv' := [(2, .int (lefI n i0)), (0, .ref h0), (1, .int (nI i0))]) hx hb dX11_drawSample_13 rfl hl (by decide) rfl ?_
  clear hl
  try clear ls
  intro ls hl
  refine lv_iconst (v := nI 0) hx hb dX11_drawSample_14 (by decide) ?_
  refine lv_istore_n (lv' := [(3, .int (nI 0)), (2, .int (lefI n i0)), (0, .ref h0), (1, .int (nI i0))]) hx hb dX11_drawSample_15 rfl hl (by decide) rfl ?_
  clear hl
  try clear ls
  intro ls hl
  refine lv_iconst (v := nI 0) hx hb dX11_drawSample_16 (by decide) ?_
  refine lv_istore (lv' := [(4, .int (nI 0)), (3, .int (nI 0)), (2, .int (lefI n i0)), (0, .ref h0), (1, .int (nI i0))]) hx hb dX11_drawSample_17 hl (by decide) rfl ?_
  clear hl
  try clear ls
  intro ls hl
  have loop_3 : ∀ (n_loop_3 : Nat) (o : Nat) (d9 : Int32) (l9 : Int32) (s9 : Int32), (o ≤ k) → (dsI n (dr, lefI n i0, nI 0) o d9 l9 s9) → k - o < n_loop_3 → ∀ (H : Heap) (locs : List Loc) (ls : Array Slot), va_P D vwCl [(h0, .inr (11, [.ref hr, .ref hg, .ref hgr, .ref ha, .ref hpo, .ref hly, .ref hse, .ref hc, .ref pa, .ref spr, .ref qm, .int pm, .int (nI ke), .int (nI nk), .int d9, .int ver])), (hr, .inr (7, [.int (nI n), .int (nI k), .int (nI al), .int (nI be), .int ea, .int pr, .ref sm, .int (nI se), .ref ca]))] H → va_D A [(h0, .inr (11, [.ref hr, .ref hg, .ref hgr, .ref ha, .ref hpo, .ref hly, .ref hse, .ref hc, .ref pa, .ref spr, .ref qm, .int pm, .int (nI ke), .int (nI nk), .int d9, .int ver])), (hr, .inr (7, [.int (nI n), .int (nI k), .int (nI al), .int (nI be), .int ea, .int pr, .ref sm, .int (nI se), .ref ca]))] → va_S A s.heap H locs → lv_has ls 6 [(4, .int (nI o)), (3, .int s9), (2, .int l9), (0, .ref h0), (1, .int (nI i0))] → W p l e ({ frames := 1, cells := 0, slots := 0, locals := 23 } : Room) s m args below meth c H locs 0 0 (MQ below ((xQi D (fun (r : Int32) (dz : Int32) => ∃ l9, dsI n (dr, lefI n i0, nI 0) k dz l9 r) (fun (dz : Int32) => [(h0, .inr (11, [.ref hr, .ref hg, .ref hgr, .ref ha, .ref hpo, .ref hly, .ref hse, .ref hc, .ref pa, .ref spr, .ref qm, .int pm, .int (nI ke), .int (nI nk), .int dz, .int ver])), (hr, .inr (7, [.int (nI n), .int (nI k), .int (nI al), .int (nI be), .int ea, .int pr, .ref sm, .int (nI se), .ref ca]))])) A) args s 0 0 A) (F0 m 19 ls []) := by
    intro n_loop_3
    induction n_loop_3 with
    | zero => intro o d9 l9 s9 h_o hd9 hlt H locs ls hP hD hS hl; exact absurd hlt (Nat.not_lt_zero _)
    | succ n_loop_3 ih_loop_3 =>
      intro o d9 l9 s9 h_o hd9 hlt_loop_3 H locs ls hP hD hS hl
      refine lv_iload hx hb dX11_drawSample_19 (lv_at hl 0 rfl) ?_
      refine lv_aload_n hx hb dX11_drawSample_21 rfl (lv_at hl 3 rfl) ?_
      refine xget C hP 0 rfl rfl zuX11 0 (by decide) zw2_155 rfl dX11_drawSample_22 ?_
      refine xget C hP 1 rfl rfl zuX7 1 (by decide) zw1_84 rfl dX11_drawSample_25 ?_
      refine lv_icmp_ge (tgt := 73) hx hb dX11_drawSample_28 (by decide) (fun c_4 => ?_) (fun c_4 => ?_)
      · -- 28 t
        have fc_4 : k ≤ o := nf_le (by omega) (by omega) c_4
        refine lv_iload_n hx hb dX11_drawSample_73 rfl (lv_at hl 1 rfl) ?_
        exact xreti C d9 (⟨l9, by have qq : o = k := (by omega); rw [← qq]; exact hd9⟩) hP hD hS (Nat.le_of_ble_eq_true rfl) (Nat.le_of_ble_eq_true rfl) rfl dX11_drawSample_74
      · -- 28 f
        have fc_4 : o < k := nf_nle (by omega) (by omega) c_4
        refine lv_iconst (v := nI 1) hx hb dX11_drawSample_31 (by decide) ?_
        refine lv_iload_n hx hb dX11_drawSample_32 rfl (lv_at hl 2 rfl) ?_
        refine lv_aload_n hx hb dX11_drawSample_33 rfl (lv_at hl 3 rfl) ?_
        refine lv_aload_n hx hb dX11_drawSample_34 rfl (lv_at hl 3 rfl) ?_
        refine xget C hP 0 rfl rfl zuX11 0 (by decide) zw2_155 rfl dX11_drawSample_35 ?_
        refine xget C hP 1 rfl rfl zuX7 0 (by decide) zw1_82 rfl dX11_drawSample_38 ?_
        refine lv_iconst (v := nI 1) hx hb dX11_drawSample_41 (by decide) ?_
        refine lv_isub hx hb dX11_drawSample_42 ?_
        refine lv_iload hx hb dX11_drawSample_43 (lv_at hl 0 rfl) ?_
        refine lv_isub hx hb dX11_drawSample_45 ?_
        refine xi (wr := [(hr, .inr (7, [.int (nI n), .int (nI k), .int (nI al), .int (nI be), .int ea, .int pr, .ref sm, .int (nI se), .ref ca]))]) (xV (As := [.int (((nI n) - (nI 1)) - (nI o))]) (rest := [.int l9, .int (nI 1)]) C (c_X11_draw_f l D cs h0 hr hg hgr ha hpo hly hse hc pa spr qm ke nk pm d9 ver (((nI n) - (nI 1)) - (nI o))) kX11_178 hP hD [0] rfl (by decide) 0 rfl rfl rfl ⟨Nat.le_of_ble_eq_true rfl, Nat.le_of_ble_eq_true rfl⟩ rfl hl.1 rfl (Nat.le_of_ble_eq_true rfl) dX11_drawSample_46 ⟨Nat.le_of_ble_eq_true rfl, Nat.le_of_ble_eq_true rfl⟩) hP hD hS hA [0] [1] rfl rfl (by decide) (by decide) ?_
        clear hP hD hS
        try clear locs
        try clear H
        intro r_5 u_6 H locs hw_r_5 hP hD hS
        have hw_r_5 : u_6 = nxD d9 ∧ r_5 = (if nI 1 ≤ (((nI n) - (nI 1)) - (nI o)) then drV (nxD d9) (((nI n) - (nI 1)) - (nI o)) else nI 0) := hw_r_5
        refine W.widen (k := 0) (n := 0) (Nat.le_of_ble_eq_true rfl) (Nat.le_of_ble_eq_true rfl) ?_
        replace hP : va_P D vwCl [(hr, .inr (7, [.int (nI n), .int (nI k), .int (nI al), .int (nI be), .int ea, .int pr, .ref sm, .int (nI se), .ref ca])), (h0, .inr (11, [.ref hr, .ref hg, .ref hgr, .ref ha, .ref hpo, .ref hly, .ref hse, .ref hc, .ref pa, .ref spr, .ref qm, .int pm, .int (nI ke), .int (nI nk), .int u_6, .int ver]))] H := hP
        replace hD : va_D A [(hr, .inr (7, [.int (nI n), .int (nI k), .int (nI al), .int (nI be), .int ea, .int pr, .ref sm, .int (nI se), .ref ca])), (h0, .inr (11, [.ref hr, .ref hg, .ref hgr, .ref ha, .ref hpo, .ref hly, .ref hse, .ref hc, .ref pa, .ref spr, .ref qm, .int pm, .int (nI ke), .int (nI nk), .int u_6, .int ver]))] := hD
        refine xi (wr := [(hr, .inr (7, [.int (nI n), .int (nI k), .int (nI al), .int (nI be), .int ea, .int pr, .ref sm, .int (nI se), .ref ca])), (h0, .inr (11, [.ref hr, .ref hg, .ref hgr, .ref ha, .ref hpo, .ref hly, .ref hse, .ref hc, .ref pa, .ref spr, .ref qm, .int pm, .int (nI ke), .int (nI nk), .int u_6, .int ver]))]) (xS (As := [.int l9, .int r_5]) (rest := [.int (nI 1)]) C (c_X11_bitAt_f l D cs l9 r_5) kX11_313 hP hD [] rfl (by decide) ⟨Nat.le_of_ble_eq_true rfl, Nat.le_of_ble_eq_true rfl⟩ rfl hl.1 rfl (Nat.le_of_ble_eq_true rfl) dX11_drawSample_49 ⟨Nat.le_of_ble_eq_true rfl, Nat.le_of_ble_eq_true rfl⟩) hP hD hS hA [] [0, 1] rfl rfl (by decide) (by decide) ?_
        clear hP hD hS
        try clear locs
        try clear H
        intro r_7 u_8 H locs hw_r_7 hP hD hS
        have hw_r_7 : r_7 = nI (nthB l9 31 r_5) := hw_r_7
        refine W.widen (k := 0) (n := 0) (Nat.le_of_ble_eq_true rfl) (Nat.le_of_ble_eq_true rfl) ?_
        replace hP : va_P D vwCl [(hr, .inr (7, [.int (nI n), .int (nI k), .int (nI al), .int (nI be), .int ea, .int pr, .ref sm, .int (nI se), .ref ca])), (h0, .inr (11, [.ref hr, .ref hg, .ref hgr, .ref ha, .ref hpo, .ref hly, .ref hse, .ref hc, .ref pa, .ref spr, .ref qm, .int pm, .int (nI ke), .int (nI nk), .int u_6, .int ver]))] H := hP
        replace hD : va_D A [(hr, .inr (7, [.int (nI n), .int (nI k), .int (nI al), .int (nI be), .int ea, .int pr, .ref sm, .int (nI se), .ref ca])), (h0, .inr (11, [.ref hr, .ref hg, .ref hgr, .ref ha, .ref hpo, .ref hly, .ref hse, .ref hc, .ref pa, .ref spr, .ref qm, .int pm, .int (nI ke), .int (nI nk), .int u_6, .int ver]))] := hD
        obtain rfl : r_7 = nI (nthB l9 31 r_5) := hw_r_7
        refine lv_ishl hx hb dX11_drawSample_52 ?_
        refine lv_istore (lv' := [(5, .int ((nI 1) <<< ((nI (nthB l9 31 r_5)) &&& 31))), (4, .int (nI o)), (3, .int s9), (2, .int l9), (0, .ref h0), (1, .int (nI i0))]) hx hb dX11_drawSample_53 hl (by decide) rfl ?_
        clear hl
        try clear ls
        intro ls hl
        refine lv_iload_n hx hb dX11_drawSample_55 rfl (lv_at hl 2 rfl) ?_
        refine lv_iload hx hb dX11_drawSample_56 (lv_at hl 0 rfl) ?_
        refine lv_ior hx hb dX11_drawSample_58 ?_
        refine lv_istore_n (lv' := [(3, .int (s9 ||| ((nI 1) <<< ((nI (nthB l9 31 r_5)) &&& 31)))), (5, .int ((nI 1) <<< ((nI (nthB l9 31 r_5)) &&& 31))), (4, .int (nI o)), (2, .int l9), (0, .ref h0), (1, .int (nI i0))]) hx hb dX11_drawSample_59 rfl hl (by decide) rfl ?_
        clear hl
        try clear ls
        intro ls hl
        refine lv_iload_n hx hb dX11_drawSample_60 rfl (lv_at hl 3 rfl) ?_
        refine lv_iload hx hb dX11_drawSample_61 (lv_at hl 1 rfl) ?_
        refine lv_iconst (v := (-1)) hx hb dX11_drawSample_63 (by decide) ?_
        refine lv_ixor hx hb dX11_drawSample_64 ?_
        refine lv_iand hx hb dX11_drawSample_65 ?_
        refine lv_istore_n (lv' := [(2, .int (l9 &&& (((nI 1) <<< ((nI (nthB l9 31 r_5)) &&& 31)) ^^^ (-1)))), (3, .int (s9 ||| ((nI 1) <<< ((nI (nthB l9 31 r_5)) &&& 31)))), (5, .int ((nI 1) <<< ((nI (nthB l9 31 r_5)) &&& 31))), (4, .int (nI o)), (0, .ref h0), (1, .int (nI i0))]) hx hb dX11_drawSample_66 rfl hl (by decide) rfl ?_
        clear hl
        try clear ls
        intro ls hl
        refine lv_iinc (v := nI (o + 1)) (lv' := [(4, .int (nI (o + 1))), (2, .int (l9 &&& (((nI 1) <<< ((nI (nthB l9 31 r_5)) &&& 31)) ^^^ (-1)))), (3, .int (s9 ||| ((nI 1) <<< ((nI (nthB l9 31 r_5)) &&& 31)))), (5, .int ((nI 1) <<< ((nI (nthB l9 31 r_5)) &&& 31))), (0, .ref h0), (1, .int (nI i0))]) hx hb dX11_drawSample_67 hl (k := 3) rfl (nI_add o 1) (by decide) rfl ?_
        clear hl
        try clear ls
        intro ls hl
        refine lv_goto (tgt := 19) hx hb dX11_drawSample_70 (by decide) ?_
        exact ih_loop_3 (o + 1) u_6 (l9 &&& (((nI 1) <<< ((nI (nthB l9 31 r_5)) &&& 31)) ^^^ (-1))) (s9 ||| ((nI 1) <<< ((nI (nthB l9 31 r_5)) &&& 31))) (by omega) (dsI_s hd9 hw_r_5.1 (by rw [hw_r_5.2, if_pos (show nI 1 ≤ nI n - nI 1 - nI o from by rw [sub_sub (by omega)]; exact (nI_leI (by decide) (by omega)).mpr (by omega)), sub_sub (by omega)]) rfl rfl) (by omega) H locs ls (xP_map hP [1, 0] rfl) (hD.sub [1, 0] (by decide) rfl) hS (lv_sub hl [0, 2, 1, 4, 5] rfl)
  exact loop_3 _ 0 dr (lefI n i0) (nI 0) (by omega) rfl (Nat.lt_succ_self _) H locs ls hP hD hS (lv_sub hl [0, 1, 2, 3, 4] rfl)
