set_option maxHeartbeats 4000000 in
set_option maxRecDepth 100000 in
theorem c_X6_gainOne_f (l : Launch) (D : va_G) (cs : Nat → ClassId) (hpo : Nat) (hr hg : Nat) (hgr en gs g1r g2r gan gpr gde gme : Nat) (hv av : Nat) (ch po : Int32) (f : Nat → Int32) (gpf : Nat → Int32) (t9 e0 : Nat) (hpr : prP f) (ht9 : t9 < 8) (he : e0 < 16) : xMet l D cs yX6_gainOne cX6_gainOne 5 none ({ frames := 2, cells := 0, slots := 0, locals := 42 } : Room) [.ref hpo, .ref hv, .int (nI t9), .int (nI e0)] [(hpo, .inr (6, [.ref hr, .ref hg, .ref hgr])), (hgr, .inr (3, [.int (nI en), .ref gs, .ref g1r, .ref g2r, .ref gan, .ref gpr, .ref gde, .ref gme])), (hv, .inr (10, [.int ch, .int po, .ref av])), (av, .inl (cs 0, 32, .inl f)), (gpr, .inl (cs 0, 16, .inl gpf))] (xQv D (fun (fz : (Nat → Int32)) => gaP gpf ch t9 e0 f fz) (fun (fz : (Nat → Int32)) => [(hpo, .inr (6, [.ref hr, .ref hg, .ref hgr])), (hgr, .inr (3, [.int (nI en), .ref gs, .ref g1r, .ref g2r, .ref gan, .ref gpr, .ref gde, .ref gme])), (hv, .inr (10, [.int ch, .int po, .ref av])), (av, .inl (cs 0, 32, .inl fz)), (gpr, .inl (cs 0, 16, .inl gpf))])) := by
  refine xMet.intro (by decide) (Nat.le_of_ble_eq_true rfl) ?_
  intro p e s m args below meth c A ls C hP hD hS hl
  have hx := C.1
  have hb := C.2.1
  have hz := C.2.2.2.2.1
  have hown := C.2.2.2.1
  have hA := C.2.2.2.2.2.2.2.2.2
  have hAO := C.2.2.2.2.2.2.2.2.1.2.2
  replace hl : lv_has ls 5 [(0, .ref hpo), (1, .ref hv), (2, .int (nI t9)), (3, .int (nI e0))] := hl
  obtain ⟨H, hH⟩ : ∃ H, H = s.heap := ⟨_, rfl⟩
  replace hP : va_P D vwCl [(hpo, .inr (6, [.ref hr, .ref hg, .ref hgr])), (hgr, .inr (3, [.int (nI en), .ref gs, .ref g1r, .ref g2r, .ref gan, .ref gpr, .ref gde, .ref gme])), (hv, .inr (10, [.int ch, .int po, .ref av])), (av, .inl (cs 0, 32, .inl f)), (gpr, .inl (cs 0, 16, .inl gpf))] H := by rw [hH]; exact hP
  replace hS : va_S A s.heap H [] := by rw [hH]; exact hS
  obtain ⟨locs, hlocs⟩ : ∃ z : List Loc, z = [] := ⟨_, rfl⟩
  rw [← hlocs] at hS
  suffices hW : W p l e ({ frames := 2, cells := 0, slots := 0, locals := 42 } : Room) s m args below meth c H locs 0 0 (MQ below ((xQv D (fun (fz : (Nat → Int32)) => gaP gpf ch t9 e0 f fz) (fun (fz : (Nat → Int32)) => [(hpo, .inr (6, [.ref hr, .ref hg, .ref hgr])), (hgr, .inr (3, [.int (nI en), .ref gs, .ref g1r, .ref g2r, .ref gan, .ref gpr, .ref gde, .ref gme])), (hv, .inr (10, [.int ch, .int po, .ref av])), (av, .inl (cs 0, 32, .inl fz)), (gpr, .inl (cs 0, 16, .inl gpf))])) A) args s 0 0 A) (F0 m 0 ls []) by rw [hlocs, hH] at hW; exact hW
  clear hH hlocs
  refine lv_aload_n hx hb dX6_gainOne_0 rfl (lv_at hl 1 rfl) ?_
  refine lv_iload_n hx hb dX6_gainOne_1 rfl (lv_at hl 2 rfl) ?_
  refine lv_iconst (v := nI 0) hx hb dX6_gainOne_2 (by decide) ?_
  refine xi (wr := [(hpo, .inr (6, [.ref hr, .ref hg, .ref hgr])), (hgr, .inr (3, [.int (nI en), .ref gs, .ref g1r, .ref g2r, .ref gan, .ref gpr, .ref gde, .ref gme])), (gpr, .inl (cs 0, 16, .inl gpf))]) (xV (As := [.int (nI t9), .int (nI 0)]) (rest := []) C (c_X10_get l D cs hv av ch po f t9 0 (by omega) (by decide)) kX6_68 hP hD [2, 3] rfl (by decide +kernel) 0 rfl rfl rfl ⟨Nat.le_of_ble_eq_true rfl, Nat.le_of_ble_eq_true rfl⟩ rfl hl.1 rfl (Nat.le_of_ble_eq_true rfl) dX6_gainOne_3 ⟨Nat.le_of_ble_eq_true rfl, Nat.le_of_ble_eq_true rfl⟩) hP hD hS hA [2, 3] [0, 1, 4] rfl rfl (by decide +kernel) (by decide +kernel) ?_
  clear hP hD hS
  try clear locs
  try clear H
  intro r_1 u_2 H locs hw_r_1 hP hD hS
  have hw_r_1 : r_1 = f (t9 * 4 + 0) := hw_r_1
  refine W.widen (k := 0) (n := 0) (Nat.le_of_ble_eq_true rfl) (Nat.le_of_ble_eq_true rfl) ?_
  replace hP : va_P D vwCl [(hpo, .inr (6, [.ref hr, .ref hg, .ref hgr])), (hgr, .inr (3, [.int (nI en), .ref gs, .ref g1r, .ref g2r, .ref gan, .ref gpr, .ref gde, .ref gme])), (gpr, .inl (cs 0, 16, .inl gpf)), (hv, .inr (10, [.int ch, .int po, .ref av])), (av, .inl (cs 0, 32, .inl f))] H := hP
  replace hD : va_D A [(hpo, .inr (6, [.ref hr, .ref hg, .ref hgr])), (hgr, .inr (3, [.int (nI en), .ref gs, .ref g1r, .ref g2r, .ref gan, .ref gpr, .ref gde, .ref gme])), (gpr, .inl (cs 0, 16, .inl gpf)), (hv, .inr (10, [.int ch, .int po, .ref av])), (av, .inl (cs 0, 32, .inl f))] := hD
  have hq_pr := hpr t9 ht9
  rw [← hw_r_1] at hq_pr
  refine lv_istore (lv' := [(4, .int r_1), (0, .ref hpo), (1, .ref hv), (2, .int (nI t9)), (3, .int (nI e0))]) hx hb dX6_gainOne_6 hl (by decide) rfl ?_
  clear hl
  try clear ls
  intro ls hl
  refine lv_iload hx hb dX6_gainOne_8 (lv_at hl 0 rfl) ?_
  refine lv_iconst (v := (-1)) hx hb dX6_gainOne_10 (by decide) ?_
  refine lv_icmp_eq (tgt := 30) hx hb dX6_gainOne_11 (by decide) (fun c_3 => ?_) (fun c_3 => ?_)
  · -- 11 t
    refine lv_aload_n hx hb dX6_gainOne_30 rfl (lv_at hl 2 rfl) ?_
    refine lv_iload_n hx hb dX6_gainOne_31 rfl (lv_at hl 3 rfl) ?_
    refine lv_iconst (v := nI 0) hx hb dX6_gainOne_32 (by decide) ?_
    refine lv_iload_n hx hb dX6_gainOne_33 rfl (lv_at hl 4 rfl) ?_
    refine xv (wr := [(hpo, .inr (6, [.ref hr, .ref hg, .ref hgr])), (hgr, .inr (3, [.int (nI en), .ref gs, .ref g1r, .ref g2r, .ref gan, .ref gpr, .ref gde, .ref gme])), (gpr, .inl (cs 0, 16, .inl gpf))]) (xV (As := [.int (nI t9), .int (nI 0), .int (nI e0)]) (rest := []) C (c_X10_put l D cs hv av ch po f t9 0 (nI e0) (by omega) (by decide)) kX6_118 hP hD [3, 4] rfl (by decide +kernel) 0 rfl rfl rfl ⟨Nat.le_of_ble_eq_true rfl, Nat.le_of_ble_eq_true rfl⟩ rfl hl.1 rfl (Nat.le_of_ble_eq_true rfl) dX6_gainOne_34 ⟨Nat.le_of_ble_eq_true rfl, Nat.le_of_ble_eq_true rfl⟩) hP hD hS hA [3, 4] [0, 1, 2] rfl rfl (by decide +kernel) (by decide +kernel) ?_
    clear hP hD hS
    try clear locs
    try clear H
    intro u_5 H locs hw_r_4 hP hD hS
    refine W.widen (k := 0) (n := 0) (Nat.le_of_ble_eq_true rfl) (Nat.le_of_ble_eq_true rfl) ?_
    replace hP : va_P D vwCl [(hpo, .inr (6, [.ref hr, .ref hg, .ref hgr])), (hgr, .inr (3, [.int (nI en), .ref gs, .ref g1r, .ref g2r, .ref gan, .ref gpr, .ref gde, .ref gme])), (gpr, .inl (cs 0, 16, .inl gpf)), (hv, .inr (10, [.int ch, .int po, .ref av])), (av, .inl (cs 0, 32, .inl (upd f (t9 * 4 + 0) (nI e0))))] H := hP
    replace hD : va_D A [(hpo, .inr (6, [.ref hr, .ref hg, .ref hgr])), (hgr, .inr (3, [.int (nI en), .ref gs, .ref g1r, .ref g2r, .ref gan, .ref gpr, .ref gde, .ref gme])), (gpr, .inl (cs 0, 16, .inl gpf)), (hv, .inr (10, [.int ch, .int po, .ref av])), (av, .inl (cs 0, 32, .inl (upd f (t9 * 4 + 0) (nI e0))))] := hD
    refine lv_aload_n hx hb dX6_gainOne_37 rfl (lv_at hl 2 rfl) ?_
    refine lv_iload_n hx hb dX6_gainOne_38 rfl (lv_at hl 3 rfl) ?_
    refine lv_iconst (v := nI 1) hx hb dX6_gainOne_39 (by decide) ?_
    refine xi (wr := [(hpo, .inr (6, [.ref hr, .ref hg, .ref hgr])), (hgr, .inr (3, [.int (nI en), .ref gs, .ref g1r, .ref g2r, .ref gan, .ref gpr, .ref gde, .ref gme])), (gpr, .inl (cs 0, 16, .inl gpf))]) (xV (As := [.int (nI t9), .int (nI 1)]) (rest := []) C (c_X10_get l D cs hv av ch po (upd f (t9 * 4 + 0) (nI e0)) t9 1 (by omega) (by decide)) kX6_68 hP hD [3, 4] rfl (by decide +kernel) 0 rfl rfl rfl ⟨Nat.le_of_ble_eq_true rfl, Nat.le_of_ble_eq_true rfl⟩ rfl hl.1 rfl (Nat.le_of_ble_eq_true rfl) dX6_gainOne_40 ⟨Nat.le_of_ble_eq_true rfl, Nat.le_of_ble_eq_true rfl⟩) hP hD hS hA [3, 4] [0, 1, 2] rfl rfl (by decide +kernel) (by decide +kernel) ?_
    clear hP hD hS
    try clear locs
    try clear H
    intro r_6 u_7 H locs hw_r_6 hP hD hS
    have hw_r_6 : r_6 = (upd f (t9 * 4 + 0) (nI e0)) (t9 * 4 + 1) := hw_r_6
    refine W.widen (k := 0) (n := 0) (Nat.le_of_ble_eq_true rfl) (Nat.le_of_ble_eq_true rfl) ?_
    replace hP : va_P D vwCl [(hpo, .inr (6, [.ref hr, .ref hg, .ref hgr])), (hgr, .inr (3, [.int (nI en), .ref gs, .ref g1r, .ref g2r, .ref gan, .ref gpr, .ref gde, .ref gme])), (gpr, .inl (cs 0, 16, .inl gpf)), (hv, .inr (10, [.int ch, .int po, .ref av])), (av, .inl (cs 0, 32, .inl (upd f (t9 * 4 + 0) (nI e0))))] H := hP
    replace hD : va_D A [(hpo, .inr (6, [.ref hr, .ref hg, .ref hgr])), (hgr, .inr (3, [.int (nI en), .ref gs, .ref g1r, .ref g2r, .ref gan, .ref gpr, .ref gde, .ref gme])), (gpr, .inl (cs 0, 16, .inl gpf)), (hv, .inr (10, [.int ch, .int po, .ref av])), (av, .inl (cs 0, 32, .inl (upd f (t9 * 4 + 0) (nI e0))))] := hD
    refine lv_iload_n hx hb dX6_gainOne_43 rfl (lv_at hl 4 rfl) ?_
    refine lv_icmp_ne (tgt := 64) hx hb dX6_gainOne_44 (by decide) (fun c_8 => ?_) (fun c_8 => ?_)
    · -- 44 t
      refine lv_aload_n hx hb dX6_gainOne_64 rfl (lv_at hl 2 rfl) ?_
      refine lv_iload_n hx hb dX6_gainOne_65 rfl (lv_at hl 3 rfl) ?_
      refine lv_iconst (v := nI 1) hx hb dX6_gainOne_66 (by decide) ?_
      refine lv_iload_n hx hb dX6_gainOne_67 rfl (lv_at hl 4 rfl) ?_
      refine xv (wr := [(hpo, .inr (6, [.ref hr, .ref hg, .ref hgr])), (hgr, .inr (3, [.int (nI en), .ref gs, .ref g1r, .ref g2r, .ref gan, .ref gpr, .ref gde, .ref gme])), (gpr, .inl (cs 0, 16, .inl gpf))]) (xV (As := [.int (nI t9), .int (nI 1), .int (nI e0)]) (rest := []) C (c_X10_put l D cs hv av ch po (upd f (t9 * 4 + 0) (nI e0)) t9 1 (nI e0) (by omega) (by decide)) kX6_118 hP hD [3, 4] rfl (by decide +kernel) 0 rfl rfl rfl ⟨Nat.le_of_ble_eq_true rfl, Nat.le_of_ble_eq_true rfl⟩ rfl hl.1 rfl (Nat.le_of_ble_eq_true rfl) dX6_gainOne_68 ⟨Nat.le_of_ble_eq_true rfl, Nat.le_of_ble_eq_true rfl⟩) hP hD hS hA [3, 4] [0, 1, 2] rfl rfl (by decide +kernel) (by decide +kernel) ?_
      clear hP hD hS
      try clear locs
      try clear H
      intro u_10 H locs hw_r_9 hP hD hS
      refine W.widen (k := 0) (n := 0) (Nat.le_of_ble_eq_true rfl) (Nat.le_of_ble_eq_true rfl) ?_
      replace hP : va_P D vwCl [(hpo, .inr (6, [.ref hr, .ref hg, .ref hgr])), (hgr, .inr (3, [.int (nI en), .ref gs, .ref g1r, .ref g2r, .ref gan, .ref gpr, .ref gde, .ref gme])), (gpr, .inl (cs 0, 16, .inl gpf)), (hv, .inr (10, [.int ch, .int po, .ref av])), (av, .inl (cs 0, 32, .inl (upd (upd f (t9 * 4 + 0) (nI e0)) (t9 * 4 + 1) (nI e0))))] H := hP
      replace hD : va_D A [(hpo, .inr (6, [.ref hr, .ref hg, .ref hgr])), (hgr, .inr (3, [.int (nI en), .ref gs, .ref g1r, .ref g2r, .ref gan, .ref gpr, .ref gde, .ref gme])), (gpr, .inl (cs 0, 16, .inl gpf)), (hv, .inr (10, [.int ch, .int po, .ref av])), (av, .inl (cs 0, 32, .inl (upd (upd f (t9 * 4 + 0) (nI e0)) (t9 * 4 + 1) (nI e0))))] := hD
      refine lv_aload_n hx hb dX6_gainOne_71 rfl (lv_at hl 2 rfl) ?_
      refine lv_iload_n hx hb dX6_gainOne_72 rfl (lv_at hl 3 rfl) ?_
      refine lv_iconst (v := nI 2) hx hb dX6_gainOne_73 (by decide) ?_
      refine lv_iconst (v := nI 1) hx hb dX6_gainOne_74 (by decide) ?_
      refine xv (wr := [(hpo, .inr (6, [.ref hr, .ref hg, .ref hgr])), (hgr, .inr (3, [.int (nI en), .ref gs, .ref g1r, .ref g2r, .ref gan, .ref gpr, .ref gde, .ref gme])), (gpr, .inl (cs 0, 16, .inl gpf))]) (xV (As := [.int (nI t9), .int (nI 2), .int (nI 1)]) (rest := []) C (c_X10_put l D cs hv av ch po (upd (upd f (t9 * 4 + 0) (nI e0)) (t9 * 4 + 1) (nI e0)) t9 2 (nI 1) (by omega) (by decide)) kX6_118 hP hD [3, 4] rfl (by decide +kernel) 0 rfl rfl rfl ⟨Nat.le_of_ble_eq_true rfl, Nat.le_of_ble_eq_true rfl⟩ rfl hl.1 rfl (Nat.le_of_ble_eq_true rfl) dX6_gainOne_75 ⟨Nat.le_of_ble_eq_true rfl, Nat.le_of_ble_eq_true rfl⟩) hP hD hS hA [3, 4] [0, 1, 2] rfl rfl (by decide +kernel) (by decide +kernel) ?_
      clear hP hD hS
      try clear locs
      try clear H
      intro u_12 H locs hw_r_11 hP hD hS
      refine W.widen (k := 0) (n := 0) (Nat.le_of_ble_eq_true rfl) (Nat.le_of_ble_eq_true rfl) ?_
      replace hP : va_P D vwCl [(hpo, .inr (6, [.ref hr, .ref hg, .ref hgr])), (hgr, .inr (3, [.int (nI en), .ref gs, .ref g1r, .ref g2r, .ref gan, .ref gpr, .ref gde, .ref gme])), (gpr, .inl (cs 0, 16, .inl gpf)), (hv, .inr (10, [.int ch, .int po, .ref av])), (av, .inl (cs 0, 32, .inl (upd (upd (upd f (t9 * 4 + 0) (nI e0)) (t9 * 4 + 1) (nI e0)) (t9 * 4 + 2) (nI 1))))] H := hP
      replace hD : va_D A [(hpo, .inr (6, [.ref hr, .ref hg, .ref hgr])), (hgr, .inr (3, [.int (nI en), .ref gs, .ref g1r, .ref g2r, .ref gan, .ref gpr, .ref gde, .ref gme])), (gpr, .inl (cs 0, 16, .inl gpf)), (hv, .inr (10, [.int ch, .int po, .ref av])), (av, .inl (cs 0, 32, .inl (upd (upd (upd f (t9 * 4 + 0) (nI e0)) (t9 * 4 + 1) (nI e0)) (t9 * 4 + 2) (nI 1))))] := hD
      exact xretv C (upd (upd (upd f (t9 * 4 + 0) (nI e0)) (t9 * 4 + 1) (nI e0)) (t9 * 4 + 2) (nI 1)) (⟨_, Or.inl ⟨Or.inl (hw_r_1.symm.trans c_3), rfl⟩, Or.inr ⟨fun q => c_8 (hw_r_6.trans q), rfl⟩⟩) (xP_map hP [0, 1, 3, 4, 2] rfl) (hD.sub [0, 1, 3, 4, 2] (by decide +kernel) rfl) hS (Nat.le_of_ble_eq_true rfl) (Nat.le_of_ble_eq_true rfl) dX6_gainOne_78
    · -- 44 f
      refine lv_aload_n hx hb dX6_gainOne_47 rfl (lv_at hl 2 rfl) ?_
      refine lv_iload_n hx hb dX6_gainOne_48 rfl (lv_at hl 3 rfl) ?_
      refine lv_iconst (v := nI 2) hx hb dX6_gainOne_49 (by decide) ?_
      refine lv_aload_n hx hb dX6_gainOne_50 rfl (lv_at hl 2 rfl) ?_
      refine lv_iload_n hx hb dX6_gainOne_51 rfl (lv_at hl 3 rfl) ?_
      refine lv_iconst (v := nI 2) hx hb dX6_gainOne_52 (by decide) ?_
      refine xi (wr := [(hpo, .inr (6, [.ref hr, .ref hg, .ref hgr])), (hgr, .inr (3, [.int (nI en), .ref gs, .ref g1r, .ref g2r, .ref gan, .ref gpr, .ref gde, .ref gme])), (gpr, .inl (cs 0, 16, .inl gpf))]) (xV (As := [.int (nI t9), .int (nI 2)]) (rest := [.int (nI 2), .int (nI t9), .ref hv]) C (c_X10_get l D cs hv av ch po (upd f (t9 * 4 + 0) (nI e0)) t9 2 (by omega) (by decide)) kX6_68 hP hD [3, 4] rfl (by decide +kernel) 0 rfl rfl rfl ⟨Nat.le_of_ble_eq_true rfl, Nat.le_of_ble_eq_true rfl⟩ rfl hl.1 rfl (Nat.le_of_ble_eq_true rfl) dX6_gainOne_53 ⟨Nat.le_of_ble_eq_true rfl, Nat.le_of_ble_eq_true rfl⟩) hP hD hS hA [3, 4] [0, 1, 2] rfl rfl (by decide +kernel) (by decide +kernel) ?_
      clear hP hD hS
      try clear locs
      try clear H
      intro r_13 u_14 H locs hw_r_13 hP hD hS
      have hw_r_13 : r_13 = (upd f (t9 * 4 + 0) (nI e0)) (t9 * 4 + 2) := hw_r_13
      refine W.widen (k := 0) (n := 0) (Nat.le_of_ble_eq_true rfl) (Nat.le_of_ble_eq_true rfl) ?_
      replace hP : va_P D vwCl [(hpo, .inr (6, [.ref hr, .ref hg, .ref hgr])), (hgr, .inr (3, [.int (nI en), .ref gs, .ref g1r, .ref g2r, .ref gan, .ref gpr, .ref gde, .ref gme])), (gpr, .inl (cs 0, 16, .inl gpf)), (hv, .inr (10, [.int ch, .int po, .ref av])), (av, .inl (cs 0, 32, .inl (upd f (t9 * 4 + 0) (nI e0))))] H := hP
      replace hD : va_D A [(hpo, .inr (6, [.ref hr, .ref hg, .ref hgr])), (hgr, .inr (3, [.int (nI en), .ref gs, .ref g1r, .ref g2r, .ref gan, .ref gpr, .ref gde, .ref gme])), (gpr, .inl (cs 0, 16, .inl gpf)), (hv, .inr (10, [.int ch, .int po, .ref av])), (av, .inl (cs 0, 32, .inl (upd f (t9 * 4 + 0) (nI e0))))] := hD
      refine lv_iconst (v := nI 1) hx hb dX6_gainOne_56 (by decide) ?_
      refine lv_iadd hx hb dX6_gainOne_57 ?_
      refine xv (wr := [(hpo, .inr (6, [.ref hr, .ref hg, .ref hgr])), (hgr, .inr (3, [.int (nI en), .ref gs, .ref g1r, .ref g2r, .ref gan, .ref gpr, .ref gde, .ref gme])), (gpr, .inl (cs 0, 16, .inl gpf))]) (xV (As := [.int (nI t9), .int (nI 2), .int (r_13 + (nI 1))]) (rest := []) C (c_X10_put l D cs hv av ch po (upd f (t9 * 4 + 0) (nI e0)) t9 2 (r_13 + (nI 1)) (by omega) (by decide)) kX6_118 hP hD [3, 4] rfl (by decide +kernel) 0 rfl rfl rfl ⟨Nat.le_of_ble_eq_true rfl, Nat.le_of_ble_eq_true rfl⟩ rfl hl.1 rfl (Nat.le_of_ble_eq_true rfl) dX6_gainOne_58 ⟨Nat.le_of_ble_eq_true rfl, Nat.le_of_ble_eq_true rfl⟩) hP hD hS hA [3, 4] [0, 1, 2] rfl rfl (by decide +kernel) (by decide +kernel) ?_
      clear hP hD hS
      try clear locs
      try clear H
      intro u_16 H locs hw_r_15 hP hD hS
      refine W.widen (k := 0) (n := 0) (Nat.le_of_ble_eq_true rfl) (Nat.le_of_ble_eq_true rfl) ?_
      replace hP : va_P D vwCl [(hpo, .inr (6, [.ref hr, .ref hg, .ref hgr])), (hgr, .inr (3, [.int (nI en), .ref gs, .ref g1r, .ref g2r, .ref gan, .ref gpr, .ref gde, .ref gme])), (gpr, .inl (cs 0, 16, .inl gpf)), (hv, .inr (10, [.int ch, .int po, .ref av])), (av, .inl (cs 0, 32, .inl (upd (upd f (t9 * 4 + 0) (nI e0)) (t9 * 4 + 2) (r_13 + (nI 1)))))] H := hP
      replace hD : va_D A [(hpo, .inr (6, [.ref hr, .ref hg, .ref hgr])), (hgr, .inr (3, [.int (nI en), .ref gs, .ref g1r, .ref g2r, .ref gan, .ref gpr, .ref gde, .ref gme])), (gpr, .inl (cs 0, 16, .inl gpf)), (hv, .inr (10, [.int ch, .int po, .ref av])), (av, .inl (cs 0, 32, .inl (upd (upd f (t9 * 4 + 0) (nI e0)) (t9 * 4 + 2) (r_13 + (nI 1)))))] := hD
      refine lv_goto (tgt := 78) hx hb dX6_gainOne_61 (by decide) ?_
      exact xretv C (upd (upd f (t9 * 4 + 0) (nI e0)) (t9 * 4 + 2) (r_13 + (nI 1))) (⟨_, Or.inl ⟨Or.inl (hw_r_1.symm.trans c_3), rfl⟩, Or.inl ⟨hw_r_6.symm.trans c_8, by rw [hw_r_13]⟩⟩) (xP_map hP [0, 1, 3, 4, 2] rfl) (hD.sub [0, 1, 3, 4, 2] (by decide +kernel) rfl) hS (Nat.le_of_ble_eq_true rfl) (Nat.le_of_ble_eq_true rfl) dX6_gainOne_78
  · -- 11 f
    obtain ⟨e8, he8, rfl⟩ := hq_pr.resolve_left c_3
    replace hP : va_P D vwCl [(hpo, .inr (6, [.ref hr, .ref hg, .ref hgr])), (hgr, .inr (3, [.int (nI en), .ref gs, .ref g1r, .ref g2r, .ref gan, .ref gpr, .ref gde, .ref gme])), (gpr, .inl (cs 0, 16, .inl gpf)), (hv, .inr (10, [.int ch, .int po, .ref av])), (av, .inl (cs 0, 32, .inl f))] H := hP
    replace hD : va_D A [(hpo, .inr (6, [.ref hr, .ref hg, .ref hgr])), (hgr, .inr (3, [.int (nI en), .ref gs, .ref g1r, .ref g2r, .ref gan, .ref gpr, .ref gde, .ref gme])), (gpr, .inl (cs 0, 16, .inl gpf)), (hv, .inr (10, [.int ch, .int po, .ref av])), (av, .inl (cs 0, 32, .inl f))] := hD
    refine lv_aload_n hx hb dX6_gainOne_14 rfl (lv_at hl 1 rfl) ?_
    refine lv_aload_n hx hb dX6_gainOne_15 rfl (lv_at hl 2 rfl) ?_
    refine lv_iload_n hx hb dX6_gainOne_16 rfl (lv_at hl 4 rfl) ?_
    refine xi (wr := []) (xV (As := [.ref hv, .int (nI e0)]) (rest := []) C (c_X6_confidence_f l D cs hpo hr hg hgr en gs g1r g2r gan gpr gde gme hv av ch po f gpf e0 he) kX6_126 hP hD [0, 1, 3, 4, 2] rfl (by decide +kernel) 0 rfl rfl rfl ⟨Nat.le_of_ble_eq_true rfl, Nat.le_of_ble_eq_true rfl⟩ rfl hl.1 rfl (Nat.le_of_ble_eq_true rfl) dX6_gainOne_17 ⟨Nat.le_of_ble_eq_true rfl, Nat.le_of_ble_eq_true rfl⟩) hP hD hS hA [0, 1, 3, 4, 2] [] rfl rfl (by decide +kernel) (by decide +kernel) ?_
    clear hP hD hS
    try clear locs
    try clear H
    intro r_17 u_18 H locs hw_r_17 hP hD hS
    have hw_r_17 : r_17 = cnfC gpf ch e0 := hw_r_17
    refine W.widen (k := 0) (n := 0) (Nat.le_of_ble_eq_true rfl) (Nat.le_of_ble_eq_true rfl) ?_
    replace hP : va_P D vwCl [(hpo, .inr (6, [.ref hr, .ref hg, .ref hgr])), (hgr, .inr (3, [.int (nI en), .ref gs, .ref g1r, .ref g2r, .ref gan, .ref gpr, .ref gde, .ref gme])), (hv, .inr (10, [.int ch, .int po, .ref av])), (av, .inl (cs 0, 32, .inl f)), (gpr, .inl (cs 0, 16, .inl gpf))] H := hP
    replace hD : va_D A [(hpo, .inr (6, [.ref hr, .ref hg, .ref hgr])), (hgr, .inr (3, [.int (nI en), .ref gs, .ref g1r, .ref g2r, .ref gan, .ref gpr, .ref gde, .ref gme])), (hv, .inr (10, [.int ch, .int po, .ref av])), (av, .inl (cs 0, 32, .inl f)), (gpr, .inl (cs 0, 16, .inl gpf))] := hD
    obtain rfl : r_17 = cnfC gpf ch e0 := hw_r_17
    refine lv_aload_n hx hb dX6_gainOne_20 rfl (lv_at hl 1 rfl) ?_
    refine lv_aload_n hx hb dX6_gainOne_21 rfl (lv_at hl 2 rfl) ?_
    refine lv_iload hx hb dX6_gainOne_22 (lv_at hl 0 rfl) ?_
    refine xi (wr := []) (xV (As := [.ref hv, .int (nI e8)]) (rest := [.int (cnfC gpf ch e0)]) C (c_X6_confidence_f l D cs hpo hr hg hgr en gs g1r g2r gan gpr gde gme hv av ch po f gpf e8 he8) kX6_126 hP hD [0, 1, 2, 3, 4] rfl (by decide +kernel) 0 rfl rfl rfl ⟨Nat.le_of_ble_eq_true rfl, Nat.le_of_ble_eq_true rfl⟩ rfl hl.1 rfl (Nat.le_of_ble_eq_true rfl) dX6_gainOne_24 ⟨Nat.le_of_ble_eq_true rfl, Nat.le_of_ble_eq_true rfl⟩) hP hD hS hA [0, 1, 2, 3, 4] [] rfl rfl (by decide +kernel) (by decide +kernel) ?_
    clear hP hD hS
    try clear locs
    try clear H
    intro r_19 u_20 H locs hw_r_19 hP hD hS
    have hw_r_19 : r_19 = cnfC gpf ch e8 := hw_r_19
    refine W.widen (k := 0) (n := 0) (Nat.le_of_ble_eq_true rfl) (Nat.le_of_ble_eq_true rfl) ?_
    replace hP : va_P D vwCl [(hpo, .inr (6, [.ref hr, .ref hg, .ref hgr])), (hgr, .inr (3, [.int (nI en), .ref gs, .ref g1r, .ref g2r, .ref gan, .ref gpr, .ref gde, .ref gme])), (hv, .inr (10, [.int ch, .int po, .ref av])), (av, .inl (cs 0, 32, .inl f)), (gpr, .inl (cs 0, 16, .inl gpf))] H := hP
    replace hD : va_D A [(hpo, .inr (6, [.ref hr, .ref hg, .ref hgr])), (hgr, .inr (3, [.int (nI en), .ref gs, .ref g1r, .ref g2r, .ref gan, .ref gpr, .ref gde, .ref gme])), (hv, .inr (10, [.int ch, .int po, .ref av])), (av, .inl (cs 0, 32, .inl f)), (gpr, .inl (cs 0, 16, .inl gpf))] := hD
    obtain rfl : r_19 = cnfC gpf ch e8 := hw_r_19
    refine lv_icmp_le (tgt := 37) hx hb dX6_gainOne_27 (by decide) (fun c_21 => ?_) (fun c_21 => ?_)
    · -- 27 t
      refine lv_aload_n hx hb dX6_gainOne_37 rfl (lv_at hl 2 rfl) ?_
      refine lv_iload_n hx hb dX6_gainOne_38 rfl (lv_at hl 3 rfl) ?_
      refine lv_iconst (v := nI 1) hx hb dX6_gainOne_39 (by decide) ?_
      refine xi (wr := [(hpo, .inr (6, [.ref hr, .ref hg, .ref hgr])), (hgr, .inr (3, [.int (nI en), .ref gs, .ref g1r, .ref g2r, .ref gan, .ref gpr, .ref gde, .ref gme])), (gpr, .inl (cs 0, 16, .inl gpf))]) (xV (As := [.int (nI t9), .int (nI 1)]) (rest := []) C (c_X10_get l D cs hv av ch po f t9 1 (by omega) (by decide)) kX6_68 hP hD [2, 3] rfl (by decide +kernel) 0 rfl rfl rfl ⟨Nat.le_of_ble_eq_true rfl, Nat.le_of_ble_eq_true rfl⟩ rfl hl.1 rfl (Nat.le_of_ble_eq_true rfl) dX6_gainOne_40 ⟨Nat.le_of_ble_eq_true rfl, Nat.le_of_ble_eq_true rfl⟩) hP hD hS hA [2, 3] [0, 1, 4] rfl rfl (by decide +kernel) (by decide +kernel) ?_
      clear hP hD hS
      try clear locs
      try clear H
      intro r_22 u_23 H locs hw_r_22 hP hD hS
      have hw_r_22 : r_22 = f (t9 * 4 + 1) := hw_r_22
      refine W.widen (k := 0) (n := 0) (Nat.le_of_ble_eq_true rfl) (Nat.le_of_ble_eq_true rfl) ?_
      replace hP : va_P D vwCl [(hpo, .inr (6, [.ref hr, .ref hg, .ref hgr])), (hgr, .inr (3, [.int (nI en), .ref gs, .ref g1r, .ref g2r, .ref gan, .ref gpr, .ref gde, .ref gme])), (gpr, .inl (cs 0, 16, .inl gpf)), (hv, .inr (10, [.int ch, .int po, .ref av])), (av, .inl (cs 0, 32, .inl f))] H := hP
      replace hD : va_D A [(hpo, .inr (6, [.ref hr, .ref hg, .ref hgr])), (hgr, .inr (3, [.int (nI en), .ref gs, .ref g1r, .ref g2r, .ref gan, .ref gpr, .ref gde, .ref gme])), (gpr, .inl (cs 0, 16, .inl gpf)), (hv, .inr (10, [.int ch, .int po, .ref av])), (av, .inl (cs 0, 32, .inl f))] := hD
      refine lv_iload_n hx hb dX6_gainOne_43 rfl (lv_at hl 4 rfl) ?_
      refine lv_icmp_ne (tgt := 64) hx hb dX6_gainOne_44 (by decide) (fun c_24 => ?_) (fun c_24 => ?_)
      · -- 44 t
        refine lv_aload_n hx hb dX6_gainOne_64 rfl (lv_at hl 2 rfl) ?_
        refine lv_iload_n hx hb dX6_gainOne_65 rfl (lv_at hl 3 rfl) ?_
        refine lv_iconst (v := nI 1) hx hb dX6_gainOne_66 (by decide) ?_
        refine lv_iload_n hx hb dX6_gainOne_67 rfl (lv_at hl 4 rfl) ?_
        refine xv (wr := [(hpo, .inr (6, [.ref hr, .ref hg, .ref hgr])), (hgr, .inr (3, [.int (nI en), .ref gs, .ref g1r, .ref g2r, .ref gan, .ref gpr, .ref gde, .ref gme])), (gpr, .inl (cs 0, 16, .inl gpf))]) (xV (As := [.int (nI t9), .int (nI 1), .int (nI e0)]) (rest := []) C (c_X10_put l D cs hv av ch po f t9 1 (nI e0) (by omega) (by decide)) kX6_118 hP hD [3, 4] rfl (by decide +kernel) 0 rfl rfl rfl ⟨Nat.le_of_ble_eq_true rfl, Nat.le_of_ble_eq_true rfl⟩ rfl hl.1 rfl (Nat.le_of_ble_eq_true rfl) dX6_gainOne_68 ⟨Nat.le_of_ble_eq_true rfl, Nat.le_of_ble_eq_true rfl⟩) hP hD hS hA [3, 4] [0, 1, 2] rfl rfl (by decide +kernel) (by decide +kernel) ?_
        clear hP hD hS
        try clear locs
        try clear H
        intro u_26 H locs hw_r_25 hP hD hS
        refine W.widen (k := 0) (n := 0) (Nat.le_of_ble_eq_true rfl) (Nat.le_of_ble_eq_true rfl) ?_
        replace hP : va_P D vwCl [(hpo, .inr (6, [.ref hr, .ref hg, .ref hgr])), (hgr, .inr (3, [.int (nI en), .ref gs, .ref g1r, .ref g2r, .ref gan, .ref gpr, .ref gde, .ref gme])), (gpr, .inl (cs 0, 16, .inl gpf)), (hv, .inr (10, [.int ch, .int po, .ref av])), (av, .inl (cs 0, 32, .inl (upd f (t9 * 4 + 1) (nI e0))))] H := hP
        replace hD : va_D A [(hpo, .inr (6, [.ref hr, .ref hg, .ref hgr])), (hgr, .inr (3, [.int (nI en), .ref gs, .ref g1r, .ref g2r, .ref gan, .ref gpr, .ref gde, .ref gme])), (gpr, .inl (cs 0, 16, .inl gpf)), (hv, .inr (10, [.int ch, .int po, .ref av])), (av, .inl (cs 0, 32, .inl (upd f (t9 * 4 + 1) (nI e0))))] := hD
        refine lv_aload_n hx hb dX6_gainOne_71 rfl (lv_at hl 2 rfl) ?_
        refine lv_iload_n hx hb dX6_gainOne_72 rfl (lv_at hl 3 rfl) ?_
        refine lv_iconst (v := nI 2) hx hb dX6_gainOne_73 (by decide) ?_
        refine lv_iconst (v := nI 1) hx hb dX6_gainOne_74 (by decide) ?_
        refine xv (wr := [(hpo, .inr (6, [.ref hr, .ref hg, .ref hgr])), (hgr, .inr (3, [.int (nI en), .ref gs, .ref g1r, .ref g2r, .ref gan, .ref gpr, .ref gde, .ref gme])), (gpr, .inl (cs 0, 16, .inl gpf))]) (xV (As := [.int (nI t9), .int (nI 2), .int (nI 1)]) (rest := []) C (c_X10_put l D cs hv av ch po (upd f (t9 * 4 + 1) (nI e0)) t9 2 (nI 1) (by omega) (by decide)) kX6_118 hP hD [3, 4] rfl (by decide +kernel) 0 rfl rfl rfl ⟨Nat.le_of_ble_eq_true rfl, Nat.le_of_ble_eq_true rfl⟩ rfl hl.1 rfl (Nat.le_of_ble_eq_true rfl) dX6_gainOne_75 ⟨Nat.le_of_ble_eq_true rfl, Nat.le_of_ble_eq_true rfl⟩) hP hD hS hA [3, 4] [0, 1, 2] rfl rfl (by decide +kernel) (by decide +kernel) ?_
        clear hP hD hS
        try clear locs
        try clear H
        intro u_28 H locs hw_r_27 hP hD hS
        refine W.widen (k := 0) (n := 0) (Nat.le_of_ble_eq_true rfl) (Nat.le_of_ble_eq_true rfl) ?_
        replace hP : va_P D vwCl [(hpo, .inr (6, [.ref hr, .ref hg, .ref hgr])), (hgr, .inr (3, [.int (nI en), .ref gs, .ref g1r, .ref g2r, .ref gan, .ref gpr, .ref gde, .ref gme])), (gpr, .inl (cs 0, 16, .inl gpf)), (hv, .inr (10, [.int ch, .int po, .ref av])), (av, .inl (cs 0, 32, .inl (upd (upd f (t9 * 4 + 1) (nI e0)) (t9 * 4 + 2) (nI 1))))] H := hP
        replace hD : va_D A [(hpo, .inr (6, [.ref hr, .ref hg, .ref hgr])), (hgr, .inr (3, [.int (nI en), .ref gs, .ref g1r, .ref g2r, .ref gan, .ref gpr, .ref gde, .ref gme])), (gpr, .inl (cs 0, 16, .inl gpf)), (hv, .inr (10, [.int ch, .int po, .ref av])), (av, .inl (cs 0, 32, .inl (upd (upd f (t9 * 4 + 1) (nI e0)) (t9 * 4 + 2) (nI 1))))] := hD
        exact xretv C (upd (upd f (t9 * 4 + 1) (nI e0)) (t9 * 4 + 2) (nI 1)) (⟨_, Or.inr ⟨fun q => q.elim (fun z => c_3 (hw_r_1.trans z)) (fun z => absurd (by rw [(show (f (t9 * 4 + 0)).toNatClampNeg = e8 from by rw [← hw_r_1, nI_clamp (by omega)])] at z; exact z) (Int32.not_lt.mpr c_21)), rfl⟩, Or.inr ⟨fun q => c_24 (hw_r_22.trans q), rfl⟩⟩) (xP_map hP [0, 1, 3, 4, 2] rfl) (hD.sub [0, 1, 3, 4, 2] (by decide +kernel) rfl) hS (Nat.le_of_ble_eq_true rfl) (Nat.le_of_ble_eq_true rfl) dX6_gainOne_78
      · -- 44 f
        refine lv_aload_n hx hb dX6_gainOne_47 rfl (lv_at hl 2 rfl) ?_
        refine lv_iload_n hx hb dX6_gainOne_48 rfl (lv_at hl 3 rfl) ?_
        refine lv_iconst (v := nI 2) hx hb dX6_gainOne_49 (by decide) ?_
        refine lv_aload_n hx hb dX6_gainOne_50 rfl (lv_at hl 2 rfl) ?_
        refine lv_iload_n hx hb dX6_gainOne_51 rfl (lv_at hl 3 rfl) ?_
        refine lv_iconst (v := nI 2) hx hb dX6_gainOne_52 (by decide) ?_
        refine xi (wr := [(hpo, .inr (6, [.ref hr, .ref hg, .ref hgr])), (hgr, .inr (3, [.int (nI en), .ref gs, .ref g1r, .ref g2r, .ref gan, .ref gpr, .ref gde, .ref gme])), (gpr, .inl (cs 0, 16, .inl gpf))]) (xV (As := [.int (nI t9), .int (nI 2)]) (rest := [.int (nI 2), .int (nI t9), .ref hv]) C (c_X10_get l D cs hv av ch po f t9 2 (by omega) (by decide)) kX6_68 hP hD [3, 4] rfl (by decide +kernel) 0 rfl rfl rfl ⟨Nat.le_of_ble_eq_true rfl, Nat.le_of_ble_eq_true rfl⟩ rfl hl.1 rfl (Nat.le_of_ble_eq_true rfl) dX6_gainOne_53 ⟨Nat.le_of_ble_eq_true rfl, Nat.le_of_ble_eq_true rfl⟩) hP hD hS hA [3, 4] [0, 1, 2] rfl rfl (by decide +kernel) (by decide +kernel) ?_
        clear hP hD hS
        try clear locs
        try clear H
        intro r_29 u_30 H locs hw_r_29 hP hD hS
        have hw_r_29 : r_29 = f (t9 * 4 + 2) := hw_r_29
        refine W.widen (k := 0) (n := 0) (Nat.le_of_ble_eq_true rfl) (Nat.le_of_ble_eq_true rfl) ?_
        replace hP : va_P D vwCl [(hpo, .inr (6, [.ref hr, .ref hg, .ref hgr])), (hgr, .inr (3, [.int (nI en), .ref gs, .ref g1r, .ref g2r, .ref gan, .ref gpr, .ref gde, .ref gme])), (gpr, .inl (cs 0, 16, .inl gpf)), (hv, .inr (10, [.int ch, .int po, .ref av])), (av, .inl (cs 0, 32, .inl f))] H := hP
        replace hD : va_D A [(hpo, .inr (6, [.ref hr, .ref hg, .ref hgr])), (hgr, .inr (3, [.int (nI en), .ref gs, .ref g1r, .ref g2r, .ref gan, .ref gpr, .ref gde, .ref gme])), (gpr, .inl (cs 0, 16, .inl gpf)), (hv, .inr (10, [.int ch, .int po, .ref av])), (av, .inl (cs 0, 32, .inl f))] := hD
        refine lv_iconst (v := nI 1) hx hb dX6_gainOne_56 (by decide) ?_
        refine lv_iadd hx hb dX6_gainOne_57 ?_
        refine xv (wr := [(hpo, .inr (6, [.ref hr, .ref hg, .ref hgr])), (hgr, .inr (3, [.int (nI en), .ref gs, .ref g1r, .ref g2r, .ref gan, .ref gpr, .ref gde, .ref gme])), (gpr, .inl (cs 0, 16, .inl gpf))]) (xV (As := [.int (nI t9), .int (nI 2), .int (r_29 + (nI 1))]) (rest := []) C (c_X10_put l D cs hv av ch po f t9 2 (r_29 + (nI 1)) (by omega) (by decide)) kX6_118 hP hD [3, 4] rfl (by decide +kernel) 0 rfl rfl rfl ⟨Nat.le_of_ble_eq_true rfl, Nat.le_of_ble_eq_true rfl⟩ rfl hl.1 rfl (Nat.le_of_ble_eq_true rfl) dX6_gainOne_58 ⟨Nat.le_of_ble_eq_true rfl, Nat.le_of_ble_eq_true rfl⟩) hP hD hS hA [3, 4] [0, 1, 2] rfl rfl (by decide +kernel) (by decide +kernel) ?_
        clear hP hD hS
        try clear locs
        try clear H
        intro u_32 H locs hw_r_31 hP hD hS
        refine W.widen (k := 0) (n := 0) (Nat.le_of_ble_eq_true rfl) (Nat.le_of_ble_eq_true rfl) ?_
        replace hP : va_P D vwCl [(hpo, .inr (6, [.ref hr, .ref hg, .ref hgr])), (hgr, .inr (3, [.int (nI en), .ref gs, .ref g1r, .ref g2r, .ref gan, .ref gpr, .ref gde, .ref gme])), (gpr, .inl (cs 0, 16, .inl gpf)), (hv, .inr (10, [.int ch, .int po, .ref av])), (av, .inl (cs 0, 32, .inl (upd f (t9 * 4 + 2) (r_29 + (nI 1)))))] H := hP
        replace hD : va_D A [(hpo, .inr (6, [.ref hr, .ref hg, .ref hgr])), (hgr, .inr (3, [.int (nI en), .ref gs, .ref g1r, .ref g2r, .ref gan, .ref gpr, .ref gde, .ref gme])), (gpr, .inl (cs 0, 16, .inl gpf)), (hv, .inr (10, [.int ch, .int po, .ref av])), (av, .inl (cs 0, 32, .inl (upd f (t9 * 4 + 2) (r_29 + (nI 1)))))] := hD
        refine lv_goto (tgt := 78) hx hb dX6_gainOne_61 (by decide) ?_
        exact xretv C (upd f (t9 * 4 + 2) (r_29 + (nI 1))) (⟨_, Or.inr ⟨fun q => q.elim (fun z => c_3 (hw_r_1.trans z)) (fun z => absurd (by rw [(show (f (t9 * 4 + 0)).toNatClampNeg = e8 from by rw [← hw_r_1, nI_clamp (by omega)])] at z; exact z) (Int32.not_lt.mpr c_21)), rfl⟩, Or.inl ⟨hw_r_22.symm.trans c_24, by rw [hw_r_29]⟩⟩) (xP_map hP [0, 1, 3, 4, 2] rfl) (hD.sub [0, 1, 3, 4, 2] (by decide +kernel) rfl) hS (Nat.le_of_ble_eq_true rfl) (Nat.le_of_ble_eq_true rfl) dX6_gainOne_78
    · -- 27 f
      refine lv_aload_n hx hb dX6_gainOne_30 rfl (lv_at hl 2 rfl) ?_
      refine lv_iload_n hx hb dX6_gainOne_31 rfl (lv_at hl 3 rfl) ?_
      refine lv_iconst (v := nI 0) hx hb dX6_gainOne_32 (by decide) ?_
      refine lv_iload_n hx hb dX6_gainOne_33 rfl (lv_at hl 4 rfl) ?_
      refine xv (wr := [(hpo, .inr (6, [.ref hr, .ref hg, .ref hgr])), (hgr, .inr (3, [.int (nI en), .ref gs, .ref g1r, .ref g2r, .ref gan, .ref gpr, .ref gde, .ref gme])), (gpr, .inl (cs 0, 16, .inl gpf))]) (xV (As := [.int (nI t9), .int (nI 0), .int (nI e0)]) (rest := []) C (c_X10_put l D cs hv av ch po f t9 0 (nI e0) (by omega) (by decide)) kX6_118 hP hD [2, 3] rfl (by decide +kernel) 0 rfl rfl rfl ⟨Nat.le_of_ble_eq_true rfl, Nat.le_of_ble_eq_true rfl⟩ rfl hl.1 rfl (Nat.le_of_ble_eq_true rfl) dX6_gainOne_34 ⟨Nat.le_of_ble_eq_true rfl, Nat.le_of_ble_eq_true rfl⟩) hP hD hS hA [2, 3] [0, 1, 4] rfl rfl (by decide +kernel) (by decide +kernel) ?_
      clear hP hD hS
      try clear locs
      try clear H
      intro u_34 H locs hw_r_33 hP hD hS
      refine W.widen (k := 0) (n := 0) (Nat.le_of_ble_eq_true rfl) (Nat.le_of_ble_eq_true rfl) ?_
      replace hP : va_P D vwCl [(hpo, .inr (6, [.ref hr, .ref hg, .ref hgr])), (hgr, .inr (3, [.int (nI en), .ref gs, .ref g1r, .ref g2r, .ref gan, .ref gpr, .ref gde, .ref gme])), (gpr, .inl (cs 0, 16, .inl gpf)), (hv, .inr (10, [.int ch, .int po, .ref av])), (av, .inl (cs 0, 32, .inl (upd f (t9 * 4 + 0) (nI e0))))] H := hP
      replace hD : va_D A [(hpo, .inr (6, [.ref hr, .ref hg, .ref hgr])), (hgr, .inr (3, [.int (nI en), .ref gs, .ref g1r, .ref g2r, .ref gan, .ref gpr, .ref gde, .ref gme])), (gpr, .inl (cs 0, 16, .inl gpf)), (hv, .inr (10, [.int ch, .int po, .ref av])), (av, .inl (cs 0, 32, .inl (upd f (t9 * 4 + 0) (nI e0))))] := hD
      refine lv_aload_n hx hb dX6_gainOne_37 rfl (lv_at hl 2 rfl) ?_
      refine lv_iload_n hx hb dX6_gainOne_38 rfl (lv_at hl 3 rfl) ?_
      refine lv_iconst (v := nI 1) hx hb dX6_gainOne_39 (by decide) ?_
      refine xi (wr := [(hpo, .inr (6, [.ref hr, .ref hg, .ref hgr])), (hgr, .inr (3, [.int (nI en), .ref gs, .ref g1r, .ref g2r, .ref gan, .ref gpr, .ref gde, .ref gme])), (gpr, .inl (cs 0, 16, .inl gpf))]) (xV (As := [.int (nI t9), .int (nI 1)]) (rest := []) C (c_X10_get l D cs hv av ch po (upd f (t9 * 4 + 0) (nI e0)) t9 1 (by omega) (by decide)) kX6_68 hP hD [3, 4] rfl (by decide +kernel) 0 rfl rfl rfl ⟨Nat.le_of_ble_eq_true rfl, Nat.le_of_ble_eq_true rfl⟩ rfl hl.1 rfl (Nat.le_of_ble_eq_true rfl) dX6_gainOne_40 ⟨Nat.le_of_ble_eq_true rfl, Nat.le_of_ble_eq_true rfl⟩) hP hD hS hA [3, 4] [0, 1, 2] rfl rfl (by decide +kernel) (by decide +kernel) ?_
      clear hP hD hS
      try clear locs
      try clear H
      intro r_35 u_36 H locs hw_r_35 hP hD hS
      have hw_r_35 : r_35 = (upd f (t9 * 4 + 0) (nI e0)) (t9 * 4 + 1) := hw_r_35
      refine W.widen (k := 0) (n := 0) (Nat.le_of_ble_eq_true rfl) (Nat.le_of_ble_eq_true rfl) ?_
      replace hP : va_P D vwCl [(hpo, .inr (6, [.ref hr, .ref hg, .ref hgr])), (hgr, .inr (3, [.int (nI en), .ref gs, .ref g1r, .ref g2r, .ref gan, .ref gpr, .ref gde, .ref gme])), (gpr, .inl (cs 0, 16, .inl gpf)), (hv, .inr (10, [.int ch, .int po, .ref av])), (av, .inl (cs 0, 32, .inl (upd f (t9 * 4 + 0) (nI e0))))] H := hP
      replace hD : va_D A [(hpo, .inr (6, [.ref hr, .ref hg, .ref hgr])), (hgr, .inr (3, [.int (nI en), .ref gs, .ref g1r, .ref g2r, .ref gan, .ref gpr, .ref gde, .ref gme])), (gpr, .inl (cs 0, 16, .inl gpf)), (hv, .inr (10, [.int ch, .int po, .ref av])), (av, .inl (cs 0, 32, .inl (upd f (t9 * 4 + 0) (nI e0))))] := hD
      refine lv_iload_n hx hb dX6_gainOne_43 rfl (lv_at hl 4 rfl) ?_
      refine lv_icmp_ne (tgt := 64) hx hb dX6_gainOne_44 (by decide) (fun c_37 => ?_) (fun c_37 => ?_)
      · -- 44 t
        refine lv_aload_n hx hb dX6_gainOne_64 rfl (lv_at hl 2 rfl) ?_
        refine lv_iload_n hx hb dX6_gainOne_65 rfl (lv_at hl 3 rfl) ?_
        refine lv_iconst (v := nI 1) hx hb dX6_gainOne_66 (by decide) ?_
        refine lv_iload_n hx hb dX6_gainOne_67 rfl (lv_at hl 4 rfl) ?_
        refine xv (wr := [(hpo, .inr (6, [.ref hr, .ref hg, .ref hgr])), (hgr, .inr (3, [.int (nI en), .ref gs, .ref g1r, .ref g2r, .ref gan, .ref gpr, .ref gde, .ref gme])), (gpr, .inl (cs 0, 16, .inl gpf))]) (xV (As := [.int (nI t9), .int (nI 1), .int (nI e0)]) (rest := []) C (c_X10_put l D cs hv av ch po (upd f (t9 * 4 + 0) (nI e0)) t9 1 (nI e0) (by omega) (by decide)) kX6_118 hP hD [3, 4] rfl (by decide +kernel) 0 rfl rfl rfl ⟨Nat.le_of_ble_eq_true rfl, Nat.le_of_ble_eq_true rfl⟩ rfl hl.1 rfl (Nat.le_of_ble_eq_true rfl) dX6_gainOne_68 ⟨Nat.le_of_ble_eq_true rfl, Nat.le_of_ble_eq_true rfl⟩) hP hD hS hA [3, 4] [0, 1, 2] rfl rfl (by decide +kernel) (by decide +kernel) ?_
        clear hP hD hS
        try clear locs
        try clear H
        intro u_39 H locs hw_r_38 hP hD hS
        refine W.widen (k := 0) (n := 0) (Nat.le_of_ble_eq_true rfl) (Nat.le_of_ble_eq_true rfl) ?_
        replace hP : va_P D vwCl [(hpo, .inr (6, [.ref hr, .ref hg, .ref hgr])), (hgr, .inr (3, [.int (nI en), .ref gs, .ref g1r, .ref g2r, .ref gan, .ref gpr, .ref gde, .ref gme])), (gpr, .inl (cs 0, 16, .inl gpf)), (hv, .inr (10, [.int ch, .int po, .ref av])), (av, .inl (cs 0, 32, .inl (upd (upd f (t9 * 4 + 0) (nI e0)) (t9 * 4 + 1) (nI e0))))] H := hP
        replace hD : va_D A [(hpo, .inr (6, [.ref hr, .ref hg, .ref hgr])), (hgr, .inr (3, [.int (nI en), .ref gs, .ref g1r, .ref g2r, .ref gan, .ref gpr, .ref gde, .ref gme])), (gpr, .inl (cs 0, 16, .inl gpf)), (hv, .inr (10, [.int ch, .int po, .ref av])), (av, .inl (cs 0, 32, .inl (upd (upd f (t9 * 4 + 0) (nI e0)) (t9 * 4 + 1) (nI e0))))] := hD
        refine lv_aload_n hx hb dX6_gainOne_71 rfl (lv_at hl 2 rfl) ?_
        refine lv_iload_n hx hb dX6_gainOne_72 rfl (lv_at hl 3 rfl) ?_
        refine lv_iconst (v := nI 2) hx hb dX6_gainOne_73 (by decide) ?_
        refine lv_iconst (v := nI 1) hx hb dX6_gainOne_74 (by decide) ?_
        refine xv (wr := [(hpo, .inr (6, [.ref hr, .ref hg, .ref hgr])), (hgr, .inr (3, [.int (nI en), .ref gs, .ref g1r, .ref g2r, .ref gan, .ref gpr, .ref gde, .ref gme])), (gpr, .inl (cs 0, 16, .inl gpf))]) (xV (As := [.int (nI t9), .int (nI 2), .int (nI 1)]) (rest := []) C (c_X10_put l D cs hv av ch po (upd (upd f (t9 * 4 + 0) (nI e0)) (t9 * 4 + 1) (nI e0)) t9 2 (nI 1) (by omega) (by decide)) kX6_118 hP hD [3, 4] rfl (by decide +kernel) 0 rfl rfl rfl ⟨Nat.le_of_ble_eq_true rfl, Nat.le_of_ble_eq_true rfl⟩ rfl hl.1 rfl (Nat.le_of_ble_eq_true rfl) dX6_gainOne_75 ⟨Nat.le_of_ble_eq_true rfl, Nat.le_of_ble_eq_true rfl⟩) hP hD hS hA [3, 4] [0, 1, 2] rfl rfl (by decide +kernel) (by decide +kernel) ?_
        clear hP hD hS
        try clear locs
        try clear H
        intro u_41 H locs hw_r_40 hP hD hS
        refine W.widen (k := 0) (n := 0) (Nat.le_of_ble_eq_true rfl) (Nat.le_of_ble_eq_true rfl) ?_
        replace hP : va_P D vwCl [(hpo, .inr (6, [.ref hr, .ref hg, .ref hgr])), (hgr, .inr (3, [.int (nI en), .ref gs, .ref g1r, .ref g2r, .ref gan, .ref gpr, .ref gde, .ref gme])), (gpr, .inl (cs 0, 16, .inl gpf)), (hv, .inr (10, [.int ch, .int po, .ref av])), (av, .inl (cs 0, 32, .inl (upd (upd (upd f (t9 * 4 + 0) (nI e0)) (t9 * 4 + 1) (nI e0)) (t9 * 4 + 2) (nI 1))))] H := hP
        replace hD : va_D A [(hpo, .inr (6, [.ref hr, .ref hg, .ref hgr])), (hgr, .inr (3, [.int (nI en), .ref gs, .ref g1r, .ref g2r, .ref gan, .ref gpr, .ref gde, .ref gme])), (gpr, .inl (cs 0, 16, .inl gpf)), (hv, .inr (10, [.int ch, .int po, .ref av])), (av, .inl (cs 0, 32, .inl (upd (upd (upd f (t9 * 4 + 0) (nI e0)) (t9 * 4 + 1) (nI e0)) (t9 * 4 + 2) (nI 1))))] := hD
        exact xretv C (upd (upd (upd f (t9 * 4 + 0) (nI e0)) (t9 * 4 + 1) (nI e0)) (t9 * 4 + 2) (nI 1)) (⟨_, Or.inl ⟨Or.inr (by rw [(show (f (t9 * 4 + 0)).toNatClampNeg = e8 from by rw [← hw_r_1, nI_clamp (by omega)])]; exact Int32.not_le.mp c_21), rfl⟩, Or.inr ⟨fun q => c_37 (hw_r_35.trans q), rfl⟩⟩) (xP_map hP [0, 1, 3, 4, 2] rfl) (hD.sub [0, 1, 3, 4, 2] (by decide +kernel) rfl) hS (Nat.le_of_ble_eq_true rfl) (Nat.le_of_ble_eq_true rfl) dX6_gainOne_78
      · -- 44 f
        refine lv_aload_n hx hb dX6_gainOne_47 rfl (lv_at hl 2 rfl) ?_
        refine lv_iload_n hx hb dX6_gainOne_48 rfl (lv_at hl 3 rfl) ?_
        refine lv_iconst (v := nI 2) hx hb dX6_gainOne_49 (by decide) ?_
        refine lv_aload_n hx hb dX6_gainOne_50 rfl (lv_at hl 2 rfl) ?_
        refine lv_iload_n hx hb dX6_gainOne_51 rfl (lv_at hl 3 rfl) ?_
        refine lv_iconst (v := nI 2) hx hb dX6_gainOne_52 (by decide) ?_
        refine xi (wr := [(hpo, .inr (6, [.ref hr, .ref hg, .ref hgr])), (hgr, .inr (3, [.int (nI en), .ref gs, .ref g1r, .ref g2r, .ref gan, .ref gpr, .ref gde, .ref gme])), (gpr, .inl (cs 0, 16, .inl gpf))]) (xV (As := [.int (nI t9), .int (nI 2)]) (rest := [.int (nI 2), .int (nI t9), .ref hv]) C (c_X10_get l D cs hv av ch po (upd f (t9 * 4 + 0) (nI e0)) t9 2 (by omega) (by decide)) kX6_68 hP hD [3, 4] rfl (by decide +kernel) 0 rfl rfl rfl ⟨Nat.le_of_ble_eq_true rfl, Nat.le_of_ble_eq_true rfl⟩ rfl hl.1 rfl (Nat.le_of_ble_eq_true rfl) dX6_gainOne_53 ⟨Nat.le_of_ble_eq_true rfl, Nat.le_of_ble_eq_true rfl⟩) hP hD hS hA [3, 4] [0, 1, 2] rfl rfl (by decide +kernel) (by decide +kernel) ?_
        clear hP hD hS
        try clear locs
        try clear H
        intro r_42 u_43 H locs hw_r_42 hP hD hS
        have hw_r_42 : r_42 = (upd f (t9 * 4 + 0) (nI e0)) (t9 * 4 + 2) := hw_r_42
        refine W.widen (k := 0) (n := 0) (Nat.le_of_ble_eq_true rfl) (Nat.le_of_ble_eq_true rfl) ?_
        replace hP : va_P D vwCl [(hpo, .inr (6, [.ref hr, .ref hg, .ref hgr])), (hgr, .inr (3, [.int (nI en), .ref gs, .ref g1r, .ref g2r, .ref gan, .ref gpr, .ref gde, .ref gme])), (gpr, .inl (cs 0, 16, .inl gpf)), (hv, .inr (10, [.int ch, .int po, .ref av])), (av, .inl (cs 0, 32, .inl (upd f (t9 * 4 + 0) (nI e0))))] H := hP
        replace hD : va_D A [(hpo, .inr (6, [.ref hr, .ref hg, .ref hgr])), (hgr, .inr (3, [.int (nI en), .ref gs, .ref g1r, .ref g2r, .ref gan, .ref gpr, .ref gde, .ref gme])), (gpr, .inl (cs 0, 16, .inl gpf)), (hv, .inr (10, [.int ch, .int po, .ref av])), (av, .inl (cs 0, 32, .inl (upd f (t9 * 4 + 0) (nI e0))))] := hD
        refine lv_iconst (v := nI 1) hx hb dX6_gainOne_56 (by decide) ?_
        refine lv_iadd hx hb dX6_gainOne_57 ?_
        refine xv (wr := [(hpo, .inr (6, [.ref hr, .ref hg, .ref hgr])), (hgr, .inr (3, [.int (nI en), .ref gs, .ref g1r, .ref g2r, .ref gan, .ref gpr, .ref gde, .ref gme])), (gpr, .inl (cs 0, 16, .inl gpf))]) (xV (As := [.int (nI t9), .int (nI 2), .int (r_42 + (nI 1))]) (rest := []) C (c_X10_put l D cs hv av ch po (upd f (t9 * 4 + 0) (nI e0)) t9 2 (r_42 + (nI 1)) (by omega) (by decide)) kX6_118 hP hD [3, 4] rfl (by decide +kernel) 0 rfl rfl rfl ⟨Nat.le_of_ble_eq_true rfl, Nat.le_of_ble_eq_true rfl⟩ rfl hl.1 rfl (Nat.le_of_ble_eq_true rfl) dX6_gainOne_58 ⟨Nat.le_of_ble_eq_true rfl, Nat.le_of_ble_eq_true rfl⟩) hP hD hS hA [3, 4] [0, 1, 2] rfl rfl (by decide +kernel) (by decide +kernel) ?_
        clear hP hD hS
        try clear locs
        try clear H
        intro u_45 H locs hw_r_44 hP hD hS
        refine W.widen (k := 0) (n := 0) (Nat.le_of_ble_eq_true rfl) (Nat.le_of_ble_eq_true rfl) ?_
        replace hP : va_P D vwCl [(hpo, .inr (6, [.ref hr, .ref hg, .ref hgr])), (hgr, .inr (3, [.int (nI en), .ref gs, .ref g1r, .ref g2r, .ref gan, .ref gpr, .ref gde, .ref gme])), (gpr, .inl (cs 0, 16, .inl gpf)), (hv, .inr (10, [.int ch, .int po, .ref av])), (av, .inl (cs 0, 32, .inl (upd (upd f (t9 * 4 + 0) (nI e0)) (t9 * 4 + 2) (r_42 + (nI 1)))))] H := hP
        replace hD : va_D A [(hpo, .inr (6, [.ref hr, .ref hg, .ref hgr])), (hgr, .inr (3, [.int (nI en), .ref gs, .ref g1r, .ref g2r, .ref gan, .ref gpr, .ref gde, .ref gme])), (gpr, .inl (cs 0, 16, .inl gpf)), (hv, .inr (10, [.int ch, .int po, .ref av])), (av, .inl (cs 0, 32, .inl (upd (upd f (t9 * 4 + 0) (nI e0)) (t9 * 4 + 2) (r_42 + (nI 1)))))] := hD
        refine lv_goto (tgt := 78) hx hb dX6_gainOne_61 (by decide) ?_
        exact xretv C (upd (upd f (t9 * 4 + 0) (nI e0)) (t9 * 4 + 2) (r_42 + (nI 1))) (⟨_, Or.inl ⟨Or.inr (by rw [(show (f (t9 * 4 + 0)).toNatClampNeg = e8 from by rw [← hw_r_1, nI_clamp (by omega)])]; exact Int32.not_le.mp c_21), rfl⟩, Or.inl ⟨hw_r_35.symm.trans c_37, by rw [hw_r_42]⟩⟩) (xP_map hP [0, 1, 3, 4, 2] rfl) (hD.sub [0, 1, 3, 4, 2] (by decide +kernel) rfl) hS (Nat.le_of_ble_eq_true rfl) (Nat.le_of_ble_eq_true rfl) dX6_gainOne_78

theorem gaP.pr {gpf : Nat → Int32} {ch : Int32} {t e : Nat} {f g : Nat → Int32} (h : prP f) (he : e < 16) (hg : gaP gpf ch t e f g) : prP g := by
  obtain ⟨m, h1, h2⟩ := hg
  have hm : prP m := by
    rcases h1 with ⟨_, rfl⟩ | ⟨_, rfl⟩
    · exact prP_p h _ _ he
    · exact h
  rcases h2 with ⟨_, rfl⟩ | ⟨_, rfl⟩
  · exact prP_o hm _ _ _ (by decide)
  · exact prP_o (prP_o hm _ _ _ (by decide)) _ _ _ (by decide)

set_option maxHeartbeats 4000000 in
set_option maxRecDepth 100000 in
theorem c_X6_gain_f (l : Launch) (D : va_G) (cs : Nat → ClassId) (hpo : Nat) (hr hg : Nat) (hgr en gs g1r g2r gan gpr gde gme : Nat) (hv av : Nat) (ch po : Int32) (f : Nat → Int32) (gsf gpf : Nat → Int32) (x : Int32) (hen : en ≤ 16) (hgs : inP 16 8 gsf) (hpr : prP f) : xMet l D cs yX6_gain cX6_gain 4 none ({ frames := 3, cells := 0, slots := 0, locals := 66 } : Room) [.ref hpo, .ref hv, .int x] [(hpo, .inr (6, [.ref hr, .ref hg, .ref hgr])), (hgr, .inr (3, [.int (nI en), .ref gs, .ref g1r, .ref g2r, .ref gan, .ref gpr, .ref gde, .ref gme])), (hv, .inr (10, [.int ch, .int po, .ref av])), (av, .inl (cs 0, 32, .inl f)), (gs, .inl (cs 0, 16, .inl gsf)), (gpr, .inl (cs 0, 16, .inl gpf))] (xQv D (fun (fz : (Nat → Int32)) => gaiC gsf gpf ch x en f fz ∧ prP fz) (fun (fz : (Nat → Int32)) => [(hpo, .inr (6, [.ref hr, .ref hg, .ref hgr])), (hgr, .inr (3, [.int (nI en), .ref gs, .ref g1r, .ref g2r, .ref gan, .ref gpr, .ref gde, .ref gme])), (hv, .inr (10, [.int ch, .int po, .ref av])), (av, .inl (cs 0, 32, .inl fz)), (gs, .inl (cs 0, 16, .inl gsf)), (gpr, .inl (cs 0, 16, .inl gpf))])) := by
  refine xMet.intro (by decide) (Nat.le_of_ble_eq_true rfl) ?_
  intro p e s m args below meth c A ls C hP hD hS hl
  have hx := C.1
  have hb := C.2.1
  have hz := C.2.2.2.2.1
  have hown := C.2.2.2.1
  have hA := C.2.2.2.2.2.2.2.2.2
  have hAO := C.2.2.2.2.2.2.2.2.1.2.2
  replace hl : lv_has ls 4 [(0, .ref hpo), (1, .ref hv), (2, .int x)] := hl
  obtain ⟨H, hH⟩ : ∃ H, H = s.heap := ⟨_, rfl⟩
  replace hP : va_P D vwCl [(hpo, .inr (6, [.ref hr, .ref hg, .ref hgr])), (hgr, .inr (3, [.int (nI en), .ref gs, .ref g1r, .ref g2r, .ref gan, .ref gpr, .ref gde, .ref gme])), (hv, .inr (10, [.int ch, .int po, .ref av])), (av, .inl (cs 0, 32, .inl f)), (gs, .inl (cs 0, 16, .inl gsf)), (gpr, .inl (cs 0, 16, .inl gpf))] H := by rw [hH]; exact hP
  replace hS : va_S A s.heap H [] := by rw [hH]; exact hS
  obtain ⟨locs, hlocs⟩ : ∃ z : List Loc, z = [] := ⟨_, rfl⟩
  rw [← hlocs] at hS
  suffices hW : W p l e ({ frames := 3, cells := 0, slots := 0, locals := 66 } : Room) s m args below meth c H locs 0 0 (MQ below ((xQv D (fun (fz : (Nat → Int32)) => gaiC gsf gpf ch x en f fz ∧ prP fz) (fun (fz : (Nat → Int32)) => [(hpo, .inr (6, [.ref hr, .ref hg, .ref hgr])), (hgr, .inr (3, [.int (nI en), .ref gs, .ref g1r, .ref g2r, .ref gan, .ref gpr, .ref gde, .ref gme])), (hv, .inr (10, [.int ch, .int po, .ref av])), (av, .inl (cs 0, 32, .inl fz)), (gs, .inl (cs 0, 16, .inl gsf)), (gpr, .inl (cs 0, 16, .inl gpf))])) A) args s 0 0 A) (F0 m 0 ls []) by rw [hlocs, hH] at hW; exact hW
  clear hH hlocs
  refine lv_iconst (v := nI 0) hx hb dX6_gain_0 (by decide) ?_
  refine lv_istore_n (lv' := [(3, .int (nI 0)), (0, .ref hpo), (1, .ref hv), (2, .int x)]) hx hb dX6_gain_1 rfl hl (by decide) rfl ?_
  clear hl
  try clear ls
  intro ls hl
  have loop_1 : ∀ (n_loop_1 : Nat) (e9 : Nat) (f9 : Nat → Int32), (e9 ≤ en) → (prP f9) → (gaiC gsf gpf ch x e9 f f9) → en - e9 < n_loop_1 → ∀ (H : Heap) (locs : List Loc) (ls : Array Slot), va_P D vwCl [(hpo, .inr (6, [.ref hr, .ref hg, .ref hgr])), (hgr, .inr (3, [.int (nI en), .ref gs, .ref g1r, .ref g2r, .ref gan, .ref gpr, .ref gde, .ref gme])), (hv, .inr (10, [.int ch, .int po, .ref av])), (av, .inl (cs 0, 32, .inl f9)), (gs, .inl (cs 0, 16, .inl gsf)), (gpr, .inl (cs 0, 16, .inl gpf))] H → va_D A [(hpo, .inr (6, [.ref hr, .ref hg, .ref hgr])), (hgr, .inr (3, [.int (nI en), .ref gs, .ref g1r, .ref g2r, .ref gan, .ref gpr, .ref gde, .ref gme])), (hv, .inr (10, [.int ch, .int po, .ref av])), (av, .inl (cs 0, 32, .inl f9)), (gs, .inl (cs 0, 16, .inl gsf)), (gpr, .inl (cs 0, 16, .inl gpf))] → va_S A s.heap H locs → lv_has ls 4 [(3, .int (nI e9)), (0, .ref hpo), (1, .ref hv), (2, .int x)] → W p l e ({ frames := 3, cells := 0, slots := 0, locals := 66 } : Room) s m args below meth c H locs 0 0 (MQ below ((xQv D (fun (fz : (Nat → Int32)) => gaiC gsf gpf ch x en f fz ∧ prP fz) (fun (fz : (Nat → Int32)) => [(hpo, .inr (6, [.ref hr, .ref hg, .ref hgr])), (hgr, .inr (3, [.int (nI en), .ref gs, .ref g1r, .ref g2r, .ref gan, .ref gpr, .ref gde, .ref gme])), (hv, .inr (10, [.int ch, .int po, .ref av])), (av, .inl (cs 0, 32, .inl fz)), (gs, .inl (cs 0, 16, .inl gsf)), (gpr, .inl (cs 0, 16, .inl gpf))])) A) args s 0 0 A) (F0 m 2 ls []) := by
    intro n_loop_1
    induction n_loop_1 with
    | zero => intro e9 f9 h_e9 hpr9 hga9 hlt H locs ls hP hD hS hl; exact absurd hlt (Nat.not_lt_zero _)
    | succ n_loop_1 ih_loop_1 =>
      intro e9 f9 h_e9 hpr9 hga9 hlt_loop_1 H locs ls hP hD hS hl
      refine lv_iload_n hx hb dX6_gain_2 rfl (lv_at hl 0 rfl) ?_
      refine lv_aload_n hx hb dX6_gain_3 rfl (lv_at hl 1 rfl) ?_
      refine xget C hP 0 rfl rfl zuX6 2 (by decide) zw2_25 rfl dX6_gain_4 ?_
      refine xget C hP 1 rfl rfl zuX3 0 (by decide) zw1_196 rfl dX6_gain_7 ?_
      refine lv_icmp_ge (tgt := 44) hx hb dX6_gain_10 (by decide) (fun c_2 => ?_) (fun c_2 => ?_)
      · -- 10 t
        have fc_2 : en ≤ e9 := nf_le (by omega) (by omega) c_2
        exact xretv C f9 (⟨(by have q7 : e9 = en := (by omega); rw [← q7]; exact hga9), hpr9⟩) hP hD hS (Nat.le_of_ble_eq_true rfl) (Nat.le_of_ble_eq_true rfl) dX6_gain_44
      · -- 10 f
        have fc_2 : e9 < en := nf_nle (by omega) (by omega) c_2
        refine lv_aload_n hx hb dX6_gain_13 rfl (lv_at hl 1 rfl) ?_
        refine lv_aload_n hx hb dX6_gain_14 rfl (lv_at hl 2 rfl) ?_
        refine lv_iload_n hx hb dX6_gain_15 rfl (lv_at hl 3 rfl) ?_
        refine lv_iload_n hx hb dX6_gain_16 rfl (lv_at hl 0 rfl) ?_
        refine xi (wr := [(gpr, .inl (cs 0, 16, .inl gpf))]) (xV (As := [.ref hv, .int x, .int (nI e9)]) (rest := []) C (c_X6_isOpenOf_f l D cs hpo hr hg hgr en gs g1r g2r gan gpr gde gme hv av ch po f9 gsf x e9 hgs (by omega)) kX6_114 hP hD [0, 1, 2, 3, 4] rfl (by decide +kernel) 0 rfl rfl rfl ⟨Nat.le_of_ble_eq_true rfl, Nat.le_of_ble_eq_true rfl⟩ rfl hl.1 rfl (Nat.le_of_ble_eq_true rfl) dX6_gain_17 ⟨Nat.le_of_ble_eq_true rfl, Nat.le_of_ble_eq_true rfl⟩) hP hD hS hA [0, 1, 2, 3, 4] [5] rfl rfl (by decide +kernel) (by decide +kernel) ?_
        clear hP hD hS
        try clear locs
        try clear H
        intro r_3 u_4 H locs hw_r_3 hP hD hS
        have hw_r_3 : PQ (opnC gsf x f9 e9) r_3 (nI 1) (nI 0) := hw_r_3
        refine W.widen (k := 0) (n := 0) (Nat.le_of_ble_eq_true rfl) (Nat.le_of_ble_eq_true rfl) ?_
        replace hP : va_P D vwCl [(gpr, .inl (cs 0, 16, .inl gpf)), (hpo, .inr (6, [.ref hr, .ref hg, .ref hgr])), (hgr, .inr (3, [.int (nI en), .ref gs, .ref g1r, .ref g2r, .ref gan, .ref gpr, .ref gde, .ref gme])), (hv, .inr (10, [.int ch, .int po, .ref av])), (av, .inl (cs 0, 32, .inl f9)), (gs, .inl (cs 0, 16, .inl gsf))] H := hP
        replace hD : va_D A [(gpr, .inl (cs 0, 16, .inl gpf)), (hpo, .inr (6, [.ref hr, .ref hg, .ref hgr])), (hgr, .inr (3, [.int (nI en), .ref gs, .ref g1r, .ref g2r, .ref gan, .ref gpr, .ref gde, .ref gme])), (hv, .inr (10, [.int ch, .int po, .ref av])), (av, .inl (cs 0, 32, .inl f9)), (gs, .inl (cs 0, 16, .inl gsf))] := hD
        refine lv_if_eq (tgt := 38) hx hb dX6_gain_20 (by decide) (fun c_5 => ?_) (fun c_5 => ?_)
        · -- 20 t
          refine lv_iinc (v := nI (e9 + 1)) (lv' := [(3, .int (nI (e9 + 1))), (0, .ref hpo), (1, .ref hv), (2, .int x)]) hx hb dX6_gain_38 hl (k := 0) rfl (nI_add e9 1) (by decide) rfl ?_
          clear hl
          try clear ls
          intro ls hl
          refine lv_goto (tgt := 2) hx hb dX6_gain_41 (by decide) ?_
          exact ih_loop_1 (e9 + 1) f9 (by omega) hpr9 (⟨_, hga9, Or.inr ⟨PQ.no hw_r_3 c_5 (by decide), rfl⟩⟩) (by omega) H locs ls (xP_map hP [1, 2, 3, 4, 5, 0] rfl) (hD.sub [1, 2, 3, 4, 5, 0] (by decide +kernel) rfl) hS (lv_sub hl [0, 1, 2, 3] rfl)
        · -- 20 f
          refine lv_aload_n hx hb dX6_gain_23 rfl (lv_at hl 1 rfl) ?_
          refine lv_aload_n hx hb dX6_gain_24 rfl (lv_at hl 2 rfl) ?_
          refine lv_aload_n hx hb dX6_gain_25 rfl (lv_at hl 1 rfl) ?_
          refine xget C hP 1 rfl rfl zuX6 2 (by decide) zw2_25 rfl dX6_gain_26 ?_
          refine xget C hP 2 rfl rfl zuX3 1 (by decide) zw1_199 rfl dX6_gain_29 ?_
          refine lv_iload_n hx hb dX6_gain_32 rfl (lv_at hl 0 rfl) ?_
          refine xiald C hP 5 rfl e9 rfl (by omega) (by decide) dX6_gain_33 ?_
          refine lv_topi (nm_r (e' := nI (sT gsf e9)) ((sT_eq hgs (by omega)).2) ?_)
          refine lv_iload_n hx hb dX6_gain_34 rfl (lv_at hl 0 rfl) ?_
          refine xv (wr := [(gs, .inl (cs 0, 16, .inl gsf))]) (xV (As := [.ref hv, .int (nI (sT gsf e9)), .int (nI e9)]) (rest := []) C (c_X6_gainOne_f l D cs hpo hr hg hgr en gs g1r g2r gan gpr gde gme hv av ch po f9 gpf (sT gsf e9) e9 hpr9 ((sT_eq hgs (by omega)).1) (by omega)) kX6_122 hP hD [1, 2, 3, 4, 0] rfl (by decide +kernel) 0 rfl rfl rfl ⟨Nat.le_of_ble_eq_true rfl, Nat.le_of_ble_eq_true rfl⟩ rfl hl.1 rfl (Nat.le_of_ble_eq_true rfl) dX6_gain_35 ⟨Nat.le_of_ble_eq_true rfl, Nat.le_of_ble_eq_true rfl⟩) hP hD hS hA [1, 2, 3, 4, 0] [5] rfl rfl (by decide +kernel) (by decide +kernel) ?_
          clear hP hD hS
          try clear locs
          try clear H
          intro u_7 H locs hw_r_6 hP hD hS
          have hw_r_6 : gaP gpf ch (sT gsf e9) e9 f9 u_7 := hw_r_6
          refine W.widen (k := 0) (n := 0) (Nat.le_of_ble_eq_true rfl) (Nat.le_of_ble_eq_true rfl) ?_
          replace hP : va_P D vwCl [(gs, .inl (cs 0, 16, .inl gsf)), (hpo, .inr (6, [.ref hr, .ref hg, .ref hgr])), (hgr, .inr (3, [.int (nI en), .ref gs, .ref g1r, .ref g2r, .ref gan, .ref gpr, .ref gde, .ref gme])), (hv, .inr (10, [.int ch, .int po, .ref av])), (av, .inl (cs 0, 32, .inl u_7)), (gpr, .inl (cs 0, 16, .inl gpf))] H := hP
          replace hD : va_D A [(gs, .inl (cs 0, 16, .inl gsf)), (hpo, .inr (6, [.ref hr, .ref hg, .ref hgr])), (hgr, .inr (3, [.int (nI en), .ref gs, .ref g1r, .ref g2r, .ref gan, .ref gpr, .ref gde, .ref gme])), (hv, .inr (10, [.int ch, .int po, .ref av])), (av, .inl (cs 0, 32, .inl u_7)), (gpr, .inl (cs 0, 16, .inl gpf))] := hD
          refine lv_iinc (v := nI (e9 + 1)) (lv' := [(3, .int (nI (e9 + 1))), (0, .ref hpo), (1, .ref hv), (2, .int x)]) hx hb dX6_gain_38 hl (k := 0) rfl (nI_add e9 1) (by decide) rfl ?_
          clear hl
          try clear ls
          intro ls hl
          refine lv_goto (tgt := 2) hx hb dX6_gain_41 (by decide) ?_
          exact ih_loop_1 (e9 + 1) u_7 (by omega) (gaP.pr hpr9 (by omega) hw_r_6) (⟨_, hga9, Or.inl ⟨PQ.yes hw_r_3 c_5, hw_r_6⟩⟩) (by omega) H locs ls (xP_map hP [1, 2, 3, 4, 0, 5] rfl) (hD.sub [1, 2, 3, 4, 0, 5] (by decide +kernel) rfl) hS (lv_sub hl [0, 1, 2, 3] rfl)
  exact loop_1 _ 0 f (by omega) hpr rfl (Nat.lt_succ_self _) H locs ls hP hD hS (lv_sub hl [0, 1, 2, 3] rfl)

set_option maxHeartbeats 4000000 in
set_option maxRecDepth 100000 in
theorem c_X6_areAccepted_f (l : Launch) (D : va_G) (cs : Nat → ClassId) (hpo : Nat) (hr hg : Nat) (hgr en gs g1r g2r gan gpr gde gme : Nat) (hv av : Nat) (ch po : Int32) (f : Nat → Int32) (gsf : Nat → Int32) (x : Int32) (hen : en ≤ 16) (hgs : inP 16 8 gsf) : xMet l D cs yX6_areAccepted cX6_areAccepted 4 (some .boolean) ({ frames := 3, cells := 0, slots := 0, locals := 66 } : Room) [.ref hpo, .ref hv, .int x] [(hpo, .inr (6, [.ref hr, .ref hg, .ref hgr])), (hgr, .inr (3, [.int (nI en), .ref gs, .ref g1r, .ref g2r, .ref gan, .ref gpr, .ref gde, .ref gme])), (hv, .inr (10, [.int ch, .int po, .ref av])), (av, .inl (cs 0, 32, .inl f)), (gs, .inl (cs 0, 16, .inl gsf))] (xQi D (fun (r : Int32) (_u : Unit) => PQ (araC en gsf f x) r (nI 1) (nI 0)) (fun (_u : Unit) => [(hpo, .inr (6, [.ref hr, .ref hg, .ref hgr])), (hgr, .inr (3, [.int (nI en), .ref gs, .ref g1r, .ref g2r, .ref gan, .ref gpr, .ref gde, .ref gme])), (hv, .inr (10, [.int ch, .int po, .ref av])), (av, .inl (cs 0, 32, .inl f)), (gs, .inl (cs 0, 16, .inl gsf))])) := by
  refine xMet.intro (by decide) (Nat.le_of_ble_eq_true rfl) ?_
  intro p e s m args below meth c A ls C hP hD hS hl
  have hx := C.1
  have hb := C.2.1
  have hz := C.2.2.2.2.1
  have hown := C.2.2.2.1
  have hA := C.2.2.2.2.2.2.2.2.2
  have hAO := C.2.2.2.2.2.2.2.2.1.2.2
  replace hl : lv_has ls 4 [(0, .ref hpo), (1, .ref hv), (2, .int x)] := hl
  obtain ⟨H, hH⟩ : ∃ H, H = s.heap := ⟨_, rfl⟩
  replace hP : va_P D vwCl [(hpo, .inr (6, [.ref hr, .ref hg, .ref hgr])), (hgr, .inr (3, [.int (nI en), .ref gs, .ref g1r, .ref g2r, .ref gan, .ref gpr, .ref gde, .ref gme])), (hv, .inr (10, [.int ch, .int po, .ref av])), (av, .inl (cs 0, 32, .inl f)), (gs, .inl (cs 0, 16, .inl gsf))] H := by rw [hH]; exact hP
  replace hS : va_S A s.heap H [] := by rw [hH]; exact hS
  obtain ⟨locs, hlocs⟩ : ∃ z : List Loc, z = [] := ⟨_, rfl⟩
  rw [← hlocs] at hS
  suffices hW : W p l e ({ frames := 3, cells := 0, slots := 0, locals := 66 } : Room) s m args below meth c H locs 0 0 (MQ below ((xQi D (fun (r : Int32) (_u : Unit) => PQ (araC en gsf f x) r (nI 1) (nI 0)) (fun (_u : Unit) => [(hpo, .inr (6, [.ref hr, .ref hg, .ref hgr])), (hgr, .inr (3, [.int (nI en), .ref gs, .ref g1r, .ref g2r, .ref gan, .ref gpr, .ref gde, .ref gme])), (hv, .inr (10, [.int ch, .int po, .ref av])), (av, .inl (cs 0, 32, .inl f)), (gs, .inl (cs 0, 16, .inl gsf))])) A) args s 0 0 A) (F0 m 0 ls []) by rw [hlocs, hH] at hW; exact hW
  clear hH hlocs
  refine lv_iconst (v := nI 0) hx hb dX6_areAccepted_0 (by decide) ?_
  refine lv_istore_n (lv' := [(3, .int (nI 0)), (0, .ref hpo), (1, .ref hv), (2, .int x)]) hx hb dX6_areAccepted_1 rfl hl (by decide) rfl ?_
  clear hl
  try clear ls
  intro ls hl
  have loop_1 : ∀ (n_loop_1 : Nat) (e9 : Nat), (e9 ≤ en) → (∀ i, i < e9 → hasB x i → stdF (f (sT gsf i * 4 + 3)) i = nI 1) → en - e9 < n_loop_1 → ∀ (H : Heap) (locs : List Loc) (ls : Array Slot), va_P D vwCl [(hpo, .inr (6, [.ref hr, .ref hg, .ref hgr])), (hgr, .inr (3, [.int (nI en), .ref gs, .ref g1r, .ref g2r, .ref gan, .ref gpr, .ref gde, .ref gme])), (hv, .inr (10, [.int ch, .int po, .ref av])), (av, .inl (cs 0, 32, .inl f)), (gs, .inl (cs 0, 16, .inl gsf))] H → va_D A [(hpo, .inr (6, [.ref hr, .ref hg, .ref hgr])), (hgr, .inr (3, [.int (nI en), .ref gs, .ref g1r, .ref g2r, .ref gan, .ref gpr, .ref gde, .ref gme])), (hv, .inr (10, [.int ch, .int po, .ref av])), (av, .inl (cs 0, 32, .inl f)), (gs, .inl (cs 0, 16, .inl gsf))] → va_S A s.heap H locs → lv_has ls 4 [(3, .int (nI e9)), (0, .ref hpo), (1, .ref hv), (2, .int x)] → W p l e ({ frames := 3, cells := 0, slots := 0, locals := 66 } : Room) s m args below meth c H locs 0 0 (MQ below ((xQi D (fun (r : Int32) (_u : Unit) => PQ (araC en gsf f x) r (nI 1) (nI 0)) (fun (_u : Unit) => [(hpo, .inr (6, [.ref hr, .ref hg, .ref hgr])), (hgr, .inr (3, [.int (nI en), .ref gs, .ref g1r, .ref g2r, .ref gan, .ref gpr, .ref gde, .ref gme])), (hv, .inr (10, [.int ch, .int po, .ref av])), (av, .inl (cs 0, 32, .inl f)), (gs, .inl (cs 0, 16, .inl gsf))])) A) args s 0 0 A) (F0 m 2 ls []) := by
    intro n_loop_1
    induction n_loop_1 with
    | zero => intro e9 h_e9 haa9 hlt H locs ls hP hD hS hl; exact absurd hlt (Nat.not_lt_zero _)
    | succ n_loop_1 ih_loop_1 =>
      intro e9 h_e9 haa9 hlt_loop_1 H locs ls hP hD hS hl
      refine lv_iload_n hx hb dX6_areAccepted_2 rfl (lv_at hl 0 rfl) ?_
      refine lv_aload_n hx hb dX6_areAccepted_3 rfl (lv_at hl 1 rfl) ?_
      refine xget C hP 0 rfl rfl zuX6 2 (by decide) zw2_25 rfl dX6_areAccepted_4 ?_
      refine xget C hP 1 rfl rfl zuX3 0 (by decide) zw1_196 rfl dX6_areAccepted_7 ?_
      refine lv_icmp_ge (tgt := 40) hx hb dX6_areAccepted_10 (by decide) (fun c_2 => ?_) (fun c_2 => ?_)
      · -- 10 t
        have fc_2 : en ≤ e9 := nf_le (by omega) (by omega) c_2
        refine lv_iconst (v := nI 1) hx hb dX6_areAccepted_40 (by decide) ?_
        exact xreti C () (Or.inl ⟨fun i hi hb => haa9 i (by omega) hb, rfl⟩) hP hD hS (Nat.le_of_ble_eq_true rfl) (Nat.le_of_ble_eq_true rfl) (by decide) dX6_areAccepted_41
      · -- 10 f
        have fc_2 : e9 < en := nf_nle (by omega) (by omega) c_2
        refine lv_iload_n hx hb dX6_areAccepted_13 rfl (lv_at hl 3 rfl) ?_
        refine lv_iload_n hx hb dX6_areAccepted_14 rfl (lv_at hl 0 rfl) ?_
        refine lv_ishr hx hb dX6_areAccepted_15 ?_
        refine lv_iconst (v := nI 1) hx hb dX6_areAccepted_16 (by decide) ?_
        refine lv_iand hx hb dX6_areAccepted_17 ?_
        refine lv_iconst (v := nI 1) hx hb dX6_areAccepted_18 (by decide) ?_
        refine lv_icmp_ne (tgt := 34) hx hb dX6_areAccepted_19 (by decide) (fun c_3 => ?_) (fun c_3 => ?_)
        · -- 19 t
          refine lv_iinc (v := nI (e9 + 1)) (lv' := [(3, .int (nI (e9 + 1))), (0, .ref hpo), (1, .ref hv), (2, .int x)]) hx hb dX6_areAccepted_34 hl (k := 0) rfl (nI_add e9 1) (by decide) rfl ?_
          clear hl
          try clear ls
          intro ls hl
          refine lv_goto (tgt := 2) hx hb dX6_areAccepted_37 (by decide) ?_
          exact ih_loop_1 (e9 + 1) (by omega) (fun i hi hb => by by_cases q : i = e9; subst q; exact absurd hb c_3; exact haa9 i (by omega) hb) (by omega) H locs ls hP hD hS (lv_sub hl [0, 1, 2, 3] rfl)
        · -- 19 f
          refine lv_aload_n hx hb dX6_areAccepted_22 rfl (lv_at hl 1 rfl) ?_
          refine lv_aload_n hx hb dX6_areAccepted_23 rfl (lv_at hl 2 rfl) ?_
          refine lv_iload_n hx hb dX6_areAccepted_24 rfl (lv_at hl 0 rfl) ?_
          refine xi (wr := []) (xV (As := [.ref hv, .int (nI e9)]) (rest := []) C (c_X6_standing_f l D cs hpo hr hg hgr en gs g1r g2r gan gpr gde gme hv av ch po f gsf e9 hgs (by omega)) kX6_78 hP hD [0, 1, 2, 3, 4] rfl (by decide +kernel) 0 rfl rfl rfl ⟨Nat.le_of_ble_eq_true rfl, Nat.le_of_ble_eq_true rfl⟩ rfl hl.1 rfl (Nat.le_of_ble_eq_true rfl) dX6_areAccepted_25 ⟨Nat.le_of_ble_eq_true rfl, Nat.le_of_ble_eq_true rfl⟩) hP hD hS hA [0, 1, 2, 3, 4] [] rfl rfl (by decide +kernel) (by decide +kernel) ?_
          clear hP hD hS
          try clear locs
          try clear H
          intro r_4 u_5 H locs hw_r_4 hP hD hS
          have hw_r_4 : r_4 = stdF (f (sT gsf e9 * 4 + 3)) e9 := hw_r_4
          refine W.widen (k := 0) (n := 0) (Nat.le_of_ble_eq_true rfl) (Nat.le_of_ble_eq_true rfl) ?_
          replace hP : va_P D vwCl [(hpo, .inr (6, [.ref hr, .ref hg, .ref hgr])), (hgr, .inr (3, [.int (nI en), .ref gs, .ref g1r, .ref g2r, .ref gan, .ref gpr, .ref gde, .ref gme])), (hv, .inr (10, [.int ch, .int po, .ref av])), (av, .inl (cs 0, 32, .inl f)), (gs, .inl (cs 0, 16, .inl gsf))] H := hP
          replace hD : va_D A [(hpo, .inr (6, [.ref hr, .ref hg, .ref hgr])), (hgr, .inr (3, [.int (nI en), .ref gs, .ref g1r, .ref g2r, .ref gan, .ref gpr, .ref gde, .ref gme])), (hv, .inr (10, [.int ch, .int po, .ref av])), (av, .inl (cs 0, 32, .inl f)), (gs, .inl (cs 0, 16, .inl gsf))] := hD
          obtain rfl : r_4 = stdF (f (sT gsf e9 * 4 + 3)) e9 := hw_r_4
          refine lv_iconst (v := nI 1) hx hb dX6_areAccepted_28 (by decide) ?_
          refine lv_icmp_eq (tgt := 34) hx hb dX6_areAccepted_29 (by decide) (fun c_6 => ?_) (fun c_6 => ?_)
          · -- 29 t
            refine lv_iinc (v := nI (e9 + 1)) (lv' := [(3, .int (nI (e9 + 1))), (0, .ref hpo), (1, .ref hv), (2, .int x)]) hx hb dX6_areAccepted_34 hl (k := 0) rfl (nI_add e9 1) (by decide) rfl ?_
            clear hl
            try clear ls
            intro ls hl
            refine lv_goto (tgt := 2) hx hb dX6_areAccepted_37 (by decide) ?_
            exact ih_loop_1 (e9 + 1) (by omega) (fun i hi hb => by by_cases q : i = e9; subst q; exact c_6; exact haa9 i (by omega) hb) (by omega) H locs ls hP hD hS (lv_sub hl [0, 1, 2, 3] rfl)
          · -- 29 f
            refine lv_iconst (v := nI 0) hx hb dX6_areAccepted_32 (by decide) ?_
            exact xreti C () (Or.inr ⟨fun q => c_6 (q e9 (by omega) c_3), rfl⟩) hP hD hS (Nat.le_of_ble_eq_true rfl) (Nat.le_of_ble_eq_true rfl) (by decide) dX6_areAccepted_33
  exact loop_1 _ 0 (by omega) (fun i hi => absurd hi (Nat.not_lt_zero _)) (Nat.lt_succ_self _) H locs ls hP hD hS (lv_sub hl [0, 1, 2, 3] rfl)

set_option maxHeartbeats 4000000 in
set_option maxRecDepth 100000 in
theorem c_X3_isAlone_f (l : Launch) (D : va_G) (cs : Nat → ClassId) (hgr en gs g1r g2r gan gpr gde gme : Nat) (gsf gmf : Nat → Int32) (j : Nat) (hgs : inP 16 8 gsf) (hj : j < 16) : xMet l D cs yX3_isAlone cX3_isAlone 2 (some .boolean) ({ frames := 0, cells := 0, slots := 0, locals := 0 } : Room) [.ref hgr, .int (nI j)] [(hgr, .inr (3, [.int (nI en), .ref gs, .ref g1r, .ref g2r, .ref gan, .ref gpr, .ref gde, .ref gme])), (gs, .inl (cs 0, 16, .inl gsf)), (gme, .inl (cs 0, 8, .inl gmf))] (xQi D (fun (r : Int32) (_u : Unit) => PQ (gmf (sT gsf j) = bitI j) r (nI 1) (nI 0)) (fun (_u : Unit) => [(hgr, .inr (3, [.int (nI en), .ref gs, .ref g1r, .ref g2r, .ref gan, .ref gpr, .ref gde, .ref gme])), (gs, .inl (cs 0, 16, .inl gsf)), (gme, .inl (cs 0, 8, .inl gmf))])) := by
  refine xMet.intro (by decide) (Nat.le_of_ble_eq_true rfl) ?_
  intro p e s m args below meth c A ls C hP hD hS hl
  have hx := C.1
  have hb := C.2.1
  have hz := C.2.2.2.2.1
  have hown := C.2.2.2.1
  have hA := C.2.2.2.2.2.2.2.2.2
  have hAO := C.2.2.2.2.2.2.2.2.1.2.2
  replace hl : lv_has ls 2 [(0, .ref hgr), (1, .int (nI j))] := hl
  obtain ⟨H, hH⟩ : ∃ H, H = s.heap := ⟨_, rfl⟩
  replace hP : va_P D vwCl [(hgr, .inr (3, [.int (nI en), .ref gs, .ref g1r, .ref g2r, .ref gan, .ref gpr, .ref gde, .ref gme])), (gs, .inl (cs 0, 16, .inl gsf)), (gme, .inl (cs 0, 8, .inl gmf))] H := by rw [hH]; exact hP
  replace hS : va_S A s.heap H [] := by rw [hH]; exact hS
  obtain ⟨locs, hlocs⟩ : ∃ z : List Loc, z = [] := ⟨_, rfl⟩
  rw [← hlocs] at hS
  suffices hW : W p l e ({ frames := 0, cells := 0, slots := 0, locals := 0 } : Room) s m args below meth c H locs 0 0 (MQ below ((xQi D (fun (r : Int32) (_u : Unit) => PQ (gmf (sT gsf j) = bitI j) r (nI 1) (nI 0)) (fun (_u : Unit) => [(hgr, .inr (3, [.int (nI en), .ref gs, .ref g1r, .ref g2r, .ref gan, .ref gpr, .ref gde, .ref gme])), (gs, .inl (cs 0, 16, .inl gsf)), (gme, .inl (cs 0, 8, .inl gmf))])) A) args s 0 0 A) (F0 m 0 ls []) by rw [hlocs, hH] at hW; exact hW
  clear hH hlocs
  refine lv_aload_n hx hb dX3_isAlone_0 rfl (lv_at hl 0 rfl) ?_
  refine xget C hP 0 rfl rfl zuX3 7 (by decide) zw1_212 rfl dX3_isAlone_1 ?_
  refine lv_aload_n hx hb dX3_isAlone_4 rfl (lv_at hl 0 rfl) ?_
  refine xget C hP 0 rfl rfl zuX3 1 (by decide) zw1_198 rfl dX3_isAlone_5 ?_
  refine lv_iload_n hx hb dX3_isAlone_8 rfl (lv_at hl 1 rfl) ?_
  refine xiald C hP 1 rfl j rfl (by omega) (by decide) dX3_isAlone_9 ?_
  refine lv_topi (nm_r (e' := nI (sT gsf j)) ((sT_eq hgs (by omega)).2) ?_)
  refine xiald C hP 2 rfl (sT gsf j) rfl (sT_eq hgs (by omega)).1 (by decide) dX3_isAlone_10 ?_
  refine lv_iconst (v := nI 1) hx hb dX3_isAlone_11 (by decide) ?_
  refine lv_iload_n hx hb dX3_isAlone_12 rfl (lv_at hl 1 rfl) ?_
  refine lv_ishl hx hb dX3_isAlone_13 ?_
  refine lv_icmp_ne (tgt := 21) hx hb dX3_isAlone_14 (by decide) (fun c_1 => ?_) (fun c_1 => ?_)
  · -- 14 t
    refine lv_iconst (v := nI 0) hx hb dX3_isAlone_21 (by decide) ?_
    exact xreti C () (Or.inr ⟨c_1, rfl⟩) hP hD hS (Nat.le_of_ble_eq_true rfl) (Nat.le_of_ble_eq_true rfl) (by decide) dX3_isAlone_22
  · -- 14 f
    refine lv_iconst (v := nI 1) hx hb dX3_isAlone_17 (by decide) ?_
    refine lv_goto (tgt := 22) hx hb dX3_isAlone_18 (by decide) ?_
    exact xreti C () (Or.inl ⟨c_1, rfl⟩) hP hD hS (Nat.le_of_ble_eq_true rfl) (Nat.le_of_ble_eq_true rfl) (by decide) dX3_isAlone_22

set_option maxHeartbeats 4000000 in
set_option maxRecDepth 100000 in
theorem c_X3_parentBits_f (l : Launch) (D : va_G) (cs : Nat → ClassId) (hgr en gs g1r g2r gan gpr gde gme : Nat) (g1f g2f : Nat → Int32) (j : Nat) (hj : j < 16) : xMet l D cs yX3_parentBits cX3_parentBits 2 (some .int) ({ frames := 0, cells := 0, slots := 0, locals := 0 } : Room) [.ref hgr, .int (nI j)] [(hgr, .inr (3, [.int (nI en), .ref gs, .ref g1r, .ref g2r, .ref gan, .ref gpr, .ref gde, .ref gme])), (g1r, .inl (cs 0, 16, .inl g1f)), (g2r, .inl (cs 0, 16, .inl g2f))] (xQi D (fun (r : Int32) (_u : Unit) => r = parB g1f g2f j) (fun (_u : Unit) => [(hgr, .inr (3, [.int (nI en), .ref gs, .ref g1r, .ref g2r, .ref gan, .ref gpr, .ref gde, .ref gme])), (g1r, .inl (cs 0, 16, .inl g1f)), (g2r, .inl (cs 0, 16, .inl g2f))])) := by
  refine xMet.intro (by decide) (Nat.le_of_ble_eq_true rfl) ?_
  intro p e s m args below meth c A ls C hP hD hS hl
  have hx := C.1
  have hb := C.2.1
  have hz := C.2.2.2.2.1
  have hown := C.2.2.2.1
  have hA := C.2.2.2.2.2.2.2.2.2
  have hAO := C.2.2.2.2.2.2.2.2.1.2.2
  replace hl : lv_has ls 2 [(0, .ref hgr), (1, .int (nI j))] := hl
  obtain ⟨H, hH⟩ : ∃ H, H = s.heap := ⟨_, rfl⟩
  replace hP : va_P D vwCl [(hgr, .inr (3, [.int (nI en), .ref gs, .ref g1r, .ref g2r, .ref gan, .ref gpr, .ref gde, .ref gme])), (g1r, .inl (cs 0, 16, .inl g1f)), (g2r, .inl (cs 0, 16, .inl g2f))] H := by rw [hH]; exact hP
  replace hS : va_S A s.heap H [] := by rw [hH]; exact hS
  obtain ⟨locs, hlocs⟩ : ∃ z : List Loc, z = [] := ⟨_, rfl⟩
  rw [← hlocs] at hS
  suffices hW : W p l e ({ frames := 0, cells := 0, slots := 0, locals := 0 } : Room) s m args below meth c H locs 0 0 (MQ below ((xQi D (fun (r : Int32) (_u : Unit) => r = parB g1f g2f j) (fun (_u : Unit) => [(hgr, .inr (3, [.int (nI en), .ref gs, .ref g1r, .ref g2r, .ref gan, .ref gpr, .ref gde, .ref gme])), (g1r, .inl (cs 0, 16, .inl g1f)), (g2r, .inl (cs 0, 16, .inl g2f))])) A) args s 0 0 A) (F0 m 0 ls []) by rw [hlocs, hH] at hW; exact hW
  clear hH hlocs
  refine lv_aload_n hx hb dX3_parentBits_0 rfl (lv_at hl 0 rfl) ?_
  refine xget C hP 0 rfl rfl zuX3 2 (by decide) zw1_201 rfl dX3_parentBits_1 ?_
  refine lv_iload_n hx hb dX3_parentBits_4 rfl (lv_at hl 1 rfl) ?_
  refine xiald C hP 1 rfl j rfl (by omega) (by decide) dX3_parentBits_5 ?_
  refine lv_iconst (v := (-1)) hx hb dX3_parentBits_6 (by decide) ?_
  refine lv_icmp_ne (tgt := 14) hx hb dX3_parentBits_7 (by decide) (fun c_1 => ?_) (fun c_1 => ?_)
  · -- 7 t
    refine lv_iconst (v := nI 1) hx hb dX3_parentBits_14 (by decide) ?_
    refine lv_aload_n hx hb dX3_parentBits_15 rfl (lv_at hl 0 rfl) ?_
    refine xget C hP 0 rfl rfl zuX3 2 (by decide) zw1_201 rfl dX3_parentBits_16 ?_
    refine lv_iload_n hx hb dX3_parentBits_19 rfl (lv_at hl 1 rfl) ?_
    refine xiald C hP 1 rfl j rfl (by omega) (by decide) dX3_parentBits_20 ?_
    refine lv_ishl hx hb dX3_parentBits_21 ?_
    refine lv_aload_n hx hb dX3_parentBits_22 rfl (lv_at hl 0 rfl) ?_
    refine xget C hP 0 rfl rfl zuX3 3 (by decide) zw1_203 rfl dX3_parentBits_23 ?_
    refine lv_iload_n hx hb dX3_parentBits_26 rfl (lv_at hl 1 rfl) ?_
    refine xiald C hP 2 rfl j rfl (by omega) (by decide) dX3_parentBits_27 ?_
    refine lv_iconst (v := (-1)) hx hb dX3_parentBits_28 (by decide) ?_
    refine lv_icmp_ne (tgt := 36) hx hb dX3_parentBits_29 (by decide) (fun c_2 => ?_) (fun c_2 => ?_)
    · -- 29 t
      refine lv_iconst (v := nI 1) hx hb dX3_parentBits_36 (by decide) ?_
      refine lv_aload_n hx hb dX3_parentBits_37 rfl (lv_at hl 0 rfl) ?_
      refine xget C hP 0 rfl rfl zuX3 3 (by decide) zw1_203 rfl dX3_parentBits_38 ?_
      refine lv_iload_n hx hb dX3_parentBits_41 rfl (lv_at hl 1 rfl) ?_
      refine xiald C hP 2 rfl j rfl (by omega) (by decide) dX3_parentBits_42 ?_
      refine lv_ishl hx hb dX3_parentBits_43 ?_
      refine lv_ior hx hb dX3_parentBits_44 ?_
      exact xreti C () (by unfold parB; rw [if_neg c_1, if_neg c_2]; all_goals first | rfl | decide) hP hD hS (Nat.le_of_ble_eq_true rfl) (Nat.le_of_ble_eq_true rfl) rfl dX3_parentBits_45
    · -- 29 f
      refine lv_iconst (v := nI 0) hx hb dX3_parentBits_32 (by decide) ?_
      refine lv_goto (tgt := 44) hx hb dX3_parentBits_33 (by decide) ?_
      refine lv_ior hx hb dX3_parentBits_44 ?_
      exact xreti C () (by unfold parB; rw [if_neg c_1, if_pos c_2]; all_goals first | rfl | decide) hP hD hS (Nat.le_of_ble_eq_true rfl) (Nat.le_of_ble_eq_true rfl) rfl dX3_parentBits_45
  · -- 7 f
    refine lv_iconst (v := nI 0) hx hb dX3_parentBits_10 (by decide) ?_
    refine lv_goto (tgt := 22) hx hb dX3_parentBits_11 (by decide) ?_
    refine lv_aload_n hx hb dX3_parentBits_22 rfl (lv_at hl 0 rfl) ?_
    refine xget C hP 0 rfl rfl zuX3 3 (by decide) zw1_203 rfl dX3_parentBits_23 ?_
    refine lv_iload_n hx hb dX3_parentBits_26 rfl (lv_at hl 1 rfl) ?_
    refine xiald C hP 2 rfl j rfl (by omega) (by decide) dX3_parentBits_27 ?_
    refine lv_iconst (v := (-1)) hx hb dX3_parentBits_28 (by decide) ?_
    refine lv_icmp_ne (tgt := 36) hx hb dX3_parentBits_29 (by decide) (fun c_3 => ?_) (fun c_3 => ?_)
    · -- 29 t
      refine lv_iconst (v := nI 1) hx hb dX3_parentBits_36 (by decide) ?_
      refine lv_aload_n hx hb dX3_parentBits_37 rfl (lv_at hl 0 rfl) ?_
      refine xget C hP 0 rfl rfl zuX3 3 (by decide) zw1_203 rfl dX3_parentBits_38 ?_
      refine lv_iload_n hx hb dX3_parentBits_41 rfl (lv_at hl 1 rfl) ?_
      refine xiald C hP 2 rfl j rfl (by omega) (by decide) dX3_parentBits_42 ?_
      refine lv_ishl hx hb dX3_parentBits_43 ?_
      refine lv_ior hx hb dX3_parentBits_44 ?_
      exact xreti C () (by unfold parB; rw [if_pos c_1, if_neg c_3]; all_goals first | rfl | decide) hP hD hS (Nat.le_of_ble_eq_true rfl) (Nat.le_of_ble_eq_true rfl) rfl dX3_parentBits_45
    · -- 29 f
      refine lv_iconst (v := nI 0) hx hb dX3_parentBits_32 (by decide) ?_
      refine lv_goto (tgt := 44) hx hb dX3_parentBits_33 (by decide) ?_
      refine lv_ior hx hb dX3_parentBits_44 ?_
      refine lv_topi (nm_r (e' := nI 0) (by decide) ?_)
      exact xreti C () (by unfold parB; rw [if_pos c_1, if_pos c_3]; all_goals first | rfl | decide) hP hD hS (Nat.le_of_ble_eq_true rfl) (Nat.le_of_ble_eq_true rfl) rfl dX3_parentBits_45

set_option maxHeartbeats 4000000 in
set_option maxRecDepth 100000 in
theorem c_X6_isRipe_f (l : Launch) (D : va_G) (cs : Nat → ClassId) (hpo : Nat) (hr sm ca n k al be se : Nat) (ea pr : Int32) (hg : Nat) (hgr en gs g1r g2r gan gpr gde gme : Nat) (hv av : Nat) (ch po : Int32) (f : Nat → Int32) (gsf g1f g2f gmf : Nat → Int32) (t9 e0 : Nat) (hen : en ≤ 16) (hgs : inP 16 8 gsf) (ht9 : t9 < 8) (he : e0 < 16) : xMet l D cs yX6_isRipe cX6_isRipe 5 (some .boolean) ({ frames := 4, cells := 0, slots := 0, locals := 89 } : Room) [.ref hpo, .ref hv, .int (nI t9), .int (nI e0)] [(hpo, .inr (6, [.ref hr, .ref hg, .ref hgr])), (hr, .inr (7, [.int (nI n), .int (nI k), .int (nI al), .int (nI be), .int ea, .int pr, .ref sm, .int (nI se), .ref ca])), (hgr, .inr (3, [.int (nI en), .ref gs, .ref g1r, .ref g2r, .ref gan, .ref gpr, .ref gde, .ref gme])), (hv, .inr (10, [.int ch, .int po, .ref av])), (av, .inl (cs 0, 32, .inl f)), (gs, .inl (cs 0, 16, .inl gsf)), (g1r, .inl (cs 0, 16, .inl g1f)), (g2r, .inl (cs 0, 16, .inl g2f)), (gme, .inl (cs 0, 8, .inl gmf))] (xQi D (fun (r : Int32) (_u : Unit) => PQ (ripC en be ea gsf g1f g2f gmf t9 e0 f) r (nI 1) (nI 0)) (fun (_u : Unit) => [(hpo, .inr (6, [.ref hr, .ref hg, .ref hgr])), (hr, .inr (7, [.int (nI n), .int (nI k), .int (nI al), .int (nI be), .int ea, .int pr, .ref sm, .int (nI se), .ref ca])), (hgr, .inr (3, [.int (nI en), .ref gs, .ref g1r, .ref g2r, .ref gan, .ref gpr, .ref gde, .ref gme])), (hv, .inr (10, [.int ch, .int po, .ref av])), (av, .inl (cs 0, 32, .inl f)), (gs, .inl (cs 0, 16, .inl gsf)), (g1r, .inl (cs 0, 16, .inl g1f)), (g2r, .inl (cs 0, 16, .inl g2f)), (gme, .inl (cs 0, 8, .inl gmf))])) := by
  refine xMet.intro (by decide) (Nat.le_of_ble_eq_true rfl) ?_
  intro p e s m args below meth c A ls C hP hD hS hl
  have hx := C.1
  have hb := C.2.1
  have hz := C.2.2.2.2.1
  have hown := C.2.2.2.1
  have hA := C.2.2.2.2.2.2.2.2.2
  have hAO := C.2.2.2.2.2.2.2.2.1.2.2
  replace hl : lv_has ls 5 [(0, .ref hpo), (1, .ref hv), (2, .int (nI t9)), (3, .int (nI e0))] := hl
  obtain ⟨H, hH⟩ : ∃ H, H = s.heap := ⟨_, rfl⟩
  replace hP : va_P D vwCl [(hpo, .inr (6, [.ref hr, .ref hg, .ref hgr])), (hr, .inr (7, [.int (nI n), .int (nI k), .int (nI al), .int (nI be), .int ea, .int pr, .ref sm, .int (nI se), .ref ca])), (hgr, .inr (3, [.int (nI en), .ref gs, .ref g1r, .ref g2r, .ref gan, .ref gpr, .ref gde, .ref gme])), (hv, .inr (10, [.int ch, .int po, .ref av])), (av, .inl (cs 0, 32, .inl f)), (gs, .inl (cs 0, 16, .inl gsf)), (g1r, .inl (cs 0, 16, .inl g1f)), (g2r, .inl (cs 0, 16, .inl g2f)), (gme, .inl (cs 0, 8, .inl gmf))] H := by rw [hH]; exact hP
  replace hS : va_S A s.heap H [] := by rw [hH]; exact hS
  obtain ⟨locs, hlocs⟩ : ∃ z : List Loc, z = [] := ⟨_, rfl⟩
  rw [← hlocs] at hS
  suffices hW : W p l e ({ frames := 4, cells := 0, slots := 0, locals := 89 } : Room) s m args below meth c H locs 0 0 (MQ below ((xQi D (fun (r : Int32) (_u : Unit) => PQ (ripC en be ea gsf g1f g2f gmf t9 e0 f) r (nI 1) (nI 0)) (fun (_u : Unit) => [(hpo, .inr (6, [.ref hr, .ref hg, .ref hgr])), (hr, .inr (7, [.int (nI n), .int (nI k), .int (nI al), .int (nI be), .int ea, .int pr, .ref sm, .int (nI se), .ref ca])), (hgr, .inr (3, [.int (nI en), .ref gs, .ref g1r, .ref g2r, .ref gan, .ref gpr, .ref gde, .ref gme])), (hv, .inr (10, [.int ch, .int po, .ref av])), (av, .inl (cs 0, 32, .inl f)), (gs, .inl (cs 0, 16, .inl gsf)), (g1r, .inl (cs 0, 16, .inl g1f)), (g2r, .inl (cs 0, 16, .inl g2f)), (gme, .inl (cs 0, 8, .inl gmf))])) A) args s 0 0 A) (F0 m 0 ls []) by rw [hlocs, hH] at hW; exact hW
  clear hH hlocs
  refine lv_aload_n hx hb dX6_isRipe_0 rfl (lv_at hl 1 rfl) ?_
  refine lv_iload_n hx hb dX6_isRipe_1 rfl (lv_at hl 2 rfl) ?_
  refine lv_iconst (v := nI 1) hx hb dX6_isRipe_2 (by decide) ?_
  refine xi (wr := [(hpo, .inr (6, [.ref hr, .ref hg, .ref hgr])), (hr, .inr (7, [.int (nI n), .int (nI k), .int (nI al), .int (nI be), .int ea, .int pr, .ref sm, .int (nI se), .ref ca])), (hgr, .inr (3, [.int (nI en), .ref gs, .ref g1r, .ref g2r, .ref gan, .ref gpr, .ref gde, .ref gme])), (gs, .inl (cs 0, 16, .inl gsf)), (g1r, .inl (cs 0, 16, .inl g1f)), (g2r, .inl (cs 0, 16, .inl g2f)), (gme, .inl (cs 0, 8, .inl gmf))]) (xV (As := [.int (nI t9), .int (nI 1)]) (rest := []) C (c_X10_get l D cs hv av ch po f t9 1 (by omega) (by decide)) kX6_68 hP hD [3, 4] rfl (by decide +kernel) 0 rfl rfl rfl ⟨Nat.le_of_ble_eq_true rfl, Nat.le_of_ble_eq_true rfl⟩ rfl hl.1 rfl (Nat.le_of_ble_eq_true rfl) dX6_isRipe_3 ⟨Nat.le_of_ble_eq_true rfl, Nat.le_of_ble_eq_true rfl⟩) hP hD hS hA [3, 4] [0, 1, 2, 5, 6, 7, 8] rfl rfl (by decide +kernel) (by decide +kernel) ?_
  clear hP hD hS
  try clear locs
  try clear H
  intro r_1 u_2 H locs hw_r_1 hP hD hS
  have hw_r_1 : r_1 = f (t9 * 4 + 1) := hw_r_1
  refine W.widen (k := 0) (n := 0) (Nat.le_of_ble_eq_true rfl) (Nat.le_of_ble_eq_true rfl) ?_
  replace hP : va_P D vwCl [(hpo, .inr (6, [.ref hr, .ref hg, .ref hgr])), (hr, .inr (7, [.int (nI n), .int (nI k), .int (nI al), .int (nI be), .int ea, .int pr, .ref sm, .int (nI se), .ref ca])), (hgr, .inr (3, [.int (nI en), .ref gs, .ref g1r, .ref g2r, .ref gan, .ref gpr, .ref gde, .ref gme])), (gs, .inl (cs 0, 16, .inl gsf)), (g1r, .inl (cs 0, 16, .inl g1f)), (g2r, .inl (cs 0, 16, .inl g2f)), (gme, .inl (cs 0, 8, .inl gmf)), (hv, .inr (10, [.int ch, .int po, .ref av])), (av, .inl (cs 0, 32, .inl f))] H := hP
  replace hD : va_D A [(hpo, .inr (6, [.ref hr, .ref hg, .ref hgr])), (hr, .inr (7, [.int (nI n), .int (nI k), .int (nI al), .int (nI be), .int ea, .int pr, .ref sm, .int (nI se), .ref ca])), (hgr, .inr (3, [.int (nI en), .ref gs, .ref g1r, .ref g2r, .ref gan, .ref gpr, .ref gde, .ref gme])), (gs, .inl (cs 0, 16, .inl gsf)), (g1r, .inl (cs 0, 16, .inl g1f)), (g2r, .inl (cs 0, 16, .inl g2f)), (gme, .inl (cs 0, 8, .inl gmf)), (hv, .inr (10, [.int ch, .int po, .ref av])), (av, .inl (cs 0, 32, .inl f))] := hD
  refine lv_iload_n hx hb dX6_isRipe_6 rfl (lv_at hl 3 rfl) ?_
  refine lv_icmp_ne (tgt := 20) hx hb dX6_isRipe_7 (by decide) (fun c_3 => ?_) (fun c_3 => ?_)
  · -- 7 t
    refine lv_iconst (v := nI 0) hx hb dX6_isRipe_20 (by decide) ?_
    exact xreti C () (Or.inr ⟨fun q => c_3 (hw_r_1.trans q.1), rfl⟩) (xP_map hP [0, 1, 2, 7, 8, 3, 4, 5, 6] rfl) (hD.sub [0, 1, 2, 7, 8, 3, 4, 5, 6] (by decide +kernel) rfl) hS (Nat.le_of_ble_eq_true rfl) (Nat.le_of_ble_eq_true rfl) (by decide) dX6_isRipe_21
  · -- 7 f
    refine lv_aload_n hx hb dX6_isRipe_10 rfl (lv_at hl 1 rfl) ?_
    refine lv_iload_n hx hb dX6_isRipe_11 rfl (lv_at hl 2 rfl) ?_
    refine lv_iconst (v := nI 0) hx hb dX6_isRipe_12 (by decide) ?_
    refine xi (wr := [(hpo, .inr (6, [.ref hr, .ref hg, .ref hgr])), (hr, .inr (7, [.int (nI n), .int (nI k), .int (nI al), .int (nI be), .int ea, .int pr, .ref sm, .int (nI se), .ref ca])), (hgr, .inr (3, [.int (nI en), .ref gs, .ref g1r, .ref g2r, .ref gan, .ref gpr, .ref gde, .ref gme])), (gs, .inl (cs 0, 16, .inl gsf)), (g1r, .inl (cs 0, 16, .inl g1f)), (g2r, .inl (cs 0, 16, .inl g2f)), (gme, .inl (cs 0, 8, .inl gmf))]) (xV (As := [.int (nI t9), .int (nI 0)]) (rest := []) C (c_X10_get l D cs hv av ch po f t9 0 (by omega) (by decide)) kX6_68 hP hD [7, 8] rfl (by decide +kernel) 0 rfl rfl rfl ⟨Nat.le_of_ble_eq_true rfl, Nat.le_of_ble_eq_true rfl⟩ rfl hl.1 rfl (Nat.le_of_ble_eq_true rfl) dX6_isRipe_13 ⟨Nat.le_of_ble_eq_true rfl, Nat.le_of_ble_eq_true rfl⟩) hP hD hS hA [7, 8] [0, 1, 2, 3, 4, 5, 6] rfl rfl (by decide +kernel) (by decide +kernel) ?_
    clear hP hD hS
    try clear locs
    try clear H
    intro r_4 u_5 H locs hw_r_4 hP hD hS
    have hw_r_4 : r_4 = f (t9 * 4 + 0) := hw_r_4
    refine W.widen (k := 0) (n := 0) (Nat.le_of_ble_eq_true rfl) (Nat.le_of_ble_eq_true rfl) ?_
    replace hP : va_P D vwCl [(hpo, .inr (6, [.ref hr, .ref hg, .ref hgr])), (hr, .inr (7, [.int (nI n), .int (nI k), .int (nI al), .int (nI be), .int ea, .int pr, .ref sm, .int (nI se), .ref ca])), (hgr, .inr (3, [.int (nI en), .ref gs, .ref g1r, .ref g2r, .ref gan, .ref gpr, .ref gde, .ref gme])), (gs, .inl (cs 0, 16, .inl gsf)), (g1r, .inl (cs 0, 16, .inl g1f)), (g2r, .inl (cs 0, 16, .inl g2f)), (gme, .inl (cs 0, 8, .inl gmf)), (hv, .inr (10, [.int ch, .int po, .ref av])), (av, .inl (cs 0, 32, .inl f))] H := hP
    replace hD : va_D A [(hpo, .inr (6, [.ref hr, .ref hg, .ref hgr])), (hr, .inr (7, [.int (nI n), .int (nI k), .int (nI al), .int (nI be), .int ea, .int pr, .ref sm, .int (nI se), .ref ca])), (hgr, .inr (3, [.int (nI en), .ref gs, .ref g1r, .ref g2r, .ref gan, .ref gpr, .ref gde, .ref gme])), (gs, .inl (cs 0, 16, .inl gsf)), (g1r, .inl (cs 0, 16, .inl g1f)), (g2r, .inl (cs 0, 16, .inl g2f)), (gme, .inl (cs 0, 8, .inl gmf)), (hv, .inr (10, [.int ch, .int po, .ref av])), (av, .inl (cs 0, 32, .inl f))] := hD
    refine lv_iload_n hx hb dX6_isRipe_16 rfl (lv_at hl 3 rfl) ?_
    refine lv_icmp_eq (tgt := 22) hx hb dX6_isRipe_17 (by decide) (fun c_6 => ?_) (fun c_6 => ?_)
    · -- 17 t
      refine lv_aload_n hx hb dX6_isRipe_22 rfl (lv_at hl 1 rfl) ?_
      refine lv_iload_n hx hb dX6_isRipe_23 rfl (lv_at hl 2 rfl) ?_
      refine lv_iconst (v := nI 2) hx hb dX6_isRipe_24 (by decide) ?_
      refine xi (wr := [(hpo, .inr (6, [.ref hr, .ref hg, .ref hgr])), (hr, .inr (7, [.int (nI n), .int (nI k), .int (nI al), .int (nI be), .int ea, .int pr, .ref sm, .int (nI se), .ref ca])), (hgr, .inr (3, [.int (nI en), .ref gs, .ref g1r, .ref g2r, .ref gan, .ref gpr, .ref gde, .ref gme])), (gs, .inl (cs 0, 16, .inl gsf)), (g1r, .inl (cs 0, 16, .inl g1f)), (g2r, .inl (cs 0, 16, .inl g2f)), (gme, .inl (cs 0, 8, .inl gmf))]) (xV (As := [.int (nI t9), .int (nI 2)]) (rest := []) C (c_X10_get l D cs hv av ch po f t9 2 (by omega) (by decide)) kX6_68 hP hD [7, 8] rfl (by decide +kernel) 0 rfl rfl rfl ⟨Nat.le_of_ble_eq_true rfl, Nat.le_of_ble_eq_true rfl⟩ rfl hl.1 rfl (Nat.le_of_ble_eq_true rfl) dX6_isRipe_25 ⟨Nat.le_of_ble_eq_true rfl, Nat.le_of_ble_eq_true rfl⟩) hP hD hS hA [7, 8] [0, 1, 2, 3, 4, 5, 6] rfl rfl (by decide +kernel) (by decide +kernel) ?_
      clear hP hD hS
      try clear locs
      try clear H
      intro r_7 u_8 H locs hw_r_7 hP hD hS
      have hw_r_7 : r_7 = f (t9 * 4 + 2) := hw_r_7
      refine W.widen (k := 0) (n := 0) (Nat.le_of_ble_eq_true rfl) (Nat.le_of_ble_eq_true rfl) ?_
      replace hP : va_P D vwCl [(hpo, .inr (6, [.ref hr, .ref hg, .ref hgr])), (hr, .inr (7, [.int (nI n), .int (nI k), .int (nI al), .int (nI be), .int ea, .int pr, .ref sm, .int (nI se), .ref ca])), (hgr, .inr (3, [.int (nI en), .ref gs, .ref g1r, .ref g2r, .ref gan, .ref gpr, .ref gde, .ref gme])), (gs, .inl (cs 0, 16, .inl gsf)), (g1r, .inl (cs 0, 16, .inl g1f)), (g2r, .inl (cs 0, 16, .inl g2f)), (gme, .inl (cs 0, 8, .inl gmf)), (hv, .inr (10, [.int ch, .int po, .ref av])), (av, .inl (cs 0, 32, .inl f))] H := hP
      replace hD : va_D A [(hpo, .inr (6, [.ref hr, .ref hg, .ref hgr])), (hr, .inr (7, [.int (nI n), .int (nI k), .int (nI al), .int (nI be), .int ea, .int pr, .ref sm, .int (nI se), .ref ca])), (hgr, .inr (3, [.int (nI en), .ref gs, .ref g1r, .ref g2r, .ref gan, .ref gpr, .ref gde, .ref gme])), (gs, .inl (cs 0, 16, .inl gsf)), (g1r, .inl (cs 0, 16, .inl g1f)), (g2r, .inl (cs 0, 16, .inl g2f)), (gme, .inl (cs 0, 8, .inl gmf)), (hv, .inr (10, [.int ch, .int po, .ref av])), (av, .inl (cs 0, 32, .inl f))] := hD
      refine lv_istore (lv' := [(4, .int r_7), (0, .ref hpo), (1, .ref hv), (2, .int (nI t9)), (3, .int (nI e0))]) hx hb dX6_isRipe_28 hl (by decide) rfl ?_
      clear hl
      try clear ls
      intro ls hl
      refine lv_iload hx hb dX6_isRipe_30 (lv_at hl 0 rfl) ?_
      refine lv_aload_n hx hb dX6_isRipe_32 rfl (lv_at hl 1 rfl) ?_
      refine xget C hP 0 rfl rfl zuX6 0 (by decide) zw2_23 rfl dX6_isRipe_33 ?_
      refine xget C hP 1 rfl rfl zuX7 3 (by decide) zw1_92 rfl dX6_isRipe_36 ?_
      refine lv_icmp_ge (tgt := 81) hx hb dX6_isRipe_39 (by decide) (fun c_9 => ?_) (fun c_9 => ?_)
      · -- 39 t
        refine lv_iconst (v := nI 1) hx hb dX6_isRipe_81 (by decide) ?_
        refine lv_goto (tgt := 86) hx hb dX6_isRipe_82 (by decide) ?_
        exact xreti C () (Or.inl ⟨⟨(hw_r_1.symm.trans c_3), (hw_r_4.symm.trans c_6), Or.inl (by rw [← hw_r_7]; exact c_9)⟩, rfl⟩) (xP_map hP [0, 1, 2, 7, 8, 3, 4, 5, 6] rfl) (hD.sub [0, 1, 2, 7, 8, 3, 4, 5, 6] (by decide +kernel) rfl) hS (Nat.le_of_ble_eq_true rfl) (Nat.le_of_ble_eq_true rfl) (by decide) dX6_isRipe_86
      · -- 39 f
        refine lv_iload hx hb dX6_isRipe_42 (lv_at hl 0 rfl) ?_
        refine lv_aload_n hx hb dX6_isRipe_44 rfl (lv_at hl 1 rfl) ?_
        refine xget C hP 0 rfl rfl zuX6 0 (by decide) zw2_23 rfl dX6_isRipe_45 ?_
        refine xget C hP 1 rfl rfl zuX7 4 (by decide) zw1_95 rfl dX6_isRipe_48 ?_
        refine lv_icmp_lt (tgt := 85) hx hb dX6_isRipe_51 (by decide) (fun c_10 => ?_) (fun c_10 => ?_)
        · -- 51 t
          refine lv_iconst (v := nI 0) hx hb dX6_isRipe_85 (by decide) ?_
          exact xreti C () (Or.inr ⟨fun q => q.2.2.elim (fun z => absurd (by rw [hw_r_7]; exact z) c_9) (fun z => absurd (by rw [hw_r_7]; exact z.1) (Int32.not_le.mpr c_10)), rfl⟩) (xP_map hP [0, 1, 2, 7, 8, 3, 4, 5, 6] rfl) (hD.sub [0, 1, 2, 7, 8, 3, 4, 5, 6] (by decide +kernel) rfl) hS (Nat.le_of_ble_eq_true rfl) (Nat.le_of_ble_eq_true rfl) (by decide) dX6_isRipe_86
        · -- 51 f
          refine lv_aload_n hx hb dX6_isRipe_54 rfl (lv_at hl 1 rfl) ?_
          refine xget C hP 0 rfl rfl zuX6 2 (by decide) zw2_25 rfl dX6_isRipe_55 ?_
          refine lv_iload_n hx hb dX6_isRipe_58 rfl (lv_at hl 4 rfl) ?_
          refine xi (wr := [(hpo, .inr (6, [.ref hr, .ref hg, .ref hgr])), (hr, .inr (7, [.int (nI n), .int (nI k), .int (nI al), .int (nI be), .int ea, .int pr, .ref sm, .int (nI se), .ref ca])), (g1r, .inl (cs 0, 16, .inl g1f)), (g2r, .inl (cs 0, 16, .inl g2f)), (hv, .inr (10, [.int ch, .int po, .ref av])), (av, .inl (cs 0, 32, .inl f))]) (xV (As := [.int (nI e0)]) (rest := []) C (c_X3_isAlone_f l D cs hgr en gs g1r g2r gan gpr gde gme gsf gmf e0 hgs he) kX6_138 hP hD [2, 3, 6] rfl (by decide +kernel) 0 rfl rfl rfl ⟨Nat.le_of_ble_eq_true rfl, Nat.le_of_ble_eq_true rfl⟩ rfl hl.1 rfl (Nat.le_of_ble_eq_true rfl) dX6_isRipe_59 ⟨Nat.le_of_ble_eq_true rfl, Nat.le_of_ble_eq_true rfl⟩) hP hD hS hA [2, 3, 6] [0, 1, 4, 5, 7, 8] rfl rfl (by decide +kernel) (by decide +kernel) ?_
          clear hP hD hS
          try clear locs
          try clear H
          intro r_11 u_12 H locs hw_r_11 hP hD hS
          have hw_r_11 : PQ (gmf (sT gsf e0) = bitI e0) r_11 (nI 1) (nI 0) := hw_r_11
          refine W.widen (k := 0) (n := 0) (Nat.le_of_ble_eq_true rfl) (Nat.le_of_ble_eq_true rfl) ?_
          replace hP : va_P D vwCl [(hpo, .inr (6, [.ref hr, .ref hg, .ref hgr])), (hr, .inr (7, [.int (nI n), .int (nI k), .int (nI al), .int (nI be), .int ea, .int pr, .ref sm, .int (nI se), .ref ca])), (g1r, .inl (cs 0, 16, .inl g1f)), (g2r, .inl (cs 0, 16, .inl g2f)), (hv, .inr (10, [.int ch, .int po, .ref av])), (av, .inl (cs 0, 32, .inl f)), (hgr, .inr (3, [.int (nI en), .ref gs, .ref g1r, .ref g2r, .ref gan, .ref gpr, .ref gde, .ref gme])), (gs, .inl (cs 0, 16, .inl gsf)), (gme, .inl (cs 0, 8, .inl gmf))] H := hP
          replace hD : va_D A [(hpo, .inr (6, [.ref hr, .ref hg, .ref hgr])), (hr, .inr (7, [.int (nI n), .int (nI k), .int (nI al), .int (nI be), .int ea, .int pr, .ref sm, .int (nI se), .ref ca])), (g1r, .inl (cs 0, 16, .inl g1f)), (g2r, .inl (cs 0, 16, .inl g2f)), (hv, .inr (10, [.int ch, .int po, .ref av])), (av, .inl (cs 0, 32, .inl f)), (hgr, .inr (3, [.int (nI en), .ref gs, .ref g1r, .ref g2r, .ref gan, .ref gpr, .ref gde, .ref gme])), (gs, .inl (cs 0, 16, .inl gsf)), (gme, .inl (cs 0, 8, .inl gmf))] := hD
          refine lv_if_eq (tgt := 85) hx hb dX6_isRipe_62 (by decide) (fun c_13 => ?_) (fun c_13 => ?_)
          · -- 62 t
            refine lv_iconst (v := nI 0) hx hb dX6_isRipe_85 (by decide) ?_
            exact xreti C () (Or.inr ⟨fun q => q.2.2.elim (fun z => absurd (by rw [hw_r_7]; exact z) c_9) (fun z => PQ.no hw_r_11 c_13 (by decide) z.2.1), rfl⟩) (xP_map hP [0, 1, 6, 4, 5, 7, 2, 3, 8] rfl) (hD.sub [0, 1, 6, 4, 5, 7, 2, 3, 8] (by decide +kernel) rfl) hS (Nat.le_of_ble_eq_true rfl) (Nat.le_of_ble_eq_true rfl) (by decide) dX6_isRipe_86
          · -- 62 f
            refine lv_aload_n hx hb dX6_isRipe_65 rfl (lv_at hl 1 rfl) ?_
            refine lv_aload_n hx hb dX6_isRipe_66 rfl (lv_at hl 2 rfl) ?_
            refine lv_aload_n hx hb dX6_isRipe_67 rfl (lv_at hl 1 rfl) ?_
            refine xget C hP 0 rfl rfl zuX6 2 (by decide) zw2_25 rfl dX6_isRipe_68 ?_
            refine lv_iload_n hx hb dX6_isRipe_71 rfl (lv_at hl 4 rfl) ?_
            refine xi (wr := [(hpo, .inr (6, [.ref hr, .ref hg, .ref hgr])), (hr, .inr (7, [.int (nI n), .int (nI k), .int (nI al), .int (nI be), .int ea, .int pr, .ref sm, .int (nI se), .ref ca])), (hv, .inr (10, [.int ch, .int po, .ref av])), (av, .inl (cs 0, 32, .inl f)), (gs, .inl (cs 0, 16, .inl gsf)), (gme, .inl (cs 0, 8, .inl gmf))]) (xV (As := [.int (nI e0)]) (rest := [.ref hv, .ref hpo]) C (c_X3_parentBits_f l D cs hgr en gs g1r g2r gan gpr gde gme g1f g2f e0 he) kX6_141 hP hD [6, 2, 3] rfl (by decide +kernel) 0 rfl rfl rfl ⟨Nat.le_of_ble_eq_true rfl, Nat.le_of_ble_eq_true rfl⟩ rfl hl.1 rfl (Nat.le_of_ble_eq_true rfl) dX6_isRipe_72 ⟨Nat.le_of_ble_eq_true rfl, Nat.le_of_ble_eq_true rfl⟩) hP hD hS hA [6, 2, 3] [0, 1, 4, 5, 7, 8] rfl rfl (by decide +kernel) (by decide +kernel) ?_
            clear hP hD hS
            try clear locs
            try clear H
            intro r_14 u_15 H locs hw_r_14 hP hD hS
            have hw_r_14 : r_14 = parB g1f g2f e0 := hw_r_14
            refine W.widen (k := 0) (n := 0) (Nat.le_of_ble_eq_true rfl) (Nat.le_of_ble_eq_true rfl) ?_
            replace hP : va_P D vwCl [(hpo, .inr (6, [.ref hr, .ref hg, .ref hgr])), (hr, .inr (7, [.int (nI n), .int (nI k), .int (nI al), .int (nI be), .int ea, .int pr, .ref sm, .int (nI se), .ref ca])), (hv, .inr (10, [.int ch, .int po, .ref av])), (av, .inl (cs 0, 32, .inl f)), (gs, .inl (cs 0, 16, .inl gsf)), (gme, .inl (cs 0, 8, .inl gmf)), (hgr, .inr (3, [.int (nI en), .ref gs, .ref g1r, .ref g2r, .ref gan, .ref gpr, .ref gde, .ref gme])), (g1r, .inl (cs 0, 16, .inl g1f)), (g2r, .inl (cs 0, 16, .inl g2f))] H := hP
            replace hD : va_D A [(hpo, .inr (6, [.ref hr, .ref hg, .ref hgr])), (hr, .inr (7, [.int (nI n), .int (nI k), .int (nI al), .int (nI be), .int ea, .int pr, .ref sm, .int (nI se), .ref ca])), (hv, .inr (10, [.int ch, .int po, .ref av])), (av, .inl (cs 0, 32, .inl f)), (gs, .inl (cs 0, 16, .inl gsf)), (gme, .inl (cs 0, 8, .inl gmf)), (hgr, .inr (3, [.int (nI en), .ref gs, .ref g1r, .ref g2r, .ref gan, .ref gpr, .ref gde, .ref gme])), (g1r, .inl (cs 0, 16, .inl g1f)), (g2r, .inl (cs 0, 16, .inl g2f))] := hD
            obtain rfl : r_14 = parB g1f g2f e0 := hw_r_14
            refine xi (wr := [(hr, .inr (7, [.int (nI n), .int (nI k), .int (nI al), .int (nI be), .int ea, .int pr, .ref sm, .int (nI se), .ref ca])), (gme, .inl (cs 0, 8, .inl gmf)), (g1r, .inl (cs 0, 16, .inl g1f)), (g2r, .inl (cs 0, 16, .inl g2f))]) (xV (As := [.ref hv, .int (parB g1f g2f e0)]) (rest := []) C (c_X6_areAccepted_f l D cs hpo hr hg hgr en gs g1r g2r gan gpr gde gme hv av ch po f gsf (parB g1f g2f e0) hen hgs) kX6_144 hP hD [0, 6, 2, 3, 4] rfl (by decide +kernel) 0 rfl rfl rfl ⟨Nat.le_of_ble_eq_true rfl, Nat.le_of_ble_eq_true rfl⟩ rfl hl.1 rfl (Nat.le_of_ble_eq_true rfl) dX6_isRipe_75 ⟨Nat.le_of_ble_eq_true rfl, Nat.le_of_ble_eq_true rfl⟩) hP hD hS hA [0, 6, 2, 3, 4] [1, 5, 7, 8] rfl rfl (by decide +kernel) (by decide +kernel) ?_
            clear hP hD hS
            try clear locs
            try clear H
            intro r_16 u_17 H locs hw_r_16 hP hD hS
            have hw_r_16 : PQ (araC en gsf f (parB g1f g2f e0)) r_16 (nI 1) (nI 0) := hw_r_16
            refine W.widen (k := 0) (n := 0) (Nat.le_of_ble_eq_true rfl) (Nat.le_of_ble_eq_true rfl) ?_
            replace hP : va_P D vwCl [(hr, .inr (7, [.int (nI n), .int (nI k), .int (nI al), .int (nI be), .int ea, .int pr, .ref sm, .int (nI se), .ref ca])), (gme, .inl (cs 0, 8, .inl gmf)), (g1r, .inl (cs 0, 16, .inl g1f)), (g2r, .inl (cs 0, 16, .inl g2f)), (hpo, .inr (6, [.ref hr, .ref hg, .ref hgr])), (hgr, .inr (3, [.int (nI en), .ref gs, .ref g1r, .ref g2r, .ref gan, .ref gpr, .ref gde, .ref gme])), (hv, .inr (10, [.int ch, .int po, .ref av])), (av, .inl (cs 0, 32, .inl f)), (gs, .inl (cs 0, 16, .inl gsf))] H := hP
            replace hD : va_D A [(hr, .inr (7, [.int (nI n), .int (nI k), .int (nI al), .int (nI be), .int ea, .int pr, .ref sm, .int (nI se), .ref ca])), (gme, .inl (cs 0, 8, .inl gmf)), (g1r, .inl (cs 0, 16, .inl g1f)), (g2r, .inl (cs 0, 16, .inl g2f)), (hpo, .inr (6, [.ref hr, .ref hg, .ref hgr])), (hgr, .inr (3, [.int (nI en), .ref gs, .ref g1r, .ref g2r, .ref gan, .ref gpr, .ref gde, .ref gme])), (hv, .inr (10, [.int ch, .int po, .ref av])), (av, .inl (cs 0, 32, .inl f)), (gs, .inl (cs 0, 16, .inl gsf))] := hD
            refine lv_if_eq (tgt := 85) hx hb dX6_isRipe_78 (by decide) (fun c_18 => ?_) (fun c_18 => ?_)
            · -- 78 t
              refine lv_iconst (v := nI 0) hx hb dX6_isRipe_85 (by decide) ?_
              exact xreti C () (Or.inr ⟨fun q => q.2.2.elim (fun z => absurd (by rw [hw_r_7]; exact z) c_9) (fun z => PQ.no hw_r_16 c_18 (by decide) z.2.2), rfl⟩) (xP_map hP [4, 0, 5, 6, 7, 8, 2, 3, 1] rfl) (hD.sub [4, 0, 5, 6, 7, 8, 2, 3, 1] (by decide +kernel) rfl) hS (Nat.le_of_ble_eq_true rfl) (Nat.le_of_ble_eq_true rfl) (by decide) dX6_isRipe_86
            · -- 78 f
              refine lv_iconst (v := nI 1) hx hb dX6_isRipe_81 (by decide) ?_
              refine lv_goto (tgt := 86) hx hb dX6_isRipe_82 (by decide) ?_
              exact xreti C () (Or.inl ⟨⟨(hw_r_1.symm.trans c_3), (hw_r_4.symm.trans c_6), Or.inr ⟨by rw [← hw_r_7]; exact Int32.not_lt.mp c_10, PQ.yes hw_r_11 c_13, PQ.yes hw_r_16 c_18⟩⟩, rfl⟩) (xP_map hP [4, 0, 5, 6, 7, 8, 2, 3, 1] rfl) (hD.sub [4, 0, 5, 6, 7, 8, 2, 3, 1] (by decide +kernel) rfl) hS (Nat.le_of_ble_eq_true rfl) (Nat.le_of_ble_eq_true rfl) (by decide) dX6_isRipe_86
    · -- 17 f
      refine lv_iconst (v := nI 0) hx hb dX6_isRipe_20 (by decide) ?_
      exact xreti C () (Or.inr ⟨fun q => c_6 (hw_r_4.trans q.2.1), rfl⟩) (xP_map hP [0, 1, 2, 7, 8, 3, 4, 5, 6] rfl) (hD.sub [0, 1, 2, 7, 8, 3, 4, 5, 6] (by decide +kernel) rfl) hS (Nat.le_of_ble_eq_true rfl) (Nat.le_of_ble_eq_true rfl) (by decide) dX6_isRipe_21

set_option maxHeartbeats 4000000 in
set_option maxRecDepth 100000 in
theorem c_X6_accept_f (l : Launch) (D : va_G) (cs : Nat → ClassId) (hpo : Nat) (hr sm ca n k al be se : Nat) (ea pr : Int32) (hg : Nat) (hgr en gs g1r g2r gan gpr gde gme : Nat) (hv av : Nat) (ch po : Int32) (f : Nat → Int32) (gsf g1f g2f gmf : Nat → Int32) (x : Int32) (hen : en ≤ 16) (hgs : inP 16 8 gsf) (hpr : prP f) : xMet l D cs yX6_accept cX6_accept 5 (some .boolean) ({ frames := 5, cells := 0, slots := 0, locals := 113 } : Room) [.ref hpo, .ref hv, .int x] [(hpo, .inr (6, [.ref hr, .ref hg, .ref hgr])), (hr, .inr (7, [.int (nI n), .int (nI k), .int (nI al), .int (nI be), .int ea, .int pr, .ref sm, .int (nI se), .ref ca])), (hgr, .inr (3, [.int (nI en), .ref gs, .ref g1r, .ref g2r, .ref gan, .ref gpr, .ref gde, .ref gme])), (hv, .inr (10, [.int ch, .int po, .ref av])), (av, .inl (cs 0, 32, .inl f)), (gs, .inl (cs 0, 16, .inl gsf)), (g1r, .inl (cs 0, 16, .inl g1f)), (g2r, .inl (cs 0, 16, .inl g2f)), (gme, .inl (cs 0, 8, .inl gmf))] (xQi D (fun (r : Int32) (fz : (Nat → Int32)) => (∃ b, (b = 0 ∨ b = 1) ∧ r = nI b ∧ accC en be ea gsf g1f g2f gmf x en f fz b) ∧ prP fz) (fun (fz : (Nat → Int32)) => [(hpo, .inr (6, [.ref hr, .ref hg, .ref hgr])), (hr, .inr (7, [.int (nI n), .int (nI k), .int (nI al), .int (nI be), .int ea, .int pr, .ref sm, .int (nI se), .ref ca])), (hgr, .inr (3, [.int (nI en), .ref gs, .ref g1r, .ref g2r, .ref gan, .ref gpr, .ref gde, .ref gme])), (hv, .inr (10, [.int ch, .int po, .ref av])), (av, .inl (cs 0, 32, .inl fz)), (gs, .inl (cs 0, 16, .inl gsf)), (g1r, .inl (cs 0, 16, .inl g1f)), (g2r, .inl (cs 0, 16, .inl g2f)), (gme, .inl (cs 0, 8, .inl gmf))])) := by
  refine xMet.intro (by decide) (Nat.le_of_ble_eq_true rfl) ?_
  intro p e s m args below meth c A ls C hP hD hS hl
  have hx := C.1
  have hb := C.2.1
  have hz := C.2.2.2.2.1
  have hown := C.2.2.2.1
  have hA := C.2.2.2.2.2.2.2.2.2
  have hAO := C.2.2.2.2.2.2.2.2.1.2.2
  replace hl : lv_has ls 5 [(0, .ref hpo), (1, .ref hv), (2, .int x)] := hl
  obtain ⟨H, hH⟩ : ∃ H, H = s.heap := ⟨_, rfl⟩
  replace hP : va_P D vwCl [(hpo, .inr (6, [.ref hr, .ref hg, .ref hgr])), (hr, .inr (7, [.int (nI n), .int (nI k), .int (nI al), .int (nI be), .int ea, .int pr, .ref sm, .int (nI se), .ref ca])), (hgr, .inr (3, [.int (nI en), .ref gs, .ref g1r, .ref g2r, .ref gan, .ref gpr, .ref gde, .ref gme])), (hv, .inr (10, [.int ch, .int po, .ref av])), (av, .inl (cs 0, 32, .inl f)), (gs, .inl (cs 0, 16, .inl gsf)), (g1r, .inl (cs 0, 16, .inl g1f)), (g2r, .inl (cs 0, 16, .inl g2f)), (gme, .inl (cs 0, 8, .inl gmf))] H := by rw [hH]; exact hP
  replace hS : va_S A s.heap H [] := by rw [hH]; exact hS
  obtain ⟨locs, hlocs⟩ : ∃ z : List Loc, z = [] := ⟨_, rfl⟩
  rw [← hlocs] at hS
  suffices hW : W p l e ({ frames := 5, cells := 0, slots := 0, locals := 113 } : Room) s m args below meth c H locs 0 0 (MQ below ((xQi D (fun (r : Int32) (fz : (Nat → Int32)) => (∃ b, (b = 0 ∨ b = 1) ∧ r = nI b ∧ accC en be ea gsf g1f g2f gmf x en f fz b) ∧ prP fz) (fun (fz : (Nat → Int32)) => [(hpo, .inr (6, [.ref hr, .ref hg, .ref hgr])), (hr, .inr (7, [.int (nI n), .int (nI k), .int (nI al), .int (nI be), .int ea, .int pr, .ref sm, .int (nI se), .ref ca])), (hgr, .inr (3, [.int (nI en), .ref gs, .ref g1r, .ref g2r, .ref gan, .ref gpr, .ref gde, .ref gme])), (hv, .inr (10, [.int ch, .int po, .ref av])), (av, .inl (cs 0, 32, .inl fz)), (gs, .inl (cs 0, 16, .inl gsf)), (g1r, .inl (cs 0, 16, .inl g1f)), (g2r, .inl (cs 0, 16, .inl g2f)), (gme, .inl (cs 0, 8, .inl gmf))])) A) args s 0 0 A) (F0 m 0 ls []) by rw [hlocs, hH] at hW; exact hW
  clear hH hlocs
  refine lv_iconst (v := nI 0) hx hb dX6_accept_0 (by decide) ?_
  refine lv_istore_n (lv' := [(3, .int (nI 0)), (0, .ref hpo), (1, .ref hv), (2, .int x)]) hx hb dX6_accept_1 rfl hl (by decide) rfl ?_
  clear hl
  try clear ls
  intro ls hl
  refine lv_iconst (v := nI 0) hx hb dX6_accept_2 (by decide) ?_
  refine lv_istore (lv' := [(4, .int (nI 0)), (3, .int (nI 0)), (0, .ref hpo), (1, .ref hv), (2, .int x)]) hx hb dX6_accept_3 hl (by decide) rfl ?_
  clear hl
  try clear ls
  intro ls hl
  have loop_1 : ∀ (n_loop_1 : Nat) (e9 : Nat) (f9 : Nat → Int32) (b9 : Nat), (e9 ≤ en) → (prP f9) → (b9 = 0 ∨ b9 = 1) → (accC en be ea gsf g1f g2f gmf x e9 f f9 b9) → en - e9 < n_loop_1 → ∀ (H : Heap) (locs : List Loc) (ls : Array Slot), va_P D vwCl [(hpo, .inr (6, [.ref hr, .ref hg, .ref hgr])), (hr, .inr (7, [.int (nI n), .int (nI k), .int (nI al), .int (nI be), .int ea, .int pr, .ref sm, .int (nI se), .ref ca])), (hgr, .inr (3, [.int (nI en), .ref gs, .ref g1r, .ref g2r, .ref gan, .ref gpr, .ref gde, .ref gme])), (hv, .inr (10, [.int ch, .int po, .ref av])), (av, .inl (cs 0, 32, .inl f9)), (gs, .inl (cs 0, 16, .inl gsf)), (g1r, .inl (cs 0, 16, .inl g1f)), (g2r, .inl (cs 0, 16, .inl g2f)), (gme, .inl (cs 0, 8, .inl gmf))] H → va_D A [(hpo, .inr (6, [.ref hr, .ref hg, .ref hgr])), (hr, .inr (7, [.int (nI n), .int (nI k), .int (nI al), .int (nI be), .int ea, .int pr, .ref sm, .int (nI se), .ref ca])), (hgr, .inr (3, [.int (nI en), .ref gs, .ref g1r, .ref g2r, .ref gan, .ref gpr, .ref gde, .ref gme])), (hv, .inr (10, [.int ch, .int po, .ref av])), (av, .inl (cs 0, 32, .inl f9)), (gs, .inl (cs 0, 16, .inl gsf)), (g1r, .inl (cs 0, 16, .inl g1f)), (g2r, .inl (cs 0, 16, .inl g2f)), (gme, .inl (cs 0, 8, .inl gmf))] → va_S A s.heap H locs → lv_has ls 5 [(4, .int (nI e9)), (3, .int (nI b9)), (0, .ref hpo), (1, .ref hv), (2, .int x)] → W p l e ({ frames := 5, cells := 0, slots := 0, locals := 113 } : Room) s m args below meth c H locs 0 0 (MQ below ((xQi D (fun (r : Int32) (fz : (Nat → Int32)) => (∃ b, (b = 0 ∨ b = 1) ∧ r = nI b ∧ accC en be ea gsf g1f g2f gmf x en f fz b) ∧ prP fz) (fun (fz : (Nat → Int32)) => [(hpo, .inr (6, [.ref hr, .ref hg, .ref hgr])), (hr, .inr (7, [.int (nI n), .int (nI k), .int (nI al), .int (nI be), .int ea, .int pr, .ref sm, .int (nI se), .ref ca])), (hgr, .inr (3, [.int (nI en), .ref gs, .ref g1r, .ref g2r, .ref gan, .ref gpr, .ref gde, .ref gme])), (hv, .inr (10, [.int ch, .int po, .ref av])), (av, .inl (cs 0, 32, .inl fz)), (gs, .inl (cs 0, 16, .inl gsf)), (g1r, .inl (cs 0, 16, .inl g1f)), (g2r, .inl (cs 0, 16, .inl g2f)), (gme, .inl (cs 0, 8, .inl gmf))])) A) args s 0 0 A) (F0 m 5 ls []) := by
    intro n_loop_1
    induction n_loop_1 with
    | zero => intro e9 f9 b9 h_e9 hpr9 hb9 hac9 hlt H locs ls hP hD hS hl; exact absurd hlt (Nat.not_lt_zero _)
    | succ n_loop_1 ih_loop_1 =>
      intro e9 f9 b9 h_e9 hpr9 hb9 hac9 hlt_loop_1 H locs ls hP hD hS hl
      refine lv_iload hx hb dX6_accept_5 (lv_at hl 0 rfl) ?_
      refine lv_aload_n hx hb dX6_accept_7 rfl (lv_at hl 2 rfl) ?_
      refine xget C hP 0 rfl rfl zuX6 2 (by decide) zw2_25 rfl dX6_accept_8 ?_
      refine xget C hP 2 rfl rfl zuX3 0 (by decide) zw1_196 rfl dX6_accept_11 ?_
      refine lv_icmp_ge (tgt := 73) hx hb dX6_accept_14 (by decide) (fun c_2 => ?_) (fun c_2 => ?_)
      · -- 14 t
        have fc_2 : en ≤ e9 := nf_le (by omega) (by omega) c_2
        refine lv_iload_n hx hb dX6_accept_73 rfl (lv_at hl 1 rfl) ?_
        exact xreti C f9 (⟨⟨b9, hb9, rfl, (by have q7 : e9 = en := (by omega); rw [q7] at hac9; exact hac9)⟩, hpr9⟩) hP hD hS (Nat.le_of_ble_eq_true rfl) (Nat.le_of_ble_eq_true rfl) (nb_of (r := nI b9) (hb9.elim (fun q => Or.inl (by rw [q])) (fun q => Or.inr (by rw [q])))) dX6_accept_74
      · -- 14 f
        have fc_2 : e9 < en := nf_nle (by omega) (by omega) c_2
        refine lv_aload_n hx hb dX6_accept_17 rfl (lv_at hl 2 rfl) ?_
        refine lv_aload_n hx hb dX6_accept_18 rfl (lv_at hl 3 rfl) ?_
        refine lv_iload_n hx hb dX6_accept_19 rfl (lv_at hl 4 rfl) ?_
        refine lv_iload hx hb dX6_accept_20 (lv_at hl 0 rfl) ?_
        refine xi (wr := [(hr, .inr (7, [.int (nI n), .int (nI k), .int (nI al), .int (nI be), .int ea, .int pr, .ref sm, .int (nI se), .ref ca])), (g1r, .inl (cs 0, 16, .inl g1f)), (g2r, .inl (cs 0, 16, .inl g2f)), (gme, .inl (cs 0, 8, .inl gmf))]) (xV (As := [.ref hv, .int x, .int (nI e9)]) (rest := []) C (c_X6_isOpenOf_f l D cs hpo hr hg hgr en gs g1r g2r gan gpr gde gme hv av ch po f9 gsf x e9 hgs (by omega)) kX6_114 hP hD [0, 2, 3, 4, 5] rfl (by decide +kernel) 0 rfl rfl rfl ⟨Nat.le_of_ble_eq_true rfl, Nat.le_of_ble_eq_true rfl⟩ rfl hl.1 rfl (Nat.le_of_ble_eq_true rfl) dX6_accept_22 ⟨Nat.le_of_ble_eq_true rfl, Nat.le_of_ble_eq_true rfl⟩) hP hD hS hA [0, 2, 3, 4, 5] [1, 6, 7, 8] rfl rfl (by decide +kernel) (by decide +kernel) ?_
        clear hP hD hS
        try clear locs
        try clear H
        intro r_3 u_4 H locs hw_r_3 hP hD hS
        have hw_r_3 : PQ (opnC gsf x f9 e9) r_3 (nI 1) (nI 0) := hw_r_3
        refine W.widen (k := 0) (n := 0) (Nat.le_of_ble_eq_true rfl) (Nat.le_of_ble_eq_true rfl) ?_
        replace hP : va_P D vwCl [(hr, .inr (7, [.int (nI n), .int (nI k), .int (nI al), .int (nI be), .int ea, .int pr, .ref sm, .int (nI se), .ref ca])), (g1r, .inl (cs 0, 16, .inl g1f)), (g2r, .inl (cs 0, 16, .inl g2f)), (gme, .inl (cs 0, 8, .inl gmf)), (hpo, .inr (6, [.ref hr, .ref hg, .ref hgr])), (hgr, .inr (3, [.int (nI en), .ref gs, .ref g1r, .ref g2r, .ref gan, .ref gpr, .ref gde, .ref gme])), (hv, .inr (10, [.int ch, .int po, .ref av])), (av, .inl (cs 0, 32, .inl f9)), (gs, .inl (cs 0, 16, .inl gsf))] H := hP
        replace hD : va_D A [(hr, .inr (7, [.int (nI n), .int (nI k), .int (nI al), .int (nI be), .int ea, .int pr, .ref sm, .int (nI se), .ref ca])), (g1r, .inl (cs 0, 16, .inl g1f)), (g2r, .inl (cs 0, 16, .inl g2f)), (gme, .inl (cs 0, 8, .inl gmf)), (hpo, .inr (6, [.ref hr, .ref hg, .ref hgr])), (hgr, .inr (3, [.int (nI en), .ref gs, .ref g1r, .ref g2r, .ref gan, .ref gpr, .ref gde, .ref gme])), (hv, .inr (10, [.int ch, .int po, .ref av])), (av, .inl (cs 0, 32, .inl f9)), (gs, .inl (cs 0, 16, .inl gsf))] := hD
        refine lv_if_eq (tgt := 67) hx hb dX6_accept_25 (by decide) (fun c_5 => ?_) (fun c_5 => ?_)
        · -- 25 t
          refine lv_iinc (v := nI (e9 + 1)) (lv' := [(4, .int (nI (e9 + 1))), (3, .int (nI b9)), (0, .ref hpo), (1, .ref hv), (2, .int x)]) hx hb dX6_accept_67 hl (k := 0) rfl (nI_add e9 1) (by decide) rfl ?_
          clear hl
          try clear ls
          intro ls hl
          refine lv_goto (tgt := 5) hx hb dX6_accept_70 (by decide) ?_
          exact ih_loop_1 (e9 + 1) f9 b9 (by omega) hpr9 hb9 (⟨_, _, hac9, Or.inr ⟨fun q => PQ.no hw_r_3 c_5 (by decide) q.1, rfl, rfl⟩⟩) (by omega) H locs ls (xP_map hP [4, 0, 5, 6, 7, 8, 1, 2, 3] rfl) (hD.sub [4, 0, 5, 6, 7, 8, 1, 2, 3] (by decide +kernel) rfl) hS (lv_sub hl [0, 1, 2, 3, 4] rfl)
        · -- 25 f
          refine lv_aload_n hx hb dX6_accept_28 rfl (lv_at hl 2 rfl) ?_
          refine lv_aload_n hx hb dX6_accept_29 rfl (lv_at hl 3 rfl) ?_
          refine lv_aload_n hx hb dX6_accept_30 rfl (lv_at hl 2 rfl) ?_
          refine xget C hP 4 rfl rfl zuX6 2 (by decide) zw2_25 rfl dX6_accept_31 ?_
          refine xget C hP 5 rfl rfl zuX3 1 (by decide) zw1_199 rfl dX6_accept_34 ?_
          refine lv_iload hx hb dX6_accept_37 (lv_at hl 0 rfl) ?_
          refine xiald C hP 8 rfl e9 rfl (by omega) (by decide) dX6_accept_39 ?_
          refine lv_topi (nm_r (e' := nI (sT gsf e9)) ((sT_eq hgs (by omega)).2) ?_)
          refine lv_iload hx hb dX6_accept_40 (lv_at hl 0 rfl) ?_
          refine xi (wr := []) (xV (As := [.ref hv, .int (nI (sT gsf e9)), .int (nI e9)]) (rest := []) C (c_X6_isRipe_f l D cs hpo hr sm ca n k al be se ea pr hg hgr en gs g1r g2r gan gpr gde gme hv av ch po f9 gsf g1f g2f gmf (sT gsf e9) e9 hen hgs ((sT_eq hgs (by omega)).1) (by omega)) kX6_129 hP hD [4, 0, 5, 6, 7, 8, 1, 2, 3] rfl (by decide +kernel) 0 rfl rfl rfl ⟨Nat.le_of_ble_eq_true rfl, Nat.le_of_ble_eq_true rfl⟩ rfl hl.1 rfl (Nat.le_of_ble_eq_true rfl) dX6_accept_42 ⟨Nat.le_of_ble_eq_true rfl, Nat.le_of_ble_eq_true rfl⟩) hP hD hS hA [4, 0, 5, 6, 7, 8, 1, 2, 3] [] rfl rfl (by decide +kernel) (by decide +kernel) ?_
          clear hP hD hS
          try clear locs
          try clear H
          intro r_6 u_7 H locs hw_r_6 hP hD hS
          have hw_r_6 : PQ (ripC en be ea gsf g1f g2f gmf (sT gsf e9) e9 f9) r_6 (nI 1) (nI 0) := hw_r_6
          refine W.widen (k := 0) (n := 0) (Nat.le_of_ble_eq_true rfl) (Nat.le_of_ble_eq_true rfl) ?_
          replace hP : va_P D vwCl [(hpo, .inr (6, [.ref hr, .ref hg, .ref hgr])), (hr, .inr (7, [.int (nI n), .int (nI k), .int (nI al), .int (nI be), .int ea, .int pr, .ref sm, .int (nI se), .ref ca])), (hgr, .inr (3, [.int (nI en), .ref gs, .ref g1r, .ref g2r, .ref gan, .ref gpr, .ref gde, .ref gme])), (hv, .inr (10, [.int ch, .int po, .ref av])), (av, .inl (cs 0, 32, .inl f9)), (gs, .inl (cs 0, 16, .inl gsf)), (g1r, .inl (cs 0, 16, .inl g1f)), (g2r, .inl (cs 0, 16, .inl g2f)), (gme, .inl (cs 0, 8, .inl gmf))] H := hP
          replace hD : va_D A [(hpo, .inr (6, [.ref hr, .ref hg, .ref hgr])), (hr, .inr (7, [.int (nI n), .int (nI k), .int (nI al), .int (nI be), .int ea, .int pr, .ref sm, .int (nI se), .ref ca])), (hgr, .inr (3, [.int (nI en), .ref gs, .ref g1r, .ref g2r, .ref gan, .ref gpr, .ref gde, .ref gme])), (hv, .inr (10, [.int ch, .int po, .ref av])), (av, .inl (cs 0, 32, .inl f9)), (gs, .inl (cs 0, 16, .inl gsf)), (g1r, .inl (cs 0, 16, .inl g1f)), (g2r, .inl (cs 0, 16, .inl g2f)), (gme, .inl (cs 0, 8, .inl gmf))] := hD
          refine lv_if_eq (tgt := 67) hx hb dX6_accept_45 (by decide) (fun c_8 => ?_) (fun c_8 => ?_)
          · -- 45 t
            refine lv_iinc (v := nI (e9 + 1)) (lv' := [(4, .int (nI (e9 + 1))), (3, .int (nI b9)), (0, .ref hpo), (1, .ref hv), (2, .int x)]) hx hb dX6_accept_67 hl (k := 0) rfl (nI_add e9 1) (by decide) rfl ?_
            clear hl
            try clear ls
            intro ls hl
            refine lv_goto (tgt := 5) hx hb dX6_accept_70 (by decide) ?_
            exact ih_loop_1 (e9 + 1) f9 b9 (by omega) hpr9 hb9 (⟨_, _, hac9, Or.inr ⟨fun q => PQ.no hw_r_6 c_8 (by decide) q.2, rfl, rfl⟩⟩) (by omega) H locs ls hP hD hS (lv_sub hl [0, 1, 2, 3, 4] rfl)
          · -- 45 f
            refine lv_aload_n hx hb dX6_accept_48 rfl (lv_at hl 3 rfl) ?_
            refine lv_aload_n hx hb dX6_accept_49 rfl (lv_at hl 2 rfl) ?_
            refine xget C hP 0 rfl rfl zuX6 2 (by decide) zw2_25 rfl dX6_accept_50 ?_
            refine xget C hP 2 rfl rfl zuX3 1 (by decide) zw1_199 rfl dX6_accept_53 ?_
            refine lv_iload hx hb dX6_accept_56 (lv_at hl 0 rfl) ?_
            refine xiald C hP 5 rfl e9 rfl (by omega) (by decide) dX6_accept_58 ?_
            refine lv_topi (nm_r (e' := nI (sT gsf e9)) ((sT_eq hgs (by omega)).2) ?_)
            refine lv_iconst (v := nI 3) hx hb dX6_accept_59 (by decide) ?_
            refine lv_iload hx hb dX6_accept_60 (lv_at hl 0 rfl) ?_
            refine xv (wr := [(hpo, .inr (6, [.ref hr, .ref hg, .ref hgr])), (hr, .inr (7, [.int (nI n), .int (nI k), .int (nI al), .int (nI be), .int ea, .int pr, .ref sm, .int (nI se), .ref ca])), (hgr, .inr (3, [.int (nI en), .ref gs, .ref g1r, .ref g2r, .ref gan, .ref gpr, .ref gde, .ref gme])), (gs, .inl (cs 0, 16, .inl gsf)), (g1r, .inl (cs 0, 16, .inl g1f)), (g2r, .inl (cs 0, 16, .inl g2f)), (gme, .inl (cs 0, 8, .inl gmf))]) (xV (As := [.int (nI (sT gsf e9)), .int (nI 3), .int (nI e9)]) (rest := []) C (c_X10_put l D cs hv av ch po f9 (sT gsf e9) 3 (nI e9) ((sT_eq hgs (by omega)).1) (by decide)) kX6_118 hP hD [3, 4] rfl (by decide +kernel) 0 rfl rfl rfl ⟨Nat.le_of_ble_eq_true rfl, Nat.le_of_ble_eq_true rfl⟩ rfl hl.1 rfl (Nat.le_of_ble_eq_true rfl) dX6_accept_62 ⟨Nat.le_of_ble_eq_true rfl, Nat.le_of_ble_eq_true rfl⟩) hP hD hS hA [3, 4] [0, 1, 2, 5, 6, 7, 8] rfl rfl (by decide +kernel) (by decide +kernel) ?_
            clear hP hD hS
            try clear locs
            try clear H
            intro u_10 H locs hw_r_9 hP hD hS
            refine W.widen (k := 0) (n := 0) (Nat.le_of_ble_eq_true rfl) (Nat.le_of_ble_eq_true rfl) ?_
            replace hP : va_P D vwCl [(hpo, .inr (6, [.ref hr, .ref hg, .ref hgr])), (hr, .inr (7, [.int (nI n), .int (nI k), .int (nI al), .int (nI be), .int ea, .int pr, .ref sm, .int (nI se), .ref ca])), (hgr, .inr (3, [.int (nI en), .ref gs, .ref g1r, .ref g2r, .ref gan, .ref gpr, .ref gde, .ref gme])), (gs, .inl (cs 0, 16, .inl gsf)), (g1r, .inl (cs 0, 16, .inl g1f)), (g2r, .inl (cs 0, 16, .inl g2f)), (gme, .inl (cs 0, 8, .inl gmf)), (hv, .inr (10, [.int ch, .int po, .ref av])), (av, .inl (cs 0, 32, .inl (upd f9 ((sT gsf e9) * 4 + 3) (nI e9))))] H := hP
            replace hD : va_D A [(hpo, .inr (6, [.ref hr, .ref hg, .ref hgr])), (hr, .inr (7, [.int (nI n), .int (nI k), .int (nI al), .int (nI be), .int ea, .int pr, .ref sm, .int (nI se), .ref ca])), (hgr, .inr (3, [.int (nI en), .ref gs, .ref g1r, .ref g2r, .ref gan, .ref gpr, .ref gde, .ref gme])), (gs, .inl (cs 0, 16, .inl gsf)), (g1r, .inl (cs 0, 16, .inl g1f)), (g2r, .inl (cs 0, 16, .inl g2f)), (gme, .inl (cs 0, 8, .inl gmf)), (hv, .inr (10, [.int ch, .int po, .ref av])), (av, .inl (cs 0, 32, .inl (upd f9 ((sT gsf e9) * 4 + 3) (nI e9))))] := hD
            refine lv_iconst (v := nI 1) hx hb dX6_accept_65 (by decide) ?_
            refine lv_istore_n (lv' := [(3, .int (nI 1)), (4, .int (nI e9)), (0, .ref hpo), (1, .ref hv), (2, .int x)]) hx hb dX6_accept_66 rfl hl (by decide) rfl ?_
            clear hl
            try clear ls
            intro ls hl
            refine lv_iinc (v := nI (e9 + 1)) (lv' := [(4, .int (nI (e9 + 1))), (3, .int (nI 1)), (0, .ref hpo), (1, .ref hv), (2, .int x)]) hx hb dX6_accept_67 hl (k := 1) rfl (nI_add e9 1) (by decide) rfl ?_
            clear hl
            try clear ls
            intro ls hl
            refine lv_goto (tgt := 5) hx hb dX6_accept_70 (by decide) ?_
            exact ih_loop_1 (e9 + 1) (upd f9 ((sT gsf e9) * 4 + 3) (nI e9)) 1 (by omega) (prP_o hpr9 _ _ _ (by decide)) (Or.inr rfl) (⟨_, _, hac9, Or.inl ⟨⟨PQ.yes hw_r_3 c_5, PQ.yes hw_r_6 c_8⟩, rfl, rfl⟩⟩) (by omega) H locs ls (xP_map hP [0, 1, 2, 7, 8, 3, 4, 5, 6] rfl) (hD.sub [0, 1, 2, 7, 8, 3, 4, 5, 6] (by decide +kernel) rfl) hS (lv_sub hl [0, 1, 2, 3, 4] rfl)
  exact loop_1 _ 0 f 0 (by omega) hpr (Or.inl rfl) (⟨rfl, rfl⟩) (Nat.lt_succ_self _) H locs ls hP hD hS (lv_sub hl [0, 1, 2, 3, 4] rfl)
