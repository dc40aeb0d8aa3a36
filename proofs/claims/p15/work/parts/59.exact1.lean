def toldP (x : Int32) : Prop := ¬ x < nI 1 ∧ ¬ nI 12 < x
/-- the layers are asked for -/
def reP (n se : Nat) (x : Int32) : Prop := toldP x ∧ ¬ wyN n se x.toNatClampNeg = -2
def exP (n se : Nat) (x y : Int32) : Prop := reP n se x ∧ ¬ y < 0 ∧ y ≤ nI 2 ∧ ¬ y = 0
def coP (n se : Nat) (x y : Int32) : Prop := reP n se x ∧ ¬ y < 0 ∧ y ≤ nI n
theorem toldP.nat {x : Int32} (h : toldP x) : ∃ t : Nat, t ≤ 12 ∧ x = nI t := nI_of2 (M := nI 12) (by decide) (fun q => h.1 (Int32.lt_trans q (by decide))) (Int32.not_lt.mp h.2)
theorem toldP.of {t : Nat} (h : t ≤ 12) (h1 : toldP (nI t)) : 1 ≤ t := Decidable.byContradiction fun q => by
  obtain rfl : t = 0 := by omega
  exact h1.1 (by decide)
theorem reP.of {n se t : Nat} (h : toldP (nI t)) (ht : t ≤ 12) (hw : ¬ wyN n se t = -2) : reP n se (nI t) := ⟨h, by rw [nI_clamp (by omega)]; exact hw⟩
theorem reP.ne {n se t : Nat} (h : reP n se (nI t)) (ht : t ≤ 12) : ¬ wyN n se t = -2 := by have q := h.2; rw [nI_clamp (by omega)] at q; exact q

set_option maxHeartbeats 4000000 in
set_option maxRecDepth 100000 in
theorem c_X11_exact_r (l : Launch) (D : va_G) (cs : Nat → ClassId) (h0 hr hg hgr ha hpo hly hse hc pa spr qm ke nk : Nat) (pm dr ver : Int32) (sm ca n k al be se : Nat) (ea pr : Int32) (x y : Int32) (hn : n ≤ 8) (hn1 : 1 ≤ n) (hse35 : 1 ≤ se ∧ se ≤ 35) (hnr : ¬ exP n se x y) : xMet l D cs yX11_exact cX11_exact 5 (some .long) ({ frames := 2, cells := 0, slots := 0, locals := 49 } : Room) [.ref h0, .int x, .int y] [(h0, .inr (11, [.ref hr, .ref hg, .ref hgr, .ref ha, .ref hpo, .ref hly, .ref hse, .ref hc, .ref pa, .ref spr, .ref qm, .int pm, .int (nI ke), .int (nI nk), .int dr, .int ver])), (hr, .inr (7, [.int (nI n), .int (nI k), .int (nI al), .int (nI be), .int ea, .int pr, .ref sm, .int (nI se), .ref ca]))] (xQl D (fun (r : Int64) (_u : Unit) => True) (fun (_u : Unit) => [(h0, .inr (11, [.ref hr, .ref hg, .ref hgr, .ref ha, .ref hpo, .ref hly, .ref hse, .ref hc, .ref pa, .ref spr, .ref qm, .int pm, .int (nI ke), .int (nI nk), .int dr, .int ver])), (hr, .inr (7, [.int (nI n), .int (nI k), .int (nI al), .int (nI be), .int ea, .int pr, .ref sm, .int (nI se), .ref ca]))])) := by
  refine xMet.intro (by decide) (Nat.le_of_ble_eq_true rfl) ?_
  intro p e s m args below meth c A ls C hP hD hS hl
  have hx := C.1
  have hb := C.2.1
  have hz := C.2.2.2.2.1
  have hown := C.2.2.2.1
  have hA := C.2.2.2.2.2.2.2.2.2
  have hAO := C.2.2.2.2.2.2.2.2.1.2.2
  replace hl : lv_has ls 5 [(0, .ref h0), (1, .int x), (2, .int y)] := hl
  obtain ⟨H, hH⟩ : ∃ H, H = s.heap := ⟨_, rfl⟩
  replace hP : va_P D vwCl [(h0, .inr (11, [.ref hr, .ref hg, .ref hgr, .ref ha, .ref hpo, .ref hly, .ref hse, .ref hc, .ref pa, .ref spr, .ref qm, .int pm, .int (nI ke), .int (nI nk), .int dr, .int ver])), (hr, .inr (7, [.int (nI n), .int (nI k), .int (nI al), .int (nI be), .int ea, .int pr, .ref sm, .int (nI se), .ref ca]))] H := by rw [hH]; exact hP
  replace hS : va_S A s.heap H [] := by rw [hH]; exact hS
  obtain ⟨locs, hlocs⟩ : ∃ z : List Loc, z = [] := ⟨_, rfl⟩
  rw [← hlocs] at hS
  suffices hW : W p l e ({ frames := 2, cells := 0, slots := 0, locals := 49 } : Room) s m args below meth c H locs 0 0 (MQ below ((xQl D (fun (r : Int64) (_u : Unit) => True) (fun (_u : Unit) => [(h0, .inr (11, [.ref hr, .ref hg, .ref hgr, .ref ha, .ref hpo, .ref hly, .ref hse, .ref hc, .ref pa, .ref spr, .ref qm, .int pm, .int (nI ke), .int (nI nk), .int dr, .int ver])), (hr, .inr (7, [.int (nI n), .int (nI k), .int (nI al), .int (nI be), .int ea, .int pr, .ref sm, .int (nI se), .ref ca]))])) A) args s 0 0 A) (F0 m 0 ls []) by rw [hlocs, hH] at hW; exact hW
  clear hH hlocs
  refine lv_iload_n hx hb dX11_exact_0 rfl (lv_at hl 1 rfl) ?_
  refine xi (wr := [(h0, .inr (11, [.ref hr, .ref hg, .ref hgr, .ref ha, .ref hpo, .ref hly, .ref hse, .ref hc, .ref pa, .ref spr, .ref qm, .int pm, .int (nI ke), .int (nI nk), .int dr, .int ver])), (hr, .inr (7, [.int (nI n), .int (nI k), .int (nI al), .int (nI be), .int ea, .int pr, .ref sm, .int (nI se), .ref ca]))]) (xS (As := [.int x]) (rest := []) C (c_X11_isTold l D cs x) kX11_199 hP hD [] rfl (by decide +kernel) ⟨Nat.le_of_ble_eq_true rfl, Nat.le_of_ble_eq_true rfl⟩ rfl hl.1 rfl (Nat.le_of_ble_eq_true rfl) dX11_exact_1 ⟨Nat.le_of_ble_eq_true rfl, Nat.le_of_ble_eq_true rfl⟩) hP hD hS hA [] [0, 1] rfl rfl (by decide +kernel) (by decide +kernel) ?_
  clear hP hD hS
  try clear locs
  try clear H
  intro r_1 u_2 H locs hw_r_1 hP hD hS
  have hw_r_1 : PQ (¬ x < nI 1 ∧ ¬ nI 12 < x) r_1 (nI 1) (nI 0) := hw_r_1
  refine W.widen (k := 0) (n := 0) (Nat.le_of_ble_eq_true rfl) (Nat.le_of_ble_eq_true rfl) ?_
  replace hP : va_P D vwCl [(h0, .inr (11, [.ref hr, .ref hg, .ref hgr, .ref ha, .ref hpo, .ref hly, .ref hse, .ref hc, .ref pa, .ref spr, .ref qm, .int pm, .int (nI ke), .int (nI nk), .int dr, .int ver])), (hr, .inr (7, [.int (nI n), .int (nI k), .int (nI al), .int (nI be), .int ea, .int pr, .ref sm, .int (nI se), .ref ca]))] H := hP
  replace hD : va_D A [(h0, .inr (11, [.ref hr, .ref hg, .ref hgr, .ref ha, .ref hpo, .ref hly, .ref hse, .ref hc, .ref pa, .ref spr, .ref qm, .int pm, .int (nI ke), .int (nI nk), .int dr, .int ver])), (hr, .inr (7, [.int (nI n), .int (nI k), .int (nI al), .int (nI be), .int ea, .int pr, .ref sm, .int (nI se), .ref ca]))] := hD
  refine lv_if_eq (tgt := 16) hx hb dX11_exact_4 (by decide) (fun c_3 => ?_) (fun c_3 => ?_)
  · -- 4 t
    refine lv_ldc2 (v := (-1)) hx hb hown (hz _ zw3_143) dX11_exact_16 ?_
    exact xretl C () trivial hP hD hS (Nat.le_of_ble_eq_true rfl) (Nat.le_of_ble_eq_true rfl) dX11_exact_19
  · -- 4 f
    have htold : toldP x := PQ.yes hw_r_1 c_3
    obtain ⟨t, h_t, rfl⟩ := htold.nat
    replace hP : va_P D vwCl [(h0, .inr (11, [.ref hr, .ref hg, .ref hgr, .ref ha, .ref hpo, .ref hly, .ref hse, .ref hc, .ref pa, .ref spr, .ref qm, .int pm, .int (nI ke), .int (nI nk), .int dr, .int ver])), (hr, .inr (7, [.int (nI n), .int (nI k), .int (nI al), .int (nI be), .int ea, .int pr, .ref sm, .int (nI se), .ref ca]))] H := hP
    replace hD : va_D A [(h0, .inr (11, [.ref hr, .ref hg, .ref hgr, .ref ha, .ref hpo, .ref hly, .ref hse, .ref hc, .ref pa, .ref spr, .ref qm, .int pm, .int (nI ke), .int (nI nk), .int dr, .int ver])), (hr, .inr (7, [.int (nI n), .int (nI k), .int (nI al), .int (nI be), .int ea, .int pr, .ref sm, .int (nI se), .ref ca]))] := hD
    refine lv_iload_n hx hb dX11_exact_7 rfl (lv_at hl 2 rfl) ?_
    refine lv_if_lt (tgt := 16) hx hb dX11_exact_8 (by decide) (fun c_4 => ?_) (fun c_4 => ?_)
    · -- 8 t
      refine lv_ldc2 (v := (-1)) hx hb hown (hz _ zw3_143) dX11_exact_16 ?_
      exact xretl C () trivial hP hD hS (Nat.le_of_ble_eq_true rfl) (Nat.le_of_ble_eq_true rfl) dX11_exact_19
    · -- 8 f
      refine lv_iload_n hx hb dX11_exact_11 rfl (lv_at hl 2 rfl) ?_
      refine lv_iconst (v := nI 2) hx hb dX11_exact_12 (by decide) ?_
      refine lv_icmp_le (tgt := 20) hx hb dX11_exact_13 (by decide) (fun c_5 => ?_) (fun c_5 => ?_)
      · -- 13 t
        refine lv_aload_n hx hb dX11_exact_20 rfl (lv_at hl 0 rfl) ?_
        refine xget C hP 0 rfl rfl zuX11 0 (by decide) zw2_155 rfl dX11_exact_21 ?_
        refine lv_iload_n hx hb dX11_exact_24 rfl (lv_at hl 1 rfl) ?_
        refine xl (wr := [(h0, .inr (11, [.ref hr, .ref hg, .ref hgr, .ref ha, .ref hpo, .ref hly, .ref hse, .ref hc, .ref pa, .ref spr, .ref qm, .int pm, .int (nI ke), .int (nI nk), .int dr, .int ver]))]) (xV (As := [.int (nI t)]) (rest := []) C (c_X7_ways_g l D cs hr sm ca n k al be se ea pr t h_t) kX11_204 hP hD [1] rfl (by decide +kernel) 0 rfl rfl rfl ⟨Nat.le_of_ble_eq_true rfl, Nat.le_of_ble_eq_true rfl⟩ rfl hl.1 rfl (Nat.le_of_ble_eq_true rfl) dX11_exact_25 ⟨Nat.le_of_ble_eq_true rfl, Nat.le_of_ble_eq_true rfl⟩) hP hD hS hA [1] [0] rfl rfl (by decide +kernel) (by decide +kernel) ?_
        clear hP hD hS
        try clear locs
        try clear H
        intro r_6 u_7 H locs hw_r_6 hP hD hS
        have hw_r_6 : r_6 = wyN n se t := hw_r_6
        refine W.widen (k := 0) (n := 0) (Nat.le_of_ble_eq_true rfl) (Nat.le_of_ble_eq_true rfl) ?_
        replace hP : va_P D vwCl [(h0, .inr (11, [.ref hr, .ref hg, .ref hgr, .ref ha, .ref hpo, .ref hly, .ref hse, .ref hc, .ref pa, .ref spr, .ref qm, .int pm, .int (nI ke), .int (nI nk), .int dr, .int ver])), (hr, .inr (7, [.int (nI n), .int (nI k), .int (nI al), .int (nI be), .int ea, .int pr, .ref sm, .int (nI se), .ref ca]))] H := hP
        replace hD : va_D A [(h0, .inr (11, [.ref hr, .ref hg, .ref hgr, .ref ha, .ref hpo, .ref hly, .ref hse, .ref hc, .ref pa, .ref spr, .ref qm, .int pm, .int (nI ke), .int (nI nk), .int dr, .int ver])), (hr, .inr (7, [.int (nI n), .int (nI k), .int (nI al), .int (nI be), .int ea, .int pr, .ref sm, .int (nI se), .ref ca]))] := hD
        subst hw_r_6
        replace hP : va_P D vwCl [(h0, .inr (11, [.ref hr, .ref hg, .ref hgr, .ref ha, .ref hpo, .ref hly, .ref hse, .ref hc, .ref pa, .ref spr, .ref qm, .int pm, .int (nI ke), .int (nI nk), .int dr, .int ver])), (hr, .inr (7, [.int (nI n), .int (nI k), .int (nI al), .int (nI be), .int ea, .int pr, .ref sm, .int (nI se), .ref ca]))] H := hP
        replace hD : va_D A [(h0, .inr (11, [.ref hr, .ref hg, .ref hgr, .ref ha, .ref hpo, .ref hly, .ref hse, .ref hc, .ref pa, .ref spr, .ref qm, .int pm, .int (nI ke), .int (nI nk), .int dr, .int ver])), (hr, .inr (7, [.int (nI n), .int (nI k), .int (nI al), .int (nI be), .int ea, .int pr, .ref sm, .int (nI se), .ref ca]))] := hD
        refine lv_lstore_n (lv' := [(3, .long (wyN n se t)), (0, .ref h0), (1, .int (nI t)), (2, .int y)]) hx hb dX11_exact_28 rfl hl (by decide) rfl ?_
        clear hl
        try clear ls
        intro ls hl
        refine lv_lload_n hx hb dX11_exact_29 rfl (lv_at hl 0 rfl) ?_
        refine lv_ldc2 (v := (-2)) hx hb hown (hz _ zw3_154) dX11_exact_30 ?_
        refine W.lcmp hx hb dX11_exact_33 ?_
        refine lv_if_eq (tgt := 41) hx hb dX11_exact_34 (by decide) (fun c_8 => ?_) (fun c_8 => ?_)
        · -- 34 t
          refine lv_lload_n hx hb dX11_exact_41 rfl (lv_at hl 0 rfl) ?_
          exact xretl C () trivial hP hD hS (Nat.le_of_ble_eq_true rfl) (Nat.le_of_ble_eq_true rfl) dX11_exact_42
        · -- 34 f
          refine lv_iload_n hx hb dX11_exact_37 rfl (lv_at hl 3 rfl) ?_
          refine lv_if_ne (tgt := 43) hx hb dX11_exact_38 (by decide) (fun c_9 => ?_) (fun c_9 => ?_)
          · -- 38 t
            exact absurd ⟨reP.of htold h_t (l_ne c_8), c_4, c_5, c_9⟩ hnr
          · -- 38 f
            refine lv_lload_n hx hb dX11_exact_41 rfl (lv_at hl 0 rfl) ?_
            exact xretl C () trivial hP hD hS (Nat.le_of_ble_eq_true rfl) (Nat.le_of_ble_eq_true rfl) dX11_exact_42
      · -- 13 f
        refine lv_ldc2 (v := (-1)) hx hb hown (hz _ zw3_143) dX11_exact_16 ?_
        exact xretl C () trivial hP hD hS (Nat.le_of_ble_eq_true rfl) (Nat.le_of_ble_eq_true rfl) dX11_exact_19

set_option maxHeartbeats 4000000 in
set_option maxRecDepth 100000 in
theorem c_X11_colours_r (l : Launch) (D : va_G) (cs : Nat → ClassId) (h0 hr hg hgr ha hpo hly hse hc pa spr qm ke nk : Nat) (pm dr ver : Int32) (sm ca n k al be se : Nat) (ea pr : Int32) (x y : Int32) (hn : n ≤ 8) (hn1 : 1 ≤ n) (hse35 : 1 ≤ se ∧ se ≤ 35) (hnr : ¬ coP n se x y) : xMet l D cs yX11_colours cX11_colours 3 (some .long) ({ frames := 2, cells := 0, slots := 0, locals := 49 } : Room) [.ref h0, .int x, .int y] [(h0, .inr (11, [.ref hr, .ref hg, .ref hgr, .ref ha, .ref hpo, .ref hly, .ref hse, .ref hc, .ref pa, .ref spr, .ref qm, .int pm, .int (nI ke), .int (nI nk), .int dr, .int ver])), (hr, .inr (7, [.int (nI n), .int (nI k), .int (nI al), .int (nI be), .int ea, .int pr, .ref sm, .int (nI se), .ref ca]))] (xQl D (fun (r : Int64) (_u : Unit) => True) (fun (_u : Unit) => [(h0, .inr (11, [.ref hr, .ref hg, .ref hgr, .ref ha, .ref hpo, .ref hly, .ref hse, .ref hc, .ref pa, .ref spr, .ref qm, .int pm, .int (nI ke), .int (nI nk), .int dr, .int ver])), (hr, .inr (7, [.int (nI n), .int (nI k), .int (nI al), .int (nI be), .int ea, .int pr, .ref sm, .int (nI se), .ref ca]))])) := by
  refine xMet.intro (by decide) (Nat.le_of_ble_eq_true rfl) ?_
  intro p e s m args below meth c A ls C hP hD hS hl
  have hx := C.1
  have hb := C.2.1
  have hz := C.2.2.2.2.1
  have hown := C.2.2.2.1
  have hA := C.2.2.2.2.2.2.2.2.2
  have hAO := C.2.2.2.2.2.2.2.2.1.2.2
  replace hl : lv_has ls 3 [(0, .ref h0), (1, .int x), (2, .int y)] := hl
  obtain ⟨H, hH⟩ : ∃ H, H = s.heap := ⟨_, rfl⟩
  replace hP : va_P D vwCl [(h0, .inr (11, [.ref hr, .ref hg, .ref hgr, .ref ha, .ref hpo, .ref hly, .ref hse, .ref hc, .ref pa, .ref spr, .ref qm, .int pm, .int (nI ke), .int (nI nk), .int dr, .int ver])), (hr, .inr (7, [.int (nI n), .int (nI k), .int (nI al), .int (nI be), .int ea, .int pr, .ref sm, .int (nI se), .ref ca]))] H := by rw [hH]; exact hP
  replace hS : va_S A s.heap H [] := by rw [hH]; exact hS
  obtain ⟨locs, hlocs⟩ : ∃ z : List Loc, z = [] := ⟨_, rfl⟩
  rw [← hlocs] at hS
  suffices hW : W p l e ({ frames := 2, cells := 0, slots := 0, locals := 49 } : Room) s m args below meth c H locs 0 0 (MQ below ((xQl D (fun (r : Int64) (_u : Unit) => True) (fun (_u : Unit) => [(h0, .inr (11, [.ref hr, .ref hg, .ref hgr, .ref ha, .ref hpo, .ref hly, .ref hse, .ref hc, .ref pa, .ref spr, .ref qm, .int pm, .int (nI ke), .int (nI nk), .int dr, .int ver])), (hr, .inr (7, [.int (nI n), .int (nI k), .int (nI al), .int (nI be), .int ea, .int pr, .ref sm, .int (nI se), .ref ca]))])) A) args s 0 0 A) (F0 m 0 ls []) by rw [hlocs, hH] at hW; exact hW
  clear hH hlocs
  refine lv_iload_n hx hb dX11_colours_0 rfl (lv_at hl 1 rfl) ?_
  refine xi (wr := [(h0, .inr (11, [.ref hr, .ref hg, .ref hgr, .ref ha, .ref hpo, .ref hly, .ref hse, .ref hc, .ref pa, .ref spr, .ref qm, .int pm, .int (nI ke), .int (nI nk), .int dr, .int ver])), (hr, .inr (7, [.int (nI n), .int (nI k), .int (nI al), .int (nI be), .int ea, .int pr, .ref sm, .int (nI se), .ref ca]))]) (xS (As := [.int x]) (rest := []) C (c_X11_isTold l D cs x) kX11_199 hP hD [] rfl (by decide +kernel) ⟨Nat.le_of_ble_eq_true rfl, Nat.le_of_ble_eq_true rfl⟩ rfl hl.1 rfl (Nat.le_of_ble_eq_true rfl) dX11_colours_1 ⟨Nat.le_of_ble_eq_true rfl, Nat.le_of_ble_eq_true rfl⟩) hP hD hS hA [] [0, 1] rfl rfl (by decide +kernel) (by decide +kernel) ?_
  clear hP hD hS
  try clear locs
  try clear H
  intro r_1 u_2 H locs hw_r_1 hP hD hS
  have hw_r_1 : PQ (¬ x < nI 1 ∧ ¬ nI 12 < x) r_1 (nI 1) (nI 0) := hw_r_1
  refine W.widen (k := 0) (n := 0) (Nat.le_of_ble_eq_true rfl) (Nat.le_of_ble_eq_true rfl) ?_
  replace hP : va_P D vwCl [(h0, .inr (11, [.ref hr, .ref hg, .ref hgr, .ref ha, .ref hpo, .ref hly, .ref hse, .ref hc, .ref pa, .ref spr, .ref qm, .int pm, .int (nI ke), .int (nI nk), .int dr, .int ver])), (hr, .inr (7, [.int (nI n), .int (nI k), .int (nI al), .int (nI be), .int ea, .int pr, .ref sm, .int (nI se), .ref ca]))] H := hP
  replace hD : va_D A [(h0, .inr (11, [.ref hr, .ref hg, .ref hgr, .ref ha, .ref hpo, .ref hly, .ref hse, .ref hc, .ref pa, .ref spr, .ref qm, .int pm, .int (nI ke), .int (nI nk), .int dr, .int ver])), (hr, .inr (7, [.int (nI n), .int (nI k), .int (nI al), .int (nI be), .int ea, .int pr, .ref sm, .int (nI se), .ref ca]))] := hD
  refine lv_if_eq (tgt := 22) hx hb dX11_colours_4 (by decide) (fun c_3 => ?_) (fun c_3 => ?_)
  · -- 4 t
    refine lv_ldc2 (v := (-1)) hx hb hown (hz _ zw3_143) dX11_colours_22 ?_
    exact xretl C () trivial hP hD hS (Nat.le_of_ble_eq_true rfl) (Nat.le_of_ble_eq_true rfl) dX11_colours_25
  · -- 4 f
    have htold : toldP x := PQ.yes hw_r_1 c_3
    obtain ⟨t, h_t, rfl⟩ := htold.nat
    replace hP : va_P D vwCl [(h0, .inr (11, [.ref hr, .ref hg, .ref hgr, .ref ha, .ref hpo, .ref hly, .ref hse, .ref hc, .ref pa, .ref spr, .ref qm, .int pm, .int (nI ke), .int (nI nk), .int dr, .int ver])), (hr, .inr (7, [.int (nI n), .int (nI k), .int (nI al), .int (nI be), .int ea, .int pr, .ref sm, .int (nI se), .ref ca]))] H := hP
    replace hD : va_D A [(h0, .inr (11, [.ref hr, .ref hg, .ref hgr, .ref ha, .ref hpo, .ref hly, .ref hse, .ref hc, .ref pa, .ref spr, .ref qm, .int pm, .int (nI ke), .int (nI nk), .int dr, .int ver])), (hr, .inr (7, [.int (nI n), .int (nI k), .int (nI al), .int (nI be), .int ea, .int pr, .ref sm, .int (nI se), .ref ca]))] := hD
    refine lv_iload_n hx hb dX11_colours_7 rfl (lv_at hl 2 rfl) ?_
    refine lv_if_lt (tgt := 22) hx hb dX11_colours_8 (by decide) (fun c_4 => ?_) (fun c_4 => ?_)
    · -- 8 t
      refine lv_ldc2 (v := (-1)) hx hb hown (hz _ zw3_143) dX11_colours_22 ?_
      exact xretl C () trivial hP hD hS (Nat.le_of_ble_eq_true rfl) (Nat.le_of_ble_eq_true rfl) dX11_colours_25
    · -- 8 f
      refine lv_iload_n hx hb dX11_colours_11 rfl (lv_at hl 2 rfl) ?_
      refine lv_aload_n hx hb dX11_colours_12 rfl (lv_at hl 0 rfl) ?_
      refine xget C hP 0 rfl rfl zuX11 0 (by decide) zw2_155 rfl dX11_colours_13 ?_
      refine xget C hP 1 rfl rfl zuX7 0 (by decide) zw1_82 rfl dX11_colours_16 ?_
      refine lv_icmp_le (tgt := 26) hx hb dX11_colours_19 (by decide) (fun c_5 => ?_) (fun c_5 => ?_)
      · -- 19 t
        refine lv_aload_n hx hb dX11_colours_26 rfl (lv_at hl 0 rfl) ?_
        refine xget C hP 0 rfl rfl zuX11 0 (by decide) zw2_155 rfl dX11_colours_27 ?_
        refine lv_iload_n hx hb dX11_colours_30 rfl (lv_at hl 1 rfl) ?_
        refine xl (wr := [(h0, .inr (11, [.ref hr, .ref hg, .ref hgr, .ref ha, .ref hpo, .ref hly, .ref hse, .ref hc, .ref pa, .ref spr, .ref qm, .int pm, .int (nI ke), .int (nI nk), .int dr, .int ver]))]) (xV (As := [.int (nI t)]) (rest := []) C (c_X7_ways_g l D cs hr sm ca n k al be se ea pr t h_t) kX11_204 hP hD [1] rfl (by decide +kernel) 0 rfl rfl rfl ⟨Nat.le_of_ble_eq_true rfl, Nat.le_of_ble_eq_true rfl⟩ rfl hl.1 rfl (Nat.le_of_ble_eq_true rfl) dX11_colours_31 ⟨Nat.le_of_ble_eq_true rfl, Nat.le_of_ble_eq_true rfl⟩) hP hD hS hA [1] [0] rfl rfl (by decide +kernel) (by decide +kernel) ?_
        clear hP hD hS
        try clear locs
        try clear H
        intro r_6 u_7 H locs hw_r_6 hP hD hS
        have hw_r_6 : r_6 = wyN n se t := hw_r_6
        refine W.widen (k := 0) (n := 0) (Nat.le_of_ble_eq_true rfl) (Nat.le_of_ble_eq_true rfl) ?_
        replace hP : va_P D vwCl [(h0, .inr (11, [.ref hr, .ref hg, .ref hgr, .ref ha, .ref hpo, .ref hly, .ref hse, .ref hc, .ref pa, .ref spr, .ref qm, .int pm, .int (nI ke), .int (nI nk), .int dr, .int ver])), (hr, .inr (7, [.int (nI n), .int (nI k), .int (nI al), .int (nI be), .int ea, .int pr, .ref sm, .int (nI se), .ref ca]))] H := hP
        replace hD : va_D A [(h0, .inr (11, [.ref hr, .ref hg, .ref hgr, .ref ha, .ref hpo, .ref hly, .ref hse, .ref hc, .ref pa, .ref spr, .ref qm, .int pm, .int (nI ke), .int (nI nk), .int dr, .int ver])), (hr, .inr (7, [.int (nI n), .int (nI k), .int (nI al), .int (nI be), .int ea, .int pr, .ref sm, .int (nI se), .ref ca]))] := hD
        subst hw_r_6
        replace hP : va_P D vwCl [(h0, .inr (11, [.ref hr, .ref hg, .ref hgr, .ref ha, .ref hpo, .ref hly, .ref hse, .ref hc, .ref pa, .ref spr, .ref qm, .int pm, .int (nI ke), .int (nI nk), .int dr, .int ver])), (hr, .inr (7, [.int (nI n), .int (nI k), .int (nI al), .int (nI be), .int ea, .int pr, .ref sm, .int (nI se), .ref ca]))] H := hP
        replace hD : va_D A [(h0, .inr (11, [.ref hr, .ref hg, .ref hgr, .ref ha, .ref hpo, .ref hly, .ref hse, .ref hc, .ref pa, .ref spr, .ref qm, .int pm, .int (nI ke), .int (nI nk), .int dr, .int ver])), (hr, .inr (7, [.int (nI n), .int (nI k), .int (nI al), .int (nI be), .int ea, .int pr, .ref sm, .int (nI se), .ref ca]))] := hD
        refine lv_ldc2 (v := (-2)) hx hb hown (hz _ zw3_154) dX11_colours_34 ?_
        refine W.lcmp hx hb dX11_colours_37 ?_
        refine lv_if_ne (tgt := 45) hx hb dX11_colours_38 (by decide) (fun c_8 => ?_) (fun c_8 => ?_)
        · -- 38 t
          exact absurd ⟨reP.of htold h_t (l_ne c_8), c_4, c_5⟩ hnr
        · -- 38 f
          refine lv_ldc2 (v := (-2)) hx hb hown (hz _ zw3_154) dX11_colours_41 ?_
          exact xretl C () trivial hP hD hS (Nat.le_of_ble_eq_true rfl) (Nat.le_of_ble_eq_true rfl) dX11_colours_44
      · -- 19 f
        refine lv_ldc2 (v := (-1)) hx hb hown (hz _ zw3_143) dX11_colours_22 ?_
        exact xretl C () trivial hP hD hS (Nat.le_of_ble_eq_true rfl) (Nat.le_of_ble_eq_true rfl) dX11_colours_25

set_option maxHeartbeats 4000000 in
set_option maxRecDepth 100000 in
theorem c_X11_odds_r (l : Launch) (D : va_G) (cs : Nat → ClassId) (h0 hr hg hgr ha hpo hly hse hc pa spr qm ke nk : Nat) (pm dr ver : Int32) (sm ca n k al be se : Nat) (ea pr : Int32) (x : Int32) (hn : n ≤ 8) (hn1 : 1 ≤ n) (hse35 : 1 ≤ se ∧ se ≤ 35) (hnr : ¬ reP n se x) : xMet l D cs yX11_odds cX11_odds 4 (some .int) ({ frames := 2, cells := 0, slots := 0, locals := 49 } : Room) [.ref h0, .int x] [(h0, .inr (11, [.ref hr, .ref hg, .ref hgr, .ref ha, .ref hpo, .ref hly, .ref hse, .ref hc, .ref pa, .ref spr, .ref qm, .int pm, .int (nI ke), .int (nI nk), .int dr, .int ver])), (hr, .inr (7, [.int (nI n), .int (nI k), .int (nI al), .int (nI be), .int ea, .int pr, .ref sm, .int (nI se), .ref ca]))] (xQi D (fun (r : Int32) (_u : Unit) => True) (fun (_u : Unit) => [(h0, .inr (11, [.ref hr, .ref hg, .ref hgr, .ref ha, .ref hpo, .ref hly, .ref hse, .ref hc, .ref pa, .ref spr, .ref qm, .int pm, .int (nI ke), .int (nI nk), .int dr, .int ver])), (hr, .inr (7, [.int (nI n), .int (nI k), .int (nI al), .int (nI be), .int ea, .int pr, .ref sm, .int (nI se), .ref ca]))])) := by
  refine xMet.intro (by decide) (Nat.le_of_ble_eq_true rfl) ?_
  intro p e s m args below meth c A ls C hP hD hS hl
  have hx := C.1
  have hb := C.2.1
  have hz := C.2.2.2.2.1
  have hown := C.2.2.2.1
  have hA := C.2.2.2.2.2.2.2.2.2
  have hAO := C.2.2.2.2.2.2.2.2.1.2.2
  replace hl : lv_has ls 4 [(0, .ref h0), (1, .int x)] := hl
  obtain ⟨H, hH⟩ : ∃ H, H = s.heap := ⟨_, rfl⟩
  replace hP : va_P D vwCl [(h0, .inr (11, [.ref hr, .ref hg, .ref hgr, .ref ha, .ref hpo, .ref hly, .ref hse, .ref hc, .ref pa, .ref spr, .ref qm, .int pm, .int (nI ke), .int (nI nk), .int dr, .int ver])), (hr, .inr (7, [.int (nI n), .int (nI k), .int (nI al), .int (nI be), .int ea, .int pr, .ref sm, .int (nI se), .ref ca]))] H := by rw [hH]; exact hP
  replace hS : va_S A s.heap H [] := by rw [hH]; exact hS
  obtain ⟨locs, hlocs⟩ : ∃ z : List Loc, z = [] := ⟨_, rfl⟩
  rw [← hlocs] at hS
  suffices hW : W p l e ({ frames := 2, cells := 0, slots := 0, locals := 49 } : Room) s m args below meth c H locs 0 0 (MQ below ((xQi D (fun (r : Int32) (_u : Unit) => True) (fun (_u : Unit) => [(h0, .inr (11, [.ref hr, .ref hg, .ref hgr, .ref ha, .ref hpo, .ref hly, .ref hse, .ref hc, .ref pa, .ref spr, .ref qm, .int pm, .int (nI ke), .int (nI nk), .int dr, .int ver])), (hr, .inr (7, [.int (nI n), .int (nI k), .int (nI al), .int (nI be), .int ea, .int pr, .ref sm, .int (nI se), .ref ca]))])) A) args s 0 0 A) (F0 m 0 ls []) by rw [hlocs, hH] at hW; exact hW
  clear hH hlocs
  refine lv_iload_n hx hb dX11_odds_0 rfl (lv_at hl 1 rfl) ?_
  refine xi (wr := [(h0, .inr (11, [.ref hr, .ref hg, .ref hgr, .ref ha, .ref hpo, .ref hly, .ref hse, .ref hc, .ref pa, .ref spr, .ref qm, .int pm, .int (nI ke), .int (nI nk), .int dr, .int ver])), (hr, .inr (7, [.int (nI n), .int (nI k), .int (nI al), .int (nI be), .int ea, .int pr, .ref sm, .int (nI se), .ref ca]))]) (xS (As := [.int x]) (rest := []) C (c_X11_isTold l D cs x) kX11_199 hP hD [] rfl (by decide +kernel) ⟨Nat.le_of_ble_eq_true rfl, Nat.le_of_ble_eq_true rfl⟩ rfl hl.1 rfl (Nat.le_of_ble_eq_true rfl) dX11_odds_1 ⟨Nat.le_of_ble_eq_true rfl, Nat.le_of_ble_eq_true rfl⟩) hP hD hS hA [] [0, 1] rfl rfl (by decide +kernel) (by decide +kernel) ?_
  clear hP hD hS
  try clear locs
  try clear H
  intro r_1 u_2 H locs hw_r_1 hP hD hS
  have hw_r_1 : PQ (¬ x < nI 1 ∧ ¬ nI 12 < x) r_1 (nI 1) (nI 0) := hw_r_1
  refine W.widen (k := 0) (n := 0) (Nat.le_of_ble_eq_true rfl) (Nat.le_of_ble_eq_true rfl) ?_
  replace hP : va_P D vwCl [(h0, .inr (11, [.ref hr, .ref hg, .ref hgr, .ref ha, .ref hpo, .ref hly, .ref hse, .ref hc, .ref pa, .ref spr, .ref qm, .int pm, .int (nI ke), .int (nI nk), .int dr, .int ver])), (hr, .inr (7, [.int (nI n), .int (nI k), .int (nI al), .int (nI be), .int ea, .int pr, .ref sm, .int (nI se), .ref ca]))] H := hP
  replace hD : va_D A [(h0, .inr (11, [.ref hr, .ref hg, .ref hgr, .ref ha, .ref hpo, .ref hly, .ref hse, .ref hc, .ref pa, .ref spr, .ref qm, .int pm, .int (nI ke), .int (nI nk), .int dr, .int ver])), (hr, .inr (7, [.int (nI n), .int (nI k), .int (nI al), .int (nI be), .int ea, .int pr, .ref sm, .int (nI se), .ref ca]))] := hD
  refine lv_if_ne (tgt := 9) hx hb dX11_odds_4 (by decide) (fun c_3 => ?_) (fun c_3 => ?_)
  · -- 4 t
    have htold : toldP x := PQ.yes hw_r_1 c_3
    obtain ⟨t, h_t, rfl⟩ := htold.nat
    replace hP : va_P D vwCl [(h0, .inr (11, [.ref hr, .ref hg, .ref hgr, .ref ha, .ref hpo, .ref hly, .ref hse, .ref hc, .ref pa, .ref spr, .ref qm, .int pm, .int (nI ke), .int (nI nk), .int dr, .int ver])), (hr, .inr (7, [.int (nI n), .int (nI k), .int (nI al), .int (nI be), .int ea, .int pr, .ref sm, .int (nI se), .ref ca]))] H := hP
    replace hD : va_D A [(h0, .inr (11, [.ref hr, .ref hg, .ref hgr, .ref ha, .ref hpo, .ref hly, .ref hse, .ref hc, .ref pa, .ref spr, .ref qm, .int pm, .int (nI ke), .int (nI nk), .int dr, .int ver])), (hr, .inr (7, [.int (nI n), .int (nI k), .int (nI al), .int (nI be), .int ea, .int pr, .ref sm, .int (nI se), .ref ca]))] := hD
    refine lv_aload_n hx hb dX11_odds_9 rfl (lv_at hl 0 rfl) ?_
    refine xget C hP 0 rfl rfl zuX11 0 (by decide) zw2_155 rfl dX11_odds_10 ?_
    refine lv_iload_n hx hb dX11_odds_13 rfl (lv_at hl 1 rfl) ?_
    refine xl (wr := [(h0, .inr (11, [.ref hr, .ref hg, .ref hgr, .ref ha, .ref hpo, .ref hly, .ref hse, .ref hc, .ref pa, .ref spr, .ref qm, .int pm, .int (nI ke), .int (nI nk), .int dr, .int ver]))]) (xV (As := [.int (nI t)]) (rest := []) C (c_X7_ways_g l D cs hr sm ca n k al be se ea pr t h_t) kX11_204 hP hD [1] rfl (by decide +kernel) 0 rfl rfl rfl ⟨Nat.le_of_ble_eq_true rfl, Nat.le_of_ble_eq_true rfl⟩ rfl hl.1 rfl (Nat.le_of_ble_eq_true rfl) dX11_odds_14 ⟨Nat.le_of_ble_eq_true rfl, Nat.le_of_ble_eq_true rfl⟩) hP hD hS hA [1] [0] rfl rfl (by decide +kernel) (by decide +kernel) ?_
    clear hP hD hS
    try clear locs
    try clear H
    intro r_4 u_5 H locs hw_r_4 hP hD hS
    have hw_r_4 : r_4 = wyN n se t := hw_r_4
    refine W.widen (k := 0) (n := 0) (Nat.le_of_ble_eq_true rfl) (Nat.le_of_ble_eq_true rfl) ?_
    replace hP : va_P D vwCl [(h0, .inr (11, [.ref hr, .ref hg, .ref hgr, .ref ha, .ref hpo, .ref hly, .ref hse, .ref hc, .ref pa, .ref spr, .ref qm, .int pm, .int (nI ke), .int (nI nk), .int dr, .int ver])), (hr, .inr (7, [.int (nI n), .int (nI k), .int (nI al), .int (nI be), .int ea, .int pr, .ref sm, .int (nI se), .ref ca]))] H := hP
    replace hD : va_D A [(h0, .inr (11, [.ref hr, .ref hg, .ref hgr, .ref ha, .ref hpo, .ref hly, .ref hse, .ref hc, .ref pa, .ref spr, .ref qm, .int pm, .int (nI ke), .int (nI nk), .int dr, .int ver])), (hr, .inr (7, [.int (nI n), .int (nI k), .int (nI al), .int (nI be), .int ea, .int pr, .ref sm, .int (nI se), .ref ca]))] := hD
    subst hw_r_4
    replace hP : va_P D vwCl [(h0, .inr (11, [.ref hr, .ref hg, .ref hgr, .ref ha, .ref hpo, .ref hly, .ref hse, .ref hc, .ref pa, .ref spr, .ref qm, .int pm, .int (nI ke), .int (nI nk), .int dr, .int ver])), (hr, .inr (7, [.int (nI n), .int (nI k), .int (nI al), .int (nI be), .int ea, .int pr, .ref sm, .int (nI se), .ref ca]))] H := hP
    replace hD : va_D A [(h0, .inr (11, [.ref hr, .ref hg, .ref hgr, .ref ha, .ref hpo, .ref hly, .ref hse, .ref hc, .ref pa, .ref spr, .ref qm, .int pm, .int (nI ke), .int (nI nk), .int dr, .int ver])), (hr, .inr (7, [.int (nI n), .int (nI k), .int (nI al), .int (nI be), .int ea, .int pr, .ref sm, .int (nI se), .ref ca]))] := hD
    refine lv_lstore_n (lv' := [(2, .long (wyN n se t)), (0, .ref h0), (1, .int (nI t))]) hx hb dX11_odds_17 rfl hl (by decide) rfl ?_
    clear hl
    try clear ls
    intro ls hl
    refine lv_lload_n hx hb dX11_odds_18 rfl (lv_at hl 0 rfl) ?_
    refine lv_ldc2 (v := (-2)) hx hb hown (hz _ zw3_154) dX11_odds_19 ?_
    refine W.lcmp hx hb dX11_odds_22 ?_
    refine lv_if_ne (tgt := 29) hx hb dX11_odds_23 (by decide) (fun c_6 => ?_) (fun c_6 => ?_)
    · -- 23 t
      exact absurd (reP.of htold h_t (l_ne c_6)) hnr
    · -- 23 f
      refine lv_bipush (v := (-2)) hx hb dX11_odds_26 (by decide) ?_
      exact xreti C () trivial hP hD hS (Nat.le_of_ble_eq_true rfl) (Nat.le_of_ble_eq_true rfl) rfl dX11_odds_28
  · -- 4 f
    refine lv_iconst (v := (-1)) hx hb dX11_odds_7 (by decide) ?_
    exact xreti C () trivial hP hD hS (Nat.le_of_ble_eq_true rfl) (Nat.le_of_ble_eq_true rfl) rfl dX11_odds_8
