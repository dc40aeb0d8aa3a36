set_option maxHeartbeats 4000000 in
set_option maxRecDepth 100000 in
theorem c_X11_would_f (l : Launch) (D : va_G) (cs : Nat → ClassId) (h0 hr hg hgr ha hpo hly hse hc pa spr qm ke nk : Nat) (pm dr ver : Int32) (sm ca n k al be se : Nat) (ea pr : Int32) (z1 z2 z3 : Int32) (nd kd lk vw : Nat) (nf kf lf : Nat → Int32) (spf : Nat → Int32) (x b : Int32) (hn : n ≤ 8) : xMet l D cs yX11_would cX11_would 3 (some .int) ({ frames := 4, cells := 0, slots := 0, locals := 95 } : Room) [.ref h0, .int x, .int b] [(h0, .inr (11, [.ref hr, .ref hg, .ref hgr, .ref ha, .ref hpo, .ref hly, .ref hse, .ref hc, .ref pa, .ref spr, .ref qm, .int pm, .int (nI ke), .int (nI nk), .int dr, .int ver])), (hr, .inr (7, [.int (nI n), .int (nI k), .int (nI al), .int (nI be), .int ea, .int pr, .ref sm, .int (nI se), .ref ca])), (ha, .inr (0, [.ref hr, .ref hg, .int z1, .int z2, .int z3])), (hg, .inr (4, [.ref nd, .ref kd, .ref lk, .ref vw])), (nd, .inl (cs 0, 8, .inl nf)), (kd, .inl (cs 0, 8, .inl kf)), (lk, .inl (cs 0, 8, .inl lf)), (spr, .inl (cs 0, 8, .inl spf))] (xQi D (fun (r : Int32) (u : Int32 × Int32 × Int32 × (Nat → Int32)) => match u with | (y1, y2, y3, sz9) => (¬ cakP n k x b nf kf ∧ r = -1) ∨ (∃ a, a < n ∧ x = nI a ∧ cakP n k x b nf kf ∧ lisI n a lf kf nf 0 y1 y2 y3 ∧ r = chgF (nf a) (sz9 a) ∧ askR n al be pr (va_cpy nf spf 0 0 8) sz9 a b y1 y2 y3)) (fun (u : Int32 × Int32 × Int32 × (Nat → Int32)) => match u with | (y1, y2, y3, sz9) => [(h0, .inr (11, [.ref hr, .ref hg, .ref hgr, .ref ha, .ref hpo, .ref hly, .ref hse, .ref hc, .ref pa, .ref spr, .ref qm, .int pm, .int (nI ke), .int (nI nk), .int dr, .int ver])), (hr, .inr (7, [.int (nI n), .int (nI k), .int (nI al), .int (nI be), .int ea, .int pr, .ref sm, .int (nI se), .ref ca])), (ha, .inr (0, [.ref hr, .ref hg, .int y1, .int y2, .int y3])), (hg, .inr (4, [.ref nd, .ref kd, .ref lk, .ref vw])), (nd, .inl (cs 0, 8, .inl nf)), (kd, .inl (cs 0, 8, .inl kf)), (lk, .inl (cs 0, 8, .inl lf)), (spr, .inl (cs 0, 8, .inl sz9))])) := by
  refine xMet.intro (by decide) (Nat.le_of_ble_eq_true rfl) ?_
  intro p e s m args below meth c A ls C hP hD hS hl
  have hx := C.1
  have hb := C.2.1
  have hz := C.2.2.2.2.1
  have hown := C.2.2.2.1
  have hA := C.2.2.2.2.2.2.2.2.2
  have hAO := C.2.2.2.2.2.2.2.2.1.2.2
  replace hl : lv_has ls 3 [(0, .ref h0), (1, .int x), (2, .int b)] := hl
  obtain ⟨H, hH⟩ : ∃ H, H = s.heap := ⟨_, rfl⟩
  replace hP : va_P D vwCl [(h0, .inr (11, [.ref hr, .ref hg, .ref hgr, .ref ha, .ref hpo, .ref hly, .ref hse, .ref hc, .ref pa, .ref spr, .ref qm, .int pm, .int (nI ke), .int (nI nk), .int dr, .int ver])), (hr, .inr (7, [.int (nI n), .int (nI k), .int (nI al), .int (nI be), .int ea, .int pr, .ref sm, .int (nI se), .ref ca])), (ha, .inr (0, [.ref hr, .ref hg, .int z1, .int z2, .int z3])), (hg, .inr (4, [.ref nd, .ref kd, .ref lk, .ref vw])), (nd, .inl (cs 0, 8, .inl nf)), (kd, .inl (cs 0, 8, .inl kf)), (lk, .inl (cs 0, 8, .inl lf)), (spr, .inl (cs 0, 8, .inl spf))] H := by rw [hH]; exact hP
  replace hS : va_S A s.heap H [] := by rw [hH]; exact hS
  obtain ⟨locs, hlocs⟩ : ∃ z : List Loc, z = [] := ⟨_, rfl⟩
  rw [← hlocs] at hS
  suffices hW : W p l e ({ frames := 4, cells := 0, slots := 0, locals := 95 } : Room) s m args below meth c H locs 0 0 (MQ below ((xQi D (fun (r : Int32) (u : Int32 × Int32 × Int32 × (Nat → Int32)) => match u with | (y1, y2, y3, sz9) => (¬ cakP n k x b nf kf ∧ r = -1) ∨ (∃ a, a < n ∧ x = nI a ∧ cakP n k x b nf kf ∧ lisI n a lf kf nf 0 y1 y2 y3 ∧ r = chgF (nf a) (sz9 a) ∧ askR n al be pr (va_cpy nf spf 0 0 8) sz9 a b y1 y2 y3)) (fun (u : Int32 × Int32 × Int32 × (Nat → Int32)) => match u with | (y1, y2, y3, sz9) => [(h0, .inr (11, [.ref hr, .ref hg, .ref hgr, .ref ha, .ref hpo, .ref hly, .ref hse, .ref hc, .ref pa, .ref spr, .ref qm, .int pm, .int (nI ke), .int (nI nk), .int dr, .int ver])), (hr, .inr (7, [.int (nI n), .int (nI k), .int (nI al), .int (nI be), .int ea, .int pr, .ref sm, .int (nI se), .ref ca])), (ha, .inr (0, [.ref hr, .ref hg, .int y1, .int y2, .int y3])), (hg, .inr (4, [.ref nd, .ref kd, .ref lk, .ref vw])), (nd, .inl (cs 0, 8, .inl nf)), (kd, .inl (cs 0, 8, .inl kf)), (lk, .inl (cs 0, 8, .inl lf)), (spr, .inl (cs 0, 8, .inl sz9))])) A) args s 0 0 A) (F0 m 0 ls []) by rw [hlocs, hH] at hW; exact hW
  clear hH hlocs
  refine lv_aload_n hx hb dX11_would_0 rfl (lv_at hl 0 rfl) ?_
  refine lv_iload_n hx hb dX11_would_1 rfl (lv_at hl 1 rfl) ?_
  refine lv_iload_n hx hb dX11_would_2 rfl (lv_at hl 2 rfl) ?_
  refine xi (wr := [(spr, .inl (cs 0, 8, .inl spf))]) (xV (As := [.int x, .int b]) (rest := []) C (c_X11_canAsk_f l D cs h0 hr hg hgr ha hpo hly hse hc pa spr qm ke nk pm dr ver sm ca n k al be se ea pr z1 z2 z3 nd kd lk vw nf kf lf x b hn) kX11_150 hP hD [0, 1, 2, 3, 4, 5, 6] rfl (by decide +kernel) 0 rfl rfl rfl ⟨Nat.le_of_ble_eq_true rfl, Nat.le_of_ble_eq_true rfl⟩ rfl hl.1 rfl (Nat.le_of_ble_eq_true rfl) dX11_would_3 ⟨Nat.le_of_ble_eq_true rfl, Nat.le_of_ble_eq_true rfl⟩) hP hD hS hA [0, 1, 2, 3, 4, 5, 6] [7] rfl rfl (by decide +kernel) (by decide +kernel) ?_
  clear hP hD hS
  try clear locs
  try clear H
  intro r_1 u_2 H locs hw_r_1 hP hD hS
  obtain ⟨y1_3, y2_4, y3_5⟩ := u_2
  have hw_r_1 : ((r_1 = nI 1 ∧ cakP n k x b nf kf) ∨ (r_1 = nI 0 ∧ ¬ cakP n k x b nf kf)) ∧ (r_1 = nI 1 → lisI n x.toNatClampNeg lf kf nf 0 y1_3 y2_4 y3_5) := hw_r_1
  refine W.widen (k := 0) (n := 0) (Nat.le_of_ble_eq_true rfl) (Nat.le_of_ble_eq_true rfl) ?_
  replace hP : va_P D vwCl [(spr, .inl (cs 0, 8, .inl spf)), (h0, .inr (11, [.ref hr, .ref hg, .ref hgr, .ref ha, .ref hpo, .ref hly, .ref hse, .ref hc, .ref pa, .ref spr, .ref qm, .int pm, .int (nI ke), .int (nI nk), .int dr, .int ver])), (hr, .inr (7, [.int (nI n), .int (nI k), .int (nI al), .int (nI be), .int ea, .int pr, .ref sm, .int (nI se), .ref ca])), (ha, .inr (0, [.ref hr, .ref hg, .int y1_3, .int y2_4, .int y3_5])), (hg, .inr (4, [.ref nd, .ref kd, .ref lk, .ref vw])), (nd, .inl (cs 0, 8, .inl nf)), (kd, .inl (cs 0, 8, .inl kf)), (lk, .inl (cs 0, 8, .inl lf))] H := hP
  replace hD : va_D A [(spr, .inl (cs 0, 8, .inl spf)), (h0, .inr (11, [.ref hr, .ref hg, .ref hgr, .ref ha, .ref hpo, .ref hly, .ref hse, .ref hc, .ref pa, .ref spr, .ref qm, .int pm, .int (nI ke), .int (nI nk), .int dr, .int ver])), (hr, .inr (7, [.int (nI n), .int (nI k), .int (nI al), .int (nI be), .int ea, .int pr, .ref sm, .int (nI se), .ref ca])), (ha, .inr (0, [.ref hr, .ref hg, .int y1_3, .int y2_4, .int y3_5])), (hg, .inr (4, [.ref nd, .ref kd, .ref lk, .ref vw])), (nd, .inl (cs 0, 8, .inl nf)), (kd, .inl (cs 0, 8, .inl kf)), (lk, .inl (cs 0, 8, .inl lf))] := hD
  refine lv_if_ne (tgt := 11) hx hb dX11_would_6 (by decide) (fun c_6 => ?_) (fun c_6 => ?_)
  · -- 6 t
    have hyes : cakP n k x b nf kf := by rcases hw_r_1.1 with q | q; exact q.2; exact absurd q.1 c_6
    have hlis : lisI n x.toNatClampNeg lf kf nf 0 y1_3 y2_4 y3_5 := hw_r_1.2 (by rcases hw_r_1.1 with q | q; exact q.1; exact absurd q.1 c_6)
    obtain ⟨jx, h_jx, rfl⟩ := okN_of hyes.1.1 (by omega)
    replace hP : va_P D vwCl [(spr, .inl (cs 0, 8, .inl spf)), (h0, .inr (11, [.ref hr, .ref hg, .ref hgr, .ref ha, .ref hpo, .ref hly, .ref hse, .ref hc, .ref pa, .ref spr, .ref qm, .int pm, .int (nI ke), .int (nI nk), .int dr, .int ver])), (hr, .inr (7, [.int (nI n), .int (nI k), .int (nI al), .int (nI be), .int ea, .int pr, .ref sm, .int (nI se), .ref ca])), (ha, .inr (0, [.ref hr, .ref hg, .int y1_3, .int y2_4, .int y3_5])), (hg, .inr (4, [.ref nd, .ref kd, .ref lk, .ref vw])), (nd, .inl (cs 0, 8, .inl nf)), (kd, .inl (cs 0, 8, .inl kf)), (lk, .inl (cs 0, 8, .inl lf))] H := hP
    replace hD : va_D A [(spr, .inl (cs 0, 8, .inl spf)), (h0, .inr (11, [.ref hr, .ref hg, .ref hgr, .ref ha, .ref hpo, .ref hly, .ref hse, .ref hc, .ref pa, .ref spr, .ref qm, .int pm, .int (nI ke), .int (nI nk), .int dr, .int ver])), (hr, .inr (7, [.int (nI n), .int (nI k), .int (nI al), .int (nI be), .int ea, .int pr, .ref sm, .int (nI se), .ref ca])), (ha, .inr (0, [.ref hr, .ref hg, .int y1_3, .int y2_4, .int y3_5])), (hg, .inr (4, [.ref nd, .ref kd, .ref lk, .ref vw])), (nd, .inl (cs 0, 8, .inl nf)), (kd, .inl (cs 0, 8, .inl kf)), (lk, .inl (cs 0, 8, .inl lf))] := hD
    rw [nI_clamp (by omega)] at hlis
    refine lv_aload_n hx hb dX11_would_11 rfl (lv_at hl 0 rfl) ?_
    refine xget C hP 1 rfl rfl zuX11 1 (by decide) zw2_156 rfl dX11_would_12 ?_
    refine xget C hP 4 rfl rfl zuX4 0 (by decide) zw1_170 rfl dX11_would_15 ?_
    refine lv_iconst (v := nI 0) hx hb dX11_would_18 (by decide) ?_
    refine lv_aload_n hx hb dX11_would_19 rfl (lv_at hl 0 rfl) ?_
    refine xget C hP 1 rfl rfl zuX11 9 (by decide) zw2_164 rfl dX11_would_20 ?_
    refine lv_iconst (v := nI 0) hx hb dX11_would_23 (by decide) ?_
    refine lv_bipush (v := nI 8) hx hb dX11_would_24 (by decide) ?_
    refine xcopy C hP hD hS 5 0 rfl rfl (sp := 0) (dp := 0) (k := 8) rfl rfl rfl (by decide) (by decide) ⟨by decide, by decide⟩ zw3_109 zw3_6 zw3_5 zw1_16 (Nat.le_of_ble_eq_true rfl) (Nat.le_of_ble_eq_true rfl) hl.1 dX11_would_26 ?_
    clear hP hD hS
    try clear locs
    try clear H
    intro H locs hP hD hS
    replace hP : va_P D vwCl [(spr, .inl (cs 0, 8, .inl (va_cpy nf spf 0 0 8))), (h0, .inr (11, [.ref hr, .ref hg, .ref hgr, .ref ha, .ref hpo, .ref hly, .ref hse, .ref hc, .ref pa, .ref spr, .ref qm, .int pm, .int (nI ke), .int (nI nk), .int dr, .int ver])), (hr, .inr (7, [.int (nI n), .int (nI k), .int (nI al), .int (nI be), .int ea, .int pr, .ref sm, .int (nI se), .ref ca])), (ha, .inr (0, [.ref hr, .ref hg, .int y1_3, .int y2_4, .int y3_5])), (hg, .inr (4, [.ref nd, .ref kd, .ref lk, .ref vw])), (nd, .inl (cs 0, 8, .inl nf)), (kd, .inl (cs 0, 8, .inl kf)), (lk, .inl (cs 0, 8, .inl lf))] H := hP
    replace hD : va_D A [(spr, .inl (cs 0, 8, .inl (va_cpy nf spf 0 0 8))), (h0, .inr (11, [.ref hr, .ref hg, .ref hgr, .ref ha, .ref hpo, .ref hly, .ref hse, .ref hc, .ref pa, .ref spr, .ref qm, .int pm, .int (nI ke), .int (nI nk), .int dr, .int ver])), (hr, .inr (7, [.int (nI n), .int (nI k), .int (nI al), .int (nI be), .int ea, .int pr, .ref sm, .int (nI se), .ref ca])), (ha, .inr (0, [.ref hr, .ref hg, .int y1_3, .int y2_4, .int y3_5])), (hg, .inr (4, [.ref nd, .ref kd, .ref lk, .ref vw])), (nd, .inl (cs 0, 8, .inl nf)), (kd, .inl (cs 0, 8, .inl kf)), (lk, .inl (cs 0, 8, .inl lf))] := hD
    refine lv_aload_n hx hb dX11_would_29 rfl (lv_at hl 0 rfl) ?_
    refine xget C hP 1 rfl rfl zuX11 3 (by decide) zw2_158 rfl dX11_would_30 ?_
    refine lv_aload_n hx hb dX11_would_33 rfl (lv_at hl 0 rfl) ?_
    refine xget C hP 1 rfl rfl zuX11 9 (by decide) zw2_164 rfl dX11_would_34 ?_
    refine lv_iload_n hx hb dX11_would_37 rfl (lv_at hl 1 rfl) ?_
    refine lv_aload_n hx hb dX11_would_38 rfl (lv_at hl 0 rfl) ?_
    refine xget C hP 1 rfl rfl zuX11 3 (by decide) zw2_158 rfl dX11_would_39 ?_
    refine lv_iload_n hx hb dX11_would_42 rfl (lv_at hl 2 rfl) ?_
    refine xi (wr := [(spr, .inl (cs 0, 8, .inl (va_cpy nf spf 0 0 8))), (h0, .inr (11, [.ref hr, .ref hg, .ref hgr, .ref ha, .ref hpo, .ref hly, .ref hse, .ref hc, .ref pa, .ref spr, .ref qm, .int pm, .int (nI ke), .int (nI nk), .int dr, .int ver])), (hg, .inr (4, [.ref nd, .ref kd, .ref lk, .ref vw])), (nd, .inl (cs 0, 8, .inl nf)), (kd, .inl (cs 0, 8, .inl kf)), (lk, .inl (cs 0, 8, .inl lf))]) (xV (As := [.int b]) (rest := [.int (nI jx), .ref spr, .ref ha]) C (c_X0_winner_f l D cs ha hg hr sm ca n k al be se ea pr y1_3 y2_4 y3_5 b) kX11_162 hP hD [3, 2] rfl (by decide +kernel) 0 rfl rfl rfl ⟨Nat.le_of_ble_eq_true rfl, Nat.le_of_ble_eq_true rfl⟩ rfl hl.1 rfl (Nat.le_of_ble_eq_true rfl) dX11_would_43 ⟨Nat.le_of_ble_eq_true rfl, Nat.le_of_ble_eq_true rfl⟩) hP hD hS hA [3, 2] [0, 1, 4, 5, 6, 7] rfl rfl (by decide +kernel) (by decide +kernel) ?_
    clear hP hD hS
    try clear locs
    try clear H
    intro r_7 u_8 H locs hw_r_7 hP hD hS
    have hw_r_7 : r_7 = winF al (bcF (b &&& y2_4)) (bcF (b &&& y1_3)) := hw_r_7
    refine W.widen (k := 0) (n := 0) (Nat.le_of_ble_eq_true rfl) (Nat.le_of_ble_eq_true rfl) ?_
    replace hP : va_P D vwCl [(spr, .inl (cs 0, 8, .inl (va_cpy nf spf 0 0 8))), (h0, .inr (11, [.ref hr, .ref hg, .ref hgr, .ref ha, .ref hpo, .ref hly, .ref hse, .ref hc, .ref pa, .ref spr, .ref qm, .int pm, .int (nI ke), .int (nI nk), .int dr, .int ver])), (hg, .inr (4, [.ref nd, .ref kd, .ref lk, .ref vw])), (nd, .inl (cs 0, 8, .inl nf)), (kd, .inl (cs 0, 8, .inl kf)), (lk, .inl (cs 0, 8, .inl lf)), (ha, .inr (0, [.ref hr, .ref hg, .int y1_3, .int y2_4, .int y3_5])), (hr, .inr (7, [.int (nI n), .int (nI k), .int (nI al), .int (nI be), .int ea, .int pr, .ref sm, .int (nI se), .ref ca]))] H := hP
    replace hD : va_D A [(spr, .inl (cs 0, 8, .inl (va_cpy nf spf 0 0 8))), (h0, .inr (11, [.ref hr, .ref hg, .ref hgr, .ref ha, .ref hpo, .ref hly, .ref hse, .ref hc, .ref pa, .ref spr, .ref qm, .int pm, .int (nI ke), .int (nI nk), .int dr, .int ver])), (hg, .inr (4, [.ref nd, .ref kd, .ref lk, .ref vw])), (nd, .inl (cs 0, 8, .inl nf)), (kd, .inl (cs 0, 8, .inl kf)), (lk, .inl (cs 0, 8, .inl lf)), (ha, .inr (0, [.ref hr, .ref hg, .int y1_3, .int y2_4, .int y3_5])), (hr, .inr (7, [.int (nI n), .int (nI k), .int (nI al), .int (nI be), .int ea, .int pr, .ref sm, .int (nI se), .ref ca]))] := hD
    obtain rfl : r_7 = winF al (bcF (b &&& y2_4)) (bcF (b &&& y1_3)) := hw_r_7
    refine lv_iload_n hx hb dX11_would_46 rfl (lv_at hl 2 rfl) ?_
    refine xv (wr := [(h0, .inr (11, [.ref hr, .ref hg, .ref hgr, .ref ha, .ref hpo, .ref hly, .ref hse, .ref hc, .ref pa, .ref spr, .ref qm, .int pm, .int (nI ke), .int (nI nk), .int dr, .int ver])), (hg, .inr (4, [.ref nd, .ref kd, .ref lk, .ref vw])), (nd, .inl (cs 0, 8, .inl nf)), (kd, .inl (cs 0, 8, .inl kf)), (lk, .inl (cs 0, 8, .inl lf))]) (xV (As := [.ref spr, .int (nI jx), .int (winF al (bcF (b &&& y2_4)) (bcF (b &&& y1_3))), .int b]) (rest := []) C (c_X0_settle_f l D cs ha hg hr sm ca n k al be se ea pr y1_3 y2_4 y3_5 spr jx (va_cpy nf spf 0 0 8) (winF al (bcF (b &&& y2_4)) (bcF (b &&& y1_3))) b hn (by omega)) kX11_166 hP hD [6, 7, 0] rfl (by decide +kernel) 0 rfl rfl rfl ⟨Nat.le_of_ble_eq_true rfl, Nat.le_of_ble_eq_true rfl⟩ rfl hl.1 rfl (Nat.le_of_ble_eq_true rfl) dX11_would_47 ⟨Nat.le_of_ble_eq_true rfl, Nat.le_of_ble_eq_true rfl⟩) hP hD hS hA [6, 7, 0] [1, 2, 3, 4, 5] rfl rfl (by decide +kernel) (by decide +kernel) ?_
    clear hP hD hS
    try clear locs
    try clear H
    intro u_10 H locs hw_r_9 hP hD hS
    have hw_r_9 : ∀ j, j < 32 → u_10 j = upd (givF n (y3_5 &&& b) (colF ((va_cpy nf spf 0 0 8) jx)) (va_cpy nf spf 0 0 8)) jx (setF pr be ((va_cpy nf spf 0 0 8) jx) (winF al (bcF (b &&& y2_4)) (bcF (b &&& y1_3)))) j := hw_r_9
    refine W.widen (k := 0) (n := 0) (Nat.le_of_ble_eq_true rfl) (Nat.le_of_ble_eq_true rfl) ?_
    replace hP : va_P D vwCl [(h0, .inr (11, [.ref hr, .ref hg, .ref hgr, .ref ha, .ref hpo, .ref hly, .ref hse, .ref hc, .ref pa, .ref spr, .ref qm, .int pm, .int (nI ke), .int (nI nk), .int dr, .int ver])), (hg, .inr (4, [.ref nd, .ref kd, .ref lk, .ref vw])), (nd, .inl (cs 0, 8, .inl nf)), (kd, .inl (cs 0, 8, .inl kf)), (lk, .inl (cs 0, 8, .inl lf)), (ha, .inr (0, [.ref hr, .ref hg, .int y1_3, .int y2_4, .int y3_5])), (hr, .inr (7, [.int (nI n), .int (nI k), .int (nI al), .int (nI be), .int ea, .int pr, .ref sm, .int (nI se), .ref ca])), (spr, .inl (cs 0, 8, .inl u_10))] H := hP
    replace hD : va_D A [(h0, .inr (11, [.ref hr, .ref hg, .ref hgr, .ref ha, .ref hpo, .ref hly, .ref hse, .ref hc, .ref pa, .ref spr, .ref qm, .int pm, .int (nI ke), .int (nI nk), .int dr, .int ver])), (hg, .inr (4, [.ref nd, .ref kd, .ref lk, .ref vw])), (nd, .inl (cs 0, 8, .inl nf)), (kd, .inl (cs 0, 8, .inl kf)), (lk, .inl (cs 0, 8, .inl lf)), (ha, .inr (0, [.ref hr, .ref hg, .int y1_3, .int y2_4, .int y3_5])), (hr, .inr (7, [.int (nI n), .int (nI k), .int (nI al), .int (nI be), .int ea, .int pr, .ref sm, .int (nI se), .ref ca])), (spr, .inl (cs 0, 8, .inl u_10))] := hD
    refine lv_aload_n hx hb dX11_would_50 rfl (lv_at hl 0 rfl) ?_
    refine xget C hP 0 rfl rfl zuX11 1 (by decide) zw2_156 rfl dX11_would_51 ?_
    refine xget C hP 1 rfl rfl zuX4 0 (by decide) zw1_170 rfl dX11_would_54 ?_
    refine lv_iload_n hx hb dX11_would_57 rfl (lv_at hl 1 rfl) ?_
    refine xiald C hP 2 rfl jx rfl (by omega) (by decide) dX11_would_58 ?_
    refine lv_aload_n hx hb dX11_would_59 rfl (lv_at hl 0 rfl) ?_
    refine xget C hP 0 rfl rfl zuX11 9 (by decide) zw2_164 rfl dX11_would_60 ?_
    refine lv_iload_n hx hb dX11_would_63 rfl (lv_at hl 1 rfl) ?_
    refine xiald C hP 7 rfl jx rfl (by omega) (by decide) dX11_would_64 ?_
    refine xi (wr := [(h0, .inr (11, [.ref hr, .ref hg, .ref hgr, .ref ha, .ref hpo, .ref hly, .ref hse, .ref hc, .ref pa, .ref spr, .ref qm, .int pm, .int (nI ke), .int (nI nk), .int dr, .int ver])), (hg, .inr (4, [.ref nd, .ref kd, .ref lk, .ref vw])), (nd, .inl (cs 0, 8, .inl nf)), (kd, .inl (cs 0, 8, .inl kf)), (lk, .inl (cs 0, 8, .inl lf)), (ha, .inr (0, [.ref hr, .ref hg, .int y1_3, .int y2_4, .int y3_5])), (hr, .inr (7, [.int (nI n), .int (nI k), .int (nI al), .int (nI be), .int ea, .int pr, .ref sm, .int (nI se), .ref ca])), (spr, .inl (cs 0, 8, .inl u_10))]) (xS (As := [.int (nf jx), .int (u_10 jx)]) (rest := []) C (c_X0_change_f l D cs (nf jx) (u_10 jx)) kX11_170 hP hD [] rfl (by decide +kernel) ⟨Nat.le_of_ble_eq_true rfl, Nat.le_of_ble_eq_true rfl⟩ rfl hl.1 rfl (Nat.le_of_ble_eq_true rfl) dX11_would_65 ⟨Nat.le_of_ble_eq_true rfl, Nat.le_of_ble_eq_true rfl⟩) hP hD hS hA [] [0, 1, 2, 3, 4, 5, 6, 7] rfl rfl (by decide +kernel) (by decide +kernel) ?_
    clear hP hD hS
    try clear locs
    try clear H
    intro r_11 u_12 H locs hw_r_11 hP hD hS
    have hw_r_11 : r_11 = chgF (nf jx) (u_10 jx) := hw_r_11
    refine W.widen (k := 0) (n := 0) (Nat.le_of_ble_eq_true rfl) (Nat.le_of_ble_eq_true rfl) ?_
    replace hP : va_P D vwCl [(h0, .inr (11, [.ref hr, .ref hg, .ref hgr, .ref ha, .ref hpo, .ref hly, .ref hse, .ref hc, .ref pa, .ref spr, .ref qm, .int pm, .int (nI ke), .int (nI nk), .int dr, .int ver])), (hg, .inr (4, [.ref nd, .ref kd, .ref lk, .ref vw])), (nd, .inl (cs 0, 8, .inl nf)), (kd, .inl (cs 0, 8, .inl kf)), (lk, .inl (cs 0, 8, .inl lf)), (ha, .inr (0, [.ref hr, .ref hg, .int y1_3, .int y2_4, .int y3_5])), (hr, .inr (7, [.int (nI n), .int (nI k), .int (nI al), .int (nI be), .int ea, .int pr, .ref sm, .int (nI se), .ref ca])), (spr, .inl (cs 0, 8, .inl u_10))] H := hP
    replace hD : va_D A [(h0, .inr (11, [.ref hr, .ref hg, .ref hgr, .ref ha, .ref hpo, .ref hly, .ref hse, .ref hc, .ref pa, .ref spr, .ref qm, .int pm, .int (nI ke), .int (nI nk), .int dr, .int ver])), (hg, .inr (4, [.ref nd, .ref kd, .ref lk, .ref vw])), (nd, .inl (cs 0, 8, .inl nf)), (kd, .inl (cs 0, 8, .inl kf)), (lk, .inl (cs 0, 8, .inl lf)), (ha, .inr (0, [.ref hr, .ref hg, .int y1_3, .int y2_4, .int y3_5])), (hr, .inr (7, [.int (nI n), .int (nI k), .int (nI al), .int (nI be), .int ea, .int pr, .ref sm, .int (nI se), .ref ca])), (spr, .inl (cs 0, 8, .inl u_10))] := hD
    exact xreti C (⟨y1_3, y2_4, y3_5, u_10⟩) (Or.inr ⟨jx, h_jx, rfl, hyes, hlis, hw_r_11, hw_r_9⟩) (xP_map hP [0, 6, 5, 1, 2, 3, 4, 7] rfl) (hD.sub [0, 6, 5, 1, 2, 3, 4, 7] (by decide +kernel) rfl) hS (Nat.le_of_ble_eq_true rfl) (Nat.le_of_ble_eq_true rfl) rfl dX11_would_68
  · -- 6 f
    refine lv_iconst (v := (-1)) hx hb dX11_would_9 (by decide) ?_
    exact xreti C (⟨y1_3, y2_4, y3_5, spf⟩) (Or.inl ⟨(by rcases hw_r_1.1 with q | q; exact absurd (q.1.symm.trans c_6) (by decide); exact q.2), rfl⟩) (xP_map hP [1, 2, 3, 4, 5, 6, 7, 0] rfl) (hD.sub [1, 2, 3, 4, 5, 6, 7, 0] (by decide +kernel) rfl) hS (Nat.le_of_ble_eq_true rfl) (Nat.le_of_ble_eq_true rfl) rfl dX11_would_10
