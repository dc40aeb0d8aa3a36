def ndP (x y r : Int32) : Prop := (∃ k : Nat, k < 8 ∧ okN 4 x ∧ y = nI k ∧ r = if k < 2 then -1 else 0) ∨ ((¬ okN 4 x ∨ (y.toInt < 0 ∨ (8 : Int) - 1 < y.toInt)) ∧ r = -2)
theorem outI {n k : Nat} (hn : n < 2 ^ 31) (h : k < n) : ¬ ((nI k).toInt < 0 ∨ (n : Int) - 1 < (nI k).toInt) := by rw [nI_toInt (by omega)]; omega
theorem ndP.eq {x y r t : Int32} (h : ndP x y r) (g : ndP x y t) : r = t := by
  rcases h with ⟨k, h1, h2, rfl, rfl⟩ | ⟨h1, rfl⟩ <;> rcases g with ⟨k', g1, g2, e, rfl⟩ | ⟨g1, rfl⟩
  · rw [(nI_eq (by omega) (by omega)).mp e]
  · exact absurd g1 (fun q => q.elim (fun z => z h2) (outI (n := 8) (by decide) h1))
  · subst e; exact absurd h1 (fun q => q.elim (fun z => z g2) (outI (n := 8) (by decide) g1))
  · rfl
def ctT : Nat → Int32
  | 0 => 4 | 1 => 2 | 2 => 2 | 3 => 3 | 4 => 2 | 5 => 1 | 6 => 15 | _ => 0
def ctP (x r : Int32) : Prop := (∃ k : Nat, k < 17 ∧ x = nI k ∧ r = ctT k) ∨ ((x.toInt < 0 ∨ (17 : Int) - 1 < x.toInt) ∧ r = -1)
theorem ctP.eq {x r t : Int32} (h : ctP x r) (g : ctP x t) : r = t := by
  rcases h with ⟨k, h1, rfl, rfl⟩ | ⟨h1, rfl⟩ <;> rcases g with ⟨k', g1, e, rfl⟩ | ⟨g1, rfl⟩
  · rw [(nI_eq (by omega) (by omega)).mp e]
  · exact absurd g1 (outI (n := 17) (by decide) h1)
  · subst e; exact absurd h1 (outI (n := 17) (by decide) g1)
  · rfl
theorem fits_of {a b c d : Int32} (h : fitsP a b c d) : ∃ n k al be : Nat, ((2 ≤ n ∧ n ≤ 8) ∧ k < n ∧ al ≤ k) ∧ a = nI n ∧ b = nI k ∧ c = nI al ∧ d = nI be := by
  obtain ⟨h1, h2, h3, h4, h5, h6, h7, h8, h9⟩ := h
  have p : ∀ {z : Int32}, ¬ z < nI 1 → ¬ z < 0 := fun g q => g (Int32.lt_trans q (by decide))
  obtain ⟨n, hn, rfl⟩ := nI_of2 (n := 8) (M := nI 8) (by decide) (fun q => h1 (Int32.lt_trans q (by decide))) (Int32.not_lt.mp h2)
  obtain ⟨k, hk, rfl⟩ := nI_of (p h3)
  obtain ⟨al, hal, rfl⟩ := nI_of (p h5)
  obtain ⟨be, hbe, rfl⟩ := nI_of (p h8)
  exact ⟨n, k, al, be, ⟨⟨nf_nlt (by omega) (by decide) h1, hn⟩, nf_nle (by omega) (by omega) h4, nf_nlt (by omega) (by omega) h6⟩, rfl, rfl, rfl, rfl⟩
theorem odds_0 : ∀ t, t ≤ 12 → FP.fdiv (FP.l2f 0) (FP.l2f (lN (12 ^ t))) = 0 := by decide +kernel

set_option maxHeartbeats 4000000 in
set_option maxRecDepth 100000 in
theorem c_X11_node_z (l : Launch) (D : va_G) (cs : Nat → ClassId) (h0 hr hg hgr ha hpo hly hse hc pa spr qm : Nat) (dr ver : Int32) (sm ca : Nat) (nd kd lk vw : Nat) (x y : Int32) : xMet l D cs yX11_node cX11_node 4 (some .int) ({ frames := 1, cells := 0, slots := 0, locals := 21 } : Room) [.ref h0, .int x, .int y] [(h0, .inr (11, [.ref hr, .ref hg, .ref hgr, .ref ha, .ref hpo, .ref hly, .ref hse, .ref hc, .ref pa, .ref spr, .ref qm, .int (nI 0), .int (nI 0), .int (nI 0), .int dr, .int ver])), (hr, .inr (7, [.int (nI 4), .int (nI 2), .int (nI 2), .int (nI 3), .int (nI 2), .int (nI 1), .ref sm, .int (nI 3), .ref ca])), (hg, .inr (4, [.ref nd, .ref kd, .ref lk, .ref vw])), (nd, .inl (cs 0, 8, .inl (fun _ => nI 0))), (kd, .inl (cs 0, 8, .inl (fun _ => nI 0))), (qm, .inl (cs 0, 8, .inl (fun _ => nI 0)))] (xQi D (fun (r : Int32) (_u : Unit) => ndP x y r) (fun (_u : Unit) => [])) := by
  refine xMet.intro (by decide) (Nat.le_of_ble_eq_true rfl) ?_
  intro p e s m args below meth c A ls C hP hD hS hl
  have hx := C.1
  have hb := C.2.1
  have hz := C.2.2.2.2.1
  have hown := C.2.2.2.1
  have hA := C.2.2.2.2.2.2.2.2.2
  have hAO := C.2.2.2.2.2.2.2.2.1.2.2
  have hl : lv_has ls 4 [(0, .ref h0), (1, .int x), (2, .int y)] := hl
  obtain ⟨H, hH⟩ : ∃ H, H = s.heap := ⟨_, rfl⟩
  have hP : va_P D vwCl [(h0, .inr (11, [.ref hr, .ref hg, .ref hgr, .ref ha, .ref hpo, .ref hly, .ref hse, .ref hc, .ref pa, .ref spr, .ref qm, .int (nI 0), .int (nI 0), .int (nI 0), .int dr, .int ver])), (hr, .inr (7, [.int (nI 4), .int (nI 2), .int (nI 2), .int (nI 3), .int (nI 2), .int (nI 1), .ref sm, .int (nI 3), .ref ca])), (hg, .inr (4, [.ref nd, .ref kd, .ref lk, .ref vw])), (nd, .inl (cs 0, 8, .inl (fun _ => nI 0))), (kd, .inl (cs 0, 8, .inl (fun _ => nI 0))), (qm, .inl (cs 0, 8, .inl (fun _ => nI 0)))] H := by rw [hH]; exact hP
  have hS : va_S A s.heap H [] := by rw [hH]; exact hS
  obtain ⟨locs, hlocs⟩ : ∃ z : List Loc, z = [] := ⟨_, rfl⟩
  rw [← hlocs] at hS
  suffices hW : W p l e ({ frames := 1, cells := 0, slots := 0, locals := 21 } : Room) s m args below meth c H locs 0 0 (MQ below ((xQi D (fun (r : Int32) (_u : Unit) => ndP x y r) (fun (_u : Unit) => [])) A) args s 0 0 A) (F0 m 0 ls []) by rw [hlocs, hH] at hW; exact hW
  refine lv_aload_n hx hb dX11_node_0 rfl (lv_at hl 0 rfl) ?_
  refine xget C hP 0 rfl rfl zuX11 0 (by decide) zw2_155 rfl dX11_node_1 ?_
  refine lv_iload_n hx hb dX11_node_4 rfl (lv_at hl 1 rfl) ?_
  refine xi (wr := [(h0, .inr (11, [.ref hr, .ref hg, .ref hgr, .ref ha, .ref hpo, .ref hly, .ref hse, .ref hc, .ref pa, .ref spr, .ref qm, .int (nI 0), .int (nI 0), .int (nI 0), .int dr, .int ver])), (hg, .inr (4, [.ref nd, .ref kd, .ref lk, .ref vw])), (nd, .inl (cs 0, 8, .inl (fun _ => nI 0))), (kd, .inl (cs 0, 8, .inl (fun _ => nI 0))), (qm, .inl (cs 0, 8, .inl (fun _ => nI 0)))]) (xV (As := [.int x]) (rest := []) C (c_X7_isNode l D cs hr sm ca 4 2 2 3 (nI 2) (nI 1) (nI 3) x) kX11_126 hP hD [1] rfl (by decide +kernel) 0 rfl rfl rfl ⟨Nat.le_of_ble_eq_true rfl, Nat.le_of_ble_eq_true rfl⟩ rfl hl.1 rfl (Nat.le_of_ble_eq_true rfl) dX11_node_5 ⟨Nat.le_of_ble_eq_true rfl, Nat.le_of_ble_eq_true rfl⟩) hP hD hS hA [1] [0, 2, 3, 4, 5] rfl rfl (by decide +kernel) (by decide +kernel) (fun r_1 u_2 H locs hw_r_1 hP hD hS => ?_)
  have hw_r_1 : (r_1 = nI 1 ∧ okN 4 x) ∨ (r_1 = nI 0 ∧ ¬ okN 4 x) := hw_r_1
  refine W.widen (k := 0) (n := 0) (Nat.le_of_ble_eq_true rfl) (Nat.le_of_ble_eq_true rfl) ?_
  have hP : va_P D vwCl [(h0, .inr (11, [.ref hr, .ref hg, .ref hgr, .ref ha, .ref hpo, .ref hly, .ref hse, .ref hc, .ref pa, .ref spr, .ref qm, .int (nI 0), .int (nI 0), .int (nI 0), .int dr, .int ver])), (hg, .inr (4, [.ref nd, .ref kd, .ref lk, .ref vw])), (nd, .inl (cs 0, 8, .inl (fun _ => nI 0))), (kd, .inl (cs 0, 8, .inl (fun _ => nI 0))), (qm, .inl (cs 0, 8, .inl (fun _ => nI 0))), (hr, .inr (7, [.int (nI 4), .int (nI 2), .int (nI 2), .int (nI 3), .int (nI 2), .int (nI 1), .ref sm, .int (nI 3), .ref ca]))] H := hP
  have hD : va_D A [(h0, .inr (11, [.ref hr, .ref hg, .ref hgr, .ref ha, .ref hpo, .ref hly, .ref hse, .ref hc, .ref pa, .ref spr, .ref qm, .int (nI 0), .int (nI 0), .int (nI 0), .int dr, .int ver])), (hg, .inr (4, [.ref nd, .ref kd, .ref lk, .ref vw])), (nd, .inl (cs 0, 8, .inl (fun _ => nI 0))), (kd, .inl (cs 0, 8, .inl (fun _ => nI 0))), (qm, .inl (cs 0, 8, .inl (fun _ => nI 0))), (hr, .inr (7, [.int (nI 4), .int (nI 2), .int (nI 2), .int (nI 3), .int (nI 2), .int (nI 1), .ref sm, .int (nI 3), .ref ca]))] := hD
  refine lv_if_ne (tgt := 14) hx hb dX11_node_8 (by decide) (fun c_3 => ?_) (fun c_3 => ?_)
  · -- 8 t
    have hok_j : okN 4 x := by rcases hw_r_1 with q | q; exact q.2; exact absurd q.1 c_3
    obtain ⟨j, h_j, rfl⟩ := okN_of hok_j (by decide)
    have hP : va_P D vwCl [(h0, .inr (11, [.ref hr, .ref hg, .ref hgr, .ref ha, .ref hpo, .ref hly, .ref hse, .ref hc, .ref pa, .ref spr, .ref qm, .int (nI 0), .int (nI 0), .int (nI 0), .int dr, .int ver])), (hg, .inr (4, [.ref nd, .ref kd, .ref lk, .ref vw])), (nd, .inl (cs 0, 8, .inl (fun _ => nI 0))), (kd, .inl (cs 0, 8, .inl (fun _ => nI 0))), (qm, .inl (cs 0, 8, .inl (fun _ => nI 0))), (hr, .inr (7, [.int (nI 4), .int (nI 2), .int (nI 2), .int (nI 3), .int (nI 2), .int (nI 1), .ref sm, .int (nI 3), .ref ca]))] H := hP
    have hD : va_D A [(h0, .inr (11, [.ref hr, .ref hg, .ref hgr, .ref ha, .ref hpo, .ref hly, .ref hse, .ref hc, .ref pa, .ref spr, .ref qm, .int (nI 0), .int (nI 0), .int (nI 0), .int dr, .int ver])), (hg, .inr (4, [.ref nd, .ref kd, .ref lk, .ref vw])), (nd, .inl (cs 0, 8, .inl (fun _ => nI 0))), (kd, .inl (cs 0, 8, .inl (fun _ => nI 0))), (qm, .inl (cs 0, 8, .inl (fun _ => nI 0))), (hr, .inr (7, [.int (nI 4), .int (nI 2), .int (nI 2), .int (nI 3), .int (nI 2), .int (nI 1), .ref sm, .int (nI 3), .ref ca]))] := hD
    refine lv_aload_n hx hb dX11_node_14 rfl (lv_at hl 0 rfl) ?_
    refine xget C hP 0 rfl rfl zuX11 1 (by decide) zw2_156 rfl dX11_node_15 ?_
    refine xget C hP 1 rfl rfl zuX4 0 (by decide) zw1_170 rfl dX11_node_18 ?_
    refine lv_iload_n hx hb dX11_node_21 rfl (lv_at hl 1 rfl) ?_
    refine xiald C hP 2 rfl j rfl (by omega) (by decide) dX11_node_22 ?_
    rcases (xsw y 8 (by decide)) with ⟨k, hk, rfl⟩ | hout
    · -- split
      have hP : va_P D vwCl [(h0, .inr (11, [.ref hr, .ref hg, .ref hgr, .ref ha, .ref hpo, .ref hly, .ref hse, .ref hc, .ref pa, .ref spr, .ref qm, .int (nI 0), .int (nI 0), .int (nI 0), .int dr, .int ver])), (hg, .inr (4, [.ref nd, .ref kd, .ref lk, .ref vw])), (nd, .inl (cs 0, 8, .inl (fun _ => nI 0))), (kd, .inl (cs 0, 8, .inl (fun _ => nI 0))), (qm, .inl (cs 0, 8, .inl (fun _ => nI 0))), (hr, .inr (7, [.int (nI 4), .int (nI 2), .int (nI 2), .int (nI 3), .int (nI 2), .int (nI 1), .ref sm, .int (nI 3), .ref ca]))] H := hP
      have hD : va_D A [(h0, .inr (11, [.ref hr, .ref hg, .ref hgr, .ref ha, .ref hpo, .ref hly, .ref hse, .ref hc, .ref pa, .ref spr, .ref qm, .int (nI 0), .int (nI 0), .int (nI 0), .int dr, .int ver])), (hg, .inr (4, [.ref nd, .ref kd, .ref lk, .ref vw])), (nd, .inl (cs 0, 8, .inl (fun _ => nI 0))), (kd, .inl (cs 0, 8, .inl (fun _ => nI 0))), (qm, .inl (cs 0, 8, .inl (fun _ => nI 0))), (hr, .inr (7, [.int (nI 4), .int (nI 2), .int (nI 2), .int (nI 3), .int (nI 2), .int (nI 1), .ref sm, .int (nI 3), .ref ca]))] := hD
      refine lv_istore_n (lv' := [(3, .int (nI 0)), (0, .ref h0), (1, .int (nI j)), (2, .int (nI k))]) hx hb dX11_node_23 rfl hl (by decide) rfl (fun ls hl => ?_)
      rcases (show k = 0 ∨ k = 1 ∨ k = 2 ∨ k = 3 ∨ k = 4 ∨ k = 5 ∨ k = 6 ∨ k = 7 by omega) with rfl | rfl | rfl | rfl | rfl | rfl | rfl | rfl
      · -- k = 0
        have hP : va_P D vwCl [(h0, .inr (11, [.ref hr, .ref hg, .ref hgr, .ref ha, .ref hpo, .ref hly, .ref hse, .ref hc, .ref pa, .ref spr, .ref qm, .int (nI 0), .int (nI 0), .int (nI 0), .int dr, .int ver])), (hg, .inr (4, [.ref nd, .ref kd, .ref lk, .ref vw])), (nd, .inl (cs 0, 8, .inl (fun _ => nI 0))), (kd, .inl (cs 0, 8, .inl (fun _ => nI 0))), (qm, .inl (cs 0, 8, .inl (fun _ => nI 0))), (hr, .inr (7, [.int (nI 4), .int (nI 2), .int (nI 2), .int (nI 3), .int (nI 2), .int (nI 1), .ref sm, .int (nI 3), .ref ca]))] H := hP
        have hD : va_D A [(h0, .inr (11, [.ref hr, .ref hg, .ref hgr, .ref ha, .ref hpo, .ref hly, .ref hse, .ref hc, .ref pa, .ref spr, .ref qm, .int (nI 0), .int (nI 0), .int (nI 0), .int dr, .int ver])), (hg, .inr (4, [.ref nd, .ref kd, .ref lk, .ref vw])), (nd, .inl (cs 0, 8, .inl (fun _ => nI 0))), (kd, .inl (cs 0, 8, .inl (fun _ => nI 0))), (qm, .inl (cs 0, 8, .inl (fun _ => nI 0))), (hr, .inr (7, [.int (nI 4), .int (nI 2), .int (nI 2), .int (nI 3), .int (nI 2), .int (nI 1), .ref sm, .int (nI 3), .ref ca]))] := hD
        refine lv_iload_n hx hb dX11_node_24 rfl (lv_at hl 3 rfl) ?_
        refine lv_tableIn (tgt := 72) hx hb dX11_node_25 (by decide) (by decide) rfl (by decide) ?_
        refine lv_iload_n hx hb dX11_node_72 rfl (lv_at hl 0 rfl) ?_
        refine xi (wr := [(h0, .inr (11, [.ref hr, .ref hg, .ref hgr, .ref ha, .ref hpo, .ref hly, .ref hse, .ref hc, .ref pa, .ref spr, .ref qm, .int (nI 0), .int (nI 0), .int (nI 0), .int dr, .int ver])), (hg, .inr (4, [.ref nd, .ref kd, .ref lk, .ref vw])), (nd, .inl (cs 0, 8, .inl (fun _ => nI 0))), (kd, .inl (cs 0, 8, .inl (fun _ => nI 0))), (qm, .inl (cs 0, 8, .inl (fun _ => nI 0))), (hr, .inr (7, [.int (nI 4), .int (nI 2), .int (nI 2), .int (nI 3), .int (nI 2), .int (nI 1), .ref sm, .int (nI 3), .ref ca]))]) (xS (As := [.int (nI 0)]) (rest := []) C (c_X4_colourOf l D cs (nI 0)) kX11_184 hP hD [] rfl (by decide +kernel) ⟨Nat.le_of_ble_eq_true rfl, Nat.le_of_ble_eq_true rfl⟩ rfl hl.1 rfl (Nat.le_of_ble_eq_true rfl) dX11_node_73 ⟨Nat.le_of_ble_eq_true rfl, Nat.le_of_ble_eq_true rfl⟩) hP hD hS hA [] [0, 1, 2, 3, 4, 5] rfl rfl (by decide +kernel) (by decide +kernel) (fun r_4 u_5 H locs hw_r_4 hP hD hS => ?_)
        have hw_r_4 : r_4 = ((nI 0) &&& nI 3) - nI 1 := hw_r_4
        refine W.widen (k := 0) (n := 0) (Nat.le_of_ble_eq_true rfl) (Nat.le_of_ble_eq_true rfl) ?_
        have hP : va_P D vwCl [(h0, .inr (11, [.ref hr, .ref hg, .ref hgr, .ref ha, .ref hpo, .ref hly, .ref hse, .ref hc, .ref pa, .ref spr, .ref qm, .int (nI 0), .int (nI 0), .int (nI 0), .int dr, .int ver])), (hg, .inr (4, [.ref nd, .ref kd, .ref lk, .ref vw])), (nd, .inl (cs 0, 8, .inl (fun _ => nI 0))), (kd, .inl (cs 0, 8, .inl (fun _ => nI 0))), (qm, .inl (cs 0, 8, .inl (fun _ => nI 0))), (hr, .inr (7, [.int (nI 4), .int (nI 2), .int (nI 2), .int (nI 3), .int (nI 2), .int (nI 1), .ref sm, .int (nI 3), .ref ca]))] H := hP
        have hD : va_D A [(h0, .inr (11, [.ref hr, .ref hg, .ref hgr, .ref ha, .ref hpo, .ref hly, .ref hse, .ref hc, .ref pa, .ref spr, .ref qm, .int (nI 0), .int (nI 0), .int (nI 0), .int dr, .int ver])), (hg, .inr (4, [.ref nd, .ref kd, .ref lk, .ref vw])), (nd, .inl (cs 0, 8, .inl (fun _ => nI 0))), (kd, .inl (cs 0, 8, .inl (fun _ => nI 0))), (qm, .inl (cs 0, 8, .inl (fun _ => nI 0))), (hr, .inr (7, [.int (nI 4), .int (nI 2), .int (nI 2), .int (nI 3), .int (nI 2), .int (nI 1), .ref sm, .int (nI 3), .ref ca]))] := hD
        obtain rfl : r_4 = (-1) := by rw [hw_r_4]; decide
        exact xreti C () (Or.inl ⟨0, by decide, hok_j, rfl, by decide⟩) (xP_map hP [] rfl) (hD.sub [] (by decide +kernel) rfl) hS (Nat.le_of_ble_eq_true rfl) (Nat.le_of_ble_eq_true rfl) rfl dX11_node_76
      · -- k = 1
        have hP : va_P D vwCl [(h0, .inr (11, [.ref hr, .ref hg, .ref hgr, .ref ha, .ref hpo, .ref hly, .ref hse, .ref hc, .ref pa, .ref spr, .ref qm, .int (nI 0), .int (nI 0), .int (nI 0), .int dr, .int ver])), (hg, .inr (4, [.ref nd, .ref kd, .ref lk, .ref vw])), (nd, .inl (cs 0, 8, .inl (fun _ => nI 0))), (kd, .inl (cs 0, 8, .inl (fun _ => nI 0))), (qm, .inl (cs 0, 8, .inl (fun _ => nI 0))), (hr, .inr (7, [.int (nI 4), .int (nI 2), .int (nI 2), .int (nI 3), .int (nI 2), .int (nI 1), .ref sm, .int (nI 3), .ref ca]))] H := hP
        have hD : va_D A [(h0, .inr (11, [.ref hr, .ref hg, .ref hgr, .ref ha, .ref hpo, .ref hly, .ref hse, .ref hc, .ref pa, .ref spr, .ref qm, .int (nI 0), .int (nI 0), .int (nI 0), .int dr, .int ver])), (hg, .inr (4, [.ref nd, .ref kd, .ref lk, .ref vw])), (nd, .inl (cs 0, 8, .inl (fun _ => nI 0))), (kd, .inl (cs 0, 8, .inl (fun _ => nI 0))), (qm, .inl (cs 0, 8, .inl (fun _ => nI 0))), (hr, .inr (7, [.int (nI 4), .int (nI 2), .int (nI 2), .int (nI 3), .int (nI 2), .int (nI 1), .ref sm, .int (nI 3), .ref ca]))] := hD
        refine lv_iload_n hx hb dX11_node_24 rfl (lv_at hl 3 rfl) ?_
        refine lv_tableIn (tgt := 77) hx hb dX11_node_25 (by decide) (by decide) rfl (by decide) ?_
        refine lv_iload_n hx hb dX11_node_77 rfl (lv_at hl 0 rfl) ?_
        refine xi (wr := [(h0, .inr (11, [.ref hr, .ref hg, .ref hgr, .ref ha, .ref hpo, .ref hly, .ref hse, .ref hc, .ref pa, .ref spr, .ref qm, .int (nI 0), .int (nI 0), .int (nI 0), .int dr, .int ver])), (hg, .inr (4, [.ref nd, .ref kd, .ref lk, .ref vw])), (nd, .inl (cs 0, 8, .inl (fun _ => nI 0))), (kd, .inl (cs 0, 8, .inl (fun _ => nI 0))), (qm, .inl (cs 0, 8, .inl (fun _ => nI 0))), (hr, .inr (7, [.int (nI 4), .int (nI 2), .int (nI 2), .int (nI 3), .int (nI 2), .int (nI 1), .ref sm, .int (nI 3), .ref ca]))]) (xS (As := [.int (nI 0)]) (rest := []) C (c_X4_lastOf l D cs (nI 0)) kX11_187 hP hD [] rfl (by decide +kernel) ⟨Nat.le_of_ble_eq_true rfl, Nat.le_of_ble_eq_true rfl⟩ rfl hl.1 rfl (Nat.le_of_ble_eq_true rfl) dX11_node_78 ⟨Nat.le_of_ble_eq_true rfl, Nat.le_of_ble_eq_true rfl⟩) hP hD hS hA [] [0, 1, 2, 3, 4, 5] rfl rfl (by decide +kernel) (by decide +kernel) (fun r_6 u_7 H locs hw_r_6 hP hD hS => ?_)
        have hw_r_6 : r_6 = ((((nI 0)).toUInt32 >>> ((nI 2).toUInt32 &&& Int32.toUInt32 31)).toInt32 &&& nI 3) - nI 1 := hw_r_6
        refine W.widen (k := 0) (n := 0) (Nat.le_of_ble_eq_true rfl) (Nat.le_of_ble_eq_true rfl) ?_
        have hP : va_P D vwCl [(h0, .inr (11, [.ref hr, .ref hg, .ref hgr, .ref ha, .ref hpo, .ref hly, .ref hse, .ref hc, .ref pa, .ref spr, .ref qm, .int (nI 0), .int (nI 0), .int (nI 0), .int dr, .int ver])), (hg, .inr (4, [.ref nd, .ref kd, .ref lk, .ref vw])), (nd, .inl (cs 0, 8, .inl (fun _ => nI 0))), (kd, .inl (cs 0, 8, .inl (fun _ => nI 0))), (qm, .inl (cs 0, 8, .inl (fun _ => nI 0))), (hr, .inr (7, [.int (nI 4), .int (nI 2), .int (nI 2), .int (nI 3), .int (nI 2), .int (nI 1), .ref sm, .int (nI 3), .ref ca]))] H := hP
        have hD : va_D A [(h0, .inr (11, [.ref hr, .ref hg, .ref hgr, .ref ha, .ref hpo, .ref hly, .ref hse, .ref hc, .ref pa, .ref spr, .ref qm, .int (nI 0), .int (nI 0), .int (nI 0), .int dr, .int ver])), (hg, .inr (4, [.ref nd, .ref kd, .ref lk, .ref vw])), (nd, .inl (cs 0, 8, .inl (fun _ => nI 0))), (kd, .inl (cs 0, 8, .inl (fun _ => nI 0))), (qm, .inl (cs 0, 8, .inl (fun _ => nI 0))), (hr, .inr (7, [.int (nI 4), .int (nI 2), .int (nI 2), .int (nI 3), .int (nI 2), .int (nI 1), .ref sm, .int (nI 3), .ref ca]))] := hD
        obtain rfl : r_6 = (-1) := by rw [hw_r_6]; decide
        exact xreti C () (Or.inl ⟨1, by decide, hok_j, rfl, by decide⟩) (xP_map hP [] rfl) (hD.sub [] (by decide +kernel) rfl) hS (Nat.le_of_ble_eq_true rfl) (Nat.le_of_ble_eq_true rfl) rfl dX11_node_81
      · -- k = 2
        have hP : va_P D vwCl [(h0, .inr (11, [.ref hr, .ref hg, .ref hgr, .ref ha, .ref hpo, .ref hly, .ref hse, .ref hc, .ref pa, .ref spr, .ref qm, .int (nI 0), .int (nI 0), .int (nI 0), .int dr, .int ver])), (hg, .inr (4, [.ref nd, .ref kd, .ref lk, .ref vw])), (nd, .inl (cs 0, 8, .inl (fun _ => nI 0))), (kd, .inl (cs 0, 8, .inl (fun _ => nI 0))), (qm, .inl (cs 0, 8, .inl (fun _ => nI 0))), (hr, .inr (7, [.int (nI 4), .int (nI 2), .int (nI 2), .int (nI 3), .int (nI 2), .int (nI 1), .ref sm, .int (nI 3), .ref ca]))] H := hP
        have hD : va_D A [(h0, .inr (11, [.ref hr, .ref hg, .ref hgr, .ref ha, .ref hpo, .ref hly, .ref hse, .ref hc, .ref pa, .ref spr, .ref qm, .int (nI 0), .int (nI 0), .int (nI 0), .int dr, .int ver])), (hg, .inr (4, [.ref nd, .ref kd, .ref lk, .ref vw])), (nd, .inl (cs 0, 8, .inl (fun _ => nI 0))), (kd, .inl (cs 0, 8, .inl (fun _ => nI 0))), (qm, .inl (cs 0, 8, .inl (fun _ => nI 0))), (hr, .inr (7, [.int (nI 4), .int (nI 2), .int (nI 2), .int (nI 3), .int (nI 2), .int (nI 1), .ref sm, .int (nI 3), .ref ca]))] := hD
        refine lv_iload_n hx hb dX11_node_24 rfl (lv_at hl 3 rfl) ?_
        refine lv_tableIn (tgt := 82) hx hb dX11_node_25 (by decide) (by decide) rfl (by decide) ?_
        refine lv_iload_n hx hb dX11_node_82 rfl (lv_at hl 0 rfl) ?_
        refine xi (wr := [(h0, .inr (11, [.ref hr, .ref hg, .ref hgr, .ref ha, .ref hpo, .ref hly, .ref hse, .ref hc, .ref pa, .ref spr, .ref qm, .int (nI 0), .int (nI 0), .int (nI 0), .int dr, .int ver])), (hg, .inr (4, [.ref nd, .ref kd, .ref lk, .ref vw])), (nd, .inl (cs 0, 8, .inl (fun _ => nI 0))), (kd, .inl (cs 0, 8, .inl (fun _ => nI 0))), (qm, .inl (cs 0, 8, .inl (fun _ => nI 0))), (hr, .inr (7, [.int (nI 4), .int (nI 2), .int (nI 2), .int (nI 3), .int (nI 2), .int (nI 1), .ref sm, .int (nI 3), .ref ca]))]) (xS (As := [.int (nI 0)]) (rest := []) C (c_X4_counterOf l D cs (nI 0)) kX11_190 hP hD [] rfl (by decide +kernel) ⟨Nat.le_of_ble_eq_true rfl, Nat.le_of_ble_eq_true rfl⟩ rfl hl.1 rfl (Nat.le_of_ble_eq_true rfl) dX11_node_83 ⟨Nat.le_of_ble_eq_true rfl, Nat.le_of_ble_eq_true rfl⟩) hP hD hS hA [] [0, 1, 2, 3, 4, 5] rfl rfl (by decide +kernel) (by decide +kernel) (fun r_8 u_9 H locs hw_r_8 hP hD hS => ?_)
        have hw_r_8 : r_8 = (((nI 0)).toUInt32 >>> ((nI 4).toUInt32 &&& Int32.toUInt32 31)).toInt32 &&& nI 15 := hw_r_8
        refine W.widen (k := 0) (n := 0) (Nat.le_of_ble_eq_true rfl) (Nat.le_of_ble_eq_true rfl) ?_
        have hP : va_P D vwCl [(h0, .inr (11, [.ref hr, .ref hg, .ref hgr, .ref ha, .ref hpo, .ref hly, .ref hse, .ref hc, .ref pa, .ref spr, .ref qm, .int (nI 0), .int (nI 0), .int (nI 0), .int dr, .int ver])), (hg, .inr (4, [.ref nd, .ref kd, .ref lk, .ref vw])), (nd, .inl (cs 0, 8, .inl (fun _ => nI 0))), (kd, .inl (cs 0, 8, .inl (fun _ => nI 0))), (qm, .inl (cs 0, 8, .inl (fun _ => nI 0))), (hr, .inr (7, [.int (nI 4), .int (nI 2), .int (nI 2), .int (nI 3), .int (nI 2), .int (nI 1), .ref sm, .int (nI 3), .ref ca]))] H := hP
        have hD : va_D A [(h0, .inr (11, [.ref hr, .ref hg, .ref hgr, .ref ha, .ref hpo, .ref hly, .ref hse, .ref hc, .ref pa, .ref spr, .ref qm, .int (nI 0), .int (nI 0), .int (nI 0), .int dr, .int ver])), (hg, .inr (4, [.ref nd, .ref kd, .ref lk, .ref vw])), (nd, .inl (cs 0, 8, .inl (fun _ => nI 0))), (kd, .inl (cs 0, 8, .inl (fun _ => nI 0))), (qm, .inl (cs 0, 8, .inl (fun _ => nI 0))), (hr, .inr (7, [.int (nI 4), .int (nI 2), .int (nI 2), .int (nI 3), .int (nI 2), .int (nI 1), .ref sm, .int (nI 3), .ref ca]))] := hD
        obtain rfl : r_8 = nI 0 := by rw [hw_r_8]; decide
        exact xreti C () (Or.inl ⟨2, by decide, hok_j, rfl, by decide⟩) (xP_map hP [] rfl) (hD.sub [] (by decide +kernel) rfl) hS (Nat.le_of_ble_eq_true rfl) (Nat.le_of_ble_eq_true rfl) rfl dX11_node_86
      · -- k = 3
        have hP : va_P D vwCl [(h0, .inr (11, [.ref hr, .ref hg, .ref hgr, .ref ha, .ref hpo, .ref hly, .ref hse, .ref hc, .ref pa, .ref spr, .ref qm, .int (nI 0), .int (nI 0), .int (nI 0), .int dr, .int ver])), (hg, .inr (4, [.ref nd, .ref kd, .ref lk, .ref vw])), (nd, .inl (cs 0, 8, .inl (fun _ => nI 0))), (kd, .inl (cs 0, 8, .inl (fun _ => nI 0))), (qm, .inl (cs 0, 8, .inl (fun _ => nI 0))), (hr, .inr (7, [.int (nI 4), .int (nI 2), .int (nI 2), .int (nI 3), .int (nI 2), .int (nI 1), .ref sm, .int (nI 3), .ref ca]))] H := hP
        have hD : va_D A [(h0, .inr (11, [.ref hr, .ref hg, .ref hgr, .ref ha, .ref hpo, .ref hly, .ref hse, .ref hc, .ref pa, .ref spr, .ref qm, .int (nI 0), .int (nI 0), .int (nI 0), .int dr, .int ver])), (hg, .inr (4, [.ref nd, .ref kd, .ref lk, .ref vw])), (nd, .inl (cs 0, 8, .inl (fun _ => nI 0))), (kd, .inl (cs 0, 8, .inl (fun _ => nI 0))), (qm, .inl (cs 0, 8, .inl (fun _ => nI 0))), (hr, .inr (7, [.int (nI 4), .int (nI 2), .int (nI 2), .int (nI 3), .int (nI 2), .int (nI 1), .ref sm, .int (nI 3), .ref ca]))] := hD
        refine lv_iload_n hx hb dX11_node_24 rfl (lv_at hl 3 rfl) ?_
        refine lv_tableIn (tgt := 87) hx hb dX11_node_25 (by decide) (by decide) rfl (by decide) ?_
        refine lv_iload_n hx hb dX11_node_87 rfl (lv_at hl 0 rfl) ?_
        refine lv_iconst (v := nI 0) hx hb dX11_node_88 (by decide) ?_
        refine xi (wr := [(h0, .inr (11, [.ref hr, .ref hg, .ref hgr, .ref ha, .ref hpo, .ref hly, .ref hse, .ref hc, .ref pa, .ref spr, .ref qm, .int (nI 0), .int (nI 0), .int (nI 0), .int dr, .int ver])), (hg, .inr (4, [.ref nd, .ref kd, .ref lk, .ref vw])), (nd, .inl (cs 0, 8, .inl (fun _ => nI 0))), (kd, .inl (cs 0, 8, .inl (fun _ => nI 0))), (qm, .inl (cs 0, 8, .inl (fun _ => nI 0))), (hr, .inr (7, [.int (nI 4), .int (nI 2), .int (nI 2), .int (nI 3), .int (nI 2), .int (nI 1), .ref sm, .int (nI 3), .ref ca]))]) (xS (As := [.int (nI 0), .int (nI 0)]) (rest := []) C (c_X4_confidenceOf l D cs (nI 0) (nI 0)) kX11_193 hP hD [] rfl (by decide +kernel) ⟨Nat.le_of_ble_eq_true rfl, Nat.le_of_ble_eq_true rfl⟩ rfl hl.1 rfl (Nat.le_of_ble_eq_true rfl) dX11_node_89 ⟨Nat.le_of_ble_eq_true rfl, Nat.le_of_ble_eq_true rfl⟩) hP hD hS hA [] [0, 1, 2, 3, 4, 5] rfl rfl (by decide +kernel) (by decide +kernel) (fun r_10 u_11 H locs hw_r_10 hP hD hS => ?_)
        have hw_r_10 : r_10 = (((nI 0)).toUInt32 >>> ((nI 8 + (nI 0) * nI 10).toUInt32 &&& Int32.toUInt32 31)).toInt32 &&& nI 1023 := hw_r_10
        refine W.widen (k := 0) (n := 0) (Nat.le_of_ble_eq_true rfl) (Nat.le_of_ble_eq_true rfl) ?_
        have hP : va_P D vwCl [(h0, .inr (11, [.ref hr, .ref hg, .ref hgr, .ref ha, .ref hpo, .ref hly, .ref hse, .ref hc, .ref pa, .ref spr, .ref qm, .int (nI 0), .int (nI 0), .int (nI 0), .int dr, .int ver])), (hg, .inr (4, [.ref nd, .ref kd, .ref lk, .ref vw])), (nd, .inl (cs 0, 8, .inl (fun _ => nI 0))), (kd, .inl (cs 0, 8, .inl (fun _ => nI 0))), (qm, .inl (cs 0, 8, .inl (fun _ => nI 0))), (hr, .inr (7, [.int (nI 4), .int (nI 2), .int (nI 2), .int (nI 3), .int (nI 2), .int (nI 1), .ref sm, .int (nI 3), .ref ca]))] H := hP
        have hD : va_D A [(h0, .inr (11, [.ref hr, .ref hg, .ref hgr, .ref ha, .ref hpo, .ref hly, .ref hse, .ref hc, .ref pa, .ref spr, .ref qm, .int (nI 0), .int (nI 0), .int (nI 0), .int dr, .int ver])), (hg, .inr (4, [.ref nd, .ref kd, .ref lk, .ref vw])), (nd, .inl (cs 0, 8, .inl (fun _ => nI 0))), (kd, .inl (cs 0, 8, .inl (fun _ => nI 0))), (qm, .inl (cs 0, 8, .inl (fun _ => nI 0))), (hr, .inr (7, [.int (nI 4), .int (nI 2), .int (nI 2), .int (nI 3), .int (nI 2), .int (nI 1), .ref sm, .int (nI 3), .ref ca]))] := hD
        obtain rfl : r_10 = nI 0 := by rw [hw_r_10]; decide
        exact xreti C () (Or.inl ⟨3, by decide, hok_j, rfl, by decide⟩) (xP_map hP [] rfl) (hD.sub [] (by decide +kernel) rfl) hS (Nat.le_of_ble_eq_true rfl) (Nat.le_of_ble_eq_true rfl) rfl dX11_node_92
      · -- k = 4
        have hP : va_P D vwCl [(h0, .inr (11, [.ref hr, .ref hg, .ref hgr, .ref ha, .ref hpo, .ref hly, .ref hse, .ref hc, .ref pa, .ref spr, .ref qm, .int (nI 0), .int (nI 0), .int (nI 0), .int dr, .int ver])), (hg, .inr (4, [.ref nd, .ref kd, .ref lk, .ref vw])), (nd, .inl (cs 0, 8, .inl (fun _ => nI 0))), (kd, .inl (cs 0, 8, .inl (fun _ => nI 0))), (qm, .inl (cs 0, 8, .inl (fun _ => nI 0))), (hr, .inr (7, [.int (nI 4), .int (nI 2), .int (nI 2), .int (nI 3), .int (nI 2), .int (nI 1), .ref sm, .int (nI 3), .ref ca]))] H := hP
        have hD : va_D A [(h0, .inr (11, [.ref hr, .ref hg, .ref hgr, .ref ha, .ref hpo, .ref hly, .ref hse, .ref hc, .ref pa, .ref spr, .ref qm, .int (nI 0), .int (nI 0), .int (nI 0), .int dr, .int ver])), (hg, .inr (4, [.ref nd, .ref kd, .ref lk, .ref vw])), (nd, .inl (cs 0, 8, .inl (fun _ => nI 0))), (kd, .inl (cs 0, 8, .inl (fun _ => nI 0))), (qm, .inl (cs 0, 8, .inl (fun _ => nI 0))), (hr, .inr (7, [.int (nI 4), .int (nI 2), .int (nI 2), .int (nI 3), .int (nI 2), .int (nI 1), .ref sm, .int (nI 3), .ref ca]))] := hD
        refine lv_iload_n hx hb dX11_node_24 rfl (lv_at hl 3 rfl) ?_
        refine lv_tableIn (tgt := 93) hx hb dX11_node_25 (by decide) (by decide) rfl (by decide) ?_
        refine lv_iload_n hx hb dX11_node_93 rfl (lv_at hl 0 rfl) ?_
        refine lv_iconst (v := nI 1) hx hb dX11_node_94 (by decide) ?_
        refine xi (wr := [(h0, .inr (11, [.ref hr, .ref hg, .ref hgr, .ref ha, .ref hpo, .ref hly, .ref hse, .ref hc, .ref pa, .ref spr, .ref qm, .int (nI 0), .int (nI 0), .int (nI 0), .int dr, .int ver])), (hg, .inr (4, [.ref nd, .ref kd, .ref lk, .ref vw])), (nd, .inl (cs 0, 8, .inl (fun _ => nI 0))), (kd, .inl (cs 0, 8, .inl (fun _ => nI 0))), (qm, .inl (cs 0, 8, .inl (fun _ => nI 0))), (hr, .inr (7, [.int (nI 4), .int (nI 2), .int (nI 2), .int (nI 3), .int (nI 2), .int (nI 1), .ref sm, .int (nI 3), .ref ca]))]) (xS (As := [.int (nI 0), .int (nI 1)]) (rest := []) C (c_X4_confidenceOf l D cs (nI 0) (nI 1)) kX11_193 hP hD [] rfl (by decide +kernel) ⟨Nat.le_of_ble_eq_true rfl, Nat.le_of_ble_eq_true rfl⟩ rfl hl.1 rfl (Nat.le_of_ble_eq_true rfl) dX11_node_95 ⟨Nat.le_of_ble_eq_true rfl, Nat.le_of_ble_eq_true rfl⟩) hP hD hS hA [] [0, 1, 2, 3, 4, 5] rfl rfl (by decide +kernel) (by decide +kernel) (fun r_12 u_13 H locs hw_r_12 hP hD hS => ?_)
        have hw_r_12 : r_12 = (((nI 0)).toUInt32 >>> ((nI 8 + (nI 1) * nI 10).toUInt32 &&& Int32.toUInt32 31)).toInt32 &&& nI 1023 := hw_r_12
        refine W.widen (k := 0) (n := 0) (Nat.le_of_ble_eq_true rfl) (Nat.le_of_ble_eq_true rfl) ?_
        have hP : va_P D vwCl [(h0, .inr (11, [.ref hr, .ref hg, .ref hgr, .ref ha, .ref hpo, .ref hly, .ref hse, .ref hc, .ref pa, .ref spr, .ref qm, .int (nI 0), .int (nI 0), .int (nI 0), .int dr, .int ver])), (hg, .inr (4, [.ref nd, .ref kd, .ref lk, .ref vw])), (nd, .inl (cs 0, 8, .inl (fun _ => nI 0))), (kd, .inl (cs 0, 8, .inl (fun _ => nI 0))), (qm, .inl (cs 0, 8, .inl (fun _ => nI 0))), (hr, .inr (7, [.int (nI 4), .int (nI 2), .int (nI 2), .int (nI 3), .int (nI 2), .int (nI 1), .ref sm, .int (nI 3), .ref ca]))] H := hP
        have hD : va_D A [(h0, .inr (11, [.ref hr, .ref hg, .ref hgr, .ref ha, .ref hpo, .ref hly, .ref hse, .ref hc, .ref pa, .ref spr, .ref qm, .int (nI 0), .int (nI 0), .int (nI 0), .int dr, .int ver])), (hg, .inr (4, [.ref nd, .ref kd, .ref lk, .ref vw])), (nd, .inl (cs 0, 8, .inl (fun _ => nI 0))), (kd, .inl (cs 0, 8, .inl (fun _ => nI 0))), (qm, .inl (cs 0, 8, .inl (fun _ => nI 0))), (hr, .inr (7, [.int (nI 4), .int (nI 2), .int (nI 2), .int (nI 3), .int (nI 2), .int (nI 1), .ref sm, .int (nI 3), .ref ca]))] := hD
        obtain rfl : r_12 = nI 0 := by rw [hw_r_12]; decide
        exact xreti C () (Or.inl ⟨4, by decide, hok_j, rfl, by decide⟩) (xP_map hP [] rfl) (hD.sub [] (by decide +kernel) rfl) hS (Nat.le_of_ble_eq_true rfl) (Nat.le_of_ble_eq_true rfl) rfl dX11_node_98
      · -- k = 5
        have hP : va_P D vwCl [(h0, .inr (11, [.ref hr, .ref hg, .ref hgr, .ref ha, .ref hpo, .ref hly, .ref hse, .ref hc, .ref pa, .ref spr, .ref qm, .int (nI 0), .int (nI 0), .int (nI 0), .int dr, .int ver])), (hg, .inr (4, [.ref nd, .ref kd, .ref lk, .ref vw])), (nd, .inl (cs 0, 8, .inl (fun _ => nI 0))), (kd, .inl (cs 0, 8, .inl (fun _ => nI 0))), (qm, .inl (cs 0, 8, .inl (fun _ => nI 0))), (hr, .inr (7, [.int (nI 4), .int (nI 2), .int (nI 2), .int (nI 3), .int (nI 2), .int (nI 1), .ref sm, .int (nI 3), .ref ca]))] H := hP
        have hD : va_D A [(h0, .inr (11, [.ref hr, .ref hg, .ref hgr, .ref ha, .ref hpo, .ref hly, .ref hse, .ref hc, .ref pa, .ref spr, .ref qm, .int (nI 0), .int (nI 0), .int (nI 0), .int dr, .int ver])), (hg, .inr (4, [.ref nd, .ref kd, .ref lk, .ref vw])), (nd, .inl (cs 0, 8, .inl (fun _ => nI 0))), (kd, .inl (cs 0, 8, .inl (fun _ => nI 0))), (qm, .inl (cs 0, 8, .inl (fun _ => nI 0))), (hr, .inr (7, [.int (nI 4), .int (nI 2), .int (nI 2), .int (nI 3), .int (nI 2), .int (nI 1), .ref sm, .int (nI 3), .ref ca]))] := hD
        refine lv_iload_n hx hb dX11_node_24 rfl (lv_at hl 3 rfl) ?_
        refine lv_tableIn (tgt := 99) hx hb dX11_node_25 (by decide) (by decide) rfl (by decide) ?_
        refine lv_iload_n hx hb dX11_node_99 rfl (lv_at hl 0 rfl) ?_
        refine xi (wr := [(h0, .inr (11, [.ref hr, .ref hg, .ref hgr, .ref ha, .ref hpo, .ref hly, .ref hse, .ref hc, .ref pa, .ref spr, .ref qm, .int (nI 0), .int (nI 0), .int (nI 0), .int dr, .int ver])), (hg, .inr (4, [.ref nd, .ref kd, .ref lk, .ref vw])), (nd, .inl (cs 0, 8, .inl (fun _ => nI 0))), (kd, .inl (cs 0, 8, .inl (fun _ => nI 0))), (qm, .inl (cs 0, 8, .inl (fun _ => nI 0))), (hr, .inr (7, [.int (nI 4), .int (nI 2), .int (nI 2), .int (nI 3), .int (nI 2), .int (nI 1), .ref sm, .int (nI 3), .ref ca]))]) (xS (As := [.int (nI 0)]) (rest := []) C (c_X4_isDecided l D cs (nI 0)) kX11_196 hP hD [] rfl (by decide +kernel) ⟨Nat.le_of_ble_eq_true rfl, Nat.le_of_ble_eq_true rfl⟩ rfl hl.1 rfl (Nat.le_of_ble_eq_true rfl) dX11_node_100 ⟨Nat.le_of_ble_eq_true rfl, Nat.le_of_ble_eq_true rfl⟩) hP hD hS hA [] [0, 1, 2, 3, 4, 5] rfl rfl (by decide +kernel) (by decide +kernel) (fun r_14 u_15 H locs hw_r_14 hP hD hS => ?_)
        have hw_r_14 : r_14 = if (nI 0) &&& nI 268435456 = 0 then nI 0 else nI 1 := hw_r_14
        refine W.widen (k := 0) (n := 0) (Nat.le_of_ble_eq_true rfl) (Nat.le_of_ble_eq_true rfl) ?_
        have hP : va_P D vwCl [(h0, .inr (11, [.ref hr, .ref hg, .ref hgr, .ref ha, .ref hpo, .ref hly, .ref hse, .ref hc, .ref pa, .ref spr, .ref qm, .int (nI 0), .int (nI 0), .int (nI 0), .int dr, .int ver])), (hg, .inr (4, [.ref nd, .ref kd, .ref lk, .ref vw])), (nd, .inl (cs 0, 8, .inl (fun _ => nI 0))), (kd, .inl (cs 0, 8, .inl (fun _ => nI 0))), (qm, .inl (cs 0, 8, .inl (fun _ => nI 0))), (hr, .inr (7, [.int (nI 4), .int (nI 2), .int (nI 2), .int (nI 3), .int (nI 2), .int (nI 1), .ref sm, .int (nI 3), .ref ca]))] H := hP
        have hD : va_D A [(h0, .inr (11, [.ref hr, .ref hg, .ref hgr, .ref ha, .ref hpo, .ref hly, .ref hse, .ref hc, .ref pa, .ref spr, .ref qm, .int (nI 0), .int (nI 0), .int (nI 0), .int dr, .int ver])), (hg, .inr (4, [.ref nd, .ref kd, .ref lk, .ref vw])), (nd, .inl (cs 0, 8, .inl (fun _ => nI 0))), (kd, .inl (cs 0, 8, .inl (fun _ => nI 0))), (qm, .inl (cs 0, 8, .inl (fun _ => nI 0))), (hr, .inr (7, [.int (nI 4), .int (nI 2), .int (nI 2), .int (nI 3), .int (nI 2), .int (nI 1), .ref sm, .int (nI 3), .ref ca]))] := hD
        obtain rfl : r_14 = nI 0 := by rw [hw_r_14]; decide
        refine lv_if_eq (tgt := 110) hx hb dX11_node_103 (by decide) (fun _ => ?_) (fun c => absurd (by decide) c)
        refine lv_iconst (v := nI 0) hx hb dX11_node_110 (by decide) ?_
        exact xreti C () (Or.inl ⟨5, by decide, hok_j, rfl, by decide⟩) (xP_map hP [] rfl) (hD.sub [] (by decide +kernel) rfl) hS (Nat.le_of_ble_eq_true rfl) (Nat.le_of_ble_eq_true rfl) rfl dX11_node_111
      · -- k = 6
        have hP : va_P D vwCl [(h0, .inr (11, [.ref hr, .ref hg, .ref hgr, .ref ha, .ref hpo, .ref hly, .ref hse, .ref hc, .ref pa, .ref spr, .ref qm, .int (nI 0), .int (nI 0), .int (nI 0), .int dr, .int ver])), (hg, .inr (4, [.ref nd, .ref kd, .ref lk, .ref vw])), (nd, .inl (cs 0, 8, .inl (fun _ => nI 0))), (kd, .inl (cs 0, 8, .inl (fun _ => nI 0))), (qm, .inl (cs 0, 8, .inl (fun _ => nI 0))), (hr, .inr (7, [.int (nI 4), .int (nI 2), .int (nI 2), .int (nI 3), .int (nI 2), .int (nI 1), .ref sm, .int (nI 3), .ref ca]))] H := hP
        have hD : va_D A [(h0, .inr (11, [.ref hr, .ref hg, .ref hgr, .ref ha, .ref hpo, .ref hly, .ref hse, .ref hc, .ref pa, .ref spr, .ref qm, .int (nI 0), .int (nI 0), .int (nI 0), .int dr, .int ver])), (hg, .inr (4, [.ref nd, .ref kd, .ref lk, .ref vw])), (nd, .inl (cs 0, 8, .inl (fun _ => nI 0))), (kd, .inl (cs 0, 8, .inl (fun _ => nI 0))), (qm, .inl (cs 0, 8, .inl (fun _ => nI 0))), (hr, .inr (7, [.int (nI 4), .int (nI 2), .int (nI 2), .int (nI 3), .int (nI 2), .int (nI 1), .ref sm, .int (nI 3), .ref ca]))] := hD
        refine lv_iload_n hx hb dX11_node_24 rfl (lv_at hl 3 rfl) ?_
        refine lv_tableIn (tgt := 112) hx hb dX11_node_25 (by decide) (by decide) rfl (by decide) ?_
        refine lv_aload_n hx hb dX11_node_112 rfl (lv_at hl 1 rfl) ?_
        refine xget C hP 0 rfl rfl zuX11 1 (by decide) zw2_156 rfl dX11_node_113 ?_
        refine xget C hP 1 rfl rfl zuX4 1 (by decide) zw1_174 rfl dX11_node_116 ?_
        refine lv_iload_n hx hb dX11_node_119 rfl (lv_at hl 2 rfl) ?_
        refine xiald C hP 3 rfl j rfl (by omega) (by decide) dX11_node_120 ?_
        exact xreti C () (Or.inl ⟨6, by decide, hok_j, rfl, by decide⟩) (xP_map hP [] rfl) (hD.sub [] (by decide +kernel) rfl) hS (Nat.le_of_ble_eq_true rfl) (Nat.le_of_ble_eq_true rfl) rfl dX11_node_121
      · -- k = 7
        have hP : va_P D vwCl [(h0, .inr (11, [.ref hr, .ref hg, .ref hgr, .ref ha, .ref hpo, .ref hly, .ref hse, .ref hc, .ref pa, .ref spr, .ref qm, .int (nI 0), .int (nI 0), .int (nI 0), .int dr, .int ver])), (hg, .inr (4, [.ref nd, .ref kd, .ref lk, .ref vw])), (nd, .inl (cs 0, 8, .inl (fun _ => nI 0))), (kd, .inl (cs 0, 8, .inl (fun _ => nI 0))), (qm, .inl (cs 0, 8, .inl (fun _ => nI 0))), (hr, .inr (7, [.int (nI 4), .int (nI 2), .int (nI 2), .int (nI 3), .int (nI 2), .int (nI 1), .ref sm, .int (nI 3), .ref ca]))] H := hP
        have hD : va_D A [(h0, .inr (11, [.ref hr, .ref hg, .ref hgr, .ref ha, .ref hpo, .ref hly, .ref hse, .ref hc, .ref pa, .ref spr, .ref qm, .int (nI 0), .int (nI 0), .int (nI 0), .int dr, .int ver])), (hg, .inr (4, [.ref nd, .ref kd, .ref lk, .ref vw])), (nd, .inl (cs 0, 8, .inl (fun _ => nI 0))), (kd, .inl (cs 0, 8, .inl (fun _ => nI 0))), (qm, .inl (cs 0, 8, .inl (fun _ => nI 0))), (hr, .inr (7, [.int (nI 4), .int (nI 2), .int (nI 2), .int (nI 3), .int (nI 2), .int (nI 1), .ref sm, .int (nI 3), .ref ca]))] := hD
        refine lv_iload_n hx hb dX11_node_24 rfl (lv_at hl 3 rfl) ?_
        refine lv_tableIn (tgt := 122) hx hb dX11_node_25 (by decide) (by decide) rfl (by decide) ?_
        refine lv_aload_n hx hb dX11_node_122 rfl (lv_at hl 1 rfl) ?_
        refine xget C hP 0 rfl rfl zuX11 10 (by decide) zw2_165 rfl dX11_node_123 ?_
        refine lv_iload_n hx hb dX11_node_126 rfl (lv_at hl 2 rfl) ?_
        refine xiald C hP 4 rfl j rfl (by omega) (by decide) dX11_node_127 ?_
        exact xreti C () (Or.inl ⟨7, by decide, hok_j, rfl, by decide⟩) (xP_map hP [] rfl) (hD.sub [] (by decide +kernel) rfl) hS (Nat.le_of_ble_eq_true rfl) (Nat.le_of_ble_eq_true rfl) rfl dX11_node_128
    · -- split
      refine lv_istore_n (lv' := [(3, .int (nI 0)), (0, .ref h0), (1, .int (nI j)), (2, .int y)]) hx hb dX11_node_23 rfl hl (by decide) rfl (fun ls hl => ?_)
      refine lv_iload_n hx hb dX11_node_24 rfl (lv_at hl 3 rfl) ?_
      refine lv_tableOut (tgt := 129) hx hb dX11_node_25 hout (by decide) ?_
      refine lv_bipush (v := (-2)) hx hb dX11_node_129 (by decide) ?_
      exact xreti C () (Or.inr ⟨Or.inr hout, rfl⟩) (xP_map hP [] rfl) (hD.sub [] (by decide +kernel) rfl) hS (Nat.le_of_ble_eq_true rfl) (Nat.le_of_ble_eq_true rfl) rfl dX11_node_131
  · -- 8 f
    have hbad_j : ¬ okN 4 x := by rcases hw_r_1 with q | q; exact absurd (q.1.symm.trans c_3) (by decide); exact q.2
    refine lv_bipush (v := (-2)) hx hb dX11_node_11 (by decide) ?_
    exact xreti C () (Or.inr ⟨Or.inl hbad_j, rfl⟩) (xP_map hP [] rfl) (hD.sub [] (by decide +kernel) rfl) hS (Nat.le_of_ble_eq_true rfl) (Nat.le_of_ble_eq_true rfl) rfl dX11_node_13

set_option maxHeartbeats 4000000 in
set_option maxRecDepth 100000 in
theorem c_X4_honestBits_z (l : Launch) (D : va_G) (cs : Nat → ClassId) (hg nd kd lk vw : Nat) : xMet l D cs yX4_honestBits cX4_honestBits 4 (some .int) ({ frames := 0, cells := 0, slots := 0, locals := 0 } : Room) [.ref hg, .int (nI 4)] [(hg, .inr (4, [.ref nd, .ref kd, .ref lk, .ref vw])), (kd, .inl (cs 0, 8, .inl (fun _ => nI 0)))] (xQi D (fun (r : Int32) (_u : Unit) => r = nI 15) (fun (_u : Unit) => [(hg, .inr (4, [.ref nd, .ref kd, .ref lk, .ref vw])), (kd, .inl (cs 0, 8, .inl (fun _ => nI 0)))])) := by
  refine xMet.intro (by decide) (Nat.le_of_ble_eq_true rfl) ?_
  intro p e s m args below meth c A ls C hP hD hS hl
  have hx := C.1
  have hb := C.2.1
  have hz := C.2.2.2.2.1
  have hown := C.2.2.2.1
  have hA := C.2.2.2.2.2.2.2.2.2
  have hAO := C.2.2.2.2.2.2.2.2.1.2.2
  have hl : lv_has ls 4 [(0, .ref hg), (1, .int (nI 4))] := hl
  obtain ⟨H, hH⟩ : ∃ H, H = s.heap := ⟨_, rfl⟩
  have hP : va_P D vwCl [(hg, .inr (4, [.ref nd, .ref kd, .ref lk, .ref vw])), (kd, .inl (cs 0, 8, .inl (fun _ => nI 0)))] H := by rw [hH]; exact hP
  have hS : va_S A s.heap H [] := by rw [hH]; exact hS
  obtain ⟨locs, hlocs⟩ : ∃ z : List Loc, z = [] := ⟨_, rfl⟩
  rw [← hlocs] at hS
  suffices hW : W p l e ({ frames := 0, cells := 0, slots := 0, locals := 0 } : Room) s m args below meth c H locs 0 0 (MQ below ((xQi D (fun (r : Int32) (_u : Unit) => r = nI 15) (fun (_u : Unit) => [(hg, .inr (4, [.ref nd, .ref kd, .ref lk, .ref vw])), (kd, .inl (cs 0, 8, .inl (fun _ => nI 0)))])) A) args s 0 0 A) (F0 m 0 ls []) by rw [hlocs, hH] at hW; exact hW
  refine lv_iconst (v := nI 0) hx hb dX4_honestBits_0 (by decide) ?_
  refine lv_istore_n (lv' := [(2, .int (nI 0)), (0, .ref hg), (1, .int (nI 4))]) hx hb dX4_honestBits_1 rfl hl (by decide) rfl (fun ls hl => ?_)
  refine lv_iconst (v := nI 0) hx hb dX4_honestBits_2 (by decide) ?_
  refine lv_istore_n (lv' := [(3, .int (nI 0)), (2, .int (nI 0)), (0, .ref hg), (1, .int (nI 4))]) hx hb dX4_honestBits_3 rfl hl (by decide) rfl (fun ls hl => ?_)
  refine lv_iload_n hx hb dX4_honestBits_4 rfl (lv_at hl 0 rfl) ?_
  refine lv_iload_n hx hb dX4_honestBits_5 rfl (lv_at hl 3 rfl) ?_
  refine lv_icmp_ge (tgt := 34) hx hb dX4_honestBits_6 (by decide) (fun c => absurd c (by decide)) (fun _ => ?_)
  refine lv_iload_n hx hb dX4_honestBits_9 rfl (lv_at hl 1 rfl) ?_
  refine lv_aload_n hx hb dX4_honestBits_10 rfl (lv_at hl 2 rfl) ?_
  refine xget C hP 0 rfl rfl zuX4 1 (by decide) zw1_171 rfl dX4_honestBits_11 ?_
  refine lv_iload_n hx hb dX4_honestBits_14 rfl (lv_at hl 0 rfl) ?_
  refine xiald C hP 1 rfl 0 rfl (by decide) (by decide) dX4_honestBits_15 ?_
  refine lv_if_ne (tgt := 25) hx hb dX4_honestBits_16 (by decide) (fun c => absurd (by decide) c) (fun _ => ?_)
  refine lv_iconst (v := nI 1) hx hb dX4_honestBits_19 (by decide) ?_
  refine lv_iload_n hx hb dX4_honestBits_20 rfl (lv_at hl 0 rfl) ?_
  refine lv_ishl hx hb dX4_honestBits_21 ?_
  refine lv_topi (nm_r (e' := nI 1) (by decide) ?_)
  refine lv_goto (tgt := 26) hx hb dX4_honestBits_22 (by decide) ?_
  refine lv_ior hx hb dX4_honestBits_26 ?_
  refine lv_topi (nm_r (e' := nI 1) (by decide) ?_)
  refine lv_istore_n (lv' := [(2, .int (nI 1)), (3, .int (nI 0)), (0, .ref hg), (1, .int (nI 4))]) hx hb dX4_honestBits_27 rfl hl (by decide) rfl (fun ls hl => ?_)
  refine lv_iinc (v := nI 1) (lv' := [(3, .int (nI 1)), (2, .int (nI 1)), (0, .ref hg), (1, .int (nI 4))]) hx hb dX4_honestBits_28 hl (k := 1) rfl (by decide) (by decide) rfl (fun ls hl => ?_)
  refine lv_goto (tgt := 4) hx hb dX4_honestBits_31 (by decide) ?_
  refine lv_iload_n hx hb dX4_honestBits_4 rfl (lv_at hl 0 rfl) ?_
  refine lv_iload_n hx hb dX4_honestBits_5 rfl (lv_at hl 3 rfl) ?_
  refine lv_icmp_ge (tgt := 34) hx hb dX4_honestBits_6 (by decide) (fun c => absurd c (by decide)) (fun _ => ?_)
  refine lv_iload_n hx hb dX4_honestBits_9 rfl (lv_at hl 1 rfl) ?_
  refine lv_aload_n hx hb dX4_honestBits_10 rfl (lv_at hl 2 rfl) ?_
  refine xget C hP 0 rfl rfl zuX4 1 (by decide) zw1_171 rfl dX4_honestBits_11 ?_
  refine lv_iload_n hx hb dX4_honestBits_14 rfl (lv_at hl 0 rfl) ?_
  refine xiald C hP 1 rfl 1 rfl (by decide) (by decide) dX4_honestBits_15 ?_
  refine lv_if_ne (tgt := 25) hx hb dX4_honestBits_16 (by decide) (fun c => absurd (by decide) c) (fun _ => ?_)
  refine lv_iconst (v := nI 1) hx hb dX4_honestBits_19 (by decide) ?_
  refine lv_iload_n hx hb dX4_honestBits_20 rfl (lv_at hl 0 rfl) ?_
  refine lv_ishl hx hb dX4_honestBits_21 ?_
  refine lv_topi (nm_r (e' := nI 2) (by decide) ?_)
  refine lv_goto (tgt := 26) hx hb dX4_honestBits_22 (by decide) ?_
  refine lv_ior hx hb dX4_honestBits_26 ?_
  refine lv_topi (nm_r (e' := nI 3) (by decide) ?_)
  refine lv_istore_n (lv' := [(2, .int (nI 3)), (3, .int (nI 1)), (0, .ref hg), (1, .int (nI 4))]) hx hb dX4_honestBits_27 rfl hl (by decide) rfl (fun ls hl => ?_)
  refine lv_iinc (v := nI 2) (lv' := [(3, .int (nI 2)), (2, .int (nI 3)), (0, .ref hg), (1, .int (nI 4))]) hx hb dX4_honestBits_28 hl (k := 1) rfl (by decide) (by decide) rfl (fun ls hl => ?_)
  refine lv_goto (tgt := 4) hx hb dX4_honestBits_31 (by decide) ?_
  refine lv_iload_n hx hb dX4_honestBits_4 rfl (lv_at hl 0 rfl) ?_
  refine lv_iload_n hx hb dX4_honestBits_5 rfl (lv_at hl 3 rfl) ?_
  refine lv_icmp_ge (tgt := 34) hx hb dX4_honestBits_6 (by decide) (fun c => absurd c (by decide)) (fun _ => ?_)
  refine lv_iload_n hx hb dX4_honestBits_9 rfl (lv_at hl 1 rfl) ?_
  refine lv_aload_n hx hb dX4_honestBits_10 rfl (lv_at hl 2 rfl) ?_
  refine xget C hP 0 rfl rfl zuX4 1 (by decide) zw1_171 rfl dX4_honestBits_11 ?_
  refine lv_iload_n hx hb dX4_honestBits_14 rfl (lv_at hl 0 rfl) ?_
  refine xiald C hP 1 rfl 2 rfl (by decide) (by decide) dX4_honestBits_15 ?_
  refine lv_if_ne (tgt := 25) hx hb dX4_honestBits_16 (by decide) (fun c => absurd (by decide) c) (fun _ => ?_)
  refine lv_iconst (v := nI 1) hx hb dX4_honestBits_19 (by decide) ?_
  refine lv_iload_n hx hb dX4_honestBits_20 rfl (lv_at hl 0 rfl) ?_
  refine lv_ishl hx hb dX4_honestBits_21 ?_
  refine lv_topi (nm_r (e' := nI 4) (by decide) ?_)
  refine lv_goto (tgt := 26) hx hb dX4_honestBits_22 (by decide) ?_
  refine lv_ior hx hb dX4_honestBits_26 ?_
  refine lv_topi (nm_r (e' := nI 7) (by decide) ?_)
  refine lv_istore_n (lv' := [(2, .int (nI 7)), (3, .int (nI 2)), (0, .ref hg), (1, .int (nI 4))]) hx hb dX4_honestBits_27 rfl hl (by decide) rfl (fun ls hl => ?_)
  refine lv_iinc (v := nI 3) (lv' := [(3, .int (nI 3)), (2, .int (nI 7)), (0, .ref hg), (1, .int (nI 4))]) hx hb dX4_honestBits_28 hl (k := 1) rfl (by decide) (by decide) rfl (fun ls hl => ?_)
  refine lv_goto (tgt := 4) hx hb dX4_honestBits_31 (by decide) ?_
  refine lv_iload_n hx hb dX4_honestBits_4 rfl (lv_at hl 0 rfl) ?_
  refine lv_iload_n hx hb dX4_honestBits_5 rfl (lv_at hl 3 rfl) ?_
  refine lv_icmp_ge (tgt := 34) hx hb dX4_honestBits_6 (by decide) (fun c => absurd c (by decide)) (fun _ => ?_)
  refine lv_iload_n hx hb dX4_honestBits_9 rfl (lv_at hl 1 rfl) ?_
  refine lv_aload_n hx hb dX4_honestBits_10 rfl (lv_at hl 2 rfl) ?_
  refine xget C hP 0 rfl rfl zuX4 1 (by decide) zw1_171 rfl dX4_honestBits_11 ?_
  refine lv_iload_n hx hb dX4_honestBits_14 rfl (lv_at hl 0 rfl) ?_
  refine xiald C hP 1 rfl 3 rfl (by decide) (by decide) dX4_honestBits_15 ?_
  refine lv_if_ne (tgt := 25) hx hb dX4_honestBits_16 (by decide) (fun c => absurd (by decide) c) (fun _ => ?_)
  refine lv_iconst (v := nI 1) hx hb dX4_honestBits_19 (by decide) ?_
  refine lv_iload_n hx hb dX4_honestBits_20 rfl (lv_at hl 0 rfl) ?_
  refine lv_ishl hx hb dX4_honestBits_21 ?_
  refine lv_topi (nm_r (e' := nI 8) (by decide) ?_)
  refine lv_goto (tgt := 26) hx hb dX4_honestBits_22 (by decide) ?_
  refine lv_ior hx hb dX4_honestBits_26 ?_
  refine lv_topi (nm_r (e' := nI 15) (by decide) ?_)
  refine lv_istore_n (lv' := [(2, .int (nI 15)), (3, .int (nI 3)), (0, .ref hg), (1, .int (nI 4))]) hx hb dX4_honestBits_27 rfl hl (by decide) rfl (fun ls hl => ?_)
  refine lv_iinc (v := nI 4) (lv' := [(3, .int (nI 4)), (2, .int (nI 15)), (0, .ref hg), (1, .int (nI 4))]) hx hb dX4_honestBits_28 hl (k := 1) rfl (by decide) (by decide) rfl (fun ls hl => ?_)
  refine lv_goto (tgt := 4) hx hb dX4_honestBits_31 (by decide) ?_
  refine lv_iload_n hx hb dX4_honestBits_4 rfl (lv_at hl 0 rfl) ?_
  refine lv_iload_n hx hb dX4_honestBits_5 rfl (lv_at hl 3 rfl) ?_
  refine lv_icmp_ge (tgt := 34) hx hb dX4_honestBits_6 (by decide) (fun _ => ?_) (fun c => absurd (by decide) c)
  refine lv_iload_n hx hb dX4_honestBits_34 rfl (lv_at hl 1 rfl) ?_
  exact xreti C () rfl hP hD hS (Nat.le_of_ble_eq_true rfl) (Nat.le_of_ble_eq_true rfl) rfl dX4_honestBits_35

set_option maxHeartbeats 4000000 in
set_option maxRecDepth 100000 in
theorem c_X4_decidedBits_z (l : Launch) (D : va_G) (cs : Nat → ClassId) (hg nd kd lk vw : Nat) : xMet l D cs yX4_decidedBits cX4_decidedBits 4 (some .int) ({ frames := 1, cells := 0, slots := 0, locals := 20 } : Room) [.ref hg, .int (nI 4)] [(hg, .inr (4, [.ref nd, .ref kd, .ref lk, .ref vw])), (nd, .inl (cs 0, 8, .inl (fun _ => nI 0)))] (xQi D (fun (r : Int32) (_u : Unit) => r = nI 0) (fun (_u : Unit) => [(hg, .inr (4, [.ref nd, .ref kd, .ref lk, .ref vw])), (nd, .inl (cs 0, 8, .inl (fun _ => nI 0)))])) := by
  refine xMet.intro (by decide) (Nat.le_of_ble_eq_true rfl) ?_
  intro p e s m args below meth c A ls C hP hD hS hl
  have hx := C.1
  have hb := C.2.1
  have hz := C.2.2.2.2.1
  have hown := C.2.2.2.1
  have hA := C.2.2.2.2.2.2.2.2.2
  have hAO := C.2.2.2.2.2.2.2.2.1.2.2
  have hl : lv_has ls 4 [(0, .ref hg), (1, .int (nI 4))] := hl
  obtain ⟨H, hH⟩ : ∃ H, H = s.heap := ⟨_, rfl⟩
  have hP : va_P D vwCl [(hg, .inr (4, [.ref nd, .ref kd, .ref lk, .ref vw])), (nd, .inl (cs 0, 8, .inl (fun _ => nI 0)))] H := by rw [hH]; exact hP
  have hS : va_S A s.heap H [] := by rw [hH]; exact hS
  obtain ⟨locs, hlocs⟩ : ∃ z : List Loc, z = [] := ⟨_, rfl⟩
  rw [← hlocs] at hS
  suffices hW : W p l e ({ frames := 1, cells := 0, slots := 0, locals := 20 } : Room) s m args below meth c H locs 0 0 (MQ below ((xQi D (fun (r : Int32) (_u : Unit) => r = nI 0) (fun (_u : Unit) => [(hg, .inr (4, [.ref nd, .ref kd, .ref lk, .ref vw])), (nd, .inl (cs 0, 8, .inl (fun _ => nI 0)))])) A) args s 0 0 A) (F0 m 0 ls []) by rw [hlocs, hH] at hW; exact hW
  refine lv_iconst (v := nI 0) hx hb dX4_decidedBits_0 (by decide) ?_
  refine lv_istore_n (lv' := [(2, .int (nI 0)), (0, .ref hg), (1, .int (nI 4))]) hx hb dX4_decidedBits_1 rfl hl (by decide) rfl (fun ls hl => ?_)
  refine lv_iconst (v := nI 0) hx hb dX4_decidedBits_2 (by decide) ?_
  refine lv_istore_n (lv' := [(3, .int (nI 0)), (2, .int (nI 0)), (0, .ref hg), (1, .int (nI 4))]) hx hb dX4_decidedBits_3 rfl hl (by decide) rfl (fun ls hl => ?_)
  refine lv_iload_n hx hb dX4_decidedBits_4 rfl (lv_at hl 0 rfl) ?_
  refine lv_iload_n hx hb dX4_decidedBits_5 rfl (lv_at hl 3 rfl) ?_
  refine lv_icmp_ge (tgt := 37) hx hb dX4_decidedBits_6 (by decide) (fun c => absurd c (by decide)) (fun _ => ?_)
  refine lv_iload_n hx hb dX4_decidedBits_9 rfl (lv_at hl 1 rfl) ?_
  refine lv_aload_n hx hb dX4_decidedBits_10 rfl (lv_at hl 2 rfl) ?_
  refine xget C hP 0 rfl rfl zuX4 0 (by decide) zw1_169 rfl dX4_decidedBits_11 ?_
  refine lv_iload_n hx hb dX4_decidedBits_14 rfl (lv_at hl 0 rfl) ?_
  refine xiald C hP 1 rfl 0 rfl (by decide) (by decide) dX4_decidedBits_15 ?_
  refine xi (wr := [(hg, .inr (4, [.ref nd, .ref kd, .ref lk, .ref vw])), (nd, .inl (cs 0, 8, .inl (fun _ => nI 0)))]) (xS (As := [.int (nI 0)]) (rest := [.int (nI 0)]) C (c_X4_isDecided l D cs (nI 0)) kX4_53 hP hD [] rfl (by decide +kernel) ⟨Nat.le_of_ble_eq_true rfl, Nat.le_of_ble_eq_true rfl⟩ rfl hl.1 rfl (Nat.le_of_ble_eq_true rfl) dX4_decidedBits_16 ⟨Nat.le_of_ble_eq_true rfl, Nat.le_of_ble_eq_true rfl⟩) hP hD hS hA [] [0, 1] rfl rfl (by decide +kernel) (by decide +kernel) (fun r_1 u_2 H locs hw_r_1 hP hD hS => ?_)
  have hw_r_1 : r_1 = if (nI 0) &&& nI 268435456 = 0 then nI 0 else nI 1 := hw_r_1
  refine W.widen (k := 0) (n := 0) (Nat.le_of_ble_eq_true rfl) (Nat.le_of_ble_eq_true rfl) ?_
  have hP : va_P D vwCl [(hg, .inr (4, [.ref nd, .ref kd, .ref lk, .ref vw])), (nd, .inl (cs 0, 8, .inl (fun _ => nI 0)))] H := hP
  have hD : va_D A [(hg, .inr (4, [.ref nd, .ref kd, .ref lk, .ref vw])), (nd, .inl (cs 0, 8, .inl (fun _ => nI 0)))] := hD
  obtain rfl : r_1 = nI 0 := by rw [hw_r_1]; decide
  refine lv_if_eq (tgt := 28) hx hb dX4_decidedBits_19 (by decide) (fun _ => ?_) (fun c => absurd (by decide) c)
  refine lv_iconst (v := nI 0) hx hb dX4_decidedBits_28 (by decide) ?_
  refine lv_ior hx hb dX4_decidedBits_29 ?_
  refine lv_topi (nm_r (e' := nI 0) (by decide) ?_)
  refine lv_istore_n (lv' := [(2, .int (nI 0)), (3, .int (nI 0)), (0, .ref hg), (1, .int (nI 4))]) hx hb dX4_decidedBits_30 rfl hl (by decide) rfl (fun ls hl => ?_)
  refine lv_iinc (v := nI 1) (lv' := [(3, .int (nI 1)), (2, .int (nI 0)), (0, .ref hg), (1, .int (nI 4))]) hx hb dX4_decidedBits_31 hl (k := 1) rfl (by decide) (by decide) rfl (fun ls hl => ?_)
  refine lv_goto (tgt := 4) hx hb dX4_decidedBits_34 (by decide) ?_
  refine lv_iload_n hx hb dX4_decidedBits_4 rfl (lv_at hl 0 rfl) ?_
  refine lv_iload_n hx hb dX4_decidedBits_5 rfl (lv_at hl 3 rfl) ?_
  refine lv_icmp_ge (tgt := 37) hx hb dX4_decidedBits_6 (by decide) (fun c => absurd c (by decide)) (fun _ => ?_)
  refine lv_iload_n hx hb dX4_decidedBits_9 rfl (lv_at hl 1 rfl) ?_
  refine lv_aload_n hx hb dX4_decidedBits_10 rfl (lv_at hl 2 rfl) ?_
  refine xget C hP 0 rfl rfl zuX4 0 (by decide) zw1_169 rfl dX4_decidedBits_11 ?_
  refine lv_iload_n hx hb dX4_decidedBits_14 rfl (lv_at hl 0 rfl) ?_
  refine xiald C hP 1 rfl 1 rfl (by decide) (by decide) dX4_decidedBits_15 ?_
  refine xi (wr := [(hg, .inr (4, [.ref nd, .ref kd, .ref lk, .ref vw])), (nd, .inl (cs 0, 8, .inl (fun _ => nI 0)))]) (xS (As := [.int (nI 0)]) (rest := [.int (nI 0)]) C (c_X4_isDecided l D cs (nI 0)) kX4_53 hP hD [] rfl (by decide +kernel) ⟨Nat.le_of_ble_eq_true rfl, Nat.le_of_ble_eq_true rfl⟩ rfl hl.1 rfl (Nat.le_of_ble_eq_true rfl) dX4_decidedBits_16 ⟨Nat.le_of_ble_eq_true rfl, Nat.le_of_ble_eq_true rfl⟩) hP hD hS hA [] [0, 1] rfl rfl (by decide +kernel) (by decide +kernel) (fun r_3 u_4 H locs hw_r_3 hP hD hS => ?_)
  have hw_r_3 : r_3 = if (nI 0) &&& nI 268435456 = 0 then nI 0 else nI 1 := hw_r_3
  refine W.widen (k := 0) (n := 0) (Nat.le_of_ble_eq_true rfl) (Nat.le_of_ble_eq_true rfl) ?_
  have hP : va_P D vwCl [(hg, .inr (4, [.ref nd, .ref kd, .ref lk, .ref vw])), (nd, .inl (cs 0, 8, .inl (fun _ => nI 0)))] H := hP
  have hD : va_D A [(hg, .inr (4, [.ref nd, .ref kd, .ref lk, .ref vw])), (nd, .inl (cs 0, 8, .inl (fun _ => nI 0)))] := hD
  obtain rfl : r_3 = nI 0 := by rw [hw_r_3]; decide
  refine lv_if_eq (tgt := 28) hx hb dX4_decidedBits_19 (by decide) (fun _ => ?_) (fun c => absurd (by decide) c)
  refine lv_iconst (v := nI 0) hx hb dX4_decidedBits_28 (by decide) ?_
  refine lv_ior hx hb dX4_decidedBits_29 ?_
  refine lv_topi (nm_r (e' := nI 0) (by decide) ?_)
  refine lv_istore_n (lv' := [(2, .int (nI 0)), (3, .int (nI 1)), (0, .ref hg), (1, .int (nI 4))]) hx hb dX4_decidedBits_30 rfl hl (by decide) rfl (fun ls hl => ?_)
  refine lv_iinc (v := nI 2) (lv' := [(3, .int (nI 2)), (2, .int (nI 0)), (0, .ref hg), (1, .int (nI 4))]) hx hb dX4_decidedBits_31 hl (k := 1) rfl (by decide) (by decide) rfl (fun ls hl => ?_)
  refine lv_goto (tgt := 4) hx hb dX4_decidedBits_34 (by decide) ?_
  refine lv_iload_n hx hb dX4_decidedBits_4 rfl (lv_at hl 0 rfl) ?_
  refine lv_iload_n hx hb dX4_decidedBits_5 rfl (lv_at hl 3 rfl) ?_
  refine lv_icmp_ge (tgt := 37) hx hb dX4_decidedBits_6 (by decide) (fun c => absurd c (by decide)) (fun _ => ?_)
  refine lv_iload_n hx hb dX4_decidedBits_9 rfl (lv_at hl 1 rfl) ?_
  refine lv_aload_n hx hb dX4_decidedBits_10 rfl (lv_at hl 2 rfl) ?_
  refine xget C hP 0 rfl rfl zuX4 0 (by decide) zw1_169 rfl dX4_decidedBits_11 ?_
  refine lv_iload_n hx hb dX4_decidedBits_14 rfl (lv_at hl 0 rfl) ?_
  refine xiald C hP 1 rfl 2 rfl (by decide) (by decide) dX4_decidedBits_15 ?_
  refine xi (wr := [(hg, .inr (4, [.ref nd, .ref kd, .ref lk, .ref vw])), (nd, .inl (cs 0, 8, .inl (fun _ => nI 0)))]) (xS (As := [.int (nI 0)]) (rest := [.int (nI 0)]) C (c_X4_isDecided l D cs (nI 0)) kX4_53 hP hD [] rfl (by decide +kernel) ⟨Nat.le_of_ble_eq_true rfl, Nat.le_of_ble_eq_true rfl⟩ rfl hl.1 rfl (Nat.le_of_ble_eq_true rfl) dX4_decidedBits_16 ⟨Nat.le_of_ble_eq_true rfl, Nat.le_of_ble_eq_true rfl⟩) hP hD hS hA [] [0, 1] rfl rfl (by decide +kernel) (by decide +kernel) (fun r_5 u_6 H locs hw_r_5 hP hD hS => ?_)
  have hw_r_5 : r_5 = if (nI 0) &&& nI 268435456 = 0 then nI 0 else nI 1 := hw_r_5
  refine W.widen (k := 0) (n := 0) (Nat.le_of_ble_eq_true rfl) (Nat.le_of_ble_eq_true rfl) ?_
  have hP : va_P D vwCl [(hg, .inr (4, [.ref nd, .ref kd, .ref lk, .ref vw])), (nd, .inl (cs 0, 8, .inl (fun _ => nI 0)))] H := hP
  have hD : va_D A [(hg, .inr (4, [.ref nd, .ref kd, .ref lk, .ref vw])), (nd, .inl (cs 0, 8, .inl (fun _ => nI 0)))] := hD
  obtain rfl : r_5 = nI 0 := by rw [hw_r_5]; decide
  refine lv_if_eq (tgt := 28) hx hb dX4_decidedBits_19 (by decide) (fun _ => ?_) (fun c => absurd (by decide) c)
  refine lv_iconst (v := nI 0) hx hb dX4_decidedBits_28 (by decide) ?_
  refine lv_ior hx hb dX4_decidedBits_29 ?_
  refine lv_topi (nm_r (e' := nI 0) (by decide) ?_)
  refine lv_istore_n (lv' := [(2, .int (nI 0)), (3, .int (nI 2)), (0, .ref hg), (1, .int (nI 4))]) hx hb dX4_decidedBits_30 rfl hl (by decide) rfl (fun ls hl => ?_)
  refine lv_iinc (v := nI 3) (lv' := [(3, .int (nI 3)), (2, .int (nI 0)), (0, .ref hg), (1, .int (nI 4))]) hx hb dX4_decidedBits_31 hl (k := 1) rfl (by decide) (by decide) rfl (fun ls hl => ?_)
  refine lv_goto (tgt := 4) hx hb dX4_decidedBits_34 (by decide) ?_
  refine lv_iload_n hx hb dX4_decidedBits_4 rfl (lv_at hl 0 rfl) ?_
  refine lv_iload_n hx hb dX4_decidedBits_5 rfl (lv_at hl 3 rfl) ?_
  refine lv_icmp_ge (tgt := 37) hx hb dX4_decidedBits_6 (by decide) (fun c => absurd c (by decide)) (fun _ => ?_)
  refine lv_iload_n hx hb dX4_decidedBits_9 rfl (lv_at hl 1 rfl) ?_
  refine lv_aload_n hx hb dX4_decidedBits_10 rfl (lv_at hl 2 rfl) ?_
  refine xget C hP 0 rfl rfl zuX4 0 (by decide) zw1_169 rfl dX4_decidedBits_11 ?_
  refine lv_iload_n hx hb dX4_decidedBits_14 rfl (lv_at hl 0 rfl) ?_
  refine xiald C hP 1 rfl 3 rfl (by decide) (by decide) dX4_decidedBits_15 ?_
  refine xi (wr := [(hg, .inr (4, [.ref nd, .ref kd, .ref lk, .ref vw])), (nd, .inl (cs 0, 8, .inl (fun _ => nI 0)))]) (xS (As := [.int (nI 0)]) (rest := [.int (nI 0)]) C (c_X4_isDecided l D cs (nI 0)) kX4_53 hP hD [] rfl (by decide +kernel) ⟨Nat.le_of_ble_eq_true rfl, Nat.le_of_ble_eq_true rfl⟩ rfl hl.1 rfl (Nat.le_of_ble_eq_true rfl) dX4_decidedBits_16 ⟨Nat.le_of_ble_eq_true rfl, Nat.le_of_ble_eq_true rfl⟩) hP hD hS hA [] [0, 1] rfl rfl (by decide +kernel) (by decide +kernel) (fun r_7 u_8 H locs hw_r_7 hP hD hS => ?_)
  have hw_r_7 : r_7 = if (nI 0) &&& nI 268435456 = 0 then nI 0 else nI 1 := hw_r_7
  refine W.widen (k := 0) (n := 0) (Nat.le_of_ble_eq_true rfl) (Nat.le_of_ble_eq_true rfl) ?_
  have hP : va_P D vwCl [(hg, .inr (4, [.ref nd, .ref kd, .ref lk, .ref vw])), (nd, .inl (cs 0, 8, .inl (fun _ => nI 0)))] H := hP
  have hD : va_D A [(hg, .inr (4, [.ref nd, .ref kd, .ref lk, .ref vw])), (nd, .inl (cs 0, 8, .inl (fun _ => nI 0)))] := hD
  obtain rfl : r_7 = nI 0 := by rw [hw_r_7]; decide
  refine lv_if_eq (tgt := 28) hx hb dX4_decidedBits_19 (by decide) (fun _ => ?_) (fun c => absurd (by decide) c)
  refine lv_iconst (v := nI 0) hx hb dX4_decidedBits_28 (by decide) ?_
  refine lv_ior hx hb dX4_decidedBits_29 ?_
  refine lv_topi (nm_r (e' := nI 0) (by decide) ?_)
  refine lv_istore_n (lv' := [(2, .int (nI 0)), (3, .int (nI 3)), (0, .ref hg), (1, .int (nI 4))]) hx hb dX4_decidedBits_30 rfl hl (by decide) rfl (fun ls hl => ?_)
  refine lv_iinc (v := nI 4) (lv' := [(3, .int (nI 4)), (2, .int (nI 0)), (0, .ref hg), (1, .int (nI 4))]) hx hb dX4_decidedBits_31 hl (k := 1) rfl (by decide) (by decide) rfl (fun ls hl => ?_)
  refine lv_goto (tgt := 4) hx hb dX4_decidedBits_34 (by decide) ?_
  refine lv_iload_n hx hb dX4_decidedBits_4 rfl (lv_at hl 0 rfl) ?_
  refine lv_iload_n hx hb dX4_decidedBits_5 rfl (lv_at hl 3 rfl) ?_
  refine lv_icmp_ge (tgt := 37) hx hb dX4_decidedBits_6 (by decide) (fun _ => ?_) (fun c => absurd (by decide) c)
  refine lv_iload_n hx hb dX4_decidedBits_37 rfl (lv_at hl 1 rfl) ?_
  exact xreti C () rfl hP hD hS (Nat.le_of_ble_eq_true rfl) (Nat.le_of_ble_eq_true rfl) rfl dX4_decidedBits_38

set_option maxHeartbeats 4000000 in
set_option maxRecDepth 100000 in
theorem c_X4_unlinkedPairs_z (l : Launch) (D : va_G) (cs : Nat → ClassId) (hg nd kd lk vw : Nat) : xMet l D cs yX4_unlinkedPairs cX4_unlinkedPairs 5 (some .int) ({ frames := 1, cells := 0, slots := 0, locals := 22 } : Room) [.ref hg, .int (nI 4)] [(hg, .inr (4, [.ref nd, .ref kd, .ref lk, .ref vw])), (lk, .inl (cs 0, 8, .inl (fun _ => -1)))] (xQi D (fun (r : Int32) (_u : Unit) => r = nI 0) (fun (_u : Unit) => [(hg, .inr (4, [.ref nd, .ref kd, .ref lk, .ref vw])), (lk, .inl (cs 0, 8, .inl (fun _ => -1)))])) := by
  refine xMet.intro (by decide) (Nat.le_of_ble_eq_true rfl) ?_
  intro p e s m args below meth c A ls C hP hD hS hl
  have hx := C.1
  have hb := C.2.1
  have hz := C.2.2.2.2.1
  have hown := C.2.2.2.1
  have hA := C.2.2.2.2.2.2.2.2.2
  have hAO := C.2.2.2.2.2.2.2.2.1.2.2
  have hl : lv_has ls 5 [(0, .ref hg), (1, .int (nI 4))] := hl
  obtain ⟨H, hH⟩ : ∃ H, H = s.heap := ⟨_, rfl⟩
  have hP : va_P D vwCl [(hg, .inr (4, [.ref nd, .ref kd, .ref lk, .ref vw])), (lk, .inl (cs 0, 8, .inl (fun _ => -1)))] H := by rw [hH]; exact hP
  have hS : va_S A s.heap H [] := by rw [hH]; exact hS
  obtain ⟨locs, hlocs⟩ : ∃ z : List Loc, z = [] := ⟨_, rfl⟩
  rw [← hlocs] at hS
  suffices hW : W p l e ({ frames := 1, cells := 0, slots := 0, locals := 22 } : Room) s m args below meth c H locs 0 0 (MQ below ((xQi D (fun (r : Int32) (_u : Unit) => r = nI 0) (fun (_u : Unit) => [(hg, .inr (4, [.ref nd, .ref kd, .ref lk, .ref vw])), (lk, .inl (cs 0, 8, .inl (fun _ => -1)))])) A) args s 0 0 A) (F0 m 0 ls []) by rw [hlocs, hH] at hW; exact hW
  refine lv_iconst (v := nI 0) hx hb dX4_unlinkedPairs_0 (by decide) ?_
  refine lv_istore_n (lv' := [(2, .int (nI 0)), (0, .ref hg), (1, .int (nI 4))]) hx hb dX4_unlinkedPairs_1 rfl hl (by decide) rfl (fun ls hl => ?_)
  refine lv_iconst (v := nI 0) hx hb dX4_unlinkedPairs_2 (by decide) ?_
  refine lv_istore_n (lv' := [(3, .int (nI 0)), (2, .int (nI 0)), (0, .ref hg), (1, .int (nI 4))]) hx hb dX4_unlinkedPairs_3 rfl hl (by decide) rfl (fun ls hl => ?_)
  refine lv_iload_n hx hb dX4_unlinkedPairs_4 rfl (lv_at hl 0 rfl) ?_
  refine lv_iload_n hx hb dX4_unlinkedPairs_5 rfl (lv_at hl 3 rfl) ?_
  refine lv_icmp_ge (tgt := 50) hx hb dX4_unlinkedPairs_6 (by decide) (fun c => absurd c (by decide)) (fun _ => ?_)
  refine lv_iload_n hx hb dX4_unlinkedPairs_9 rfl (lv_at hl 0 rfl) ?_
  refine lv_iconst (v := nI 1) hx hb dX4_unlinkedPairs_10 (by decide) ?_
  refine lv_iadd hx hb dX4_unlinkedPairs_11 ?_
  refine lv_topi (nm_r (e' := nI 1) (by decide) ?_)
  refine lv_istore (lv' := [(4, .int (nI 1)), (3, .int (nI 0)), (2, .int (nI 0)), (0, .ref hg), (1, .int (nI 4))]) hx hb dX4_unlinkedPairs_12 hl (by decide) rfl (fun ls hl => ?_)
  refine lv_iload hx hb dX4_unlinkedPairs_14 (lv_at hl 0 rfl) ?_
  refine lv_iload_n hx hb dX4_unlinkedPairs_16 rfl (lv_at hl 4 rfl) ?_
  refine lv_icmp_ge (tgt := 44) hx hb dX4_unlinkedPairs_17 (by decide) (fun c => absurd c (by decide)) (fun _ => ?_)
  refine lv_iload_n hx hb dX4_unlinkedPairs_20 rfl (lv_at hl 2 rfl) ?_
  refine lv_aload_n hx hb dX4_unlinkedPairs_21 rfl (lv_at hl 3 rfl) ?_
  refine lv_iload_n hx hb dX4_unlinkedPairs_22 rfl (lv_at hl 1 rfl) ?_
  refine lv_iload hx hb dX4_unlinkedPairs_23 (lv_at hl 0 rfl) ?_
  refine xi (wr := []) (xV (As := [.int (nI 0), .int (nI 1)]) (rest := [.int (nI 0)]) C (c_X4_isLinked l D cs hg nd kd lk vw (fun _ => -1) 0 1 (by decide)) kX4_49 hP hD [0, 1] rfl (by decide +kernel) 0 rfl rfl rfl ⟨Nat.le_of_ble_eq_true rfl, Nat.le_of_ble_eq_true rfl⟩ rfl hl.1 rfl (Nat.le_of_ble_eq_true rfl) dX4_unlinkedPairs_25 ⟨Nat.le_of_ble_eq_true rfl, Nat.le_of_ble_eq_true rfl⟩) hP hD hS hA [0, 1] [] rfl rfl (by decide +kernel) (by decide +kernel) (fun r_1 u_2 H locs hw_r_1 hP hD hS => ?_)
  have hw_r_1 : r_1 = if (fun _ => -1) 0 >>> (nI 1 &&& 31) &&& nI 1 = nI 1 then nI 1 else nI 0 := hw_r_1
  refine W.widen (k := 0) (n := 0) (Nat.le_of_ble_eq_true rfl) (Nat.le_of_ble_eq_true rfl) ?_
  have hP : va_P D vwCl [(hg, .inr (4, [.ref nd, .ref kd, .ref lk, .ref vw])), (lk, .inl (cs 0, 8, .inl (fun _ => -1)))] H := hP
  have hD : va_D A [(hg, .inr (4, [.ref nd, .ref kd, .ref lk, .ref vw])), (lk, .inl (cs 0, 8, .inl (fun _ => -1)))] := hD
  obtain rfl : r_1 = nI 1 := by rw [hw_r_1]; exact if_pos (xlnk _ (by decide))
  refine lv_if_eq (tgt := 35) hx hb dX4_unlinkedPairs_28 (by decide) (fun c => absurd c (by decide)) (fun _ => ?_)
  refine lv_iconst (v := nI 0) hx hb dX4_unlinkedPairs_31 (by decide) ?_
  refine lv_goto (tgt := 36) hx hb dX4_unlinkedPairs_32 (by decide) ?_
  refine lv_iadd hx hb dX4_unlinkedPairs_36 ?_
  refine lv_topi (nm_r (e' := nI 0) (by decide) ?_)
  refine lv_istore_n (lv' := [(2, .int (nI 0)), (4, .int (nI 1)), (3, .int (nI 0)), (0, .ref hg), (1, .int (nI 4))]) hx hb dX4_unlinkedPairs_37 rfl hl (by decide) rfl (fun ls hl => ?_)
  refine lv_iinc (v := nI 2) (lv' := [(4, .int (nI 2)), (2, .int (nI 0)), (3, .int (nI 0)), (0, .ref hg), (1, .int (nI 4))]) hx hb dX4_unlinkedPairs_38 hl (k := 1) rfl (by decide) (by decide) rfl (fun ls hl => ?_)
  refine lv_goto (tgt := 14) hx hb dX4_unlinkedPairs_41 (by decide) ?_
  refine lv_iload hx hb dX4_unlinkedPairs_14 (lv_at hl 0 rfl) ?_
  refine lv_iload_n hx hb dX4_unlinkedPairs_16 rfl (lv_at hl 4 rfl) ?_
  refine lv_icmp_ge (tgt := 44) hx hb dX4_unlinkedPairs_17 (by decide) (fun c => absurd c (by decide)) (fun _ => ?_)
  refine lv_iload_n hx hb dX4_unlinkedPairs_20 rfl (lv_at hl 1 rfl) ?_
  refine lv_aload_n hx hb dX4_unlinkedPairs_21 rfl (lv_at hl 3 rfl) ?_
  refine lv_iload_n hx hb dX4_unlinkedPairs_22 rfl (lv_at hl 2 rfl) ?_
  refine lv_iload hx hb dX4_unlinkedPairs_23 (lv_at hl 0 rfl) ?_
  refine xi (wr := []) (xV (As := [.int (nI 0), .int (nI 2)]) (rest := [.int (nI 0)]) C (c_X4_isLinked l D cs hg nd kd lk vw (fun _ => -1) 0 2 (by decide)) kX4_49 hP hD [0, 1] rfl (by decide +kernel) 0 rfl rfl rfl ⟨Nat.le_of_ble_eq_true rfl, Nat.le_of_ble_eq_true rfl⟩ rfl hl.1 rfl (Nat.le_of_ble_eq_true rfl) dX4_unlinkedPairs_25 ⟨Nat.le_of_ble_eq_true rfl, Nat.le_of_ble_eq_true rfl⟩) hP hD hS hA [0, 1] [] rfl rfl (by decide +kernel) (by decide +kernel) (fun r_3 u_4 H locs hw_r_3 hP hD hS => ?_)
  have hw_r_3 : r_3 = if (fun _ => -1) 0 >>> (nI 2 &&& 31) &&& nI 1 = nI 1 then nI 1 else nI 0 := hw_r_3
  refine W.widen (k := 0) (n := 0) (Nat.le_of_ble_eq_true rfl) (Nat.le_of_ble_eq_true rfl) ?_
  have hP : va_P D vwCl [(hg, .inr (4, [.ref nd, .ref kd, .ref lk, .ref vw])), (lk, .inl (cs 0, 8, .inl (fun _ => -1)))] H := hP
  have hD : va_D A [(hg, .inr (4, [.ref nd, .ref kd, .ref lk, .ref vw])), (lk, .inl (cs 0, 8, .inl (fun _ => -1)))] := hD
  obtain rfl : r_3 = nI 1 := by rw [hw_r_3]; exact if_pos (xlnk _ (by decide))
  refine lv_if_eq (tgt := 35) hx hb dX4_unlinkedPairs_28 (by decide) (fun c => absurd c (by decide)) (fun _ => ?_)
  refine lv_iconst (v := nI 0) hx hb dX4_unlinkedPairs_31 (by decide) ?_
  refine lv_goto (tgt := 36) hx hb dX4_unlinkedPairs_32 (by decide) ?_
  refine lv_iadd hx hb dX4_unlinkedPairs_36 ?_
  refine lv_topi (nm_r (e' := nI 0) (by decide) ?_)
  refine lv_istore_n (lv' := [(2, .int (nI 0)), (4, .int (nI 2)), (3, .int (nI 0)), (0, .ref hg), (1, .int (nI 4))]) hx hb dX4_unlinkedPairs_37 rfl hl (by decide) rfl (fun ls hl => ?_)
  refine lv_iinc (v := nI 3) (lv' := [(4, .int (nI 3)), (2, .int (nI 0)), (3, .int (nI 0)), (0, .ref hg), (1, .int (nI 4))]) hx hb dX4_unlinkedPairs_38 hl (k := 1) rfl (by decide) (by decide) rfl (fun ls hl => ?_)
  refine lv_goto (tgt := 14) hx hb dX4_unlinkedPairs_41 (by decide) ?_
  refine lv_iload hx hb dX4_unlinkedPairs_14 (lv_at hl 0 rfl) ?_
  refine lv_iload_n hx hb dX4_unlinkedPairs_16 rfl (lv_at hl 4 rfl) ?_
  refine lv_icmp_ge (tgt := 44) hx hb dX4_unlinkedPairs_17 (by decide) (fun c => absurd c (by decide)) (fun _ => ?_)
  refine lv_iload_n hx hb dX4_unlinkedPairs_20 rfl (lv_at hl 1 rfl) ?_
  refine lv_aload_n hx hb dX4_unlinkedPairs_21 rfl (lv_at hl 3 rfl) ?_
  refine lv_iload_n hx hb dX4_unlinkedPairs_22 rfl (lv_at hl 2 rfl) ?_
  refine lv_iload hx hb dX4_unlinkedPairs_23 (lv_at hl 0 rfl) ?_
  refine xi (wr := []) (xV (As := [.int (nI 0), .int (nI 3)]) (rest := [.int (nI 0)]) C (c_X4_isLinked l D cs hg nd kd lk vw (fun _ => -1) 0 3 (by decide)) kX4_49 hP hD [0, 1] rfl (by decide +kernel) 0 rfl rfl rfl ⟨Nat.le_of_ble_eq_true rfl, Nat.le_of_ble_eq_true rfl⟩ rfl hl.1 rfl (Nat.le_of_ble_eq_true rfl) dX4_unlinkedPairs_25 ⟨Nat.le_of_ble_eq_true rfl, Nat.le_of_ble_eq_true rfl⟩) hP hD hS hA [0, 1] [] rfl rfl (by decide +kernel) (by decide +kernel) (fun r_5 u_6 H locs hw_r_5 hP hD hS => ?_)
  have hw_r_5 : r_5 = if (fun _ => -1) 0 >>> (nI 3 &&& 31) &&& nI 1 = nI 1 then nI 1 else nI 0 := hw_r_5
  refine W.widen (k := 0) (n := 0) (Nat.le_of_ble_eq_true rfl) (Nat.le_of_ble_eq_true rfl) ?_
  have hP : va_P D vwCl [(hg, .inr (4, [.ref nd, .ref kd, .ref lk, .ref vw])), (lk, .inl (cs 0, 8, .inl (fun _ => -1)))] H := hP
  have hD : va_D A [(hg, .inr (4, [.ref nd, .ref kd, .ref lk, .ref vw])), (lk, .inl (cs 0, 8, .inl (fun _ => -1)))] := hD
  obtain rfl : r_5 = nI 1 := by rw [hw_r_5]; exact if_pos (xlnk _ (by decide))
  refine lv_if_eq (tgt := 35) hx hb dX4_unlinkedPairs_28 (by decide) (fun c => absurd c (by decide)) (fun _ => ?_)
  refine lv_iconst (v := nI 0) hx hb dX4_unlinkedPairs_31 (by decide) ?_
  refine lv_goto (tgt := 36) hx hb dX4_unlinkedPairs_32 (by decide) ?_
  refine lv_iadd hx hb dX4_unlinkedPairs_36 ?_
  refine lv_topi (nm_r (e' := nI 0) (by decide) ?_)
  refine lv_istore_n (lv' := [(2, .int (nI 0)), (4, .int (nI 3)), (3, .int (nI 0)), (0, .ref hg), (1, .int (nI 4))]) hx hb dX4_unlinkedPairs_37 rfl hl (by decide) rfl (fun ls hl => ?_)
  refine lv_iinc (v := nI 4) (lv' := [(4, .int (nI 4)), (2, .int (nI 0)), (3, .int (nI 0)), (0, .ref hg), (1, .int (nI 4))]) hx hb dX4_unlinkedPairs_38 hl (k := 1) rfl (by decide) (by decide) rfl (fun ls hl => ?_)
  refine lv_goto (tgt := 14) hx hb dX4_unlinkedPairs_41 (by decide) ?_
  refine lv_iload hx hb dX4_unlinkedPairs_14 (lv_at hl 0 rfl) ?_
  refine lv_iload_n hx hb dX4_unlinkedPairs_16 rfl (lv_at hl 4 rfl) ?_
  refine lv_icmp_ge (tgt := 44) hx hb dX4_unlinkedPairs_17 (by decide) (fun _ => ?_) (fun c => absurd (by decide) c)
  refine lv_iinc (v := nI 1) (lv' := [(3, .int (nI 1)), (4, .int (nI 4)), (2, .int (nI 0)), (0, .ref hg), (1, .int (nI 4))]) hx hb dX4_unlinkedPairs_44 hl (k := 2) rfl (by decide) (by decide) rfl (fun ls hl => ?_)
  refine lv_goto (tgt := 4) hx hb dX4_unlinkedPairs_47 (by decide) ?_
  refine lv_iload_n hx hb dX4_unlinkedPairs_4 rfl (lv_at hl 0 rfl) ?_
  refine lv_iload_n hx hb dX4_unlinkedPairs_5 rfl (lv_at hl 4 rfl) ?_
  refine lv_icmp_ge (tgt := 50) hx hb dX4_unlinkedPairs_6 (by decide) (fun c => absurd c (by decide)) (fun _ => ?_)
  refine lv_iload_n hx hb dX4_unlinkedPairs_9 rfl (lv_at hl 0 rfl) ?_
  refine lv_iconst (v := nI 1) hx hb dX4_unlinkedPairs_10 (by decide) ?_
  refine lv_iadd hx hb dX4_unlinkedPairs_11 ?_
  refine lv_topi (nm_r (e' := nI 2) (by decide) ?_)
  refine lv_istore (lv' := [(4, .int (nI 2)), (3, .int (nI 1)), (2, .int (nI 0)), (0, .ref hg), (1, .int (nI 4))]) hx hb dX4_unlinkedPairs_12 hl (by decide) rfl (fun ls hl => ?_)
  refine lv_iload hx hb dX4_unlinkedPairs_14 (lv_at hl 0 rfl) ?_
  refine lv_iload_n hx hb dX4_unlinkedPairs_16 rfl (lv_at hl 4 rfl) ?_
  refine lv_icmp_ge (tgt := 44) hx hb dX4_unlinkedPairs_17 (by decide) (fun c => absurd c (by decide)) (fun _ => ?_)
  refine lv_iload_n hx hb dX4_unlinkedPairs_20 rfl (lv_at hl 2 rfl) ?_
  refine lv_aload_n hx hb dX4_unlinkedPairs_21 rfl (lv_at hl 3 rfl) ?_
  refine lv_iload_n hx hb dX4_unlinkedPairs_22 rfl (lv_at hl 1 rfl) ?_
  refine lv_iload hx hb dX4_unlinkedPairs_23 (lv_at hl 0 rfl) ?_
  refine xi (wr := []) (xV (As := [.int (nI 1), .int (nI 2)]) (rest := [.int (nI 0)]) C (c_X4_isLinked l D cs hg nd kd lk vw (fun _ => -1) 1 2 (by decide)) kX4_49 hP hD [0, 1] rfl (by decide +kernel) 0 rfl rfl rfl ⟨Nat.le_of_ble_eq_true rfl, Nat.le_of_ble_eq_true rfl⟩ rfl hl.1 rfl (Nat.le_of_ble_eq_true rfl) dX4_unlinkedPairs_25 ⟨Nat.le_of_ble_eq_true rfl, Nat.le_of_ble_eq_true rfl⟩) hP hD hS hA [0, 1] [] rfl rfl (by decide +kernel) (by decide +kernel) (fun r_7 u_8 H locs hw_r_7 hP hD hS => ?_)
  have hw_r_7 : r_7 = if (fun _ => -1) 1 >>> (nI 2 &&& 31) &&& nI 1 = nI 1 then nI 1 else nI 0 := hw_r_7
  refine W.widen (k := 0) (n := 0) (Nat.le_of_ble_eq_true rfl) (Nat.le_of_ble_eq_true rfl) ?_
  have hP : va_P D vwCl [(hg, .inr (4, [.ref nd, .ref kd, .ref lk, .ref vw])), (lk, .inl (cs 0, 8, .inl (fun _ => -1)))] H := hP
  have hD : va_D A [(hg, .inr (4, [.ref nd, .ref kd, .ref lk, .ref vw])), (lk, .inl (cs 0, 8, .inl (fun _ => -1)))] := hD
  obtain rfl : r_7 = nI 1 := by rw [hw_r_7]; exact if_pos (xlnk _ (by decide))
  refine lv_if_eq (tgt := 35) hx hb dX4_unlinkedPairs_28 (by decide) (fun c => absurd c (by decide)) (fun _ => ?_)
  refine lv_iconst (v := nI 0) hx hb dX4_unlinkedPairs_31 (by decide) ?_
  refine lv_goto (tgt := 36) hx hb dX4_unlinkedPairs_32 (by decide) ?_
  refine lv_iadd hx hb dX4_unlinkedPairs_36 ?_
  refine lv_topi (nm_r (e' := nI 0) (by decide) ?_)
  refine lv_istore_n (lv' := [(2, .int (nI 0)), (4, .int (nI 2)), (3, .int (nI 1)), (0, .ref hg), (1, .int (nI 4))]) hx hb dX4_unlinkedPairs_37 rfl hl (by decide) rfl (fun ls hl => ?_)
  refine lv_iinc (v := nI 3) (lv' := [(4, .int (nI 3)), (2, .int (nI 0)), (3, .int (nI 1)), (0, .ref hg), (1, .int (nI 4))]) hx hb dX4_unlinkedPairs_38 hl (k := 1) rfl (by decide) (by decide) rfl (fun ls hl => ?_)
  refine lv_goto (tgt := 14) hx hb dX4_unlinkedPairs_41 (by decide) ?_
  refine lv_iload hx hb dX4_unlinkedPairs_14 (lv_at hl 0 rfl) ?_
  refine lv_iload_n hx hb dX4_unlinkedPairs_16 rfl (lv_at hl 4 rfl) ?_
  refine lv_icmp_ge (tgt := 44) hx hb dX4_unlinkedPairs_17 (by decide) (fun c => absurd c (by decide)) (fun _ => ?_)
  refine lv_iload_n hx hb dX4_unlinkedPairs_20 rfl (lv_at hl 1 rfl) ?_
  refine lv_aload_n hx hb dX4_unlinkedPairs_21 rfl (lv_at hl 3 rfl) ?_
  refine lv_iload_n hx hb dX4_unlinkedPairs_22 rfl (lv_at hl 2 rfl) ?_
  refine lv_iload hx hb dX4_unlinkedPairs_23 (lv_at hl 0 rfl) ?_
  refine xi (wr := []) (xV (As := [.int (nI 1), .int (nI 3)]) (rest := [.int (nI 0)]) C (c_X4_isLinked l D cs hg nd kd lk vw (fun _ => -1) 1 3 (by decide)) kX4_49 hP hD [0, 1] rfl (by decide +kernel) 0 rfl rfl rfl ⟨Nat.le_of_ble_eq_true rfl, Nat.le_of_ble_eq_true rfl⟩ rfl hl.1 rfl (Nat.le_of_ble_eq_true rfl) dX4_unlinkedPairs_25 ⟨Nat.le_of_ble_eq_true rfl, Nat.le_of_ble_eq_true rfl⟩) hP hD hS hA [0, 1] [] rfl rfl (by decide +kernel) (by decide +kernel) (fun r_9 u_10 H locs hw_r_9 hP hD hS => ?_)
  have hw_r_9 : r_9 = if (fun _ => -1) 1 >>> (nI 3 &&& 31) &&& nI 1 = nI 1 then nI 1 else nI 0 := hw_r_9
  refine W.widen (k := 0) (n := 0) (Nat.le_of_ble_eq_true rfl) (Nat.le_of_ble_eq_true rfl) ?_
  have hP : va_P D vwCl [(hg, .inr (4, [.ref nd, .ref kd, .ref lk, .ref vw])), (lk, .inl (cs 0, 8, .inl (fun _ => -1)))] H := hP
  have hD : va_D A [(hg, .inr (4, [.ref nd, .ref kd, .ref lk, .ref vw])), (lk, .inl (cs 0, 8, .inl (fun _ => -1)))] := hD
  obtain rfl : r_9 = nI 1 := by rw [hw_r_9]; exact if_pos (xlnk _ (by decide))
  refine lv_if_eq (tgt := 35) hx hb dX4_unlinkedPairs_28 (by decide) (fun c => absurd c (by decide)) (fun _ => ?_)
  refine lv_iconst (v := nI 0) hx hb dX4_unlinkedPairs_31 (by decide) ?_
  refine lv_goto (tgt := 36) hx hb dX4_unlinkedPairs_32 (by decide) ?_
  refine lv_iadd hx hb dX4_unlinkedPairs_36 ?_
  refine lv_topi (nm_r (e' := nI 0) (by decide) ?_)
  refine lv_istore_n (lv' := [(2, .int (nI 0)), (4, .int (nI 3)), (3, .int (nI 1)), (0, .ref hg), (1, .int (nI 4))]) hx hb dX4_unlinkedPairs_37 rfl hl (by decide) rfl (fun ls hl => ?_)
  refine lv_iinc (v := nI 4) (lv' := [(4, .int (nI 4)), (2, .int (nI 0)), (3, .int (nI 1)), (0, .ref hg), (1, .int (nI 4))]) hx hb dX4_unlinkedPairs_38 hl (k := 1) rfl (by decide) (by decide) rfl (fun ls hl => ?_)
  refine lv_goto (tgt := 14) hx hb dX4_unlinkedPairs_41 (by decide) ?_
  refine lv_iload hx hb dX4_unlinkedPairs_14 (lv_at hl 0 rfl) ?_
  refine lv_iload_n hx hb dX4_unlinkedPairs_16 rfl (lv_at hl 4 rfl) ?_
  refine lv_icmp_ge (tgt := 44) hx hb dX4_unlinkedPairs_17 (by decide) (fun _ => ?_) (fun c => absurd (by decide) c)
  refine lv_iinc (v := nI 2) (lv' := [(3, .int (nI 2)), (4, .int (nI 4)), (2, .int (nI 0)), (0, .ref hg), (1, .int (nI 4))]) hx hb dX4_unlinkedPairs_44 hl (k := 2) rfl (by decide) (by decide) rfl (fun ls hl => ?_)
  refine lv_goto (tgt := 4) hx hb dX4_unlinkedPairs_47 (by decide) ?_
  refine lv_iload_n hx hb dX4_unlinkedPairs_4 rfl (lv_at hl 0 rfl) ?_
  refine lv_iload_n hx hb dX4_unlinkedPairs_5 rfl (lv_at hl 4 rfl) ?_
  refine lv_icmp_ge (tgt := 50) hx hb dX4_unlinkedPairs_6 (by decide) (fun c => absurd c (by decide)) (fun _ => ?_)
  refine lv_iload_n hx hb dX4_unlinkedPairs_9 rfl (lv_at hl 0 rfl) ?_
  refine lv_iconst (v := nI 1) hx hb dX4_unlinkedPairs_10 (by decide) ?_
  refine lv_iadd hx hb dX4_unlinkedPairs_11 ?_
  refine lv_topi (nm_r (e' := nI 3) (by decide) ?_)
  refine lv_istore (lv' := [(4, .int (nI 3)), (3, .int (nI 2)), (2, .int (nI 0)), (0, .ref hg), (1, .int (nI 4))]) hx hb dX4_unlinkedPairs_12 hl (by decide) rfl (fun ls hl => ?_)
  refine lv_iload hx hb dX4_unlinkedPairs_14 (lv_at hl 0 rfl) ?_
  refine lv_iload_n hx hb dX4_unlinkedPairs_16 rfl (lv_at hl 4 rfl) ?_
  refine lv_icmp_ge (tgt := 44) hx hb dX4_unlinkedPairs_17 (by decide) (fun c => absurd c (by decide)) (fun _ => ?_)
  refine lv_iload_n hx hb dX4_unlinkedPairs_20 rfl (lv_at hl 2 rfl) ?_
  refine lv_aload_n hx hb dX4_unlinkedPairs_21 rfl (lv_at hl 3 rfl) ?_
  refine lv_iload_n hx hb dX4_unlinkedPairs_22 rfl (lv_at hl 1 rfl) ?_
  refine lv_iload hx hb dX4_unlinkedPairs_23 (lv_at hl 0 rfl) ?_
  refine xi (wr := []) (xV (As := [.int (nI 2), .int (nI 3)]) (rest := [.int (nI 0)]) C (c_X4_isLinked l D cs hg nd kd lk vw (fun _ => -1) 2 3 (by decide)) kX4_49 hP hD [0, 1] rfl (by decide +kernel) 0 rfl rfl rfl ⟨Nat.le_of_ble_eq_true rfl, Nat.le_of_ble_eq_true rfl⟩ rfl hl.1 rfl (Nat.le_of_ble_eq_true rfl) dX4_unlinkedPairs_25 ⟨Nat.le_of_ble_eq_true rfl, Nat.le_of_ble_eq_true rfl⟩) hP hD hS hA [0, 1] [] rfl rfl (by decide +kernel) (by decide +kernel) (fun r_11 u_12 H locs hw_r_11 hP hD hS => ?_)
  have hw_r_11 : r_11 = if (fun _ => -1) 2 >>> (nI 3 &&& 31) &&& nI 1 = nI 1 then nI 1 else nI 0 := hw_r_11
  refine W.widen (k := 0) (n := 0) (Nat.le_of_ble_eq_true rfl) (Nat.le_of_ble_eq_true rfl) ?_
  have hP : va_P D vwCl [(hg, .inr (4, [.ref nd, .ref kd, .ref lk, .ref vw])), (lk, .inl (cs 0, 8, .inl (fun _ => -1)))] H := hP
  have hD : va_D A [(hg, .inr (4, [.ref nd, .ref kd, .ref lk, .ref vw])), (lk, .inl (cs 0, 8, .inl (fun _ => -1)))] := hD
  obtain rfl : r_11 = nI 1 := by rw [hw_r_11]; exact if_pos (xlnk _ (by decide))
  refine lv_if_eq (tgt := 35) hx hb dX4_unlinkedPairs_28 (by decide) (fun c => absurd c (by decide)) (fun _ => ?_)
  refine lv_iconst (v := nI 0) hx hb dX4_unlinkedPairs_31 (by decide) ?_
  refine lv_goto (tgt := 36) hx hb dX4_unlinkedPairs_32 (by decide) ?_
  refine lv_iadd hx hb dX4_unlinkedPairs_36 ?_
  refine lv_topi (nm_r (e' := nI 0) (by decide) ?_)
  refine lv_istore_n (lv' := [(2, .int (nI 0)), (4, .int (nI 3)), (3, .int (nI 2)), (0, .ref hg), (1, .int (nI 4))]) hx hb dX4_unlinkedPairs_37 rfl hl (by decide) rfl (fun ls hl => ?_)
  refine lv_iinc (v := nI 4) (lv' := [(4, .int (nI 4)), (2, .int (nI 0)), (3, .int (nI 2)), (0, .ref hg), (1, .int (nI 4))]) hx hb dX4_unlinkedPairs_38 hl (k := 1) rfl (by decide) (by decide) rfl (fun ls hl => ?_)
  refine lv_goto (tgt := 14) hx hb dX4_unlinkedPairs_41 (by decide) ?_
  refine lv_iload hx hb dX4_unlinkedPairs_14 (lv_at hl 0 rfl) ?_
  refine lv_iload_n hx hb dX4_unlinkedPairs_16 rfl (lv_at hl 4 rfl) ?_
  refine lv_icmp_ge (tgt := 44) hx hb dX4_unlinkedPairs_17 (by decide) (fun _ => ?_) (fun c => absurd (by decide) c)
  refine lv_iinc (v := nI 3) (lv' := [(3, .int (nI 3)), (4, .int (nI 4)), (2, .int (nI 0)), (0, .ref hg), (1, .int (nI 4))]) hx hb dX4_unlinkedPairs_44 hl (k := 2) rfl (by decide) (by decide) rfl (fun ls hl => ?_)
  refine lv_goto (tgt := 4) hx hb dX4_unlinkedPairs_47 (by decide) ?_
  refine lv_iload_n hx hb dX4_unlinkedPairs_4 rfl (lv_at hl 0 rfl) ?_
  refine lv_iload_n hx hb dX4_unlinkedPairs_5 rfl (lv_at hl 4 rfl) ?_
  refine lv_icmp_ge (tgt := 50) hx hb dX4_unlinkedPairs_6 (by decide) (fun c => absurd c (by decide)) (fun _ => ?_)
  refine lv_iload_n hx hb dX4_unlinkedPairs_9 rfl (lv_at hl 0 rfl) ?_
  refine lv_iconst (v := nI 1) hx hb dX4_unlinkedPairs_10 (by decide) ?_
  refine lv_iadd hx hb dX4_unlinkedPairs_11 ?_
  refine lv_topi (nm_r (e' := nI 4) (by decide) ?_)
  refine lv_istore (lv' := [(4, .int (nI 4)), (3, .int (nI 3)), (2, .int (nI 0)), (0, .ref hg), (1, .int (nI 4))]) hx hb dX4_unlinkedPairs_12 hl (by decide) rfl (fun ls hl => ?_)
  refine lv_iload hx hb dX4_unlinkedPairs_14 (lv_at hl 0 rfl) ?_
  refine lv_iload_n hx hb dX4_unlinkedPairs_16 rfl (lv_at hl 4 rfl) ?_
  refine lv_icmp_ge (tgt := 44) hx hb dX4_unlinkedPairs_17 (by decide) (fun _ => ?_) (fun c => absurd (by decide) c)
  refine lv_iinc (v := nI 4) (lv' := [(3, .int (nI 4)), (4, .int (nI 4)), (2, .int (nI 0)), (0, .ref hg), (1, .int (nI 4))]) hx hb dX4_unlinkedPairs_44 hl (k := 1) rfl (by decide) (by decide) rfl (fun ls hl => ?_)
  refine lv_goto (tgt := 4) hx hb dX4_unlinkedPairs_47 (by decide) ?_
  refine lv_iload_n hx hb dX4_unlinkedPairs_4 rfl (lv_at hl 0 rfl) ?_
  refine lv_iload_n hx hb dX4_unlinkedPairs_5 rfl (lv_at hl 4 rfl) ?_
  refine lv_icmp_ge (tgt := 50) hx hb dX4_unlinkedPairs_6 (by decide) (fun _ => ?_) (fun c => absurd (by decide) c)
  refine lv_iload_n hx hb dX4_unlinkedPairs_50 rfl (lv_at hl 2 rfl) ?_
  exact xreti C () rfl hP hD hS (Nat.le_of_ble_eq_true rfl) (Nat.le_of_ble_eq_true rfl) rfl dX4_unlinkedPairs_51

set_option maxHeartbeats 4000000 in
set_option maxRecDepth 100000 in
theorem c_X11_allQueries_z (l : Launch) (D : va_G) (cs : Nat → ClassId) (h0 hr hg hgr ha hpo hly hse hc pa spr qm : Nat) (dr ver : Int32) (sm ca : Nat) : xMet l D cs yX11_allQueries cX11_allQueries 3 (some .int) ({ frames := 0, cells := 0, slots := 0, locals := 0 } : Room) [.ref h0] [(h0, .inr (11, [.ref hr, .ref hg, .ref hgr, .ref ha, .ref hpo, .ref hly, .ref hse, .ref hc, .ref pa, .ref spr, .ref qm, .int (nI 0), .int (nI 0), .int (nI 0), .int dr, .int ver])), (hr, .inr (7, [.int (nI 4), .int (nI 2), .int (nI 2), .int (nI 3), .int (nI 2), .int (nI 1), .ref sm, .int (nI 3), .ref ca])), (qm, .inl (cs 0, 8, .inl (fun _ => nI 0)))] (xQi D (fun (r : Int32) (_u : Unit) => r = nI 0) (fun (_u : Unit) => [(h0, .inr (11, [.ref hr, .ref hg, .ref hgr, .ref ha, .ref hpo, .ref hly, .ref hse, .ref hc, .ref pa, .ref spr, .ref qm, .int (nI 0), .int (nI 0), .int (nI 0), .int dr, .int ver])), (hr, .inr (7, [.int (nI 4), .int (nI 2), .int (nI 2), .int (nI 3), .int (nI 2), .int (nI 1), .ref sm, .int (nI 3), .ref ca])), (qm, .inl (cs 0, 8, .inl (fun _ => nI 0)))])) := by
  refine xMet.intro (by decide) (Nat.le_of_ble_eq_true rfl) ?_
  intro p e s m args below meth c A ls C hP hD hS hl
  have hx := C.1
  have hb := C.2.1
  have hz := C.2.2.2.2.1
  have hown := C.2.2.2.1
  have hA := C.2.2.2.2.2.2.2.2.2
  have hAO := C.2.2.2.2.2.2.2.2.1.2.2
  have hl : lv_has ls 3 [(0, .ref h0)] := hl
  obtain ⟨H, hH⟩ : ∃ H, H = s.heap := ⟨_, rfl⟩
  have hP : va_P D vwCl [(h0, .inr (11, [.ref hr, .ref hg, .ref hgr, .ref ha, .ref hpo, .ref hly, .ref hse, .ref hc, .ref pa, .ref spr, .ref qm, .int (nI 0), .int (nI 0), .int (nI 0), .int dr, .int ver])), (hr, .inr (7, [.int (nI 4), .int (nI 2), .int (nI 2), .int (nI 3), .int (nI 2), .int (nI 1), .ref sm, .int (nI 3), .ref ca])), (qm, .inl (cs 0, 8, .inl (fun _ => nI 0)))] H := by rw [hH]; exact hP
  have hS : va_S A s.heap H [] := by rw [hH]; exact hS
  obtain ⟨locs, hlocs⟩ : ∃ z : List Loc, z = [] := ⟨_, rfl⟩
  rw [← hlocs] at hS
  suffices hW : W p l e ({ frames := 0, cells := 0, slots := 0, locals := 0 } : Room) s m args below meth c H locs 0 0 (MQ below ((xQi D (fun (r : Int32) (_u : Unit) => r = nI 0) (fun (_u : Unit) => [(h0, .inr (11, [.ref hr, .ref hg, .ref hgr, .ref ha, .ref hpo, .ref hly, .ref hse, .ref hc, .ref pa, .ref spr, .ref qm, .int (nI 0), .int (nI 0), .int (nI 0), .int dr, .int ver])), (hr, .inr (7, [.int (nI 4), .int (nI 2), .int (nI 2), .int (nI 3), .int (nI 2), .int (nI 1), .ref sm, .int (nI 3), .ref ca])), (qm, .inl (cs 0, 8, .inl (fun _ => nI 0)))])) A) args s 0 0 A) (F0 m 0 ls []) by rw [hlocs, hH] at hW; exact hW
  refine lv_iconst (v := nI 0) hx hb dX11_allQueries_0 (by decide) ?_
  refine lv_istore_n (lv' := [(1, .int (nI 0)), (0, .ref h0)]) hx hb dX11_allQueries_1 rfl hl (by decide) rfl (fun ls hl => ?_)
  refine lv_iconst (v := nI 0) hx hb dX11_allQueries_2 (by decide) ?_
  refine lv_istore_n (lv' := [(2, .int (nI 0)), (1, .int (nI 0)), (0, .ref h0)]) hx hb dX11_allQueries_3 rfl hl (by decide) rfl (fun ls hl => ?_)
  refine lv_iload_n hx hb dX11_allQueries_4 rfl (lv_at hl 0 rfl) ?_
  refine lv_aload_n hx hb dX11_allQueries_5 rfl (lv_at hl 2 rfl) ?_
  refine xget C hP 0 rfl rfl zuX11 0 (by decide) zw2_155 rfl dX11_allQueries_6 ?_
  refine xget C hP 1 rfl rfl zuX7 0 (by decide) zw1_82 rfl dX11_allQueries_9 ?_
  refine lv_icmp_ge (tgt := 30) hx hb dX11_allQueries_12 (by decide) (fun c => absurd c (by decide)) (fun _ => ?_)
  refine lv_iload_n hx hb dX11_allQueries_15 rfl (lv_at hl 1 rfl) ?_
  refine lv_aload_n hx hb dX11_allQueries_16 rfl (lv_at hl 2 rfl) ?_
  refine xget C hP 0 rfl rfl zuX11 10 (by decide) zw2_165 rfl dX11_allQueries_17 ?_
  refine lv_iload_n hx hb dX11_allQueries_20 rfl (lv_at hl 0 rfl) ?_
  refine xiald C hP 2 rfl 0 rfl (by decide) (by decide) dX11_allQueries_21 ?_
  refine lv_iadd hx hb dX11_allQueries_22 ?_
  refine lv_topi (nm_r (e' := nI 0) (by decide) ?_)
  refine lv_istore_n (lv' := [(1, .int (nI 0)), (2, .int (nI 0)), (0, .ref h0)]) hx hb dX11_allQueries_23 rfl hl (by decide) rfl (fun ls hl => ?_)
  refine lv_iinc (v := nI 1) (lv' := [(2, .int (nI 1)), (1, .int (nI 0)), (0, .ref h0)]) hx hb dX11_allQueries_24 hl (k := 1) rfl (by decide) (by decide) rfl (fun ls hl => ?_)
  refine lv_goto (tgt := 4) hx hb dX11_allQueries_27 (by decide) ?_
  refine lv_iload_n hx hb dX11_allQueries_4 rfl (lv_at hl 0 rfl) ?_
  refine lv_aload_n hx hb dX11_allQueries_5 rfl (lv_at hl 2 rfl) ?_
  refine xget C hP 0 rfl rfl zuX11 0 (by decide) zw2_155 rfl dX11_allQueries_6 ?_
  refine xget C hP 1 rfl rfl zuX7 0 (by decide) zw1_82 rfl dX11_allQueries_9 ?_
  refine lv_icmp_ge (tgt := 30) hx hb dX11_allQueries_12 (by decide) (fun c => absurd c (by decide)) (fun _ => ?_)
  refine lv_iload_n hx hb dX11_allQueries_15 rfl (lv_at hl 1 rfl) ?_
  refine lv_aload_n hx hb dX11_allQueries_16 rfl (lv_at hl 2 rfl) ?_
  refine xget C hP 0 rfl rfl zuX11 10 (by decide) zw2_165 rfl dX11_allQueries_17 ?_
  refine lv_iload_n hx hb dX11_allQueries_20 rfl (lv_at hl 0 rfl) ?_
  refine xiald C hP 2 rfl 1 rfl (by decide) (by decide) dX11_allQueries_21 ?_
  refine lv_iadd hx hb dX11_allQueries_22 ?_
  refine lv_topi (nm_r (e' := nI 0) (by decide) ?_)
  refine lv_istore_n (lv' := [(1, .int (nI 0)), (2, .int (nI 1)), (0, .ref h0)]) hx hb dX11_allQueries_23 rfl hl (by decide) rfl (fun ls hl => ?_)
  refine lv_iinc (v := nI 2) (lv' := [(2, .int (nI 2)), (1, .int (nI 0)), (0, .ref h0)]) hx hb dX11_allQueries_24 hl (k := 1) rfl (by decide) (by decide) rfl (fun ls hl => ?_)
  refine lv_goto (tgt := 4) hx hb dX11_allQueries_27 (by decide) ?_
  refine lv_iload_n hx hb dX11_allQueries_4 rfl (lv_at hl 0 rfl) ?_
  refine lv_aload_n hx hb dX11_allQueries_5 rfl (lv_at hl 2 rfl) ?_
  refine xget C hP 0 rfl rfl zuX11 0 (by decide) zw2_155 rfl dX11_allQueries_6 ?_
  refine xget C hP 1 rfl rfl zuX7 0 (by decide) zw1_82 rfl dX11_allQueries_9 ?_
  refine lv_icmp_ge (tgt := 30) hx hb dX11_allQueries_12 (by decide) (fun c => absurd c (by decide)) (fun _ => ?_)
  refine lv_iload_n hx hb dX11_allQueries_15 rfl (lv_at hl 1 rfl) ?_
  refine lv_aload_n hx hb dX11_allQueries_16 rfl (lv_at hl 2 rfl) ?_
  refine xget C hP 0 rfl rfl zuX11 10 (by decide) zw2_165 rfl dX11_allQueries_17 ?_
  refine lv_iload_n hx hb dX11_allQueries_20 rfl (lv_at hl 0 rfl) ?_
  refine xiald C hP 2 rfl 2 rfl (by decide) (by decide) dX11_allQueries_21 ?_
  refine lv_iadd hx hb dX11_allQueries_22 ?_
  refine lv_topi (nm_r (e' := nI 0) (by decide) ?_)
  refine lv_istore_n (lv' := [(1, .int (nI 0)), (2, .int (nI 2)), (0, .ref h0)]) hx hb dX11_allQueries_23 rfl hl (by decide) rfl (fun ls hl => ?_)
  refine lv_iinc (v := nI 3) (lv' := [(2, .int (nI 3)), (1, .int (nI 0)), (0, .ref h0)]) hx hb dX11_allQueries_24 hl (k := 1) rfl (by decide) (by decide) rfl (fun ls hl => ?_)
  refine lv_goto (tgt := 4) hx hb dX11_allQueries_27 (by decide) ?_
  refine lv_iload_n hx hb dX11_allQueries_4 rfl (lv_at hl 0 rfl) ?_
  refine lv_aload_n hx hb dX11_allQueries_5 rfl (lv_at hl 2 rfl) ?_
  refine xget C hP 0 rfl rfl zuX11 0 (by decide) zw2_155 rfl dX11_allQueries_6 ?_
  refine xget C hP 1 rfl rfl zuX7 0 (by decide) zw1_82 rfl dX11_allQueries_9 ?_
  refine lv_icmp_ge (tgt := 30) hx hb dX11_allQueries_12 (by decide) (fun c => absurd c (by decide)) (fun _ => ?_)
  refine lv_iload_n hx hb dX11_allQueries_15 rfl (lv_at hl 1 rfl) ?_
  refine lv_aload_n hx hb dX11_allQueries_16 rfl (lv_at hl 2 rfl) ?_
  refine xget C hP 0 rfl rfl zuX11 10 (by decide) zw2_165 rfl dX11_allQueries_17 ?_
  refine lv_iload_n hx hb dX11_allQueries_20 rfl (lv_at hl 0 rfl) ?_
  refine xiald C hP 2 rfl 3 rfl (by decide) (by decide) dX11_allQueries_21 ?_
  refine lv_iadd hx hb dX11_allQueries_22 ?_
  refine lv_topi (nm_r (e' := nI 0) (by decide) ?_)
  refine lv_istore_n (lv' := [(1, .int (nI 0)), (2, .int (nI 3)), (0, .ref h0)]) hx hb dX11_allQueries_23 rfl hl (by decide) rfl (fun ls hl => ?_)
  refine lv_iinc (v := nI 4) (lv' := [(2, .int (nI 4)), (1, .int (nI 0)), (0, .ref h0)]) hx hb dX11_allQueries_24 hl (k := 1) rfl (by decide) (by decide) rfl (fun ls hl => ?_)
  refine lv_goto (tgt := 4) hx hb dX11_allQueries_27 (by decide) ?_
  refine lv_iload_n hx hb dX11_allQueries_4 rfl (lv_at hl 0 rfl) ?_
  refine lv_aload_n hx hb dX11_allQueries_5 rfl (lv_at hl 2 rfl) ?_
  refine xget C hP 0 rfl rfl zuX11 0 (by decide) zw2_155 rfl dX11_allQueries_6 ?_
  refine xget C hP 1 rfl rfl zuX7 0 (by decide) zw1_82 rfl dX11_allQueries_9 ?_
  refine lv_icmp_ge (tgt := 30) hx hb dX11_allQueries_12 (by decide) (fun _ => ?_) (fun c => absurd (by decide) c)
  refine lv_iload_n hx hb dX11_allQueries_30 rfl (lv_at hl 1 rfl) ?_
  exact xreti C () rfl hP hD hS (Nat.le_of_ble_eq_true rfl) (Nat.le_of_ble_eq_true rfl) rfl dX11_allQueries_31

set_option maxHeartbeats 4000000 in
set_option maxRecDepth 100000 in
theorem c_X11_count_z (l : Launch) (D : va_G) (cs : Nat → ClassId) (h0 hr hg hgr ha hpo hly hse hc pa spr qm : Nat) (dr ver : Int32) (sm ca : Nat) (z1 z2 z3 : Int32) (nd kd lk vw : Nat) (v sv : Nat → Nat) (gs g1r g2r gan gpr gde gme : Nat) (x : Int32) : xMet l D cs yX11_count cX11_count 2 (some .int) ({ frames := 4, cells := 0, slots := 0, locals := 88 } : Room) [.ref h0, .int x] [(h0, .inr (11, [.ref hr, .ref hg, .ref hgr, .ref ha, .ref hpo, .ref hly, .ref hse, .ref hc, .ref pa, .ref spr, .ref qm, .int (nI 0), .int (nI 0), .int (nI 0), .int dr, .int ver])), (hr, .inr (7, [.int (nI 4), .int (nI 2), .int (nI 2), .int (nI 3), .int (nI 2), .int (nI 1), .ref sm, .int (nI 3), .ref ca])), (ha, .inr (0, [.ref hr, .ref hg, .int z1, .int z2, .int z3])), (hg, .inr (4, [.ref nd, .ref kd, .ref lk, .ref vw])), (kd, .inl (cs 0, 8, .inl (fun _ => nI 0))), (vw, .inl (cs 2, 8, .inr (.inr (.inr (.inr (fun i => some (v i))))))), (nd, .inl (cs 0, 8, .inl (fun _ => nI 0))), (lk, .inl (cs 0, 8, .inl (fun _ => -1))), (v 0, .inr (10, [.int (nI 0), .int (nI 0), .ref (sv 0)])), (sv 0, .inl (cs 0, 32, .inl vF)), (v 1, .inr (10, [.int (nI 0), .int (nI 0), .ref (sv 1)])), (sv 1, .inl (cs 0, 32, .inl vF)), (v 2, .inr (10, [.int (nI 0), .int (nI 0), .ref (sv 2)])), (sv 2, .inl (cs 0, 32, .inl vF)), (v 3, .inr (10, [.int (nI 0), .int (nI 0), .ref (sv 3)])), (sv 3, .inl (cs 0, 32, .inl vF)), (hgr, .inr (3, [.int (nI 0), .ref gs, .ref g1r, .ref g2r, .ref gan, .ref gpr, .ref gde, .ref gme])), (hpo, .inr (6, [.ref hr, .ref hg, .ref hgr])), (qm, .inl (cs 0, 8, .inl (fun _ => nI 0)))] (xQi D (fun (r : Int32) (_u : Unit) => ctP x r) (fun (_u : Unit) => [])) := by
  refine xMet.intro (by decide) (Nat.le_of_ble_eq_true rfl) ?_
  intro p e s m args below meth c A ls C hP hD hS hl
  have hx := C.1
  have hb := C.2.1
  have hz := C.2.2.2.2.1
  have hown := C.2.2.2.1
  have hA := C.2.2.2.2.2.2.2.2.2
  have hAO := C.2.2.2.2.2.2.2.2.1.2.2
  have hl : lv_has ls 2 [(0, .ref h0), (1, .int x)] := hl
  obtain ⟨H, hH⟩ : ∃ H, H = s.heap := ⟨_, rfl⟩
  have hP : va_P D vwCl [(h0, .inr (11, [.ref hr, .ref hg, .ref hgr, .ref ha, .ref hpo, .ref hly, .ref hse, .ref hc, .ref pa, .ref spr, .ref qm, .int (nI 0), .int (nI 0), .int (nI 0), .int dr, .int ver])), (hr, .inr (7, [.int (nI 4), .int (nI 2), .int (nI 2), .int (nI 3), .int (nI 2), .int (nI 1), .ref sm, .int (nI 3), .ref ca])), (ha, .inr (0, [.ref hr, .ref hg, .int z1, .int z2, .int z3])), (hg, .inr (4, [.ref nd, .ref kd, .ref lk, .ref vw])), (kd, .inl (cs 0, 8, .inl (fun _ => nI 0))), (vw, .inl (cs 2, 8, .inr (.inr (.inr (.inr (fun i => some (v i))))))), (nd, .inl (cs 0, 8, .inl (fun _ => nI 0))), (lk, .inl (cs 0, 8, .inl (fun _ => -1))), (v 0, .inr (10, [.int (nI 0), .int (nI 0), .ref (sv 0)])), (sv 0, .inl (cs 0, 32, .inl vF)), (v 1, .inr (10, [.int (nI 0), .int (nI 0), .ref (sv 1)])), (sv 1, .inl (cs 0, 32, .inl vF)), (v 2, .inr (10, [.int (nI 0), .int (nI 0), .ref (sv 2)])), (sv 2, .inl (cs 0, 32, .inl vF)), (v 3, .inr (10, [.int (nI 0), .int (nI 0), .ref (sv 3)])), (sv 3, .inl (cs 0, 32, .inl vF)), (hgr, .inr (3, [.int (nI 0), .ref gs, .ref g1r, .ref g2r, .ref gan, .ref gpr, .ref gde, .ref gme])), (hpo, .inr (6, [.ref hr, .ref hg, .ref hgr])), (qm, .inl (cs 0, 8, .inl (fun _ => nI 0)))] H := by rw [hH]; exact hP
  have hS : va_S A s.heap H [] := by rw [hH]; exact hS
  obtain ⟨locs, hlocs⟩ : ∃ z : List Loc, z = [] := ⟨_, rfl⟩
  rw [← hlocs] at hS
  suffices hW : W p l e ({ frames := 4, cells := 0, slots := 0, locals := 88 } : Room) s m args below meth c H locs 0 0 (MQ below ((xQi D (fun (r : Int32) (_u : Unit) => ctP x r) (fun (_u : Unit) => [])) A) args s 0 0 A) (F0 m 0 ls []) by rw [hlocs, hH] at hW; exact hW
  rcases (xsw x 17 (by decide)) with ⟨k, hk, rfl⟩ | hout
  · -- split
    have hP : va_P D vwCl [(h0, .inr (11, [.ref hr, .ref hg, .ref hgr, .ref ha, .ref hpo, .ref hly, .ref hse, .ref hc, .ref pa, .ref spr, .ref qm, .int (nI 0), .int (nI 0), .int (nI 0), .int dr, .int ver])), (hr, .inr (7, [.int (nI 4), .int (nI 2), .int (nI 2), .int (nI 3), .int (nI 2), .int (nI 1), .ref sm, .int (nI 3), .ref ca])), (ha, .inr (0, [.ref hr, .ref hg, .int z1, .int z2, .int z3])), (hg, .inr (4, [.ref nd, .ref kd, .ref lk, .ref vw])), (kd, .inl (cs 0, 8, .inl (fun _ => nI 0))), (vw, .inl (cs 2, 8, .inr (.inr (.inr (.inr (fun i => some (v i))))))), (nd, .inl (cs 0, 8, .inl (fun _ => nI 0))), (lk, .inl (cs 0, 8, .inl (fun _ => -1))), (v 0, .inr (10, [.int (nI 0), .int (nI 0), .ref (sv 0)])), (sv 0, .inl (cs 0, 32, .inl vF)), (v 1, .inr (10, [.int (nI 0), .int (nI 0), .ref (sv 1)])), (sv 1, .inl (cs 0, 32, .inl vF)), (v 2, .inr (10, [.int (nI 0), .int (nI 0), .ref (sv 2)])), (sv 2, .inl (cs 0, 32, .inl vF)), (v 3, .inr (10, [.int (nI 0), .int (nI 0), .ref (sv 3)])), (sv 3, .inl (cs 0, 32, .inl vF)), (hgr, .inr (3, [.int (nI 0), .ref gs, .ref g1r, .ref g2r, .ref gan, .ref gpr, .ref gde, .ref gme])), (hpo, .inr (6, [.ref hr, .ref hg, .ref hgr])), (qm, .inl (cs 0, 8, .inl (fun _ => nI 0)))] H := hP
    have hD : va_D A [(h0, .inr (11, [.ref hr, .ref hg, .ref hgr, .ref ha, .ref hpo, .ref hly, .ref hse, .ref hc, .ref pa, .ref spr, .ref qm, .int (nI 0), .int (nI 0), .int (nI 0), .int dr, .int ver])), (hr, .inr (7, [.int (nI 4), .int (nI 2), .int (nI 2), .int (nI 3), .int (nI 2), .int (nI 1), .ref sm, .int (nI 3), .ref ca])), (ha, .inr (0, [.ref hr, .ref hg, .int z1, .int z2, .int z3])), (hg, .inr (4, [.ref nd, .ref kd, .ref lk, .ref vw])), (kd, .inl (cs 0, 8, .inl (fun _ => nI 0))), (vw, .inl (cs 2, 8, .inr (.inr (.inr (.inr (fun i => some (v i))))))), (nd, .inl (cs 0, 8, .inl (fun _ => nI 0))), (lk, .inl (cs 0, 8, .inl (fun _ => -1))), (v 0, .inr (10, [.int (nI 0), .int (nI 0), .ref (sv 0)])), (sv 0, .inl (cs 0, 32, .inl vF)), (v 1, .inr (10, [.int (nI 0), .int (nI 0), .ref (sv 1)])), (sv 1, .inl (cs 0, 32, .inl vF)), (v 2, .inr (10, [.int (nI 0), .int (nI 0), .ref (sv 2)])), (sv 2, .inl (cs 0, 32, .inl vF)), (v 3, .inr (10, [.int (nI 0), .int (nI 0), .ref (sv 3)])), (sv 3, .inl (cs 0, 32, .inl vF)), (hgr, .inr (3, [.int (nI 0), .ref gs, .ref g1r, .ref g2r, .ref gan, .ref gpr, .ref gde, .ref gme])), (hpo, .inr (6, [.ref hr, .ref hg, .ref hgr])), (qm, .inl (cs 0, 8, .inl (fun _ => nI 0)))] := hD
    refine lv_iload_n hx hb dX11_count_0 rfl (lv_at hl 1 rfl) ?_
    rcases (show k = 0 ∨ k = 1 ∨ k = 2 ∨ k = 3 ∨ k = 4 ∨ k = 5 ∨ k = 6 ∨ k = 7 ∨ k = 8 ∨ k = 9 ∨ k = 10 ∨ k = 11 ∨ k = 12 ∨ k = 13 ∨ k = 14 ∨ k = 15 ∨ k = 16 by omega) with rfl | rfl | rfl | rfl | rfl | rfl | rfl | rfl | rfl | rfl | rfl | rfl | rfl | rfl | rfl | rfl | rfl
    · -- k = 0
      have hP : va_P D vwCl [(h0, .inr (11, [.ref hr, .ref hg, .ref hgr, .ref ha, .ref hpo, .ref hly, .ref hse, .ref hc, .ref pa, .ref spr, .ref qm, .int (nI 0), .int (nI 0), .int (nI 0), .int dr, .int ver])), (hr, .inr (7, [.int (nI 4), .int (nI 2), .int (nI 2), .int (nI 3), .int (nI 2), .int (nI 1), .ref sm, .int (nI 3), .ref ca])), (ha, .inr (0, [.ref hr, .ref hg, .int z1, .int z2, .int z3])), (hg, .inr (4, [.ref nd, .ref kd, .ref lk, .ref vw])), (kd, .inl (cs 0, 8, .inl (fun _ => nI 0))), (vw, .inl (cs 2, 8, .inr (.inr (.inr (.inr (fun i => some (v i))))))), (nd, .inl (cs 0, 8, .inl (fun _ => nI 0))), (lk, .inl (cs 0, 8, .inl (fun _ => -1))), (v 0, .inr (10, [.int (nI 0), .int (nI 0), .ref (sv 0)])), (sv 0, .inl (cs 0, 32, .inl vF)), (v 1, .inr (10, [.int (nI 0), .int (nI 0), .ref (sv 1)])), (sv 1, .inl (cs 0, 32, .inl vF)), (v 2, .inr (10, [.int (nI 0), .int (nI 0), .ref (sv 2)])), (sv 2, .inl (cs 0, 32, .inl vF)), (v 3, .inr (10, [.int (nI 0), .int (nI 0), .ref (sv 3)])), (sv 3, .inl (cs 0, 32, .inl vF)), (hgr, .inr (3, [.int (nI 0), .ref gs, .ref g1r, .ref g2r, .ref gan, .ref gpr, .ref gde, .ref gme])), (hpo, .inr (6, [.ref hr, .ref hg, .ref hgr])), (qm, .inl (cs 0, 8, .inl (fun _ => nI 0)))] H := hP
      have hD : va_D A [(h0, .inr (11, [.ref hr, .ref hg, .ref hgr, .ref ha, .ref hpo, .ref hly, .ref hse, .ref hc, .ref pa, .ref spr, .ref qm, .int (nI 0), .int (nI 0), .int (nI 0), .int dr, .int ver])), (hr, .inr (7, [.int (nI 4), .int (nI 2), .int (nI 2), .int (nI 3), .int (nI 2), .int (nI 1), .ref sm, .int (nI 3), .ref ca])), (ha, .inr (0, [.ref hr, .ref hg, .int z1, .int z2, .int z3])), (hg, .inr (4, [.ref nd, .ref kd, .ref lk, .ref vw])), (kd, .inl (cs 0, 8, .inl (fun _ => nI 0))), (vw, .inl (cs 2, 8, .inr (.inr (.inr (.inr (fun i => some (v i))))))), (nd, .inl (cs 0, 8, .inl (fun _ => nI 0))), (lk, .inl (cs 0, 8, .inl (fun _ => -1))), (v 0, .inr (10, [.int (nI 0), .int (nI 0), .ref (sv 0)])), (sv 0, .inl (cs 0, 32, .inl vF)), (v 1, .inr (10, [.int (nI 0), .int (nI 0), .ref (sv 1)])), (sv 1, .inl (cs 0, 32, .inl vF)), (v 2, .inr (10, [.int (nI 0), .int (nI 0), .ref (sv 2)])), (sv 2, .inl (cs 0, 32, .inl vF)), (v 3, .inr (10, [.int (nI 0), .int (nI 0), .ref (sv 3)])), (sv 3, .inl (cs 0, 32, .inl vF)), (hgr, .inr (3, [.int (nI 0), .ref gs, .ref g1r, .ref g2r, .ref gan, .ref gpr, .ref gde, .ref gme])), (hpo, .inr (6, [.ref hr, .ref hg, .ref hgr])), (qm, .inl (cs 0, 8, .inl (fun _ => nI 0)))] := hD
      refine lv_tableIn (tgt := 84) hx hb dX11_count_1 (by decide) (by decide) rfl (by decide) ?_
      refine lv_aload_n hx hb dX11_count_84 rfl (lv_at hl 0 rfl) ?_
      refine xget C hP 0 rfl rfl zuX11 0 (by decide) zw2_155 rfl dX11_count_85 ?_
      refine xget C hP 1 rfl rfl zuX7 0 (by decide) zw1_82 rfl dX11_count_88 ?_
      exact xreti C () (Or.inl ⟨0, by decide, rfl, by decide⟩) (xP_map hP [] rfl) (hD.sub [] (by decide +kernel) rfl) hS (Nat.le_of_ble_eq_true rfl) (Nat.le_of_ble_eq_true rfl) rfl dX11_count_91
    · -- k = 1
      have hP : va_P D vwCl [(h0, .inr (11, [.ref hr, .ref hg, .ref hgr, .ref ha, .ref hpo, .ref hly, .ref hse, .ref hc, .ref pa, .ref spr, .ref qm, .int (nI 0), .int (nI 0), .int (nI 0), .int dr, .int ver])), (hr, .inr (7, [.int (nI 4), .int (nI 2), .int (nI 2), .int (nI 3), .int (nI 2), .int (nI 1), .ref sm, .int (nI 3), .ref ca])), (ha, .inr (0, [.ref hr, .ref hg, .int z1, .int z2, .int z3])), (hg, .inr (4, [.ref nd, .ref kd, .ref lk, .ref vw])), (kd, .inl (cs 0, 8, .inl (fun _ => nI 0))), (vw, .inl (cs 2, 8, .inr (.inr (.inr (.inr (fun i => some (v i))))))), (nd, .inl (cs 0, 8, .inl (fun _ => nI 0))), (lk, .inl (cs 0, 8, .inl (fun _ => -1))), (v 0, .inr (10, [.int (nI 0), .int (nI 0), .ref (sv 0)])), (sv 0, .inl (cs 0, 32, .inl vF)), (v 1, .inr (10, [.int (nI 0), .int (nI 0), .ref (sv 1)])), (sv 1, .inl (cs 0, 32, .inl vF)), (v 2, .inr (10, [.int (nI 0), .int (nI 0), .ref (sv 2)])), (sv 2, .inl (cs 0, 32, .inl vF)), (v 3, .inr (10, [.int (nI 0), .int (nI 0), .ref (sv 3)])), (sv 3, .inl (cs 0, 32, .inl vF)), (hgr, .inr (3, [.int (nI 0), .ref gs, .ref g1r, .ref g2r, .ref gan, .ref gpr, .ref gde, .ref gme])), (hpo, .inr (6, [.ref hr, .ref hg, .ref hgr])), (qm, .inl (cs 0, 8, .inl (fun _ => nI 0)))] H := hP
      have hD : va_D A [(h0, .inr (11, [.ref hr, .ref hg, .ref hgr, .ref ha, .ref hpo, .ref hly, .ref hse, .ref hc, .ref pa, .ref spr, .ref qm, .int (nI 0), .int (nI 0), .int (nI 0), .int dr, .int ver])), (hr, .inr (7, [.int (nI 4), .int (nI 2), .int (nI 2), .int (nI 3), .int (nI 2), .int (nI 1), .ref sm, .int (nI 3), .ref ca])), (ha, .inr (0, [.ref hr, .ref hg, .int z1, .int z2, .int z3])), (hg, .inr (4, [.ref nd, .ref kd, .ref lk, .ref vw])), (kd, .inl (cs 0, 8, .inl (fun _ => nI 0))), (vw, .inl (cs 2, 8, .inr (.inr (.inr (.inr (fun i => some (v i))))))), (nd, .inl (cs 0, 8, .inl (fun _ => nI 0))), (lk, .inl (cs 0, 8, .inl (fun _ => -1))), (v 0, .inr (10, [.int (nI 0), .int (nI 0), .ref (sv 0)])), (sv 0, .inl (cs 0, 32, .inl vF)), (v 1, .inr (10, [.int (nI 0), .int (nI 0), .ref (sv 1)])), (sv 1, .inl (cs 0, 32, .inl vF)), (v 2, .inr (10, [.int (nI 0), .int (nI 0), .ref (sv 2)])), (sv 2, .inl (cs 0, 32, .inl vF)), (v 3, .inr (10, [.int (nI 0), .int (nI 0), .ref (sv 3)])), (sv 3, .inl (cs 0, 32, .inl vF)), (hgr, .inr (3, [.int (nI 0), .ref gs, .ref g1r, .ref g2r, .ref gan, .ref gpr, .ref gde, .ref gme])), (hpo, .inr (6, [.ref hr, .ref hg, .ref hgr])), (qm, .inl (cs 0, 8, .inl (fun _ => nI 0)))] := hD
      refine lv_tableIn (tgt := 92) hx hb dX11_count_1 (by decide) (by decide) rfl (by decide) ?_
      refine lv_aload_n hx hb dX11_count_92 rfl (lv_at hl 0 rfl) ?_
      refine xget C hP 0 rfl rfl zuX11 0 (by decide) zw2_155 rfl dX11_count_93 ?_
      refine xget C hP 1 rfl rfl zuX7 1 (by decide) zw1_84 rfl dX11_count_96 ?_
      exact xreti C () (Or.inl ⟨1, by decide, rfl, by decide⟩) (xP_map hP [] rfl) (hD.sub [] (by decide +kernel) rfl) hS (Nat.le_of_ble_eq_true rfl) (Nat.le_of_ble_eq_true rfl) rfl dX11_count_99
    · -- k = 2
      have hP : va_P D vwCl [(h0, .inr (11, [.ref hr, .ref hg, .ref hgr, .ref ha, .ref hpo, .ref hly, .ref hse, .ref hc, .ref pa, .ref spr, .ref qm, .int (nI 0), .int (nI 0), .int (nI 0), .int dr, .int ver])), (hr, .inr (7, [.int (nI 4), .int (nI 2), .int (nI 2), .int (nI 3), .int (nI 2), .int (nI 1), .ref sm, .int (nI 3), .ref ca])), (ha, .inr (0, [.ref hr, .ref hg, .int z1, .int z2, .int z3])), (hg, .inr (4, [.ref nd, .ref kd, .ref lk, .ref vw])), (kd, .inl (cs 0, 8, .inl (fun _ => nI 0))), (vw, .inl (cs 2, 8, .inr (.inr (.inr (.inr (fun i => some (v i))))))), (nd, .inl (cs 0, 8, .inl (fun _ => nI 0))), (lk, .inl (cs 0, 8, .inl (fun _ => -1))), (v 0, .inr (10, [.int (nI 0), .int (nI 0), .ref (sv 0)])), (sv 0, .inl (cs 0, 32, .inl vF)), (v 1, .inr (10, [.int (nI 0), .int (nI 0), .ref (sv 1)])), (sv 1, .inl (cs 0, 32, .inl vF)), (v 2, .inr (10, [.int (nI 0), .int (nI 0), .ref (sv 2)])), (sv 2, .inl (cs 0, 32, .inl vF)), (v 3, .inr (10, [.int (nI 0), .int (nI 0), .ref (sv 3)])), (sv 3, .inl (cs 0, 32, .inl vF)), (hgr, .inr (3, [.int (nI 0), .ref gs, .ref g1r, .ref g2r, .ref gan, .ref gpr, .ref gde, .ref gme])), (hpo, .inr (6, [.ref hr, .ref hg, .ref hgr])), (qm, .inl (cs 0, 8, .inl (fun _ => nI 0)))] H := hP
      have hD : va_D A [(h0, .inr (11, [.ref hr, .ref hg, .ref hgr, .ref ha, .ref hpo, .ref hly, .ref hse, .ref hc, .ref pa, .ref spr, .ref qm, .int (nI 0), .int (nI 0), .int (nI 0), .int dr, .int ver])), (hr, .inr (7, [.int (nI 4), .int (nI 2), .int (nI 2), .int (nI 3), .int (nI 2), .int (nI 1), .ref sm, .int (nI 3), .ref ca])), (ha, .inr (0, [.ref hr, .ref hg, .int z1, .int z2, .int z3])), (hg, .inr (4, [.ref nd, .ref kd, .ref lk, .ref vw])), (kd, .inl (cs 0, 8, .inl (fun _ => nI 0))), (vw, .inl (cs 2, 8, .inr (.inr (.inr (.inr (fun i => some (v i))))))), (nd, .inl (cs 0, 8, .inl (fun _ => nI 0))), (lk, .inl (cs 0, 8, .inl (fun _ => -1))), (v 0, .inr (10, [.int (nI 0), .int (nI 0), .ref (sv 0)])), (sv 0, .inl (cs 0, 32, .inl vF)), (v 1, .inr (10, [.int (nI 0), .int (nI 0), .ref (sv 1)])), (sv 1, .inl (cs 0, 32, .inl vF)), (v 2, .inr (10, [.int (nI 0), .int (nI 0), .ref (sv 2)])), (sv 2, .inl (cs 0, 32, .inl vF)), (v 3, .inr (10, [.int (nI 0), .int (nI 0), .ref (sv 3)])), (sv 3, .inl (cs 0, 32, .inl vF)), (hgr, .inr (3, [.int (nI 0), .ref gs, .ref g1r, .ref g2r, .ref gan, .ref gpr, .ref gde, .ref gme])), (hpo, .inr (6, [.ref hr, .ref hg, .ref hgr])), (qm, .inl (cs 0, 8, .inl (fun _ => nI 0)))] := hD
      refine lv_tableIn (tgt := 100) hx hb dX11_count_1 (by decide) (by decide) rfl (by decide) ?_
      refine lv_aload_n hx hb dX11_count_100 rfl (lv_at hl 0 rfl) ?_
      refine xget C hP 0 rfl rfl zuX11 0 (by decide) zw2_155 rfl dX11_count_101 ?_
      refine xget C hP 1 rfl rfl zuX7 2 (by decide) zw1_88 rfl dX11_count_104 ?_
      exact xreti C () (Or.inl ⟨2, by decide, rfl, by decide⟩) (xP_map hP [] rfl) (hD.sub [] (by decide +kernel) rfl) hS (Nat.le_of_ble_eq_true rfl) (Nat.le_of_ble_eq_true rfl) rfl dX11_count_107
    · -- k = 3
      have hP : va_P D vwCl [(h0, .inr (11, [.ref hr, .ref hg, .ref hgr, .ref ha, .ref hpo, .ref hly, .ref hse, .ref hc, .ref pa, .ref spr, .ref qm, .int (nI 0), .int (nI 0), .int (nI 0), .int dr, .int ver])), (hr, .inr (7, [.int (nI 4), .int (nI 2), .int (nI 2), .int (nI 3), .int (nI 2), .int (nI 1), .ref sm, .int (nI 3), .ref ca])), (ha, .inr (0, [.ref hr, .ref hg, .int z1, .int z2, .int z3])), (hg, .inr (4, [.ref nd, .ref kd, .ref lk, .ref vw])), (kd, .inl (cs 0, 8, .inl (fun _ => nI 0))), (vw, .inl (cs 2, 8, .inr (.inr (.inr (.inr (fun i => some (v i))))))), (nd, .inl (cs 0, 8, .inl (fun _ => nI 0))), (lk, .inl (cs 0, 8, .inl (fun _ => -1))), (v 0, .inr (10, [.int (nI 0), .int (nI 0), .ref (sv 0)])), (sv 0, .inl (cs 0, 32, .inl vF)), (v 1, .inr (10, [.int (nI 0), .int (nI 0), .ref (sv 1)])), (sv 1, .inl (cs 0, 32, .inl vF)), (v 2, .inr (10, [.int (nI 0), .int (nI 0), .ref (sv 2)])), (sv 2, .inl (cs 0, 32, .inl vF)), (v 3, .inr (10, [.int (nI 0), .int (nI 0), .ref (sv 3)])), (sv 3, .inl (cs 0, 32, .inl vF)), (hgr, .inr (3, [.int (nI 0), .ref gs, .ref g1r, .ref g2r, .ref gan, .ref gpr, .ref gde, .ref gme])), (hpo, .inr (6, [.ref hr, .ref hg, .ref hgr])), (qm, .inl (cs 0, 8, .inl (fun _ => nI 0)))] H := hP
      have hD : va_D A [(h0, .inr (11, [.ref hr, .ref hg, .ref hgr, .ref ha, .ref hpo, .ref hly, .ref hse, .ref hc, .ref pa, .ref spr, .ref qm, .int (nI 0), .int (nI 0), .int (nI 0), .int dr, .int ver])), (hr, .inr (7, [.int (nI 4), .int (nI 2), .int (nI 2), .int (nI 3), .int (nI 2), .int (nI 1), .ref sm, .int (nI 3), .ref ca])), (ha, .inr (0, [.ref hr, .ref hg, .int z1, .int z2, .int z3])), (hg, .inr (4, [.ref nd, .ref kd, .ref lk, .ref vw])), (kd, .inl (cs 0, 8, .inl (fun _ => nI 0))), (vw, .inl (cs 2, 8, .inr (.inr (.inr (.inr (fun i => some (v i))))))), (nd, .inl (cs 0, 8, .inl (fun _ => nI 0))), (lk, .inl (cs 0, 8, .inl (fun _ => -1))), (v 0, .inr (10, [.int (nI 0), .int (nI 0), .ref (sv 0)])), (sv 0, .inl (cs 0, 32, .inl vF)), (v 1, .inr (10, [.int (nI 0), .int (nI 0), .ref (sv 1)])), (sv 1, .inl (cs 0, 32, .inl vF)), (v 2, .inr (10, [.int (nI 0), .int (nI 0), .ref (sv 2)])), (sv 2, .inl (cs 0, 32, .inl vF)), (v 3, .inr (10, [.int (nI 0), .int (nI 0), .ref (sv 3)])), (sv 3, .inl (cs 0, 32, .inl vF)), (hgr, .inr (3, [.int (nI 0), .ref gs, .ref g1r, .ref g2r, .ref gan, .ref gpr, .ref gde, .ref gme])), (hpo, .inr (6, [.ref hr, .ref hg, .ref hgr])), (qm, .inl (cs 0, 8, .inl (fun _ => nI 0)))] := hD
      refine lv_tableIn (tgt := 108) hx hb dX11_count_1 (by decide) (by decide) rfl (by decide) ?_
      refine lv_aload_n hx hb dX11_count_108 rfl (lv_at hl 0 rfl) ?_
      refine xget C hP 0 rfl rfl zuX11 0 (by decide) zw2_155 rfl dX11_count_109 ?_
      refine xget C hP 1 rfl rfl zuX7 3 (by decide) zw1_90 rfl dX11_count_112 ?_
      exact xreti C () (Or.inl ⟨3, by decide, rfl, by decide⟩) (xP_map hP [] rfl) (hD.sub [] (by decide +kernel) rfl) hS (Nat.le_of_ble_eq_true rfl) (Nat.le_of_ble_eq_true rfl) rfl dX11_count_115
    · -- k = 4
      have hP : va_P D vwCl [(h0, .inr (11, [.ref hr, .ref hg, .ref hgr, .ref ha, .ref hpo, .ref hly, .ref hse, .ref hc, .ref pa, .ref spr, .ref qm, .int (nI 0), .int (nI 0), .int (nI 0), .int dr, .int ver])), (hr, .inr (7, [.int (nI 4), .int (nI 2), .int (nI 2), .int (nI 3), .int (nI 2), .int (nI 1), .ref sm, .int (nI 3), .ref ca])), (ha, .inr (0, [.ref hr, .ref hg, .int z1, .int z2, .int z3])), (hg, .inr (4, [.ref nd, .ref kd, .ref lk, .ref vw])), (kd, .inl (cs 0, 8, .inl (fun _ => nI 0))), (vw, .inl (cs 2, 8, .inr (.inr (.inr (.inr (fun i => some (v i))))))), (nd, .inl (cs 0, 8, .inl (fun _ => nI 0))), (lk, .inl (cs 0, 8, .inl (fun _ => -1))), (v 0, .inr (10, [.int (nI 0), .int (nI 0), .ref (sv 0)])), (sv 0, .inl (cs 0, 32, .inl vF)), (v 1, .inr (10, [.int (nI 0), .int (nI 0), .ref (sv 1)])), (sv 1, .inl (cs 0, 32, .inl vF)), (v 2, .inr (10, [.int (nI 0), .int (nI 0), .ref (sv 2)])), (sv 2, .inl (cs 0, 32, .inl vF)), (v 3, .inr (10, [.int (nI 0), .int (nI 0), .ref (sv 3)])), (sv 3, .inl (cs 0, 32, .inl vF)), (hgr, .inr (3, [.int (nI 0), .ref gs, .ref g1r, .ref g2r, .ref gan, .ref gpr, .ref gde, .ref gme])), (hpo, .inr (6, [.ref hr, .ref hg, .ref hgr])), (qm, .inl (cs 0, 8, .inl (fun _ => nI 0)))] H := hP
      have hD : va_D A [(h0, .inr (11, [.ref hr, .ref hg, .ref hgr, .ref ha, .ref hpo, .ref hly, .ref hse, .ref hc, .ref pa, .ref spr, .ref qm, .int (nI 0), .int (nI 0), .int (nI 0), .int dr, .int ver])), (hr, .inr (7, [.int (nI 4), .int (nI 2), .int (nI 2), .int (nI 3), .int (nI 2), .int (nI 1), .ref sm, .int (nI 3), .ref ca])), (ha, .inr (0, [.ref hr, .ref hg, .int z1, .int z2, .int z3])), (hg, .inr (4, [.ref nd, .ref kd, .ref lk, .ref vw])), (kd, .inl (cs 0, 8, .inl (fun _ => nI 0))), (vw, .inl (cs 2, 8, .inr (.inr (.inr (.inr (fun i => some (v i))))))), (nd, .inl (cs 0, 8, .inl (fun _ => nI 0))), (lk, .inl (cs 0, 8, .inl (fun _ => -1))), (v 0, .inr (10, [.int (nI 0), .int (nI 0), .ref (sv 0)])), (sv 0, .inl (cs 0, 32, .inl vF)), (v 1, .inr (10, [.int (nI 0), .int (nI 0), .ref (sv 1)])), (sv 1, .inl (cs 0, 32, .inl vF)), (v 2, .inr (10, [.int (nI 0), .int (nI 0), .ref (sv 2)])), (sv 2, .inl (cs 0, 32, .inl vF)), (v 3, .inr (10, [.int (nI 0), .int (nI 0), .ref (sv 3)])), (sv 3, .inl (cs 0, 32, .inl vF)), (hgr, .inr (3, [.int (nI 0), .ref gs, .ref g1r, .ref g2r, .ref gan, .ref gpr, .ref gde, .ref gme])), (hpo, .inr (6, [.ref hr, .ref hg, .ref hgr])), (qm, .inl (cs 0, 8, .inl (fun _ => nI 0)))] := hD
      refine lv_tableIn (tgt := 116) hx hb dX11_count_1 (by decide) (by decide) rfl (by decide) ?_
      refine lv_aload_n hx hb dX11_count_116 rfl (lv_at hl 0 rfl) ?_
      refine xget C hP 0 rfl rfl zuX11 0 (by decide) zw2_155 rfl dX11_count_117 ?_
      refine xget C hP 1 rfl rfl zuX7 4 (by decide) zw1_94 rfl dX11_count_120 ?_
      exact xreti C () (Or.inl ⟨4, by decide, rfl, by decide⟩) (xP_map hP [] rfl) (hD.sub [] (by decide +kernel) rfl) hS (Nat.le_of_ble_eq_true rfl) (Nat.le_of_ble_eq_true rfl) rfl dX11_count_123
    · -- k = 5
      have hP : va_P D vwCl [(h0, .inr (11, [.ref hr, .ref hg, .ref hgr, .ref ha, .ref hpo, .ref hly, .ref hse, .ref hc, .ref pa, .ref spr, .ref qm, .int (nI 0), .int (nI 0), .int (nI 0), .int dr, .int ver])), (hr, .inr (7, [.int (nI 4), .int (nI 2), .int (nI 2), .int (nI 3), .int (nI 2), .int (nI 1), .ref sm, .int (nI 3), .ref ca])), (ha, .inr (0, [.ref hr, .ref hg, .int z1, .int z2, .int z3])), (hg, .inr (4, [.ref nd, .ref kd, .ref lk, .ref vw])), (kd, .inl (cs 0, 8, .inl (fun _ => nI 0))), (vw, .inl (cs 2, 8, .inr (.inr (.inr (.inr (fun i => some (v i))))))), (nd, .inl (cs 0, 8, .inl (fun _ => nI 0))), (lk, .inl (cs 0, 8, .inl (fun _ => -1))), (v 0, .inr (10, [.int (nI 0), .int (nI 0), .ref (sv 0)])), (sv 0, .inl (cs 0, 32, .inl vF)), (v 1, .inr (10, [.int (nI 0), .int (nI 0), .ref (sv 1)])), (sv 1, .inl (cs 0, 32, .inl vF)), (v 2, .inr (10, [.int (nI 0), .int (nI 0), .ref (sv 2)])), (sv 2, .inl (cs 0, 32, .inl vF)), (v 3, .inr (10, [.int (nI 0), .int (nI 0), .ref (sv 3)])), (sv 3, .inl (cs 0, 32, .inl vF)), (hgr, .inr (3, [.int (nI 0), .ref gs, .ref g1r, .ref g2r, .ref gan, .ref gpr, .ref gde, .ref gme])), (hpo, .inr (6, [.ref hr, .ref hg, .ref hgr])), (qm, .inl (cs 0, 8, .inl (fun _ => nI 0)))] H := hP
      have hD : va_D A [(h0, .inr (11, [.ref hr, .ref hg, .ref hgr, .ref ha, .ref hpo, .ref hly, .ref hse, .ref hc, .ref pa, .ref spr, .ref qm, .int (nI 0), .int (nI 0), .int (nI 0), .int dr, .int ver])), (hr, .inr (7, [.int (nI 4), .int (nI 2), .int (nI 2), .int (nI 3), .int (nI 2), .int (nI 1), .ref sm, .int (nI 3), .ref ca])), (ha, .inr (0, [.ref hr, .ref hg, .int z1, .int z2, .int z3])), (hg, .inr (4, [.ref nd, .ref kd, .ref lk, .ref vw])), (kd, .inl (cs 0, 8, .inl (fun _ => nI 0))), (vw, .inl (cs 2, 8, .inr (.inr (.inr (.inr (fun i => some (v i))))))), (nd, .inl (cs 0, 8, .inl (fun _ => nI 0))), (lk, .inl (cs 0, 8, .inl (fun _ => -1))), (v 0, .inr (10, [.int (nI 0), .int (nI 0), .ref (sv 0)])), (sv 0, .inl (cs 0, 32, .inl vF)), (v 1, .inr (10, [.int (nI 0), .int (nI 0), .ref (sv 1)])), (sv 1, .inl (cs 0, 32, .inl vF)), (v 2, .inr (10, [.int (nI 0), .int (nI 0), .ref (sv 2)])), (sv 2, .inl (cs 0, 32, .inl vF)), (v 3, .inr (10, [.int (nI 0), .int (nI 0), .ref (sv 3)])), (sv 3, .inl (cs 0, 32, .inl vF)), (hgr, .inr (3, [.int (nI 0), .ref gs, .ref g1r, .ref g2r, .ref gan, .ref gpr, .ref gde, .ref gme])), (hpo, .inr (6, [.ref hr, .ref hg, .ref hgr])), (qm, .inl (cs 0, 8, .inl (fun _ => nI 0)))] := hD
      refine lv_tableIn (tgt := 124) hx hb dX11_count_1 (by decide) (by decide) rfl (by decide) ?_
      refine lv_aload_n hx hb dX11_count_124 rfl (lv_at hl 0 rfl) ?_
      refine xget C hP 0 rfl rfl zuX11 0 (by decide) zw2_155 rfl dX11_count_125 ?_
      refine xget C hP 1 rfl rfl zuX7 5 (by decide) zw1_97 rfl dX11_count_128 ?_
      exact xreti C () (Or.inl ⟨5, by decide, rfl, by decide⟩) (xP_map hP [] rfl) (hD.sub [] (by decide +kernel) rfl) hS (Nat.le_of_ble_eq_true rfl) (Nat.le_of_ble_eq_true rfl) rfl dX11_count_131
    · -- k = 6
      have hP : va_P D vwCl [(h0, .inr (11, [.ref hr, .ref hg, .ref hgr, .ref ha, .ref hpo, .ref hly, .ref hse, .ref hc, .ref pa, .ref spr, .ref qm, .int (nI 0), .int (nI 0), .int (nI 0), .int dr, .int ver])), (hr, .inr (7, [.int (nI 4), .int (nI 2), .int (nI 2), .int (nI 3), .int (nI 2), .int (nI 1), .ref sm, .int (nI 3), .ref ca])), (ha, .inr (0, [.ref hr, .ref hg, .int z1, .int z2, .int z3])), (hg, .inr (4, [.ref nd, .ref kd, .ref lk, .ref vw])), (kd, .inl (cs 0, 8, .inl (fun _ => nI 0))), (vw, .inl (cs 2, 8, .inr (.inr (.inr (.inr (fun i => some (v i))))))), (nd, .inl (cs 0, 8, .inl (fun _ => nI 0))), (lk, .inl (cs 0, 8, .inl (fun _ => -1))), (v 0, .inr (10, [.int (nI 0), .int (nI 0), .ref (sv 0)])), (sv 0, .inl (cs 0, 32, .inl vF)), (v 1, .inr (10, [.int (nI 0), .int (nI 0), .ref (sv 1)])), (sv 1, .inl (cs 0, 32, .inl vF)), (v 2, .inr (10, [.int (nI 0), .int (nI 0), .ref (sv 2)])), (sv 2, .inl (cs 0, 32, .inl vF)), (v 3, .inr (10, [.int (nI 0), .int (nI 0), .ref (sv 3)])), (sv 3, .inl (cs 0, 32, .inl vF)), (hgr, .inr (3, [.int (nI 0), .ref gs, .ref g1r, .ref g2r, .ref gan, .ref gpr, .ref gde, .ref gme])), (hpo, .inr (6, [.ref hr, .ref hg, .ref hgr])), (qm, .inl (cs 0, 8, .inl (fun _ => nI 0)))] H := hP
      have hD : va_D A [(h0, .inr (11, [.ref hr, .ref hg, .ref hgr, .ref ha, .ref hpo, .ref hly, .ref hse, .ref hc, .ref pa, .ref spr, .ref qm, .int (nI 0), .int (nI 0), .int (nI 0), .int dr, .int ver])), (hr, .inr (7, [.int (nI 4), .int (nI 2), .int (nI 2), .int (nI 3), .int (nI 2), .int (nI 1), .ref sm, .int (nI 3), .ref ca])), (ha, .inr (0, [.ref hr, .ref hg, .int z1, .int z2, .int z3])), (hg, .inr (4, [.ref nd, .ref kd, .ref lk, .ref vw])), (kd, .inl (cs 0, 8, .inl (fun _ => nI 0))), (vw, .inl (cs 2, 8, .inr (.inr (.inr (.inr (fun i => some (v i))))))), (nd, .inl (cs 0, 8, .inl (fun _ => nI 0))), (lk, .inl (cs 0, 8, .inl (fun _ => -1))), (v 0, .inr (10, [.int (nI 0), .int (nI 0), .ref (sv 0)])), (sv 0, .inl (cs 0, 32, .inl vF)), (v 1, .inr (10, [.int (nI 0), .int (nI 0), .ref (sv 1)])), (sv 1, .inl (cs 0, 32, .inl vF)), (v 2, .inr (10, [.int (nI 0), .int (nI 0), .ref (sv 2)])), (sv 2, .inl (cs 0, 32, .inl vF)), (v 3, .inr (10, [.int (nI 0), .int (nI 0), .ref (sv 3)])), (sv 3, .inl (cs 0, 32, .inl vF)), (hgr, .inr (3, [.int (nI 0), .ref gs, .ref g1r, .ref g2r, .ref gan, .ref gpr, .ref gde, .ref gme])), (hpo, .inr (6, [.ref hr, .ref hg, .ref hgr])), (qm, .inl (cs 0, 8, .inl (fun _ => nI 0)))] := hD
      refine lv_tableIn (tgt := 132) hx hb dX11_count_1 (by decide) (by decide) rfl (by decide) ?_
      refine lv_aload_n hx hb dX11_count_132 rfl (lv_at hl 0 rfl) ?_
      refine xget C hP 0 rfl rfl zuX11 1 (by decide) zw2_156 rfl dX11_count_133 ?_
      refine lv_aload_n hx hb dX11_count_136 rfl (lv_at hl 0 rfl) ?_
      refine xget C hP 0 rfl rfl zuX11 0 (by decide) zw2_155 rfl dX11_count_137 ?_
      refine xget C hP 1 rfl rfl zuX7 0 (by decide) zw1_82 rfl dX11_count_140 ?_
      refine xi (wr := [(h0, .inr (11, [.ref hr, .ref hg, .ref hgr, .ref ha, .ref hpo, .ref hly, .ref hse, .ref hc, .ref pa, .ref spr, .ref qm, .int (nI 0), .int (nI 0), .int (nI 0), .int dr, .int ver])), (hr, .inr (7, [.int (nI 4), .int (nI 2), .int (nI 2), .int (nI 3), .int (nI 2), .int (nI 1), .ref sm, .int (nI 3), .ref ca])), (ha, .inr (0, [.ref hr, .ref hg, .int z1, .int z2, .int z3])), (vw, .inl (cs 2, 8, .inr (.inr (.inr (.inr (fun i => some (v i))))))), (nd, .inl (cs 0, 8, .inl (fun _ => nI 0))), (lk, .inl (cs 0, 8, .inl (fun _ => -1))), (v 0, .inr (10, [.int (nI 0), .int (nI 0), .ref (sv 0)])), (sv 0, .inl (cs 0, 32, .inl vF)), (v 1, .inr (10, [.int (nI 0), .int (nI 0), .ref (sv 1)])), (sv 1, .inl (cs 0, 32, .inl vF)), (v 2, .inr (10, [.int (nI 0), .int (nI 0), .ref (sv 2)])), (sv 2, .inl (cs 0, 32, .inl vF)), (v 3, .inr (10, [.int (nI 0), .int (nI 0), .ref (sv 3)])), (sv 3, .inl (cs 0, 32, .inl vF)), (hgr, .inr (3, [.int (nI 0), .ref gs, .ref g1r, .ref g2r, .ref gan, .ref gpr, .ref gde, .ref gme])), (hpo, .inr (6, [.ref hr, .ref hg, .ref hgr])), (qm, .inl (cs 0, 8, .inl (fun _ => nI 0)))]) (xV (As := [.int (nI 4)]) (rest := []) C (c_X4_honestBits_z l D cs hg nd kd lk vw) kX11_379 hP hD [3, 4] rfl (by decide +kernel) 0 rfl rfl rfl ⟨Nat.le_of_ble_eq_true rfl, Nat.le_of_ble_eq_true rfl⟩ rfl hl.1 rfl (Nat.le_of_ble_eq_true rfl) dX11_count_143 ⟨Nat.le_of_ble_eq_true rfl, Nat.le_of_ble_eq_true rfl⟩) hP hD hS hA [3, 4] [0, 1, 2, 5, 6, 7, 8, 9, 10, 11, 12, 13, 14, 15, 16, 17, 18] rfl rfl (by decide +kernel) (by decide +kernel) (fun r_1 u_2 H locs hw_r_1 hP hD hS => ?_)
      have hw_r_1 : r_1 = nI 15 := hw_r_1
      refine W.widen (k := 0) (n := 0) (Nat.le_of_ble_eq_true rfl) (Nat.le_of_ble_eq_true rfl) ?_
      have hP : va_P D vwCl [(h0, .inr (11, [.ref hr, .ref hg, .ref hgr, .ref ha, .ref hpo, .ref hly, .ref hse, .ref hc, .ref pa, .ref spr, .ref qm, .int (nI 0), .int (nI 0), .int (nI 0), .int dr, .int ver])), (hr, .inr (7, [.int (nI 4), .int (nI 2), .int (nI 2), .int (nI 3), .int (nI 2), .int (nI 1), .ref sm, .int (nI 3), .ref ca])), (ha, .inr (0, [.ref hr, .ref hg, .int z1, .int z2, .int z3])), (vw, .inl (cs 2, 8, .inr (.inr (.inr (.inr (fun i => some (v i))))))), (nd, .inl (cs 0, 8, .inl (fun _ => nI 0))), (lk, .inl (cs 0, 8, .inl (fun _ => -1))), (v 0, .inr (10, [.int (nI 0), .int (nI 0), .ref (sv 0)])), (sv 0, .inl (cs 0, 32, .inl vF)), (v 1, .inr (10, [.int (nI 0), .int (nI 0), .ref (sv 1)])), (sv 1, .inl (cs 0, 32, .inl vF)), (v 2, .inr (10, [.int (nI 0), .int (nI 0), .ref (sv 2)])), (sv 2, .inl (cs 0, 32, .inl vF)), (v 3, .inr (10, [.int (nI 0), .int (nI 0), .ref (sv 3)])), (sv 3, .inl (cs 0, 32, .inl vF)), (hgr, .inr (3, [.int (nI 0), .ref gs, .ref g1r, .ref g2r, .ref gan, .ref gpr, .ref gde, .ref gme])), (hpo, .inr (6, [.ref hr, .ref hg, .ref hgr])), (qm, .inl (cs 0, 8, .inl (fun _ => nI 0))), (hg, .inr (4, [.ref nd, .ref kd, .ref lk, .ref vw])), (kd, .inl (cs 0, 8, .inl (fun _ => nI 0)))] H := hP
      have hD : va_D A [(h0, .inr (11, [.ref hr, .ref hg, .ref hgr, .ref ha, .ref hpo, .ref hly, .ref hse, .ref hc, .ref pa, .ref spr, .ref qm, .int (nI 0), .int (nI 0), .int (nI 0), .int dr, .int ver])), (hr, .inr (7, [.int (nI 4), .int (nI 2), .int (nI 2), .int (nI 3), .int (nI 2), .int (nI 1), .ref sm, .int (nI 3), .ref ca])), (ha, .inr (0, [.ref hr, .ref hg, .int z1, .int z2, .int z3])), (vw, .inl (cs 2, 8, .inr (.inr (.inr (.inr (fun i => some (v i))))))), (nd, .inl (cs 0, 8, .inl (fun _ => nI 0))), (lk, .inl (cs 0, 8, .inl (fun _ => -1))), (v 0, .inr (10, [.int (nI 0), .int (nI 0), .ref (sv 0)])), (sv 0, .inl (cs 0, 32, .inl vF)), (v 1, .inr (10, [.int (nI 0), .int (nI 0), .ref (sv 1)])), (sv 1, .inl (cs 0, 32, .inl vF)), (v 2, .inr (10, [.int (nI 0), .int (nI 0), .ref (sv 2)])), (sv 2, .inl (cs 0, 32, .inl vF)), (v 3, .inr (10, [.int (nI 0), .int (nI 0), .ref (sv 3)])), (sv 3, .inl (cs 0, 32, .inl vF)), (hgr, .inr (3, [.int (nI 0), .ref gs, .ref g1r, .ref g2r, .ref gan, .ref gpr, .ref gde, .ref gme])), (hpo, .inr (6, [.ref hr, .ref hg, .ref hgr])), (qm, .inl (cs 0, 8, .inl (fun _ => nI 0))), (hg, .inr (4, [.ref nd, .ref kd, .ref lk, .ref vw])), (kd, .inl (cs 0, 8, .inl (fun _ => nI 0)))] := hD
      subst hw_r_1
      exact xreti C () (Or.inl ⟨6, by decide, rfl, by decide⟩) (xP_map hP [] rfl) (hD.sub [] (by decide +kernel) rfl) hS (Nat.le_of_ble_eq_true rfl) (Nat.le_of_ble_eq_true rfl) rfl dX11_count_146
    · -- k = 7
      have hP : va_P D vwCl [(h0, .inr (11, [.ref hr, .ref hg, .ref hgr, .ref ha, .ref hpo, .ref hly, .ref hse, .ref hc, .ref pa, .ref spr, .ref qm, .int (nI 0), .int (nI 0), .int (nI 0), .int dr, .int ver])), (hr, .inr (7, [.int (nI 4), .int (nI 2), .int (nI 2), .int (nI 3), .int (nI 2), .int (nI 1), .ref sm, .int (nI 3), .ref ca])), (ha, .inr (0, [.ref hr, .ref hg, .int z1, .int z2, .int z3])), (hg, .inr (4, [.ref nd, .ref kd, .ref lk, .ref vw])), (kd, .inl (cs 0, 8, .inl (fun _ => nI 0))), (vw, .inl (cs 2, 8, .inr (.inr (.inr (.inr (fun i => some (v i))))))), (nd, .inl (cs 0, 8, .inl (fun _ => nI 0))), (lk, .inl (cs 0, 8, .inl (fun _ => -1))), (v 0, .inr (10, [.int (nI 0), .int (nI 0), .ref (sv 0)])), (sv 0, .inl (cs 0, 32, .inl vF)), (v 1, .inr (10, [.int (nI 0), .int (nI 0), .ref (sv 1)])), (sv 1, .inl (cs 0, 32, .inl vF)), (v 2, .inr (10, [.int (nI 0), .int (nI 0), .ref (sv 2)])), (sv 2, .inl (cs 0, 32, .inl vF)), (v 3, .inr (10, [.int (nI 0), .int (nI 0), .ref (sv 3)])), (sv 3, .inl (cs 0, 32, .inl vF)), (hgr, .inr (3, [.int (nI 0), .ref gs, .ref g1r, .ref g2r, .ref gan, .ref gpr, .ref gde, .ref gme])), (hpo, .inr (6, [.ref hr, .ref hg, .ref hgr])), (qm, .inl (cs 0, 8, .inl (fun _ => nI 0)))] H := hP
      have hD : va_D A [(h0, .inr (11, [.ref hr, .ref hg, .ref hgr, .ref ha, .ref hpo, .ref hly, .ref hse, .ref hc, .ref pa, .ref spr, .ref qm, .int (nI 0), .int (nI 0), .int (nI 0), .int dr, .int ver])), (hr, .inr (7, [.int (nI 4), .int (nI 2), .int (nI 2), .int (nI 3), .int (nI 2), .int (nI 1), .ref sm, .int (nI 3), .ref ca])), (ha, .inr (0, [.ref hr, .ref hg, .int z1, .int z2, .int z3])), (hg, .inr (4, [.ref nd, .ref kd, .ref lk, .ref vw])), (kd, .inl (cs 0, 8, .inl (fun _ => nI 0))), (vw, .inl (cs 2, 8, .inr (.inr (.inr (.inr (fun i => some (v i))))))), (nd, .inl (cs 0, 8, .inl (fun _ => nI 0))), (lk, .inl (cs 0, 8, .inl (fun _ => -1))), (v 0, .inr (10, [.int (nI 0), .int (nI 0), .ref (sv 0)])), (sv 0, .inl (cs 0, 32, .inl vF)), (v 1, .inr (10, [.int (nI 0), .int (nI 0), .ref (sv 1)])), (sv 1, .inl (cs 0, 32, .inl vF)), (v 2, .inr (10, [.int (nI 0), .int (nI 0), .ref (sv 2)])), (sv 2, .inl (cs 0, 32, .inl vF)), (v 3, .inr (10, [.int (nI 0), .int (nI 0), .ref (sv 3)])), (sv 3, .inl (cs 0, 32, .inl vF)), (hgr, .inr (3, [.int (nI 0), .ref gs, .ref g1r, .ref g2r, .ref gan, .ref gpr, .ref gde, .ref gme])), (hpo, .inr (6, [.ref hr, .ref hg, .ref hgr])), (qm, .inl (cs 0, 8, .inl (fun _ => nI 0)))] := hD
      refine lv_tableIn (tgt := 147) hx hb dX11_count_1 (by decide) (by decide) rfl (by decide) ?_
      refine lv_aload_n hx hb dX11_count_147 rfl (lv_at hl 0 rfl) ?_
      refine xget C hP 0 rfl rfl zuX11 1 (by decide) zw2_156 rfl dX11_count_148 ?_
      refine lv_aload_n hx hb dX11_count_151 rfl (lv_at hl 0 rfl) ?_
      refine xget C hP 0 rfl rfl zuX11 0 (by decide) zw2_155 rfl dX11_count_152 ?_
      refine xget C hP 1 rfl rfl zuX7 0 (by decide) zw1_82 rfl dX11_count_155 ?_
      refine xi (wr := [(h0, .inr (11, [.ref hr, .ref hg, .ref hgr, .ref ha, .ref hpo, .ref hly, .ref hse, .ref hc, .ref pa, .ref spr, .ref qm, .int (nI 0), .int (nI 0), .int (nI 0), .int dr, .int ver])), (hr, .inr (7, [.int (nI 4), .int (nI 2), .int (nI 2), .int (nI 3), .int (nI 2), .int (nI 1), .ref sm, .int (nI 3), .ref ca])), (ha, .inr (0, [.ref hr, .ref hg, .int z1, .int z2, .int z3])), (kd, .inl (cs 0, 8, .inl (fun _ => nI 0))), (vw, .inl (cs 2, 8, .inr (.inr (.inr (.inr (fun i => some (v i))))))), (lk, .inl (cs 0, 8, .inl (fun _ => -1))), (v 0, .inr (10, [.int (nI 0), .int (nI 0), .ref (sv 0)])), (sv 0, .inl (cs 0, 32, .inl vF)), (v 1, .inr (10, [.int (nI 0), .int (nI 0), .ref (sv 1)])), (sv 1, .inl (cs 0, 32, .inl vF)), (v 2, .inr (10, [.int (nI 0), .int (nI 0), .ref (sv 2)])), (sv 2, .inl (cs 0, 32, .inl vF)), (v 3, .inr (10, [.int (nI 0), .int (nI 0), .ref (sv 3)])), (sv 3, .inl (cs 0, 32, .inl vF)), (hgr, .inr (3, [.int (nI 0), .ref gs, .ref g1r, .ref g2r, .ref gan, .ref gpr, .ref gde, .ref gme])), (hpo, .inr (6, [.ref hr, .ref hg, .ref hgr])), (qm, .inl (cs 0, 8, .inl (fun _ => nI 0)))]) (xV (As := [.int (nI 4)]) (rest := []) C (c_X4_decidedBits_z l D cs hg nd kd lk vw) kX11_382 hP hD [3, 6] rfl (by decide +kernel) 0 rfl rfl rfl ⟨Nat.le_of_ble_eq_true rfl, Nat.le_of_ble_eq_true rfl⟩ rfl hl.1 rfl (Nat.le_of_ble_eq_true rfl) dX11_count_158 ⟨Nat.le_of_ble_eq_true rfl, Nat.le_of_ble_eq_true rfl⟩) hP hD hS hA [3, 6] [0, 1, 2, 4, 5, 7, 8, 9, 10, 11, 12, 13, 14, 15, 16, 17, 18] rfl rfl (by decide +kernel) (by decide +kernel) (fun r_3 u_4 H locs hw_r_3 hP hD hS => ?_)
      have hw_r_3 : r_3 = nI 0 := hw_r_3
      refine W.widen (k := 0) (n := 0) (Nat.le_of_ble_eq_true rfl) (Nat.le_of_ble_eq_true rfl) ?_
      have hP : va_P D vwCl [(h0, .inr (11, [.ref hr, .ref hg, .ref hgr, .ref ha, .ref hpo, .ref hly, .ref hse, .ref hc, .ref pa, .ref spr, .ref qm, .int (nI 0), .int (nI 0), .int (nI 0), .int dr, .int ver])), (hr, .inr (7, [.int (nI 4), .int (nI 2), .int (nI 2), .int (nI 3), .int (nI 2), .int (nI 1), .ref sm, .int (nI 3), .ref ca])), (ha, .inr (0, [.ref hr, .ref hg, .int z1, .int z2, .int z3])), (kd, .inl (cs 0, 8, .inl (fun _ => nI 0))), (vw, .inl (cs 2, 8, .inr (.inr (.inr (.inr (fun i => some (v i))))))), (lk, .inl (cs 0, 8, .inl (fun _ => -1))), (v 0, .inr (10, [.int (nI 0), .int (nI 0), .ref (sv 0)])), (sv 0, .inl (cs 0, 32, .inl vF)), (v 1, .inr (10, [.int (nI 0), .int (nI 0), .ref (sv 1)])), (sv 1, .inl (cs 0, 32, .inl vF)), (v 2, .inr (10, [.int (nI 0), .int (nI 0), .ref (sv 2)])), (sv 2, .inl (cs 0, 32, .inl vF)), (v 3, .inr (10, [.int (nI 0), .int (nI 0), .ref (sv 3)])), (sv 3, .inl (cs 0, 32, .inl vF)), (hgr, .inr (3, [.int (nI 0), .ref gs, .ref g1r, .ref g2r, .ref gan, .ref gpr, .ref gde, .ref gme])), (hpo, .inr (6, [.ref hr, .ref hg, .ref hgr])), (qm, .inl (cs 0, 8, .inl (fun _ => nI 0))), (hg, .inr (4, [.ref nd, .ref kd, .ref lk, .ref vw])), (nd, .inl (cs 0, 8, .inl (fun _ => nI 0)))] H := hP
      have hD : va_D A [(h0, .inr (11, [.ref hr, .ref hg, .ref hgr, .ref ha, .ref hpo, .ref hly, .ref hse, .ref hc, .ref pa, .ref spr, .ref qm, .int (nI 0), .int (nI 0), .int (nI 0), .int dr, .int ver])), (hr, .inr (7, [.int (nI 4), .int (nI 2), .int (nI 2), .int (nI 3), .int (nI 2), .int (nI 1), .ref sm, .int (nI 3), .ref ca])), (ha, .inr (0, [.ref hr, .ref hg, .int z1, .int z2, .int z3])), (kd, .inl (cs 0, 8, .inl (fun _ => nI 0))), (vw, .inl (cs 2, 8, .inr (.inr (.inr (.inr (fun i => some (v i))))))), (lk, .inl (cs 0, 8, .inl (fun _ => -1))), (v 0, .inr (10, [.int (nI 0), .int (nI 0), .ref (sv 0)])), (sv 0, .inl (cs 0, 32, .inl vF)), (v 1, .inr (10, [.int (nI 0), .int (nI 0), .ref (sv 1)])), (sv 1, .inl (cs 0, 32, .inl vF)), (v 2, .inr (10, [.int (nI 0), .int (nI 0), .ref (sv 2)])), (sv 2, .inl (cs 0, 32, .inl vF)), (v 3, .inr (10, [.int (nI 0), .int (nI 0), .ref (sv 3)])), (sv 3, .inl (cs 0, 32, .inl vF)), (hgr, .inr (3, [.int (nI 0), .ref gs, .ref g1r, .ref g2r, .ref gan, .ref gpr, .ref gde, .ref gme])), (hpo, .inr (6, [.ref hr, .ref hg, .ref hgr])), (qm, .inl (cs 0, 8, .inl (fun _ => nI 0))), (hg, .inr (4, [.ref nd, .ref kd, .ref lk, .ref vw])), (nd, .inl (cs 0, 8, .inl (fun _ => nI 0)))] := hD
      subst hw_r_3
      exact xreti C () (Or.inl ⟨7, by decide, rfl, by decide⟩) (xP_map hP [] rfl) (hD.sub [] (by decide +kernel) rfl) hS (Nat.le_of_ble_eq_true rfl) (Nat.le_of_ble_eq_true rfl) rfl dX11_count_161
    · -- k = 8
      have hP : va_P D vwCl [(h0, .inr (11, [.ref hr, .ref hg, .ref hgr, .ref ha, .ref hpo, .ref hly, .ref hse, .ref hc, .ref pa, .ref spr, .ref qm, .int (nI 0), .int (nI 0), .int (nI 0), .int dr, .int ver])), (hr, .inr (7, [.int (nI 4), .int (nI 2), .int (nI 2), .int (nI 3), .int (nI 2), .int (nI 1), .ref sm, .int (nI 3), .ref ca])), (ha, .inr (0, [.ref hr, .ref hg, .int z1, .int z2, .int z3])), (hg, .inr (4, [.ref nd, .ref kd, .ref lk, .ref vw])), (kd, .inl (cs 0, 8, .inl (fun _ => nI 0))), (vw, .inl (cs 2, 8, .inr (.inr (.inr (.inr (fun i => some (v i))))))), (nd, .inl (cs 0, 8, .inl (fun _ => nI 0))), (lk, .inl (cs 0, 8, .inl (fun _ => -1))), (v 0, .inr (10, [.int (nI 0), .int (nI 0), .ref (sv 0)])), (sv 0, .inl (cs 0, 32, .inl vF)), (v 1, .inr (10, [.int (nI 0), .int (nI 0), .ref (sv 1)])), (sv 1, .inl (cs 0, 32, .inl vF)), (v 2, .inr (10, [.int (nI 0), .int (nI 0), .ref (sv 2)])), (sv 2, .inl (cs 0, 32, .inl vF)), (v 3, .inr (10, [.int (nI 0), .int (nI 0), .ref (sv 3)])), (sv 3, .inl (cs 0, 32, .inl vF)), (hgr, .inr (3, [.int (nI 0), .ref gs, .ref g1r, .ref g2r, .ref gan, .ref gpr, .ref gde, .ref gme])), (hpo, .inr (6, [.ref hr, .ref hg, .ref hgr])), (qm, .inl (cs 0, 8, .inl (fun _ => nI 0)))] H := hP
      have hD : va_D A [(h0, .inr (11, [.ref hr, .ref hg, .ref hgr, .ref ha, .ref hpo, .ref hly, .ref hse, .ref hc, .ref pa, .ref spr, .ref qm, .int (nI 0), .int (nI 0), .int (nI 0), .int dr, .int ver])), (hr, .inr (7, [.int (nI 4), .int (nI 2), .int (nI 2), .int (nI 3), .int (nI 2), .int (nI 1), .ref sm, .int (nI 3), .ref ca])), (ha, .inr (0, [.ref hr, .ref hg, .int z1, .int z2, .int z3])), (hg, .inr (4, [.ref nd, .ref kd, .ref lk, .ref vw])), (kd, .inl (cs 0, 8, .inl (fun _ => nI 0))), (vw, .inl (cs 2, 8, .inr (.inr (.inr (.inr (fun i => some (v i))))))), (nd, .inl (cs 0, 8, .inl (fun _ => nI 0))), (lk, .inl (cs 0, 8, .inl (fun _ => -1))), (v 0, .inr (10, [.int (nI 0), .int (nI 0), .ref (sv 0)])), (sv 0, .inl (cs 0, 32, .inl vF)), (v 1, .inr (10, [.int (nI 0), .int (nI 0), .ref (sv 1)])), (sv 1, .inl (cs 0, 32, .inl vF)), (v 2, .inr (10, [.int (nI 0), .int (nI 0), .ref (sv 2)])), (sv 2, .inl (cs 0, 32, .inl vF)), (v 3, .inr (10, [.int (nI 0), .int (nI 0), .ref (sv 3)])), (sv 3, .inl (cs 0, 32, .inl vF)), (hgr, .inr (3, [.int (nI 0), .ref gs, .ref g1r, .ref g2r, .ref gan, .ref gpr, .ref gde, .ref gme])), (hpo, .inr (6, [.ref hr, .ref hg, .ref hgr])), (qm, .inl (cs 0, 8, .inl (fun _ => nI 0)))] := hD
      refine lv_tableIn (tgt := 162) hx hb dX11_count_1 (by decide) (by decide) rfl (by decide) ?_
      refine lv_aload_n hx hb dX11_count_162 rfl (lv_at hl 0 rfl) ?_
      refine xget C hP 0 rfl rfl zuX11 3 (by decide) zw2_158 rfl dX11_count_163 ?_
      refine lv_aload_n hx hb dX11_count_166 rfl (lv_at hl 0 rfl) ?_
      refine xget C hP 0 rfl rfl zuX11 1 (by decide) zw2_156 rfl dX11_count_167 ?_
      refine xget C hP 3 rfl rfl zuX4 0 (by decide) zw1_170 rfl dX11_count_170 ?_
      refine lv_iconst (v := nI 0) hx hb dX11_count_173 (by decide) ?_
      refine xi (wr := [(h0, .inr (11, [.ref hr, .ref hg, .ref hgr, .ref ha, .ref hpo, .ref hly, .ref hse, .ref hc, .ref pa, .ref spr, .ref qm, .int (nI 0), .int (nI 0), .int (nI 0), .int dr, .int ver])), (vw, .inl (cs 2, 8, .inr (.inr (.inr (.inr (fun i => some (v i))))))), (lk, .inl (cs 0, 8, .inl (fun _ => -1))), (v 0, .inr (10, [.int (nI 0), .int (nI 0), .ref (sv 0)])), (sv 0, .inl (cs 0, 32, .inl vF)), (v 1, .inr (10, [.int (nI 0), .int (nI 0), .ref (sv 1)])), (sv 1, .inl (cs 0, 32, .inl vF)), (v 2, .inr (10, [.int (nI 0), .int (nI 0), .ref (sv 2)])), (sv 2, .inl (cs 0, 32, .inl vF)), (v 3, .inr (10, [.int (nI 0), .int (nI 0), .ref (sv 3)])), (sv 3, .inl (cs 0, 32, .inl vF)), (hgr, .inr (3, [.int (nI 0), .ref gs, .ref g1r, .ref g2r, .ref gan, .ref gpr, .ref gde, .ref gme])), (hpo, .inr (6, [.ref hr, .ref hg, .ref hgr])), (qm, .inl (cs 0, 8, .inl (fun _ => nI 0)))]) (xV (As := [.ref nd, .int (nI 0)]) (rest := []) C (c_X0_honestOnes_z l D cs ha hr hg sm ca nd kd lk vw 2 2 3 z1 z2 z3 (nI 2) (nI 1) nd 8 0 (by decide) (by decide)) kX11_385 hP hD [2, 1, 3, 4, 6] rfl (by decide +kernel) 0 rfl rfl rfl ⟨Nat.le_of_ble_eq_true rfl, Nat.le_of_ble_eq_true rfl⟩ rfl hl.1 rfl (Nat.le_of_ble_eq_true rfl) dX11_count_174 ⟨Nat.le_of_ble_eq_true rfl, Nat.le_of_ble_eq_true rfl⟩) hP hD hS hA [2, 1, 3, 4, 6] [0, 5, 7, 8, 9, 10, 11, 12, 13, 14, 15, 16, 17, 18] rfl rfl (by decide +kernel) (by decide +kernel) (fun r_5 u_6 H locs hw_r_5 hP hD hS => ?_)
      have hw_r_5 : r_5 = nI 0 := hw_r_5
      refine W.widen (k := 0) (n := 0) (Nat.le_of_ble_eq_true rfl) (Nat.le_of_ble_eq_true rfl) ?_
      have hP : va_P D vwCl [(h0, .inr (11, [.ref hr, .ref hg, .ref hgr, .ref ha, .ref hpo, .ref hly, .ref hse, .ref hc, .ref pa, .ref spr, .ref qm, .int (nI 0), .int (nI 0), .int (nI 0), .int dr, .int ver])), (vw, .inl (cs 2, 8, .inr (.inr (.inr (.inr (fun i => some (v i))))))), (lk, .inl (cs 0, 8, .inl (fun _ => -1))), (v 0, .inr (10, [.int (nI 0), .int (nI 0), .ref (sv 0)])), (sv 0, .inl (cs 0, 32, .inl vF)), (v 1, .inr (10, [.int (nI 0), .int (nI 0), .ref (sv 1)])), (sv 1, .inl (cs 0, 32, .inl vF)), (v 2, .inr (10, [.int (nI 0), .int (nI 0), .ref (sv 2)])), (sv 2, .inl (cs 0, 32, .inl vF)), (v 3, .inr (10, [.int (nI 0), .int (nI 0), .ref (sv 3)])), (sv 3, .inl (cs 0, 32, .inl vF)), (hgr, .inr (3, [.int (nI 0), .ref gs, .ref g1r, .ref g2r, .ref gan, .ref gpr, .ref gde, .ref gme])), (hpo, .inr (6, [.ref hr, .ref hg, .ref hgr])), (qm, .inl (cs 0, 8, .inl (fun _ => nI 0))), (ha, .inr (0, [.ref hr, .ref hg, .int z1, .int z2, .int z3])), (hr, .inr (7, [.int (nI 4), .int (nI 2), .int (nI 2), .int (nI 3), .int (nI 2), .int (nI 1), .ref sm, .int (nI 3), .ref ca])), (hg, .inr (4, [.ref nd, .ref kd, .ref lk, .ref vw])), (kd, .inl (cs 0, 8, .inl (fun _ => nI 0))), (nd, .inl (cs 0, 8, .inl (fun _ => nI 0)))] H := hP
      have hD : va_D A [(h0, .inr (11, [.ref hr, .ref hg, .ref hgr, .ref ha, .ref hpo, .ref hly, .ref hse, .ref hc, .ref pa, .ref spr, .ref qm, .int (nI 0), .int (nI 0), .int (nI 0), .int dr, .int ver])), (vw, .inl (cs 2, 8, .inr (.inr (.inr (.inr (fun i => some (v i))))))), (lk, .inl (cs 0, 8, .inl (fun _ => -1))), (v 0, .inr (10, [.int (nI 0), .int (nI 0), .ref (sv 0)])), (sv 0, .inl (cs 0, 32, .inl vF)), (v 1, .inr (10, [.int (nI 0), .int (nI 0), .ref (sv 1)])), (sv 1, .inl (cs 0, 32, .inl vF)), (v 2, .inr (10, [.int (nI 0), .int (nI 0), .ref (sv 2)])), (sv 2, .inl (cs 0, 32, .inl vF)), (v 3, .inr (10, [.int (nI 0), .int (nI 0), .ref (sv 3)])), (sv 3, .inl (cs 0, 32, .inl vF)), (hgr, .inr (3, [.int (nI 0), .ref gs, .ref g1r, .ref g2r, .ref gan, .ref gpr, .ref gde, .ref gme])), (hpo, .inr (6, [.ref hr, .ref hg, .ref hgr])), (qm, .inl (cs 0, 8, .inl (fun _ => nI 0))), (ha, .inr (0, [.ref hr, .ref hg, .int z1, .int z2, .int z3])), (hr, .inr (7, [.int (nI 4), .int (nI 2), .int (nI 2), .int (nI 3), .int (nI 2), .int (nI 1), .ref sm, .int (nI 3), .ref ca])), (hg, .inr (4, [.ref nd, .ref kd, .ref lk, .ref vw])), (kd, .inl (cs 0, 8, .inl (fun _ => nI 0))), (nd, .inl (cs 0, 8, .inl (fun _ => nI 0)))] := hD
      subst hw_r_5
      exact xreti C () (Or.inl ⟨8, by decide, rfl, by decide⟩) (xP_map hP [] rfl) (hD.sub [] (by decide +kernel) rfl) hS (Nat.le_of_ble_eq_true rfl) (Nat.le_of_ble_eq_true rfl) rfl dX11_count_177
    · -- k = 9
      have hP : va_P D vwCl [(h0, .inr (11, [.ref hr, .ref hg, .ref hgr, .ref ha, .ref hpo, .ref hly, .ref hse, .ref hc, .ref pa, .ref spr, .ref qm, .int (nI 0), .int (nI 0), .int (nI 0), .int dr, .int ver])), (hr, .inr (7, [.int (nI 4), .int (nI 2), .int (nI 2), .int (nI 3), .int (nI 2), .int (nI 1), .ref sm, .int (nI 3), .ref ca])), (ha, .inr (0, [.ref hr, .ref hg, .int z1, .int z2, .int z3])), (hg, .inr (4, [.ref nd, .ref kd, .ref lk, .ref vw])), (kd, .inl (cs 0, 8, .inl (fun _ => nI 0))), (vw, .inl (cs 2, 8, .inr (.inr (.inr (.inr (fun i => some (v i))))))), (nd, .inl (cs 0, 8, .inl (fun _ => nI 0))), (lk, .inl (cs 0, 8, .inl (fun _ => -1))), (v 0, .inr (10, [.int (nI 0), .int (nI 0), .ref (sv 0)])), (sv 0, .inl (cs 0, 32, .inl vF)), (v 1, .inr (10, [.int (nI 0), .int (nI 0), .ref (sv 1)])), (sv 1, .inl (cs 0, 32, .inl vF)), (v 2, .inr (10, [.int (nI 0), .int (nI 0), .ref (sv 2)])), (sv 2, .inl (cs 0, 32, .inl vF)), (v 3, .inr (10, [.int (nI 0), .int (nI 0), .ref (sv 3)])), (sv 3, .inl (cs 0, 32, .inl vF)), (hgr, .inr (3, [.int (nI 0), .ref gs, .ref g1r, .ref g2r, .ref gan, .ref gpr, .ref gde, .ref gme])), (hpo, .inr (6, [.ref hr, .ref hg, .ref hgr])), (qm, .inl (cs 0, 8, .inl (fun _ => nI 0)))] H := hP
      have hD : va_D A [(h0, .inr (11, [.ref hr, .ref hg, .ref hgr, .ref ha, .ref hpo, .ref hly, .ref hse, .ref hc, .ref pa, .ref spr, .ref qm, .int (nI 0), .int (nI 0), .int (nI 0), .int dr, .int ver])), (hr, .inr (7, [.int (nI 4), .int (nI 2), .int (nI 2), .int (nI 3), .int (nI 2), .int (nI 1), .ref sm, .int (nI 3), .ref ca])), (ha, .inr (0, [.ref hr, .ref hg, .int z1, .int z2, .int z3])), (hg, .inr (4, [.ref nd, .ref kd, .ref lk, .ref vw])), (kd, .inl (cs 0, 8, .inl (fun _ => nI 0))), (vw, .inl (cs 2, 8, .inr (.inr (.inr (.inr (fun i => some (v i))))))), (nd, .inl (cs 0, 8, .inl (fun _ => nI 0))), (lk, .inl (cs 0, 8, .inl (fun _ => -1))), (v 0, .inr (10, [.int (nI 0), .int (nI 0), .ref (sv 0)])), (sv 0, .inl (cs 0, 32, .inl vF)), (v 1, .inr (10, [.int (nI 0), .int (nI 0), .ref (sv 1)])), (sv 1, .inl (cs 0, 32, .inl vF)), (v 2, .inr (10, [.int (nI 0), .int (nI 0), .ref (sv 2)])), (sv 2, .inl (cs 0, 32, .inl vF)), (v 3, .inr (10, [.int (nI 0), .int (nI 0), .ref (sv 3)])), (sv 3, .inl (cs 0, 32, .inl vF)), (hgr, .inr (3, [.int (nI 0), .ref gs, .ref g1r, .ref g2r, .ref gan, .ref gpr, .ref gde, .ref gme])), (hpo, .inr (6, [.ref hr, .ref hg, .ref hgr])), (qm, .inl (cs 0, 8, .inl (fun _ => nI 0)))] := hD
      refine lv_tableIn (tgt := 178) hx hb dX11_count_1 (by decide) (by decide) rfl (by decide) ?_
      refine lv_aload_n hx hb dX11_count_178 rfl (lv_at hl 0 rfl) ?_
      refine xget C hP 0 rfl rfl zuX11 2 (by decide) zw2_157 rfl dX11_count_179 ?_
      refine xget C hP 16 rfl rfl zuX3 0 (by decide) zw1_197 rfl dX11_count_182 ?_
      exact xreti C () (Or.inl ⟨9, by decide, rfl, by decide⟩) (xP_map hP [] rfl) (hD.sub [] (by decide +kernel) rfl) hS (Nat.le_of_ble_eq_true rfl) (Nat.le_of_ble_eq_true rfl) rfl dX11_count_185
    · -- k = 10
      have hP : va_P D vwCl [(h0, .inr (11, [.ref hr, .ref hg, .ref hgr, .ref ha, .ref hpo, .ref hly, .ref hse, .ref hc, .ref pa, .ref spr, .ref qm, .int (nI 0), .int (nI 0), .int (nI 0), .int dr, .int ver])), (hr, .inr (7, [.int (nI 4), .int (nI 2), .int (nI 2), .int (nI 3), .int (nI 2), .int (nI 1), .ref sm, .int (nI 3), .ref ca])), (ha, .inr (0, [.ref hr, .ref hg, .int z1, .int z2, .int z3])), (hg, .inr (4, [.ref nd, .ref kd, .ref lk, .ref vw])), (kd, .inl (cs 0, 8, .inl (fun _ => nI 0))), (vw, .inl (cs 2, 8, .inr (.inr (.inr (.inr (fun i => some (v i))))))), (nd, .inl (cs 0, 8, .inl (fun _ => nI 0))), (lk, .inl (cs 0, 8, .inl (fun _ => -1))), (v 0, .inr (10, [.int (nI 0), .int (nI 0), .ref (sv 0)])), (sv 0, .inl (cs 0, 32, .inl vF)), (v 1, .inr (10, [.int (nI 0), .int (nI 0), .ref (sv 1)])), (sv 1, .inl (cs 0, 32, .inl vF)), (v 2, .inr (10, [.int (nI 0), .int (nI 0), .ref (sv 2)])), (sv 2, .inl (cs 0, 32, .inl vF)), (v 3, .inr (10, [.int (nI 0), .int (nI 0), .ref (sv 3)])), (sv 3, .inl (cs 0, 32, .inl vF)), (hgr, .inr (3, [.int (nI 0), .ref gs, .ref g1r, .ref g2r, .ref gan, .ref gpr, .ref gde, .ref gme])), (hpo, .inr (6, [.ref hr, .ref hg, .ref hgr])), (qm, .inl (cs 0, 8, .inl (fun _ => nI 0)))] H := hP
      have hD : va_D A [(h0, .inr (11, [.ref hr, .ref hg, .ref hgr, .ref ha, .ref hpo, .ref hly, .ref hse, .ref hc, .ref pa, .ref spr, .ref qm, .int (nI 0), .int (nI 0), .int (nI 0), .int dr, .int ver])), (hr, .inr (7, [.int (nI 4), .int (nI 2), .int (nI 2), .int (nI 3), .int (nI 2), .int (nI 1), .ref sm, .int (nI 3), .ref ca])), (ha, .inr (0, [.ref hr, .ref hg, .int z1, .int z2, .int z3])), (hg, .inr (4, [.ref nd, .ref kd, .ref lk, .ref vw])), (kd, .inl (cs 0, 8, .inl (fun _ => nI 0))), (vw, .inl (cs 2, 8, .inr (.inr (.inr (.inr (fun i => some (v i))))))), (nd, .inl (cs 0, 8, .inl (fun _ => nI 0))), (lk, .inl (cs 0, 8, .inl (fun _ => -1))), (v 0, .inr (10, [.int (nI 0), .int (nI 0), .ref (sv 0)])), (sv 0, .inl (cs 0, 32, .inl vF)), (v 1, .inr (10, [.int (nI 0), .int (nI 0), .ref (sv 1)])), (sv 1, .inl (cs 0, 32, .inl vF)), (v 2, .inr (10, [.int (nI 0), .int (nI 0), .ref (sv 2)])), (sv 2, .inl (cs 0, 32, .inl vF)), (v 3, .inr (10, [.int (nI 0), .int (nI 0), .ref (sv 3)])), (sv 3, .inl (cs 0, 32, .inl vF)), (hgr, .inr (3, [.int (nI 0), .ref gs, .ref g1r, .ref g2r, .ref gan, .ref gpr, .ref gde, .ref gme])), (hpo, .inr (6, [.ref hr, .ref hg, .ref hgr])), (qm, .inl (cs 0, 8, .inl (fun _ => nI 0)))] := hD
      refine lv_tableIn (tgt := 186) hx hb dX11_count_1 (by decide) (by decide) rfl (by decide) ?_
      refine lv_aload_n hx hb dX11_count_186 rfl (lv_at hl 0 rfl) ?_
      refine xget C hP 0 rfl rfl zuX11 4 (by decide) zw2_159 rfl dX11_count_187 ?_
      refine xi (wr := [(h0, .inr (11, [.ref hr, .ref hg, .ref hgr, .ref ha, .ref hpo, .ref hly, .ref hse, .ref hc, .ref pa, .ref spr, .ref qm, .int (nI 0), .int (nI 0), .int (nI 0), .int dr, .int ver])), (ha, .inr (0, [.ref hr, .ref hg, .int z1, .int z2, .int z3])), (nd, .inl (cs 0, 8, .inl (fun _ => nI 0))), (lk, .inl (cs 0, 8, .inl (fun _ => -1))), (hgr, .inr (3, [.int (nI 0), .ref gs, .ref g1r, .ref g2r, .ref gan, .ref gpr, .ref gde, .ref gme])), (qm, .inl (cs 0, 8, .inl (fun _ => nI 0)))]) (xV (As := []) (rest := []) C (c_X6_splitSets_z l D cs hpo hr hg hgr sm ca nd kd lk vw v sv) kX11_389 hP hD [17, 1, 3, 4, 5, 8, 9, 10, 11, 12, 13, 14, 15] rfl (by decide +kernel) 0 rfl rfl rfl ⟨Nat.le_of_ble_eq_true rfl, Nat.le_of_ble_eq_true rfl⟩ rfl hl.1 rfl (Nat.le_of_ble_eq_true rfl) dX11_count_190 ⟨Nat.le_of_ble_eq_true rfl, Nat.le_of_ble_eq_true rfl⟩) hP hD hS hA [17, 1, 3, 4, 5, 8, 9, 10, 11, 12, 13, 14, 15] [0, 2, 6, 7, 16, 18] rfl rfl (by decide +kernel) (by decide +kernel) (fun r_7 u_8 H locs hw_r_7 hP hD hS => ?_)
      have hw_r_7 : r_7 = nI 0 := hw_r_7
      refine W.widen (k := 0) (n := 0) (Nat.le_of_ble_eq_true rfl) (Nat.le_of_ble_eq_true rfl) ?_
      have hP : va_P D vwCl [(h0, .inr (11, [.ref hr, .ref hg, .ref hgr, .ref ha, .ref hpo, .ref hly, .ref hse, .ref hc, .ref pa, .ref spr, .ref qm, .int (nI 0), .int (nI 0), .int (nI 0), .int dr, .int ver])), (ha, .inr (0, [.ref hr, .ref hg, .int z1, .int z2, .int z3])), (nd, .inl (cs 0, 8, .inl (fun _ => nI 0))), (lk, .inl (cs 0, 8, .inl (fun _ => -1))), (hgr, .inr (3, [.int (nI 0), .ref gs, .ref g1r, .ref g2r, .ref gan, .ref gpr, .ref gde, .ref gme])), (qm, .inl (cs 0, 8, .inl (fun _ => nI 0))), (hpo, .inr (6, [.ref hr, .ref hg, .ref hgr])), (hr, .inr (7, [.int (nI 4), .int (nI 2), .int (nI 2), .int (nI 3), .int (nI 2), .int (nI 1), .ref sm, .int (nI 3), .ref ca])), (hg, .inr (4, [.ref nd, .ref kd, .ref lk, .ref vw])), (kd, .inl (cs 0, 8, .inl (fun _ => nI 0))), (vw, .inl (cs 2, 8, .inr (.inr (.inr (.inr (fun i => some (v i))))))), (v 0, .inr (10, [.int (nI 0), .int (nI 0), .ref (sv 0)])), (sv 0, .inl (cs 0, 32, .inl vF)), (v 1, .inr (10, [.int (nI 0), .int (nI 0), .ref (sv 1)])), (sv 1, .inl (cs 0, 32, .inl vF)), (v 2, .inr (10, [.int (nI 0), .int (nI 0), .ref (sv 2)])), (sv 2, .inl (cs 0, 32, .inl vF)), (v 3, .inr (10, [.int (nI 0), .int (nI 0), .ref (sv 3)])), (sv 3, .inl (cs 0, 32, .inl vF))] H := hP
      have hD : va_D A [(h0, .inr (11, [.ref hr, .ref hg, .ref hgr, .ref ha, .ref hpo, .ref hly, .ref hse, .ref hc, .ref pa, .ref spr, .ref qm, .int (nI 0), .int (nI 0), .int (nI 0), .int dr, .int ver])), (ha, .inr (0, [.ref hr, .ref hg, .int z1, .int z2, .int z3])), (nd, .inl (cs 0, 8, .inl (fun _ => nI 0))), (lk, .inl (cs 0, 8, .inl (fun _ => -1))), (hgr, .inr (3, [.int (nI 0), .ref gs, .ref g1r, .ref g2r, .ref gan, .ref gpr, .ref gde, .ref gme])), (qm, .inl (cs 0, 8, .inl (fun _ => nI 0))), (hpo, .inr (6, [.ref hr, .ref hg, .ref hgr])), (hr, .inr (7, [.int (nI 4), .int (nI 2), .int (nI 2), .int (nI 3), .int (nI 2), .int (nI 1), .ref sm, .int (nI 3), .ref ca])), (hg, .inr (4, [.ref nd, .ref kd, .ref lk, .ref vw])), (kd, .inl (cs 0, 8, .inl (fun _ => nI 0))), (vw, .inl (cs 2, 8, .inr (.inr (.inr (.inr (fun i => some (v i))))))), (v 0, .inr (10, [.int (nI 0), .int (nI 0), .ref (sv 0)])), (sv 0, .inl (cs 0, 32, .inl vF)), (v 1, .inr (10, [.int (nI 0), .int (nI 0), .ref (sv 1)])), (sv 1, .inl (cs 0, 32, .inl vF)), (v 2, .inr (10, [.int (nI 0), .int (nI 0), .ref (sv 2)])), (sv 2, .inl (cs 0, 32, .inl vF)), (v 3, .inr (10, [.int (nI 0), .int (nI 0), .ref (sv 3)])), (sv 3, .inl (cs 0, 32, .inl vF))] := hD
      subst hw_r_7
      exact xreti C () (Or.inl ⟨10, by decide, rfl, by decide⟩) (xP_map hP [] rfl) (hD.sub [] (by decide +kernel) rfl) hS (Nat.le_of_ble_eq_true rfl) (Nat.le_of_ble_eq_true rfl) rfl dX11_count_193
    · -- k = 11
      have hP : va_P D vwCl [(h0, .inr (11, [.ref hr, .ref hg, .ref hgr, .ref ha, .ref hpo, .ref hly, .ref hse, .ref hc, .ref pa, .ref spr, .ref qm, .int (nI 0), .int (nI 0), .int (nI 0), .int dr, .int ver])), (hr, .inr (7, [.int (nI 4), .int (nI 2), .int (nI 2), .int (nI 3), .int (nI 2), .int (nI 1), .ref sm, .int (nI 3), .ref ca])), (ha, .inr (0, [.ref hr, .ref hg, .int z1, .int z2, .int z3])), (hg, .inr (4, [.ref nd, .ref kd, .ref lk, .ref vw])), (kd, .inl (cs 0, 8, .inl (fun _ => nI 0))), (vw, .inl (cs 2, 8, .inr (.inr (.inr (.inr (fun i => some (v i))))))), (nd, .inl (cs 0, 8, .inl (fun _ => nI 0))), (lk, .inl (cs 0, 8, .inl (fun _ => -1))), (v 0, .inr (10, [.int (nI 0), .int (nI 0), .ref (sv 0)])), (sv 0, .inl (cs 0, 32, .inl vF)), (v 1, .inr (10, [.int (nI 0), .int (nI 0), .ref (sv 1)])), (sv 1, .inl (cs 0, 32, .inl vF)), (v 2, .inr (10, [.int (nI 0), .int (nI 0), .ref (sv 2)])), (sv 2, .inl (cs 0, 32, .inl vF)), (v 3, .inr (10, [.int (nI 0), .int (nI 0), .ref (sv 3)])), (sv 3, .inl (cs 0, 32, .inl vF)), (hgr, .inr (3, [.int (nI 0), .ref gs, .ref g1r, .ref g2r, .ref gan, .ref gpr, .ref gde, .ref gme])), (hpo, .inr (6, [.ref hr, .ref hg, .ref hgr])), (qm, .inl (cs 0, 8, .inl (fun _ => nI 0)))] H := hP
      have hD : va_D A [(h0, .inr (11, [.ref hr, .ref hg, .ref hgr, .ref ha, .ref hpo, .ref hly, .ref hse, .ref hc, .ref pa, .ref spr, .ref qm, .int (nI 0), .int (nI 0), .int (nI 0), .int dr, .int ver])), (hr, .inr (7, [.int (nI 4), .int (nI 2), .int (nI 2), .int (nI 3), .int (nI 2), .int (nI 1), .ref sm, .int (nI 3), .ref ca])), (ha, .inr (0, [.ref hr, .ref hg, .int z1, .int z2, .int z3])), (hg, .inr (4, [.ref nd, .ref kd, .ref lk, .ref vw])), (kd, .inl (cs 0, 8, .inl (fun _ => nI 0))), (vw, .inl (cs 2, 8, .inr (.inr (.inr (.inr (fun i => some (v i))))))), (nd, .inl (cs 0, 8, .inl (fun _ => nI 0))), (lk, .inl (cs 0, 8, .inl (fun _ => -1))), (v 0, .inr (10, [.int (nI 0), .int (nI 0), .ref (sv 0)])), (sv 0, .inl (cs 0, 32, .inl vF)), (v 1, .inr (10, [.int (nI 0), .int (nI 0), .ref (sv 1)])), (sv 1, .inl (cs 0, 32, .inl vF)), (v 2, .inr (10, [.int (nI 0), .int (nI 0), .ref (sv 2)])), (sv 2, .inl (cs 0, 32, .inl vF)), (v 3, .inr (10, [.int (nI 0), .int (nI 0), .ref (sv 3)])), (sv 3, .inl (cs 0, 32, .inl vF)), (hgr, .inr (3, [.int (nI 0), .ref gs, .ref g1r, .ref g2r, .ref gan, .ref gpr, .ref gde, .ref gme])), (hpo, .inr (6, [.ref hr, .ref hg, .ref hgr])), (qm, .inl (cs 0, 8, .inl (fun _ => nI 0)))] := hD
      refine lv_tableIn (tgt := 194) hx hb dX11_count_1 (by decide) (by decide) rfl (by decide) ?_
      refine lv_aload_n hx hb dX11_count_194 rfl (lv_at hl 0 rfl) ?_
      refine xget C hP 0 rfl rfl zuX11 2 (by decide) zw2_157 rfl dX11_count_195 ?_
      refine xi (wr := [(h0, .inr (11, [.ref hr, .ref hg, .ref hgr, .ref ha, .ref hpo, .ref hly, .ref hse, .ref hc, .ref pa, .ref spr, .ref qm, .int (nI 0), .int (nI 0), .int (nI 0), .int dr, .int ver])), (hr, .inr (7, [.int (nI 4), .int (nI 2), .int (nI 2), .int (nI 3), .int (nI 2), .int (nI 1), .ref sm, .int (nI 3), .ref ca])), (ha, .inr (0, [.ref hr, .ref hg, .int z1, .int z2, .int z3])), (hg, .inr (4, [.ref nd, .ref kd, .ref lk, .ref vw])), (kd, .inl (cs 0, 8, .inl (fun _ => nI 0))), (vw, .inl (cs 2, 8, .inr (.inr (.inr (.inr (fun i => some (v i))))))), (nd, .inl (cs 0, 8, .inl (fun _ => nI 0))), (lk, .inl (cs 0, 8, .inl (fun _ => -1))), (v 0, .inr (10, [.int (nI 0), .int (nI 0), .ref (sv 0)])), (sv 0, .inl (cs 0, 32, .inl vF)), (v 1, .inr (10, [.int (nI 0), .int (nI 0), .ref (sv 1)])), (sv 1, .inl (cs 0, 32, .inl vF)), (v 2, .inr (10, [.int (nI 0), .int (nI 0), .ref (sv 2)])), (sv 2, .inl (cs 0, 32, .inl vF)), (v 3, .inr (10, [.int (nI 0), .int (nI 0), .ref (sv 3)])), (sv 3, .inl (cs 0, 32, .inl vF)), (hpo, .inr (6, [.ref hr, .ref hg, .ref hgr])), (qm, .inl (cs 0, 8, .inl (fun _ => nI 0)))]) (xV (As := []) (rest := []) C (c_X3_widest_z l D cs hgr gs g1r g2r gan gpr gde gme) kX11_393 hP hD [16] rfl (by decide +kernel) 0 rfl rfl rfl ⟨Nat.le_of_ble_eq_true rfl, Nat.le_of_ble_eq_true rfl⟩ rfl hl.1 rfl (Nat.le_of_ble_eq_true rfl) dX11_count_198 ⟨Nat.le_of_ble_eq_true rfl, Nat.le_of_ble_eq_true rfl⟩) hP hD hS hA [16] [0, 1, 2, 3, 4, 5, 6, 7, 8, 9, 10, 11, 12, 13, 14, 15, 17, 18] rfl rfl (by decide +kernel) (by decide +kernel) (fun r_9 u_10 H locs hw_r_9 hP hD hS => ?_)
      have hw_r_9 : r_9 = nI 0 := hw_r_9
      refine W.widen (k := 0) (n := 0) (Nat.le_of_ble_eq_true rfl) (Nat.le_of_ble_eq_true rfl) ?_
      have hP : va_P D vwCl [(h0, .inr (11, [.ref hr, .ref hg, .ref hgr, .ref ha, .ref hpo, .ref hly, .ref hse, .ref hc, .ref pa, .ref spr, .ref qm, .int (nI 0), .int (nI 0), .int (nI 0), .int dr, .int ver])), (hr, .inr (7, [.int (nI 4), .int (nI 2), .int (nI 2), .int (nI 3), .int (nI 2), .int (nI 1), .ref sm, .int (nI 3), .ref ca])), (ha, .inr (0, [.ref hr, .ref hg, .int z1, .int z2, .int z3])), (hg, .inr (4, [.ref nd, .ref kd, .ref lk, .ref vw])), (kd, .inl (cs 0, 8, .inl (fun _ => nI 0))), (vw, .inl (cs 2, 8, .inr (.inr (.inr (.inr (fun i => some (v i))))))), (nd, .inl (cs 0, 8, .inl (fun _ => nI 0))), (lk, .inl (cs 0, 8, .inl (fun _ => -1))), (v 0, .inr (10, [.int (nI 0), .int (nI 0), .ref (sv 0)])), (sv 0, .inl (cs 0, 32, .inl vF)), (v 1, .inr (10, [.int (nI 0), .int (nI 0), .ref (sv 1)])), (sv 1, .inl (cs 0, 32, .inl vF)), (v 2, .inr (10, [.int (nI 0), .int (nI 0), .ref (sv 2)])), (sv 2, .inl (cs 0, 32, .inl vF)), (v 3, .inr (10, [.int (nI 0), .int (nI 0), .ref (sv 3)])), (sv 3, .inl (cs 0, 32, .inl vF)), (hpo, .inr (6, [.ref hr, .ref hg, .ref hgr])), (qm, .inl (cs 0, 8, .inl (fun _ => nI 0))), (hgr, .inr (3, [.int (nI 0), .ref gs, .ref g1r, .ref g2r, .ref gan, .ref gpr, .ref gde, .ref gme]))] H := hP
      have hD : va_D A [(h0, .inr (11, [.ref hr, .ref hg, .ref hgr, .ref ha, .ref hpo, .ref hly, .ref hse, .ref hc, .ref pa, .ref spr, .ref qm, .int (nI 0), .int (nI 0), .int (nI 0), .int dr, .int ver])), (hr, .inr (7, [.int (nI 4), .int (nI 2), .int (nI 2), .int (nI 3), .int (nI 2), .int (nI 1), .ref sm, .int (nI 3), .ref ca])), (ha, .inr (0, [.ref hr, .ref hg, .int z1, .int z2, .int z3])), (hg, .inr (4, [.ref nd, .ref kd, .ref lk, .ref vw])), (kd, .inl (cs 0, 8, .inl (fun _ => nI 0))), (vw, .inl (cs 2, 8, .inr (.inr (.inr (.inr (fun i => some (v i))))))), (nd, .inl (cs 0, 8, .inl (fun _ => nI 0))), (lk, .inl (cs 0, 8, .inl (fun _ => -1))), (v 0, .inr (10, [.int (nI 0), .int (nI 0), .ref (sv 0)])), (sv 0, .inl (cs 0, 32, .inl vF)), (v 1, .inr (10, [.int (nI 0), .int (nI 0), .ref (sv 1)])), (sv 1, .inl (cs 0, 32, .inl vF)), (v 2, .inr (10, [.int (nI 0), .int (nI 0), .ref (sv 2)])), (sv 2, .inl (cs 0, 32, .inl vF)), (v 3, .inr (10, [.int (nI 0), .int (nI 0), .ref (sv 3)])), (sv 3, .inl (cs 0, 32, .inl vF)), (hpo, .inr (6, [.ref hr, .ref hg, .ref hgr])), (qm, .inl (cs 0, 8, .inl (fun _ => nI 0))), (hgr, .inr (3, [.int (nI 0), .ref gs, .ref g1r, .ref g2r, .ref gan, .ref gpr, .ref gde, .ref gme]))] := hD
      subst hw_r_9
      exact xreti C () (Or.inl ⟨11, by decide, rfl, by decide⟩) (xP_map hP [] rfl) (hD.sub [] (by decide +kernel) rfl) hS (Nat.le_of_ble_eq_true rfl) (Nat.le_of_ble_eq_true rfl) rfl dX11_count_201
    · -- k = 12
      have hP : va_P D vwCl [(h0, .inr (11, [.ref hr, .ref hg, .ref hgr, .ref ha, .ref hpo, .ref hly, .ref hse, .ref hc, .ref pa, .ref spr, .ref qm, .int (nI 0), .int (nI 0), .int (nI 0), .int dr, .int ver])), (hr, .inr (7, [.int (nI 4), .int (nI 2), .int (nI 2), .int (nI 3), .int (nI 2), .int (nI 1), .ref sm, .int (nI 3), .ref ca])), (ha, .inr (0, [.ref hr, .ref hg, .int z1, .int z2, .int z3])), (hg, .inr (4, [.ref nd, .ref kd, .ref lk, .ref vw])), (kd, .inl (cs 0, 8, .inl (fun _ => nI 0))), (vw, .inl (cs 2, 8, .inr (.inr (.inr (.inr (fun i => some (v i))))))), (nd, .inl (cs 0, 8, .inl (fun _ => nI 0))), (lk, .inl (cs 0, 8, .inl (fun _ => -1))), (v 0, .inr (10, [.int (nI 0), .int (nI 0), .ref (sv 0)])), (sv 0, .inl (cs 0, 32, .inl vF)), (v 1, .inr (10, [.int (nI 0), .int (nI 0), .ref (sv 1)])), (sv 1, .inl (cs 0, 32, .inl vF)), (v 2, .inr (10, [.int (nI 0), .int (nI 0), .ref (sv 2)])), (sv 2, .inl (cs 0, 32, .inl vF)), (v 3, .inr (10, [.int (nI 0), .int (nI 0), .ref (sv 3)])), (sv 3, .inl (cs 0, 32, .inl vF)), (hgr, .inr (3, [.int (nI 0), .ref gs, .ref g1r, .ref g2r, .ref gan, .ref gpr, .ref gde, .ref gme])), (hpo, .inr (6, [.ref hr, .ref hg, .ref hgr])), (qm, .inl (cs 0, 8, .inl (fun _ => nI 0)))] H := hP
      have hD : va_D A [(h0, .inr (11, [.ref hr, .ref hg, .ref hgr, .ref ha, .ref hpo, .ref hly, .ref hse, .ref hc, .ref pa, .ref spr, .ref qm, .int (nI 0), .int (nI 0), .int (nI 0), .int dr, .int ver])), (hr, .inr (7, [.int (nI 4), .int (nI 2), .int (nI 2), .int (nI 3), .int (nI 2), .int (nI 1), .ref sm, .int (nI 3), .ref ca])), (ha, .inr (0, [.ref hr, .ref hg, .int z1, .int z2, .int z3])), (hg, .inr (4, [.ref nd, .ref kd, .ref lk, .ref vw])), (kd, .inl (cs 0, 8, .inl (fun _ => nI 0))), (vw, .inl (cs 2, 8, .inr (.inr (.inr (.inr (fun i => some (v i))))))), (nd, .inl (cs 0, 8, .inl (fun _ => nI 0))), (lk, .inl (cs 0, 8, .inl (fun _ => -1))), (v 0, .inr (10, [.int (nI 0), .int (nI 0), .ref (sv 0)])), (sv 0, .inl (cs 0, 32, .inl vF)), (v 1, .inr (10, [.int (nI 0), .int (nI 0), .ref (sv 1)])), (sv 1, .inl (cs 0, 32, .inl vF)), (v 2, .inr (10, [.int (nI 0), .int (nI 0), .ref (sv 2)])), (sv 2, .inl (cs 0, 32, .inl vF)), (v 3, .inr (10, [.int (nI 0), .int (nI 0), .ref (sv 3)])), (sv 3, .inl (cs 0, 32, .inl vF)), (hgr, .inr (3, [.int (nI 0), .ref gs, .ref g1r, .ref g2r, .ref gan, .ref gpr, .ref gde, .ref gme])), (hpo, .inr (6, [.ref hr, .ref hg, .ref hgr])), (qm, .inl (cs 0, 8, .inl (fun _ => nI 0)))] := hD
      refine lv_tableIn (tgt := 202) hx hb dX11_count_1 (by decide) (by decide) rfl (by decide) ?_
      refine lv_aload_n hx hb dX11_count_202 rfl (lv_at hl 0 rfl) ?_
      refine xi (wr := [(ha, .inr (0, [.ref hr, .ref hg, .int z1, .int z2, .int z3])), (hg, .inr (4, [.ref nd, .ref kd, .ref lk, .ref vw])), (kd, .inl (cs 0, 8, .inl (fun _ => nI 0))), (vw, .inl (cs 2, 8, .inr (.inr (.inr (.inr (fun i => some (v i))))))), (nd, .inl (cs 0, 8, .inl (fun _ => nI 0))), (lk, .inl (cs 0, 8, .inl (fun _ => -1))), (v 0, .inr (10, [.int (nI 0), .int (nI 0), .ref (sv 0)])), (sv 0, .inl (cs 0, 32, .inl vF)), (v 1, .inr (10, [.int (nI 0), .int (nI 0), .ref (sv 1)])), (sv 1, .inl (cs 0, 32, .inl vF)), (v 2, .inr (10, [.int (nI 0), .int (nI 0), .ref (sv 2)])), (sv 2, .inl (cs 0, 32, .inl vF)), (v 3, .inr (10, [.int (nI 0), .int (nI 0), .ref (sv 3)])), (sv 3, .inl (cs 0, 32, .inl vF)), (hgr, .inr (3, [.int (nI 0), .ref gs, .ref g1r, .ref g2r, .ref gan, .ref gpr, .ref gde, .ref gme])), (hpo, .inr (6, [.ref hr, .ref hg, .ref hgr]))]) (xV (As := []) (rest := []) C (c_X11_allQueries_z l D cs h0 hr hg hgr ha hpo hly hse hc pa spr qm dr ver sm ca) kX11_396 hP hD [0, 1, 18] rfl (by decide +kernel) 0 rfl rfl rfl ⟨Nat.le_of_ble_eq_true rfl, Nat.le_of_ble_eq_true rfl⟩ rfl hl.1 rfl (Nat.le_of_ble_eq_true rfl) dX11_count_203 ⟨Nat.le_of_ble_eq_true rfl, Nat.le_of_ble_eq_true rfl⟩) hP hD hS hA [0, 1, 18] [2, 3, 4, 5, 6, 7, 8, 9, 10, 11, 12, 13, 14, 15, 16, 17] rfl rfl (by decide +kernel) (by decide +kernel) (fun r_11 u_12 H locs hw_r_11 hP hD hS => ?_)
      have hw_r_11 : r_11 = nI 0 := hw_r_11
      refine W.widen (k := 0) (n := 0) (Nat.le_of_ble_eq_true rfl) (Nat.le_of_ble_eq_true rfl) ?_
      have hP : va_P D vwCl [(ha, .inr (0, [.ref hr, .ref hg, .int z1, .int z2, .int z3])), (hg, .inr (4, [.ref nd, .ref kd, .ref lk, .ref vw])), (kd, .inl (cs 0, 8, .inl (fun _ => nI 0))), (vw, .inl (cs 2, 8, .inr (.inr (.inr (.inr (fun i => some (v i))))))), (nd, .inl (cs 0, 8, .inl (fun _ => nI 0))), (lk, .inl (cs 0, 8, .inl (fun _ => -1))), (v 0, .inr (10, [.int (nI 0), .int (nI 0), .ref (sv 0)])), (sv 0, .inl (cs 0, 32, .inl vF)), (v 1, .inr (10, [.int (nI 0), .int (nI 0), .ref (sv 1)])), (sv 1, .inl (cs 0, 32, .inl vF)), (v 2, .inr (10, [.int (nI 0), .int (nI 0), .ref (sv 2)])), (sv 2, .inl (cs 0, 32, .inl vF)), (v 3, .inr (10, [.int (nI 0), .int (nI 0), .ref (sv 3)])), (sv 3, .inl (cs 0, 32, .inl vF)), (hgr, .inr (3, [.int (nI 0), .ref gs, .ref g1r, .ref g2r, .ref gan, .ref gpr, .ref gde, .ref gme])), (hpo, .inr (6, [.ref hr, .ref hg, .ref hgr])), (h0, .inr (11, [.ref hr, .ref hg, .ref hgr, .ref ha, .ref hpo, .ref hly, .ref hse, .ref hc, .ref pa, .ref spr, .ref qm, .int (nI 0), .int (nI 0), .int (nI 0), .int dr, .int ver])), (hr, .inr (7, [.int (nI 4), .int (nI 2), .int (nI 2), .int (nI 3), .int (nI 2), .int (nI 1), .ref sm, .int (nI 3), .ref ca])), (qm, .inl (cs 0, 8, .inl (fun _ => nI 0)))] H := hP
      have hD : va_D A [(ha, .inr (0, [.ref hr, .ref hg, .int z1, .int z2, .int z3])), (hg, .inr (4, [.ref nd, .ref kd, .ref lk, .ref vw])), (kd, .inl (cs 0, 8, .inl (fun _ => nI 0))), (vw, .inl (cs 2, 8, .inr (.inr (.inr (.inr (fun i => some (v i))))))), (nd, .inl (cs 0, 8, .inl (fun _ => nI 0))), (lk, .inl (cs 0, 8, .inl (fun _ => -1))), (v 0, .inr (10, [.int (nI 0), .int (nI 0), .ref (sv 0)])), (sv 0, .inl (cs 0, 32, .inl vF)), (v 1, .inr (10, [.int (nI 0), .int (nI 0), .ref (sv 1)])), (sv 1, .inl (cs 0, 32, .inl vF)), (v 2, .inr (10, [.int (nI 0), .int (nI 0), .ref (sv 2)])), (sv 2, .inl (cs 0, 32, .inl vF)), (v 3, .inr (10, [.int (nI 0), .int (nI 0), .ref (sv 3)])), (sv 3, .inl (cs 0, 32, .inl vF)), (hgr, .inr (3, [.int (nI 0), .ref gs, .ref g1r, .ref g2r, .ref gan, .ref gpr, .ref gde, .ref gme])), (hpo, .inr (6, [.ref hr, .ref hg, .ref hgr])), (h0, .inr (11, [.ref hr, .ref hg, .ref hgr, .ref ha, .ref hpo, .ref hly, .ref hse, .ref hc, .ref pa, .ref spr, .ref qm, .int (nI 0), .int (nI 0), .int (nI 0), .int dr, .int ver])), (hr, .inr (7, [.int (nI 4), .int (nI 2), .int (nI 2), .int (nI 3), .int (nI 2), .int (nI 1), .ref sm, .int (nI 3), .ref ca])), (qm, .inl (cs 0, 8, .inl (fun _ => nI 0)))] := hD
      subst hw_r_11
      exact xreti C () (Or.inl ⟨12, by decide, rfl, by decide⟩) (xP_map hP [] rfl) (hD.sub [] (by decide +kernel) rfl) hS (Nat.le_of_ble_eq_true rfl) (Nat.le_of_ble_eq_true rfl) rfl dX11_count_206
    · -- k = 13
      have hP : va_P D vwCl [(h0, .inr (11, [.ref hr, .ref hg, .ref hgr, .ref ha, .ref hpo, .ref hly, .ref hse, .ref hc, .ref pa, .ref spr, .ref qm, .int (nI 0), .int (nI 0), .int (nI 0), .int dr, .int ver])), (hr, .inr (7, [.int (nI 4), .int (nI 2), .int (nI 2), .int (nI 3), .int (nI 2), .int (nI 1), .ref sm, .int (nI 3), .ref ca])), (ha, .inr (0, [.ref hr, .ref hg, .int z1, .int z2, .int z3])), (hg, .inr (4, [.ref nd, .ref kd, .ref lk, .ref vw])), (kd, .inl (cs 0, 8, .inl (fun _ => nI 0))), (vw, .inl (cs 2, 8, .inr (.inr (.inr (.inr (fun i => some (v i))))))), (nd, .inl (cs 0, 8, .inl (fun _ => nI 0))), (lk, .inl (cs 0, 8, .inl (fun _ => -1))), (v 0, .inr (10, [.int (nI 0), .int (nI 0), .ref (sv 0)])), (sv 0, .inl (cs 0, 32, .inl vF)), (v 1, .inr (10, [.int (nI 0), .int (nI 0), .ref (sv 1)])), (sv 1, .inl (cs 0, 32, .inl vF)), (v 2, .inr (10, [.int (nI 0), .int (nI 0), .ref (sv 2)])), (sv 2, .inl (cs 0, 32, .inl vF)), (v 3, .inr (10, [.int (nI 0), .int (nI 0), .ref (sv 3)])), (sv 3, .inl (cs 0, 32, .inl vF)), (hgr, .inr (3, [.int (nI 0), .ref gs, .ref g1r, .ref g2r, .ref gan, .ref gpr, .ref gde, .ref gme])), (hpo, .inr (6, [.ref hr, .ref hg, .ref hgr])), (qm, .inl (cs 0, 8, .inl (fun _ => nI 0)))] H := hP
      have hD : va_D A [(h0, .inr (11, [.ref hr, .ref hg, .ref hgr, .ref ha, .ref hpo, .ref hly, .ref hse, .ref hc, .ref pa, .ref spr, .ref qm, .int (nI 0), .int (nI 0), .int (nI 0), .int dr, .int ver])), (hr, .inr (7, [.int (nI 4), .int (nI 2), .int (nI 2), .int (nI 3), .int (nI 2), .int (nI 1), .ref sm, .int (nI 3), .ref ca])), (ha, .inr (0, [.ref hr, .ref hg, .int z1, .int z2, .int z3])), (hg, .inr (4, [.ref nd, .ref kd, .ref lk, .ref vw])), (kd, .inl (cs 0, 8, .inl (fun _ => nI 0))), (vw, .inl (cs 2, 8, .inr (.inr (.inr (.inr (fun i => some (v i))))))), (nd, .inl (cs 0, 8, .inl (fun _ => nI 0))), (lk, .inl (cs 0, 8, .inl (fun _ => -1))), (v 0, .inr (10, [.int (nI 0), .int (nI 0), .ref (sv 0)])), (sv 0, .inl (cs 0, 32, .inl vF)), (v 1, .inr (10, [.int (nI 0), .int (nI 0), .ref (sv 1)])), (sv 1, .inl (cs 0, 32, .inl vF)), (v 2, .inr (10, [.int (nI 0), .int (nI 0), .ref (sv 2)])), (sv 2, .inl (cs 0, 32, .inl vF)), (v 3, .inr (10, [.int (nI 0), .int (nI 0), .ref (sv 3)])), (sv 3, .inl (cs 0, 32, .inl vF)), (hgr, .inr (3, [.int (nI 0), .ref gs, .ref g1r, .ref g2r, .ref gan, .ref gpr, .ref gde, .ref gme])), (hpo, .inr (6, [.ref hr, .ref hg, .ref hgr])), (qm, .inl (cs 0, 8, .inl (fun _ => nI 0)))] := hD
      refine lv_tableIn (tgt := 207) hx hb dX11_count_1 (by decide) (by decide) rfl (by decide) ?_
      refine lv_aload_n hx hb dX11_count_207 rfl (lv_at hl 0 rfl) ?_
      refine xget C hP 0 rfl rfl zuX11 11 (by decide) zw2_166 rfl dX11_count_208 ?_
      exact xreti C () (Or.inl ⟨13, by decide, rfl, by decide⟩) (xP_map hP [] rfl) (hD.sub [] (by decide +kernel) rfl) hS (Nat.le_of_ble_eq_true rfl) (Nat.le_of_ble_eq_true rfl) rfl dX11_count_211
    · -- k = 14
      have hP : va_P D vwCl [(h0, .inr (11, [.ref hr, .ref hg, .ref hgr, .ref ha, .ref hpo, .ref hly, .ref hse, .ref hc, .ref pa, .ref spr, .ref qm, .int (nI 0), .int (nI 0), .int (nI 0), .int dr, .int ver])), (hr, .inr (7, [.int (nI 4), .int (nI 2), .int (nI 2), .int (nI 3), .int (nI 2), .int (nI 1), .ref sm, .int (nI 3), .ref ca])), (ha, .inr (0, [.ref hr, .ref hg, .int z1, .int z2, .int z3])), (hg, .inr (4, [.ref nd, .ref kd, .ref lk, .ref vw])), (kd, .inl (cs 0, 8, .inl (fun _ => nI 0))), (vw, .inl (cs 2, 8, .inr (.inr (.inr (.inr (fun i => some (v i))))))), (nd, .inl (cs 0, 8, .inl (fun _ => nI 0))), (lk, .inl (cs 0, 8, .inl (fun _ => -1))), (v 0, .inr (10, [.int (nI 0), .int (nI 0), .ref (sv 0)])), (sv 0, .inl (cs 0, 32, .inl vF)), (v 1, .inr (10, [.int (nI 0), .int (nI 0), .ref (sv 1)])), (sv 1, .inl (cs 0, 32, .inl vF)), (v 2, .inr (10, [.int (nI 0), .int (nI 0), .ref (sv 2)])), (sv 2, .inl (cs 0, 32, .inl vF)), (v 3, .inr (10, [.int (nI 0), .int (nI 0), .ref (sv 3)])), (sv 3, .inl (cs 0, 32, .inl vF)), (hgr, .inr (3, [.int (nI 0), .ref gs, .ref g1r, .ref g2r, .ref gan, .ref gpr, .ref gde, .ref gme])), (hpo, .inr (6, [.ref hr, .ref hg, .ref hgr])), (qm, .inl (cs 0, 8, .inl (fun _ => nI 0)))] H := hP
      have hD : va_D A [(h0, .inr (11, [.ref hr, .ref hg, .ref hgr, .ref ha, .ref hpo, .ref hly, .ref hse, .ref hc, .ref pa, .ref spr, .ref qm, .int (nI 0), .int (nI 0), .int (nI 0), .int dr, .int ver])), (hr, .inr (7, [.int (nI 4), .int (nI 2), .int (nI 2), .int (nI 3), .int (nI 2), .int (nI 1), .ref sm, .int (nI 3), .ref ca])), (ha, .inr (0, [.ref hr, .ref hg, .int z1, .int z2, .int z3])), (hg, .inr (4, [.ref nd, .ref kd, .ref lk, .ref vw])), (kd, .inl (cs 0, 8, .inl (fun _ => nI 0))), (vw, .inl (cs 2, 8, .inr (.inr (.inr (.inr (fun i => some (v i))))))), (nd, .inl (cs 0, 8, .inl (fun _ => nI 0))), (lk, .inl (cs 0, 8, .inl (fun _ => -1))), (v 0, .inr (10, [.int (nI 0), .int (nI 0), .ref (sv 0)])), (sv 0, .inl (cs 0, 32, .inl vF)), (v 1, .inr (10, [.int (nI 0), .int (nI 0), .ref (sv 1)])), (sv 1, .inl (cs 0, 32, .inl vF)), (v 2, .inr (10, [.int (nI 0), .int (nI 0), .ref (sv 2)])), (sv 2, .inl (cs 0, 32, .inl vF)), (v 3, .inr (10, [.int (nI 0), .int (nI 0), .ref (sv 3)])), (sv 3, .inl (cs 0, 32, .inl vF)), (hgr, .inr (3, [.int (nI 0), .ref gs, .ref g1r, .ref g2r, .ref gan, .ref gpr, .ref gde, .ref gme])), (hpo, .inr (6, [.ref hr, .ref hg, .ref hgr])), (qm, .inl (cs 0, 8, .inl (fun _ => nI 0)))] := hD
      refine lv_tableIn (tgt := 212) hx hb dX11_count_1 (by decide) (by decide) rfl (by decide) ?_
      refine lv_aload_n hx hb dX11_count_212 rfl (lv_at hl 0 rfl) ?_
      refine xget C hP 0 rfl rfl zuX11 3 (by decide) zw2_158 rfl dX11_count_213 ?_
      refine lv_aload_n hx hb dX11_count_216 rfl (lv_at hl 0 rfl) ?_
      refine xget C hP 0 rfl rfl zuX11 1 (by decide) zw2_156 rfl dX11_count_217 ?_
      refine xget C hP 3 rfl rfl zuX4 0 (by decide) zw1_170 rfl dX11_count_220 ?_
      refine lv_iconst (v := nI 0) hx hb dX11_count_223 (by decide) ?_
      refine xi (wr := [(h0, .inr (11, [.ref hr, .ref hg, .ref hgr, .ref ha, .ref hpo, .ref hly, .ref hse, .ref hc, .ref pa, .ref spr, .ref qm, .int (nI 0), .int (nI 0), .int (nI 0), .int dr, .int ver])), (vw, .inl (cs 2, 8, .inr (.inr (.inr (.inr (fun i => some (v i))))))), (lk, .inl (cs 0, 8, .inl (fun _ => -1))), (v 0, .inr (10, [.int (nI 0), .int (nI 0), .ref (sv 0)])), (sv 0, .inl (cs 0, 32, .inl vF)), (v 1, .inr (10, [.int (nI 0), .int (nI 0), .ref (sv 1)])), (sv 1, .inl (cs 0, 32, .inl vF)), (v 2, .inr (10, [.int (nI 0), .int (nI 0), .ref (sv 2)])), (sv 2, .inl (cs 0, 32, .inl vF)), (v 3, .inr (10, [.int (nI 0), .int (nI 0), .ref (sv 3)])), (sv 3, .inl (cs 0, 32, .inl vF)), (hgr, .inr (3, [.int (nI 0), .ref gs, .ref g1r, .ref g2r, .ref gan, .ref gpr, .ref gde, .ref gme])), (hpo, .inr (6, [.ref hr, .ref hg, .ref hgr])), (qm, .inl (cs 0, 8, .inl (fun _ => nI 0)))]) (xV (As := [.ref nd, .int (nI 0)]) (rest := []) C (c_X0_isSplit_z l D cs ha hr hg sm ca nd kd lk vw 2 2 3 z1 z2 z3 (nI 2) (nI 1) nd 8 0 (by decide) (by decide)) kX11_399 hP hD [2, 1, 3, 4, 6] rfl (by decide +kernel) 0 rfl rfl rfl ⟨Nat.le_of_ble_eq_true rfl, Nat.le_of_ble_eq_true rfl⟩ rfl hl.1 rfl (Nat.le_of_ble_eq_true rfl) dX11_count_224 ⟨Nat.le_of_ble_eq_true rfl, Nat.le_of_ble_eq_true rfl⟩) hP hD hS hA [2, 1, 3, 4, 6] [0, 5, 7, 8, 9, 10, 11, 12, 13, 14, 15, 16, 17, 18] rfl rfl (by decide +kernel) (by decide +kernel) (fun r_13 u_14 H locs hw_r_13 hP hD hS => ?_)
      have hw_r_13 : r_13 = nI 0 := hw_r_13
      refine W.widen (k := 0) (n := 0) (Nat.le_of_ble_eq_true rfl) (Nat.le_of_ble_eq_true rfl) ?_
      have hP : va_P D vwCl [(h0, .inr (11, [.ref hr, .ref hg, .ref hgr, .ref ha, .ref hpo, .ref hly, .ref hse, .ref hc, .ref pa, .ref spr, .ref qm, .int (nI 0), .int (nI 0), .int (nI 0), .int dr, .int ver])), (vw, .inl (cs 2, 8, .inr (.inr (.inr (.inr (fun i => some (v i))))))), (lk, .inl (cs 0, 8, .inl (fun _ => -1))), (v 0, .inr (10, [.int (nI 0), .int (nI 0), .ref (sv 0)])), (sv 0, .inl (cs 0, 32, .inl vF)), (v 1, .inr (10, [.int (nI 0), .int (nI 0), .ref (sv 1)])), (sv 1, .inl (cs 0, 32, .inl vF)), (v 2, .inr (10, [.int (nI 0), .int (nI 0), .ref (sv 2)])), (sv 2, .inl (cs 0, 32, .inl vF)), (v 3, .inr (10, [.int (nI 0), .int (nI 0), .ref (sv 3)])), (sv 3, .inl (cs 0, 32, .inl vF)), (hgr, .inr (3, [.int (nI 0), .ref gs, .ref g1r, .ref g2r, .ref gan, .ref gpr, .ref gde, .ref gme])), (hpo, .inr (6, [.ref hr, .ref hg, .ref hgr])), (qm, .inl (cs 0, 8, .inl (fun _ => nI 0))), (ha, .inr (0, [.ref hr, .ref hg, .int z1, .int z2, .int z3])), (hr, .inr (7, [.int (nI 4), .int (nI 2), .int (nI 2), .int (nI 3), .int (nI 2), .int (nI 1), .ref sm, .int (nI 3), .ref ca])), (hg, .inr (4, [.ref nd, .ref kd, .ref lk, .ref vw])), (kd, .inl (cs 0, 8, .inl (fun _ => nI 0))), (nd, .inl (cs 0, 8, .inl (fun _ => nI 0)))] H := hP
      have hD : va_D A [(h0, .inr (11, [.ref hr, .ref hg, .ref hgr, .ref ha, .ref hpo, .ref hly, .ref hse, .ref hc, .ref pa, .ref spr, .ref qm, .int (nI 0), .int (nI 0), .int (nI 0), .int dr, .int ver])), (vw, .inl (cs 2, 8, .inr (.inr (.inr (.inr (fun i => some (v i))))))), (lk, .inl (cs 0, 8, .inl (fun _ => -1))), (v 0, .inr (10, [.int (nI 0), .int (nI 0), .ref (sv 0)])), (sv 0, .inl (cs 0, 32, .inl vF)), (v 1, .inr (10, [.int (nI 0), .int (nI 0), .ref (sv 1)])), (sv 1, .inl (cs 0, 32, .inl vF)), (v 2, .inr (10, [.int (nI 0), .int (nI 0), .ref (sv 2)])), (sv 2, .inl (cs 0, 32, .inl vF)), (v 3, .inr (10, [.int (nI 0), .int (nI 0), .ref (sv 3)])), (sv 3, .inl (cs 0, 32, .inl vF)), (hgr, .inr (3, [.int (nI 0), .ref gs, .ref g1r, .ref g2r, .ref gan, .ref gpr, .ref gde, .ref gme])), (hpo, .inr (6, [.ref hr, .ref hg, .ref hgr])), (qm, .inl (cs 0, 8, .inl (fun _ => nI 0))), (ha, .inr (0, [.ref hr, .ref hg, .int z1, .int z2, .int z3])), (hr, .inr (7, [.int (nI 4), .int (nI 2), .int (nI 2), .int (nI 3), .int (nI 2), .int (nI 1), .ref sm, .int (nI 3), .ref ca])), (hg, .inr (4, [.ref nd, .ref kd, .ref lk, .ref vw])), (kd, .inl (cs 0, 8, .inl (fun _ => nI 0))), (nd, .inl (cs 0, 8, .inl (fun _ => nI 0)))] := hD
      subst hw_r_13
      refine lv_if_eq (tgt := 234) hx hb dX11_count_227 (by decide) (fun _ => ?_) (fun c => absurd (by decide) c)
      refine lv_iconst (v := nI 0) hx hb dX11_count_234 (by decide) ?_
      exact xreti C () (Or.inl ⟨14, by decide, rfl, by decide⟩) (xP_map hP [] rfl) (hD.sub [] (by decide +kernel) rfl) hS (Nat.le_of_ble_eq_true rfl) (Nat.le_of_ble_eq_true rfl) rfl dX11_count_235
    · -- k = 15
      have hP : va_P D vwCl [(h0, .inr (11, [.ref hr, .ref hg, .ref hgr, .ref ha, .ref hpo, .ref hly, .ref hse, .ref hc, .ref pa, .ref spr, .ref qm, .int (nI 0), .int (nI 0), .int (nI 0), .int dr, .int ver])), (hr, .inr (7, [.int (nI 4), .int (nI 2), .int (nI 2), .int (nI 3), .int (nI 2), .int (nI 1), .ref sm, .int (nI 3), .ref ca])), (ha, .inr (0, [.ref hr, .ref hg, .int z1, .int z2, .int z3])), (hg, .inr (4, [.ref nd, .ref kd, .ref lk, .ref vw])), (kd, .inl (cs 0, 8, .inl (fun _ => nI 0))), (vw, .inl (cs 2, 8, .inr (.inr (.inr (.inr (fun i => some (v i))))))), (nd, .inl (cs 0, 8, .inl (fun _ => nI 0))), (lk, .inl (cs 0, 8, .inl (fun _ => -1))), (v 0, .inr (10, [.int (nI 0), .int (nI 0), .ref (sv 0)])), (sv 0, .inl (cs 0, 32, .inl vF)), (v 1, .inr (10, [.int (nI 0), .int (nI 0), .ref (sv 1)])), (sv 1, .inl (cs 0, 32, .inl vF)), (v 2, .inr (10, [.int (nI 0), .int (nI 0), .ref (sv 2)])), (sv 2, .inl (cs 0, 32, .inl vF)), (v 3, .inr (10, [.int (nI 0), .int (nI 0), .ref (sv 3)])), (sv 3, .inl (cs 0, 32, .inl vF)), (hgr, .inr (3, [.int (nI 0), .ref gs, .ref g1r, .ref g2r, .ref gan, .ref gpr, .ref gde, .ref gme])), (hpo, .inr (6, [.ref hr, .ref hg, .ref hgr])), (qm, .inl (cs 0, 8, .inl (fun _ => nI 0)))] H := hP
      have hD : va_D A [(h0, .inr (11, [.ref hr, .ref hg, .ref hgr, .ref ha, .ref hpo, .ref hly, .ref hse, .ref hc, .ref pa, .ref spr, .ref qm, .int (nI 0), .int (nI 0), .int (nI 0), .int dr, .int ver])), (hr, .inr (7, [.int (nI 4), .int (nI 2), .int (nI 2), .int (nI 3), .int (nI 2), .int (nI 1), .ref sm, .int (nI 3), .ref ca])), (ha, .inr (0, [.ref hr, .ref hg, .int z1, .int z2, .int z3])), (hg, .inr (4, [.ref nd, .ref kd, .ref lk, .ref vw])), (kd, .inl (cs 0, 8, .inl (fun _ => nI 0))), (vw, .inl (cs 2, 8, .inr (.inr (.inr (.inr (fun i => some (v i))))))), (nd, .inl (cs 0, 8, .inl (fun _ => nI 0))), (lk, .inl (cs 0, 8, .inl (fun _ => -1))), (v 0, .inr (10, [.int (nI 0), .int (nI 0), .ref (sv 0)])), (sv 0, .inl (cs 0, 32, .inl vF)), (v 1, .inr (10, [.int (nI 0), .int (nI 0), .ref (sv 1)])), (sv 1, .inl (cs 0, 32, .inl vF)), (v 2, .inr (10, [.int (nI 0), .int (nI 0), .ref (sv 2)])), (sv 2, .inl (cs 0, 32, .inl vF)), (v 3, .inr (10, [.int (nI 0), .int (nI 0), .ref (sv 3)])), (sv 3, .inl (cs 0, 32, .inl vF)), (hgr, .inr (3, [.int (nI 0), .ref gs, .ref g1r, .ref g2r, .ref gan, .ref gpr, .ref gde, .ref gme])), (hpo, .inr (6, [.ref hr, .ref hg, .ref hgr])), (qm, .inl (cs 0, 8, .inl (fun _ => nI 0)))] := hD
      refine lv_tableIn (tgt := 236) hx hb dX11_count_1 (by decide) (by decide) rfl (by decide) ?_
      refine lv_aload_n hx hb dX11_count_236 rfl (lv_at hl 0 rfl) ?_
      refine xget C hP 0 rfl rfl zuX11 1 (by decide) zw2_156 rfl dX11_count_237 ?_
      refine lv_aload_n hx hb dX11_count_240 rfl (lv_at hl 0 rfl) ?_
      refine xget C hP 0 rfl rfl zuX11 0 (by decide) zw2_155 rfl dX11_count_241 ?_
      refine xget C hP 1 rfl rfl zuX7 0 (by decide) zw1_82 rfl dX11_count_244 ?_
      refine xi (wr := [(h0, .inr (11, [.ref hr, .ref hg, .ref hgr, .ref ha, .ref hpo, .ref hly, .ref hse, .ref hc, .ref pa, .ref spr, .ref qm, .int (nI 0), .int (nI 0), .int (nI 0), .int dr, .int ver])), (hr, .inr (7, [.int (nI 4), .int (nI 2), .int (nI 2), .int (nI 3), .int (nI 2), .int (nI 1), .ref sm, .int (nI 3), .ref ca])), (ha, .inr (0, [.ref hr, .ref hg, .int z1, .int z2, .int z3])), (kd, .inl (cs 0, 8, .inl (fun _ => nI 0))), (vw, .inl (cs 2, 8, .inr (.inr (.inr (.inr (fun i => some (v i))))))), (nd, .inl (cs 0, 8, .inl (fun _ => nI 0))), (v 0, .inr (10, [.int (nI 0), .int (nI 0), .ref (sv 0)])), (sv 0, .inl (cs 0, 32, .inl vF)), (v 1, .inr (10, [.int (nI 0), .int (nI 0), .ref (sv 1)])), (sv 1, .inl (cs 0, 32, .inl vF)), (v 2, .inr (10, [.int (nI 0), .int (nI 0), .ref (sv 2)])), (sv 2, .inl (cs 0, 32, .inl vF)), (v 3, .inr (10, [.int (nI 0), .int (nI 0), .ref (sv 3)])), (sv 3, .inl (cs 0, 32, .inl vF)), (hgr, .inr (3, [.int (nI 0), .ref gs, .ref g1r, .ref g2r, .ref gan, .ref gpr, .ref gde, .ref gme])), (hpo, .inr (6, [.ref hr, .ref hg, .ref hgr])), (qm, .inl (cs 0, 8, .inl (fun _ => nI 0)))]) (xV (As := [.int (nI 4)]) (rest := []) C (c_X4_unlinkedPairs_z l D cs hg nd kd lk vw) kX11_403 hP hD [3, 7] rfl (by decide +kernel) 0 rfl rfl rfl ⟨Nat.le_of_ble_eq_true rfl, Nat.le_of_ble_eq_true rfl⟩ rfl hl.1 rfl (Nat.le_of_ble_eq_true rfl) dX11_count_247 ⟨Nat.le_of_ble_eq_true rfl, Nat.le_of_ble_eq_true rfl⟩) hP hD hS hA [3, 7] [0, 1, 2, 4, 5, 6, 8, 9, 10, 11, 12, 13, 14, 15, 16, 17, 18] rfl rfl (by decide +kernel) (by decide +kernel) (fun r_15 u_16 H locs hw_r_15 hP hD hS => ?_)
      have hw_r_15 : r_15 = nI 0 := hw_r_15
      refine W.widen (k := 0) (n := 0) (Nat.le_of_ble_eq_true rfl) (Nat.le_of_ble_eq_true rfl) ?_
      have hP : va_P D vwCl [(h0, .inr (11, [.ref hr, .ref hg, .ref hgr, .ref ha, .ref hpo, .ref hly, .ref hse, .ref hc, .ref pa, .ref spr, .ref qm, .int (nI 0), .int (nI 0), .int (nI 0), .int dr, .int ver])), (hr, .inr (7, [.int (nI 4), .int (nI 2), .int (nI 2), .int (nI 3), .int (nI 2), .int (nI 1), .ref sm, .int (nI 3), .ref ca])), (ha, .inr (0, [.ref hr, .ref hg, .int z1, .int z2, .int z3])), (kd, .inl (cs 0, 8, .inl (fun _ => nI 0))), (vw, .inl (cs 2, 8, .inr (.inr (.inr (.inr (fun i => some (v i))))))), (nd, .inl (cs 0, 8, .inl (fun _ => nI 0))), (v 0, .inr (10, [.int (nI 0), .int (nI 0), .ref (sv 0)])), (sv 0, .inl (cs 0, 32, .inl vF)), (v 1, .inr (10, [.int (nI 0), .int (nI 0), .ref (sv 1)])), (sv 1, .inl (cs 0, 32, .inl vF)), (v 2, .inr (10, [.int (nI 0), .int (nI 0), .ref (sv 2)])), (sv 2, .inl (cs 0, 32, .inl vF)), (v 3, .inr (10, [.int (nI 0), .int (nI 0), .ref (sv 3)])), (sv 3, .inl (cs 0, 32, .inl vF)), (hgr, .inr (3, [.int (nI 0), .ref gs, .ref g1r, .ref g2r, .ref gan, .ref gpr, .ref gde, .ref gme])), (hpo, .inr (6, [.ref hr, .ref hg, .ref hgr])), (qm, .inl (cs 0, 8, .inl (fun _ => nI 0))), (hg, .inr (4, [.ref nd, .ref kd, .ref lk, .ref vw])), (lk, .inl (cs 0, 8, .inl (fun _ => -1)))] H := hP
      have hD : va_D A [(h0, .inr (11, [.ref hr, .ref hg, .ref hgr, .ref ha, .ref hpo, .ref hly, .ref hse, .ref hc, .ref pa, .ref spr, .ref qm, .int (nI 0), .int (nI 0), .int (nI 0), .int dr, .int ver])), (hr, .inr (7, [.int (nI 4), .int (nI 2), .int (nI 2), .int (nI 3), .int (nI 2), .int (nI 1), .ref sm, .int (nI 3), .ref ca])), (ha, .inr (0, [.ref hr, .ref hg, .int z1, .int z2, .int z3])), (kd, .inl (cs 0, 8, .inl (fun _ => nI 0))), (vw, .inl (cs 2, 8, .inr (.inr (.inr (.inr (fun i => some (v i))))))), (nd, .inl (cs 0, 8, .inl (fun _ => nI 0))), (v 0, .inr (10, [.int (nI 0), .int (nI 0), .ref (sv 0)])), (sv 0, .inl (cs 0, 32, .inl vF)), (v 1, .inr (10, [.int (nI 0), .int (nI 0), .ref (sv 1)])), (sv 1, .inl (cs 0, 32, .inl vF)), (v 2, .inr (10, [.int (nI 0), .int (nI 0), .ref (sv 2)])), (sv 2, .inl (cs 0, 32, .inl vF)), (v 3, .inr (10, [.int (nI 0), .int (nI 0), .ref (sv 3)])), (sv 3, .inl (cs 0, 32, .inl vF)), (hgr, .inr (3, [.int (nI 0), .ref gs, .ref g1r, .ref g2r, .ref gan, .ref gpr, .ref gde, .ref gme])), (hpo, .inr (6, [.ref hr, .ref hg, .ref hgr])), (qm, .inl (cs 0, 8, .inl (fun _ => nI 0))), (hg, .inr (4, [.ref nd, .ref kd, .ref lk, .ref vw])), (lk, .inl (cs 0, 8, .inl (fun _ => -1)))] := hD
      subst hw_r_15
      exact xreti C () (Or.inl ⟨15, by decide, rfl, by decide⟩) (xP_map hP [] rfl) (hD.sub [] (by decide +kernel) rfl) hS (Nat.le_of_ble_eq_true rfl) (Nat.le_of_ble_eq_true rfl) rfl dX11_count_250
    · -- k = 16
      have hP : va_P D vwCl [(h0, .inr (11, [.ref hr, .ref hg, .ref hgr, .ref ha, .ref hpo, .ref hly, .ref hse, .ref hc, .ref pa, .ref spr, .ref qm, .int (nI 0), .int (nI 0), .int (nI 0), .int dr, .int ver])), (hr, .inr (7, [.int (nI 4), .int (nI 2), .int (nI 2), .int (nI 3), .int (nI 2), .int (nI 1), .ref sm, .int (nI 3), .ref ca])), (ha, .inr (0, [.ref hr, .ref hg, .int z1, .int z2, .int z3])), (hg, .inr (4, [.ref nd, .ref kd, .ref lk, .ref vw])), (kd, .inl (cs 0, 8, .inl (fun _ => nI 0))), (vw, .inl (cs 2, 8, .inr (.inr (.inr (.inr (fun i => some (v i))))))), (nd, .inl (cs 0, 8, .inl (fun _ => nI 0))), (lk, .inl (cs 0, 8, .inl (fun _ => -1))), (v 0, .inr (10, [.int (nI 0), .int (nI 0), .ref (sv 0)])), (sv 0, .inl (cs 0, 32, .inl vF)), (v 1, .inr (10, [.int (nI 0), .int (nI 0), .ref (sv 1)])), (sv 1, .inl (cs 0, 32, .inl vF)), (v 2, .inr (10, [.int (nI 0), .int (nI 0), .ref (sv 2)])), (sv 2, .inl (cs 0, 32, .inl vF)), (v 3, .inr (10, [.int (nI 0), .int (nI 0), .ref (sv 3)])), (sv 3, .inl (cs 0, 32, .inl vF)), (hgr, .inr (3, [.int (nI 0), .ref gs, .ref g1r, .ref g2r, .ref gan, .ref gpr, .ref gde, .ref gme])), (hpo, .inr (6, [.ref hr, .ref hg, .ref hgr])), (qm, .inl (cs 0, 8, .inl (fun _ => nI 0)))] H := hP
      have hD : va_D A [(h0, .inr (11, [.ref hr, .ref hg, .ref hgr, .ref ha, .ref hpo, .ref hly, .ref hse, .ref hc, .ref pa, .ref spr, .ref qm, .int (nI 0), .int (nI 0), .int (nI 0), .int dr, .int ver])), (hr, .inr (7, [.int (nI 4), .int (nI 2), .int (nI 2), .int (nI 3), .int (nI 2), .int (nI 1), .ref sm, .int (nI 3), .ref ca])), (ha, .inr (0, [.ref hr, .ref hg, .int z1, .int z2, .int z3])), (hg, .inr (4, [.ref nd, .ref kd, .ref lk, .ref vw])), (kd, .inl (cs 0, 8, .inl (fun _ => nI 0))), (vw, .inl (cs 2, 8, .inr (.inr (.inr (.inr (fun i => some (v i))))))), (nd, .inl (cs 0, 8, .inl (fun _ => nI 0))), (lk, .inl (cs 0, 8, .inl (fun _ => -1))), (v 0, .inr (10, [.int (nI 0), .int (nI 0), .ref (sv 0)])), (sv 0, .inl (cs 0, 32, .inl vF)), (v 1, .inr (10, [.int (nI 0), .int (nI 0), .ref (sv 1)])), (sv 1, .inl (cs 0, 32, .inl vF)), (v 2, .inr (10, [.int (nI 0), .int (nI 0), .ref (sv 2)])), (sv 2, .inl (cs 0, 32, .inl vF)), (v 3, .inr (10, [.int (nI 0), .int (nI 0), .ref (sv 3)])), (sv 3, .inl (cs 0, 32, .inl vF)), (hgr, .inr (3, [.int (nI 0), .ref gs, .ref g1r, .ref g2r, .ref gan, .ref gpr, .ref gde, .ref gme])), (hpo, .inr (6, [.ref hr, .ref hg, .ref hgr])), (qm, .inl (cs 0, 8, .inl (fun _ => nI 0)))] := hD
      refine lv_tableIn (tgt := 251) hx hb dX11_count_1 (by decide) (by decide) rfl (by decide) ?_
      refine lv_aload_n hx hb dX11_count_251 rfl (lv_at hl 0 rfl) ?_
      refine xget C hP 0 rfl rfl zuX11 12 (by decide) zw2_167 rfl dX11_count_252 ?_
      exact xreti C () (Or.inl ⟨16, by decide, rfl, by decide⟩) (xP_map hP [] rfl) (hD.sub [] (by decide +kernel) rfl) hS (Nat.le_of_ble_eq_true rfl) (Nat.le_of_ble_eq_true rfl) rfl dX11_count_255
  · -- split
    refine lv_iload_n hx hb dX11_count_0 rfl (lv_at hl 1 rfl) ?_
    refine lv_tableOut (tgt := 256) hx hb dX11_count_1 hout (by decide) ?_
    refine lv_iconst (v := (-1)) hx hb dX11_count_256 (by decide) ?_
    exact xreti C () (Or.inr ⟨hout, rfl⟩) (xP_map hP [] rfl) (hD.sub [] (by decide +kernel) rfl) hS (Nat.le_of_ble_eq_true rfl) (Nat.le_of_ble_eq_true rfl) rfl dX11_count_257
