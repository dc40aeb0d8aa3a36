set_option maxHeartbeats 4000000 in
set_option maxRecDepth 100000 in
theorem c_X8_depth_f (l : Launch) (D : va_G) (cs : Nat → ClassId) (hse hr ha wk2 hs3 pa bn bs spl : Nat) (few vse : Int32) (pf : Nat → Int32) (v zz : Nat) (dp : Nat → Nat) (hpt : paT pf zz dp) (hv : v < zz) (hzz : zz ≤ 2001) : xMet l D cs yX8_depth cX8_depth 4 (some .int) ({ frames := 0, cells := 0, slots := 0, locals := 0 } : Room) [.ref hse, .int (nI v)] [(hse, .inr (8, [.ref hr, .ref ha, .ref wk2, .ref hs3, .ref pa, .ref bn, .ref bs, .int few, .int (nI spl), .int vse])), (pa, .inl (cs 0, 2001, .inl pf))] (xQi D (fun (r : Int32) (_u : Unit) => r = nI (dp v)) (fun (_u : Unit) => [(hse, .inr (8, [.ref hr, .ref ha, .ref wk2, .ref hs3, .ref pa, .ref bn, .ref bs, .int few, .int (nI spl), .int vse])), (pa, .inl (cs 0, 2001, .inl pf))])) := by
  refine xMet.intro (by decide) (Nat.le_of_ble_eq_true rfl) ?_
  intro p e s m args below meth c A ls C hP hD hS hl
  have hx := C.1
  have hb := C.2.1
  have hz := C.2.2.2.2.1
  have hown := C.2.2.2.1
  have hA := C.2.2.2.2.2.2.2.2.2
  have hAO := C.2.2.2.2.2.2.2.2.1.2.2
  replace hl : lv_has ls 4 [(0, .ref hse), (1, .int (nI v))] := hl
  obtain ⟨H, hH⟩ : ∃ H, H = s.heap := ⟨_, rfl⟩
  replace hP : va_P D vwCl [(hse, .inr (8, [.ref hr, .ref ha, .ref wk2, .ref hs3, .ref pa, .ref bn, .ref bs, .int few, .int (nI spl), .int vse])), (pa, .inl (cs 0, 2001, .inl pf))] H := by rw [hH]; exact hP
  replace hS : va_S A s.heap H [] := by rw [hH]; exact hS
  obtain ⟨locs, hlocs⟩ : ∃ z : List Loc, z = [] := ⟨_, rfl⟩
  rw [← hlocs] at hS
  suffices hW : W p l e ({ frames := 0, cells := 0, slots := 0, locals := 0 } : Room) s m args below meth c H locs 0 0 (MQ below ((xQi D (fun (r : Int32) (_u : Unit) => r = nI (dp v)) (fun (_u : Unit) => [(hse, .inr (8, [.ref hr, .ref ha, .ref wk2, .ref hs3, .ref pa, .ref bn, .ref bs, .int few, .int (nI spl), .int vse])), (pa, .inl (cs 0, 2001, .inl pf))])) A) args s 0 0 A) (F0 m 0 ls []) by rw [hlocs, hH] at hW; exact hW
  clear hH hlocs
  refine lv_iconst (v := nI 0) hx hb dX8_depth_0 (by decide) ?_
  refine lv_istore_n (lv' := [(2, .int (nI 0)), (0, .ref hse), (1, .int (nI v))]) hx hb dX8_depth_1 rfl hl (by decide) rfl ?_
  clear hl
  try clear ls
  intro ls hl
  refine lv_iload_n hx hb dX8_depth_2 rfl (lv_at hl 2 rfl) ?_
  refine lv_istore_n (lv' := [(3, .int (nI v)), (2, .int (nI 0)), (0, .ref hse), (1, .int (nI v))]) hx hb dX8_depth_3 rfl hl (by decide) rfl ?_
  clear hl
  try clear ls
  intro ls hl
  have loop_1 : ∀ (n_loop_1 : Nat) (o : Nat) (q : Nat), (o ≤ 2000) → (q < zz) → (o + dp q = dp v) → (q + o ≤ v) → 2000 - o < n_loop_1 → ∀ (H : Heap) (locs : List Loc) (ls : Array Slot), va_P D vwCl [(hse, .inr (8, [.ref hr, .ref ha, .ref wk2, .ref hs3, .ref pa, .ref bn, .ref bs, .int few, .int (nI spl), .int vse])), (pa, .inl (cs 0, 2001, .inl pf))] H → va_D A [(hse, .inr (8, [.ref hr, .ref ha, .ref wk2, .ref hs3, .ref pa, .ref bn, .ref bs, .int few, .int (nI spl), .int vse])), (pa, .inl (cs 0, 2001, .inl pf))] → va_S A s.heap H locs → lv_has ls 4 [(3, .int (nI q)), (2, .int (nI o)), (0, .ref hse), (1, .int (nI v))] → W p l e ({ frames := 0, cells := 0, slots := 0, locals := 0 } : Room) s m args below meth c H locs 0 0 (MQ below ((xQi D (fun (r : Int32) (_u : Unit) => r = nI (dp v)) (fun (_u : Unit) => [(hse, .inr (8, [.ref hr, .ref ha, .ref wk2, .ref hs3, .ref pa, .ref bn, .ref bs, .int few, .int (nI spl), .int vse])), (pa, .inl (cs 0, 2001, .inl pf))])) A) args s 0 0 A) (F0 m 4 ls []) := by
    intro n_loop_1
    induction n_loop_1 with
    | zero => intro o q h_o hq hqd hqo hlt H locs ls hP hD hS hl; exact absurd hlt (Nat.not_lt_zero _)
    | succ n_loop_1 ih_loop_1 =>
      intro o q h_o hq hqd hqo hlt_loop_1 H locs ls hP hD hS hl
      refine lv_iload_n hx hb dX8_depth_4 rfl (lv_at hl 0 rfl) ?_
      refine lv_if_le (tgt := 28) hx hb dX8_depth_5 (by decide) (fun c_2 => ?_) (fun c_2 => ?_)
      · -- 5 t
        have fc_2 : q ≤ 0 := nf_le (by omega) (by omega) c_2
        refine lv_iload_n hx hb dX8_depth_28 rfl (lv_at hl 1 rfl) ?_
        exact xreti C () (by have q9 : q = 0 := (by omega); subst q9; have z9 := hpt.1; rw [show o = dp v by omega]) hP hD hS (Nat.le_of_ble_eq_true rfl) (Nat.le_of_ble_eq_true rfl) rfl dX8_depth_29
      · -- 5 f
        have fc_2 : 0 < q := nf_nle (by omega) (by omega) c_2
        refine lv_iload_n hx hb dX8_depth_8 rfl (lv_at hl 1 rfl) ?_
        refine lv_sipush (v := nI 2000) hx hb dX8_depth_9 (by decide) ?_
        refine lv_icmp_ge (tgt := 28) hx hb dX8_depth_12 (by decide) (fun c_3 => ?_) (fun c_3 => ?_)
        · -- 12 t
          have fc_3 : 2000 ≤ o := nf_le (by omega) (by omega) c_3
          refine lv_iload_n hx hb dX8_depth_28 rfl (lv_at hl 1 rfl) ?_
          exact xreti C () (by have q9 : q = 0 := (by omega); subst q9; have z9 := hpt.1; rw [show o = dp v by omega]) hP hD hS (Nat.le_of_ble_eq_true rfl) (Nat.le_of_ble_eq_true rfl) rfl dX8_depth_29
        · -- 12 f
          have fc_3 : o < 2000 := nf_nle (by omega) (by omega) c_3
          refine lv_iinc (v := nI (o + 1)) (lv' := [(2, .int (nI (o + 1))), (3, .int (nI q)), (0, .ref hse), (1, .int (nI v))]) hx hb dX8_depth_15 hl (k := 1) rfl (nI_add o 1) (by decide) rfl ?_
          clear hl
          try clear ls
          intro ls hl
          refine lv_aload_n hx hb dX8_depth_18 rfl (lv_at hl 2 rfl) ?_
          refine xget C hP 0 rfl rfl zuX8 4 (by decide) zw2_95 rfl dX8_depth_19 ?_
          refine lv_iload_n hx hb dX8_depth_22 rfl (lv_at hl 1 rfl) ?_
          refine xiald C hP 1 rfl q rfl (by omega) (by decide) dX8_depth_23 ?_
          obtain ⟨t_4, h_t_4, e_t_4⟩ := hpt.2 q hq (by omega)
          refine lv_topi (nm_r (e' := nI t_4) e_t_4 ?_)
          refine lv_istore_n (lv' := [(3, .int (nI t_4)), (2, .int (nI (o + 1))), (0, .ref hse), (1, .int (nI v))]) hx hb dX8_depth_24 rfl hl (by decide) rfl ?_
          clear hl
          try clear ls
          intro ls hl
          refine lv_goto (tgt := 4) hx hb dX8_depth_25 (by decide) ?_
          exact ih_loop_1 (o + 1) t_4 (by omega) (by omega) (by omega) (by omega) (by omega) H locs ls hP hD hS (lv_sub hl [0, 1, 2, 3] rfl)
  exact loop_1 _ 0 v (by omega) hv (by omega) (by omega) (Nat.lt_succ_self _) H locs ls hP hD hS (lv_sub hl [0, 1, 2, 3] rfl)

set_option maxHeartbeats 4000000 in
set_option maxRecDepth 100000 in
theorem c_X8_comes_f (l : Launch) (D : va_G) (cs : Nat → ClassId) (hse hr ha wk2 hs3 pa bn bs spl : Nat) (few vse : Int32) (hg sm ca n k al be se nd kd lk vw : Nat) (ea pr z1 z2 z3 : Int32) (kf wf : Nat → Int32) (ra3 sa3 sz3 : Nat) (rf3 sf3 : Nat → Int32) (pf bf cf3 : Nat → Int32) (lf t : Nat → Int32) (A9 : srS) (v i : Nat) (x : Int32) (hn : n ≤ 8) (hsl : slP sz3 sf3) (hsz : sz3 ≤ 2001) (hp : inP 2001 2001 pf) (hspl : spl < 2001) (hfew : fewP few) (hv : v < 2001) (hI : srI n be kf lf rf3 sf3 pf sz3 A9) (hvz : v < sz3) (hwt : relR be wf kf lf t) (hot : okF t) : xMet l D cs yX8_comes cX8_comes 7 (some .boolean) ({ frames := 3, cells := 0, slots := 0, locals := 90 } : Room) [.ref hse, .int (nI v), .int (nI i), .int x] [(hse, .inr (8, [.ref hr, .ref ha, .ref wk2, .ref hs3, .ref pa, .ref bn, .ref bs, .int few, .int (nI spl), .int vse])), (ha, .inr (0, [.ref hr, .ref hg, .int z1, .int z2, .int z3])), (hr, .inr (7, [.int (nI n), .int (nI k), .int (nI al), .int (nI be), .int ea, .int pr, .ref sm, .int (nI se), .ref ca])), (hs3, .inr (9, [.ref ra3, .ref sa3, .int (nI sz3)])), (ra3, .inl (cs 0, 16008, .inl rf3)), (sa3, .inl (cs 0, 4096, .inl sf3)), (wk2, .inl (cs 0, 8, .inl wf)), (pa, .inl (cs 0, 2001, .inl pf)), (bn, .inl (cs 0, 2001, .inl bf)), (bs, .inl (cs 0, 2001, .inl cf3)), (hg, .inr (4, [.ref nd, .ref kd, .ref lk, .ref vw])), (kd, .inl (cs 0, 8, .inl kf))] (xQi D (fun (r : Int32) (u : (Nat → Int32) × (Nat → Int32) × (Nat → Int32) × (Nat → Int32) × (Nat → Int32) × Nat × Nat × Int32) => match u with | (rz3, fz3, pz, bz, cz, zz3, splz, fewz) => (slP zz3 fz3 ∧ zz3 ≤ 2001 ∧ inP 2001 2001 pz ∧ splz < 2001 ∧ fewP fewz) ∧ cmR n be kf lf rf3 sf3 pf wf sz3 A9 v t few r fewz rz3 fz3 pz zz3) (fun (u : (Nat → Int32) × (Nat → Int32) × (Nat → Int32) × (Nat → Int32) × (Nat → Int32) × Nat × Nat × Int32) => match u with | (rz3, fz3, pz, bz, cz, zz3, splz, fewz) => [(hse, .inr (8, [.ref hr, .ref ha, .ref wk2, .ref hs3, .ref pa, .ref bn, .ref bs, .int fewz, .int (nI splz), .int vse])), (ha, .inr (0, [.ref hr, .ref hg, .int z1, .int z2, .int z3])), (hr, .inr (7, [.int (nI n), .int (nI k), .int (nI al), .int (nI be), .int ea, .int pr, .ref sm, .int (nI se), .ref ca])), (hs3, .inr (9, [.ref ra3, .ref sa3, .int (nI zz3)])), (ra3, .inl (cs 0, 16008, .inl rz3)), (sa3, .inl (cs 0, 4096, .inl fz3)), (wk2, .inl (cs 0, 8, .inl wf)), (pa, .inl (cs 0, 2001, .inl pz)), (bn, .inl (cs 0, 2001, .inl bz)), (bs, .inl (cs 0, 2001, .inl cz)), (hg, .inr (4, [.ref nd, .ref kd, .ref lk, .ref vw])), (kd, .inl (cs 0, 8, .inl kf))])) := by
  refine xMet.intro (by decide) (Nat.le_of_ble_eq_true rfl) ?_
  intro p e s m args below meth c A ls C hP hD hS hl
  have hx := C.1
  have hb := C.2.1
  have hz := C.2.2.2.2.1
  have hown := C.2.2.2.1
  have hA := C.2.2.2.2.2.2.2.2.2
  have hAO := C.2.2.2.2.2.2.2.2.1.2.2
  replace hl : lv_has ls 7 [(0, .ref hse), (1, .int (nI v)), (2, .int (nI i)), (3, .int x)] := hl
  obtain ⟨H, hH⟩ : ∃ H, H = s.heap := ⟨_, rfl⟩
  replace hP : va_P D vwCl [(hse, .inr (8, [.ref hr, .ref ha, .ref wk2, .ref hs3, .ref pa, .ref bn, .ref bs, .int few, .int (nI spl), .int vse])), (ha, .inr (0, [.ref hr, .ref hg, .int z1, .int z2, .int z3])), (hr, .inr (7, [.int (nI n), .int (nI k), .int (nI al), .int (nI be), .int ea, .int pr, .ref sm, .int (nI se), .ref ca])), (hs3, .inr (9, [.ref ra3, .ref sa3, .int (nI sz3)])), (ra3, .inl (cs 0, 16008, .inl rf3)), (sa3, .inl (cs 0, 4096, .inl sf3)), (wk2, .inl (cs 0, 8, .inl wf)), (pa, .inl (cs 0, 2001, .inl pf)), (bn, .inl (cs 0, 2001, .inl bf)), (bs, .inl (cs 0, 2001, .inl cf3)), (hg, .inr (4, [.ref nd, .ref kd, .ref lk, .ref vw])), (kd, .inl (cs 0, 8, .inl kf))] H := by rw [hH]; exact hP
  replace hS : va_S A s.heap H [] := by rw [hH]; exact hS
  obtain ⟨locs, hlocs⟩ : ∃ z : List Loc, z = [] := ⟨_, rfl⟩
  rw [← hlocs] at hS
  suffices hW : W p l e ({ frames := 3, cells := 0, slots := 0, locals := 90 } : Room) s m args below meth c H locs 0 0 (MQ below ((xQi D (fun (r : Int32) (u : (Nat → Int32) × (Nat → Int32) × (Nat → Int32) × (Nat → Int32) × (Nat → Int32) × Nat × Nat × Int32) => match u with | (rz3, fz3, pz, bz, cz, zz3, splz, fewz) => (slP zz3 fz3 ∧ zz3 ≤ 2001 ∧ inP 2001 2001 pz ∧ splz < 2001 ∧ fewP fewz) ∧ cmR n be kf lf rf3 sf3 pf wf sz3 A9 v t few r fewz rz3 fz3 pz zz3) (fun (u : (Nat → Int32) × (Nat → Int32) × (Nat → Int32) × (Nat → Int32) × (Nat → Int32) × Nat × Nat × Int32) => match u with | (rz3, fz3, pz, bz, cz, zz3, splz, fewz) => [(hse, .inr (8, [.ref hr, .ref ha, .ref wk2, .ref hs3, .ref pa, .ref bn, .ref bs, .int fewz, .int (nI splz), .int vse])), (ha, .inr (0, [.ref hr, .ref hg, .int z1, .int z2, .int z3])), (hr, .inr (7, [.int (nI n), .int (nI k), .int (nI al), .int (nI be), .int ea, .int pr, .ref sm, .int (nI se), .ref ca])), (hs3, .inr (9, [.ref ra3, .ref sa3, .int (nI zz3)])), (ra3, .inl (cs 0, 16008, .inl rz3)), (sa3, .inl (cs 0, 4096, .inl fz3)), (wk2, .inl (cs 0, 8, .inl wf)), (pa, .inl (cs 0, 2001, .inl pz)), (bn, .inl (cs 0, 2001, .inl bz)), (bs, .inl (cs 0, 2001, .inl cz)), (hg, .inr (4, [.ref nd, .ref kd, .ref lk, .ref vw])), (kd, .inl (cs 0, 8, .inl kf))])) A) args s 0 0 A) (F0 m 0 ls []) by rw [hlocs, hH] at hW; exact hW
  clear hH hlocs
  have hz2 := hI.2.2.2.2.2.2
  refine lv_aload_n hx hb dX8_comes_0 rfl (lv_at hl 0 rfl) ?_
  refine xget C hP 0 rfl rfl zuX8 3 (by decide) zw2_94 rfl dX8_comes_1 ?_
  refine lv_aload_n hx hb dX8_comes_4 rfl (lv_at hl 0 rfl) ?_
  refine xget C hP 0 rfl rfl zuX8 2 (by decide) zw2_93 rfl dX8_comes_5 ?_
  refine xi (wr := [(hse, .inr (8, [.ref hr, .ref ha, .ref wk2, .ref hs3, .ref pa, .ref bn, .ref bs, .int few, .int (nI spl), .int vse])), (ha, .inr (0, [.ref hr, .ref hg, .int z1, .int z2, .int z3])), (hr, .inr (7, [.int (nI n), .int (nI k), .int (nI al), .int (nI be), .int ea, .int pr, .ref sm, .int (nI se), .ref ca])), (pa, .inl (cs 0, 2001, .inl pf)), (bn, .inl (cs 0, 2001, .inl bf)), (bs, .inl (cs 0, 2001, .inl cf3)), (hg, .inr (4, [.ref nd, .ref kd, .ref lk, .ref vw])), (kd, .inl (cs 0, 8, .inl kf))]) (xV (As := [.ref wk2]) (rest := []) C (c_X9_slotOf_f l D cs hs3 ra3 sa3 rf3 sf3 sz3 wk2 wf hsl hsz hI.1) kX8_78 hP hD [3, 4, 5, 6] rfl (by decide +kernel) 0 rfl rfl rfl ⟨Nat.le_of_ble_eq_true rfl, Nat.le_of_ble_eq_true rfl⟩ rfl hl.1 rfl (Nat.le_of_ble_eq_true rfl) dX8_comes_8 ⟨Nat.le_of_ble_eq_true rfl, Nat.le_of_ble_eq_true rfl⟩) hP hD hS hA [3, 4, 5, 6] [0, 1, 2, 7, 8, 9, 10, 11] rfl rfl (by decide +kernel) (by decide +kernel) ?_
  clear hP hD hS
  try clear locs
  try clear H
  intro r_1 u_2 H locs hw_r_1 hP hD hS
  have hw_r_1 : ∃ s c, s < 4096 ∧ r_1 = nI s ∧ s = (hsN wf + c) % 4096 ∧ slC rf3 sf3 sz3 wf c ∧ (sf3 s = nI 0 ∨ ∃ m, m < sz3 ∧ sf3 s = nI (m + 1) ∧ rwE rf3 m wf) := hw_r_1
  refine W.widen (k := 0) (n := 0) (Nat.le_of_ble_eq_true rfl) (Nat.le_of_ble_eq_true rfl) ?_
  replace hP : va_P D vwCl [(hse, .inr (8, [.ref hr, .ref ha, .ref wk2, .ref hs3, .ref pa, .ref bn, .ref bs, .int few, .int (nI spl), .int vse])), (ha, .inr (0, [.ref hr, .ref hg, .int z1, .int z2, .int z3])), (hr, .inr (7, [.int (nI n), .int (nI k), .int (nI al), .int (nI be), .int ea, .int pr, .ref sm, .int (nI se), .ref ca])), (pa, .inl (cs 0, 2001, .inl pf)), (bn, .inl (cs 0, 2001, .inl bf)), (bs, .inl (cs 0, 2001, .inl cf3)), (hg, .inr (4, [.ref nd, .ref kd, .ref lk, .ref vw])), (kd, .inl (cs 0, 8, .inl kf)), (hs3, .inr (9, [.ref ra3, .ref sa3, .int (nI sz3)])), (ra3, .inl (cs 0, 16008, .inl rf3)), (sa3, .inl (cs 0, 4096, .inl sf3)), (wk2, .inl (cs 0, 8, .inl wf))] H := hP
  replace hD : va_D A [(hse, .inr (8, [.ref hr, .ref ha, .ref wk2, .ref hs3, .ref pa, .ref bn, .ref bs, .int few, .int (nI spl), .int vse])), (ha, .inr (0, [.ref hr, .ref hg, .int z1, .int z2, .int z3])), (hr, .inr (7, [.int (nI n), .int (nI k), .int (nI al), .int (nI be), .int ea, .int pr, .ref sm, .int (nI se), .ref ca])), (pa, .inl (cs 0, 2001, .inl pf)), (bn, .inl (cs 0, 2001, .inl bf)), (bs, .inl (cs 0, 2001, .inl cf3)), (hg, .inr (4, [.ref nd, .ref kd, .ref lk, .ref vw])), (kd, .inl (cs 0, 8, .inl kf)), (hs3, .inr (9, [.ref ra3, .ref sa3, .int (nI sz3)])), (ra3, .inl (cs 0, 16008, .inl rf3)), (sa3, .inl (cs 0, 4096, .inl sf3)), (wk2, .inl (cs 0, 8, .inl wf))] := hD
  obtain ⟨s9, c9, h_s9, e_r9, e_s9, hslc, hor9⟩ := hw_r_1
  refine lv_topi (nm_r (e' := nI s9) e_r9 ?_)
  rcases hor9 with hz0 | ⟨m9, h_m9, e_m9, hw9⟩
  · -- split
    refine lv_istore (lv' := [(4, .int (nI s9)), (0, .ref hse), (1, .int (nI v)), (2, .int (nI i)), (3, .int x)]) hx hb dX8_comes_11 hl (by decide) rfl ?_
    clear hl
    try clear ls
    intro ls hl
    refine lv_aload_n hx hb dX8_comes_13 rfl (lv_at hl 1 rfl) ?_
    refine xget C hP 0 rfl rfl zuX8 3 (by decide) zw2_94 rfl dX8_comes_14 ?_
    refine lv_iload hx hb dX8_comes_17 (lv_at hl 0 rfl) ?_
    refine xi (wr := [(hse, .inr (8, [.ref hr, .ref ha, .ref wk2, .ref hs3, .ref pa, .ref bn, .ref bs, .int few, .int (nI spl), .int vse])), (ha, .inr (0, [.ref hr, .ref hg, .int z1, .int z2, .int z3])), (hr, .inr (7, [.int (nI n), .int (nI k), .int (nI al), .int (nI be), .int ea, .int pr, .ref sm, .int (nI se), .ref ca])), (pa, .inl (cs 0, 2001, .inl pf)), (bn, .inl (cs 0, 2001, .inl bf)), (bs, .inl (cs 0, 2001, .inl cf3)), (hg, .inr (4, [.ref nd, .ref kd, .ref lk, .ref vw])), (kd, .inl (cs 0, 8, .inl kf)), (wk2, .inl (cs 0, 8, .inl wf))]) (xV (As := [.int (nI s9)]) (rest := []) C (c_X9_at_f l D cs hs3 ra3 sa3 rf3 sf3 sz3 s9 0 (by omega) hz0) kX8_115 hP hD [8, 9, 10] rfl (by decide +kernel) 0 rfl rfl rfl ⟨Nat.le_of_ble_eq_true rfl, Nat.le_of_ble_eq_true rfl⟩ rfl hl.1 rfl (Nat.le_of_ble_eq_true rfl) dX8_comes_19 ⟨Nat.le_of_ble_eq_true rfl, Nat.le_of_ble_eq_true rfl⟩) hP hD hS hA [8, 9, 10] [0, 1, 2, 3, 4, 5, 6, 7, 11] rfl rfl (by decide +kernel) (by decide +kernel) ?_
    clear hP hD hS
    try clear locs
    try clear H
    intro r_3 u_4 H locs hw_r_3 hP hD hS
    have hw_r_3 : r_3 = nI 0 - nI 1 := hw_r_3
    refine W.widen (k := 0) (n := 0) (Nat.le_of_ble_eq_true rfl) (Nat.le_of_ble_eq_true rfl) ?_
    replace hP : va_P D vwCl [(hse, .inr (8, [.ref hr, .ref ha, .ref wk2, .ref hs3, .ref pa, .ref bn, .ref bs, .int few, .int (nI spl), .int vse])), (ha, .inr (0, [.ref hr, .ref hg, .int z1, .int z2, .int z3])), (hr, .inr (7, [.int (nI n), .int (nI k), .int (nI al), .int (nI be), .int ea, .int pr, .ref sm, .int (nI se), .ref ca])), (pa, .inl (cs 0, 2001, .inl pf)), (bn, .inl (cs 0, 2001, .inl bf)), (bs, .inl (cs 0, 2001, .inl cf3)), (hg, .inr (4, [.ref nd, .ref kd, .ref lk, .ref vw])), (kd, .inl (cs 0, 8, .inl kf)), (wk2, .inl (cs 0, 8, .inl wf)), (hs3, .inr (9, [.ref ra3, .ref sa3, .int (nI sz3)])), (ra3, .inl (cs 0, 16008, .inl rf3)), (sa3, .inl (cs 0, 4096, .inl sf3))] H := hP
    replace hD : va_D A [(hse, .inr (8, [.ref hr, .ref ha, .ref wk2, .ref hs3, .ref pa, .ref bn, .ref bs, .int few, .int (nI spl), .int vse])), (ha, .inr (0, [.ref hr, .ref hg, .int z1, .int z2, .int z3])), (hr, .inr (7, [.int (nI n), .int (nI k), .int (nI al), .int (nI be), .int ea, .int pr, .ref sm, .int (nI se), .ref ca])), (pa, .inl (cs 0, 2001, .inl pf)), (bn, .inl (cs 0, 2001, .inl bf)), (bs, .inl (cs 0, 2001, .inl cf3)), (hg, .inr (4, [.ref nd, .ref kd, .ref lk, .ref vw])), (kd, .inl (cs 0, 8, .inl kf)), (wk2, .inl (cs 0, 8, .inl wf)), (hs3, .inr (9, [.ref ra3, .ref sa3, .int (nI sz3)])), (ra3, .inl (cs 0, 16008, .inl rf3)), (sa3, .inl (cs 0, 4096, .inl sf3))] := hD
    refine lv_topi (nm_r (e' := -1) (hw_r_3.trans (by decide)) ?_)
    refine lv_iconst (v := (-1)) hx hb dX8_comes_22 (by decide) ?_
    refine lv_icmp_eq (tgt := 28) hx hb dX8_comes_23 (by decide) (fun _ => ?_) (fun c => absurd rfl c)
    refine lv_aload_n hx hb dX8_comes_28 rfl (lv_at hl 1 rfl) ?_
    refine xget C hP 0 rfl rfl zuX8 1 (by decide) zw2_92 rfl dX8_comes_29 ?_
    refine lv_aload_n hx hb dX8_comes_32 rfl (lv_at hl 1 rfl) ?_
    refine xget C hP 0 rfl rfl zuX8 2 (by decide) zw2_93 rfl dX8_comes_33 ?_
    refine lv_iconst (v := nI 0) hx hb dX8_comes_36 (by decide) ?_
    refine xi (wr := [(hse, .inr (8, [.ref hr, .ref ha, .ref wk2, .ref hs3, .ref pa, .ref bn, .ref bs, .int few, .int (nI spl), .int vse])), (pa, .inl (cs 0, 2001, .inl pf)), (bn, .inl (cs 0, 2001, .inl bf)), (bs, .inl (cs 0, 2001, .inl cf3)), (hs3, .inr (9, [.ref ra3, .ref sa3, .int (nI sz3)])), (ra3, .inl (cs 0, 16008, .inl rf3)), (sa3, .inl (cs 0, 4096, .inl sf3))]) (xV (As := [.ref wk2, .int (nI 0)]) (rest := []) C (c_X0_isSplit_f l D cs ha hg hr sm ca n k al be se ea pr z1 z2 z3 nd kd lk vw kf wk2 8 0 wf hn (by decide) (by decide)) kX8_35 hP hD [1, 2, 6, 7, 8] rfl (by decide +kernel) 0 rfl rfl rfl ⟨Nat.le_of_ble_eq_true rfl, Nat.le_of_ble_eq_true rfl⟩ rfl hl.1 rfl (Nat.le_of_ble_eq_true rfl) dX8_comes_37 ⟨Nat.le_of_ble_eq_true rfl, Nat.le_of_ble_eq_true rfl⟩) hP hD hS hA [1, 2, 6, 7, 8] [0, 3, 4, 5, 9, 10, 11] rfl rfl (by decide +kernel) (by decide +kernel) ?_
    clear hP hD hS
    try clear locs
    try clear H
    intro r_5 u_6 H locs hw_r_5 hP hD hS
    have hw_r_5 : PQ (dsP kf wf 0 n 0 ∧ dsP kf wf 0 n 1) r_5 (nI 1) (nI 0) := hw_r_5
    refine W.widen (k := 0) (n := 0) (Nat.le_of_ble_eq_true rfl) (Nat.le_of_ble_eq_true rfl) ?_
    replace hP : va_P D vwCl [(hse, .inr (8, [.ref hr, .ref ha, .ref wk2, .ref hs3, .ref pa, .ref bn, .ref bs, .int few, .int (nI spl), .int vse])), (pa, .inl (cs 0, 2001, .inl pf)), (bn, .inl (cs 0, 2001, .inl bf)), (bs, .inl (cs 0, 2001, .inl cf3)), (hs3, .inr (9, [.ref ra3, .ref sa3, .int (nI sz3)])), (ra3, .inl (cs 0, 16008, .inl rf3)), (sa3, .inl (cs 0, 4096, .inl sf3)), (ha, .inr (0, [.ref hr, .ref hg, .int z1, .int z2, .int z3])), (hr, .inr (7, [.int (nI n), .int (nI k), .int (nI al), .int (nI be), .int ea, .int pr, .ref sm, .int (nI se), .ref ca])), (hg, .inr (4, [.ref nd, .ref kd, .ref lk, .ref vw])), (kd, .inl (cs 0, 8, .inl kf)), (wk2, .inl (cs 0, 8, .inl wf))] H := hP
    replace hD : va_D A [(hse, .inr (8, [.ref hr, .ref ha, .ref wk2, .ref hs3, .ref pa, .ref bn, .ref bs, .int few, .int (nI spl), .int vse])), (pa, .inl (cs 0, 2001, .inl pf)), (bn, .inl (cs 0, 2001, .inl bf)), (bs, .inl (cs 0, 2001, .inl cf3)), (hs3, .inr (9, [.ref ra3, .ref sa3, .int (nI sz3)])), (ra3, .inl (cs 0, 16008, .inl rf3)), (sa3, .inl (cs 0, 4096, .inl sf3)), (ha, .inr (0, [.ref hr, .ref hg, .int z1, .int z2, .int z3])), (hr, .inr (7, [.int (nI n), .int (nI k), .int (nI al), .int (nI be), .int ea, .int pr, .ref sm, .int (nI se), .ref ca])), (hg, .inr (4, [.ref nd, .ref kd, .ref lk, .ref vw])), (kd, .inl (cs 0, 8, .inl kf)), (wk2, .inl (cs 0, 8, .inl wf))] := hD
    rcases hw_r_5 with ⟨hsP, rfl⟩ | ⟨hsP, rfl⟩
    · -- split
      replace hP : va_P D vwCl [(hse, .inr (8, [.ref hr, .ref ha, .ref wk2, .ref hs3, .ref pa, .ref bn, .ref bs, .int few, .int (nI spl), .int vse])), (pa, .inl (cs 0, 2001, .inl pf)), (bn, .inl (cs 0, 2001, .inl bf)), (bs, .inl (cs 0, 2001, .inl cf3)), (hs3, .inr (9, [.ref ra3, .ref sa3, .int (nI sz3)])), (ra3, .inl (cs 0, 16008, .inl rf3)), (sa3, .inl (cs 0, 4096, .inl sf3)), (ha, .inr (0, [.ref hr, .ref hg, .int z1, .int z2, .int z3])), (hr, .inr (7, [.int (nI n), .int (nI k), .int (nI al), .int (nI be), .int ea, .int pr, .ref sm, .int (nI se), .ref ca])), (hg, .inr (4, [.ref nd, .ref kd, .ref lk, .ref vw])), (kd, .inl (cs 0, 8, .inl kf)), (wk2, .inl (cs 0, 8, .inl wf))] H := hP
      replace hD : va_D A [(hse, .inr (8, [.ref hr, .ref ha, .ref wk2, .ref hs3, .ref pa, .ref bn, .ref bs, .int few, .int (nI spl), .int vse])), (pa, .inl (cs 0, 2001, .inl pf)), (bn, .inl (cs 0, 2001, .inl bf)), (bs, .inl (cs 0, 2001, .inl cf3)), (hs3, .inr (9, [.ref ra3, .ref sa3, .int (nI sz3)])), (ra3, .inl (cs 0, 16008, .inl rf3)), (sa3, .inl (cs 0, 4096, .inl sf3)), (ha, .inr (0, [.ref hr, .ref hg, .int z1, .int z2, .int z3])), (hr, .inr (7, [.int (nI n), .int (nI k), .int (nI al), .int (nI be), .int ea, .int pr, .ref sm, .int (nI se), .ref ca])), (hg, .inr (4, [.ref nd, .ref kd, .ref lk, .ref vw])), (kd, .inl (cs 0, 8, .inl kf)), (wk2, .inl (cs 0, 8, .inl wf))] := hD
      refine lv_istore (lv' := [(5, .int (nI 1)), (4, .int (nI s9)), (0, .ref hse), (1, .int (nI v)), (2, .int (nI i)), (3, .int x)]) hx hb dX8_comes_40 hl (by decide) rfl ?_
      clear hl
      try clear ls
      intro ls hl
      refine lv_iload hx hb dX8_comes_42 (lv_at hl 0 rfl) ?_
      refine lv_if_ne (tgt := 57) hx hb dX8_comes_44 (by decide) (fun _ => ?_) (fun c => absurd c (by decide))
      refine lv_aload_n hx hb dX8_comes_57 rfl (lv_at hl 2 rfl) ?_
      refine xget C hP 0 rfl rfl zuX8 3 (by decide) zw2_94 rfl dX8_comes_58 ?_
      refine lv_iload hx hb dX8_comes_61 (lv_at hl 1 rfl) ?_
      refine lv_aload_n hx hb dX8_comes_63 rfl (lv_at hl 2 rfl) ?_
      refine xget C hP 0 rfl rfl zuX8 2 (by decide) zw2_93 rfl dX8_comes_64 ?_
      refine xi (wr := [(hse, .inr (8, [.ref hr, .ref ha, .ref wk2, .ref hs3, .ref pa, .ref bn, .ref bs, .int few, .int (nI spl), .int vse])), (pa, .inl (cs 0, 2001, .inl pf)), (bn, .inl (cs 0, 2001, .inl bf)), (bs, .inl (cs 0, 2001, .inl cf3)), (ha, .inr (0, [.ref hr, .ref hg, .int z1, .int z2, .int z3])), (hr, .inr (7, [.int (nI n), .int (nI k), .int (nI al), .int (nI be), .int ea, .int pr, .ref sm, .int (nI se), .ref ca])), (hg, .inr (4, [.ref nd, .ref kd, .ref lk, .ref vw])), (kd, .inl (cs 0, 8, .inl kf))]) (xV (As := [.int (nI s9), .ref wk2]) (rest := []) C (c_X9_add_f l D cs hs3 ra3 sa3 rf3 sf3 sz3 wk2 wf s9 (by omega) (by omega)) kX8_82 hP hD [4, 5, 6, 11] rfl (by decide +kernel) 0 rfl rfl rfl ⟨Nat.le_of_ble_eq_true rfl, Nat.le_of_ble_eq_true rfl⟩ rfl hl.1 rfl (Nat.le_of_ble_eq_true rfl) dX8_comes_67 ⟨Nat.le_of_ble_eq_true rfl, Nat.le_of_ble_eq_true rfl⟩) hP hD hS hA [4, 5, 6, 11] [0, 1, 2, 3, 7, 8, 9, 10] rfl rfl (by decide +kernel) (by decide +kernel) ?_
      clear hP hD hS
      try clear locs
      try clear H
      intro r_7 u_8 H locs hw_r_7 hP hD hS
      have hw_r_7 : r_7 = nI sz3 := hw_r_7
      refine W.widen (k := 0) (n := 0) (Nat.le_of_ble_eq_true rfl) (Nat.le_of_ble_eq_true rfl) ?_
      replace hP : va_P D vwCl [(hse, .inr (8, [.ref hr, .ref ha, .ref wk2, .ref hs3, .ref pa, .ref bn, .ref bs, .int few, .int (nI spl), .int vse])), (pa, .inl (cs 0, 2001, .inl pf)), (bn, .inl (cs 0, 2001, .inl bf)), (bs, .inl (cs 0, 2001, .inl cf3)), (ha, .inr (0, [.ref hr, .ref hg, .int z1, .int z2, .int z3])), (hr, .inr (7, [.int (nI n), .int (nI k), .int (nI al), .int (nI be), .int ea, .int pr, .ref sm, .int (nI se), .ref ca])), (hg, .inr (4, [.ref nd, .ref kd, .ref lk, .ref vw])), (kd, .inl (cs 0, 8, .inl kf)), (hs3, .inr (9, [.ref ra3, .ref sa3, .int (nI (sz3 + 1))])), (ra3, .inl (cs 0, 16008, .inl (va_cpy wf rf3 0 (sz3 * 8) 8))), (sa3, .inl (cs 0, 4096, .inl (upd sf3 s9 (nI (sz3 + 1))))), (wk2, .inl (cs 0, 8, .inl wf))] H := hP
      replace hD : va_D A [(hse, .inr (8, [.ref hr, .ref ha, .ref wk2, .ref hs3, .ref pa, .ref bn, .ref bs, .int few, .int (nI spl), .int vse])), (pa, .inl (cs 0, 2001, .inl pf)), (bn, .inl (cs 0, 2001, .inl bf)), (bs, .inl (cs 0, 2001, .inl cf3)), (ha, .inr (0, [.ref hr, .ref hg, .int z1, .int z2, .int z3])), (hr, .inr (7, [.int (nI n), .int (nI k), .int (nI al), .int (nI be), .int ea, .int pr, .ref sm, .int (nI se), .ref ca])), (hg, .inr (4, [.ref nd, .ref kd, .ref lk, .ref vw])), (kd, .inl (cs 0, 8, .inl kf)), (hs3, .inr (9, [.ref ra3, .ref sa3, .int (nI (sz3 + 1))])), (ra3, .inl (cs 0, 16008, .inl (va_cpy wf rf3 0 (sz3 * 8) 8))), (sa3, .inl (cs 0, 4096, .inl (upd sf3 s9 (nI (sz3 + 1))))), (wk2, .inl (cs 0, 8, .inl wf))] := hD
      refine lv_topi (nm_r (e' := nI sz3) hw_r_7 ?_)
      refine lv_goto (tgt := 74) hx hb dX8_comes_70 (by decide) ?_
      refine lv_istore (lv' := [(6, .int (nI sz3)), (5, .int (nI 1)), (4, .int (nI s9)), (0, .ref hse), (1, .int (nI v)), (2, .int (nI i)), (3, .int x)]) hx hb dX8_comes_74 hl (by decide) rfl ?_
      clear hl
      try clear ls
      intro ls hl
      refine lv_iload hx hb dX8_comes_76 (lv_at hl 0 rfl) ?_
      refine lv_iconst (v := (-1)) hx hb dX8_comes_78 (by decide) ?_
      refine lv_icmp_ne (tgt := 90) hx hb dX8_comes_79 (by decide) (fun _ => ?_) (fun c => absurd c (nI_ne_m1 (by omega)))
      refine lv_aload_n hx hb dX8_comes_90 rfl (lv_at hl 3 rfl) ?_
      refine xget C hP 0 rfl rfl zuX8 4 (by decide) zw2_95 rfl dX8_comes_91 ?_
      refine lv_iload hx hb dX8_comes_94 (lv_at hl 0 rfl) ?_
      refine lv_iload_n hx hb dX8_comes_96 rfl (lv_at hl 4 rfl) ?_
      refine xiast C hP hD hS 1 rfl sz3 rfl (by omega) (by decide) dX8_comes_97 ?_
      clear hP hD hS
      try clear locs
      try clear H
      intro H locs hP hD hS
      replace hP : va_P D vwCl [(hse, .inr (8, [.ref hr, .ref ha, .ref wk2, .ref hs3, .ref pa, .ref bn, .ref bs, .int few, .int (nI spl), .int vse])), (pa, .inl (cs 0, 2001, .inl (upd pf sz3 (nI v)))), (bn, .inl (cs 0, 2001, .inl bf)), (bs, .inl (cs 0, 2001, .inl cf3)), (ha, .inr (0, [.ref hr, .ref hg, .int z1, .int z2, .int z3])), (hr, .inr (7, [.int (nI n), .int (nI k), .int (nI al), .int (nI be), .int ea, .int pr, .ref sm, .int (nI se), .ref ca])), (hg, .inr (4, [.ref nd, .ref kd, .ref lk, .ref vw])), (kd, .inl (cs 0, 8, .inl kf)), (hs3, .inr (9, [.ref ra3, .ref sa3, .int (nI (sz3 + 1))])), (ra3, .inl (cs 0, 16008, .inl (va_cpy wf rf3 0 (sz3 * 8) 8))), (sa3, .inl (cs 0, 4096, .inl (upd sf3 s9 (nI (sz3 + 1))))), (wk2, .inl (cs 0, 8, .inl wf))] H := hP
      replace hD : va_D A [(hse, .inr (8, [.ref hr, .ref ha, .ref wk2, .ref hs3, .ref pa, .ref bn, .ref bs, .int few, .int (nI spl), .int vse])), (pa, .inl (cs 0, 2001, .inl (upd pf sz3 (nI v)))), (bn, .inl (cs 0, 2001, .inl bf)), (bs, .inl (cs 0, 2001, .inl cf3)), (ha, .inr (0, [.ref hr, .ref hg, .int z1, .int z2, .int z3])), (hr, .inr (7, [.int (nI n), .int (nI k), .int (nI al), .int (nI be), .int ea, .int pr, .ref sm, .int (nI se), .ref ca])), (hg, .inr (4, [.ref nd, .ref kd, .ref lk, .ref vw])), (kd, .inl (cs 0, 8, .inl kf)), (hs3, .inr (9, [.ref ra3, .ref sa3, .int (nI (sz3 + 1))])), (ra3, .inl (cs 0, 16008, .inl (va_cpy wf rf3 0 (sz3 * 8) 8))), (sa3, .inl (cs 0, 4096, .inl (upd sf3 s9 (nI (sz3 + 1))))), (wk2, .inl (cs 0, 8, .inl wf))] := hD
      refine lv_aload_n hx hb dX8_comes_98 rfl (lv_at hl 3 rfl) ?_
      refine xget C hP 0 rfl rfl zuX8 5 (by decide) zw2_96 rfl dX8_comes_99 ?_
      refine lv_iload hx hb dX8_comes_102 (lv_at hl 0 rfl) ?_
      refine lv_iload_n hx hb dX8_comes_104 rfl (lv_at hl 5 rfl) ?_
      refine xiast C hP hD hS 2 rfl sz3 rfl (by omega) (by decide) dX8_comes_105 ?_
      clear hP hD hS
      try clear locs
      try clear H
      intro H locs hP hD hS
      replace hP : va_P D vwCl [(hse, .inr (8, [.ref hr, .ref ha, .ref wk2, .ref hs3, .ref pa, .ref bn, .ref bs, .int few, .int (nI spl), .int vse])), (pa, .inl (cs 0, 2001, .inl (upd pf sz3 (nI v)))), (bn, .inl (cs 0, 2001, .inl (upd bf sz3 (nI i)))), (bs, .inl (cs 0, 2001, .inl cf3)), (ha, .inr (0, [.ref hr, .ref hg, .int z1, .int z2, .int z3])), (hr, .inr (7, [.int (nI n), .int (nI k), .int (nI al), .int (nI be), .int ea, .int pr, .ref sm, .int (nI se), .ref ca])), (hg, .inr (4, [.ref nd, .ref kd, .ref lk, .ref vw])), (kd, .inl (cs 0, 8, .inl kf)), (hs3, .inr (9, [.ref ra3, .ref sa3, .int (nI (sz3 + 1))])), (ra3, .inl (cs 0, 16008, .inl (va_cpy wf rf3 0 (sz3 * 8) 8))), (sa3, .inl (cs 0, 4096, .inl (upd sf3 s9 (nI (sz3 + 1))))), (wk2, .inl (cs 0, 8, .inl wf))] H := hP
      replace hD : va_D A [(hse, .inr (8, [.ref hr, .ref ha, .ref wk2, .ref hs3, .ref pa, .ref bn, .ref bs, .int few, .int (nI spl), .int vse])), (pa, .inl (cs 0, 2001, .inl (upd pf sz3 (nI v)))), (bn, .inl (cs 0, 2001, .inl (upd bf sz3 (nI i)))), (bs, .inl (cs 0, 2001, .inl cf3)), (ha, .inr (0, [.ref hr, .ref hg, .int z1, .int z2, .int z3])), (hr, .inr (7, [.int (nI n), .int (nI k), .int (nI al), .int (nI be), .int ea, .int pr, .ref sm, .int (nI se), .ref ca])), (hg, .inr (4, [.ref nd, .ref kd, .ref lk, .ref vw])), (kd, .inl (cs 0, 8, .inl kf)), (hs3, .inr (9, [.ref ra3, .ref sa3, .int (nI (sz3 + 1))])), (ra3, .inl (cs 0, 16008, .inl (va_cpy wf rf3 0 (sz3 * 8) 8))), (sa3, .inl (cs 0, 4096, .inl (upd sf3 s9 (nI (sz3 + 1))))), (wk2, .inl (cs 0, 8, .inl wf))] := hD
      refine lv_aload_n hx hb dX8_comes_106 rfl (lv_at hl 3 rfl) ?_
      refine xget C hP 0 rfl rfl zuX8 6 (by decide) zw2_98 rfl dX8_comes_107 ?_
      refine lv_iload hx hb dX8_comes_110 (lv_at hl 0 rfl) ?_
      refine lv_iload_n hx hb dX8_comes_112 rfl (lv_at hl 6 rfl) ?_
      refine xiast C hP hD hS 3 rfl sz3 rfl (by omega) (by decide) dX8_comes_113 ?_
      clear hP hD hS
      try clear locs
      try clear H
      intro H locs hP hD hS
      replace hP : va_P D vwCl [(hse, .inr (8, [.ref hr, .ref ha, .ref wk2, .ref hs3, .ref pa, .ref bn, .ref bs, .int few, .int (nI spl), .int vse])), (pa, .inl (cs 0, 2001, .inl (upd pf sz3 (nI v)))), (bn, .inl (cs 0, 2001, .inl (upd bf sz3 (nI i)))), (bs, .inl (cs 0, 2001, .inl (upd cf3 sz3 x))), (ha, .inr (0, [.ref hr, .ref hg, .int z1, .int z2, .int z3])), (hr, .inr (7, [.int (nI n), .int (nI k), .int (nI al), .int (nI be), .int ea, .int pr, .ref sm, .int (nI se), .ref ca])), (hg, .inr (4, [.ref nd, .ref kd, .ref lk, .ref vw])), (kd, .inl (cs 0, 8, .inl kf)), (hs3, .inr (9, [.ref ra3, .ref sa3, .int (nI (sz3 + 1))])), (ra3, .inl (cs 0, 16008, .inl (va_cpy wf rf3 0 (sz3 * 8) 8))), (sa3, .inl (cs 0, 4096, .inl (upd sf3 s9 (nI (sz3 + 1))))), (wk2, .inl (cs 0, 8, .inl wf))] H := hP
      replace hD : va_D A [(hse, .inr (8, [.ref hr, .ref ha, .ref wk2, .ref hs3, .ref pa, .ref bn, .ref bs, .int few, .int (nI spl), .int vse])), (pa, .inl (cs 0, 2001, .inl (upd pf sz3 (nI v)))), (bn, .inl (cs 0, 2001, .inl (upd bf sz3 (nI i)))), (bs, .inl (cs 0, 2001, .inl (upd cf3 sz3 x))), (ha, .inr (0, [.ref hr, .ref hg, .int z1, .int z2, .int z3])), (hr, .inr (7, [.int (nI n), .int (nI k), .int (nI al), .int (nI be), .int ea, .int pr, .ref sm, .int (nI se), .ref ca])), (hg, .inr (4, [.ref nd, .ref kd, .ref lk, .ref vw])), (kd, .inl (cs 0, 8, .inl kf)), (hs3, .inr (9, [.ref ra3, .ref sa3, .int (nI (sz3 + 1))])), (ra3, .inl (cs 0, 16008, .inl (va_cpy wf rf3 0 (sz3 * 8) 8))), (sa3, .inl (cs 0, 4096, .inl (upd sf3 s9 (nI (sz3 + 1))))), (wk2, .inl (cs 0, 8, .inl wf))] := hD
      refine lv_iload hx hb dX8_comes_114 (lv_at hl 1 rfl) ?_
      refine lv_if_eq (tgt := 135) hx hb dX8_comes_116 (by decide) (fun c => absurd c (by decide)) (fun _ => ?_)
      refine lv_aload_n hx hb dX8_comes_119 rfl (lv_at hl 3 rfl) ?_
      refine lv_iload hx hb dX8_comes_120 (lv_at hl 0 rfl) ?_
      refine xput C hP hD hS 0 rfl rfl zuX8 tyX8 tyX8_ok nmX8 8 (by decide) zw2_102 rfl rfl rfl (Nat.le_of_ble_eq_true rfl) dX8_comes_122 ?_
      clear hP hD hS
      try clear locs
      try clear H
      intro H locs hP hD hS
      replace hP : va_P D vwCl [(hse, .inr (8, [.ref hr, .ref ha, .ref wk2, .ref hs3, .ref pa, .ref bn, .ref bs, .int few, .int (nI sz3), .int vse])), (pa, .inl (cs 0, 2001, .inl (upd pf sz3 (nI v)))), (bn, .inl (cs 0, 2001, .inl (upd bf sz3 (nI i)))), (bs, .inl (cs 0, 2001, .inl (upd cf3 sz3 x))), (ha, .inr (0, [.ref hr, .ref hg, .int z1, .int z2, .int z3])), (hr, .inr (7, [.int (nI n), .int (nI k), .int (nI al), .int (nI be), .int ea, .int pr, .ref sm, .int (nI se), .ref ca])), (hg, .inr (4, [.ref nd, .ref kd, .ref lk, .ref vw])), (kd, .inl (cs 0, 8, .inl kf)), (hs3, .inr (9, [.ref ra3, .ref sa3, .int (nI (sz3 + 1))])), (ra3, .inl (cs 0, 16008, .inl (va_cpy wf rf3 0 (sz3 * 8) 8))), (sa3, .inl (cs 0, 4096, .inl (upd sf3 s9 (nI (sz3 + 1))))), (wk2, .inl (cs 0, 8, .inl wf))] H := hP
      replace hD : va_D A [(hse, .inr (8, [.ref hr, .ref ha, .ref wk2, .ref hs3, .ref pa, .ref bn, .ref bs, .int few, .int (nI sz3), .int vse])), (pa, .inl (cs 0, 2001, .inl (upd pf sz3 (nI v)))), (bn, .inl (cs 0, 2001, .inl (upd bf sz3 (nI i)))), (bs, .inl (cs 0, 2001, .inl (upd cf3 sz3 x))), (ha, .inr (0, [.ref hr, .ref hg, .int z1, .int z2, .int z3])), (hr, .inr (7, [.int (nI n), .int (nI k), .int (nI al), .int (nI be), .int ea, .int pr, .ref sm, .int (nI se), .ref ca])), (hg, .inr (4, [.ref nd, .ref kd, .ref lk, .ref vw])), (kd, .inl (cs 0, 8, .inl kf)), (hs3, .inr (9, [.ref ra3, .ref sa3, .int (nI (sz3 + 1))])), (ra3, .inl (cs 0, 16008, .inl (va_cpy wf rf3 0 (sz3 * 8) 8))), (sa3, .inl (cs 0, 4096, .inl (upd sf3 s9 (nI (sz3 + 1))))), (wk2, .inl (cs 0, 8, .inl wf))] := hD
      refine lv_aload_n hx hb dX8_comes_125 rfl (lv_at hl 3 rfl) ?_
      refine lv_aload_n hx hb dX8_comes_126 rfl (lv_at hl 3 rfl) ?_
      refine lv_iload hx hb dX8_comes_127 (lv_at hl 0 rfl) ?_
      refine xi (wr := [(bn, .inl (cs 0, 2001, .inl (upd bf sz3 (nI i)))), (bs, .inl (cs 0, 2001, .inl (upd cf3 sz3 x))), (ha, .inr (0, [.ref hr, .ref hg, .int z1, .int z2, .int z3])), (hr, .inr (7, [.int (nI n), .int (nI k), .int (nI al), .int (nI be), .int ea, .int pr, .ref sm, .int (nI se), .ref ca])), (hg, .inr (4, [.ref nd, .ref kd, .ref lk, .ref vw])), (kd, .inl (cs 0, 8, .inl kf)), (hs3, .inr (9, [.ref ra3, .ref sa3, .int (nI (sz3 + 1))])), (ra3, .inl (cs 0, 16008, .inl (va_cpy wf rf3 0 (sz3 * 8) 8))), (sa3, .inl (cs 0, 4096, .inl (upd sf3 s9 (nI (sz3 + 1))))), (wk2, .inl (cs 0, 8, .inl wf))]) (xV (As := [.int (nI sz3)]) (rest := [.ref hse]) C (c_X8_depth_f l D cs hse hr ha wk2 hs3 pa bn bs sz3 few vse (upd pf sz3 (nI v)) sz3 (sz3 + 1) (updN A9.2.2.1 sz3 (A9.2.2.1 v + 1)) (hI.pa.add hvz) (by omega) (by omega)) kX8_122 hP hD [0, 1] rfl (by decide +kernel) 0 rfl rfl rfl ⟨Nat.le_of_ble_eq_true rfl, Nat.le_of_ble_eq_true rfl⟩ rfl hl.1 rfl (Nat.le_of_ble_eq_true rfl) dX8_comes_129 ⟨Nat.le_of_ble_eq_true rfl, Nat.le_of_ble_eq_true rfl⟩) hP hD hS hA [0, 1] [2, 3, 4, 5, 6, 7, 8, 9, 10, 11] rfl rfl (by decide +kernel) (by decide +kernel) ?_
      clear hP hD hS
      try clear locs
      try clear H
      intro r_9 u_10 H locs hw_r_9 hP hD hS
      have hw_r_9 : r_9 = nI ((updN A9.2.2.1 sz3 (A9.2.2.1 v + 1)) sz3) := hw_r_9
      refine W.widen (k := 0) (n := 0) (Nat.le_of_ble_eq_true rfl) (Nat.le_of_ble_eq_true rfl) ?_
      replace hP : va_P D vwCl [(bn, .inl (cs 0, 2001, .inl (upd bf sz3 (nI i)))), (bs, .inl (cs 0, 2001, .inl (upd cf3 sz3 x))), (ha, .inr (0, [.ref hr, .ref hg, .int z1, .int z2, .int z3])), (hr, .inr (7, [.int (nI n), .int (nI k), .int (nI al), .int (nI be), .int ea, .int pr, .ref sm, .int (nI se), .ref ca])), (hg, .inr (4, [.ref nd, .ref kd, .ref lk, .ref vw])), (kd, .inl (cs 0, 8, .inl kf)), (hs3, .inr (9, [.ref ra3, .ref sa3, .int (nI (sz3 + 1))])), (ra3, .inl (cs 0, 16008, .inl (va_cpy wf rf3 0 (sz3 * 8) 8))), (sa3, .inl (cs 0, 4096, .inl (upd sf3 s9 (nI (sz3 + 1))))), (wk2, .inl (cs 0, 8, .inl wf)), (hse, .inr (8, [.ref hr, .ref ha, .ref wk2, .ref hs3, .ref pa, .ref bn, .ref bs, .int few, .int (nI sz3), .int vse])), (pa, .inl (cs 0, 2001, .inl (upd pf sz3 (nI v))))] H := hP
      replace hD : va_D A [(bn, .inl (cs 0, 2001, .inl (upd bf sz3 (nI i)))), (bs, .inl (cs 0, 2001, .inl (upd cf3 sz3 x))), (ha, .inr (0, [.ref hr, .ref hg, .int z1, .int z2, .int z3])), (hr, .inr (7, [.int (nI n), .int (nI k), .int (nI al), .int (nI be), .int ea, .int pr, .ref sm, .int (nI se), .ref ca])), (hg, .inr (4, [.ref nd, .ref kd, .ref lk, .ref vw])), (kd, .inl (cs 0, 8, .inl kf)), (hs3, .inr (9, [.ref ra3, .ref sa3, .int (nI (sz3 + 1))])), (ra3, .inl (cs 0, 16008, .inl (va_cpy wf rf3 0 (sz3 * 8) 8))), (sa3, .inl (cs 0, 4096, .inl (upd sf3 s9 (nI (sz3 + 1))))), (wk2, .inl (cs 0, 8, .inl wf)), (hse, .inr (8, [.ref hr, .ref ha, .ref wk2, .ref hs3, .ref pa, .ref bn, .ref bs, .int few, .int (nI sz3), .int vse])), (pa, .inl (cs 0, 2001, .inl (upd pf sz3 (nI v))))] := hD
      refine lv_topi (nm_r (e' := nI (A9.2.2.1 v + 1)) (hw_r_9.trans (congrArg nI (updN_at _ _ _))) ?_)
      refine xput C hP hD hS 10 rfl rfl zuX8 tyX8 tyX8_ok nmX8 7 (by decide) zw2_100 rfl rfl rfl (Nat.le_of_ble_eq_true rfl) dX8_comes_132 ?_
      clear hP hD hS
      try clear locs
      try clear H
      intro H locs hP hD hS
      replace hP : va_P D vwCl [(bn, .inl (cs 0, 2001, .inl (upd bf sz3 (nI i)))), (bs, .inl (cs 0, 2001, .inl (upd cf3 sz3 x))), (ha, .inr (0, [.ref hr, .ref hg, .int z1, .int z2, .int z3])), (hr, .inr (7, [.int (nI n), .int (nI k), .int (nI al), .int (nI be), .int ea, .int pr, .ref sm, .int (nI se), .ref ca])), (hg, .inr (4, [.ref nd, .ref kd, .ref lk, .ref vw])), (kd, .inl (cs 0, 8, .inl kf)), (hs3, .inr (9, [.ref ra3, .ref sa3, .int (nI (sz3 + 1))])), (ra3, .inl (cs 0, 16008, .inl (va_cpy wf rf3 0 (sz3 * 8) 8))), (sa3, .inl (cs 0, 4096, .inl (upd sf3 s9 (nI (sz3 + 1))))), (wk2, .inl (cs 0, 8, .inl wf)), (hse, .inr (8, [.ref hr, .ref ha, .ref wk2, .ref hs3, .ref pa, .ref bn, .ref bs, .int (nI (A9.2.2.1 v + 1)), .int (nI sz3), .int vse])), (pa, .inl (cs 0, 2001, .inl (upd pf sz3 (nI v))))] H := hP
      replace hD : va_D A [(bn, .inl (cs 0, 2001, .inl (upd bf sz3 (nI i)))), (bs, .inl (cs 0, 2001, .inl (upd cf3 sz3 x))), (ha, .inr (0, [.ref hr, .ref hg, .int z1, .int z2, .int z3])), (hr, .inr (7, [.int (nI n), .int (nI k), .int (nI al), .int (nI be), .int ea, .int pr, .ref sm, .int (nI se), .ref ca])), (hg, .inr (4, [.ref nd, .ref kd, .ref lk, .ref vw])), (kd, .inl (cs 0, 8, .inl kf)), (hs3, .inr (9, [.ref ra3, .ref sa3, .int (nI (sz3 + 1))])), (ra3, .inl (cs 0, 16008, .inl (va_cpy wf rf3 0 (sz3 * 8) 8))), (sa3, .inl (cs 0, 4096, .inl (upd sf3 s9 (nI (sz3 + 1))))), (wk2, .inl (cs 0, 8, .inl wf)), (hse, .inr (8, [.ref hr, .ref ha, .ref wk2, .ref hs3, .ref pa, .ref bn, .ref bs, .int (nI (A9.2.2.1 v + 1)), .int (nI sz3), .int vse])), (pa, .inl (cs 0, 2001, .inl (upd pf sz3 (nI v))))] := hD
      refine lv_iload hx hb dX8_comes_135 (lv_at hl 1 rfl) ?_
      exact xreti C (⟨(va_cpy wf rf3 0 (sz3 * 8) 8), (upd sf3 s9 (nI (sz3 + 1))), (upd pf sz3 (nI v)), (upd bf sz3 (nI i)), (upd cf3 sz3 x), (sz3 + 1), sz3, (nI (A9.2.2.1 v + 1))⟩) (⟨⟨(slP_up hsl _ _ (by omega) (by omega)), by omega, (inP_up hp _ _ hv), by omega, Or.inr (Or.inr ⟨_, (by have := hI.pa.le v v (Nat.le_refl _) hvz; omega), rfl⟩)⟩, cm_split hI hvz ((spl_iff hn hwt hot).mp hsP)⟩) (xP_map hP [10, 2, 3, 6, 7, 8, 9, 11, 0, 1, 4, 5] rfl) (hD.sub [10, 2, 3, 6, 7, 8, 9, 11, 0, 1, 4, 5] (by decide +kernel) rfl) hS (Nat.le_of_ble_eq_true rfl) (Nat.le_of_ble_eq_true rfl) (by decide) dX8_comes_137
    · -- split
      replace hP : va_P D vwCl [(hse, .inr (8, [.ref hr, .ref ha, .ref wk2, .ref hs3, .ref pa, .ref bn, .ref bs, .int few, .int (nI spl), .int vse])), (pa, .inl (cs 0, 2001, .inl pf)), (bn, .inl (cs 0, 2001, .inl bf)), (bs, .inl (cs 0, 2001, .inl cf3)), (hs3, .inr (9, [.ref ra3, .ref sa3, .int (nI sz3)])), (ra3, .inl (cs 0, 16008, .inl rf3)), (sa3, .inl (cs 0, 4096, .inl sf3)), (ha, .inr (0, [.ref hr, .ref hg, .int z1, .int z2, .int z3])), (hr, .inr (7, [.int (nI n), .int (nI k), .int (nI al), .int (nI be), .int ea, .int pr, .ref sm, .int (nI se), .ref ca])), (hg, .inr (4, [.ref nd, .ref kd, .ref lk, .ref vw])), (kd, .inl (cs 0, 8, .inl kf)), (wk2, .inl (cs 0, 8, .inl wf))] H := hP
      replace hD : va_D A [(hse, .inr (8, [.ref hr, .ref ha, .ref wk2, .ref hs3, .ref pa, .ref bn, .ref bs, .int few, .int (nI spl), .int vse])), (pa, .inl (cs 0, 2001, .inl pf)), (bn, .inl (cs 0, 2001, .inl bf)), (bs, .inl (cs 0, 2001, .inl cf3)), (hs3, .inr (9, [.ref ra3, .ref sa3, .int (nI sz3)])), (ra3, .inl (cs 0, 16008, .inl rf3)), (sa3, .inl (cs 0, 4096, .inl sf3)), (ha, .inr (0, [.ref hr, .ref hg, .int z1, .int z2, .int z3])), (hr, .inr (7, [.int (nI n), .int (nI k), .int (nI al), .int (nI be), .int ea, .int pr, .ref sm, .int (nI se), .ref ca])), (hg, .inr (4, [.ref nd, .ref kd, .ref lk, .ref vw])), (kd, .inl (cs 0, 8, .inl kf)), (wk2, .inl (cs 0, 8, .inl wf))] := hD
      refine lv_istore (lv' := [(5, .int (nI 0)), (4, .int (nI s9)), (0, .ref hse), (1, .int (nI v)), (2, .int (nI i)), (3, .int x)]) hx hb dX8_comes_40 hl (by decide) rfl ?_
      clear hl
      try clear ls
      intro ls hl
      refine lv_iload hx hb dX8_comes_42 (lv_at hl 0 rfl) ?_
      refine lv_if_ne (tgt := 57) hx hb dX8_comes_44 (by decide) (fun c => absurd (by decide) c) (fun _ => ?_)
      refine lv_aload_n hx hb dX8_comes_47 rfl (lv_at hl 2 rfl) ?_
      refine xget C hP 0 rfl rfl zuX8 3 (by decide) zw2_94 rfl dX8_comes_48 ?_
      refine xi (wr := [(hse, .inr (8, [.ref hr, .ref ha, .ref wk2, .ref hs3, .ref pa, .ref bn, .ref bs, .int few, .int (nI spl), .int vse])), (pa, .inl (cs 0, 2001, .inl pf)), (bn, .inl (cs 0, 2001, .inl bf)), (bs, .inl (cs 0, 2001, .inl cf3)), (ha, .inr (0, [.ref hr, .ref hg, .int z1, .int z2, .int z3])), (hr, .inr (7, [.int (nI n), .int (nI k), .int (nI al), .int (nI be), .int ea, .int pr, .ref sm, .int (nI se), .ref ca])), (hg, .inr (4, [.ref nd, .ref kd, .ref lk, .ref vw])), (kd, .inl (cs 0, 8, .inl kf)), (wk2, .inl (cs 0, 8, .inl wf))]) (xV (As := []) (rest := []) C (c_X9_isFull l D cs hs3 ra3 sa3 rf3 sf3 sz3 hsz) kX8_118 hP hD [4, 5, 6] rfl (by decide +kernel) 0 rfl rfl rfl ⟨Nat.le_of_ble_eq_true rfl, Nat.le_of_ble_eq_true rfl⟩ rfl hl.1 rfl (Nat.le_of_ble_eq_true rfl) dX8_comes_51 ⟨Nat.le_of_ble_eq_true rfl, Nat.le_of_ble_eq_true rfl⟩) hP hD hS hA [4, 5, 6] [0, 1, 2, 3, 7, 8, 9, 10, 11] rfl rfl (by decide +kernel) (by decide +kernel) ?_
      clear hP hD hS
      try clear locs
      try clear H
      intro r_11 u_12 H locs hw_r_11 hP hD hS
      have hw_r_11 : PQ (2000 ≤ sz3) r_11 (nI 1) (nI 0) := hw_r_11
      refine W.widen (k := 0) (n := 0) (Nat.le_of_ble_eq_true rfl) (Nat.le_of_ble_eq_true rfl) ?_
      replace hP : va_P D vwCl [(hse, .inr (8, [.ref hr, .ref ha, .ref wk2, .ref hs3, .ref pa, .ref bn, .ref bs, .int few, .int (nI spl), .int vse])), (pa, .inl (cs 0, 2001, .inl pf)), (bn, .inl (cs 0, 2001, .inl bf)), (bs, .inl (cs 0, 2001, .inl cf3)), (ha, .inr (0, [.ref hr, .ref hg, .int z1, .int z2, .int z3])), (hr, .inr (7, [.int (nI n), .int (nI k), .int (nI al), .int (nI be), .int ea, .int pr, .ref sm, .int (nI se), .ref ca])), (hg, .inr (4, [.ref nd, .ref kd, .ref lk, .ref vw])), (kd, .inl (cs 0, 8, .inl kf)), (wk2, .inl (cs 0, 8, .inl wf)), (hs3, .inr (9, [.ref ra3, .ref sa3, .int (nI sz3)])), (ra3, .inl (cs 0, 16008, .inl rf3)), (sa3, .inl (cs 0, 4096, .inl sf3))] H := hP
      replace hD : va_D A [(hse, .inr (8, [.ref hr, .ref ha, .ref wk2, .ref hs3, .ref pa, .ref bn, .ref bs, .int few, .int (nI spl), .int vse])), (pa, .inl (cs 0, 2001, .inl pf)), (bn, .inl (cs 0, 2001, .inl bf)), (bs, .inl (cs 0, 2001, .inl cf3)), (ha, .inr (0, [.ref hr, .ref hg, .int z1, .int z2, .int z3])), (hr, .inr (7, [.int (nI n), .int (nI k), .int (nI al), .int (nI be), .int ea, .int pr, .ref sm, .int (nI se), .ref ca])), (hg, .inr (4, [.ref nd, .ref kd, .ref lk, .ref vw])), (kd, .inl (cs 0, 8, .inl kf)), (wk2, .inl (cs 0, 8, .inl wf)), (hs3, .inr (9, [.ref ra3, .ref sa3, .int (nI sz3)])), (ra3, .inl (cs 0, 16008, .inl rf3)), (sa3, .inl (cs 0, 4096, .inl sf3))] := hD
      refine lv_if_ne (tgt := 73) hx hb dX8_comes_54 (by decide) (fun c_13 => ?_) (fun c_13 => ?_)
      · -- 54 t
        refine lv_iconst (v := (-1)) hx hb dX8_comes_73 (by decide) ?_
        refine lv_istore (lv' := [(6, .int (-1)), (5, .int (nI 0)), (4, .int (nI s9)), (0, .ref hse), (1, .int (nI v)), (2, .int (nI i)), (3, .int x)]) hx hb dX8_comes_74 hl (by decide) rfl ?_
        clear hl
        try clear ls
        intro ls hl
        refine lv_iload hx hb dX8_comes_76 (lv_at hl 0 rfl) ?_
        refine lv_iconst (v := (-1)) hx hb dX8_comes_78 (by decide) ?_
        refine lv_icmp_ne (tgt := 90) hx hb dX8_comes_79 (by decide) (fun c => absurd rfl c) (fun _ => ?_)
        refine lv_aload_n hx hb dX8_comes_82 rfl (lv_at hl 3 rfl) ?_
        refine lv_bipush (v := (-3)) hx hb dX8_comes_83 (by decide) ?_
        refine xput C hP hD hS 0 rfl rfl zuX8 tyX8 tyX8_ok nmX8 7 (by decide) zw2_100 rfl rfl rfl (Nat.le_of_ble_eq_true rfl) dX8_comes_85 ?_
        clear hP hD hS
        try clear locs
        try clear H
        intro H locs hP hD hS
        replace hP : va_P D vwCl [(hse, .inr (8, [.ref hr, .ref ha, .ref wk2, .ref hs3, .ref pa, .ref bn, .ref bs, .int (-3), .int (nI spl), .int vse])), (pa, .inl (cs 0, 2001, .inl pf)), (bn, .inl (cs 0, 2001, .inl bf)), (bs, .inl (cs 0, 2001, .inl cf3)), (ha, .inr (0, [.ref hr, .ref hg, .int z1, .int z2, .int z3])), (hr, .inr (7, [.int (nI n), .int (nI k), .int (nI al), .int (nI be), .int ea, .int pr, .ref sm, .int (nI se), .ref ca])), (hg, .inr (4, [.ref nd, .ref kd, .ref lk, .ref vw])), (kd, .inl (cs 0, 8, .inl kf)), (wk2, .inl (cs 0, 8, .inl wf)), (hs3, .inr (9, [.ref ra3, .ref sa3, .int (nI sz3)])), (ra3, .inl (cs 0, 16008, .inl rf3)), (sa3, .inl (cs 0, 4096, .inl sf3))] H := hP
        replace hD : va_D A [(hse, .inr (8, [.ref hr, .ref ha, .ref wk2, .ref hs3, .ref pa, .ref bn, .ref bs, .int (-3), .int (nI spl), .int vse])), (pa, .inl (cs 0, 2001, .inl pf)), (bn, .inl (cs 0, 2001, .inl bf)), (bs, .inl (cs 0, 2001, .inl cf3)), (ha, .inr (0, [.ref hr, .ref hg, .int z1, .int z2, .int z3])), (hr, .inr (7, [.int (nI n), .int (nI k), .int (nI al), .int (nI be), .int ea, .int pr, .ref sm, .int (nI se), .ref ca])), (hg, .inr (4, [.ref nd, .ref kd, .ref lk, .ref vw])), (kd, .inl (cs 0, 8, .inl kf)), (wk2, .inl (cs 0, 8, .inl wf)), (hs3, .inr (9, [.ref ra3, .ref sa3, .int (nI sz3)])), (ra3, .inl (cs 0, 16008, .inl rf3)), (sa3, .inl (cs 0, 4096, .inl sf3))] := hD
        refine lv_iconst (v := nI 1) hx hb dX8_comes_88 (by decide) ?_
        exact xreti C (⟨rf3, sf3, pf, bf, cf3, sz3, spl, (-3)⟩) (⟨⟨hsl, hsz, hp, hspl, Or.inr (Or.inl rfl)⟩, cm_full hI hwt (fun q => hsP ((spl_iff hn hwt hot).mpr q)) hslc (by rw [← e_s9]; exact hz0) (PQ.yes hw_r_11 c_13)⟩) (xP_map hP [0, 4, 5, 9, 10, 11, 8, 1, 2, 3, 6, 7] rfl) (hD.sub [0, 4, 5, 9, 10, 11, 8, 1, 2, 3, 6, 7] (by decide +kernel) rfl) hS (Nat.le_of_ble_eq_true rfl) (Nat.le_of_ble_eq_true rfl) (by decide) dX8_comes_89
      · -- 54 f
        refine lv_aload_n hx hb dX8_comes_57 rfl (lv_at hl 2 rfl) ?_
        refine xget C hP 0 rfl rfl zuX8 3 (by decide) zw2_94 rfl dX8_comes_58 ?_
        refine lv_iload hx hb dX8_comes_61 (lv_at hl 1 rfl) ?_
        refine lv_aload_n hx hb dX8_comes_63 rfl (lv_at hl 2 rfl) ?_
        refine xget C hP 0 rfl rfl zuX8 2 (by decide) zw2_93 rfl dX8_comes_64 ?_
        refine xi (wr := [(hse, .inr (8, [.ref hr, .ref ha, .ref wk2, .ref hs3, .ref pa, .ref bn, .ref bs, .int few, .int (nI spl), .int vse])), (pa, .inl (cs 0, 2001, .inl pf)), (bn, .inl (cs 0, 2001, .inl bf)), (bs, .inl (cs 0, 2001, .inl cf3)), (ha, .inr (0, [.ref hr, .ref hg, .int z1, .int z2, .int z3])), (hr, .inr (7, [.int (nI n), .int (nI k), .int (nI al), .int (nI be), .int ea, .int pr, .ref sm, .int (nI se), .ref ca])), (hg, .inr (4, [.ref nd, .ref kd, .ref lk, .ref vw])), (kd, .inl (cs 0, 8, .inl kf))]) (xV (As := [.int (nI s9), .ref wk2]) (rest := []) C (c_X9_add_f l D cs hs3 ra3 sa3 rf3 sf3 sz3 wk2 wf s9 (by omega) (by omega)) kX8_82 hP hD [9, 10, 11, 8] rfl (by decide +kernel) 0 rfl rfl rfl ⟨Nat.le_of_ble_eq_true rfl, Nat.le_of_ble_eq_true rfl⟩ rfl hl.1 rfl (Nat.le_of_ble_eq_true rfl) dX8_comes_67 ⟨Nat.le_of_ble_eq_true rfl, Nat.le_of_ble_eq_true rfl⟩) hP hD hS hA [9, 10, 11, 8] [0, 1, 2, 3, 4, 5, 6, 7] rfl rfl (by decide +kernel) (by decide +kernel) ?_
        clear hP hD hS
        try clear locs
        try clear H
        intro r_14 u_15 H locs hw_r_14 hP hD hS
        have hw_r_14 : r_14 = nI sz3 := hw_r_14
        refine W.widen (k := 0) (n := 0) (Nat.le_of_ble_eq_true rfl) (Nat.le_of_ble_eq_true rfl) ?_
        replace hP : va_P D vwCl [(hse, .inr (8, [.ref hr, .ref ha, .ref wk2, .ref hs3, .ref pa, .ref bn, .ref bs, .int few, .int (nI spl), .int vse])), (pa, .inl (cs 0, 2001, .inl pf)), (bn, .inl (cs 0, 2001, .inl bf)), (bs, .inl (cs 0, 2001, .inl cf3)), (ha, .inr (0, [.ref hr, .ref hg, .int z1, .int z2, .int z3])), (hr, .inr (7, [.int (nI n), .int (nI k), .int (nI al), .int (nI be), .int ea, .int pr, .ref sm, .int (nI se), .ref ca])), (hg, .inr (4, [.ref nd, .ref kd, .ref lk, .ref vw])), (kd, .inl (cs 0, 8, .inl kf)), (hs3, .inr (9, [.ref ra3, .ref sa3, .int (nI (sz3 + 1))])), (ra3, .inl (cs 0, 16008, .inl (va_cpy wf rf3 0 (sz3 * 8) 8))), (sa3, .inl (cs 0, 4096, .inl (upd sf3 s9 (nI (sz3 + 1))))), (wk2, .inl (cs 0, 8, .inl wf))] H := hP
        replace hD : va_D A [(hse, .inr (8, [.ref hr, .ref ha, .ref wk2, .ref hs3, .ref pa, .ref bn, .ref bs, .int few, .int (nI spl), .int vse])), (pa, .inl (cs 0, 2001, .inl pf)), (bn, .inl (cs 0, 2001, .inl bf)), (bs, .inl (cs 0, 2001, .inl cf3)), (ha, .inr (0, [.ref hr, .ref hg, .int z1, .int z2, .int z3])), (hr, .inr (7, [.int (nI n), .int (nI k), .int (nI al), .int (nI be), .int ea, .int pr, .ref sm, .int (nI se), .ref ca])), (hg, .inr (4, [.ref nd, .ref kd, .ref lk, .ref vw])), (kd, .inl (cs 0, 8, .inl kf)), (hs3, .inr (9, [.ref ra3, .ref sa3, .int (nI (sz3 + 1))])), (ra3, .inl (cs 0, 16008, .inl (va_cpy wf rf3 0 (sz3 * 8) 8))), (sa3, .inl (cs 0, 4096, .inl (upd sf3 s9 (nI (sz3 + 1))))), (wk2, .inl (cs 0, 8, .inl wf))] := hD
        refine lv_topi (nm_r (e' := nI sz3) hw_r_14 ?_)
        refine lv_goto (tgt := 74) hx hb dX8_comes_70 (by decide) ?_
        refine lv_istore (lv' := [(6, .int (nI sz3)), (5, .int (nI 0)), (4, .int (nI s9)), (0, .ref hse), (1, .int (nI v)), (2, .int (nI i)), (3, .int x)]) hx hb dX8_comes_74 hl (by decide) rfl ?_
        clear hl
        try clear ls
        intro ls hl
        refine lv_iload hx hb dX8_comes_76 (lv_at hl 0 rfl) ?_
        refine lv_iconst (v := (-1)) hx hb dX8_comes_78 (by decide) ?_
        refine lv_icmp_ne (tgt := 90) hx hb dX8_comes_79 (by decide) (fun _ => ?_) (fun c => absurd c (nI_ne_m1 (by omega)))
        refine lv_aload_n hx hb dX8_comes_90 rfl (lv_at hl 3 rfl) ?_
        refine xget C hP 0 rfl rfl zuX8 4 (by decide) zw2_95 rfl dX8_comes_91 ?_
        refine lv_iload hx hb dX8_comes_94 (lv_at hl 0 rfl) ?_
        refine lv_iload_n hx hb dX8_comes_96 rfl (lv_at hl 4 rfl) ?_
        refine xiast C hP hD hS 1 rfl sz3 rfl (by omega) (by decide) dX8_comes_97 ?_
        clear hP hD hS
        try clear locs
        try clear H
        intro H locs hP hD hS
        replace hP : va_P D vwCl [(hse, .inr (8, [.ref hr, .ref ha, .ref wk2, .ref hs3, .ref pa, .ref bn, .ref bs, .int few, .int (nI spl), .int vse])), (pa, .inl (cs 0, 2001, .inl (upd pf sz3 (nI v)))), (bn, .inl (cs 0, 2001, .inl bf)), (bs, .inl (cs 0, 2001, .inl cf3)), (ha, .inr (0, [.ref hr, .ref hg, .int z1, .int z2, .int z3])), (hr, .inr (7, [.int (nI n), .int (nI k), .int (nI al), .int (nI be), .int ea, .int pr, .ref sm, .int (nI se), .ref ca])), (hg, .inr (4, [.ref nd, .ref kd, .ref lk, .ref vw])), (kd, .inl (cs 0, 8, .inl kf)), (hs3, .inr (9, [.ref ra3, .ref sa3, .int (nI (sz3 + 1))])), (ra3, .inl (cs 0, 16008, .inl (va_cpy wf rf3 0 (sz3 * 8) 8))), (sa3, .inl (cs 0, 4096, .inl (upd sf3 s9 (nI (sz3 + 1))))), (wk2, .inl (cs 0, 8, .inl wf))] H := hP
        replace hD : va_D A [(hse, .inr (8, [.ref hr, .ref ha, .ref wk2, .ref hs3, .ref pa, .ref bn, .ref bs, .int few, .int (nI spl), .int vse])), (pa, .inl (cs 0, 2001, .inl (upd pf sz3 (nI v)))), (bn, .inl (cs 0, 2001, .inl bf)), (bs, .inl (cs 0, 2001, .inl cf3)), (ha, .inr (0, [.ref hr, .ref hg, .int z1, .int z2, .int z3])), (hr, .inr (7, [.int (nI n), .int (nI k), .int (nI al), .int (nI be), .int ea, .int pr, .ref sm, .int (nI se), .ref ca])), (hg, .inr (4, [.ref nd, .ref kd, .ref lk, .ref vw])), (kd, .inl (cs 0, 8, .inl kf)), (hs3, .inr (9, [.ref ra3, .ref sa3, .int (nI (sz3 + 1))])), (ra3, .inl (cs 0, 16008, .inl (va_cpy wf rf3 0 (sz3 * 8) 8))), (sa3, .inl (cs 0, 4096, .inl (upd sf3 s9 (nI (sz3 + 1))))), (wk2, .inl (cs 0, 8, .inl wf))] := hD
        refine lv_aload_n hx hb dX8_comes_98 rfl (lv_at hl 3 rfl) ?_
        refine xget C hP 0 rfl rfl zuX8 5 (by decide) zw2_96 rfl dX8_comes_99 ?_
        refine lv_iload hx hb dX8_comes_102 (lv_at hl 0 rfl) ?_
        refine lv_iload_n hx hb dX8_comes_104 rfl (lv_at hl 5 rfl) ?_
        refine xiast C hP hD hS 2 rfl sz3 rfl (by omega) (by decide) dX8_comes_105 ?_
        clear hP hD hS
        try clear locs
        try clear H
        intro H locs hP hD hS
        replace hP : va_P D vwCl [(hse, .inr (8, [.ref hr, .ref ha, .ref wk2, .ref hs3, .ref pa, .ref bn, .ref bs, .int few, .int (nI spl), .int vse])), (pa, .inl (cs 0, 2001, .inl (upd pf sz3 (nI v)))), (bn, .inl (cs 0, 2001, .inl (upd bf sz3 (nI i)))), (bs, .inl (cs 0, 2001, .inl cf3)), (ha, .inr (0, [.ref hr, .ref hg, .int z1, .int z2, .int z3])), (hr, .inr (7, [.int (nI n), .int (nI k), .int (nI al), .int (nI be), .int ea, .int pr, .ref sm, .int (nI se), .ref ca])), (hg, .inr (4, [.ref nd, .ref kd, .ref lk, .ref vw])), (kd, .inl (cs 0, 8, .inl kf)), (hs3, .inr (9, [.ref ra3, .ref sa3, .int (nI (sz3 + 1))])), (ra3, .inl (cs 0, 16008, .inl (va_cpy wf rf3 0 (sz3 * 8) 8))), (sa3, .inl (cs 0, 4096, .inl (upd sf3 s9 (nI (sz3 + 1))))), (wk2, .inl (cs 0, 8, .inl wf))] H := hP
        replace hD : va_D A [(hse, .inr (8, [.ref hr, .ref ha, .ref wk2, .ref hs3, .ref pa, .ref bn, .ref bs, .int few, .int (nI spl), .int vse])), (pa, .inl (cs 0, 2001, .inl (upd pf sz3 (nI v)))), (bn, .inl (cs 0, 2001, .inl (upd bf sz3 (nI i)))), (bs, .inl (cs 0, 2001, .inl cf3)), (ha, .inr (0, [.ref hr, .ref hg, .int z1, .int z2, .int z3])), (hr, .inr (7, [.int (nI n), .int (nI k), .int (nI al), .int (nI be), .int ea, .int pr, .ref sm, .int (nI se), .ref ca])), (hg, .inr (4, [.ref nd, .ref kd, .ref lk, .ref vw])), (kd, .inl (cs 0, 8, .inl kf)), (hs3, .inr (9, [.ref ra3, .ref sa3, .int (nI (sz3 + 1))])), (ra3, .inl (cs 0, 16008, .inl (va_cpy wf rf3 0 (sz3 * 8) 8))), (sa3, .inl (cs 0, 4096, .inl (upd sf3 s9 (nI (sz3 + 1))))), (wk2, .inl (cs 0, 8, .inl wf))] := hD
        refine lv_aload_n hx hb dX8_comes_106 rfl (lv_at hl 3 rfl) ?_
        refine xget C hP 0 rfl rfl zuX8 6 (by decide) zw2_98 rfl dX8_comes_107 ?_
        refine lv_iload hx hb dX8_comes_110 (lv_at hl 0 rfl) ?_
        refine lv_iload_n hx hb dX8_comes_112 rfl (lv_at hl 6 rfl) ?_
        refine xiast C hP hD hS 3 rfl sz3 rfl (by omega) (by decide) dX8_comes_113 ?_
        clear hP hD hS
        try clear locs
        try clear H
        intro H locs hP hD hS
        replace hP : va_P D vwCl [(hse, .inr (8, [.ref hr, .ref ha, .ref wk2, .ref hs3, .ref pa, .ref bn, .ref bs, .int few, .int (nI spl), .int vse])), (pa, .inl (cs 0, 2001, .inl (upd pf sz3 (nI v)))), (bn, .inl (cs 0, 2001, .inl (upd bf sz3 (nI i)))), (bs, .inl (cs 0, 2001, .inl (upd cf3 sz3 x))), (ha, .inr (0, [.ref hr, .ref hg, .int z1, .int z2, .int z3])), (hr, .inr (7, [.int (nI n), .int (nI k), .int (nI al), .int (nI be), .int ea, .int pr, .ref sm, .int (nI se), .ref ca])), (hg, .inr (4, [.ref nd, .ref kd, .ref lk, .ref vw])), (kd, .inl (cs 0, 8, .inl kf)), (hs3, .inr (9, [.ref ra3, .ref sa3, .int (nI (sz3 + 1))])), (ra3, .inl (cs 0, 16008, .inl (va_cpy wf rf3 0 (sz3 * 8) 8))), (sa3, .inl (cs 0, 4096, .inl (upd sf3 s9 (nI (sz3 + 1))))), (wk2, .inl (cs 0, 8, .inl wf))] H := hP
        replace hD : va_D A [(hse, .inr (8, [.ref hr, .ref ha, .ref wk2, .ref hs3, .ref pa, .ref bn, .ref bs, .int few, .int (nI spl), .int vse])), (pa, .inl (cs 0, 2001, .inl (upd pf sz3 (nI v)))), (bn, .inl (cs 0, 2001, .inl (upd bf sz3 (nI i)))), (bs, .inl (cs 0, 2001, .inl (upd cf3 sz3 x))), (ha, .inr (0, [.ref hr, .ref hg, .int z1, .int z2, .int z3])), (hr, .inr (7, [.int (nI n), .int (nI k), .int (nI al), .int (nI be), .int ea, .int pr, .ref sm, .int (nI se), .ref ca])), (hg, .inr (4, [.ref nd, .ref kd, .ref lk, .ref vw])), (kd, .inl (cs 0, 8, .inl kf)), (hs3, .inr (9, [.ref ra3, .ref sa3, .int (nI (sz3 + 1))])), (ra3, .inl (cs 0, 16008, .inl (va_cpy wf rf3 0 (sz3 * 8) 8))), (sa3, .inl (cs 0, 4096, .inl (upd sf3 s9 (nI (sz3 + 1))))), (wk2, .inl (cs 0, 8, .inl wf))] := hD
        refine lv_iload hx hb dX8_comes_114 (lv_at hl 1 rfl) ?_
        refine lv_if_eq (tgt := 135) hx hb dX8_comes_116 (by decide) (fun _ => ?_) (fun c => absurd (by decide) c)
        refine lv_iload hx hb dX8_comes_135 (lv_at hl 1 rfl) ?_
        exact xreti C (⟨(va_cpy wf rf3 0 (sz3 * 8) 8), (upd sf3 s9 (nI (sz3 + 1))), (upd pf sz3 (nI v)), (upd bf sz3 (nI i)), (upd cf3 sz3 x), (sz3 + 1), spl, few⟩) (⟨⟨(slP_up hsl _ _ (by omega) (by omega)), by omega, (inP_up hp _ _ hv), hspl, hfew⟩, by rw [e_s9]; exact cm_nw hI hwt hot hvz (fun q => hsP ((spl_iff hn hwt hot).mpr q)) hslc (by rw [← e_s9]; exact hz0) (Nat.lt_of_not_le (PQ.no hw_r_11 c_13 (by decide)))⟩) (xP_map hP [0, 4, 5, 8, 9, 10, 11, 1, 2, 3, 6, 7] rfl) (hD.sub [0, 4, 5, 8, 9, 10, 11, 1, 2, 3, 6, 7] (by decide +kernel) rfl) hS (Nat.le_of_ble_eq_true rfl) (Nat.le_of_ble_eq_true rfl) (by decide) dX8_comes_137
  · -- split
    refine lv_istore (lv' := [(4, .int (nI s9)), (0, .ref hse), (1, .int (nI v)), (2, .int (nI i)), (3, .int x)]) hx hb dX8_comes_11 hl (by decide) rfl ?_
    clear hl
    try clear ls
    intro ls hl
    refine lv_aload_n hx hb dX8_comes_13 rfl (lv_at hl 1 rfl) ?_
    refine xget C hP 0 rfl rfl zuX8 3 (by decide) zw2_94 rfl dX8_comes_14 ?_
    refine lv_iload hx hb dX8_comes_17 (lv_at hl 0 rfl) ?_
    refine xi (wr := [(hse, .inr (8, [.ref hr, .ref ha, .ref wk2, .ref hs3, .ref pa, .ref bn, .ref bs, .int few, .int (nI spl), .int vse])), (ha, .inr (0, [.ref hr, .ref hg, .int z1, .int z2, .int z3])), (hr, .inr (7, [.int (nI n), .int (nI k), .int (nI al), .int (nI be), .int ea, .int pr, .ref sm, .int (nI se), .ref ca])), (pa, .inl (cs 0, 2001, .inl pf)), (bn, .inl (cs 0, 2001, .inl bf)), (bs, .inl (cs 0, 2001, .inl cf3)), (hg, .inr (4, [.ref nd, .ref kd, .ref lk, .ref vw])), (kd, .inl (cs 0, 8, .inl kf)), (wk2, .inl (cs 0, 8, .inl wf))]) (xV (As := [.int (nI s9)]) (rest := []) C (c_X9_at_f l D cs hs3 ra3 sa3 rf3 sf3 sz3 s9 (m9 + 1) (by omega) e_m9) kX8_115 hP hD [8, 9, 10] rfl (by decide +kernel) 0 rfl rfl rfl ⟨Nat.le_of_ble_eq_true rfl, Nat.le_of_ble_eq_true rfl⟩ rfl hl.1 rfl (Nat.le_of_ble_eq_true rfl) dX8_comes_19 ⟨Nat.le_of_ble_eq_true rfl, Nat.le_of_ble_eq_true rfl⟩) hP hD hS hA [8, 9, 10] [0, 1, 2, 3, 4, 5, 6, 7, 11] rfl rfl (by decide +kernel) (by decide +kernel) ?_
    clear hP hD hS
    try clear locs
    try clear H
    intro r_16 u_17 H locs hw_r_16 hP hD hS
    have hw_r_16 : r_16 = nI (m9 + 1) - nI 1 := hw_r_16
    refine W.widen (k := 0) (n := 0) (Nat.le_of_ble_eq_true rfl) (Nat.le_of_ble_eq_true rfl) ?_
    replace hP : va_P D vwCl [(hse, .inr (8, [.ref hr, .ref ha, .ref wk2, .ref hs3, .ref pa, .ref bn, .ref bs, .int few, .int (nI spl), .int vse])), (ha, .inr (0, [.ref hr, .ref hg, .int z1, .int z2, .int z3])), (hr, .inr (7, [.int (nI n), .int (nI k), .int (nI al), .int (nI be), .int ea, .int pr, .ref sm, .int (nI se), .ref ca])), (pa, .inl (cs 0, 2001, .inl pf)), (bn, .inl (cs 0, 2001, .inl bf)), (bs, .inl (cs 0, 2001, .inl cf3)), (hg, .inr (4, [.ref nd, .ref kd, .ref lk, .ref vw])), (kd, .inl (cs 0, 8, .inl kf)), (wk2, .inl (cs 0, 8, .inl wf)), (hs3, .inr (9, [.ref ra3, .ref sa3, .int (nI sz3)])), (ra3, .inl (cs 0, 16008, .inl rf3)), (sa3, .inl (cs 0, 4096, .inl sf3))] H := hP
    replace hD : va_D A [(hse, .inr (8, [.ref hr, .ref ha, .ref wk2, .ref hs3, .ref pa, .ref bn, .ref bs, .int few, .int (nI spl), .int vse])), (ha, .inr (0, [.ref hr, .ref hg, .int z1, .int z2, .int z3])), (hr, .inr (7, [.int (nI n), .int (nI k), .int (nI al), .int (nI be), .int ea, .int pr, .ref sm, .int (nI se), .ref ca])), (pa, .inl (cs 0, 2001, .inl pf)), (bn, .inl (cs 0, 2001, .inl bf)), (bs, .inl (cs 0, 2001, .inl cf3)), (hg, .inr (4, [.ref nd, .ref kd, .ref lk, .ref vw])), (kd, .inl (cs 0, 8, .inl kf)), (wk2, .inl (cs 0, 8, .inl wf)), (hs3, .inr (9, [.ref ra3, .ref sa3, .int (nI sz3)])), (ra3, .inl (cs 0, 16008, .inl rf3)), (sa3, .inl (cs 0, 4096, .inl sf3))] := hD
    refine lv_topi (nm_r (e' := nI m9) (hw_r_16.trans (pk_sub (by omega))) ?_)
    refine lv_iconst (v := (-1)) hx hb dX8_comes_22 (by decide) ?_
    refine lv_icmp_eq (tgt := 28) hx hb dX8_comes_23 (by decide) (fun c => absurd c (nI_ne_m1 (by omega))) (fun _ => ?_)
    refine lv_iconst (v := nI 0) hx hb dX8_comes_26 (by decide) ?_
    exact xreti C (⟨rf3, sf3, pf, bf, cf3, sz3, spl, few⟩) (⟨⟨hsl, hsz, hp, hspl, hfew⟩, cm_seen hn hI hwt h_m9 hw9⟩) (xP_map hP [0, 1, 2, 9, 10, 11, 8, 3, 4, 5, 6, 7] rfl) (hD.sub [0, 1, 2, 9, 10, 11, 8, 3, 4, 5, 6, 7] (by decide +kernel) rfl) hS (Nat.le_of_ble_eq_true rfl) (Nat.le_of_ble_eq_true rfl) (by decide) dX8_comes_27
