set_option maxHeartbeats 4000000 in
set_option maxRecDepth 100000 in
theorem c_X8_open_f (l : Launch) (D : va_G) (cs : Nat → ClassId) (hse hr ha wk2 hs3 pa bn bs spl : Nat) (few vse : Int32) (hg sm ca n k al be se nd kd lk vw : Nat) (ea pr z1 z2 z3 : Int32) (kf wf : Nat → Int32) (ra3 sa3 sz3 : Nat) (rf3 sf3 : Nat → Int32) (pf bf cf3 : Nat → Int32) (q : Nat) (fsm : Nat → Option Nat) (sg lf : Nat → Int32) (A9 : srS) (v i : Nat) (hn : n ≤ 8) (hsl : slP sz3 sf3) (hsz : sz3 ≤ 2001) (hp : inP 2001 2001 pf) (hspl : spl < 2001) (hfew : fewP few) (hs35 : se ≤ 35) (hv : v < 2001) (hi : i < n) (hq : fsm i = some q) (hI : srI n be kf lf rf3 sf3 pf sz3 A9) (hvz : v < sz3) (hse9 : se = (smL n k i (2 ^ n)).length) (hsm : smT n k i (2 ^ n) sg) (hlis : lisI n i lf kf (fun j => rf3 (v * 8 + j)) 0 z1 z2 z3) (hask : askP i (fun j => rf3 (v * 8 + j)) kf) (hkk : 1 ≤ k ∧ k < n) (hal : al ≤ 8) (hbe : 1 ≤ be ∧ be ≤ 15) (h2k : k < 2 * al) : xMet l D cs yX8_open cX8_open 8 (some .boolean) ({ frames := 4, cells := 0, slots := 0, locals := 116 } : Room) [.ref hse, .int (nI v), .int (nI i)] [(hse, .inr (8, [.ref hr, .ref ha, .ref wk2, .ref hs3, .ref pa, .ref bn, .ref bs, .int few, .int (nI spl), .int vse])), (ha, .inr (0, [.ref hr, .ref hg, .int z1, .int z2, .int z3])), (hr, .inr (7, [.int (nI n), .int (nI k), .int (nI al), .int (nI be), .int ea, .int pr, .ref sm, .int (nI se), .ref ca])), (hs3, .inr (9, [.ref ra3, .ref sa3, .int (nI sz3)])), (ra3, .inl (cs 0, 16008, .inl rf3)), (sa3, .inl (cs 0, 4096, .inl sf3)), (wk2, .inl (cs 0, 8, .inl wf)), (pa, .inl (cs 0, 2001, .inl pf)), (bn, .inl (cs 0, 2001, .inl bf)), (bs, .inl (cs 0, 2001, .inl cf3)), (hg, .inr (4, [.ref nd, .ref kd, .ref lk, .ref vw])), (kd, .inl (cs 0, 8, .inl kf)), (sm, .inl (cs 5, 8, .inr (.inr (.inr (.inr fsm))))), (q, .inl (cs 0, 35, .inl sg))] (xQi D (fun (r : Int32) (u : (Nat → Int32) × (Nat → Int32) × (Nat → Int32) × (Nat → Int32) × (Nat → Int32) × Nat × Nat × Int32 × (Nat → Int32)) => match u with | (rz3, fz3, pz, bz, cz, zz3, splz, fewz, wz) => (slP zz3 fz3 ∧ zz3 ≤ 2001 ∧ inP 2001 2001 pz ∧ splz < 2001 ∧ fewP fewz) ∧ opR n k al be pr kf lf rf3 sz3 A9 v i few r fewz rz3 fz3 pz zz3) (fun (u : (Nat → Int32) × (Nat → Int32) × (Nat → Int32) × (Nat → Int32) × (Nat → Int32) × Nat × Nat × Int32 × (Nat → Int32)) => match u with | (rz3, fz3, pz, bz, cz, zz3, splz, fewz, wz) => [(hse, .inr (8, [.ref hr, .ref ha, .ref wk2, .ref hs3, .ref pa, .ref bn, .ref bs, .int fewz, .int (nI splz), .int vse])), (ha, .inr (0, [.ref hr, .ref hg, .int z1, .int z2, .int z3])), (hr, .inr (7, [.int (nI n), .int (nI k), .int (nI al), .int (nI be), .int ea, .int pr, .ref sm, .int (nI se), .ref ca])), (hs3, .inr (9, [.ref ra3, .ref sa3, .int (nI zz3)])), (ra3, .inl (cs 0, 16008, .inl rz3)), (sa3, .inl (cs 0, 4096, .inl fz3)), (wk2, .inl (cs 0, 8, .inl wz)), (pa, .inl (cs 0, 2001, .inl pz)), (bn, .inl (cs 0, 2001, .inl bz)), (bs, .inl (cs 0, 2001, .inl cz)), (hg, .inr (4, [.ref nd, .ref kd, .ref lk, .ref vw])), (kd, .inl (cs 0, 8, .inl kf)), (sm, .inl (cs 5, 8, .inr (.inr (.inr (.inr fsm))))), (q, .inl (cs 0, 35, .inl sg))])) := by
  refine xMet.intro (by decide) (Nat.le_of_ble_eq_true rfl) ?_
  intro p e s m args below meth c A ls C hP hD hS hl
  have hx := C.1
  have hb := C.2.1
  have hz := C.2.2.2.2.1
  have hown := C.2.2.2.1
  have hA := C.2.2.2.2.2.2.2.2.2
  have hAO := C.2.2.2.2.2.2.2.2.1.2.2
  replace hl : lv_has ls 8 [(0, .ref hse), (1, .int (nI v)), (2, .int (nI i))] := hl
  obtain ⟨H, hH⟩ : ∃ H, H = s.heap := ⟨_, rfl⟩
  replace hP : va_P D vwCl [(hse, .inr (8, [.ref hr, .ref ha, .ref wk2, .ref hs3, .ref pa, .ref bn, .ref bs, .int few, .int (nI spl), .int vse])), (ha, .inr (0, [.ref hr, .ref hg, .int z1, .int z2, .int z3])), (hr, .inr (7, [.int (nI n), .int (nI k), .int (nI al), .int (nI be), .int ea, .int pr, .ref sm, .int (nI se), .ref ca])), (hs3, .inr (9, [.ref ra3, .ref sa3, .int (nI sz3)])), (ra3, .inl (cs 0, 16008, .inl rf3)), (sa3, .inl (cs 0, 4096, .inl sf3)), (wk2, .inl (cs 0, 8, .inl wf)), (pa, .inl (cs 0, 2001, .inl pf)), (bn, .inl (cs 0, 2001, .inl bf)), (bs, .inl (cs 0, 2001, .inl cf3)), (hg, .inr (4, [.ref nd, .ref kd, .ref lk, .ref vw])), (kd, .inl (cs 0, 8, .inl kf)), (sm, .inl (cs 5, 8, .inr (.inr (.inr (.inr fsm))))), (q, .inl (cs 0, 35, .inl sg))] H := by rw [hH]; exact hP
  replace hS : va_S A s.heap H [] := by rw [hH]; exact hS
  obtain ⟨locs, hlocs⟩ : ∃ z : List Loc, z = [] := ⟨_, rfl⟩
  rw [← hlocs] at hS
  suffices hW : W p l e ({ frames := 4, cells := 0, slots := 0, locals := 116 } : Room) s m args below meth c H locs 0 0 (MQ below ((xQi D (fun (r : Int32) (u : (Nat → Int32) × (Nat → Int32) × (Nat → Int32) × (Nat → Int32) × (Nat → Int32) × Nat × Nat × Int32 × (Nat → Int32)) => match u with | (rz3, fz3, pz, bz, cz, zz3, splz, fewz, wz) => (slP zz3 fz3 ∧ zz3 ≤ 2001 ∧ inP 2001 2001 pz ∧ splz < 2001 ∧ fewP fewz) ∧ opR n k al be pr kf lf rf3 sz3 A9 v i few r fewz rz3 fz3 pz zz3) (fun (u : (Nat → Int32) × (Nat → Int32) × (Nat → Int32) × (Nat → Int32) × (Nat → Int32) × Nat × Nat × Int32 × (Nat → Int32)) => match u with | (rz3, fz3, pz, bz, cz, zz3, splz, fewz, wz) => [(hse, .inr (8, [.ref hr, .ref ha, .ref wk2, .ref hs3, .ref pa, .ref bn, .ref bs, .int fewz, .int (nI splz), .int vse])), (ha, .inr (0, [.ref hr, .ref hg, .int z1, .int z2, .int z3])), (hr, .inr (7, [.int (nI n), .int (nI k), .int (nI al), .int (nI be), .int ea, .int pr, .ref sm, .int (nI se), .ref ca])), (hs3, .inr (9, [.ref ra3, .ref sa3, .int (nI zz3)])), (ra3, .inl (cs 0, 16008, .inl rz3)), (sa3, .inl (cs 0, 4096, .inl fz3)), (wk2, .inl (cs 0, 8, .inl wz)), (pa, .inl (cs 0, 2001, .inl pz)), (bn, .inl (cs 0, 2001, .inl bz)), (bs, .inl (cs 0, 2001, .inl cz)), (hg, .inr (4, [.ref nd, .ref kd, .ref lk, .ref vw])), (kd, .inl (cs 0, 8, .inl kf)), (sm, .inl (cs 5, 8, .inr (.inr (.inr (.inr fsm))))), (q, .inl (cs 0, 35, .inl sg))])) A) args s 0 0 A) (F0 m 0 ls []) by rw [hlocs, hH] at hW; exact hW
  clear hH hlocs
  refine lv_iconst (v := nI 0) hx hb dX8_open_0 (by decide) ?_
  refine lv_istore_n (lv' := [(3, .int (nI 0)), (0, .ref hse), (1, .int (nI v)), (2, .int (nI i))]) hx hb dX8_open_1 rfl hl (by decide) rfl ?_
  clear hl
  try clear ls
  intro ls hl
  refine lv_iconst (v := nI 0) hx hb dX8_open_2 (by decide) ?_
  refine lv_istore (lv' := [(4, .int (nI 0)), (3, .int (nI 0)), (0, .ref hse), (1, .int (nI v)), (2, .int (nI i))]) hx hb dX8_open_3 hl (by decide) rfl ?_
  clear hl
  try clear ls
  intro ls hl
  have loop_1 : ∀ (n_loop_1 : Nat) (o : Nat) (c0a : Nat → Int32) (c1a : Nat → Int32) (c2a : Nat → Int32) (c3a : Nat → Int32) (c4a : Nat → Int32) (c5a : Nat → Int32) (gfa : Int32) (gza : Nat) (gsa : Nat) (m9 : Int32), (o ≤ se) → (slP gza c2a) → (gza ≤ 2001) → (inP 2001 2001 c3a) → (gsa < 2001) → (fewP gfa) → (opI n k al be pr kf lf rf3 sz3 A9 v i few z3 o m9 c1a c2a c3a gza gfa) → se - o < n_loop_1 → ∀ (H : Heap) (locs : List Loc) (ls : Array Slot), va_P D vwCl [(hse, .inr (8, [.ref hr, .ref ha, .ref wk2, .ref hs3, .ref pa, .ref bn, .ref bs, .int gfa, .int (nI gsa), .int vse])), (ha, .inr (0, [.ref hr, .ref hg, .int z1, .int z2, .int z3])), (hr, .inr (7, [.int (nI n), .int (nI k), .int (nI al), .int (nI be), .int ea, .int pr, .ref sm, .int (nI se), .ref ca])), (hs3, .inr (9, [.ref ra3, .ref sa3, .int (nI gza)])), (ra3, .inl (cs 0, 16008, .inl c1a)), (sa3, .inl (cs 0, 4096, .inl c2a)), (wk2, .inl (cs 0, 8, .inl c0a)), (pa, .inl (cs 0, 2001, .inl c3a)), (bn, .inl (cs 0, 2001, .inl c4a)), (bs, .inl (cs 0, 2001, .inl c5a)), (hg, .inr (4, [.ref nd, .ref kd, .ref lk, .ref vw])), (kd, .inl (cs 0, 8, .inl kf)), (sm, .inl (cs 5, 8, .inr (.inr (.inr (.inr fsm))))), (q, .inl (cs 0, 35, .inl sg))] H → va_D A [(hse, .inr (8, [.ref hr, .ref ha, .ref wk2, .ref hs3, .ref pa, .ref bn, .ref bs, .int gfa, .int (nI gsa), .int vse])), (ha, .inr (0, [.ref hr, .ref hg, .int z1, .int z2, .int z3])), (hr, .inr (7, [.int (nI n), .int (nI k), .int (nI al), .int (nI be), .int ea, .int pr, .ref sm, .int (nI se), .ref ca])), (hs3, .inr (9, [.ref ra3, .ref sa3, .int (nI gza)])), (ra3, .inl (cs 0, 16008, .inl c1a)), (sa3, .inl (cs 0, 4096, .inl c2a)), (wk2, .inl (cs 0, 8, .inl c0a)), (pa, .inl (cs 0, 2001, .inl c3a)), (bn, .inl (cs 0, 2001, .inl c4a)), (bs, .inl (cs 0, 2001, .inl c5a)), (hg, .inr (4, [.ref nd, .ref kd, .ref lk, .ref vw])), (kd, .inl (cs 0, 8, .inl kf)), (sm, .inl (cs 5, 8, .inr (.inr (.inr (.inr fsm))))), (q, .inl (cs 0, 35, .inl sg))] → va_S A s.heap H locs → lv_has ls 8 [(4, .int (nI o)), (3, .int m9), (0, .ref hse), (1, .int (nI v)), (2, .int (nI i))] → W p l e ({ frames := 4, cells := 0, slots := 0, locals := 116 } : Room) s m args below meth c H locs 0 0 (MQ below ((xQi D (fun (r : Int32) (u : (Nat → Int32) × (Nat → Int32) × (Nat → Int32) × (Nat → Int32) × (Nat → Int32) × Nat × Nat × Int32 × (Nat → Int32)) => match u with | (rz3, fz3, pz, bz, cz, zz3, splz, fewz, wz) => (slP zz3 fz3 ∧ zz3 ≤ 2001 ∧ inP 2001 2001 pz ∧ splz < 2001 ∧ fewP fewz) ∧ opR n k al be pr kf lf rf3 sz3 A9 v i few r fewz rz3 fz3 pz zz3) (fun (u : (Nat → Int32) × (Nat → Int32) × (Nat → Int32) × (Nat → Int32) × (Nat → Int32) × Nat × Nat × Int32 × (Nat → Int32)) => match u with | (rz3, fz3, pz, bz, cz, zz3, splz, fewz, wz) => [(hse, .inr (8, [.ref hr, .ref ha, .ref wk2, .ref hs3, .ref pa, .ref bn, .ref bs, .int fewz, .int (nI splz), .int vse])), (ha, .inr (0, [.ref hr, .ref hg, .int z1, .int z2, .int z3])), (hr, .inr (7, [.int (nI n), .int (nI k), .int (nI al), .int (nI be), .int ea, .int pr, .ref sm, .int (nI se), .ref ca])), (hs3, .inr (9, [.ref ra3, .ref sa3, .int (nI zz3)])), (ra3, .inl (cs 0, 16008, .inl rz3)), (sa3, .inl (cs 0, 4096, .inl fz3)), (wk2, .inl (cs 0, 8, .inl wz)), (pa, .inl (cs 0, 2001, .inl pz)), (bn, .inl (cs 0, 2001, .inl bz)), (bs, .inl (cs 0, 2001, .inl cz)), (hg, .inr (4, [.ref nd, .ref kd, .ref lk, .ref vw])), (kd, .inl (cs 0, 8, .inl kf)), (sm, .inl (cs 5, 8, .inr (.inr (.inr (.inr fsm))))), (q, .inl (cs 0, 35, .inl sg))])) A) args s 0 0 A) (F0 m 5 ls []) := by
    intro n_loop_1
    induction n_loop_1 with
    | zero => intro o c0a c1a c2a c3a c4a c5a gfa gza gsa m9 h_o hsla hsza hpa hspla hfewa hOa hlt H locs ls hP hD hS hl; exact absurd hlt (Nat.not_lt_zero _)
    | succ n_loop_1 ih_loop_1 =>
      intro o c0a c1a c2a c3a c4a c5a gfa gza gsa m9 h_o hsla hsza hpa hspla hfewa hOa hlt_loop_1 H locs ls hP hD hS hl
      refine lv_iload hx hb dX8_open_5 (lv_at hl 0 rfl) ?_
      refine lv_aload_n hx hb dX8_open_7 rfl (lv_at hl 2 rfl) ?_
      refine xget C hP 0 rfl rfl zuX8 0 (by decide) zw2_91 rfl dX8_open_8 ?_
      refine xget C hP 2 rfl rfl zuX7 7 (by decide) zw1_103 rfl dX8_open_11 ?_
      refine lv_icmp_ge (tgt := 119) hx hb dX8_open_14 (by decide) (fun c_2 => ?_) (fun c_2 => ?_)
      · -- 14 t
        have fc_2 : se ≤ o := nf_le (by omega) (by omega) c_2
        refine lv_iconst (v := nI 0) hx hb dX8_open_119 (by decide) ?_
        exact xreti C (⟨c1a, c2a, c3a, c4a, c5a, gza, gsa, gfa, c0a⟩) (⟨⟨hsla, hsza, hpa, hspla, hfewa⟩, hOa.done (by omega)⟩) hP hD hS (Nat.le_of_ble_eq_true rfl) (Nat.le_of_ble_eq_true rfl) (by decide) dX8_open_120
      · -- 14 f
        have fc_2 : o < se := nf_nle (by omega) (by omega) c_2
        refine lv_aload_n hx hb dX8_open_17 rfl (lv_at hl 2 rfl) ?_
        refine xget C hP 0 rfl rfl zuX8 0 (by decide) zw2_91 rfl dX8_open_18 ?_
        refine xget C hP 2 rfl rfl zuX7 6 (by decide) zw1_100 rfl dX8_open_21 ?_
        refine lv_iload_n hx hb dX8_open_24 rfl (lv_at hl 4 rfl) ?_
        refine xaald C hP 12 5 rfl rfl rfl i rfl (by omega) (by decide) hq dX8_open_25 ?_
        refine lv_iload hx hb dX8_open_26 (lv_at hl 0 rfl) ?_
        refine xiald C hP 13 rfl o rfl (by omega) (by decide) dX8_open_28 ?_
        refine lv_istore (lv' := [(5, .int (sg o)), (4, .int (nI o)), (3, .int m9), (0, .ref hse), (1, .int (nI v)), (2, .int (nI i))]) hx hb dX8_open_29 hl (by decide) rfl ?_
        clear hl
        try clear ls
        intro ls hl
        refine lv_aload_n hx hb dX8_open_31 rfl (lv_at hl 3 rfl) ?_
        refine xget C hP 0 rfl rfl zuX8 1 (by decide) zw2_92 rfl dX8_open_32 ?_
        refine lv_iload hx hb dX8_open_35 (lv_at hl 0 rfl) ?_
        refine xi (wr := [(hse, .inr (8, [.ref hr, .ref ha, .ref wk2, .ref hs3, .ref pa, .ref bn, .ref bs, .int gfa, .int (nI gsa), .int vse])), (hs3, .inr (9, [.ref ra3, .ref sa3, .int (nI gza)])), (ra3, .inl (cs 0, 16008, .inl c1a)), (sa3, .inl (cs 0, 4096, .inl c2a)), (wk2, .inl (cs 0, 8, .inl c0a)), (pa, .inl (cs 0, 2001, .inl c3a)), (bn, .inl (cs 0, 2001, .inl c4a)), (bs, .inl (cs 0, 2001, .inl c5a)), (hg, .inr (4, [.ref nd, .ref kd, .ref lk, .ref vw])), (kd, .inl (cs 0, 8, .inl kf)), (sm, .inl (cs 5, 8, .inr (.inr (.inr (.inr fsm))))), (q, .inl (cs 0, 35, .inl sg))]) (xV (As := [.int (sg o)]) (rest := []) C (c_X0_winner_f l D cs ha hg hr sm ca n k al be se ea pr z1 z2 z3 (sg o)) kX8_96 hP hD [1, 2] rfl (by decide +kernel) 0 rfl rfl rfl ⟨Nat.le_of_ble_eq_true rfl, Nat.le_of_ble_eq_true rfl⟩ rfl hl.1 rfl (Nat.le_of_ble_eq_true rfl) dX8_open_37 ⟨Nat.le_of_ble_eq_true rfl, Nat.le_of_ble_eq_true rfl⟩) hP hD hS hA [1, 2] [0, 3, 4, 5, 6, 7, 8, 9, 10, 11, 12, 13] rfl rfl (by decide +kernel) (by decide +kernel) ?_
        clear hP hD hS
        try clear locs
        try clear H
        intro r_3 u_4 H locs hw_r_3 hP hD hS
        have hw_r_3 : r_3 = winF al (bcF ((sg o) &&& z2)) (bcF ((sg o) &&& z1)) := hw_r_3
        refine W.widen (k := 0) (n := 0) (Nat.le_of_ble_eq_true rfl) (Nat.le_of_ble_eq_true rfl) ?_
        replace hP : va_P D vwCl [(hse, .inr (8, [.ref hr, .ref ha, .ref wk2, .ref hs3, .ref pa, .ref bn, .ref bs, .int gfa, .int (nI gsa), .int vse])), (hs3, .inr (9, [.ref ra3, .ref sa3, .int (nI gza)])), (ra3, .inl (cs 0, 16008, .inl c1a)), (sa3, .inl (cs 0, 4096, .inl c2a)), (wk2, .inl (cs 0, 8, .inl c0a)), (pa, .inl (cs 0, 2001, .inl c3a)), (bn, .inl (cs 0, 2001, .inl c4a)), (bs, .inl (cs 0, 2001, .inl c5a)), (hg, .inr (4, [.ref nd, .ref kd, .ref lk, .ref vw])), (kd, .inl (cs 0, 8, .inl kf)), (sm, .inl (cs 5, 8, .inr (.inr (.inr (.inr fsm))))), (q, .inl (cs 0, 35, .inl sg)), (ha, .inr (0, [.ref hr, .ref hg, .int z1, .int z2, .int z3])), (hr, .inr (7, [.int (nI n), .int (nI k), .int (nI al), .int (nI be), .int ea, .int pr, .ref sm, .int (nI se), .ref ca]))] H := hP
        replace hD : va_D A [(hse, .inr (8, [.ref hr, .ref ha, .ref wk2, .ref hs3, .ref pa, .ref bn, .ref bs, .int gfa, .int (nI gsa), .int vse])), (hs3, .inr (9, [.ref ra3, .ref sa3, .int (nI gza)])), (ra3, .inl (cs 0, 16008, .inl c1a)), (sa3, .inl (cs 0, 4096, .inl c2a)), (wk2, .inl (cs 0, 8, .inl c0a)), (pa, .inl (cs 0, 2001, .inl c3a)), (bn, .inl (cs 0, 2001, .inl c4a)), (bs, .inl (cs 0, 2001, .inl c5a)), (hg, .inr (4, [.ref nd, .ref kd, .ref lk, .ref vw])), (kd, .inl (cs 0, 8, .inl kf)), (sm, .inl (cs 5, 8, .inr (.inr (.inr (.inr fsm))))), (q, .inl (cs 0, 35, .inl sg)), (ha, .inr (0, [.ref hr, .ref hg, .int z1, .int z2, .int z3])), (hr, .inr (7, [.int (nI n), .int (nI k), .int (nI al), .int (nI be), .int ea, .int pr, .ref sm, .int (nI se), .ref ca]))] := hD
        obtain ⟨W9, h_W9, e_W9⟩ := winF_W al (bcF (sg o &&& z2)) (bcF (sg o &&& z1))
        refine lv_topi (nm_r (e' := cI W9) (hw_r_3.trans e_W9) ?_)
        refine lv_istore (lv' := [(6, .int (cI W9)), (5, .int (sg o)), (4, .int (nI o)), (3, .int m9), (0, .ref hse), (1, .int (nI v)), (2, .int (nI i))]) hx hb dX8_open_40 hl (by decide) rfl ?_
        clear hl
        try clear ls
        intro ls hl
        refine lv_iconst (v := nI 1) hx hb dX8_open_42 (by decide) ?_
        refine lv_iload hx hb dX8_open_43 (lv_at hl 0 rfl) ?_
        refine lv_iconst (v := nI 1) hx hb dX8_open_45 (by decide) ?_
        refine lv_iadd hx hb dX8_open_46 ?_
        refine lv_ishl hx hb dX8_open_47 ?_
        refine lv_topi (nm_r (e' := bitI W9) (mark_W h_W9) ?_)
        refine lv_istore (lv' := [(7, .int (bitI W9)), (6, .int (cI W9)), (5, .int (sg o)), (4, .int (nI o)), (3, .int m9), (0, .ref hse), (1, .int (nI v)), (2, .int (nI i))]) hx hb dX8_open_48 hl (by decide) rfl ?_
        clear hl
        try clear ls
        intro ls hl
        refine lv_aload_n hx hb dX8_open_50 rfl (lv_at hl 5 rfl) ?_
        refine xget C hP 0 rfl rfl zuX8 1 (by decide) zw2_92 rfl dX8_open_51 ?_
        refine xget C hP 12 rfl rfl zuX0 4 (by decide) zw2_4 rfl dX8_open_54 ?_
        refine lv_if_ne (tgt := 67) hx hb dX8_open_57 (by decide) (fun c_5 => ?_) (fun c_5 => ?_)
        · -- 57 t
          refine lv_iload_n hx hb dX8_open_67 rfl (lv_at hl 4 rfl) ?_
          refine lv_iload hx hb dX8_open_68 (lv_at hl 0 rfl) ?_
          refine lv_ior hx hb dX8_open_70 ?_
          refine lv_istore_n (lv' := [(3, .int (m9 ||| (bitI W9))), (7, .int (bitI W9)), (6, .int (cI W9)), (5, .int (sg o)), (4, .int (nI o)), (0, .ref hse), (1, .int (nI v)), (2, .int (nI i))]) hx hb dX8_open_71 rfl hl (by decide) rfl ?_
          clear hl
          try clear ls
          intro ls hl
          refine lv_aload_n hx hb dX8_open_72 rfl (lv_at hl 5 rfl) ?_
          refine xget C hP 0 rfl rfl zuX8 3 (by decide) zw2_94 rfl dX8_open_73 ?_
          refine lv_aload_n hx hb dX8_open_76 rfl (lv_at hl 5 rfl) ?_
          refine xget C hP 0 rfl rfl zuX8 2 (by decide) zw2_93 rfl dX8_open_77 ?_
          refine lv_iload_n hx hb dX8_open_80 rfl (lv_at hl 6 rfl) ?_
          refine xv (wr := [(hse, .inr (8, [.ref hr, .ref ha, .ref wk2, .ref hs3, .ref pa, .ref bn, .ref bs, .int gfa, .int (nI gsa), .int vse])), (pa, .inl (cs 0, 2001, .inl c3a)), (bn, .inl (cs 0, 2001, .inl c4a)), (bs, .inl (cs 0, 2001, .inl c5a)), (hg, .inr (4, [.ref nd, .ref kd, .ref lk, .ref vw])), (kd, .inl (cs 0, 8, .inl kf)), (sm, .inl (cs 5, 8, .inr (.inr (.inr (.inr fsm))))), (q, .inl (cs 0, 35, .inl sg)), (ha, .inr (0, [.ref hr, .ref hg, .int z1, .int z2, .int z3])), (hr, .inr (7, [.int (nI n), .int (nI k), .int (nI al), .int (nI be), .int ea, .int pr, .ref sm, .int (nI se), .ref ca]))]) (xV (As := [.ref wk2, .int (nI v)]) (rest := []) C (c_X9_copyTo_f l D cs hs3 ra3 sa3 c1a c2a gza wk2 c0a v hv) kX8_103 hP hD [1, 2, 3, 4] rfl (by decide +kernel) 0 rfl rfl rfl ⟨Nat.le_of_ble_eq_true rfl, Nat.le_of_ble_eq_true rfl⟩ rfl hl.1 rfl (Nat.le_of_ble_eq_true rfl) dX8_open_81 ⟨Nat.le_of_ble_eq_true rfl, Nat.le_of_ble_eq_true rfl⟩) hP hD hS hA [1, 2, 3, 4] [0, 5, 6, 7, 8, 9, 10, 11, 12, 13] rfl rfl (by decide +kernel) (by decide +kernel) ?_
          clear hP hD hS
          try clear locs
          try clear H
          intro u_7 H locs hw_r_6 hP hD hS
          refine W.widen (k := 0) (n := 0) (Nat.le_of_ble_eq_true rfl) (Nat.le_of_ble_eq_true rfl) ?_
          replace hP : va_P D vwCl [(hse, .inr (8, [.ref hr, .ref ha, .ref wk2, .ref hs3, .ref pa, .ref bn, .ref bs, .int gfa, .int (nI gsa), .int vse])), (pa, .inl (cs 0, 2001, .inl c3a)), (bn, .inl (cs 0, 2001, .inl c4a)), (bs, .inl (cs 0, 2001, .inl c5a)), (hg, .inr (4, [.ref nd, .ref kd, .ref lk, .ref vw])), (kd, .inl (cs 0, 8, .inl kf)), (sm, .inl (cs 5, 8, .inr (.inr (.inr (.inr fsm))))), (q, .inl (cs 0, 35, .inl sg)), (ha, .inr (0, [.ref hr, .ref hg, .int z1, .int z2, .int z3])), (hr, .inr (7, [.int (nI n), .int (nI k), .int (nI al), .int (nI be), .int ea, .int pr, .ref sm, .int (nI se), .ref ca])), (hs3, .inr (9, [.ref ra3, .ref sa3, .int (nI gza)])), (ra3, .inl (cs 0, 16008, .inl c1a)), (sa3, .inl (cs 0, 4096, .inl c2a)), (wk2, .inl (cs 0, 8, .inl (va_cpy c1a c0a (v * 8) 0 8)))] H := hP
          replace hD : va_D A [(hse, .inr (8, [.ref hr, .ref ha, .ref wk2, .ref hs3, .ref pa, .ref bn, .ref bs, .int gfa, .int (nI gsa), .int vse])), (pa, .inl (cs 0, 2001, .inl c3a)), (bn, .inl (cs 0, 2001, .inl c4a)), (bs, .inl (cs 0, 2001, .inl c5a)), (hg, .inr (4, [.ref nd, .ref kd, .ref lk, .ref vw])), (kd, .inl (cs 0, 8, .inl kf)), (sm, .inl (cs 5, 8, .inr (.inr (.inr (.inr fsm))))), (q, .inl (cs 0, 35, .inl sg)), (ha, .inr (0, [.ref hr, .ref hg, .int z1, .int z2, .int z3])), (hr, .inr (7, [.int (nI n), .int (nI k), .int (nI al), .int (nI be), .int ea, .int pr, .ref sm, .int (nI se), .ref ca])), (hs3, .inr (9, [.ref ra3, .ref sa3, .int (nI gza)])), (ra3, .inl (cs 0, 16008, .inl c1a)), (sa3, .inl (cs 0, 4096, .inl c2a)), (wk2, .inl (cs 0, 8, .inl (va_cpy c1a c0a (v * 8) 0 8)))] := hD
          refine lv_aload_n hx hb dX8_open_84 rfl (lv_at hl 5 rfl) ?_
          refine xget C hP 0 rfl rfl zuX8 1 (by decide) zw2_92 rfl dX8_open_85 ?_
          refine lv_aload_n hx hb dX8_open_88 rfl (lv_at hl 5 rfl) ?_
          refine xget C hP 0 rfl rfl zuX8 2 (by decide) zw2_93 rfl dX8_open_89 ?_
          refine lv_iload_n hx hb dX8_open_92 rfl (lv_at hl 7 rfl) ?_
          refine lv_iload hx hb dX8_open_93 (lv_at hl 2 rfl) ?_
          refine lv_iload hx hb dX8_open_95 (lv_at hl 3 rfl) ?_
          refine xv (wr := [(hse, .inr (8, [.ref hr, .ref ha, .ref wk2, .ref hs3, .ref pa, .ref bn, .ref bs, .int gfa, .int (nI gsa), .int vse])), (pa, .inl (cs 0, 2001, .inl c3a)), (bn, .inl (cs 0, 2001, .inl c4a)), (bs, .inl (cs 0, 2001, .inl c5a)), (hg, .inr (4, [.ref nd, .ref kd, .ref lk, .ref vw])), (kd, .inl (cs 0, 8, .inl kf)), (sm, .inl (cs 5, 8, .inr (.inr (.inr (.inr fsm))))), (q, .inl (cs 0, 35, .inl sg)), (hs3, .inr (9, [.ref ra3, .ref sa3, .int (nI gza)])), (ra3, .inl (cs 0, 16008, .inl c1a)), (sa3, .inl (cs 0, 4096, .inl c2a))]) (xV (As := [.ref wk2, .int (nI i), .int (cI W9), .int (sg o)]) (rest := []) C (c_X0_settle_f l D cs ha hg hr sm ca n k al be se ea pr z1 z2 z3 wk2 i (va_cpy c1a c0a (v * 8) 0 8) (cI W9) (sg o) hn (by omega)) kX8_107 hP hD [8, 9, 13] rfl (by decide +kernel) 0 rfl rfl rfl ⟨Nat.le_of_ble_eq_true rfl, Nat.le_of_ble_eq_true rfl⟩ rfl hl.1 rfl (Nat.le_of_ble_eq_true rfl) dX8_open_97 ⟨Nat.le_of_ble_eq_true rfl, Nat.le_of_ble_eq_true rfl⟩) hP hD hS hA [8, 9, 13] [0, 1, 2, 3, 4, 5, 6, 7, 10, 11, 12] rfl rfl (by decide +kernel) (by decide +kernel) ?_
          clear hP hD hS
          try clear locs
          try clear H
          intro u_9 H locs hw_r_8 hP hD hS
          have hw_r_8 : ∀ j, j < 32 → u_9 j = upd (givF n (z3 &&& (sg o)) (colF ((va_cpy c1a c0a (v * 8) 0 8) i)) (va_cpy c1a c0a (v * 8) 0 8)) i (setF pr be ((va_cpy c1a c0a (v * 8) 0 8) i) (cI W9)) j := hw_r_8
          refine W.widen (k := 0) (n := 0) (Nat.le_of_ble_eq_true rfl) (Nat.le_of_ble_eq_true rfl) ?_
          replace hP : va_P D vwCl [(hse, .inr (8, [.ref hr, .ref ha, .ref wk2, .ref hs3, .ref pa, .ref bn, .ref bs, .int gfa, .int (nI gsa), .int vse])), (pa, .inl (cs 0, 2001, .inl c3a)), (bn, .inl (cs 0, 2001, .inl c4a)), (bs, .inl (cs 0, 2001, .inl c5a)), (hg, .inr (4, [.ref nd, .ref kd, .ref lk, .ref vw])), (kd, .inl (cs 0, 8, .inl kf)), (sm, .inl (cs 5, 8, .inr (.inr (.inr (.inr fsm))))), (q, .inl (cs 0, 35, .inl sg)), (hs3, .inr (9, [.ref ra3, .ref sa3, .int (nI gza)])), (ra3, .inl (cs 0, 16008, .inl c1a)), (sa3, .inl (cs 0, 4096, .inl c2a)), (ha, .inr (0, [.ref hr, .ref hg, .int z1, .int z2, .int z3])), (hr, .inr (7, [.int (nI n), .int (nI k), .int (nI al), .int (nI be), .int ea, .int pr, .ref sm, .int (nI se), .ref ca])), (wk2, .inl (cs 0, 8, .inl u_9))] H := hP
          replace hD : va_D A [(hse, .inr (8, [.ref hr, .ref ha, .ref wk2, .ref hs3, .ref pa, .ref bn, .ref bs, .int gfa, .int (nI gsa), .int vse])), (pa, .inl (cs 0, 2001, .inl c3a)), (bn, .inl (cs 0, 2001, .inl c4a)), (bs, .inl (cs 0, 2001, .inl c5a)), (hg, .inr (4, [.ref nd, .ref kd, .ref lk, .ref vw])), (kd, .inl (cs 0, 8, .inl kf)), (sm, .inl (cs 5, 8, .inr (.inr (.inr (.inr fsm))))), (q, .inl (cs 0, 35, .inl sg)), (hs3, .inr (9, [.ref ra3, .ref sa3, .int (nI gza)])), (ra3, .inl (cs 0, 16008, .inl c1a)), (sa3, .inl (cs 0, 4096, .inl c2a)), (ha, .inr (0, [.ref hr, .ref hg, .int z1, .int z2, .int z3])), (hr, .inr (7, [.int (nI n), .int (nI k), .int (nI al), .int (nI be), .int ea, .int pr, .ref sm, .int (nI se), .ref ca])), (wk2, .inl (cs 0, 8, .inl u_9))] := hD
          refine lv_aload_n hx hb dX8_open_100 rfl (lv_at hl 5 rfl) ?_
          refine lv_iload_n hx hb dX8_open_101 rfl (lv_at hl 6 rfl) ?_
          refine lv_iload_n hx hb dX8_open_102 rfl (lv_at hl 7 rfl) ?_
          refine lv_iload hx hb dX8_open_103 (lv_at hl 3 rfl) ?_
          obtain ⟨B9, hB9, eB9, hIB, hgB, hrB, _⟩ := id hOa
          have hr0 : relR be (fun j => rf3 (v * 8 + j)) kf lf (B9.2.1 v) := (hIB.2.2.1 v (by omega)).congr (fun j hj => (hrB _ (by omega)).symm)
          have eF : ∀ j, j < 8 → va_cpy c1a c0a (v * 8) 0 8 j = rf3 (v * 8 + j) := fun j hj => (cpy_of hj).trans (hrB _ (by omega))
          have hr9 := op_rel (pr := pr) (nz := u_9) hn hi hkk.2 hal hbe h2k (show o < (smL n k i (2 ^ n)).length by omega) hsm (hr0.congr eF) (lisI_congr hn (by omega) hlis eF) (by have z9 := hask; unfold askP at z9 ⊢; rw [eF (0 + i) (by omega)]; exact z9) (fun j hj => by rw [e_W9]; exact hw_r_8 j hj)
          refine xi (wr := [(sm, .inl (cs 5, 8, .inr (.inr (.inr (.inr fsm))))), (q, .inl (cs 0, 35, .inl sg))]) (xV (As := [.int (nI v), .int (nI i), .int (sg o)]) (rest := []) C (c_X8_comes_f l D cs hse hr ha wk2 hs3 pa bn bs gsa gfa vse hg sm ca n k al be se nd kd lk vw ea pr z1 z2 z3 kf u_9 ra3 sa3 gza c1a c2a c3a c4a c5a lf (askM n al be pr (B9.2.1 v) i (nI ((smL n k i (2 ^ n)).getD o 0))) B9 v i (sg o) hn hsla hsza hpa hspla hfewa hv hIB (by omega) hr9.1 (okF_askM (hIB.2.2.2.2.1 v (by omega)).2 (by omega) hn hbe (okS.rel hr0) hr9.2)) kX8_111 hP hD [0, 11, 12, 8, 9, 10, 13, 1, 2, 3, 4, 5] rfl (by decide +kernel) 0 rfl rfl rfl ⟨Nat.le_of_ble_eq_true rfl, Nat.le_of_ble_eq_true rfl⟩ rfl hl.1 rfl (Nat.le_of_ble_eq_true rfl) dX8_open_105 ⟨Nat.le_of_ble_eq_true rfl, Nat.le_of_ble_eq_true rfl⟩) hP hD hS hA [0, 11, 12, 8, 9, 10, 13, 1, 2, 3, 4, 5] [6, 7] rfl rfl (by decide +kernel) (by decide +kernel) ?_
          clear hP hD hS
          try clear locs
          try clear H
          intro r_10 u_11 H locs hw_r_10 hP hD hS
          obtain ⟨rz3_12, fz3_13, pz_14, bz_15, cz_16, zz3_17, splz_18, fewz_19⟩ := u_11
          have hw_r_10 : (slP zz3_17 fz3_13 ∧ zz3_17 ≤ 2001 ∧ inP 2001 2001 pz_14 ∧ splz_18 < 2001 ∧ fewP fewz_19) ∧ cmR n be kf lf c1a c2a c3a u_9 gza B9 v (askM n al be pr (B9.2.1 v) i (nI ((smL n k i (2 ^ n)).getD o 0))) gfa r_10 fewz_19 rz3_12 fz3_13 pz_14 zz3_17 := hw_r_10
          refine W.widen (k := 0) (n := 0) (Nat.le_of_ble_eq_true rfl) (Nat.le_of_ble_eq_true rfl) ?_
          replace hP : va_P D vwCl [(sm, .inl (cs 5, 8, .inr (.inr (.inr (.inr fsm))))), (q, .inl (cs 0, 35, .inl sg)), (hse, .inr (8, [.ref hr, .ref ha, .ref wk2, .ref hs3, .ref pa, .ref bn, .ref bs, .int fewz_19, .int (nI splz_18), .int vse])), (ha, .inr (0, [.ref hr, .ref hg, .int z1, .int z2, .int z3])), (hr, .inr (7, [.int (nI n), .int (nI k), .int (nI al), .int (nI be), .int ea, .int pr, .ref sm, .int (nI se), .ref ca])), (hs3, .inr (9, [.ref ra3, .ref sa3, .int (nI zz3_17)])), (ra3, .inl (cs 0, 16008, .inl rz3_12)), (sa3, .inl (cs 0, 4096, .inl fz3_13)), (wk2, .inl (cs 0, 8, .inl u_9)), (pa, .inl (cs 0, 2001, .inl pz_14)), (bn, .inl (cs 0, 2001, .inl bz_15)), (bs, .inl (cs 0, 2001, .inl cz_16)), (hg, .inr (4, [.ref nd, .ref kd, .ref lk, .ref vw])), (kd, .inl (cs 0, 8, .inl kf))] H := hP
          replace hD : va_D A [(sm, .inl (cs 5, 8, .inr (.inr (.inr (.inr fsm))))), (q, .inl (cs 0, 35, .inl sg)), (hse, .inr (8, [.ref hr, .ref ha, .ref wk2, .ref hs3, .ref pa, .ref bn, .ref bs, .int fewz_19, .int (nI splz_18), .int vse])), (ha, .inr (0, [.ref hr, .ref hg, .int z1, .int z2, .int z3])), (hr, .inr (7, [.int (nI n), .int (nI k), .int (nI al), .int (nI be), .int ea, .int pr, .ref sm, .int (nI se), .ref ca])), (hs3, .inr (9, [.ref ra3, .ref sa3, .int (nI zz3_17)])), (ra3, .inl (cs 0, 16008, .inl rz3_12)), (sa3, .inl (cs 0, 4096, .inl fz3_13)), (wk2, .inl (cs 0, 8, .inl u_9)), (pa, .inl (cs 0, 2001, .inl pz_14)), (bn, .inl (cs 0, 2001, .inl bz_15)), (bs, .inl (cs 0, 2001, .inl cz_16)), (hg, .inr (4, [.ref nd, .ref kd, .ref lk, .ref vw])), (kd, .inl (cs 0, 8, .inl kf))] := hD
          have hn9 := hOa.next (by omega) hB9 h_W9 (fun hz j hj => (set_z hz hw_r_8 j hj).trans (by unfold upd; by_cases q : j = i; rw [if_pos q, if_pos q, eF i (by omega)]; rw [if_neg q, if_neg q, eF j hj])) hw_r_10.2
          refine lv_if_eq (tgt := 113) hx hb dX8_open_108 (by decide) (fun c_20 => ?_) (fun c_20 => ?_)
          · -- 108 t
            refine lv_iinc (v := nI (o + 1)) (lv' := [(4, .int (nI (o + 1))), (3, .int (m9 ||| (bitI W9))), (7, .int (bitI W9)), (6, .int (cI W9)), (5, .int (sg o)), (0, .ref hse), (1, .int (nI v)), (2, .int (nI i))]) hx hb dX8_open_113 hl (k := 4) rfl (nI_add o 1) (by decide) rfl ?_
            clear hl
            try clear ls
            intro ls hl
            refine lv_goto (tgt := 5) hx hb dX8_open_116 (by decide) ?_
            exact ih_loop_1 (o + 1) u_9 rz3_12 fz3_13 pz_14 bz_15 cz_16 fewz_19 zz3_17 splz_18 (m9 ||| (bitI W9)) (by omega) hw_r_10.1.1 hw_r_10.1.2.1 hw_r_10.1.2.2.1 hw_r_10.1.2.2.2.1 hw_r_10.1.2.2.2.2 (by rcases hn9 with q | q; exact q.2; exact absurd (q.1.symm.trans c_20) (by decide)) (by omega) H locs ls (xP_map hP [2, 3, 4, 5, 6, 7, 8, 9, 10, 11, 12, 13, 0, 1] rfl) (hD.sub [2, 3, 4, 5, 6, 7, 8, 9, 10, 11, 12, 13, 0, 1] (by decide +kernel) rfl) hS (lv_sub hl [0, 1, 5, 6, 7] rfl)
          · -- 108 f
            refine lv_iconst (v := nI 1) hx hb dX8_open_111 (by decide) ?_
            exact xreti C (⟨rz3_12, fz3_13, pz_14, bz_15, cz_16, zz3_17, splz_18, fewz_19, u_9⟩) (⟨⟨hw_r_10.1.1, hw_r_10.1.2.1, hw_r_10.1.2.2.1, hw_r_10.1.2.2.2.1, hw_r_10.1.2.2.2.2⟩, (by rcases hn9 with q | q; exact absurd q.1 c_20; have z := q.2; rw [q.1] at z; exact z)⟩) (xP_map hP [2, 3, 4, 5, 6, 7, 8, 9, 10, 11, 12, 13, 0, 1] rfl) (hD.sub [2, 3, 4, 5, 6, 7, 8, 9, 10, 11, 12, 13, 0, 1] (by decide +kernel) rfl) hS (Nat.le_of_ble_eq_true rfl) (Nat.le_of_ble_eq_true rfl) (by decide) dX8_open_112
        · -- 57 f
          refine lv_iload_n hx hb dX8_open_60 rfl (lv_at hl 4 rfl) ?_
          refine lv_iload hx hb dX8_open_61 (lv_at hl 0 rfl) ?_
          refine lv_iand hx hb dX8_open_63 ?_
          refine lv_if_ne (tgt := 113) hx hb dX8_open_64 (by decide) (fun c_21 => ?_) (fun c_21 => ?_)
          · -- 64 t
            refine lv_iinc (v := nI (o + 1)) (lv' := [(4, .int (nI (o + 1))), (7, .int (bitI W9)), (6, .int (cI W9)), (5, .int (sg o)), (3, .int m9), (0, .ref hse), (1, .int (nI v)), (2, .int (nI i))]) hx hb dX8_open_113 hl (k := 3) rfl (nI_add o 1) (by decide) rfl ?_
            clear hl
            try clear ls
            intro ls hl
            refine lv_goto (tgt := 5) hx hb dX8_open_116 (by decide) ?_
            exact ih_loop_1 (o + 1) c0a c1a c2a c3a c4a c5a gfa gza gsa m9 (by omega) hsla hsza hpa hspla hfewa (hOa.skip hn hi hkk.2 hal hbe h2k (by omega) hsm hvz hlis hask c_5 h_W9 e_W9 (has_of_and h_W9 c_21)) (by omega) H locs ls (xP_map hP [0, 12, 13, 1, 2, 3, 4, 5, 6, 7, 8, 9, 10, 11] rfl) (hD.sub [0, 12, 13, 1, 2, 3, 4, 5, 6, 7, 8, 9, 10, 11] (by decide +kernel) rfl) hS (lv_sub hl [0, 4, 5, 6, 7] rfl)
          · -- 64 f
            refine lv_iload_n hx hb dX8_open_67 rfl (lv_at hl 4 rfl) ?_
            refine lv_iload hx hb dX8_open_68 (lv_at hl 0 rfl) ?_
            refine lv_ior hx hb dX8_open_70 ?_
            refine lv_istore_n (lv' := [(3, .int (m9 ||| (bitI W9))), (7, .int (bitI W9)), (6, .int (cI W9)), (5, .int (sg o)), (4, .int (nI o)), (0, .ref hse), (1, .int (nI v)), (2, .int (nI i))]) hx hb dX8_open_71 rfl hl (by decide) rfl ?_
            clear hl
            try clear ls
            intro ls hl
            refine lv_aload_n hx hb dX8_open_72 rfl (lv_at hl 5 rfl) ?_
            refine xget C hP 0 rfl rfl zuX8 3 (by decide) zw2_94 rfl dX8_open_73 ?_
            refine lv_aload_n hx hb dX8_open_76 rfl (lv_at hl 5 rfl) ?_
            refine xget C hP 0 rfl rfl zuX8 2 (by decide) zw2_93 rfl dX8_open_77 ?_
            refine lv_iload_n hx hb dX8_open_80 rfl (lv_at hl 6 rfl) ?_
            refine xv (wr := [(hse, .inr (8, [.ref hr, .ref ha, .ref wk2, .ref hs3, .ref pa, .ref bn, .ref bs, .int gfa, .int (nI gsa), .int vse])), (pa, .inl (cs 0, 2001, .inl c3a)), (bn, .inl (cs 0, 2001, .inl c4a)), (bs, .inl (cs 0, 2001, .inl c5a)), (hg, .inr (4, [.ref nd, .ref kd, .ref lk, .ref vw])), (kd, .inl (cs 0, 8, .inl kf)), (sm, .inl (cs 5, 8, .inr (.inr (.inr (.inr fsm))))), (q, .inl (cs 0, 35, .inl sg)), (ha, .inr (0, [.ref hr, .ref hg, .int z1, .int z2, .int z3])), (hr, .inr (7, [.int (nI n), .int (nI k), .int (nI al), .int (nI be), .int ea, .int pr, .ref sm, .int (nI se), .ref ca]))]) (xV (As := [.ref wk2, .int (nI v)]) (rest := []) C (c_X9_copyTo_f l D cs hs3 ra3 sa3 c1a c2a gza wk2 c0a v hv) kX8_103 hP hD [1, 2, 3, 4] rfl (by decide +kernel) 0 rfl rfl rfl ⟨Nat.le_of_ble_eq_true rfl, Nat.le_of_ble_eq_true rfl⟩ rfl hl.1 rfl (Nat.le_of_ble_eq_true rfl) dX8_open_81 ⟨Nat.le_of_ble_eq_true rfl, Nat.le_of_ble_eq_true rfl⟩) hP hD hS hA [1, 2, 3, 4] [0, 5, 6, 7, 8, 9, 10, 11, 12, 13] rfl rfl (by decide +kernel) (by decide +kernel) ?_
            clear hP hD hS
            try clear locs
            try clear H
            intro u_23 H locs hw_r_22 hP hD hS
            refine W.widen (k := 0) (n := 0) (Nat.le_of_ble_eq_true rfl) (Nat.le_of_ble_eq_true rfl) ?_
            replace hP : va_P D vwCl [(hse, .inr (8, [.ref hr, .ref ha, .ref wk2, .ref hs3, .ref pa, .ref bn, .ref bs, .int gfa, .int (nI gsa), .int vse])), (pa, .inl (cs 0, 2001, .inl c3a)), (bn, .inl (cs 0, 2001, .inl c4a)), (bs, .inl (cs 0, 2001, .inl c5a)), (hg, .inr (4, [.ref nd, .ref kd, .ref lk, .ref vw])), (kd, .inl (cs 0, 8, .inl kf)), (sm, .inl (cs 5, 8, .inr (.inr (.inr (.inr fsm))))), (q, .inl (cs 0, 35, .inl sg)), (ha, .inr (0, [.ref hr, .ref hg, .int z1, .int z2, .int z3])), (hr, .inr (7, [.int (nI n), .int (nI k), .int (nI al), .int (nI be), .int ea, .int pr, .ref sm, .int (nI se), .ref ca])), (hs3, .inr (9, [.ref ra3, .ref sa3, .int (nI gza)])), (ra3, .inl (cs 0, 16008, .inl c1a)), (sa3, .inl (cs 0, 4096, .inl c2a)), (wk2, .inl (cs 0, 8, .inl (va_cpy c1a c0a (v * 8) 0 8)))] H := hP
            replace hD : va_D A [(hse, .inr (8, [.ref hr, .ref ha, .ref wk2, .ref hs3, .ref pa, .ref bn, .ref bs, .int gfa, .int (nI gsa), .int vse])), (pa, .inl (cs 0, 2001, .inl c3a)), (bn, .inl (cs 0, 2001, .inl c4a)), (bs, .inl (cs 0, 2001, .inl c5a)), (hg, .inr (4, [.ref nd, .ref kd, .ref lk, .ref vw])), (kd, .inl (cs 0, 8, .inl kf)), (sm, .inl (cs 5, 8, .inr (.inr (.inr (.inr fsm))))), (q, .inl (cs 0, 35, .inl sg)), (ha, .inr (0, [.ref hr, .ref hg, .int z1, .int z2, .int z3])), (hr, .inr (7, [.int (nI n), .int (nI k), .int (nI al), .int (nI be), .int ea, .int pr, .ref sm, .int (nI se), .ref ca])), (hs3, .inr (9, [.ref ra3, .ref sa3, .int (nI gza)])), (ra3, .inl (cs 0, 16008, .inl c1a)), (sa3, .inl (cs 0, 4096, .inl c2a)), (wk2, .inl (cs 0, 8, .inl (va_cpy c1a c0a (v * 8) 0 8)))] := hD
            refine lv_aload_n hx hb dX8_open_84 rfl (lv_at hl 5 rfl) ?_
            refine xget C hP 0 rfl rfl zuX8 1 (by decide) zw2_92 rfl dX8_open_85 ?_
            refine lv_aload_n hx hb dX8_open_88 rfl (lv_at hl 5 rfl) ?_
            refine xget C hP 0 rfl rfl zuX8 2 (by decide) zw2_93 rfl dX8_open_89 ?_
            refine lv_iload_n hx hb dX8_open_92 rfl (lv_at hl 7 rfl) ?_
            refine lv_iload hx hb dX8_open_93 (lv_at hl 2 rfl) ?_
            refine lv_iload hx hb dX8_open_95 (lv_at hl 3 rfl) ?_
            refine xv (wr := [(hse, .inr (8, [.ref hr, .ref ha, .ref wk2, .ref hs3, .ref pa, .ref bn, .ref bs, .int gfa, .int (nI gsa), .int vse])), (pa, .inl (cs 0, 2001, .inl c3a)), (bn, .inl (cs 0, 2001, .inl c4a)), (bs, .inl (cs 0, 2001, .inl c5a)), (hg, .inr (4, [.ref nd, .ref kd, .ref lk, .ref vw])), (kd, .inl (cs 0, 8, .inl kf)), (sm, .inl (cs 5, 8, .inr (.inr (.inr (.inr fsm))))), (q, .inl (cs 0, 35, .inl sg)), (hs3, .inr (9, [.ref ra3, .ref sa3, .int (nI gza)])), (ra3, .inl (cs 0, 16008, .inl c1a)), (sa3, .inl (cs 0, 4096, .inl c2a))]) (xV (As := [.ref wk2, .int (nI i), .int (cI W9), .int (sg o)]) (rest := []) C (c_X0_settle_f l D cs ha hg hr sm ca n k al be se ea pr z1 z2 z3 wk2 i (va_cpy c1a c0a (v * 8) 0 8) (cI W9) (sg o) hn (by omega)) kX8_107 hP hD [8, 9, 13] rfl (by decide +kernel) 0 rfl rfl rfl ⟨Nat.le_of_ble_eq_true rfl, Nat.le_of_ble_eq_true rfl⟩ rfl hl.1 rfl (Nat.le_of_ble_eq_true rfl) dX8_open_97 ⟨Nat.le_of_ble_eq_true rfl, Nat.le_of_ble_eq_true rfl⟩) hP hD hS hA [8, 9, 13] [0, 1, 2, 3, 4, 5, 6, 7, 10, 11, 12] rfl rfl (by decide +kernel) (by decide +kernel) ?_
            clear hP hD hS
            try clear locs
            try clear H
            intro u_25 H locs hw_r_24 hP hD hS
            have hw_r_24 : ∀ j, j < 32 → u_25 j = upd (givF n (z3 &&& (sg o)) (colF ((va_cpy c1a c0a (v * 8) 0 8) i)) (va_cpy c1a c0a (v * 8) 0 8)) i (setF pr be ((va_cpy c1a c0a (v * 8) 0 8) i) (cI W9)) j := hw_r_24
            refine W.widen (k := 0) (n := 0) (Nat.le_of_ble_eq_true rfl) (Nat.le_of_ble_eq_true rfl) ?_
            replace hP : va_P D vwCl [(hse, .inr (8, [.ref hr, .ref ha, .ref wk2, .ref hs3, .ref pa, .ref bn, .ref bs, .int gfa, .int (nI gsa), .int vse])), (pa, .inl (cs 0, 2001, .inl c3a)), (bn, .inl (cs 0, 2001, .inl c4a)), (bs, .inl (cs 0, 2001, .inl c5a)), (hg, .inr (4, [.ref nd, .ref kd, .ref lk, .ref vw])), (kd, .inl (cs 0, 8, .inl kf)), (sm, .inl (cs 5, 8, .inr (.inr (.inr (.inr fsm))))), (q, .inl (cs 0, 35, .inl sg)), (hs3, .inr (9, [.ref ra3, .ref sa3, .int (nI gza)])), (ra3, .inl (cs 0, 16008, .inl c1a)), (sa3, .inl (cs 0, 4096, .inl c2a)), (ha, .inr (0, [.ref hr, .ref hg, .int z1, .int z2, .int z3])), (hr, .inr (7, [.int (nI n), .int (nI k), .int (nI al), .int (nI be), .int ea, .int pr, .ref sm, .int (nI se), .ref ca])), (wk2, .inl (cs 0, 8, .inl u_25))] H := hP
            replace hD : va_D A [(hse, .inr (8, [.ref hr, .ref ha, .ref wk2, .ref hs3, .ref pa, .ref bn, .ref bs, .int gfa, .int (nI gsa), .int vse])), (pa, .inl (cs 0, 2001, .inl c3a)), (bn, .inl (cs 0, 2001, .inl c4a)), (bs, .inl (cs 0, 2001, .inl c5a)), (hg, .inr (4, [.ref nd, .ref kd, .ref lk, .ref vw])), (kd, .inl (cs 0, 8, .inl kf)), (sm, .inl (cs 5, 8, .inr (.inr (.inr (.inr fsm))))), (q, .inl (cs 0, 35, .inl sg)), (hs3, .inr (9, [.ref ra3, .ref sa3, .int (nI gza)])), (ra3, .inl (cs 0, 16008, .inl c1a)), (sa3, .inl (cs 0, 4096, .inl c2a)), (ha, .inr (0, [.ref hr, .ref hg, .int z1, .int z2, .int z3])), (hr, .inr (7, [.int (nI n), .int (nI k), .int (nI al), .int (nI be), .int ea, .int pr, .ref sm, .int (nI se), .ref ca])), (wk2, .inl (cs 0, 8, .inl u_25))] := hD
            refine lv_aload_n hx hb dX8_open_100 rfl (lv_at hl 5 rfl) ?_
            refine lv_iload_n hx hb dX8_open_101 rfl (lv_at hl 6 rfl) ?_
            refine lv_iload_n hx hb dX8_open_102 rfl (lv_at hl 7 rfl) ?_
            refine lv_iload hx hb dX8_open_103 (lv_at hl 3 rfl) ?_
            obtain ⟨B9, hB9, eB9, hIB, hgB, hrB, _⟩ := id hOa
            have hr0 : relR be (fun j => rf3 (v * 8 + j)) kf lf (B9.2.1 v) := (hIB.2.2.1 v (by omega)).congr (fun j hj => (hrB _ (by omega)).symm)
            have eF : ∀ j, j < 8 → va_cpy c1a c0a (v * 8) 0 8 j = rf3 (v * 8 + j) := fun j hj => (cpy_of hj).trans (hrB _ (by omega))
            have hr9 := op_rel (pr := pr) (nz := u_25) hn hi hkk.2 hal hbe h2k (show o < (smL n k i (2 ^ n)).length by omega) hsm (hr0.congr eF) (lisI_congr hn (by omega) hlis eF) (by have z9 := hask; unfold askP at z9 ⊢; rw [eF (0 + i) (by omega)]; exact z9) (fun j hj => by rw [e_W9]; exact hw_r_24 j hj)
            refine xi (wr := [(sm, .inl (cs 5, 8, .inr (.inr (.inr (.inr fsm))))), (q, .inl (cs 0, 35, .inl sg))]) (xV (As := [.int (nI v), .int (nI i), .int (sg o)]) (rest := []) C (c_X8_comes_f l D cs hse hr ha wk2 hs3 pa bn bs gsa gfa vse hg sm ca n k al be se nd kd lk vw ea pr z1 z2 z3 kf u_25 ra3 sa3 gza c1a c2a c3a c4a c5a lf (askM n al be pr (B9.2.1 v) i (nI ((smL n k i (2 ^ n)).getD o 0))) B9 v i (sg o) hn hsla hsza hpa hspla hfewa hv hIB (by omega) hr9.1 (okF_askM (hIB.2.2.2.2.1 v (by omega)).2 (by omega) hn hbe (okS.rel hr0) hr9.2)) kX8_111 hP hD [0, 11, 12, 8, 9, 10, 13, 1, 2, 3, 4, 5] rfl (by decide +kernel) 0 rfl rfl rfl ⟨Nat.le_of_ble_eq_true rfl, Nat.le_of_ble_eq_true rfl⟩ rfl hl.1 rfl (Nat.le_of_ble_eq_true rfl) dX8_open_105 ⟨Nat.le_of_ble_eq_true rfl, Nat.le_of_ble_eq_true rfl⟩) hP hD hS hA [0, 11, 12, 8, 9, 10, 13, 1, 2, 3, 4, 5] [6, 7] rfl rfl (by decide +kernel) (by decide +kernel) ?_
            clear hP hD hS
            try clear locs
            try clear H
            intro r_26 u_27 H locs hw_r_26 hP hD hS
            obtain ⟨rz3_28, fz3_29, pz_30, bz_31, cz_32, zz3_33, splz_34, fewz_35⟩ := u_27
            have hw_r_26 : (slP zz3_33 fz3_29 ∧ zz3_33 ≤ 2001 ∧ inP 2001 2001 pz_30 ∧ splz_34 < 2001 ∧ fewP fewz_35) ∧ cmR n be kf lf c1a c2a c3a u_25 gza B9 v (askM n al be pr (B9.2.1 v) i (nI ((smL n k i (2 ^ n)).getD o 0))) gfa r_26 fewz_35 rz3_28 fz3_29 pz_30 zz3_33 := hw_r_26
            refine W.widen (k := 0) (n := 0) (Nat.le_of_ble_eq_true rfl) (Nat.le_of_ble_eq_true rfl) ?_
            replace hP : va_P D vwCl [(sm, .inl (cs 5, 8, .inr (.inr (.inr (.inr fsm))))), (q, .inl (cs 0, 35, .inl sg)), (hse, .inr (8, [.ref hr, .ref ha, .ref wk2, .ref hs3, .ref pa, .ref bn, .ref bs, .int fewz_35, .int (nI splz_34), .int vse])), (ha, .inr (0, [.ref hr, .ref hg, .int z1, .int z2, .int z3])), (hr, .inr (7, [.int (nI n), .int (nI k), .int (nI al), .int (nI be), .int ea, .int pr, .ref sm, .int (nI se), .ref ca])), (hs3, .inr (9, [.ref ra3, .ref sa3, .int (nI zz3_33)])), (ra3, .inl (cs 0, 16008, .inl rz3_28)), (sa3, .inl (cs 0, 4096, .inl fz3_29)), (wk2, .inl (cs 0, 8, .inl u_25)), (pa, .inl (cs 0, 2001, .inl pz_30)), (bn, .inl (cs 0, 2001, .inl bz_31)), (bs, .inl (cs 0, 2001, .inl cz_32)), (hg, .inr (4, [.ref nd, .ref kd, .ref lk, .ref vw])), (kd, .inl (cs 0, 8, .inl kf))] H := hP
            replace hD : va_D A [(sm, .inl (cs 5, 8, .inr (.inr (.inr (.inr fsm))))), (q, .inl (cs 0, 35, .inl sg)), (hse, .inr (8, [.ref hr, .ref ha, .ref wk2, .ref hs3, .ref pa, .ref bn, .ref bs, .int fewz_35, .int (nI splz_34), .int vse])), (ha, .inr (0, [.ref hr, .ref hg, .int z1, .int z2, .int z3])), (hr, .inr (7, [.int (nI n), .int (nI k), .int (nI al), .int (nI be), .int ea, .int pr, .ref sm, .int (nI se), .ref ca])), (hs3, .inr (9, [.ref ra3, .ref sa3, .int (nI zz3_33)])), (ra3, .inl (cs 0, 16008, .inl rz3_28)), (sa3, .inl (cs 0, 4096, .inl fz3_29)), (wk2, .inl (cs 0, 8, .inl u_25)), (pa, .inl (cs 0, 2001, .inl pz_30)), (bn, .inl (cs 0, 2001, .inl bz_31)), (bs, .inl (cs 0, 2001, .inl cz_32)), (hg, .inr (4, [.ref nd, .ref kd, .ref lk, .ref vw])), (kd, .inl (cs 0, 8, .inl kf))] := hD
            have hn9 := hOa.next (by omega) hB9 h_W9 (fun hz j hj => (set_z hz hw_r_24 j hj).trans (by unfold upd; by_cases q : j = i; rw [if_pos q, if_pos q, eF i (by omega)]; rw [if_neg q, if_neg q, eF j hj])) hw_r_26.2
            refine lv_if_eq (tgt := 113) hx hb dX8_open_108 (by decide) (fun c_36 => ?_) (fun c_36 => ?_)
            · -- 108 t
              refine lv_iinc (v := nI (o + 1)) (lv' := [(4, .int (nI (o + 1))), (3, .int (m9 ||| (bitI W9))), (7, .int (bitI W9)), (6, .int (cI W9)), (5, .int (sg o)), (0, .ref hse), (1, .int (nI v)), (2, .int (nI i))]) hx hb dX8_open_113 hl (k := 4) rfl (nI_add o 1) (by decide) rfl ?_
              clear hl
              try clear ls
              intro ls hl
              refine lv_goto (tgt := 5) hx hb dX8_open_116 (by decide) ?_
              exact ih_loop_1 (o + 1) u_25 rz3_28 fz3_29 pz_30 bz_31 cz_32 fewz_35 zz3_33 splz_34 (m9 ||| (bitI W9)) (by omega) hw_r_26.1.1 hw_r_26.1.2.1 hw_r_26.1.2.2.1 hw_r_26.1.2.2.2.1 hw_r_26.1.2.2.2.2 (by rcases hn9 with q | q; exact q.2; exact absurd (q.1.symm.trans c_36) (by decide)) (by omega) H locs ls (xP_map hP [2, 3, 4, 5, 6, 7, 8, 9, 10, 11, 12, 13, 0, 1] rfl) (hD.sub [2, 3, 4, 5, 6, 7, 8, 9, 10, 11, 12, 13, 0, 1] (by decide +kernel) rfl) hS (lv_sub hl [0, 1, 5, 6, 7] rfl)
            · -- 108 f
              refine lv_iconst (v := nI 1) hx hb dX8_open_111 (by decide) ?_
              exact xreti C (⟨rz3_28, fz3_29, pz_30, bz_31, cz_32, zz3_33, splz_34, fewz_35, u_25⟩) (⟨⟨hw_r_26.1.1, hw_r_26.1.2.1, hw_r_26.1.2.2.1, hw_r_26.1.2.2.2.1, hw_r_26.1.2.2.2.2⟩, (by rcases hn9 with q | q; exact absurd q.1 c_36; have z := q.2; rw [q.1] at z; exact z)⟩) (xP_map hP [2, 3, 4, 5, 6, 7, 8, 9, 10, 11, 12, 13, 0, 1] rfl) (hD.sub [2, 3, 4, 5, 6, 7, 8, 9, 10, 11, 12, 13, 0, 1] (by decide +kernel) rfl) hS (Nat.le_of_ble_eq_true rfl) (Nat.le_of_ble_eq_true rfl) (by decide) dX8_open_112
  exact loop_1 _ 0 wf rf3 sf3 pf bf cf3 few sz3 spl (nI 0) (by omega) hsl hsz hp hspl hfew (opI.zero hI) (Nat.lt_succ_self _) H locs ls hP hD hS (lv_sub hl [0, 1, 2, 3, 4] rfl)
