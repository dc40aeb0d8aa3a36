set_option maxHeartbeats 4000000 in
set_option maxRecDepth 100000 in
theorem c_X5_tally (l : Launch) (D : va_G) (cs : Nat → ClassId) (hly hr ha wk spa aga ona hs1 hs2 w1 w2 dn : Nat) (fu ver : Int32) (hg sm ca n k al be se nd kd lk vw q : Nat) (ea pr z1 z2 z3 : Int32) (kf : Nat → Int32) (u1 sp ag og : Nat → Int64) (of : Nat → Option Nat) (ly : Nat) (ra1 sa1 sz1 : Nat) (rf1 sf1 : Nat → Int32) (hn : n ≤ 8) (hsz1 : sz1 ≤ 2000) (hly13 : ly < 13) (hof : of ly = some q) : xMet l D cs yX5_tally cX5_tally 4 none ({ frames := 3, cells := 0, slots := 0, locals := 68 } : Room) [.ref hly, .int (nI ly)] [(hly, .inr (5, [.ref hr, .ref ha, .ref wk, .ref hs1, .ref hs2, .ref w1, .ref w2, .int (nI dn), .int fu, .int ver, .ref spa, .ref aga, .ref ona])), (ha, .inr (0, [.ref hr, .ref hg, .int z1, .int z2, .int z3])), (hr, .inr (7, [.int (nI n), .int (nI k), .int (nI al), .int (nI be), .int ea, .int pr, .ref sm, .int (nI se), .ref ca])), (hs1, .inr (9, [.ref ra1, .ref sa1, .int (nI sz1)])), (ra1, .inl (cs 0, 16008, .inl rf1)), (sa1, .inl (cs 0, 4096, .inl sf1)), (w1, .inl (cs 1, 2000, .inr (.inl u1))), (spa, .inl (cs 1, 13, .inr (.inl sp))), (aga, .inl (cs 1, 13, .inr (.inl ag))), (ona, .inl (cs 6, 13, .inr (.inr (.inr (.inr of))))), (q, .inl (cs 1, 9, .inr (.inl og))), (hg, .inr (4, [.ref nd, .ref kd, .ref lk, .ref vw])), (kd, .inl (cs 0, 8, .inl kf))] (xQv D (fun (u : (Nat → Int64) × (Nat → Int64) × (Nat → Int64)) => match u with | (sp2, ag2, og2) => True) (fun (u : (Nat → Int64) × (Nat → Int64) × (Nat → Int64)) => match u with | (sp2, ag2, og2) => [(hly, .inr (5, [.ref hr, .ref ha, .ref wk, .ref hs1, .ref hs2, .ref w1, .ref w2, .int (nI dn), .int fu, .int ver, .ref spa, .ref aga, .ref ona])), (ha, .inr (0, [.ref hr, .ref hg, .int z1, .int z2, .int z3])), (hr, .inr (7, [.int (nI n), .int (nI k), .int (nI al), .int (nI be), .int ea, .int pr, .ref sm, .int (nI se), .ref ca])), (hs1, .inr (9, [.ref ra1, .ref sa1, .int (nI sz1)])), (ra1, .inl (cs 0, 16008, .inl rf1)), (sa1, .inl (cs 0, 4096, .inl sf1)), (w1, .inl (cs 1, 2000, .inr (.inl u1))), (spa, .inl (cs 1, 13, .inr (.inl sp2))), (aga, .inl (cs 1, 13, .inr (.inl ag2))), (ona, .inl (cs 6, 13, .inr (.inr (.inr (.inr of))))), (q, .inl (cs 1, 9, .inr (.inl og2))), (hg, .inr (4, [.ref nd, .ref kd, .ref lk, .ref vw])), (kd, .inl (cs 0, 8, .inl kf))])) := by
  refine xMet.intro (by decide) (Nat.le_of_ble_eq_true rfl) ?_
  intro p e s m args below meth c A ls C hP hD hS hl
  have hx := C.1
  have hb := C.2.1
  have hz := C.2.2.2.2.1
  have hown := C.2.2.2.1
  have hA := C.2.2.2.2.2.2.2.2.2
  have hAO := C.2.2.2.2.2.2.2.2.1.2.2
  replace hl : lv_has ls 4 [(0, .ref hly), (1, .int (nI ly))] := hl
  obtain ⟨H, hH⟩ : ∃ H, H = s.heap := ⟨_, rfl⟩
  replace hP : va_P D vwCl [(hly, .inr (5, [.ref hr, .ref ha, .ref wk, .ref hs1, .ref hs2, .ref w1, .ref w2, .int (nI dn), .int fu, .int ver, .ref spa, .ref aga, .ref ona])), (ha, .inr (0, [.ref hr, .ref hg, .int z1, .int z2, .int z3])), (hr, .inr (7, [.int (nI n), .int (nI k), .int (nI al), .int (nI be), .int ea, .int pr, .ref sm, .int (nI se), .ref ca])), (hs1, .inr (9, [.ref ra1, .ref sa1, .int (nI sz1)])), (ra1, .inl (cs 0, 16008, .inl rf1)), (sa1, .inl (cs 0, 4096, .inl sf1)), (w1, .inl (cs 1, 2000, .inr (.inl u1))), (spa, .inl (cs 1, 13, .inr (.inl sp))), (aga, .inl (cs 1, 13, .inr (.inl ag))), (ona, .inl (cs 6, 13, .inr (.inr (.inr (.inr of))))), (q, .inl (cs 1, 9, .inr (.inl og))), (hg, .inr (4, [.ref nd, .ref kd, .ref lk, .ref vw])), (kd, .inl (cs 0, 8, .inl kf))] H := by rw [hH]; exact hP
  replace hS : va_S A s.heap H [] := by rw [hH]; exact hS
  obtain ⟨locs, hlocs⟩ : ∃ z : List Loc, z = [] := ⟨_, rfl⟩
  rw [← hlocs] at hS
  suffices hW : W p l e ({ frames := 3, cells := 0, slots := 0, locals := 68 } : Room) s m args below meth c H locs 0 0 (MQ below ((xQv D (fun (u : (Nat → Int64) × (Nat → Int64) × (Nat → Int64)) => match u with | (sp2, ag2, og2) => True) (fun (u : (Nat → Int64) × (Nat → Int64) × (Nat → Int64)) => match u with | (sp2, ag2, og2) => [(hly, .inr (5, [.ref hr, .ref ha, .ref wk, .ref hs1, .ref hs2, .ref w1, .ref w2, .int (nI dn), .int fu, .int ver, .ref spa, .ref aga, .ref ona])), (ha, .inr (0, [.ref hr, .ref hg, .int z1, .int z2, .int z3])), (hr, .inr (7, [.int (nI n), .int (nI k), .int (nI al), .int (nI be), .int ea, .int pr, .ref sm, .int (nI se), .ref ca])), (hs1, .inr (9, [.ref ra1, .ref sa1, .int (nI sz1)])), (ra1, .inl (cs 0, 16008, .inl rf1)), (sa1, .inl (cs 0, 4096, .inl sf1)), (w1, .inl (cs 1, 2000, .inr (.inl u1))), (spa, .inl (cs 1, 13, .inr (.inl sp2))), (aga, .inl (cs 1, 13, .inr (.inl ag2))), (ona, .inl (cs 6, 13, .inr (.inr (.inr (.inr of))))), (q, .inl (cs 1, 9, .inr (.inl og2))), (hg, .inr (4, [.ref nd, .ref kd, .ref lk, .ref vw])), (kd, .inl (cs 0, 8, .inl kf))])) A) args s 0 0 A) (F0 m 0 ls []) by rw [hlocs, hH] at hW; exact hW
  clear hH hlocs
  have h256 : 2 ^ n ≤ 256 := Nat.le_trans (Nat.pow_le_pow_right (by decide) hn) (by decide)
  refine lv_aload_n hx hb dX5_tally_0 rfl (lv_at hl 0 rfl) ?_
  refine xget C hP 0 rfl rfl zuX5 10 (by decide) zw2_51 rfl dX5_tally_1 ?_
  refine lv_iload_n hx hb dX5_tally_4 rfl (lv_at hl 1 rfl) ?_
  refine lv_lconst (v := 0) hx hb dX5_tally_5 (by decide) ?_
  refine xlast C hP hD hS 7 rfl ly rfl (by omega) (by decide) dX5_tally_6 ?_
  clear hP hD hS
  try clear locs
  try clear H
  intro H locs hP hD hS
  replace hP : va_P D vwCl [(hly, .inr (5, [.ref hr, .ref ha, .ref wk, .ref hs1, .ref hs2, .ref w1, .ref w2, .int (nI dn), .int fu, .int ver, .ref spa, .ref aga, .ref ona])), (ha, .inr (0, [.ref hr, .ref hg, .int z1, .int z2, .int z3])), (hr, .inr (7, [.int (nI n), .int (nI k), .int (nI al), .int (nI be), .int ea, .int pr, .ref sm, .int (nI se), .ref ca])), (hs1, .inr (9, [.ref ra1, .ref sa1, .int (nI sz1)])), (ra1, .inl (cs 0, 16008, .inl rf1)), (sa1, .inl (cs 0, 4096, .inl sf1)), (w1, .inl (cs 1, 2000, .inr (.inl u1))), (spa, .inl (cs 1, 13, .inr (.inl (vp_updL sp ly 0)))), (aga, .inl (cs 1, 13, .inr (.inl ag))), (ona, .inl (cs 6, 13, .inr (.inr (.inr (.inr of))))), (q, .inl (cs 1, 9, .inr (.inl og))), (hg, .inr (4, [.ref nd, .ref kd, .ref lk, .ref vw])), (kd, .inl (cs 0, 8, .inl kf))] H := hP
  replace hD : va_D A [(hly, .inr (5, [.ref hr, .ref ha, .ref wk, .ref hs1, .ref hs2, .ref w1, .ref w2, .int (nI dn), .int fu, .int ver, .ref spa, .ref aga, .ref ona])), (ha, .inr (0, [.ref hr, .ref hg, .int z1, .int z2, .int z3])), (hr, .inr (7, [.int (nI n), .int (nI k), .int (nI al), .int (nI be), .int ea, .int pr, .ref sm, .int (nI se), .ref ca])), (hs1, .inr (9, [.ref ra1, .ref sa1, .int (nI sz1)])), (ra1, .inl (cs 0, 16008, .inl rf1)), (sa1, .inl (cs 0, 4096, .inl sf1)), (w1, .inl (cs 1, 2000, .inr (.inl u1))), (spa, .inl (cs 1, 13, .inr (.inl (vp_updL sp ly 0)))), (aga, .inl (cs 1, 13, .inr (.inl ag))), (ona, .inl (cs 6, 13, .inr (.inr (.inr (.inr of))))), (q, .inl (cs 1, 9, .inr (.inl og))), (hg, .inr (4, [.ref nd, .ref kd, .ref lk, .ref vw])), (kd, .inl (cs 0, 8, .inl kf))] := hD
  refine lv_aload_n hx hb dX5_tally_7 rfl (lv_at hl 0 rfl) ?_
  refine xget C hP 0 rfl rfl zuX5 11 (by decide) zw2_53 rfl dX5_tally_8 ?_
  refine lv_iload_n hx hb dX5_tally_11 rfl (lv_at hl 1 rfl) ?_
  refine lv_lconst (v := 0) hx hb dX5_tally_12 (by decide) ?_
  refine xlast C hP hD hS 8 rfl ly rfl (by omega) (by decide) dX5_tally_13 ?_
  clear hP hD hS
  try clear locs
  try clear H
  intro H locs hP hD hS
  replace hP : va_P D vwCl [(hly, .inr (5, [.ref hr, .ref ha, .ref wk, .ref hs1, .ref hs2, .ref w1, .ref w2, .int (nI dn), .int fu, .int ver, .ref spa, .ref aga, .ref ona])), (ha, .inr (0, [.ref hr, .ref hg, .int z1, .int z2, .int z3])), (hr, .inr (7, [.int (nI n), .int (nI k), .int (nI al), .int (nI be), .int ea, .int pr, .ref sm, .int (nI se), .ref ca])), (hs1, .inr (9, [.ref ra1, .ref sa1, .int (nI sz1)])), (ra1, .inl (cs 0, 16008, .inl rf1)), (sa1, .inl (cs 0, 4096, .inl sf1)), (w1, .inl (cs 1, 2000, .inr (.inl u1))), (spa, .inl (cs 1, 13, .inr (.inl (vp_updL sp ly 0)))), (aga, .inl (cs 1, 13, .inr (.inl (vp_updL ag ly 0)))), (ona, .inl (cs 6, 13, .inr (.inr (.inr (.inr of))))), (q, .inl (cs 1, 9, .inr (.inl og))), (hg, .inr (4, [.ref nd, .ref kd, .ref lk, .ref vw])), (kd, .inl (cs 0, 8, .inl kf))] H := hP
  replace hD : va_D A [(hly, .inr (5, [.ref hr, .ref ha, .ref wk, .ref hs1, .ref hs2, .ref w1, .ref w2, .int (nI dn), .int fu, .int ver, .ref spa, .ref aga, .ref ona])), (ha, .inr (0, [.ref hr, .ref hg, .int z1, .int z2, .int z3])), (hr, .inr (7, [.int (nI n), .int (nI k), .int (nI al), .int (nI be), .int ea, .int pr, .ref sm, .int (nI se), .ref ca])), (hs1, .inr (9, [.ref ra1, .ref sa1, .int (nI sz1)])), (ra1, .inl (cs 0, 16008, .inl rf1)), (sa1, .inl (cs 0, 4096, .inl sf1)), (w1, .inl (cs 1, 2000, .inr (.inl u1))), (spa, .inl (cs 1, 13, .inr (.inl (vp_updL sp ly 0)))), (aga, .inl (cs 1, 13, .inr (.inl (vp_updL ag ly 0)))), (ona, .inl (cs 6, 13, .inr (.inr (.inr (.inr of))))), (q, .inl (cs 1, 9, .inr (.inl og))), (hg, .inr (4, [.ref nd, .ref kd, .ref lk, .ref vw])), (kd, .inl (cs 0, 8, .inl kf))] := hD
  refine lv_aload_n hx hb dX5_tally_14 rfl (lv_at hl 0 rfl) ?_
  refine xget C hP 0 rfl rfl zuX5 12 (by decide) zw2_55 rfl dX5_tally_15 ?_
  refine lv_iload_n hx hb dX5_tally_18 rfl (lv_at hl 1 rfl) ?_
  refine xaald C hP 9 6 rfl rfl rfl ly rfl (by omega) (by decide) hof dX5_tally_19 ?_
  refine lv_lconst (v := 0) hx hb dX5_tally_20 (by decide) ?_
  refine xv (wr := [(hly, .inr (5, [.ref hr, .ref ha, .ref wk, .ref hs1, .ref hs2, .ref w1, .ref w2, .int (nI dn), .int fu, .int ver, .ref spa, .ref aga, .ref ona])), (ha, .inr (0, [.ref hr, .ref hg, .int z1, .int z2, .int z3])), (hr, .inr (7, [.int (nI n), .int (nI k), .int (nI al), .int (nI be), .int ea, .int pr, .ref sm, .int (nI se), .ref ca])), (hs1, .inr (9, [.ref ra1, .ref sa1, .int (nI sz1)])), (ra1, .inl (cs 0, 16008, .inl rf1)), (sa1, .inl (cs 0, 4096, .inl sf1)), (w1, .inl (cs 1, 2000, .inr (.inl u1))), (spa, .inl (cs 1, 13, .inr (.inl (vp_updL sp ly 0)))), (aga, .inl (cs 1, 13, .inr (.inl (vp_updL ag ly 0)))), (ona, .inl (cs 6, 13, .inr (.inr (.inr (.inr of))))), (hg, .inr (4, [.ref nd, .ref kd, .ref lk, .ref vw])), (kd, .inl (cs 0, 8, .inl kf))]) (xS (As := [.ref q, .long 0]) (rest := []) C (c_J7_fill_d0a16 l D cs q 9 og 0 (by decide)) kX5_158 hP hD [10] rfl (by decide) ⟨Nat.le_of_ble_eq_true rfl, Nat.le_of_ble_eq_true rfl⟩ rfl hl.1 rfl (Nat.le_of_ble_eq_true rfl) dX5_tally_21 ⟨Nat.le_of_ble_eq_true rfl, Nat.le_of_ble_eq_true rfl⟩) hP hD hS hA [10] [0, 1, 2, 3, 4, 5, 6, 7, 8, 9, 11, 12] rfl rfl (by decide) (by decide) ?_
  clear hP hD hS
  try clear locs
  try clear H
  intro u_2 H locs hw_r_1 hP hD hS
  refine W.widen (k := 0) (n := 0) (Nat.le_of_ble_eq_true rfl) (Nat.le_of_ble_eq_true rfl) ?_
  replace hP : va_P D vwCl [(hly, .inr (5, [.ref hr, .ref ha, .ref wk, .ref hs1, .ref hs2, .ref w1, .ref w2, .int (nI dn), .int fu, .int ver, .ref spa, .ref aga, .ref ona])), (ha, .inr (0, [.ref hr, .ref hg, .int z1, .int z2, .int z3])), (hr, .inr (7, [.int (nI n), .int (nI k), .int (nI al), .int (nI be), .int ea, .int pr, .ref sm, .int (nI se), .ref ca])), (hs1, .inr (9, [.ref ra1, .ref sa1, .int (nI sz1)])), (ra1, .inl (cs 0, 16008, .inl rf1)), (sa1, .inl (cs 0, 4096, .inl sf1)), (w1, .inl (cs 1, 2000, .inr (.inl u1))), (spa, .inl (cs 1, 13, .inr (.inl (vp_updL sp ly 0)))), (aga, .inl (cs 1, 13, .inr (.inl (vp_updL ag ly 0)))), (ona, .inl (cs 6, 13, .inr (.inr (.inr (.inr of))))), (hg, .inr (4, [.ref nd, .ref kd, .ref lk, .ref vw])), (kd, .inl (cs 0, 8, .inl kf)), (q, .inl (cs 1, 9, .inr (.inl (fun _ => 0))))] H := hP
  replace hD : va_D A [(hly, .inr (5, [.ref hr, .ref ha, .ref wk, .ref hs1, .ref hs2, .ref w1, .ref w2, .int (nI dn), .int fu, .int ver, .ref spa, .ref aga, .ref ona])), (ha, .inr (0, [.ref hr, .ref hg, .int z1, .int z2, .int z3])), (hr, .inr (7, [.int (nI n), .int (nI k), .int (nI al), .int (nI be), .int ea, .int pr, .ref sm, .int (nI se), .ref ca])), (hs1, .inr (9, [.ref ra1, .ref sa1, .int (nI sz1)])), (ra1, .inl (cs 0, 16008, .inl rf1)), (sa1, .inl (cs 0, 4096, .inl sf1)), (w1, .inl (cs 1, 2000, .inr (.inl u1))), (spa, .inl (cs 1, 13, .inr (.inl (vp_updL sp ly 0)))), (aga, .inl (cs 1, 13, .inr (.inl (vp_updL ag ly 0)))), (ona, .inl (cs 6, 13, .inr (.inr (.inr (.inr of))))), (hg, .inr (4, [.ref nd, .ref kd, .ref lk, .ref vw])), (kd, .inl (cs 0, 8, .inl kf)), (q, .inl (cs 1, 9, .inr (.inl (fun _ => 0))))] := hD
  refine lv_iconst (v := nI 0) hx hb dX5_tally_24 (by decide) ?_
  refine lv_istore_n (lv' := [(2, .int (nI 0)), (0, .ref hly), (1, .int (nI ly))]) hx hb dX5_tally_25 rfl hl (by decide) rfl ?_
  clear hl
  try clear ls
  intro ls hl
  have loop_3 : ∀ (n_loop_3 : Nat) (i : Nat) (g1 : Nat → Int64) (g2 : Nat → Int64) (g3 : Nat → Int64), (i ≤ sz1) → sz1 - i < n_loop_3 → ∀ (H : Heap) (locs : List Loc) (ls : Array Slot), va_P D vwCl [(hly, .inr (5, [.ref hr, .ref ha, .ref wk, .ref hs1, .ref hs2, .ref w1, .ref w2, .int (nI dn), .int fu, .int ver, .ref spa, .ref aga, .ref ona])), (ha, .inr (0, [.ref hr, .ref hg, .int z1, .int z2, .int z3])), (hr, .inr (7, [.int (nI n), .int (nI k), .int (nI al), .int (nI be), .int ea, .int pr, .ref sm, .int (nI se), .ref ca])), (hs1, .inr (9, [.ref ra1, .ref sa1, .int (nI sz1)])), (ra1, .inl (cs 0, 16008, .inl rf1)), (sa1, .inl (cs 0, 4096, .inl sf1)), (w1, .inl (cs 1, 2000, .inr (.inl u1))), (spa, .inl (cs 1, 13, .inr (.inl g1))), (aga, .inl (cs 1, 13, .inr (.inl g2))), (ona, .inl (cs 6, 13, .inr (.inr (.inr (.inr of))))), (hg, .inr (4, [.ref nd, .ref kd, .ref lk, .ref vw])), (kd, .inl (cs 0, 8, .inl kf)), (q, .inl (cs 1, 9, .inr (.inl g3)))] H → va_D A [(hly, .inr (5, [.ref hr, .ref ha, .ref wk, .ref hs1, .ref hs2, .ref w1, .ref w2, .int (nI dn), .int fu, .int ver, .ref spa, .ref aga, .ref ona])), (ha, .inr (0, [.ref hr, .ref hg, .int z1, .int z2, .int z3])), (hr, .inr (7, [.int (nI n), .int (nI k), .int (nI al), .int (nI be), .int ea, .int pr, .ref sm, .int (nI se), .ref ca])), (hs1, .inr (9, [.ref ra1, .ref sa1, .int (nI sz1)])), (ra1, .inl (cs 0, 16008, .inl rf1)), (sa1, .inl (cs 0, 4096, .inl sf1)), (w1, .inl (cs 1, 2000, .inr (.inl u1))), (spa, .inl (cs 1, 13, .inr (.inl g1))), (aga, .inl (cs 1, 13, .inr (.inl g2))), (ona, .inl (cs 6, 13, .inr (.inr (.inr (.inr of))))), (hg, .inr (4, [.ref nd, .ref kd, .ref lk, .ref vw])), (kd, .inl (cs 0, 8, .inl kf)), (q, .inl (cs 1, 9, .inr (.inl g3)))] → va_S A s.heap H locs → lv_has ls 4 [(2, .int (nI i)), (0, .ref hly), (1, .int (nI ly))] → W p l e ({ frames := 3, cells := 0, slots := 0, locals := 68 } : Room) s m args below meth c H locs 0 0 (MQ below ((xQv D (fun (u : (Nat → Int64) × (Nat → Int64) × (Nat → Int64)) => match u with | (sp2, ag2, og2) => True) (fun (u : (Nat → Int64) × (Nat → Int64) × (Nat → Int64)) => match u with | (sp2, ag2, og2) => [(hly, .inr (5, [.ref hr, .ref ha, .ref wk, .ref hs1, .ref hs2, .ref w1, .ref w2, .int (nI dn), .int fu, .int ver, .ref spa, .ref aga, .ref ona])), (ha, .inr (0, [.ref hr, .ref hg, .int z1, .int z2, .int z3])), (hr, .inr (7, [.int (nI n), .int (nI k), .int (nI al), .int (nI be), .int ea, .int pr, .ref sm, .int (nI se), .ref ca])), (hs1, .inr (9, [.ref ra1, .ref sa1, .int (nI sz1)])), (ra1, .inl (cs 0, 16008, .inl rf1)), (sa1, .inl (cs 0, 4096, .inl sf1)), (w1, .inl (cs 1, 2000, .inr (.inl u1))), (spa, .inl (cs 1, 13, .inr (.inl sp2))), (aga, .inl (cs 1, 13, .inr (.inl ag2))), (ona, .inl (cs 6, 13, .inr (.inr (.inr (.inr of))))), (q, .inl (cs 1, 9, .inr (.inl og2))), (hg, .inr (4, [.ref nd, .ref kd, .ref lk, .ref vw])), (kd, .inl (cs 0, 8, .inl kf))])) A) args s 0 0 A) (F0 m 26 ls []) := by
    intro n_loop_3
    induction n_loop_3 with
    | zero => intro i g1 g2 g3 h_i hlt H locs ls hP hD hS hl; exact absurd hlt (Nat.not_lt_zero _)
    | succ n_loop_3 ih_loop_3 =>
      intro i g1 g2 g3 h_i hlt_loop_3 H locs ls hP hD hS hl
      refine lv_iload_n hx hb dX5_tally_26 rfl (lv_at hl 0 rfl) ?_
      refine lv_aload_n hx hb dX5_tally_27 rfl (lv_at hl 1 rfl) ?_
      refine xget C hP 0 rfl rfl zuX5 3 (by decide) zw2_44 rfl dX5_tally_28 ?_
      refine xget C hP 3 rfl rfl zuX9 2 (by decide) zw3_175 rfl dX5_tally_31 ?_
      refine lv_icmp_ge (tgt := 156) hx hb dX5_tally_34 (by decide) (fun c_4 => ?_) (fun c_4 => ?_)
      · -- 34 t
        have fc_4 : sz1 ≤ i := nf_le (by omega) (by omega) c_4
        exact xretv C (⟨g1, g2, g3⟩) trivial (xP_map hP [0, 1, 2, 3, 4, 5, 6, 7, 8, 9, 12, 10, 11] rfl) (hD.sub [0, 1, 2, 3, 4, 5, 6, 7, 8, 9, 12, 10, 11] (by decide) rfl) hS (Nat.le_of_ble_eq_true rfl) (Nat.le_of_ble_eq_true rfl) dX5_tally_156
      · -- 34 f
        have fc_4 : i < sz1 := nf_nle (by omega) (by omega) c_4
        refine lv_iload_n hx hb dX5_tally_37 rfl (lv_at hl 0 rfl) ?_
        refine lv_bipush (v := nI 8) hx hb dX5_tally_38 (by decide) ?_
        refine lv_imul hx hb dX5_tally_40 ?_
        refine lv_topi (nm_r (e' := nI (i * 8)) (pk_mul _ _) ?_)
        refine lv_istore_n (lv' := [(3, .int (nI (i * 8))), (2, .int (nI i)), (0, .ref hly), (1, .int (nI ly))]) hx hb dX5_tally_41 rfl hl (by decide) rfl ?_
        clear hl
        try clear ls
        intro ls hl
        refine lv_aload_n hx hb dX5_tally_42 rfl (lv_at hl 2 rfl) ?_
        refine xget C hP 0 rfl rfl zuX5 10 (by decide) zw2_51 rfl dX5_tally_43 ?_
        refine lv_iload_n hx hb dX5_tally_46 rfl (lv_at hl 3 rfl) ?_
        refine lv_dup2_11 hx hb dX5_tally_47 rfl rfl ?_
        refine xlald C hP 7 rfl ly rfl (by omega) (by decide) dX5_tally_48 ?_
        refine lv_aload_n hx hb dX5_tally_49 rfl (lv_at hl 2 rfl) ?_
        refine xget C hP 0 rfl rfl zuX5 1 (by decide) zw2_42 rfl dX5_tally_50 ?_
        refine lv_aload_n hx hb dX5_tally_53 rfl (lv_at hl 2 rfl) ?_
        refine xget C hP 0 rfl rfl zuX5 3 (by decide) zw2_44 rfl dX5_tally_54 ?_
        refine xget C hP 3 rfl rfl zuX9 0 (by decide) zw3_171 rfl dX5_tally_57 ?_
        refine lv_iload_n hx hb dX5_tally_60 rfl (lv_at hl 0 rfl) ?_
        refine xi (wr := [(hly, .inr (5, [.ref hr, .ref ha, .ref wk, .ref hs1, .ref hs2, .ref w1, .ref w2, .int (nI dn), .int fu, .int ver, .ref spa, .ref aga, .ref ona])), (hs1, .inr (9, [.ref ra1, .ref sa1, .int (nI sz1)])), (sa1, .inl (cs 0, 4096, .inl sf1)), (w1, .inl (cs 1, 2000, .inr (.inl u1))), (spa, .inl (cs 1, 13, .inr (.inl g1))), (aga, .inl (cs 1, 13, .inr (.inl g2))), (ona, .inl (cs 6, 13, .inr (.inr (.inr (.inr of))))), (q, .inl (cs 1, 9, .inr (.inl g3)))]) (xV (As := [.ref ra1, .int (nI (i * 8))]) (rest := [.long (g1 ly), .int (nI ly), .ref spa]) C (c_X0_isSplit l D cs ha hg hr sm ca n k al be se ea pr z1 z2 z3 nd kd lk vw kf ra1 16008 (i * 8) rf1 hn (by omega) (by decide)) kX5_164 hP hD [1, 2, 10, 11, 4] rfl (by decide) 0 rfl rfl rfl ⟨Nat.le_of_ble_eq_true rfl, Nat.le_of_ble_eq_true rfl⟩ rfl hl.1 rfl (Nat.le_of_ble_eq_true rfl) dX5_tally_61 ⟨Nat.le_of_ble_eq_true rfl, Nat.le_of_ble_eq_true rfl⟩) hP hD hS hA [1, 2, 10, 11, 4] [0, 3, 5, 6, 7, 8, 9, 12] rfl rfl (by decide) (by decide) ?_
        clear hP hD hS
        try clear locs
        try clear H
        intro r_5 u_6 H locs hw_r_5 hP hD hS
        have hw_r_5 : r_5 = nI 1 ∨ r_5 = nI 0 := hw_r_5
        refine W.widen (k := 0) (n := 0) (Nat.le_of_ble_eq_true rfl) (Nat.le_of_ble_eq_true rfl) ?_
        replace hP : va_P D vwCl [(hly, .inr (5, [.ref hr, .ref ha, .ref wk, .ref hs1, .ref hs2, .ref w1, .ref w2, .int (nI dn), .int fu, .int ver, .ref spa, .ref aga, .ref ona])), (hs1, .inr (9, [.ref ra1, .ref sa1, .int (nI sz1)])), (sa1, .inl (cs 0, 4096, .inl sf1)), (w1, .inl (cs 1, 2000, .inr (.inl u1))), (spa, .inl (cs 1, 13, .inr (.inl g1))), (aga, .inl (cs 1, 13, .inr (.inl g2))), (ona, .inl (cs 6, 13, .inr (.inr (.inr (.inr of))))), (q, .inl (cs 1, 9, .inr (.inl g3))), (ha, .inr (0, [.ref hr, .ref hg, .int z1, .int z2, .int z3])), (hr, .inr (7, [.int (nI n), .int (nI k), .int (nI al), .int (nI be), .int ea, .int pr, .ref sm, .int (nI se), .ref ca])), (hg, .inr (4, [.ref nd, .ref kd, .ref lk, .ref vw])), (kd, .inl (cs 0, 8, .inl kf)), (ra1, .inl (cs 0, 16008, .inl rf1))] H := hP
        replace hD : va_D A [(hly, .inr (5, [.ref hr, .ref ha, .ref wk, .ref hs1, .ref hs2, .ref w1, .ref w2, .int (nI dn), .int fu, .int ver, .ref spa, .ref aga, .ref ona])), (hs1, .inr (9, [.ref ra1, .ref sa1, .int (nI sz1)])), (sa1, .inl (cs 0, 4096, .inl sf1)), (w1, .inl (cs 1, 2000, .inr (.inl u1))), (spa, .inl (cs 1, 13, .inr (.inl g1))), (aga, .inl (cs 1, 13, .inr (.inl g2))), (ona, .inl (cs 6, 13, .inr (.inr (.inr (.inr of))))), (q, .inl (cs 1, 9, .inr (.inl g3))), (ha, .inr (0, [.ref hr, .ref hg, .int z1, .int z2, .int z3])), (hr, .inr (7, [.int (nI n), .int (nI k), .int (nI al), .int (nI be), .int ea, .int pr, .ref sm, .int (nI se), .ref ca])), (hg, .inr (4, [.ref nd, .ref kd, .ref lk, .ref vw])), (kd, .inl (cs 0, 8, .inl kf)), (ra1, .inl (cs 0, 16008, .inl rf1))] := hD
        refine lv_if_eq (tgt := 76) hx hb dX5_tally_64 (by decide) (fun c_7 => ?_) (fun c_7 => ?_)
        · -- 64 t
          refine lv_lconst (v := 0) hx hb dX5_tally_76 (by decide) ?_
          refine lv_ladd hx hb dX5_tally_77 ?_
          refine xlast C hP hD hS 4 rfl ly rfl (by omega) (by decide) dX5_tally_78 ?_
          clear hP hD hS
          try clear locs
          try clear H
          intro H locs hP hD hS
          replace hP : va_P D vwCl [(hly, .inr (5, [.ref hr, .ref ha, .ref wk, .ref hs1, .ref hs2, .ref w1, .ref w2, .int (nI dn), .int fu, .int ver, .ref spa, .ref aga, .ref ona])), (hs1, .inr (9, [.ref ra1, .ref sa1, .int (nI sz1)])), (sa1, .inl (cs 0, 4096, .inl sf1)), (w1, .inl (cs 1, 2000, .inr (.inl u1))), (spa, .inl (cs 1, 13, .inr (.inl (vp_updL g1 ly ((g1 ly) + 0))))), (aga, .inl (cs 1, 13, .inr (.inl g2))), (ona, .inl (cs 6, 13, .inr (.inr (.inr (.inr of))))), (q, .inl (cs 1, 9, .inr (.inl g3))), (ha, .inr (0, [.ref hr, .ref hg, .int z1, .int z2, .int z3])), (hr, .inr (7, [.int (nI n), .int (nI k), .int (nI al), .int (nI be), .int ea, .int pr, .ref sm, .int (nI se), .ref ca])), (hg, .inr (4, [.ref nd, .ref kd, .ref lk, .ref vw])), (kd, .inl (cs 0, 8, .inl kf)), (ra1, .inl (cs 0, 16008, .inl rf1))] H := hP
          replace hD : va_D A [(hly, .inr (5, [.ref hr, .ref ha, .ref wk, .ref hs1, .ref hs2, .ref w1, .ref w2, .int (nI dn), .int fu, .int ver, .ref spa, .ref aga, .ref ona])), (hs1, .inr (9, [.ref ra1, .ref sa1, .int (nI sz1)])), (sa1, .inl (cs 0, 4096, .inl sf1)), (w1, .inl (cs 1, 2000, .inr (.inl u1))), (spa, .inl (cs 1, 13, .inr (.inl (vp_updL g1 ly ((g1 ly) + 0))))), (aga, .inl (cs 1, 13, .inr (.inl g2))), (ona, .inl (cs 6, 13, .inr (.inr (.inr (.inr of))))), (q, .inl (cs 1, 9, .inr (.inl g3))), (ha, .inr (0, [.ref hr, .ref hg, .int z1, .int z2, .int z3])), (hr, .inr (7, [.int (nI n), .int (nI k), .int (nI al), .int (nI be), .int ea, .int pr, .ref sm, .int (nI se), .ref ca])), (hg, .inr (4, [.ref nd, .ref kd, .ref lk, .ref vw])), (kd, .inl (cs 0, 8, .inl kf)), (ra1, .inl (cs 0, 16008, .inl rf1))] := hD
          refine lv_aload_n hx hb dX5_tally_79 rfl (lv_at hl 2 rfl) ?_
          refine xget C hP 0 rfl rfl zuX5 11 (by decide) zw2_53 rfl dX5_tally_80 ?_
          refine lv_iload_n hx hb dX5_tally_83 rfl (lv_at hl 3 rfl) ?_
          refine lv_dup2_11 hx hb dX5_tally_84 rfl rfl ?_
          refine xlald C hP 5 rfl ly rfl (by omega) (by decide) dX5_tally_85 ?_
          refine lv_aload_n hx hb dX5_tally_86 rfl (lv_at hl 2 rfl) ?_
          refine xget C hP 0 rfl rfl zuX5 1 (by decide) zw2_42 rfl dX5_tally_87 ?_
          refine lv_aload_n hx hb dX5_tally_90 rfl (lv_at hl 2 rfl) ?_
          refine xget C hP 0 rfl rfl zuX5 3 (by decide) zw2_44 rfl dX5_tally_91 ?_
          refine xget C hP 1 rfl rfl zuX9 0 (by decide) zw3_171 rfl dX5_tally_94 ?_
          refine lv_iload_n hx hb dX5_tally_97 rfl (lv_at hl 0 rfl) ?_
          refine xi (wr := [(hly, .inr (5, [.ref hr, .ref ha, .ref wk, .ref hs1, .ref hs2, .ref w1, .ref w2, .int (nI dn), .int fu, .int ver, .ref spa, .ref aga, .ref ona])), (hs1, .inr (9, [.ref ra1, .ref sa1, .int (nI sz1)])), (sa1, .inl (cs 0, 4096, .inl sf1)), (w1, .inl (cs 1, 2000, .inr (.inl u1))), (spa, .inl (cs 1, 13, .inr (.inl (vp_updL g1 ly ((g1 ly) + 0))))), (aga, .inl (cs 1, 13, .inr (.inl g2))), (ona, .inl (cs 6, 13, .inr (.inr (.inr (.inr of))))), (q, .inl (cs 1, 9, .inr (.inl g3)))]) (xV (As := [.ref ra1, .int (nI (i * 8))]) (rest := [.long (g2 ly), .int (nI ly), .ref aga]) C (c_X0_isAgreed l D cs ha hg hr sm ca n k al be se ea pr z1 z2 z3 nd kd lk vw kf ra1 16008 (i * 8) rf1 hn (by omega) (by decide)) kX5_168 hP hD [8, 9, 10, 11, 12] rfl (by decide) 0 rfl rfl rfl ⟨Nat.le_of_ble_eq_true rfl, Nat.le_of_ble_eq_true rfl⟩ rfl hl.1 rfl (Nat.le_of_ble_eq_true rfl) dX5_tally_98 ⟨Nat.le_of_ble_eq_true rfl, Nat.le_of_ble_eq_true rfl⟩) hP hD hS hA [8, 9, 10, 11, 12] [0, 1, 2, 3, 4, 5, 6, 7] rfl rfl (by decide) (by decide) ?_
          clear hP hD hS
          try clear locs
          try clear H
          intro r_8 u_9 H locs hw_r_8 hP hD hS
          refine W.widen (k := 0) (n := 0) (Nat.le_of_ble_eq_true rfl) (Nat.le_of_ble_eq_true rfl) ?_
          replace hP : va_P D vwCl [(hly, .inr (5, [.ref hr, .ref ha, .ref wk, .ref hs1, .ref hs2, .ref w1, .ref w2, .int (nI dn), .int fu, .int ver, .ref spa, .ref aga, .ref ona])), (hs1, .inr (9, [.ref ra1, .ref sa1, .int (nI sz1)])), (sa1, .inl (cs 0, 4096, .inl sf1)), (w1, .inl (cs 1, 2000, .inr (.inl u1))), (spa, .inl (cs 1, 13, .inr (.inl (vp_updL g1 ly ((g1 ly) + 0))))), (aga, .inl (cs 1, 13, .inr (.inl g2))), (ona, .inl (cs 6, 13, .inr (.inr (.inr (.inr of))))), (q, .inl (cs 1, 9, .inr (.inl g3))), (ha, .inr (0, [.ref hr, .ref hg, .int z1, .int z2, .int z3])), (hr, .inr (7, [.int (nI n), .int (nI k), .int (nI al), .int (nI be), .int ea, .int pr, .ref sm, .int (nI se), .ref ca])), (hg, .inr (4, [.ref nd, .ref kd, .ref lk, .ref vw])), (kd, .inl (cs 0, 8, .inl kf)), (ra1, .inl (cs 0, 16008, .inl rf1))] H := hP
          replace hD : va_D A [(hly, .inr (5, [.ref hr, .ref ha, .ref wk, .ref hs1, .ref hs2, .ref w1, .ref w2, .int (nI dn), .int fu, .int ver, .ref spa, .ref aga, .ref ona])), (hs1, .inr (9, [.ref ra1, .ref sa1, .int (nI sz1)])), (sa1, .inl (cs 0, 4096, .inl sf1)), (w1, .inl (cs 1, 2000, .inr (.inl u1))), (spa, .inl (cs 1, 13, .inr (.inl (vp_updL g1 ly ((g1 ly) + 0))))), (aga, .inl (cs 1, 13, .inr (.inl g2))), (ona, .inl (cs 6, 13, .inr (.inr (.inr (.inr of))))), (q, .inl (cs 1, 9, .inr (.inl g3))), (ha, .inr (0, [.ref hr, .ref hg, .int z1, .int z2, .int z3])), (hr, .inr (7, [.int (nI n), .int (nI k), .int (nI al), .int (nI be), .int ea, .int pr, .ref sm, .int (nI se), .ref ca])), (hg, .inr (4, [.ref nd, .ref kd, .ref lk, .ref vw])), (kd, .inl (cs 0, 8, .inl kf)), (ra1, .inl (cs 0, 16008, .inl rf1))] := hD
          refine lv_if_eq (tgt := 113) hx hb dX5_tally_101 (by decide) (fun c_10 => ?_) (fun c_10 => ?_)
          · -- 101 t
            refine lv_lconst (v := 0) hx hb dX5_tally_113 (by decide) ?_
            refine lv_ladd hx hb dX5_tally_114 ?_
            refine xlast C hP hD hS 5 rfl ly rfl (by omega) (by decide) dX5_tally_115 ?_
            clear hP hD hS
            try clear locs
            try clear H
            intro H locs hP hD hS
            replace hP : va_P D vwCl [(hly, .inr (5, [.ref hr, .ref ha, .ref wk, .ref hs1, .ref hs2, .ref w1, .ref w2, .int (nI dn), .int fu, .int ver, .ref spa, .ref aga, .ref ona])), (hs1, .inr (9, [.ref ra1, .ref sa1, .int (nI sz1)])), (sa1, .inl (cs 0, 4096, .inl sf1)), (w1, .inl (cs 1, 2000, .inr (.inl u1))), (spa, .inl (cs 1, 13, .inr (.inl (vp_updL g1 ly ((g1 ly) + 0))))), (aga, .inl (cs 1, 13, .inr (.inl (vp_updL g2 ly ((g2 ly) + 0))))), (ona, .inl (cs 6, 13, .inr (.inr (.inr (.inr of))))), (q, .inl (cs 1, 9, .inr (.inl g3))), (ha, .inr (0, [.ref hr, .ref hg, .int z1, .int z2, .int z3])), (hr, .inr (7, [.int (nI n), .int (nI k), .int (nI al), .int (nI be), .int ea, .int pr, .ref sm, .int (nI se), .ref ca])), (hg, .inr (4, [.ref nd, .ref kd, .ref lk, .ref vw])), (kd, .inl (cs 0, 8, .inl kf)), (ra1, .inl (cs 0, 16008, .inl rf1))] H := hP
            replace hD : va_D A [(hly, .inr (5, [.ref hr, .ref ha, .ref wk, .ref hs1, .ref hs2, .ref w1, .ref w2, .int (nI dn), .int fu, .int ver, .ref spa, .ref aga, .ref ona])), (hs1, .inr (9, [.ref ra1, .ref sa1, .int (nI sz1)])), (sa1, .inl (cs 0, 4096, .inl sf1)), (w1, .inl (cs 1, 2000, .inr (.inl u1))), (spa, .inl (cs 1, 13, .inr (.inl (vp_updL g1 ly ((g1 ly) + 0))))), (aga, .inl (cs 1, 13, .inr (.inl (vp_updL g2 ly ((g2 ly) + 0))))), (ona, .inl (cs 6, 13, .inr (.inr (.inr (.inr of))))), (q, .inl (cs 1, 9, .inr (.inl g3))), (ha, .inr (0, [.ref hr, .ref hg, .int z1, .int z2, .int z3])), (hr, .inr (7, [.int (nI n), .int (nI k), .int (nI al), .int (nI be), .int ea, .int pr, .ref sm, .int (nI se), .ref ca])), (hg, .inr (4, [.ref nd, .ref kd, .ref lk, .ref vw])), (kd, .inl (cs 0, 8, .inl kf)), (ra1, .inl (cs 0, 16008, .inl rf1))] := hD
            refine lv_aload_n hx hb dX5_tally_116 rfl (lv_at hl 2 rfl) ?_
            refine xget C hP 0 rfl rfl zuX5 12 (by decide) zw2_55 rfl dX5_tally_117 ?_
            refine lv_iload_n hx hb dX5_tally_120 rfl (lv_at hl 3 rfl) ?_
            refine xaald C hP 6 6 rfl rfl rfl ly rfl (by omega) (by decide) hof dX5_tally_121 ?_
            refine lv_aload_n hx hb dX5_tally_122 rfl (lv_at hl 2 rfl) ?_
            refine xget C hP 0 rfl rfl zuX5 1 (by decide) zw2_42 rfl dX5_tally_123 ?_
            refine lv_aload_n hx hb dX5_tally_126 rfl (lv_at hl 2 rfl) ?_
            refine xget C hP 0 rfl rfl zuX5 3 (by decide) zw2_44 rfl dX5_tally_127 ?_
            refine xget C hP 1 rfl rfl zuX9 0 (by decide) zw3_171 rfl dX5_tally_130 ?_
            refine lv_iload_n hx hb dX5_tally_133 rfl (lv_at hl 0 rfl) ?_
            refine xi (wr := [(hly, .inr (5, [.ref hr, .ref ha, .ref wk, .ref hs1, .ref hs2, .ref w1, .ref w2, .int (nI dn), .int fu, .int ver, .ref spa, .ref aga, .ref ona])), (hs1, .inr (9, [.ref ra1, .ref sa1, .int (nI sz1)])), (sa1, .inl (cs 0, 4096, .inl sf1)), (w1, .inl (cs 1, 2000, .inr (.inl u1))), (spa, .inl (cs 1, 13, .inr (.inl (vp_updL g1 ly ((g1 ly) + 0))))), (aga, .inl (cs 1, 13, .inr (.inl (vp_updL g2 ly ((g2 ly) + 0))))), (ona, .inl (cs 6, 13, .inr (.inr (.inr (.inr of))))), (q, .inl (cs 1, 9, .inr (.inl g3)))]) (xV (As := [.ref ra1, .int (nI (i * 8))]) (rest := [.ref q]) C (c_X0_honestOnes l D cs ha hg hr sm ca n k al be se ea pr z1 z2 z3 nd kd lk vw kf ra1 16008 (i * 8) rf1 hn (by omega) (by decide)) kX5_171 hP hD [8, 9, 10, 11, 12] rfl (by decide) 0 rfl rfl rfl ⟨Nat.le_of_ble_eq_true rfl, Nat.le_of_ble_eq_true rfl⟩ rfl hl.1 rfl (Nat.le_of_ble_eq_true rfl) dX5_tally_134 ⟨Nat.le_of_ble_eq_true rfl, Nat.le_of_ble_eq_true rfl⟩) hP hD hS hA [8, 9, 10, 11, 12] [0, 1, 2, 3, 4, 5, 6, 7] rfl rfl (by decide) (by decide) ?_
            clear hP hD hS
            try clear locs
            try clear H
            intro r_11 u_12 H locs hw_r_11 hP hD hS
            have hw_r_11 : ∃ v, v < 2 ^ n ∧ r_11 = nI v := hw_r_11
            refine W.widen (k := 0) (n := 0) (Nat.le_of_ble_eq_true rfl) (Nat.le_of_ble_eq_true rfl) ?_
            replace hP : va_P D vwCl [(hly, .inr (5, [.ref hr, .ref ha, .ref wk, .ref hs1, .ref hs2, .ref w1, .ref w2, .int (nI dn), .int fu, .int ver, .ref spa, .ref aga, .ref ona])), (hs1, .inr (9, [.ref ra1, .ref sa1, .int (nI sz1)])), (sa1, .inl (cs 0, 4096, .inl sf1)), (w1, .inl (cs 1, 2000, .inr (.inl u1))), (spa, .inl (cs 1, 13, .inr (.inl (vp_updL g1 ly ((g1 ly) + 0))))), (aga, .inl (cs 1, 13, .inr (.inl (vp_updL g2 ly ((g2 ly) + 0))))), (ona, .inl (cs 6, 13, .inr (.inr (.inr (.inr of))))), (q, .inl (cs 1, 9, .inr (.inl g3))), (ha, .inr (0, [.ref hr, .ref hg, .int z1, .int z2, .int z3])), (hr, .inr (7, [.int (nI n), .int (nI k), .int (nI al), .int (nI be), .int ea, .int pr, .ref sm, .int (nI se), .ref ca])), (hg, .inr (4, [.ref nd, .ref kd, .ref lk, .ref vw])), (kd, .inl (cs 0, 8, .inl kf)), (ra1, .inl (cs 0, 16008, .inl rf1))] H := hP
            replace hD : va_D A [(hly, .inr (5, [.ref hr, .ref ha, .ref wk, .ref hs1, .ref hs2, .ref w1, .ref w2, .int (nI dn), .int fu, .int ver, .ref spa, .ref aga, .ref ona])), (hs1, .inr (9, [.ref ra1, .ref sa1, .int (nI sz1)])), (sa1, .inl (cs 0, 4096, .inl sf1)), (w1, .inl (cs 1, 2000, .inr (.inl u1))), (spa, .inl (cs 1, 13, .inr (.inl (vp_updL g1 ly ((g1 ly) + 0))))), (aga, .inl (cs 1, 13, .inr (.inl (vp_updL g2 ly ((g2 ly) + 0))))), (ona, .inl (cs 6, 13, .inr (.inr (.inr (.inr of))))), (q, .inl (cs 1, 9, .inr (.inl g3))), (ha, .inr (0, [.ref hr, .ref hg, .int z1, .int z2, .int z3])), (hr, .inr (7, [.int (nI n), .int (nI k), .int (nI al), .int (nI be), .int ea, .int pr, .ref sm, .int (nI se), .ref ca])), (hg, .inr (4, [.ref nd, .ref kd, .ref lk, .ref vw])), (kd, .inl (cs 0, 8, .inl kf)), (ra1, .inl (cs 0, 16008, .inl rf1))] := hD
            obtain ⟨t_13, h_t_13, e_t_13⟩ := hw_r_11
            refine lv_topi (nm_r (e' := nI t_13) e_t_13 ?_)
            refine xi (wr := [(hly, .inr (5, [.ref hr, .ref ha, .ref wk, .ref hs1, .ref hs2, .ref w1, .ref w2, .int (nI dn), .int fu, .int ver, .ref spa, .ref aga, .ref ona])), (hs1, .inr (9, [.ref ra1, .ref sa1, .int (nI sz1)])), (sa1, .inl (cs 0, 4096, .inl sf1)), (w1, .inl (cs 1, 2000, .inr (.inl u1))), (spa, .inl (cs 1, 13, .inr (.inl (vp_updL g1 ly ((g1 ly) + 0))))), (aga, .inl (cs 1, 13, .inr (.inl (vp_updL g2 ly ((g2 ly) + 0))))), (ona, .inl (cs 6, 13, .inr (.inr (.inr (.inr of))))), (q, .inl (cs 1, 9, .inr (.inl g3))), (ha, .inr (0, [.ref hr, .ref hg, .int z1, .int z2, .int z3])), (hr, .inr (7, [.int (nI n), .int (nI k), .int (nI al), .int (nI be), .int ea, .int pr, .ref sm, .int (nI se), .ref ca])), (hg, .inr (4, [.ref nd, .ref kd, .ref lk, .ref vw])), (kd, .inl (cs 0, 8, .inl kf)), (ra1, .inl (cs 0, 16008, .inl rf1))]) (xS (As := [.int (nI t_13)]) (rest := [.ref q]) C (c_J6_bitCount_0f7a4 l D cs (nI t_13)) kX5_126 hP hD [] rfl (by decide) ⟨Nat.le_of_ble_eq_true rfl, Nat.le_of_ble_eq_true rfl⟩ rfl hl.1 rfl (Nat.le_of_ble_eq_true rfl) dX5_tally_137 ⟨Nat.le_of_ble_eq_true rfl, Nat.le_of_ble_eq_true rfl⟩) hP hD hS hA [] [0, 1, 2, 3, 4, 5, 6, 7, 8, 9, 10, 11, 12] rfl rfl (by decide) (by decide) ?_
            clear hP hD hS
            try clear locs
            try clear H
            intro r_14 u_15 H locs hw_r_14 hP hD hS
            have hw_r_14 : r_14 = bcF (nI t_13) := hw_r_14
            refine W.widen (k := 0) (n := 0) (Nat.le_of_ble_eq_true rfl) (Nat.le_of_ble_eq_true rfl) ?_
            replace hP : va_P D vwCl [(hly, .inr (5, [.ref hr, .ref ha, .ref wk, .ref hs1, .ref hs2, .ref w1, .ref w2, .int (nI dn), .int fu, .int ver, .ref spa, .ref aga, .ref ona])), (hs1, .inr (9, [.ref ra1, .ref sa1, .int (nI sz1)])), (sa1, .inl (cs 0, 4096, .inl sf1)), (w1, .inl (cs 1, 2000, .inr (.inl u1))), (spa, .inl (cs 1, 13, .inr (.inl (vp_updL g1 ly ((g1 ly) + 0))))), (aga, .inl (cs 1, 13, .inr (.inl (vp_updL g2 ly ((g2 ly) + 0))))), (ona, .inl (cs 6, 13, .inr (.inr (.inr (.inr of))))), (q, .inl (cs 1, 9, .inr (.inl g3))), (ha, .inr (0, [.ref hr, .ref hg, .int z1, .int z2, .int z3])), (hr, .inr (7, [.int (nI n), .int (nI k), .int (nI al), .int (nI be), .int ea, .int pr, .ref sm, .int (nI se), .ref ca])), (hg, .inr (4, [.ref nd, .ref kd, .ref lk, .ref vw])), (kd, .inl (cs 0, 8, .inl kf)), (ra1, .inl (cs 0, 16008, .inl rf1))] H := hP
            replace hD : va_D A [(hly, .inr (5, [.ref hr, .ref ha, .ref wk, .ref hs1, .ref hs2, .ref w1, .ref w2, .int (nI dn), .int fu, .int ver, .ref spa, .ref aga, .ref ona])), (hs1, .inr (9, [.ref ra1, .ref sa1, .int (nI sz1)])), (sa1, .inl (cs 0, 4096, .inl sf1)), (w1, .inl (cs 1, 2000, .inr (.inl u1))), (spa, .inl (cs 1, 13, .inr (.inl (vp_updL g1 ly ((g1 ly) + 0))))), (aga, .inl (cs 1, 13, .inr (.inl (vp_updL g2 ly ((g2 ly) + 0))))), (ona, .inl (cs 6, 13, .inr (.inr (.inr (.inr of))))), (q, .inl (cs 1, 9, .inr (.inl g3))), (ha, .inr (0, [.ref hr, .ref hg, .int z1, .int z2, .int z3])), (hr, .inr (7, [.int (nI n), .int (nI k), .int (nI al), .int (nI be), .int ea, .int pr, .ref sm, .int (nI se), .ref ca])), (hg, .inr (4, [.ref nd, .ref kd, .ref lk, .ref vw])), (kd, .inl (cs 0, 8, .inl kf)), (ra1, .inl (cs 0, 16008, .inl rf1))] := hD
            refine lv_topi (nm_r (e' := bcF (nI t_13)) hw_r_14 ?_)
            obtain ⟨t_16, h_t_16, e_t_16⟩ := bc_256 t_13 (by omega)
            refine lv_topi (nm_r (e' := nI t_16) e_t_16 ?_)
            refine lv_dup2_11 hx hb dX5_tally_140 rfl rfl ?_
            refine xlald C hP 7 rfl t_16 rfl (by omega) (by decide) dX5_tally_141 ?_
            refine lv_aload_n hx hb dX5_tally_142 rfl (lv_at hl 2 rfl) ?_
            refine xget C hP 0 rfl rfl zuX5 5 (by decide) zw2_46 rfl dX5_tally_143 ?_
            refine lv_iload_n hx hb dX5_tally_146 rfl (lv_at hl 1 rfl) ?_
            refine xlald C hP 3 rfl i rfl (by omega) (by decide) dX5_tally_147 ?_
            refine lv_ladd hx hb dX5_tally_148 ?_
            refine xlast C hP hD hS 7 rfl t_16 rfl (by omega) (by decide) dX5_tally_149 ?_
            clear hP hD hS
            try clear locs
            try clear H
            intro H locs hP hD hS
            replace hP : va_P D vwCl [(hly, .inr (5, [.ref hr, .ref ha, .ref wk, .ref hs1, .ref hs2, .ref w1, .ref w2, .int (nI dn), .int fu, .int ver, .ref spa, .ref aga, .ref ona])), (hs1, .inr (9, [.ref ra1, .ref sa1, .int (nI sz1)])), (sa1, .inl (cs 0, 4096, .inl sf1)), (w1, .inl (cs 1, 2000, .inr (.inl u1))), (spa, .inl (cs 1, 13, .inr (.inl (vp_updL g1 ly ((g1 ly) + 0))))), (aga, .inl (cs 1, 13, .inr (.inl (vp_updL g2 ly ((g2 ly) + 0))))), (ona, .inl (cs 6, 13, .inr (.inr (.inr (.inr of))))), (q, .inl (cs 1, 9, .inr (.inl (vp_updL g3 t_16 ((g3 t_16) + (u1 i)))))), (ha, .inr (0, [.ref hr, .ref hg, .int z1, .int z2, .int z3])), (hr, .inr (7, [.int (nI n), .int (nI k), .int (nI al), .int (nI be), .int ea, .int pr, .ref sm, .int (nI se), .ref ca])), (hg, .inr (4, [.ref nd, .ref kd, .ref lk, .ref vw])), (kd, .inl (cs 0, 8, .inl kf)), (ra1, .inl (cs 0, 16008, .inl rf1))] H := hP
            replace hD : va_D A [(hly, .inr (5, [.ref hr, .ref ha, .ref wk, .ref hs1, .ref hs2, .ref w1, .ref w2, .int (nI dn), .int fu, .int ver, .ref spa, .ref aga, .ref ona])), (hs1, .inr (9, [.ref ra1, .ref sa1, .int (nI sz1)])), (sa1, .inl (cs 0, 4096, .inl sf1)), (w1, .inl (cs 1, 2000, .inr (.inl u1))), (spa, .inl (cs 1, 13, .inr (.inl (vp_updL g1 ly ((g1 ly) + 0))))), (aga, .inl (cs 1, 13, .inr (.inl (vp_updL g2 ly ((g2 ly) + 0))))), (ona, .inl (cs 6, 13, .inr (.inr (.inr (.inr of))))), (q, .inl (cs 1, 9, .inr (.inl (vp_updL g3 t_16 ((g3 t_16) + (u1 i)))))), (ha, .inr (0, [.ref hr, .ref hg, .int z1, .int z2, .int z3])), (hr, .inr (7, [.int (nI n), .int (nI k), .int (nI al), .int (nI be), .int ea, .int pr, .ref sm, .int (nI se), .ref ca])), (hg, .inr (4, [.ref nd, .ref kd, .ref lk, .ref vw])), (kd, .inl (cs 0, 8, .inl kf)), (ra1, .inl (cs 0, 16008, .inl rf1))] := hD
            refine lv_iinc (v := nI (i + 1)) (lv' := [(2, .int (nI (i + 1))), (3, .int (nI (i * 8))), (0, .ref hly), (1, .int (nI ly))]) hx hb dX5_tally_150 hl (k := 1) rfl (nI_add i 1) (by decide) rfl ?_
            clear hl
            try clear ls
            intro ls hl
            refine lv_goto (tgt := 26) hx hb dX5_tally_153 (by decide) ?_
            exact ih_loop_3 (i + 1) (vp_updL g1 ly ((g1 ly) + 0)) (vp_updL g2 ly ((g2 ly) + 0)) (vp_updL g3 t_16 ((g3 t_16) + (u1 i))) (by omega) (by omega) H locs ls (xP_map hP [0, 8, 9, 1, 12, 2, 3, 4, 5, 6, 10, 11, 7] rfl) (hD.sub [0, 8, 9, 1, 12, 2, 3, 4, 5, 6, 10, 11, 7] (by decide) rfl) hS (lv_sub hl [0, 2, 3] rfl)
          · -- 101 f
            refine lv_aload_n hx hb dX5_tally_104 rfl (lv_at hl 2 rfl) ?_
            refine xget C hP 0 rfl rfl zuX5 5 (by decide) zw2_46 rfl dX5_tally_105 ?_
            refine lv_iload_n hx hb dX5_tally_108 rfl (lv_at hl 1 rfl) ?_
            refine xlald C hP 3 rfl i rfl (by omega) (by decide) dX5_tally_109 ?_
            refine lv_goto (tgt := 114) hx hb dX5_tally_110 (by decide) ?_
            refine lv_ladd hx hb dX5_tally_114 ?_
            refine xlast C hP hD hS 5 rfl ly rfl (by omega) (by decide) dX5_tally_115 ?_
            clear hP hD hS
            try clear locs
            try clear H
            intro H locs hP hD hS
            replace hP : va_P D vwCl [(hly, .inr (5, [.ref hr, .ref ha, .ref wk, .ref hs1, .ref hs2, .ref w1, .ref w2, .int (nI dn), .int fu, .int ver, .ref spa, .ref aga, .ref ona])), (hs1, .inr (9, [.ref ra1, .ref sa1, .int (nI sz1)])), (sa1, .inl (cs 0, 4096, .inl sf1)), (w1, .inl (cs 1, 2000, .inr (.inl u1))), (spa, .inl (cs 1, 13, .inr (.inl (vp_updL g1 ly ((g1 ly) + 0))))), (aga, .inl (cs 1, 13, .inr (.inl (vp_updL g2 ly ((g2 ly) + (u1 i)))))), (ona, .inl (cs 6, 13, .inr (.inr (.inr (.inr of))))), (q, .inl (cs 1, 9, .inr (.inl g3))), (ha, .inr (0, [.ref hr, .ref hg, .int z1, .int z2, .int z3])), (hr, .inr (7, [.int (nI n), .int (nI k), .int (nI al), .int (nI be), .int ea, .int pr, .ref sm, .int (nI se), .ref ca])), (hg, .inr (4, [.ref nd, .ref kd, .ref lk, .ref vw])), (kd, .inl (cs 0, 8, .inl kf)), (ra1, .inl (cs 0, 16008, .inl rf1))] H := hP
            replace hD : va_D A [(hly, .inr (5, [.ref hr, .ref ha, .ref wk, .ref hs1, .ref hs2, .ref w1, .ref w2, .int (nI dn), .int fu, .int ver, .ref spa, .ref aga, .ref ona])), (hs1, .inr (9, [.ref ra1, .ref sa1, .int (nI sz1)])), (sa1, .inl (cs 0, 4096, .inl sf1)), (w1, .inl (cs 1, 2000, .inr (.inl u1))), (spa, .inl (cs 1, 13, .inr (.inl (vp_updL g1 ly ((g1 ly) + 0))))), (aga, .inl (cs 1, 13, .inr (.inl (vp_updL g2 ly ((g2 ly) + (u1 i)))))), (ona, .inl (cs 6, 13, .inr (.inr (.inr (.inr of))))), (q, .inl (cs 1, 9, .inr (.inl g3))), (ha, .inr (0, [.ref hr, .ref hg, .int z1, .int z2, .int z3])), (hr, .inr (7, [.int (nI n), .int (nI k), .int (nI al), .int (nI be), .int ea, .int pr, .ref sm, .int (nI se), .ref ca])), (hg, .inr (4, [.ref nd, .ref kd, .ref lk, .ref vw])), (kd, .inl (cs 0, 8, .inl kf)), (ra1, .inl (cs 0, 16008, .inl rf1))] := hD
            refine lv_aload_n hx hb dX5_tally_116 rfl (lv_at hl 2 rfl) ?_
            refine xget C hP 0 rfl rfl zuX5 12 (by decide) zw2_55 rfl dX5_tally_117 ?_
            refine lv_iload_n hx hb dX5_tally_120 rfl (lv_at hl 3 rfl) ?_
            refine xaald C hP 6 6 rfl rfl rfl ly rfl (by omega) (by decide) hof dX5_tally_121 ?_
            refine lv_aload_n hx hb dX5_tally_122 rfl (lv_at hl 2 rfl) ?_
            refine xget C hP 0 rfl rfl zuX5 1 (by decide) zw2_42 rfl dX5_tally_123 ?_
            refine lv_aload_n hx hb dX5_tally_126 rfl (lv_at hl 2 rfl) ?_
            refine xget C hP 0 rfl rfl zuX5 3 (by decide) zw2_44 rfl dX5_tally_127 ?_
            refine xget C hP 1 rfl rfl zuX9 0 (by decide) zw3_171 rfl dX5_tally_130 ?_
            refine lv_iload_n hx hb dX5_tally_133 rfl (lv_at hl 0 rfl) ?_
            refine xi (wr := [(hly, .inr (5, [.ref hr, .ref ha, .ref wk, .ref hs1, .ref hs2, .ref w1, .ref w2, .int (nI dn), .int fu, .int ver, .ref spa, .ref aga, .ref ona])), (hs1, .inr (9, [.ref ra1, .ref sa1, .int (nI sz1)])), (sa1, .inl (cs 0, 4096, .inl sf1)), (w1, .inl (cs 1, 2000, .inr (.inl u1))), (spa, .inl (cs 1, 13, .inr (.inl (vp_updL g1 ly ((g1 ly) + 0))))), (aga, .inl (cs 1, 13, .inr (.inl (vp_updL g2 ly ((g2 ly) + (u1 i)))))), (ona, .inl (cs 6, 13, .inr (.inr (.inr (.inr of))))), (q, .inl (cs 1, 9, .inr (.inl g3)))]) (xV (As := [.ref ra1, .int (nI (i * 8))]) (rest := [.ref q]) C (c_X0_honestOnes l D cs ha hg hr sm ca n k al be se ea pr z1 z2 z3 nd kd lk vw kf ra1 16008 (i * 8) rf1 hn (by omega) (by decide)) kX5_171 hP hD [8, 9, 10, 11, 12] rfl (by decide) 0 rfl rfl rfl ⟨Nat.le_of_ble_eq_true rfl, Nat.le_of_ble_eq_true rfl⟩ rfl hl.1 rfl (Nat.le_of_ble_eq_true rfl) dX5_tally_134 ⟨Nat.le_of_ble_eq_true rfl, Nat.le_of_ble_eq_true rfl⟩) hP hD hS hA [8, 9, 10, 11, 12] [0, 1, 2, 3, 4, 5, 6, 7] rfl rfl (by decide) (by decide) ?_
            clear hP hD hS
            try clear locs
            try clear H
            intro r_17 u_18 H locs hw_r_17 hP hD hS
            have hw_r_17 : ∃ v, v < 2 ^ n ∧ r_17 = nI v := hw_r_17
            refine W.widen (k := 0) (n := 0) (Nat.le_of_ble_eq_true rfl) (Nat.le_of_ble_eq_true rfl) ?_
            replace hP : va_P D vwCl [(hly, .inr (5, [.ref hr, .ref ha, .ref wk, .ref hs1, .ref hs2, .ref w1, .ref w2, .int (nI dn), .int fu, .int ver, .ref spa, .ref aga, .ref ona])), (hs1, .inr (9, [.ref ra1, .ref sa1, .int (nI sz1)])), (sa1, .inl (cs 0, 4096, .inl sf1)), (w1, .inl (cs 1, 2000, .inr (.inl u1))), (spa, .inl (cs 1, 13, .inr (.inl (vp_updL g1 ly ((g1 ly) + 0))))), (aga, .inl (cs 1, 13, .inr (.inl (vp_updL g2 ly ((g2 ly) + (u1 i)))))), (ona, .inl (cs 6, 13, .inr (.inr (.inr (.inr of))))), (q, .inl (cs 1, 9, .inr (.inl g3))), (ha, .inr (0, [.ref hr, .ref hg, .int z1, .int z2, .int z3])), (hr, .inr (7, [.int (nI n), .int (nI k), .int (nI al), .int (nI be), .int ea, .int pr, .ref sm, .int (nI se), .ref ca])), (hg, .inr (4, [.ref nd, .ref kd, .ref lk, .ref vw])), (kd, .inl (cs 0, 8, .inl kf)), (ra1, .inl (cs 0, 16008, .inl rf1))] H := hP
            replace hD : va_D A [(hly, .inr (5, [.ref hr, .ref ha, .ref wk, .ref hs1, .ref hs2, .ref w1, .ref w2, .int (nI dn), .int fu, .int ver, .ref spa, .ref aga, .ref ona])), (hs1, .inr (9, [.ref ra1, .ref sa1, .int (nI sz1)])), (sa1, .inl (cs 0, 4096, .inl sf1)), (w1, .inl (cs 1, 2000, .inr (.inl u1))), (spa, .inl (cs 1, 13, .inr (.inl (vp_updL g1 ly ((g1 ly) + 0))))), (aga, .inl (cs 1, 13, .inr (.inl (vp_updL g2 ly ((g2 ly) + (u1 i)))))), (ona, .inl (cs 6, 13, .inr (.inr (.inr (.inr of))))), (q, .inl (cs 1, 9, .inr (.inl g3))), (ha, .inr (0, [.ref hr, .ref hg, .int z1, .int z2, .int z3])), (hr, .inr (7, [.int (nI n), .int (nI k), .int (nI al), .int (nI be), .int ea, .int pr, .ref sm, .int (nI se), .ref ca])), (hg, .inr (4, [.ref nd, .ref kd, .ref lk, .ref vw])), (kd, .inl (cs 0, 8, .inl kf)), (ra1, .inl (cs 0, 16008, .inl rf1))] := hD
            obtain ⟨t_19, h_t_19, e_t_19⟩ := hw_r_17
            refine lv_topi (nm_r (e' := nI t_19) e_t_19 ?_)
            refine xi (wr := [(hly, .inr (5, [.ref hr, .ref ha, .ref wk, .ref hs1, .ref hs2, .ref w1, .ref w2, .int (nI dn), .int fu, .int ver, .ref spa, .ref aga, .ref ona])), (hs1, .inr (9, [.ref ra1, .ref sa1, .int (nI sz1)])), (sa1, .inl (cs 0, 4096, .inl sf1)), (w1, .inl (cs 1, 2000, .inr (.inl u1))), (spa, .inl (cs 1, 13, .inr (.inl (vp_updL g1 ly ((g1 ly) + 0))))), (aga, .inl (cs 1, 13, .inr (.inl (vp_updL g2 ly ((g2 ly) + (u1 i)))))), (ona, .inl (cs 6, 13, .inr (.inr (.inr (.inr of))))), (q, .inl (cs 1, 9, .inr (.inl g3))), (ha, .inr (0, [.ref hr, .ref hg, .int z1, .int z2, .int z3])), (hr, .inr (7, [.int (nI n), .int (nI k), .int (nI al), .int (nI be), .int ea, .int pr, .ref sm, .int (nI se), .ref ca])), (hg, .inr (4, [.ref nd, .ref kd, .ref lk, .ref vw])), (kd, .inl (cs 0, 8, .inl kf)), (ra1, .inl (cs 0, 16008, .inl rf1))]) (xS (As := [.int (nI t_19)]) (rest := [.ref q]) C (c_J6_bitCount_0f7a4 l D cs (nI t_19)) kX5_126 hP hD [] rfl (by decide) ⟨Nat.le_of_ble_eq_true rfl, Nat.le_of_ble_eq_true rfl⟩ rfl hl.1 rfl (Nat.le_of_ble_eq_true rfl) dX5_tally_137 ⟨Nat.le_of_ble_eq_true rfl, Nat.le_of_ble_eq_true rfl⟩) hP hD hS hA [] [0, 1, 2, 3, 4, 5, 6, 7, 8, 9, 10, 11, 12] rfl rfl (by decide) (by decide) ?_
            clear hP hD hS
            try clear locs
            try clear H
            intro r_20 u_21 H locs hw_r_20 hP hD hS
            have hw_r_20 : r_20 = bcF (nI t_19) := hw_r_20
            refine W.widen (k := 0) (n := 0) (Nat.le_of_ble_eq_true rfl) (Nat.le_of_ble_eq_true rfl) ?_
            replace hP : va_P D vwCl [(hly, .inr (5, [.ref hr, .ref ha, .ref wk, .ref hs1, .ref hs2, .ref w1, .ref w2, .int (nI dn), .int fu, .int ver, .ref spa, .ref aga, .ref ona])), (hs1, .inr (9, [.ref ra1, .ref sa1, .int (nI sz1)])), (sa1, .inl (cs 0, 4096, .inl sf1)), (w1, .inl (cs 1, 2000, .inr (.inl u1))), (spa, .inl (cs 1, 13, .inr (.inl (vp_updL g1 ly ((g1 ly) + 0))))), (aga, .inl (cs 1, 13, .inr (.inl (vp_updL g2 ly ((g2 ly) + (u1 i)))))), (ona, .inl (cs 6, 13, .inr (.inr (.inr (.inr of))))), (q, .inl (cs 1, 9, .inr (.inl g3))), (ha, .inr (0, [.ref hr, .ref hg, .int z1, .int z2, .int z3])), (hr, .inr (7, [.int (nI n), .int (nI k), .int (nI al), .int (nI be), .int ea, .int pr, .ref sm, .int (nI se), .ref ca])), (hg, .inr (4, [.ref nd, .ref kd, .ref lk, .ref vw])), (kd, .inl (cs 0, 8, .inl kf)), (ra1, .inl (cs 0, 16008, .inl rf1))] H := hP
            replace hD : va_D A [(hly, .inr (5, [.ref hr, .ref ha, .ref wk, .ref hs1, .ref hs2, .ref w1, .ref w2, .int (nI dn), .int fu, .int ver, .ref spa, .ref aga, .ref ona])), (hs1, .inr (9, [.ref ra1, .ref sa1, .int (nI sz1)])), (sa1, .inl (cs 0, 4096, .inl sf1)), (w1, .inl (cs 1, 2000, .inr (.inl u1))), (spa, .inl (cs 1, 13, .inr (.inl (vp_updL g1 ly ((g1 ly) + 0))))), (aga, .inl (cs 1, 13, .inr (.inl (vp_updL g2 ly ((g2 ly) + (u1 i)))))), (ona, .inl (cs 6, 13, .inr (.inr (.inr (.inr of))))), (q, .inl (cs 1, 9, .inr (.inl g3))), (ha, .inr (0, [.ref hr, .ref hg, .int z1, .int z2, .int z3])), (hr, .inr (7, [.int (nI n), .int (nI k), .int (nI al), .int (nI be), .int ea, .int pr, .ref sm, .int (nI se), .ref ca])), (hg, .inr (4, [.ref nd, .ref kd, .ref lk, .ref vw])), (kd, .inl (cs 0, 8, .inl kf)), (ra1, .inl (cs 0, 16008, .inl rf1))] := hD
            refine lv_topi (nm_r (e' := bcF (nI t_19)) hw_r_20 ?_)
            obtain ⟨t_22, h_t_22, e_t_22⟩ := bc_256 t_19 (by omega)
            refine lv_topi (nm_r (e' := nI t_22) e_t_22 ?_)
            refine lv_dup2_11 hx hb dX5_tally_140 rfl rfl ?_
            refine xlald C hP 7 rfl t_22 rfl (by omega) (by decide) dX5_tally_141 ?_
            refine lv_aload_n hx hb dX5_tally_142 rfl (lv_at hl 2 rfl) ?_
            refine xget C hP 0 rfl rfl zuX5 5 (by decide) zw2_46 rfl dX5_tally_143 ?_
            refine lv_iload_n hx hb dX5_tally_146 rfl (lv_at hl 1 rfl) ?_
            refine xlald C hP 3 rfl i rfl (by omega) (by decide) dX5_tally_147 ?_
            refine lv_ladd hx hb dX5_tally_148 ?_
            refine xlast C hP hD hS 7 rfl t_22 rfl (by omega) (by decide) dX5_tally_149 ?_
            clear hP hD hS
            try clear locs
            try clear H
            intro H locs hP hD hS
            replace hP : va_P D vwCl [(hly, .inr (5, [.ref hr, .ref ha, .ref wk, .ref hs1, .ref hs2, .ref w1, .ref w2, .int (nI dn), .int fu, .int ver, .ref spa, .ref aga, .ref ona])), (hs1, .inr (9, [.ref ra1, .ref sa1, .int (nI sz1)])), (sa1, .inl (cs 0, 4096, .inl sf1)), (w1, .inl (cs 1, 2000, .inr (.inl u1))), (spa, .inl (cs 1, 13, .inr (.inl (vp_updL g1 ly ((g1 ly) + 0))))), (aga, .inl (cs 1, 13, .inr (.inl (vp_updL g2 ly ((g2 ly) + (u1 i)))))), (ona, .inl (cs 6, 13, .inr (.inr (.inr (.inr of))))), (q, .inl (cs 1, 9, .inr (.inl (vp_updL g3 t_22 ((g3 t_22) + (u1 i)))))), (ha, .inr (0, [.ref hr, .ref hg, .int z1, .int z2, .int z3])), (hr, .inr (7, [.int (nI n), .int (nI k), .int (nI al), .int (nI be), .int ea, .int pr, .ref sm, .int (nI se), .ref ca])), (hg, .inr (4, [.ref nd, .ref kd, .ref lk, .ref vw])), (kd, .inl (cs 0, 8, .inl kf)), (ra1, .inl (cs 0, 16008, .inl rf1))] H := hP
            replace hD : va_D A [(hly, .inr (5, [.ref hr, .ref ha, .ref wk, .ref hs1, .ref hs2, .ref w1, .ref w2, .int (nI dn), .int fu, .int ver, .ref spa, .ref aga, .ref ona])), (hs1, .inr (9, [.ref ra1, .ref sa1, .int (nI sz1)])), (sa1, .inl (cs 0, 4096, .inl sf1)), (w1, .inl (cs 1, 2000, .inr (.inl u1))), (spa, .inl (cs 1, 13, .inr (.inl (vp_updL g1 ly ((g1 ly) + 0))))), (aga, .inl (cs 1, 13, .inr (.inl (vp_updL g2 ly ((g2 ly) + (u1 i)))))), (ona, .inl (cs 6, 13, .inr (.inr (.inr (.inr of))))), (q, .inl (cs 1, 9, .inr (.inl (vp_updL g3 t_22 ((g3 t_22) + (u1 i)))))), (ha, .inr (0, [.ref hr, .ref hg, .int z1, .int z2, .int z3])), (hr, .inr (7, [.int (nI n), .int (nI k), .int (nI al), .int (nI be), .int ea, .int pr, .ref sm, .int (nI se), .ref ca])), (hg, .inr (4, [.ref nd, .ref kd, .ref lk, .ref vw])), (kd, .inl (cs 0, 8, .inl kf)), (ra1, .inl (cs 0, 16008, .inl rf1))] := hD
            refine lv_iinc (v := nI (i + 1)) (lv' := [(2, .int (nI (i + 1))), (3, .int (nI (i * 8))), (0, .ref hly), (1, .int (nI ly))]) hx hb dX5_tally_150 hl (k := 1) rfl (nI_add i 1) (by decide) rfl ?_
            clear hl
            try clear ls
            intro ls hl
            refine lv_goto (tgt := 26) hx hb dX5_tally_153 (by decide) ?_
            exact ih_loop_3 (i + 1) (vp_updL g1 ly ((g1 ly) + 0)) (vp_updL g2 ly ((g2 ly) + (u1 i))) (vp_updL g3 t_22 ((g3 t_22) + (u1 i))) (by omega) (by omega) H locs ls (xP_map hP [0, 8, 9, 1, 12, 2, 3, 4, 5, 6, 10, 11, 7] rfl) (hD.sub [0, 8, 9, 1, 12, 2, 3, 4, 5, 6, 10, 11, 7] (by decide) rfl) hS (lv_sub hl [0, 2, 3] rfl)
        · -- 64 f
          refine lv_aload_n hx hb dX5_tally_67 rfl (lv_at hl 2 rfl) ?_
          refine xget C hP 0 rfl rfl zuX5 5 (by decide) zw2_46 rfl dX5_tally_68 ?_
          refine lv_iload_n hx hb dX5_tally_71 rfl (lv_at hl 1 rfl) ?_
          refine xlald C hP 3 rfl i rfl (by omega) (by decide) dX5_tally_72 ?_
          refine lv_goto (tgt := 77) hx hb dX5_tally_73 (by decide) ?_
          refine lv_ladd hx hb dX5_tally_77 ?_
          refine xlast C hP hD hS 4 rfl ly rfl (by omega) (by decide) dX5_tally_78 ?_
          clear hP hD hS
          try clear locs
          try clear H
          intro H locs hP hD hS
          replace hP : va_P D vwCl [(hly, .inr (5, [.ref hr, .ref ha, .ref wk, .ref hs1, .ref hs2, .ref w1, .ref w2, .int (nI dn), .int fu, .int ver, .ref spa, .ref aga, .ref ona])), (hs1, .inr (9, [.ref ra1, .ref sa1, .int (nI sz1)])), (sa1, .inl (cs 0, 4096, .inl sf1)), (w1, .inl (cs 1, 2000, .inr (.inl u1))), (spa, .inl (cs 1, 13, .inr (.inl (vp_updL g1 ly ((g1 ly) + (u1 i)))))), (aga, .inl (cs 1, 13, .inr (.inl g2))), (ona, .inl (cs 6, 13, .inr (.inr (.inr (.inr of))))), (q, .inl (cs 1, 9, .inr (.inl g3))), (ha, .inr (0, [.ref hr, .ref hg, .int z1, .int z2, .int z3])), (hr, .inr (7, [.int (nI n), .int (nI k), .int (nI al), .int (nI be), .int ea, .int pr, .ref sm, .int (nI se), .ref ca])), (hg, .inr (4, [.ref nd, .ref kd, .ref lk, .ref vw])), (kd, .inl (cs 0, 8, .inl kf)), (ra1, .inl (cs 0, 16008, .inl rf1))] H := hP
          replace hD : va_D A [(hly, .inr (5, [.ref hr, .ref ha, .ref wk, .ref hs1, .ref hs2, .ref w1, .ref w2, .int (nI dn), .int fu, .int ver, .ref spa, .ref aga, .ref ona])), (hs1, .inr (9, [.ref ra1, .ref sa1, .int (nI sz1)])), (sa1, .inl (cs 0, 4096, .inl sf1)), (w1, .inl (cs 1, 2000, .inr (.inl u1))), (spa, .inl (cs 1, 13, .inr (.inl (vp_updL g1 ly ((g1 ly) + (u1 i)))))), (aga, .inl (cs 1, 13, .inr (.inl g2))), (ona, .inl (cs 6, 13, .inr (.inr (.inr (.inr of))))), (q, .inl (cs 1, 9, .inr (.inl g3))), (ha, .inr (0, [.ref hr, .ref hg, .int z1, .int z2, .int z3])), (hr, .inr (7, [.int (nI n), .int (nI k), .int (nI al), .int (nI be), .int ea, .int pr, .ref sm, .int (nI se), .ref ca])), (hg, .inr (4, [.ref nd, .ref kd, .ref lk, .ref vw])), (kd, .inl (cs 0, 8, .inl kf)), (ra1, .inl (cs 0, 16008, .inl rf1))] := hD
          refine lv_aload_n hx hb dX5_tally_79 rfl (lv_at hl 2 rfl) ?_
          refine xget C hP 0 rfl rfl zuX5 11 (by decide) zw2_53 rfl dX5_tally_80 ?_
          refine lv_iload_n hx hb dX5_tally_83 rfl (lv_at hl 3 rfl) ?_
          refine lv_dup2_11 hx hb dX5_tally_84 rfl rfl ?_
          refine xlald C hP 5 rfl ly rfl (by omega) (by decide) dX5_tally_85 ?_
          refine lv_aload_n hx hb dX5_tally_86 rfl (lv_at hl 2 rfl) ?_
          refine xget C hP 0 rfl rfl zuX5 1 (by decide) zw2_42 rfl dX5_tally_87 ?_
          refine lv_aload_n hx hb dX5_tally_90 rfl (lv_at hl 2 rfl) ?_
          refine xget C hP 0 rfl rfl zuX5 3 (by decide) zw2_44 rfl dX5_tally_91 ?_
          refine xget C hP 1 rfl rfl zuX9 0 (by decide) zw3_171 rfl dX5_tally_94 ?_
          refine lv_iload_n hx hb dX5_tally_97 rfl (lv_at hl 0 rfl) ?_
          refine xi (wr := [(hly, .inr (5, [.ref hr, .ref ha, .ref wk, .ref hs1, .ref hs2, .ref w1, .ref w2, .int (nI dn), .int fu, .int ver, .ref spa, .ref aga, .ref ona])), (hs1, .inr (9, [.ref ra1, .ref sa1, .int (nI sz1)])), (sa1, .inl (cs 0, 4096, .inl sf1)), (w1, .inl (cs 1, 2000, .inr (.inl u1))), (spa, .inl (cs 1, 13, .inr (.inl (vp_updL g1 ly ((g1 ly) + (u1 i)))))), (aga, .inl (cs 1, 13, .inr (.inl g2))), (ona, .inl (cs 6, 13, .inr (.inr (.inr (.inr of))))), (q, .inl (cs 1, 9, .inr (.inl g3)))]) (xV (As := [.ref ra1, .int (nI (i * 8))]) (rest := [.long (g2 ly), .int (nI ly), .ref aga]) C (c_X0_isAgreed l D cs ha hg hr sm ca n k al be se ea pr z1 z2 z3 nd kd lk vw kf ra1 16008 (i * 8) rf1 hn (by omega) (by decide)) kX5_168 hP hD [8, 9, 10, 11, 12] rfl (by decide) 0 rfl rfl rfl ⟨Nat.le_of_ble_eq_true rfl, Nat.le_of_ble_eq_true rfl⟩ rfl hl.1 rfl (Nat.le_of_ble_eq_true rfl) dX5_tally_98 ⟨Nat.le_of_ble_eq_true rfl, Nat.le_of_ble_eq_true rfl⟩) hP hD hS hA [8, 9, 10, 11, 12] [0, 1, 2, 3, 4, 5, 6, 7] rfl rfl (by decide) (by decide) ?_
          clear hP hD hS
          try clear locs
          try clear H
          intro r_23 u_24 H locs hw_r_23 hP hD hS
          refine W.widen (k := 0) (n := 0) (Nat.le_of_ble_eq_true rfl) (Nat.le_of_ble_eq_true rfl) ?_
          replace hP : va_P D vwCl [(hly, .inr (5, [.ref hr, .ref ha, .ref wk, .ref hs1, .ref hs2, .ref w1, .ref w2, .int (nI dn), .int fu, .int ver, .ref spa, .ref aga, .ref ona])), (hs1, .inr (9, [.ref ra1, .ref sa1, .int (nI sz1)])), (sa1, .inl (cs 0, 4096, .inl sf1)), (w1, .inl (cs 1, 2000, .inr (.inl u1))), (spa, .inl (cs 1, 13, .inr (.inl (vp_updL g1 ly ((g1 ly) + (u1 i)))))), (aga, .inl (cs 1, 13, .inr (.inl g2))), (ona, .inl (cs 6, 13, .inr (.inr (.inr (.inr of))))), (q, .inl (cs 1, 9, .inr (.inl g3))), (ha, .inr (0, [.ref hr, .ref hg, .int z1, .int z2, .int z3])), (hr, .inr (7, [.int (nI n), .int (nI k), .int (nI al), .int (nI be), .int ea, .int pr, .ref sm, .int (nI se), .ref ca])), (hg, .inr (4, [.ref nd, .ref kd, .ref lk, .ref vw])), (kd, .inl (cs 0, 8, .inl kf)), (ra1, .inl (cs 0, 16008, .inl rf1))] H := hP
          replace hD : va_D A [(hly, .inr (5, [.ref hr, .ref ha, .ref wk, .ref hs1, .ref hs2, .ref w1, .ref w2, .int (nI dn), .int fu, .int ver, .ref spa, .ref aga, .ref ona])), (hs1, .inr (9, [.ref ra1, .ref sa1, .int (nI sz1)])), (sa1, .inl (cs 0, 4096, .inl sf1)), (w1, .inl (cs 1, 2000, .inr (.inl u1))), (spa, .inl (cs 1, 13, .inr (.inl (vp_updL g1 ly ((g1 ly) + (u1 i)))))), (aga, .inl (cs 1, 13, .inr (.inl g2))), (ona, .inl (cs 6, 13, .inr (.inr (.inr (.inr of))))), (q, .inl (cs 1, 9, .inr (.inl g3))), (ha, .inr (0, [.ref hr, .ref hg, .int z1, .int z2, .int z3])), (hr, .inr (7, [.int (nI n), .int (nI k), .int (nI al), .int (nI be), .int ea, .int pr, .ref sm, .int (nI se), .ref ca])), (hg, .inr (4, [.ref nd, .ref kd, .ref lk, .ref vw])), (kd, .inl (cs 0, 8, .inl kf)), (ra1, .inl (cs 0, 16008, .inl rf1))] := hD
          refine lv_if_eq (tgt := 113) hx hb dX5_tally_101 (by decide) (fun c_25 => ?_) (fun c_25 => ?_)
          · -- 101 t
            refine lv_lconst (v := 0) hx hb dX5_tally_113 (by decide) ?_
            refine lv_ladd hx hb dX5_tally_114 ?_
            refine xlast C hP hD hS 5 rfl ly rfl (by omega) (by decide) dX5_tally_115 ?_
            clear hP hD hS
            try clear locs
            try clear H
            intro H locs hP hD hS
            replace hP : va_P D vwCl [(hly, .inr (5, [.ref hr, .ref ha, .ref wk, .ref hs1, .ref hs2, .ref w1, .ref w2, .int (nI dn), .int fu, .int ver, .ref spa, .ref aga, .ref ona])), (hs1, .inr (9, [.ref ra1, .ref sa1, .int (nI sz1)])), (sa1, .inl (cs 0, 4096, .inl sf1)), (w1, .inl (cs 1, 2000, .inr (.inl u1))), (spa, .inl (cs 1, 13, .inr (.inl (vp_updL g1 ly ((g1 ly) + (u1 i)))))), (aga, .inl (cs 1, 13, .inr (.inl (vp_updL g2 ly ((g2 ly) + 0))))), (ona, .inl (cs 6, 13, .inr (.inr (.inr (.inr of))))), (q, .inl (cs 1, 9, .inr (.inl g3))), (ha, .inr (0, [.ref hr, .ref hg, .int z1, .int z2, .int z3])), (hr, .inr (7, [.int (nI n), .int (nI k), .int (nI al), .int (nI be), .int ea, .int pr, .ref sm, .int (nI se), .ref ca])), (hg, .inr (4, [.ref nd, .ref kd, .ref lk, .ref vw])), (kd, .inl (cs 0, 8, .inl kf)), (ra1, .inl (cs 0, 16008, .inl rf1))] H := hP
            replace hD : va_D A [(hly, .inr (5, [.ref hr, .ref ha, .ref wk, .ref hs1, .ref hs2, .ref w1, .ref w2, .int (nI dn), .int fu, .int ver, .ref spa, .ref aga, .ref ona])), (hs1, .inr (9, [.ref ra1, .ref sa1, .int (nI sz1)])), (sa1, .inl (cs 0, 4096, .inl sf1)), (w1, .inl (cs 1, 2000, .inr (.inl u1))), (spa, .inl (cs 1, 13, .inr (.inl (vp_updL g1 ly ((g1 ly) + (u1 i)))))), (aga, .inl (cs 1, 13, .inr (.inl (vp_updL g2 ly ((g2 ly) + 0))))), (ona, .inl (cs 6, 13, .inr (.inr (.inr (.inr of))))), (q, .inl (cs 1, 9, .inr (.inl g3))), (ha, .inr (0, [.ref hr, .ref hg, .int z1, .int z2, .int z3])), (hr, .inr (7, [.int (nI n), .int (nI k), .int (nI al), .int (nI be), .int ea, .int pr, .ref sm, .int (nI se), .ref ca])), (hg, .inr (4, [.ref nd, .ref kd, .ref lk, .ref vw])), (kd, .inl (cs 0, 8, .inl kf)), (ra1, .inl (cs 0, 16008, .inl rf1))] := hD
            refine lv_aload_n hx hb dX5_tally_116 rfl (lv_at hl 2 rfl) ?_
            refine xget C hP 0 rfl rfl zuX5 12 (by decide) zw2_55 rfl dX5_tally_117 ?_
            refine lv_iload_n hx hb dX5_tally_120 rfl (lv_at hl 3 rfl) ?_
            refine xaald C hP 6 6 rfl rfl rfl ly rfl (by omega) (by decide) hof dX5_tally_121 ?_
            refine lv_aload_n hx hb dX5_tally_122 rfl (lv_at hl 2 rfl) ?_
            refine xget C hP 0 rfl rfl zuX5 1 (by decide) zw2_42 rfl dX5_tally_123 ?_
            refine lv_aload_n hx hb dX5_tally_126 rfl (lv_at hl 2 rfl) ?_
            refine xget C hP 0 rfl rfl zuX5 3 (by decide) zw2_44 rfl dX5_tally_127 ?_
            refine xget C hP 1 rfl rfl zuX9 0 (by decide) zw3_171 rfl dX5_tally_130 ?_
            refine lv_iload_n hx hb dX5_tally_133 rfl (lv_at hl 0 rfl) ?_
            refine xi (wr := [(hly, .inr (5, [.ref hr, .ref ha, .ref wk, .ref hs1, .ref hs2, .ref w1, .ref w2, .int (nI dn), .int fu, .int ver, .ref spa, .ref aga, .ref ona])), (hs1, .inr (9, [.ref ra1, .ref sa1, .int (nI sz1)])), (sa1, .inl (cs 0, 4096, .inl sf1)), (w1, .inl (cs 1, 2000, .inr (.inl u1))), (spa, .inl (cs 1, 13, .inr (.inl (vp_updL g1 ly ((g1 ly) + (u1 i)))))), (aga, .inl (cs 1, 13, .inr (.inl (vp_updL g2 ly ((g2 ly) + 0))))), (ona, .inl (cs 6, 13, .inr (.inr (.inr (.inr of))))), (q, .inl (cs 1, 9, .inr (.inl g3)))]) (xV (As := [.ref ra1, .int (nI (i * 8))]) (rest := [.ref q]) C (c_X0_honestOnes l D cs ha hg hr sm ca n k al be se ea pr z1 z2 z3 nd kd lk vw kf ra1 16008 (i * 8) rf1 hn (by omega) (by decide)) kX5_171 hP hD [8, 9, 10, 11, 12] rfl (by decide) 0 rfl rfl rfl ⟨Nat.le_of_ble_eq_true rfl, Nat.le_of_ble_eq_true rfl⟩ rfl hl.1 rfl (Nat.le_of_ble_eq_true rfl) dX5_tally_134 ⟨Nat.le_of_ble_eq_true rfl, Nat.le_of_ble_eq_true rfl⟩) hP hD hS hA [8, 9, 10, 11, 12] [0, 1, 2, 3, 4, 5, 6, 7] rfl rfl (by decide) (by decide) ?_
            clear hP hD hS
            try clear locs
            try clear H
            intro r_26 u_27 H locs hw_r_26 hP hD hS
            have hw_r_26 : ∃ v, v < 2 ^ n ∧ r_26 = nI v := hw_r_26
            refine W.widen (k := 0) (n := 0) (Nat.le_of_ble_eq_true rfl) (Nat.le_of_ble_eq_true rfl) ?_
            replace hP : va_P D vwCl [(hly, .inr (5, [.ref hr, .ref ha, .ref wk, .ref hs1, .ref hs2, .ref w1, .ref w2, .int (nI dn), .int fu, .int ver, .ref spa, .ref aga, .ref ona])), (hs1, .inr (9, [.ref ra1, .ref sa1, .int (nI sz1)])), (sa1, .inl (cs 0, 4096, .inl sf1)), (w1, .inl (cs 1, 2000, .inr (.inl u1))), (spa, .inl (cs 1, 13, .inr (.inl (vp_updL g1 ly ((g1 ly) + (u1 i)))))), (aga, .inl (cs 1, 13, .inr (.inl (vp_updL g2 ly ((g2 ly) + 0))))), (ona, .inl (cs 6, 13, .inr (.inr (.inr (.inr of))))), (q, .inl (cs 1, 9, .inr (.inl g3))), (ha, .inr (0, [.ref hr, .ref hg, .int z1, .int z2, .int z3])), (hr, .inr (7, [.int (nI n), .int (nI k), .int (nI al), .int (nI be), .int ea, .int pr, .ref sm, .int (nI se), .ref ca])), (hg, .inr (4, [.ref nd, .ref kd, .ref lk, .ref vw])), (kd, .inl (cs 0, 8, .inl kf)), (ra1, .inl (cs 0, 16008, .inl rf1))] H := hP
            replace hD : va_D A [(hly, .inr (5, [.ref hr, .ref ha, .ref wk, .ref hs1, .ref hs2, .ref w1, .ref w2, .int (nI dn), .int fu, .int ver, .ref spa, .ref aga, .ref ona])), (hs1, .inr (9, [.ref ra1, .ref sa1, .int (nI sz1)])), (sa1, .inl (cs 0, 4096, .inl sf1)), (w1, .inl (cs 1, 2000, .inr (.inl u1))), (spa, .inl (cs 1, 13, .inr (.inl (vp_updL g1 ly ((g1 ly) + (u1 i)))))), (aga, .inl (cs 1, 13, .inr (.inl (vp_updL g2 ly ((g2 ly) + 0))))), (ona, .inl (cs 6, 13, .inr (.inr (.inr (.inr of))))), (q, .inl (cs 1, 9, .inr (.inl g3))), (ha, .inr (0, [.ref hr, .ref hg, .int z1, .int z2, .int z3])), (hr, .inr (7, [.int (nI n), .int (nI k), .int (nI al), .int (nI be), .int ea, .int pr, .ref sm, .int (nI se), .ref ca])), (hg, .inr (4, [.ref nd, .ref kd, .ref lk, .ref vw])), (kd, .inl (cs 0, 8, .inl kf)), (ra1, .inl (cs 0, 16008, .inl rf1))] := hD
            obtain ⟨t_28, h_t_28, e_t_28⟩ := hw_r_26
            refine lv_topi (nm_r (e' := nI t_28) e_t_28 ?_)
            refine xi (wr := [(hly, .inr (5, [.ref hr, .ref ha, .ref wk, .ref hs1, .ref hs2, .ref w1, .ref w2, .int (nI dn), .int fu, .int ver, .ref spa, .ref aga, .ref ona])), (hs1, .inr (9, [.ref ra1, .ref sa1, .int (nI sz1)])), (sa1, .inl (cs 0, 4096, .inl sf1)), (w1, .inl (cs 1, 2000, .inr (.inl u1))), (spa, .inl (cs 1, 13, .inr (.inl (vp_updL g1 ly ((g1 ly) + (u1 i)))))), (aga, .inl (cs 1, 13, .inr (.inl (vp_updL g2 ly ((g2 ly) + 0))))), (ona, .inl (cs 6, 13, .inr (.inr (.inr (.inr of))))), (q, .inl (cs 1, 9, .inr (.inl g3))), (ha, .inr (0, [.ref hr, .ref hg, .int z1, .int z2, .int z3])), (hr, .inr (7, [.int (nI n), .int (nI k), .int (nI al), .int (nI be), .int ea, .int pr, .ref sm, .int (nI se), .ref ca])), (hg, .inr (4, [.ref nd, .ref kd, .ref lk, .ref vw])), (kd, .inl (cs 0, 8, .inl kf)), (ra1, .inl (cs 0, 16008, .inl rf1))]) (xS (As := [.int (nI t_28)]) (rest := [.ref q]) C (c_J6_bitCount_0f7a4 l D cs (nI t_28)) kX5_126 hP hD [] rfl (by decide) ⟨Nat.le_of_ble_eq_true rfl, Nat.le_of_ble_eq_true rfl⟩ rfl hl.1 rfl (Nat.le_of_ble_eq_true rfl) dX5_tally_137 ⟨Nat.le_of_ble_eq_true rfl, Nat.le_of_ble_eq_true rfl⟩) hP hD hS hA [] [0, 1, 2, 3, 4, 5, 6, 7, 8, 9, 10, 11, 12] rfl rfl (by decide) (by decide) ?_
            clear hP hD hS
            try clear locs
            try clear H
            intro r_29 u_30 H locs hw_r_29 hP hD hS
            have hw_r_29 : r_29 = bcF (nI t_28) := hw_r_29
            refine W.widen (k := 0) (n := 0) (Nat.le_of_ble_eq_true rfl) (Nat.le_of_ble_eq_true rfl) ?_
            replace hP : va_P D vwCl [(hly, .inr (5, [.ref hr, .ref ha, .ref wk, .ref hs1, .ref hs2, .ref w1, .ref w2, .int (nI dn), .int fu, .int ver, .ref spa, .ref aga, .ref ona])), (hs1, .inr (9, [.ref ra1, .ref sa1, .int (nI sz1)])), (sa1, .inl (cs 0, 4096, .inl sf1)), (w1, .inl (cs 1, 2000, .inr (.inl u1))), (spa, .inl (cs 1, 13, .inr (.inl (vp_updL g1 ly ((g1 ly) + (u1 i)))))), (aga, .inl (cs 1, 13, .inr (.inl (vp_updL g2 ly ((g2 ly) + 0))))), (ona, .inl (cs 6, 13, .inr (.inr (.inr (.inr of))))), (q, .inl (cs 1, 9, .inr (.inl g3))), (ha, .inr (0, [.ref hr, .ref hg, .int z1, .int z2, .int z3])), (hr, .inr (7, [.int (nI n), .int (nI k), .int (nI al), .int (nI be), .int ea, .int pr, .ref sm, .int (nI se), .ref ca])), (hg, .inr (4, [.ref nd, .ref kd, .ref lk, .ref vw])), (kd, .inl (cs 0, 8, .inl kf)), (ra1, .inl (cs 0, 16008, .inl rf1))] H := hP
            replace hD : va_D A [(hly, .inr (5, [.ref hr, .ref ha, .ref wk, .ref hs1, .ref hs2, .ref w1, .ref w2, .int (nI dn), .int fu, .int ver, .ref spa, .ref aga, .ref ona])), (hs1, .inr (9, [.ref ra1, .ref sa1, .int (nI sz1)])), (sa1, .inl (cs 0, 4096, .inl sf1)), (w1, .inl (cs 1, 2000, .inr (.inl u1))), (spa, .inl (cs 1, 13, .inr (.inl (vp_updL g1 ly ((g1 ly) + (u1 i)))))), (aga, .inl (cs 1, 13, .inr (.inl (vp_updL g2 ly ((g2 ly) + 0))))), (ona, .inl (cs 6, 13, .inr (.inr (.inr (.inr of))))), (q, .inl (cs 1, 9, .inr (.inl g3))), (ha, .inr (0, [.ref hr, .ref hg, .int z1, .int z2, .int z3])), (hr, .inr (7, [.int (nI n), .int (nI k), .int (nI al), .int (nI be), .int ea, .int pr, .ref sm, .int (nI se), .ref ca])), (hg, .inr (4, [.ref nd, .ref kd, .ref lk, .ref vw])), (kd, .inl (cs 0, 8, .inl kf)), (ra1, .inl (cs 0, 16008, .inl rf1))] := hD
            refine lv_topi (nm_r (e' := bcF (nI t_28)) hw_r_29 ?_)
            obtain ⟨t_31, h_t_31, e_t_31⟩ := bc_256 t_28 (by omega)
            refine lv_topi (nm_r (e' := nI t_31) e_t_31 ?_)
            refine lv_dup2_11 hx hb dX5_tally_140 rfl rfl ?_
            refine xlald C hP 7 rfl t_31 rfl (by omega) (by decide) dX5_tally_141 ?_
            refine lv_aload_n hx hb dX5_tally_142 rfl (lv_at hl 2 rfl) ?_
            refine xget C hP 0 rfl rfl zuX5 5 (by decide) zw2_46 rfl dX5_tally_143 ?_
            refine lv_iload_n hx hb dX5_tally_146 rfl (lv_at hl 1 rfl) ?_
            refine xlald C hP 3 rfl i rfl (by omega) (by decide) dX5_tally_147 ?_
            refine lv_ladd hx hb dX5_tally_148 ?_
            refine xlast C hP hD hS 7 rfl t_31 rfl (by omega) (by decide) dX5_tally_149 ?_
            clear hP hD hS
            try clear locs
            try clear H
            intro H locs hP hD hS
            replace hP : va_P D vwCl [(hly, .inr (5, [.ref hr, .ref ha, .ref wk, .ref hs1, .ref hs2, .ref w1, .ref w2, .int (nI dn), .int fu, .int ver, .ref spa, .ref aga, .ref ona])), (hs1, .inr (9, [.ref ra1, .ref sa1, .int (nI sz1)])), (sa1, .inl (cs 0, 4096, .inl sf1)), (w1, .inl (cs 1, 2000, .inr (.inl u1))), (spa, .inl (cs 1, 13, .inr (.inl (vp_updL g1 ly ((g1 ly) + (u1 i)))))), (aga, .inl (cs 1, 13, .inr (.inl (vp_updL g2 ly ((g2 ly) + 0))))), (ona, .inl (cs 6, 13, .inr (.inr (.inr (.inr of))))), (q, .inl (cs 1, 9, .inr (.inl (vp_updL g3 t_31 ((g3 t_31) + (u1 i)))))), (ha, .inr (0, [.ref hr, .ref hg, .int z1, .int z2, .int z3])), (hr, .inr (7, [.int (nI n), .int (nI k), .int (nI al), .int (nI be), .int ea, .int pr, .ref sm, .int (nI se), .ref ca])), (hg, .inr (4, [.ref nd, .ref kd, .ref lk, .ref vw])), (kd, .inl (cs 0, 8, .inl kf)), (ra1, .inl (cs 0, 16008, .inl rf1))] H := hP
            replace hD : va_D A [(hly, .inr (5, [.ref hr, .ref ha, .ref wk, .ref hs1, .ref hs2, .ref w1, .ref w2, .int (nI dn), .int fu, .int ver, .ref spa, .ref aga, .ref ona])), (hs1, .inr (9, [.ref ra1, .ref sa1, .int (nI sz1)])), (sa1, .inl (cs 0, 4096, .inl sf1)), (w1, .inl (cs 1, 2000, .inr (.inl u1))), (spa, .inl (cs 1, 13, .inr (.inl (vp_updL g1 ly ((g1 ly) + (u1 i)))))), (aga, .inl (cs 1, 13, .inr (.inl (vp_updL g2 ly ((g2 ly) + 0))))), (ona, .inl (cs 6, 13, .inr (.inr (.inr (.inr of))))), (q, .inl (cs 1, 9, .inr (.inl (vp_updL g3 t_31 ((g3 t_31) + (u1 i)))))), (ha, .inr (0, [.ref hr, .ref hg, .int z1, .int z2, .int z3])), (hr, .inr (7, [.int (nI n), .int (nI k), .int (nI al), .int (nI be), .int ea, .int pr, .ref sm, .int (nI se), .ref ca])), (hg, .inr (4, [.ref nd, .ref kd, .ref lk, .ref vw])), (kd, .inl (cs 0, 8, .inl kf)), (ra1, .inl (cs 0, 16008, .inl rf1))] := hD
            refine lv_iinc (v := nI (i + 1)) (lv' := [(2, .int (nI (i + 1))), (3, .int (nI (i * 8))), (0, .ref hly), (1, .int (nI ly))]) hx hb dX5_tally_150 hl (k := 1) rfl (nI_add i 1) (by decide) rfl ?_
            clear hl
            try clear ls
            intro ls hl
            refine lv_goto (tgt := 26) hx hb dX5_tally_153 (by decide) ?_
            exact ih_loop_3 (i + 1) (vp_updL g1 ly ((g1 ly) + (u1 i))) (vp_updL g2 ly ((g2 ly) + 0)) (vp_updL g3 t_31 ((g3 t_31) + (u1 i))) (by omega) (by omega) H locs ls (xP_map hP [0, 8, 9, 1, 12, 2, 3, 4, 5, 6, 10, 11, 7] rfl) (hD.sub [0, 8, 9, 1, 12, 2, 3, 4, 5, 6, 10, 11, 7] (by decide) rfl) hS (lv_sub hl [0, 2, 3] rfl)
          · -- 101 f
            refine lv_aload_n hx hb dX5_tally_104 rfl (lv_at hl 2 rfl) ?_
            refine xget C hP 0 rfl rfl zuX5 5 (by decide) zw2_46 rfl dX5_tally_105 ?_
            refine lv_iload_n hx hb dX5_tally_108 rfl (lv_at hl 1 rfl) ?_
            refine xlald C hP 3 rfl i rfl (by omega) (by decide) dX5_tally_109 ?_
            refine lv_goto (tgt := 114) hx hb dX5_tally_110 (by decide) ?_
            refine lv_ladd hx hb dX5_tally_114 ?_
            refine xlast C hP hD hS 5 rfl ly rfl (by omega) (by decide) dX5_tally_115 ?_
            clear hP hD hS
            try clear locs
            try clear H
            intro H locs hP hD hS
            replace hP : va_P D vwCl [(hly, .inr (5, [.ref hr, .ref ha, .ref wk, .ref hs1, .ref hs2, .ref w1, .ref w2, .int (nI dn), .int fu, .int ver, .ref spa, .ref aga, .ref ona])), (hs1, .inr (9, [.ref ra1, .ref sa1, .int (nI sz1)])), (sa1, .inl (cs 0, 4096, .inl sf1)), (w1, .inl (cs 1, 2000, .inr (.inl u1))), (spa, .inl (cs 1, 13, .inr (.inl (vp_updL g1 ly ((g1 ly) + (u1 i)))))), (aga, .inl (cs 1, 13, .inr (.inl (vp_updL g2 ly ((g2 ly) + (u1 i)))))), (ona, .inl (cs 6, 13, .inr (.inr (.inr (.inr of))))), (q, .inl (cs 1, 9, .inr (.inl g3))), (ha, .inr (0, [.ref hr, .ref hg, .int z1, .int z2, .int z3])), (hr, .inr (7, [.int (nI n), .int (nI k), .int (nI al), .int (nI be), .int ea, .int pr, .ref sm, .int (nI se), .ref ca])), (hg, .inr (4, [.ref nd, .ref kd, .ref lk, .ref vw])), (kd, .inl (cs 0, 8, .inl kf)), (ra1, .inl (cs 0, 16008, .inl rf1))] H := hP
            replace hD : va_D A [(hly, .inr (5, [.ref hr, .ref ha, .ref wk, .ref hs1, .ref hs2, .ref w1, .ref w2, .int (nI dn), .int fu, .int ver, .ref spa, .ref aga, .ref ona])), (hs1, .inr (9, [.ref ra1, .ref sa1, .int (nI sz1)])), (sa1, .inl (cs 0, 4096, .inl sf1)), (w1, .inl (cs 1, 2000, .inr (.inl u1))), (spa, .inl (cs 1, 13, .inr (.inl (vp_updL g1 ly ((g1 ly) + (u1 i)))))), (aga, .inl (cs 1, 13, .inr (.inl (vp_updL g2 ly ((g2 ly) + (u1 i)))))), (ona, .inl (cs 6, 13, .inr (.inr (.inr (.inr of))))), (q, .inl (cs 1, 9, .inr (.inl g3))), (ha, .inr (0, [.ref hr, .ref hg, .int z1, .int z2, .int z3])), (hr, .inr (7, [.int (nI n), .int (nI k), .int (nI al), .int (nI be), .int ea, .int pr, .ref sm, .int (nI se), .ref ca])), (hg, .inr (4, [.ref nd, .ref kd, .ref lk, .ref vw])), (kd, .inl (cs 0, 8, .inl kf)), (ra1, .inl (cs 0, 16008, .inl rf1))] := hD
            refine lv_aload_n hx hb dX5_tally_116 rfl (lv_at hl 2 rfl) ?_
            refine xget C hP 0 rfl rfl zuX5 12 (by decide) zw2_55 rfl dX5_tally_117 ?_
            refine lv_iload_n hx hb dX5_tally_120 rfl (lv_at hl 3 rfl) ?_
            refine xaald C hP 6 6 rfl rfl rfl ly rfl (by omega) (by decide) hof dX5_tally_121 ?_
            refine lv_aload_n hx hb dX5_tally_122 rfl (lv_at hl 2 rfl) ?_
            refine xget C hP 0 rfl rfl zuX5 1 (by decide) zw2_42 rfl dX5_tally_123 ?_
            refine lv_aload_n hx hb dX5_tally_126 rfl (lv_at hl 2 rfl) ?_
            refine xget C hP 0 rfl rfl zuX5 3 (by decide) zw2_44 rfl dX5_tally_127 ?_
            refine xget C hP 1 rfl rfl zuX9 0 (by decide) zw3_171 rfl dX5_tally_130 ?_
            refine lv_iload_n hx hb dX5_tally_133 rfl (lv_at hl 0 rfl) ?_
            refine xi (wr := [(hly, .inr (5, [.ref hr, .ref ha, .ref wk, .ref hs1, .ref hs2, .ref w1, .ref w2, .int (nI dn), .int fu, .int ver, .ref spa, .ref aga, .ref ona])), (hs1, .inr (9, [.ref ra1, .ref sa1, .int (nI sz1)])), (sa1, .inl (cs 0, 4096, .inl sf1)), (w1, .inl (cs 1, 2000, .inr (.inl u1))), (spa, .inl (cs 1, 13, .inr (.inl (vp_updL g1 ly ((g1 ly) + (u1 i)))))), (aga, .inl (cs 1, 13, .inr (.inl (vp_updL g2 ly ((g2 ly) + (u1 i)))))), (ona, .inl (cs 6, 13, .inr (.inr (.inr (.inr of))))), (q, .inl (cs 1, 9, .inr (.inl g3)))]) (xV (As := [.ref ra1, .int (nI (i * 8))]) (rest := [.ref q]) C (c_X0_honestOnes l D cs ha hg hr sm ca n k al be se ea pr z1 z2 z3 nd kd lk vw kf ra1 16008 (i * 8) rf1 hn (by omega) (by decide)) kX5_171 hP hD [8, 9, 10, 11, 12] rfl (by decide) 0 rfl rfl rfl ⟨Nat.le_of_ble_eq_true rfl, Nat.le_of_ble_eq_true rfl⟩ rfl hl.1 rfl (Nat.le_of_ble_eq_true rfl) dX5_tally_134 ⟨Nat.le_of_ble_eq_true rfl, Nat.le_of_ble_eq_true rfl⟩) hP hD hS hA [8, 9, 10, 11, 12] [0, 1, 2, 3, 4, 5, 6, 7] rfl rfl (by decide) (by decide) ?_
            clear hP hD hS
            try clear locs
            try clear H
            intro r_32 u_33 H locs hw_r_32 hP hD hS
            have hw_r_32 : ∃ v, v < 2 ^ n ∧ r_32 = nI v := hw_r_32
            refine W.widen (k := 0) (n := 0) (Nat.le_of_ble_eq_true rfl) (Nat.le_of_ble_eq_true rfl) ?_
            replace hP : va_P D vwCl [(hly, .inr (5, [.ref hr, .ref ha, .ref wk, .ref hs1, .ref hs2, .ref w1, .ref w2, .int (nI dn), .int fu, .int ver, .ref spa, .ref aga, .ref ona])), (hs1, .inr (9, [.ref ra1, .ref sa1, .int (nI sz1)])), (sa1, .inl (cs 0, 4096, .inl sf1)), (w1, .inl (cs 1, 2000, .inr (.inl u1))), (spa, .inl (cs 1, 13, .inr (.inl (vp_updL g1 ly ((g1 ly) + (u1 i)))))), (aga, .inl (cs 1, 13, .inr (.inl (vp_updL g2 ly ((g2 ly) + (u1 i)))))), (ona, .inl (cs 6, 13, .inr (.inr (.inr (.inr of))))), (q, .inl (cs 1, 9, .inr (.inl g3))), (ha, .inr (0, [.ref hr, .ref hg, .int z1, .int z2, .int z3])), (hr, .inr (7, [.int (nI n), .int (nI k), .int (nI al), .int (nI be), .int ea, .int pr, .ref sm, .int (nI se), .ref ca])), (hg, .inr (4, [.ref nd, .ref kd, .ref lk, .ref vw])), (kd, .inl (cs 0, 8, .inl kf)), (ra1, .inl (cs 0, 16008, .inl rf1))] H := hP
            replace hD : va_D A [(hly, .inr (5, [.ref hr, .ref ha, .ref wk, .ref hs1, .ref hs2, .ref w1, .ref w2, .int (nI dn), .int fu, .int ver, .ref spa, .ref aga, .ref ona])), (hs1, .inr (9, [.ref ra1, .ref sa1, .int (nI sz1)])), (sa1, .inl (cs 0, 4096, .inl sf1)), (w1, .inl (cs 1, 2000, .inr (.inl u1))), (spa, .inl (cs 1, 13, .inr (.inl (vp_updL g1 ly ((g1 ly) + (u1 i)))))), (aga, .inl (cs 1, 13, .inr (.inl (vp_updL g2 ly ((g2 ly) + (u1 i)))))), (ona, .inl (cs 6, 13, .inr (.inr (.inr (.inr of))))), (q, .inl (cs 1, 9, .inr (.inl g3))), (ha, .inr (0, [.ref hr, .ref hg, .int z1, .int z2, .int z3])), (hr, .inr (7, [.int (nI n), .int (nI k), .int (nI al), .int (nI be), .int ea, .int pr, .ref sm, .int (nI se), .ref ca])), (hg, .inr (4, [.ref nd, .ref kd, .ref lk, .ref vw])), (kd, .inl (cs 0, 8, .inl kf)), (ra1, .inl (cs 0, 16008, .inl rf1))] := hD
            obtain ⟨t_34, h_t_34, e_t_34⟩ := hw_r_32
            refine lv_topi (nm_r (e' := nI t_34) e_t_34 ?_)
            refine xi (wr := [(hly, .inr (5, [.ref hr, .ref ha, .ref wk, .ref hs1, .ref hs2, .ref w1, .ref w2, .int (nI dn), .int fu, .int ver, .ref spa, .ref aga, .ref ona])), (hs1, .inr (9, [.ref ra1, .ref sa1, .int (nI sz1)])), (sa1, .inl (cs 0, 4096, .inl sf1)), (w1, .inl (cs 1, 2000, .inr (.inl u1))), (spa, .inl (cs 1, 13, .inr (.inl (vp_updL g1 ly ((g1 ly) + (u1 i)))))), (aga, .inl (cs 1, 13, .inr (.inl (vp_updL g2 ly ((g2 ly) + (u1 i)))))), (ona, .inl (cs 6, 13, .inr (.inr (.inr (.inr of))))), (q, .inl (cs 1, 9, .inr (.inl g3))), (ha, .inr (0, [.ref hr, .ref hg, .int z1, .int z2, .int z3])), (hr, .inr (7, [.int (nI n), .int (nI k), .int (nI al), .int (nI be), .int ea, .int pr, .ref sm, .int (nI se), .ref ca])), (hg, .inr (4, [.ref nd, .ref kd, .ref lk, .ref vw])), (kd, .inl (cs 0, 8, .inl kf)), (ra1, .inl (cs 0, 16008, .inl rf1))]) (xS (As := [.int (nI t_34)]) (rest := [.ref q]) C (c_J6_bitCount_0f7a4 l D cs (nI t_34)) kX5_126 hP hD [] rfl (by decide) ⟨Nat.le_of_ble_eq_true rfl, Nat.le_of_ble_eq_true rfl⟩ rfl hl.1 rfl (Nat.le_of_ble_eq_true rfl) dX5_tally_137 ⟨Nat.le_of_ble_eq_true rfl, Nat.le_of_ble_eq_true rfl⟩) hP hD hS hA [] [0, 1, 2, 3, 4, 5, 6, 7, 8, 9, 10, 11, 12] rfl rfl (by decide) (by decide) ?_
            clear hP hD hS
            try clear locs
            try clear H
            intro r_35 u_36 H locs hw_r_35 hP hD hS
            have hw_r_35 : r_35 = bcF (nI t_34) := hw_r_35
            refine W.widen (k := 0) (n := 0) (Nat.le_of_ble_eq_true rfl) (Nat.le_of_ble_eq_true rfl) ?_
            replace hP : va_P D vwCl [(hly, .inr (5, [.ref hr, .ref ha, .ref wk, .ref hs1, .ref hs2, .ref w1, .ref w2, .int (nI dn), .int fu, .int ver, .ref spa, .ref aga, .ref ona])), (hs1, .inr (9, [.ref ra1, .ref sa1, .int (nI sz1)])), (sa1, .inl (cs 0, 4096, .inl sf1)), (w1, .inl (cs 1, 2000, .inr (.inl u1))), (spa, .inl (cs 1, 13, .inr (.inl (vp_updL g1 ly ((g1 ly) + (u1 i)))))), (aga, .inl (cs 1, 13, .inr (.inl (vp_updL g2 ly ((g2 ly) + (u1 i)))))), (ona, .inl (cs 6, 13, .inr (.inr (.inr (.inr of))))), (q, .inl (cs 1, 9, .inr (.inl g3))), (ha, .inr (0, [.ref hr, .ref hg, .int z1, .int z2, .int z3])), (hr, .inr (7, [.int (nI n), .int (nI k), .int (nI al), .int (nI be), .int ea, .int pr, .ref sm, .int (nI se), .ref ca])), (hg, .inr (4, [.ref nd, .ref kd, .ref lk, .ref vw])), (kd, .inl (cs 0, 8, .inl kf)), (ra1, .inl (cs 0, 16008, .inl rf1))] H := hP
            replace hD : va_D A [(hly, .inr (5, [.ref hr, .ref ha, .ref wk, .ref hs1, .ref hs2, .ref w1, .ref w2, .int (nI dn), .int fu, .int ver, .ref spa, .ref aga, .ref ona])), (hs1, .inr (9, [.ref ra1, .ref sa1, .int (nI sz1)])), (sa1, .inl (cs 0, 4096, .inl sf1)), (w1, .inl (cs 1, 2000, .inr (.inl u1))), (spa, .inl (cs 1, 13, .inr (.inl (vp_updL g1 ly ((g1 ly) + (u1 i)))))), (aga, .inl (cs 1, 13, .inr (.inl (vp_updL g2 ly ((g2 ly) + (u1 i)))))), (ona, .inl (cs 6, 13, .inr (.inr (.inr (.inr of))))), (q, .inl (cs 1, 9, .inr (.inl g3))), (ha, .inr (0, [.ref hr, .ref hg, .int z1, .int z2, .int z3])), (hr, .inr (7, [.int (nI n), .int (nI k), .int (nI al), .int (nI be), .int ea, .int pr, .ref sm, .int (nI se), .ref ca])), (hg, .inr (4, [.ref nd, .ref kd, .ref lk, .ref vw])), (kd, .inl (cs 0, 8, .inl kf)), (ra1, .inl (cs 0, 16008, .inl rf1))] := hD
            refine lv_topi (nm_r (e' := bcF (nI t_34)) hw_r_35 ?_)
            obtain ⟨t_37, h_t_37, e_t_37⟩ := bc_256 t_34 (by omega)
            refine lv_topi (nm_r (e' := nI t_37) e_t_37 ?_)
            refine lv_dup2_11 hx hb dX5_tally_140 rfl rfl ?_
            refine xlald C hP 7 rfl t_37 rfl (by omega) (by decide) dX5_tally_141 ?_
            refine lv_aload_n hx hb dX5_tally_142 rfl (lv_at hl 2 rfl) ?_
            refine xget C hP 0 rfl rfl zuX5 5 (by decide) zw2_46 rfl dX5_tally_143 ?_
            refine lv_iload_n hx hb dX5_tally_146 rfl (lv_at hl 1 rfl) ?_
            refine xlald C hP 3 rfl i rfl (by omega) (by decide) dX5_tally_147 ?_
            refine lv_ladd hx hb dX5_tally_148 ?_
            refine xlast C hP hD hS 7 rfl t_37 rfl (by omega) (by decide) dX5_tally_149 ?_
            clear hP hD hS
            try clear locs
            try clear H
            intro H locs hP hD hS
            replace hP : va_P D vwCl [(hly, .inr (5, [.ref hr, .ref ha, .ref wk, .ref hs1, .ref hs2, .ref w1, .ref w2, .int (nI dn), .int fu, .int ver, .ref spa, .ref aga, .ref ona])), (hs1, .inr (9, [.ref ra1, .ref sa1, .int (nI sz1)])), (sa1, .inl (cs 0, 4096, .inl sf1)), (w1, .inl (cs 1, 2000, .inr (.inl u1))), (spa, .inl (cs 1, 13, .inr (.inl (vp_updL g1 ly ((g1 ly) + (u1 i)))))), (aga, .inl (cs 1, 13, .inr (.inl (vp_updL g2 ly ((g2 ly) + (u1 i)))))), (ona, .inl (cs 6, 13, .inr (.inr (.inr (.inr of))))), (q, .inl (cs 1, 9, .inr (.inl (vp_updL g3 t_37 ((g3 t_37) + (u1 i)))))), (ha, .inr (0, [.ref hr, .ref hg, .int z1, .int z2, .int z3])), (hr, .inr (7, [.int (nI n), .int (nI k), .int (nI al), .int (nI be), .int ea, .int pr, .ref sm, .int (nI se), .ref ca])), (hg, .inr (4, [.ref nd, .ref kd, .ref lk, .ref vw])), (kd, .inl (cs 0, 8, .inl kf)), (ra1, .inl (cs 0, 16008, .inl rf1))] H := hP
            replace hD : va_D A [(hly, .inr (5, [.ref hr, .ref ha, .ref wk, .ref hs1, .ref hs2, .ref w1, .ref w2, .int (nI dn), .int fu, .int ver, .ref spa, .ref aga, .ref ona])), (hs1, .inr (9, [.ref ra1, .ref sa1, .int (nI sz1)])), (sa1, .inl (cs 0, 4096, .inl sf1)), (w1, .inl (cs 1, 2000, .inr (.inl u1))), (spa, .inl (cs 1, 13, .inr (.inl (vp_updL g1 ly ((g1 ly) + (u1 i)))))), (aga, .inl (cs 1, 13, .inr (.inl (vp_updL g2 ly ((g2 ly) + (u1 i)))))), (ona, .inl (cs 6, 13, .inr (.inr (.inr (.inr of))))), (q, .inl (cs 1, 9, .inr (.inl (vp_updL g3 t_37 ((g3 t_37) + (u1 i)))))), (ha, .inr (0, [.ref hr, .ref hg, .int z1, .int z2, .int z3])), (hr, .inr (7, [.int (nI n), .int (nI k), .int (nI al), .int (nI be), .int ea, .int pr, .ref sm, .int (nI se), .ref ca])), (hg, .inr (4, [.ref nd, .ref kd, .ref lk, .ref vw])), (kd, .inl (cs 0, 8, .inl kf)), (ra1, .inl (cs 0, 16008, .inl rf1))] := hD
            refine lv_iinc (v := nI (i + 1)) (lv' := [(2, .int (nI (i + 1))), (3, .int (nI (i * 8))), (0, .ref hly), (1, .int (nI ly))]) hx hb dX5_tally_150 hl (k := 1) rfl (nI_add i 1) (by decide) rfl ?_
            clear hl
            try clear ls
            intro ls hl
            refine lv_goto (tgt := 26) hx hb dX5_tally_153 (by decide) ?_
            exact ih_loop_3 (i + 1) (vp_updL g1 ly ((g1 ly) + (u1 i))) (vp_updL g2 ly ((g2 ly) + (u1 i))) (vp_updL g3 t_37 ((g3 t_37) + (u1 i))) (by omega) (by omega) H locs ls (xP_map hP [0, 8, 9, 1, 12, 2, 3, 4, 5, 6, 10, 11, 7] rfl) (hD.sub [0, 8, 9, 1, 12, 2, 3, 4, 5, 6, 10, 11, 7] (by decide) rfl) hS (lv_sub hl [0, 2, 3] rfl)
  exact loop_3 _ 0 (vp_updL sp ly 0) (vp_updL ag ly 0) (fun _ => 0) (by omega) (Nat.lt_succ_self _) H locs ls hP hD hS (lv_sub hl [0, 1, 2] rfl)
