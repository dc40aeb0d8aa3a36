set_option maxHeartbeats 4000000 in
set_option maxRecDepth 100000 in
theorem c_X0_init_z (l : Launch) (D : va_G) (cs : Nat → ClassId) (ha hr hg : Nat) : xMet l D cs yX0_init cX0_init 3 none ({ frames := 1, cells := 0, slots := 0, locals := 20 } : Room) [.ref ha, .ref hr, .ref hg] [(ha, .inr (0, [.null, .null, .int 0, .int 0, .int 0]))] (xQv D (fun (_u : Unit) => True) (fun (_u : Unit) => [(ha, .inr (0, [.ref hr, .ref hg, .int (nI 0), .int (nI 0), .int (nI 0)]))])) := by
  refine xMet.intro (by decide) (Nat.le_of_ble_eq_true rfl) ?_
  intro p e s m args below meth c A ls C hP hD hS hl
  have hx := C.1
  have hb := C.2.1
  have hz := C.2.2.2.2.1
  have hown := C.2.2.2.1
  have hA := C.2.2.2.2.2.2.2.2.2
  have hAO := C.2.2.2.2.2.2.2.2.1.2.2
  have hl : lv_has ls 3 [(0, .ref ha), (1, .ref hr), (2, .ref hg)] := hl
  obtain ⟨H, hH⟩ : ∃ H, H = s.heap := ⟨_, rfl⟩
  have hP : va_P D vwCl [(ha, .inr (0, [.null, .null, .int 0, .int 0, .int 0]))] H := by rw [hH]; exact hP
  have hS : va_S A s.heap H [] := by rw [hH]; exact hS
  obtain ⟨locs, hlocs⟩ : ∃ z : List Loc, z = [] := ⟨_, rfl⟩
  rw [← hlocs] at hS
  suffices hW : W p l e ({ frames := 1, cells := 0, slots := 0, locals := 20 } : Room) s m args below meth c H locs 0 0 (MQ below ((xQv D (fun (_u : Unit) => True) (fun (_u : Unit) => [(ha, .inr (0, [.ref hr, .ref hg, .int (nI 0), .int (nI 0), .int (nI 0)]))])) A) args s 0 0 A) (F0 m 0 ls []) by rw [hlocs, hH] at hW; exact hW
  refine lv_aload_n hx hb dX0_init_0 rfl (lv_at hl 0 rfl) ?_
  refine W.objInit hx hb hown (hz _ zw1_236) (hz _ zw1_30) (hz _ zw1_31) rfl (by rw [C.2.2.1]; exact hl.1) rfl dX0_init_1 (Nat.le_of_ble_eq_true rfl) (Nat.le_of_ble_eq_true rfl) ?_
  refine W.eq (g2 := F0 m 4 ls []) rfl ?_
  refine lv_aload_n hx hb dX0_init_4 rfl (lv_at hl 0 rfl) ?_
  refine lv_aload_n hx hb dX0_init_5 rfl (lv_at hl 1 rfl) ?_
  refine xputF C hP hD hS 0 rfl rfl zuX0 tyX0 tyX0_ok nmX0 0 (by decide) zw1_237 rfl rfl rfl rfl rfl (Nat.le_of_ble_eq_true rfl) dX0_init_6 (fun H locs hP hD hS => ?_)
  have hP : va_P D vwCl [(ha, .inr (0, [.ref hr, .null, .int 0, .int 0, .int 0]))] H := hP
  have hD : va_D A [(ha, .inr (0, [.ref hr, .null, .int 0, .int 0, .int 0]))] := hD
  refine lv_aload_n hx hb dX0_init_9 rfl (lv_at hl 0 rfl) ?_
  refine lv_aload_n hx hb dX0_init_10 rfl (lv_at hl 2 rfl) ?_
  refine xputF C hP hD hS 0 rfl rfl zuX0 tyX0 tyX0_ok nmX0 1 (by decide) zw1_238 rfl rfl rfl rfl rfl (Nat.le_of_ble_eq_true rfl) dX0_init_11 (fun H locs hP hD hS => ?_)
  have hP : va_P D vwCl [(ha, .inr (0, [.ref hr, .ref hg, .int 0, .int 0, .int 0]))] H := hP
  have hD : va_D A [(ha, .inr (0, [.ref hr, .ref hg, .int 0, .int 0, .int 0]))] := hD
  exact xretv C () trivial hP hD hS (Nat.le_of_ble_eq_true rfl) (Nat.le_of_ble_eq_true rfl) dX0_init_14

set_option maxHeartbeats 4000000 in
set_option maxRecDepth 100000 in
theorem c_X0_listen_z (l : Launch) (D : va_G) (cs : Nat → ClassId) (ha hr hg sm ca nd kd lk vw k al be : Nat) (z1 z2 z3 ea pr : Int32) (a nn b i : Nat) (hi : i < 8) (hb : b + i < nn) (hn : nn < 2 ^ 20) : xMet l D cs yX0_listen cX0_listen 7 (some .boolean) ({ frames := 1, cells := 0, slots := 0, locals := 20 } : Room) [.ref ha, .ref a, .int (nI b), .int (nI i)] [(ha, .inr (0, [.ref hr, .ref hg, .int z1, .int z2, .int z3])), (hr, .inr (7, [.int (nI 4), .int (nI k), .int (nI al), .int (nI be), .int ea, .int pr, .ref sm, .int (nI 3), .ref ca])), (hg, .inr (4, [.ref nd, .ref kd, .ref lk, .ref vw])), (kd, .inl (cs 0, 8, .inl (fun _ => nI 0))), (a, .inl (cs 0, nn, .inl (fun _ => nI 0)))] (xQi D (fun (r : Int32) (_u : Unit) => r = nI 0) (fun (_u : Unit) => [(ha, .inr (0, [.ref hr, .ref hg, .int (nI 0), .int (nI 0), .int (nI 0)])), (hr, .inr (7, [.int (nI 4), .int (nI k), .int (nI al), .int (nI be), .int ea, .int pr, .ref sm, .int (nI 3), .ref ca])), (hg, .inr (4, [.ref nd, .ref kd, .ref lk, .ref vw])), (kd, .inl (cs 0, 8, .inl (fun _ => nI 0))), (a, .inl (cs 0, nn, .inl (fun _ => nI 0)))])) := by
  refine xMet.intro (by decide) (Nat.le_of_ble_eq_true rfl) ?_
  intro p e s m args below meth c A ls C hP hD hS hl
  have hx := C.1
  have hb := C.2.1
  have hz := C.2.2.2.2.1
  have hown := C.2.2.2.1
  have hA := C.2.2.2.2.2.2.2.2.2
  have hAO := C.2.2.2.2.2.2.2.2.1.2.2
  have hl : lv_has ls 7 [(0, .ref ha), (1, .ref a), (2, .int (nI b)), (3, .int (nI i))] := hl
  obtain ⟨H, hH⟩ : ∃ H, H = s.heap := ⟨_, rfl⟩
  have hP : va_P D vwCl [(ha, .inr (0, [.ref hr, .ref hg, .int z1, .int z2, .int z3])), (hr, .inr (7, [.int (nI 4), .int (nI k), .int (nI al), .int (nI be), .int ea, .int pr, .ref sm, .int (nI 3), .ref ca])), (hg, .inr (4, [.ref nd, .ref kd, .ref lk, .ref vw])), (kd, .inl (cs 0, 8, .inl (fun _ => nI 0))), (a, .inl (cs 0, nn, .inl (fun _ => nI 0)))] H := by rw [hH]; exact hP
  have hS : va_S A s.heap H [] := by rw [hH]; exact hS
  obtain ⟨locs, hlocs⟩ : ∃ z : List Loc, z = [] := ⟨_, rfl⟩
  rw [← hlocs] at hS
  suffices hW : W p l e ({ frames := 1, cells := 0, slots := 0, locals := 20 } : Room) s m args below meth c H locs 0 0 (MQ below ((xQi D (fun (r : Int32) (_u : Unit) => r = nI 0) (fun (_u : Unit) => [(ha, .inr (0, [.ref hr, .ref hg, .int (nI 0), .int (nI 0), .int (nI 0)])), (hr, .inr (7, [.int (nI 4), .int (nI k), .int (nI al), .int (nI be), .int ea, .int pr, .ref sm, .int (nI 3), .ref ca])), (hg, .inr (4, [.ref nd, .ref kd, .ref lk, .ref vw])), (kd, .inl (cs 0, 8, .inl (fun _ => nI 0))), (a, .inl (cs 0, nn, .inl (fun _ => nI 0)))])) A) args s 0 0 A) (F0 m 0 ls []) by rw [hlocs, hH] at hW; exact hW
  refine lv_aload_n hx hb dX0_listen_0 rfl (lv_at hl 0 rfl) ?_
  refine lv_iconst (v := nI 0) hx hb dX0_listen_1 (by decide) ?_
  refine xput C hP hD hS 0 rfl rfl zuX0 tyX0 tyX0_ok nmX0 2 (by decide) zw1_239 rfl rfl rfl (Nat.le_of_ble_eq_true rfl) dX0_listen_2 (fun H locs hP hD hS => ?_)
  have hP : va_P D vwCl [(ha, .inr (0, [.ref hr, .ref hg, .int (nI 0), .int z2, .int z3])), (hr, .inr (7, [.int (nI 4), .int (nI k), .int (nI al), .int (nI be), .int ea, .int pr, .ref sm, .int (nI 3), .ref ca])), (hg, .inr (4, [.ref nd, .ref kd, .ref lk, .ref vw])), (kd, .inl (cs 0, 8, .inl (fun _ => nI 0))), (a, .inl (cs 0, nn, .inl (fun _ => nI 0)))] H := hP
  have hD : va_D A [(ha, .inr (0, [.ref hr, .ref hg, .int (nI 0), .int z2, .int z3])), (hr, .inr (7, [.int (nI 4), .int (nI k), .int (nI al), .int (nI be), .int ea, .int pr, .ref sm, .int (nI 3), .ref ca])), (hg, .inr (4, [.ref nd, .ref kd, .ref lk, .ref vw])), (kd, .inl (cs 0, 8, .inl (fun _ => nI 0))), (a, .inl (cs 0, nn, .inl (fun _ => nI 0)))] := hD
  refine lv_aload_n hx hb dX0_listen_5 rfl (lv_at hl 0 rfl) ?_
  refine lv_iconst (v := nI 0) hx hb dX0_listen_6 (by decide) ?_
  refine xput C hP hD hS 0 rfl rfl zuX0 tyX0 tyX0_ok nmX0 3 (by decide) zw2_1 rfl rfl rfl (Nat.le_of_ble_eq_true rfl) dX0_listen_7 (fun H locs hP hD hS => ?_)
  have hP : va_P D vwCl [(ha, .inr (0, [.ref hr, .ref hg, .int (nI 0), .int (nI 0), .int z3])), (hr, .inr (7, [.int (nI 4), .int (nI k), .int (nI al), .int (nI be), .int ea, .int pr, .ref sm, .int (nI 3), .ref ca])), (hg, .inr (4, [.ref nd, .ref kd, .ref lk, .ref vw])), (kd, .inl (cs 0, 8, .inl (fun _ => nI 0))), (a, .inl (cs 0, nn, .inl (fun _ => nI 0)))] H := hP
  have hD : va_D A [(ha, .inr (0, [.ref hr, .ref hg, .int (nI 0), .int (nI 0), .int z3])), (hr, .inr (7, [.int (nI 4), .int (nI k), .int (nI al), .int (nI be), .int ea, .int pr, .ref sm, .int (nI 3), .ref ca])), (hg, .inr (4, [.ref nd, .ref kd, .ref lk, .ref vw])), (kd, .inl (cs 0, 8, .inl (fun _ => nI 0))), (a, .inl (cs 0, nn, .inl (fun _ => nI 0)))] := hD
  refine lv_aload_n hx hb dX0_listen_10 rfl (lv_at hl 0 rfl) ?_
  refine lv_iconst (v := nI 0) hx hb dX0_listen_11 (by decide) ?_
  refine xput C hP hD hS 0 rfl rfl zuX0 tyX0 tyX0_ok nmX0 4 (by decide) zw2_3 rfl rfl rfl (Nat.le_of_ble_eq_true rfl) dX0_listen_12 (fun H locs hP hD hS => ?_)
  have hP : va_P D vwCl [(ha, .inr (0, [.ref hr, .ref hg, .int (nI 0), .int (nI 0), .int (nI 0)])), (hr, .inr (7, [.int (nI 4), .int (nI k), .int (nI al), .int (nI be), .int ea, .int pr, .ref sm, .int (nI 3), .ref ca])), (hg, .inr (4, [.ref nd, .ref kd, .ref lk, .ref vw])), (kd, .inl (cs 0, 8, .inl (fun _ => nI 0))), (a, .inl (cs 0, nn, .inl (fun _ => nI 0)))] H := hP
  have hD : va_D A [(ha, .inr (0, [.ref hr, .ref hg, .int (nI 0), .int (nI 0), .int (nI 0)])), (hr, .inr (7, [.int (nI 4), .int (nI k), .int (nI al), .int (nI be), .int ea, .int pr, .ref sm, .int (nI 3), .ref ca])), (hg, .inr (4, [.ref nd, .ref kd, .ref lk, .ref vw])), (kd, .inl (cs 0, 8, .inl (fun _ => nI 0))), (a, .inl (cs 0, nn, .inl (fun _ => nI 0)))] := hD
  refine lv_aload_n hx hb dX0_listen_15 rfl (lv_at hl 1 rfl) ?_
  refine lv_iload_n hx hb dX0_listen_16 rfl (lv_at hl 2 rfl) ?_
  refine lv_iload_n hx hb dX0_listen_17 rfl (lv_at hl 3 rfl) ?_
  refine lv_iadd hx hb dX0_listen_18 ?_
  refine lv_topi (nm_r (e' := nI (b + i)) (nI_add _ _) ?_)
  refine xiald C hP 4 rfl (b + i) rfl (by omega) (by omega) dX0_listen_19 ?_
  refine lv_istore (lv' := [(4, .int (nI 0)), (0, .ref ha), (1, .ref a), (2, .int (nI b)), (3, .int (nI i))]) hx hb dX0_listen_20 hl (by decide) rfl (fun ls hl => ?_)
  refine lv_iload hx hb dX0_listen_22 (lv_at hl 0 rfl) ?_
  refine xi (wr := [(ha, .inr (0, [.ref hr, .ref hg, .int (nI 0), .int (nI 0), .int (nI 0)])), (hr, .inr (7, [.int (nI 4), .int (nI k), .int (nI al), .int (nI be), .int ea, .int pr, .ref sm, .int (nI 3), .ref ca])), (hg, .inr (4, [.ref nd, .ref kd, .ref lk, .ref vw])), (kd, .inl (cs 0, 8, .inl (fun _ => nI 0))), (a, .inl (cs 0, nn, .inl (fun _ => nI 0)))]) (xS (As := [.int (nI 0)]) (rest := []) C (c_X4_colourOf l D cs (nI 0)) kX0_29 hP hD [] rfl (by decide) ⟨Nat.le_of_ble_eq_true rfl, Nat.le_of_ble_eq_true rfl⟩ rfl hl.1 rfl (Nat.le_of_ble_eq_true rfl) dX0_listen_24 ⟨Nat.le_of_ble_eq_true rfl, Nat.le_of_ble_eq_true rfl⟩) hP hD hS hA [] [0, 1, 2, 3, 4] rfl rfl (by decide) (by decide) (fun r_1 u_2 H locs hw_r_1 hP hD hS => ?_)
  have hw_r_1 : r_1 = ((nI 0) &&& nI 3) - nI 1 := hw_r_1
  refine W.widen (k := 0) (n := 0) (Nat.le_of_ble_eq_true rfl) (Nat.le_of_ble_eq_true rfl) ?_
  have hP : va_P D vwCl [(ha, .inr (0, [.ref hr, .ref hg, .int (nI 0), .int (nI 0), .int (nI 0)])), (hr, .inr (7, [.int (nI 4), .int (nI k), .int (nI al), .int (nI be), .int ea, .int pr, .ref sm, .int (nI 3), .ref ca])), (hg, .inr (4, [.ref nd, .ref kd, .ref lk, .ref vw])), (kd, .inl (cs 0, 8, .inl (fun _ => nI 0))), (a, .inl (cs 0, nn, .inl (fun _ => nI 0)))] H := hP
  have hD : va_D A [(ha, .inr (0, [.ref hr, .ref hg, .int (nI 0), .int (nI 0), .int (nI 0)])), (hr, .inr (7, [.int (nI 4), .int (nI k), .int (nI al), .int (nI be), .int ea, .int pr, .ref sm, .int (nI 3), .ref ca])), (hg, .inr (4, [.ref nd, .ref kd, .ref lk, .ref vw])), (kd, .inl (cs 0, 8, .inl (fun _ => nI 0))), (a, .inl (cs 0, nn, .inl (fun _ => nI 0)))] := hD
  obtain rfl : r_1 = (-1) := by rw [hw_r_1]; decide
  refine lv_istore (lv' := [(5, .int (-1)), (4, .int (nI 0)), (0, .ref ha), (1, .ref a), (2, .int (nI b)), (3, .int (nI i))]) hx hb dX0_listen_27 hl (by decide) rfl (fun ls hl => ?_)
  refine lv_aload_n hx hb dX0_listen_29 rfl (lv_at hl 2 rfl) ?_
  refine xget C hP 0 rfl rfl zuX0 1 (by decide) zw1_238 rfl dX0_listen_30 ?_
  refine xget C hP 2 rfl rfl zuX4 1 (by decide) zw1_173 rfl dX0_listen_33 ?_
  refine lv_iload_n hx hb dX0_listen_36 rfl (lv_at hl 5 rfl) ?_
  refine xiald C hP 3 rfl i rfl (by omega) (by decide) dX0_listen_37 ?_
  refine lv_if_ne (tgt := 55) hx hb dX0_listen_38 (by decide) (fun c => absurd (by decide) c) (fun _ => ?_)
  refine lv_iload hx hb dX0_listen_41 (lv_at hl 1 rfl) ?_
  refine xi (wr := [(ha, .inr (0, [.ref hr, .ref hg, .int (nI 0), .int (nI 0), .int (nI 0)])), (hr, .inr (7, [.int (nI 4), .int (nI k), .int (nI al), .int (nI be), .int ea, .int pr, .ref sm, .int (nI 3), .ref ca])), (hg, .inr (4, [.ref nd, .ref kd, .ref lk, .ref vw])), (kd, .inl (cs 0, 8, .inl (fun _ => nI 0))), (a, .inl (cs 0, nn, .inl (fun _ => nI 0)))]) (xS (As := [.int (nI 0)]) (rest := []) C (c_X4_isDecided l D cs (nI 0)) kX0_39 hP hD [] rfl (by decide) ⟨Nat.le_of_ble_eq_true rfl, Nat.le_of_ble_eq_true rfl⟩ rfl hl.1 rfl (Nat.le_of_ble_eq_true rfl) dX0_listen_43 ⟨Nat.le_of_ble_eq_true rfl, Nat.le_of_ble_eq_true rfl⟩) hP hD hS hA [] [0, 1, 2, 3, 4] rfl rfl (by decide) (by decide) (fun r_3 u_4 H locs hw_r_3 hP hD hS => ?_)
  have hw_r_3 : r_3 = if (nI 0) &&& nI 268435456 = 0 then nI 0 else nI 1 := hw_r_3
  refine W.widen (k := 0) (n := 0) (Nat.le_of_ble_eq_true rfl) (Nat.le_of_ble_eq_true rfl) ?_
  have hP : va_P D vwCl [(ha, .inr (0, [.ref hr, .ref hg, .int (nI 0), .int (nI 0), .int (nI 0)])), (hr, .inr (7, [.int (nI 4), .int (nI k), .int (nI al), .int (nI be), .int ea, .int pr, .ref sm, .int (nI 3), .ref ca])), (hg, .inr (4, [.ref nd, .ref kd, .ref lk, .ref vw])), (kd, .inl (cs 0, 8, .inl (fun _ => nI 0))), (a, .inl (cs 0, nn, .inl (fun _ => nI 0)))] H := hP
  have hD : va_D A [(ha, .inr (0, [.ref hr, .ref hg, .int (nI 0), .int (nI 0), .int (nI 0)])), (hr, .inr (7, [.int (nI 4), .int (nI k), .int (nI al), .int (nI be), .int ea, .int pr, .ref sm, .int (nI 3), .ref ca])), (hg, .inr (4, [.ref nd, .ref kd, .ref lk, .ref vw])), (kd, .inl (cs 0, 8, .inl (fun _ => nI 0))), (a, .inl (cs 0, nn, .inl (fun _ => nI 0)))] := hD
  obtain rfl : r_3 = nI 0 := by rw [hw_r_3]; decide
  refine lv_if_ne (tgt := 55) hx hb dX0_listen_46 (by decide) (fun c => absurd (by decide) c) (fun _ => ?_)
  refine lv_iload hx hb dX0_listen_49 (lv_at hl 0 rfl) ?_
  refine lv_iconst (v := (-1)) hx hb dX0_listen_51 (by decide) ?_
  refine lv_icmp_ne (tgt := 57) hx hb dX0_listen_52 (by decide) (fun c => absurd rfl c) (fun _ => ?_)
  refine lv_iconst (v := nI 0) hx hb dX0_listen_55 (by decide) ?_
  exact xreti C () rfl hP hD hS (Nat.le_of_ble_eq_true rfl) (Nat.le_of_ble_eq_true rfl) (by decide) dX0_listen_56

set_option maxHeartbeats 4000000 in
set_option maxRecDepth 100000 in
theorem c_X0_decisions_z (l : Launch) (D : va_G) (cs : Nat → ClassId) (ha hr hg sm ca nd kd lk vw k al be : Nat) (z1 z2 z3 ea pr : Int32) (a nn b : Nat) (hb : b + 8 ≤ nn) (hn : nn < 2 ^ 20) : xMet l D cs yX0_decisions cX0_decisions 6 (some .int) ({ frames := 1, cells := 0, slots := 0, locals := 20 } : Room) [.ref ha, .ref a, .int (nI b)] [(ha, .inr (0, [.ref hr, .ref hg, .int z1, .int z2, .int z3])), (hr, .inr (7, [.int (nI 4), .int (nI k), .int (nI al), .int (nI be), .int ea, .int pr, .ref sm, .int (nI 3), .ref ca])), (hg, .inr (4, [.ref nd, .ref kd, .ref lk, .ref vw])), (kd, .inl (cs 0, 8, .inl (fun _ => nI 0))), (a, .inl (cs 0, nn, .inl (fun _ => nI 0)))] (xQi D (fun (r : Int32) (_u : Unit) => r = nI 0) (fun (_u : Unit) => [(ha, .inr (0, [.ref hr, .ref hg, .int z1, .int z2, .int z3])), (hr, .inr (7, [.int (nI 4), .int (nI k), .int (nI al), .int (nI be), .int ea, .int pr, .ref sm, .int (nI 3), .ref ca])), (hg, .inr (4, [.ref nd, .ref kd, .ref lk, .ref vw])), (kd, .inl (cs 0, 8, .inl (fun _ => nI 0))), (a, .inl (cs 0, nn, .inl (fun _ => nI 0)))])) := by
  refine xMet.intro (by decide) (Nat.le_of_ble_eq_true rfl) ?_
  intro p e s m args below meth c A ls C hP hD hS hl
  have hx := C.1
  have hb := C.2.1
  have hz := C.2.2.2.2.1
  have hown := C.2.2.2.1
  have hA := C.2.2.2.2.2.2.2.2.2
  have hAO := C.2.2.2.2.2.2.2.2.1.2.2
  have hl : lv_has ls 6 [(0, .ref ha), (1, .ref a), (2, .int (nI b))] := hl
  obtain ⟨H, hH⟩ : ∃ H, H = s.heap := ⟨_, rfl⟩
  have hP : va_P D vwCl [(ha, .inr (0, [.ref hr, .ref hg, .int z1, .int z2, .int z3])), (hr, .inr (7, [.int (nI 4), .int (nI k), .int (nI al), .int (nI be), .int ea, .int pr, .ref sm, .int (nI 3), .ref ca])), (hg, .inr (4, [.ref nd, .ref kd, .ref lk, .ref vw])), (kd, .inl (cs 0, 8, .inl (fun _ => nI 0))), (a, .inl (cs 0, nn, .inl (fun _ => nI 0)))] H := by rw [hH]; exact hP
  have hS : va_S A s.heap H [] := by rw [hH]; exact hS
  obtain ⟨locs, hlocs⟩ : ∃ z : List Loc, z = [] := ⟨_, rfl⟩
  rw [← hlocs] at hS
  suffices hW : W p l e ({ frames := 1, cells := 0, slots := 0, locals := 20 } : Room) s m args below meth c H locs 0 0 (MQ below ((xQi D (fun (r : Int32) (_u : Unit) => r = nI 0) (fun (_u : Unit) => [(ha, .inr (0, [.ref hr, .ref hg, .int z1, .int z2, .int z3])), (hr, .inr (7, [.int (nI 4), .int (nI k), .int (nI al), .int (nI be), .int ea, .int pr, .ref sm, .int (nI 3), .ref ca])), (hg, .inr (4, [.ref nd, .ref kd, .ref lk, .ref vw])), (kd, .inl (cs 0, 8, .inl (fun _ => nI 0))), (a, .inl (cs 0, nn, .inl (fun _ => nI 0)))])) A) args s 0 0 A) (F0 m 0 ls []) by rw [hlocs, hH] at hW; exact hW
  refine lv_iconst (v := nI 0) hx hb dX0_decisions_0 (by decide) ?_
  refine lv_istore_n (lv' := [(3, .int (nI 0)), (0, .ref ha), (1, .ref a), (2, .int (nI b))]) hx hb dX0_decisions_1 rfl hl (by decide) rfl (fun ls hl => ?_)
  refine lv_iconst (v := nI 0) hx hb dX0_decisions_2 (by decide) ?_
  refine lv_istore (lv' := [(4, .int (nI 0)), (3, .int (nI 0)), (0, .ref ha), (1, .ref a), (2, .int (nI b))]) hx hb dX0_decisions_3 hl (by decide) rfl (fun ls hl => ?_)
  refine lv_iload hx hb dX0_decisions_5 (lv_at hl 0 rfl) ?_
  refine lv_aload_n hx hb dX0_decisions_7 rfl (lv_at hl 2 rfl) ?_
  refine xget C hP 0 rfl rfl zuX0 0 (by decide) zw1_237 rfl dX0_decisions_8 ?_
  refine xget C hP 1 rfl rfl zuX7 0 (by decide) zw1_76 rfl dX0_decisions_11 ?_
  refine lv_icmp_ge (tgt := 69) hx hb dX0_decisions_14 (by decide) (fun c => absurd c (by decide)) (fun _ => ?_)
  refine lv_aload_n hx hb dX0_decisions_17 rfl (lv_at hl 3 rfl) ?_
  refine lv_iload_n hx hb dX0_decisions_18 rfl (lv_at hl 4 rfl) ?_
  refine lv_iload hx hb dX0_decisions_19 (lv_at hl 0 rfl) ?_
  refine lv_iadd hx hb dX0_decisions_21 ?_
  refine lv_topi (nm_r (e' := nI (b + 0)) (nI_add _ _) ?_)
  refine xiald C hP 4 rfl (b + 0) rfl (by omega) (by omega) dX0_decisions_22 ?_
  refine lv_istore (lv' := [(5, .int (nI 0)), (4, .int (nI 0)), (3, .int (nI 0)), (0, .ref ha), (1, .ref a), (2, .int (nI b))]) hx hb dX0_decisions_23 hl (by decide) rfl (fun ls hl => ?_)
  refine lv_aload_n hx hb dX0_decisions_25 rfl (lv_at hl 3 rfl) ?_
  refine xget C hP 0 rfl rfl zuX0 1 (by decide) zw1_238 rfl dX0_decisions_26 ?_
  refine xget C hP 2 rfl rfl zuX4 1 (by decide) zw1_173 rfl dX0_decisions_29 ?_
  refine lv_iload hx hb dX0_decisions_32 (lv_at hl 1 rfl) ?_
  refine xiald C hP 3 rfl 0 rfl (by decide) (by decide) dX0_decisions_34 ?_
  refine lv_if_ne (tgt := 63) hx hb dX0_decisions_35 (by decide) (fun c => absurd (by decide) c) (fun _ => ?_)
  refine lv_iload hx hb dX0_decisions_38 (lv_at hl 0 rfl) ?_
  refine xi (wr := [(ha, .inr (0, [.ref hr, .ref hg, .int z1, .int z2, .int z3])), (hr, .inr (7, [.int (nI 4), .int (nI k), .int (nI al), .int (nI be), .int ea, .int pr, .ref sm, .int (nI 3), .ref ca])), (hg, .inr (4, [.ref nd, .ref kd, .ref lk, .ref vw])), (kd, .inl (cs 0, 8, .inl (fun _ => nI 0))), (a, .inl (cs 0, nn, .inl (fun _ => nI 0)))]) (xS (As := [.int (nI 0)]) (rest := []) C (c_X4_isDecided l D cs (nI 0)) kX0_39 hP hD [] rfl (by decide) ⟨Nat.le_of_ble_eq_true rfl, Nat.le_of_ble_eq_true rfl⟩ rfl hl.1 rfl (Nat.le_of_ble_eq_true rfl) dX0_decisions_40 ⟨Nat.le_of_ble_eq_true rfl, Nat.le_of_ble_eq_true rfl⟩) hP hD hS hA [] [0, 1, 2, 3, 4] rfl rfl (by decide) (by decide) (fun r_1 u_2 H locs hw_r_1 hP hD hS => ?_)
  have hw_r_1 : r_1 = if (nI 0) &&& nI 268435456 = 0 then nI 0 else nI 1 := hw_r_1
  refine W.widen (k := 0) (n := 0) (Nat.le_of_ble_eq_true rfl) (Nat.le_of_ble_eq_true rfl) ?_
  have hP : va_P D vwCl [(ha, .inr (0, [.ref hr, .ref hg, .int z1, .int z2, .int z3])), (hr, .inr (7, [.int (nI 4), .int (nI k), .int (nI al), .int (nI be), .int ea, .int pr, .ref sm, .int (nI 3), .ref ca])), (hg, .inr (4, [.ref nd, .ref kd, .ref lk, .ref vw])), (kd, .inl (cs 0, 8, .inl (fun _ => nI 0))), (a, .inl (cs 0, nn, .inl (fun _ => nI 0)))] H := hP
  have hD : va_D A [(ha, .inr (0, [.ref hr, .ref hg, .int z1, .int z2, .int z3])), (hr, .inr (7, [.int (nI 4), .int (nI k), .int (nI al), .int (nI be), .int ea, .int pr, .ref sm, .int (nI 3), .ref ca])), (hg, .inr (4, [.ref nd, .ref kd, .ref lk, .ref vw])), (kd, .inl (cs 0, 8, .inl (fun _ => nI 0))), (a, .inl (cs 0, nn, .inl (fun _ => nI 0)))] := hD
  obtain rfl : r_1 = nI 0 := by rw [hw_r_1]; decide
  refine lv_if_eq (tgt := 63) hx hb dX0_decisions_43 (by decide) (fun _ => ?_) (fun c => absurd (by decide) c)
  refine lv_iinc (v := nI 1) (lv' := [(4, .int (nI 1)), (5, .int (nI 0)), (3, .int (nI 0)), (0, .ref ha), (1, .ref a), (2, .int (nI b))]) hx hb dX0_decisions_63 hl (k := 1) rfl (by decide) (by decide) rfl (fun ls hl => ?_)
  refine lv_goto (tgt := 5) hx hb dX0_decisions_66 (by decide) ?_
  refine lv_iload hx hb dX0_decisions_5 (lv_at hl 0 rfl) ?_
  refine lv_aload_n hx hb dX0_decisions_7 rfl (lv_at hl 3 rfl) ?_
  refine xget C hP 0 rfl rfl zuX0 0 (by decide) zw1_237 rfl dX0_decisions_8 ?_
  refine xget C hP 1 rfl rfl zuX7 0 (by decide) zw1_76 rfl dX0_decisions_11 ?_
  refine lv_icmp_ge (tgt := 69) hx hb dX0_decisions_14 (by decide) (fun c => absurd c (by decide)) (fun _ => ?_)
  refine lv_aload_n hx hb dX0_decisions_17 rfl (lv_at hl 4 rfl) ?_
  refine lv_iload_n hx hb dX0_decisions_18 rfl (lv_at hl 5 rfl) ?_
  refine lv_iload hx hb dX0_decisions_19 (lv_at hl 0 rfl) ?_
  refine lv_iadd hx hb dX0_decisions_21 ?_
  refine lv_topi (nm_r (e' := nI (b + 1)) (nI_add _ _) ?_)
  refine xiald C hP 4 rfl (b + 1) rfl (by omega) (by omega) dX0_decisions_22 ?_
  refine lv_istore (lv' := [(5, .int (nI 0)), (4, .int (nI 1)), (3, .int (nI 0)), (0, .ref ha), (1, .ref a), (2, .int (nI b))]) hx hb dX0_decisions_23 hl (by decide) rfl (fun ls hl => ?_)
  refine lv_aload_n hx hb dX0_decisions_25 rfl (lv_at hl 3 rfl) ?_
  refine xget C hP 0 rfl rfl zuX0 1 (by decide) zw1_238 rfl dX0_decisions_26 ?_
  refine xget C hP 2 rfl rfl zuX4 1 (by decide) zw1_173 rfl dX0_decisions_29 ?_
  refine lv_iload hx hb dX0_decisions_32 (lv_at hl 1 rfl) ?_
  refine xiald C hP 3 rfl 1 rfl (by decide) (by decide) dX0_decisions_34 ?_
  refine lv_if_ne (tgt := 63) hx hb dX0_decisions_35 (by decide) (fun c => absurd (by decide) c) (fun _ => ?_)
  refine lv_iload hx hb dX0_decisions_38 (lv_at hl 0 rfl) ?_
  refine xi (wr := [(ha, .inr (0, [.ref hr, .ref hg, .int z1, .int z2, .int z3])), (hr, .inr (7, [.int (nI 4), .int (nI k), .int (nI al), .int (nI be), .int ea, .int pr, .ref sm, .int (nI 3), .ref ca])), (hg, .inr (4, [.ref nd, .ref kd, .ref lk, .ref vw])), (kd, .inl (cs 0, 8, .inl (fun _ => nI 0))), (a, .inl (cs 0, nn, .inl (fun _ => nI 0)))]) (xS (As := [.int (nI 0)]) (rest := []) C (c_X4_isDecided l D cs (nI 0)) kX0_39 hP hD [] rfl (by decide) ⟨Nat.le_of_ble_eq_true rfl, Nat.le_of_ble_eq_true rfl⟩ rfl hl.1 rfl (Nat.le_of_ble_eq_true rfl) dX0_decisions_40 ⟨Nat.le_of_ble_eq_true rfl, Nat.le_of_ble_eq_true rfl⟩) hP hD hS hA [] [0, 1, 2, 3, 4] rfl rfl (by decide) (by decide) (fun r_3 u_4 H locs hw_r_3 hP hD hS => ?_)
  have hw_r_3 : r_3 = if (nI 0) &&& nI 268435456 = 0 then nI 0 else nI 1 := hw_r_3
  refine W.widen (k := 0) (n := 0) (Nat.le_of_ble_eq_true rfl) (Nat.le_of_ble_eq_true rfl) ?_
  have hP : va_P D vwCl [(ha, .inr (0, [.ref hr, .ref hg, .int z1, .int z2, .int z3])), (hr, .inr (7, [.int (nI 4), .int (nI k), .int (nI al), .int (nI be), .int ea, .int pr, .ref sm, .int (nI 3), .ref ca])), (hg, .inr (4, [.ref nd, .ref kd, .ref lk, .ref vw])), (kd, .inl (cs 0, 8, .inl (fun _ => nI 0))), (a, .inl (cs 0, nn, .inl (fun _ => nI 0)))] H := hP
  have hD : va_D A [(ha, .inr (0, [.ref hr, .ref hg, .int z1, .int z2, .int z3])), (hr, .inr (7, [.int (nI 4), .int (nI k), .int (nI al), .int (nI be), .int ea, .int pr, .ref sm, .int (nI 3), .ref ca])), (hg, .inr (4, [.ref nd, .ref kd, .ref lk, .ref vw])), (kd, .inl (cs 0, 8, .inl (fun _ => nI 0))), (a, .inl (cs 0, nn, .inl (fun _ => nI 0)))] := hD
  obtain rfl : r_3 = nI 0 := by rw [hw_r_3]; decide
  refine lv_if_eq (tgt := 63) hx hb dX0_decisions_43 (by decide) (fun _ => ?_) (fun c => absurd (by decide) c)
  refine lv_iinc (v := nI 2) (lv' := [(4, .int (nI 2)), (5, .int (nI 0)), (3, .int (nI 0)), (0, .ref ha), (1, .ref a), (2, .int (nI b))]) hx hb dX0_decisions_63 hl (k := 1) rfl (by decide) (by decide) rfl (fun ls hl => ?_)
  refine lv_goto (tgt := 5) hx hb dX0_decisions_66 (by decide) ?_
  refine lv_iload hx hb dX0_decisions_5 (lv_at hl 0 rfl) ?_
  refine lv_aload_n hx hb dX0_decisions_7 rfl (lv_at hl 3 rfl) ?_
  refine xget C hP 0 rfl rfl zuX0 0 (by decide) zw1_237 rfl dX0_decisions_8 ?_
  refine xget C hP 1 rfl rfl zuX7 0 (by decide) zw1_76 rfl dX0_decisions_11 ?_
  refine lv_icmp_ge (tgt := 69) hx hb dX0_decisions_14 (by decide) (fun c => absurd c (by decide)) (fun _ => ?_)
  refine lv_aload_n hx hb dX0_decisions_17 rfl (lv_at hl 4 rfl) ?_
  refine lv_iload_n hx hb dX0_decisions_18 rfl (lv_at hl 5 rfl) ?_
  refine lv_iload hx hb dX0_decisions_19 (lv_at hl 0 rfl) ?_
  refine lv_iadd hx hb dX0_decisions_21 ?_
  refine lv_topi (nm_r (e' := nI (b + 2)) (nI_add _ _) ?_)
  refine xiald C hP 4 rfl (b + 2) rfl (by omega) (by omega) dX0_decisions_22 ?_
  refine lv_istore (lv' := [(5, .int (nI 0)), (4, .int (nI 2)), (3, .int (nI 0)), (0, .ref ha), (1, .ref a), (2, .int (nI b))]) hx hb dX0_decisions_23 hl (by decide) rfl (fun ls hl => ?_)
  refine lv_aload_n hx hb dX0_decisions_25 rfl (lv_at hl 3 rfl) ?_
  refine xget C hP 0 rfl rfl zuX0 1 (by decide) zw1_238 rfl dX0_decisions_26 ?_
  refine xget C hP 2 rfl rfl zuX4 1 (by decide) zw1_173 rfl dX0_decisions_29 ?_
  refine lv_iload hx hb dX0_decisions_32 (lv_at hl 1 rfl) ?_
  refine xiald C hP 3 rfl 2 rfl (by decide) (by decide) dX0_decisions_34 ?_
  refine lv_if_ne (tgt := 63) hx hb dX0_decisions_35 (by decide) (fun c => absurd (by decide) c) (fun _ => ?_)
  refine lv_iload hx hb dX0_decisions_38 (lv_at hl 0 rfl) ?_
  refine xi (wr := [(ha, .inr (0, [.ref hr, .ref hg, .int z1, .int z2, .int z3])), (hr, .inr (7, [.int (nI 4), .int (nI k), .int (nI al), .int (nI be), .int ea, .int pr, .ref sm, .int (nI 3), .ref ca])), (hg, .inr (4, [.ref nd, .ref kd, .ref lk, .ref vw])), (kd, .inl (cs 0, 8, .inl (fun _ => nI 0))), (a, .inl (cs 0, nn, .inl (fun _ => nI 0)))]) (xS (As := [.int (nI 0)]) (rest := []) C (c_X4_isDecided l D cs (nI 0)) kX0_39 hP hD [] rfl (by decide) ⟨Nat.le_of_ble_eq_true rfl, Nat.le_of_ble_eq_true rfl⟩ rfl hl.1 rfl (Nat.le_of_ble_eq_true rfl) dX0_decisions_40 ⟨Nat.le_of_ble_eq_true rfl, Nat.le_of_ble_eq_true rfl⟩) hP hD hS hA [] [0, 1, 2, 3, 4] rfl rfl (by decide) (by decide) (fun r_5 u_6 H locs hw_r_5 hP hD hS => ?_)
  have hw_r_5 : r_5 = if (nI 0) &&& nI 268435456 = 0 then nI 0 else nI 1 := hw_r_5
  refine W.widen (k := 0) (n := 0) (Nat.le_of_ble_eq_true rfl) (Nat.le_of_ble_eq_true rfl) ?_
  have hP : va_P D vwCl [(ha, .inr (0, [.ref hr, .ref hg, .int z1, .int z2, .int z3])), (hr, .inr (7, [.int (nI 4), .int (nI k), .int (nI al), .int (nI be), .int ea, .int pr, .ref sm, .int (nI 3), .ref ca])), (hg, .inr (4, [.ref nd, .ref kd, .ref lk, .ref vw])), (kd, .inl (cs 0, 8, .inl (fun _ => nI 0))), (a, .inl (cs 0, nn, .inl (fun _ => nI 0)))] H := hP
  have hD : va_D A [(ha, .inr (0, [.ref hr, .ref hg, .int z1, .int z2, .int z3])), (hr, .inr (7, [.int (nI 4), .int (nI k), .int (nI al), .int (nI be), .int ea, .int pr, .ref sm, .int (nI 3), .ref ca])), (hg, .inr (4, [.ref nd, .ref kd, .ref lk, .ref vw])), (kd, .inl (cs 0, 8, .inl (fun _ => nI 0))), (a, .inl (cs 0, nn, .inl (fun _ => nI 0)))] := hD
  obtain rfl : r_5 = nI 0 := by rw [hw_r_5]; decide
  refine lv_if_eq (tgt := 63) hx hb dX0_decisions_43 (by decide) (fun _ => ?_) (fun c => absurd (by decide) c)
  refine lv_iinc (v := nI 3) (lv' := [(4, .int (nI 3)), (5, .int (nI 0)), (3, .int (nI 0)), (0, .ref ha), (1, .ref a), (2, .int (nI b))]) hx hb dX0_decisions_63 hl (k := 1) rfl (by decide) (by decide) rfl (fun ls hl => ?_)
  refine lv_goto (tgt := 5) hx hb dX0_decisions_66 (by decide) ?_
  refine lv_iload hx hb dX0_decisions_5 (lv_at hl 0 rfl) ?_
  refine lv_aload_n hx hb dX0_decisions_7 rfl (lv_at hl 3 rfl) ?_
  refine xget C hP 0 rfl rfl zuX0 0 (by decide) zw1_237 rfl dX0_decisions_8 ?_
  refine xget C hP 1 rfl rfl zuX7 0 (by decide) zw1_76 rfl dX0_decisions_11 ?_
  refine lv_icmp_ge (tgt := 69) hx hb dX0_decisions_14 (by decide) (fun c => absurd c (by decide)) (fun _ => ?_)
  refine lv_aload_n hx hb dX0_decisions_17 rfl (lv_at hl 4 rfl) ?_
  refine lv_iload_n hx hb dX0_decisions_18 rfl (lv_at hl 5 rfl) ?_
  refine lv_iload hx hb dX0_decisions_19 (lv_at hl 0 rfl) ?_
  refine lv_iadd hx hb dX0_decisions_21 ?_
  refine lv_topi (nm_r (e' := nI (b + 3)) (nI_add _ _) ?_)
  refine xiald C hP 4 rfl (b + 3) rfl (by omega) (by omega) dX0_decisions_22 ?_
  refine lv_istore (lv' := [(5, .int (nI 0)), (4, .int (nI 3)), (3, .int (nI 0)), (0, .ref ha), (1, .ref a), (2, .int (nI b))]) hx hb dX0_decisions_23 hl (by decide) rfl (fun ls hl => ?_)
  refine lv_aload_n hx hb dX0_decisions_25 rfl (lv_at hl 3 rfl) ?_
  refine xget C hP 0 rfl rfl zuX0 1 (by decide) zw1_238 rfl dX0_decisions_26 ?_
  refine xget C hP 2 rfl rfl zuX4 1 (by decide) zw1_173 rfl dX0_decisions_29 ?_
  refine lv_iload hx hb dX0_decisions_32 (lv_at hl 1 rfl) ?_
  refine xiald C hP 3 rfl 3 rfl (by decide) (by decide) dX0_decisions_34 ?_
  refine lv_if_ne (tgt := 63) hx hb dX0_decisions_35 (by decide) (fun c => absurd (by decide) c) (fun _ => ?_)
  refine lv_iload hx hb dX0_decisions_38 (lv_at hl 0 rfl) ?_
  refine xi (wr := [(ha, .inr (0, [.ref hr, .ref hg, .int z1, .int z2, .int z3])), (hr, .inr (7, [.int (nI 4), .int (nI k), .int (nI al), .int (nI be), .int ea, .int pr, .ref sm, .int (nI 3), .ref ca])), (hg, .inr (4, [.ref nd, .ref kd, .ref lk, .ref vw])), (kd, .inl (cs 0, 8, .inl (fun _ => nI 0))), (a, .inl (cs 0, nn, .inl (fun _ => nI 0)))]) (xS (As := [.int (nI 0)]) (rest := []) C (c_X4_isDecided l D cs (nI 0)) kX0_39 hP hD [] rfl (by decide) ⟨Nat.le_of_ble_eq_true rfl, Nat.le_of_ble_eq_true rfl⟩ rfl hl.1 rfl (Nat.le_of_ble_eq_true rfl) dX0_decisions_40 ⟨Nat.le_of_ble_eq_true rfl, Nat.le_of_ble_eq_true rfl⟩) hP hD hS hA [] [0, 1, 2, 3, 4] rfl rfl (by decide) (by decide) (fun r_7 u_8 H locs hw_r_7 hP hD hS => ?_)
  have hw_r_7 : r_7 = if (nI 0) &&& nI 268435456 = 0 then nI 0 else nI 1 := hw_r_7
  refine W.widen (k := 0) (n := 0) (Nat.le_of_ble_eq_true rfl) (Nat.le_of_ble_eq_true rfl) ?_
  have hP : va_P D vwCl [(ha, .inr (0, [.ref hr, .ref hg, .int z1, .int z2, .int z3])), (hr, .inr (7, [.int (nI 4), .int (nI k), .int (nI al), .int (nI be), .int ea, .int pr, .ref sm, .int (nI 3), .ref ca])), (hg, .inr (4, [.ref nd, .ref kd, .ref lk, .ref vw])), (kd, .inl (cs 0, 8, .inl (fun _ => nI 0))), (a, .inl (cs 0, nn, .inl (fun _ => nI 0)))] H := hP
  have hD : va_D A [(ha, .inr (0, [.ref hr, .ref hg, .int z1, .int z2, .int z3])), (hr, .inr (7, [.int (nI 4), .int (nI k), .int (nI al), .int (nI be), .int ea, .int pr, .ref sm, .int (nI 3), .ref ca])), (hg, .inr (4, [.ref nd, .ref kd, .ref lk, .ref vw])), (kd, .inl (cs 0, 8, .inl (fun _ => nI 0))), (a, .inl (cs 0, nn, .inl (fun _ => nI 0)))] := hD
  obtain rfl : r_7 = nI 0 := by rw [hw_r_7]; decide
  refine lv_if_eq (tgt := 63) hx hb dX0_decisions_43 (by decide) (fun _ => ?_) (fun c => absurd (by decide) c)
  refine lv_iinc (v := nI 4) (lv' := [(4, .int (nI 4)), (5, .int (nI 0)), (3, .int (nI 0)), (0, .ref ha), (1, .ref a), (2, .int (nI b))]) hx hb dX0_decisions_63 hl (k := 1) rfl (by decide) (by decide) rfl (fun ls hl => ?_)
  refine lv_goto (tgt := 5) hx hb dX0_decisions_66 (by decide) ?_
  refine lv_iload hx hb dX0_decisions_5 (lv_at hl 0 rfl) ?_
  refine lv_aload_n hx hb dX0_decisions_7 rfl (lv_at hl 3 rfl) ?_
  refine xget C hP 0 rfl rfl zuX0 0 (by decide) zw1_237 rfl dX0_decisions_8 ?_
  refine xget C hP 1 rfl rfl zuX7 0 (by decide) zw1_76 rfl dX0_decisions_11 ?_
  refine lv_icmp_ge (tgt := 69) hx hb dX0_decisions_14 (by decide) (fun _ => ?_) (fun c => absurd (by decide) c)
  refine lv_iload_n hx hb dX0_decisions_69 rfl (lv_at hl 2 rfl) ?_
  exact xreti C () rfl hP hD hS (Nat.le_of_ble_eq_true rfl) (Nat.le_of_ble_eq_true rfl) rfl dX0_decisions_70

set_option maxHeartbeats 4000000 in
set_option maxRecDepth 100000 in
theorem c_X0_isSplit_z (l : Launch) (D : va_G) (cs : Nat → ClassId) (ha hr hg sm ca nd kd lk vw k al be : Nat) (z1 z2 z3 ea pr : Int32) (a nn b : Nat) (hb : b + 8 ≤ nn) (hn : nn < 2 ^ 20) : xMet l D cs yX0_isSplit cX0_isSplit 3 (some .boolean) ({ frames := 2, cells := 0, slots := 0, locals := 45 } : Room) [.ref ha, .ref a, .int (nI b)] [(ha, .inr (0, [.ref hr, .ref hg, .int z1, .int z2, .int z3])), (hr, .inr (7, [.int (nI 4), .int (nI k), .int (nI al), .int (nI be), .int ea, .int pr, .ref sm, .int (nI 3), .ref ca])), (hg, .inr (4, [.ref nd, .ref kd, .ref lk, .ref vw])), (kd, .inl (cs 0, 8, .inl (fun _ => nI 0))), (a, .inl (cs 0, nn, .inl (fun _ => nI 0)))] (xQi D (fun (r : Int32) (_u : Unit) => r = nI 0) (fun (_u : Unit) => [(ha, .inr (0, [.ref hr, .ref hg, .int z1, .int z2, .int z3])), (hr, .inr (7, [.int (nI 4), .int (nI k), .int (nI al), .int (nI be), .int ea, .int pr, .ref sm, .int (nI 3), .ref ca])), (hg, .inr (4, [.ref nd, .ref kd, .ref lk, .ref vw])), (kd, .inl (cs 0, 8, .inl (fun _ => nI 0))), (a, .inl (cs 0, nn, .inl (fun _ => nI 0)))])) := by
  refine xMet.intro (by decide) (Nat.le_of_ble_eq_true rfl) ?_
  intro p e s m args below meth c A ls C hP hD hS hl
  have hx := C.1
  have hb := C.2.1
  have hz := C.2.2.2.2.1
  have hown := C.2.2.2.1
  have hA := C.2.2.2.2.2.2.2.2.2
  have hAO := C.2.2.2.2.2.2.2.2.1.2.2
  have hl : lv_has ls 3 [(0, .ref ha), (1, .ref a), (2, .int (nI b))] := hl
  obtain ⟨H, hH⟩ : ∃ H, H = s.heap := ⟨_, rfl⟩
  have hP : va_P D vwCl [(ha, .inr (0, [.ref hr, .ref hg, .int z1, .int z2, .int z3])), (hr, .inr (7, [.int (nI 4), .int (nI k), .int (nI al), .int (nI be), .int ea, .int pr, .ref sm, .int (nI 3), .ref ca])), (hg, .inr (4, [.ref nd, .ref kd, .ref lk, .ref vw])), (kd, .inl (cs 0, 8, .inl (fun _ => nI 0))), (a, .inl (cs 0, nn, .inl (fun _ => nI 0)))] H := by rw [hH]; exact hP
  have hS : va_S A s.heap H [] := by rw [hH]; exact hS
  obtain ⟨locs, hlocs⟩ : ∃ z : List Loc, z = [] := ⟨_, rfl⟩
  rw [← hlocs] at hS
  suffices hW : W p l e ({ frames := 2, cells := 0, slots := 0, locals := 45 } : Room) s m args below meth c H locs 0 0 (MQ below ((xQi D (fun (r : Int32) (_u : Unit) => r = nI 0) (fun (_u : Unit) => [(ha, .inr (0, [.ref hr, .ref hg, .int z1, .int z2, .int z3])), (hr, .inr (7, [.int (nI 4), .int (nI k), .int (nI al), .int (nI be), .int ea, .int pr, .ref sm, .int (nI 3), .ref ca])), (hg, .inr (4, [.ref nd, .ref kd, .ref lk, .ref vw])), (kd, .inl (cs 0, 8, .inl (fun _ => nI 0))), (a, .inl (cs 0, nn, .inl (fun _ => nI 0)))])) A) args s 0 0 A) (F0 m 0 ls []) by rw [hlocs, hH] at hW; exact hW
  refine lv_aload_n hx hb dX0_isSplit_0 rfl (lv_at hl 0 rfl) ?_
  refine lv_aload_n hx hb dX0_isSplit_1 rfl (lv_at hl 1 rfl) ?_
  refine lv_iload_n hx hb dX0_isSplit_2 rfl (lv_at hl 2 rfl) ?_
  refine xi (wr := []) (xV (As := [.ref a, .int (nI b)]) (rest := []) C (c_X0_decisions_z l D cs ha hr hg sm ca nd kd lk vw k al be z1 z2 z3 ea pr a nn b (by first | omega | decide) (by first | omega | decide)) kX0_114 hP hD [0, 1, 2, 3, 4] rfl (by decide) 0 rfl rfl rfl ⟨Nat.le_of_ble_eq_true rfl, Nat.le_of_ble_eq_true rfl⟩ rfl hl.1 rfl (Nat.le_of_ble_eq_true rfl) dX0_isSplit_3 ⟨Nat.le_of_ble_eq_true rfl, Nat.le_of_ble_eq_true rfl⟩) hP hD hS hA [0, 1, 2, 3, 4] [] rfl rfl (by decide) (by decide) (fun r_1 u_2 H locs hw_r_1 hP hD hS => ?_)
  have hw_r_1 : r_1 = nI 0 := hw_r_1
  refine W.widen (k := 0) (n := 0) (Nat.le_of_ble_eq_true rfl) (Nat.le_of_ble_eq_true rfl) ?_
  have hP : va_P D vwCl [(ha, .inr (0, [.ref hr, .ref hg, .int z1, .int z2, .int z3])), (hr, .inr (7, [.int (nI 4), .int (nI k), .int (nI al), .int (nI be), .int ea, .int pr, .ref sm, .int (nI 3), .ref ca])), (hg, .inr (4, [.ref nd, .ref kd, .ref lk, .ref vw])), (kd, .inl (cs 0, 8, .inl (fun _ => nI 0))), (a, .inl (cs 0, nn, .inl (fun _ => nI 0)))] H := hP
  have hD : va_D A [(ha, .inr (0, [.ref hr, .ref hg, .int z1, .int z2, .int z3])), (hr, .inr (7, [.int (nI 4), .int (nI k), .int (nI al), .int (nI be), .int ea, .int pr, .ref sm, .int (nI 3), .ref ca])), (hg, .inr (4, [.ref nd, .ref kd, .ref lk, .ref vw])), (kd, .inl (cs 0, 8, .inl (fun _ => nI 0))), (a, .inl (cs 0, nn, .inl (fun _ => nI 0)))] := hD
  subst hw_r_1
  refine lv_iconst (v := nI 3) hx hb dX0_isSplit_6 (by decide) ?_
  refine lv_icmp_ne (tgt := 14) hx hb dX0_isSplit_7 (by decide) (fun _ => ?_) (fun c => absurd c (by decide))
  refine lv_iconst (v := nI 0) hx hb dX0_isSplit_14 (by decide) ?_
  exact xreti C () rfl hP hD hS (Nat.le_of_ble_eq_true rfl) (Nat.le_of_ble_eq_true rfl) (by decide) dX0_isSplit_15

set_option maxHeartbeats 4000000 in
set_option maxRecDepth 100000 in
theorem c_X0_isAgreed_z (l : Launch) (D : va_G) (cs : Nat → ClassId) (ha hr hg sm ca nd kd lk vw k al be : Nat) (z1 z2 z3 ea pr : Int32) (a nn b : Nat) (hb : b + 8 ≤ nn) (hn : nn < 2 ^ 20) : xMet l D cs yX0_isAgreed cX0_isAgreed 4 (some .boolean) ({ frames := 1, cells := 0, slots := 0, locals := 20 } : Room) [.ref ha, .ref a, .int (nI b)] [(ha, .inr (0, [.ref hr, .ref hg, .int z1, .int z2, .int z3])), (hr, .inr (7, [.int (nI 4), .int (nI k), .int (nI al), .int (nI be), .int ea, .int pr, .ref sm, .int (nI 3), .ref ca])), (hg, .inr (4, [.ref nd, .ref kd, .ref lk, .ref vw])), (kd, .inl (cs 0, 8, .inl (fun _ => nI 0))), (a, .inl (cs 0, nn, .inl (fun _ => nI 0)))] (xQi D (fun (r : Int32) (_u : Unit) => r = nI 0) (fun (_u : Unit) => [(ha, .inr (0, [.ref hr, .ref hg, .int z1, .int z2, .int z3])), (hr, .inr (7, [.int (nI 4), .int (nI k), .int (nI al), .int (nI be), .int ea, .int pr, .ref sm, .int (nI 3), .ref ca])), (hg, .inr (4, [.ref nd, .ref kd, .ref lk, .ref vw])), (kd, .inl (cs 0, 8, .inl (fun _ => nI 0))), (a, .inl (cs 0, nn, .inl (fun _ => nI 0)))])) := by
  refine xMet.intro (by decide) (Nat.le_of_ble_eq_true rfl) ?_
  intro p e s m args below meth c A ls C hP hD hS hl
  have hx := C.1
  have hb := C.2.1
  have hz := C.2.2.2.2.1
  have hown := C.2.2.2.1
  have hA := C.2.2.2.2.2.2.2.2.2
  have hAO := C.2.2.2.2.2.2.2.2.1.2.2
  have hl : lv_has ls 4 [(0, .ref ha), (1, .ref a), (2, .int (nI b))] := hl
  obtain ⟨H, hH⟩ : ∃ H, H = s.heap := ⟨_, rfl⟩
  have hP : va_P D vwCl [(ha, .inr (0, [.ref hr, .ref hg, .int z1, .int z2, .int z3])), (hr, .inr (7, [.int (nI 4), .int (nI k), .int (nI al), .int (nI be), .int ea, .int pr, .ref sm, .int (nI 3), .ref ca])), (hg, .inr (4, [.ref nd, .ref kd, .ref lk, .ref vw])), (kd, .inl (cs 0, 8, .inl (fun _ => nI 0))), (a, .inl (cs 0, nn, .inl (fun _ => nI 0)))] H := by rw [hH]; exact hP
  have hS : va_S A s.heap H [] := by rw [hH]; exact hS
  obtain ⟨locs, hlocs⟩ : ∃ z : List Loc, z = [] := ⟨_, rfl⟩
  rw [← hlocs] at hS
  suffices hW : W p l e ({ frames := 1, cells := 0, slots := 0, locals := 20 } : Room) s m args below meth c H locs 0 0 (MQ below ((xQi D (fun (r : Int32) (_u : Unit) => r = nI 0) (fun (_u : Unit) => [(ha, .inr (0, [.ref hr, .ref hg, .int z1, .int z2, .int z3])), (hr, .inr (7, [.int (nI 4), .int (nI k), .int (nI al), .int (nI be), .int ea, .int pr, .ref sm, .int (nI 3), .ref ca])), (hg, .inr (4, [.ref nd, .ref kd, .ref lk, .ref vw])), (kd, .inl (cs 0, 8, .inl (fun _ => nI 0))), (a, .inl (cs 0, nn, .inl (fun _ => nI 0)))])) A) args s 0 0 A) (F0 m 0 ls []) by rw [hlocs, hH] at hW; exact hW
  refine lv_iconst (v := nI 0) hx hb dX0_isAgreed_0 (by decide) ?_
  refine lv_istore_n (lv' := [(3, .int (nI 0)), (0, .ref ha), (1, .ref a), (2, .int (nI b))]) hx hb dX0_isAgreed_1 rfl hl (by decide) rfl (fun ls hl => ?_)
  refine lv_iload_n hx hb dX0_isAgreed_2 rfl (lv_at hl 0 rfl) ?_
  refine lv_aload_n hx hb dX0_isAgreed_3 rfl (lv_at hl 1 rfl) ?_
  refine xget C hP 0 rfl rfl zuX0 0 (by decide) zw1_237 rfl dX0_isAgreed_4 ?_
  refine xget C hP 1 rfl rfl zuX7 0 (by decide) zw1_76 rfl dX0_isAgreed_7 ?_
  refine lv_icmp_ge (tgt := 44) hx hb dX0_isAgreed_10 (by decide) (fun c => absurd c (by decide)) (fun _ => ?_)
  refine lv_aload_n hx hb dX0_isAgreed_13 rfl (lv_at hl 1 rfl) ?_
  refine xget C hP 0 rfl rfl zuX0 1 (by decide) zw1_238 rfl dX0_isAgreed_14 ?_
  refine xget C hP 2 rfl rfl zuX4 1 (by decide) zw1_173 rfl dX0_isAgreed_17 ?_
  refine lv_iload_n hx hb dX0_isAgreed_20 rfl (lv_at hl 0 rfl) ?_
  refine xiald C hP 3 rfl 0 rfl (by decide) (by decide) dX0_isAgreed_21 ?_
  refine lv_if_ne (tgt := 38) hx hb dX0_isAgreed_22 (by decide) (fun c => absurd (by decide) c) (fun _ => ?_)
  refine lv_aload_n hx hb dX0_isAgreed_25 rfl (lv_at hl 2 rfl) ?_
  refine lv_iload_n hx hb dX0_isAgreed_26 rfl (lv_at hl 3 rfl) ?_
  refine lv_iload_n hx hb dX0_isAgreed_27 rfl (lv_at hl 0 rfl) ?_
  refine lv_iadd hx hb dX0_isAgreed_28 ?_
  refine lv_topi (nm_r (e' := nI (b + 0)) (nI_add _ _) ?_)
  refine xiald C hP 4 rfl (b + 0) rfl (by omega) (by omega) dX0_isAgreed_29 ?_
  refine xi (wr := [(ha, .inr (0, [.ref hr, .ref hg, .int z1, .int z2, .int z3])), (hr, .inr (7, [.int (nI 4), .int (nI k), .int (nI al), .int (nI be), .int ea, .int pr, .ref sm, .int (nI 3), .ref ca])), (hg, .inr (4, [.ref nd, .ref kd, .ref lk, .ref vw])), (kd, .inl (cs 0, 8, .inl (fun _ => nI 0))), (a, .inl (cs 0, nn, .inl (fun _ => nI 0)))]) (xS (As := [.int (nI 0)]) (rest := []) C (c_X4_isDecided l D cs (nI 0)) kX0_39 hP hD [] rfl (by decide) ⟨Nat.le_of_ble_eq_true rfl, Nat.le_of_ble_eq_true rfl⟩ rfl hl.1 rfl (Nat.le_of_ble_eq_true rfl) dX0_isAgreed_30 ⟨Nat.le_of_ble_eq_true rfl, Nat.le_of_ble_eq_true rfl⟩) hP hD hS hA [] [0, 1, 2, 3, 4] rfl rfl (by decide) (by decide) (fun r_1 u_2 H locs hw_r_1 hP hD hS => ?_)
  have hw_r_1 : r_1 = if (nI 0) &&& nI 268435456 = 0 then nI 0 else nI 1 := hw_r_1
  refine W.widen (k := 0) (n := 0) (Nat.le_of_ble_eq_true rfl) (Nat.le_of_ble_eq_true rfl) ?_
  have hP : va_P D vwCl [(ha, .inr (0, [.ref hr, .ref hg, .int z1, .int z2, .int z3])), (hr, .inr (7, [.int (nI 4), .int (nI k), .int (nI al), .int (nI be), .int ea, .int pr, .ref sm, .int (nI 3), .ref ca])), (hg, .inr (4, [.ref nd, .ref kd, .ref lk, .ref vw])), (kd, .inl (cs 0, 8, .inl (fun _ => nI 0))), (a, .inl (cs 0, nn, .inl (fun _ => nI 0)))] H := hP
  have hD : va_D A [(ha, .inr (0, [.ref hr, .ref hg, .int z1, .int z2, .int z3])), (hr, .inr (7, [.int (nI 4), .int (nI k), .int (nI al), .int (nI be), .int ea, .int pr, .ref sm, .int (nI 3), .ref ca])), (hg, .inr (4, [.ref nd, .ref kd, .ref lk, .ref vw])), (kd, .inl (cs 0, 8, .inl (fun _ => nI 0))), (a, .inl (cs 0, nn, .inl (fun _ => nI 0)))] := hD
  obtain rfl : r_1 = nI 0 := by rw [hw_r_1]; decide
  refine lv_if_ne (tgt := 38) hx hb dX0_isAgreed_33 (by decide) (fun c => absurd (by decide) c) (fun _ => ?_)
  refine lv_iconst (v := nI 0) hx hb dX0_isAgreed_36 (by decide) ?_
  exact xreti C () rfl hP hD hS (Nat.le_of_ble_eq_true rfl) (Nat.le_of_ble_eq_true rfl) (by decide) dX0_isAgreed_37

set_option maxHeartbeats 4000000 in
set_option maxRecDepth 100000 in
theorem c_X0_honestOnes_z (l : Launch) (D : va_G) (cs : Nat → ClassId) (ha hr hg sm ca nd kd lk vw k al be : Nat) (z1 z2 z3 ea pr : Int32) (a nn b : Nat) (hb : b + 8 ≤ nn) (hn : nn < 2 ^ 20) : xMet l D cs yX0_honestOnes cX0_honestOnes 5 (some .int) ({ frames := 1, cells := 0, slots := 0, locals := 20 } : Room) [.ref ha, .ref a, .int (nI b)] [(ha, .inr (0, [.ref hr, .ref hg, .int z1, .int z2, .int z3])), (hr, .inr (7, [.int (nI 4), .int (nI k), .int (nI al), .int (nI be), .int ea, .int pr, .ref sm, .int (nI 3), .ref ca])), (hg, .inr (4, [.ref nd, .ref kd, .ref lk, .ref vw])), (kd, .inl (cs 0, 8, .inl (fun _ => nI 0))), (a, .inl (cs 0, nn, .inl (fun _ => nI 0)))] (xQi D (fun (r : Int32) (_u : Unit) => r = nI 0) (fun (_u : Unit) => [(ha, .inr (0, [.ref hr, .ref hg, .int z1, .int z2, .int z3])), (hr, .inr (7, [.int (nI 4), .int (nI k), .int (nI al), .int (nI be), .int ea, .int pr, .ref sm, .int (nI 3), .ref ca])), (hg, .inr (4, [.ref nd, .ref kd, .ref lk, .ref vw])), (kd, .inl (cs 0, 8, .inl (fun _ => nI 0))), (a, .inl (cs 0, nn, .inl (fun _ => nI 0)))])) := by
  refine xMet.intro (by decide) (Nat.le_of_ble_eq_true rfl) ?_
  intro p e s m args below meth c A ls C hP hD hS hl
  have hx := C.1
  have hb := C.2.1
  have hz := C.2.2.2.2.1
  have hown := C.2.2.2.1
  have hA := C.2.2.2.2.2.2.2.2.2
  have hAO := C.2.2.2.2.2.2.2.2.1.2.2
  have hl : lv_has ls 5 [(0, .ref ha), (1, .ref a), (2, .int (nI b))] := hl
  obtain ⟨H, hH⟩ : ∃ H, H = s.heap := ⟨_, rfl⟩
  have hP : va_P D vwCl [(ha, .inr (0, [.ref hr, .ref hg, .int z1, .int z2, .int z3])), (hr, .inr (7, [.int (nI 4), .int (nI k), .int (nI al), .int (nI be), .int ea, .int pr, .ref sm, .int (nI 3), .ref ca])), (hg, .inr (4, [.ref nd, .ref kd, .ref lk, .ref vw])), (kd, .inl (cs 0, 8, .inl (fun _ => nI 0))), (a, .inl (cs 0, nn, .inl (fun _ => nI 0)))] H := by rw [hH]; exact hP
  have hS : va_S A s.heap H [] := by rw [hH]; exact hS
  obtain ⟨locs, hlocs⟩ : ∃ z : List Loc, z = [] := ⟨_, rfl⟩
  rw [← hlocs] at hS
  suffices hW : W p l e ({ frames := 1, cells := 0, slots := 0, locals := 20 } : Room) s m args below meth c H locs 0 0 (MQ below ((xQi D (fun (r : Int32) (_u : Unit) => r = nI 0) (fun (_u : Unit) => [(ha, .inr (0, [.ref hr, .ref hg, .int z1, .int z2, .int z3])), (hr, .inr (7, [.int (nI 4), .int (nI k), .int (nI al), .int (nI be), .int ea, .int pr, .ref sm, .int (nI 3), .ref ca])), (hg, .inr (4, [.ref nd, .ref kd, .ref lk, .ref vw])), (kd, .inl (cs 0, 8, .inl (fun _ => nI 0))), (a, .inl (cs 0, nn, .inl (fun _ => nI 0)))])) A) args s 0 0 A) (F0 m 0 ls []) by rw [hlocs, hH] at hW; exact hW
  refine lv_iconst (v := nI 0) hx hb dX0_honestOnes_0 (by decide) ?_
  refine lv_istore_n (lv' := [(3, .int (nI 0)), (0, .ref ha), (1, .ref a), (2, .int (nI b))]) hx hb dX0_honestOnes_1 rfl hl (by decide) rfl (fun ls hl => ?_)
  refine lv_iconst (v := nI 0) hx hb dX0_honestOnes_2 (by decide) ?_
  refine lv_istore (lv' := [(4, .int (nI 0)), (3, .int (nI 0)), (0, .ref ha), (1, .ref a), (2, .int (nI b))]) hx hb dX0_honestOnes_3 hl (by decide) rfl (fun ls hl => ?_)
  refine lv_iload hx hb dX0_honestOnes_5 (lv_at hl 0 rfl) ?_
  refine lv_aload_n hx hb dX0_honestOnes_7 rfl (lv_at hl 2 rfl) ?_
  refine xget C hP 0 rfl rfl zuX0 0 (by decide) zw1_237 rfl dX0_honestOnes_8 ?_
  refine xget C hP 1 rfl rfl zuX7 0 (by decide) zw1_76 rfl dX0_honestOnes_11 ?_
  refine lv_icmp_ge (tgt := 60) hx hb dX0_honestOnes_14 (by decide) (fun c => absurd c (by decide)) (fun _ => ?_)
  refine lv_iload_n hx hb dX0_honestOnes_17 rfl (lv_at hl 1 rfl) ?_
  refine lv_aload_n hx hb dX0_honestOnes_18 rfl (lv_at hl 2 rfl) ?_
  refine xget C hP 0 rfl rfl zuX0 1 (by decide) zw1_238 rfl dX0_honestOnes_19 ?_
  refine xget C hP 2 rfl rfl zuX4 1 (by decide) zw1_173 rfl dX0_honestOnes_22 ?_
  refine lv_iload hx hb dX0_honestOnes_25 (lv_at hl 0 rfl) ?_
  refine xiald C hP 3 rfl 0 rfl (by decide) (by decide) dX0_honestOnes_27 ?_
  refine lv_if_ne (tgt := 51) hx hb dX0_honestOnes_28 (by decide) (fun c => absurd (by decide) c) (fun _ => ?_)
  refine lv_aload_n hx hb dX0_honestOnes_31 rfl (lv_at hl 3 rfl) ?_
  refine lv_iload_n hx hb dX0_honestOnes_32 rfl (lv_at hl 4 rfl) ?_
  refine lv_iload hx hb dX0_honestOnes_33 (lv_at hl 0 rfl) ?_
  refine lv_iadd hx hb dX0_honestOnes_35 ?_
  refine lv_topi (nm_r (e' := nI (b + 0)) (nI_add _ _) ?_)
  refine xiald C hP 4 rfl (b + 0) rfl (by omega) (by omega) dX0_honestOnes_36 ?_
  refine xi (wr := [(ha, .inr (0, [.ref hr, .ref hg, .int z1, .int z2, .int z3])), (hr, .inr (7, [.int (nI 4), .int (nI k), .int (nI al), .int (nI be), .int ea, .int pr, .ref sm, .int (nI 3), .ref ca])), (hg, .inr (4, [.ref nd, .ref kd, .ref lk, .ref vw])), (kd, .inl (cs 0, 8, .inl (fun _ => nI 0))), (a, .inl (cs 0, nn, .inl (fun _ => nI 0)))]) (xS (As := [.int (nI 0)]) (rest := [.int (nI 0)]) C (c_X4_colourOf l D cs (nI 0)) kX0_29 hP hD [] rfl (by decide) ⟨Nat.le_of_ble_eq_true rfl, Nat.le_of_ble_eq_true rfl⟩ rfl hl.1 rfl (Nat.le_of_ble_eq_true rfl) dX0_honestOnes_37 ⟨Nat.le_of_ble_eq_true rfl, Nat.le_of_ble_eq_true rfl⟩) hP hD hS hA [] [0, 1, 2, 3, 4] rfl rfl (by decide) (by decide) (fun r_1 u_2 H locs hw_r_1 hP hD hS => ?_)
  have hw_r_1 : r_1 = ((nI 0) &&& nI 3) - nI 1 := hw_r_1
  refine W.widen (k := 0) (n := 0) (Nat.le_of_ble_eq_true rfl) (Nat.le_of_ble_eq_true rfl) ?_
  have hP : va_P D vwCl [(ha, .inr (0, [.ref hr, .ref hg, .int z1, .int z2, .int z3])), (hr, .inr (7, [.int (nI 4), .int (nI k), .int (nI al), .int (nI be), .int ea, .int pr, .ref sm, .int (nI 3), .ref ca])), (hg, .inr (4, [.ref nd, .ref kd, .ref lk, .ref vw])), (kd, .inl (cs 0, 8, .inl (fun _ => nI 0))), (a, .inl (cs 0, nn, .inl (fun _ => nI 0)))] H := hP
  have hD : va_D A [(ha, .inr (0, [.ref hr, .ref hg, .int z1, .int z2, .int z3])), (hr, .inr (7, [.int (nI 4), .int (nI k), .int (nI al), .int (nI be), .int ea, .int pr, .ref sm, .int (nI 3), .ref ca])), (hg, .inr (4, [.ref nd, .ref kd, .ref lk, .ref vw])), (kd, .inl (cs 0, 8, .inl (fun _ => nI 0))), (a, .inl (cs 0, nn, .inl (fun _ => nI 0)))] := hD
  obtain rfl : r_1 = (-1) := by rw [hw_r_1]; decide
  refine lv_iconst (v := nI 1) hx hb dX0_honestOnes_40 (by decide) ?_
  refine lv_icmp_ne (tgt := 51) hx hb dX0_honestOnes_41 (by decide) (fun _ => ?_) (fun c => absurd c (by decide))
  refine lv_iconst (v := nI 0) hx hb dX0_honestOnes_51 (by decide) ?_
  refine lv_ior hx hb dX0_honestOnes_52 ?_
  refine lv_topi (nm_r (e' := nI 0) (by decide) ?_)
  refine lv_istore_n (lv' := [(3, .int (nI 0)), (4, .int (nI 0)), (0, .ref ha), (1, .ref a), (2, .int (nI b))]) hx hb dX0_honestOnes_53 rfl hl (by decide) rfl (fun ls hl => ?_)
  refine lv_iinc (v := nI 1) (lv' := [(4, .int (nI 1)), (3, .int (nI 0)), (0, .ref ha), (1, .ref a), (2, .int (nI b))]) hx hb dX0_honestOnes_54 hl (k := 1) rfl (by decide) (by decide) rfl (fun ls hl => ?_)
  refine lv_goto (tgt := 5) hx hb dX0_honestOnes_57 (by decide) ?_
  refine lv_iload hx hb dX0_honestOnes_5 (lv_at hl 0 rfl) ?_
  refine lv_aload_n hx hb dX0_honestOnes_7 rfl (lv_at hl 2 rfl) ?_
  refine xget C hP 0 rfl rfl zuX0 0 (by decide) zw1_237 rfl dX0_honestOnes_8 ?_
  refine xget C hP 1 rfl rfl zuX7 0 (by decide) zw1_76 rfl dX0_honestOnes_11 ?_
  refine lv_icmp_ge (tgt := 60) hx hb dX0_honestOnes_14 (by decide) (fun c => absurd c (by decide)) (fun _ => ?_)
  refine lv_iload_n hx hb dX0_honestOnes_17 rfl (lv_at hl 1 rfl) ?_
  refine lv_aload_n hx hb dX0_honestOnes_18 rfl (lv_at hl 2 rfl) ?_
  refine xget C hP 0 rfl rfl zuX0 1 (by decide) zw1_238 rfl dX0_honestOnes_19 ?_
  refine xget C hP 2 rfl rfl zuX4 1 (by decide) zw1_173 rfl dX0_honestOnes_22 ?_
  refine lv_iload hx hb dX0_honestOnes_25 (lv_at hl 0 rfl) ?_
  refine xiald C hP 3 rfl 1 rfl (by decide) (by decide) dX0_honestOnes_27 ?_
  refine lv_if_ne (tgt := 51) hx hb dX0_honestOnes_28 (by decide) (fun c => absurd (by decide) c) (fun _ => ?_)
  refine lv_aload_n hx hb dX0_honestOnes_31 rfl (lv_at hl 3 rfl) ?_
  refine lv_iload_n hx hb dX0_honestOnes_32 rfl (lv_at hl 4 rfl) ?_
  refine lv_iload hx hb dX0_honestOnes_33 (lv_at hl 0 rfl) ?_
  refine lv_iadd hx hb dX0_honestOnes_35 ?_
  refine lv_topi (nm_r (e' := nI (b + 1)) (nI_add _ _) ?_)
  refine xiald C hP 4 rfl (b + 1) rfl (by omega) (by omega) dX0_honestOnes_36 ?_
  refine xi (wr := [(ha, .inr (0, [.ref hr, .ref hg, .int z1, .int z2, .int z3])), (hr, .inr (7, [.int (nI 4), .int (nI k), .int (nI al), .int (nI be), .int ea, .int pr, .ref sm, .int (nI 3), .ref ca])), (hg, .inr (4, [.ref nd, .ref kd, .ref lk, .ref vw])), (kd, .inl (cs 0, 8, .inl (fun _ => nI 0))), (a, .inl (cs 0, nn, .inl (fun _ => nI 0)))]) (xS (As := [.int (nI 0)]) (rest := [.int (nI 0)]) C (c_X4_colourOf l D cs (nI 0)) kX0_29 hP hD [] rfl (by decide) ⟨Nat.le_of_ble_eq_true rfl, Nat.le_of_ble_eq_true rfl⟩ rfl hl.1 rfl (Nat.le_of_ble_eq_true rfl) dX0_honestOnes_37 ⟨Nat.le_of_ble_eq_true rfl, Nat.le_of_ble_eq_true rfl⟩) hP hD hS hA [] [0, 1, 2, 3, 4] rfl rfl (by decide) (by decide) (fun r_3 u_4 H locs hw_r_3 hP hD hS => ?_)
  have hw_r_3 : r_3 = ((nI 0) &&& nI 3) - nI 1 := hw_r_3
  refine W.widen (k := 0) (n := 0) (Nat.le_of_ble_eq_true rfl) (Nat.le_of_ble_eq_true rfl) ?_
  have hP : va_P D vwCl [(ha, .inr (0, [.ref hr, .ref hg, .int z1, .int z2, .int z3])), (hr, .inr (7, [.int (nI 4), .int (nI k), .int (nI al), .int (nI be), .int ea, .int pr, .ref sm, .int (nI 3), .ref ca])), (hg, .inr (4, [.ref nd, .ref kd, .ref lk, .ref vw])), (kd, .inl (cs 0, 8, .inl (fun _ => nI 0))), (a, .inl (cs 0, nn, .inl (fun _ => nI 0)))] H := hP
  have hD : va_D A [(ha, .inr (0, [.ref hr, .ref hg, .int z1, .int z2, .int z3])), (hr, .inr (7, [.int (nI 4), .int (nI k), .int (nI al), .int (nI be), .int ea, .int pr, .ref sm, .int (nI 3), .ref ca])), (hg, .inr (4, [.ref nd, .ref kd, .ref lk, .ref vw])), (kd, .inl (cs 0, 8, .inl (fun _ => nI 0))), (a, .inl (cs 0, nn, .inl (fun _ => nI 0)))] := hD
  obtain rfl : r_3 = (-1) := by rw [hw_r_3]; decide
  refine lv_iconst (v := nI 1) hx hb dX0_honestOnes_40 (by decide) ?_
  refine lv_icmp_ne (tgt := 51) hx hb dX0_honestOnes_41 (by decide) (fun _ => ?_) (fun c => absurd c (by decide))
  refine lv_iconst (v := nI 0) hx hb dX0_honestOnes_51 (by decide) ?_
  refine lv_ior hx hb dX0_honestOnes_52 ?_
  refine lv_topi (nm_r (e' := nI 0) (by decide) ?_)
  refine lv_istore_n (lv' := [(3, .int (nI 0)), (4, .int (nI 1)), (0, .ref ha), (1, .ref a), (2, .int (nI b))]) hx hb dX0_honestOnes_53 rfl hl (by decide) rfl (fun ls hl => ?_)
  refine lv_iinc (v := nI 2) (lv' := [(4, .int (nI 2)), (3, .int (nI 0)), (0, .ref ha), (1, .ref a), (2, .int (nI b))]) hx hb dX0_honestOnes_54 hl (k := 1) rfl (by decide) (by decide) rfl (fun ls hl => ?_)
  refine lv_goto (tgt := 5) hx hb dX0_honestOnes_57 (by decide) ?_
  refine lv_iload hx hb dX0_honestOnes_5 (lv_at hl 0 rfl) ?_
  refine lv_aload_n hx hb dX0_honestOnes_7 rfl (lv_at hl 2 rfl) ?_
  refine xget C hP 0 rfl rfl zuX0 0 (by decide) zw1_237 rfl dX0_honestOnes_8 ?_
  refine xget C hP 1 rfl rfl zuX7 0 (by decide) zw1_76 rfl dX0_honestOnes_11 ?_
  refine lv_icmp_ge (tgt := 60) hx hb dX0_honestOnes_14 (by decide) (fun c => absurd c (by decide)) (fun _ => ?_)
  refine lv_iload_n hx hb dX0_honestOnes_17 rfl (lv_at hl 1 rfl) ?_
  refine lv_aload_n hx hb dX0_honestOnes_18 rfl (lv_at hl 2 rfl) ?_
  refine xget C hP 0 rfl rfl zuX0 1 (by decide) zw1_238 rfl dX0_honestOnes_19 ?_
  refine xget C hP 2 rfl rfl zuX4 1 (by decide) zw1_173 rfl dX0_honestOnes_22 ?_
  refine lv_iload hx hb dX0_honestOnes_25 (lv_at hl 0 rfl) ?_
  refine xiald C hP 3 rfl 2 rfl (by decide) (by decide) dX0_honestOnes_27 ?_
  refine lv_if_ne (tgt := 51) hx hb dX0_honestOnes_28 (by decide) (fun c => absurd (by decide) c) (fun _ => ?_)
  refine lv_aload_n hx hb dX0_honestOnes_31 rfl (lv_at hl 3 rfl) ?_
  refine lv_iload_n hx hb dX0_honestOnes_32 rfl (lv_at hl 4 rfl) ?_
  refine lv_iload hx hb dX0_honestOnes_33 (lv_at hl 0 rfl) ?_
  refine lv_iadd hx hb dX0_honestOnes_35 ?_
  refine lv_topi (nm_r (e' := nI (b + 2)) (nI_add _ _) ?_)
  refine xiald C hP 4 rfl (b + 2) rfl (by omega) (by omega) dX0_honestOnes_36 ?_
  refine xi (wr := [(ha, .inr (0, [.ref hr, .ref hg, .int z1, .int z2, .int z3])), (hr, .inr (7, [.int (nI 4), .int (nI k), .int (nI al), .int (nI be), .int ea, .int pr, .ref sm, .int (nI 3), .ref ca])), (hg, .inr (4, [.ref nd, .ref kd, .ref lk, .ref vw])), (kd, .inl (cs 0, 8, .inl (fun _ => nI 0))), (a, .inl (cs 0, nn, .inl (fun _ => nI 0)))]) (xS (As := [.int (nI 0)]) (rest := [.int (nI 0)]) C (c_X4_colourOf l D cs (nI 0)) kX0_29 hP hD [] rfl (by decide) ⟨Nat.le_of_ble_eq_true rfl, Nat.le_of_ble_eq_true rfl⟩ rfl hl.1 rfl (Nat.le_of_ble_eq_true rfl) dX0_honestOnes_37 ⟨Nat.le_of_ble_eq_true rfl, Nat.le_of_ble_eq_true rfl⟩) hP hD hS hA [] [0, 1, 2, 3, 4] rfl rfl (by decide) (by decide) (fun r_5 u_6 H locs hw_r_5 hP hD hS => ?_)
  have hw_r_5 : r_5 = ((nI 0) &&& nI 3) - nI 1 := hw_r_5
  refine W.widen (k := 0) (n := 0) (Nat.le_of_ble_eq_true rfl) (Nat.le_of_ble_eq_true rfl) ?_
  have hP : va_P D vwCl [(ha, .inr (0, [.ref hr, .ref hg, .int z1, .int z2, .int z3])), (hr, .inr (7, [.int (nI 4), .int (nI k), .int (nI al), .int (nI be), .int ea, .int pr, .ref sm, .int (nI 3), .ref ca])), (hg, .inr (4, [.ref nd, .ref kd, .ref lk, .ref vw])), (kd, .inl (cs 0, 8, .inl (fun _ => nI 0))), (a, .inl (cs 0, nn, .inl (fun _ => nI 0)))] H := hP
  have hD : va_D A [(ha, .inr (0, [.ref hr, .ref hg, .int z1, .int z2, .int z3])), (hr, .inr (7, [.int (nI 4), .int (nI k), .int (nI al), .int (nI be), .int ea, .int pr, .ref sm, .int (nI 3), .ref ca])), (hg, .inr (4, [.ref nd, .ref kd, .ref lk, .ref vw])), (kd, .inl (cs 0, 8, .inl (fun _ => nI 0))), (a, .inl (cs 0, nn, .inl (fun _ => nI 0)))] := hD
  obtain rfl : r_5 = (-1) := by rw [hw_r_5]; decide
  refine lv_iconst (v := nI 1) hx hb dX0_honestOnes_40 (by decide) ?_
  refine lv_icmp_ne (tgt := 51) hx hb dX0_honestOnes_41 (by decide) (fun _ => ?_) (fun c => absurd c (by decide))
  refine lv_iconst (v := nI 0) hx hb dX0_honestOnes_51 (by decide) ?_
  refine lv_ior hx hb dX0_honestOnes_52 ?_
  refine lv_topi (nm_r (e' := nI 0) (by decide) ?_)
  refine lv_istore_n (lv' := [(3, .int (nI 0)), (4, .int (nI 2)), (0, .ref ha), (1, .ref a), (2, .int (nI b))]) hx hb dX0_honestOnes_53 rfl hl (by decide) rfl (fun ls hl => ?_)
  refine lv_iinc (v := nI 3) (lv' := [(4, .int (nI 3)), (3, .int (nI 0)), (0, .ref ha), (1, .ref a), (2, .int (nI b))]) hx hb dX0_honestOnes_54 hl (k := 1) rfl (by decide) (by decide) rfl (fun ls hl => ?_)
  refine lv_goto (tgt := 5) hx hb dX0_honestOnes_57 (by decide) ?_
  refine lv_iload hx hb dX0_honestOnes_5 (lv_at hl 0 rfl) ?_
  refine lv_aload_n hx hb dX0_honestOnes_7 rfl (lv_at hl 2 rfl) ?_
  refine xget C hP 0 rfl rfl zuX0 0 (by decide) zw1_237 rfl dX0_honestOnes_8 ?_
  refine xget C hP 1 rfl rfl zuX7 0 (by decide) zw1_76 rfl dX0_honestOnes_11 ?_
  refine lv_icmp_ge (tgt := 60) hx hb dX0_honestOnes_14 (by decide) (fun c => absurd c (by decide)) (fun _ => ?_)
  refine lv_iload_n hx hb dX0_honestOnes_17 rfl (lv_at hl 1 rfl) ?_
  refine lv_aload_n hx hb dX0_honestOnes_18 rfl (lv_at hl 2 rfl) ?_
  refine xget C hP 0 rfl rfl zuX0 1 (by decide) zw1_238 rfl dX0_honestOnes_19 ?_
  refine xget C hP 2 rfl rfl zuX4 1 (by decide) zw1_173 rfl dX0_honestOnes_22 ?_
  refine lv_iload hx hb dX0_honestOnes_25 (lv_at hl 0 rfl) ?_
  refine xiald C hP 3 rfl 3 rfl (by decide) (by decide) dX0_honestOnes_27 ?_
  refine lv_if_ne (tgt := 51) hx hb dX0_honestOnes_28 (by decide) (fun c => absurd (by decide) c) (fun _ => ?_)
  refine lv_aload_n hx hb dX0_honestOnes_31 rfl (lv_at hl 3 rfl) ?_
  refine lv_iload_n hx hb dX0_honestOnes_32 rfl (lv_at hl 4 rfl) ?_
  refine lv_iload hx hb dX0_honestOnes_33 (lv_at hl 0 rfl) ?_
  refine lv_iadd hx hb dX0_honestOnes_35 ?_
  refine lv_topi (nm_r (e' := nI (b + 3)) (nI_add _ _) ?_)
  refine xiald C hP 4 rfl (b + 3) rfl (by omega) (by omega) dX0_honestOnes_36 ?_
  refine xi (wr := [(ha, .inr (0, [.ref hr, .ref hg, .int z1, .int z2, .int z3])), (hr, .inr (7, [.int (nI 4), .int (nI k), .int (nI al), .int (nI be), .int ea, .int pr, .ref sm, .int (nI 3), .ref ca])), (hg, .inr (4, [.ref nd, .ref kd, .ref lk, .ref vw])), (kd, .inl (cs 0, 8, .inl (fun _ => nI 0))), (a, .inl (cs 0, nn, .inl (fun _ => nI 0)))]) (xS (As := [.int (nI 0)]) (rest := [.int (nI 0)]) C (c_X4_colourOf l D cs (nI 0)) kX0_29 hP hD [] rfl (by decide) ⟨Nat.le_of_ble_eq_true rfl, Nat.le_of_ble_eq_true rfl⟩ rfl hl.1 rfl (Nat.le_of_ble_eq_true rfl) dX0_honestOnes_37 ⟨Nat.le_of_ble_eq_true rfl, Nat.le_of_ble_eq_true rfl⟩) hP hD hS hA [] [0, 1, 2, 3, 4] rfl rfl (by decide) (by decide) (fun r_7 u_8 H locs hw_r_7 hP hD hS => ?_)
  have hw_r_7 : r_7 = ((nI 0) &&& nI 3) - nI 1 := hw_r_7
  refine W.widen (k := 0) (n := 0) (Nat.le_of_ble_eq_true rfl) (Nat.le_of_ble_eq_true rfl) ?_
  have hP : va_P D vwCl [(ha, .inr (0, [.ref hr, .ref hg, .int z1, .int z2, .int z3])), (hr, .inr (7, [.int (nI 4), .int (nI k), .int (nI al), .int (nI be), .int ea, .int pr, .ref sm, .int (nI 3), .ref ca])), (hg, .inr (4, [.ref nd, .ref kd, .ref lk, .ref vw])), (kd, .inl (cs 0, 8, .inl (fun _ => nI 0))), (a, .inl (cs 0, nn, .inl (fun _ => nI 0)))] H := hP
  have hD : va_D A [(ha, .inr (0, [.ref hr, .ref hg, .int z1, .int z2, .int z3])), (hr, .inr (7, [.int (nI 4), .int (nI k), .int (nI al), .int (nI be), .int ea, .int pr, .ref sm, .int (nI 3), .ref ca])), (hg, .inr (4, [.ref nd, .ref kd, .ref lk, .ref vw])), (kd, .inl (cs 0, 8, .inl (fun _ => nI 0))), (a, .inl (cs 0, nn, .inl (fun _ => nI 0)))] := hD
  obtain rfl : r_7 = (-1) := by rw [hw_r_7]; decide
  refine lv_iconst (v := nI 1) hx hb dX0_honestOnes_40 (by decide) ?_
  refine lv_icmp_ne (tgt := 51) hx hb dX0_honestOnes_41 (by decide) (fun _ => ?_) (fun c => absurd c (by decide))
  refine lv_iconst (v := nI 0) hx hb dX0_honestOnes_51 (by decide) ?_
  refine lv_ior hx hb dX0_honestOnes_52 ?_
  refine lv_topi (nm_r (e' := nI 0) (by decide) ?_)
  refine lv_istore_n (lv' := [(3, .int (nI 0)), (4, .int (nI 3)), (0, .ref ha), (1, .ref a), (2, .int (nI b))]) hx hb dX0_honestOnes_53 rfl hl (by decide) rfl (fun ls hl => ?_)
  refine lv_iinc (v := nI 4) (lv' := [(4, .int (nI 4)), (3, .int (nI 0)), (0, .ref ha), (1, .ref a), (2, .int (nI b))]) hx hb dX0_honestOnes_54 hl (k := 1) rfl (by decide) (by decide) rfl (fun ls hl => ?_)
  refine lv_goto (tgt := 5) hx hb dX0_honestOnes_57 (by decide) ?_
  refine lv_iload hx hb dX0_honestOnes_5 (lv_at hl 0 rfl) ?_
  refine lv_aload_n hx hb dX0_honestOnes_7 rfl (lv_at hl 2 rfl) ?_
  refine xget C hP 0 rfl rfl zuX0 0 (by decide) zw1_237 rfl dX0_honestOnes_8 ?_
  refine xget C hP 1 rfl rfl zuX7 0 (by decide) zw1_76 rfl dX0_honestOnes_11 ?_
  refine lv_icmp_ge (tgt := 60) hx hb dX0_honestOnes_14 (by decide) (fun _ => ?_) (fun c => absurd (by decide) c)
  refine lv_iload_n hx hb dX0_honestOnes_60 rfl (lv_at hl 1 rfl) ?_
  exact xreti C () rfl hP hD hS (Nat.le_of_ble_eq_true rfl) (Nat.le_of_ble_eq_true rfl) rfl dX0_honestOnes_61

set_option maxHeartbeats 4000000 in
set_option maxRecDepth 100000 in
theorem c_X9_init_z (l : Launch) (D : va_G) (cs : Nat → ClassId) (hs : Nat) : xMet l D cs yX9_init cX9_init 1 none ({ frames := 1, cells := 2, slots := 20104, locals := 20 } : Room) [.ref hs] [(hs, .inr (9, [.null, .null, .int 0]))] (xQv D (fun (u : Nat × Nat) => match u with | (ra1, sa1) => True) (fun (u : Nat × Nat) => match u with | (ra1, sa1) => [(hs, .inr (9, [.ref ra1, .ref sa1, .int (nI 0)])), (ra1, .inl (cs 0, 16008, .inl (fun _ => nI 0))), (sa1, .inl (cs 0, 4096, .inl (fun _ => nI 0)))])) := by
  refine xMet.intro (by decide) (Nat.le_of_ble_eq_true rfl) ?_
  intro p e s m args below meth c A ls C hP hD hS hl
  have hx := C.1
  have hb := C.2.1
  have hz := C.2.2.2.2.1
  have hown := C.2.2.2.1
  have hA := C.2.2.2.2.2.2.2.2.2
  have hAO := C.2.2.2.2.2.2.2.2.1.2.2
  have hl : lv_has ls 1 [(0, .ref hs)] := hl
  obtain ⟨H, hH⟩ : ∃ H, H = s.heap := ⟨_, rfl⟩
  have hP : va_P D vwCl [(hs, .inr (9, [.null, .null, .int 0]))] H := by rw [hH]; exact hP
  have hS : va_S A s.heap H [] := by rw [hH]; exact hS
  obtain ⟨locs, hlocs⟩ : ∃ z : List Loc, z = [] := ⟨_, rfl⟩
  rw [← hlocs] at hS
  suffices hW : W p l e ({ frames := 1, cells := 2, slots := 20104, locals := 20 } : Room) s m args below meth c H locs 0 0 (MQ below ((xQv D (fun (u : Nat × Nat) => match u with | (ra1, sa1) => True) (fun (u : Nat × Nat) => match u with | (ra1, sa1) => [(hs, .inr (9, [.ref ra1, .ref sa1, .int (nI 0)])), (ra1, .inl (cs 0, 16008, .inl (fun _ => nI 0))), (sa1, .inl (cs 0, 4096, .inl (fun _ => nI 0)))])) A) args s 2 20104 A) (F0 m 0 ls []) by rw [hlocs, hH] at hW; exact hW
  refine lv_aload_n hx hb dX9_init_0 rfl (lv_at hl 0 rfl) ?_
  refine W.objInit hx hb hown (hz _ zw3_168) (hz _ zw1_30) (hz _ zw1_31) rfl (by rw [C.2.2.1]; exact hl.1) rfl dX9_init_1 (Nat.le_of_ble_eq_true rfl) (Nat.le_of_ble_eq_true rfl) ?_
  refine W.eq (g2 := F0 m 4 ls []) rfl ?_
  refine lv_aload_n hx hb dX9_init_4 rfl (lv_at hl 0 rfl) ?_
  refine lv_sipush (v := nI 16008) hx hb dX9_init_5 (by decide) ?_
  refine xnewi (n := 16008) C hP hD hS zw1_126 rfl (by decide) (Nat.le_of_ble_eq_true rfl) (Nat.le_of_ble_eq_true rfl) dX9_init_8 (fun q_1 H hP hD hS => ?_)
  refine W.widen (k := 1) (n := 16008) (Nat.le_of_ble_eq_true rfl) (Nat.le_of_ble_eq_true rfl) ?_
  have hP : va_P D vwCl [(hs, .inr (9, [.null, .null, .int 0])), (q_1, .inl (cs 0, 16008, .inl (fun _ => 0)))] H := hP
  have hD : va_D A [(hs, .inr (9, [.null, .null, .int 0])), (q_1, .inl (cs 0, 16008, .inl (fun _ => 0)))] := hD
  refine xputF C hP hD hS 0 rfl rfl zuX9 tyX9 tyX9_ok nmX9 0 (by decide) zw3_169 rfl rfl rfl rfl rfl (Nat.le_of_ble_eq_true rfl) dX9_init_10 (fun H locs hP hD hS => ?_)
  have hP : va_P D vwCl [(hs, .inr (9, [.ref q_1, .null, .int 0])), (q_1, .inl (cs 0, 16008, .inl (fun _ => 0)))] H := hP
  have hD : va_D A [(hs, .inr (9, [.ref q_1, .null, .int 0])), (q_1, .inl (cs 0, 16008, .inl (fun _ => 0)))] := hD
  refine lv_aload_n hx hb dX9_init_13 rfl (lv_at hl 0 rfl) ?_
  refine lv_sipush (v := nI 4096) hx hb dX9_init_14 (by decide) ?_
  refine xnewi (n := 4096) C hP hD hS zw1_126 rfl (by decide) (Nat.le_of_ble_eq_true rfl) (Nat.le_of_ble_eq_true rfl) dX9_init_17 (fun q_2 H hP hD hS => ?_)
  refine W.widen (k := 2) (n := 20104) (Nat.le_of_ble_eq_true rfl) (Nat.le_of_ble_eq_true rfl) ?_
  have hP : va_P D vwCl [(hs, .inr (9, [.ref q_1, .null, .int 0])), (q_1, .inl (cs 0, 16008, .inl (fun _ => 0))), (q_2, .inl (cs 0, 4096, .inl (fun _ => 0)))] H := hP
  have hD : va_D A [(hs, .inr (9, [.ref q_1, .null, .int 0])), (q_1, .inl (cs 0, 16008, .inl (fun _ => 0))), (q_2, .inl (cs 0, 4096, .inl (fun _ => 0)))] := hD
  refine xputF C hP hD hS 0 rfl rfl zuX9 tyX9 tyX9_ok nmX9 1 (by decide) zw3_172 rfl rfl rfl rfl rfl (Nat.le_of_ble_eq_true rfl) dX9_init_19 (fun H locs hP hD hS => ?_)
  have hP : va_P D vwCl [(hs, .inr (9, [.ref q_1, .ref q_2, .int 0])), (q_1, .inl (cs 0, 16008, .inl (fun _ => 0))), (q_2, .inl (cs 0, 4096, .inl (fun _ => 0)))] H := hP
  have hD : va_D A [(hs, .inr (9, [.ref q_1, .ref q_2, .int 0])), (q_1, .inl (cs 0, 16008, .inl (fun _ => 0))), (q_2, .inl (cs 0, 4096, .inl (fun _ => 0)))] := hD
  exact xretv C (⟨q_1, q_2⟩) trivial hP hD hS (Nat.le_of_ble_eq_true rfl) (Nat.le_of_ble_eq_true rfl) dX9_init_22

set_option maxHeartbeats 4000000 in
set_option maxRecDepth 100000 in
theorem c_X9_clear_z (l : Launch) (D : va_G) (cs : Nat → ClassId) (hs ra1 sa1 : Nat) (sf : Nat → Int32) (sz : Int32) : xMet l D cs yX9_clear cX9_clear 1 none ({ frames := 1, cells := 0, slots := 0, locals := 23 } : Room) [.ref hs] [(hs, .inr (9, [.ref ra1, .ref sa1, .int sz])), (ra1, .inl (cs 0, 16008, .inl (fun _ => nI 0))), (sa1, .inl (cs 0, 4096, .inl sf))] (xQv D (fun (_u : Unit) => True) (fun (_u : Unit) => [(hs, .inr (9, [.ref ra1, .ref sa1, .int (nI 0)])), (ra1, .inl (cs 0, 16008, .inl (fun _ => nI 0))), (sa1, .inl (cs 0, 4096, .inl (fun _ => nI 0)))])) := by
  refine xMet.intro (by decide) (Nat.le_of_ble_eq_true rfl) ?_
  intro p e s m args below meth c A ls C hP hD hS hl
  have hx := C.1
  have hb := C.2.1
  have hz := C.2.2.2.2.1
  have hown := C.2.2.2.1
  have hA := C.2.2.2.2.2.2.2.2.2
  have hAO := C.2.2.2.2.2.2.2.2.1.2.2
  have hl : lv_has ls 1 [(0, .ref hs)] := hl
  obtain ⟨H, hH⟩ : ∃ H, H = s.heap := ⟨_, rfl⟩
  have hP : va_P D vwCl [(hs, .inr (9, [.ref ra1, .ref sa1, .int sz])), (ra1, .inl (cs 0, 16008, .inl (fun _ => nI 0))), (sa1, .inl (cs 0, 4096, .inl sf))] H := by rw [hH]; exact hP
  have hS : va_S A s.heap H [] := by rw [hH]; exact hS
  obtain ⟨locs, hlocs⟩ : ∃ z : List Loc, z = [] := ⟨_, rfl⟩
  rw [← hlocs] at hS
  suffices hW : W p l e ({ frames := 1, cells := 0, slots := 0, locals := 23 } : Room) s m args below meth c H locs 0 0 (MQ below ((xQv D (fun (_u : Unit) => True) (fun (_u : Unit) => [(hs, .inr (9, [.ref ra1, .ref sa1, .int (nI 0)])), (ra1, .inl (cs 0, 16008, .inl (fun _ => nI 0))), (sa1, .inl (cs 0, 4096, .inl (fun _ => nI 0)))])) A) args s 0 0 A) (F0 m 0 ls []) by rw [hlocs, hH] at hW; exact hW
  refine lv_aload_n hx hb dX9_clear_0 rfl (lv_at hl 0 rfl) ?_
  refine xget C hP 0 rfl rfl zuX9 1 (by decide) zw3_172 rfl dX9_clear_1 ?_
  refine lv_iconst (v := nI 0) hx hb dX9_clear_4 (by decide) ?_
  refine xv (wr := [(hs, .inr (9, [.ref ra1, .ref sa1, .int sz])), (ra1, .inl (cs 0, 16008, .inl (fun _ => nI 0)))]) (xS (As := [.ref sa1, .int (nI 0)]) (rest := []) C (c_J7_fill_53178 l D cs sa1 4096 sf (nI 0) (by first | omega | decide)) kX9_18 hP hD [2] rfl (by decide) ⟨Nat.le_of_ble_eq_true rfl, Nat.le_of_ble_eq_true rfl⟩ rfl hl.1 rfl (Nat.le_of_ble_eq_true rfl) dX9_clear_5 ⟨Nat.le_of_ble_eq_true rfl, Nat.le_of_ble_eq_true rfl⟩) hP hD hS hA [2] [0, 1] rfl rfl (by decide) (by decide) (fun u_2 H locs hw_r_1 hP hD hS => ?_)
  refine W.widen (k := 0) (n := 0) (Nat.le_of_ble_eq_true rfl) (Nat.le_of_ble_eq_true rfl) ?_
  have hP : va_P D vwCl [(hs, .inr (9, [.ref ra1, .ref sa1, .int sz])), (ra1, .inl (cs 0, 16008, .inl (fun _ => nI 0))), (sa1, .inl (cs 0, 4096, .inl (fun _ => (nI 0))))] H := hP
  have hD : va_D A [(hs, .inr (9, [.ref ra1, .ref sa1, .int sz])), (ra1, .inl (cs 0, 16008, .inl (fun _ => nI 0))), (sa1, .inl (cs 0, 4096, .inl (fun _ => (nI 0))))] := hD
  refine lv_aload_n hx hb dX9_clear_8 rfl (lv_at hl 0 rfl) ?_
  refine lv_iconst (v := nI 0) hx hb dX9_clear_9 (by decide) ?_
  refine xput C hP hD hS 0 rfl rfl zuX9 tyX9 tyX9_ok nmX9 2 (by decide) zw3_173 rfl rfl rfl (Nat.le_of_ble_eq_true rfl) dX9_clear_10 (fun H locs hP hD hS => ?_)
  have hP : va_P D vwCl [(hs, .inr (9, [.ref ra1, .ref sa1, .int (nI 0)])), (ra1, .inl (cs 0, 16008, .inl (fun _ => nI 0))), (sa1, .inl (cs 0, 4096, .inl (fun _ => (nI 0))))] H := hP
  have hD : va_D A [(hs, .inr (9, [.ref ra1, .ref sa1, .int (nI 0)])), (ra1, .inl (cs 0, 16008, .inl (fun _ => nI 0))), (sa1, .inl (cs 0, 4096, .inl (fun _ => (nI 0))))] := hD
  exact xretv C () trivial hP hD hS (Nat.le_of_ble_eq_true rfl) (Nat.le_of_ble_eq_true rfl) dX9_clear_13

set_option maxHeartbeats 4000000 in
set_option maxRecDepth 100000 in
theorem c_X9_hash_z (l : Launch) (D : va_G) (cs : Nat → ClassId) (a : Nat) : xMet l D cs yX9_hash cX9_hash 3 (some .int) ({ frames := 0, cells := 0, slots := 0, locals := 0 } : Room) [.ref a] [(a, .inl (cs 0, 8, .inl (fun _ => nI 0)))] (xQi D (fun (r : Int32) (_u : Unit) => r = nI 0) (fun (_u : Unit) => [(a, .inl (cs 0, 8, .inl (fun _ => nI 0)))])) := by
  refine xMet.intro (by decide) (Nat.le_of_ble_eq_true rfl) ?_
  intro p e s m args below meth c A ls C hP hD hS hl
  have hx := C.1
  have hb := C.2.1
  have hz := C.2.2.2.2.1
  have hown := C.2.2.2.1
  have hA := C.2.2.2.2.2.2.2.2.2
  have hAO := C.2.2.2.2.2.2.2.2.1.2.2
  have hl : lv_has ls 3 [(0, .ref a)] := hl
  obtain ⟨H, hH⟩ : ∃ H, H = s.heap := ⟨_, rfl⟩
  have hP : va_P D vwCl [(a, .inl (cs 0, 8, .inl (fun _ => nI 0)))] H := by rw [hH]; exact hP
  have hS : va_S A s.heap H [] := by rw [hH]; exact hS
  obtain ⟨locs, hlocs⟩ : ∃ z : List Loc, z = [] := ⟨_, rfl⟩
  rw [← hlocs] at hS
  suffices hW : W p l e ({ frames := 0, cells := 0, slots := 0, locals := 0 } : Room) s m args below meth c H locs 0 0 (MQ below ((xQi D (fun (r : Int32) (_u : Unit) => r = nI 0) (fun (_u : Unit) => [(a, .inl (cs 0, 8, .inl (fun _ => nI 0)))])) A) args s 0 0 A) (F0 m 0 ls []) by rw [hlocs, hH] at hW; exact hW
  refine lv_iconst (v := nI 0) hx hb dX9_hash_0 (by decide) ?_
  refine lv_istore_n (lv' := [(1, .int (nI 0)), (0, .ref a)]) hx hb dX9_hash_1 rfl hl (by decide) rfl (fun ls hl => ?_)
  refine lv_iconst (v := nI 0) hx hb dX9_hash_2 (by decide) ?_
  refine lv_istore_n (lv' := [(2, .int (nI 0)), (1, .int (nI 0)), (0, .ref a)]) hx hb dX9_hash_3 rfl hl (by decide) rfl (fun ls hl => ?_)
  refine lv_iload_n hx hb dX9_hash_4 rfl (lv_at hl 0 rfl) ?_
  refine lv_bipush (v := nI 8) hx hb dX9_hash_5 (by decide) ?_
  refine lv_icmp_ge (tgt := 32) hx hb dX9_hash_7 (by decide) (fun c => absurd c (by decide)) (fun _ => ?_)
  refine lv_iload_n hx hb dX9_hash_10 rfl (lv_at hl 1 rfl) ?_
  refine lv_aload_n hx hb dX9_hash_11 rfl (lv_at hl 2 rfl) ?_
  refine lv_iload_n hx hb dX9_hash_12 rfl (lv_at hl 0 rfl) ?_
  refine xiald C hP 0 rfl 0 rfl (by decide) (by decide) dX9_hash_13 ?_
  refine lv_ixor hx hb dX9_hash_14 ?_
  refine lv_topi (nm_r (e' := nI 0) (by decide) ?_)
  refine lv_ldc (v := (-1640531535)) hx hb hown (hz _ zw3_195) dX9_hash_15 ?_
  refine lv_imul hx hb dX9_hash_17 ?_
  refine lv_topi (nm_r (e' := nI 0) (by decide) ?_)
  refine lv_istore_n (lv' := [(1, .int (nI 0)), (2, .int (nI 0)), (0, .ref a)]) hx hb dX9_hash_18 rfl hl (by decide) rfl (fun ls hl => ?_)
  refine lv_iload_n hx hb dX9_hash_19 rfl (lv_at hl 0 rfl) ?_
  refine lv_iload_n hx hb dX9_hash_20 rfl (lv_at hl 0 rfl) ?_
  refine lv_bipush (v := nI 15) hx hb dX9_hash_21 (by decide) ?_
  refine lv_iushr hx hb dX9_hash_23 rfl ?_
  refine lv_topi (nm_r (e' := nI 0) (by decide) ?_)
  refine lv_ixor hx hb dX9_hash_24 ?_
  refine lv_topi (nm_r (e' := nI 0) (by decide) ?_)
  refine lv_istore_n (lv' := [(1, .int (nI 0)), (2, .int (nI 0)), (0, .ref a)]) hx hb dX9_hash_25 rfl hl (by decide) rfl (fun ls hl => ?_)
  refine lv_iinc (v := nI 1) (lv' := [(2, .int (nI 1)), (1, .int (nI 0)), (0, .ref a)]) hx hb dX9_hash_26 hl (k := 1) rfl (by decide) (by decide) rfl (fun ls hl => ?_)
  refine lv_goto (tgt := 4) hx hb dX9_hash_29 (by decide) ?_
  refine lv_iload_n hx hb dX9_hash_4 rfl (lv_at hl 0 rfl) ?_
  refine lv_bipush (v := nI 8) hx hb dX9_hash_5 (by decide) ?_
  refine lv_icmp_ge (tgt := 32) hx hb dX9_hash_7 (by decide) (fun c => absurd c (by decide)) (fun _ => ?_)
  refine lv_iload_n hx hb dX9_hash_10 rfl (lv_at hl 1 rfl) ?_
  refine lv_aload_n hx hb dX9_hash_11 rfl (lv_at hl 2 rfl) ?_
  refine lv_iload_n hx hb dX9_hash_12 rfl (lv_at hl 0 rfl) ?_
  refine xiald C hP 0 rfl 1 rfl (by decide) (by decide) dX9_hash_13 ?_
  refine lv_ixor hx hb dX9_hash_14 ?_
  refine lv_topi (nm_r (e' := nI 0) (by decide) ?_)
  refine lv_ldc (v := (-1640531535)) hx hb hown (hz _ zw3_195) dX9_hash_15 ?_
  refine lv_imul hx hb dX9_hash_17 ?_
  refine lv_topi (nm_r (e' := nI 0) (by decide) ?_)
  refine lv_istore_n (lv' := [(1, .int (nI 0)), (2, .int (nI 1)), (0, .ref a)]) hx hb dX9_hash_18 rfl hl (by decide) rfl (fun ls hl => ?_)
  refine lv_iload_n hx hb dX9_hash_19 rfl (lv_at hl 0 rfl) ?_
  refine lv_iload_n hx hb dX9_hash_20 rfl (lv_at hl 0 rfl) ?_
  refine lv_bipush (v := nI 15) hx hb dX9_hash_21 (by decide) ?_
  refine lv_iushr hx hb dX9_hash_23 rfl ?_
  refine lv_topi (nm_r (e' := nI 0) (by decide) ?_)
  refine lv_ixor hx hb dX9_hash_24 ?_
  refine lv_topi (nm_r (e' := nI 0) (by decide) ?_)
  refine lv_istore_n (lv' := [(1, .int (nI 0)), (2, .int (nI 1)), (0, .ref a)]) hx hb dX9_hash_25 rfl hl (by decide) rfl (fun ls hl => ?_)
  refine lv_iinc (v := nI 2) (lv' := [(2, .int (nI 2)), (1, .int (nI 0)), (0, .ref a)]) hx hb dX9_hash_26 hl (k := 1) rfl (by decide) (by decide) rfl (fun ls hl => ?_)
  refine lv_goto (tgt := 4) hx hb dX9_hash_29 (by decide) ?_
  refine lv_iload_n hx hb dX9_hash_4 rfl (lv_at hl 0 rfl) ?_
  refine lv_bipush (v := nI 8) hx hb dX9_hash_5 (by decide) ?_
  refine lv_icmp_ge (tgt := 32) hx hb dX9_hash_7 (by decide) (fun c => absurd c (by decide)) (fun _ => ?_)
  refine lv_iload_n hx hb dX9_hash_10 rfl (lv_at hl 1 rfl) ?_
  refine lv_aload_n hx hb dX9_hash_11 rfl (lv_at hl 2 rfl) ?_
  refine lv_iload_n hx hb dX9_hash_12 rfl (lv_at hl 0 rfl) ?_
  refine xiald C hP 0 rfl 2 rfl (by decide) (by decide) dX9_hash_13 ?_
  refine lv_ixor hx hb dX9_hash_14 ?_
  refine lv_topi (nm_r (e' := nI 0) (by decide) ?_)
  refine lv_ldc (v := (-1640531535)) hx hb hown (hz _ zw3_195) dX9_hash_15 ?_
  refine lv_imul hx hb dX9_hash_17 ?_
  refine lv_topi (nm_r (e' := nI 0) (by decide) ?_)
  refine lv_istore_n (lv' := [(1, .int (nI 0)), (2, .int (nI 2)), (0, .ref a)]) hx hb dX9_hash_18 rfl hl (by decide) rfl (fun ls hl => ?_)
  refine lv_iload_n hx hb dX9_hash_19 rfl (lv_at hl 0 rfl) ?_
  refine lv_iload_n hx hb dX9_hash_20 rfl (lv_at hl 0 rfl) ?_
  refine lv_bipush (v := nI 15) hx hb dX9_hash_21 (by decide) ?_
  refine lv_iushr hx hb dX9_hash_23 rfl ?_
  refine lv_topi (nm_r (e' := nI 0) (by decide) ?_)
  refine lv_ixor hx hb dX9_hash_24 ?_
  refine lv_topi (nm_r (e' := nI 0) (by decide) ?_)
  refine lv_istore_n (lv' := [(1, .int (nI 0)), (2, .int (nI 2)), (0, .ref a)]) hx hb dX9_hash_25 rfl hl (by decide) rfl (fun ls hl => ?_)
  refine lv_iinc (v := nI 3) (lv' := [(2, .int (nI 3)), (1, .int (nI 0)), (0, .ref a)]) hx hb dX9_hash_26 hl (k := 1) rfl (by decide) (by decide) rfl (fun ls hl => ?_)
  refine lv_goto (tgt := 4) hx hb dX9_hash_29 (by decide) ?_
  refine lv_iload_n hx hb dX9_hash_4 rfl (lv_at hl 0 rfl) ?_
  refine lv_bipush (v := nI 8) hx hb dX9_hash_5 (by decide) ?_
  refine lv_icmp_ge (tgt := 32) hx hb dX9_hash_7 (by decide) (fun c => absurd c (by decide)) (fun _ => ?_)
  refine lv_iload_n hx hb dX9_hash_10 rfl (lv_at hl 1 rfl) ?_
  refine lv_aload_n hx hb dX9_hash_11 rfl (lv_at hl 2 rfl) ?_
  refine lv_iload_n hx hb dX9_hash_12 rfl (lv_at hl 0 rfl) ?_
  refine xiald C hP 0 rfl 3 rfl (by decide) (by decide) dX9_hash_13 ?_
  refine lv_ixor hx hb dX9_hash_14 ?_
  refine lv_topi (nm_r (e' := nI 0) (by decide) ?_)
  refine lv_ldc (v := (-1640531535)) hx hb hown (hz _ zw3_195) dX9_hash_15 ?_
  refine lv_imul hx hb dX9_hash_17 ?_
  refine lv_topi (nm_r (e' := nI 0) (by decide) ?_)
  refine lv_istore_n (lv' := [(1, .int (nI 0)), (2, .int (nI 3)), (0, .ref a)]) hx hb dX9_hash_18 rfl hl (by decide) rfl (fun ls hl => ?_)
  refine lv_iload_n hx hb dX9_hash_19 rfl (lv_at hl 0 rfl) ?_
  refine lv_iload_n hx hb dX9_hash_20 rfl (lv_at hl 0 rfl) ?_
  refine lv_bipush (v := nI 15) hx hb dX9_hash_21 (by decide) ?_
  refine lv_iushr hx hb dX9_hash_23 rfl ?_
  refine lv_topi (nm_r (e' := nI 0) (by decide) ?_)
  refine lv_ixor hx hb dX9_hash_24 ?_
  refine lv_topi (nm_r (e' := nI 0) (by decide) ?_)
  refine lv_istore_n (lv' := [(1, .int (nI 0)), (2, .int (nI 3)), (0, .ref a)]) hx hb dX9_hash_25 rfl hl (by decide) rfl (fun ls hl => ?_)
  refine lv_iinc (v := nI 4) (lv' := [(2, .int (nI 4)), (1, .int (nI 0)), (0, .ref a)]) hx hb dX9_hash_26 hl (k := 1) rfl (by decide) (by decide) rfl (fun ls hl => ?_)
  refine lv_goto (tgt := 4) hx hb dX9_hash_29 (by decide) ?_
  refine lv_iload_n hx hb dX9_hash_4 rfl (lv_at hl 0 rfl) ?_
  refine lv_bipush (v := nI 8) hx hb dX9_hash_5 (by decide) ?_
  refine lv_icmp_ge (tgt := 32) hx hb dX9_hash_7 (by decide) (fun c => absurd c (by decide)) (fun _ => ?_)
  refine lv_iload_n hx hb dX9_hash_10 rfl (lv_at hl 1 rfl) ?_
  refine lv_aload_n hx hb dX9_hash_11 rfl (lv_at hl 2 rfl) ?_
  refine lv_iload_n hx hb dX9_hash_12 rfl (lv_at hl 0 rfl) ?_
  refine xiald C hP 0 rfl 4 rfl (by decide) (by decide) dX9_hash_13 ?_
  refine lv_ixor hx hb dX9_hash_14 ?_
  refine lv_topi (nm_r (e' := nI 0) (by decide) ?_)
  refine lv_ldc (v := (-1640531535)) hx hb hown (hz _ zw3_195) dX9_hash_15 ?_
  refine lv_imul hx hb dX9_hash_17 ?_
  refine lv_topi (nm_r (e' := nI 0) (by decide) ?_)
  refine lv_istore_n (lv' := [(1, .int (nI 0)), (2, .int (nI 4)), (0, .ref a)]) hx hb dX9_hash_18 rfl hl (by decide) rfl (fun ls hl => ?_)
  refine lv_iload_n hx hb dX9_hash_19 rfl (lv_at hl 0 rfl) ?_
  refine lv_iload_n hx hb dX9_hash_20 rfl (lv_at hl 0 rfl) ?_
  refine lv_bipush (v := nI 15) hx hb dX9_hash_21 (by decide) ?_
  refine lv_iushr hx hb dX9_hash_23 rfl ?_
  refine lv_topi (nm_r (e' := nI 0) (by decide) ?_)
  refine lv_ixor hx hb dX9_hash_24 ?_
  refine lv_topi (nm_r (e' := nI 0) (by decide) ?_)
  refine lv_istore_n (lv' := [(1, .int (nI 0)), (2, .int (nI 4)), (0, .ref a)]) hx hb dX9_hash_25 rfl hl (by decide) rfl (fun ls hl => ?_)
  refine lv_iinc (v := nI 5) (lv' := [(2, .int (nI 5)), (1, .int (nI 0)), (0, .ref a)]) hx hb dX9_hash_26 hl (k := 1) rfl (by decide) (by decide) rfl (fun ls hl => ?_)
  refine lv_goto (tgt := 4) hx hb dX9_hash_29 (by decide) ?_
  refine lv_iload_n hx hb dX9_hash_4 rfl (lv_at hl 0 rfl) ?_
  refine lv_bipush (v := nI 8) hx hb dX9_hash_5 (by decide) ?_
  refine lv_icmp_ge (tgt := 32) hx hb dX9_hash_7 (by decide) (fun c => absurd c (by decide)) (fun _ => ?_)
  refine lv_iload_n hx hb dX9_hash_10 rfl (lv_at hl 1 rfl) ?_
  refine lv_aload_n hx hb dX9_hash_11 rfl (lv_at hl 2 rfl) ?_
  refine lv_iload_n hx hb dX9_hash_12 rfl (lv_at hl 0 rfl) ?_
  refine xiald C hP 0 rfl 5 rfl (by decide) (by decide) dX9_hash_13 ?_
  refine lv_ixor hx hb dX9_hash_14 ?_
  refine lv_topi (nm_r (e' := nI 0) (by decide) ?_)
  refine lv_ldc (v := (-1640531535)) hx hb hown (hz _ zw3_195) dX9_hash_15 ?_
  refine lv_imul hx hb dX9_hash_17 ?_
  refine lv_topi (nm_r (e' := nI 0) (by decide) ?_)
  refine lv_istore_n (lv' := [(1, .int (nI 0)), (2, .int (nI 5)), (0, .ref a)]) hx hb dX9_hash_18 rfl hl (by decide) rfl (fun ls hl => ?_)
  refine lv_iload_n hx hb dX9_hash_19 rfl (lv_at hl 0 rfl) ?_
  refine lv_iload_n hx hb dX9_hash_20 rfl (lv_at hl 0 rfl) ?_
  refine lv_bipush (v := nI 15) hx hb dX9_hash_21 (by decide) ?_
  refine lv_iushr hx hb dX9_hash_23 rfl ?_
  refine lv_topi (nm_r (e' := nI 0) (by decide) ?_)
  refine lv_ixor hx hb dX9_hash_24 ?_
  refine lv_topi (nm_r (e' := nI 0) (by decide) ?_)
  refine lv_istore_n (lv' := [(1, .int (nI 0)), (2, .int (nI 5)), (0, .ref a)]) hx hb dX9_hash_25 rfl hl (by decide) rfl (fun ls hl => ?_)
  refine lv_iinc (v := nI 6) (lv' := [(2, .int (nI 6)), (1, .int (nI 0)), (0, .ref a)]) hx hb dX9_hash_26 hl (k := 1) rfl (by decide) (by decide) rfl (fun ls hl => ?_)
  refine lv_goto (tgt := 4) hx hb dX9_hash_29 (by decide) ?_
  refine lv_iload_n hx hb dX9_hash_4 rfl (lv_at hl 0 rfl) ?_
  refine lv_bipush (v := nI 8) hx hb dX9_hash_5 (by decide) ?_
  refine lv_icmp_ge (tgt := 32) hx hb dX9_hash_7 (by decide) (fun c => absurd c (by decide)) (fun _ => ?_)
  refine lv_iload_n hx hb dX9_hash_10 rfl (lv_at hl 1 rfl) ?_
  refine lv_aload_n hx hb dX9_hash_11 rfl (lv_at hl 2 rfl) ?_
  refine lv_iload_n hx hb dX9_hash_12 rfl (lv_at hl 0 rfl) ?_
  refine xiald C hP 0 rfl 6 rfl (by decide) (by decide) dX9_hash_13 ?_
  refine lv_ixor hx hb dX9_hash_14 ?_
  refine lv_topi (nm_r (e' := nI 0) (by decide) ?_)
  refine lv_ldc (v := (-1640531535)) hx hb hown (hz _ zw3_195) dX9_hash_15 ?_
  refine lv_imul hx hb dX9_hash_17 ?_
  refine lv_topi (nm_r (e' := nI 0) (by decide) ?_)
  refine lv_istore_n (lv' := [(1, .int (nI 0)), (2, .int (nI 6)), (0, .ref a)]) hx hb dX9_hash_18 rfl hl (by decide) rfl (fun ls hl => ?_)
  refine lv_iload_n hx hb dX9_hash_19 rfl (lv_at hl 0 rfl) ?_
  refine lv_iload_n hx hb dX9_hash_20 rfl (lv_at hl 0 rfl) ?_
  refine lv_bipush (v := nI 15) hx hb dX9_hash_21 (by decide) ?_
  refine lv_iushr hx hb dX9_hash_23 rfl ?_
  refine lv_topi (nm_r (e' := nI 0) (by decide) ?_)
  refine lv_ixor hx hb dX9_hash_24 ?_
  refine lv_topi (nm_r (e' := nI 0) (by decide) ?_)
  refine lv_istore_n (lv' := [(1, .int (nI 0)), (2, .int (nI 6)), (0, .ref a)]) hx hb dX9_hash_25 rfl hl (by decide) rfl (fun ls hl => ?_)
  refine lv_iinc (v := nI 7) (lv' := [(2, .int (nI 7)), (1, .int (nI 0)), (0, .ref a)]) hx hb dX9_hash_26 hl (k := 1) rfl (by decide) (by decide) rfl (fun ls hl => ?_)
  refine lv_goto (tgt := 4) hx hb dX9_hash_29 (by decide) ?_
  refine lv_iload_n hx hb dX9_hash_4 rfl (lv_at hl 0 rfl) ?_
  refine lv_bipush (v := nI 8) hx hb dX9_hash_5 (by decide) ?_
  refine lv_icmp_ge (tgt := 32) hx hb dX9_hash_7 (by decide) (fun c => absurd c (by decide)) (fun _ => ?_)
  refine lv_iload_n hx hb dX9_hash_10 rfl (lv_at hl 1 rfl) ?_
  refine lv_aload_n hx hb dX9_hash_11 rfl (lv_at hl 2 rfl) ?_
  refine lv_iload_n hx hb dX9_hash_12 rfl (lv_at hl 0 rfl) ?_
  refine xiald C hP 0 rfl 7 rfl (by decide) (by decide) dX9_hash_13 ?_
  refine lv_ixor hx hb dX9_hash_14 ?_
  refine lv_topi (nm_r (e' := nI 0) (by decide) ?_)
  refine lv_ldc (v := (-1640531535)) hx hb hown (hz _ zw3_195) dX9_hash_15 ?_
  refine lv_imul hx hb dX9_hash_17 ?_
  refine lv_topi (nm_r (e' := nI 0) (by decide) ?_)
  refine lv_istore_n (lv' := [(1, .int (nI 0)), (2, .int (nI 7)), (0, .ref a)]) hx hb dX9_hash_18 rfl hl (by decide) rfl (fun ls hl => ?_)
  refine lv_iload_n hx hb dX9_hash_19 rfl (lv_at hl 0 rfl) ?_
  refine lv_iload_n hx hb dX9_hash_20 rfl (lv_at hl 0 rfl) ?_
  refine lv_bipush (v := nI 15) hx hb dX9_hash_21 (by decide) ?_
  refine lv_iushr hx hb dX9_hash_23 rfl ?_
  refine lv_topi (nm_r (e' := nI 0) (by decide) ?_)
  refine lv_ixor hx hb dX9_hash_24 ?_
  refine lv_topi (nm_r (e' := nI 0) (by decide) ?_)
  refine lv_istore_n (lv' := [(1, .int (nI 0)), (2, .int (nI 7)), (0, .ref a)]) hx hb dX9_hash_25 rfl hl (by decide) rfl (fun ls hl => ?_)
  refine lv_iinc (v := nI 8) (lv' := [(2, .int (nI 8)), (1, .int (nI 0)), (0, .ref a)]) hx hb dX9_hash_26 hl (k := 1) rfl (by decide) (by decide) rfl (fun ls hl => ?_)
  refine lv_goto (tgt := 4) hx hb dX9_hash_29 (by decide) ?_
  refine lv_iload_n hx hb dX9_hash_4 rfl (lv_at hl 0 rfl) ?_
  refine lv_bipush (v := nI 8) hx hb dX9_hash_5 (by decide) ?_
  refine lv_icmp_ge (tgt := 32) hx hb dX9_hash_7 (by decide) (fun _ => ?_) (fun c => absurd (by decide) c)
  refine lv_iload_n hx hb dX9_hash_32 rfl (lv_at hl 1 rfl) ?_
  refine lv_sipush (v := nI 4095) hx hb dX9_hash_33 (by decide) ?_
  refine lv_iand hx hb dX9_hash_36 ?_
  refine lv_topi (nm_r (e' := nI 0) (by decide) ?_)
  exact xreti C () rfl hP hD hS (Nat.le_of_ble_eq_true rfl) (Nat.le_of_ble_eq_true rfl) rfl dX9_hash_37

set_option maxHeartbeats 4000000 in
set_option maxRecDepth 100000 in
theorem c_X9_isAt_z (l : Launch) (D : va_G) (cs : Nat → ClassId) (hs ra1 sa1 : Nat) (sf : Nat → Int32) (sz : Int32) (a st1 : Nat) (h1 : st1 * 8 + 8 ≤ 16008) : xMet l D cs yX9_isAt cX9_isAt 5 (some .boolean) ({ frames := 0, cells := 0, slots := 0, locals := 0 } : Room) [.ref hs, .int (nI st1), .ref a] [(hs, .inr (9, [.ref ra1, .ref sa1, .int sz])), (ra1, .inl (cs 0, 16008, .inl (fun _ => nI 0))), (sa1, .inl (cs 0, 4096, .inl sf)), (a, .inl (cs 0, 8, .inl (fun _ => nI 0)))] (xQi D (fun (r : Int32) (_u : Unit) => r = nI 1) (fun (_u : Unit) => [(hs, .inr (9, [.ref ra1, .ref sa1, .int sz])), (ra1, .inl (cs 0, 16008, .inl (fun _ => nI 0))), (sa1, .inl (cs 0, 4096, .inl sf)), (a, .inl (cs 0, 8, .inl (fun _ => nI 0)))])) := by
  refine xMet.intro (by decide) (Nat.le_of_ble_eq_true rfl) ?_
  intro p e s m args below meth c A ls C hP hD hS hl
  have hx := C.1
  have hb := C.2.1
  have hz := C.2.2.2.2.1
  have hown := C.2.2.2.1
  have hA := C.2.2.2.2.2.2.2.2.2
  have hAO := C.2.2.2.2.2.2.2.2.1.2.2
  have hl : lv_has ls 5 [(0, .ref hs), (1, .int (nI st1)), (2, .ref a)] := hl
  obtain ⟨H, hH⟩ : ∃ H, H = s.heap := ⟨_, rfl⟩
  have hP : va_P D vwCl [(hs, .inr (9, [.ref ra1, .ref sa1, .int sz])), (ra1, .inl (cs 0, 16008, .inl (fun _ => nI 0))), (sa1, .inl (cs 0, 4096, .inl sf)), (a, .inl (cs 0, 8, .inl (fun _ => nI 0)))] H := by rw [hH]; exact hP
  have hS : va_S A s.heap H [] := by rw [hH]; exact hS
  obtain ⟨locs, hlocs⟩ : ∃ z : List Loc, z = [] := ⟨_, rfl⟩
  rw [← hlocs] at hS
  suffices hW : W p l e ({ frames := 0, cells := 0, slots := 0, locals := 0 } : Room) s m args below meth c H locs 0 0 (MQ below ((xQi D (fun (r : Int32) (_u : Unit) => r = nI 1) (fun (_u : Unit) => [(hs, .inr (9, [.ref ra1, .ref sa1, .int sz])), (ra1, .inl (cs 0, 16008, .inl (fun _ => nI 0))), (sa1, .inl (cs 0, 4096, .inl sf)), (a, .inl (cs 0, 8, .inl (fun _ => nI 0)))])) A) args s 0 0 A) (F0 m 0 ls []) by rw [hlocs, hH] at hW; exact hW
  refine lv_iload_n hx hb dX9_isAt_0 rfl (lv_at hl 1 rfl) ?_
  refine lv_bipush (v := nI 8) hx hb dX9_isAt_1 (by decide) ?_
  refine lv_imul hx hb dX9_isAt_3 ?_
  refine lv_topi (nm_r (e' := nI (st1 * 8)) (pk_mul _ _) ?_)
  refine lv_istore_n (lv' := [(3, .int (nI (st1 * 8))), (0, .ref hs), (1, .int (nI st1)), (2, .ref a)]) hx hb dX9_isAt_4 rfl hl (by decide) rfl (fun ls hl => ?_)
  refine lv_iconst (v := nI 0) hx hb dX9_isAt_5 (by decide) ?_
  refine lv_istore (lv' := [(4, .int (nI 0)), (3, .int (nI (st1 * 8))), (0, .ref hs), (1, .int (nI st1)), (2, .ref a)]) hx hb dX9_isAt_6 hl (by decide) rfl (fun ls hl => ?_)
  refine lv_iload hx hb dX9_isAt_8 (lv_at hl 0 rfl) ?_
  refine lv_bipush (v := nI 8) hx hb dX9_isAt_10 (by decide) ?_
  refine lv_icmp_ge (tgt := 39) hx hb dX9_isAt_12 (by decide) (fun c => absurd c (by decide)) (fun _ => ?_)
  refine lv_aload_n hx hb dX9_isAt_15 rfl (lv_at hl 2 rfl) ?_
  refine xget C hP 0 rfl rfl zuX9 0 (by decide) zw3_169 rfl dX9_isAt_16 ?_
  refine lv_iload_n hx hb dX9_isAt_19 rfl (lv_at hl 1 rfl) ?_
  refine lv_iload hx hb dX9_isAt_20 (lv_at hl 0 rfl) ?_
  refine lv_iadd hx hb dX9_isAt_22 ?_
  refine lv_topi (nm_r (e' := nI ((st1 * 8) + 0)) (nI_add _ _) ?_)
  refine xiald C hP 1 rfl ((st1 * 8) + 0) rfl (by omega) (by decide) dX9_isAt_23 ?_
  refine lv_aload_n hx hb dX9_isAt_24 rfl (lv_at hl 4 rfl) ?_
  refine lv_iload hx hb dX9_isAt_25 (lv_at hl 0 rfl) ?_
  refine xiald C hP 3 rfl 0 rfl (by decide) (by decide) dX9_isAt_27 ?_
  refine lv_icmp_eq (tgt := 33) hx hb dX9_isAt_28 (by decide) (fun _ => ?_) (fun c => absurd (by decide) c)
  refine lv_iinc (v := nI 1) (lv' := [(4, .int (nI 1)), (3, .int (nI (st1 * 8))), (0, .ref hs), (1, .int (nI st1)), (2, .ref a)]) hx hb dX9_isAt_33 hl (k := 0) rfl (by decide) (by decide) rfl (fun ls hl => ?_)
  refine lv_goto (tgt := 8) hx hb dX9_isAt_36 (by decide) ?_
  refine lv_iload hx hb dX9_isAt_8 (lv_at hl 0 rfl) ?_
  refine lv_bipush (v := nI 8) hx hb dX9_isAt_10 (by decide) ?_
  refine lv_icmp_ge (tgt := 39) hx hb dX9_isAt_12 (by decide) (fun c => absurd c (by decide)) (fun _ => ?_)
  refine lv_aload_n hx hb dX9_isAt_15 rfl (lv_at hl 2 rfl) ?_
  refine xget C hP 0 rfl rfl zuX9 0 (by decide) zw3_169 rfl dX9_isAt_16 ?_
  refine lv_iload_n hx hb dX9_isAt_19 rfl (lv_at hl 1 rfl) ?_
  refine lv_iload hx hb dX9_isAt_20 (lv_at hl 0 rfl) ?_
  refine lv_iadd hx hb dX9_isAt_22 ?_
  refine lv_topi (nm_r (e' := nI ((st1 * 8) + 1)) (nI_add _ _) ?_)
  refine xiald C hP 1 rfl ((st1 * 8) + 1) rfl (by omega) (by decide) dX9_isAt_23 ?_
  refine lv_aload_n hx hb dX9_isAt_24 rfl (lv_at hl 4 rfl) ?_
  refine lv_iload hx hb dX9_isAt_25 (lv_at hl 0 rfl) ?_
  refine xiald C hP 3 rfl 1 rfl (by decide) (by decide) dX9_isAt_27 ?_
  refine lv_icmp_eq (tgt := 33) hx hb dX9_isAt_28 (by decide) (fun _ => ?_) (fun c => absurd (by decide) c)
  refine lv_iinc (v := nI 2) (lv' := [(4, .int (nI 2)), (3, .int (nI (st1 * 8))), (0, .ref hs), (1, .int (nI st1)), (2, .ref a)]) hx hb dX9_isAt_33 hl (k := 0) rfl (by decide) (by decide) rfl (fun ls hl => ?_)
  refine lv_goto (tgt := 8) hx hb dX9_isAt_36 (by decide) ?_
  refine lv_iload hx hb dX9_isAt_8 (lv_at hl 0 rfl) ?_
  refine lv_bipush (v := nI 8) hx hb dX9_isAt_10 (by decide) ?_
  refine lv_icmp_ge (tgt := 39) hx hb dX9_isAt_12 (by decide) (fun c => absurd c (by decide)) (fun _ => ?_)
  refine lv_aload_n hx hb dX9_isAt_15 rfl (lv_at hl 2 rfl) ?_
  refine xget C hP 0 rfl rfl zuX9 0 (by decide) zw3_169 rfl dX9_isAt_16 ?_
  refine lv_iload_n hx hb dX9_isAt_19 rfl (lv_at hl 1 rfl) ?_
  refine lv_iload hx hb dX9_isAt_20 (lv_at hl 0 rfl) ?_
  refine lv_iadd hx hb dX9_isAt_22 ?_
  refine lv_topi (nm_r (e' := nI ((st1 * 8) + 2)) (nI_add _ _) ?_)
  refine xiald C hP 1 rfl ((st1 * 8) + 2) rfl (by omega) (by decide) dX9_isAt_23 ?_
  refine lv_aload_n hx hb dX9_isAt_24 rfl (lv_at hl 4 rfl) ?_
  refine lv_iload hx hb dX9_isAt_25 (lv_at hl 0 rfl) ?_
  refine xiald C hP 3 rfl 2 rfl (by decide) (by decide) dX9_isAt_27 ?_
  refine lv_icmp_eq (tgt := 33) hx hb dX9_isAt_28 (by decide) (fun _ => ?_) (fun c => absurd (by decide) c)
  refine lv_iinc (v := nI 3) (lv' := [(4, .int (nI 3)), (3, .int (nI (st1 * 8))), (0, .ref hs), (1, .int (nI st1)), (2, .ref a)]) hx hb dX9_isAt_33 hl (k := 0) rfl (by decide) (by decide) rfl (fun ls hl => ?_)
  refine lv_goto (tgt := 8) hx hb dX9_isAt_36 (by decide) ?_
  refine lv_iload hx hb dX9_isAt_8 (lv_at hl 0 rfl) ?_
  refine lv_bipush (v := nI 8) hx hb dX9_isAt_10 (by decide) ?_
  refine lv_icmp_ge (tgt := 39) hx hb dX9_isAt_12 (by decide) (fun c => absurd c (by decide)) (fun _ => ?_)
  refine lv_aload_n hx hb dX9_isAt_15 rfl (lv_at hl 2 rfl) ?_
  refine xget C hP 0 rfl rfl zuX9 0 (by decide) zw3_169 rfl dX9_isAt_16 ?_
  refine lv_iload_n hx hb dX9_isAt_19 rfl (lv_at hl 1 rfl) ?_
  refine lv_iload hx hb dX9_isAt_20 (lv_at hl 0 rfl) ?_
  refine lv_iadd hx hb dX9_isAt_22 ?_
  refine lv_topi (nm_r (e' := nI ((st1 * 8) + 3)) (nI_add _ _) ?_)
  refine xiald C hP 1 rfl ((st1 * 8) + 3) rfl (by omega) (by decide) dX9_isAt_23 ?_
  refine lv_aload_n hx hb dX9_isAt_24 rfl (lv_at hl 4 rfl) ?_
  refine lv_iload hx hb dX9_isAt_25 (lv_at hl 0 rfl) ?_
  refine xiald C hP 3 rfl 3 rfl (by decide) (by decide) dX9_isAt_27 ?_
  refine lv_icmp_eq (tgt := 33) hx hb dX9_isAt_28 (by decide) (fun _ => ?_) (fun c => absurd (by decide) c)
  refine lv_iinc (v := nI 4) (lv' := [(4, .int (nI 4)), (3, .int (nI (st1 * 8))), (0, .ref hs), (1, .int (nI st1)), (2, .ref a)]) hx hb dX9_isAt_33 hl (k := 0) rfl (by decide) (by decide) rfl (fun ls hl => ?_)
  refine lv_goto (tgt := 8) hx hb dX9_isAt_36 (by decide) ?_
  refine lv_iload hx hb dX9_isAt_8 (lv_at hl 0 rfl) ?_
  refine lv_bipush (v := nI 8) hx hb dX9_isAt_10 (by decide) ?_
  refine lv_icmp_ge (tgt := 39) hx hb dX9_isAt_12 (by decide) (fun c => absurd c (by decide)) (fun _ => ?_)
  refine lv_aload_n hx hb dX9_isAt_15 rfl (lv_at hl 2 rfl) ?_
  refine xget C hP 0 rfl rfl zuX9 0 (by decide) zw3_169 rfl dX9_isAt_16 ?_
  refine lv_iload_n hx hb dX9_isAt_19 rfl (lv_at hl 1 rfl) ?_
  refine lv_iload hx hb dX9_isAt_20 (lv_at hl 0 rfl) ?_
  refine lv_iadd hx hb dX9_isAt_22 ?_
  refine lv_topi (nm_r (e' := nI ((st1 * 8) + 4)) (nI_add _ _) ?_)
  refine xiald C hP 1 rfl ((st1 * 8) + 4) rfl (by omega) (by decide) dX9_isAt_23 ?_
  refine lv_aload_n hx hb dX9_isAt_24 rfl (lv_at hl 4 rfl) ?_
  refine lv_iload hx hb dX9_isAt_25 (lv_at hl 0 rfl) ?_
  refine xiald C hP 3 rfl 4 rfl (by decide) (by decide) dX9_isAt_27 ?_
  refine lv_icmp_eq (tgt := 33) hx hb dX9_isAt_28 (by decide) (fun _ => ?_) (fun c => absurd (by decide) c)
  refine lv_iinc (v := nI 5) (lv' := [(4, .int (nI 5)), (3, .int (nI (st1 * 8))), (0, .ref hs), (1, .int (nI st1)), (2, .ref a)]) hx hb dX9_isAt_33 hl (k := 0) rfl (by decide) (by decide) rfl (fun ls hl => ?_)
  refine lv_goto (tgt := 8) hx hb dX9_isAt_36 (by decide) ?_
  refine lv_iload hx hb dX9_isAt_8 (lv_at hl 0 rfl) ?_
  refine lv_bipush (v := nI 8) hx hb dX9_isAt_10 (by decide) ?_
  refine lv_icmp_ge (tgt := 39) hx hb dX9_isAt_12 (by decide) (fun c => absurd c (by decide)) (fun _ => ?_)
  refine lv_aload_n hx hb dX9_isAt_15 rfl (lv_at hl 2 rfl) ?_
  refine xget C hP 0 rfl rfl zuX9 0 (by decide) zw3_169 rfl dX9_isAt_16 ?_
  refine lv_iload_n hx hb dX9_isAt_19 rfl (lv_at hl 1 rfl) ?_
  refine lv_iload hx hb dX9_isAt_20 (lv_at hl 0 rfl) ?_
  refine lv_iadd hx hb dX9_isAt_22 ?_
  refine lv_topi (nm_r (e' := nI ((st1 * 8) + 5)) (nI_add _ _) ?_)
  refine xiald C hP 1 rfl ((st1 * 8) + 5) rfl (by omega) (by decide) dX9_isAt_23 ?_
  refine lv_aload_n hx hb dX9_isAt_24 rfl (lv_at hl 4 rfl) ?_
  refine lv_iload hx hb dX9_isAt_25 (lv_at hl 0 rfl) ?_
  refine xiald C hP 3 rfl 5 rfl (by decide) (by decide) dX9_isAt_27 ?_
  refine lv_icmp_eq (tgt := 33) hx hb dX9_isAt_28 (by decide) (fun _ => ?_) (fun c => absurd (by decide) c)
  refine lv_iinc (v := nI 6) (lv' := [(4, .int (nI 6)), (3, .int (nI (st1 * 8))), (0, .ref hs), (1, .int (nI st1)), (2, .ref a)]) hx hb dX9_isAt_33 hl (k := 0) rfl (by decide) (by decide) rfl (fun ls hl => ?_)
  refine lv_goto (tgt := 8) hx hb dX9_isAt_36 (by decide) ?_
  refine lv_iload hx hb dX9_isAt_8 (lv_at hl 0 rfl) ?_
  refine lv_bipush (v := nI 8) hx hb dX9_isAt_10 (by decide) ?_
  refine lv_icmp_ge (tgt := 39) hx hb dX9_isAt_12 (by decide) (fun c => absurd c (by decide)) (fun _ => ?_)
  refine lv_aload_n hx hb dX9_isAt_15 rfl (lv_at hl 2 rfl) ?_
  refine xget C hP 0 rfl rfl zuX9 0 (by decide) zw3_169 rfl dX9_isAt_16 ?_
  refine lv_iload_n hx hb dX9_isAt_19 rfl (lv_at hl 1 rfl) ?_
  refine lv_iload hx hb dX9_isAt_20 (lv_at hl 0 rfl) ?_
  refine lv_iadd hx hb dX9_isAt_22 ?_
  refine lv_topi (nm_r (e' := nI ((st1 * 8) + 6)) (nI_add _ _) ?_)
  refine xiald C hP 1 rfl ((st1 * 8) + 6) rfl (by omega) (by decide) dX9_isAt_23 ?_
  refine lv_aload_n hx hb dX9_isAt_24 rfl (lv_at hl 4 rfl) ?_
  refine lv_iload hx hb dX9_isAt_25 (lv_at hl 0 rfl) ?_
  refine xiald C hP 3 rfl 6 rfl (by decide) (by decide) dX9_isAt_27 ?_
  refine lv_icmp_eq (tgt := 33) hx hb dX9_isAt_28 (by decide) (fun _ => ?_) (fun c => absurd (by decide) c)
  refine lv_iinc (v := nI 7) (lv' := [(4, .int (nI 7)), (3, .int (nI (st1 * 8))), (0, .ref hs), (1, .int (nI st1)), (2, .ref a)]) hx hb dX9_isAt_33 hl (k := 0) rfl (by decide) (by decide) rfl (fun ls hl => ?_)
  refine lv_goto (tgt := 8) hx hb dX9_isAt_36 (by decide) ?_
  refine lv_iload hx hb dX9_isAt_8 (lv_at hl 0 rfl) ?_
  refine lv_bipush (v := nI 8) hx hb dX9_isAt_10 (by decide) ?_
  refine lv_icmp_ge (tgt := 39) hx hb dX9_isAt_12 (by decide) (fun c => absurd c (by decide)) (fun _ => ?_)
  refine lv_aload_n hx hb dX9_isAt_15 rfl (lv_at hl 2 rfl) ?_
  refine xget C hP 0 rfl rfl zuX9 0 (by decide) zw3_169 rfl dX9_isAt_16 ?_
  refine lv_iload_n hx hb dX9_isAt_19 rfl (lv_at hl 1 rfl) ?_
  refine lv_iload hx hb dX9_isAt_20 (lv_at hl 0 rfl) ?_
  refine lv_iadd hx hb dX9_isAt_22 ?_
  refine lv_topi (nm_r (e' := nI ((st1 * 8) + 7)) (nI_add _ _) ?_)
  refine xiald C hP 1 rfl ((st1 * 8) + 7) rfl (by omega) (by decide) dX9_isAt_23 ?_
  refine lv_aload_n hx hb dX9_isAt_24 rfl (lv_at hl 4 rfl) ?_
  refine lv_iload hx hb dX9_isAt_25 (lv_at hl 0 rfl) ?_
  refine xiald C hP 3 rfl 7 rfl (by decide) (by decide) dX9_isAt_27 ?_
  refine lv_icmp_eq (tgt := 33) hx hb dX9_isAt_28 (by decide) (fun _ => ?_) (fun c => absurd (by decide) c)
  refine lv_iinc (v := nI 8) (lv' := [(4, .int (nI 8)), (3, .int (nI (st1 * 8))), (0, .ref hs), (1, .int (nI st1)), (2, .ref a)]) hx hb dX9_isAt_33 hl (k := 0) rfl (by decide) (by decide) rfl (fun ls hl => ?_)
  refine lv_goto (tgt := 8) hx hb dX9_isAt_36 (by decide) ?_
  refine lv_iload hx hb dX9_isAt_8 (lv_at hl 0 rfl) ?_
  refine lv_bipush (v := nI 8) hx hb dX9_isAt_10 (by decide) ?_
  refine lv_icmp_ge (tgt := 39) hx hb dX9_isAt_12 (by decide) (fun _ => ?_) (fun c => absurd (by decide) c)
  refine lv_iconst (v := nI 1) hx hb dX9_isAt_39 (by decide) ?_
  exact xreti C () rfl hP hD hS (Nat.le_of_ble_eq_true rfl) (Nat.le_of_ble_eq_true rfl) (by decide) dX9_isAt_40

set_option maxHeartbeats 4000000 in
set_option maxRecDepth 100000 in
theorem c_X9_slotOf_z (l : Launch) (D : va_G) (cs : Nat → ClassId) (hs ra1 sa1 : Nat) (sf : Nat → Int32) (sz : Int32) (a : Nat) (hsf : sf 0 = nI 0 ∨ sf 0 = nI 1) : xMet l D cs yX9_slotOf cX9_slotOf 4 (some .int) ({ frames := 1, cells := 0, slots := 0, locals := 24 } : Room) [.ref hs, .ref a] [(hs, .inr (9, [.ref ra1, .ref sa1, .int sz])), (ra1, .inl (cs 0, 16008, .inl (fun _ => nI 0))), (sa1, .inl (cs 0, 4096, .inl sf)), (a, .inl (cs 0, 8, .inl (fun _ => nI 0)))] (xQi D (fun (r : Int32) (_u : Unit) => r = nI 0) (fun (_u : Unit) => [(hs, .inr (9, [.ref ra1, .ref sa1, .int sz])), (ra1, .inl (cs 0, 16008, .inl (fun _ => nI 0))), (sa1, .inl (cs 0, 4096, .inl sf)), (a, .inl (cs 0, 8, .inl (fun _ => nI 0)))])) := by
  refine xMet.intro (by decide) (Nat.le_of_ble_eq_true rfl) ?_
  intro p e s m args below meth c A ls C hP hD hS hl
  have hx := C.1
  have hb := C.2.1
  have hz := C.2.2.2.2.1
  have hown := C.2.2.2.1
  have hA := C.2.2.2.2.2.2.2.2.2
  have hAO := C.2.2.2.2.2.2.2.2.1.2.2
  have hl : lv_has ls 4 [(0, .ref hs), (1, .ref a)] := hl
  obtain ⟨H, hH⟩ : ∃ H, H = s.heap := ⟨_, rfl⟩
  have hP : va_P D vwCl [(hs, .inr (9, [.ref ra1, .ref sa1, .int sz])), (ra1, .inl (cs 0, 16008, .inl (fun _ => nI 0))), (sa1, .inl (cs 0, 4096, .inl sf)), (a, .inl (cs 0, 8, .inl (fun _ => nI 0)))] H := by rw [hH]; exact hP
  have hS : va_S A s.heap H [] := by rw [hH]; exact hS
  obtain ⟨locs, hlocs⟩ : ∃ z : List Loc, z = [] := ⟨_, rfl⟩
  rw [← hlocs] at hS
  suffices hW : W p l e ({ frames := 1, cells := 0, slots := 0, locals := 24 } : Room) s m args below meth c H locs 0 0 (MQ below ((xQi D (fun (r : Int32) (_u : Unit) => r = nI 0) (fun (_u : Unit) => [(hs, .inr (9, [.ref ra1, .ref sa1, .int sz])), (ra1, .inl (cs 0, 16008, .inl (fun _ => nI 0))), (sa1, .inl (cs 0, 4096, .inl sf)), (a, .inl (cs 0, 8, .inl (fun _ => nI 0)))])) A) args s 0 0 A) (F0 m 0 ls []) by rw [hlocs, hH] at hW; exact hW
  refine lv_aload_n hx hb dX9_slotOf_0 rfl (lv_at hl 1 rfl) ?_
  refine xi (wr := [(hs, .inr (9, [.ref ra1, .ref sa1, .int sz])), (ra1, .inl (cs 0, 16008, .inl (fun _ => nI 0))), (sa1, .inl (cs 0, 4096, .inl sf))]) (xS (As := [.ref a]) (rest := []) C (c_X9_hash_z l D cs a) kX9_28 hP hD [3] rfl (by decide) ⟨Nat.le_of_ble_eq_true rfl, Nat.le_of_ble_eq_true rfl⟩ rfl hl.1 rfl (Nat.le_of_ble_eq_true rfl) dX9_slotOf_1 ⟨Nat.le_of_ble_eq_true rfl, Nat.le_of_ble_eq_true rfl⟩) hP hD hS hA [3] [0, 1, 2] rfl rfl (by decide) (by decide) (fun r_1 u_2 H locs hw_r_1 hP hD hS => ?_)
  have hw_r_1 : r_1 = nI 0 := hw_r_1
  refine W.widen (k := 0) (n := 0) (Nat.le_of_ble_eq_true rfl) (Nat.le_of_ble_eq_true rfl) ?_
  have hP : va_P D vwCl [(hs, .inr (9, [.ref ra1, .ref sa1, .int sz])), (ra1, .inl (cs 0, 16008, .inl (fun _ => nI 0))), (sa1, .inl (cs 0, 4096, .inl sf)), (a, .inl (cs 0, 8, .inl (fun _ => nI 0)))] H := hP
  have hD : va_D A [(hs, .inr (9, [.ref ra1, .ref sa1, .int sz])), (ra1, .inl (cs 0, 16008, .inl (fun _ => nI 0))), (sa1, .inl (cs 0, 4096, .inl sf)), (a, .inl (cs 0, 8, .inl (fun _ => nI 0)))] := hD
  subst hw_r_1
  refine lv_istore_n (lv' := [(2, .int (nI 0)), (0, .ref hs), (1, .ref a)]) hx hb dX9_slotOf_4 rfl hl (by decide) rfl (fun ls hl => ?_)
  refine lv_iconst (v := nI 0) hx hb dX9_slotOf_5 (by decide) ?_
  refine lv_istore_n (lv' := [(3, .int (nI 0)), (2, .int (nI 0)), (0, .ref hs), (1, .ref a)]) hx hb dX9_slotOf_6 rfl hl (by decide) rfl (fun ls hl => ?_)
  refine lv_iload_n hx hb dX9_slotOf_7 rfl (lv_at hl 0 rfl) ?_
  refine lv_sipush (v := nI 4096) hx hb dX9_slotOf_8 (by decide) ?_
  refine lv_icmp_ge (tgt := 53) hx hb dX9_slotOf_11 (by decide) (fun c => absurd c (by decide)) (fun _ => ?_)
  refine lv_aload_n hx hb dX9_slotOf_14 rfl (lv_at hl 2 rfl) ?_
  refine xget C hP 0 rfl rfl zuX9 1 (by decide) zw3_172 rfl dX9_slotOf_15 ?_
  refine lv_iload_n hx hb dX9_slotOf_18 rfl (lv_at hl 1 rfl) ?_
  refine xiald C hP 2 rfl 0 rfl (by decide) (by decide) dX9_slotOf_19 ?_
  refine lv_if_eq (tgt := 53) hx hb dX9_slotOf_20 (by decide) (fun c_3 => ?_) (fun c_3 => ?_)
  · -- 20 t
    refine lv_iload_n hx hb dX9_slotOf_53 rfl (lv_at hl 1 rfl) ?_
    exact xreti C () rfl hP hD hS (Nat.le_of_ble_eq_true rfl) (Nat.le_of_ble_eq_true rfl) rfl dX9_slotOf_54
  · -- 20 f
    have e1 : sf 0 = nI 1 := by rcases hsf with q | q; exact absurd q c_3; exact q
    refine lv_aload_n hx hb dX9_slotOf_23 rfl (lv_at hl 2 rfl) ?_
    refine lv_aload_n hx hb dX9_slotOf_24 rfl (lv_at hl 2 rfl) ?_
    refine xget C hP 0 rfl rfl zuX9 1 (by decide) zw3_172 rfl dX9_slotOf_25 ?_
    refine lv_iload_n hx hb dX9_slotOf_28 rfl (lv_at hl 1 rfl) ?_
    refine xiald C hP 2 rfl 0 rfl (by decide) (by decide) dX9_slotOf_29 ?_
    refine lv_iconst (v := nI 1) hx hb dX9_slotOf_30 (by decide) ?_
    refine lv_isub hx hb dX9_slotOf_31 ?_
    refine lv_topi (nm_r (e' := nI 0) (by rw [e1]; decide) ?_)
    refine lv_aload_n hx hb dX9_slotOf_32 rfl (lv_at hl 3 rfl) ?_
    refine xi (wr := []) (xV (As := [.int (nI 0), .ref a]) (rest := []) C (c_X9_isAt_z l D cs hs ra1 sa1 sf sz a 0 (by first | omega | decide)) kX9_32 hP hD [0, 1, 2, 3] rfl (by decide) 0 rfl rfl rfl ⟨Nat.le_of_ble_eq_true rfl, Nat.le_of_ble_eq_true rfl⟩ rfl hl.1 rfl (Nat.le_of_ble_eq_true rfl) dX9_slotOf_33 ⟨Nat.le_of_ble_eq_true rfl, Nat.le_of_ble_eq_true rfl⟩) hP hD hS hA [0, 1, 2, 3] [] rfl rfl (by decide) (by decide) (fun r_4 u_5 H locs hw_r_4 hP hD hS => ?_)
    have hw_r_4 : r_4 = nI 1 := hw_r_4
    refine W.widen (k := 0) (n := 0) (Nat.le_of_ble_eq_true rfl) (Nat.le_of_ble_eq_true rfl) ?_
    have hP : va_P D vwCl [(hs, .inr (9, [.ref ra1, .ref sa1, .int sz])), (ra1, .inl (cs 0, 16008, .inl (fun _ => nI 0))), (sa1, .inl (cs 0, 4096, .inl sf)), (a, .inl (cs 0, 8, .inl (fun _ => nI 0)))] H := hP
    have hD : va_D A [(hs, .inr (9, [.ref ra1, .ref sa1, .int sz])), (ra1, .inl (cs 0, 16008, .inl (fun _ => nI 0))), (sa1, .inl (cs 0, 4096, .inl sf)), (a, .inl (cs 0, 8, .inl (fun _ => nI 0)))] := hD
    subst hw_r_4
    refine lv_if_ne (tgt := 53) hx hb dX9_slotOf_36 (by decide) (fun _ => ?_) (fun c => absurd c (by decide))
    refine lv_iload_n hx hb dX9_slotOf_53 rfl (lv_at hl 1 rfl) ?_
    exact xreti C () rfl hP hD hS (Nat.le_of_ble_eq_true rfl) (Nat.le_of_ble_eq_true rfl) rfl dX9_slotOf_54

set_option maxHeartbeats 4000000 in
set_option maxRecDepth 100000 in
theorem c_X9_at_z (l : Launch) (D : va_G) (cs : Nat → ClassId) (hs ra1 sa1 : Nat) (sf : Nat → Int32) (sz : Int32) (i : Nat) (hi : i < 4096) : xMet l D cs yX9_at cX9_at 2 (some .int) ({ frames := 0, cells := 0, slots := 0, locals := 0 } : Room) [.ref hs, .int (nI i)] [(hs, .inr (9, [.ref ra1, .ref sa1, .int sz])), (ra1, .inl (cs 0, 16008, .inl (fun _ => nI 0))), (sa1, .inl (cs 0, 4096, .inl sf))] (xQi D (fun (r : Int32) (_u : Unit) => r = sf i - nI 1) (fun (_u : Unit) => [(hs, .inr (9, [.ref ra1, .ref sa1, .int sz])), (ra1, .inl (cs 0, 16008, .inl (fun _ => nI 0))), (sa1, .inl (cs 0, 4096, .inl sf))])) := by
  refine xMet.intro (by decide) (Nat.le_of_ble_eq_true rfl) ?_
  intro p e s m args below meth c A ls C hP hD hS hl
  have hx := C.1
  have hb := C.2.1
  have hz := C.2.2.2.2.1
  have hown := C.2.2.2.1
  have hA := C.2.2.2.2.2.2.2.2.2
  have hAO := C.2.2.2.2.2.2.2.2.1.2.2
  have hl : lv_has ls 2 [(0, .ref hs), (1, .int (nI i))] := hl
  obtain ⟨H, hH⟩ : ∃ H, H = s.heap := ⟨_, rfl⟩
  have hP : va_P D vwCl [(hs, .inr (9, [.ref ra1, .ref sa1, .int sz])), (ra1, .inl (cs 0, 16008, .inl (fun _ => nI 0))), (sa1, .inl (cs 0, 4096, .inl sf))] H := by rw [hH]; exact hP
  have hS : va_S A s.heap H [] := by rw [hH]; exact hS
  obtain ⟨locs, hlocs⟩ : ∃ z : List Loc, z = [] := ⟨_, rfl⟩
  rw [← hlocs] at hS
  suffices hW : W p l e ({ frames := 0, cells := 0, slots := 0, locals := 0 } : Room) s m args below meth c H locs 0 0 (MQ below ((xQi D (fun (r : Int32) (_u : Unit) => r = sf i - nI 1) (fun (_u : Unit) => [(hs, .inr (9, [.ref ra1, .ref sa1, .int sz])), (ra1, .inl (cs 0, 16008, .inl (fun _ => nI 0))), (sa1, .inl (cs 0, 4096, .inl sf))])) A) args s 0 0 A) (F0 m 0 ls []) by rw [hlocs, hH] at hW; exact hW
  refine lv_aload_n hx hb dX9_at_0 rfl (lv_at hl 0 rfl) ?_
  refine xget C hP 0 rfl rfl zuX9 1 (by decide) zw3_172 rfl dX9_at_1 ?_
  refine lv_iload_n hx hb dX9_at_4 rfl (lv_at hl 1 rfl) ?_
  refine xiald C hP 2 rfl i rfl (by omega) (by decide) dX9_at_5 ?_
  refine lv_iconst (v := nI 1) hx hb dX9_at_6 (by decide) ?_
  refine lv_isub hx hb dX9_at_7 ?_
  exact xreti C () rfl hP hD hS (Nat.le_of_ble_eq_true rfl) (Nat.le_of_ble_eq_true rfl) rfl dX9_at_8

set_option maxHeartbeats 4000000 in
set_option maxRecDepth 100000 in
theorem c_X9_isFull_z (l : Launch) (D : va_G) (cs : Nat → ClassId) (hs ra1 sa1 : Nat) (sf : Nat → Int32) (sz : Nat) (hz1 : sz < 2000) : xMet l D cs yX9_isFull cX9_isFull 1 (some .boolean) ({ frames := 0, cells := 0, slots := 0, locals := 0 } : Room) [.ref hs] [(hs, .inr (9, [.ref ra1, .ref sa1, .int (nI sz)])), (ra1, .inl (cs 0, 16008, .inl (fun _ => nI 0))), (sa1, .inl (cs 0, 4096, .inl sf))] (xQi D (fun (r : Int32) (_u : Unit) => r = nI 0) (fun (_u : Unit) => [(hs, .inr (9, [.ref ra1, .ref sa1, .int (nI sz)])), (ra1, .inl (cs 0, 16008, .inl (fun _ => nI 0))), (sa1, .inl (cs 0, 4096, .inl sf))])) := by
  refine xMet.intro (by decide) (Nat.le_of_ble_eq_true rfl) ?_
  intro p e s m args below meth c A ls C hP hD hS hl
  have hx := C.1
  have hb := C.2.1
  have hz := C.2.2.2.2.1
  have hown := C.2.2.2.1
  have hA := C.2.2.2.2.2.2.2.2.2
  have hAO := C.2.2.2.2.2.2.2.2.1.2.2
  have hl : lv_has ls 1 [(0, .ref hs)] := hl
  obtain ⟨H, hH⟩ : ∃ H, H = s.heap := ⟨_, rfl⟩
  have hP : va_P D vwCl [(hs, .inr (9, [.ref ra1, .ref sa1, .int (nI sz)])), (ra1, .inl (cs 0, 16008, .inl (fun _ => nI 0))), (sa1, .inl (cs 0, 4096, .inl sf))] H := by rw [hH]; exact hP
  have hS : va_S A s.heap H [] := by rw [hH]; exact hS
  obtain ⟨locs, hlocs⟩ : ∃ z : List Loc, z = [] := ⟨_, rfl⟩
  rw [← hlocs] at hS
  suffices hW : W p l e ({ frames := 0, cells := 0, slots := 0, locals := 0 } : Room) s m args below meth c H locs 0 0 (MQ below ((xQi D (fun (r : Int32) (_u : Unit) => r = nI 0) (fun (_u : Unit) => [(hs, .inr (9, [.ref ra1, .ref sa1, .int (nI sz)])), (ra1, .inl (cs 0, 16008, .inl (fun _ => nI 0))), (sa1, .inl (cs 0, 4096, .inl sf))])) A) args s 0 0 A) (F0 m 0 ls []) by rw [hlocs, hH] at hW; exact hW
  refine lv_aload_n hx hb dX9_isFull_0 rfl (lv_at hl 0 rfl) ?_
  refine xget C hP 0 rfl rfl zuX9 2 (by decide) zw3_173 rfl dX9_isFull_1 ?_
  refine lv_sipush (v := nI 2000) hx hb dX9_isFull_4 (by decide) ?_
  refine lv_icmp_lt (tgt := 14) hx hb dX9_isFull_7 (by decide) (fun _ => ?_) (fun c => absurd (nI_lt hz1 (by omega)) c)
  refine lv_iconst (v := nI 0) hx hb dX9_isFull_14 (by decide) ?_
  exact xreti C () rfl hP hD hS (Nat.le_of_ble_eq_true rfl) (Nat.le_of_ble_eq_true rfl) (by decide) dX9_isFull_15

set_option maxHeartbeats 4000000 in
set_option maxRecDepth 100000 in
theorem c_X9_add_z (l : Launch) (D : va_G) (cs : Nat → ClassId) (hs ra1 sa1 : Nat) (sf : Nat → Int32) (a i : Nat) (hi : i < 4096) : xMet l D cs yX9_add cX9_add 3 (some .int) ({ frames := 1, cells := 0, slots := 0, locals := 68 } : Room) [.ref hs, .int (nI i), .ref a] [(hs, .inr (9, [.ref ra1, .ref sa1, .int (nI 0)])), (ra1, .inl (cs 0, 16008, .inl (fun _ => nI 0))), (sa1, .inl (cs 0, 4096, .inl sf)), (a, .inl (cs 0, 8, .inl (fun _ => nI 0)))] (xQi D (fun (r : Int32) (_u : Unit) => r = nI 0) (fun (_u : Unit) => [(hs, .inr (9, [.ref ra1, .ref sa1, .int (nI 1)])), (ra1, .inl (cs 0, 16008, .inl (fun _ => nI 0))), (sa1, .inl (cs 0, 4096, .inl (upd sf i (nI 1)))), (a, .inl (cs 0, 8, .inl (fun _ => nI 0)))])) := by
  refine xMet.intro (by decide) (Nat.le_of_ble_eq_true rfl) ?_
  intro p e s m args below meth c A ls C hP hD hS hl
  have hx := C.1
  have hb := C.2.1
  have hz := C.2.2.2.2.1
  have hown := C.2.2.2.1
  have hA := C.2.2.2.2.2.2.2.2.2
  have hAO := C.2.2.2.2.2.2.2.2.1.2.2
  have hl : lv_has ls 3 [(0, .ref hs), (1, .int (nI i)), (2, .ref a)] := hl
  obtain ⟨H, hH⟩ : ∃ H, H = s.heap := ⟨_, rfl⟩
  have hP : va_P D vwCl [(hs, .inr (9, [.ref ra1, .ref sa1, .int (nI 0)])), (ra1, .inl (cs 0, 16008, .inl (fun _ => nI 0))), (sa1, .inl (cs 0, 4096, .inl sf)), (a, .inl (cs 0, 8, .inl (fun _ => nI 0)))] H := by rw [hH]; exact hP
  have hS : va_S A s.heap H [] := by rw [hH]; exact hS
  obtain ⟨locs, hlocs⟩ : ∃ z : List Loc, z = [] := ⟨_, rfl⟩
  rw [← hlocs] at hS
  suffices hW : W p l e ({ frames := 1, cells := 0, slots := 0, locals := 68 } : Room) s m args below meth c H locs 0 0 (MQ below ((xQi D (fun (r : Int32) (_u : Unit) => r = nI 0) (fun (_u : Unit) => [(hs, .inr (9, [.ref ra1, .ref sa1, .int (nI 1)])), (ra1, .inl (cs 0, 16008, .inl (fun _ => nI 0))), (sa1, .inl (cs 0, 4096, .inl (upd sf i (nI 1)))), (a, .inl (cs 0, 8, .inl (fun _ => nI 0)))])) A) args s 0 0 A) (F0 m 0 ls []) by rw [hlocs, hH] at hW; exact hW
  refine lv_aload_n hx hb dX9_add_0 rfl (lv_at hl 0 rfl) ?_
  refine xget C hP 0 rfl rfl zuX9 2 (by decide) zw3_173 rfl dX9_add_1 ?_
  refine lv_sipush (v := nI 2000) hx hb dX9_add_4 (by decide) ?_
  refine lv_icmp_le (tgt := 12) hx hb dX9_add_7 (by decide) (fun _ => ?_) (fun c => absurd (by decide) c)
  refine lv_aload_n hx hb dX9_add_12 rfl (lv_at hl 2 rfl) ?_
  refine lv_iconst (v := nI 0) hx hb dX9_add_13 (by decide) ?_
  refine lv_aload_n hx hb dX9_add_14 rfl (lv_at hl 0 rfl) ?_
  refine xget C hP 0 rfl rfl zuX9 0 (by decide) zw3_169 rfl dX9_add_15 ?_
  refine lv_aload_n hx hb dX9_add_18 rfl (lv_at hl 0 rfl) ?_
  refine xget C hP 0 rfl rfl zuX9 2 (by decide) zw3_173 rfl dX9_add_19 ?_
  refine lv_bipush (v := nI 8) hx hb dX9_add_22 (by decide) ?_
  refine lv_imul hx hb dX9_add_24 ?_
  refine lv_topi (nm_r (e' := nI 0) (by decide) ?_)
  refine lv_bipush (v := nI 8) hx hb dX9_add_25 (by decide) ?_
  refine xcopy C hP hD hS 3 1 rfl rfl (sp := 0) (dp := 0) (k := 8) rfl rfl rfl (by decide) (by decide) ⟨by decide, by decide⟩ zw3_204 zw3_6 zw3_5 zw1_16 (Nat.le_of_ble_eq_true rfl) (Nat.le_of_ble_eq_true rfl) hl.1 dX9_add_27 (fun H locs hP hD hS => ?_)
  have hP : va_P D vwCl [(hs, .inr (9, [.ref ra1, .ref sa1, .int (nI 0)])), (ra1, .inl (cs 0, 16008, .inl (va_cpy (fun _ => nI 0) (fun _ => nI 0) 0 0 8))), (sa1, .inl (cs 0, 4096, .inl sf)), (a, .inl (cs 0, 8, .inl (fun _ => nI 0)))] H := hP
  have hD : va_D A [(hs, .inr (9, [.ref ra1, .ref sa1, .int (nI 0)])), (ra1, .inl (cs 0, 16008, .inl (va_cpy (fun _ => nI 0) (fun _ => nI 0) 0 0 8))), (sa1, .inl (cs 0, 4096, .inl sf)), (a, .inl (cs 0, 8, .inl (fun _ => nI 0)))] := hD
  obtain ⟨hP, hD⟩ := xcongi (q0 := 1) (fun _ => nI 0) hP hD rfl (fun j hj => by by_cases h : j < 8; rw [pk_cpy_in (Nat.zero_le j) (by omega)]; rw [pk_cpy_out (Or.inr (by omega))])
  have hP : va_P D vwCl [(hs, .inr (9, [.ref ra1, .ref sa1, .int (nI 0)])), (ra1, .inl (cs 0, 16008, .inl (fun _ => nI 0))), (sa1, .inl (cs 0, 4096, .inl sf)), (a, .inl (cs 0, 8, .inl (fun _ => nI 0)))] H := hP
  have hD : va_D A [(hs, .inr (9, [.ref ra1, .ref sa1, .int (nI 0)])), (ra1, .inl (cs 0, 16008, .inl (fun _ => nI 0))), (sa1, .inl (cs 0, 4096, .inl sf)), (a, .inl (cs 0, 8, .inl (fun _ => nI 0)))] := hD
  refine lv_aload_n hx hb dX9_add_30 rfl (lv_at hl 0 rfl) ?_
  refine xget C hP 0 rfl rfl zuX9 1 (by decide) zw3_172 rfl dX9_add_31 ?_
  refine lv_iload_n hx hb dX9_add_34 rfl (lv_at hl 1 rfl) ?_
  refine lv_aload_n hx hb dX9_add_35 rfl (lv_at hl 0 rfl) ?_
  refine xget C hP 0 rfl rfl zuX9 2 (by decide) zw3_173 rfl dX9_add_36 ?_
  refine lv_iconst (v := nI 1) hx hb dX9_add_39 (by decide) ?_
  refine lv_iadd hx hb dX9_add_40 ?_
  refine lv_topi (nm_r (e' := nI 1) (by decide) ?_)
  refine xiast C hP hD hS 2 rfl i rfl (by omega) (by decide) dX9_add_41 (fun H locs hP hD hS => ?_)
  have hP : va_P D vwCl [(hs, .inr (9, [.ref ra1, .ref sa1, .int (nI 0)])), (ra1, .inl (cs 0, 16008, .inl (fun _ => nI 0))), (sa1, .inl (cs 0, 4096, .inl (upd sf i (nI 1)))), (a, .inl (cs 0, 8, .inl (fun _ => nI 0)))] H := hP
  have hD : va_D A [(hs, .inr (9, [.ref ra1, .ref sa1, .int (nI 0)])), (ra1, .inl (cs 0, 16008, .inl (fun _ => nI 0))), (sa1, .inl (cs 0, 4096, .inl (upd sf i (nI 1)))), (a, .inl (cs 0, 8, .inl (fun _ => nI 0)))] := hD
  refine lv_aload_n hx hb dX9_add_42 rfl (lv_at hl 0 rfl) ?_
  refine lv_dup hx hb dX9_add_43 rfl ?_
  refine xget C hP 0 rfl rfl zuX9 2 (by decide) zw3_173 rfl dX9_add_44 ?_
  refine lv_iconst (v := nI 1) hx hb dX9_add_47 (by decide) ?_
  refine lv_iadd hx hb dX9_add_48 ?_
  refine lv_topi (nm_r (e' := nI 1) (by decide) ?_)
  refine xput C hP hD hS 0 rfl rfl zuX9 tyX9 tyX9_ok nmX9 2 (by decide) zw3_173 rfl rfl rfl (Nat.le_of_ble_eq_true rfl) dX9_add_49 (fun H locs hP hD hS => ?_)
  have hP : va_P D vwCl [(hs, .inr (9, [.ref ra1, .ref sa1, .int (nI 1)])), (ra1, .inl (cs 0, 16008, .inl (fun _ => nI 0))), (sa1, .inl (cs 0, 4096, .inl (upd sf i (nI 1)))), (a, .inl (cs 0, 8, .inl (fun _ => nI 0)))] H := hP
  have hD : va_D A [(hs, .inr (9, [.ref ra1, .ref sa1, .int (nI 1)])), (ra1, .inl (cs 0, 16008, .inl (fun _ => nI 0))), (sa1, .inl (cs 0, 4096, .inl (upd sf i (nI 1)))), (a, .inl (cs 0, 8, .inl (fun _ => nI 0)))] := hD
  refine lv_aload_n hx hb dX9_add_52 rfl (lv_at hl 0 rfl) ?_
  refine xget C hP 0 rfl rfl zuX9 2 (by decide) zw3_173 rfl dX9_add_53 ?_
  refine lv_iconst (v := nI 1) hx hb dX9_add_56 (by decide) ?_
  refine lv_isub hx hb dX9_add_57 ?_
  refine lv_topi (nm_r (e' := nI 0) (by decide) ?_)
  exact xreti C () rfl hP hD hS (Nat.le_of_ble_eq_true rfl) (Nat.le_of_ble_eq_true rfl) rfl dX9_add_58

set_option maxHeartbeats 4000000 in
set_option maxRecDepth 100000 in
theorem c_X9_copyTo_z (l : Launch) (D : va_G) (cs : Nat → ClassId) (hs ra1 sa1 : Nat) (sf : Nat → Int32) (sz : Int32) (a st1 : Nat) (f : Nat → Int32) (h1 : st1 * 8 + 8 ≤ 16008) : xMet l D cs yX9_copyTo cX9_copyTo 3 none ({ frames := 1, cells := 0, slots := 0, locals := 68 } : Room) [.ref hs, .ref a, .int (nI st1)] [(hs, .inr (9, [.ref ra1, .ref sa1, .int sz])), (ra1, .inl (cs 0, 16008, .inl (fun _ => nI 0))), (sa1, .inl (cs 0, 4096, .inl sf)), (a, .inl (cs 0, 8, .inl f))] (xQv D (fun (_u : Unit) => True) (fun (_u : Unit) => [(hs, .inr (9, [.ref ra1, .ref sa1, .int sz])), (ra1, .inl (cs 0, 16008, .inl (fun _ => nI 0))), (sa1, .inl (cs 0, 4096, .inl sf)), (a, .inl (cs 0, 8, .inl (fun _ => nI 0)))])) := by
  refine xMet.intro (by decide) (Nat.le_of_ble_eq_true rfl) ?_
  intro p e s m args below meth c A ls C hP hD hS hl
  have hx := C.1
  have hb := C.2.1
  have hz := C.2.2.2.2.1
  have hown := C.2.2.2.1
  have hA := C.2.2.2.2.2.2.2.2.2
  have hAO := C.2.2.2.2.2.2.2.2.1.2.2
  have hl : lv_has ls 3 [(0, .ref hs), (1, .ref a), (2, .int (nI st1))] := hl
  obtain ⟨H, hH⟩ : ∃ H, H = s.heap := ⟨_, rfl⟩
  have hP : va_P D vwCl [(hs, .inr (9, [.ref ra1, .ref sa1, .int sz])), (ra1, .inl (cs 0, 16008, .inl (fun _ => nI 0))), (sa1, .inl (cs 0, 4096, .inl sf)), (a, .inl (cs 0, 8, .inl f))] H := by rw [hH]; exact hP
  have hS : va_S A s.heap H [] := by rw [hH]; exact hS
  obtain ⟨locs, hlocs⟩ : ∃ z : List Loc, z = [] := ⟨_, rfl⟩
  rw [← hlocs] at hS
  suffices hW : W p l e ({ frames := 1, cells := 0, slots := 0, locals := 68 } : Room) s m args below meth c H locs 0 0 (MQ below ((xQv D (fun (_u : Unit) => True) (fun (_u : Unit) => [(hs, .inr (9, [.ref ra1, .ref sa1, .int sz])), (ra1, .inl (cs 0, 16008, .inl (fun _ => nI 0))), (sa1, .inl (cs 0, 4096, .inl sf)), (a, .inl (cs 0, 8, .inl (fun _ => nI 0)))])) A) args s 0 0 A) (F0 m 0 ls []) by rw [hlocs, hH] at hW; exact hW
  refine lv_aload_n hx hb dX9_copyTo_0 rfl (lv_at hl 0 rfl) ?_
  refine xget C hP 0 rfl rfl zuX9 0 (by decide) zw3_169 rfl dX9_copyTo_1 ?_
  refine lv_iload_n hx hb dX9_copyTo_4 rfl (lv_at hl 2 rfl) ?_
  refine lv_bipush (v := nI 8) hx hb dX9_copyTo_5 (by decide) ?_
  refine lv_imul hx hb dX9_copyTo_7 ?_
  refine lv_topi (nm_r (e' := nI (st1 * 8)) (pk_mul _ _) ?_)
  refine lv_aload_n hx hb dX9_copyTo_8 rfl (lv_at hl 1 rfl) ?_
  refine lv_iconst (v := nI 0) hx hb dX9_copyTo_9 (by decide) ?_
  refine lv_bipush (v := nI 8) hx hb dX9_copyTo_10 (by decide) ?_
  refine xcopy C hP hD hS 1 3 rfl rfl (sp := (st1 * 8)) (dp := 0) (k := 8) rfl rfl rfl (by omega) (by decide) ⟨by decide, by decide⟩ zw3_204 zw3_6 zw3_5 zw1_16 (Nat.le_of_ble_eq_true rfl) (Nat.le_of_ble_eq_true rfl) hl.1 dX9_copyTo_12 (fun H locs hP hD hS => ?_)
  have hP : va_P D vwCl [(hs, .inr (9, [.ref ra1, .ref sa1, .int sz])), (ra1, .inl (cs 0, 16008, .inl (fun _ => nI 0))), (sa1, .inl (cs 0, 4096, .inl sf)), (a, .inl (cs 0, 8, .inl (va_cpy (fun _ => nI 0) f (st1 * 8) 0 8)))] H := hP
  have hD : va_D A [(hs, .inr (9, [.ref ra1, .ref sa1, .int sz])), (ra1, .inl (cs 0, 16008, .inl (fun _ => nI 0))), (sa1, .inl (cs 0, 4096, .inl sf)), (a, .inl (cs 0, 8, .inl (va_cpy (fun _ => nI 0) f (st1 * 8) 0 8)))] := hD
  obtain ⟨hP, hD⟩ := xcongi (q0 := 3) (fun _ => nI 0) hP hD rfl (fun j hj => by rw [pk_cpy_in (Nat.zero_le j) (by omega)])
  have hP : va_P D vwCl [(hs, .inr (9, [.ref ra1, .ref sa1, .int sz])), (ra1, .inl (cs 0, 16008, .inl (fun _ => nI 0))), (sa1, .inl (cs 0, 4096, .inl sf)), (a, .inl (cs 0, 8, .inl (fun _ => nI 0)))] H := hP
  have hD : va_D A [(hs, .inr (9, [.ref ra1, .ref sa1, .int sz])), (ra1, .inl (cs 0, 16008, .inl (fun _ => nI 0))), (sa1, .inl (cs 0, 4096, .inl sf)), (a, .inl (cs 0, 8, .inl (fun _ => nI 0)))] := hD
  exact xretv C () trivial hP hD hS (Nat.le_of_ble_eq_true rfl) (Nat.le_of_ble_eq_true rfl) dX9_copyTo_15
