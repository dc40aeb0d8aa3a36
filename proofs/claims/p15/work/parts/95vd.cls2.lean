set_option maxHeartbeats 4000000 in
set_option maxRecDepth 100000 in
theorem c_X0_winner_f (l : Launch) (D : va_G) (cs : Nat → ClassId) (ha hg : Nat) (hr sm ca n k al be se : Nat) (ea pr : Int32) (z1 z2 z3 : Int32) (x : Int32) : xMet l D cs yX0_winner cX0_winner 2 (some .int) ({ frames := 1, cells := 0, slots := 0, locals := 20 } : Room) [.ref ha, .int x] [(ha, .inr (0, [.ref hr, .ref hg, .int z1, .int z2, .int z3])), (hr, .inr (7, [.int (nI n), .int (nI k), .int (nI al), .int (nI be), .int ea, .int pr, .ref sm, .int (nI se), .ref ca]))] (xQi D (fun (r : Int32) (_u : Unit) => r = winF al (bcF (x &&& z2)) (bcF (x &&& z1))) (fun (_u : Unit) => [(ha, .inr (0, [.ref hr, .ref hg, .int z1, .int z2, .int z3])), (hr, .inr (7, [.int (nI n), .int (nI k), .int (nI al), .int (nI be), .int ea, .int pr, .ref sm, .int (nI se), .ref ca]))])) := by
  refine xMet.intro (by decide) (Nat.le_of_ble_eq_true rfl) ?_
  intro p e s m args below meth c A ls C hP hD hS hl
  have hx := C.1
  have hb := C.2.1
  have hz := C.2.2.2.2.1
  have hown := C.2.2.2.1
  have hA := C.2.2.2.2.2.2.2.2.2
  have hAO := C.2.2.2.2.2.2.2.2.1.2.2
  replace hl : lv_has ls 2 [(0, .ref ha), (1, .int x)] := hl
  obtain ⟨H, hH⟩ : ∃ H, H = s.heap := ⟨_, rfl⟩
  replace hP : va_P D vwCl [(ha, .inr (0, [.ref hr, .ref hg, .int z1, .int z2, .int z3])), (hr, .inr (7, [.int (nI n), .int (nI k), .int (nI al), .int (nI be), .int ea, .int pr, .ref sm, .int (nI se), .ref ca]))] H := by rw [hH]; exact hP
  replace hS : va_S A s.heap H [] := by rw [hH]; exact hS
  obtain ⟨locs, hlocs⟩ : ∃ z : List Loc, z = [] := ⟨_, rfl⟩
  rw [← hlocs] at hS
  suffices hW : W p l e ({ frames := 1, cells := 0, slots := 0, locals := 20 } : Room) s m args below meth c H locs 0 0 (MQ below ((xQi D (fun (r : Int32) (_u : Unit) => r = winF al (bcF (x &&& z2)) (bcF (x &&& z1))) (fun (_u : Unit) => [(ha, .inr (0, [.ref hr, .ref hg, .int z1, .int z2, .int z3])), (hr, .inr (7, [.int (nI n), .int (nI k), .int (nI al), .int (nI be), .int ea, .int pr, .ref sm, .int (nI se), .ref ca]))])) A) args s 0 0 A) (F0 m 0 ls []) by rw [hlocs, hH] at hW; exact hW
  clear hH hlocs
  refine lv_iload_n hx hb dX0_winner_0 rfl (lv_at hl 1 rfl) ?_
  refine lv_aload_n hx hb dX0_winner_1 rfl (lv_at hl 0 rfl) ?_
  refine xget C hP 0 rfl rfl zuX0 3 (by decide) zw2_1 rfl dX0_winner_2 ?_
  refine lv_iand hx hb dX0_winner_5 ?_
  refine xi (wr := [(ha, .inr (0, [.ref hr, .ref hg, .int z1, .int z2, .int z3])), (hr, .inr (7, [.int (nI n), .int (nI k), .int (nI al), .int (nI be), .int ea, .int pr, .ref sm, .int (nI se), .ref ca]))]) (xS (As := [.int (x &&& z2)]) (rest := []) C (c_J6_bitCount_0f7a4 l D cs (x &&& z2)) kX0_60 hP hD [] rfl (by decide +kernel) ⟨Nat.le_of_ble_eq_true rfl, Nat.le_of_ble_eq_true rfl⟩ rfl hl.1 rfl (Nat.le_of_ble_eq_true rfl) dX0_winner_6 ⟨Nat.le_of_ble_eq_true rfl, Nat.le_of_ble_eq_true rfl⟩) hP hD hS hA [] [0, 1] rfl rfl (by decide +kernel) (by decide +kernel) ?_
  clear hP hD hS
  try clear locs
  try clear H
  intro r_1 u_2 H locs hw_r_1 hP hD hS
  have hw_r_1 : r_1 = bcF (x &&& z2) := hw_r_1
  refine W.widen (k := 0) (n := 0) (Nat.le_of_ble_eq_true rfl) (Nat.le_of_ble_eq_true rfl) ?_
  replace hP : va_P D vwCl [(ha, .inr (0, [.ref hr, .ref hg, .int z1, .int z2, .int z3])), (hr, .inr (7, [.int (nI n), .int (nI k), .int (nI al), .int (nI be), .int ea, .int pr, .ref sm, .int (nI se), .ref ca]))] H := hP
  replace hD : va_D A [(ha, .inr (0, [.ref hr, .ref hg, .int z1, .int z2, .int z3])), (hr, .inr (7, [.int (nI n), .int (nI k), .int (nI al), .int (nI be), .int ea, .int pr, .ref sm, .int (nI se), .ref ca]))] := hD
  obtain rfl : r_1 = bcF (x &&& z2) := hw_r_1
  refine lv_aload_n hx hb dX0_winner_9 rfl (lv_at hl 0 rfl) ?_
  refine xget C hP 0 rfl rfl zuX0 0 (by decide) zw1_237 rfl dX0_winner_10 ?_
  refine xget C hP 1 rfl rfl zuX7 2 (by decide) zw1_86 rfl dX0_winner_13 ?_
  refine lv_icmp_lt (tgt := 21) hx hb dX0_winner_16 (by decide) (fun c_3 => ?_) (fun c_3 => ?_)
  · -- 16 t
    refine lv_iload_n hx hb dX0_winner_21 rfl (lv_at hl 1 rfl) ?_
    refine lv_aload_n hx hb dX0_winner_22 rfl (lv_at hl 0 rfl) ?_
    refine xget C hP 0 rfl rfl zuX0 2 (by decide) zw1_239 rfl dX0_winner_23 ?_
    refine lv_iand hx hb dX0_winner_26 ?_
    refine xi (wr := [(ha, .inr (0, [.ref hr, .ref hg, .int z1, .int z2, .int z3])), (hr, .inr (7, [.int (nI n), .int (nI k), .int (nI al), .int (nI be), .int ea, .int pr, .ref sm, .int (nI se), .ref ca]))]) (xS (As := [.int (x &&& z1)]) (rest := []) C (c_J6_bitCount_0f7a4 l D cs (x &&& z1)) kX0_60 hP hD [] rfl (by decide +kernel) ⟨Nat.le_of_ble_eq_true rfl, Nat.le_of_ble_eq_true rfl⟩ rfl hl.1 rfl (Nat.le_of_ble_eq_true rfl) dX0_winner_27 ⟨Nat.le_of_ble_eq_true rfl, Nat.le_of_ble_eq_true rfl⟩) hP hD hS hA [] [0, 1] rfl rfl (by decide +kernel) (by decide +kernel) ?_
    clear hP hD hS
    try clear locs
    try clear H
    intro r_4 u_5 H locs hw_r_4 hP hD hS
    have hw_r_4 : r_4 = bcF (x &&& z1) := hw_r_4
    refine W.widen (k := 0) (n := 0) (Nat.le_of_ble_eq_true rfl) (Nat.le_of_ble_eq_true rfl) ?_
    replace hP : va_P D vwCl [(ha, .inr (0, [.ref hr, .ref hg, .int z1, .int z2, .int z3])), (hr, .inr (7, [.int (nI n), .int (nI k), .int (nI al), .int (nI be), .int ea, .int pr, .ref sm, .int (nI se), .ref ca]))] H := hP
    replace hD : va_D A [(ha, .inr (0, [.ref hr, .ref hg, .int z1, .int z2, .int z3])), (hr, .inr (7, [.int (nI n), .int (nI k), .int (nI al), .int (nI be), .int ea, .int pr, .ref sm, .int (nI se), .ref ca]))] := hD
    obtain rfl : r_4 = bcF (x &&& z1) := hw_r_4
    refine lv_aload_n hx hb dX0_winner_30 rfl (lv_at hl 0 rfl) ?_
    refine xget C hP 0 rfl rfl zuX0 0 (by decide) zw1_237 rfl dX0_winner_31 ?_
    refine xget C hP 1 rfl rfl zuX7 2 (by decide) zw1_86 rfl dX0_winner_34 ?_
    refine lv_icmp_lt (tgt := 44) hx hb dX0_winner_37 (by decide) (fun c_6 => ?_) (fun c_6 => ?_)
    · -- 37 t
      refine lv_iconst (v := (-1)) hx hb dX0_winner_44 (by decide) ?_
      exact xreti C () (((if_pos c_3).trans (if_pos c_6)).symm) hP hD hS (Nat.le_of_ble_eq_true rfl) (Nat.le_of_ble_eq_true rfl) rfl dX0_winner_45
    · -- 37 f
      refine lv_iconst (v := nI 0) hx hb dX0_winner_40 (by decide) ?_
      refine lv_goto (tgt := 45) hx hb dX0_winner_41 (by decide) ?_
      exact xreti C () (((if_pos c_3).trans (if_neg c_6)).symm) hP hD hS (Nat.le_of_ble_eq_true rfl) (Nat.le_of_ble_eq_true rfl) rfl dX0_winner_45
  · -- 16 f
    refine lv_iconst (v := nI 1) hx hb dX0_winner_19 (by decide) ?_
    exact xreti C () ((if_neg c_3).symm) hP hD hS (Nat.le_of_ble_eq_true rfl) (Nat.le_of_ble_eq_true rfl) rfl dX0_winner_20

set_option maxHeartbeats 4000000 in
set_option maxRecDepth 100000 in
theorem c_X0_giveColour_f (l : Launch) (D : va_G) (cs : Nat → ClassId) (ha hg : Nat) (hr sm ca n k al be se : Nat) (ea pr : Int32) (z1 z2 z3 : Int32) (a : Nat) (f : Nat → Int32) (x y : Int32) (hn : n ≤ 8) : xMet l D cs yX0_giveColour cX0_giveColour 5 none ({ frames := 1, cells := 0, slots := 0, locals := 21 } : Room) [.ref ha, .ref a, .int x, .int y] [(ha, .inr (0, [.ref hr, .ref hg, .int z1, .int z2, .int z3])), (hr, .inr (7, [.int (nI n), .int (nI k), .int (nI al), .int (nI be), .int ea, .int pr, .ref sm, .int (nI se), .ref ca])), (a, .inl (cs 0, 8, .inl f))] (xQv D (fun (f2 : (Nat → Int32)) => ∀ j, j < 32 → f2 j = givF n x y f j) (fun (f2 : (Nat → Int32)) => [(ha, .inr (0, [.ref hr, .ref hg, .int z1, .int z2, .int z3])), (hr, .inr (7, [.int (nI n), .int (nI k), .int (nI al), .int (nI be), .int ea, .int pr, .ref sm, .int (nI se), .ref ca])), (a, .inl (cs 0, 8, .inl f2))])) := by
  refine xMet.intro (by decide) (Nat.le_of_ble_eq_true rfl) ?_
  intro p e s m args below meth c A ls C hP hD hS hl
  have hx := C.1
  have hb := C.2.1
  have hz := C.2.2.2.2.1
  have hown := C.2.2.2.1
  have hA := C.2.2.2.2.2.2.2.2.2
  have hAO := C.2.2.2.2.2.2.2.2.1.2.2
  replace hl : lv_has ls 5 [(0, .ref ha), (1, .ref a), (2, .int x), (3, .int y)] := hl
  obtain ⟨H, hH⟩ : ∃ H, H = s.heap := ⟨_, rfl⟩
  replace hP : va_P D vwCl [(ha, .inr (0, [.ref hr, .ref hg, .int z1, .int z2, .int z3])), (hr, .inr (7, [.int (nI n), .int (nI k), .int (nI al), .int (nI be), .int ea, .int pr, .ref sm, .int (nI se), .ref ca])), (a, .inl (cs 0, 8, .inl f))] H := by rw [hH]; exact hP
  replace hS : va_S A s.heap H [] := by rw [hH]; exact hS
  obtain ⟨locs, hlocs⟩ : ∃ z : List Loc, z = [] := ⟨_, rfl⟩
  rw [← hlocs] at hS
  suffices hW : W p l e ({ frames := 1, cells := 0, slots := 0, locals := 21 } : Room) s m args below meth c H locs 0 0 (MQ below ((xQv D (fun (f2 : (Nat → Int32)) => ∀ j, j < 32 → f2 j = givF n x y f j) (fun (f2 : (Nat → Int32)) => [(ha, .inr (0, [.ref hr, .ref hg, .int z1, .int z2, .int z3])), (hr, .inr (7, [.int (nI n), .int (nI k), .int (nI al), .int (nI be), .int ea, .int pr, .ref sm, .int (nI se), .ref ca])), (a, .inl (cs 0, 8, .inl f2))])) A) args s 0 0 A) (F0 m 0 ls []) by rw [hlocs, hH] at hW; exact hW
  clear hH hlocs
  refine lv_iconst (v := nI 0) hx hb dX0_giveColour_0 (by decide) ?_
  refine lv_istore (lv' := [(4, .int (nI 0)), (0, .ref ha), (1, .ref a), (2, .int x), (3, .int y)]) hx hb dX0_giveColour_1 hl (by decide) rfl ?_
  clear hl
  try clear ls
  intro ls hl
  have loop_1 : ∀ (n_loop_1 : Nat) (o : Nat) (g9 : Nat → Int32), (o ≤ n) → (∀ j, g9 j = givF o x y f j) → n - o < n_loop_1 → ∀ (H : Heap) (locs : List Loc) (ls : Array Slot), va_P D vwCl [(ha, .inr (0, [.ref hr, .ref hg, .int z1, .int z2, .int z3])), (hr, .inr (7, [.int (nI n), .int (nI k), .int (nI al), .int (nI be), .int ea, .int pr, .ref sm, .int (nI se), .ref ca])), (a, .inl (cs 0, 8, .inl g9))] H → va_D A [(ha, .inr (0, [.ref hr, .ref hg, .int z1, .int z2, .int z3])), (hr, .inr (7, [.int (nI n), .int (nI k), .int (nI al), .int (nI be), .int ea, .int pr, .ref sm, .int (nI se), .ref ca])), (a, .inl (cs 0, 8, .inl g9))] → va_S A s.heap H locs → lv_has ls 5 [(4, .int (nI o)), (0, .ref ha), (1, .ref a), (2, .int x), (3, .int y)] → W p l e ({ frames := 1, cells := 0, slots := 0, locals := 21 } : Room) s m args below meth c H locs 0 0 (MQ below ((xQv D (fun (f2 : (Nat → Int32)) => ∀ j, j < 32 → f2 j = givF n x y f j) (fun (f2 : (Nat → Int32)) => [(ha, .inr (0, [.ref hr, .ref hg, .int z1, .int z2, .int z3])), (hr, .inr (7, [.int (nI n), .int (nI k), .int (nI al), .int (nI be), .int ea, .int pr, .ref sm, .int (nI se), .ref ca])), (a, .inl (cs 0, 8, .inl f2))])) A) args s 0 0 A) (F0 m 3 ls []) := by
    intro n_loop_1
    induction n_loop_1 with
    | zero => intro o g9 h_o hg9 hlt H locs ls hP hD hS hl; exact absurd hlt (Nat.not_lt_zero _)
    | succ n_loop_1 ih_loop_1 =>
      intro o g9 h_o hg9 hlt_loop_1 H locs ls hP hD hS hl
      refine lv_iload_n hx hb dX0_giveColour_3 rfl (lv_at hl 3 rfl) ?_
      refine lv_if_eq (tgt := 47) hx hb dX0_giveColour_4 (by decide) (fun c_2 => ?_) (fun c_2 => ?_)
      · -- 4 t
        exact xretv C g9 (givF_z hg9 c_2) hP hD hS (Nat.le_of_ble_eq_true rfl) (Nat.le_of_ble_eq_true rfl) dX0_giveColour_47
      · -- 4 f
        refine lv_iload hx hb dX0_giveColour_7 (lv_at hl 0 rfl) ?_
        refine lv_aload_n hx hb dX0_giveColour_9 rfl (lv_at hl 1 rfl) ?_
        refine xget C hP 0 rfl rfl zuX0 0 (by decide) zw1_237 rfl dX0_giveColour_10 ?_
        refine xget C hP 1 rfl rfl zuX7 0 (by decide) zw1_76 rfl dX0_giveColour_13 ?_
        refine lv_icmp_ge (tgt := 47) hx hb dX0_giveColour_16 (by decide) (fun c_3 => ?_) (fun c_3 => ?_)
        · -- 16 t
          have fc_3 : n ≤ o := nf_le (by omega) (by omega) c_3
          exact xretv C g9 (fun j _ => by have qq : o = n := (by omega); rw [← qq]; exact hg9 j) hP hD hS (Nat.le_of_ble_eq_true rfl) (Nat.le_of_ble_eq_true rfl) dX0_giveColour_47
        · -- 16 f
          have fc_3 : o < n := nf_nle (by omega) (by omega) c_3
          refine lv_iload_n hx hb dX0_giveColour_19 rfl (lv_at hl 3 rfl) ?_
          refine lv_iload hx hb dX0_giveColour_20 (lv_at hl 0 rfl) ?_
          refine lv_ishr hx hb dX0_giveColour_22 ?_
          refine lv_iconst (v := nI 1) hx hb dX0_giveColour_23 (by decide) ?_
          refine lv_iand hx hb dX0_giveColour_24 ?_
          refine lv_iconst (v := nI 1) hx hb dX0_giveColour_25 (by decide) ?_
          refine lv_icmp_ne (tgt := 41) hx hb dX0_giveColour_26 (by decide) (fun c_4 => ?_) (fun c_4 => ?_)
          · -- 26 t
            refine lv_iinc (v := nI (o + 1)) (lv' := [(4, .int (nI (o + 1))), (0, .ref ha), (1, .ref a), (2, .int x), (3, .int y)]) hx hb dX0_giveColour_41 hl (k := 0) rfl (nI_add o 1) (by decide) rfl ?_
            clear hl
            try clear ls
            intro ls hl
            refine lv_goto (tgt := 3) hx hb dX0_giveColour_44 (by decide) ?_
            exact ih_loop_1 (o + 1) g9 (by omega) (givF_n hg9 c_4) (by omega) H locs ls hP hD hS (lv_sub hl [0, 1, 2, 3, 4] rfl)
          · -- 26 f
            refine lv_aload_n hx hb dX0_giveColour_29 rfl (lv_at hl 2 rfl) ?_
            refine lv_iload hx hb dX0_giveColour_30 (lv_at hl 0 rfl) ?_
            refine lv_aload_n hx hb dX0_giveColour_32 rfl (lv_at hl 2 rfl) ?_
            refine lv_iload hx hb dX0_giveColour_33 (lv_at hl 0 rfl) ?_
            refine xiald C hP 2 rfl o rfl (by omega) (by decide) dX0_giveColour_35 ?_
            refine lv_iload_n hx hb dX0_giveColour_36 rfl (lv_at hl 4 rfl) ?_
            refine xi (wr := [(ha, .inr (0, [.ref hr, .ref hg, .int z1, .int z2, .int z3])), (hr, .inr (7, [.int (nI n), .int (nI k), .int (nI al), .int (nI be), .int ea, .int pr, .ref sm, .int (nI se), .ref ca])), (a, .inl (cs 0, 8, .inl g9))]) (xS (As := [.int (g9 o), .int y]) (rest := [.int (nI o), .ref a]) C (c_X4_withColour l D cs (g9 o) y) kX0_75 hP hD [] rfl (by decide +kernel) ⟨Nat.le_of_ble_eq_true rfl, Nat.le_of_ble_eq_true rfl⟩ rfl hl.1 rfl (Nat.le_of_ble_eq_true rfl) dX0_giveColour_37 ⟨Nat.le_of_ble_eq_true rfl, Nat.le_of_ble_eq_true rfl⟩) hP hD hS hA [] [0, 1, 2] rfl rfl (by decide +kernel) (by decide +kernel) ?_
            clear hP hD hS
            try clear locs
            try clear H
            intro r_5 u_6 H locs hw_r_5 hP hD hS
            have hw_r_5 : r_5 = ((g9 o) &&& (-4)) ||| (y + nI 1) := hw_r_5
            refine W.widen (k := 0) (n := 0) (Nat.le_of_ble_eq_true rfl) (Nat.le_of_ble_eq_true rfl) ?_
            replace hP : va_P D vwCl [(ha, .inr (0, [.ref hr, .ref hg, .int z1, .int z2, .int z3])), (hr, .inr (7, [.int (nI n), .int (nI k), .int (nI al), .int (nI be), .int ea, .int pr, .ref sm, .int (nI se), .ref ca])), (a, .inl (cs 0, 8, .inl g9))] H := hP
            replace hD : va_D A [(ha, .inr (0, [.ref hr, .ref hg, .int z1, .int z2, .int z3])), (hr, .inr (7, [.int (nI n), .int (nI k), .int (nI al), .int (nI be), .int ea, .int pr, .ref sm, .int (nI se), .ref ca])), (a, .inl (cs 0, 8, .inl g9))] := hD
            obtain rfl : r_5 = wtC (g9 o) y := hw_r_5
            refine xiast C hP hD hS 2 rfl o rfl (by omega) (by decide) dX0_giveColour_40 ?_
            clear hP hD hS
            try clear locs
            try clear H
            intro H locs hP hD hS
            replace hP : va_P D vwCl [(ha, .inr (0, [.ref hr, .ref hg, .int z1, .int z2, .int z3])), (hr, .inr (7, [.int (nI n), .int (nI k), .int (nI al), .int (nI be), .int ea, .int pr, .ref sm, .int (nI se), .ref ca])), (a, .inl (cs 0, 8, .inl (upd g9 o (wtC (g9 o) y))))] H := hP
            replace hD : va_D A [(ha, .inr (0, [.ref hr, .ref hg, .int z1, .int z2, .int z3])), (hr, .inr (7, [.int (nI n), .int (nI k), .int (nI al), .int (nI be), .int ea, .int pr, .ref sm, .int (nI se), .ref ca])), (a, .inl (cs 0, 8, .inl (upd g9 o (wtC (g9 o) y))))] := hD
            refine lv_iinc (v := nI (o + 1)) (lv' := [(4, .int (nI (o + 1))), (0, .ref ha), (1, .ref a), (2, .int x), (3, .int y)]) hx hb dX0_giveColour_41 hl (k := 0) rfl (nI_add o 1) (by decide) rfl ?_
            clear hl
            try clear ls
            intro ls hl
            refine lv_goto (tgt := 3) hx hb dX0_giveColour_44 (by decide) ?_
            exact ih_loop_1 (o + 1) (upd g9 o (wtC (g9 o) y)) (by omega) (givF_s hg9 c_4) (by omega) H locs ls hP hD hS (lv_sub hl [0, 1, 2, 3, 4] rfl)
  exact loop_1 _ 0 f (by omega) (givF_0 x y f) (Nat.lt_succ_self _) H locs ls hP hD hS (lv_sub hl [0, 1, 2, 3, 4] rfl)

set_option maxHeartbeats 4000000 in
set_option maxRecDepth 100000 in
theorem c_X0_byFlake_f (l : Launch) (D : va_G) (cs : Nat → ClassId) (x y : Int32) : xMet l D cs yX0_byFlake cX0_byFlake 2 (some .int) ({ frames := 1, cells := 0, slots := 0, locals := 21 } : Room) [.int x, .int y] [] (xQi D (fun (r : Int32) (_u : Unit) => r = flkF x y) (fun (_u : Unit) => [])) := by
  refine xMet.intro (by decide) (Nat.le_of_ble_eq_true rfl) ?_
  intro p e s m args below meth c A ls C hP hD hS hl
  have hx := C.1
  have hb := C.2.1
  have hz := C.2.2.2.2.1
  have hown := C.2.2.2.1
  have hA := C.2.2.2.2.2.2.2.2.2
  have hAO := C.2.2.2.2.2.2.2.2.1.2.2
  replace hl : lv_has ls 2 [(0, .int x), (1, .int y)] := hl
  obtain ⟨H, hH⟩ : ∃ H, H = s.heap := ⟨_, rfl⟩
  replace hP : va_P D vwCl [] H := by rw [hH]; exact hP
  replace hS : va_S A s.heap H [] := by rw [hH]; exact hS
  obtain ⟨locs, hlocs⟩ : ∃ z : List Loc, z = [] := ⟨_, rfl⟩
  rw [← hlocs] at hS
  suffices hW : W p l e ({ frames := 1, cells := 0, slots := 0, locals := 21 } : Room) s m args below meth c H locs 0 0 (MQ below ((xQi D (fun (r : Int32) (_u : Unit) => r = flkF x y) (fun (_u : Unit) => [])) A) args s 0 0 A) (F0 m 0 ls []) by rw [hlocs, hH] at hW; exact hW
  clear hH hlocs
  refine lv_iload_n hx hb dX0_byFlake_0 rfl (lv_at hl 1 rfl) ?_
  refine lv_iload_n hx hb dX0_byFlake_1 rfl (lv_at hl 0 rfl) ?_
  refine xi (wr := []) (xS (As := [.int x]) (rest := [.int y]) C (c_X4_colourOf l D cs x) kX0_29 hP hD [] rfl (by decide +kernel) ⟨Nat.le_of_ble_eq_true rfl, Nat.le_of_ble_eq_true rfl⟩ rfl hl.1 rfl (Nat.le_of_ble_eq_true rfl) dX0_byFlake_2 ⟨Nat.le_of_ble_eq_true rfl, Nat.le_of_ble_eq_true rfl⟩) hP hD hS hA [] [] rfl rfl (by decide +kernel) (by decide +kernel) ?_
  clear hP hD hS
  try clear locs
  try clear H
  intro r_1 u_2 H locs hw_r_1 hP hD hS
  have hw_r_1 : r_1 = (x &&& nI 3) - nI 1 := hw_r_1
  refine W.widen (k := 0) (n := 0) (Nat.le_of_ble_eq_true rfl) (Nat.le_of_ble_eq_true rfl) ?_
  replace hP : va_P D vwCl [] H := hP
  replace hD : va_D A [] := hD
  obtain rfl : r_1 = colF x := hw_r_1
  refine lv_icmp_eq (tgt := 18) hx hb dX0_byFlake_5 (by decide) (fun c_3 => ?_) (fun c_3 => ?_)
  · -- 5 t
    refine lv_iload_n hx hb dX0_byFlake_18 rfl (lv_at hl 0 rfl) ?_
    refine lv_iload_n hx hb dX0_byFlake_19 rfl (lv_at hl 0 rfl) ?_
    refine xi (wr := []) (xS (As := [.int x]) (rest := [.int x]) C (c_X4_counterOf l D cs x) kX0_88 hP hD [] rfl (by decide +kernel) ⟨Nat.le_of_ble_eq_true rfl, Nat.le_of_ble_eq_true rfl⟩ rfl hl.1 rfl (Nat.le_of_ble_eq_true rfl) dX0_byFlake_20 ⟨Nat.le_of_ble_eq_true rfl, Nat.le_of_ble_eq_true rfl⟩) hP hD hS hA [] [] rfl rfl (by decide +kernel) (by decide +kernel) ?_
    clear hP hD hS
    try clear locs
    try clear H
    intro r_4 u_5 H locs hw_r_4 hP hD hS
    have hw_r_4 : r_4 = ((x).toUInt32 >>> ((nI 4).toUInt32 &&& Int32.toUInt32 31)).toInt32 &&& nI 15 := hw_r_4
    refine W.widen (k := 0) (n := 0) (Nat.le_of_ble_eq_true rfl) (Nat.le_of_ble_eq_true rfl) ?_
    replace hP : va_P D vwCl [] H := hP
    replace hD : va_D A [] := hD
    obtain rfl : r_4 = cntF x := hw_r_4
    refine lv_iconst (v := nI 1) hx hb dX0_byFlake_23 (by decide) ?_
    refine lv_iadd hx hb dX0_byFlake_24 ?_
    refine xi (wr := []) (xS (As := [.int x, .int ((cntF x) + (nI 1))]) (rest := []) C (c_X4_withCounter l D cs x ((cntF x) + (nI 1))) kX0_79 hP hD [] rfl (by decide +kernel) ⟨Nat.le_of_ble_eq_true rfl, Nat.le_of_ble_eq_true rfl⟩ rfl hl.1 rfl (Nat.le_of_ble_eq_true rfl) dX0_byFlake_25 ⟨Nat.le_of_ble_eq_true rfl, Nat.le_of_ble_eq_true rfl⟩) hP hD hS hA [] [] rfl rfl (by decide +kernel) (by decide +kernel) ?_
    clear hP hD hS
    try clear locs
    try clear H
    intro r_6 u_7 H locs hw_r_6 hP hD hS
    have hw_r_6 : r_6 = wcF x ((cntF x) + (nI 1)) := hw_r_6
    refine W.widen (k := 0) (n := 0) (Nat.le_of_ble_eq_true rfl) (Nat.le_of_ble_eq_true rfl) ?_
    replace hP : va_P D vwCl [] H := hP
    replace hD : va_D A [] := hD
    obtain rfl : r_6 = wcF x ((cntF x) + (nI 1)) := hw_r_6
    exact xreti C () ((if_pos c_3).symm) hP hD hS (Nat.le_of_ble_eq_true rfl) (Nat.le_of_ble_eq_true rfl) rfl dX0_byFlake_28
  · -- 5 f
    refine lv_iload_n hx hb dX0_byFlake_8 rfl (lv_at hl 0 rfl) ?_
    refine lv_iload_n hx hb dX0_byFlake_9 rfl (lv_at hl 1 rfl) ?_
    refine xi (wr := []) (xS (As := [.int x, .int y]) (rest := []) C (c_X4_withColour l D cs x y) kX0_75 hP hD [] rfl (by decide +kernel) ⟨Nat.le_of_ble_eq_true rfl, Nat.le_of_ble_eq_true rfl⟩ rfl hl.1 rfl (Nat.le_of_ble_eq_true rfl) dX0_byFlake_10 ⟨Nat.le_of_ble_eq_true rfl, Nat.le_of_ble_eq_true rfl⟩) hP hD hS hA [] [] rfl rfl (by decide +kernel) (by decide +kernel) ?_
    clear hP hD hS
    try clear locs
    try clear H
    intro r_8 u_9 H locs hw_r_8 hP hD hS
    have hw_r_8 : r_8 = (x &&& (-4)) ||| (y + nI 1) := hw_r_8
    refine W.widen (k := 0) (n := 0) (Nat.le_of_ble_eq_true rfl) (Nat.le_of_ble_eq_true rfl) ?_
    replace hP : va_P D vwCl [] H := hP
    replace hD : va_D A [] := hD
    obtain rfl : r_8 = wtC x y := hw_r_8
    refine lv_iconst (v := nI 1) hx hb dX0_byFlake_13 (by decide) ?_
    refine xi (wr := []) (xS (As := [.int (wtC x y), .int (nI 1)]) (rest := []) C (c_X4_withCounter l D cs (wtC x y) (nI 1)) kX0_79 hP hD [] rfl (by decide +kernel) ⟨Nat.le_of_ble_eq_true rfl, Nat.le_of_ble_eq_true rfl⟩ rfl hl.1 rfl (Nat.le_of_ble_eq_true rfl) dX0_byFlake_14 ⟨Nat.le_of_ble_eq_true rfl, Nat.le_of_ble_eq_true rfl⟩) hP hD hS hA [] [] rfl rfl (by decide +kernel) (by decide +kernel) ?_
    clear hP hD hS
    try clear locs
    try clear H
    intro r_10 u_11 H locs hw_r_10 hP hD hS
    have hw_r_10 : r_10 = wcF (wtC x y) (nI 1) := hw_r_10
    refine W.widen (k := 0) (n := 0) (Nat.le_of_ble_eq_true rfl) (Nat.le_of_ble_eq_true rfl) ?_
    replace hP : va_P D vwCl [] H := hP
    replace hD : va_D A [] := hD
    obtain rfl : r_10 = wcF (wtC x y) (nI 1) := hw_r_10
    exact xreti C () ((if_neg c_3).symm) hP hD hS (Nat.le_of_ble_eq_true rfl) (Nat.le_of_ble_eq_true rfl) rfl dX0_byFlake_17

set_option maxHeartbeats 4000000 in
set_option maxRecDepth 100000 in
theorem c_X0_byBall_f (l : Launch) (D : va_G) (cs : Nat → ClassId) (x y : Int32) : xMet l D cs yX0_byBall cX0_byBall 4 (some .int) ({ frames := 1, cells := 0, slots := 0, locals := 23 } : Room) [.int x, .int y] [] (xQi D (fun (r : Int32) (_u : Unit) => r = balF x y) (fun (_u : Unit) => [])) := by
  refine xMet.intro (by decide) (Nat.le_of_ble_eq_true rfl) ?_
  intro p e s m args below meth c A ls C hP hD hS hl
  have hx := C.1
  have hb := C.2.1
  have hz := C.2.2.2.2.1
  have hown := C.2.2.2.1
  have hA := C.2.2.2.2.2.2.2.2.2
  have hAO := C.2.2.2.2.2.2.2.2.1.2.2
  replace hl : lv_has ls 4 [(0, .int x), (1, .int y)] := hl
  obtain ⟨H, hH⟩ : ∃ H, H = s.heap := ⟨_, rfl⟩
  replace hP : va_P D vwCl [] H := by rw [hH]; exact hP
  replace hS : va_S A s.heap H [] := by rw [hH]; exact hS
  obtain ⟨locs, hlocs⟩ : ∃ z : List Loc, z = [] := ⟨_, rfl⟩
  rw [← hlocs] at hS
  suffices hW : W p l e ({ frames := 1, cells := 0, slots := 0, locals := 23 } : Room) s m args below meth c H locs 0 0 (MQ below ((xQi D (fun (r : Int32) (_u : Unit) => r = balF x y) (fun (_u : Unit) => [])) A) args s 0 0 A) (F0 m 0 ls []) by rw [hlocs, hH] at hW; exact hW
  clear hH hlocs
  refine lv_iload_n hx hb dX0_byBall_0 rfl (lv_at hl 0 rfl) ?_
  refine lv_iload_n hx hb dX0_byBall_1 rfl (lv_at hl 1 rfl) ?_
  refine xi (wr := []) (xS (As := [.int x, .int y]) (rest := []) C (c_X4_confidenceOf l D cs x y) kX0_97 hP hD [] rfl (by decide +kernel) ⟨Nat.le_of_ble_eq_true rfl, Nat.le_of_ble_eq_true rfl⟩ rfl hl.1 rfl (Nat.le_of_ble_eq_true rfl) dX0_byBall_2 ⟨Nat.le_of_ble_eq_true rfl, Nat.le_of_ble_eq_true rfl⟩) hP hD hS hA [] [] rfl rfl (by decide +kernel) (by decide +kernel) ?_
  clear hP hD hS
  try clear locs
  try clear H
  intro r_1 u_2 H locs hw_r_1 hP hD hS
  have hw_r_1 : r_1 = ((x).toUInt32 >>> ((nI 8 + y * nI 10).toUInt32 &&& Int32.toUInt32 31)).toInt32 &&& nI 1023 := hw_r_1
  refine W.widen (k := 0) (n := 0) (Nat.le_of_ble_eq_true rfl) (Nat.le_of_ble_eq_true rfl) ?_
  replace hP : va_P D vwCl [] H := hP
  replace hD : va_D A [] := hD
  obtain rfl : r_1 = cofF x y := hw_r_1
  refine lv_iconst (v := nI 1) hx hb dX0_byBall_5 (by decide) ?_
  refine lv_iadd hx hb dX0_byBall_6 ?_
  refine lv_sipush (v := nI 999) hx hb dX0_byBall_7 (by decide) ?_
  refine va_mmin hx hb (C.2.2.1.trans hl.1.symm) hown (hz _ zw3_89) (hz _ zw1_45) (hz _ zw1_3) (hz _ zw1_46) (Nat.le_of_ble_eq_true rfl) (Nat.le_of_ble_eq_true rfl) (Nat.le_of_ble_eq_true rfl) (Nat.le_of_ble_eq_true rfl) dX0_byBall_10 ?_
  refine lv_topi (nm_r (e' := b1F x y) rfl ?_)
  refine lv_istore_n (lv' := [(2, .int (b1F x y)), (0, .int x), (1, .int y)]) hx hb dX0_byBall_13 rfl hl (by decide) rfl ?_
  clear hl
  try clear ls
  intro ls hl
  refine lv_iload_n hx hb dX0_byBall_14 rfl (lv_at hl 1 rfl) ?_
  refine lv_iload_n hx hb dX0_byBall_15 rfl (lv_at hl 2 rfl) ?_
  refine lv_iload_n hx hb dX0_byBall_16 rfl (lv_at hl 0 rfl) ?_
  refine xi (wr := []) (xS (As := [.int x, .int y, .int (b1F x y)]) (rest := []) C (c_X4_withConfidence l D cs x y (b1F x y)) kX0_105 hP hD [] rfl (by decide +kernel) ⟨Nat.le_of_ble_eq_true rfl, Nat.le_of_ble_eq_true rfl⟩ rfl hl.1 rfl (Nat.le_of_ble_eq_true rfl) dX0_byBall_17 ⟨Nat.le_of_ble_eq_true rfl, Nat.le_of_ble_eq_true rfl⟩) hP hD hS hA [] [] rfl rfl (by decide +kernel) (by decide +kernel) ?_
  clear hP hD hS
  try clear locs
  try clear H
  intro r_3 u_4 H locs hw_r_3 hP hD hS
  have hw_r_3 : r_3 = wfF x y (b1F x y) := hw_r_3
  refine W.widen (k := 0) (n := 0) (Nat.le_of_ble_eq_true rfl) (Nat.le_of_ble_eq_true rfl) ?_
  replace hP : va_P D vwCl [] H := hP
  replace hD : va_D A [] := hD
  obtain rfl : r_3 = b2F x y := hw_r_3
  refine lv_istore_n (lv' := [(3, .int (b2F x y)), (2, .int (b1F x y)), (0, .int x), (1, .int y)]) hx hb dX0_byBall_20 rfl hl (by decide) rfl ?_
  clear hl
  try clear ls
  intro ls hl
  refine lv_iload_n hx hb dX0_byBall_21 rfl (lv_at hl 1 rfl) ?_
  refine lv_iload_n hx hb dX0_byBall_22 rfl (lv_at hl 0 rfl) ?_
  refine lv_iload_n hx hb dX0_byBall_23 rfl (lv_at hl 0 rfl) ?_
  refine xi (wr := []) (xS (As := [.int (b2F x y)]) (rest := [.int (b2F x y), .int (b1F x y)]) C (c_X4_colourOf l D cs (b2F x y)) kX0_29 hP hD [] rfl (by decide +kernel) ⟨Nat.le_of_ble_eq_true rfl, Nat.le_of_ble_eq_true rfl⟩ rfl hl.1 rfl (Nat.le_of_ble_eq_true rfl) dX0_byBall_24 ⟨Nat.le_of_ble_eq_true rfl, Nat.le_of_ble_eq_true rfl⟩) hP hD hS hA [] [] rfl rfl (by decide +kernel) (by decide +kernel) ?_
  clear hP hD hS
  try clear locs
  try clear H
  intro r_5 u_6 H locs hw_r_5 hP hD hS
  have hw_r_5 : r_5 = ((b2F x y) &&& nI 3) - nI 1 := hw_r_5
  refine W.widen (k := 0) (n := 0) (Nat.le_of_ble_eq_true rfl) (Nat.le_of_ble_eq_true rfl) ?_
  replace hP : va_P D vwCl [] H := hP
  replace hD : va_D A [] := hD
  obtain rfl : r_5 = colF (b2F x y) := hw_r_5
  refine xi (wr := []) (xS (As := [.int (b2F x y), .int (colF (b2F x y))]) (rest := [.int (b1F x y)]) C (c_X4_confidenceOf l D cs (b2F x y) (colF (b2F x y))) kX0_97 hP hD [] rfl (by decide +kernel) ⟨Nat.le_of_ble_eq_true rfl, Nat.le_of_ble_eq_true rfl⟩ rfl hl.1 rfl (Nat.le_of_ble_eq_true rfl) dX0_byBall_27 ⟨Nat.le_of_ble_eq_true rfl, Nat.le_of_ble_eq_true rfl⟩) hP hD hS hA [] [] rfl rfl (by decide +kernel) (by decide +kernel) ?_
  clear hP hD hS
  try clear locs
  try clear H
  intro r_7 u_8 H locs hw_r_7 hP hD hS
  have hw_r_7 : r_7 = (((b2F x y)).toUInt32 >>> ((nI 8 + (colF (b2F x y)) * nI 10).toUInt32 &&& Int32.toUInt32 31)).toInt32 &&& nI 1023 := hw_r_7
  refine W.widen (k := 0) (n := 0) (Nat.le_of_ble_eq_true rfl) (Nat.le_of_ble_eq_true rfl) ?_
  replace hP : va_P D vwCl [] H := hP
  replace hD : va_D A [] := hD
  obtain rfl : r_7 = cofF (b2F x y) (colF (b2F x y)) := hw_r_7
  refine lv_icmp_le (tgt := 39) hx hb dX0_byBall_30 (by decide) (fun c_9 => ?_) (fun c_9 => ?_)
  · -- 30 t
    have e3 : b2F x y = b3F x y := (if_neg (Int32.not_lt.mpr c_9)).symm
    rw [e3] at hl
    refine lv_iload_n hx hb dX0_byBall_39 rfl (lv_at hl 3 rfl) ?_
    refine lv_iload_n hx hb dX0_byBall_40 rfl (lv_at hl 0 rfl) ?_
    refine xi (wr := []) (xS (As := [.int (b3F x y)]) (rest := [.int y]) C (c_X4_lastOf l D cs (b3F x y)) kX0_108 hP hD [] rfl (by decide +kernel) ⟨Nat.le_of_ble_eq_true rfl, Nat.le_of_ble_eq_true rfl⟩ rfl hl.1 rfl (Nat.le_of_ble_eq_true rfl) dX0_byBall_41 ⟨Nat.le_of_ble_eq_true rfl, Nat.le_of_ble_eq_true rfl⟩) hP hD hS hA [] [] rfl rfl (by decide +kernel) (by decide +kernel) ?_
    clear hP hD hS
    try clear locs
    try clear H
    intro r_10 u_11 H locs hw_r_10 hP hD hS
    have hw_r_10 : r_10 = ((((b3F x y)).toUInt32 >>> ((nI 2).toUInt32 &&& Int32.toUInt32 31)).toInt32 &&& nI 3) - nI 1 := hw_r_10
    refine W.widen (k := 0) (n := 0) (Nat.le_of_ble_eq_true rfl) (Nat.le_of_ble_eq_true rfl) ?_
    replace hP : va_P D vwCl [] H := hP
    replace hD : va_D A [] := hD
    obtain rfl : r_10 = lasF (b3F x y) := hw_r_10
    refine lv_icmp_eq (tgt := 57) hx hb dX0_byBall_44 (by decide) (fun c_12 => ?_) (fun c_12 => ?_)
    · -- 44 t
      refine lv_iload_n hx hb dX0_byBall_57 rfl (lv_at hl 0 rfl) ?_
      refine lv_iload_n hx hb dX0_byBall_58 rfl (lv_at hl 0 rfl) ?_
      refine xi (wr := []) (xS (As := [.int (b3F x y)]) (rest := [.int (b3F x y)]) C (c_X4_counterOf l D cs (b3F x y)) kX0_88 hP hD [] rfl (by decide +kernel) ⟨Nat.le_of_ble_eq_true rfl, Nat.le_of_ble_eq_true rfl⟩ rfl hl.1 rfl (Nat.le_of_ble_eq_true rfl) dX0_byBall_59 ⟨Nat.le_of_ble_eq_true rfl, Nat.le_of_ble_eq_true rfl⟩) hP hD hS hA [] [] rfl rfl (by decide +kernel) (by decide +kernel) ?_
      clear hP hD hS
      try clear locs
      try clear H
      intro r_13 u_14 H locs hw_r_13 hP hD hS
      have hw_r_13 : r_13 = (((b3F x y)).toUInt32 >>> ((nI 4).toUInt32 &&& Int32.toUInt32 31)).toInt32 &&& nI 15 := hw_r_13
      refine W.widen (k := 0) (n := 0) (Nat.le_of_ble_eq_true rfl) (Nat.le_of_ble_eq_true rfl) ?_
      replace hP : va_P D vwCl [] H := hP
      replace hD : va_D A [] := hD
      obtain rfl : r_13 = cntF (b3F x y) := hw_r_13
      refine lv_iconst (v := nI 1) hx hb dX0_byBall_62 (by decide) ?_
      refine lv_iadd hx hb dX0_byBall_63 ?_
      refine xi (wr := []) (xS (As := [.int (b3F x y), .int ((cntF (b3F x y)) + (nI 1))]) (rest := []) C (c_X4_withCounter l D cs (b3F x y) ((cntF (b3F x y)) + (nI 1))) kX0_79 hP hD [] rfl (by decide +kernel) ⟨Nat.le_of_ble_eq_true rfl, Nat.le_of_ble_eq_true rfl⟩ rfl hl.1 rfl (Nat.le_of_ble_eq_true rfl) dX0_byBall_64 ⟨Nat.le_of_ble_eq_true rfl, Nat.le_of_ble_eq_true rfl⟩) hP hD hS hA [] [] rfl rfl (by decide +kernel) (by decide +kernel) ?_
      clear hP hD hS
      try clear locs
      try clear H
      intro r_15 u_16 H locs hw_r_15 hP hD hS
      have hw_r_15 : r_15 = wcF (b3F x y) ((cntF (b3F x y)) + (nI 1)) := hw_r_15
      refine W.widen (k := 0) (n := 0) (Nat.le_of_ble_eq_true rfl) (Nat.le_of_ble_eq_true rfl) ?_
      replace hP : va_P D vwCl [] H := hP
      replace hD : va_D A [] := hD
      obtain rfl : r_15 = wcF (b3F x y) ((cntF (b3F x y)) + (nI 1)) := hw_r_15
      exact xreti C () ((if_pos c_12).symm) hP hD hS (Nat.le_of_ble_eq_true rfl) (Nat.le_of_ble_eq_true rfl) rfl dX0_byBall_67
    · -- 44 f
      refine lv_iload_n hx hb dX0_byBall_47 rfl (lv_at hl 0 rfl) ?_
      refine lv_iload_n hx hb dX0_byBall_48 rfl (lv_at hl 3 rfl) ?_
      refine xi (wr := []) (xS (As := [.int (b3F x y), .int y]) (rest := []) C (c_X4_withLast l D cs (b3F x y) y) kX0_111 hP hD [] rfl (by decide +kernel) ⟨Nat.le_of_ble_eq_true rfl, Nat.le_of_ble_eq_true rfl⟩ rfl hl.1 rfl (Nat.le_of_ble_eq_true rfl) dX0_byBall_49 ⟨Nat.le_of_ble_eq_true rfl, Nat.le_of_ble_eq_true rfl⟩) hP hD hS hA [] [] rfl rfl (by decide +kernel) (by decide +kernel) ?_
      clear hP hD hS
      try clear locs
      try clear H
      intro r_17 u_18 H locs hw_r_17 hP hD hS
      have hw_r_17 : r_17 = wlF (b3F x y) y := hw_r_17
      refine W.widen (k := 0) (n := 0) (Nat.le_of_ble_eq_true rfl) (Nat.le_of_ble_eq_true rfl) ?_
      replace hP : va_P D vwCl [] H := hP
      replace hD : va_D A [] := hD
      obtain rfl : r_17 = wlF (b3F x y) y := hw_r_17
      refine lv_iconst (v := nI 1) hx hb dX0_byBall_52 (by decide) ?_
      refine xi (wr := []) (xS (As := [.int (wlF (b3F x y) y), .int (nI 1)]) (rest := []) C (c_X4_withCounter l D cs (wlF (b3F x y) y) (nI 1)) kX0_79 hP hD [] rfl (by decide +kernel) ⟨Nat.le_of_ble_eq_true rfl, Nat.le_of_ble_eq_true rfl⟩ rfl hl.1 rfl (Nat.le_of_ble_eq_true rfl) dX0_byBall_53 ⟨Nat.le_of_ble_eq_true rfl, Nat.le_of_ble_eq_true rfl⟩) hP hD hS hA [] [] rfl rfl (by decide +kernel) (by decide +kernel) ?_
      clear hP hD hS
      try clear locs
      try clear H
      intro r_19 u_20 H locs hw_r_19 hP hD hS
      have hw_r_19 : r_19 = wcF (wlF (b3F x y) y) (nI 1) := hw_r_19
      refine W.widen (k := 0) (n := 0) (Nat.le_of_ble_eq_true rfl) (Nat.le_of_ble_eq_true rfl) ?_
      replace hP : va_P D vwCl [] H := hP
      replace hD : va_D A [] := hD
      obtain rfl : r_19 = wcF (wlF (b3F x y) y) (nI 1) := hw_r_19
      exact xreti C () ((if_neg c_12).symm) hP hD hS (Nat.le_of_ble_eq_true rfl) (Nat.le_of_ble_eq_true rfl) rfl dX0_byBall_56
  · -- 30 f
    refine lv_iload_n hx hb dX0_byBall_33 rfl (lv_at hl 0 rfl) ?_
    refine lv_iload_n hx hb dX0_byBall_34 rfl (lv_at hl 3 rfl) ?_
    refine xi (wr := []) (xS (As := [.int (b2F x y), .int y]) (rest := []) C (c_X4_withColour l D cs (b2F x y) y) kX0_75 hP hD [] rfl (by decide +kernel) ⟨Nat.le_of_ble_eq_true rfl, Nat.le_of_ble_eq_true rfl⟩ rfl hl.1 rfl (Nat.le_of_ble_eq_true rfl) dX0_byBall_35 ⟨Nat.le_of_ble_eq_true rfl, Nat.le_of_ble_eq_true rfl⟩) hP hD hS hA [] [] rfl rfl (by decide +kernel) (by decide +kernel) ?_
    clear hP hD hS
    try clear locs
    try clear H
    intro r_21 u_22 H locs hw_r_21 hP hD hS
    have hw_r_21 : r_21 = ((b2F x y) &&& (-4)) ||| (y + nI 1) := hw_r_21
    refine W.widen (k := 0) (n := 0) (Nat.le_of_ble_eq_true rfl) (Nat.le_of_ble_eq_true rfl) ?_
    replace hP : va_P D vwCl [] H := hP
    replace hD : va_D A [] := hD
    obtain rfl : r_21 = wtC (b2F x y) y := hw_r_21
    refine lv_istore_n (lv' := [(3, .int (wtC (b2F x y) y)), (2, .int (b1F x y)), (0, .int x), (1, .int y)]) hx hb dX0_byBall_38 rfl hl (by decide) rfl ?_
    clear hl
    try clear ls
    intro ls hl
    have e3 : wtC (b2F x y) y = b3F x y := (if_pos (Int32.not_le.mp c_9)).symm
    rw [e3] at hl
    refine lv_iload_n hx hb dX0_byBall_39 rfl (lv_at hl 3 rfl) ?_
    refine lv_iload_n hx hb dX0_byBall_40 rfl (lv_at hl 0 rfl) ?_
    refine xi (wr := []) (xS (As := [.int (b3F x y)]) (rest := [.int y]) C (c_X4_lastOf l D cs (b3F x y)) kX0_108 hP hD [] rfl (by decide +kernel) ⟨Nat.le_of_ble_eq_true rfl, Nat.le_of_ble_eq_true rfl⟩ rfl hl.1 rfl (Nat.le_of_ble_eq_true rfl) dX0_byBall_41 ⟨Nat.le_of_ble_eq_true rfl, Nat.le_of_ble_eq_true rfl⟩) hP hD hS hA [] [] rfl rfl (by decide +kernel) (by decide +kernel) ?_
    clear hP hD hS
    try clear locs
    try clear H
    intro r_23 u_24 H locs hw_r_23 hP hD hS
    have hw_r_23 : r_23 = ((((b3F x y)).toUInt32 >>> ((nI 2).toUInt32 &&& Int32.toUInt32 31)).toInt32 &&& nI 3) - nI 1 := hw_r_23
    refine W.widen (k := 0) (n := 0) (Nat.le_of_ble_eq_true rfl) (Nat.le_of_ble_eq_true rfl) ?_
    replace hP : va_P D vwCl [] H := hP
    replace hD : va_D A [] := hD
    obtain rfl : r_23 = lasF (b3F x y) := hw_r_23
    refine lv_icmp_eq (tgt := 57) hx hb dX0_byBall_44 (by decide) (fun c_25 => ?_) (fun c_25 => ?_)
    · -- 44 t
      refine lv_iload_n hx hb dX0_byBall_57 rfl (lv_at hl 0 rfl) ?_
      refine lv_iload_n hx hb dX0_byBall_58 rfl (lv_at hl 0 rfl) ?_
      refine xi (wr := []) (xS (As := [.int (b3F x y)]) (rest := [.int (b3F x y)]) C (c_X4_counterOf l D cs (b3F x y)) kX0_88 hP hD [] rfl (by decide +kernel) ⟨Nat.le_of_ble_eq_true rfl, Nat.le_of_ble_eq_true rfl⟩ rfl hl.1 rfl (Nat.le_of_ble_eq_true rfl) dX0_byBall_59 ⟨Nat.le_of_ble_eq_true rfl, Nat.le_of_ble_eq_true rfl⟩) hP hD hS hA [] [] rfl rfl (by decide +kernel) (by decide +kernel) ?_
      clear hP hD hS
      try clear locs
      try clear H
      intro r_26 u_27 H locs hw_r_26 hP hD hS
      have hw_r_26 : r_26 = (((b3F x y)).toUInt32 >>> ((nI 4).toUInt32 &&& Int32.toUInt32 31)).toInt32 &&& nI 15 := hw_r_26
      refine W.widen (k := 0) (n := 0) (Nat.le_of_ble_eq_true rfl) (Nat.le_of_ble_eq_true rfl) ?_
      replace hP : va_P D vwCl [] H := hP
      replace hD : va_D A [] := hD
      obtain rfl : r_26 = cntF (b3F x y) := hw_r_26
      refine lv_iconst (v := nI 1) hx hb dX0_byBall_62 (by decide) ?_
      refine lv_iadd hx hb dX0_byBall_63 ?_
      refine xi (wr := []) (xS (As := [.int (b3F x y), .int ((cntF (b3F x y)) + (nI 1))]) (rest := []) C (c_X4_withCounter l D cs (b3F x y) ((cntF (b3F x y)) + (nI 1))) kX0_79 hP hD [] rfl (by decide +kernel) ⟨Nat.le_of_ble_eq_true rfl, Nat.le_of_ble_eq_true rfl⟩ rfl hl.1 rfl (Nat.le_of_ble_eq_true rfl) dX0_byBall_64 ⟨Nat.le_of_ble_eq_true rfl, Nat.le_of_ble_eq_true rfl⟩) hP hD hS hA [] [] rfl rfl (by decide +kernel) (by decide +kernel) ?_
      clear hP hD hS
      try clear locs
      try clear H
      intro r_28 u_29 H locs hw_r_28 hP hD hS
      have hw_r_28 : r_28 = wcF (b3F x y) ((cntF (b3F x y)) + (nI 1)) := hw_r_28
      refine W.widen (k := 0) (n := 0) (Nat.le_of_ble_eq_true rfl) (Nat.le_of_ble_eq_true rfl) ?_
      replace hP : va_P D vwCl [] H := hP
      replace hD : va_D A [] := hD
      obtain rfl : r_28 = wcF (b3F x y) ((cntF (b3F x y)) + (nI 1)) := hw_r_28
      exact xreti C () ((if_pos c_25).symm) hP hD hS (Nat.le_of_ble_eq_true rfl) (Nat.le_of_ble_eq_true rfl) rfl dX0_byBall_67
    · -- 44 f
      refine lv_iload_n hx hb dX0_byBall_47 rfl (lv_at hl 0 rfl) ?_
      refine lv_iload_n hx hb dX0_byBall_48 rfl (lv_at hl 3 rfl) ?_
      refine xi (wr := []) (xS (As := [.int (b3F x y), .int y]) (rest := []) C (c_X4_withLast l D cs (b3F x y) y) kX0_111 hP hD [] rfl (by decide +kernel) ⟨Nat.le_of_ble_eq_true rfl, Nat.le_of_ble_eq_true rfl⟩ rfl hl.1 rfl (Nat.le_of_ble_eq_true rfl) dX0_byBall_49 ⟨Nat.le_of_ble_eq_true rfl, Nat.le_of_ble_eq_true rfl⟩) hP hD hS hA [] [] rfl rfl (by decide +kernel) (by decide +kernel) ?_
      clear hP hD hS
      try clear locs
      try clear H
      intro r_30 u_31 H locs hw_r_30 hP hD hS
      have hw_r_30 : r_30 = wlF (b3F x y) y := hw_r_30
      refine W.widen (k := 0) (n := 0) (Nat.le_of_ble_eq_true rfl) (Nat.le_of_ble_eq_true rfl) ?_
      replace hP : va_P D vwCl [] H := hP
      replace hD : va_D A [] := hD
      obtain rfl : r_30 = wlF (b3F x y) y := hw_r_30
      refine lv_iconst (v := nI 1) hx hb dX0_byBall_52 (by decide) ?_
      refine xi (wr := []) (xS (As := [.int (wlF (b3F x y) y), .int (nI 1)]) (rest := []) C (c_X4_withCounter l D cs (wlF (b3F x y) y) (nI 1)) kX0_79 hP hD [] rfl (by decide +kernel) ⟨Nat.le_of_ble_eq_true rfl, Nat.le_of_ble_eq_true rfl⟩ rfl hl.1 rfl (Nat.le_of_ble_eq_true rfl) dX0_byBall_53 ⟨Nat.le_of_ble_eq_true rfl, Nat.le_of_ble_eq_true rfl⟩) hP hD hS hA [] [] rfl rfl (by decide +kernel) (by decide +kernel) ?_
      clear hP hD hS
      try clear locs
      try clear H
      intro r_32 u_33 H locs hw_r_32 hP hD hS
      have hw_r_32 : r_32 = wcF (wlF (b3F x y) y) (nI 1) := hw_r_32
      refine W.widen (k := 0) (n := 0) (Nat.le_of_ble_eq_true rfl) (Nat.le_of_ble_eq_true rfl) ?_
      replace hP : va_P D vwCl [] H := hP
      replace hD : va_D A [] := hD
      obtain rfl : r_32 = wcF (wlF (b3F x y) y) (nI 1) := hw_r_32
      exact xreti C () ((if_neg c_25).symm) hP hD hS (Nat.le_of_ble_eq_true rfl) (Nat.le_of_ble_eq_true rfl) rfl dX0_byBall_56

set_option maxHeartbeats 4000000 in
set_option maxRecDepth 100000 in
theorem c_X0_change_f (l : Launch) (D : va_G) (cs : Nat → ClassId) (x y : Int32) : xMet l D cs yX0_change cX0_change 2 (some .int) ({ frames := 1, cells := 0, slots := 0, locals := 20 } : Room) [.int x, .int y] [] (xQi D (fun (r : Int32) (_u : Unit) => r = chgF x y) (fun (_u : Unit) => [])) := by
  refine xMet.intro (by decide) (Nat.le_of_ble_eq_true rfl) ?_
  intro p e s m args below meth c A ls C hP hD hS hl
  have hx := C.1
  have hb := C.2.1
  have hz := C.2.2.2.2.1
  have hown := C.2.2.2.1
  have hA := C.2.2.2.2.2.2.2.2.2
  have hAO := C.2.2.2.2.2.2.2.2.1.2.2
  replace hl : lv_has ls 2 [(0, .int x), (1, .int y)] := hl
  obtain ⟨H, hH⟩ : ∃ H, H = s.heap := ⟨_, rfl⟩
  replace hP : va_P D vwCl [] H := by rw [hH]; exact hP
  replace hS : va_S A s.heap H [] := by rw [hH]; exact hS
  obtain ⟨locs, hlocs⟩ : ∃ z : List Loc, z = [] := ⟨_, rfl⟩
  rw [← hlocs] at hS
  suffices hW : W p l e ({ frames := 1, cells := 0, slots := 0, locals := 20 } : Room) s m args below meth c H locs 0 0 (MQ below ((xQi D (fun (r : Int32) (_u : Unit) => r = chgF x y) (fun (_u : Unit) => [])) A) args s 0 0 A) (F0 m 0 ls []) by rw [hlocs, hH] at hW; exact hW
  clear hH hlocs
  refine lv_iload_n hx hb dX0_change_0 rfl (lv_at hl 1 rfl) ?_
  refine xi (wr := []) (xS (As := [.int y]) (rest := []) C (c_X4_isDecided l D cs y) kX0_39 hP hD [] rfl (by decide +kernel) ⟨Nat.le_of_ble_eq_true rfl, Nat.le_of_ble_eq_true rfl⟩ rfl hl.1 rfl (Nat.le_of_ble_eq_true rfl) dX0_change_1 ⟨Nat.le_of_ble_eq_true rfl, Nat.le_of_ble_eq_true rfl⟩) hP hD hS hA [] [] rfl rfl (by decide +kernel) (by decide +kernel) ?_
  clear hP hD hS
  try clear locs
  try clear H
  intro r_1 u_2 H locs hw_r_1 hP hD hS
  have hw_r_1 : r_1 = if y &&& nI 268435456 = 0 then nI 0 else nI 1 := hw_r_1
  refine W.widen (k := 0) (n := 0) (Nat.le_of_ble_eq_true rfl) (Nat.le_of_ble_eq_true rfl) ?_
  replace hP : va_P D vwCl [] H := hP
  replace hD : va_D A [] := hD
  refine lv_if_eq (tgt := 9) hx hb dX0_change_4 (by decide) (fun c_3 => ?_) (fun c_3 => ?_)
  · -- 4 t
    refine lv_iload_n hx hb dX0_change_9 rfl (lv_at hl 0 rfl) ?_
    refine xi (wr := []) (xS (As := [.int x]) (rest := []) C (c_X4_colourOf l D cs x) kX0_29 hP hD [] rfl (by decide +kernel) ⟨Nat.le_of_ble_eq_true rfl, Nat.le_of_ble_eq_true rfl⟩ rfl hl.1 rfl (Nat.le_of_ble_eq_true rfl) dX0_change_10 ⟨Nat.le_of_ble_eq_true rfl, Nat.le_of_ble_eq_true rfl⟩) hP hD hS hA [] [] rfl rfl (by decide +kernel) (by decide +kernel) ?_
    clear hP hD hS
    try clear locs
    try clear H
    intro r_4 u_5 H locs hw_r_4 hP hD hS
    have hw_r_4 : r_4 = (x &&& nI 3) - nI 1 := hw_r_4
    refine W.widen (k := 0) (n := 0) (Nat.le_of_ble_eq_true rfl) (Nat.le_of_ble_eq_true rfl) ?_
    replace hP : va_P D vwCl [] H := hP
    replace hD : va_D A [] := hD
    obtain rfl : r_4 = colF x := hw_r_4
    refine lv_iload_n hx hb dX0_change_13 rfl (lv_at hl 1 rfl) ?_
    refine xi (wr := []) (xS (As := [.int y]) (rest := [.int (colF x)]) C (c_X4_colourOf l D cs y) kX0_29 hP hD [] rfl (by decide +kernel) ⟨Nat.le_of_ble_eq_true rfl, Nat.le_of_ble_eq_true rfl⟩ rfl hl.1 rfl (Nat.le_of_ble_eq_true rfl) dX0_change_14 ⟨Nat.le_of_ble_eq_true rfl, Nat.le_of_ble_eq_true rfl⟩) hP hD hS hA [] [] rfl rfl (by decide +kernel) (by decide +kernel) ?_
    clear hP hD hS
    try clear locs
    try clear H
    intro r_6 u_7 H locs hw_r_6 hP hD hS
    have hw_r_6 : r_6 = (y &&& nI 3) - nI 1 := hw_r_6
    refine W.widen (k := 0) (n := 0) (Nat.le_of_ble_eq_true rfl) (Nat.le_of_ble_eq_true rfl) ?_
    replace hP : va_P D vwCl [] H := hP
    replace hD : va_D A [] := hD
    obtain rfl : r_6 = colF y := hw_r_6
    refine lv_icmp_ne (tgt := 24) hx hb dX0_change_17 (by decide) (fun c_8 => ?_) (fun c_8 => ?_)
    · -- 17 t
      refine lv_iconst (v := nI 1) hx hb dX0_change_24 (by decide) ?_
      exact xreti C () (((if_pos (Decidable.byContradiction (fun q => absurd ((if_neg q).symm.trans (hw_r_1.symm.trans c_3)) (by decide)))).trans (if_neg c_8)).symm) hP hD hS (Nat.le_of_ble_eq_true rfl) (Nat.le_of_ble_eq_true rfl) rfl dX0_change_25
    · -- 17 f
      refine lv_iconst (v := nI 0) hx hb dX0_change_20 (by decide) ?_
      refine lv_goto (tgt := 25) hx hb dX0_change_21 (by decide) ?_
      exact xreti C () (((if_pos (Decidable.byContradiction (fun q => absurd ((if_neg q).symm.trans (hw_r_1.symm.trans c_3)) (by decide)))).trans (if_pos c_8)).symm) hP hD hS (Nat.le_of_ble_eq_true rfl) (Nat.le_of_ble_eq_true rfl) rfl dX0_change_25
  · -- 4 f
    refine lv_iconst (v := nI 2) hx hb dX0_change_7 (by decide) ?_
    exact xreti C () ((if_neg (fun q => c_3 (hw_r_1.trans (if_pos q)))).symm) hP hD hS (Nat.le_of_ble_eq_true rfl) (Nat.le_of_ble_eq_true rfl) rfl dX0_change_8

set_option maxHeartbeats 4000000 in
set_option maxRecDepth 100000 in
theorem c_X0_settle_f (l : Launch) (D : va_G) (cs : Nat → ClassId) (ha hg : Nat) (hr sm ca n k al be se : Nat) (ea pr : Int32) (z1 z2 z3 : Int32) (a i : Nat) (f : Nat → Int32) (x y : Int32) (hn : n ≤ 8) (hi : i < 8) : xMet l D cs yX0_settle cX0_settle 7 none ({ frames := 2, cells := 0, slots := 0, locals := 46 } : Room) [.ref ha, .ref a, .int (nI i), .int x, .int y] [(ha, .inr (0, [.ref hr, .ref hg, .int z1, .int z2, .int z3])), (hr, .inr (7, [.int (nI n), .int (nI k), .int (nI al), .int (nI be), .int ea, .int pr, .ref sm, .int (nI se), .ref ca])), (a, .inl (cs 0, 8, .inl f))] (xQv D (fun (f2 : (Nat → Int32)) => ∀ j, j < 32 → f2 j = upd (givF n (z3 &&& y) (colF (f i)) f) i (setF pr be (f i) x) j) (fun (f2 : (Nat → Int32)) => [(ha, .inr (0, [.ref hr, .ref hg, .int z1, .int z2, .int z3])), (hr, .inr (7, [.int (nI n), .int (nI k), .int (nI al), .int (nI be), .int ea, .int pr, .ref sm, .int (nI se), .ref ca])), (a, .inl (cs 0, 8, .inl f2))])) := by
  refine xMet.intro (by decide) (Nat.le_of_ble_eq_true rfl) ?_
  intro p e s m args below meth c A ls C hP hD hS hl
  have hx := C.1
  have hb := C.2.1
  have hz := C.2.2.2.2.1
  have hown := C.2.2.2.1
  have hA := C.2.2.2.2.2.2.2.2.2
  have hAO := C.2.2.2.2.2.2.2.2.1.2.2
  replace hl : lv_has ls 7 [(0, .ref ha), (1, .ref a), (2, .int (nI i)), (3, .int x), (4, .int y)] := hl
  obtain ⟨H, hH⟩ : ∃ H, H = s.heap := ⟨_, rfl⟩
  replace hP : va_P D vwCl [(ha, .inr (0, [.ref hr, .ref hg, .int z1, .int z2, .int z3])), (hr, .inr (7, [.int (nI n), .int (nI k), .int (nI al), .int (nI be), .int ea, .int pr, .ref sm, .int (nI se), .ref ca])), (a, .inl (cs 0, 8, .inl f))] H := by rw [hH]; exact hP
  replace hS : va_S A s.heap H [] := by rw [hH]; exact hS
  obtain ⟨locs, hlocs⟩ : ∃ z : List Loc, z = [] := ⟨_, rfl⟩
  rw [← hlocs] at hS
  suffices hW : W p l e ({ frames := 2, cells := 0, slots := 0, locals := 46 } : Room) s m args below meth c H locs 0 0 (MQ below ((xQv D (fun (f2 : (Nat → Int32)) => ∀ j, j < 32 → f2 j = upd (givF n (z3 &&& y) (colF (f i)) f) i (setF pr be (f i) x) j) (fun (f2 : (Nat → Int32)) => [(ha, .inr (0, [.ref hr, .ref hg, .int z1, .int z2, .int z3])), (hr, .inr (7, [.int (nI n), .int (nI k), .int (nI al), .int (nI be), .int ea, .int pr, .ref sm, .int (nI se), .ref ca])), (a, .inl (cs 0, 8, .inl f2))])) A) args s 0 0 A) (F0 m 0 ls []) by rw [hlocs, hH] at hW; exact hW
  clear hH hlocs
  refine lv_aload_n hx hb dX0_settle_0 rfl (lv_at hl 1 rfl) ?_
  refine lv_iload_n hx hb dX0_settle_1 rfl (lv_at hl 2 rfl) ?_
  refine xiald C hP 2 rfl i rfl (by omega) (by decide) dX0_settle_2 ?_
  refine lv_istore (lv' := [(5, .int (f i)), (0, .ref ha), (1, .ref a), (2, .int (nI i)), (3, .int x), (4, .int y)]) hx hb dX0_settle_3 hl (by decide) rfl ?_
  clear hl
  try clear ls
  intro ls hl
  refine lv_aload_n hx hb dX0_settle_5 rfl (lv_at hl 1 rfl) ?_
  refine lv_aload_n hx hb dX0_settle_6 rfl (lv_at hl 2 rfl) ?_
  refine lv_aload_n hx hb dX0_settle_7 rfl (lv_at hl 1 rfl) ?_
  refine xget C hP 0 rfl rfl zuX0 4 (by decide) zw2_3 rfl dX0_settle_8 ?_
  refine lv_iload hx hb dX0_settle_11 (lv_at hl 5 rfl) ?_
  refine lv_iand hx hb dX0_settle_13 ?_
  refine lv_iload hx hb dX0_settle_14 (lv_at hl 0 rfl) ?_
  refine xi (wr := [(ha, .inr (0, [.ref hr, .ref hg, .int z1, .int z2, .int z3])), (hr, .inr (7, [.int (nI n), .int (nI k), .int (nI al), .int (nI be), .int ea, .int pr, .ref sm, .int (nI se), .ref ca])), (a, .inl (cs 0, 8, .inl f))]) (xS (As := [.int (f i)]) (rest := [.int (z3 &&& y), .ref a, .ref ha]) C (c_X4_colourOf l D cs (f i)) kX0_29 hP hD [] rfl (by decide +kernel) ⟨Nat.le_of_ble_eq_true rfl, Nat.le_of_ble_eq_true rfl⟩ rfl hl.1 rfl (Nat.le_of_ble_eq_true rfl) dX0_settle_16 ⟨Nat.le_of_ble_eq_true rfl, Nat.le_of_ble_eq_true rfl⟩) hP hD hS hA [] [0, 1, 2] rfl rfl (by decide +kernel) (by decide +kernel) ?_
  clear hP hD hS
  try clear locs
  try clear H
  intro r_1 u_2 H locs hw_r_1 hP hD hS
  have hw_r_1 : r_1 = ((f i) &&& nI 3) - nI 1 := hw_r_1
  refine W.widen (k := 0) (n := 0) (Nat.le_of_ble_eq_true rfl) (Nat.le_of_ble_eq_true rfl) ?_
  replace hP : va_P D vwCl [(ha, .inr (0, [.ref hr, .ref hg, .int z1, .int z2, .int z3])), (hr, .inr (7, [.int (nI n), .int (nI k), .int (nI al), .int (nI be), .int ea, .int pr, .ref sm, .int (nI se), .ref ca])), (a, .inl (cs 0, 8, .inl f))] H := hP
  replace hD : va_D A [(ha, .inr (0, [.ref hr, .ref hg, .int z1, .int z2, .int z3])), (hr, .inr (7, [.int (nI n), .int (nI k), .int (nI al), .int (nI be), .int ea, .int pr, .ref sm, .int (nI se), .ref ca])), (a, .inl (cs 0, 8, .inl f))] := hD
  obtain rfl : r_1 = colF (f i) := hw_r_1
  refine xv (wr := []) (xV (As := [.ref a, .int (z3 &&& y), .int (colF (f i))]) (rest := []) C (c_X0_giveColour_f l D cs ha hg hr sm ca n k al be se ea pr z1 z2 z3 a f (z3 &&& y) (colF (f i)) (by first | omega | decide)) kX0_68 hP hD [0, 1, 2] rfl (by decide +kernel) 0 rfl rfl rfl ⟨Nat.le_of_ble_eq_true rfl, Nat.le_of_ble_eq_true rfl⟩ rfl hl.1 rfl (Nat.le_of_ble_eq_true rfl) dX0_settle_19 ⟨Nat.le_of_ble_eq_true rfl, Nat.le_of_ble_eq_true rfl⟩) hP hD hS hA [0, 1, 2] [] rfl rfl (by decide +kernel) (by decide +kernel) ?_
  clear hP hD hS
  try clear locs
  try clear H
  intro u_4 H locs hw_r_3 hP hD hS
  have hw_r_3 : ∀ j, j < 32 → u_4 j = givF n (z3 &&& y) (colF (f i)) f j := hw_r_3
  refine W.widen (k := 0) (n := 0) (Nat.le_of_ble_eq_true rfl) (Nat.le_of_ble_eq_true rfl) ?_
  replace hP : va_P D vwCl [(ha, .inr (0, [.ref hr, .ref hg, .int z1, .int z2, .int z3])), (hr, .inr (7, [.int (nI n), .int (nI k), .int (nI al), .int (nI be), .int ea, .int pr, .ref sm, .int (nI se), .ref ca])), (a, .inl (cs 0, 8, .inl u_4))] H := hP
  replace hD : va_D A [(ha, .inr (0, [.ref hr, .ref hg, .int z1, .int z2, .int z3])), (hr, .inr (7, [.int (nI n), .int (nI k), .int (nI al), .int (nI be), .int ea, .int pr, .ref sm, .int (nI se), .ref ca])), (a, .inl (cs 0, 8, .inl u_4))] := hD
  refine lv_aload_n hx hb dX0_settle_22 rfl (lv_at hl 1 rfl) ?_
  refine xget C hP 0 rfl rfl zuX0 0 (by decide) zw1_237 rfl dX0_settle_23 ?_
  refine xget C hP 1 rfl rfl zuX7 5 (by decide) zw1_98 rfl dX0_settle_26 ?_
  refine lv_if_ne (tgt := 54) hx hb dX0_settle_29 (by decide) (fun c_5 => ?_) (fun c_5 => ?_)
  · -- 29 t
    refine lv_iload_n hx hb dX0_settle_54 rfl (lv_at hl 4 rfl) ?_
    refine lv_iconst (v := (-1)) hx hb dX0_settle_55 (by decide) ?_
    refine lv_icmp_ne (tgt := 71) hx hb dX0_settle_56 (by decide) (fun c_6 => ?_) (fun c_6 => ?_)
    · -- 56 t
      refine lv_aload_n hx hb dX0_settle_71 rfl (lv_at hl 1 rfl) ?_
      refine xget C hP 0 rfl rfl zuX0 0 (by decide) zw1_237 rfl dX0_settle_72 ?_
      refine xget C hP 1 rfl rfl zuX7 5 (by decide) zw1_98 rfl dX0_settle_75 ?_
      refine lv_iconst (v := nI 1) hx hb dX0_settle_78 (by decide) ?_
      refine lv_icmp_ne (tgt := 91) hx hb dX0_settle_79 (by decide) (fun c_7 => ?_) (fun c_7 => ?_)
      · -- 79 t
        refine lv_iload hx hb dX0_settle_91 (lv_at hl 0 rfl) ?_
        refine lv_iload_n hx hb dX0_settle_93 rfl (lv_at hl 4 rfl) ?_
        refine xi (wr := [(ha, .inr (0, [.ref hr, .ref hg, .int z1, .int z2, .int z3])), (hr, .inr (7, [.int (nI n), .int (nI k), .int (nI al), .int (nI be), .int ea, .int pr, .ref sm, .int (nI se), .ref ca])), (a, .inl (cs 0, 8, .inl u_4))]) (xS (As := [.int (f i), .int x]) (rest := []) C (c_X0_byBall_f l D cs (f i) x) kX0_85 hP hD [] rfl (by decide +kernel) ⟨Nat.le_of_ble_eq_true rfl, Nat.le_of_ble_eq_true rfl⟩ rfl hl.1 rfl (Nat.le_of_ble_eq_true rfl) dX0_settle_94 ⟨Nat.le_of_ble_eq_true rfl, Nat.le_of_ble_eq_true rfl⟩) hP hD hS hA [] [0, 1, 2] rfl rfl (by decide +kernel) (by decide +kernel) ?_
        clear hP hD hS
        try clear locs
        try clear H
        intro r_8 u_9 H locs hw_r_8 hP hD hS
        have hw_r_8 : r_8 = balF (f i) x := hw_r_8
        refine W.widen (k := 0) (n := 0) (Nat.le_of_ble_eq_true rfl) (Nat.le_of_ble_eq_true rfl) ?_
        replace hP : va_P D vwCl [(ha, .inr (0, [.ref hr, .ref hg, .int z1, .int z2, .int z3])), (hr, .inr (7, [.int (nI n), .int (nI k), .int (nI al), .int (nI be), .int ea, .int pr, .ref sm, .int (nI se), .ref ca])), (a, .inl (cs 0, 8, .inl u_4))] H := hP
        replace hD : va_D A [(ha, .inr (0, [.ref hr, .ref hg, .int z1, .int z2, .int z3])), (hr, .inr (7, [.int (nI n), .int (nI k), .int (nI al), .int (nI be), .int ea, .int pr, .ref sm, .int (nI se), .ref ca])), (a, .inl (cs 0, 8, .inl u_4))] := hD
        refine lv_topi (nm_r (e' := nxtF pr (f i) x) (hw_r_8.trans (if_neg c_7).symm) ?_)
        refine lv_istore (lv' := [(6, .int (nxtF pr (f i) x)), (5, .int (f i)), (0, .ref ha), (1, .ref a), (2, .int (nI i)), (3, .int x), (4, .int y)]) hx hb dX0_settle_97 hl (by decide) rfl ?_
        clear hl
        try clear ls
        intro ls hl
        refine lv_aload_n hx hb dX0_settle_99 rfl (lv_at hl 3 rfl) ?_
        refine lv_iload_n hx hb dX0_settle_100 rfl (lv_at hl 4 rfl) ?_
        refine lv_iload hx hb dX0_settle_101 (lv_at hl 0 rfl) ?_
        refine xi (wr := [(ha, .inr (0, [.ref hr, .ref hg, .int z1, .int z2, .int z3])), (hr, .inr (7, [.int (nI n), .int (nI k), .int (nI al), .int (nI be), .int ea, .int pr, .ref sm, .int (nI se), .ref ca])), (a, .inl (cs 0, 8, .inl u_4))]) (xS (As := [.int (nxtF pr (f i) x)]) (rest := [.int (nI i), .ref a]) C (c_X4_counterOf l D cs (nxtF pr (f i) x)) kX0_88 hP hD [] rfl (by decide +kernel) ⟨Nat.le_of_ble_eq_true rfl, Nat.le_of_ble_eq_true rfl⟩ rfl hl.1 rfl (Nat.le_of_ble_eq_true rfl) dX0_settle_103 ⟨Nat.le_of_ble_eq_true rfl, Nat.le_of_ble_eq_true rfl⟩) hP hD hS hA [] [0, 1, 2] rfl rfl (by decide +kernel) (by decide +kernel) ?_
        clear hP hD hS
        try clear locs
        try clear H
        intro r_10 u_11 H locs hw_r_10 hP hD hS
        have hw_r_10 : r_10 = (((nxtF pr (f i) x)).toUInt32 >>> ((nI 4).toUInt32 &&& Int32.toUInt32 31)).toInt32 &&& nI 15 := hw_r_10
        refine W.widen (k := 0) (n := 0) (Nat.le_of_ble_eq_true rfl) (Nat.le_of_ble_eq_true rfl) ?_
        replace hP : va_P D vwCl [(ha, .inr (0, [.ref hr, .ref hg, .int z1, .int z2, .int z3])), (hr, .inr (7, [.int (nI n), .int (nI k), .int (nI al), .int (nI be), .int ea, .int pr, .ref sm, .int (nI se), .ref ca])), (a, .inl (cs 0, 8, .inl u_4))] H := hP
        replace hD : va_D A [(ha, .inr (0, [.ref hr, .ref hg, .int z1, .int z2, .int z3])), (hr, .inr (7, [.int (nI n), .int (nI k), .int (nI al), .int (nI be), .int ea, .int pr, .ref sm, .int (nI se), .ref ca])), (a, .inl (cs 0, 8, .inl u_4))] := hD
        obtain rfl : r_10 = cntF (nxtF pr (f i) x) := hw_r_10
        refine lv_aload_n hx hb dX0_settle_106 rfl (lv_at hl 2 rfl) ?_
        refine xget C hP 0 rfl rfl zuX0 0 (by decide) zw1_237 rfl dX0_settle_107 ?_
        refine xget C hP 1 rfl rfl zuX7 3 (by decide) zw1_91 rfl dX0_settle_110 ?_
        refine lv_icmp_lt (tgt := 124) hx hb dX0_settle_113 (by decide) (fun c_12 => ?_) (fun c_12 => ?_)
        · -- 113 t
          refine lv_iload hx hb dX0_settle_124 (lv_at hl 0 rfl) ?_
          refine xiast C hP hD hS 2 rfl i rfl (by omega) (by decide) dX0_settle_126 ?_
          clear hP hD hS
          try clear locs
          try clear H
          intro H locs hP hD hS
          replace hP : va_P D vwCl [(ha, .inr (0, [.ref hr, .ref hg, .int z1, .int z2, .int z3])), (hr, .inr (7, [.int (nI n), .int (nI k), .int (nI al), .int (nI be), .int ea, .int pr, .ref sm, .int (nI se), .ref ca])), (a, .inl (cs 0, 8, .inl (upd u_4 i (nxtF pr (f i) x))))] H := hP
          replace hD : va_D A [(ha, .inr (0, [.ref hr, .ref hg, .int z1, .int z2, .int z3])), (hr, .inr (7, [.int (nI n), .int (nI k), .int (nI al), .int (nI be), .int ea, .int pr, .ref sm, .int (nI se), .ref ca])), (a, .inl (cs 0, 8, .inl (upd u_4 i (nxtF pr (f i) x))))] := hD
          exact xretv C (upd u_4 i (nxtF pr (f i) x)) (updEq hw_r_3 (((if_neg c_5).trans (if_neg c_6)).trans (if_pos c_12)).symm) hP hD hS (Nat.le_of_ble_eq_true rfl) (Nat.le_of_ble_eq_true rfl) dX0_settle_127
        · -- 113 f
          refine lv_iload hx hb dX0_settle_116 (lv_at hl 0 rfl) ?_
          refine xi (wr := [(ha, .inr (0, [.ref hr, .ref hg, .int z1, .int z2, .int z3])), (hr, .inr (7, [.int (nI n), .int (nI k), .int (nI al), .int (nI be), .int ea, .int pr, .ref sm, .int (nI se), .ref ca])), (a, .inl (cs 0, 8, .inl u_4))]) (xS (As := [.int (nxtF pr (f i) x)]) (rest := [.int (nI i), .ref a]) C (c_X4_withDecided l D cs (nxtF pr (f i) x)) kX0_94 hP hD [] rfl (by decide +kernel) ⟨Nat.le_of_ble_eq_true rfl, Nat.le_of_ble_eq_true rfl⟩ rfl hl.1 rfl (Nat.le_of_ble_eq_true rfl) dX0_settle_118 ⟨Nat.le_of_ble_eq_true rfl, Nat.le_of_ble_eq_true rfl⟩) hP hD hS hA [] [0, 1, 2] rfl rfl (by decide +kernel) (by decide +kernel) ?_
          clear hP hD hS
          try clear locs
          try clear H
          intro r_13 u_14 H locs hw_r_13 hP hD hS
          have hw_r_13 : r_13 = wdF (nxtF pr (f i) x) := hw_r_13
          refine W.widen (k := 0) (n := 0) (Nat.le_of_ble_eq_true rfl) (Nat.le_of_ble_eq_true rfl) ?_
          replace hP : va_P D vwCl [(ha, .inr (0, [.ref hr, .ref hg, .int z1, .int z2, .int z3])), (hr, .inr (7, [.int (nI n), .int (nI k), .int (nI al), .int (nI be), .int ea, .int pr, .ref sm, .int (nI se), .ref ca])), (a, .inl (cs 0, 8, .inl u_4))] H := hP
          replace hD : va_D A [(ha, .inr (0, [.ref hr, .ref hg, .int z1, .int z2, .int z3])), (hr, .inr (7, [.int (nI n), .int (nI k), .int (nI al), .int (nI be), .int ea, .int pr, .ref sm, .int (nI se), .ref ca])), (a, .inl (cs 0, 8, .inl u_4))] := hD
          obtain rfl : r_13 = wdF (nxtF pr (f i) x) := hw_r_13
          refine lv_goto (tgt := 126) hx hb dX0_settle_121 (by decide) ?_
          refine xiast C hP hD hS 2 rfl i rfl (by omega) (by decide) dX0_settle_126 ?_
          clear hP hD hS
          try clear locs
          try clear H
          intro H locs hP hD hS
          replace hP : va_P D vwCl [(ha, .inr (0, [.ref hr, .ref hg, .int z1, .int z2, .int z3])), (hr, .inr (7, [.int (nI n), .int (nI k), .int (nI al), .int (nI be), .int ea, .int pr, .ref sm, .int (nI se), .ref ca])), (a, .inl (cs 0, 8, .inl (upd u_4 i (wdF (nxtF pr (f i) x)))))] H := hP
          replace hD : va_D A [(ha, .inr (0, [.ref hr, .ref hg, .int z1, .int z2, .int z3])), (hr, .inr (7, [.int (nI n), .int (nI k), .int (nI al), .int (nI be), .int ea, .int pr, .ref sm, .int (nI se), .ref ca])), (a, .inl (cs 0, 8, .inl (upd u_4 i (wdF (nxtF pr (f i) x)))))] := hD
          exact xretv C (upd u_4 i (wdF (nxtF pr (f i) x))) (updEq hw_r_3 (((if_neg c_5).trans (if_neg c_6)).trans (if_neg c_12)).symm) hP hD hS (Nat.le_of_ble_eq_true rfl) (Nat.le_of_ble_eq_true rfl) dX0_settle_127
      · -- 79 f
        refine lv_iload hx hb dX0_settle_82 (lv_at hl 0 rfl) ?_
        refine lv_iload_n hx hb dX0_settle_84 rfl (lv_at hl 4 rfl) ?_
        refine xi (wr := [(ha, .inr (0, [.ref hr, .ref hg, .int z1, .int z2, .int z3])), (hr, .inr (7, [.int (nI n), .int (nI k), .int (nI al), .int (nI be), .int ea, .int pr, .ref sm, .int (nI se), .ref ca])), (a, .inl (cs 0, 8, .inl u_4))]) (xS (As := [.int (f i), .int x]) (rest := []) C (c_X0_byFlake_f l D cs (f i) x) kX0_82 hP hD [] rfl (by decide +kernel) ⟨Nat.le_of_ble_eq_true rfl, Nat.le_of_ble_eq_true rfl⟩ rfl hl.1 rfl (Nat.le_of_ble_eq_true rfl) dX0_settle_85 ⟨Nat.le_of_ble_eq_true rfl, Nat.le_of_ble_eq_true rfl⟩) hP hD hS hA [] [0, 1, 2] rfl rfl (by decide +kernel) (by decide +kernel) ?_
        clear hP hD hS
        try clear locs
        try clear H
        intro r_15 u_16 H locs hw_r_15 hP hD hS
        have hw_r_15 : r_15 = flkF (f i) x := hw_r_15
        refine W.widen (k := 0) (n := 0) (Nat.le_of_ble_eq_true rfl) (Nat.le_of_ble_eq_true rfl) ?_
        replace hP : va_P D vwCl [(ha, .inr (0, [.ref hr, .ref hg, .int z1, .int z2, .int z3])), (hr, .inr (7, [.int (nI n), .int (nI k), .int (nI al), .int (nI be), .int ea, .int pr, .ref sm, .int (nI se), .ref ca])), (a, .inl (cs 0, 8, .inl u_4))] H := hP
        replace hD : va_D A [(ha, .inr (0, [.ref hr, .ref hg, .int z1, .int z2, .int z3])), (hr, .inr (7, [.int (nI n), .int (nI k), .int (nI al), .int (nI be), .int ea, .int pr, .ref sm, .int (nI se), .ref ca])), (a, .inl (cs 0, 8, .inl u_4))] := hD
        refine lv_goto (tgt := 97) hx hb dX0_settle_88 (by decide) ?_
        refine lv_topi (nm_r (e' := nxtF pr (f i) x) (hw_r_15.trans (if_pos c_7).symm) ?_)
        refine lv_istore (lv' := [(6, .int (nxtF pr (f i) x)), (5, .int (f i)), (0, .ref ha), (1, .ref a), (2, .int (nI i)), (3, .int x), (4, .int y)]) hx hb dX0_settle_97 hl (by decide) rfl ?_
        clear hl
        try clear ls
        intro ls hl
        refine lv_aload_n hx hb dX0_settle_99 rfl (lv_at hl 3 rfl) ?_
        refine lv_iload_n hx hb dX0_settle_100 rfl (lv_at hl 4 rfl) ?_
        refine lv_iload hx hb dX0_settle_101 (lv_at hl 0 rfl) ?_
        refine xi (wr := [(ha, .inr (0, [.ref hr, .ref hg, .int z1, .int z2, .int z3])), (hr, .inr (7, [.int (nI n), .int (nI k), .int (nI al), .int (nI be), .int ea, .int pr, .ref sm, .int (nI se), .ref ca])), (a, .inl (cs 0, 8, .inl u_4))]) (xS (As := [.int (nxtF pr (f i) x)]) (rest := [.int (nI i), .ref a]) C (c_X4_counterOf l D cs (nxtF pr (f i) x)) kX0_88 hP hD [] rfl (by decide +kernel) ⟨Nat.le_of_ble_eq_true rfl, Nat.le_of_ble_eq_true rfl⟩ rfl hl.1 rfl (Nat.le_of_ble_eq_true rfl) dX0_settle_103 ⟨Nat.le_of_ble_eq_true rfl, Nat.le_of_ble_eq_true rfl⟩) hP hD hS hA [] [0, 1, 2] rfl rfl (by decide +kernel) (by decide +kernel) ?_
        clear hP hD hS
        try clear locs
        try clear H
        intro r_17 u_18 H locs hw_r_17 hP hD hS
        have hw_r_17 : r_17 = (((nxtF pr (f i) x)).toUInt32 >>> ((nI 4).toUInt32 &&& Int32.toUInt32 31)).toInt32 &&& nI 15 := hw_r_17
        refine W.widen (k := 0) (n := 0) (Nat.le_of_ble_eq_true rfl) (Nat.le_of_ble_eq_true rfl) ?_
        replace hP : va_P D vwCl [(ha, .inr (0, [.ref hr, .ref hg, .int z1, .int z2, .int z3])), (hr, .inr (7, [.int (nI n), .int (nI k), .int (nI al), .int (nI be), .int ea, .int pr, .ref sm, .int (nI se), .ref ca])), (a, .inl (cs 0, 8, .inl u_4))] H := hP
        replace hD : va_D A [(ha, .inr (0, [.ref hr, .ref hg, .int z1, .int z2, .int z3])), (hr, .inr (7, [.int (nI n), .int (nI k), .int (nI al), .int (nI be), .int ea, .int pr, .ref sm, .int (nI se), .ref ca])), (a, .inl (cs 0, 8, .inl u_4))] := hD
        obtain rfl : r_17 = cntF (nxtF pr (f i) x) := hw_r_17
        refine lv_aload_n hx hb dX0_settle_106 rfl (lv_at hl 2 rfl) ?_
        refine xget C hP 0 rfl rfl zuX0 0 (by decide) zw1_237 rfl dX0_settle_107 ?_
        refine xget C hP 1 rfl rfl zuX7 3 (by decide) zw1_91 rfl dX0_settle_110 ?_
        refine lv_icmp_lt (tgt := 124) hx hb dX0_settle_113 (by decide) (fun c_19 => ?_) (fun c_19 => ?_)
        · -- 113 t
          refine lv_iload hx hb dX0_settle_124 (lv_at hl 0 rfl) ?_
          refine xiast C hP hD hS 2 rfl i rfl (by omega) (by decide) dX0_settle_126 ?_
          clear hP hD hS
          try clear locs
          try clear H
          intro H locs hP hD hS
          replace hP : va_P D vwCl [(ha, .inr (0, [.ref hr, .ref hg, .int z1, .int z2, .int z3])), (hr, .inr (7, [.int (nI n), .int (nI k), .int (nI al), .int (nI be), .int ea, .int pr, .ref sm, .int (nI se), .ref ca])), (a, .inl (cs 0, 8, .inl (upd u_4 i (nxtF pr (f i) x))))] H := hP
          replace hD : va_D A [(ha, .inr (0, [.ref hr, .ref hg, .int z1, .int z2, .int z3])), (hr, .inr (7, [.int (nI n), .int (nI k), .int (nI al), .int (nI be), .int ea, .int pr, .ref sm, .int (nI se), .ref ca])), (a, .inl (cs 0, 8, .inl (upd u_4 i (nxtF pr (f i) x))))] := hD
          exact xretv C (upd u_4 i (nxtF pr (f i) x)) (updEq hw_r_3 (((if_neg c_5).trans (if_neg c_6)).trans (if_pos c_19)).symm) hP hD hS (Nat.le_of_ble_eq_true rfl) (Nat.le_of_ble_eq_true rfl) dX0_settle_127
        · -- 113 f
          refine lv_iload hx hb dX0_settle_116 (lv_at hl 0 rfl) ?_
          refine xi (wr := [(ha, .inr (0, [.ref hr, .ref hg, .int z1, .int z2, .int z3])), (hr, .inr (7, [.int (nI n), .int (nI k), .int (nI al), .int (nI be), .int ea, .int pr, .ref sm, .int (nI se), .ref ca])), (a, .inl (cs 0, 8, .inl u_4))]) (xS (As := [.int (nxtF pr (f i) x)]) (rest := [.int (nI i), .ref a]) C (c_X4_withDecided l D cs (nxtF pr (f i) x)) kX0_94 hP hD [] rfl (by decide +kernel) ⟨Nat.le_of_ble_eq_true rfl, Nat.le_of_ble_eq_true rfl⟩ rfl hl.1 rfl (Nat.le_of_ble_eq_true rfl) dX0_settle_118 ⟨Nat.le_of_ble_eq_true rfl, Nat.le_of_ble_eq_true rfl⟩) hP hD hS hA [] [0, 1, 2] rfl rfl (by decide +kernel) (by decide +kernel) ?_
          clear hP hD hS
          try clear locs
          try clear H
          intro r_20 u_21 H locs hw_r_20 hP hD hS
          have hw_r_20 : r_20 = wdF (nxtF pr (f i) x) := hw_r_20
          refine W.widen (k := 0) (n := 0) (Nat.le_of_ble_eq_true rfl) (Nat.le_of_ble_eq_true rfl) ?_
          replace hP : va_P D vwCl [(ha, .inr (0, [.ref hr, .ref hg, .int z1, .int z2, .int z3])), (hr, .inr (7, [.int (nI n), .int (nI k), .int (nI al), .int (nI be), .int ea, .int pr, .ref sm, .int (nI se), .ref ca])), (a, .inl (cs 0, 8, .inl u_4))] H := hP
          replace hD : va_D A [(ha, .inr (0, [.ref hr, .ref hg, .int z1, .int z2, .int z3])), (hr, .inr (7, [.int (nI n), .int (nI k), .int (nI al), .int (nI be), .int ea, .int pr, .ref sm, .int (nI se), .ref ca])), (a, .inl (cs 0, 8, .inl u_4))] := hD
          obtain rfl : r_20 = wdF (nxtF pr (f i) x) := hw_r_20
          refine lv_goto (tgt := 126) hx hb dX0_settle_121 (by decide) ?_
          refine xiast C hP hD hS 2 rfl i rfl (by omega) (by decide) dX0_settle_126 ?_
          clear hP hD hS
          try clear locs
          try clear H
          intro H locs hP hD hS
          replace hP : va_P D vwCl [(ha, .inr (0, [.ref hr, .ref hg, .int z1, .int z2, .int z3])), (hr, .inr (7, [.int (nI n), .int (nI k), .int (nI al), .int (nI be), .int ea, .int pr, .ref sm, .int (nI se), .ref ca])), (a, .inl (cs 0, 8, .inl (upd u_4 i (wdF (nxtF pr (f i) x)))))] H := hP
          replace hD : va_D A [(ha, .inr (0, [.ref hr, .ref hg, .int z1, .int z2, .int z3])), (hr, .inr (7, [.int (nI n), .int (nI k), .int (nI al), .int (nI be), .int ea, .int pr, .ref sm, .int (nI se), .ref ca])), (a, .inl (cs 0, 8, .inl (upd u_4 i (wdF (nxtF pr (f i) x)))))] := hD
          exact xretv C (upd u_4 i (wdF (nxtF pr (f i) x))) (updEq hw_r_3 (((if_neg c_5).trans (if_neg c_6)).trans (if_neg c_19)).symm) hP hD hS (Nat.le_of_ble_eq_true rfl) (Nat.le_of_ble_eq_true rfl) dX0_settle_127
    · -- 56 f
      refine lv_aload_n hx hb dX0_settle_59 rfl (lv_at hl 2 rfl) ?_
      refine lv_iload_n hx hb dX0_settle_60 rfl (lv_at hl 3 rfl) ?_
      refine lv_iload hx hb dX0_settle_61 (lv_at hl 0 rfl) ?_
      refine lv_iconst (v := nI 0) hx hb dX0_settle_63 (by decide) ?_
      refine xi (wr := [(ha, .inr (0, [.ref hr, .ref hg, .int z1, .int z2, .int z3])), (hr, .inr (7, [.int (nI n), .int (nI k), .int (nI al), .int (nI be), .int ea, .int pr, .ref sm, .int (nI se), .ref ca])), (a, .inl (cs 0, 8, .inl u_4))]) (xS (As := [.int (f i), .int (nI 0)]) (rest := [.int (nI i), .ref a]) C (c_X4_withCounter l D cs (f i) (nI 0)) kX0_79 hP hD [] rfl (by decide +kernel) ⟨Nat.le_of_ble_eq_true rfl, Nat.le_of_ble_eq_true rfl⟩ rfl hl.1 rfl (Nat.le_of_ble_eq_true rfl) dX0_settle_64 ⟨Nat.le_of_ble_eq_true rfl, Nat.le_of_ble_eq_true rfl⟩) hP hD hS hA [] [0, 1, 2] rfl rfl (by decide +kernel) (by decide +kernel) ?_
      clear hP hD hS
      try clear locs
      try clear H
      intro r_22 u_23 H locs hw_r_22 hP hD hS
      have hw_r_22 : r_22 = wcF (f i) (nI 0) := hw_r_22
      refine W.widen (k := 0) (n := 0) (Nat.le_of_ble_eq_true rfl) (Nat.le_of_ble_eq_true rfl) ?_
      replace hP : va_P D vwCl [(ha, .inr (0, [.ref hr, .ref hg, .int z1, .int z2, .int z3])), (hr, .inr (7, [.int (nI n), .int (nI k), .int (nI al), .int (nI be), .int ea, .int pr, .ref sm, .int (nI se), .ref ca])), (a, .inl (cs 0, 8, .inl u_4))] H := hP
      replace hD : va_D A [(ha, .inr (0, [.ref hr, .ref hg, .int z1, .int z2, .int z3])), (hr, .inr (7, [.int (nI n), .int (nI k), .int (nI al), .int (nI be), .int ea, .int pr, .ref sm, .int (nI se), .ref ca])), (a, .inl (cs 0, 8, .inl u_4))] := hD
      obtain rfl : r_22 = wcF (f i) (nI 0) := hw_r_22
      refine xiast C hP hD hS 2 rfl i rfl (by omega) (by decide) dX0_settle_67 ?_
      clear hP hD hS
      try clear locs
      try clear H
      intro H locs hP hD hS
      replace hP : va_P D vwCl [(ha, .inr (0, [.ref hr, .ref hg, .int z1, .int z2, .int z3])), (hr, .inr (7, [.int (nI n), .int (nI k), .int (nI al), .int (nI be), .int ea, .int pr, .ref sm, .int (nI se), .ref ca])), (a, .inl (cs 0, 8, .inl (upd u_4 i (wcF (f i) (nI 0)))))] H := hP
      replace hD : va_D A [(ha, .inr (0, [.ref hr, .ref hg, .int z1, .int z2, .int z3])), (hr, .inr (7, [.int (nI n), .int (nI k), .int (nI al), .int (nI be), .int ea, .int pr, .ref sm, .int (nI se), .ref ca])), (a, .inl (cs 0, 8, .inl (upd u_4 i (wcF (f i) (nI 0)))))] := hD
      refine lv_goto (tgt := 127) hx hb dX0_settle_68 (by decide) ?_
      exact xretv C (upd u_4 i (wcF (f i) (nI 0))) (updEq hw_r_3 ((if_neg c_5).trans (if_pos c_6)).symm) hP hD hS (Nat.le_of_ble_eq_true rfl) (Nat.le_of_ble_eq_true rfl) dX0_settle_127
  · -- 29 f
    refine lv_aload_n hx hb dX0_settle_32 rfl (lv_at hl 2 rfl) ?_
    refine lv_iload_n hx hb dX0_settle_33 rfl (lv_at hl 3 rfl) ?_
    refine lv_iload_n hx hb dX0_settle_34 rfl (lv_at hl 4 rfl) ?_
    refine lv_iconst (v := (-1)) hx hb dX0_settle_35 (by decide) ?_
    refine lv_icmp_ne (tgt := 44) hx hb dX0_settle_36 (by decide) (fun c_24 => ?_) (fun c_24 => ?_)
    · -- 36 t
      refine lv_iload hx hb dX0_settle_44 (lv_at hl 0 rfl) ?_
      refine lv_iload_n hx hb dX0_settle_46 rfl (lv_at hl 4 rfl) ?_
      refine xi (wr := [(ha, .inr (0, [.ref hr, .ref hg, .int z1, .int z2, .int z3])), (hr, .inr (7, [.int (nI n), .int (nI k), .int (nI al), .int (nI be), .int ea, .int pr, .ref sm, .int (nI se), .ref ca])), (a, .inl (cs 0, 8, .inl u_4))]) (xS (As := [.int (f i), .int x]) (rest := [.int (nI i), .ref a]) C (c_X4_withColour l D cs (f i) x) kX0_75 hP hD [] rfl (by decide +kernel) ⟨Nat.le_of_ble_eq_true rfl, Nat.le_of_ble_eq_true rfl⟩ rfl hl.1 rfl (Nat.le_of_ble_eq_true rfl) dX0_settle_47 ⟨Nat.le_of_ble_eq_true rfl, Nat.le_of_ble_eq_true rfl⟩) hP hD hS hA [] [0, 1, 2] rfl rfl (by decide +kernel) (by decide +kernel) ?_
      clear hP hD hS
      try clear locs
      try clear H
      intro r_25 u_26 H locs hw_r_25 hP hD hS
      have hw_r_25 : r_25 = ((f i) &&& (-4)) ||| (x + nI 1) := hw_r_25
      refine W.widen (k := 0) (n := 0) (Nat.le_of_ble_eq_true rfl) (Nat.le_of_ble_eq_true rfl) ?_
      replace hP : va_P D vwCl [(ha, .inr (0, [.ref hr, .ref hg, .int z1, .int z2, .int z3])), (hr, .inr (7, [.int (nI n), .int (nI k), .int (nI al), .int (nI be), .int ea, .int pr, .ref sm, .int (nI se), .ref ca])), (a, .inl (cs 0, 8, .inl u_4))] H := hP
      replace hD : va_D A [(ha, .inr (0, [.ref hr, .ref hg, .int z1, .int z2, .int z3])), (hr, .inr (7, [.int (nI n), .int (nI k), .int (nI al), .int (nI be), .int ea, .int pr, .ref sm, .int (nI se), .ref ca])), (a, .inl (cs 0, 8, .inl u_4))] := hD
      obtain rfl : r_25 = wtC (f i) x := hw_r_25
      refine xiast C hP hD hS 2 rfl i rfl (by omega) (by decide) dX0_settle_50 ?_
      clear hP hD hS
      try clear locs
      try clear H
      intro H locs hP hD hS
      replace hP : va_P D vwCl [(ha, .inr (0, [.ref hr, .ref hg, .int z1, .int z2, .int z3])), (hr, .inr (7, [.int (nI n), .int (nI k), .int (nI al), .int (nI be), .int ea, .int pr, .ref sm, .int (nI se), .ref ca])), (a, .inl (cs 0, 8, .inl (upd u_4 i (wtC (f i) x))))] H := hP
      replace hD : va_D A [(ha, .inr (0, [.ref hr, .ref hg, .int z1, .int z2, .int z3])), (hr, .inr (7, [.int (nI n), .int (nI k), .int (nI al), .int (nI be), .int ea, .int pr, .ref sm, .int (nI se), .ref ca])), (a, .inl (cs 0, 8, .inl (upd u_4 i (wtC (f i) x))))] := hD
      refine lv_goto (tgt := 127) hx hb dX0_settle_51 (by decide) ?_
      exact xretv C (upd u_4 i (wtC (f i) x)) (updEq hw_r_3 ((if_pos c_5).trans (if_neg c_24)).symm) hP hD hS (Nat.le_of_ble_eq_true rfl) (Nat.le_of_ble_eq_true rfl) dX0_settle_127
    · -- 36 f
      refine lv_iload hx hb dX0_settle_39 (lv_at hl 0 rfl) ?_
      refine lv_goto (tgt := 50) hx hb dX0_settle_41 (by decide) ?_
      refine xiast C hP hD hS 2 rfl i rfl (by omega) (by decide) dX0_settle_50 ?_
      clear hP hD hS
      try clear locs
      try clear H
      intro H locs hP hD hS
      replace hP : va_P D vwCl [(ha, .inr (0, [.ref hr, .ref hg, .int z1, .int z2, .int z3])), (hr, .inr (7, [.int (nI n), .int (nI k), .int (nI al), .int (nI be), .int ea, .int pr, .ref sm, .int (nI se), .ref ca])), (a, .inl (cs 0, 8, .inl (upd u_4 i (f i))))] H := hP
      replace hD : va_D A [(ha, .inr (0, [.ref hr, .ref hg, .int z1, .int z2, .int z3])), (hr, .inr (7, [.int (nI n), .int (nI k), .int (nI al), .int (nI be), .int ea, .int pr, .ref sm, .int (nI se), .ref ca])), (a, .inl (cs 0, 8, .inl (upd u_4 i (f i))))] := hD
      refine lv_goto (tgt := 127) hx hb dX0_settle_51 (by decide) ?_
      exact xretv C (upd u_4 i (f i)) (updEq hw_r_3 ((if_pos c_5).trans (if_pos c_24)).symm) hP hD hS (Nat.le_of_ble_eq_true rfl) (Nat.le_of_ble_eq_true rfl) dX0_settle_127
