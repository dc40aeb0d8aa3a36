set_option maxHeartbeats 4000000 in
set_option maxRecDepth 100000 in
theorem c_X1_staysAbove_f (l : Launch) (D : va_G) (cs : Nat → ClassId) (hc ab rb ob tb : Nat) (fd : Int32) (hr sm ca n k al be se : Nat) (ea pr : Int32) (cf : Nat → Int32) (j : Nat) (hn : n ≤ 8) (hj : j ≤ n) : xMet l D cs yX1_staysAbove cX1_staysAbove 3 (some .boolean) ({ frames := 2, cells := 0, slots := 0, locals := 42 } : Room) [.ref hc, .int (nI j)] [(hc, .inr (1, [.ref hr, .ref ab, .ref rb, .ref ob, .ref tb, .int fd])), (hr, .inr (7, [.int (nI n), .int (nI k), .int (nI al), .int (nI be), .int ea, .int pr, .ref sm, .int (nI se), .ref ca])), (ca, .inl (cs 0, 8, .inl cf))] (xQi D (fun (r : Int32) (_u : Unit) => r = if stA n cf 10 j = true then nI 1 else nI 0) (fun (_u : Unit) => [(hc, .inr (1, [.ref hr, .ref ab, .ref rb, .ref ob, .ref tb, .int fd])), (hr, .inr (7, [.int (nI n), .int (nI k), .int (nI al), .int (nI be), .int ea, .int pr, .ref sm, .int (nI se), .ref ca])), (ca, .inl (cs 0, 8, .inl cf))])) := by
  refine xMet.intro (by decide) (Nat.le_of_ble_eq_true rfl) ?_
  intro p e s m args below meth c A ls C hP hD hS hl
  have hx := C.1
  have hb := C.2.1
  have hz := C.2.2.2.2.1
  have hown := C.2.2.2.1
  have hA := C.2.2.2.2.2.2.2.2.2
  have hAO := C.2.2.2.2.2.2.2.2.1.2.2
  replace hl : lv_has ls 3 [(0, .ref hc), (1, .int (nI j))] := hl
  obtain ⟨H, hH⟩ : ∃ H, H = s.heap := ⟨_, rfl⟩
  replace hP : va_P D vwCl [(hc, .inr (1, [.ref hr, .ref ab, .ref rb, .ref ob, .ref tb, .int fd])), (hr, .inr (7, [.int (nI n), .int (nI k), .int (nI al), .int (nI be), .int ea, .int pr, .ref sm, .int (nI se), .ref ca])), (ca, .inl (cs 0, 8, .inl cf))] H := by rw [hH]; exact hP
  replace hS : va_S A s.heap H [] := by rw [hH]; exact hS
  obtain ⟨locs, hlocs⟩ : ∃ z : List Loc, z = [] := ⟨_, rfl⟩
  rw [← hlocs] at hS
  suffices hW : W p l e ({ frames := 2, cells := 0, slots := 0, locals := 42 } : Room) s m args below meth c H locs 0 0 (MQ below ((xQi D (fun (r : Int32) (_u : Unit) => r = if stA n cf 10 j = true then nI 1 else nI 0) (fun (_u : Unit) => [(hc, .inr (1, [.ref hr, .ref ab, .ref rb, .ref ob, .ref tb, .int fd])), (hr, .inr (7, [.int (nI n), .int (nI k), .int (nI al), .int (nI be), .int ea, .int pr, .ref sm, .int (nI se), .ref ca])), (ca, .inl (cs 0, 8, .inl cf))])) A) args s 0 0 A) (F0 m 0 ls []) by rw [hlocs, hH] at hW; exact hW
  clear hH hlocs
  refine lv_iload_n hx hb dX1_staysAbove_0 rfl (lv_at hl 1 rfl) ?_
  refine lv_istore_n (lv' := [(2, .int (nI j)), (0, .ref hc), (1, .int (nI j))]) hx hb dX1_staysAbove_1 rfl hl (by decide) rfl ?_
  clear hl
  try clear ls
  intro ls hl
  have loop_1 : ∀ (n_loop_1 : Nat) (i : Nat), (i ≤ 100) → (i ≤ n) → (j ≤ i) → (stA n cf 10 j = stA n cf (10 + j - i) i) → 100 - i < n_loop_1 → ∀ (H : Heap) (locs : List Loc) (ls : Array Slot), va_P D vwCl [(hc, .inr (1, [.ref hr, .ref ab, .ref rb, .ref ob, .ref tb, .int fd])), (hr, .inr (7, [.int (nI n), .int (nI k), .int (nI al), .int (nI be), .int ea, .int pr, .ref sm, .int (nI se), .ref ca])), (ca, .inl (cs 0, 8, .inl cf))] H → va_D A [(hc, .inr (1, [.ref hr, .ref ab, .ref rb, .ref ob, .ref tb, .int fd])), (hr, .inr (7, [.int (nI n), .int (nI k), .int (nI al), .int (nI be), .int ea, .int pr, .ref sm, .int (nI se), .ref ca])), (ca, .inl (cs 0, 8, .inl cf))] → va_S A s.heap H locs → lv_has ls 3 [(2, .int (nI i)), (0, .ref hc), (1, .int (nI j))] → W p l e ({ frames := 2, cells := 0, slots := 0, locals := 42 } : Room) s m args below meth c H locs 0 0 (MQ below ((xQi D (fun (r : Int32) (_u : Unit) => r = if stA n cf 10 j = true then nI 1 else nI 0) (fun (_u : Unit) => [(hc, .inr (1, [.ref hr, .ref ab, .ref rb, .ref ob, .ref tb, .int fd])), (hr, .inr (7, [.int (nI n), .int (nI k), .int (nI al), .int (nI be), .int ea, .int pr, .ref sm, .int (nI se), .ref ca])), (ca, .inl (cs 0, 8, .inl cf))])) A) args s 0 0 A) (F0 m 2 ls []) := by
    intro n_loop_1
    induction n_loop_1 with
    | zero => intro i h_i hin hij hst hlt H locs ls hP hD hS hl; exact absurd hlt (Nat.not_lt_zero _)
    | succ n_loop_1 ih_loop_1 =>
      intro i h_i hin hij hst hlt_loop_1 H locs ls hP hD hS hl
      refine lv_iload_n hx hb dX1_staysAbove_2 rfl (lv_at hl 0 rfl) ?_
      refine lv_if_le (tgt := 51) hx hb dX1_staysAbove_3 (by decide) (fun c_2 => ?_) (fun c_2 => ?_)
      · -- 3 t
        have fc_2 : i ≤ 0 := nf_le (by omega) (by omega) c_2
        refine lv_iconst (v := nI 0) hx hb dX1_staysAbove_51 (by decide) ?_
        exact xreti C () (by rw [hst, stA_stop (Or.inl (by have z := c_2; exact Nat.le_of_not_lt (fun q => absurd ((nI_leI (by omega) (by decide)).mp z) (by omega))))]; rfl) hP hD hS (Nat.le_of_ble_eq_true rfl) (Nat.le_of_ble_eq_true rfl) (by decide) dX1_staysAbove_52
      · -- 3 f
        have fc_2 : 0 < i := nf_nle (by omega) (by omega) c_2
        refine lv_iload_n hx hb dX1_staysAbove_6 rfl (lv_at hl 0 rfl) ?_
        refine lv_aload_n hx hb dX1_staysAbove_7 rfl (lv_at hl 1 rfl) ?_
        refine xget C hP 0 rfl rfl zuX1 0 (by decide) zw2_133 rfl dX1_staysAbove_8 ?_
        refine xget C hP 1 rfl rfl zuX7 0 (by decide) zw1_79 rfl dX1_staysAbove_11 ?_
        refine lv_icmp_ge (tgt := 51) hx hb dX1_staysAbove_14 (by decide) (fun c_3 => ?_) (fun c_3 => ?_)
        · -- 14 t
          have fc_3 : n ≤ i := nf_le (by omega) (by omega) c_3
          refine lv_iconst (v := nI 0) hx hb dX1_staysAbove_51 (by decide) ?_
          exact xreti C () (by rw [hst, stA_stop (Or.inr ((nI_leI (by omega) (by omega)).mp c_3))]; rfl) hP hD hS (Nat.le_of_ble_eq_true rfl) (Nat.le_of_ble_eq_true rfl) (by decide) dX1_staysAbove_52
        · -- 14 f
          have fc_3 : i < n := nf_nle (by omega) (by omega) c_3
          refine lv_aload_n hx hb dX1_staysAbove_17 rfl (lv_at hl 1 rfl) ?_
          refine xget C hP 0 rfl rfl zuX1 0 (by decide) zw2_133 rfl dX1_staysAbove_18 ?_
          refine lv_iload_n hx hb dX1_staysAbove_21 rfl (lv_at hl 0 rfl) ?_
          refine xi (wr := [(hc, .inr (1, [.ref hr, .ref ab, .ref rb, .ref ob, .ref tb, .int fd]))]) (xV (As := [.int (nI i)]) (rest := []) C (c_X7_up l D cs hr sm ca n k al be ea pr (nI se) cf i hn (by omega)) kX1_47 hP hD [1, 2] rfl (by decide +kernel) 0 rfl rfl rfl ⟨Nat.le_of_ble_eq_true rfl, Nat.le_of_ble_eq_true rfl⟩ rfl hl.1 rfl (Nat.le_of_ble_eq_true rfl) dX1_staysAbove_22 ⟨Nat.le_of_ble_eq_true rfl, Nat.le_of_ble_eq_true rfl⟩) hP hD hS hA [1, 2] [0] rfl rfl (by decide +kernel) (by decide +kernel) ?_
          clear hP hD hS
          try clear locs
          try clear H
          intro r_4 u_5 H locs hw_r_4 hP hD hS
          have hw_r_4 : r_4 = nI (n - i) * cf i := hw_r_4
          refine W.widen (k := 0) (n := 0) (Nat.le_of_ble_eq_true rfl) (Nat.le_of_ble_eq_true rfl) ?_
          replace hP : va_P D vwCl [(hc, .inr (1, [.ref hr, .ref ab, .ref rb, .ref ob, .ref tb, .int fd])), (hr, .inr (7, [.int (nI n), .int (nI k), .int (nI al), .int (nI be), .int ea, .int pr, .ref sm, .int (nI se), .ref ca])), (ca, .inl (cs 0, 8, .inl cf))] H := hP
          replace hD : va_D A [(hc, .inr (1, [.ref hr, .ref ab, .ref rb, .ref ob, .ref tb, .int fd])), (hr, .inr (7, [.int (nI n), .int (nI k), .int (nI al), .int (nI be), .int ea, .int pr, .ref sm, .int (nI se), .ref ca])), (ca, .inl (cs 0, 8, .inl cf))] := hD
          obtain rfl : r_4 = upI n cf i := hw_r_4
          refine lv_if_ne (tgt := 45) hx hb dX1_staysAbove_25 (by decide) (fun c_6 => ?_) (fun c_6 => ?_)
          · -- 25 t
            refine lv_iinc (v := nI (i + 1)) (lv' := [(2, .int (nI (i + 1))), (0, .ref hc), (1, .int (nI j))]) hx hb dX1_staysAbove_45 hl (k := 0) rfl (nI_add i 1) (by decide) rfl ?_
            clear hl
            try clear ls
            intro ls hl
            refine lv_goto (tgt := 2) hx hb dX1_staysAbove_48 (by decide) ?_
            exact ih_loop_1 (i + 1) (by omega) (by omega) (by omega) (hst.trans (by rw [show 10 + j - i = (10 + j - (i + 1)) + 1 by omega]; exact stA_next ⟨by omega, by omega⟩ c_6)) (by omega) H locs ls hP hD hS (lv_sub hl [0, 1, 2] rfl)
          · -- 25 f
            refine lv_aload_n hx hb dX1_staysAbove_28 rfl (lv_at hl 1 rfl) ?_
            refine xget C hP 0 rfl rfl zuX1 0 (by decide) zw2_133 rfl dX1_staysAbove_29 ?_
            refine lv_iload_n hx hb dX1_staysAbove_32 rfl (lv_at hl 0 rfl) ?_
            refine xi (wr := [(hc, .inr (1, [.ref hr, .ref ab, .ref rb, .ref ob, .ref tb, .int fd]))]) (xV (As := [.int (nI i)]) (rest := []) C (c_X7_down l D cs hr sm ca n k al be ea pr (nI se) cf i hn (by omega) (by omega)) kX1_51 hP hD [1, 2] rfl (by decide +kernel) 0 rfl rfl rfl ⟨Nat.le_of_ble_eq_true rfl, Nat.le_of_ble_eq_true rfl⟩ rfl hl.1 rfl (Nat.le_of_ble_eq_true rfl) dX1_staysAbove_33 ⟨Nat.le_of_ble_eq_true rfl, Nat.le_of_ble_eq_true rfl⟩) hP hD hS hA [1, 2] [0] rfl rfl (by decide +kernel) (by decide +kernel) ?_
            clear hP hD hS
            try clear locs
            try clear H
            intro r_7 u_8 H locs hw_r_7 hP hD hS
            have hw_r_7 : r_7 = nI i * cf (n - i) := hw_r_7
            refine W.widen (k := 0) (n := 0) (Nat.le_of_ble_eq_true rfl) (Nat.le_of_ble_eq_true rfl) ?_
            replace hP : va_P D vwCl [(hc, .inr (1, [.ref hr, .ref ab, .ref rb, .ref ob, .ref tb, .int fd])), (hr, .inr (7, [.int (nI n), .int (nI k), .int (nI al), .int (nI be), .int ea, .int pr, .ref sm, .int (nI se), .ref ca])), (ca, .inl (cs 0, 8, .inl cf))] H := hP
            replace hD : va_D A [(hc, .inr (1, [.ref hr, .ref ab, .ref rb, .ref ob, .ref tb, .int fd])), (hr, .inr (7, [.int (nI n), .int (nI k), .int (nI al), .int (nI be), .int ea, .int pr, .ref sm, .int (nI se), .ref ca])), (ca, .inl (cs 0, 8, .inl cf))] := hD
            obtain rfl : r_7 = dnI n cf i := hw_r_7
            refine lv_if_ne (tgt := 43) hx hb dX1_staysAbove_36 (by decide) (fun c_9 => ?_) (fun c_9 => ?_)
            · -- 36 t
              refine lv_iconst (v := nI 0) hx hb dX1_staysAbove_43 (by decide) ?_
              exact xreti C () (by rw [hst, (show 10 + j - i = (10 + j - i - 1) + 1 by omega), stA_end ⟨by omega, by omega⟩ c_6]; rw [decide_eq_false c_9]; rfl) hP hD hS (Nat.le_of_ble_eq_true rfl) (Nat.le_of_ble_eq_true rfl) (by decide) dX1_staysAbove_44
            · -- 36 f
              refine lv_iconst (v := nI 1) hx hb dX1_staysAbove_39 (by decide) ?_
              refine lv_goto (tgt := 44) hx hb dX1_staysAbove_40 (by decide) ?_
              exact xreti C () (by rw [hst, (show 10 + j - i = (10 + j - i - 1) + 1 by omega), stA_end ⟨by omega, by omega⟩ c_6]; rw [decide_eq_true c_9]; rfl) hP hD hS (Nat.le_of_ble_eq_true rfl) (Nat.le_of_ble_eq_true rfl) (by decide) dX1_staysAbove_44
  exact loop_1 _ j (by omega) hj (Nat.le_refl _) (congrArg (fun z => stA n cf z j) (show 10 = 10 + j - i by omega)) (Nat.lt_succ_self _) H locs ls hP hD hS (lv_sub hl [0, 1, 2] rfl)

set_option maxHeartbeats 4000000 in
set_option maxRecDepth 100000 in
theorem c_X1_staysBelow_f (l : Launch) (D : va_G) (cs : Nat → ClassId) (hc ab rb ob tb : Nat) (fd : Int32) (hr sm ca n k al be se : Nat) (ea pr : Int32) (cf : Nat → Int32) (j : Nat) (hn : n ≤ 8) (hj : j ≤ n) : xMet l D cs yX1_staysBelow cX1_staysBelow 3 (some .boolean) ({ frames := 2, cells := 0, slots := 0, locals := 42 } : Room) [.ref hc, .int (nI j)] [(hc, .inr (1, [.ref hr, .ref ab, .ref rb, .ref ob, .ref tb, .int fd])), (hr, .inr (7, [.int (nI n), .int (nI k), .int (nI al), .int (nI be), .int ea, .int pr, .ref sm, .int (nI se), .ref ca])), (ca, .inl (cs 0, 8, .inl cf))] (xQi D (fun (r : Int32) (_u : Unit) => r = if stB n cf 10 j = true then nI 1 else nI 0) (fun (_u : Unit) => [(hc, .inr (1, [.ref hr, .ref ab, .ref rb, .ref ob, .ref tb, .int fd])), (hr, .inr (7, [.int (nI n), .int (nI k), .int (nI al), .int (nI be), .int ea, .int pr, .ref sm, .int (nI se), .ref ca])), (ca, .inl (cs 0, 8, .inl cf))])) := by
  refine xMet.intro (by decide) (Nat.le_of_ble_eq_true rfl) ?_
  intro p e s m args below meth c A ls C hP hD hS hl
  have hx := C.1
  have hb := C.2.1
  have hz := C.2.2.2.2.1
  have hown := C.2.2.2.1
  have hA := C.2.2.2.2.2.2.2.2.2
  have hAO := C.2.2.2.2.2.2.2.2.1.2.2
  replace hl : lv_has ls 3 [(0, .ref hc), (1, .int (nI j))] := hl
  obtain ⟨H, hH⟩ : ∃ H, H = s.heap := ⟨_, rfl⟩
  replace hP : va_P D vwCl [(hc, .inr (1, [.ref hr, .ref ab, .ref rb, .ref ob, .ref tb, .int fd])), (hr, .inr (7, [.int (nI n), .int (nI k), .int (nI al), .int (nI be), .int ea, .int pr, .ref sm, .int (nI se), .ref ca])), (ca, .inl (cs 0, 8, .inl cf))] H := by rw [hH]; exact hP
  replace hS : va_S A s.heap H [] := by rw [hH]; exact hS
  obtain ⟨locs, hlocs⟩ : ∃ z : List Loc, z = [] := ⟨_, rfl⟩
  rw [← hlocs] at hS
  suffices hW : W p l e ({ frames := 2, cells := 0, slots := 0, locals := 42 } : Room) s m args below meth c H locs 0 0 (MQ below ((xQi D (fun (r : Int32) (_u : Unit) => r = if stB n cf 10 j = true then nI 1 else nI 0) (fun (_u : Unit) => [(hc, .inr (1, [.ref hr, .ref ab, .ref rb, .ref ob, .ref tb, .int fd])), (hr, .inr (7, [.int (nI n), .int (nI k), .int (nI al), .int (nI be), .int ea, .int pr, .ref sm, .int (nI se), .ref ca])), (ca, .inl (cs 0, 8, .inl cf))])) A) args s 0 0 A) (F0 m 0 ls []) by rw [hlocs, hH] at hW; exact hW
  clear hH hlocs
  refine lv_iload_n hx hb dX1_staysBelow_0 rfl (lv_at hl 1 rfl) ?_
  refine lv_istore_n (lv' := [(2, .int (nI j)), (0, .ref hc), (1, .int (nI j))]) hx hb dX1_staysBelow_1 rfl hl (by decide) rfl ?_
  clear hl
  try clear ls
  intro ls hl
  have loop_1 : ∀ (n_loop_1 : Nat) (i : Nat), (i ≤ 100) → (i ≤ n) → (i ≤ j) → (stB n cf 10 j = stB n cf (10 + i - j) i) → i < n_loop_1 → ∀ (H : Heap) (locs : List Loc) (ls : Array Slot), va_P D vwCl [(hc, .inr (1, [.ref hr, .ref ab, .ref rb, .ref ob, .ref tb, .int fd])), (hr, .inr (7, [.int (nI n), .int (nI k), .int (nI al), .int (nI be), .int ea, .int pr, .ref sm, .int (nI se), .ref ca])), (ca, .inl (cs 0, 8, .inl cf))] H → va_D A [(hc, .inr (1, [.ref hr, .ref ab, .ref rb, .ref ob, .ref tb, .int fd])), (hr, .inr (7, [.int (nI n), .int (nI k), .int (nI al), .int (nI be), .int ea, .int pr, .ref sm, .int (nI se), .ref ca])), (ca, .inl (cs 0, 8, .inl cf))] → va_S A s.heap H locs → lv_has ls 3 [(2, .int (nI i)), (0, .ref hc), (1, .int (nI j))] → W p l e ({ frames := 2, cells := 0, slots := 0, locals := 42 } : Room) s m args below meth c H locs 0 0 (MQ below ((xQi D (fun (r : Int32) (_u : Unit) => r = if stB n cf 10 j = true then nI 1 else nI 0) (fun (_u : Unit) => [(hc, .inr (1, [.ref hr, .ref ab, .ref rb, .ref ob, .ref tb, .int fd])), (hr, .inr (7, [.int (nI n), .int (nI k), .int (nI al), .int (nI be), .int ea, .int pr, .ref sm, .int (nI se), .ref ca])), (ca, .inl (cs 0, 8, .inl cf))])) A) args s 0 0 A) (F0 m 2 ls []) := by
    intro n_loop_1
    induction n_loop_1 with
    | zero => intro i h_i hin hij hst hlt H locs ls hP hD hS hl; exact absurd hlt (Nat.not_lt_zero _)
    | succ n_loop_1 ih_loop_1 =>
      intro i h_i hin hij hst hlt_loop_1 H locs ls hP hD hS hl
      refine lv_iload_n hx hb dX1_staysBelow_2 rfl (lv_at hl 0 rfl) ?_
      refine lv_if_le (tgt := 51) hx hb dX1_staysBelow_3 (by decide) (fun c_2 => ?_) (fun c_2 => ?_)
      · -- 3 t
        have fc_2 : i ≤ 0 := nf_le (by omega) (by omega) c_2
        refine lv_iconst (v := nI 0) hx hb dX1_staysBelow_51 (by decide) ?_
        exact xreti C () (by rw [hst, stB_stop (Or.inl (by have z := c_2; exact Nat.le_of_not_lt (fun q => absurd ((nI_leI (by omega) (by decide)).mp z) (by omega))))]; rfl) hP hD hS (Nat.le_of_ble_eq_true rfl) (Nat.le_of_ble_eq_true rfl) (by decide) dX1_staysBelow_52
      · -- 3 f
        have fc_2 : 0 < i := nf_nle (by omega) (by omega) c_2
        refine lv_iload_n hx hb dX1_staysBelow_6 rfl (lv_at hl 0 rfl) ?_
        refine lv_aload_n hx hb dX1_staysBelow_7 rfl (lv_at hl 1 rfl) ?_
        refine xget C hP 0 rfl rfl zuX1 0 (by decide) zw2_133 rfl dX1_staysBelow_8 ?_
        refine xget C hP 1 rfl rfl zuX7 0 (by decide) zw1_79 rfl dX1_staysBelow_11 ?_
        refine lv_icmp_ge (tgt := 51) hx hb dX1_staysBelow_14 (by decide) (fun c_3 => ?_) (fun c_3 => ?_)
        · -- 14 t
          have fc_3 : n ≤ i := nf_le (by omega) (by omega) c_3
          refine lv_iconst (v := nI 0) hx hb dX1_staysBelow_51 (by decide) ?_
          exact xreti C () (by rw [hst, stB_stop (Or.inr ((nI_leI (by omega) (by omega)).mp c_3))]; rfl) hP hD hS (Nat.le_of_ble_eq_true rfl) (Nat.le_of_ble_eq_true rfl) (by decide) dX1_staysBelow_52
        · -- 14 f
          have fc_3 : i < n := nf_nle (by omega) (by omega) c_3
          refine lv_aload_n hx hb dX1_staysBelow_17 rfl (lv_at hl 1 rfl) ?_
          refine xget C hP 0 rfl rfl zuX1 0 (by decide) zw2_133 rfl dX1_staysBelow_18 ?_
          refine lv_iload_n hx hb dX1_staysBelow_21 rfl (lv_at hl 0 rfl) ?_
          refine xi (wr := [(hc, .inr (1, [.ref hr, .ref ab, .ref rb, .ref ob, .ref tb, .int fd]))]) (xV (As := [.int (nI i)]) (rest := []) C (c_X7_down l D cs hr sm ca n k al be ea pr (nI se) cf i hn (by omega) (by omega)) kX1_51 hP hD [1, 2] rfl (by decide +kernel) 0 rfl rfl rfl ⟨Nat.le_of_ble_eq_true rfl, Nat.le_of_ble_eq_true rfl⟩ rfl hl.1 rfl (Nat.le_of_ble_eq_true rfl) dX1_staysBelow_22 ⟨Nat.le_of_ble_eq_true rfl, Nat.le_of_ble_eq_true rfl⟩) hP hD hS hA [1, 2] [0] rfl rfl (by decide +kernel) (by decide +kernel) ?_
          clear hP hD hS
          try clear locs
          try clear H
          intro r_4 u_5 H locs hw_r_4 hP hD hS
          have hw_r_4 : r_4 = nI i * cf (n - i) := hw_r_4
          refine W.widen (k := 0) (n := 0) (Nat.le_of_ble_eq_true rfl) (Nat.le_of_ble_eq_true rfl) ?_
          replace hP : va_P D vwCl [(hc, .inr (1, [.ref hr, .ref ab, .ref rb, .ref ob, .ref tb, .int fd])), (hr, .inr (7, [.int (nI n), .int (nI k), .int (nI al), .int (nI be), .int ea, .int pr, .ref sm, .int (nI se), .ref ca])), (ca, .inl (cs 0, 8, .inl cf))] H := hP
          replace hD : va_D A [(hc, .inr (1, [.ref hr, .ref ab, .ref rb, .ref ob, .ref tb, .int fd])), (hr, .inr (7, [.int (nI n), .int (nI k), .int (nI al), .int (nI be), .int ea, .int pr, .ref sm, .int (nI se), .ref ca])), (ca, .inl (cs 0, 8, .inl cf))] := hD
          obtain rfl : r_4 = dnI n cf i := hw_r_4
          refine lv_if_ne (tgt := 45) hx hb dX1_staysBelow_25 (by decide) (fun c_6 => ?_) (fun c_6 => ?_)
          · -- 25 t
            refine lv_iinc (v := nI (i - 1)) (lv' := [(2, .int (nI (i - 1))), (0, .ref hc), (1, .int (nI j))]) hx hb dX1_staysBelow_45 hl (k := 0) rfl (nI_dec (by omega)) (by decide) rfl ?_
            clear hl
            try clear ls
            intro ls hl
            refine lv_goto (tgt := 2) hx hb dX1_staysBelow_48 (by decide) ?_
            exact ih_loop_1 (i - 1) (by omega) (by omega) (by omega) (hst.trans (by rw [show 10 + i - j = (10 + (i - 1) - j) + 1 by omega]; exact stB_next ⟨by omega, by omega⟩ c_6)) (by omega) H locs ls hP hD hS (lv_sub hl [0, 1, 2] rfl)
          · -- 25 f
            refine lv_aload_n hx hb dX1_staysBelow_28 rfl (lv_at hl 1 rfl) ?_
            refine xget C hP 0 rfl rfl zuX1 0 (by decide) zw2_133 rfl dX1_staysBelow_29 ?_
            refine lv_iload_n hx hb dX1_staysBelow_32 rfl (lv_at hl 0 rfl) ?_
            refine xi (wr := [(hc, .inr (1, [.ref hr, .ref ab, .ref rb, .ref ob, .ref tb, .int fd]))]) (xV (As := [.int (nI i)]) (rest := []) C (c_X7_up l D cs hr sm ca n k al be ea pr (nI se) cf i hn (by omega)) kX1_47 hP hD [1, 2] rfl (by decide +kernel) 0 rfl rfl rfl ⟨Nat.le_of_ble_eq_true rfl, Nat.le_of_ble_eq_true rfl⟩ rfl hl.1 rfl (Nat.le_of_ble_eq_true rfl) dX1_staysBelow_33 ⟨Nat.le_of_ble_eq_true rfl, Nat.le_of_ble_eq_true rfl⟩) hP hD hS hA [1, 2] [0] rfl rfl (by decide +kernel) (by decide +kernel) ?_
            clear hP hD hS
            try clear locs
            try clear H
            intro r_7 u_8 H locs hw_r_7 hP hD hS
            have hw_r_7 : r_7 = nI (n - i) * cf i := hw_r_7
            refine W.widen (k := 0) (n := 0) (Nat.le_of_ble_eq_true rfl) (Nat.le_of_ble_eq_true rfl) ?_
            replace hP : va_P D vwCl [(hc, .inr (1, [.ref hr, .ref ab, .ref rb, .ref ob, .ref tb, .int fd])), (hr, .inr (7, [.int (nI n), .int (nI k), .int (nI al), .int (nI be), .int ea, .int pr, .ref sm, .int (nI se), .ref ca])), (ca, .inl (cs 0, 8, .inl cf))] H := hP
            replace hD : va_D A [(hc, .inr (1, [.ref hr, .ref ab, .ref rb, .ref ob, .ref tb, .int fd])), (hr, .inr (7, [.int (nI n), .int (nI k), .int (nI al), .int (nI be), .int ea, .int pr, .ref sm, .int (nI se), .ref ca])), (ca, .inl (cs 0, 8, .inl cf))] := hD
            obtain rfl : r_7 = upI n cf i := hw_r_7
            refine lv_if_ne (tgt := 43) hx hb dX1_staysBelow_36 (by decide) (fun c_9 => ?_) (fun c_9 => ?_)
            · -- 36 t
              refine lv_iconst (v := nI 0) hx hb dX1_staysBelow_43 (by decide) ?_
              exact xreti C () (by rw [hst, (show 10 + i - j = (10 + i - j - 1) + 1 by omega), stB_end ⟨by omega, by omega⟩ c_6]; rw [decide_eq_false c_9]; rfl) hP hD hS (Nat.le_of_ble_eq_true rfl) (Nat.le_of_ble_eq_true rfl) (by decide) dX1_staysBelow_44
            · -- 36 f
              refine lv_iconst (v := nI 1) hx hb dX1_staysBelow_39 (by decide) ?_
              refine lv_goto (tgt := 44) hx hb dX1_staysBelow_40 (by decide) ?_
              exact xreti C () (by rw [hst, (show 10 + i - j = (10 + i - j - 1) + 1 by omega), stB_end ⟨by omega, by omega⟩ c_6]; rw [decide_eq_true c_9]; rfl) hP hD hS (Nat.le_of_ble_eq_true rfl) (Nat.le_of_ble_eq_true rfl) (by decide) dX1_staysBelow_44
  exact loop_1 _ j (by omega) hj (Nat.le_refl _) (congrArg (fun z => stB n cf z j) (show 10 = 10 + i - j by omega)) (Nat.lt_succ_self _) H locs ls hP hD hS (lv_sub hl [0, 1, 2] rfl)

theorem ms_or {n j : Nat} {cf : Nat → Int32} {a b : Int32} (ha : a = if stA n cf 10 j = true then nI 1 else nI 0) (hb : b = if stB n cf 10 j = true then nI 1 else nI 0) : (¬ a = 0 ∨ ¬ b = 0 → msC n cf j = true) ∧ (a = 0 → b = 0 → msC n cf j = false) := by
  unfold msC
  cases p : stA n cf 10 j <;> cases q : stB n cf 10 j <;> rw [p] at ha <;> rw [q] at hb <;> simp only [if_true, if_false, Bool.false_eq_true] at ha hb <;> subst ha <;> subst hb <;> decide
theorem ms_a {n j : Nat} {cf : Nat → Int32} {a : Int32} (ha : a = if stA n cf 10 j = true then nI 1 else nI 0) (h : ¬ a = 0) : msC n cf j = true := (ms_or ha rfl).1 (Or.inl h)

set_option maxHeartbeats 4000000 in
set_option maxRecDepth 100000 in
theorem c_X1_mayStay_f (l : Launch) (D : va_G) (cs : Nat → ClassId) (hc ab rb ob tb : Nat) (fd : Int32) (hr sm ca n k al be se : Nat) (ea pr : Int32) (cf : Nat → Int32) (j : Nat) (hn : n ≤ 8) (hj : j ≤ n) : xMet l D cs yX1_mayStay cX1_mayStay 2 (some .boolean) ({ frames := 3, cells := 0, slots := 0, locals := 64 } : Room) [.ref hc, .int (nI j)] [(hc, .inr (1, [.ref hr, .ref ab, .ref rb, .ref ob, .ref tb, .int fd])), (hr, .inr (7, [.int (nI n), .int (nI k), .int (nI al), .int (nI be), .int ea, .int pr, .ref sm, .int (nI se), .ref ca])), (ca, .inl (cs 0, 8, .inl cf))] (xQi D (fun (r : Int32) (_u : Unit) => r = if msC n cf j = true then nI 1 else nI 0) (fun (_u : Unit) => [(hc, .inr (1, [.ref hr, .ref ab, .ref rb, .ref ob, .ref tb, .int fd])), (hr, .inr (7, [.int (nI n), .int (nI k), .int (nI al), .int (nI be), .int ea, .int pr, .ref sm, .int (nI se), .ref ca])), (ca, .inl (cs 0, 8, .inl cf))])) := by
  refine xMet.intro (by decide) (Nat.le_of_ble_eq_true rfl) ?_
  intro p e s m args below meth c A ls C hP hD hS hl
  have hx := C.1
  have hb := C.2.1
  have hz := C.2.2.2.2.1
  have hown := C.2.2.2.1
  have hA := C.2.2.2.2.2.2.2.2.2
  have hAO := C.2.2.2.2.2.2.2.2.1.2.2
  replace hl : lv_has ls 2 [(0, .ref hc), (1, .int (nI j))] := hl
  obtain ⟨H, hH⟩ : ∃ H, H = s.heap := ⟨_, rfl⟩
  replace hP : va_P D vwCl [(hc, .inr (1, [.ref hr, .ref ab, .ref rb, .ref ob, .ref tb, .int fd])), (hr, .inr (7, [.int (nI n), .int (nI k), .int (nI al), .int (nI be), .int ea, .int pr, .ref sm, .int (nI se), .ref ca])), (ca, .inl (cs 0, 8, .inl cf))] H := by rw [hH]; exact hP
  replace hS : va_S A s.heap H [] := by rw [hH]; exact hS
  obtain ⟨locs, hlocs⟩ : ∃ z : List Loc, z = [] := ⟨_, rfl⟩
  rw [← hlocs] at hS
  suffices hW : W p l e ({ frames := 3, cells := 0, slots := 0, locals := 64 } : Room) s m args below meth c H locs 0 0 (MQ below ((xQi D (fun (r : Int32) (_u : Unit) => r = if msC n cf j = true then nI 1 else nI 0) (fun (_u : Unit) => [(hc, .inr (1, [.ref hr, .ref ab, .ref rb, .ref ob, .ref tb, .int fd])), (hr, .inr (7, [.int (nI n), .int (nI k), .int (nI al), .int (nI be), .int ea, .int pr, .ref sm, .int (nI se), .ref ca])), (ca, .inl (cs 0, 8, .inl cf))])) A) args s 0 0 A) (F0 m 0 ls []) by rw [hlocs, hH] at hW; exact hW
  clear hH hlocs
  refine lv_aload_n hx hb dX1_mayStay_0 rfl (lv_at hl 0 rfl) ?_
  refine lv_iload_n hx hb dX1_mayStay_1 rfl (lv_at hl 1 rfl) ?_
  refine xi (wr := []) (xV (As := [.int (nI j)]) (rest := []) C (c_X1_staysAbove_f l D cs hc ab rb ob tb fd hr sm ca n k al be se ea pr cf j hn hj) kX1_34 hP hD [0, 1, 2] rfl (by decide +kernel) 0 rfl rfl rfl ⟨Nat.le_of_ble_eq_true rfl, Nat.le_of_ble_eq_true rfl⟩ rfl hl.1 rfl (Nat.le_of_ble_eq_true rfl) dX1_mayStay_2 ⟨Nat.le_of_ble_eq_true rfl, Nat.le_of_ble_eq_true rfl⟩) hP hD hS hA [0, 1, 2] [] rfl rfl (by decide +kernel) (by decide +kernel) ?_
  clear hP hD hS
  try clear locs
  try clear H
  intro r_1 u_2 H locs hw_r_1 hP hD hS
  have hw_r_1 : r_1 = if stA n cf 10 j = true then nI 1 else nI 0 := hw_r_1
  refine W.widen (k := 0) (n := 0) (Nat.le_of_ble_eq_true rfl) (Nat.le_of_ble_eq_true rfl) ?_
  replace hP : va_P D vwCl [(hc, .inr (1, [.ref hr, .ref ab, .ref rb, .ref ob, .ref tb, .int fd])), (hr, .inr (7, [.int (nI n), .int (nI k), .int (nI al), .int (nI be), .int ea, .int pr, .ref sm, .int (nI se), .ref ca])), (ca, .inl (cs 0, 8, .inl cf))] H := hP
  replace hD : va_D A [(hc, .inr (1, [.ref hr, .ref ab, .ref rb, .ref ob, .ref tb, .int fd])), (hr, .inr (7, [.int (nI n), .int (nI k), .int (nI al), .int (nI be), .int ea, .int pr, .ref sm, .int (nI se), .ref ca])), (ca, .inl (cs 0, 8, .inl cf))] := hD
  refine lv_if_ne (tgt := 16) hx hb dX1_mayStay_5 (by decide) (fun c_3 => ?_) (fun c_3 => ?_)
  · -- 5 t
    refine lv_iconst (v := nI 1) hx hb dX1_mayStay_16 (by decide) ?_
    refine lv_goto (tgt := 21) hx hb dX1_mayStay_17 (by decide) ?_
    exact xreti C () ((if_pos (ms_a hw_r_1 c_3)).symm) hP hD hS (Nat.le_of_ble_eq_true rfl) (Nat.le_of_ble_eq_true rfl) (by decide) dX1_mayStay_21
  · -- 5 f
    refine lv_aload_n hx hb dX1_mayStay_8 rfl (lv_at hl 0 rfl) ?_
    refine lv_iload_n hx hb dX1_mayStay_9 rfl (lv_at hl 1 rfl) ?_
    refine xi (wr := []) (xV (As := [.int (nI j)]) (rest := []) C (c_X1_staysBelow_f l D cs hc ab rb ob tb fd hr sm ca n k al be se ea pr cf j hn hj) kX1_38 hP hD [0, 1, 2] rfl (by decide +kernel) 0 rfl rfl rfl ⟨Nat.le_of_ble_eq_true rfl, Nat.le_of_ble_eq_true rfl⟩ rfl hl.1 rfl (Nat.le_of_ble_eq_true rfl) dX1_mayStay_10 ⟨Nat.le_of_ble_eq_true rfl, Nat.le_of_ble_eq_true rfl⟩) hP hD hS hA [0, 1, 2] [] rfl rfl (by decide +kernel) (by decide +kernel) ?_
    clear hP hD hS
    try clear locs
    try clear H
    intro r_4 u_5 H locs hw_r_4 hP hD hS
    have hw_r_4 : r_4 = if stB n cf 10 j = true then nI 1 else nI 0 := hw_r_4
    refine W.widen (k := 0) (n := 0) (Nat.le_of_ble_eq_true rfl) (Nat.le_of_ble_eq_true rfl) ?_
    replace hP : va_P D vwCl [(hc, .inr (1, [.ref hr, .ref ab, .ref rb, .ref ob, .ref tb, .int fd])), (hr, .inr (7, [.int (nI n), .int (nI k), .int (nI al), .int (nI be), .int ea, .int pr, .ref sm, .int (nI se), .ref ca])), (ca, .inl (cs 0, 8, .inl cf))] H := hP
    replace hD : va_D A [(hc, .inr (1, [.ref hr, .ref ab, .ref rb, .ref ob, .ref tb, .int fd])), (hr, .inr (7, [.int (nI n), .int (nI k), .int (nI al), .int (nI be), .int ea, .int pr, .ref sm, .int (nI se), .ref ca])), (ca, .inl (cs 0, 8, .inl cf))] := hD
    refine lv_if_eq (tgt := 20) hx hb dX1_mayStay_13 (by decide) (fun c_6 => ?_) (fun c_6 => ?_)
    · -- 13 t
      refine lv_iconst (v := nI 0) hx hb dX1_mayStay_20 (by decide) ?_
      exact xreti C () ((if_neg (by rw [(ms_or hw_r_1 hw_r_4).2 c_3 c_6]; decide)).symm) hP hD hS (Nat.le_of_ble_eq_true rfl) (Nat.le_of_ble_eq_true rfl) (by decide) dX1_mayStay_21
    · -- 13 f
      refine lv_iconst (v := nI 1) hx hb dX1_mayStay_16 (by decide) ?_
      refine lv_goto (tgt := 21) hx hb dX1_mayStay_17 (by decide) ?_
      exact xreti C () ((if_pos ((ms_or hw_r_1 hw_r_4).1 (Or.inr c_6))).symm) hP hD hS (Nat.le_of_ble_eq_true rfl) (Nat.le_of_ble_eq_true rfl) (by decide) dX1_mayStay_21
