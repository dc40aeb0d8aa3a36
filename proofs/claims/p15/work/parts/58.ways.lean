/-- how many ways there are of so many queries, as it is counted; -2: too many -/
def wyL (b : Int64) : Nat → Int64 → Int64 | 0, v => v | t + 1, v => if prF v b < 0 then -2 else wyL b t (prF v b)
theorem wy_neg {b v : Int64} {t o : Nat} (h : o < t) (q : prF v b < 0) : wyL b (t - o) v = -2 := by
  obtain ⟨d, hd⟩ : ∃ d, t - o = d + 1 := ⟨t - o - 1, by omega⟩
  rw [hd]; exact if_pos q
theorem wy_step {b v : Int64} {t o : Nat} (h : o < t) (q : ¬ prF v b < 0) : wyL b (t - o) v = wyL b (t - (o + 1)) (prF v b) := by
  obtain ⟨d, hd⟩ : ∃ d, t - o = d + 1 := ⟨t - o - 1, by omega⟩
  rw [hd, show t - (o + 1) = d by omega]; exact if_neg q
def wyN (n se t : Nat) : Int64 := wyL ((nI n).toInt64 * (nI se).toInt64) t 1
theorem wy_nz {n se t : Nat} (hn : 1 ≤ n ∧ n ≤ 8) (hs : 1 ≤ se ∧ se ≤ 35) (ht : t ≤ 12) : wyN n se t ≠ 0 := by
  have h : ∀ n, n ≤ 8 → 1 ≤ n → ∀ se, se ≤ 35 → 1 ≤ se → ∀ t, t ≤ 12 → wyN n se t ≠ 0 := by decide +kernel
  exact h n hn.2 hn.1 se hs.2 hs.1 t ht

set_option maxHeartbeats 4000000 in
set_option maxRecDepth 100000 in
theorem c_X7_ways_g (l : Launch) (D : va_G) (cs : Nat → ClassId) (hr sm ca n k al be se : Nat) (ea pr : Int32) (t : Nat) (ht : t ≤ 12) : xMet l D cs yX7_ways cX7_ways 7 (some .long) ({ frames := 1, cells := 0, slots := 0, locals := 23 } : Room) [.ref hr, .int (nI t)] [(hr, .inr (7, [.int (nI n), .int (nI k), .int (nI al), .int (nI be), .int ea, .int pr, .ref sm, .int (nI se), .ref ca]))] (xQl D (fun (r : Int64) (_u : Unit) => r = wyN n se t) (fun (_u : Unit) => [(hr, .inr (7, [.int (nI n), .int (nI k), .int (nI al), .int (nI be), .int ea, .int pr, .ref sm, .int (nI se), .ref ca]))])) := by
  refine xMet.intro (by decide) (Nat.le_of_ble_eq_true rfl) ?_
  intro p e s m args below meth c A ls C hP hD hS hl
  have hx := C.1
  have hb := C.2.1
  have hz := C.2.2.2.2.1
  have hown := C.2.2.2.1
  have hA := C.2.2.2.2.2.2.2.2.2
  have hAO := C.2.2.2.2.2.2.2.2.1.2.2
  replace hl : lv_has ls 7 [(0, .ref hr), (1, .int (nI t))] := hl
  obtain ⟨H, hH⟩ : ∃ H, H = s.heap := ⟨_, rfl⟩
  replace hP : va_P D vwCl [(hr, .inr (7, [.int (nI n), .int (nI k), .int (nI al), .int (nI be), .int ea, .int pr, .ref sm, .int (nI se), .ref ca]))] H := by rw [hH]; exact hP
  replace hS : va_S A s.heap H [] := by rw [hH]; exact hS
  obtain ⟨locs, hlocs⟩ : ∃ z : List Loc, z = [] := ⟨_, rfl⟩
  rw [← hlocs] at hS
  suffices hW : W p l e ({ frames := 1, cells := 0, slots := 0, locals := 23 } : Room) s m args below meth c H locs 0 0 (MQ below ((xQl D (fun (r : Int64) (_u : Unit) => r = wyN n se t) (fun (_u : Unit) => [(hr, .inr (7, [.int (nI n), .int (nI k), .int (nI al), .int (nI be), .int ea, .int pr, .ref sm, .int (nI se), .ref ca]))])) A) args s 0 0 A) (F0 m 0 ls []) by rw [hlocs, hH] at hW; exact hW
  clear hH hlocs
  refine lv_aload_n hx hb dX7_ways_0 rfl (lv_at hl 0 rfl) ?_
  refine xget C hP 0 rfl rfl zuX7 0 (by decide) zw1_78 rfl dX7_ways_1 ?_
  refine lv_i2l hx hb dX7_ways_4 rfl ?_
  refine lv_aload_n hx hb dX7_ways_5 rfl (lv_at hl 0 rfl) ?_
  refine xget C hP 0 rfl rfl zuX7 7 (by decide) zw1_102 rfl dX7_ways_6 ?_
  refine lv_i2l hx hb dX7_ways_9 rfl ?_
  refine lv_lmul hx hb dX7_ways_10 ?_
  refine lv_lstore_n (lv' := [(2, .long (((nI n).toInt64) * ((nI se).toInt64))), (0, .ref hr), (1, .int (nI t))]) hx hb dX7_ways_11 rfl hl (by decide) rfl ?_
  clear hl
  try clear ls
  intro ls hl
  refine lv_lconst (v := 1) hx hb dX7_ways_12 (by decide) ?_
  refine lv_lstore (lv' := [(4, .long 1), (2, .long (((nI n).toInt64) * ((nI se).toInt64))), (0, .ref hr), (1, .int (nI t))]) hx hb dX7_ways_13 hl (by decide) rfl ?_
  clear hl
  try clear ls
  intro ls hl
  refine lv_iconst (v := nI 0) hx hb dX7_ways_15 (by decide) ?_
  refine lv_istore (lv' := [(6, .int (nI 0)), (4, .long 1), (2, .long (((nI n).toInt64) * ((nI se).toInt64))), (0, .ref hr), (1, .int (nI t))]) hx hb dX7_ways_16 hl (by decide) rfl ?_
  clear hl
  try clear ls
  intro ls hl
  have loop_1 : ∀ (n_loop_1 : Nat) (o : Nat) (v9 : Int64), (o ≤ t) → (wyL ((nI n).toInt64 * (nI se).toInt64) (t - o) v9 = wyN n se t) → t - o < n_loop_1 → ∀ (H : Heap) (locs : List Loc) (ls : Array Slot), va_P D vwCl [(hr, .inr (7, [.int (nI n), .int (nI k), .int (nI al), .int (nI be), .int ea, .int pr, .ref sm, .int (nI se), .ref ca]))] H → va_D A [(hr, .inr (7, [.int (nI n), .int (nI k), .int (nI al), .int (nI be), .int ea, .int pr, .ref sm, .int (nI se), .ref ca]))] → va_S A s.heap H locs → lv_has ls 7 [(6, .int (nI o)), (4, .long v9), (2, .long (((nI n).toInt64) * ((nI se).toInt64))), (0, .ref hr), (1, .int (nI t))] → W p l e ({ frames := 1, cells := 0, slots := 0, locals := 23 } : Room) s m args below meth c H locs 0 0 (MQ below ((xQl D (fun (r : Int64) (_u : Unit) => r = wyN n se t) (fun (_u : Unit) => [(hr, .inr (7, [.int (nI n), .int (nI k), .int (nI al), .int (nI be), .int ea, .int pr, .ref sm, .int (nI se), .ref ca]))])) A) args s 0 0 A) (F0 m 18 ls []) := by
    intro n_loop_1
    induction n_loop_1 with
    | zero => intro o v9 h_o hw9 hlt H locs ls hP hD hS hl; exact absurd hlt (Nat.not_lt_zero _)
    | succ n_loop_1 ih_loop_1 =>
      intro o v9 h_o hw9 hlt_loop_1 H locs ls hP hD hS hl
      refine lv_iload hx hb dX7_ways_18 (lv_at hl 0 rfl) ?_
      refine lv_iload_n hx hb dX7_ways_20 rfl (lv_at hl 4 rfl) ?_
      refine lv_icmp_ge (tgt := 49) hx hb dX7_ways_21 (by decide) (fun c_2 => ?_) (fun c_2 => ?_)
      · -- 21 t
        have fc_2 : t ≤ o := nf_le (by omega) (by omega) c_2
        refine lv_lload hx hb dX7_ways_49 (lv_at hl 1 rfl) ?_
        exact xretl C () (by have qq : o = t := (by omega); subst qq; rw [Nat.sub_self] at hw9; exact hw9) hP hD hS (Nat.le_of_ble_eq_true rfl) (Nat.le_of_ble_eq_true rfl) dX7_ways_51
      · -- 21 f
        have fc_2 : o < t := nf_nle (by omega) (by omega) c_2
        refine lv_lload hx hb dX7_ways_24 (lv_at hl 1 rfl) ?_
        refine lv_lload_n hx hb dX7_ways_26 rfl (lv_at hl 2 rfl) ?_
        refine xl (wr := [(hr, .inr (7, [.int (nI n), .int (nI k), .int (nI al), .int (nI be), .int ea, .int pr, .ref sm, .int (nI se), .ref ca]))]) (xS (As := [.long v9, .long (((nI n).toInt64) * ((nI se).toInt64))]) (rest := []) C (c_X2_product l D cs v9 (((nI n).toInt64) * ((nI se).toInt64))) kX7_80 hP hD [] rfl (by decide +kernel) ⟨Nat.le_of_ble_eq_true rfl, Nat.le_of_ble_eq_true rfl⟩ rfl hl.1 rfl (Nat.le_of_ble_eq_true rfl) dX7_ways_27 ⟨Nat.le_of_ble_eq_true rfl, Nat.le_of_ble_eq_true rfl⟩) hP hD hS hA [] [0] rfl rfl (by decide +kernel) (by decide +kernel) ?_
        clear hP hD hS
        try clear locs
        try clear H
        intro r_3 u_4 H locs hw_r_3 hP hD hS
        have hw_r_3 : r_3 = prF v9 (((nI n).toInt64) * ((nI se).toInt64)) := hw_r_3
        refine W.widen (k := 0) (n := 0) (Nat.le_of_ble_eq_true rfl) (Nat.le_of_ble_eq_true rfl) ?_
        replace hP : va_P D vwCl [(hr, .inr (7, [.int (nI n), .int (nI k), .int (nI al), .int (nI be), .int ea, .int pr, .ref sm, .int (nI se), .ref ca]))] H := hP
        replace hD : va_D A [(hr, .inr (7, [.int (nI n), .int (nI k), .int (nI al), .int (nI be), .int ea, .int pr, .ref sm, .int (nI se), .ref ca]))] := hD
        refine lv_lstore (lv' := [(4, .long r_3), (6, .int (nI o)), (2, .long (((nI n).toInt64) * ((nI se).toInt64))), (0, .ref hr), (1, .int (nI t))]) hx hb dX7_ways_30 hl (by decide) rfl ?_
        clear hl
        try clear ls
        intro ls hl
        refine lv_lload hx hb dX7_ways_32 (lv_at hl 0 rfl) ?_
        refine lv_lconst (v := 0) hx hb dX7_ways_34 (by decide) ?_
        refine W.lcmp hx hb dX7_ways_35 ?_
        refine lv_if_ge (tgt := 43) hx hb dX7_ways_36 (by decide) (fun c_5 => ?_) (fun c_5 => ?_)
        · -- 36 t
          refine lv_iinc (v := nI (o + 1)) (lv' := [(6, .int (nI (o + 1))), (4, .long r_3), (2, .long (((nI n).toInt64) * ((nI se).toInt64))), (0, .ref hr), (1, .int (nI t))]) hx hb dX7_ways_43 hl (k := 1) rfl (nI_add o 1) (by decide) rfl ?_
          clear hl
          try clear ls
          intro ls hl
          refine lv_goto (tgt := 18) hx hb dX7_ways_46 (by decide) ?_
          exact ih_loop_1 (o + 1) r_3 (by omega) (by rw [hw_r_3] at c_5 ⊢; exact (wy_step (by omega) (l_ge c_5)).symm.trans hw9) (by omega) H locs ls hP hD hS (lv_sub hl [0, 1, 2, 3, 4] rfl)
        · -- 36 f
          refine lv_ldc2 (v := (-2)) hx hb hown (hz _ zw3_153) dX7_ways_39 ?_
          exact xretl C () (by have q := l_nge c_5; rw [hw_r_3] at q; exact (wy_neg (by omega) q).symm.trans hw9) hP hD hS (Nat.le_of_ble_eq_true rfl) (Nat.le_of_ble_eq_true rfl) dX7_ways_42
  exact loop_1 _ 0 1 (by omega) rfl (Nat.lt_succ_self _) H locs ls hP hD hS (lv_sub hl [0, 1, 2, 3, 4] rfl)
