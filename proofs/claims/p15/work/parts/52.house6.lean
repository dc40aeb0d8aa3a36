set_option maxHeartbeats 4000000 in
set_option maxRecDepth 100000 in
theorem c_X4_honestBits (l : Launch) (D : va_G) (cs : Nat → ClassId) (hg nd kd lk vw n : Nat) (kf : Nat → Int32) (hn : n ≤ 8) : xMet l D cs yX4_honestBits cX4_honestBits 4 (some .int) ({ frames := 0, cells := 0, slots := 0, locals := 0 } : Room) [.ref hg, .int (nI n)] [(hg, .inr (4, [.ref nd, .ref kd, .ref lk, .ref vw])), (kd, .inl (cs 0, 8, .inl kf))] (xQi D (fun (r : Int32) (_u : Unit) => True) (fun (_u : Unit) => [(hg, .inr (4, [.ref nd, .ref kd, .ref lk, .ref vw])), (kd, .inl (cs 0, 8, .inl kf))])) := by
  refine xMet.intro (by decide) (Nat.le_of_ble_eq_true rfl) ?_
  intro p e s m args below meth c A ls C hP hD hS hl
  have hx := C.1
  have hb := C.2.1
  have hz := C.2.2.2.2.1
  have hown := C.2.2.2.1
  have hA := C.2.2.2.2.2.2.2.2.2
  have hAO := C.2.2.2.2.2.2.2.2.1.2.2
  replace hl : lv_has ls 4 [(0, .ref hg), (1, .int (nI n))] := hl
  obtain ⟨H, hH⟩ : ∃ H, H = s.heap := ⟨_, rfl⟩
  replace hP : va_P D vwCl [(hg, .inr (4, [.ref nd, .ref kd, .ref lk, .ref vw])), (kd, .inl (cs 0, 8, .inl kf))] H := by rw [hH]; exact hP
  replace hS : va_S A s.heap H [] := by rw [hH]; exact hS
  obtain ⟨locs, hlocs⟩ : ∃ z : List Loc, z = [] := ⟨_, rfl⟩
  rw [← hlocs] at hS
  suffices hW : W p l e ({ frames := 0, cells := 0, slots := 0, locals := 0 } : Room) s m args below meth c H locs 0 0 (MQ below ((xQi D (fun (r : Int32) (_u : Unit) => True) (fun (_u : Unit) => [(hg, .inr (4, [.ref nd, .ref kd, .ref lk, .ref vw])), (kd, .inl (cs 0, 8, .inl kf))])) A) args s 0 0 A) (F0 m 0 ls []) by rw [hlocs, hH] at hW; exact hW
  clear hH hlocs
  refine lv_iconst (v := nI 0) hx hb dX4_honestBits_0 (by decide) ?_
  refine lv_istore_n (lv' := [(2, .int (nI 0)), (0, .ref hg), (1, .int (nI n))]) hx hb dX4_honestBits_1 rfl hl (by decide) rfl ?_
  clear hl
  try clear ls
  intro ls hl
  refine lv_iconst (v := nI 0) hx hb dX4_honestBits_2 (by decide) ?_
  refine lv_istore_n (lv' := [(3, .int (nI 0)), (2, .int (nI 0)), (0, .ref hg), (1, .int (nI n))]) hx hb dX4_honestBits_3 rfl hl (by decide) rfl ?_
  clear hl
  try clear ls
  intro ls hl
  have loop_1 : ∀ (n_loop_1 : Nat) (o : Nat) (b9 : Int32), (o ≤ n) → n - o < n_loop_1 → ∀ (H : Heap) (locs : List Loc) (ls : Array Slot), va_P D vwCl [(hg, .inr (4, [.ref nd, .ref kd, .ref lk, .ref vw])), (kd, .inl (cs 0, 8, .inl kf))] H → va_D A [(hg, .inr (4, [.ref nd, .ref kd, .ref lk, .ref vw])), (kd, .inl (cs 0, 8, .inl kf))] → va_S A s.heap H locs → lv_has ls 4 [(3, .int (nI o)), (2, .int b9), (0, .ref hg), (1, .int (nI n))] → W p l e ({ frames := 0, cells := 0, slots := 0, locals := 0 } : Room) s m args below meth c H locs 0 0 (MQ below ((xQi D (fun (r : Int32) (_u : Unit) => True) (fun (_u : Unit) => [(hg, .inr (4, [.ref nd, .ref kd, .ref lk, .ref vw])), (kd, .inl (cs 0, 8, .inl kf))])) A) args s 0 0 A) (F0 m 4 ls []) := by
    intro n_loop_1
    induction n_loop_1 with
    | zero => intro o b9 h_o hlt H locs ls hP hD hS hl; exact absurd hlt (Nat.not_lt_zero _)
    | succ n_loop_1 ih_loop_1 =>
      intro o b9 h_o hlt_loop_1 H locs ls hP hD hS hl
      refine lv_iload_n hx hb dX4_honestBits_4 rfl (lv_at hl 0 rfl) ?_
      refine lv_iload_n hx hb dX4_honestBits_5 rfl (lv_at hl 3 rfl) ?_
      refine lv_icmp_ge (tgt := 34) hx hb dX4_honestBits_6 (by decide) (fun c_2 => ?_) (fun c_2 => ?_)
      · -- 6 t
        have fc_2 : n ≤ o := nf_le (by omega) (by omega) c_2
        refine lv_iload_n hx hb dX4_honestBits_34 rfl (lv_at hl 1 rfl) ?_
        exact xreti C () trivial hP hD hS (Nat.le_of_ble_eq_true rfl) (Nat.le_of_ble_eq_true rfl) rfl dX4_honestBits_35
      · -- 6 f
        have fc_2 : o < n := nf_nle (by omega) (by omega) c_2
        refine lv_iload_n hx hb dX4_honestBits_9 rfl (lv_at hl 1 rfl) ?_
        refine lv_aload_n hx hb dX4_honestBits_10 rfl (lv_at hl 2 rfl) ?_
        refine xget C hP 0 rfl rfl zuX4 1 (by decide) zw1_171 rfl dX4_honestBits_11 ?_
        refine lv_iload_n hx hb dX4_honestBits_14 rfl (lv_at hl 0 rfl) ?_
        refine xiald C hP 1 rfl o rfl (by omega) (by decide) dX4_honestBits_15 ?_
        refine lv_if_ne (tgt := 25) hx hb dX4_honestBits_16 (by decide) (fun c_3 => ?_) (fun c_3 => ?_)
        · -- 16 t
          refine lv_iconst (v := nI 0) hx hb dX4_honestBits_25 (by decide) ?_
          refine lv_ior hx hb dX4_honestBits_26 ?_
          refine lv_istore_n (lv' := [(2, .int (b9 ||| (nI 0))), (3, .int (nI o)), (0, .ref hg), (1, .int (nI n))]) hx hb dX4_honestBits_27 rfl hl (by decide) rfl ?_
          clear hl
          try clear ls
          intro ls hl
          refine lv_iinc (v := nI (o + 1)) (lv' := [(3, .int (nI (o + 1))), (2, .int (b9 ||| (nI 0))), (0, .ref hg), (1, .int (nI n))]) hx hb dX4_honestBits_28 hl (k := 1) rfl (nI_add o 1) (by decide) rfl ?_
          clear hl
          try clear ls
          intro ls hl
          refine lv_goto (tgt := 4) hx hb dX4_honestBits_31 (by decide) ?_
          exact ih_loop_1 (o + 1) (b9 ||| (nI 0)) (by omega) (by omega) H locs ls hP hD hS (lv_sub hl [0, 1, 2, 3] rfl)
        · -- 16 f
          refine lv_iconst (v := nI 1) hx hb dX4_honestBits_19 (by decide) ?_
          refine lv_iload_n hx hb dX4_honestBits_20 rfl (lv_at hl 0 rfl) ?_
          refine lv_ishl hx hb dX4_honestBits_21 ?_
          refine lv_goto (tgt := 26) hx hb dX4_honestBits_22 (by decide) ?_
          refine lv_ior hx hb dX4_honestBits_26 ?_
          refine lv_istore_n (lv' := [(2, .int (b9 ||| ((nI 1) <<< ((nI o) &&& 31)))), (3, .int (nI o)), (0, .ref hg), (1, .int (nI n))]) hx hb dX4_honestBits_27 rfl hl (by decide) rfl ?_
          clear hl
          try clear ls
          intro ls hl
          refine lv_iinc (v := nI (o + 1)) (lv' := [(3, .int (nI (o + 1))), (2, .int (b9 ||| ((nI 1) <<< ((nI o) &&& 31)))), (0, .ref hg), (1, .int (nI n))]) hx hb dX4_honestBits_28 hl (k := 1) rfl (nI_add o 1) (by decide) rfl ?_
          clear hl
          try clear ls
          intro ls hl
          refine lv_goto (tgt := 4) hx hb dX4_honestBits_31 (by decide) ?_
          exact ih_loop_1 (o + 1) (b9 ||| ((nI 1) <<< ((nI o) &&& 31))) (by omega) (by omega) H locs ls hP hD hS (lv_sub hl [0, 1, 2, 3] rfl)
  exact loop_1 _ 0 (nI 0) (by omega) (Nat.lt_succ_self _) H locs ls hP hD hS (lv_sub hl [0, 1, 2, 3] rfl)

set_option maxHeartbeats 4000000 in
set_option maxRecDepth 100000 in
theorem c_X4_decidedBits (l : Launch) (D : va_G) (cs : Nat → ClassId) (hg nd kd lk vw n : Nat) (nf : Nat → Int32) (hn : n ≤ 8) : xMet l D cs yX4_decidedBits cX4_decidedBits 4 (some .int) ({ frames := 1, cells := 0, slots := 0, locals := 20 } : Room) [.ref hg, .int (nI n)] [(hg, .inr (4, [.ref nd, .ref kd, .ref lk, .ref vw])), (nd, .inl (cs 0, 8, .inl nf))] (xQi D (fun (r : Int32) (_u : Unit) => True) (fun (_u : Unit) => [(hg, .inr (4, [.ref nd, .ref kd, .ref lk, .ref vw])), (nd, .inl (cs 0, 8, .inl nf))])) := by
  refine xMet.intro (by decide) (Nat.le_of_ble_eq_true rfl) ?_
  intro p e s m args below meth c A ls C hP hD hS hl
  have hx := C.1
  have hb := C.2.1
  have hz := C.2.2.2.2.1
  have hown := C.2.2.2.1
  have hA := C.2.2.2.2.2.2.2.2.2
  have hAO := C.2.2.2.2.2.2.2.2.1.2.2
  replace hl : lv_has ls 4 [(0, .ref hg), (1, .int (nI n))] := hl
  obtain ⟨H, hH⟩ : ∃ H, H = s.heap := ⟨_, rfl⟩
  replace hP : va_P D vwCl [(hg, .inr (4, [.ref nd, .ref kd, .ref lk, .ref vw])), (nd, .inl (cs 0, 8, .inl nf))] H := by rw [hH]; exact hP
  replace hS : va_S A s.heap H [] := by rw [hH]; exact hS
  obtain ⟨locs, hlocs⟩ : ∃ z : List Loc, z = [] := ⟨_, rfl⟩
  rw [← hlocs] at hS
  suffices hW : W p l e ({ frames := 1, cells := 0, slots := 0, locals := 20 } : Room) s m args below meth c H locs 0 0 (MQ below ((xQi D (fun (r : Int32) (_u : Unit) => True) (fun (_u : Unit) => [(hg, .inr (4, [.ref nd, .ref kd, .ref lk, .ref vw])), (nd, .inl (cs 0, 8, .inl nf))])) A) args s 0 0 A) (F0 m 0 ls []) by rw [hlocs, hH] at hW; exact hW
  clear hH hlocs
  refine lv_iconst (v := nI 0) hx hb dX4_decidedBits_0 (by decide) ?_
  refine lv_istore_n (lv' := [(2, .int (nI 0)), (0, .ref hg), (1, .int (nI n))]) hx hb dX4_decidedBits_1 rfl hl (by decide) rfl ?_
  clear hl
  try clear ls
  intro ls hl
  refine lv_iconst (v := nI 0) hx hb dX4_decidedBits_2 (by decide) ?_
  refine lv_istore_n (lv' := [(3, .int (nI 0)), (2, .int (nI 0)), (0, .ref hg), (1, .int (nI n))]) hx hb dX4_decidedBits_3 rfl hl (by decide) rfl ?_
  clear hl
  try clear ls
  intro ls hl
  have loop_1 : ∀ (n_loop_1 : Nat) (o : Nat) (b9 : Int32), (o ≤ n) → n - o < n_loop_1 → ∀ (H : Heap) (locs : List Loc) (ls : Array Slot), va_P D vwCl [(hg, .inr (4, [.ref nd, .ref kd, .ref lk, .ref vw])), (nd, .inl (cs 0, 8, .inl nf))] H → va_D A [(hg, .inr (4, [.ref nd, .ref kd, .ref lk, .ref vw])), (nd, .inl (cs 0, 8, .inl nf))] → va_S A s.heap H locs → lv_has ls 4 [(3, .int (nI o)), (2, .int b9), (0, .ref hg), (1, .int (nI n))] → W p l e ({ frames := 1, cells := 0, slots := 0, locals := 20 } : Room) s m args below meth c H locs 0 0 (MQ below ((xQi D (fun (r : Int32) (_u : Unit) => True) (fun (_u : Unit) => [(hg, .inr (4, [.ref nd, .ref kd, .ref lk, .ref vw])), (nd, .inl (cs 0, 8, .inl nf))])) A) args s 0 0 A) (F0 m 4 ls []) := by
    intro n_loop_1
    induction n_loop_1 with
    | zero => intro o b9 h_o hlt H locs ls hP hD hS hl; exact absurd hlt (Nat.not_lt_zero _)
    | succ n_loop_1 ih_loop_1 =>
      intro o b9 h_o hlt_loop_1 H locs ls hP hD hS hl
      refine lv_iload_n hx hb dX4_decidedBits_4 rfl (lv_at hl 0 rfl) ?_
      refine lv_iload_n hx hb dX4_decidedBits_5 rfl (lv_at hl 3 rfl) ?_
      refine lv_icmp_ge (tgt := 37) hx hb dX4_decidedBits_6 (by decide) (fun c_2 => ?_) (fun c_2 => ?_)
      · -- 6 t
        have fc_2 : n ≤ o := nf_le (by omega) (by omega) c_2
        refine lv_iload_n hx hb dX4_decidedBits_37 rfl (lv_at hl 1 rfl) ?_
        exact xreti C () trivial hP hD hS (Nat.le_of_ble_eq_true rfl) (Nat.le_of_ble_eq_true rfl) rfl dX4_decidedBits_38
      · -- 6 f
        have fc_2 : o < n := nf_nle (by omega) (by omega) c_2
        refine lv_iload_n hx hb dX4_decidedBits_9 rfl (lv_at hl 1 rfl) ?_
        refine lv_aload_n hx hb dX4_decidedBits_10 rfl (lv_at hl 2 rfl) ?_
        refine xget C hP 0 rfl rfl zuX4 0 (by decide) zw1_169 rfl dX4_decidedBits_11 ?_
        refine lv_iload_n hx hb dX4_decidedBits_14 rfl (lv_at hl 0 rfl) ?_
        refine xiald C hP 1 rfl o rfl (by omega) (by decide) dX4_decidedBits_15 ?_
        refine xi (wr := [(hg, .inr (4, [.ref nd, .ref kd, .ref lk, .ref vw])), (nd, .inl (cs 0, 8, .inl nf))]) (xS (As := [.int (nf o)]) (rest := [.int b9]) C (c_X4_isDecided l D cs (nf o)) kX4_53 hP hD [] rfl (by decide +kernel) ⟨Nat.le_of_ble_eq_true rfl, Nat.le_of_ble_eq_true rfl⟩ rfl hl.1 rfl (Nat.le_of_ble_eq_true rfl) dX4_decidedBits_16 ⟨Nat.le_of_ble_eq_true rfl, Nat.le_of_ble_eq_true rfl⟩) hP hD hS hA [] [0, 1] rfl rfl (by decide +kernel) (by decide +kernel) ?_
        clear hP hD hS
        try clear locs
        try clear H
        intro r_3 u_4 H locs hw_r_3 hP hD hS
        have hw_r_3 : r_3 = if (nf o) &&& nI 268435456 = 0 then nI 0 else nI 1 := hw_r_3
        refine W.widen (k := 0) (n := 0) (Nat.le_of_ble_eq_true rfl) (Nat.le_of_ble_eq_true rfl) ?_
        replace hP : va_P D vwCl [(hg, .inr (4, [.ref nd, .ref kd, .ref lk, .ref vw])), (nd, .inl (cs 0, 8, .inl nf))] H := hP
        replace hD : va_D A [(hg, .inr (4, [.ref nd, .ref kd, .ref lk, .ref vw])), (nd, .inl (cs 0, 8, .inl nf))] := hD
        refine lv_if_eq (tgt := 28) hx hb dX4_decidedBits_19 (by decide) (fun c_5 => ?_) (fun c_5 => ?_)
        · -- 19 t
          refine lv_iconst (v := nI 0) hx hb dX4_decidedBits_28 (by decide) ?_
          refine lv_ior hx hb dX4_decidedBits_29 ?_
          refine lv_istore_n (lv' := [(2, .int (b9 ||| (nI 0))), (3, .int (nI o)), (0, .ref hg), (1, .int (nI n))]) hx hb dX4_decidedBits_30 rfl hl (by decide) rfl ?_
          clear hl
          try clear ls
          intro ls hl
          refine lv_iinc (v := nI (o + 1)) (lv' := [(3, .int (nI (o + 1))), (2, .int (b9 ||| (nI 0))), (0, .ref hg), (1, .int (nI n))]) hx hb dX4_decidedBits_31 hl (k := 1) rfl (nI_add o 1) (by decide) rfl ?_
          clear hl
          try clear ls
          intro ls hl
          refine lv_goto (tgt := 4) hx hb dX4_decidedBits_34 (by decide) ?_
          exact ih_loop_1 (o + 1) (b9 ||| (nI 0)) (by omega) (by omega) H locs ls hP hD hS (lv_sub hl [0, 1, 2, 3] rfl)
        · -- 19 f
          refine lv_iconst (v := nI 1) hx hb dX4_decidedBits_22 (by decide) ?_
          refine lv_iload_n hx hb dX4_decidedBits_23 rfl (lv_at hl 0 rfl) ?_
          refine lv_ishl hx hb dX4_decidedBits_24 ?_
          refine lv_goto (tgt := 29) hx hb dX4_decidedBits_25 (by decide) ?_
          refine lv_ior hx hb dX4_decidedBits_29 ?_
          refine lv_istore_n (lv' := [(2, .int (b9 ||| ((nI 1) <<< ((nI o) &&& 31)))), (3, .int (nI o)), (0, .ref hg), (1, .int (nI n))]) hx hb dX4_decidedBits_30 rfl hl (by decide) rfl ?_
          clear hl
          try clear ls
          intro ls hl
          refine lv_iinc (v := nI (o + 1)) (lv' := [(3, .int (nI (o + 1))), (2, .int (b9 ||| ((nI 1) <<< ((nI o) &&& 31)))), (0, .ref hg), (1, .int (nI n))]) hx hb dX4_decidedBits_31 hl (k := 1) rfl (nI_add o 1) (by decide) rfl ?_
          clear hl
          try clear ls
          intro ls hl
          refine lv_goto (tgt := 4) hx hb dX4_decidedBits_34 (by decide) ?_
          exact ih_loop_1 (o + 1) (b9 ||| ((nI 1) <<< ((nI o) &&& 31))) (by omega) (by omega) H locs ls hP hD hS (lv_sub hl [0, 1, 2, 3] rfl)
  exact loop_1 _ 0 (nI 0) (by omega) (Nat.lt_succ_self _) H locs ls hP hD hS (lv_sub hl [0, 1, 2, 3] rfl)

set_option maxHeartbeats 4000000 in
set_option maxRecDepth 100000 in
theorem c_X4_unlinkedPairs (l : Launch) (D : va_G) (cs : Nat → ClassId) (hg nd kd lk vw n : Nat) (lf : Nat → Int32) (hn : n ≤ 8) : xMet l D cs yX4_unlinkedPairs cX4_unlinkedPairs 5 (some .int) ({ frames := 1, cells := 0, slots := 0, locals := 22 } : Room) [.ref hg, .int (nI n)] [(hg, .inr (4, [.ref nd, .ref kd, .ref lk, .ref vw])), (lk, .inl (cs 0, 8, .inl lf))] (xQi D (fun (r : Int32) (_u : Unit) => True) (fun (_u : Unit) => [(hg, .inr (4, [.ref nd, .ref kd, .ref lk, .ref vw])), (lk, .inl (cs 0, 8, .inl lf))])) := by
  refine xMet.intro (by decide) (Nat.le_of_ble_eq_true rfl) ?_
  intro p e s m args below meth c A ls C hP hD hS hl
  have hx := C.1
  have hb := C.2.1
  have hz := C.2.2.2.2.1
  have hown := C.2.2.2.1
  have hA := C.2.2.2.2.2.2.2.2.2
  have hAO := C.2.2.2.2.2.2.2.2.1.2.2
  replace hl : lv_has ls 5 [(0, .ref hg), (1, .int (nI n))] := hl
  obtain ⟨H, hH⟩ : ∃ H, H = s.heap := ⟨_, rfl⟩
  replace hP : va_P D vwCl [(hg, .inr (4, [.ref nd, .ref kd, .ref lk, .ref vw])), (lk, .inl (cs 0, 8, .inl lf))] H := by rw [hH]; exact hP
  replace hS : va_S A s.heap H [] := by rw [hH]; exact hS
  obtain ⟨locs, hlocs⟩ : ∃ z : List Loc, z = [] := ⟨_, rfl⟩
  rw [← hlocs] at hS
  suffices hW : W p l e ({ frames := 1, cells := 0, slots := 0, locals := 22 } : Room) s m args below meth c H locs 0 0 (MQ below ((xQi D (fun (r : Int32) (_u : Unit) => True) (fun (_u : Unit) => [(hg, .inr (4, [.ref nd, .ref kd, .ref lk, .ref vw])), (lk, .inl (cs 0, 8, .inl lf))])) A) args s 0 0 A) (F0 m 0 ls []) by rw [hlocs, hH] at hW; exact hW
  clear hH hlocs
  refine lv_iconst (v := nI 0) hx hb dX4_unlinkedPairs_0 (by decide) ?_
  refine lv_istore_n (lv' := [(2, .int (nI 0)), (0, .ref hg), (1, .int (nI n))]) hx hb dX4_unlinkedPairs_1 rfl hl (by decide) rfl ?_
  clear hl
  try clear ls
  intro ls hl
  refine lv_iconst (v := nI 0) hx hb dX4_unlinkedPairs_2 (by decide) ?_
  refine lv_istore_n (lv' := [(3, .int (nI 0)), (2, .int (nI 0)), (0, .ref hg), (1, .int (nI n))]) hx hb dX4_unlinkedPairs_3 rfl hl (by decide) rfl ?_
  clear hl
  try clear ls
  intro ls hl
  have loop_1 : ∀ (n_loop_1 : Nat) (o : Nat) (b9 : Int32), (o ≤ n) → n - o < n_loop_1 → ∀ (H : Heap) (locs : List Loc) (ls : Array Slot), va_P D vwCl [(hg, .inr (4, [.ref nd, .ref kd, .ref lk, .ref vw])), (lk, .inl (cs 0, 8, .inl lf))] H → va_D A [(hg, .inr (4, [.ref nd, .ref kd, .ref lk, .ref vw])), (lk, .inl (cs 0, 8, .inl lf))] → va_S A s.heap H locs → lv_has ls 5 [(3, .int (nI o)), (2, .int b9), (0, .ref hg), (1, .int (nI n))] → W p l e ({ frames := 1, cells := 0, slots := 0, locals := 22 } : Room) s m args below meth c H locs 0 0 (MQ below ((xQi D (fun (r : Int32) (_u : Unit) => True) (fun (_u : Unit) => [(hg, .inr (4, [.ref nd, .ref kd, .ref lk, .ref vw])), (lk, .inl (cs 0, 8, .inl lf))])) A) args s 0 0 A) (F0 m 4 ls []) := by
    intro n_loop_1
    induction n_loop_1 with
    | zero => intro o b9 h_o hlt H locs ls hP hD hS hl; exact absurd hlt (Nat.not_lt_zero _)
    | succ n_loop_1 ih_loop_1 =>
      intro o b9 h_o hlt_loop_1 H locs ls hP hD hS hl
      refine lv_iload_n hx hb dX4_unlinkedPairs_4 rfl (lv_at hl 0 rfl) ?_
      refine lv_iload_n hx hb dX4_unlinkedPairs_5 rfl (lv_at hl 3 rfl) ?_
      refine lv_icmp_ge (tgt := 50) hx hb dX4_unlinkedPairs_6 (by decide) (fun c_2 => ?_) (fun c_2 => ?_)
      · -- 6 t
        have fc_2 : n ≤ o := nf_le (by omega) (by omega) c_2
        refine lv_iload_n hx hb dX4_unlinkedPairs_50 rfl (lv_at hl 1 rfl) ?_
        exact xreti C () trivial hP hD hS (Nat.le_of_ble_eq_true rfl) (Nat.le_of_ble_eq_true rfl) rfl dX4_unlinkedPairs_51
      · -- 6 f
        have fc_2 : o < n := nf_nle (by omega) (by omega) c_2
        refine lv_iload_n hx hb dX4_unlinkedPairs_9 rfl (lv_at hl 0 rfl) ?_
        refine lv_iconst (v := nI 1) hx hb dX4_unlinkedPairs_10 (by decide) ?_
        refine lv_iadd hx hb dX4_unlinkedPairs_11 ?_
        refine lv_topi (nm_r (e' := nI (o + 1)) (nI_add _ _) ?_)
        refine lv_istore (lv' := [(4, .int (nI (o + 1))), (3, .int (nI o)), (2, .int b9), (0, .ref hg), (1, .int (nI n))]) hx hb dX4_unlinkedPairs_12 hl (by decide) rfl ?_
        clear hl
        try clear ls
        intro ls hl
        have loop_3 : ∀ (n_loop_3 : Nat) (o2 : Nat) (b8 : Int32), (o2 ≤ n) → n - o2 < n_loop_3 → ∀ (H : Heap) (locs : List Loc) (ls : Array Slot), va_P D vwCl [(hg, .inr (4, [.ref nd, .ref kd, .ref lk, .ref vw])), (lk, .inl (cs 0, 8, .inl lf))] H → va_D A [(hg, .inr (4, [.ref nd, .ref kd, .ref lk, .ref vw])), (lk, .inl (cs 0, 8, .inl lf))] → va_S A s.heap H locs → lv_has ls 5 [(4, .int (nI o2)), (3, .int (nI o)), (2, .int b8), (0, .ref hg), (1, .int (nI n))] → W p l e ({ frames := 1, cells := 0, slots := 0, locals := 22 } : Room) s m args below meth c H locs 0 0 (MQ below ((xQi D (fun (r : Int32) (_u : Unit) => True) (fun (_u : Unit) => [(hg, .inr (4, [.ref nd, .ref kd, .ref lk, .ref vw])), (lk, .inl (cs 0, 8, .inl lf))])) A) args s 0 0 A) (F0 m 14 ls []) := by
          intro n_loop_3
          induction n_loop_3 with
          | zero => intro o2 b8 h_o2 hlt H locs ls hP hD hS hl; exact absurd hlt (Nat.not_lt_zero _)
          | succ n_loop_3 ih_loop_3 =>
            intro o2 b8 h_o2 hlt_loop_3 H locs ls hP hD hS hl
            refine lv_iload hx hb dX4_unlinkedPairs_14 (lv_at hl 0 rfl) ?_
            refine lv_iload_n hx hb dX4_unlinkedPairs_16 rfl (lv_at hl 4 rfl) ?_
            refine lv_icmp_ge (tgt := 44) hx hb dX4_unlinkedPairs_17 (by decide) (fun c_4 => ?_) (fun c_4 => ?_)
            · -- 17 t
              have fc_4 : n ≤ o2 := nf_le (by omega) (by omega) c_4
              refine lv_iinc (v := nI (o + 1)) (lv' := [(3, .int (nI (o + 1))), (4, .int (nI o2)), (2, .int b8), (0, .ref hg), (1, .int (nI n))]) hx hb dX4_unlinkedPairs_44 hl (k := 1) rfl (nI_add o 1) (by decide) rfl ?_
              clear hl
              try clear ls
              intro ls hl
              refine lv_goto (tgt := 4) hx hb dX4_unlinkedPairs_47 (by decide) ?_
              exact ih_loop_1 (o + 1) b8 (by omega) (by omega) H locs ls hP hD hS (lv_sub hl [0, 2, 3, 4] rfl)
            · -- 17 f
              have fc_4 : o2 < n := nf_nle (by omega) (by omega) c_4
              refine lv_iload_n hx hb dX4_unlinkedPairs_20 rfl (lv_at hl 2 rfl) ?_
              refine lv_aload_n hx hb dX4_unlinkedPairs_21 rfl (lv_at hl 3 rfl) ?_
              refine lv_iload_n hx hb dX4_unlinkedPairs_22 rfl (lv_at hl 1 rfl) ?_
              refine lv_iload hx hb dX4_unlinkedPairs_23 (lv_at hl 0 rfl) ?_
              refine xi (wr := []) (xV (As := [.int (nI o), .int (nI o2)]) (rest := [.int b8]) C (c_X4_isLinked l D cs hg nd kd lk vw lf o o2 (by omega)) kX4_49 hP hD [0, 1] rfl (by decide +kernel) 0 rfl rfl rfl ⟨Nat.le_of_ble_eq_true rfl, Nat.le_of_ble_eq_true rfl⟩ rfl hl.1 rfl (Nat.le_of_ble_eq_true rfl) dX4_unlinkedPairs_25 ⟨Nat.le_of_ble_eq_true rfl, Nat.le_of_ble_eq_true rfl⟩) hP hD hS hA [0, 1] [] rfl rfl (by decide +kernel) (by decide +kernel) ?_
              clear hP hD hS
              try clear locs
              try clear H
              intro r_5 u_6 H locs hw_r_5 hP hD hS
              have hw_r_5 : r_5 = if lf o >>> (nI o2 &&& 31) &&& nI 1 = nI 1 then nI 1 else nI 0 := hw_r_5
              refine W.widen (k := 0) (n := 0) (Nat.le_of_ble_eq_true rfl) (Nat.le_of_ble_eq_true rfl) ?_
              replace hP : va_P D vwCl [(hg, .inr (4, [.ref nd, .ref kd, .ref lk, .ref vw])), (lk, .inl (cs 0, 8, .inl lf))] H := hP
              replace hD : va_D A [(hg, .inr (4, [.ref nd, .ref kd, .ref lk, .ref vw])), (lk, .inl (cs 0, 8, .inl lf))] := hD
              refine lv_if_eq (tgt := 35) hx hb dX4_unlinkedPairs_28 (by decide) (fun c_7 => ?_) (fun c_7 => ?_)
              · -- 28 t
                refine lv_iconst (v := nI 1) hx hb dX4_unlinkedPairs_35 (by decide) ?_
                refine lv_iadd hx hb dX4_unlinkedPairs_36 ?_
                refine lv_istore_n (lv' := [(2, .int (b8 + (nI 1))), (4, .int (nI o2)), (3, .int (nI o)), (0, .ref hg), (1, .int (nI n))]) hx hb dX4_unlinkedPairs_37 rfl hl (by decide) rfl ?_
                clear hl
                try clear ls
                intro ls hl
                refine lv_iinc (v := nI (o2 + 1)) (lv' := [(4, .int (nI (o2 + 1))), (2, .int (b8 + (nI 1))), (3, .int (nI o)), (0, .ref hg), (1, .int (nI n))]) hx hb dX4_unlinkedPairs_38 hl (k := 1) rfl (nI_add o2 1) (by decide) rfl ?_
                clear hl
                try clear ls
                intro ls hl
                refine lv_goto (tgt := 14) hx hb dX4_unlinkedPairs_41 (by decide) ?_
                exact ih_loop_3 (o2 + 1) (b8 + (nI 1)) (by omega) (by omega) H locs ls hP hD hS (lv_sub hl [0, 2, 1, 3, 4] rfl)
              · -- 28 f
                refine lv_iconst (v := nI 0) hx hb dX4_unlinkedPairs_31 (by decide) ?_
                refine lv_goto (tgt := 36) hx hb dX4_unlinkedPairs_32 (by decide) ?_
                refine lv_iadd hx hb dX4_unlinkedPairs_36 ?_
                refine lv_istore_n (lv' := [(2, .int (b8 + (nI 0))), (4, .int (nI o2)), (3, .int (nI o)), (0, .ref hg), (1, .int (nI n))]) hx hb dX4_unlinkedPairs_37 rfl hl (by decide) rfl ?_
                clear hl
                try clear ls
                intro ls hl
                refine lv_iinc (v := nI (o2 + 1)) (lv' := [(4, .int (nI (o2 + 1))), (2, .int (b8 + (nI 0))), (3, .int (nI o)), (0, .ref hg), (1, .int (nI n))]) hx hb dX4_unlinkedPairs_38 hl (k := 1) rfl (nI_add o2 1) (by decide) rfl ?_
                clear hl
                try clear ls
                intro ls hl
                refine lv_goto (tgt := 14) hx hb dX4_unlinkedPairs_41 (by decide) ?_
                exact ih_loop_3 (o2 + 1) (b8 + (nI 0)) (by omega) (by omega) H locs ls hP hD hS (lv_sub hl [0, 2, 1, 3, 4] rfl)
        exact loop_3 _ (o + 1) b9 (by omega) (Nat.lt_succ_self _) H locs ls hP hD hS (lv_sub hl [0, 1, 2, 3, 4] rfl)
  exact loop_1 _ 0 (nI 0) (by omega) (Nat.lt_succ_self _) H locs ls hP hD hS (lv_sub hl [0, 1, 2, 3] rfl)

set_option maxHeartbeats 4000000 in
set_option maxRecDepth 100000 in
theorem c_X11_allQueries (l : Launch) (D : va_G) (cs : Nat → ClassId) (h0 hr hg hgr ha hpo hly hse hc pa spr qm ke nk : Nat) (pm dr ver : Int32) (sm ca n k al be se : Nat) (ea pr : Int32) (qf : Nat → Int32) (hn : n ≤ 8) : xMet l D cs yX11_allQueries cX11_allQueries 3 (some .int) ({ frames := 0, cells := 0, slots := 0, locals := 0 } : Room) [.ref h0] [(h0, .inr (11, [.ref hr, .ref hg, .ref hgr, .ref ha, .ref hpo, .ref hly, .ref hse, .ref hc, .ref pa, .ref spr, .ref qm, .int pm, .int (nI ke), .int (nI nk), .int dr, .int ver])), (hr, .inr (7, [.int (nI n), .int (nI k), .int (nI al), .int (nI be), .int ea, .int pr, .ref sm, .int (nI se), .ref ca])), (qm, .inl (cs 0, 8, .inl qf))] (xQi D (fun (r : Int32) (_u : Unit) => True) (fun (_u : Unit) => [(h0, .inr (11, [.ref hr, .ref hg, .ref hgr, .ref ha, .ref hpo, .ref hly, .ref hse, .ref hc, .ref pa, .ref spr, .ref qm, .int pm, .int (nI ke), .int (nI nk), .int dr, .int ver])), (hr, .inr (7, [.int (nI n), .int (nI k), .int (nI al), .int (nI be), .int ea, .int pr, .ref sm, .int (nI se), .ref ca])), (qm, .inl (cs 0, 8, .inl qf))])) := by
  refine xMet.intro (by decide) (Nat.le_of_ble_eq_true rfl) ?_
  intro p e s m args below meth c A ls C hP hD hS hl
  have hx := C.1
  have hb := C.2.1
  have hz := C.2.2.2.2.1
  have hown := C.2.2.2.1
  have hA := C.2.2.2.2.2.2.2.2.2
  have hAO := C.2.2.2.2.2.2.2.2.1.2.2
  replace hl : lv_has ls 3 [(0, .ref h0)] := hl
  obtain ⟨H, hH⟩ : ∃ H, H = s.heap := ⟨_, rfl⟩
  replace hP : va_P D vwCl [(h0, .inr (11, [.ref hr, .ref hg, .ref hgr, .ref ha, .ref hpo, .ref hly, .ref hse, .ref hc, .ref pa, .ref spr, .ref qm, .int pm, .int (nI ke), .int (nI nk), .int dr, .int ver])), (hr, .inr (7, [.int (nI n), .int (nI k), .int (nI al), .int (nI be), .int ea, .int pr, .ref sm, .int (nI se), .ref ca])), (qm, .inl (cs 0, 8, .inl qf))] H := by rw [hH]; exact hP
  replace hS : va_S A s.heap H [] := by rw [hH]; exact hS
  obtain ⟨locs, hlocs⟩ : ∃ z : List Loc, z = [] := ⟨_, rfl⟩
  rw [← hlocs] at hS
  suffices hW : W p l e ({ frames := 0, cells := 0, slots := 0, locals := 0 } : Room) s m args below meth c H locs 0 0 (MQ below ((xQi D (fun (r : Int32) (_u : Unit) => True) (fun (_u : Unit) => [(h0, .inr (11, [.ref hr, .ref hg, .ref hgr, .ref ha, .ref hpo, .ref hly, .ref hse, .ref hc, .ref pa, .ref spr, .ref qm, .int pm, .int (nI ke), .int (nI nk), .int dr, .int ver])), (hr, .inr (7, [.int (nI n), .int (nI k), .int (nI al), .int (nI be), .int ea, .int pr, .ref sm, .int (nI se), .ref ca])), (qm, .inl (cs 0, 8, .inl qf))])) A) args s 0 0 A) (F0 m 0 ls []) by rw [hlocs, hH] at hW; exact hW
  clear hH hlocs
  refine lv_iconst (v := nI 0) hx hb dX11_allQueries_0 (by decide) ?_
  refine lv_istore_n (lv' := [(1, .int (nI 0)), (0, .ref h0)]) hx hb dX11_allQueries_1 rfl hl (by decide) rfl ?_
  clear hl
  try clear ls
  intro ls hl
  refine lv_iconst (v := nI 0) hx hb dX11_allQueries_2 (by decide) ?_
  refine lv_istore_n (lv' := [(2, .int (nI 0)), (1, .int (nI 0)), (0, .ref h0)]) hx hb dX11_allQueries_3 rfl hl (by decide) rfl ?_
  clear hl
  try clear ls
  intro ls hl
  have loop_1 : ∀ (n_loop_1 : Nat) (o : Nat) (b9 : Int32), (o ≤ n) → n - o < n_loop_1 → ∀ (H : Heap) (locs : List Loc) (ls : Array Slot), va_P D vwCl [(h0, .inr (11, [.ref hr, .ref hg, .ref hgr, .ref ha, .ref hpo, .ref hly, .ref hse, .ref hc, .ref pa, .ref spr, .ref qm, .int pm, .int (nI ke), .int (nI nk), .int dr, .int ver])), (hr, .inr (7, [.int (nI n), .int (nI k), .int (nI al), .int (nI be), .int ea, .int pr, .ref sm, .int (nI se), .ref ca])), (qm, .inl (cs 0, 8, .inl qf))] H → va_D A [(h0, .inr (11, [.ref hr, .ref hg, .ref hgr, .ref ha, .ref hpo, .ref hly, .ref hse, .ref hc, .ref pa, .ref spr, .ref qm, .int pm, .int (nI ke), .int (nI nk), .int dr, .int ver])), (hr, .inr (7, [.int (nI n), .int (nI k), .int (nI al), .int (nI be), .int ea, .int pr, .ref sm, .int (nI se), .ref ca])), (qm, .inl (cs 0, 8, .inl qf))] → va_S A s.heap H locs → lv_has ls 3 [(2, .int (nI o)), (1, .int b9), (0, .ref h0)] → W p l e ({ frames := 0, cells := 0, slots := 0, locals := 0 } : Room) s m args below meth c H locs 0 0 (MQ below ((xQi D (fun (r : Int32) (_u : Unit) => True) (fun (_u : Unit) => [(h0, .inr (11, [.ref hr, .ref hg, .ref hgr, .ref ha, .ref hpo, .ref hly, .ref hse, .ref hc, .ref pa, .ref spr, .ref qm, .int pm, .int (nI ke), .int (nI nk), .int dr, .int ver])), (hr, .inr (7, [.int (nI n), .int (nI k), .int (nI al), .int (nI be), .int ea, .int pr, .ref sm, .int (nI se), .ref ca])), (qm, .inl (cs 0, 8, .inl qf))])) A) args s 0 0 A) (F0 m 4 ls []) := by
    intro n_loop_1
    induction n_loop_1 with
    | zero => intro o b9 h_o hlt H locs ls hP hD hS hl; exact absurd hlt (Nat.not_lt_zero _)
    | succ n_loop_1 ih_loop_1 =>
      intro o b9 h_o hlt_loop_1 H locs ls hP hD hS hl
      refine lv_iload_n hx hb dX11_allQueries_4 rfl (lv_at hl 0 rfl) ?_
      refine lv_aload_n hx hb dX11_allQueries_5 rfl (lv_at hl 2 rfl) ?_
      refine xget C hP 0 rfl rfl zuX11 0 (by decide) zw2_155 rfl dX11_allQueries_6 ?_
      refine xget C hP 1 rfl rfl zuX7 0 (by decide) zw1_82 rfl dX11_allQueries_9 ?_
      refine lv_icmp_ge (tgt := 30) hx hb dX11_allQueries_12 (by decide) (fun c_2 => ?_) (fun c_2 => ?_)
      · -- 12 t
        have fc_2 : n ≤ o := nf_le (by omega) (by omega) c_2
        refine lv_iload_n hx hb dX11_allQueries_30 rfl (lv_at hl 1 rfl) ?_
        exact xreti C () trivial hP hD hS (Nat.le_of_ble_eq_true rfl) (Nat.le_of_ble_eq_true rfl) rfl dX11_allQueries_31
      · -- 12 f
        have fc_2 : o < n := nf_nle (by omega) (by omega) c_2
        refine lv_iload_n hx hb dX11_allQueries_15 rfl (lv_at hl 1 rfl) ?_
        refine lv_aload_n hx hb dX11_allQueries_16 rfl (lv_at hl 2 rfl) ?_
        refine xget C hP 0 rfl rfl zuX11 10 (by decide) zw2_165 rfl dX11_allQueries_17 ?_
        refine lv_iload_n hx hb dX11_allQueries_20 rfl (lv_at hl 0 rfl) ?_
        refine xiald C hP 2 rfl o rfl (by omega) (by decide) dX11_allQueries_21 ?_
        refine lv_iadd hx hb dX11_allQueries_22 ?_
        refine lv_istore_n (lv' := [(1, .int (b9 + (qf o))), (2, .int (nI o)), (0, .ref h0)]) hx hb dX11_allQueries_23 rfl hl (by decide) rfl ?_
        clear hl
        try clear ls
        intro ls hl
        refine lv_iinc (v := nI (o + 1)) (lv' := [(2, .int (nI (o + 1))), (1, .int (b9 + (qf o))), (0, .ref h0)]) hx hb dX11_allQueries_24 hl (k := 1) rfl (nI_add o 1) (by decide) rfl ?_
        clear hl
        try clear ls
        intro ls hl
        refine lv_goto (tgt := 4) hx hb dX11_allQueries_27 (by decide) ?_
        exact ih_loop_1 (o + 1) (b9 + (qf o)) (by omega) (by omega) H locs ls hP hD hS (lv_sub hl [0, 1, 2] rfl)
  exact loop_1 _ 0 (nI 0) (by omega) (Nat.lt_succ_self _) H locs ls hP hD hS (lv_sub hl [0, 1, 2] rfl)

set_option maxHeartbeats 4000000 in
set_option maxRecDepth 100000 in
theorem c_X11_isTold (l : Launch) (D : va_G) (cs : Nat → ClassId) (x : Int32) : xMet l D cs yX11_isTold cX11_isTold 1 (some .boolean) ({ frames := 0, cells := 0, slots := 0, locals := 0 } : Room) [.int x] [] (xQi D (fun (r : Int32) (_u : Unit) => PQ (¬ x < nI 1 ∧ ¬ nI 12 < x) r (nI 1) (nI 0)) (fun (_u : Unit) => [])) := by
  refine xMet.intro (by decide) (Nat.le_of_ble_eq_true rfl) ?_
  intro p e s m args below meth c A ls C hP hD hS hl
  have hx := C.1
  have hb := C.2.1
  have hz := C.2.2.2.2.1
  have hown := C.2.2.2.1
  have hA := C.2.2.2.2.2.2.2.2.2
  have hAO := C.2.2.2.2.2.2.2.2.1.2.2
  replace hl : lv_has ls 1 [(0, .int x)] := hl
  obtain ⟨H, hH⟩ : ∃ H, H = s.heap := ⟨_, rfl⟩
  replace hP : va_P D vwCl [] H := by rw [hH]; exact hP
  replace hS : va_S A s.heap H [] := by rw [hH]; exact hS
  obtain ⟨locs, hlocs⟩ : ∃ z : List Loc, z = [] := ⟨_, rfl⟩
  rw [← hlocs] at hS
  suffices hW : W p l e ({ frames := 0, cells := 0, slots := 0, locals := 0 } : Room) s m args below meth c H locs 0 0 (MQ below ((xQi D (fun (r : Int32) (_u : Unit) => PQ (¬ x < nI 1 ∧ ¬ nI 12 < x) r (nI 1) (nI 0)) (fun (_u : Unit) => [])) A) args s 0 0 A) (F0 m 0 ls []) by rw [hlocs, hH] at hW; exact hW
  clear hH hlocs
  refine lv_iload_n hx hb dX11_isTold_0 rfl (lv_at hl 0 rfl) ?_
  refine lv_iconst (v := nI 1) hx hb dX11_isTold_1 (by decide) ?_
  refine lv_icmp_lt (tgt := 15) hx hb dX11_isTold_2 (by decide) (fun c_1 => ?_) (fun c_1 => ?_)
  · -- 2 t
    refine lv_iconst (v := nI 0) hx hb dX11_isTold_15 (by decide) ?_
    exact xreti C () (Or.inr ⟨fun q => q.1 c_1, rfl⟩) hP hD hS (Nat.le_of_ble_eq_true rfl) (Nat.le_of_ble_eq_true rfl) (by decide) dX11_isTold_16
  · -- 2 f
    refine lv_iload_n hx hb dX11_isTold_5 rfl (lv_at hl 0 rfl) ?_
    refine lv_bipush (v := nI 12) hx hb dX11_isTold_6 (by decide) ?_
    refine lv_icmp_gt (tgt := 15) hx hb dX11_isTold_8 (by decide) (fun c_2 => ?_) (fun c_2 => ?_)
    · -- 8 t
      refine lv_iconst (v := nI 0) hx hb dX11_isTold_15 (by decide) ?_
      exact xreti C () (Or.inr ⟨fun q => q.2 c_2, rfl⟩) hP hD hS (Nat.le_of_ble_eq_true rfl) (Nat.le_of_ble_eq_true rfl) (by decide) dX11_isTold_16
    · -- 8 f
      refine lv_iconst (v := nI 1) hx hb dX11_isTold_11 (by decide) ?_
      refine lv_goto (tgt := 16) hx hb dX11_isTold_12 (by decide) ?_
      exact xreti C () (Or.inl ⟨⟨c_1, c_2⟩, rfl⟩) hP hD hS (Nat.le_of_ble_eq_true rfl) (Nat.le_of_ble_eq_true rfl) (by decide) dX11_isTold_16
