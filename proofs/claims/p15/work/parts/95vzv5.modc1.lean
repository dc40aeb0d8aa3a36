set_option maxHeartbeats 4000000 in
set_option maxRecDepth 100000 in
theorem c_X12_ones_f (l : Launch) (D : va_G) (cs : Nat → ClassId) (hm ms mkp mtr mas mso mon mot man mst msm mtb mti mfr mbn mbs mde maa mab mba mbb : Nat) (n k al be km en : Nat) (ea pr nq po th xd sF sN sS ig : Int32) (xa xb : Int64) (f : Nat → Int32) (b0 : Nat) (x : Int32) (hn : 2 ≤ n ∧ n ≤ 8) (hb0 : b0 ≤ 100) : xMet l D cs yX12_ones cX12_ones 5 (some .int) ({ frames := 0, cells := 0, slots := 0, locals := 0 } : Room) [.ref hm, .int (nI b0), .int x] [(hm, .inr (12, [.ref ms, .ref mkp, .int (nI km), .ref mtr, .int (nI n), .int (nI k), .int (nI al), .int (nI be), .int ea, .int pr, .ref mas, .int nq, .int po, .int (nI en), .ref mso, .ref mon, .ref mot, .ref man, .int th, .int xd, .ref mst, .ref msm, .ref mtb, .ref mti, .ref mfr, .ref mbn, .ref mbs, .ref mde, .int sF, .int sN, .int sS, .int ig, .long xa, .long xb, .ref maa, .ref mab, .ref mba, .ref mbb])), (ms, .inl (cs 0, 288, .inl f))] (xQi D (fun (r : Int32) (_u : Unit) => ∀ k, k < 32 → (hasB r k ↔ k < n ∧ f (b0 + k) = x)) (fun (_u : Unit) => [(hm, .inr (12, [.ref ms, .ref mkp, .int (nI km), .ref mtr, .int (nI n), .int (nI k), .int (nI al), .int (nI be), .int ea, .int pr, .ref mas, .int nq, .int po, .int (nI en), .ref mso, .ref mon, .ref mot, .ref man, .int th, .int xd, .ref mst, .ref msm, .ref mtb, .ref mti, .ref mfr, .ref mbn, .ref mbs, .ref mde, .int sF, .int sN, .int sS, .int ig, .long xa, .long xb, .ref maa, .ref mab, .ref mba, .ref mbb])), (ms, .inl (cs 0, 288, .inl f))])) := by
  refine xMet.intro (by decide) (Nat.le_of_ble_eq_true rfl) ?_
  intro p e s m args below meth c A ls C hP hD hS hl
  have hx := C.1
  have hb := C.2.1
  have hz := C.2.2.2.2.1
  have hown := C.2.2.2.1
  have hA := C.2.2.2.2.2.2.2.2.2
  have hAO := C.2.2.2.2.2.2.2.2.1.2.2
  replace hl : lv_has ls 5 [(0, .ref hm), (1, .int (nI b0)), (2, .int x)] := hl
  obtain ⟨H, hH⟩ : ∃ H, H = s.heap := ⟨_, rfl⟩
  replace hP : va_P D vwCl [(hm, .inr (12, [.ref ms, .ref mkp, .int (nI km), .ref mtr, .int (nI n), .int (nI k), .int (nI al), .int (nI be), .int ea, .int pr, .ref mas, .int nq, .int po, .int (nI en), .ref mso, .ref mon, .ref mot, .ref man, .int th, .int xd, .ref mst, .ref msm, .ref mtb, .ref mti, .ref mfr, .ref mbn, .ref mbs, .ref mde, .int sF, .int sN, .int sS, .int ig, .long xa, .long xb, .ref maa, .ref mab, .ref mba, .ref mbb])), (ms, .inl (cs 0, 288, .inl f))] H := by rw [hH]; exact hP
  replace hS : va_S A s.heap H [] := by rw [hH]; exact hS
  obtain ⟨locs, hlocs⟩ : ∃ z : List Loc, z = [] := ⟨_, rfl⟩
  rw [← hlocs] at hS
  suffices hW : W p l e ({ frames := 0, cells := 0, slots := 0, locals := 0 } : Room) s m args below meth c H locs 0 0 (MQ below ((xQi D (fun (r : Int32) (_u : Unit) => ∀ k, k < 32 → (hasB r k ↔ k < n ∧ f (b0 + k) = x)) (fun (_u : Unit) => [(hm, .inr (12, [.ref ms, .ref mkp, .int (nI km), .ref mtr, .int (nI n), .int (nI k), .int (nI al), .int (nI be), .int ea, .int pr, .ref mas, .int nq, .int po, .int (nI en), .ref mso, .ref mon, .ref mot, .ref man, .int th, .int xd, .ref mst, .ref msm, .ref mtb, .ref mti, .ref mfr, .ref mbn, .ref mbs, .ref mde, .int sF, .int sN, .int sS, .int ig, .long xa, .long xb, .ref maa, .ref mab, .ref mba, .ref mbb])), (ms, .inl (cs 0, 288, .inl f))])) A) args s 0 0 A) (F0 m 0 ls []) by rw [hlocs, hH] at hW; exact hW
  clear hH hlocs
  refine lv_iconst (v := nI 0) hx hb dX12_ones_0 (by decide) ?_
  refine lv_istore_n (lv' := [(3, .int (nI 0)), (0, .ref hm), (1, .int (nI b0)), (2, .int x)]) hx hb dX12_ones_1 rfl hl (by decide) rfl ?_
  clear hl
  try clear ls
  intro ls hl
  refine lv_iconst (v := nI 0) hx hb dX12_ones_2 (by decide) ?_
  refine lv_istore (lv' := [(4, .int (nI 0)), (3, .int (nI 0)), (0, .ref hm), (1, .int (nI b0)), (2, .int x)]) hx hb dX12_ones_3 hl (by decide) rfl ?_
  clear hl
  try clear ls
  intro ls hl
  have loop_1 : ∀ (n_loop_1 : Nat) (o : Nat) (c9 : Int32), (o ≤ n) → (∀ k, k < 32 → (hasB c9 k ↔ k < o ∧ f (b0 + k) = x)) → n - o < n_loop_1 → ∀ (H : Heap) (locs : List Loc) (ls : Array Slot), va_P D vwCl [(hm, .inr (12, [.ref ms, .ref mkp, .int (nI km), .ref mtr, .int (nI n), .int (nI k), .int (nI al), .int (nI be), .int ea, .int pr, .ref mas, .int nq, .int po, .int (nI en), .ref mso, .ref mon, .ref mot, .ref man, .int th, .int xd, .ref mst, .ref msm, .ref mtb, .ref mti, .ref mfr, .ref mbn, .ref mbs, .ref mde, .int sF, .int sN, .int sS, .int ig, .long xa, .long xb, .ref maa, .ref mab, .ref mba, .ref mbb])), (ms, .inl (cs 0, 288, .inl f))] H → va_D A [(hm, .inr (12, [.ref ms, .ref mkp, .int (nI km), .ref mtr, .int (nI n), .int (nI k), .int (nI al), .int (nI be), .int ea, .int pr, .ref mas, .int nq, .int po, .int (nI en), .ref mso, .ref mon, .ref mot, .ref man, .int th, .int xd, .ref mst, .ref msm, .ref mtb, .ref mti, .ref mfr, .ref mbn, .ref mbs, .ref mde, .int sF, .int sN, .int sS, .int ig, .long xa, .long xb, .ref maa, .ref mab, .ref mba, .ref mbb])), (ms, .inl (cs 0, 288, .inl f))] → va_S A s.heap H locs → lv_has ls 5 [(4, .int (nI o)), (3, .int c9), (0, .ref hm), (1, .int (nI b0)), (2, .int x)] → W p l e ({ frames := 0, cells := 0, slots := 0, locals := 0 } : Room) s m args below meth c H locs 0 0 (MQ below ((xQi D (fun (r : Int32) (_u : Unit) => ∀ k, k < 32 → (hasB r k ↔ k < n ∧ f (b0 + k) = x)) (fun (_u : Unit) => [(hm, .inr (12, [.ref ms, .ref mkp, .int (nI km), .ref mtr, .int (nI n), .int (nI k), .int (nI al), .int (nI be), .int ea, .int pr, .ref mas, .int nq, .int po, .int (nI en), .ref mso, .ref mon, .ref mot, .ref man, .int th, .int xd, .ref mst, .ref msm, .ref mtb, .ref mti, .ref mfr, .ref mbn, .ref mbs, .ref mde, .int sF, .int sN, .int sS, .int ig, .long xa, .long xb, .ref maa, .ref mab, .ref mba, .ref mbb])), (ms, .inl (cs 0, 288, .inl f))])) A) args s 0 0 A) (F0 m 5 ls []) := by
    intro n_loop_1
    induction n_loop_1 with
    | zero => intro o c9 h_o hb9 hlt H locs ls hP hD hS hl; exact absurd hlt (Nat.not_lt_zero _)
    | succ n_loop_1 ih_loop_1 =>
      intro o c9 h_o hb9 hlt_loop_1 H locs ls hP hD hS hl
      refine lv_iload hx hb dX12_ones_5 (lv_at hl 0 rfl) ?_
      refine lv_aload_n hx hb dX12_ones_7 rfl (lv_at hl 2 rfl) ?_
      refine xget C hP 0 rfl rfl zuX12 4 (by decide) zw5_217 rfl dX12_ones_8 ?_
      refine lv_icmp_ge (tgt := 40) hx hb dX12_ones_11 (by decide) (fun c_2 => ?_) (fun c_2 => ?_)
      · -- 11 t
        have fc_2 : n ≤ o := nf_le (by omega) (by omega) c_2
        refine lv_iload_n hx hb dX12_ones_40 rfl (lv_at hl 1 rfl) ?_
        exact xreti C () (bits_end hb9 (by omega)) hP hD hS (Nat.le_of_ble_eq_true rfl) (Nat.le_of_ble_eq_true rfl) rfl dX12_ones_41
      · -- 11 f
        have fc_2 : o < n := nf_nle (by omega) (by omega) c_2
        refine lv_aload_n hx hb dX12_ones_14 rfl (lv_at hl 2 rfl) ?_
        refine xget C hP 0 rfl rfl zuX12 0 (by decide) zw5_213 rfl dX12_ones_15 ?_
        refine lv_iload_n hx hb dX12_ones_18 rfl (lv_at hl 3 rfl) ?_
        refine lv_iload hx hb dX12_ones_19 (lv_at hl 0 rfl) ?_
        refine lv_iadd hx hb dX12_ones_21 ?_
        refine lv_topi (nm_r (e' := nI (b0 + o)) (nI_add _ _) ?_)
        refine xiald C hP 1 rfl (b0 + o) rfl (by omega) (by decide) dX12_ones_22 ?_
        refine lv_iload_n hx hb dX12_ones_23 rfl (lv_at hl 4 rfl) ?_
        refine lv_icmp_ne (tgt := 34) hx hb dX12_ones_24 (by decide) (fun c_3 => ?_) (fun c_3 => ?_)
        · -- 24 t
          refine lv_iinc (v := nI (o + 1)) (lv' := [(4, .int (nI (o + 1))), (3, .int c9), (0, .ref hm), (1, .int (nI b0)), (2, .int x)]) hx hb dX12_ones_34 hl (k := 0) rfl (nI_add o 1) (by decide) rfl ?_
          clear hl
          try clear ls
          intro ls hl
          refine lv_goto (tgt := 5) hx hb dX12_ones_37 (by decide) ?_
          exact ih_loop_1 (o + 1) c9 (by omega) (bits_no hb9 c_3) (by omega) H locs ls hP hD hS (lv_sub hl [0, 1, 2, 3, 4] rfl)
        · -- 24 f
          refine lv_iload_n hx hb dX12_ones_27 rfl (lv_at hl 1 rfl) ?_
          refine lv_iconst (v := nI 1) hx hb dX12_ones_28 (by decide) ?_
          refine lv_iload hx hb dX12_ones_29 (lv_at hl 0 rfl) ?_
          refine lv_ishl hx hb dX12_ones_31 ?_
          refine lv_ior hx hb dX12_ones_32 ?_
          refine lv_istore_n (lv' := [(3, .int (c9 ||| ((nI 1) <<< ((nI o) &&& 31)))), (4, .int (nI o)), (0, .ref hm), (1, .int (nI b0)), (2, .int x)]) hx hb dX12_ones_33 rfl hl (by decide) rfl ?_
          clear hl
          try clear ls
          intro ls hl
          refine lv_iinc (v := nI (o + 1)) (lv' := [(4, .int (nI (o + 1))), (3, .int (c9 ||| ((nI 1) <<< ((nI o) &&& 31)))), (0, .ref hm), (1, .int (nI b0)), (2, .int x)]) hx hb dX12_ones_34 hl (k := 1) rfl (nI_add o 1) (by decide) rfl ?_
          clear hl
          try clear ls
          intro ls hl
          refine lv_goto (tgt := 5) hx hb dX12_ones_37 (by decide) ?_
          exact ih_loop_1 (o + 1) (c9 ||| ((nI 1) <<< ((nI o) &&& 31))) (by omega) (bits_yes hb9 (by omega) c_3) (by omega) H locs ls hP hD hS (lv_sub hl [0, 1, 2, 3, 4] rfl)
  exact loop_1 _ 0 (nI 0) (by omega) (bits_0 _) (Nat.lt_succ_self _) H locs ls hP hD hS (lv_sub hl [0, 1, 2, 3, 4] rfl)

set_option maxHeartbeats 4000000 in
set_option maxRecDepth 100000 in
theorem c_X12_coloured_f (l : Launch) (D : va_G) (cs : Nat → ClassId) (hm ms mkp mtr mas mso mon mot man mst msm mtb mti mfr mbn mbs mde maa mab mba mbb : Nat) (n k al be km en : Nat) (ea pr nq po th xd sF sN sS ig : Int32) (xa xb : Int64) (f : Nat → Int32) (hn : 2 ≤ n ∧ n ≤ 8) : xMet l D cs yX12_coloured cX12_coloured 3 (some .int) ({ frames := 0, cells := 0, slots := 0, locals := 0 } : Room) [.ref hm] [(hm, .inr (12, [.ref ms, .ref mkp, .int (nI km), .ref mtr, .int (nI n), .int (nI k), .int (nI al), .int (nI be), .int ea, .int pr, .ref mas, .int nq, .int po, .int (nI en), .ref mso, .ref mon, .ref mot, .ref man, .int th, .int xd, .ref mst, .ref msm, .ref mtb, .ref mti, .ref mfr, .ref mbn, .ref mbs, .ref mde, .int sF, .int sN, .int sS, .int ig, .long xa, .long xb, .ref maa, .ref mab, .ref mba, .ref mbb])), (ms, .inl (cs 0, 288, .inl f))] (xQi D (fun (r : Int32) (_u : Unit) => ∀ k, k < 32 → (hasB r k ↔ k < n ∧ f (48 + k) = 0 ∧ f (0 + k) = nI 1)) (fun (_u : Unit) => [(hm, .inr (12, [.ref ms, .ref mkp, .int (nI km), .ref mtr, .int (nI n), .int (nI k), .int (nI al), .int (nI be), .int ea, .int pr, .ref mas, .int nq, .int po, .int (nI en), .ref mso, .ref mon, .ref mot, .ref man, .int th, .int xd, .ref mst, .ref msm, .ref mtb, .ref mti, .ref mfr, .ref mbn, .ref mbs, .ref mde, .int sF, .int sN, .int sS, .int ig, .long xa, .long xb, .ref maa, .ref mab, .ref mba, .ref mbb])), (ms, .inl (cs 0, 288, .inl f))])) := by
  refine xMet.intro (by decide) (Nat.le_of_ble_eq_true rfl) ?_
  intro p e s m args below meth c A ls C hP hD hS hl
  have hx := C.1
  have hb := C.2.1
  have hz := C.2.2.2.2.1
  have hown := C.2.2.2.1
  have hA := C.2.2.2.2.2.2.2.2.2
  have hAO := C.2.2.2.2.2.2.2.2.1.2.2
  replace hl : lv_has ls 3 [(0, .ref hm)] := hl
  obtain ⟨H, hH⟩ : ∃ H, H = s.heap := ⟨_, rfl⟩
  replace hP : va_P D vwCl [(hm, .inr (12, [.ref ms, .ref mkp, .int (nI km), .ref mtr, .int (nI n), .int (nI k), .int (nI al), .int (nI be), .int ea, .int pr, .ref mas, .int nq, .int po, .int (nI en), .ref mso, .ref mon, .ref mot, .ref man, .int th, .int xd, .ref mst, .ref msm, .ref mtb, .ref mti, .ref mfr, .ref mbn, .ref mbs, .ref mde, .int sF, .int sN, .int sS, .int ig, .long xa, .long xb, .ref maa, .ref mab, .ref mba, .ref mbb])), (ms, .inl (cs 0, 288, .inl f))] H := by rw [hH]; exact hP
  replace hS : va_S A s.heap H [] := by rw [hH]; exact hS
  obtain ⟨locs, hlocs⟩ : ∃ z : List Loc, z = [] := ⟨_, rfl⟩
  rw [← hlocs] at hS
  suffices hW : W p l e ({ frames := 0, cells := 0, slots := 0, locals := 0 } : Room) s m args below meth c H locs 0 0 (MQ below ((xQi D (fun (r : Int32) (_u : Unit) => ∀ k, k < 32 → (hasB r k ↔ k < n ∧ f (48 + k) = 0 ∧ f (0 + k) = nI 1)) (fun (_u : Unit) => [(hm, .inr (12, [.ref ms, .ref mkp, .int (nI km), .ref mtr, .int (nI n), .int (nI k), .int (nI al), .int (nI be), .int ea, .int pr, .ref mas, .int nq, .int po, .int (nI en), .ref mso, .ref mon, .ref mot, .ref man, .int th, .int xd, .ref mst, .ref msm, .ref mtb, .ref mti, .ref mfr, .ref mbn, .ref mbs, .ref mde, .int sF, .int sN, .int sS, .int ig, .long xa, .long xb, .ref maa, .ref mab, .ref mba, .ref mbb])), (ms, .inl (cs 0, 288, .inl f))])) A) args s 0 0 A) (F0 m 0 ls []) by rw [hlocs, hH] at hW; exact hW
  clear hH hlocs
  refine lv_iconst (v := nI 0) hx hb dX12_coloured_0 (by decide) ?_
  refine lv_istore_n (lv' := [(1, .int (nI 0)), (0, .ref hm)]) hx hb dX12_coloured_1 rfl hl (by decide) rfl ?_
  clear hl
  try clear ls
  intro ls hl
  refine lv_iconst (v := nI 0) hx hb dX12_coloured_2 (by decide) ?_
  refine lv_istore_n (lv' := [(2, .int (nI 0)), (1, .int (nI 0)), (0, .ref hm)]) hx hb dX12_coloured_3 rfl hl (by decide) rfl ?_
  clear hl
  try clear ls
  intro ls hl
  have loop_1 : ∀ (n_loop_1 : Nat) (o : Nat) (c9 : Int32), (o ≤ n) → (∀ k, k < 32 → (hasB c9 k ↔ k < o ∧ f (48 + k) = 0 ∧ f (0 + k) = nI 1)) → n - o < n_loop_1 → ∀ (H : Heap) (locs : List Loc) (ls : Array Slot), va_P D vwCl [(hm, .inr (12, [.ref ms, .ref mkp, .int (nI km), .ref mtr, .int (nI n), .int (nI k), .int (nI al), .int (nI be), .int ea, .int pr, .ref mas, .int nq, .int po, .int (nI en), .ref mso, .ref mon, .ref mot, .ref man, .int th, .int xd, .ref mst, .ref msm, .ref mtb, .ref mti, .ref mfr, .ref mbn, .ref mbs, .ref mde, .int sF, .int sN, .int sS, .int ig, .long xa, .long xb, .ref maa, .ref mab, .ref mba, .ref mbb])), (ms, .inl (cs 0, 288, .inl f))] H → va_D A [(hm, .inr (12, [.ref ms, .ref mkp, .int (nI km), .ref mtr, .int (nI n), .int (nI k), .int (nI al), .int (nI be), .int ea, .int pr, .ref mas, .int nq, .int po, .int (nI en), .ref mso, .ref mon, .ref mot, .ref man, .int th, .int xd, .ref mst, .ref msm, .ref mtb, .ref mti, .ref mfr, .ref mbn, .ref mbs, .ref mde, .int sF, .int sN, .int sS, .int ig, .long xa, .long xb, .ref maa, .ref mab, .ref mba, .ref mbb])), (ms, .inl (cs 0, 288, .inl f))] → va_S A s.heap H locs → lv_has ls 3 [(2, .int (nI o)), (1, .int c9), (0, .ref hm)] → W p l e ({ frames := 0, cells := 0, slots := 0, locals := 0 } : Room) s m args below meth c H locs 0 0 (MQ below ((xQi D (fun (r : Int32) (_u : Unit) => ∀ k, k < 32 → (hasB r k ↔ k < n ∧ f (48 + k) = 0 ∧ f (0 + k) = nI 1)) (fun (_u : Unit) => [(hm, .inr (12, [.ref ms, .ref mkp, .int (nI km), .ref mtr, .int (nI n), .int (nI k), .int (nI al), .int (nI be), .int ea, .int pr, .ref mas, .int nq, .int po, .int (nI en), .ref mso, .ref mon, .ref mot, .ref man, .int th, .int xd, .ref mst, .ref msm, .ref mtb, .ref mti, .ref mfr, .ref mbn, .ref mbs, .ref mde, .int sF, .int sN, .int sS, .int ig, .long xa, .long xb, .ref maa, .ref mab, .ref mba, .ref mbb])), (ms, .inl (cs 0, 288, .inl f))])) A) args s 0 0 A) (F0 m 4 ls []) := by
    intro n_loop_1
    induction n_loop_1 with
    | zero => intro o c9 h_o hb9 hlt H locs ls hP hD hS hl; exact absurd hlt (Nat.not_lt_zero _)
    | succ n_loop_1 ih_loop_1 =>
      intro o c9 h_o hb9 hlt_loop_1 H locs ls hP hD hS hl
      refine lv_iload_n hx hb dX12_coloured_4 rfl (lv_at hl 0 rfl) ?_
      refine lv_aload_n hx hb dX12_coloured_5 rfl (lv_at hl 2 rfl) ?_
      refine xget C hP 0 rfl rfl zuX12 4 (by decide) zw5_217 rfl dX12_coloured_6 ?_
      refine lv_icmp_ge (tgt := 48) hx hb dX12_coloured_9 (by decide) (fun c_2 => ?_) (fun c_2 => ?_)
      · -- 9 t
        have fc_2 : n ≤ o := nf_le (by omega) (by omega) c_2
        refine lv_iload_n hx hb dX12_coloured_48 rfl (lv_at hl 1 rfl) ?_
        exact xreti C () (bits_end hb9 (by omega)) hP hD hS (Nat.le_of_ble_eq_true rfl) (Nat.le_of_ble_eq_true rfl) rfl dX12_coloured_49
      · -- 9 f
        have fc_2 : o < n := nf_nle (by omega) (by omega) c_2
        refine lv_aload_n hx hb dX12_coloured_12 rfl (lv_at hl 2 rfl) ?_
        refine xget C hP 0 rfl rfl zuX12 0 (by decide) zw5_213 rfl dX12_coloured_13 ?_
        refine lv_bipush (v := nI 48) hx hb dX12_coloured_16 (by decide) ?_
        refine lv_iload_n hx hb dX12_coloured_18 rfl (lv_at hl 0 rfl) ?_
        refine lv_iadd hx hb dX12_coloured_19 ?_
        refine lv_topi (nm_r (e' := nI (48 + o)) (nI_add _ _) ?_)
        refine xiald C hP 1 rfl (48 + o) rfl (by omega) (by decide) dX12_coloured_20 ?_
        refine lv_if_ne (tgt := 42) hx hb dX12_coloured_21 (by decide) (fun c_3 => ?_) (fun c_3 => ?_)
        · -- 21 t
          refine lv_iinc (v := nI (o + 1)) (lv' := [(2, .int (nI (o + 1))), (1, .int c9), (0, .ref hm)]) hx hb dX12_coloured_42 hl (k := 0) rfl (nI_add o 1) (by decide) rfl ?_
          clear hl
          try clear ls
          intro ls hl
          refine lv_goto (tgt := 4) hx hb dX12_coloured_45 (by decide) ?_
          exact ih_loop_1 (o + 1) c9 (by omega) (bits_no hb9 (fun q => c_3 q.1)) (by omega) H locs ls hP hD hS (lv_sub hl [0, 1, 2] rfl)
        · -- 21 f
          refine lv_aload_n hx hb dX12_coloured_24 rfl (lv_at hl 2 rfl) ?_
          refine xget C hP 0 rfl rfl zuX12 0 (by decide) zw5_213 rfl dX12_coloured_25 ?_
          refine lv_iconst (v := nI 0) hx hb dX12_coloured_28 (by decide) ?_
          refine lv_iload_n hx hb dX12_coloured_29 rfl (lv_at hl 0 rfl) ?_
          refine lv_iadd hx hb dX12_coloured_30 ?_
          refine lv_topi (nm_r (e' := nI (0 + o)) (nI_add _ _) ?_)
          refine xiald C hP 1 rfl (0 + o) rfl (by omega) (by decide) dX12_coloured_31 ?_
          refine lv_iconst (v := nI 1) hx hb dX12_coloured_32 (by decide) ?_
          refine lv_icmp_ne (tgt := 42) hx hb dX12_coloured_33 (by decide) (fun c_4 => ?_) (fun c_4 => ?_)
          · -- 33 t
            refine lv_iinc (v := nI (o + 1)) (lv' := [(2, .int (nI (o + 1))), (1, .int c9), (0, .ref hm)]) hx hb dX12_coloured_42 hl (k := 0) rfl (nI_add o 1) (by decide) rfl ?_
            clear hl
            try clear ls
            intro ls hl
            refine lv_goto (tgt := 4) hx hb dX12_coloured_45 (by decide) ?_
            exact ih_loop_1 (o + 1) c9 (by omega) (bits_no hb9 (fun q => c_4 q.2)) (by omega) H locs ls hP hD hS (lv_sub hl [0, 1, 2] rfl)
          · -- 33 f
            refine lv_iload_n hx hb dX12_coloured_36 rfl (lv_at hl 1 rfl) ?_
            refine lv_iconst (v := nI 1) hx hb dX12_coloured_37 (by decide) ?_
            refine lv_iload_n hx hb dX12_coloured_38 rfl (lv_at hl 0 rfl) ?_
            refine lv_ishl hx hb dX12_coloured_39 ?_
            refine lv_ior hx hb dX12_coloured_40 ?_
            refine lv_istore_n (lv' := [(1, .int (c9 ||| ((nI 1) <<< ((nI o) &&& 31)))), (2, .int (nI o)), (0, .ref hm)]) hx hb dX12_coloured_41 rfl hl (by decide) rfl ?_
            clear hl
            try clear ls
            intro ls hl
            refine lv_iinc (v := nI (o + 1)) (lv' := [(2, .int (nI (o + 1))), (1, .int (c9 ||| ((nI 1) <<< ((nI o) &&& 31)))), (0, .ref hm)]) hx hb dX12_coloured_42 hl (k := 1) rfl (nI_add o 1) (by decide) rfl ?_
            clear hl
            try clear ls
            intro ls hl
            refine lv_goto (tgt := 4) hx hb dX12_coloured_45 (by decide) ?_
            exact ih_loop_1 (o + 1) (c9 ||| ((nI 1) <<< ((nI o) &&& 31))) (by omega) (bits_yes hb9 (by omega) ⟨c_3, c_4⟩) (by omega) H locs ls hP hD hS (lv_sub hl [0, 1, 2] rfl)
  exact loop_1 _ 0 (nI 0) (by omega) (bits_0 _) (Nat.lt_succ_self _) H locs ls hP hD hS (lv_sub hl [0, 1, 2] rfl)

set_option maxHeartbeats 4000000 in
set_option maxRecDepth 100000 in
theorem c_X12_apart_f (l : Launch) (D : va_G) (cs : Nat → ClassId) (hm ms mkp mtr mas mso mon mot man mst msm mtb mti mfr mbn mbs mde maa mab mba mbb : Nat) (n k al be km en : Nat) (ea pr nq po th xd sF sN sS ig : Int32) (xa xb : Int64) (f : Nat → Int32) (hn : 2 ≤ n ∧ n ≤ 8) : xMet l D cs yX12_apart cX12_apart 4 (some .int) ({ frames := 1, cells := 0, slots := 0, locals := 21 } : Room) [.ref hm] [(hm, .inr (12, [.ref ms, .ref mkp, .int (nI km), .ref mtr, .int (nI n), .int (nI k), .int (nI al), .int (nI be), .int ea, .int pr, .ref mas, .int nq, .int po, .int (nI en), .ref mso, .ref mon, .ref mot, .ref man, .int th, .int xd, .ref mst, .ref msm, .ref mtb, .ref mti, .ref mfr, .ref mbn, .ref mbs, .ref mde, .int sF, .int sN, .int sS, .int ig, .long xa, .long xb, .ref maa, .ref mab, .ref mba, .ref mbb])), (ms, .inl (cs 0, 288, .inl f))] (xQi D (fun (r : Int32) (_u : Unit) => r = nI (apM f n)) (fun (_u : Unit) => [(hm, .inr (12, [.ref ms, .ref mkp, .int (nI km), .ref mtr, .int (nI n), .int (nI k), .int (nI al), .int (nI be), .int ea, .int pr, .ref mas, .int nq, .int po, .int (nI en), .ref mso, .ref mon, .ref mot, .ref man, .int th, .int xd, .ref mst, .ref msm, .ref mtb, .ref mti, .ref mfr, .ref mbn, .ref mbs, .ref mde, .int sF, .int sN, .int sS, .int ig, .long xa, .long xb, .ref maa, .ref mab, .ref mba, .ref mbb])), (ms, .inl (cs 0, 288, .inl f))])) := by
  refine xMet.intro (by decide) (Nat.le_of_ble_eq_true rfl) ?_
  intro p e s m args below meth c A ls C hP hD hS hl
  have hx := C.1
  have hb := C.2.1
  have hz := C.2.2.2.2.1
  have hown := C.2.2.2.1
  have hA := C.2.2.2.2.2.2.2.2.2
  have hAO := C.2.2.2.2.2.2.2.2.1.2.2
  replace hl : lv_has ls 4 [(0, .ref hm)] := hl
  obtain ⟨H, hH⟩ : ∃ H, H = s.heap := ⟨_, rfl⟩
  replace hP : va_P D vwCl [(hm, .inr (12, [.ref ms, .ref mkp, .int (nI km), .ref mtr, .int (nI n), .int (nI k), .int (nI al), .int (nI be), .int ea, .int pr, .ref mas, .int nq, .int po, .int (nI en), .ref mso, .ref mon, .ref mot, .ref man, .int th, .int xd, .ref mst, .ref msm, .ref mtb, .ref mti, .ref mfr, .ref mbn, .ref mbs, .ref mde, .int sF, .int sN, .int sS, .int ig, .long xa, .long xb, .ref maa, .ref mab, .ref mba, .ref mbb])), (ms, .inl (cs 0, 288, .inl f))] H := by rw [hH]; exact hP
  replace hS : va_S A s.heap H [] := by rw [hH]; exact hS
  obtain ⟨locs, hlocs⟩ : ∃ z : List Loc, z = [] := ⟨_, rfl⟩
  rw [← hlocs] at hS
  suffices hW : W p l e ({ frames := 1, cells := 0, slots := 0, locals := 21 } : Room) s m args below meth c H locs 0 0 (MQ below ((xQi D (fun (r : Int32) (_u : Unit) => r = nI (apM f n)) (fun (_u : Unit) => [(hm, .inr (12, [.ref ms, .ref mkp, .int (nI km), .ref mtr, .int (nI n), .int (nI k), .int (nI al), .int (nI be), .int ea, .int pr, .ref mas, .int nq, .int po, .int (nI en), .ref mso, .ref mon, .ref mot, .ref man, .int th, .int xd, .ref mst, .ref msm, .ref mtb, .ref mti, .ref mfr, .ref mbn, .ref mbs, .ref mde, .int sF, .int sN, .int sS, .int ig, .long xa, .long xb, .ref maa, .ref mab, .ref mba, .ref mbb])), (ms, .inl (cs 0, 288, .inl f))])) A) args s 0 0 A) (F0 m 0 ls []) by rw [hlocs, hH] at hW; exact hW
  clear hH hlocs
  refine lv_iconst (v := nI 0) hx hb dX12_apart_0 (by decide) ?_
  refine lv_istore_n (lv' := [(1, .int (nI 0)), (0, .ref hm)]) hx hb dX12_apart_1 rfl hl (by decide) rfl ?_
  clear hl
  try clear ls
  intro ls hl
  refine lv_iconst (v := nI 0) hx hb dX12_apart_2 (by decide) ?_
  refine lv_istore_n (lv' := [(2, .int (nI 0)), (1, .int (nI 0)), (0, .ref hm)]) hx hb dX12_apart_3 rfl hl (by decide) rfl ?_
  clear hl
  try clear ls
  intro ls hl
  have loop_1 : ∀ (n_loop_1 : Nat) (o : Nat) (m9 : Nat), (o ≤ n) → (m9 = apM f o) → (m9 ≤ 8 * o) → n - o < n_loop_1 → ∀ (H : Heap) (locs : List Loc) (ls : Array Slot), va_P D vwCl [(hm, .inr (12, [.ref ms, .ref mkp, .int (nI km), .ref mtr, .int (nI n), .int (nI k), .int (nI al), .int (nI be), .int ea, .int pr, .ref mas, .int nq, .int po, .int (nI en), .ref mso, .ref mon, .ref mot, .ref man, .int th, .int xd, .ref mst, .ref msm, .ref mtb, .ref mti, .ref mfr, .ref mbn, .ref mbs, .ref mde, .int sF, .int sN, .int sS, .int ig, .long xa, .long xb, .ref maa, .ref mab, .ref mba, .ref mbb])), (ms, .inl (cs 0, 288, .inl f))] H → va_D A [(hm, .inr (12, [.ref ms, .ref mkp, .int (nI km), .ref mtr, .int (nI n), .int (nI k), .int (nI al), .int (nI be), .int ea, .int pr, .ref mas, .int nq, .int po, .int (nI en), .ref mso, .ref mon, .ref mot, .ref man, .int th, .int xd, .ref mst, .ref msm, .ref mtb, .ref mti, .ref mfr, .ref mbn, .ref mbs, .ref mde, .int sF, .int sN, .int sS, .int ig, .long xa, .long xb, .ref maa, .ref mab, .ref mba, .ref mbb])), (ms, .inl (cs 0, 288, .inl f))] → va_S A s.heap H locs → lv_has ls 4 [(2, .int (nI o)), (1, .int (nI m9)), (0, .ref hm)] → W p l e ({ frames := 1, cells := 0, slots := 0, locals := 21 } : Room) s m args below meth c H locs 0 0 (MQ below ((xQi D (fun (r : Int32) (_u : Unit) => r = nI (apM f n)) (fun (_u : Unit) => [(hm, .inr (12, [.ref ms, .ref mkp, .int (nI km), .ref mtr, .int (nI n), .int (nI k), .int (nI al), .int (nI be), .int ea, .int pr, .ref mas, .int nq, .int po, .int (nI en), .ref mso, .ref mon, .ref mot, .ref man, .int th, .int xd, .ref mst, .ref msm, .ref mtb, .ref mti, .ref mfr, .ref mbn, .ref mbs, .ref mde, .int sF, .int sN, .int sS, .int ig, .long xa, .long xb, .ref maa, .ref mab, .ref mba, .ref mbb])), (ms, .inl (cs 0, 288, .inl f))])) A) args s 0 0 A) (F0 m 4 ls []) := by
    intro n_loop_1
    induction n_loop_1 with
    | zero => intro o m9 h_o hm9 hmb hlt H locs ls hP hD hS hl; exact absurd hlt (Nat.not_lt_zero _)
    | succ n_loop_1 ih_loop_1 =>
      intro o m9 h_o hm9 hmb hlt_loop_1 H locs ls hP hD hS hl
      refine lv_iload_n hx hb dX12_apart_4 rfl (lv_at hl 0 rfl) ?_
      refine lv_aload_n hx hb dX12_apart_5 rfl (lv_at hl 2 rfl) ?_
      refine xget C hP 0 rfl rfl zuX12 4 (by decide) zw5_217 rfl dX12_apart_6 ?_
      refine lv_icmp_ge (tgt := 50) hx hb dX12_apart_9 (by decide) (fun c_2 => ?_) (fun c_2 => ?_)
      · -- 9 t
        have fc_2 : n ≤ o := nf_le (by omega) (by omega) c_2
        refine lv_iload_n hx hb dX12_apart_50 rfl (lv_at hl 1 rfl) ?_
        exact xreti C () (by have q7 : o = n := (by omega); rw [hm9, q7]) hP hD hS (Nat.le_of_ble_eq_true rfl) (Nat.le_of_ble_eq_true rfl) rfl dX12_apart_51
      · -- 9 f
        have fc_2 : o < n := nf_nle (by omega) (by omega) c_2
        refine lv_iconst (v := nI 0) hx hb dX12_apart_12 (by decide) ?_
        refine lv_istore_n (lv' := [(3, .int (nI 0)), (2, .int (nI o)), (1, .int (nI m9)), (0, .ref hm)]) hx hb dX12_apart_13 rfl hl (by decide) rfl ?_
        clear hl
        try clear ls
        intro ls hl
        have loop_3 : ∀ (n_loop_3 : Nat) (o2 : Nat) (m8 : Nat), (o2 ≤ o) → (m8 = apM f o + sm (fun b => unl (f (56 + o)) b) o2) → (m8 ≤ 8 * o + o2) → o - o2 < n_loop_3 → ∀ (H : Heap) (locs : List Loc) (ls : Array Slot), va_P D vwCl [(hm, .inr (12, [.ref ms, .ref mkp, .int (nI km), .ref mtr, .int (nI n), .int (nI k), .int (nI al), .int (nI be), .int ea, .int pr, .ref mas, .int nq, .int po, .int (nI en), .ref mso, .ref mon, .ref mot, .ref man, .int th, .int xd, .ref mst, .ref msm, .ref mtb, .ref mti, .ref mfr, .ref mbn, .ref mbs, .ref mde, .int sF, .int sN, .int sS, .int ig, .long xa, .long xb, .ref maa, .ref mab, .ref mba, .ref mbb])), (ms, .inl (cs 0, 288, .inl f))] H → va_D A [(hm, .inr (12, [.ref ms, .ref mkp, .int (nI km), .ref mtr, .int (nI n), .int (nI k), .int (nI al), .int (nI be), .int ea, .int pr, .ref mas, .int nq, .int po, .int (nI en), .ref mso, .ref mon, .ref mot, .ref man, .int th, .int xd, .ref mst, .ref msm, .ref mtb, .ref mti, .ref mfr, .ref mbn, .ref mbs, .ref mde, .int sF, .int sN, .int sS, .int ig, .long xa, .long xb, .ref maa, .ref mab, .ref mba, .ref mbb])), (ms, .inl (cs 0, 288, .inl f))] → va_S A s.heap H locs → lv_has ls 4 [(3, .int (nI o2)), (2, .int (nI o)), (1, .int (nI m8)), (0, .ref hm)] → W p l e ({ frames := 1, cells := 0, slots := 0, locals := 21 } : Room) s m args below meth c H locs 0 0 (MQ below ((xQi D (fun (r : Int32) (_u : Unit) => r = nI (apM f n)) (fun (_u : Unit) => [(hm, .inr (12, [.ref ms, .ref mkp, .int (nI km), .ref mtr, .int (nI n), .int (nI k), .int (nI al), .int (nI be), .int ea, .int pr, .ref mas, .int nq, .int po, .int (nI en), .ref mso, .ref mon, .ref mot, .ref man, .int th, .int xd, .ref mst, .ref msm, .ref mtb, .ref mti, .ref mfr, .ref mbn, .ref mbs, .ref mde, .int sF, .int sN, .int sS, .int ig, .long xa, .long xb, .ref maa, .ref mab, .ref mba, .ref mbb])), (ms, .inl (cs 0, 288, .inl f))])) A) args s 0 0 A) (F0 m 14 ls []) := by
          intro n_loop_3
          induction n_loop_3 with
          | zero => intro o2 m8 h_o2 hm8 hmc hlt H locs ls hP hD hS hl; exact absurd hlt (Nat.not_lt_zero _)
          | succ n_loop_3 ih_loop_3 =>
            intro o2 m8 h_o2 hm8 hmc hlt_loop_3 H locs ls hP hD hS hl
            refine lv_iload_n hx hb dX12_apart_14 rfl (lv_at hl 0 rfl) ?_
            refine lv_iload_n hx hb dX12_apart_15 rfl (lv_at hl 1 rfl) ?_
            refine lv_icmp_ge (tgt := 44) hx hb dX12_apart_16 (by decide) (fun c_4 => ?_) (fun c_4 => ?_)
            · -- 16 t
              have fc_4 : o ≤ o2 := nf_le (by omega) (by omega) c_4
              refine lv_iinc (v := nI (o + 1)) (lv' := [(2, .int (nI (o + 1))), (3, .int (nI o2)), (1, .int (nI m8)), (0, .ref hm)]) hx hb dX12_apart_44 hl (k := 1) rfl (nI_add o 1) (by decide) rfl ?_
              clear hl
              try clear ls
              intro ls hl
              refine lv_goto (tgt := 4) hx hb dX12_apart_47 (by decide) ?_
              exact ih_loop_1 (o + 1) m8 (by omega) (by have q7 : o2 = o := (by omega); rw [hm8, q7]; rfl) (by omega) (by omega) H locs ls hP hD hS (lv_sub hl [0, 2, 3] rfl)
            · -- 16 f
              have fc_4 : o2 < o := nf_nle (by omega) (by omega) c_4
              refine lv_aload_n hx hb dX12_apart_19 rfl (lv_at hl 3 rfl) ?_
              refine xget C hP 0 rfl rfl zuX12 0 (by decide) zw5_213 rfl dX12_apart_20 ?_
              refine lv_bipush (v := nI 56) hx hb dX12_apart_23 (by decide) ?_
              refine lv_iload_n hx hb dX12_apart_25 rfl (lv_at hl 1 rfl) ?_
              refine lv_iadd hx hb dX12_apart_26 ?_
              refine lv_topi (nm_r (e' := nI (56 + o)) (nI_add _ _) ?_)
              refine xiald C hP 1 rfl (56 + o) rfl (by omega) (by decide) dX12_apart_27 ?_
              refine lv_iload_n hx hb dX12_apart_28 rfl (lv_at hl 0 rfl) ?_
              refine xi (wr := [(hm, .inr (12, [.ref ms, .ref mkp, .int (nI km), .ref mtr, .int (nI n), .int (nI k), .int (nI al), .int (nI be), .int ea, .int pr, .ref mas, .int nq, .int po, .int (nI en), .ref mso, .ref mon, .ref mot, .ref man, .int th, .int xd, .ref mst, .ref msm, .ref mtb, .ref mti, .ref mfr, .ref mbn, .ref mbs, .ref mde, .int sF, .int sN, .int sS, .int ig, .long xa, .long xb, .ref maa, .ref mab, .ref mba, .ref mbb])), (ms, .inl (cs 0, 288, .inl f))]) (xS (As := [.int (f (56 + o)), .int (nI o2)]) (rest := []) C (c_X12_has l D cs (f (56 + o)) o2) kX12_100 hP hD [] rfl (by decide) ⟨Nat.le_of_ble_eq_true rfl, Nat.le_of_ble_eq_true rfl⟩ rfl hl.1 rfl (Nat.le_of_ble_eq_true rfl) dX12_apart_29 ⟨Nat.le_of_ble_eq_true rfl, Nat.le_of_ble_eq_true rfl⟩) hP hD hS hA [] [0, 1] rfl rfl (by decide) (by decide) ?_
              clear hP hD hS
              try clear locs
              try clear H
              intro r_5 u_6 H locs hw_r_5 hP hD hS
              have hw_r_5 : PQ (hasB (f (56 + o)) o2) r_5 (nI 1) (nI 0) := hw_r_5
              refine W.widen (k := 0) (n := 0) (Nat.le_of_ble_eq_true rfl) (Nat.le_of_ble_eq_true rfl) ?_
              replace hP : va_P D vwCl [(hm, .inr (12, [.ref ms, .ref mkp, .int (nI km), .ref mtr, .int (nI n), .int (nI k), .int (nI al), .int (nI be), .int ea, .int pr, .ref mas, .int nq, .int po, .int (nI en), .ref mso, .ref mon, .ref mot, .ref man, .int th, .int xd, .ref mst, .ref msm, .ref mtb, .ref mti, .ref mfr, .ref mbn, .ref mbs, .ref mde, .int sF, .int sN, .int sS, .int ig, .long xa, .long xb, .ref maa, .ref mab, .ref mba, .ref mbb])), (ms, .inl (cs 0, 288, .inl f))] H := hP
              replace hD : va_D A [(hm, .inr (12, [.ref ms, .ref mkp, .int (nI km), .ref mtr, .int (nI n), .int (nI k), .int (nI al), .int (nI be), .int ea, .int pr, .ref mas, .int nq, .int po, .int (nI en), .ref mso, .ref mon, .ref mot, .ref man, .int th, .int xd, .ref mst, .ref msm, .ref mtb, .ref mti, .ref mfr, .ref mbn, .ref mbs, .ref mde, .int sF, .int sN, .int sS, .int ig, .long xa, .long xb, .ref maa, .ref mab, .ref mba, .ref mbb])), (ms, .inl (cs 0, 288, .inl f))] := hD
              refine lv_if_ne (tgt := 38) hx hb dX12_apart_32 (by decide) (fun c_7 => ?_) (fun c_7 => ?_)
              · -- 32 t
                refine lv_iinc (v := nI (o2 + 1)) (lv' := [(3, .int (nI (o2 + 1))), (2, .int (nI o)), (1, .int (nI m8)), (0, .ref hm)]) hx hb dX12_apart_38 hl (k := 0) rfl (nI_add o2 1) (by decide) rfl ?_
                clear hl
                try clear ls
                intro ls hl
                refine lv_goto (tgt := 14) hx hb dX12_apart_41 (by decide) ?_
                exact ih_loop_3 (o2 + 1) m8 (by omega) (by rw [ap_t (PQ.yes hw_r_5 c_7)]; exact hm8) (by omega) (by omega) H locs ls hP hD hS (lv_sub hl [0, 1, 2, 3] rfl)
              · -- 32 f
                refine lv_iinc (v := nI (m8 + 1)) (lv' := [(1, .int (nI (m8 + 1))), (3, .int (nI o2)), (2, .int (nI o)), (0, .ref hm)]) hx hb dX12_apart_35 hl (k := 2) rfl (nI_add m8 1) (by decide) rfl ?_
                clear hl
                try clear ls
                intro ls hl
                refine lv_iinc (v := nI (o2 + 1)) (lv' := [(3, .int (nI (o2 + 1))), (1, .int (nI (m8 + 1))), (2, .int (nI o)), (0, .ref hm)]) hx hb dX12_apart_38 hl (k := 1) rfl (nI_add o2 1) (by decide) rfl ?_
                clear hl
                try clear ls
                intro ls hl
                refine lv_goto (tgt := 14) hx hb dX12_apart_41 (by decide) ?_
                exact ih_loop_3 (o2 + 1) (m8 + 1) (by omega) (by rw [ap_f (PQ.no hw_r_5 c_7 (by decide)), hm8]) (by omega) (by omega) H locs ls hP hD hS (lv_sub hl [0, 2, 1, 3] rfl)
        exact loop_3 _ 0 m9 (by omega) (hm9.trans (Nat.add_zero _).symm) hmb (Nat.lt_succ_self _) H locs ls hP hD hS (lv_sub hl [0, 1, 2, 3] rfl)
  exact loop_1 _ 0 0 (by omega) rfl (Nat.le_refl 0) (Nat.lt_succ_self _) H locs ls hP hD hS (lv_sub hl [0, 1, 2] rfl)

set_option maxHeartbeats 4000000 in
set_option maxRecDepth 100000 in
theorem c_X12_splitSets_f (l : Launch) (D : va_G) (cs : Nat → ClassId) (hm ms mkp mtr mas mso mon mot man mst msm mtb mti mfr mbn mbs mde maa mab mba mbb : Nat) (n k al be km en : Nat) (ea pr nq po th xd sF sN sS ig : Int32) (xa xb : Int64) (f : Nat → Int32) (sof : Nat → Int32) (sef : Nat → Nat → Int32) (hn : 2 ≤ n ∧ n ≤ 8) (hen : en ≤ 16) (hq9 : accQ sef) (hav : ∀ v, v < 8 → ∀ t, t < 8 → ∀ r, accM en sof f v (nI t) r → r = sef v (t * 4 + 3)) : xMet l D cs yX12_splitSets cX12_splitSets 6 (some .int) ({ frames := 2, cells := 0, slots := 0, locals := 44 } : Room) [.ref hm] [(hm, .inr (12, [.ref ms, .ref mkp, .int (nI km), .ref mtr, .int (nI n), .int (nI k), .int (nI al), .int (nI be), .int ea, .int pr, .ref mas, .int nq, .int po, .int (nI en), .ref mso, .ref mon, .ref mot, .ref man, .int th, .int xd, .ref mst, .ref msm, .ref mtb, .ref mti, .ref mfr, .ref mbn, .ref mbs, .ref mde, .int sF, .int sN, .int sS, .int ig, .long xa, .long xb, .ref maa, .ref mab, .ref mba, .ref mbb])), (ms, .inl (cs 0, 288, .inl f)), (mso, .inl (cs 0, 16, .inl sof))] (xQi D (fun (r : Int32) (_u : Unit) => ∀ k, k < 32 → (hasB r k ↔ k < 8 ∧ spM (avM f sef k) n)) (fun (_u : Unit) => [(hm, .inr (12, [.ref ms, .ref mkp, .int (nI km), .ref mtr, .int (nI n), .int (nI k), .int (nI al), .int (nI be), .int ea, .int pr, .ref mas, .int nq, .int po, .int (nI en), .ref mso, .ref mon, .ref mot, .ref man, .int th, .int xd, .ref mst, .ref msm, .ref mtb, .ref mti, .ref mfr, .ref mbn, .ref mbs, .ref mde, .int sF, .int sN, .int sS, .int ig, .long xa, .long xb, .ref maa, .ref mab, .ref mba, .ref mbb])), (ms, .inl (cs 0, 288, .inl f)), (mso, .inl (cs 0, 16, .inl sof))])) := by
  refine xMet.intro (by decide) (Nat.le_of_ble_eq_true rfl) ?_
  intro p e s m args below meth c A ls C hP hD hS hl
  have hx := C.1
  have hb := C.2.1
  have hz := C.2.2.2.2.1
  have hown := C.2.2.2.1
  have hA := C.2.2.2.2.2.2.2.2.2
  have hAO := C.2.2.2.2.2.2.2.2.1.2.2
  replace hl : lv_has ls 6 [(0, .ref hm)] := hl
  obtain ⟨H, hH⟩ : ∃ H, H = s.heap := ⟨_, rfl⟩
  replace hP : va_P D vwCl [(hm, .inr (12, [.ref ms, .ref mkp, .int (nI km), .ref mtr, .int (nI n), .int (nI k), .int (nI al), .int (nI be), .int ea, .int pr, .ref mas, .int nq, .int po, .int (nI en), .ref mso, .ref mon, .ref mot, .ref man, .int th, .int xd, .ref mst, .ref msm, .ref mtb, .ref mti, .ref mfr, .ref mbn, .ref mbs, .ref mde, .int sF, .int sN, .int sS, .int ig, .long xa, .long xb, .ref maa, .ref mab, .ref mba, .ref mbb])), (ms, .inl (cs 0, 288, .inl f)), (mso, .inl (cs 0, 16, .inl sof))] H := by rw [hH]; exact hP
  replace hS : va_S A s.heap H [] := by rw [hH]; exact hS
  obtain ⟨locs, hlocs⟩ : ∃ z : List Loc, z = [] := ⟨_, rfl⟩
  rw [← hlocs] at hS
  suffices hW : W p l e ({ frames := 2, cells := 0, slots := 0, locals := 44 } : Room) s m args below meth c H locs 0 0 (MQ below ((xQi D (fun (r : Int32) (_u : Unit) => ∀ k, k < 32 → (hasB r k ↔ k < 8 ∧ spM (avM f sef k) n)) (fun (_u : Unit) => [(hm, .inr (12, [.ref ms, .ref mkp, .int (nI km), .ref mtr, .int (nI n), .int (nI k), .int (nI al), .int (nI be), .int ea, .int pr, .ref mas, .int nq, .int po, .int (nI en), .ref mso, .ref mon, .ref mot, .ref man, .int th, .int xd, .ref mst, .ref msm, .ref mtb, .ref mti, .ref mfr, .ref mbn, .ref mbs, .ref mde, .int sF, .int sN, .int sS, .int ig, .long xa, .long xb, .ref maa, .ref mab, .ref mba, .ref mbb])), (ms, .inl (cs 0, 288, .inl f)), (mso, .inl (cs 0, 16, .inl sof))])) A) args s 0 0 A) (F0 m 0 ls []) by rw [hlocs, hH] at hW; exact hW
  clear hH hlocs
  refine lv_iconst (v := nI 0) hx hb dX12_splitSets_0 (by decide) ?_
  refine lv_istore_n (lv' := [(1, .int (nI 0)), (0, .ref hm)]) hx hb dX12_splitSets_1 rfl hl (by decide) rfl ?_
  clear hl
  try clear ls
  intro ls hl
  refine lv_iconst (v := nI 0) hx hb dX12_splitSets_2 (by decide) ?_
  refine lv_istore_n (lv' := [(2, .int (nI 0)), (1, .int (nI 0)), (0, .ref hm)]) hx hb dX12_splitSets_3 rfl hl (by decide) rfl ?_
  clear hl
  try clear ls
  intro ls hl
  have loop_1 : ∀ (n_loop_1 : Nat) (o : Nat) (b9 : Int32), (o ≤ 8) → (∀ k, k < 32 → (hasB b9 k ↔ k < o ∧ spM (avM f sef k) n)) → 8 - o < n_loop_1 → ∀ (H : Heap) (locs : List Loc) (ls : Array Slot), va_P D vwCl [(hm, .inr (12, [.ref ms, .ref mkp, .int (nI km), .ref mtr, .int (nI n), .int (nI k), .int (nI al), .int (nI be), .int ea, .int pr, .ref mas, .int nq, .int po, .int (nI en), .ref mso, .ref mon, .ref mot, .ref man, .int th, .int xd, .ref mst, .ref msm, .ref mtb, .ref mti, .ref mfr, .ref mbn, .ref mbs, .ref mde, .int sF, .int sN, .int sS, .int ig, .long xa, .long xb, .ref maa, .ref mab, .ref mba, .ref mbb])), (ms, .inl (cs 0, 288, .inl f)), (mso, .inl (cs 0, 16, .inl sof))] H → va_D A [(hm, .inr (12, [.ref ms, .ref mkp, .int (nI km), .ref mtr, .int (nI n), .int (nI k), .int (nI al), .int (nI be), .int ea, .int pr, .ref mas, .int nq, .int po, .int (nI en), .ref mso, .ref mon, .ref mot, .ref man, .int th, .int xd, .ref mst, .ref msm, .ref mtb, .ref mti, .ref mfr, .ref mbn, .ref mbs, .ref mde, .int sF, .int sN, .int sS, .int ig, .long xa, .long xb, .ref maa, .ref mab, .ref mba, .ref mbb])), (ms, .inl (cs 0, 288, .inl f)), (mso, .inl (cs 0, 16, .inl sof))] → va_S A s.heap H locs → lv_has ls 6 [(2, .int (nI o)), (1, .int b9), (0, .ref hm)] → W p l e ({ frames := 2, cells := 0, slots := 0, locals := 44 } : Room) s m args below meth c H locs 0 0 (MQ below ((xQi D (fun (r : Int32) (_u : Unit) => ∀ k, k < 32 → (hasB r k ↔ k < 8 ∧ spM (avM f sef k) n)) (fun (_u : Unit) => [(hm, .inr (12, [.ref ms, .ref mkp, .int (nI km), .ref mtr, .int (nI n), .int (nI k), .int (nI al), .int (nI be), .int ea, .int pr, .ref mas, .int nq, .int po, .int (nI en), .ref mso, .ref mon, .ref mot, .ref man, .int th, .int xd, .ref mst, .ref msm, .ref mtb, .ref mti, .ref mfr, .ref mbn, .ref mbs, .ref mde, .int sF, .int sN, .int sS, .int ig, .long xa, .long xb, .ref maa, .ref mab, .ref mba, .ref mbb])), (ms, .inl (cs 0, 288, .inl f)), (mso, .inl (cs 0, 16, .inl sof))])) A) args s 0 0 A) (F0 m 4 ls []) := by
    intro n_loop_1
    induction n_loop_1 with
    | zero => intro o b9 h_o hb9 hlt H locs ls hP hD hS hl; exact absurd hlt (Nat.not_lt_zero _)
    | succ n_loop_1 ih_loop_1 =>
      intro o b9 h_o hb9 hlt_loop_1 H locs ls hP hD hS hl
      refine lv_iload_n hx hb dX12_splitSets_4 rfl (lv_at hl 0 rfl) ?_
      refine lv_bipush (v := nI 8) hx hb dX12_splitSets_5 (by decide) ?_
      refine lv_icmp_ge (tgt := 95) hx hb dX12_splitSets_7 (by decide) (fun c_2 => ?_) (fun c_2 => ?_)
      · -- 7 t
        have fc_2 : 8 ≤ o := nf_le (by omega) (by omega) c_2
        refine lv_iload_n hx hb dX12_splitSets_95 rfl (lv_at hl 1 rfl) ?_
        exact xreti C () (bits_end hb9 (by omega)) hP hD hS (Nat.le_of_ble_eq_true rfl) (Nat.le_of_ble_eq_true rfl) rfl dX12_splitSets_96
      · -- 7 f
        have fc_2 : o < 8 := nf_nle (by omega) (by omega) c_2
        refine lv_iconst (v := (-1)) hx hb dX12_splitSets_10 (by decide) ?_
        refine lv_istore_n (lv' := [(3, .int (-1)), (2, .int (nI o)), (1, .int b9), (0, .ref hm)]) hx hb dX12_splitSets_11 rfl hl (by decide) rfl ?_
        clear hl
        try clear ls
        intro ls hl
        refine lv_iconst (v := nI 0) hx hb dX12_splitSets_12 (by decide) ?_
        refine lv_istore (lv' := [(4, .int (nI 0)), (3, .int (-1)), (2, .int (nI o)), (1, .int b9), (0, .ref hm)]) hx hb dX12_splitSets_13 hl (by decide) rfl ?_
        clear hl
        try clear ls
        intro ls hl
        have loop_3 : ∀ (n_loop_3 : Nat) (o2 : Nat) (b8 : Int32) (c8 : Int32), (o2 ≤ n) → (spF (avM f sef o) o2 c8) → (sqB f sef n o o2 b8) → n - o2 < n_loop_3 → ∀ (H : Heap) (locs : List Loc) (ls : Array Slot), va_P D vwCl [(hm, .inr (12, [.ref ms, .ref mkp, .int (nI km), .ref mtr, .int (nI n), .int (nI k), .int (nI al), .int (nI be), .int ea, .int pr, .ref mas, .int nq, .int po, .int (nI en), .ref mso, .ref mon, .ref mot, .ref man, .int th, .int xd, .ref mst, .ref msm, .ref mtb, .ref mti, .ref mfr, .ref mbn, .ref mbs, .ref mde, .int sF, .int sN, .int sS, .int ig, .long xa, .long xb, .ref maa, .ref mab, .ref mba, .ref mbb])), (ms, .inl (cs 0, 288, .inl f)), (mso, .inl (cs 0, 16, .inl sof))] H → va_D A [(hm, .inr (12, [.ref ms, .ref mkp, .int (nI km), .ref mtr, .int (nI n), .int (nI k), .int (nI al), .int (nI be), .int ea, .int pr, .ref mas, .int nq, .int po, .int (nI en), .ref mso, .ref mon, .ref mot, .ref man, .int th, .int xd, .ref mst, .ref msm, .ref mtb, .ref mti, .ref mfr, .ref mbn, .ref mbs, .ref mde, .int sF, .int sN, .int sS, .int ig, .long xa, .long xb, .ref maa, .ref mab, .ref mba, .ref mbb])), (ms, .inl (cs 0, 288, .inl f)), (mso, .inl (cs 0, 16, .inl sof))] → va_S A s.heap H locs → lv_has ls 6 [(4, .int (nI o2)), (3, .int c8), (2, .int (nI o)), (1, .int b8), (0, .ref hm)] → W p l e ({ frames := 2, cells := 0, slots := 0, locals := 44 } : Room) s m args below meth c H locs 0 0 (MQ below ((xQi D (fun (r : Int32) (_u : Unit) => ∀ k, k < 32 → (hasB r k ↔ k < 8 ∧ spM (avM f sef k) n)) (fun (_u : Unit) => [(hm, .inr (12, [.ref ms, .ref mkp, .int (nI km), .ref mtr, .int (nI n), .int (nI k), .int (nI al), .int (nI be), .int ea, .int pr, .ref mas, .int nq, .int po, .int (nI en), .ref mso, .ref mon, .ref mot, .ref man, .int th, .int xd, .ref mst, .ref msm, .ref mtb, .ref mti, .ref mfr, .ref mbn, .ref mbs, .ref mde, .int sF, .int sN, .int sS, .int ig, .long xa, .long xb, .ref maa, .ref mab, .ref mba, .ref mbb])), (ms, .inl (cs 0, 288, .inl f)), (mso, .inl (cs 0, 16, .inl sof))])) A) args s 0 0 A) (F0 m 15 ls []) := by
          intro n_loop_3
          induction n_loop_3 with
          | zero => intro o2 b8 c8 h_o2 hF8 hb8 hlt H locs ls hP hD hS hl; exact absurd hlt (Nat.not_lt_zero _)
          | succ n_loop_3 ih_loop_3 =>
            intro o2 b8 c8 h_o2 hF8 hb8 hlt_loop_3 H locs ls hP hD hS hl
            refine lv_iload hx hb dX12_splitSets_15 (lv_at hl 0 rfl) ?_
            refine lv_aload_n hx hb dX12_splitSets_17 rfl (lv_at hl 4 rfl) ?_
            refine xget C hP 0 rfl rfl zuX12 4 (by decide) zw5_217 rfl dX12_splitSets_18 ?_
            refine lv_icmp_ge (tgt := 89) hx hb dX12_splitSets_21 (by decide) (fun c_4 => ?_) (fun c_4 => ?_)
            · -- 21 t
              have fc_4 : n ≤ o2 := nf_le (by omega) (by omega) c_4
              refine lv_iinc (v := nI (o + 1)) (lv' := [(2, .int (nI (o + 1))), (4, .int (nI o2)), (3, .int c8), (1, .int b8), (0, .ref hm)]) hx hb dX12_splitSets_89 hl (k := 2) rfl (nI_add o 1) (by decide) rfl ?_
              clear hl
              try clear ls
              intro ls hl
              refine lv_goto (tgt := 4) hx hb dX12_splitSets_92 (by decide) ?_
              exact ih_loop_1 (o + 1) b8 (by omega) (sq_end hb8 (by omega)) (by omega) H locs ls hP hD hS (lv_sub hl [0, 3, 4] rfl)
            · -- 21 f
              have fc_4 : o2 < n := nf_nle (by omega) (by omega) c_4
              refine lv_aload_n hx hb dX12_splitSets_24 rfl (lv_at hl 4 rfl) ?_
              refine xget C hP 0 rfl rfl zuX12 0 (by decide) zw5_213 rfl dX12_splitSets_25 ?_
              refine lv_bipush (v := nI 48) hx hb dX12_splitSets_28 (by decide) ?_
              refine lv_iload hx hb dX12_splitSets_30 (lv_at hl 0 rfl) ?_
              refine lv_iadd hx hb dX12_splitSets_32 ?_
              refine lv_topi (nm_r (e' := nI (48 + o2)) (nI_add _ _) ?_)
              refine xiald C hP 1 rfl (48 + o2) rfl (by omega) (by decide) dX12_splitSets_33 ?_
              refine lv_if_ne (tgt := 47) hx hb dX12_splitSets_34 (by decide) (fun c_5 => ?_) (fun c_5 => ?_)
              · -- 34 t
                refine lv_iconst (v := (-1)) hx hb dX12_splitSets_47 (by decide) ?_
                refine lv_istore (lv' := [(5, .int (-1)), (4, .int (nI o2)), (3, .int c8), (2, .int (nI o)), (1, .int b8), (0, .ref hm)]) hx hb dX12_splitSets_48 hl (by decide) rfl ?_
                clear hl
                try clear ls
                intro ls hl
                refine lv_iload hx hb dX12_splitSets_50 (lv_at hl 0 rfl) ?_
                refine lv_if_lt (tgt := 71) hx hb dX12_splitSets_52 (by decide) (fun _ => ?_) (fun c => absurd (by decide) c)
                refine lv_iload hx hb dX12_splitSets_71 (lv_at hl 0 rfl) ?_
                refine lv_if_lt (tgt := 83) hx hb dX12_splitSets_73 (by decide) (fun _ => ?_) (fun c => absurd (by decide) c)
                refine lv_iinc (v := nI (o2 + 1)) (lv' := [(4, .int (nI (o2 + 1))), (5, .int (-1)), (3, .int c8), (2, .int (nI o)), (1, .int b8), (0, .ref hm)]) hx hb dX12_splitSets_83 hl (k := 1) rfl (nI_add o2 1) (by decide) rfl ?_
                clear hl
                try clear ls
                intro ls hl
                refine lv_goto (tgt := 15) hx hb dX12_splitSets_86 (by decide) ?_
                exact ih_loop_3 (o2 + 1) b8 c8 (by omega) ((spF_none hF8 (avM_no c_5)).1) (sq_keep hb8 (spF_none hF8 (avM_no c_5)).2) (by omega) H locs ls hP hD hS (lv_sub hl [0, 2, 3, 4, 5] rfl)
              · -- 34 f
                refine lv_aload_n hx hb dX12_splitSets_37 rfl (lv_at hl 4 rfl) ?_
                refine lv_iload hx hb dX12_splitSets_38 (lv_at hl 0 rfl) ?_
                refine lv_iload_n hx hb dX12_splitSets_40 rfl (lv_at hl 2 rfl) ?_
                refine xi (wr := []) (xV (As := [.int (nI o2), .int (nI o)]) (rest := []) C (c_X12_acceptedOf_f l D cs hm ms mkp mtr mas mso mon mot man mst msm mtb mti mfr mbn mbs mde maa mab mba mbb n k al be km en ea pr nq po th xd sF sN sS ig xa xb f o2 (nI o) sof hen (by omega)) kX12_310 hP hD [0, 1, 2] rfl (by decide) 0 rfl rfl rfl ⟨Nat.le_of_ble_eq_true rfl, Nat.le_of_ble_eq_true rfl⟩ rfl hl.1 rfl (Nat.le_of_ble_eq_true rfl) dX12_splitSets_41 ⟨Nat.le_of_ble_eq_true rfl, Nat.le_of_ble_eq_true rfl⟩) hP hD hS hA [0, 1, 2] [] rfl rfl (by decide) (by decide) ?_
                clear hP hD hS
                try clear locs
                try clear H
                intro r_6 u_7 H locs hw_r_6 hP hD hS
                have hw_r_6 : accM en sof f o2 (nI o) r_6 := hw_r_6
                refine W.widen (k := 0) (n := 0) (Nat.le_of_ble_eq_true rfl) (Nat.le_of_ble_eq_true rfl) ?_
                replace hP : va_P D vwCl [(hm, .inr (12, [.ref ms, .ref mkp, .int (nI km), .ref mtr, .int (nI n), .int (nI k), .int (nI al), .int (nI be), .int ea, .int pr, .ref mas, .int nq, .int po, .int (nI en), .ref mso, .ref mon, .ref mot, .ref man, .int th, .int xd, .ref mst, .ref msm, .ref mtb, .ref mti, .ref mfr, .ref mbn, .ref mbs, .ref mde, .int sF, .int sN, .int sS, .int ig, .long xa, .long xb, .ref maa, .ref mab, .ref mba, .ref mbb])), (ms, .inl (cs 0, 288, .inl f)), (mso, .inl (cs 0, 16, .inl sof))] H := hP
                replace hD : va_D A [(hm, .inr (12, [.ref ms, .ref mkp, .int (nI km), .ref mtr, .int (nI n), .int (nI k), .int (nI al), .int (nI be), .int ea, .int pr, .ref mas, .int nq, .int po, .int (nI en), .ref mso, .ref mon, .ref mot, .ref man, .int th, .int xd, .ref mst, .ref msm, .ref mtb, .ref mti, .ref mfr, .ref mbn, .ref mbs, .ref mde, .int sF, .int sN, .int sS, .int ig, .long xa, .long xb, .ref maa, .ref mab, .ref mba, .ref mbb])), (ms, .inl (cs 0, 288, .inl f)), (mso, .inl (cs 0, 16, .inl sof))] := hD
                have hz9 : r_6 = sef o2 (o * 4 + 3) := hav o2 (by omega) o (by omega) r_6 hw_r_6
                obtain rfl := hz9
                refine lv_goto (tgt := 48) hx hb dX12_splitSets_44 (by decide) ?_
                refine lv_istore (lv' := [(5, .int (sef o2 (o * 4 + 3))), (4, .int (nI o2)), (3, .int c8), (2, .int (nI o)), (1, .int b8), (0, .ref hm)]) hx hb dX12_splitSets_48 hl (by decide) rfl ?_
                clear hl
                try clear ls
                intro ls hl
                refine lv_iload hx hb dX12_splitSets_50 (lv_at hl 0 rfl) ?_
                refine lv_if_lt (tgt := 71) hx hb dX12_splitSets_52 (by decide) (fun c_8 => ?_) (fun c_8 => ?_)
                · -- 52 t
                  refine lv_iload hx hb dX12_splitSets_71 (lv_at hl 0 rfl) ?_
                  refine lv_if_lt (tgt := 83) hx hb dX12_splitSets_73 (by decide) (fun _ => ?_) (fun c => absurd c_8 c)
                  refine lv_iinc (v := nI (o2 + 1)) (lv' := [(4, .int (nI (o2 + 1))), (5, .int (sef o2 (o * 4 + 3))), (3, .int c8), (2, .int (nI o)), (1, .int b8), (0, .ref hm)]) hx hb dX12_splitSets_83 hl (k := 1) rfl (nI_add o2 1) (by decide) rfl ?_
                  clear hl
                  try clear ls
                  intro ls hl
                  refine lv_goto (tgt := 15) hx hb dX12_splitSets_86 (by decide) ?_
                  exact ih_loop_3 (o2 + 1) b8 c8 (by omega) ((spF_none hF8 ((avM_yes c_5).trans (acc_neg (hq9 o2 (by omega) o (by omega)) c_8))).1) (sq_keep hb8 (spF_none hF8 ((avM_yes c_5).trans (acc_neg (hq9 o2 (by omega) o (by omega)) c_8))).2) (by omega) H locs ls hP hD hS (lv_sub hl [0, 2, 3, 4, 5] rfl)
                · -- 52 f
                  refine lv_iload_n hx hb dX12_splitSets_55 rfl (lv_at hl 2 rfl) ?_
                  refine lv_if_lt (tgt := 71) hx hb dX12_splitSets_56 (by decide) (fun c_9 => ?_) (fun c_9 => ?_)
                  · -- 56 t
                    refine lv_iload hx hb dX12_splitSets_71 (lv_at hl 0 rfl) ?_
                    refine lv_if_lt (tgt := 83) hx hb dX12_splitSets_73 (by decide) (fun c => absurd c c_8) (fun _ => ?_)
                    refine lv_iload_n hx hb dX12_splitSets_76 rfl (lv_at hl 2 rfl) ?_
                    refine lv_if_ge (tgt := 83) hx hb dX12_splitSets_77 (by decide) (fun c => absurd c (Int32.not_le.mpr c_9)) (fun _ => ?_)
                    refine lv_iload hx hb dX12_splitSets_80 (lv_at hl 0 rfl) ?_
                    refine lv_istore_n (lv' := [(3, .int (sef o2 (o * 4 + 3))), (5, .int (sef o2 (o * 4 + 3))), (4, .int (nI o2)), (2, .int (nI o)), (1, .int b8), (0, .ref hm)]) hx hb dX12_splitSets_82 rfl hl (by decide) rfl ?_
                    clear hl
                    try clear ls
                    intro ls hl
                    refine lv_iinc (v := nI (o2 + 1)) (lv' := [(4, .int (nI (o2 + 1))), (3, .int (sef o2 (o * 4 + 3))), (5, .int (sef o2 (o * 4 + 3))), (2, .int (nI o)), (1, .int b8), (0, .ref hm)]) hx hb dX12_splitSets_83 hl (k := 2) rfl (nI_add o2 1) (by decide) rfl ?_
                    clear hl
                    try clear ls
                    intro ls hl
                    refine lv_goto (tgt := 15) hx hb dX12_splitSets_86 (by decide) ?_
                    exact ih_loop_3 (o2 + 1) b8 (sef o2 (o * 4 + 3)) (by omega) ((spF_first' hF8 (spF_m1 hq9 (by omega) (by omega) hF8 c_9) (avM_yes c_5) (m1_neg c_8)).1) (sq_keep hb8 (spF_first' hF8 (spF_m1 hq9 (by omega) (by omega) hF8 c_9) (avM_yes c_5) (m1_neg c_8)).2) (by omega) H locs ls hP hD hS (lv_sub hl [0, 1, 3, 4, 5] rfl)
                  · -- 56 f
                    refine lv_iload hx hb dX12_splitSets_59 (lv_at hl 0 rfl) ?_
                    refine lv_iload_n hx hb dX12_splitSets_61 rfl (lv_at hl 2 rfl) ?_
                    refine lv_icmp_eq (tgt := 71) hx hb dX12_splitSets_62 (by decide) (fun c_10 => ?_) (fun c_10 => ?_)
                    · -- 62 t
                      refine lv_iload hx hb dX12_splitSets_71 (lv_at hl 0 rfl) ?_
                      refine lv_if_lt (tgt := 83) hx hb dX12_splitSets_73 (by decide) (fun c => absurd c c_8) (fun _ => ?_)
                      refine lv_iload_n hx hb dX12_splitSets_76 rfl (lv_at hl 2 rfl) ?_
                      refine lv_if_ge (tgt := 83) hx hb dX12_splitSets_77 (by decide) (fun _ => ?_) (fun c => absurd (Int32.not_lt.mp c_9) c)
                      refine lv_iinc (v := nI (o2 + 1)) (lv' := [(4, .int (nI (o2 + 1))), (5, .int (sef o2 (o * 4 + 3))), (3, .int c8), (2, .int (nI o)), (1, .int b8), (0, .ref hm)]) hx hb dX12_splitSets_83 hl (k := 1) rfl (nI_add o2 1) (by decide) rfl ?_
                      clear hl
                      try clear ls
                      intro ls hl
                      refine lv_goto (tgt := 15) hx hb dX12_splitSets_86 (by decide) ?_
                      exact ih_loop_3 (o2 + 1) b8 c8 (by omega) ((spF_same' hF8 (m1_neg c_9) (avM_yes c_5) c_10).1) (sq_keep hb8 (spF_same' hF8 (m1_neg c_9) (avM_yes c_5) c_10).2) (by omega) H locs ls hP hD hS (lv_sub hl [0, 2, 3, 4, 5] rfl)
                    · -- 62 f
                      refine lv_iload_n hx hb dX12_splitSets_65 rfl (lv_at hl 4 rfl) ?_
                      refine lv_iconst (v := nI 1) hx hb dX12_splitSets_66 (by decide) ?_
                      refine lv_iload_n hx hb dX12_splitSets_67 rfl (lv_at hl 3 rfl) ?_
                      refine lv_ishl hx hb dX12_splitSets_68 ?_
                      refine lv_ior hx hb dX12_splitSets_69 ?_
                      refine lv_istore_n (lv' := [(1, .int (b8 ||| ((nI 1) <<< ((nI o) &&& 31)))), (5, .int (sef o2 (o * 4 + 3))), (4, .int (nI o2)), (3, .int c8), (2, .int (nI o)), (0, .ref hm)]) hx hb dX12_splitSets_70 rfl hl (by decide) rfl ?_
                      clear hl
                      try clear ls
                      intro ls hl
                      refine lv_iload hx hb dX12_splitSets_71 (lv_at hl 1 rfl) ?_
                      refine lv_if_lt (tgt := 83) hx hb dX12_splitSets_73 (by decide) (fun c => absurd c c_8) (fun _ => ?_)
                      refine lv_iload_n hx hb dX12_splitSets_76 rfl (lv_at hl 3 rfl) ?_
                      refine lv_if_ge (tgt := 83) hx hb dX12_splitSets_77 (by decide) (fun _ => ?_) (fun c => absurd (Int32.not_lt.mp c_9) c)
                      refine lv_iinc (v := nI (o2 + 1)) (lv' := [(4, .int (nI (o2 + 1))), (1, .int (b8 ||| ((nI 1) <<< ((nI o) &&& 31)))), (5, .int (sef o2 (o * 4 + 3))), (3, .int c8), (2, .int (nI o)), (0, .ref hm)]) hx hb dX12_splitSets_83 hl (k := 2) rfl (nI_add o2 1) (by decide) rfl ?_
                      clear hl
                      try clear ls
                      intro ls hl
                      refine lv_goto (tgt := 15) hx hb dX12_splitSets_86 (by decide) ?_
                      exact ih_loop_3 (o2 + 1) (b8 ||| ((nI 1) <<< ((nI o) &&& 31))) c8 (by omega) ((spF_diff' hF8 (m1_neg c_9) (avM_yes c_5) (m1_neg c_8) c_10).1) (sq_set (by omega) hb8 (spF_diff' hF8 (m1_neg c_9) (avM_yes c_5) (m1_neg c_8) c_10).2) (by omega) H locs ls hP hD hS (lv_sub hl [0, 3, 4, 1, 5] rfl)
        exact loop_3 _ 0 b9 (-1) (by omega) (Or.inl ⟨rfl, fun v hv => absurd hv (Nat.not_lt_zero _)⟩) (sq_0 hb9) (Nat.lt_succ_self _) H locs ls hP hD hS (lv_sub hl [0, 1, 2, 3, 4] rfl)
  exact loop_1 _ 0 (nI 0) (by omega) (bits_0 _) (Nat.lt_succ_self _) H locs ls hP hD hS (lv_sub hl [0, 1, 2] rfl)
