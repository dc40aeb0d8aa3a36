set_option maxHeartbeats 4000000 in
set_option maxRecDepth 100000 in
theorem c_X12_mayStay_f (l : Launch) (D : va_G) (cs : Nat → ClassId) (hm ms mkp mtr mas mso mon mot man mst msm mtb mti mfr mbn mbs mde maa mab mba mbb : Nat) (n k al be km en : Nat) (ea pr nq po th xd sF sN sS ig : Int32) (xa xb : Int64) (j : Nat) (hn : 2 ≤ n ∧ n ≤ 8) (hkn : 1 ≤ k ∧ k < n) (hal : 1 ≤ al ∧ al ≤ k) (hj : j ≤ n) : xMet l D cs yX12_mayStay cX12_mayStay 5 (some .boolean) ({ frames := 3, cells := 0, slots := 0, locals := 69 } : Room) [.ref hm, .int (nI j)] [(hm, .inr (12, [.ref ms, .ref mkp, .int (nI km), .ref mtr, .int (nI n), .int (nI k), .int (nI al), .int (nI be), .int ea, .int pr, .ref mas, .int nq, .int po, .int (nI en), .ref mso, .ref mon, .ref mot, .ref man, .int th, .int xd, .ref mst, .ref msm, .ref mtb, .ref mti, .ref mfr, .ref mbn, .ref mbs, .ref mde, .int sF, .int sN, .int sS, .int ig, .long xa, .long xb, .ref maa, .ref mab, .ref mba, .ref mbb]))] (xQi D (fun (r : Int32) (_u : Unit) => PQ (msM n k al j = true) r (nI 1) (nI 0)) (fun (_u : Unit) => [(hm, .inr (12, [.ref ms, .ref mkp, .int (nI km), .ref mtr, .int (nI n), .int (nI k), .int (nI al), .int (nI be), .int ea, .int pr, .ref mas, .int nq, .int po, .int (nI en), .ref mso, .ref mon, .ref mot, .ref man, .int th, .int xd, .ref mst, .ref msm, .ref mtb, .ref mti, .ref mfr, .ref mbn, .ref mbs, .ref mde, .int sF, .int sN, .int sS, .int ig, .long xa, .long xb, .ref maa, .ref mab, .ref mba, .ref mbb]))])) := by
  refine xMet.intro (by decide) (Nat.le_of_ble_eq_true rfl) ?_
  intro p e s m args below meth c A ls C hP hD hS hl
  have hx := C.1
  have hb := C.2.1
  have hz := C.2.2.2.2.1
  have hown := C.2.2.2.1
  have hA := C.2.2.2.2.2.2.2.2.2
  have hAO := C.2.2.2.2.2.2.2.2.1.2.2
  replace hl : lv_has ls 5 [(0, .ref hm), (1, .int (nI j))] := hl
  obtain ⟨H, hH⟩ : ∃ H, H = s.heap := ⟨_, rfl⟩
  replace hP : va_P D vwCl [(hm, .inr (12, [.ref ms, .ref mkp, .int (nI km), .ref mtr, .int (nI n), .int (nI k), .int (nI al), .int (nI be), .int ea, .int pr, .ref mas, .int nq, .int po, .int (nI en), .ref mso, .ref mon, .ref mot, .ref man, .int th, .int xd, .ref mst, .ref msm, .ref mtb, .ref mti, .ref mfr, .ref mbn, .ref mbs, .ref mde, .int sF, .int sN, .int sS, .int ig, .long xa, .long xb, .ref maa, .ref mab, .ref mba, .ref mbb]))] H := by rw [hH]; exact hP
  replace hS : va_S A s.heap H [] := by rw [hH]; exact hS
  obtain ⟨locs, hlocs⟩ : ∃ z : List Loc, z = [] := ⟨_, rfl⟩
  rw [← hlocs] at hS
  suffices hW : W p l e ({ frames := 3, cells := 0, slots := 0, locals := 69 } : Room) s m args below meth c H locs 0 0 (MQ below ((xQi D (fun (r : Int32) (_u : Unit) => PQ (msM n k al j = true) r (nI 1) (nI 0)) (fun (_u : Unit) => [(hm, .inr (12, [.ref ms, .ref mkp, .int (nI km), .ref mtr, .int (nI n), .int (nI k), .int (nI al), .int (nI be), .int ea, .int pr, .ref mas, .int nq, .int po, .int (nI en), .ref mso, .ref mon, .ref mot, .ref man, .int th, .int xd, .ref mst, .ref msm, .ref mtb, .ref mti, .ref mfr, .ref mbn, .ref mbs, .ref mde, .int sF, .int sN, .int sS, .int ig, .long xa, .long xb, .ref maa, .ref mab, .ref mba, .ref mbb]))])) A) args s 0 0 A) (F0 m 0 ls []) by rw [hlocs, hH] at hW; exact hW
  clear hH hlocs
  refine lv_iload_n hx hb dX12_mayStay_0 rfl (lv_at hl 1 rfl) ?_
  refine lv_if_eq (tgt := 12) hx hb dX12_mayStay_1 (by decide) (fun c_1 => ?_) (fun c_1 => ?_)
  · -- 1 t
    have fc_1 : j = 0 := nf_eq (by omega) (by omega) c_1
    refine lv_iconst (v := nI 0) hx hb dX12_mayStay_12 (by decide) ?_
    exact xreti C () (Or.inr ⟨(by have z : j = 0 := by have := c_1; exact (nI_eq (by omega) (by decide)).mp this
      unfold msM; rw [if_pos (Or.inl z)]; decide), rfl⟩) hP hD hS (Nat.le_of_ble_eq_true rfl) (Nat.le_of_ble_eq_true rfl) (by decide) dX12_mayStay_13
  · -- 1 f
    have fc_1 : j ≠ 0 := nf_ne (by omega) (by omega) c_1
    refine lv_iload_n hx hb dX12_mayStay_4 rfl (lv_at hl 1 rfl) ?_
    refine lv_aload_n hx hb dX12_mayStay_5 rfl (lv_at hl 0 rfl) ?_
    refine xget C hP 0 rfl rfl zuX12 4 (by decide) zw5_217 rfl dX12_mayStay_6 ?_
    refine lv_icmp_ne (tgt := 14) hx hb dX12_mayStay_9 (by decide) (fun c_2 => ?_) (fun c_2 => ?_)
    · -- 9 t
      have fc_2 : j ≠ n := nf_ne (by omega) (by omega) c_2
      refine lv_iload_n hx hb dX12_mayStay_14 rfl (lv_at hl 1 rfl) ?_
      refine lv_istore_n (lv' := [(2, .int (nI j)), (0, .ref hm), (1, .int (nI j))]) hx hb dX12_mayStay_15 rfl hl (by decide) rfl ?_
      clear hl
      try clear ls
      intro ls hl
      have loop_3 : ∀ (n_loop_3 : Nat) (lo : Nat), (lo ≤ j) → (loM n k al j = loM n k al lo) → lo < n_loop_3 → ∀ (H : Heap) (locs : List Loc) (ls : Array Slot), va_P D vwCl [(hm, .inr (12, [.ref ms, .ref mkp, .int (nI km), .ref mtr, .int (nI n), .int (nI k), .int (nI al), .int (nI be), .int ea, .int pr, .ref mas, .int nq, .int po, .int (nI en), .ref mso, .ref mon, .ref mot, .ref man, .int th, .int xd, .ref mst, .ref msm, .ref mtb, .ref mti, .ref mfr, .ref mbn, .ref mbs, .ref mde, .int sF, .int sN, .int sS, .int ig, .long xa, .long xb, .ref maa, .ref mab, .ref mba, .ref mbb]))] H → va_D A [(hm, .inr (12, [.ref ms, .ref mkp, .int (nI km), .ref mtr, .int (nI n), .int (nI k), .int (nI al), .int (nI be), .int ea, .int pr, .ref mas, .int nq, .int po, .int (nI en), .ref mso, .ref mon, .ref mot, .ref man, .int th, .int xd, .ref mst, .ref msm, .ref mtb, .ref mti, .ref mfr, .ref mbn, .ref mbs, .ref mde, .int sF, .int sN, .int sS, .int ig, .long xa, .long xb, .ref maa, .ref mab, .ref mba, .ref mbb]))] → va_S A s.heap H locs → lv_has ls 5 [(2, .int (nI lo)), (0, .ref hm), (1, .int (nI j))] → W p l e ({ frames := 3, cells := 0, slots := 0, locals := 69 } : Room) s m args below meth c H locs 0 0 (MQ below ((xQi D (fun (r : Int32) (_u : Unit) => PQ (msM n k al j = true) r (nI 1) (nI 0)) (fun (_u : Unit) => [(hm, .inr (12, [.ref ms, .ref mkp, .int (nI km), .ref mtr, .int (nI n), .int (nI k), .int (nI al), .int (nI be), .int ea, .int pr, .ref mas, .int nq, .int po, .int (nI en), .ref mso, .ref mon, .ref mot, .ref man, .int th, .int xd, .ref mst, .ref msm, .ref mtb, .ref mti, .ref mfr, .ref mbn, .ref mbs, .ref mde, .int sF, .int sN, .int sS, .int ig, .long xa, .long xb, .ref maa, .ref mab, .ref mba, .ref mbb]))])) A) args s 0 0 A) (F0 m 16 ls []) := by
        intro n_loop_3
        induction n_loop_3 with
        | zero => intro lo hlo hlo9 hlt H locs ls hP hD hS hl; exact absurd hlt (Nat.not_lt_zero _)
        | succ n_loop_3 ih_loop_3 =>
          intro lo hlo hlo9 hlt_loop_3 H locs ls hP hD hS hl
          refine lv_iload_n hx hb dX12_mayStay_16 rfl (lv_at hl 0 rfl) ?_
          refine lv_if_le (tgt := 36) hx hb dX12_mayStay_17 (by decide) (fun c_4 => ?_) (fun c_4 => ?_)
          · -- 17 t
            have fc_4 : lo ≤ 0 := nf_le (by omega) (by omega) c_4
            refine lv_iload_n hx hb dX12_mayStay_36 rfl (lv_at hl 2 rfl) ?_
            refine lv_istore_n (lv' := [(3, .int (nI j)), (2, .int (nI lo)), (0, .ref hm), (1, .int (nI j))]) hx hb dX12_mayStay_37 rfl hl (by decide) rfl ?_
            clear hl
            try clear ls
            intro ls hl
            have loop_5 : ∀ (n_loop_5 : Nat) (hi : Nat), (hi ≤ n) → (j ≤ hi) → (hiM n k al 10 j = hiM n k al (10 + j - hi) hi) → n - hi < n_loop_5 → ∀ (H : Heap) (locs : List Loc) (ls : Array Slot), va_P D vwCl [(hm, .inr (12, [.ref ms, .ref mkp, .int (nI km), .ref mtr, .int (nI n), .int (nI k), .int (nI al), .int (nI be), .int ea, .int pr, .ref mas, .int nq, .int po, .int (nI en), .ref mso, .ref mon, .ref mot, .ref man, .int th, .int xd, .ref mst, .ref msm, .ref mtb, .ref mti, .ref mfr, .ref mbn, .ref mbs, .ref mde, .int sF, .int sN, .int sS, .int ig, .long xa, .long xb, .ref maa, .ref mab, .ref mba, .ref mbb]))] H → va_D A [(hm, .inr (12, [.ref ms, .ref mkp, .int (nI km), .ref mtr, .int (nI n), .int (nI k), .int (nI al), .int (nI be), .int ea, .int pr, .ref mas, .int nq, .int po, .int (nI en), .ref mso, .ref mon, .ref mot, .ref man, .int th, .int xd, .ref mst, .ref msm, .ref mtb, .ref mti, .ref mfr, .ref mbn, .ref mbs, .ref mde, .int sF, .int sN, .int sS, .int ig, .long xa, .long xb, .ref maa, .ref mab, .ref mba, .ref mbb]))] → va_S A s.heap H locs → lv_has ls 5 [(3, .int (nI hi)), (2, .int (nI lo)), (0, .ref hm), (1, .int (nI j))] → W p l e ({ frames := 3, cells := 0, slots := 0, locals := 69 } : Room) s m args below meth c H locs 0 0 (MQ below ((xQi D (fun (r : Int32) (_u : Unit) => PQ (msM n k al j = true) r (nI 1) (nI 0)) (fun (_u : Unit) => [(hm, .inr (12, [.ref ms, .ref mkp, .int (nI km), .ref mtr, .int (nI n), .int (nI k), .int (nI al), .int (nI be), .int ea, .int pr, .ref mas, .int nq, .int po, .int (nI en), .ref mso, .ref mon, .ref mot, .ref man, .int th, .int xd, .ref mst, .ref msm, .ref mtb, .ref mti, .ref mfr, .ref mbn, .ref mbs, .ref mde, .int sF, .int sN, .int sS, .int ig, .long xa, .long xb, .ref maa, .ref mab, .ref mba, .ref mbb]))])) A) args s 0 0 A) (F0 m 38 ls []) := by
              intro n_loop_5
              induction n_loop_5 with
              | zero => intro hi h_hi hjh hhi9 hlt H locs ls hP hD hS hl; exact absurd hlt (Nat.not_lt_zero _)
              | succ n_loop_5 ih_loop_5 =>
                intro hi h_hi hjh hhi9 hlt_loop_5 H locs ls hP hD hS hl
                refine lv_iload_n hx hb dX12_mayStay_38 rfl (lv_at hl 0 rfl) ?_
                refine lv_aload_n hx hb dX12_mayStay_39 rfl (lv_at hl 2 rfl) ?_
                refine xget C hP 0 rfl rfl zuX12 4 (by decide) zw5_217 rfl dX12_mayStay_40 ?_
                refine lv_icmp_ge (tgt := 62) hx hb dX12_mayStay_43 (by decide) (fun c_6 => ?_) (fun c_6 => ?_)
                · -- 43 t
                  have fc_6 : n ≤ hi := nf_le (by omega) (by omega) c_6
                  refine lv_iload_n hx hb dX12_mayStay_62 rfl (lv_at hl 1 rfl) ?_
                  refine lv_iconst (v := nI 1) hx hb dX12_mayStay_63 (by decide) ?_
                  refine lv_icmp_le (tgt := 71) hx hb dX12_mayStay_64 (by decide) (fun c_7 => ?_) (fun c_7 => ?_)
                  · -- 64 t
                    have fc_7 : lo ≤ 1 := nf_le (by omega) (by omega) c_7
                    refine lv_iconst (v := nI 1) hx hb dX12_mayStay_71 (by decide) ?_
                    refine lv_istore (lv' := [(4, .int (nI 1)), (3, .int (nI hi)), (2, .int (nI lo)), (0, .ref hm), (1, .int (nI j))]) hx hb dX12_mayStay_72 hl (by decide) rfl ?_
                    clear hl
                    try clear ls
                    intro ls hl
                    have hlo := (hlo9.trans (by have z : lo = 0 := by have := (nI_leI (by omega) (by decide)).mp c_4; omega
        rw [z]; rfl))
                    have hhi := (hhi9.trans (hi_e (fun q => by have := (nI_leI (by omega) (by omega)).mp c_6; omega)))
                    replace hS : (if 1 < lo then lo else 1) = 1 := if_neg (by have := (nI_leI (by omega) (by decide)).mp c_7; omega)
                    have loop_8 : ∀ (n_loop_8 : Nat) (o : Nat), (o ≤ 9) → (1 ≤ o) → (anM n k al hi 10 (if 1 < lo then lo else 1) = anM n k al hi (10 + 1 - o) o) → 9 - o < n_loop_8 → ∀ (H : Heap) (locs : List Loc) (ls : Array Slot), va_P D vwCl [(hm, .inr (12, [.ref ms, .ref mkp, .int (nI km), .ref mtr, .int (nI n), .int (nI k), .int (nI al), .int (nI be), .int ea, .int pr, .ref mas, .int nq, .int po, .int (nI en), .ref mso, .ref mon, .ref mot, .ref man, .int th, .int xd, .ref mst, .ref msm, .ref mtb, .ref mti, .ref mfr, .ref mbn, .ref mbs, .ref mde, .int sF, .int sN, .int sS, .int ig, .long xa, .long xb, .ref maa, .ref mab, .ref mba, .ref mbb]))] H → va_D A [(hm, .inr (12, [.ref ms, .ref mkp, .int (nI km), .ref mtr, .int (nI n), .int (nI k), .int (nI al), .int (nI be), .int ea, .int pr, .ref mas, .int nq, .int po, .int (nI en), .ref mso, .ref mon, .ref mot, .ref man, .int th, .int xd, .ref mst, .ref msm, .ref mtb, .ref mti, .ref mfr, .ref mbn, .ref mbs, .ref mde, .int sF, .int sN, .int sS, .int ig, .long xa, .long xb, .ref maa, .ref mab, .ref mba, .ref mbb]))] → va_S A s.heap H locs → lv_has ls 5 [(4, .int (nI o)), (3, .int (nI hi)), (2, .int (nI lo)), (0, .ref hm), (1, .int (nI j))] → W p l e ({ frames := 3, cells := 0, slots := 0, locals := 69 } : Room) s m args below meth c H locs 0 0 (MQ below ((xQi D (fun (r : Int32) (_u : Unit) => PQ (msM n k al j = true) r (nI 1) (nI 0)) (fun (_u : Unit) => [(hm, .inr (12, [.ref ms, .ref mkp, .int (nI km), .ref mtr, .int (nI n), .int (nI k), .int (nI al), .int (nI be), .int ea, .int pr, .ref mas, .int nq, .int po, .int (nI en), .ref mso, .ref mon, .ref mot, .ref man, .int th, .int xd, .ref mst, .ref msm, .ref mtb, .ref mti, .ref mfr, .ref mbn, .ref mbs, .ref mde, .int sF, .int sN, .int sS, .int ig, .long xa, .long xb, .ref maa, .ref mab, .ref mba, .ref mbb]))])) A) args s 0 0 A) (F0 m 74 ls []) := by
                      intro n_loop_8
                      induction n_loop_8 with
                      | zero => intro o h_o hSo hs9 hlt H locs ls hP hD hS hl; exact absurd hlt (Nat.not_lt_zero _)
                      | succ n_loop_8 ih_loop_8 =>
                        intro o h_o hSo hs9 hlt_loop_8 H locs ls hP hD hS hl
                        refine lv_iload hx hb dX12_mayStay_74 (lv_at hl 0 rfl) ?_
                        refine lv_iload_n hx hb dX12_mayStay_76 rfl (lv_at hl 1 rfl) ?_
                        refine lv_icmp_gt (tgt := 119) hx hb dX12_mayStay_77 (by decide) (fun c_9 => ?_) (fun c_9 => ?_)
                        · -- 77 t
                          have fc_9 : hi < o := nf_lt (by omega) (by omega) c_9
                          refine lv_iconst (v := nI 0) hx hb dX12_mayStay_119 (by decide) ?_
                          exact xreti C () (Or.inr ⟨(by unfold msM; rw [if_neg (fun q => q.elim (fun z => c_1 (by rw [z]; rfl)) (fun z => c_2 (by rw [z]))), hhi, hlo, show anM n k al hi 10 _ = false from hs9.trans (an_e (fun q => by have z := c_9; have := (nI_ltI (by omega) (by omega)).mp z; omega))]; decide), rfl⟩) hP hD hS (Nat.le_of_ble_eq_true rfl) (Nat.le_of_ble_eq_true rfl) (by decide) dX12_mayStay_120
                        · -- 77 f
                          have fc_9 : o ≤ hi := nf_nlt (by omega) (by omega) c_9
                          refine lv_iload hx hb dX12_mayStay_80 (lv_at hl 0 rfl) ?_
                          refine lv_aload_n hx hb dX12_mayStay_82 rfl (lv_at hl 3 rfl) ?_
                          refine xget C hP 0 rfl rfl zuX12 4 (by decide) zw5_217 rfl dX12_mayStay_83 ?_
                          refine lv_icmp_ge (tgt := 119) hx hb dX12_mayStay_86 (by decide) (fun c_10 => ?_) (fun c_10 => ?_)
                          · -- 86 t
                            have fc_10 : n ≤ o := nf_le (by omega) (by omega) c_10
                            refine lv_iconst (v := nI 0) hx hb dX12_mayStay_119 (by decide) ?_
                            exact xreti C () (Or.inr ⟨(by unfold msM; rw [if_neg (fun q => q.elim (fun z => c_1 (by rw [z]; rfl)) (fun z => c_2 (by rw [z]))), hhi, hlo, show anM n k al hi 10 _ = false from hs9.trans (an_e (fun q => by have := (nI_leI (by omega) (by omega)).mp c_10; omega))]; decide), rfl⟩) hP hD hS (Nat.le_of_ble_eq_true rfl) (Nat.le_of_ble_eq_true rfl) (by decide) dX12_mayStay_120
                          · -- 86 f
                            have fc_10 : o < n := nf_nle (by omega) (by omega) c_10
                            refine lv_aload_n hx hb dX12_mayStay_89 rfl (lv_at hl 3 rfl) ?_
                            refine lv_iload hx hb dX12_mayStay_90 (lv_at hl 0 rfl) ?_
                            refine xl (wr := []) (xV (As := [.int (nI o)]) (rest := []) C (c_X12_up_f l D cs hm ms mkp mtr mas mso mon mot man mst msm mtb mti mfr mbn mbs mde maa mab mba mbb n k al be km en ea pr nq po th xd sF sN sS ig xa xb o hn hkn hal) kX12_280 hP hD [0] rfl (by decide) 0 rfl rfl rfl ⟨Nat.le_of_ble_eq_true rfl, Nat.le_of_ble_eq_true rfl⟩ rfl hl.1 rfl (Nat.le_of_ble_eq_true rfl) dX12_mayStay_92 ⟨Nat.le_of_ble_eq_true rfl, Nat.le_of_ble_eq_true rfl⟩) hP hD hS hA [0] [] rfl rfl (by decide) (by decide) ?_
                            clear hP hD hS
                            try clear locs
                            try clear H
                            intro r_11 u_12 H locs hw_r_11 hP hD hS
                            have hw_r_11 : r_11 = upM n k al o := hw_r_11
                            refine W.widen (k := 0) (n := 0) (Nat.le_of_ble_eq_true rfl) (Nat.le_of_ble_eq_true rfl) ?_
                            replace hP : va_P D vwCl [(hm, .inr (12, [.ref ms, .ref mkp, .int (nI km), .ref mtr, .int (nI n), .int (nI k), .int (nI al), .int (nI be), .int ea, .int pr, .ref mas, .int nq, .int po, .int (nI en), .ref mso, .ref mon, .ref mot, .ref man, .int th, .int xd, .ref mst, .ref msm, .ref mtb, .ref mti, .ref mfr, .ref mbn, .ref mbs, .ref mde, .int sF, .int sN, .int sS, .int ig, .long xa, .long xb, .ref maa, .ref mab, .ref mba, .ref mbb]))] H := hP
                            replace hD : va_D A [(hm, .inr (12, [.ref ms, .ref mkp, .int (nI km), .ref mtr, .int (nI n), .int (nI k), .int (nI al), .int (nI be), .int ea, .int pr, .ref mas, .int nq, .int po, .int (nI en), .ref mso, .ref mon, .ref mot, .ref man, .int th, .int xd, .ref mst, .ref msm, .ref mtb, .ref mti, .ref mfr, .ref mbn, .ref mbs, .ref mde, .int sF, .int sN, .int sS, .int ig, .long xa, .long xb, .ref maa, .ref mab, .ref mba, .ref mbb]))] := hD
                            obtain rfl : r_11 = upM n k al o := hw_r_11
                            refine lv_lconst (v := 0) hx hb dX12_mayStay_95 (by decide) ?_
                            refine W.lcmp hx hb dX12_mayStay_96 ?_
                            refine lv_if_ne (tgt := 113) hx hb dX12_mayStay_97 (by decide) (fun c_13 => ?_) (fun c_13 => ?_)
                            · -- 97 t
                              refine lv_iinc (v := nI (o + 1)) (lv' := [(4, .int (nI (o + 1))), (3, .int (nI hi)), (2, .int (nI lo)), (0, .ref hm), (1, .int (nI j))]) hx hb dX12_mayStay_113 hl (k := 0) rfl (nI_add o 1) (by decide) rfl ?_
                              clear hl
                              try clear ls
                              intro ls hl
                              refine lv_goto (tgt := 74) hx hb dX12_mayStay_116 (by decide) ?_
                              exact ih_loop_8 (o + 1) (by omega) (by omega) (hs9.trans (by rw [show 10 + 1 - o = (10 + 1 - (o + 1)) + 1 by omega]; exact an_s ⟨by omega, by omega⟩ (fun q => l_ne c_13 q.1))) (by omega) H locs ls hP hD hS (lv_sub hl [0, 1, 2, 3, 4] rfl)
                            · -- 97 f
                              refine lv_aload_n hx hb dX12_mayStay_100 rfl (lv_at hl 3 rfl) ?_
                              refine lv_iload hx hb dX12_mayStay_101 (lv_at hl 0 rfl) ?_
                              refine xl (wr := []) (xV (As := [.int (nI o)]) (rest := []) C (c_X12_down_f l D cs hm ms mkp mtr mas mso mon mot man mst msm mtb mti mfr mbn mbs mde maa mab mba mbb n k al be km en ea pr nq po th xd sF sN sS ig xa xb o hn hkn hal (by omega)) kX12_283 hP hD [0] rfl (by decide) 0 rfl rfl rfl ⟨Nat.le_of_ble_eq_true rfl, Nat.le_of_ble_eq_true rfl⟩ rfl hl.1 rfl (Nat.le_of_ble_eq_true rfl) dX12_mayStay_103 ⟨Nat.le_of_ble_eq_true rfl, Nat.le_of_ble_eq_true rfl⟩) hP hD hS hA [0] [] rfl rfl (by decide) (by decide) ?_
                              clear hP hD hS
                              try clear locs
                              try clear H
                              intro r_14 u_15 H locs hw_r_14 hP hD hS
                              have hw_r_14 : r_14 = dnM n k al o := hw_r_14
                              refine W.widen (k := 0) (n := 0) (Nat.le_of_ble_eq_true rfl) (Nat.le_of_ble_eq_true rfl) ?_
                              replace hP : va_P D vwCl [(hm, .inr (12, [.ref ms, .ref mkp, .int (nI km), .ref mtr, .int (nI n), .int (nI k), .int (nI al), .int (nI be), .int ea, .int pr, .ref mas, .int nq, .int po, .int (nI en), .ref mso, .ref mon, .ref mot, .ref man, .int th, .int xd, .ref mst, .ref msm, .ref mtb, .ref mti, .ref mfr, .ref mbn, .ref mbs, .ref mde, .int sF, .int sN, .int sS, .int ig, .long xa, .long xb, .ref maa, .ref mab, .ref mba, .ref mbb]))] H := hP
                              replace hD : va_D A [(hm, .inr (12, [.ref ms, .ref mkp, .int (nI km), .ref mtr, .int (nI n), .int (nI k), .int (nI al), .int (nI be), .int ea, .int pr, .ref mas, .int nq, .int po, .int (nI en), .ref mso, .ref mon, .ref mot, .ref man, .int th, .int xd, .ref mst, .ref msm, .ref mtb, .ref mti, .ref mfr, .ref mbn, .ref mbs, .ref mde, .int sF, .int sN, .int sS, .int ig, .long xa, .long xb, .ref maa, .ref mab, .ref mba, .ref mbb]))] := hD
                              obtain rfl : r_14 = dnM n k al o := hw_r_14
                              refine lv_lconst (v := 0) hx hb dX12_mayStay_106 (by decide) ?_
                              refine W.lcmp hx hb dX12_mayStay_107 ?_
                              refine lv_if_ne (tgt := 113) hx hb dX12_mayStay_108 (by decide) (fun c_16 => ?_) (fun c_16 => ?_)
                              · -- 108 t
                                refine lv_iinc (v := nI (o + 1)) (lv' := [(4, .int (nI (o + 1))), (3, .int (nI hi)), (2, .int (nI lo)), (0, .ref hm), (1, .int (nI j))]) hx hb dX12_mayStay_113 hl (k := 0) rfl (nI_add o 1) (by decide) rfl ?_
                                clear hl
                                try clear ls
                                intro ls hl
                                refine lv_goto (tgt := 74) hx hb dX12_mayStay_116 (by decide) ?_
                                exact ih_loop_8 (o + 1) (by omega) (by omega) (hs9.trans (by rw [show 10 + 1 - o = (10 + 1 - (o + 1)) + 1 by omega]; exact an_s ⟨by omega, by omega⟩ (fun q => l_ne c_16 q.2))) (by omega) H locs ls hP hD hS (lv_sub hl [0, 1, 2, 3, 4] rfl)
                              · -- 108 f
                                refine lv_iconst (v := nI 1) hx hb dX12_mayStay_111 (by decide) ?_
                                exact xreti C () (Or.inl ⟨(by unfold msM; rw [if_neg (fun q => q.elim (fun z => c_1 (by rw [z]; rfl)) (fun z => c_2 (by rw [z]))), hhi, hlo]; exact hs9.trans (by rw [show 10 + 1 - o = (10 + 1 - o - 1) + 1 by omega]; exact an_t ⟨by omega, by omega⟩ ⟨l_eq c_13, l_eq c_16⟩)), rfl⟩) hP hD hS (Nat.le_of_ble_eq_true rfl) (Nat.le_of_ble_eq_true rfl) (by decide) dX12_mayStay_112
                    exact loop_8 _ 1 (by omega) (Nat.le_refl _) (by rw [hS]; exact congrArg (fun z => anM n k al hi z (1)) (show 10 = 10 + 1 - 1 by omega)) (Nat.lt_succ_self _) H locs ls hP hD hS (lv_sub hl [0, 1, 2, 3, 4] rfl)
                  · -- 64 f
                    have fc_7 : 1 < lo := nf_nle (by omega) (by omega) c_7
                    refine lv_iload_n hx hb dX12_mayStay_67 rfl (lv_at hl 1 rfl) ?_
                    refine lv_goto (tgt := 72) hx hb dX12_mayStay_68 (by decide) ?_
                    refine lv_istore (lv' := [(4, .int (nI lo)), (3, .int (nI hi)), (2, .int (nI lo)), (0, .ref hm), (1, .int (nI j))]) hx hb dX12_mayStay_72 hl (by decide) rfl ?_
                    clear hl
                    try clear ls
                    intro ls hl
                    have hlo := (hlo9.trans (by have z : lo = 0 := by have := (nI_leI (by omega) (by decide)).mp c_4; omega
        rw [z]; rfl))
                    have hhi := (hhi9.trans (hi_e (fun q => by have := (nI_leI (by omega) (by omega)).mp c_6; omega)))
                    replace hS : (if 1 < lo then lo else 1) = lo := if_pos (Decidable.byContradiction (fun q => c_7 ((nI_leI (by omega) (by decide)).mpr (by omega))))
                    have loop_17 : ∀ (n_loop_17 : Nat) (o : Nat), (o ≤ 9) → (lo ≤ o) → (anM n k al hi 10 (if 1 < lo then lo else 1) = anM n k al hi (10 + lo - o) o) → 9 - o < n_loop_17 → ∀ (H : Heap) (locs : List Loc) (ls : Array Slot), va_P D vwCl [(hm, .inr (12, [.ref ms, .ref mkp, .int (nI km), .ref mtr, .int (nI n), .int (nI k), .int (nI al), .int (nI be), .int ea, .int pr, .ref mas, .int nq, .int po, .int (nI en), .ref mso, .ref mon, .ref mot, .ref man, .int th, .int xd, .ref mst, .ref msm, .ref mtb, .ref mti, .ref mfr, .ref mbn, .ref mbs, .ref mde, .int sF, .int sN, .int sS, .int ig, .long xa, .long xb, .ref maa, .ref mab, .ref mba, .ref mbb]))] H → va_D A [(hm, .inr (12, [.ref ms, .ref mkp, .int (nI km), .ref mtr, .int (nI n), .int (nI k), .int (nI al), .int (nI be), .int ea, .int pr, .ref mas, .int nq, .int po, .int (nI en), .ref mso, .ref mon, .ref mot, .ref man, .int th, .int xd, .ref mst, .ref msm, .ref mtb, .ref mti, .ref mfr, .ref mbn, .ref mbs, .ref mde, .int sF, .int sN, .int sS, .int ig, .long xa, .long xb, .ref maa, .ref mab, .ref mba, .ref mbb]))] → va_S A s.heap H locs → lv_has ls 5 [(4, .int (nI o)), (3, .int (nI hi)), (2, .int (nI lo)), (0, .ref hm), (1, .int (nI j))] → W p l e ({ frames := 3, cells := 0, slots := 0, locals := 69 } : Room) s m args below meth c H locs 0 0 (MQ below ((xQi D (fun (r : Int32) (_u : Unit) => PQ (msM n k al j = true) r (nI 1) (nI 0)) (fun (_u : Unit) => [(hm, .inr (12, [.ref ms, .ref mkp, .int (nI km), .ref mtr, .int (nI n), .int (nI k), .int (nI al), .int (nI be), .int ea, .int pr, .ref mas, .int nq, .int po, .int (nI en), .ref mso, .ref mon, .ref mot, .ref man, .int th, .int xd, .ref mst, .ref msm, .ref mtb, .ref mti, .ref mfr, .ref mbn, .ref mbs, .ref mde, .int sF, .int sN, .int sS, .int ig, .long xa, .long xb, .ref maa, .ref mab, .ref mba, .ref mbb]))])) A) args s 0 0 A) (F0 m 74 ls []) := by
                      intro n_loop_17
                      induction n_loop_17 with
                      | zero => intro o h_o hSo hs9 hlt H locs ls hP hD hS hl; exact absurd hlt (Nat.not_lt_zero _)
                      | succ n_loop_17 ih_loop_17 =>
                        intro o h_o hSo hs9 hlt_loop_17 H locs ls hP hD hS hl
                        refine lv_iload hx hb dX12_mayStay_74 (lv_at hl 0 rfl) ?_
                        refine lv_iload_n hx hb dX12_mayStay_76 rfl (lv_at hl 1 rfl) ?_
                        refine lv_icmp_gt (tgt := 119) hx hb dX12_mayStay_77 (by decide) (fun c_18 => ?_) (fun c_18 => ?_)
                        · -- 77 t
                          have fc_18 : hi < o := nf_lt (by omega) (by omega) c_18
                          refine lv_iconst (v := nI 0) hx hb dX12_mayStay_119 (by decide) ?_
                          exact xreti C () (Or.inr ⟨(by unfold msM; rw [if_neg (fun q => q.elim (fun z => c_1 (by rw [z]; rfl)) (fun z => c_2 (by rw [z]))), hhi, hlo, show anM n k al hi 10 _ = false from hs9.trans (an_e (fun q => by have z := c_18; have := (nI_ltI (by omega) (by omega)).mp z; omega))]; decide), rfl⟩) hP hD hS (Nat.le_of_ble_eq_true rfl) (Nat.le_of_ble_eq_true rfl) (by decide) dX12_mayStay_120
                        · -- 77 f
                          have fc_18 : o ≤ hi := nf_nlt (by omega) (by omega) c_18
                          refine lv_iload hx hb dX12_mayStay_80 (lv_at hl 0 rfl) ?_
                          refine lv_aload_n hx hb dX12_mayStay_82 rfl (lv_at hl 3 rfl) ?_
                          refine xget C hP 0 rfl rfl zuX12 4 (by decide) zw5_217 rfl dX12_mayStay_83 ?_
                          refine lv_icmp_ge (tgt := 119) hx hb dX12_mayStay_86 (by decide) (fun c_19 => ?_) (fun c_19 => ?_)
                          · -- 86 t
                            have fc_19 : n ≤ o := nf_le (by omega) (by omega) c_19
                            refine lv_iconst (v := nI 0) hx hb dX12_mayStay_119 (by decide) ?_
                            exact xreti C () (Or.inr ⟨(by unfold msM; rw [if_neg (fun q => q.elim (fun z => c_1 (by rw [z]; rfl)) (fun z => c_2 (by rw [z]))), hhi, hlo, show anM n k al hi 10 _ = false from hs9.trans (an_e (fun q => by have := (nI_leI (by omega) (by omega)).mp c_19; omega))]; decide), rfl⟩) hP hD hS (Nat.le_of_ble_eq_true rfl) (Nat.le_of_ble_eq_true rfl) (by decide) dX12_mayStay_120
                          · -- 86 f
                            have fc_19 : o < n := nf_nle (by omega) (by omega) c_19
                            refine lv_aload_n hx hb dX12_mayStay_89 rfl (lv_at hl 3 rfl) ?_
                            refine lv_iload hx hb dX12_mayStay_90 (lv_at hl 0 rfl) ?_
                            refine xl (wr := []) (xV (As := [.int (nI o)]) (rest := []) C (c_X12_up_f l D cs hm ms mkp mtr mas mso mon mot man mst msm mtb mti mfr mbn mbs mde maa mab mba mbb n k al be km en ea pr nq po th xd sF sN sS ig xa xb o hn hkn hal) kX12_280 hP hD [0] rfl (by decide) 0 rfl rfl rfl ⟨Nat.le_of_ble_eq_true rfl, Nat.le_of_ble_eq_true rfl⟩ rfl hl.1 rfl (Nat.le_of_ble_eq_true rfl) dX12_mayStay_92 ⟨Nat.le_of_ble_eq_true rfl, Nat.le_of_ble_eq_true rfl⟩) hP hD hS hA [0] [] rfl rfl (by decide) (by decide) ?_
                            clear hP hD hS
                            try clear locs
                            try clear H
                            intro r_20 u_21 H locs hw_r_20 hP hD hS
                            have hw_r_20 : r_20 = upM n k al o := hw_r_20
                            refine W.widen (k := 0) (n := 0) (Nat.le_of_ble_eq_true rfl) (Nat.le_of_ble_eq_true rfl) ?_
                            replace hP : va_P D vwCl [(hm, .inr (12, [.ref ms, .ref mkp, .int (nI km), .ref mtr, .int (nI n), .int (nI k), .int (nI al), .int (nI be), .int ea, .int pr, .ref mas, .int nq, .int po, .int (nI en), .ref mso, .ref mon, .ref mot, .ref man, .int th, .int xd, .ref mst, .ref msm, .ref mtb, .ref mti, .ref mfr, .ref mbn, .ref mbs, .ref mde, .int sF, .int sN, .int sS, .int ig, .long xa, .long xb, .ref maa, .ref mab, .ref mba, .ref mbb]))] H := hP
                            replace hD : va_D A [(hm, .inr (12, [.ref ms, .ref mkp, .int (nI km), .ref mtr, .int (nI n), .int (nI k), .int (nI al), .int (nI be), .int ea, .int pr, .ref mas, .int nq, .int po, .int (nI en), .ref mso, .ref mon, .ref mot, .ref man, .int th, .int xd, .ref mst, .ref msm, .ref mtb, .ref mti, .ref mfr, .ref mbn, .ref mbs, .ref mde, .int sF, .int sN, .int sS, .int ig, .long xa, .long xb, .ref maa, .ref mab, .ref mba, .ref mbb]))] := hD
                            obtain rfl : r_20 = upM n k al o := hw_r_20
                            refine lv_lconst (v := 0) hx hb dX12_mayStay_95 (by decide) ?_
                            refine W.lcmp hx hb dX12_mayStay_96 ?_
                            refine lv_if_ne (tgt := 113) hx hb dX12_mayStay_97 (by decide) (fun c_22 => ?_) (fun c_22 => ?_)
                            · -- 97 t
                              refine lv_iinc (v := nI (o + 1)) (lv' := [(4, .int (nI (o + 1))), (3, .int (nI hi)), (2, .int (nI lo)), (0, .ref hm), (1, .int (nI j))]) hx hb dX12_mayStay_113 hl (k := 0) rfl (nI_add o 1) (by decide) rfl ?_
                              clear hl
                              try clear ls
                              intro ls hl
                              refine lv_goto (tgt := 74) hx hb dX12_mayStay_116 (by decide) ?_
                              exact ih_loop_17 (o + 1) (by omega) (by omega) (hs9.trans (by rw [show 10 + lo - o = (10 + lo - (o + 1)) + 1 by omega]; exact an_s ⟨by omega, by omega⟩ (fun q => l_ne c_22 q.1))) (by omega) H locs ls hP hD hS (lv_sub hl [0, 1, 2, 3, 4] rfl)
                            · -- 97 f
                              refine lv_aload_n hx hb dX12_mayStay_100 rfl (lv_at hl 3 rfl) ?_
                              refine lv_iload hx hb dX12_mayStay_101 (lv_at hl 0 rfl) ?_
                              refine xl (wr := []) (xV (As := [.int (nI o)]) (rest := []) C (c_X12_down_f l D cs hm ms mkp mtr mas mso mon mot man mst msm mtb mti mfr mbn mbs mde maa mab mba mbb n k al be km en ea pr nq po th xd sF sN sS ig xa xb o hn hkn hal (by omega)) kX12_283 hP hD [0] rfl (by decide) 0 rfl rfl rfl ⟨Nat.le_of_ble_eq_true rfl, Nat.le_of_ble_eq_true rfl⟩ rfl hl.1 rfl (Nat.le_of_ble_eq_true rfl) dX12_mayStay_103 ⟨Nat.le_of_ble_eq_true rfl, Nat.le_of_ble_eq_true rfl⟩) hP hD hS hA [0] [] rfl rfl (by decide) (by decide) ?_
                              clear hP hD hS
                              try clear locs
                              try clear H
                              intro r_23 u_24 H locs hw_r_23 hP hD hS
                              have hw_r_23 : r_23 = dnM n k al o := hw_r_23
                              refine W.widen (k := 0) (n := 0) (Nat.le_of_ble_eq_true rfl) (Nat.le_of_ble_eq_true rfl) ?_
                              replace hP : va_P D vwCl [(hm, .inr (12, [.ref ms, .ref mkp, .int (nI km), .ref mtr, .int (nI n), .int (nI k), .int (nI al), .int (nI be), .int ea, .int pr, .ref mas, .int nq, .int po, .int (nI en), .ref mso, .ref mon, .ref mot, .ref man, .int th, .int xd, .ref mst, .ref msm, .ref mtb, .ref mti, .ref mfr, .ref mbn, .ref mbs, .ref mde, .int sF, .int sN, .int sS, .int ig, .long xa, .long xb, .ref maa, .ref mab, .ref mba, .ref mbb]))] H := hP
                              replace hD : va_D A [(hm, .inr (12, [.ref ms, .ref mkp, .int (nI km), .ref mtr, .int (nI n), .int (nI k), .int (nI al), .int (nI be), .int ea, .int pr, .ref mas, .int nq, .int po, .int (nI en), .ref mso, .ref mon, .ref mot, .ref man, .int th, .int xd, .ref mst, .ref msm, .ref mtb, .ref mti, .ref mfr, .ref mbn, .ref mbs, .ref mde, .int sF, .int sN, .int sS, .int ig, .long xa, .long xb, .ref maa, .ref mab, .ref mba, .ref mbb]))] := hD
                              obtain rfl : r_23 = dnM n k al o := hw_r_23
                              refine lv_lconst (v := 0) hx hb dX12_mayStay_106 (by decide) ?_
                              refine W.lcmp hx hb dX12_mayStay_107 ?_
                              refine lv_if_ne (tgt := 113) hx hb dX12_mayStay_108 (by decide) (fun c_25 => ?_) (fun c_25 => ?_)
                              · -- 108 t
                                refine lv_iinc (v := nI (o + 1)) (lv' := [(4, .int (nI (o + 1))), (3, .int (nI hi)), (2, .int (nI lo)), (0, .ref hm), (1, .int (nI j))]) hx hb dX12_mayStay_113 hl (k := 0) rfl (nI_add o 1) (by decide) rfl ?_
                                clear hl
                                try clear ls
                                intro ls hl
                                refine lv_goto (tgt := 74) hx hb dX12_mayStay_116 (by decide) ?_
                                exact ih_loop_17 (o + 1) (by omega) (by omega) (hs9.trans (by rw [show 10 + lo - o = (10 + lo - (o + 1)) + 1 by omega]; exact an_s ⟨by omega, by omega⟩ (fun q => l_ne c_25 q.2))) (by omega) H locs ls hP hD hS (lv_sub hl [0, 1, 2, 3, 4] rfl)
                              · -- 108 f
                                refine lv_iconst (v := nI 1) hx hb dX12_mayStay_111 (by decide) ?_
                                exact xreti C () (Or.inl ⟨(by unfold msM; rw [if_neg (fun q => q.elim (fun z => c_1 (by rw [z]; rfl)) (fun z => c_2 (by rw [z]))), hhi, hlo]; exact hs9.trans (by rw [show 10 + lo - o = (10 + lo - o - 1) + 1 by omega]; exact an_t ⟨by omega, by omega⟩ ⟨l_eq c_22, l_eq c_25⟩)), rfl⟩) hP hD hS (Nat.le_of_ble_eq_true rfl) (Nat.le_of_ble_eq_true rfl) (by decide) dX12_mayStay_112
                    exact loop_17 _ lo (by omega) (Nat.le_refl _) (by rw [hS]; exact congrArg (fun z => anM n k al hi z (lo)) (show 10 = 10 + lo - lo by omega)) (Nat.lt_succ_self _) H locs ls hP hD hS (lv_sub hl [0, 1, 2, 3, 4] rfl)
                · -- 43 f
                  have fc_6 : hi < n := nf_nle (by omega) (by omega) c_6
                  refine lv_aload_n hx hb dX12_mayStay_46 rfl (lv_at hl 2 rfl) ?_
                  refine lv_iload_n hx hb dX12_mayStay_47 rfl (lv_at hl 0 rfl) ?_
                  refine xl (wr := []) (xV (As := [.int (nI hi)]) (rest := []) C (c_X12_up_f l D cs hm ms mkp mtr mas mso mon mot man mst msm mtb mti mfr mbn mbs mde maa mab mba mbb n k al be km en ea pr nq po th xd sF sN sS ig xa xb hi hn hkn hal) kX12_280 hP hD [0] rfl (by decide) 0 rfl rfl rfl ⟨Nat.le_of_ble_eq_true rfl, Nat.le_of_ble_eq_true rfl⟩ rfl hl.1 rfl (Nat.le_of_ble_eq_true rfl) dX12_mayStay_48 ⟨Nat.le_of_ble_eq_true rfl, Nat.le_of_ble_eq_true rfl⟩) hP hD hS hA [0] [] rfl rfl (by decide) (by decide) ?_
                  clear hP hD hS
                  try clear locs
                  try clear H
                  intro r_26 u_27 H locs hw_r_26 hP hD hS
                  have hw_r_26 : r_26 = upM n k al hi := hw_r_26
                  refine W.widen (k := 0) (n := 0) (Nat.le_of_ble_eq_true rfl) (Nat.le_of_ble_eq_true rfl) ?_
                  replace hP : va_P D vwCl [(hm, .inr (12, [.ref ms, .ref mkp, .int (nI km), .ref mtr, .int (nI n), .int (nI k), .int (nI al), .int (nI be), .int ea, .int pr, .ref mas, .int nq, .int po, .int (nI en), .ref mso, .ref mon, .ref mot, .ref man, .int th, .int xd, .ref mst, .ref msm, .ref mtb, .ref mti, .ref mfr, .ref mbn, .ref mbs, .ref mde, .int sF, .int sN, .int sS, .int ig, .long xa, .long xb, .ref maa, .ref mab, .ref mba, .ref mbb]))] H := hP
                  replace hD : va_D A [(hm, .inr (12, [.ref ms, .ref mkp, .int (nI km), .ref mtr, .int (nI n), .int (nI k), .int (nI al), .int (nI be), .int ea, .int pr, .ref mas, .int nq, .int po, .int (nI en), .ref mso, .ref mon, .ref mot, .ref man, .int th, .int xd, .ref mst, .ref msm, .ref mtb, .ref mti, .ref mfr, .ref mbn, .ref mbs, .ref mde, .int sF, .int sN, .int sS, .int ig, .long xa, .long xb, .ref maa, .ref mab, .ref mba, .ref mbb]))] := hD
                  obtain rfl : r_26 = upM n k al hi := hw_r_26
                  refine lv_lconst (v := 0) hx hb dX12_mayStay_51 (by decide) ?_
                  refine W.lcmp hx hb dX12_mayStay_52 ?_
                  refine lv_if_le (tgt := 62) hx hb dX12_mayStay_53 (by decide) (fun c_28 => ?_) (fun c_28 => ?_)
                  · -- 53 t
                    refine lv_iload_n hx hb dX12_mayStay_62 rfl (lv_at hl 1 rfl) ?_
                    refine lv_iconst (v := nI 1) hx hb dX12_mayStay_63 (by decide) ?_
                    refine lv_icmp_le (tgt := 71) hx hb dX12_mayStay_64 (by decide) (fun c_29 => ?_) (fun c_29 => ?_)
                    · -- 64 t
                      have fc_29 : lo ≤ 1 := nf_le (by omega) (by omega) c_29
                      refine lv_iconst (v := nI 1) hx hb dX12_mayStay_71 (by decide) ?_
                      refine lv_istore (lv' := [(4, .int (nI 1)), (3, .int (nI hi)), (2, .int (nI lo)), (0, .ref hm), (1, .int (nI j))]) hx hb dX12_mayStay_72 hl (by decide) rfl ?_
                      clear hl
                      try clear ls
                      intro ls hl
                      have hlo := (hlo9.trans (by have z : lo = 0 := by have := (nI_leI (by omega) (by decide)).mp c_4; omega
        rw [z]; rfl))
                      have hhi := (hhi9.trans (hi_e (fun q => l_le0 c_28 q.2)))
                      replace hS : (if 1 < lo then lo else 1) = 1 := if_neg (by have := (nI_leI (by omega) (by decide)).mp c_29; omega)
                      have loop_30 : ∀ (n_loop_30 : Nat) (o : Nat), (o ≤ 9) → (1 ≤ o) → (anM n k al hi 10 (if 1 < lo then lo else 1) = anM n k al hi (10 + 1 - o) o) → 9 - o < n_loop_30 → ∀ (H : Heap) (locs : List Loc) (ls : Array Slot), va_P D vwCl [(hm, .inr (12, [.ref ms, .ref mkp, .int (nI km), .ref mtr, .int (nI n), .int (nI k), .int (nI al), .int (nI be), .int ea, .int pr, .ref mas, .int nq, .int po, .int (nI en), .ref mso, .ref mon, .ref mot, .ref man, .int th, .int xd, .ref mst, .ref msm, .ref mtb, .ref mti, .ref mfr, .ref mbn, .ref mbs, .ref mde, .int sF, .int sN, .int sS, .int ig, .long xa, .long xb, .ref maa, .ref mab, .ref mba, .ref mbb]))] H → va_D A [(hm, .inr (12, [.ref ms, .ref mkp, .int (nI km), .ref mtr, .int (nI n), .int (nI k), .int (nI al), .int (nI be), .int ea, .int pr, .ref mas, .int nq, .int po, .int (nI en), .ref mso, .ref mon, .ref mot, .ref man, .int th, .int xd, .ref mst, .ref msm, .ref mtb, .ref mti, .ref mfr, .ref mbn, .ref mbs, .ref mde, .int sF, .int sN, .int sS, .int ig, .long xa, .long xb, .ref maa, .ref mab, .ref mba, .ref mbb]))] → va_S A s.heap H locs → lv_has ls 5 [(4, .int (nI o)), (3, .int (nI hi)), (2, .int (nI lo)), (0, .ref hm), (1, .int (nI j))] → W p l e ({ frames := 3, cells := 0, slots := 0, locals := 69 } : Room) s m args below meth c H locs 0 0 (MQ below ((xQi D (fun (r : Int32) (_u : Unit) => PQ (msM n k al j = true) r (nI 1) (nI 0)) (fun (_u : Unit) => [(hm, .inr (12, [.ref ms, .ref mkp, .int (nI km), .ref mtr, .int (nI n), .int (nI k), .int (nI al), .int (nI be), .int ea, .int pr, .ref mas, .int nq, .int po, .int (nI en), .ref mso, .ref mon, .ref mot, .ref man, .int th, .int xd, .ref mst, .ref msm, .ref mtb, .ref mti, .ref mfr, .ref mbn, .ref mbs, .ref mde, .int sF, .int sN, .int sS, .int ig, .long xa, .long xb, .ref maa, .ref mab, .ref mba, .ref mbb]))])) A) args s 0 0 A) (F0 m 74 ls []) := by
                        intro n_loop_30
                        induction n_loop_30 with
                        | zero => intro o h_o hSo hs9 hlt H locs ls hP hD hS hl; exact absurd hlt (Nat.not_lt_zero _)
                        | succ n_loop_30 ih_loop_30 =>
                          intro o h_o hSo hs9 hlt_loop_30 H locs ls hP hD hS hl
                          refine lv_iload hx hb dX12_mayStay_74 (lv_at hl 0 rfl) ?_
                          refine lv_iload_n hx hb dX12_mayStay_76 rfl (lv_at hl 1 rfl) ?_
                          refine lv_icmp_gt (tgt := 119) hx hb dX12_mayStay_77 (by decide) (fun c_31 => ?_) (fun c_31 => ?_)
                          · -- 77 t
                            have fc_31 : hi < o := nf_lt (by omega) (by omega) c_31
                            refine lv_iconst (v := nI 0) hx hb dX12_mayStay_119 (by decide) ?_
                            exact xreti C () (Or.inr ⟨(by unfold msM; rw [if_neg (fun q => q.elim (fun z => c_1 (by rw [z]; rfl)) (fun z => c_2 (by rw [z]))), hhi, hlo, show anM n k al hi 10 _ = false from hs9.trans (an_e (fun q => by have z := c_31; have := (nI_ltI (by omega) (by omega)).mp z; omega))]; decide), rfl⟩) hP hD hS (Nat.le_of_ble_eq_true rfl) (Nat.le_of_ble_eq_true rfl) (by decide) dX12_mayStay_120
                          · -- 77 f
                            have fc_31 : o ≤ hi := nf_nlt (by omega) (by omega) c_31
                            refine lv_iload hx hb dX12_mayStay_80 (lv_at hl 0 rfl) ?_
                            refine lv_aload_n hx hb dX12_mayStay_82 rfl (lv_at hl 3 rfl) ?_
                            refine xget C hP 0 rfl rfl zuX12 4 (by decide) zw5_217 rfl dX12_mayStay_83 ?_
                            refine lv_icmp_ge (tgt := 119) hx hb dX12_mayStay_86 (by decide) (fun c_32 => ?_) (fun c_32 => ?_)
                            · -- 86 t
                              have fc_32 : n ≤ o := nf_le (by omega) (by omega) c_32
                              refine lv_iconst (v := nI 0) hx hb dX12_mayStay_119 (by decide) ?_
                              exact xreti C () (Or.inr ⟨(by unfold msM; rw [if_neg (fun q => q.elim (fun z => c_1 (by rw [z]; rfl)) (fun z => c_2 (by rw [z]))), hhi, hlo, show anM n k al hi 10 _ = false from hs9.trans (an_e (fun q => by have := (nI_leI (by omega) (by omega)).mp c_32; omega))]; decide), rfl⟩) hP hD hS (Nat.le_of_ble_eq_true rfl) (Nat.le_of_ble_eq_true rfl) (by decide) dX12_mayStay_120
                            · -- 86 f
                              have fc_32 : o < n := nf_nle (by omega) (by omega) c_32
                              refine lv_aload_n hx hb dX12_mayStay_89 rfl (lv_at hl 3 rfl) ?_
                              refine lv_iload hx hb dX12_mayStay_90 (lv_at hl 0 rfl) ?_
                              refine xl (wr := []) (xV (As := [.int (nI o)]) (rest := []) C (c_X12_up_f l D cs hm ms mkp mtr mas mso mon mot man mst msm mtb mti mfr mbn mbs mde maa mab mba mbb n k al be km en ea pr nq po th xd sF sN sS ig xa xb o hn hkn hal) kX12_280 hP hD [0] rfl (by decide) 0 rfl rfl rfl ⟨Nat.le_of_ble_eq_true rfl, Nat.le_of_ble_eq_true rfl⟩ rfl hl.1 rfl (Nat.le_of_ble_eq_true rfl) dX12_mayStay_92 ⟨Nat.le_of_ble_eq_true rfl, Nat.le_of_ble_eq_true rfl⟩) hP hD hS hA [0] [] rfl rfl (by decide) (by decide) ?_
                              clear hP hD hS
                              try clear locs
                              try clear H
                              intro r_33 u_34 H locs hw_r_33 hP hD hS
                              have hw_r_33 : r_33 = upM n k al o := hw_r_33
                              refine W.widen (k := 0) (n := 0) (Nat.le_of_ble_eq_true rfl) (Nat.le_of_ble_eq_true rfl) ?_
                              replace hP : va_P D vwCl [(hm, .inr (12, [.ref ms, .ref mkp, .int (nI km), .ref mtr, .int (nI n), .int (nI k), .int (nI al), .int (nI be), .int ea, .int pr, .ref mas, .int nq, .int po, .int (nI en), .ref mso, .ref mon, .ref mot, .ref man, .int th, .int xd, .ref mst, .ref msm, .ref mtb, .ref mti, .ref mfr, .ref mbn, .ref mbs, .ref mde, .int sF, .int sN, .int sS, .int ig, .long xa, .long xb, .ref maa, .ref mab, .ref mba, .ref mbb]))] H := hP
                              replace hD : va_D A [(hm, .inr (12, [.ref ms, .ref mkp, .int (nI km), .ref mtr, .int (nI n), .int (nI k), .int (nI al), .int (nI be), .int ea, .int pr, .ref mas, .int nq, .int po, .int (nI en), .ref mso, .ref mon, .ref mot, .ref man, .int th, .int xd, .ref mst, .ref msm, .ref mtb, .ref mti, .ref mfr, .ref mbn, .ref mbs, .ref mde, .int sF, .int sN, .int sS, .int ig, .long xa, .long xb, .ref maa, .ref mab, .ref mba, .ref mbb]))] := hD
                              obtain rfl : r_33 = upM n k al o := hw_r_33
                              refine lv_lconst (v := 0) hx hb dX12_mayStay_95 (by decide) ?_
                              refine W.lcmp hx hb dX12_mayStay_96 ?_
                              refine lv_if_ne (tgt := 113) hx hb dX12_mayStay_97 (by decide) (fun c_35 => ?_) (fun c_35 => ?_)
                              · -- 97 t
                                refine lv_iinc (v := nI (o + 1)) (lv' := [(4, .int (nI (o + 1))), (3, .int (nI hi)), (2, .int (nI lo)), (0, .ref hm), (1, .int (nI j))]) hx hb dX12_mayStay_113 hl (k := 0) rfl (nI_add o 1) (by decide) rfl ?_
                                clear hl
                                try clear ls
                                intro ls hl
                                refine lv_goto (tgt := 74) hx hb dX12_mayStay_116 (by decide) ?_
                                exact ih_loop_30 (o + 1) (by omega) (by omega) (hs9.trans (by rw [show 10 + 1 - o = (10 + 1 - (o + 1)) + 1 by omega]; exact an_s ⟨by omega, by omega⟩ (fun q => l_ne c_35 q.1))) (by omega) H locs ls hP hD hS (lv_sub hl [0, 1, 2, 3, 4] rfl)
                              · -- 97 f
                                refine lv_aload_n hx hb dX12_mayStay_100 rfl (lv_at hl 3 rfl) ?_
                                refine lv_iload hx hb dX12_mayStay_101 (lv_at hl 0 rfl) ?_
                                refine xl (wr := []) (xV (As := [.int (nI o)]) (rest := []) C (c_X12_down_f l D cs hm ms mkp mtr mas mso mon mot man mst msm mtb mti mfr mbn mbs mde maa mab mba mbb n k al be km en ea pr nq po th xd sF sN sS ig xa xb o hn hkn hal (by omega)) kX12_283 hP hD [0] rfl (by decide) 0 rfl rfl rfl ⟨Nat.le_of_ble_eq_true rfl, Nat.le_of_ble_eq_true rfl⟩ rfl hl.1 rfl (Nat.le_of_ble_eq_true rfl) dX12_mayStay_103 ⟨Nat.le_of_ble_eq_true rfl, Nat.le_of_ble_eq_true rfl⟩) hP hD hS hA [0] [] rfl rfl (by decide) (by decide) ?_
                                clear hP hD hS
                                try clear locs
                                try clear H
                                intro r_36 u_37 H locs hw_r_36 hP hD hS
                                have hw_r_36 : r_36 = dnM n k al o := hw_r_36
                                refine W.widen (k := 0) (n := 0) (Nat.le_of_ble_eq_true rfl) (Nat.le_of_ble_eq_true rfl) ?_
                                replace hP : va_P D vwCl [(hm, .inr (12, [.ref ms, .ref mkp, .int (nI km), .ref mtr, .int (nI n), .int (nI k), .int (nI al), .int (nI be), .int ea, .int pr, .ref mas, .int nq, .int po, .int (nI en), .ref mso, .ref mon, .ref mot, .ref man, .int th, .int xd, .ref mst, .ref msm, .ref mtb, .ref mti, .ref mfr, .ref mbn, .ref mbs, .ref mde, .int sF, .int sN, .int sS, .int ig, .long xa, .long xb, .ref maa, .ref mab, .ref mba, .ref mbb]))] H := hP
                                replace hD : va_D A [(hm, .inr (12, [.ref ms, .ref mkp, .int (nI km), .ref mtr, .int (nI n), .int (nI k), .int (nI al), .int (nI be), .int ea, .int pr, .ref mas, .int nq, .int po, .int (nI en), .ref mso, .ref mon, .ref mot, .ref man, .int th, .int xd, .ref mst, .ref msm, .ref mtb, .ref mti, .ref mfr, .ref mbn, .ref mbs, .ref mde, .int sF, .int sN, .int sS, .int ig, .long xa, .long xb, .ref maa, .ref mab, .ref mba, .ref mbb]))] := hD
                                obtain rfl : r_36 = dnM n k al o := hw_r_36
                                refine lv_lconst (v := 0) hx hb dX12_mayStay_106 (by decide) ?_
                                refine W.lcmp hx hb dX12_mayStay_107 ?_
                                refine lv_if_ne (tgt := 113) hx hb dX12_mayStay_108 (by decide) (fun c_38 => ?_) (fun c_38 => ?_)
                                · -- 108 t
                                  refine lv_iinc (v := nI (o + 1)) (lv' := [(4, .int (nI (o + 1))), (3, .int (nI hi)), (2, .int (nI lo)), (0, .ref hm), (1, .int (nI j))]) hx hb dX12_mayStay_113 hl (k := 0) rfl (nI_add o 1) (by decide) rfl ?_
                                  clear hl
                                  try clear ls
                                  intro ls hl
                                  refine lv_goto (tgt := 74) hx hb dX12_mayStay_116 (by decide) ?_
                                  exact ih_loop_30 (o + 1) (by omega) (by omega) (hs9.trans (by rw [show 10 + 1 - o = (10 + 1 - (o + 1)) + 1 by omega]; exact an_s ⟨by omega, by omega⟩ (fun q => l_ne c_38 q.2))) (by omega) H locs ls hP hD hS (lv_sub hl [0, 1, 2, 3, 4] rfl)
                                · -- 108 f
                                  refine lv_iconst (v := nI 1) hx hb dX12_mayStay_111 (by decide) ?_
                                  exact xreti C () (Or.inl ⟨(by unfold msM; rw [if_neg (fun q => q.elim (fun z => c_1 (by rw [z]; rfl)) (fun z => c_2 (by rw [z]))), hhi, hlo]; exact hs9.trans (by rw [show 10 + 1 - o = (10 + 1 - o - 1) + 1 by omega]; exact an_t ⟨by omega, by omega⟩ ⟨l_eq c_35, l_eq c_38⟩)), rfl⟩) hP hD hS (Nat.le_of_ble_eq_true rfl) (Nat.le_of_ble_eq_true rfl) (by decide) dX12_mayStay_112
                      exact loop_30 _ 1 (by omega) (Nat.le_refl _) (by rw [hS]; exact congrArg (fun z => anM n k al hi z (1)) (show 10 = 10 + 1 - 1 by omega)) (Nat.lt_succ_self _) H locs ls hP hD hS (lv_sub hl [0, 1, 2, 3, 4] rfl)
                    · -- 64 f
                      have fc_29 : 1 < lo := nf_nle (by omega) (by omega) c_29
                      refine lv_iload_n hx hb dX12_mayStay_67 rfl (lv_at hl 1 rfl) ?_
                      refine lv_goto (tgt := 72) hx hb dX12_mayStay_68 (by decide) ?_
                      refine lv_istore (lv' := [(4, .int (nI lo)), (3, .int (nI hi)), (2, .int (nI lo)), (0, .ref hm), (1, .int (nI j))]) hx hb dX12_mayStay_72 hl (by decide) rfl ?_
                      clear hl
                      try clear ls
                      intro ls hl
                      have hlo := (hlo9.trans (by have z : lo = 0 := by have := (nI_leI (by omega) (by decide)).mp c_4; omega
        rw [z]; rfl))
                      have hhi := (hhi9.trans (hi_e (fun q => l_le0 c_28 q.2)))
                      replace hS : (if 1 < lo then lo else 1) = lo := if_pos (Decidable.byContradiction (fun q => c_29 ((nI_leI (by omega) (by decide)).mpr (by omega))))
                      have loop_39 : ∀ (n_loop_39 : Nat) (o : Nat), (o ≤ 9) → (lo ≤ o) → (anM n k al hi 10 (if 1 < lo then lo else 1) = anM n k al hi (10 + lo - o) o) → 9 - o < n_loop_39 → ∀ (H : Heap) (locs : List Loc) (ls : Array Slot), va_P D vwCl [(hm, .inr (12, [.ref ms, .ref mkp, .int (nI km), .ref mtr, .int (nI n), .int (nI k), .int (nI al), .int (nI be), .int ea, .int pr, .ref mas, .int nq, .int po, .int (nI en), .ref mso, .ref mon, .ref mot, .ref man, .int th, .int xd, .ref mst, .ref msm, .ref mtb, .ref mti, .ref mfr, .ref mbn, .ref mbs, .ref mde, .int sF, .int sN, .int sS, .int ig, .long xa, .long xb, .ref maa, .ref mab, .ref mba, .ref mbb]))] H → va_D A [(hm, .inr (12, [.ref ms, .ref mkp, .int (nI km), .ref mtr, .int (nI n), .int (nI k), .int (nI al), .int (nI be), .int ea, .int pr, .ref mas, .int nq, .int po, .int (nI en), .ref mso, .ref mon, .ref mot, .ref man, .int th, .int xd, .ref mst, .ref msm, .ref mtb, .ref mti, .ref mfr, .ref mbn, .ref mbs, .ref mde, .int sF, .int sN, .int sS, .int ig, .long xa, .long xb, .ref maa, .ref mab, .ref mba, .ref mbb]))] → va_S A s.heap H locs → lv_has ls 5 [(4, .int (nI o)), (3, .int (nI hi)), (2, .int (nI lo)), (0, .ref hm), (1, .int (nI j))] → W p l e ({ frames := 3, cells := 0, slots := 0, locals := 69 } : Room) s m args below meth c H locs 0 0 (MQ below ((xQi D (fun (r : Int32) (_u : Unit) => PQ (msM n k al j = true) r (nI 1) (nI 0)) (fun (_u : Unit) => [(hm, .inr (12, [.ref ms, .ref mkp, .int (nI km), .ref mtr, .int (nI n), .int (nI k), .int (nI al), .int (nI be), .int ea, .int pr, .ref mas, .int nq, .int po, .int (nI en), .ref mso, .ref mon, .ref mot, .ref man, .int th, .int xd, .ref mst, .ref msm, .ref mtb, .ref mti, .ref mfr, .ref mbn, .ref mbs, .ref mde, .int sF, .int sN, .int sS, .int ig, .long xa, .long xb, .ref maa, .ref mab, .ref mba, .ref mbb]))])) A) args s 0 0 A) (F0 m 74 ls []) := by
                        intro n_loop_39
                        induction n_loop_39 with
                        | zero => intro o h_o hSo hs9 hlt H locs ls hP hD hS hl; exact absurd hlt (Nat.not_lt_zero _)
                        | succ n_loop_39 ih_loop_39 =>
                          intro o h_o hSo hs9 hlt_loop_39 H locs ls hP hD hS hl
                          refine lv_iload hx hb dX12_mayStay_74 (lv_at hl 0 rfl) ?_
                          refine lv_iload_n hx hb dX12_mayStay_76 rfl (lv_at hl 1 rfl) ?_
                          refine lv_icmp_gt (tgt := 119) hx hb dX12_mayStay_77 (by decide) (fun c_40 => ?_) (fun c_40 => ?_)
                          · -- 77 t
                            have fc_40 : hi < o := nf_lt (by omega) (by omega) c_40
                            refine lv_iconst (v := nI 0) hx hb dX12_mayStay_119 (by decide) ?_
                            exact xreti C () (Or.inr ⟨(by unfold msM; rw [if_neg (fun q => q.elim (fun z => c_1 (by rw [z]; rfl)) (fun z => c_2 (by rw [z]))), hhi, hlo, show anM n k al hi 10 _ = false from hs9.trans (an_e (fun q => by have z := c_40; have := (nI_ltI (by omega) (by omega)).mp z; omega))]; decide), rfl⟩) hP hD hS (Nat.le_of_ble_eq_true rfl) (Nat.le_of_ble_eq_true rfl) (by decide) dX12_mayStay_120
                          · -- 77 f
                            have fc_40 : o ≤ hi := nf_nlt (by omega) (by omega) c_40
                            refine lv_iload hx hb dX12_mayStay_80 (lv_at hl 0 rfl) ?_
                            refine lv_aload_n hx hb dX12_mayStay_82 rfl (lv_at hl 3 rfl) ?_
                            refine xget C hP 0 rfl rfl zuX12 4 (by decide) zw5_217 rfl dX12_mayStay_83 ?_
                            refine lv_icmp_ge (tgt := 119) hx hb dX12_mayStay_86 (by decide) (fun c_41 => ?_) (fun c_41 => ?_)
                            · -- 86 t
                              have fc_41 : n ≤ o := nf_le (by omega) (by omega) c_41
                              refine lv_iconst (v := nI 0) hx hb dX12_mayStay_119 (by decide) ?_
                              exact xreti C () (Or.inr ⟨(by unfold msM; rw [if_neg (fun q => q.elim (fun z => c_1 (by rw [z]; rfl)) (fun z => c_2 (by rw [z]))), hhi, hlo, show anM n k al hi 10 _ = false from hs9.trans (an_e (fun q => by have := (nI_leI (by omega) (by omega)).mp c_41; omega))]; decide), rfl⟩) hP hD hS (Nat.le_of_ble_eq_true rfl) (Nat.le_of_ble_eq_true rfl) (by decide) dX12_mayStay_120
                            · -- 86 f
                              have fc_41 : o < n := nf_nle (by omega) (by omega) c_41
                              refine lv_aload_n hx hb dX12_mayStay_89 rfl (lv_at hl 3 rfl) ?_
                              refine lv_iload hx hb dX12_mayStay_90 (lv_at hl 0 rfl) ?_
                              refine xl (wr := []) (xV (As := [.int (nI o)]) (rest := []) C (c_X12_up_f l D cs hm ms mkp mtr mas mso mon mot man mst msm mtb mti mfr mbn mbs mde maa mab mba mbb n k al be km en ea pr nq po th xd sF sN sS ig xa xb o hn hkn hal) kX12_280 hP hD [0] rfl (by decide) 0 rfl rfl rfl ⟨Nat.le_of_ble_eq_true rfl, Nat.le_of_ble_eq_true rfl⟩ rfl hl.1 rfl (Nat.le_of_ble_eq_true rfl) dX12_mayStay_92 ⟨Nat.le_of_ble_eq_true rfl, Nat.le_of_ble_eq_true rfl⟩) hP hD hS hA [0] [] rfl rfl (by decide) (by decide) ?_
                              clear hP hD hS
                              try clear locs
                              try clear H
                              intro r_42 u_43 H locs hw_r_42 hP hD hS
                              have hw_r_42 : r_42 = upM n k al o := hw_r_42
                              refine W.widen (k := 0) (n := 0) (Nat.le_of_ble_eq_true rfl) (Nat.le_of_ble_eq_true rfl) ?_
                              replace hP : va_P D vwCl [(hm, .inr (12, [.ref ms, .ref mkp, .int (nI km), .ref mtr, .int (nI n), .int (nI k), .int (nI al), .int (nI be), .int ea, .int pr, .ref mas, .int nq, .int po, .int (nI en), .ref mso, .ref mon, .ref mot, .ref man, .int th, .int xd, .ref mst, .ref msm, .ref mtb, .ref mti, .ref mfr, .ref mbn, .ref mbs, .ref mde, .int sF, .int sN, .int sS, .int ig, .long xa, .long xb, .ref maa, .ref mab, .ref mba, .ref mbb]))] H := hP
                              replace hD : va_D A [(hm, .inr (12, [.ref ms, .ref mkp, .int (nI km), .ref mtr, .int (nI n), .int (nI k), .int (nI al), .int (nI be), .int ea, .int pr, .ref mas, .int nq, .int po, .int (nI en), .ref mso, .ref mon, .ref mot, .ref man, .int th, .int xd, .ref mst, .ref msm, .ref mtb, .ref mti, .ref mfr, .ref mbn, .ref mbs, .ref mde, .int sF, .int sN, .int sS, .int ig, .long xa, .long xb, .ref maa, .ref mab, .ref mba, .ref mbb]))] := hD
                              obtain rfl : r_42 = upM n k al o := hw_r_42
                              refine lv_lconst (v := 0) hx hb dX12_mayStay_95 (by decide) ?_
                              refine W.lcmp hx hb dX12_mayStay_96 ?_
                              refine lv_if_ne (tgt := 113) hx hb dX12_mayStay_97 (by decide) (fun c_44 => ?_) (fun c_44 => ?_)
                              · -- 97 t
                                refine lv_iinc (v := nI (o + 1)) (lv' := [(4, .int (nI (o + 1))), (3, .int (nI hi)), (2, .int (nI lo)), (0, .ref hm), (1, .int (nI j))]) hx hb dX12_mayStay_113 hl (k := 0) rfl (nI_add o 1) (by decide) rfl ?_
                                clear hl
                                try clear ls
                                intro ls hl
                                refine lv_goto (tgt := 74) hx hb dX12_mayStay_116 (by decide) ?_
                                exact ih_loop_39 (o + 1) (by omega) (by omega) (hs9.trans (by rw [show 10 + lo - o = (10 + lo - (o + 1)) + 1 by omega]; exact an_s ⟨by omega, by omega⟩ (fun q => l_ne c_44 q.1))) (by omega) H locs ls hP hD hS (lv_sub hl [0, 1, 2, 3, 4] rfl)
                              · -- 97 f
                                refine lv_aload_n hx hb dX12_mayStay_100 rfl (lv_at hl 3 rfl) ?_
                                refine lv_iload hx hb dX12_mayStay_101 (lv_at hl 0 rfl) ?_
                                refine xl (wr := []) (xV (As := [.int (nI o)]) (rest := []) C (c_X12_down_f l D cs hm ms mkp mtr mas mso mon mot man mst msm mtb mti mfr mbn mbs mde maa mab mba mbb n k al be km en ea pr nq po th xd sF sN sS ig xa xb o hn hkn hal (by omega)) kX12_283 hP hD [0] rfl (by decide) 0 rfl rfl rfl ⟨Nat.le_of_ble_eq_true rfl, Nat.le_of_ble_eq_true rfl⟩ rfl hl.1 rfl (Nat.le_of_ble_eq_true rfl) dX12_mayStay_103 ⟨Nat.le_of_ble_eq_true rfl, Nat.le_of_ble_eq_true rfl⟩) hP hD hS hA [0] [] rfl rfl (by decide) (by decide) ?_
                                clear hP hD hS
                                try clear locs
                                try clear H
                                intro r_45 u_46 H locs hw_r_45 hP hD hS
                                have hw_r_45 : r_45 = dnM n k al o := hw_r_45
                                refine W.widen (k := 0) (n := 0) (Nat.le_of_ble_eq_true rfl) (Nat.le_of_ble_eq_true rfl) ?_
                                replace hP : va_P D vwCl [(hm, .inr (12, [.ref ms, .ref mkp, .int (nI km), .ref mtr, .int (nI n), .int (nI k), .int (nI al), .int (nI be), .int ea, .int pr, .ref mas, .int nq, .int po, .int (nI en), .ref mso, .ref mon, .ref mot, .ref man, .int th, .int xd, .ref mst, .ref msm, .ref mtb, .ref mti, .ref mfr, .ref mbn, .ref mbs, .ref mde, .int sF, .int sN, .int sS, .int ig, .long xa, .long xb, .ref maa, .ref mab, .ref mba, .ref mbb]))] H := hP
                                replace hD : va_D A [(hm, .inr (12, [.ref ms, .ref mkp, .int (nI km), .ref mtr, .int (nI n), .int (nI k), .int (nI al), .int (nI be), .int ea, .int pr, .ref mas, .int nq, .int po, .int (nI en), .ref mso, .ref mon, .ref mot, .ref man, .int th, .int xd, .ref mst, .ref msm, .ref mtb, .ref mti, .ref mfr, .ref mbn, .ref mbs, .ref mde, .int sF, .int sN, .int sS, .int ig, .long xa, .long xb, .ref maa, .ref mab, .ref mba, .ref mbb]))] := hD
                                obtain rfl : r_45 = dnM n k al o := hw_r_45
                                refine lv_lconst (v := 0) hx hb dX12_mayStay_106 (by decide) ?_
                                refine W.lcmp hx hb dX12_mayStay_107 ?_
                                refine lv_if_ne (tgt := 113) hx hb dX12_mayStay_108 (by decide) (fun c_47 => ?_) (fun c_47 => ?_)
                                · -- 108 t
                                  refine lv_iinc (v := nI (o + 1)) (lv' := [(4, .int (nI (o + 1))), (3, .int (nI hi)), (2, .int (nI lo)), (0, .ref hm), (1, .int (nI j))]) hx hb dX12_mayStay_113 hl (k := 0) rfl (nI_add o 1) (by decide) rfl ?_
                                  clear hl
                                  try clear ls
                                  intro ls hl
                                  refine lv_goto (tgt := 74) hx hb dX12_mayStay_116 (by decide) ?_
                                  exact ih_loop_39 (o + 1) (by omega) (by omega) (hs9.trans (by rw [show 10 + lo - o = (10 + lo - (o + 1)) + 1 by omega]; exact an_s ⟨by omega, by omega⟩ (fun q => l_ne c_47 q.2))) (by omega) H locs ls hP hD hS (lv_sub hl [0, 1, 2, 3, 4] rfl)
                                · -- 108 f
                                  refine lv_iconst (v := nI 1) hx hb dX12_mayStay_111 (by decide) ?_
                                  exact xreti C () (Or.inl ⟨(by unfold msM; rw [if_neg (fun q => q.elim (fun z => c_1 (by rw [z]; rfl)) (fun z => c_2 (by rw [z]))), hhi, hlo]; exact hs9.trans (by rw [show 10 + lo - o = (10 + lo - o - 1) + 1 by omega]; exact an_t ⟨by omega, by omega⟩ ⟨l_eq c_44, l_eq c_47⟩)), rfl⟩) hP hD hS (Nat.le_of_ble_eq_true rfl) (Nat.le_of_ble_eq_true rfl) (by decide) dX12_mayStay_112
                      exact loop_39 _ lo (by omega) (Nat.le_refl _) (by rw [hS]; exact congrArg (fun z => anM n k al hi z (lo)) (show 10 = 10 + lo - lo by omega)) (Nat.lt_succ_self _) H locs ls hP hD hS (lv_sub hl [0, 1, 2, 3, 4] rfl)
                  · -- 53 f
                    refine lv_iinc (v := nI (hi + 1)) (lv' := [(3, .int (nI (hi + 1))), (2, .int (nI lo)), (0, .ref hm), (1, .int (nI j))]) hx hb dX12_mayStay_56 hl (k := 0) rfl (nI_add hi 1) (by decide) rfl ?_
                    clear hl
                    try clear ls
                    intro ls hl
                    refine lv_goto (tgt := 38) hx hb dX12_mayStay_59 (by decide) ?_
                    exact ih_loop_5 (hi + 1) (by omega) (by omega) (hhi9.trans (by rw [show 10 + j - hi = (10 + j - (hi + 1)) + 1 by omega]; exact hi_s (by omega) (l_nle0 c_28))) (by omega) H locs ls hP hD hS (lv_sub hl [0, 1, 2, 3] rfl)
            exact loop_5 _ j (by omega) (Nat.le_refl _) (congrArg (fun z => hiM n k al z j) (show 10 = 10 + j - j by omega)) (Nat.lt_succ_self _) H locs ls hP hD hS (lv_sub hl [0, 1, 2, 3] rfl)
          · -- 17 f
            have fc_4 : 0 < lo := nf_nle (by omega) (by omega) c_4
            refine lv_aload_n hx hb dX12_mayStay_20 rfl (lv_at hl 1 rfl) ?_
            refine lv_iload_n hx hb dX12_mayStay_21 rfl (lv_at hl 0 rfl) ?_
            refine xl (wr := []) (xV (As := [.int (nI lo)]) (rest := []) C (c_X12_down_f l D cs hm ms mkp mtr mas mso mon mot man mst msm mtb mti mfr mbn mbs mde maa mab mba mbb n k al be km en ea pr nq po th xd sF sN sS ig xa xb lo hn hkn hal (by omega)) kX12_283 hP hD [0] rfl (by decide) 0 rfl rfl rfl ⟨Nat.le_of_ble_eq_true rfl, Nat.le_of_ble_eq_true rfl⟩ rfl hl.1 rfl (Nat.le_of_ble_eq_true rfl) dX12_mayStay_22 ⟨Nat.le_of_ble_eq_true rfl, Nat.le_of_ble_eq_true rfl⟩) hP hD hS hA [0] [] rfl rfl (by decide) (by decide) ?_
            clear hP hD hS
            try clear locs
            try clear H
            intro r_48 u_49 H locs hw_r_48 hP hD hS
            have hw_r_48 : r_48 = dnM n k al lo := hw_r_48
            refine W.widen (k := 0) (n := 0) (Nat.le_of_ble_eq_true rfl) (Nat.le_of_ble_eq_true rfl) ?_
            replace hP : va_P D vwCl [(hm, .inr (12, [.ref ms, .ref mkp, .int (nI km), .ref mtr, .int (nI n), .int (nI k), .int (nI al), .int (nI be), .int ea, .int pr, .ref mas, .int nq, .int po, .int (nI en), .ref mso, .ref mon, .ref mot, .ref man, .int th, .int xd, .ref mst, .ref msm, .ref mtb, .ref mti, .ref mfr, .ref mbn, .ref mbs, .ref mde, .int sF, .int sN, .int sS, .int ig, .long xa, .long xb, .ref maa, .ref mab, .ref mba, .ref mbb]))] H := hP
            replace hD : va_D A [(hm, .inr (12, [.ref ms, .ref mkp, .int (nI km), .ref mtr, .int (nI n), .int (nI k), .int (nI al), .int (nI be), .int ea, .int pr, .ref mas, .int nq, .int po, .int (nI en), .ref mso, .ref mon, .ref mot, .ref man, .int th, .int xd, .ref mst, .ref msm, .ref mtb, .ref mti, .ref mfr, .ref mbn, .ref mbs, .ref mde, .int sF, .int sN, .int sS, .int ig, .long xa, .long xb, .ref maa, .ref mab, .ref mba, .ref mbb]))] := hD
            obtain rfl : r_48 = dnM n k al lo := hw_r_48
            refine lv_lconst (v := 0) hx hb dX12_mayStay_25 (by decide) ?_
            refine W.lcmp hx hb dX12_mayStay_26 ?_
            refine lv_if_le (tgt := 36) hx hb dX12_mayStay_27 (by decide) (fun c_50 => ?_) (fun c_50 => ?_)
            · -- 27 t
              refine lv_iload_n hx hb dX12_mayStay_36 rfl (lv_at hl 2 rfl) ?_
              refine lv_istore_n (lv' := [(3, .int (nI j)), (2, .int (nI lo)), (0, .ref hm), (1, .int (nI j))]) hx hb dX12_mayStay_37 rfl hl (by decide) rfl ?_
              clear hl
              try clear ls
              intro ls hl
              have loop_51 : ∀ (n_loop_51 : Nat) (hi : Nat), (hi ≤ n) → (j ≤ hi) → (hiM n k al 10 j = hiM n k al (10 + j - hi) hi) → n - hi < n_loop_51 → ∀ (H : Heap) (locs : List Loc) (ls : Array Slot), va_P D vwCl [(hm, .inr (12, [.ref ms, .ref mkp, .int (nI km), .ref mtr, .int (nI n), .int (nI k), .int (nI al), .int (nI be), .int ea, .int pr, .ref mas, .int nq, .int po, .int (nI en), .ref mso, .ref mon, .ref mot, .ref man, .int th, .int xd, .ref mst, .ref msm, .ref mtb, .ref mti, .ref mfr, .ref mbn, .ref mbs, .ref mde, .int sF, .int sN, .int sS, .int ig, .long xa, .long xb, .ref maa, .ref mab, .ref mba, .ref mbb]))] H → va_D A [(hm, .inr (12, [.ref ms, .ref mkp, .int (nI km), .ref mtr, .int (nI n), .int (nI k), .int (nI al), .int (nI be), .int ea, .int pr, .ref mas, .int nq, .int po, .int (nI en), .ref mso, .ref mon, .ref mot, .ref man, .int th, .int xd, .ref mst, .ref msm, .ref mtb, .ref mti, .ref mfr, .ref mbn, .ref mbs, .ref mde, .int sF, .int sN, .int sS, .int ig, .long xa, .long xb, .ref maa, .ref mab, .ref mba, .ref mbb]))] → va_S A s.heap H locs → lv_has ls 5 [(3, .int (nI hi)), (2, .int (nI lo)), (0, .ref hm), (1, .int (nI j))] → W p l e ({ frames := 3, cells := 0, slots := 0, locals := 69 } : Room) s m args below meth c H locs 0 0 (MQ below ((xQi D (fun (r : Int32) (_u : Unit) => PQ (msM n k al j = true) r (nI 1) (nI 0)) (fun (_u : Unit) => [(hm, .inr (12, [.ref ms, .ref mkp, .int (nI km), .ref mtr, .int (nI n), .int (nI k), .int (nI al), .int (nI be), .int ea, .int pr, .ref mas, .int nq, .int po, .int (nI en), .ref mso, .ref mon, .ref mot, .ref man, .int th, .int xd, .ref mst, .ref msm, .ref mtb, .ref mti, .ref mfr, .ref mbn, .ref mbs, .ref mde, .int sF, .int sN, .int sS, .int ig, .long xa, .long xb, .ref maa, .ref mab, .ref mba, .ref mbb]))])) A) args s 0 0 A) (F0 m 38 ls []) := by
                intro n_loop_51
                induction n_loop_51 with
                | zero => intro hi h_hi hjh hhi9 hlt H locs ls hP hD hS hl; exact absurd hlt (Nat.not_lt_zero _)
                | succ n_loop_51 ih_loop_51 =>
                  intro hi h_hi hjh hhi9 hlt_loop_51 H locs ls hP hD hS hl
                  refine lv_iload_n hx hb dX12_mayStay_38 rfl (lv_at hl 0 rfl) ?_
                  refine lv_aload_n hx hb dX12_mayStay_39 rfl (lv_at hl 2 rfl) ?_
                  refine xget C hP 0 rfl rfl zuX12 4 (by decide) zw5_217 rfl dX12_mayStay_40 ?_
                  refine lv_icmp_ge (tgt := 62) hx hb dX12_mayStay_43 (by decide) (fun c_52 => ?_) (fun c_52 => ?_)
                  · -- 43 t
                    have fc_52 : n ≤ hi := nf_le (by omega) (by omega) c_52
                    refine lv_iload_n hx hb dX12_mayStay_62 rfl (lv_at hl 1 rfl) ?_
                    refine lv_iconst (v := nI 1) hx hb dX12_mayStay_63 (by decide) ?_
                    refine lv_icmp_le (tgt := 71) hx hb dX12_mayStay_64 (by decide) (fun c_53 => ?_) (fun c_53 => ?_)
                    · -- 64 t
                      have fc_53 : lo ≤ 1 := nf_le (by omega) (by omega) c_53
                      refine lv_iconst (v := nI 1) hx hb dX12_mayStay_71 (by decide) ?_
                      refine lv_istore (lv' := [(4, .int (nI 1)), (3, .int (nI hi)), (2, .int (nI lo)), (0, .ref hm), (1, .int (nI j))]) hx hb dX12_mayStay_72 hl (by decide) rfl ?_
                      clear hl
                      try clear ls
                      intro ls hl
                      have hlo := (hlo9.trans (lo_e (l_le0 c_50)))
                      have hhi := (hhi9.trans (hi_e (fun q => by have := (nI_leI (by omega) (by omega)).mp c_52; omega)))
                      replace hS : (if 1 < lo then lo else 1) = 1 := if_neg (by have := (nI_leI (by omega) (by decide)).mp c_53; omega)
                      have loop_54 : ∀ (n_loop_54 : Nat) (o : Nat), (o ≤ 9) → (1 ≤ o) → (anM n k al hi 10 (if 1 < lo then lo else 1) = anM n k al hi (10 + 1 - o) o) → 9 - o < n_loop_54 → ∀ (H : Heap) (locs : List Loc) (ls : Array Slot), va_P D vwCl [(hm, .inr (12, [.ref ms, .ref mkp, .int (nI km), .ref mtr, .int (nI n), .int (nI k), .int (nI al), .int (nI be), .int ea, .int pr, .ref mas, .int nq, .int po, .int (nI en), .ref mso, .ref mon, .ref mot, .ref man, .int th, .int xd, .ref mst, .ref msm, .ref mtb, .ref mti, .ref mfr, .ref mbn, .ref mbs, .ref mde, .int sF, .int sN, .int sS, .int ig, .long xa, .long xb, .ref maa, .ref mab, .ref mba, .ref mbb]))] H → va_D A [(hm, .inr (12, [.ref ms, .ref mkp, .int (nI km), .ref mtr, .int (nI n), .int (nI k), .int (nI al), .int (nI be), .int ea, .int pr, .ref mas, .int nq, .int po, .int (nI en), .ref mso, .ref mon, .ref mot, .ref man, .int th, .int xd, .ref mst, .ref msm, .ref mtb, .ref mti, .ref mfr, .ref mbn, .ref mbs, .ref mde, .int sF, .int sN, .int sS, .int ig, .long xa, .long xb, .ref maa, .ref mab, .ref mba, .ref mbb]))] → va_S A s.heap H locs → lv_has ls 5 [(4, .int (nI o)), (3, .int (nI hi)), (2, .int (nI lo)), (0, .ref hm), (1, .int (nI j))] → W p l e ({ frames := 3, cells := 0, slots := 0, locals := 69 } : Room) s m args below meth c H locs 0 0 (MQ below ((xQi D (fun (r : Int32) (_u : Unit) => PQ (msM n k al j = true) r (nI 1) (nI 0)) (fun (_u : Unit) => [(hm, .inr (12, [.ref ms, .ref mkp, .int (nI km), .ref mtr, .int (nI n), .int (nI k), .int (nI al), .int (nI be), .int ea, .int pr, .ref mas, .int nq, .int po, .int (nI en), .ref mso, .ref mon, .ref mot, .ref man, .int th, .int xd, .ref mst, .ref msm, .ref mtb, .ref mti, .ref mfr, .ref mbn, .ref mbs, .ref mde, .int sF, .int sN, .int sS, .int ig, .long xa, .long xb, .ref maa, .ref mab, .ref mba, .ref mbb]))])) A) args s 0 0 A) (F0 m 74 ls []) := by
                        intro n_loop_54
                        induction n_loop_54 with
                        | zero => intro o h_o hSo hs9 hlt H locs ls hP hD hS hl; exact absurd hlt (Nat.not_lt_zero _)
                        | succ n_loop_54 ih_loop_54 =>
                          intro o h_o hSo hs9 hlt_loop_54 H locs ls hP hD hS hl
                          refine lv_iload hx hb dX12_mayStay_74 (lv_at hl 0 rfl) ?_
                          refine lv_iload_n hx hb dX12_mayStay_76 rfl (lv_at hl 1 rfl) ?_
                          refine lv_icmp_gt (tgt := 119) hx hb dX12_mayStay_77 (by decide) (fun c_55 => ?_) (fun c_55 => ?_)
                          · -- 77 t
                            have fc_55 : hi < o := nf_lt (by omega) (by omega) c_55
                            refine lv_iconst (v := nI 0) hx hb dX12_mayStay_119 (by decide) ?_
                            exact xreti C () (Or.inr ⟨(by unfold msM; rw [if_neg (fun q => q.elim (fun z => c_1 (by rw [z]; rfl)) (fun z => c_2 (by rw [z]))), hhi, hlo, show anM n k al hi 10 _ = false from hs9.trans (an_e (fun q => by have z := c_55; have := (nI_ltI (by omega) (by omega)).mp z; omega))]; decide), rfl⟩) hP hD hS (Nat.le_of_ble_eq_true rfl) (Nat.le_of_ble_eq_true rfl) (by decide) dX12_mayStay_120
                          · -- 77 f
                            have fc_55 : o ≤ hi := nf_nlt (by omega) (by omega) c_55
                            refine lv_iload hx hb dX12_mayStay_80 (lv_at hl 0 rfl) ?_
                            refine lv_aload_n hx hb dX12_mayStay_82 rfl (lv_at hl 3 rfl) ?_
                            refine xget C hP 0 rfl rfl zuX12 4 (by decide) zw5_217 rfl dX12_mayStay_83 ?_
                            refine lv_icmp_ge (tgt := 119) hx hb dX12_mayStay_86 (by decide) (fun c_56 => ?_) (fun c_56 => ?_)
                            · -- 86 t
                              have fc_56 : n ≤ o := nf_le (by omega) (by omega) c_56
                              refine lv_iconst (v := nI 0) hx hb dX12_mayStay_119 (by decide) ?_
                              exact xreti C () (Or.inr ⟨(by unfold msM; rw [if_neg (fun q => q.elim (fun z => c_1 (by rw [z]; rfl)) (fun z => c_2 (by rw [z]))), hhi, hlo, show anM n k al hi 10 _ = false from hs9.trans (an_e (fun q => by have := (nI_leI (by omega) (by omega)).mp c_56; omega))]; decide), rfl⟩) hP hD hS (Nat.le_of_ble_eq_true rfl) (Nat.le_of_ble_eq_true rfl) (by decide) dX12_mayStay_120
                            · -- 86 f
                              have fc_56 : o < n := nf_nle (by omega) (by omega) c_56
                              refine lv_aload_n hx hb dX12_mayStay_89 rfl (lv_at hl 3 rfl) ?_
                              refine lv_iload hx hb dX12_mayStay_90 (lv_at hl 0 rfl) ?_
                              refine xl (wr := []) (xV (As := [.int (nI o)]) (rest := []) C (c_X12_up_f l D cs hm ms mkp mtr mas mso mon mot man mst msm mtb mti mfr mbn mbs mde maa mab mba mbb n k al be km en ea pr nq po th xd sF sN sS ig xa xb o hn hkn hal) kX12_280 hP hD [0] rfl (by decide) 0 rfl rfl rfl ⟨Nat.le_of_ble_eq_true rfl, Nat.le_of_ble_eq_true rfl⟩ rfl hl.1 rfl (Nat.le_of_ble_eq_true rfl) dX12_mayStay_92 ⟨Nat.le_of_ble_eq_true rfl, Nat.le_of_ble_eq_true rfl⟩) hP hD hS hA [0] [] rfl rfl (by decide) (by decide) ?_
                              clear hP hD hS
                              try clear locs
                              try clear H
                              intro r_57 u_58 H locs hw_r_57 hP hD hS
                              have hw_r_57 : r_57 = upM n k al o := hw_r_57
                              refine W.widen (k := 0) (n := 0) (Nat.le_of_ble_eq_true rfl) (Nat.le_of_ble_eq_true rfl) ?_
                              replace hP : va_P D vwCl [(hm, .inr (12, [.ref ms, .ref mkp, .int (nI km), .ref mtr, .int (nI n), .int (nI k), .int (nI al), .int (nI be), .int ea, .int pr, .ref mas, .int nq, .int po, .int (nI en), .ref mso, .ref mon, .ref mot, .ref man, .int th, .int xd, .ref mst, .ref msm, .ref mtb, .ref mti, .ref mfr, .ref mbn, .ref mbs, .ref mde, .int sF, .int sN, .int sS, .int ig, .long xa, .long xb, .ref maa, .ref mab, .ref mba, .ref mbb]))] H := hP
                              replace hD : va_D A [(hm, .inr (12, [.ref ms, .ref mkp, .int (nI km), .ref mtr, .int (nI n), .int (nI k), .int (nI al), .int (nI be), .int ea, .int pr, .ref mas, .int nq, .int po, .int (nI en), .ref mso, .ref mon, .ref mot, .ref man, .int th, .int xd, .ref mst, .ref msm, .ref mtb, .ref mti, .ref mfr, .ref mbn, .ref mbs, .ref mde, .int sF, .int sN, .int sS, .int ig, .long xa, .long xb, .ref maa, .ref mab, .ref mba, .ref mbb]))] := hD
                              obtain rfl : r_57 = upM n k al o := hw_r_57
                              refine lv_lconst (v := 0) hx hb dX12_mayStay_95 (by decide) ?_
                              refine W.lcmp hx hb dX12_mayStay_96 ?_
                              refine lv_if_ne (tgt := 113) hx hb dX12_mayStay_97 (by decide) (fun c_59 => ?_) (fun c_59 => ?_)
                              · -- 97 t
                                refine lv_iinc (v := nI (o + 1)) (lv' := [(4, .int (nI (o + 1))), (3, .int (nI hi)), (2, .int (nI lo)), (0, .ref hm), (1, .int (nI j))]) hx hb dX12_mayStay_113 hl (k := 0) rfl (nI_add o 1) (by decide) rfl ?_
                                clear hl
                                try clear ls
                                intro ls hl
                                refine lv_goto (tgt := 74) hx hb dX12_mayStay_116 (by decide) ?_
                                exact ih_loop_54 (o + 1) (by omega) (by omega) (hs9.trans (by rw [show 10 + 1 - o = (10 + 1 - (o + 1)) + 1 by omega]; exact an_s ⟨by omega, by omega⟩ (fun q => l_ne c_59 q.1))) (by omega) H locs ls hP hD hS (lv_sub hl [0, 1, 2, 3, 4] rfl)
                              · -- 97 f
                                refine lv_aload_n hx hb dX12_mayStay_100 rfl (lv_at hl 3 rfl) ?_
                                refine lv_iload hx hb dX12_mayStay_101 (lv_at hl 0 rfl) ?_
                                refine xl (wr := []) (xV (As := [.int (nI o)]) (rest := []) C (c_X12_down_f l D cs hm ms mkp mtr mas mso mon mot man mst msm mtb mti mfr mbn mbs mde maa mab mba mbb n k al be km en ea pr nq po th xd sF sN sS ig xa xb o hn hkn hal (by omega)) kX12_283 hP hD [0] rfl (by decide) 0 rfl rfl rfl ⟨Nat.le_of_ble_eq_true rfl, Nat.le_of_ble_eq_true rfl⟩ rfl hl.1 rfl (Nat.le_of_ble_eq_true rfl) dX12_mayStay_103 ⟨Nat.le_of_ble_eq_true rfl, Nat.le_of_ble_eq_true rfl⟩) hP hD hS hA [0] [] rfl rfl (by decide) (by decide) ?_
                                clear hP hD hS
                                try clear locs
                                try clear H
                                intro r_60 u_61 H locs hw_r_60 hP hD hS
                                have hw_r_60 : r_60 = dnM n k al o := hw_r_60
                                refine W.widen (k := 0) (n := 0) (Nat.le_of_ble_eq_true rfl) (Nat.le_of_ble_eq_true rfl) ?_
                                replace hP : va_P D vwCl [(hm, .inr (12, [.ref ms, .ref mkp, .int (nI km), .ref mtr, .int (nI n), .int (nI k), .int (nI al), .int (nI be), .int ea, .int pr, .ref mas, .int nq, .int po, .int (nI en), .ref mso, .ref mon, .ref mot, .ref man, .int th, .int xd, .ref mst, .ref msm, .ref mtb, .ref mti, .ref mfr, .ref mbn, .ref mbs, .ref mde, .int sF, .int sN, .int sS, .int ig, .long xa, .long xb, .ref maa, .ref mab, .ref mba, .ref mbb]))] H := hP
                                replace hD : va_D A [(hm, .inr (12, [.ref ms, .ref mkp, .int (nI km), .ref mtr, .int (nI n), .int (nI k), .int (nI al), .int (nI be), .int ea, .int pr, .ref mas, .int nq, .int po, .int (nI en), .ref mso, .ref mon, .ref mot, .ref man, .int th, .int xd, .ref mst, .ref msm, .ref mtb, .ref mti, .ref mfr, .ref mbn, .ref mbs, .ref mde, .int sF, .int sN, .int sS, .int ig, .long xa, .long xb, .ref maa, .ref mab, .ref mba, .ref mbb]))] := hD
                                obtain rfl : r_60 = dnM n k al o := hw_r_60
                                refine lv_lconst (v := 0) hx hb dX12_mayStay_106 (by decide) ?_
                                refine W.lcmp hx hb dX12_mayStay_107 ?_
                                refine lv_if_ne (tgt := 113) hx hb dX12_mayStay_108 (by decide) (fun c_62 => ?_) (fun c_62 => ?_)
                                · -- 108 t
                                  refine lv_iinc (v := nI (o + 1)) (lv' := [(4, .int (nI (o + 1))), (3, .int (nI hi)), (2, .int (nI lo)), (0, .ref hm), (1, .int (nI j))]) hx hb dX12_mayStay_113 hl (k := 0) rfl (nI_add o 1) (by decide) rfl ?_
                                  clear hl
                                  try clear ls
                                  intro ls hl
                                  refine lv_goto (tgt := 74) hx hb dX12_mayStay_116 (by decide) ?_
                                  exact ih_loop_54 (o + 1) (by omega) (by omega) (hs9.trans (by rw [show 10 + 1 - o = (10 + 1 - (o + 1)) + 1 by omega]; exact an_s ⟨by omega, by omega⟩ (fun q => l_ne c_62 q.2))) (by omega) H locs ls hP hD hS (lv_sub hl [0, 1, 2, 3, 4] rfl)
                                · -- 108 f
                                  refine lv_iconst (v := nI 1) hx hb dX12_mayStay_111 (by decide) ?_
                                  exact xreti C () (Or.inl ⟨(by unfold msM; rw [if_neg (fun q => q.elim (fun z => c_1 (by rw [z]; rfl)) (fun z => c_2 (by rw [z]))), hhi, hlo]; exact hs9.trans (by rw [show 10 + 1 - o = (10 + 1 - o - 1) + 1 by omega]; exact an_t ⟨by omega, by omega⟩ ⟨l_eq c_59, l_eq c_62⟩)), rfl⟩) hP hD hS (Nat.le_of_ble_eq_true rfl) (Nat.le_of_ble_eq_true rfl) (by decide) dX12_mayStay_112
                      exact loop_54 _ 1 (by omega) (Nat.le_refl _) (by rw [hS]; exact congrArg (fun z => anM n k al hi z (1)) (show 10 = 10 + 1 - 1 by omega)) (Nat.lt_succ_self _) H locs ls hP hD hS (lv_sub hl [0, 1, 2, 3, 4] rfl)
                    · -- 64 f
                      have fc_53 : 1 < lo := nf_nle (by omega) (by omega) c_53
                      refine lv_iload_n hx hb dX12_mayStay_67 rfl (lv_at hl 1 rfl) ?_
                      refine lv_goto (tgt := 72) hx hb dX12_mayStay_68 (by decide) ?_
                      refine lv_istore (lv' := [(4, .int (nI lo)), (3, .int (nI hi)), (2, .int (nI lo)), (0, .ref hm), (1, .int (nI j))]) hx hb dX12_mayStay_72 hl (by decide) rfl ?_
                      clear hl
                      try clear ls
                      intro ls hl
                      have hlo := (hlo9.trans (lo_e (l_le0 c_50)))
                      have hhi := (hhi9.trans (hi_e (fun q => by have := (nI_leI (by omega) (by omega)).mp c_52; omega)))
                      replace hS : (if 1 < lo then lo else 1) = lo := if_pos (Decidable.byContradiction (fun q => c_53 ((nI_leI (by omega) (by decide)).mpr (by omega))))
                      have loop_63 : ∀ (n_loop_63 : Nat) (o : Nat), (o ≤ 9) → (lo ≤ o) → (anM n k al hi 10 (if 1 < lo then lo else 1) = anM n k al hi (10 + lo - o) o) → 9 - o < n_loop_63 → ∀ (H : Heap) (locs : List Loc) (ls : Array Slot), va_P D vwCl [(hm, .inr (12, [.ref ms, .ref mkp, .int (nI km), .ref mtr, .int (nI n), .int (nI k), .int (nI al), .int (nI be), .int ea, .int pr, .ref mas, .int nq, .int po, .int (nI en), .ref mso, .ref mon, .ref mot, .ref man, .int th, .int xd, .ref mst, .ref msm, .ref mtb, .ref mti, .ref mfr, .ref mbn, .ref mbs, .ref mde, .int sF, .int sN, .int sS, .int ig, .long xa, .long xb, .ref maa, .ref mab, .ref mba, .ref mbb]))] H → va_D A [(hm, .inr (12, [.ref ms, .ref mkp, .int (nI km), .ref mtr, .int (nI n), .int (nI k), .int (nI al), .int (nI be), .int ea, .int pr, .ref mas, .int nq, .int po, .int (nI en), .ref mso, .ref mon, .ref mot, .ref man, .int th, .int xd, .ref mst, .ref msm, .ref mtb, .ref mti, .ref mfr, .ref mbn, .ref mbs, .ref mde, .int sF, .int sN, .int sS, .int ig, .long xa, .long xb, .ref maa, .ref mab, .ref mba, .ref mbb]))] → va_S A s.heap H locs → lv_has ls 5 [(4, .int (nI o)), (3, .int (nI hi)), (2, .int (nI lo)), (0, .ref hm), (1, .int (nI j))] → W p l e ({ frames := 3, cells := 0, slots := 0, locals := 69 } : Room) s m args below meth c H locs 0 0 (MQ below ((xQi D (fun (r : Int32) (_u : Unit) => PQ (msM n k al j = true) r (nI 1) (nI 0)) (fun (_u : Unit) => [(hm, .inr (12, [.ref ms, .ref mkp, .int (nI km), .ref mtr, .int (nI n), .int (nI k), .int (nI al), .int (nI be), .int ea, .int pr, .ref mas, .int nq, .int po, .int (nI en), .ref mso, .ref mon, .ref mot, .ref man, .int th, .int xd, .ref mst, .ref msm, .ref mtb, .ref mti, .ref mfr, .ref mbn, .ref mbs, .ref mde, .int sF, .int sN, .int sS, .int ig, .long xa, .long xb, .ref maa, .ref mab, .ref mba, .ref mbb]))])) A) args s 0 0 A) (F0 m 74 ls []) := by
                        intro n_loop_63
                        induction n_loop_63 with
                        | zero => intro o h_o hSo hs9 hlt H locs ls hP hD hS hl; exact absurd hlt (Nat.not_lt_zero _)
                        | succ n_loop_63 ih_loop_63 =>
                          intro o h_o hSo hs9 hlt_loop_63 H locs ls hP hD hS hl
                          refine lv_iload hx hb dX12_mayStay_74 (lv_at hl 0 rfl) ?_
                          refine lv_iload_n hx hb dX12_mayStay_76 rfl (lv_at hl 1 rfl) ?_
                          refine lv_icmp_gt (tgt := 119) hx hb dX12_mayStay_77 (by decide) (fun c_64 => ?_) (fun c_64 => ?_)
                          · -- 77 t
                            have fc_64 : hi < o := nf_lt (by omega) (by omega) c_64
                            refine lv_iconst (v := nI 0) hx hb dX12_mayStay_119 (by decide) ?_
                            exact xreti C () (Or.inr ⟨(by unfold msM; rw [if_neg (fun q => q.elim (fun z => c_1 (by rw [z]; rfl)) (fun z => c_2 (by rw [z]))), hhi, hlo, show anM n k al hi 10 _ = false from hs9.trans (an_e (fun q => by have z := c_64; have := (nI_ltI (by omega) (by omega)).mp z; omega))]; decide), rfl⟩) hP hD hS (Nat.le_of_ble_eq_true rfl) (Nat.le_of_ble_eq_true rfl) (by decide) dX12_mayStay_120
                          · -- 77 f
                            have fc_64 : o ≤ hi := nf_nlt (by omega) (by omega) c_64
                            refine lv_iload hx hb dX12_mayStay_80 (lv_at hl 0 rfl) ?_
                            refine lv_aload_n hx hb dX12_mayStay_82 rfl (lv_at hl 3 rfl) ?_
                            refine xget C hP 0 rfl rfl zuX12 4 (by decide) zw5_217 rfl dX12_mayStay_83 ?_
                            refine lv_icmp_ge (tgt := 119) hx hb dX12_mayStay_86 (by decide) (fun c_65 => ?_) (fun c_65 => ?_)
                            · -- 86 t
                              have fc_65 : n ≤ o := nf_le (by omega) (by omega) c_65
                              refine lv_iconst (v := nI 0) hx hb dX12_mayStay_119 (by decide) ?_
                              exact xreti C () (Or.inr ⟨(by unfold msM; rw [if_neg (fun q => q.elim (fun z => c_1 (by rw [z]; rfl)) (fun z => c_2 (by rw [z]))), hhi, hlo, show anM n k al hi 10 _ = false from hs9.trans (an_e (fun q => by have := (nI_leI (by omega) (by omega)).mp c_65; omega))]; decide), rfl⟩) hP hD hS (Nat.le_of_ble_eq_true rfl) (Nat.le_of_ble_eq_true rfl) (by decide) dX12_mayStay_120
                            · -- 86 f
                              have fc_65 : o < n := nf_nle (by omega) (by omega) c_65
                              refine lv_aload_n hx hb dX12_mayStay_89 rfl (lv_at hl 3 rfl) ?_
                              refine lv_iload hx hb dX12_mayStay_90 (lv_at hl 0 rfl) ?_
                              refine xl (wr := []) (xV (As := [.int (nI o)]) (rest := []) C (c_X12_up_f l D cs hm ms mkp mtr mas mso mon mot man mst msm mtb mti mfr mbn mbs mde maa mab mba mbb n k al be km en ea pr nq po th xd sF sN sS ig xa xb o hn hkn hal) kX12_280 hP hD [0] rfl (by decide) 0 rfl rfl rfl ⟨Nat.le_of_ble_eq_true rfl, Nat.le_of_ble_eq_true rfl⟩ rfl hl.1 rfl (Nat.le_of_ble_eq_true rfl) dX12_mayStay_92 ⟨Nat.le_of_ble_eq_true rfl, Nat.le_of_ble_eq_true rfl⟩) hP hD hS hA [0] [] rfl rfl (by decide) (by decide) ?_
                              clear hP hD hS
                              try clear locs
                              try clear H
                              intro r_66 u_67 H locs hw_r_66 hP hD hS
                              have hw_r_66 : r_66 = upM n k al o := hw_r_66
                              refine W.widen (k := 0) (n := 0) (Nat.le_of_ble_eq_true rfl) (Nat.le_of_ble_eq_true rfl) ?_
                              replace hP : va_P D vwCl [(hm, .inr (12, [.ref ms, .ref mkp, .int (nI km), .ref mtr, .int (nI n), .int (nI k), .int (nI al), .int (nI be), .int ea, .int pr, .ref mas, .int nq, .int po, .int (nI en), .ref mso, .ref mon, .ref mot, .ref man, .int th, .int xd, .ref mst, .ref msm, .ref mtb, .ref mti, .ref mfr, .ref mbn, .ref mbs, .ref mde, .int sF, .int sN, .int sS, .int ig, .long xa, .long xb, .ref maa, .ref mab, .ref mba, .ref mbb]))] H := hP
                              replace hD : va_D A [(hm, .inr (12, [.ref ms, .ref mkp, .int (nI km), .ref mtr, .int (nI n), .int (nI k), .int (nI al), .int (nI be), .int ea, .int pr, .ref mas, .int nq, .int po, .int (nI en), .ref mso, .ref mon, .ref mot, .ref man, .int th, .int xd, .ref mst, .ref msm, .ref mtb, .ref mti, .ref mfr, .ref mbn, .ref mbs, .ref mde, .int sF, .int sN, .int sS, .int ig, .long xa, .long xb, .ref maa, .ref mab, .ref mba, .ref mbb]))] := hD
                              obtain rfl : r_66 = upM n k al o := hw_r_66
                              refine lv_lconst (v := 0) hx hb dX12_mayStay_95 (by decide) ?_
                              refine W.lcmp hx hb dX12_mayStay_96 ?_
                              refine lv_if_ne (tgt := 113) hx hb dX12_mayStay_97 (by decide) (fun c_68 => ?_) (fun c_68 => ?_)
                              · -- 97 t
                                refine lv_iinc (v := nI (o + 1)) (lv' := [(4, .int (nI (o + 1))), (3, .int (nI hi)), (2, .int (nI lo)), (0, .ref hm), (1, .int (nI j))]) hx hb dX12_mayStay_113 hl (k := 0) rfl (nI_add o 1) (by decide) rfl ?_
                                clear hl
                                try clear ls
                                intro ls hl
                                refine lv_goto (tgt := 74) hx hb dX12_mayStay_116 (by decide) ?_
                                exact ih_loop_63 (o + 1) (by omega) (by omega) (hs9.trans (by rw [show 10 + lo - o = (10 + lo - (o + 1)) + 1 by omega]; exact an_s ⟨by omega, by omega⟩ (fun q => l_ne c_68 q.1))) (by omega) H locs ls hP hD hS (lv_sub hl [0, 1, 2, 3, 4] rfl)
                              · -- 97 f
                                refine lv_aload_n hx hb dX12_mayStay_100 rfl (lv_at hl 3 rfl) ?_
                                refine lv_iload hx hb dX12_mayStay_101 (lv_at hl 0 rfl) ?_
                                refine xl (wr := []) (xV (As := [.int (nI o)]) (rest := []) C (c_X12_down_f l D cs hm ms mkp mtr mas mso mon mot man mst msm mtb mti mfr mbn mbs mde maa mab mba mbb n k al be km en ea pr nq po th xd sF sN sS ig xa xb o hn hkn hal (by omega)) kX12_283 hP hD [0] rfl (by decide) 0 rfl rfl rfl ⟨Nat.le_of_ble_eq_true rfl, Nat.le_of_ble_eq_true rfl⟩ rfl hl.1 rfl (Nat.le_of_ble_eq_true rfl) dX12_mayStay_103 ⟨Nat.le_of_ble_eq_true rfl, Nat.le_of_ble_eq_true rfl⟩) hP hD hS hA [0] [] rfl rfl (by decide) (by decide) ?_
                                clear hP hD hS
                                try clear locs
                                try clear H
                                intro r_69 u_70 H locs hw_r_69 hP hD hS
                                have hw_r_69 : r_69 = dnM n k al o := hw_r_69
                                refine W.widen (k := 0) (n := 0) (Nat.le_of_ble_eq_true rfl) (Nat.le_of_ble_eq_true rfl) ?_
                                replace hP : va_P D vwCl [(hm, .inr (12, [.ref ms, .ref mkp, .int (nI km), .ref mtr, .int (nI n), .int (nI k), .int (nI al), .int (nI be), .int ea, .int pr, .ref mas, .int nq, .int po, .int (nI en), .ref mso, .ref mon, .ref mot, .ref man, .int th, .int xd, .ref mst, .ref msm, .ref mtb, .ref mti, .ref mfr, .ref mbn, .ref mbs, .ref mde, .int sF, .int sN, .int sS, .int ig, .long xa, .long xb, .ref maa, .ref mab, .ref mba, .ref mbb]))] H := hP
                                replace hD : va_D A [(hm, .inr (12, [.ref ms, .ref mkp, .int (nI km), .ref mtr, .int (nI n), .int (nI k), .int (nI al), .int (nI be), .int ea, .int pr, .ref mas, .int nq, .int po, .int (nI en), .ref mso, .ref mon, .ref mot, .ref man, .int th, .int xd, .ref mst, .ref msm, .ref mtb, .ref mti, .ref mfr, .ref mbn, .ref mbs, .ref mde, .int sF, .int sN, .int sS, .int ig, .long xa, .long xb, .ref maa, .ref mab, .ref mba, .ref mbb]))] := hD
                                obtain rfl : r_69 = dnM n k al o := hw_r_69
                                refine lv_lconst (v := 0) hx hb dX12_mayStay_106 (by decide) ?_
                                refine W.lcmp hx hb dX12_mayStay_107 ?_
                                refine lv_if_ne (tgt := 113) hx hb dX12_mayStay_108 (by decide) (fun c_71 => ?_) (fun c_71 => ?_)
                                · -- 108 t
                                  refine lv_iinc (v := nI (o + 1)) (lv' := [(4, .int (nI (o + 1))), (3, .int (nI hi)), (2, .int (nI lo)), (0, .ref hm), (1, .int (nI j))]) hx hb dX12_mayStay_113 hl (k := 0) rfl (nI_add o 1) (by decide) rfl ?_
                                  clear hl
                                  try clear ls
                                  intro ls hl
                                  refine lv_goto (tgt := 74) hx hb dX12_mayStay_116 (by decide) ?_
                                  exact ih_loop_63 (o + 1) (by omega) (by omega) (hs9.trans (by rw [show 10 + lo - o = (10 + lo - (o + 1)) + 1 by omega]; exact an_s ⟨by omega, by omega⟩ (fun q => l_ne c_71 q.2))) (by omega) H locs ls hP hD hS (lv_sub hl [0, 1, 2, 3, 4] rfl)
                                · -- 108 f
                                  refine lv_iconst (v := nI 1) hx hb dX12_mayStay_111 (by decide) ?_
                                  exact xreti C () (Or.inl ⟨(by unfold msM; rw [if_neg (fun q => q.elim (fun z => c_1 (by rw [z]; rfl)) (fun z => c_2 (by rw [z]))), hhi, hlo]; exact hs9.trans (by rw [show 10 + lo - o = (10 + lo - o - 1) + 1 by omega]; exact an_t ⟨by omega, by omega⟩ ⟨l_eq c_68, l_eq c_71⟩)), rfl⟩) hP hD hS (Nat.le_of_ble_eq_true rfl) (Nat.le_of_ble_eq_true rfl) (by decide) dX12_mayStay_112
                      exact loop_63 _ lo (by omega) (Nat.le_refl _) (by rw [hS]; exact congrArg (fun z => anM n k al hi z (lo)) (show 10 = 10 + lo - lo by omega)) (Nat.lt_succ_self _) H locs ls hP hD hS (lv_sub hl [0, 1, 2, 3, 4] rfl)
                  · -- 43 f
                    have fc_52 : hi < n := nf_nle (by omega) (by omega) c_52
                    refine lv_aload_n hx hb dX12_mayStay_46 rfl (lv_at hl 2 rfl) ?_
                    refine lv_iload_n hx hb dX12_mayStay_47 rfl (lv_at hl 0 rfl) ?_
                    refine xl (wr := []) (xV (As := [.int (nI hi)]) (rest := []) C (c_X12_up_f l D cs hm ms mkp mtr mas mso mon mot man mst msm mtb mti mfr mbn mbs mde maa mab mba mbb n k al be km en ea pr nq po th xd sF sN sS ig xa xb hi hn hkn hal) kX12_280 hP hD [0] rfl (by decide) 0 rfl rfl rfl ⟨Nat.le_of_ble_eq_true rfl, Nat.le_of_ble_eq_true rfl⟩ rfl hl.1 rfl (Nat.le_of_ble_eq_true rfl) dX12_mayStay_48 ⟨Nat.le_of_ble_eq_true rfl, Nat.le_of_ble_eq_true rfl⟩) hP hD hS hA [0] [] rfl rfl (by decide) (by decide) ?_
                    clear hP hD hS
                    try clear locs
                    try clear H
                    intro r_72 u_73 H locs hw_r_72 hP hD hS
                    have hw_r_72 : r_72 = upM n k al hi := hw_r_72
                    refine W.widen (k := 0) (n := 0) (Nat.le_of_ble_eq_true rfl) (Nat.le_of_ble_eq_true rfl) ?_
                    replace hP : va_P D vwCl [(hm, .inr (12, [.ref ms, .ref mkp, .int (nI km), .ref mtr, .int (nI n), .int (nI k), .int (nI al), .int (nI be), .int ea, .int pr, .ref mas, .int nq, .int po, .int (nI en), .ref mso, .ref mon, .ref mot, .ref man, .int th, .int xd, .ref mst, .ref msm, .ref mtb, .ref mti, .ref mfr, .ref mbn, .ref mbs, .ref mde, .int sF, .int sN, .int sS, .int ig, .long xa, .long xb, .ref maa, .ref mab, .ref mba, .ref mbb]))] H := hP
                    replace hD : va_D A [(hm, .inr (12, [.ref ms, .ref mkp, .int (nI km), .ref mtr, .int (nI n), .int (nI k), .int (nI al), .int (nI be), .int ea, .int pr, .ref mas, .int nq, .int po, .int (nI en), .ref mso, .ref mon, .ref mot, .ref man, .int th, .int xd, .ref mst, .ref msm, .ref mtb, .ref mti, .ref mfr, .ref mbn, .ref mbs, .ref mde, .int sF, .int sN, .int sS, .int ig, .long xa, .long xb, .ref maa, .ref mab, .ref mba, .ref mbb]))] := hD
                    obtain rfl : r_72 = upM n k al hi := hw_r_72
                    refine lv_lconst (v := 0) hx hb dX12_mayStay_51 (by decide) ?_
                    refine W.lcmp hx hb dX12_mayStay_52 ?_
                    refine lv_if_le (tgt := 62) hx hb dX12_mayStay_53 (by decide) (fun c_74 => ?_) (fun c_74 => ?_)
                    · -- 53 t
                      refine lv_iload_n hx hb dX12_mayStay_62 rfl (lv_at hl 1 rfl) ?_
                      refine lv_iconst (v := nI 1) hx hb dX12_mayStay_63 (by decide) ?_
                      refine lv_icmp_le (tgt := 71) hx hb dX12_mayStay_64 (by decide) (fun c_75 => ?_) (fun c_75 => ?_)
                      · -- 64 t
                        have fc_75 : lo ≤ 1 := nf_le (by omega) (by omega) c_75
                        refine lv_iconst (v := nI 1) hx hb dX12_mayStay_71 (by decide) ?_
                        refine lv_istore (lv' := [(4, .int (nI 1)), (3, .int (nI hi)), (2, .int (nI lo)), (0, .ref hm), (1, .int (nI j))]) hx hb dX12_mayStay_72 hl (by decide) rfl ?_
                        clear hl
                        try clear ls
                        intro ls hl
                        have hlo := (hlo9.trans (lo_e (l_le0 c_50)))
                        have hhi := (hhi9.trans (hi_e (fun q => l_le0 c_74 q.2)))
                        replace hS : (if 1 < lo then lo else 1) = 1 := if_neg (by have := (nI_leI (by omega) (by decide)).mp c_75; omega)
                        have loop_76 : ∀ (n_loop_76 : Nat) (o : Nat), (o ≤ 9) → (1 ≤ o) → (anM n k al hi 10 (if 1 < lo then lo else 1) = anM n k al hi (10 + 1 - o) o) → 9 - o < n_loop_76 → ∀ (H : Heap) (locs : List Loc) (ls : Array Slot), va_P D vwCl [(hm, .inr (12, [.ref ms, .ref mkp, .int (nI km), .ref mtr, .int (nI n), .int (nI k), .int (nI al), .int (nI be), .int ea, .int pr, .ref mas, .int nq, .int po, .int (nI en), .ref mso, .ref mon, .ref mot, .ref man, .int th, .int xd, .ref mst, .ref msm, .ref mtb, .ref mti, .ref mfr, .ref mbn, .ref mbs, .ref mde, .int sF, .int sN, .int sS, .int ig, .long xa, .long xb, .ref maa, .ref mab, .ref mba, .ref mbb]))] H → va_D A [(hm, .inr (12, [.ref ms, .ref mkp, .int (nI km), .ref mtr, .int (nI n), .int (nI k), .int (nI al), .int (nI be), .int ea, .int pr, .ref mas, .int nq, .int po, .int (nI en), .ref mso, .ref mon, .ref mot, .ref man, .int th, .int xd, .ref mst, .ref msm, .ref mtb, .ref mti, .ref mfr, .ref mbn, .ref mbs, .ref mde, .int sF, .int sN, .int sS, .int ig, .long xa, .long xb, .ref maa, .ref mab, .ref mba, .ref mbb]))] → va_S A s.heap H locs → lv_has ls 5 [(4, .int (nI o)), (3, .int (nI hi)), (2, .int (nI lo)), (0, .ref hm), (1, .int (nI j))] → W p l e ({ frames := 3, cells := 0, slots := 0, locals := 69 } : Room) s m args below meth c H locs 0 0 (MQ below ((xQi D (fun (r : Int32) (_u : Unit) => PQ (msM n k al j = true) r (nI 1) (nI 0)) (fun (_u : Unit) => [(hm, .inr (12, [.ref ms, .ref mkp, .int (nI km), .ref mtr, .int (nI n), .int (nI k), .int (nI al), .int (nI be), .int ea, .int pr, .ref mas, .int nq, .int po, .int (nI en), .ref mso, .ref mon, .ref mot, .ref man, .int th, .int xd, .ref mst, .ref msm, .ref mtb, .ref mti, .ref mfr, .ref mbn, .ref mbs, .ref mde, .int sF, .int sN, .int sS, .int ig, .long xa, .long xb, .ref maa, .ref mab, .ref mba, .ref mbb]))])) A) args s 0 0 A) (F0 m 74 ls []) := by
                          intro n_loop_76
                          induction n_loop_76 with
                          | zero => intro o h_o hSo hs9 hlt H locs ls hP hD hS hl; exact absurd hlt (Nat.not_lt_zero _)
                          | succ n_loop_76 ih_loop_76 =>
                            intro o h_o hSo hs9 hlt_loop_76 H locs ls hP hD hS hl
                            refine lv_iload hx hb dX12_mayStay_74 (lv_at hl 0 rfl) ?_
                            refine lv_iload_n hx hb dX12_mayStay_76 rfl (lv_at hl 1 rfl) ?_
                            refine lv_icmp_gt (tgt := 119) hx hb dX12_mayStay_77 (by decide) (fun c_77 => ?_) (fun c_77 => ?_)
                            · -- 77 t
                              have fc_77 : hi < o := nf_lt (by omega) (by omega) c_77
                              refine lv_iconst (v := nI 0) hx hb dX12_mayStay_119 (by decide) ?_
                              exact xreti C () (Or.inr ⟨(by unfold msM; rw [if_neg (fun q => q.elim (fun z => c_1 (by rw [z]; rfl)) (fun z => c_2 (by rw [z]))), hhi, hlo, show anM n k al hi 10 _ = false from hs9.trans (an_e (fun q => by have z := c_77; have := (nI_ltI (by omega) (by omega)).mp z; omega))]; decide), rfl⟩) hP hD hS (Nat.le_of_ble_eq_true rfl) (Nat.le_of_ble_eq_true rfl) (by decide) dX12_mayStay_120
                            · -- 77 f
                              have fc_77 : o ≤ hi := nf_nlt (by omega) (by omega) c_77
                              refine lv_iload hx hb dX12_mayStay_80 (lv_at hl 0 rfl) ?_
                              refine lv_aload_n hx hb dX12_mayStay_82 rfl (lv_at hl 3 rfl) ?_
                              refine xget C hP 0 rfl rfl zuX12 4 (by decide) zw5_217 rfl dX12_mayStay_83 ?_
                              refine lv_icmp_ge (tgt := 119) hx hb dX12_mayStay_86 (by decide) (fun c_78 => ?_) (fun c_78 => ?_)
                              · -- 86 t
                                have fc_78 : n ≤ o := nf_le (by omega) (by omega) c_78
                                refine lv_iconst (v := nI 0) hx hb dX12_mayStay_119 (by decide) ?_
                                exact xreti C () (Or.inr ⟨(by unfold msM; rw [if_neg (fun q => q.elim (fun z => c_1 (by rw [z]; rfl)) (fun z => c_2 (by rw [z]))), hhi, hlo, show anM n k al hi 10 _ = false from hs9.trans (an_e (fun q => by have := (nI_leI (by omega) (by omega)).mp c_78; omega))]; decide), rfl⟩) hP hD hS (Nat.le_of_ble_eq_true rfl) (Nat.le_of_ble_eq_true rfl) (by decide) dX12_mayStay_120
                              · -- 86 f
                                have fc_78 : o < n := nf_nle (by omega) (by omega) c_78
                                refine lv_aload_n hx hb dX12_mayStay_89 rfl (lv_at hl 3 rfl) ?_
                                refine lv_iload hx hb dX12_mayStay_90 (lv_at hl 0 rfl) ?_
                                refine xl (wr := []) (xV (As := [.int (nI o)]) (rest := []) C (c_X12_up_f l D cs hm ms mkp mtr mas mso mon mot man mst msm mtb mti mfr mbn mbs mde maa mab mba mbb n k al be km en ea pr nq po th xd sF sN sS ig xa xb o hn hkn hal) kX12_280 hP hD [0] rfl (by decide) 0 rfl rfl rfl ⟨Nat.le_of_ble_eq_true rfl, Nat.le_of_ble_eq_true rfl⟩ rfl hl.1 rfl (Nat.le_of_ble_eq_true rfl) dX12_mayStay_92 ⟨Nat.le_of_ble_eq_true rfl, Nat.le_of_ble_eq_true rfl⟩) hP hD hS hA [0] [] rfl rfl (by decide) (by decide) ?_
                                clear hP hD hS
                                try clear locs
                                try clear H
                                intro r_79 u_80 H locs hw_r_79 hP hD hS
                                have hw_r_79 : r_79 = upM n k al o := hw_r_79
                                refine W.widen (k := 0) (n := 0) (Nat.le_of_ble_eq_true rfl) (Nat.le_of_ble_eq_true rfl) ?_
                                replace hP : va_P D vwCl [(hm, .inr (12, [.ref ms, .ref mkp, .int (nI km), .ref mtr, .int (nI n), .int (nI k), .int (nI al), .int (nI be), .int ea, .int pr, .ref mas, .int nq, .int po, .int (nI en), .ref mso, .ref mon, .ref mot, .ref man, .int th, .int xd, .ref mst, .ref msm, .ref mtb, .ref mti, .ref mfr, .ref mbn, .ref mbs, .ref mde, .int sF, .int sN, .int sS, .int ig, .long xa, .long xb, .ref maa, .ref mab, .ref mba, .ref mbb]))] H := hP
                                replace hD : va_D A [(hm, .inr (12, [.ref ms, .ref mkp, .int (nI km), .ref mtr, .int (nI n), .int (nI k), .int (nI al), .int (nI be), .int ea, .int pr, .ref mas, .int nq, .int po, .int (nI en), .ref mso, .ref mon, .ref mot, .ref man, .int th, .int xd, .ref mst, .ref msm, .ref mtb, .ref mti, .ref mfr, .ref mbn, .ref mbs, .ref mde, .int sF, .int sN, .int sS, .int ig, .long xa, .long xb, .ref maa, .ref mab, .ref mba, .ref mbb]))] := hD
                                obtain rfl : r_79 = upM n k al o := hw_r_79
                                refine lv_lconst (v := 0) hx hb dX12_mayStay_95 (by decide) ?_
                                refine W.lcmp hx hb dX12_mayStay_96 ?_
                                refine lv_if_ne (tgt := 113) hx hb dX12_mayStay_97 (by decide) (fun c_81 => ?_) (fun c_81 => ?_)
                                · -- 97 t
                                  refine lv_iinc (v := nI (o + 1)) (lv' := [(4, .int (nI (o + 1))), (3, .int (nI hi)), (2, .int (nI lo)), (0, .ref hm), (1, .int (nI j))]) hx hb dX12_mayStay_113 hl (k := 0) rfl (nI_add o 1) (by decide) rfl ?_
                                  clear hl
                                  try clear ls
                                  intro ls hl
                                  refine lv_goto (tgt := 74) hx hb dX12_mayStay_116 (by decide) ?_
                                  exact ih_loop_76 (o + 1) (by omega) (by omega) (hs9.trans (by rw [show 10 + 1 - o = (10 + 1 - (o + 1)) + 1 by omega]; exact an_s ⟨by omega, by omega⟩ (fun q => l_ne c_81 q.1))) (by omega) H locs ls hP hD hS (lv_sub hl [0, 1, 2, 3, 4] rfl)
                                · -- 97 f
                                  refine lv_aload_n hx hb dX12_mayStay_100 rfl (lv_at hl 3 rfl) ?_
                                  refine lv_iload hx hb dX12_mayStay_101 (lv_at hl 0 rfl) ?_
                                  refine xl (wr := []) (xV (As := [.int (nI o)]) (rest := []) C (c_X12_down_f l D cs hm ms mkp mtr mas mso mon mot man mst msm mtb mti mfr mbn mbs mde maa mab mba mbb n k al be km en ea pr nq po th xd sF sN sS ig xa xb o hn hkn hal (by omega)) kX12_283 hP hD [0] rfl (by decide) 0 rfl rfl rfl ⟨Nat.le_of_ble_eq_true rfl, Nat.le_of_ble_eq_true rfl⟩ rfl hl.1 rfl (Nat.le_of_ble_eq_true rfl) dX12_mayStay_103 ⟨Nat.le_of_ble_eq_true rfl, Nat.le_of_ble_eq_true rfl⟩) hP hD hS hA [0] [] rfl rfl (by decide) (by decide) ?_
                                  clear hP hD hS
                                  try clear locs
                                  try clear H
                                  intro r_82 u_83 H locs hw_r_82 hP hD hS
                                  have hw_r_82 : r_82 = dnM n k al o := hw_r_82
                                  refine W.widen (k := 0) (n := 0) (Nat.le_of_ble_eq_true rfl) (Nat.le_of_ble_eq_true rfl) ?_
                                  replace hP : va_P D vwCl [(hm, .inr (12, [.ref ms, .ref mkp, .int (nI km), .ref mtr, .int (nI n), .int (nI k), .int (nI al), .int (nI be), .int ea, .int pr, .ref mas, .int nq, .int po, .int (nI en), .ref mso, .ref mon, .ref mot, .ref man, .int th, .int xd, .ref mst, .ref msm, .ref mtb, .ref mti, .ref mfr, .ref mbn, .ref mbs, .ref mde, .int sF, .int sN, .int sS, .int ig, .long xa, .long xb, .ref maa, .ref mab, .ref mba, .ref mbb]))] H := hP
                                  replace hD : va_D A [(hm, .inr (12, [.ref ms, .ref mkp, .int (nI km), .ref mtr, .int (nI n), .int (nI k), .int (nI al), .int (nI be), .int ea, .int pr, .ref mas, .int nq, .int po, .int (nI en), .ref mso, .ref mon, .ref mot, .ref man, .int th, .int xd, .ref mst, .ref msm, .ref mtb, .ref mti, .ref mfr, .ref mbn, .ref mbs, .ref mde, .int sF, .int sN, .int sS, .int ig, .long xa, .long xb, .ref maa, .ref mab, .ref mba, .ref mbb]))] := hD
                                  obtain rfl : r_82 = dnM n k al o := hw_r_82
                                  refine lv_lconst (v := 0) hx hb dX12_mayStay_106 (by decide) ?_
                                  refine W.lcmp hx hb dX12_mayStay_107 ?_
                                  refine lv_if_ne (tgt := 113) hx hb dX12_mayStay_108 (by decide) (fun c_84 => ?_) (fun c_84 => ?_)
                                  · -- 108 t
                                    refine lv_iinc (v := nI (o + 1)) (lv' := [(4, .int (nI (o + 1))), (3, .int (nI hi)), (2, .int (nI lo)), (0, .ref hm), (1, .int (nI j))]) hx hb dX12_mayStay_113 hl (k := 0) rfl (nI_add o 1) (by decide) rfl ?_
                                    clear hl
                                    try clear ls
                                    intro ls hl
                                    refine lv_goto (tgt := 74) hx hb dX12_mayStay_116 (by decide) ?_
                                    exact ih_loop_76 (o + 1) (by omega) (by omega) (hs9.trans (by rw [show 10 + 1 - o = (10 + 1 - (o + 1)) + 1 by omega]; exact an_s ⟨by omega, by omega⟩ (fun q => l_ne c_84 q.2))) (by omega) H locs ls hP hD hS (lv_sub hl [0, 1, 2, 3, 4] rfl)
                                  · -- 108 f
                                    refine lv_iconst (v := nI 1) hx hb dX12_mayStay_111 (by decide) ?_
                                    exact xreti C () (Or.inl ⟨(by unfold msM; rw [if_neg (fun q => q.elim (fun z => c_1 (by rw [z]; rfl)) (fun z => c_2 (by rw [z]))), hhi, hlo]; exact hs9.trans (by rw [show 10 + 1 - o = (10 + 1 - o - 1) + 1 by omega]; exact an_t ⟨by omega, by omega⟩ ⟨l_eq c_81, l_eq c_84⟩)), rfl⟩) hP hD hS (Nat.le_of_ble_eq_true rfl) (Nat.le_of_ble_eq_true rfl) (by decide) dX12_mayStay_112
                        exact loop_76 _ 1 (by omega) (Nat.le_refl _) (by rw [hS]; exact congrArg (fun z => anM n k al hi z (1)) (show 10 = 10 + 1 - 1 by omega)) (Nat.lt_succ_self _) H locs ls hP hD hS (lv_sub hl [0, 1, 2, 3, 4] rfl)
                      · -- 64 f
                        have fc_75 : 1 < lo := nf_nle (by omega) (by omega) c_75
                        refine lv_iload_n hx hb dX12_mayStay_67 rfl (lv_at hl 1 rfl) ?_
                        refine lv_goto (tgt := 72) hx hb dX12_mayStay_68 (by decide) ?_
                        refine lv_istore (lv' := [(4, .int (nI lo)), (3, .int (nI hi)), (2, .int (nI lo)), (0, .ref hm), (1, .int (nI j))]) hx hb dX12_mayStay_72 hl (by decide) rfl ?_
                        clear hl
                        try clear ls
                        intro ls hl
                        have hlo := (hlo9.trans (lo_e (l_le0 c_50)))
                        have hhi := (hhi9.trans (hi_e (fun q => l_le0 c_74 q.2)))
                        replace hS : (if 1 < lo then lo else 1) = lo := if_pos (Decidable.byContradiction (fun q => c_75 ((nI_leI (by omega) (by decide)).mpr (by omega))))
                        have loop_85 : ∀ (n_loop_85 : Nat) (o : Nat), (o ≤ 9) → (lo ≤ o) → (anM n k al hi 10 (if 1 < lo then lo else 1) = anM n k al hi (10 + lo - o) o) → 9 - o < n_loop_85 → ∀ (H : Heap) (locs : List Loc) (ls : Array Slot), va_P D vwCl [(hm, .inr (12, [.ref ms, .ref mkp, .int (nI km), .ref mtr, .int (nI n), .int (nI k), .int (nI al), .int (nI be), .int ea, .int pr, .ref mas, .int nq, .int po, .int (nI en), .ref mso, .ref mon, .ref mot, .ref man, .int th, .int xd, .ref mst, .ref msm, .ref mtb, .ref mti, .ref mfr, .ref mbn, .ref mbs, .ref mde, .int sF, .int sN, .int sS, .int ig, .long xa, .long xb, .ref maa, .ref mab, .ref mba, .ref mbb]))] H → va_D A [(hm, .inr (12, [.ref ms, .ref mkp, .int (nI km), .ref mtr, .int (nI n), .int (nI k), .int (nI al), .int (nI be), .int ea, .int pr, .ref mas, .int nq, .int po, .int (nI en), .ref mso, .ref mon, .ref mot, .ref man, .int th, .int xd, .ref mst, .ref msm, .ref mtb, .ref mti, .ref mfr, .ref mbn, .ref mbs, .ref mde, .int sF, .int sN, .int sS, .int ig, .long xa, .long xb, .ref maa, .ref mab, .ref mba, .ref mbb]))] → va_S A s.heap H locs → lv_has ls 5 [(4, .int (nI o)), (3, .int (nI hi)), (2, .int (nI lo)), (0, .ref hm), (1, .int (nI j))] → W p l e ({ frames := 3, cells := 0, slots := 0, locals := 69 } : Room) s m args below meth c H locs 0 0 (MQ below ((xQi D (fun (r : Int32) (_u : Unit) => PQ (msM n k al j = true) r (nI 1) (nI 0)) (fun (_u : Unit) => [(hm, .inr (12, [.ref ms, .ref mkp, .int (nI km), .ref mtr, .int (nI n), .int (nI k), .int (nI al), .int (nI be), .int ea, .int pr, .ref mas, .int nq, .int po, .int (nI en), .ref mso, .ref mon, .ref mot, .ref man, .int th, .int xd, .ref mst, .ref msm, .ref mtb, .ref mti, .ref mfr, .ref mbn, .ref mbs, .ref mde, .int sF, .int sN, .int sS, .int ig, .long xa, .long xb, .ref maa, .ref mab, .ref mba, .ref mbb]))])) A) args s 0 0 A) (F0 m 74 ls []) := by
                          intro n_loop_85
                          induction n_loop_85 with
                          | zero => intro o h_o hSo hs9 hlt H locs ls hP hD hS hl; exact absurd hlt (Nat.not_lt_zero _)
                          | succ n_loop_85 ih_loop_85 =>
                            intro o h_o hSo hs9 hlt_loop_85 H locs ls hP hD hS hl
                            refine lv_iload hx hb dX12_mayStay_74 (lv_at hl 0 rfl) ?_
                            refine lv_iload_n hx hb dX12_mayStay_76 rfl (lv_at hl 1 rfl) ?_
                            refine lv_icmp_gt (tgt := 119) hx hb dX12_mayStay_77 (by decide) (fun c_86 => ?_) (fun c_86 => ?_)
                            · -- 77 t
                              have fc_86 : hi < o := nf_lt (by omega) (by omega) c_86
                              refine lv_iconst (v := nI 0) hx hb dX12_mayStay_119 (by decide) ?_
                              exact xreti C () (Or.inr ⟨(by unfold msM; rw [if_neg (fun q => q.elim (fun z => c_1 (by rw [z]; rfl)) (fun z => c_2 (by rw [z]))), hhi, hlo, show anM n k al hi 10 _ = false from hs9.trans (an_e (fun q => by have z := c_86; have := (nI_ltI (by omega) (by omega)).mp z; omega))]; decide), rfl⟩) hP hD hS (Nat.le_of_ble_eq_true rfl) (Nat.le_of_ble_eq_true rfl) (by decide) dX12_mayStay_120
                            · -- 77 f
                              have fc_86 : o ≤ hi := nf_nlt (by omega) (by omega) c_86
                              refine lv_iload hx hb dX12_mayStay_80 (lv_at hl 0 rfl) ?_
                              refine lv_aload_n hx hb dX12_mayStay_82 rfl (lv_at hl 3 rfl) ?_
                              refine xget C hP 0 rfl rfl zuX12 4 (by decide) zw5_217 rfl dX12_mayStay_83 ?_
                              refine lv_icmp_ge (tgt := 119) hx hb dX12_mayStay_86 (by decide) (fun c_87 => ?_) (fun c_87 => ?_)
                              · -- 86 t
                                have fc_87 : n ≤ o := nf_le (by omega) (by omega) c_87
                                refine lv_iconst (v := nI 0) hx hb dX12_mayStay_119 (by decide) ?_
                                exact xreti C () (Or.inr ⟨(by unfold msM; rw [if_neg (fun q => q.elim (fun z => c_1 (by rw [z]; rfl)) (fun z => c_2 (by rw [z]))), hhi, hlo, show anM n k al hi 10 _ = false from hs9.trans (an_e (fun q => by have := (nI_leI (by omega) (by omega)).mp c_87; omega))]; decide), rfl⟩) hP hD hS (Nat.le_of_ble_eq_true rfl) (Nat.le_of_ble_eq_true rfl) (by decide) dX12_mayStay_120
                              · -- 86 f
                                have fc_87 : o < n := nf_nle (by omega) (by omega) c_87
                                refine lv_aload_n hx hb dX12_mayStay_89 rfl (lv_at hl 3 rfl) ?_
                                refine lv_iload hx hb dX12_mayStay_90 (lv_at hl 0 rfl) ?_
                                refine xl (wr := []) (xV (As := [.int (nI o)]) (rest := []) C (c_X12_up_f l D cs hm ms mkp mtr mas mso mon mot man mst msm mtb mti mfr mbn mbs mde maa mab mba mbb n k al be km en ea pr nq po th xd sF sN sS ig xa xb o hn hkn hal) kX12_280 hP hD [0] rfl (by decide) 0 rfl rfl rfl ⟨Nat.le_of_ble_eq_true rfl, Nat.le_of_ble_eq_true rfl⟩ rfl hl.1 rfl (Nat.le_of_ble_eq_true rfl) dX12_mayStay_92 ⟨Nat.le_of_ble_eq_true rfl, Nat.le_of_ble_eq_true rfl⟩) hP hD hS hA [0] [] rfl rfl (by decide) (by decide) ?_
                                clear hP hD hS
                                try clear locs
                                try clear H
                                intro r_88 u_89 H locs hw_r_88 hP hD hS
                                have hw_r_88 : r_88 = upM n k al o := hw_r_88
                                refine W.widen (k := 0) (n := 0) (Nat.le_of_ble_eq_true rfl) (Nat.le_of_ble_eq_true rfl) ?_
                                replace hP : va_P D vwCl [(hm, .inr (12, [.ref ms, .ref mkp, .int (nI km), .ref mtr, .int (nI n), .int (nI k), .int (nI al), .int (nI be), .int ea, .int pr, .ref mas, .int nq, .int po, .int (nI en), .ref mso, .ref mon, .ref mot, .ref man, .int th, .int xd, .ref mst, .ref msm, .ref mtb, .ref mti, .ref mfr, .ref mbn, .ref mbs, .ref mde, .int sF, .int sN, .int sS, .int ig, .long xa, .long xb, .ref maa, .ref mab, .ref mba, .ref mbb]))] H := hP
                                replace hD : va_D A [(hm, .inr (12, [.ref ms, .ref mkp, .int (nI km), .ref mtr, .int (nI n), .int (nI k), .int (nI al), .int (nI be), .int ea, .int pr, .ref mas, .int nq, .int po, .int (nI en), .ref mso, .ref mon, .ref mot, .ref man, .int th, .int xd, .ref mst, .ref msm, .ref mtb, .ref mti, .ref mfr, .ref mbn, .ref mbs, .ref mde, .int sF, .int sN, .int sS, .int ig, .long xa, .long xb, .ref maa, .ref mab, .ref mba, .ref mbb]))] := hD
                                obtain rfl : r_88 = upM n k al o := hw_r_88
                                refine lv_lconst (v := 0) hx hb dX12_mayStay_95 (by decide) ?_
                                refine W.lcmp hx hb dX12_mayStay_96 ?_
                                refine lv_if_ne (tgt := 113) hx hb dX12_mayStay_97 (by decide) (fun c_90 => ?_) (fun c_90 => ?_)
                                · -- 97 t
                                  refine lv_iinc (v := nI (o + 1)) (lv' := [(4, .int (nI (o + 1))), (3, .int (nI hi)), (2, .int (nI lo)), (0, .ref hm), (1, .int (nI j))]) hx hb dX12_mayStay_113 hl (k := 0) rfl (nI_add o 1) (by decide) rfl ?_
                                  clear hl
                                  try clear ls
                                  intro ls hl
                                  refine lv_goto (tgt := 74) hx hb dX12_mayStay_116 (by decide) ?_
                                  exact ih_loop_85 (o + 1) (by omega) (by omega) (hs9.trans (by rw [show 10 + lo - o = (10 + lo - (o + 1)) + 1 by omega]; exact an_s ⟨by omega, by omega⟩ (fun q => l_ne c_90 q.1))) (by omega) H locs ls hP hD hS (lv_sub hl [0, 1, 2, 3, 4] rfl)
                                · -- 97 f
                                  refine lv_aload_n hx hb dX12_mayStay_100 rfl (lv_at hl 3 rfl) ?_
                                  refine lv_iload hx hb dX12_mayStay_101 (lv_at hl 0 rfl) ?_
                                  refine xl (wr := []) (xV (As := [.int (nI o)]) (rest := []) C (c_X12_down_f l D cs hm ms mkp mtr mas mso mon mot man mst msm mtb mti mfr mbn mbs mde maa mab mba mbb n k al be km en ea pr nq po th xd sF sN sS ig xa xb o hn hkn hal (by omega)) kX12_283 hP hD [0] rfl (by decide) 0 rfl rfl rfl ⟨Nat.le_of_ble_eq_true rfl, Nat.le_of_ble_eq_true rfl⟩ rfl hl.1 rfl (Nat.le_of_ble_eq_true rfl) dX12_mayStay_103 ⟨Nat.le_of_ble_eq_true rfl, Nat.le_of_ble_eq_true rfl⟩) hP hD hS hA [0] [] rfl rfl (by decide) (by decide) ?_
                                  clear hP hD hS
                                  try clear locs
                                  try clear H
                                  intro r_91 u_92 H locs hw_r_91 hP hD hS
                                  have hw_r_91 : r_91 = dnM n k al o := hw_r_91
                                  refine W.widen (k := 0) (n := 0) (Nat.le_of_ble_eq_true rfl) (Nat.le_of_ble_eq_true rfl) ?_
                                  replace hP : va_P D vwCl [(hm, .inr (12, [.ref ms, .ref mkp, .int (nI km), .ref mtr, .int (nI n), .int (nI k), .int (nI al), .int (nI be), .int ea, .int pr, .ref mas, .int nq, .int po, .int (nI en), .ref mso, .ref mon, .ref mot, .ref man, .int th, .int xd, .ref mst, .ref msm, .ref mtb, .ref mti, .ref mfr, .ref mbn, .ref mbs, .ref mde, .int sF, .int sN, .int sS, .int ig, .long xa, .long xb, .ref maa, .ref mab, .ref mba, .ref mbb]))] H := hP
                                  replace hD : va_D A [(hm, .inr (12, [.ref ms, .ref mkp, .int (nI km), .ref mtr, .int (nI n), .int (nI k), .int (nI al), .int (nI be), .int ea, .int pr, .ref mas, .int nq, .int po, .int (nI en), .ref mso, .ref mon, .ref mot, .ref man, .int th, .int xd, .ref mst, .ref msm, .ref mtb, .ref mti, .ref mfr, .ref mbn, .ref mbs, .ref mde, .int sF, .int sN, .int sS, .int ig, .long xa, .long xb, .ref maa, .ref mab, .ref mba, .ref mbb]))] := hD
                                  obtain rfl : r_91 = dnM n k al o := hw_r_91
                                  refine lv_lconst (v := 0) hx hb dX12_mayStay_106 (by decide) ?_
                                  refine W.lcmp hx hb dX12_mayStay_107 ?_
                                  refine lv_if_ne (tgt := 113) hx hb dX12_mayStay_108 (by decide) (fun c_93 => ?_) (fun c_93 => ?_)
                                  · -- 108 t
                                    refine lv_iinc (v := nI (o + 1)) (lv' := [(4, .int (nI (o + 1))), (3, .int (nI hi)), (2, .int (nI lo)), (0, .ref hm), (1, .int (nI j))]) hx hb dX12_mayStay_113 hl (k := 0) rfl (nI_add o 1) (by decide) rfl ?_
                                    clear hl
                                    try clear ls
                                    intro ls hl
                                    refine lv_goto (tgt := 74) hx hb dX12_mayStay_116 (by decide) ?_
                                    exact ih_loop_85 (o + 1) (by omega) (by omega) (hs9.trans (by rw [show 10 + lo - o = (10 + lo - (o + 1)) + 1 by omega]; exact an_s ⟨by omega, by omega⟩ (fun q => l_ne c_93 q.2))) (by omega) H locs ls hP hD hS (lv_sub hl [0, 1, 2, 3, 4] rfl)
                                  · -- 108 f
                                    refine lv_iconst (v := nI 1) hx hb dX12_mayStay_111 (by decide) ?_
                                    exact xreti C () (Or.inl ⟨(by unfold msM; rw [if_neg (fun q => q.elim (fun z => c_1 (by rw [z]; rfl)) (fun z => c_2 (by rw [z]))), hhi, hlo]; exact hs9.trans (by rw [show 10 + lo - o = (10 + lo - o - 1) + 1 by omega]; exact an_t ⟨by omega, by omega⟩ ⟨l_eq c_90, l_eq c_93⟩)), rfl⟩) hP hD hS (Nat.le_of_ble_eq_true rfl) (Nat.le_of_ble_eq_true rfl) (by decide) dX12_mayStay_112
                        exact loop_85 _ lo (by omega) (Nat.le_refl _) (by rw [hS]; exact congrArg (fun z => anM n k al hi z (lo)) (show 10 = 10 + lo - lo by omega)) (Nat.lt_succ_self _) H locs ls hP hD hS (lv_sub hl [0, 1, 2, 3, 4] rfl)
                    · -- 53 f
                      refine lv_iinc (v := nI (hi + 1)) (lv' := [(3, .int (nI (hi + 1))), (2, .int (nI lo)), (0, .ref hm), (1, .int (nI j))]) hx hb dX12_mayStay_56 hl (k := 0) rfl (nI_add hi 1) (by decide) rfl ?_
                      clear hl
                      try clear ls
                      intro ls hl
                      refine lv_goto (tgt := 38) hx hb dX12_mayStay_59 (by decide) ?_
                      exact ih_loop_51 (hi + 1) (by omega) (by omega) (hhi9.trans (by rw [show 10 + j - hi = (10 + j - (hi + 1)) + 1 by omega]; exact hi_s (by omega) (l_nle0 c_74))) (by omega) H locs ls hP hD hS (lv_sub hl [0, 1, 2, 3] rfl)
              exact loop_51 _ j (by omega) (Nat.le_refl _) (congrArg (fun z => hiM n k al z j) (show 10 = 10 + j - j by omega)) (Nat.lt_succ_self _) H locs ls hP hD hS (lv_sub hl [0, 1, 2, 3] rfl)
            · -- 27 f
              refine lv_iinc (v := nI (lo - 1)) (lv' := [(2, .int (nI (lo - 1))), (0, .ref hm), (1, .int (nI j))]) hx hb dX12_mayStay_30 hl (k := 0) rfl (nI_dec (by omega)) (by decide) rfl ?_
              clear hl
              try clear ls
              intro ls hl
              refine lv_goto (tgt := 16) hx hb dX12_mayStay_33 (by decide) ?_
              exact ih_loop_3 (lo - 1) (by omega) (hlo9.trans (lo_s (by omega) (l_nle0 c_50))) (by omega) H locs ls hP hD hS (lv_sub hl [0, 1, 2] rfl)
      exact loop_3 _ j (Nat.le_refl _) rfl (Nat.lt_succ_self _) H locs ls hP hD hS (lv_sub hl [0, 1, 2] rfl)
    · -- 9 f
      have fc_2 : j = n := nf_eq (by omega) (by omega) c_2
      refine lv_iconst (v := nI 0) hx hb dX12_mayStay_12 (by decide) ?_
      exact xreti C () (Or.inr ⟨(by have z : j = n := (nI_eq (by omega) (by omega)).mp c_2
      unfold msM; rw [if_pos (Or.inr z)]; decide), rfl⟩) hP hD hS (Nat.le_of_ble_eq_true rfl) (Nat.le_of_ble_eq_true rfl) (by decide) dX12_mayStay_13
