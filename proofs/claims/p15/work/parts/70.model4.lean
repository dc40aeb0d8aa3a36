set_option maxHeartbeats 4000000 in
set_option maxRecDepth 100000 in
theorem c_X12_asks (l : Launch) (D : va_G) (cs : Nat → ClassId) (hm ms mkp mtr mas mso mon mot man mst msm mtb mti mfr mbn mbs mde maa mab mba mbb : Nat) (n k al be km en : Nat) (ea pr nq po th xd sF sN sS ig : Int32) (xa xb : Int64) (f : Nat → Int32) (a : Nat) (x : Int32) (hn : 2 ≤ n ∧ n ≤ 8) (ha : a < 8) (hs : colP f) (hna : ¬ f (0 + a) < 0) : xMet l D cs yX12_asks cX12_asks 7 (some .int) ({ frames := 2, cells := 0, slots := 0, locals := 45 } : Room) [.ref hm, .int (nI a), .int x] [(hm, .inr (12, [.ref ms, .ref mkp, .int (nI km), .ref mtr, .int (nI n), .int (nI k), .int (nI al), .int (nI be), .int ea, .int pr, .ref mas, .int nq, .int po, .int (nI en), .ref mso, .ref mon, .ref mot, .ref man, .int th, .int xd, .ref mst, .ref msm, .ref mtb, .ref mti, .ref mfr, .ref mbn, .ref mbs, .ref mde, .int sF, .int sN, .int sS, .int ig, .long xa, .long xb, .ref maa, .ref mab, .ref mba, .ref mbb])), (ms, .inl (cs 0, 288, .inl f))] (xQi D (fun (r : Int32) (fz : (Nat → Int32)) => colP fz ∧ ∃ y, y < 3 ∧ r = nI y) (fun (fz : (Nat → Int32)) => [(hm, .inr (12, [.ref ms, .ref mkp, .int (nI km), .ref mtr, .int (nI n), .int (nI k), .int (nI al), .int (nI be), .int ea, .int pr, .ref mas, .int nq, .int po, .int (nI en), .ref mso, .ref mon, .ref mot, .ref man, .int th, .int xd, .ref mst, .ref msm, .ref mtb, .ref mti, .ref mfr, .ref mbn, .ref mbs, .ref mde, .int sF, .int sN, .int sS, .int ig, .long xa, .long xb, .ref maa, .ref mab, .ref mba, .ref mbb])), (ms, .inl (cs 0, 288, .inl fz))])) := by
  refine xMet.intro (by decide) (Nat.le_of_ble_eq_true rfl) ?_
  intro p e s m args below meth c A ls C hP hD hS hl
  have hx := C.1
  have hb := C.2.1
  have hz := C.2.2.2.2.1
  have hown := C.2.2.2.1
  have hA := C.2.2.2.2.2.2.2.2.2
  have hAO := C.2.2.2.2.2.2.2.2.1.2.2
  replace hl : lv_has ls 7 [(0, .ref hm), (1, .int (nI a)), (2, .int x)] := hl
  obtain ⟨H, hH⟩ : ∃ H, H = s.heap := ⟨_, rfl⟩
  replace hP : va_P D vwCl [(hm, .inr (12, [.ref ms, .ref mkp, .int (nI km), .ref mtr, .int (nI n), .int (nI k), .int (nI al), .int (nI be), .int ea, .int pr, .ref mas, .int nq, .int po, .int (nI en), .ref mso, .ref mon, .ref mot, .ref man, .int th, .int xd, .ref mst, .ref msm, .ref mtb, .ref mti, .ref mfr, .ref mbn, .ref mbs, .ref mde, .int sF, .int sN, .int sS, .int ig, .long xa, .long xb, .ref maa, .ref mab, .ref mba, .ref mbb])), (ms, .inl (cs 0, 288, .inl f))] H := by rw [hH]; exact hP
  replace hS : va_S A s.heap H [] := by rw [hH]; exact hS
  obtain ⟨locs, hlocs⟩ : ∃ z : List Loc, z = [] := ⟨_, rfl⟩
  rw [← hlocs] at hS
  suffices hW : W p l e ({ frames := 2, cells := 0, slots := 0, locals := 45 } : Room) s m args below meth c H locs 0 0 (MQ below ((xQi D (fun (r : Int32) (fz : (Nat → Int32)) => colP fz ∧ ∃ y, y < 3 ∧ r = nI y) (fun (fz : (Nat → Int32)) => [(hm, .inr (12, [.ref ms, .ref mkp, .int (nI km), .ref mtr, .int (nI n), .int (nI k), .int (nI al), .int (nI be), .int ea, .int pr, .ref mas, .int nq, .int po, .int (nI en), .ref mso, .ref mon, .ref mot, .ref man, .int th, .int xd, .ref mst, .ref msm, .ref mtb, .ref mti, .ref mfr, .ref mbn, .ref mbs, .ref mde, .int sF, .int sN, .int sS, .int ig, .long xa, .long xb, .ref maa, .ref mab, .ref mba, .ref mbb])), (ms, .inl (cs 0, 288, .inl fz))])) A) args s 0 0 A) (F0 m 0 ls []) by rw [hlocs, hH] at hW; exact hW
  clear hH hlocs
  refine lv_iconst (v := nI 0) hx hb dX12_asks_0 (by decide) ?_
  refine lv_istore_n (lv' := [(3, .int (nI 0)), (0, .ref hm), (1, .int (nI a)), (2, .int x)]) hx hb dX12_asks_1 rfl hl (by decide) rfl ?_
  clear hl
  try clear ls
  intro ls hl
  refine lv_iconst (v := nI 0) hx hb dX12_asks_2 (by decide) ?_
  refine lv_istore (lv' := [(4, .int (nI 0)), (3, .int (nI 0)), (0, .ref hm), (1, .int (nI a)), (2, .int x)]) hx hb dX12_asks_3 hl (by decide) rfl ?_
  clear hl
  try clear ls
  intro ls hl
  refine lv_iconst (v := nI 0) hx hb dX12_asks_5 (by decide) ?_
  refine lv_istore (lv' := [(5, .int (nI 0)), (4, .int (nI 0)), (3, .int (nI 0)), (0, .ref hm), (1, .int (nI a)), (2, .int x)]) hx hb dX12_asks_6 hl (by decide) rfl ?_
  clear hl
  try clear ls
  intro ls hl
  have loop_1 : ∀ (n_loop_1 : Nat) (o : Nat) (g9 : Nat → Int32) (z9 : Int32) (o9 : Int32), (o ≤ n) → (colP g9) → (¬ g9 (0 + a) < 0) → n - o < n_loop_1 → ∀ (H : Heap) (locs : List Loc) (ls : Array Slot), va_P D vwCl [(hm, .inr (12, [.ref ms, .ref mkp, .int (nI km), .ref mtr, .int (nI n), .int (nI k), .int (nI al), .int (nI be), .int ea, .int pr, .ref mas, .int nq, .int po, .int (nI en), .ref mso, .ref mon, .ref mot, .ref man, .int th, .int xd, .ref mst, .ref msm, .ref mtb, .ref mti, .ref mfr, .ref mbn, .ref mbs, .ref mde, .int sF, .int sN, .int sS, .int ig, .long xa, .long xb, .ref maa, .ref mab, .ref mba, .ref mbb])), (ms, .inl (cs 0, 288, .inl g9))] H → va_D A [(hm, .inr (12, [.ref ms, .ref mkp, .int (nI km), .ref mtr, .int (nI n), .int (nI k), .int (nI al), .int (nI be), .int ea, .int pr, .ref mas, .int nq, .int po, .int (nI en), .ref mso, .ref mon, .ref mot, .ref man, .int th, .int xd, .ref mst, .ref msm, .ref mtb, .ref mti, .ref mfr, .ref mbn, .ref mbs, .ref mde, .int sF, .int sN, .int sS, .int ig, .long xa, .long xb, .ref maa, .ref mab, .ref mba, .ref mbb])), (ms, .inl (cs 0, 288, .inl g9))] → va_S A s.heap H locs → lv_has ls 7 [(5, .int (nI o)), (4, .int o9), (3, .int z9), (0, .ref hm), (1, .int (nI a)), (2, .int x)] → W p l e ({ frames := 2, cells := 0, slots := 0, locals := 45 } : Room) s m args below meth c H locs 0 0 (MQ below ((xQi D (fun (r : Int32) (fz : (Nat → Int32)) => colP fz ∧ ∃ y, y < 3 ∧ r = nI y) (fun (fz : (Nat → Int32)) => [(hm, .inr (12, [.ref ms, .ref mkp, .int (nI km), .ref mtr, .int (nI n), .int (nI k), .int (nI al), .int (nI be), .int ea, .int pr, .ref mas, .int nq, .int po, .int (nI en), .ref mso, .ref mon, .ref mot, .ref man, .int th, .int xd, .ref mst, .ref msm, .ref mtb, .ref mti, .ref mfr, .ref mbn, .ref mbs, .ref mde, .int sF, .int sN, .int sS, .int ig, .long xa, .long xb, .ref maa, .ref mab, .ref mba, .ref mbb])), (ms, .inl (cs 0, 288, .inl fz))])) A) args s 0 0 A) (F0 m 8 ls []) := by
    intro n_loop_1
    induction n_loop_1 with
    | zero => intro o g9 z9 o9 h_o hs9 hna9 hlt H locs ls hP hD hS hl; exact absurd hlt (Nat.not_lt_zero _)
    | succ n_loop_1 ih_loop_1 =>
      intro o g9 z9 o9 h_o hs9 hna9 hlt_loop_1 H locs ls hP hD hS hl
      refine lv_iload hx hb dX12_asks_8 (lv_at hl 0 rfl) ?_
      refine lv_aload_n hx hb dX12_asks_10 rfl (lv_at hl 3 rfl) ?_
      refine xget C hP 0 rfl rfl zuX12 4 (by decide) zw5_217 rfl dX12_asks_11 ?_
      refine lv_icmp_ge (tgt := 61) hx hb dX12_asks_14 (by decide) (fun c_2 => ?_) (fun c_2 => ?_)
      · -- 14 t
        have fc_2 : n ≤ o := nf_le (by omega) (by omega) c_2
        refine lv_iload_n hx hb dX12_asks_61 rfl (lv_at hl 2 rfl) ?_
        refine lv_aload_n hx hb dX12_asks_62 rfl (lv_at hl 3 rfl) ?_
        refine xget C hP 0 rfl rfl zuX12 6 (by decide) zw5_219 rfl dX12_asks_63 ?_
        refine lv_icmp_lt (tgt := 73) hx hb dX12_asks_66 (by decide) (fun c_3 => ?_) (fun c_3 => ?_)
        · -- 66 t
          refine lv_iload hx hb dX12_asks_73 (lv_at hl 1 rfl) ?_
          refine lv_aload_n hx hb dX12_asks_75 rfl (lv_at hl 3 rfl) ?_
          refine xget C hP 0 rfl rfl zuX12 6 (by decide) zw5_219 rfl dX12_asks_76 ?_
          refine lv_icmp_lt (tgt := 86) hx hb dX12_asks_79 (by decide) (fun c_4 => ?_) (fun c_4 => ?_)
          · -- 79 t
            refine lv_iconst (v := (-1)) hx hb dX12_asks_86 (by decide) ?_
            refine lv_istore (lv' := [(5, .int (-1)), (4, .int o9), (3, .int z9), (0, .ref hm), (1, .int (nI a)), (2, .int x)]) hx hb dX12_asks_87 hl (by decide) rfl ?_
            clear hl
            try clear ls
            intro ls hl
            refine lv_aload_n hx hb dX12_asks_89 rfl (lv_at hl 3 rfl) ?_
            refine xget C hP 0 rfl rfl zuX12 0 (by decide) zw5_213 rfl dX12_asks_90 ?_
            refine lv_iconst (v := nI 0) hx hb dX12_asks_93 (by decide) ?_
            refine lv_iload_n hx hb dX12_asks_94 rfl (lv_at hl 4 rfl) ?_
            refine lv_iadd hx hb dX12_asks_95 ?_
            refine lv_topi (nm_r (e' := nI (0 + a)) (nI_add _ _) ?_)
            refine xiald C hP 1 rfl (0 + a) rfl (by omega) (by decide) dX12_asks_96 ?_
            refine lv_istore (lv' := [(6, .int (g9 (0 + a))), (5, .int (-1)), (4, .int o9), (3, .int z9), (0, .ref hm), (1, .int (nI a)), (2, .int x)]) hx hb dX12_asks_97 hl (by decide) rfl ?_
            clear hl
            try clear ls
            intro ls hl
            refine lv_aload_n hx hb dX12_asks_99 rfl (lv_at hl 4 rfl) ?_
            refine xget C hP 0 rfl rfl zuX12 9 (by decide) zw5_222 rfl dX12_asks_100 ?_
            refine lv_if_ne (tgt := 124) hx hb dX12_asks_103 (by decide) (fun c_5 => ?_) (fun c_5 => ?_)
            · -- 103 t
              refine lv_aload_n hx hb dX12_asks_124 rfl (lv_at hl 4 rfl) ?_
              refine lv_iload_n hx hb dX12_asks_125 rfl (lv_at hl 5 rfl) ?_
              refine lv_iload hx hb dX12_asks_126 (lv_at hl 1 rfl) ?_
              refine xv (wr := []) (xV (As := [.int (nI a), .int (-1)]) (rest := []) C (c_X12_counts l D cs hm ms mkp mtr mas mso mon mot man mst msm mtb mti mfr mbn mbs mde maa mab mba mbb n k al be km en ea pr nq po th xd sF sN sS ig xa xb g9 a (-1) ha hs9 hna9 colV_m1) kX12_135 hP hD [0, 1] rfl (by decide +kernel) 0 rfl rfl rfl ⟨Nat.le_of_ble_eq_true rfl, Nat.le_of_ble_eq_true rfl⟩ rfl hl.1 rfl (Nat.le_of_ble_eq_true rfl) dX12_asks_128 ⟨Nat.le_of_ble_eq_true rfl, Nat.le_of_ble_eq_true rfl⟩) hP hD hS hA [0, 1] [] rfl rfl (by decide +kernel) (by decide +kernel) ?_
              clear hP hD hS
              try clear locs
              try clear H
              intro u_7 H locs hw_r_6 hP hD hS
              have hw_r_6 : colP u_7 := hw_r_6
              refine W.widen (k := 0) (n := 0) (Nat.le_of_ble_eq_true rfl) (Nat.le_of_ble_eq_true rfl) ?_
              replace hP : va_P D vwCl [(hm, .inr (12, [.ref ms, .ref mkp, .int (nI km), .ref mtr, .int (nI n), .int (nI k), .int (nI al), .int (nI be), .int ea, .int pr, .ref mas, .int nq, .int po, .int (nI en), .ref mso, .ref mon, .ref mot, .ref man, .int th, .int xd, .ref mst, .ref msm, .ref mtb, .ref mti, .ref mfr, .ref mbn, .ref mbs, .ref mde, .int sF, .int sN, .int sS, .int ig, .long xa, .long xb, .ref maa, .ref mab, .ref mba, .ref mbb])), (ms, .inl (cs 0, 288, .inl u_7))] H := hP
              replace hD : va_D A [(hm, .inr (12, [.ref ms, .ref mkp, .int (nI km), .ref mtr, .int (nI n), .int (nI k), .int (nI al), .int (nI be), .int ea, .int pr, .ref mas, .int nq, .int po, .int (nI en), .ref mso, .ref mon, .ref mot, .ref man, .int th, .int xd, .ref mst, .ref msm, .ref mtb, .ref mti, .ref mfr, .ref mbn, .ref mbs, .ref mde, .int sF, .int sN, .int sS, .int ig, .long xa, .long xb, .ref maa, .ref mab, .ref mba, .ref mbb])), (ms, .inl (cs 0, 288, .inl u_7))] := hD
              refine lv_aload_n hx hb dX12_asks_131 rfl (lv_at hl 4 rfl) ?_
              refine xget C hP 0 rfl rfl zuX12 0 (by decide) zw5_213 rfl dX12_asks_132 ?_
              refine lv_bipush (v := nI 16) hx hb dX12_asks_135 (by decide) ?_
              refine lv_iload_n hx hb dX12_asks_137 rfl (lv_at hl 5 rfl) ?_
              refine lv_iadd hx hb dX12_asks_138 ?_
              refine lv_topi (nm_r (e' := nI (16 + a)) (nI_add _ _) ?_)
              refine xiald C hP 1 rfl (16 + a) rfl (by omega) (by decide) dX12_asks_139 ?_
              refine lv_aload_n hx hb dX12_asks_140 rfl (lv_at hl 4 rfl) ?_
              refine xget C hP 0 rfl rfl zuX12 7 (by decide) zw5_220 rfl dX12_asks_141 ?_
              refine lv_icmp_lt (tgt := 157) hx hb dX12_asks_144 (by decide) (fun c_8 => ?_) (fun c_8 => ?_)
              · -- 144 t
                refine lv_aload_n hx hb dX12_asks_157 rfl (lv_at hl 4 rfl) ?_
                refine xget C hP 0 rfl rfl zuX12 0 (by decide) zw5_213 rfl dX12_asks_158 ?_
                refine lv_bipush (v := nI 40) hx hb dX12_asks_161 (by decide) ?_
                refine lv_iload_n hx hb dX12_asks_163 rfl (lv_at hl 5 rfl) ?_
                refine lv_iadd hx hb dX12_asks_164 ?_
                refine lv_topi (nm_r (e' := nI (40 + a)) (nI_add _ _) ?_)
                refine xiald C hP 1 rfl (40 + a) rfl (by omega) (by decide) dX12_asks_165 ?_
                refine lv_iconst (v := nI 1) hx hb dX12_asks_166 (by decide) ?_
                refine lv_icmp_ne (tgt := 174) hx hb dX12_asks_167 (by decide) (fun c_9 => ?_) (fun c_9 => ?_)
                · -- 167 t
                  refine lv_aload_n hx hb dX12_asks_174 rfl (lv_at hl 4 rfl) ?_
                  refine xget C hP 0 rfl rfl zuX12 0 (by decide) zw5_213 rfl dX12_asks_175 ?_
                  refine lv_iconst (v := nI 0) hx hb dX12_asks_178 (by decide) ?_
                  refine lv_iload_n hx hb dX12_asks_179 rfl (lv_at hl 5 rfl) ?_
                  refine lv_iadd hx hb dX12_asks_180 ?_
                  refine lv_topi (nm_r (e' := nI (0 + a)) (nI_add _ _) ?_)
                  refine xiald C hP 1 rfl (0 + a) rfl (by omega) (by decide) dX12_asks_181 ?_
                  refine lv_iload hx hb dX12_asks_182 (lv_at hl 0 rfl) ?_
                  refine lv_icmp_eq (tgt := 191) hx hb dX12_asks_184 (by decide) (fun c_10 => ?_) (fun c_10 => ?_)
                  · -- 184 t
                    refine lv_iconst (v := nI 0) hx hb dX12_asks_191 (by decide) ?_
                    exact xreti C u_7 (⟨hw_r_6, 0, by decide, rfl⟩) hP hD hS (Nat.le_of_ble_eq_true rfl) (Nat.le_of_ble_eq_true rfl) rfl dX12_asks_192
                  · -- 184 f
                    refine lv_iconst (v := nI 1) hx hb dX12_asks_187 (by decide) ?_
                    refine lv_goto (tgt := 192) hx hb dX12_asks_188 (by decide) ?_
                    exact xreti C u_7 (⟨hw_r_6, 1, by decide, rfl⟩) hP hD hS (Nat.le_of_ble_eq_true rfl) (Nat.le_of_ble_eq_true rfl) rfl dX12_asks_192
                · -- 167 f
                  refine lv_iconst (v := nI 2) hx hb dX12_asks_170 (by decide) ?_
                  refine lv_goto (tgt := 192) hx hb dX12_asks_171 (by decide) ?_
                  exact xreti C u_7 (⟨hw_r_6, 2, by decide, rfl⟩) hP hD hS (Nat.le_of_ble_eq_true rfl) (Nat.le_of_ble_eq_true rfl) rfl dX12_asks_192
              · -- 144 f
                refine lv_aload_n hx hb dX12_asks_147 rfl (lv_at hl 4 rfl) ?_
                refine xget C hP 0 rfl rfl zuX12 0 (by decide) zw5_213 rfl dX12_asks_148 ?_
                refine lv_bipush (v := nI 40) hx hb dX12_asks_151 (by decide) ?_
                refine lv_iload_n hx hb dX12_asks_153 rfl (lv_at hl 5 rfl) ?_
                refine lv_iadd hx hb dX12_asks_154 ?_
                refine lv_topi (nm_r (e' := nI (40 + a)) (nI_add _ _) ?_)
                refine lv_iconst (v := nI 1) hx hb dX12_asks_155 (by decide) ?_
                refine xiast C hP hD hS 1 rfl (40 + a) rfl (by omega) (by decide) dX12_asks_156 ?_
                clear hP hD hS
                try clear locs
                try clear H
                intro H locs hP hD hS
                replace hP : va_P D vwCl [(hm, .inr (12, [.ref ms, .ref mkp, .int (nI km), .ref mtr, .int (nI n), .int (nI k), .int (nI al), .int (nI be), .int ea, .int pr, .ref mas, .int nq, .int po, .int (nI en), .ref mso, .ref mon, .ref mot, .ref man, .int th, .int xd, .ref mst, .ref msm, .ref mtb, .ref mti, .ref mfr, .ref mbn, .ref mbs, .ref mde, .int sF, .int sN, .int sS, .int ig, .long xa, .long xb, .ref maa, .ref mab, .ref mba, .ref mbb])), (ms, .inl (cs 0, 288, .inl (upd u_7 (40 + a) (nI 1))))] H := hP
                replace hD : va_D A [(hm, .inr (12, [.ref ms, .ref mkp, .int (nI km), .ref mtr, .int (nI n), .int (nI k), .int (nI al), .int (nI be), .int ea, .int pr, .ref mas, .int nq, .int po, .int (nI en), .ref mso, .ref mon, .ref mot, .ref man, .int th, .int xd, .ref mst, .ref msm, .ref mtb, .ref mti, .ref mfr, .ref mbn, .ref mbs, .ref mde, .int sF, .int sN, .int sS, .int ig, .long xa, .long xb, .ref maa, .ref mab, .ref mba, .ref mbb])), (ms, .inl (cs 0, 288, .inl (upd u_7 (40 + a) (nI 1))))] := hD
                refine lv_aload_n hx hb dX12_asks_157 rfl (lv_at hl 4 rfl) ?_
                refine xget C hP 0 rfl rfl zuX12 0 (by decide) zw5_213 rfl dX12_asks_158 ?_
                refine lv_bipush (v := nI 40) hx hb dX12_asks_161 (by decide) ?_
                refine lv_iload_n hx hb dX12_asks_163 rfl (lv_at hl 5 rfl) ?_
                refine lv_iadd hx hb dX12_asks_164 ?_
                refine lv_topi (nm_r (e' := nI (40 + a)) (nI_add _ _) ?_)
                refine xiald C hP 1 rfl (40 + a) rfl (by omega) (by decide) dX12_asks_165 ?_
                refine lv_iconst (v := nI 1) hx hb dX12_asks_166 (by decide) ?_
                refine lv_icmp_ne (tgt := 174) hx hb dX12_asks_167 (by decide) (fun c_11 => ?_) (fun c_11 => ?_)
                · -- 167 t
                  refine lv_aload_n hx hb dX12_asks_174 rfl (lv_at hl 4 rfl) ?_
                  refine xget C hP 0 rfl rfl zuX12 0 (by decide) zw5_213 rfl dX12_asks_175 ?_
                  refine lv_iconst (v := nI 0) hx hb dX12_asks_178 (by decide) ?_
                  refine lv_iload_n hx hb dX12_asks_179 rfl (lv_at hl 5 rfl) ?_
                  refine lv_iadd hx hb dX12_asks_180 ?_
                  refine lv_topi (nm_r (e' := nI (0 + a)) (nI_add _ _) ?_)
                  refine xiald C hP 1 rfl (0 + a) rfl (by omega) (by decide) dX12_asks_181 ?_
                  refine lv_iload hx hb dX12_asks_182 (lv_at hl 0 rfl) ?_
                  refine lv_icmp_eq (tgt := 191) hx hb dX12_asks_184 (by decide) (fun c_12 => ?_) (fun c_12 => ?_)
                  · -- 184 t
                    refine lv_iconst (v := nI 0) hx hb dX12_asks_191 (by decide) ?_
                    exact xreti C (upd u_7 (40 + a) (nI 1)) (⟨(colP_hi (i := 40 + a) hw_r_6 (nI 1) (by omega)), 0, by decide, rfl⟩) hP hD hS (Nat.le_of_ble_eq_true rfl) (Nat.le_of_ble_eq_true rfl) rfl dX12_asks_192
                  · -- 184 f
                    refine lv_iconst (v := nI 1) hx hb dX12_asks_187 (by decide) ?_
                    refine lv_goto (tgt := 192) hx hb dX12_asks_188 (by decide) ?_
                    exact xreti C (upd u_7 (40 + a) (nI 1)) (⟨(colP_hi (i := 40 + a) hw_r_6 (nI 1) (by omega)), 1, by decide, rfl⟩) hP hD hS (Nat.le_of_ble_eq_true rfl) (Nat.le_of_ble_eq_true rfl) rfl dX12_asks_192
                · -- 167 f
                  refine lv_iconst (v := nI 2) hx hb dX12_asks_170 (by decide) ?_
                  refine lv_goto (tgt := 192) hx hb dX12_asks_171 (by decide) ?_
                  exact xreti C (upd u_7 (40 + a) (nI 1)) (⟨(colP_hi (i := 40 + a) hw_r_6 (nI 1) (by omega)), 2, by decide, rfl⟩) hP hD hS (Nat.le_of_ble_eq_true rfl) (Nat.le_of_ble_eq_true rfl) rfl dX12_asks_192
            · -- 103 f
              refine lv_iload hx hb dX12_asks_106 (lv_at hl 1 rfl) ?_
              refine lv_if_lt (tgt := 157) hx hb dX12_asks_108 (by decide) (fun _ => ?_) (fun c => absurd (by decide) c)
              refine lv_aload_n hx hb dX12_asks_157 rfl (lv_at hl 4 rfl) ?_
              refine xget C hP 0 rfl rfl zuX12 0 (by decide) zw5_213 rfl dX12_asks_158 ?_
              refine lv_bipush (v := nI 40) hx hb dX12_asks_161 (by decide) ?_
              refine lv_iload_n hx hb dX12_asks_163 rfl (lv_at hl 5 rfl) ?_
              refine lv_iadd hx hb dX12_asks_164 ?_
              refine lv_topi (nm_r (e' := nI (40 + a)) (nI_add _ _) ?_)
              refine xiald C hP 1 rfl (40 + a) rfl (by omega) (by decide) dX12_asks_165 ?_
              refine lv_iconst (v := nI 1) hx hb dX12_asks_166 (by decide) ?_
              refine lv_icmp_ne (tgt := 174) hx hb dX12_asks_167 (by decide) (fun c_13 => ?_) (fun c_13 => ?_)
              · -- 167 t
                refine lv_aload_n hx hb dX12_asks_174 rfl (lv_at hl 4 rfl) ?_
                refine xget C hP 0 rfl rfl zuX12 0 (by decide) zw5_213 rfl dX12_asks_175 ?_
                refine lv_iconst (v := nI 0) hx hb dX12_asks_178 (by decide) ?_
                refine lv_iload_n hx hb dX12_asks_179 rfl (lv_at hl 5 rfl) ?_
                refine lv_iadd hx hb dX12_asks_180 ?_
                refine lv_topi (nm_r (e' := nI (0 + a)) (nI_add _ _) ?_)
                refine xiald C hP 1 rfl (0 + a) rfl (by omega) (by decide) dX12_asks_181 ?_
                refine lv_iload hx hb dX12_asks_182 (lv_at hl 0 rfl) ?_
                refine lv_icmp_eq (tgt := 191) hx hb dX12_asks_184 (by decide) (fun c_14 => ?_) (fun c_14 => ?_)
                · -- 184 t
                  refine lv_iconst (v := nI 0) hx hb dX12_asks_191 (by decide) ?_
                  exact xreti C g9 (⟨hs9, 0, by decide, rfl⟩) hP hD hS (Nat.le_of_ble_eq_true rfl) (Nat.le_of_ble_eq_true rfl) rfl dX12_asks_192
                · -- 184 f
                  refine lv_iconst (v := nI 1) hx hb dX12_asks_187 (by decide) ?_
                  refine lv_goto (tgt := 192) hx hb dX12_asks_188 (by decide) ?_
                  exact xreti C g9 (⟨hs9, 1, by decide, rfl⟩) hP hD hS (Nat.le_of_ble_eq_true rfl) (Nat.le_of_ble_eq_true rfl) rfl dX12_asks_192
              · -- 167 f
                refine lv_iconst (v := nI 2) hx hb dX12_asks_170 (by decide) ?_
                refine lv_goto (tgt := 192) hx hb dX12_asks_171 (by decide) ?_
                exact xreti C g9 (⟨hs9, 2, by decide, rfl⟩) hP hD hS (Nat.le_of_ble_eq_true rfl) (Nat.le_of_ble_eq_true rfl) rfl dX12_asks_192
          · -- 79 f
            refine lv_iconst (v := nI 1) hx hb dX12_asks_82 (by decide) ?_
            refine lv_goto (tgt := 87) hx hb dX12_asks_83 (by decide) ?_
            refine lv_istore (lv' := [(5, .int (nI 1)), (4, .int o9), (3, .int z9), (0, .ref hm), (1, .int (nI a)), (2, .int x)]) hx hb dX12_asks_87 hl (by decide) rfl ?_
            clear hl
            try clear ls
            intro ls hl
            refine lv_aload_n hx hb dX12_asks_89 rfl (lv_at hl 3 rfl) ?_
            refine xget C hP 0 rfl rfl zuX12 0 (by decide) zw5_213 rfl dX12_asks_90 ?_
            refine lv_iconst (v := nI 0) hx hb dX12_asks_93 (by decide) ?_
            refine lv_iload_n hx hb dX12_asks_94 rfl (lv_at hl 4 rfl) ?_
            refine lv_iadd hx hb dX12_asks_95 ?_
            refine lv_topi (nm_r (e' := nI (0 + a)) (nI_add _ _) ?_)
            refine xiald C hP 1 rfl (0 + a) rfl (by omega) (by decide) dX12_asks_96 ?_
            refine lv_istore (lv' := [(6, .int (g9 (0 + a))), (5, .int (nI 1)), (4, .int o9), (3, .int z9), (0, .ref hm), (1, .int (nI a)), (2, .int x)]) hx hb dX12_asks_97 hl (by decide) rfl ?_
            clear hl
            try clear ls
            intro ls hl
            refine lv_aload_n hx hb dX12_asks_99 rfl (lv_at hl 4 rfl) ?_
            refine xget C hP 0 rfl rfl zuX12 9 (by decide) zw5_222 rfl dX12_asks_100 ?_
            refine lv_if_ne (tgt := 124) hx hb dX12_asks_103 (by decide) (fun c_15 => ?_) (fun c_15 => ?_)
            · -- 103 t
              refine lv_aload_n hx hb dX12_asks_124 rfl (lv_at hl 4 rfl) ?_
              refine lv_iload_n hx hb dX12_asks_125 rfl (lv_at hl 5 rfl) ?_
              refine lv_iload hx hb dX12_asks_126 (lv_at hl 1 rfl) ?_
              refine xv (wr := []) (xV (As := [.int (nI a), .int (nI 1)]) (rest := []) C (c_X12_counts l D cs hm ms mkp mtr mas mso mon mot man mst msm mtb mti mfr mbn mbs mde maa mab mba mbb n k al be km en ea pr nq po th xd sF sN sS ig xa xb g9 a (nI 1) ha hs9 hna9 colV_1) kX12_135 hP hD [0, 1] rfl (by decide +kernel) 0 rfl rfl rfl ⟨Nat.le_of_ble_eq_true rfl, Nat.le_of_ble_eq_true rfl⟩ rfl hl.1 rfl (Nat.le_of_ble_eq_true rfl) dX12_asks_128 ⟨Nat.le_of_ble_eq_true rfl, Nat.le_of_ble_eq_true rfl⟩) hP hD hS hA [0, 1] [] rfl rfl (by decide +kernel) (by decide +kernel) ?_
              clear hP hD hS
              try clear locs
              try clear H
              intro u_17 H locs hw_r_16 hP hD hS
              have hw_r_16 : colP u_17 := hw_r_16
              refine W.widen (k := 0) (n := 0) (Nat.le_of_ble_eq_true rfl) (Nat.le_of_ble_eq_true rfl) ?_
              replace hP : va_P D vwCl [(hm, .inr (12, [.ref ms, .ref mkp, .int (nI km), .ref mtr, .int (nI n), .int (nI k), .int (nI al), .int (nI be), .int ea, .int pr, .ref mas, .int nq, .int po, .int (nI en), .ref mso, .ref mon, .ref mot, .ref man, .int th, .int xd, .ref mst, .ref msm, .ref mtb, .ref mti, .ref mfr, .ref mbn, .ref mbs, .ref mde, .int sF, .int sN, .int sS, .int ig, .long xa, .long xb, .ref maa, .ref mab, .ref mba, .ref mbb])), (ms, .inl (cs 0, 288, .inl u_17))] H := hP
              replace hD : va_D A [(hm, .inr (12, [.ref ms, .ref mkp, .int (nI km), .ref mtr, .int (nI n), .int (nI k), .int (nI al), .int (nI be), .int ea, .int pr, .ref mas, .int nq, .int po, .int (nI en), .ref mso, .ref mon, .ref mot, .ref man, .int th, .int xd, .ref mst, .ref msm, .ref mtb, .ref mti, .ref mfr, .ref mbn, .ref mbs, .ref mde, .int sF, .int sN, .int sS, .int ig, .long xa, .long xb, .ref maa, .ref mab, .ref mba, .ref mbb])), (ms, .inl (cs 0, 288, .inl u_17))] := hD
              refine lv_aload_n hx hb dX12_asks_131 rfl (lv_at hl 4 rfl) ?_
              refine xget C hP 0 rfl rfl zuX12 0 (by decide) zw5_213 rfl dX12_asks_132 ?_
              refine lv_bipush (v := nI 16) hx hb dX12_asks_135 (by decide) ?_
              refine lv_iload_n hx hb dX12_asks_137 rfl (lv_at hl 5 rfl) ?_
              refine lv_iadd hx hb dX12_asks_138 ?_
              refine lv_topi (nm_r (e' := nI (16 + a)) (nI_add _ _) ?_)
              refine xiald C hP 1 rfl (16 + a) rfl (by omega) (by decide) dX12_asks_139 ?_
              refine lv_aload_n hx hb dX12_asks_140 rfl (lv_at hl 4 rfl) ?_
              refine xget C hP 0 rfl rfl zuX12 7 (by decide) zw5_220 rfl dX12_asks_141 ?_
              refine lv_icmp_lt (tgt := 157) hx hb dX12_asks_144 (by decide) (fun c_18 => ?_) (fun c_18 => ?_)
              · -- 144 t
                refine lv_aload_n hx hb dX12_asks_157 rfl (lv_at hl 4 rfl) ?_
                refine xget C hP 0 rfl rfl zuX12 0 (by decide) zw5_213 rfl dX12_asks_158 ?_
                refine lv_bipush (v := nI 40) hx hb dX12_asks_161 (by decide) ?_
                refine lv_iload_n hx hb dX12_asks_163 rfl (lv_at hl 5 rfl) ?_
                refine lv_iadd hx hb dX12_asks_164 ?_
                refine lv_topi (nm_r (e' := nI (40 + a)) (nI_add _ _) ?_)
                refine xiald C hP 1 rfl (40 + a) rfl (by omega) (by decide) dX12_asks_165 ?_
                refine lv_iconst (v := nI 1) hx hb dX12_asks_166 (by decide) ?_
                refine lv_icmp_ne (tgt := 174) hx hb dX12_asks_167 (by decide) (fun c_19 => ?_) (fun c_19 => ?_)
                · -- 167 t
                  refine lv_aload_n hx hb dX12_asks_174 rfl (lv_at hl 4 rfl) ?_
                  refine xget C hP 0 rfl rfl zuX12 0 (by decide) zw5_213 rfl dX12_asks_175 ?_
                  refine lv_iconst (v := nI 0) hx hb dX12_asks_178 (by decide) ?_
                  refine lv_iload_n hx hb dX12_asks_179 rfl (lv_at hl 5 rfl) ?_
                  refine lv_iadd hx hb dX12_asks_180 ?_
                  refine lv_topi (nm_r (e' := nI (0 + a)) (nI_add _ _) ?_)
                  refine xiald C hP 1 rfl (0 + a) rfl (by omega) (by decide) dX12_asks_181 ?_
                  refine lv_iload hx hb dX12_asks_182 (lv_at hl 0 rfl) ?_
                  refine lv_icmp_eq (tgt := 191) hx hb dX12_asks_184 (by decide) (fun c_20 => ?_) (fun c_20 => ?_)
                  · -- 184 t
                    refine lv_iconst (v := nI 0) hx hb dX12_asks_191 (by decide) ?_
                    exact xreti C u_17 (⟨hw_r_16, 0, by decide, rfl⟩) hP hD hS (Nat.le_of_ble_eq_true rfl) (Nat.le_of_ble_eq_true rfl) rfl dX12_asks_192
                  · -- 184 f
                    refine lv_iconst (v := nI 1) hx hb dX12_asks_187 (by decide) ?_
                    refine lv_goto (tgt := 192) hx hb dX12_asks_188 (by decide) ?_
                    exact xreti C u_17 (⟨hw_r_16, 1, by decide, rfl⟩) hP hD hS (Nat.le_of_ble_eq_true rfl) (Nat.le_of_ble_eq_true rfl) rfl dX12_asks_192
                · -- 167 f
                  refine lv_iconst (v := nI 2) hx hb dX12_asks_170 (by decide) ?_
                  refine lv_goto (tgt := 192) hx hb dX12_asks_171 (by decide) ?_
                  exact xreti C u_17 (⟨hw_r_16, 2, by decide, rfl⟩) hP hD hS (Nat.le_of_ble_eq_true rfl) (Nat.le_of_ble_eq_true rfl) rfl dX12_asks_192
              · -- 144 f
                refine lv_aload_n hx hb dX12_asks_147 rfl (lv_at hl 4 rfl) ?_
                refine xget C hP 0 rfl rfl zuX12 0 (by decide) zw5_213 rfl dX12_asks_148 ?_
                refine lv_bipush (v := nI 40) hx hb dX12_asks_151 (by decide) ?_
                refine lv_iload_n hx hb dX12_asks_153 rfl (lv_at hl 5 rfl) ?_
                refine lv_iadd hx hb dX12_asks_154 ?_
                refine lv_topi (nm_r (e' := nI (40 + a)) (nI_add _ _) ?_)
                refine lv_iconst (v := nI 1) hx hb dX12_asks_155 (by decide) ?_
                refine xiast C hP hD hS 1 rfl (40 + a) rfl (by omega) (by decide) dX12_asks_156 ?_
                clear hP hD hS
                try clear locs
                try clear H
                intro H locs hP hD hS
                replace hP : va_P D vwCl [(hm, .inr (12, [.ref ms, .ref mkp, .int (nI km), .ref mtr, .int (nI n), .int (nI k), .int (nI al), .int (nI be), .int ea, .int pr, .ref mas, .int nq, .int po, .int (nI en), .ref mso, .ref mon, .ref mot, .ref man, .int th, .int xd, .ref mst, .ref msm, .ref mtb, .ref mti, .ref mfr, .ref mbn, .ref mbs, .ref mde, .int sF, .int sN, .int sS, .int ig, .long xa, .long xb, .ref maa, .ref mab, .ref mba, .ref mbb])), (ms, .inl (cs 0, 288, .inl (upd u_17 (40 + a) (nI 1))))] H := hP
                replace hD : va_D A [(hm, .inr (12, [.ref ms, .ref mkp, .int (nI km), .ref mtr, .int (nI n), .int (nI k), .int (nI al), .int (nI be), .int ea, .int pr, .ref mas, .int nq, .int po, .int (nI en), .ref mso, .ref mon, .ref mot, .ref man, .int th, .int xd, .ref mst, .ref msm, .ref mtb, .ref mti, .ref mfr, .ref mbn, .ref mbs, .ref mde, .int sF, .int sN, .int sS, .int ig, .long xa, .long xb, .ref maa, .ref mab, .ref mba, .ref mbb])), (ms, .inl (cs 0, 288, .inl (upd u_17 (40 + a) (nI 1))))] := hD
                refine lv_aload_n hx hb dX12_asks_157 rfl (lv_at hl 4 rfl) ?_
                refine xget C hP 0 rfl rfl zuX12 0 (by decide) zw5_213 rfl dX12_asks_158 ?_
                refine lv_bipush (v := nI 40) hx hb dX12_asks_161 (by decide) ?_
                refine lv_iload_n hx hb dX12_asks_163 rfl (lv_at hl 5 rfl) ?_
                refine lv_iadd hx hb dX12_asks_164 ?_
                refine lv_topi (nm_r (e' := nI (40 + a)) (nI_add _ _) ?_)
                refine xiald C hP 1 rfl (40 + a) rfl (by omega) (by decide) dX12_asks_165 ?_
                refine lv_iconst (v := nI 1) hx hb dX12_asks_166 (by decide) ?_
                refine lv_icmp_ne (tgt := 174) hx hb dX12_asks_167 (by decide) (fun c_21 => ?_) (fun c_21 => ?_)
                · -- 167 t
                  refine lv_aload_n hx hb dX12_asks_174 rfl (lv_at hl 4 rfl) ?_
                  refine xget C hP 0 rfl rfl zuX12 0 (by decide) zw5_213 rfl dX12_asks_175 ?_
                  refine lv_iconst (v := nI 0) hx hb dX12_asks_178 (by decide) ?_
                  refine lv_iload_n hx hb dX12_asks_179 rfl (lv_at hl 5 rfl) ?_
                  refine lv_iadd hx hb dX12_asks_180 ?_
                  refine lv_topi (nm_r (e' := nI (0 + a)) (nI_add _ _) ?_)
                  refine xiald C hP 1 rfl (0 + a) rfl (by omega) (by decide) dX12_asks_181 ?_
                  refine lv_iload hx hb dX12_asks_182 (lv_at hl 0 rfl) ?_
                  refine lv_icmp_eq (tgt := 191) hx hb dX12_asks_184 (by decide) (fun c_22 => ?_) (fun c_22 => ?_)
                  · -- 184 t
                    refine lv_iconst (v := nI 0) hx hb dX12_asks_191 (by decide) ?_
                    exact xreti C (upd u_17 (40 + a) (nI 1)) (⟨(colP_hi (i := 40 + a) hw_r_16 (nI 1) (by omega)), 0, by decide, rfl⟩) hP hD hS (Nat.le_of_ble_eq_true rfl) (Nat.le_of_ble_eq_true rfl) rfl dX12_asks_192
                  · -- 184 f
                    refine lv_iconst (v := nI 1) hx hb dX12_asks_187 (by decide) ?_
                    refine lv_goto (tgt := 192) hx hb dX12_asks_188 (by decide) ?_
                    exact xreti C (upd u_17 (40 + a) (nI 1)) (⟨(colP_hi (i := 40 + a) hw_r_16 (nI 1) (by omega)), 1, by decide, rfl⟩) hP hD hS (Nat.le_of_ble_eq_true rfl) (Nat.le_of_ble_eq_true rfl) rfl dX12_asks_192
                · -- 167 f
                  refine lv_iconst (v := nI 2) hx hb dX12_asks_170 (by decide) ?_
                  refine lv_goto (tgt := 192) hx hb dX12_asks_171 (by decide) ?_
                  exact xreti C (upd u_17 (40 + a) (nI 1)) (⟨(colP_hi (i := 40 + a) hw_r_16 (nI 1) (by omega)), 2, by decide, rfl⟩) hP hD hS (Nat.le_of_ble_eq_true rfl) (Nat.le_of_ble_eq_true rfl) rfl dX12_asks_192
            · -- 103 f
              refine lv_iload hx hb dX12_asks_106 (lv_at hl 1 rfl) ?_
              refine lv_if_lt (tgt := 157) hx hb dX12_asks_108 (by decide) (fun c => absurd c (by decide)) (fun _ => ?_)
              refine lv_aload_n hx hb dX12_asks_111 rfl (lv_at hl 4 rfl) ?_
              refine xget C hP 0 rfl rfl zuX12 0 (by decide) zw5_213 rfl dX12_asks_112 ?_
              refine lv_iconst (v := nI 0) hx hb dX12_asks_115 (by decide) ?_
              refine lv_iload_n hx hb dX12_asks_116 rfl (lv_at hl 5 rfl) ?_
              refine lv_iadd hx hb dX12_asks_117 ?_
              refine lv_topi (nm_r (e' := nI (0 + a)) (nI_add _ _) ?_)
              refine lv_iload hx hb dX12_asks_118 (lv_at hl 1 rfl) ?_
              refine xiast C hP hD hS 1 rfl (0 + a) rfl (by omega) (by decide) dX12_asks_120 ?_
              clear hP hD hS
              try clear locs
              try clear H
              intro H locs hP hD hS
              replace hP : va_P D vwCl [(hm, .inr (12, [.ref ms, .ref mkp, .int (nI km), .ref mtr, .int (nI n), .int (nI k), .int (nI al), .int (nI be), .int ea, .int pr, .ref mas, .int nq, .int po, .int (nI en), .ref mso, .ref mon, .ref mot, .ref man, .int th, .int xd, .ref mst, .ref msm, .ref mtb, .ref mti, .ref mfr, .ref mbn, .ref mbs, .ref mde, .int sF, .int sN, .int sS, .int ig, .long xa, .long xb, .ref maa, .ref mab, .ref mba, .ref mbb])), (ms, .inl (cs 0, 288, .inl (upd g9 (0 + a) (nI 1))))] H := hP
              replace hD : va_D A [(hm, .inr (12, [.ref ms, .ref mkp, .int (nI km), .ref mtr, .int (nI n), .int (nI k), .int (nI al), .int (nI be), .int ea, .int pr, .ref mas, .int nq, .int po, .int (nI en), .ref mso, .ref mon, .ref mot, .ref man, .int th, .int xd, .ref mst, .ref msm, .ref mtb, .ref mti, .ref mfr, .ref mbn, .ref mbs, .ref mde, .int sF, .int sN, .int sS, .int ig, .long xa, .long xb, .ref maa, .ref mab, .ref mba, .ref mbb])), (ms, .inl (cs 0, 288, .inl (upd g9 (0 + a) (nI 1))))] := hD
              refine lv_goto (tgt := 157) hx hb dX12_asks_121 (by decide) ?_
              refine lv_aload_n hx hb dX12_asks_157 rfl (lv_at hl 4 rfl) ?_
              refine xget C hP 0 rfl rfl zuX12 0 (by decide) zw5_213 rfl dX12_asks_158 ?_
              refine lv_bipush (v := nI 40) hx hb dX12_asks_161 (by decide) ?_
              refine lv_iload_n hx hb dX12_asks_163 rfl (lv_at hl 5 rfl) ?_
              refine lv_iadd hx hb dX12_asks_164 ?_
              refine lv_topi (nm_r (e' := nI (40 + a)) (nI_add _ _) ?_)
              refine xiald C hP 1 rfl (40 + a) rfl (by omega) (by decide) dX12_asks_165 ?_
              refine lv_iconst (v := nI 1) hx hb dX12_asks_166 (by decide) ?_
              refine lv_icmp_ne (tgt := 174) hx hb dX12_asks_167 (by decide) (fun c_23 => ?_) (fun c_23 => ?_)
              · -- 167 t
                refine lv_aload_n hx hb dX12_asks_174 rfl (lv_at hl 4 rfl) ?_
                refine xget C hP 0 rfl rfl zuX12 0 (by decide) zw5_213 rfl dX12_asks_175 ?_
                refine lv_iconst (v := nI 0) hx hb dX12_asks_178 (by decide) ?_
                refine lv_iload_n hx hb dX12_asks_179 rfl (lv_at hl 5 rfl) ?_
                refine lv_iadd hx hb dX12_asks_180 ?_
                refine lv_topi (nm_r (e' := nI (0 + a)) (nI_add _ _) ?_)
                refine xiald C hP 1 rfl (0 + a) rfl (by omega) (by decide) dX12_asks_181 ?_
                refine lv_iload hx hb dX12_asks_182 (lv_at hl 0 rfl) ?_
                refine lv_icmp_eq (tgt := 191) hx hb dX12_asks_184 (by decide) (fun c_24 => ?_) (fun c_24 => ?_)
                · -- 184 t
                  refine lv_iconst (v := nI 0) hx hb dX12_asks_191 (by decide) ?_
                  exact xreti C (upd g9 (0 + a) (nI 1)) (⟨(colP_up hs9 (0 + a) colV_1), 0, by decide, rfl⟩) hP hD hS (Nat.le_of_ble_eq_true rfl) (Nat.le_of_ble_eq_true rfl) rfl dX12_asks_192
                · -- 184 f
                  refine lv_iconst (v := nI 1) hx hb dX12_asks_187 (by decide) ?_
                  refine lv_goto (tgt := 192) hx hb dX12_asks_188 (by decide) ?_
                  exact xreti C (upd g9 (0 + a) (nI 1)) (⟨(colP_up hs9 (0 + a) colV_1), 1, by decide, rfl⟩) hP hD hS (Nat.le_of_ble_eq_true rfl) (Nat.le_of_ble_eq_true rfl) rfl dX12_asks_192
              · -- 167 f
                refine lv_iconst (v := nI 2) hx hb dX12_asks_170 (by decide) ?_
                refine lv_goto (tgt := 192) hx hb dX12_asks_171 (by decide) ?_
                exact xreti C (upd g9 (0 + a) (nI 1)) (⟨(colP_up hs9 (0 + a) colV_1), 2, by decide, rfl⟩) hP hD hS (Nat.le_of_ble_eq_true rfl) (Nat.le_of_ble_eq_true rfl) rfl dX12_asks_192
        · -- 66 f
          refine lv_iconst (v := nI 0) hx hb dX12_asks_69 (by decide) ?_
          refine lv_goto (tgt := 87) hx hb dX12_asks_70 (by decide) ?_
          refine lv_istore (lv' := [(5, .int (nI 0)), (4, .int o9), (3, .int z9), (0, .ref hm), (1, .int (nI a)), (2, .int x)]) hx hb dX12_asks_87 hl (by decide) rfl ?_
          clear hl
          try clear ls
          intro ls hl
          refine lv_aload_n hx hb dX12_asks_89 rfl (lv_at hl 3 rfl) ?_
          refine xget C hP 0 rfl rfl zuX12 0 (by decide) zw5_213 rfl dX12_asks_90 ?_
          refine lv_iconst (v := nI 0) hx hb dX12_asks_93 (by decide) ?_
          refine lv_iload_n hx hb dX12_asks_94 rfl (lv_at hl 4 rfl) ?_
          refine lv_iadd hx hb dX12_asks_95 ?_
          refine lv_topi (nm_r (e' := nI (0 + a)) (nI_add _ _) ?_)
          refine xiald C hP 1 rfl (0 + a) rfl (by omega) (by decide) dX12_asks_96 ?_
          refine lv_istore (lv' := [(6, .int (g9 (0 + a))), (5, .int (nI 0)), (4, .int o9), (3, .int z9), (0, .ref hm), (1, .int (nI a)), (2, .int x)]) hx hb dX12_asks_97 hl (by decide) rfl ?_
          clear hl
          try clear ls
          intro ls hl
          refine lv_aload_n hx hb dX12_asks_99 rfl (lv_at hl 4 rfl) ?_
          refine xget C hP 0 rfl rfl zuX12 9 (by decide) zw5_222 rfl dX12_asks_100 ?_
          refine lv_if_ne (tgt := 124) hx hb dX12_asks_103 (by decide) (fun c_25 => ?_) (fun c_25 => ?_)
          · -- 103 t
            refine lv_aload_n hx hb dX12_asks_124 rfl (lv_at hl 4 rfl) ?_
            refine lv_iload_n hx hb dX12_asks_125 rfl (lv_at hl 5 rfl) ?_
            refine lv_iload hx hb dX12_asks_126 (lv_at hl 1 rfl) ?_
            refine xv (wr := []) (xV (As := [.int (nI a), .int (nI 0)]) (rest := []) C (c_X12_counts l D cs hm ms mkp mtr mas mso mon mot man mst msm mtb mti mfr mbn mbs mde maa mab mba mbb n k al be km en ea pr nq po th xd sF sN sS ig xa xb g9 a (nI 0) ha hs9 hna9 colV_0) kX12_135 hP hD [0, 1] rfl (by decide +kernel) 0 rfl rfl rfl ⟨Nat.le_of_ble_eq_true rfl, Nat.le_of_ble_eq_true rfl⟩ rfl hl.1 rfl (Nat.le_of_ble_eq_true rfl) dX12_asks_128 ⟨Nat.le_of_ble_eq_true rfl, Nat.le_of_ble_eq_true rfl⟩) hP hD hS hA [0, 1] [] rfl rfl (by decide +kernel) (by decide +kernel) ?_
            clear hP hD hS
            try clear locs
            try clear H
            intro u_27 H locs hw_r_26 hP hD hS
            have hw_r_26 : colP u_27 := hw_r_26
            refine W.widen (k := 0) (n := 0) (Nat.le_of_ble_eq_true rfl) (Nat.le_of_ble_eq_true rfl) ?_
            replace hP : va_P D vwCl [(hm, .inr (12, [.ref ms, .ref mkp, .int (nI km), .ref mtr, .int (nI n), .int (nI k), .int (nI al), .int (nI be), .int ea, .int pr, .ref mas, .int nq, .int po, .int (nI en), .ref mso, .ref mon, .ref mot, .ref man, .int th, .int xd, .ref mst, .ref msm, .ref mtb, .ref mti, .ref mfr, .ref mbn, .ref mbs, .ref mde, .int sF, .int sN, .int sS, .int ig, .long xa, .long xb, .ref maa, .ref mab, .ref mba, .ref mbb])), (ms, .inl (cs 0, 288, .inl u_27))] H := hP
            replace hD : va_D A [(hm, .inr (12, [.ref ms, .ref mkp, .int (nI km), .ref mtr, .int (nI n), .int (nI k), .int (nI al), .int (nI be), .int ea, .int pr, .ref mas, .int nq, .int po, .int (nI en), .ref mso, .ref mon, .ref mot, .ref man, .int th, .int xd, .ref mst, .ref msm, .ref mtb, .ref mti, .ref mfr, .ref mbn, .ref mbs, .ref mde, .int sF, .int sN, .int sS, .int ig, .long xa, .long xb, .ref maa, .ref mab, .ref mba, .ref mbb])), (ms, .inl (cs 0, 288, .inl u_27))] := hD
            refine lv_aload_n hx hb dX12_asks_131 rfl (lv_at hl 4 rfl) ?_
            refine xget C hP 0 rfl rfl zuX12 0 (by decide) zw5_213 rfl dX12_asks_132 ?_
            refine lv_bipush (v := nI 16) hx hb dX12_asks_135 (by decide) ?_
            refine lv_iload_n hx hb dX12_asks_137 rfl (lv_at hl 5 rfl) ?_
            refine lv_iadd hx hb dX12_asks_138 ?_
            refine lv_topi (nm_r (e' := nI (16 + a)) (nI_add _ _) ?_)
            refine xiald C hP 1 rfl (16 + a) rfl (by omega) (by decide) dX12_asks_139 ?_
            refine lv_aload_n hx hb dX12_asks_140 rfl (lv_at hl 4 rfl) ?_
            refine xget C hP 0 rfl rfl zuX12 7 (by decide) zw5_220 rfl dX12_asks_141 ?_
            refine lv_icmp_lt (tgt := 157) hx hb dX12_asks_144 (by decide) (fun c_28 => ?_) (fun c_28 => ?_)
            · -- 144 t
              refine lv_aload_n hx hb dX12_asks_157 rfl (lv_at hl 4 rfl) ?_
              refine xget C hP 0 rfl rfl zuX12 0 (by decide) zw5_213 rfl dX12_asks_158 ?_
              refine lv_bipush (v := nI 40) hx hb dX12_asks_161 (by decide) ?_
              refine lv_iload_n hx hb dX12_asks_163 rfl (lv_at hl 5 rfl) ?_
              refine lv_iadd hx hb dX12_asks_164 ?_
              refine lv_topi (nm_r (e' := nI (40 + a)) (nI_add _ _) ?_)
              refine xiald C hP 1 rfl (40 + a) rfl (by omega) (by decide) dX12_asks_165 ?_
              refine lv_iconst (v := nI 1) hx hb dX12_asks_166 (by decide) ?_
              refine lv_icmp_ne (tgt := 174) hx hb dX12_asks_167 (by decide) (fun c_29 => ?_) (fun c_29 => ?_)
              · -- 167 t
                refine lv_aload_n hx hb dX12_asks_174 rfl (lv_at hl 4 rfl) ?_
                refine xget C hP 0 rfl rfl zuX12 0 (by decide) zw5_213 rfl dX12_asks_175 ?_
                refine lv_iconst (v := nI 0) hx hb dX12_asks_178 (by decide) ?_
                refine lv_iload_n hx hb dX12_asks_179 rfl (lv_at hl 5 rfl) ?_
                refine lv_iadd hx hb dX12_asks_180 ?_
                refine lv_topi (nm_r (e' := nI (0 + a)) (nI_add _ _) ?_)
                refine xiald C hP 1 rfl (0 + a) rfl (by omega) (by decide) dX12_asks_181 ?_
                refine lv_iload hx hb dX12_asks_182 (lv_at hl 0 rfl) ?_
                refine lv_icmp_eq (tgt := 191) hx hb dX12_asks_184 (by decide) (fun c_30 => ?_) (fun c_30 => ?_)
                · -- 184 t
                  refine lv_iconst (v := nI 0) hx hb dX12_asks_191 (by decide) ?_
                  exact xreti C u_27 (⟨hw_r_26, 0, by decide, rfl⟩) hP hD hS (Nat.le_of_ble_eq_true rfl) (Nat.le_of_ble_eq_true rfl) rfl dX12_asks_192
                · -- 184 f
                  refine lv_iconst (v := nI 1) hx hb dX12_asks_187 (by decide) ?_
                  refine lv_goto (tgt := 192) hx hb dX12_asks_188 (by decide) ?_
                  exact xreti C u_27 (⟨hw_r_26, 1, by decide, rfl⟩) hP hD hS (Nat.le_of_ble_eq_true rfl) (Nat.le_of_ble_eq_true rfl) rfl dX12_asks_192
              · -- 167 f
                refine lv_iconst (v := nI 2) hx hb dX12_asks_170 (by decide) ?_
                refine lv_goto (tgt := 192) hx hb dX12_asks_171 (by decide) ?_
                exact xreti C u_27 (⟨hw_r_26, 2, by decide, rfl⟩) hP hD hS (Nat.le_of_ble_eq_true rfl) (Nat.le_of_ble_eq_true rfl) rfl dX12_asks_192
            · -- 144 f
              refine lv_aload_n hx hb dX12_asks_147 rfl (lv_at hl 4 rfl) ?_
              refine xget C hP 0 rfl rfl zuX12 0 (by decide) zw5_213 rfl dX12_asks_148 ?_
              refine lv_bipush (v := nI 40) hx hb dX12_asks_151 (by decide) ?_
              refine lv_iload_n hx hb dX12_asks_153 rfl (lv_at hl 5 rfl) ?_
              refine lv_iadd hx hb dX12_asks_154 ?_
              refine lv_topi (nm_r (e' := nI (40 + a)) (nI_add _ _) ?_)
              refine lv_iconst (v := nI 1) hx hb dX12_asks_155 (by decide) ?_
              refine xiast C hP hD hS 1 rfl (40 + a) rfl (by omega) (by decide) dX12_asks_156 ?_
              clear hP hD hS
              try clear locs
              try clear H
              intro H locs hP hD hS
              replace hP : va_P D vwCl [(hm, .inr (12, [.ref ms, .ref mkp, .int (nI km), .ref mtr, .int (nI n), .int (nI k), .int (nI al), .int (nI be), .int ea, .int pr, .ref mas, .int nq, .int po, .int (nI en), .ref mso, .ref mon, .ref mot, .ref man, .int th, .int xd, .ref mst, .ref msm, .ref mtb, .ref mti, .ref mfr, .ref mbn, .ref mbs, .ref mde, .int sF, .int sN, .int sS, .int ig, .long xa, .long xb, .ref maa, .ref mab, .ref mba, .ref mbb])), (ms, .inl (cs 0, 288, .inl (upd u_27 (40 + a) (nI 1))))] H := hP
              replace hD : va_D A [(hm, .inr (12, [.ref ms, .ref mkp, .int (nI km), .ref mtr, .int (nI n), .int (nI k), .int (nI al), .int (nI be), .int ea, .int pr, .ref mas, .int nq, .int po, .int (nI en), .ref mso, .ref mon, .ref mot, .ref man, .int th, .int xd, .ref mst, .ref msm, .ref mtb, .ref mti, .ref mfr, .ref mbn, .ref mbs, .ref mde, .int sF, .int sN, .int sS, .int ig, .long xa, .long xb, .ref maa, .ref mab, .ref mba, .ref mbb])), (ms, .inl (cs 0, 288, .inl (upd u_27 (40 + a) (nI 1))))] := hD
              refine lv_aload_n hx hb dX12_asks_157 rfl (lv_at hl 4 rfl) ?_
              refine xget C hP 0 rfl rfl zuX12 0 (by decide) zw5_213 rfl dX12_asks_158 ?_
              refine lv_bipush (v := nI 40) hx hb dX12_asks_161 (by decide) ?_
              refine lv_iload_n hx hb dX12_asks_163 rfl (lv_at hl 5 rfl) ?_
              refine lv_iadd hx hb dX12_asks_164 ?_
              refine lv_topi (nm_r (e' := nI (40 + a)) (nI_add _ _) ?_)
              refine xiald C hP 1 rfl (40 + a) rfl (by omega) (by decide) dX12_asks_165 ?_
              refine lv_iconst (v := nI 1) hx hb dX12_asks_166 (by decide) ?_
              refine lv_icmp_ne (tgt := 174) hx hb dX12_asks_167 (by decide) (fun c_31 => ?_) (fun c_31 => ?_)
              · -- 167 t
                refine lv_aload_n hx hb dX12_asks_174 rfl (lv_at hl 4 rfl) ?_
                refine xget C hP 0 rfl rfl zuX12 0 (by decide) zw5_213 rfl dX12_asks_175 ?_
                refine lv_iconst (v := nI 0) hx hb dX12_asks_178 (by decide) ?_
                refine lv_iload_n hx hb dX12_asks_179 rfl (lv_at hl 5 rfl) ?_
                refine lv_iadd hx hb dX12_asks_180 ?_
                refine lv_topi (nm_r (e' := nI (0 + a)) (nI_add _ _) ?_)
                refine xiald C hP 1 rfl (0 + a) rfl (by omega) (by decide) dX12_asks_181 ?_
                refine lv_iload hx hb dX12_asks_182 (lv_at hl 0 rfl) ?_
                refine lv_icmp_eq (tgt := 191) hx hb dX12_asks_184 (by decide) (fun c_32 => ?_) (fun c_32 => ?_)
                · -- 184 t
                  refine lv_iconst (v := nI 0) hx hb dX12_asks_191 (by decide) ?_
                  exact xreti C (upd u_27 (40 + a) (nI 1)) (⟨(colP_hi (i := 40 + a) hw_r_26 (nI 1) (by omega)), 0, by decide, rfl⟩) hP hD hS (Nat.le_of_ble_eq_true rfl) (Nat.le_of_ble_eq_true rfl) rfl dX12_asks_192
                · -- 184 f
                  refine lv_iconst (v := nI 1) hx hb dX12_asks_187 (by decide) ?_
                  refine lv_goto (tgt := 192) hx hb dX12_asks_188 (by decide) ?_
                  exact xreti C (upd u_27 (40 + a) (nI 1)) (⟨(colP_hi (i := 40 + a) hw_r_26 (nI 1) (by omega)), 1, by decide, rfl⟩) hP hD hS (Nat.le_of_ble_eq_true rfl) (Nat.le_of_ble_eq_true rfl) rfl dX12_asks_192
              · -- 167 f
                refine lv_iconst (v := nI 2) hx hb dX12_asks_170 (by decide) ?_
                refine lv_goto (tgt := 192) hx hb dX12_asks_171 (by decide) ?_
                exact xreti C (upd u_27 (40 + a) (nI 1)) (⟨(colP_hi (i := 40 + a) hw_r_26 (nI 1) (by omega)), 2, by decide, rfl⟩) hP hD hS (Nat.le_of_ble_eq_true rfl) (Nat.le_of_ble_eq_true rfl) rfl dX12_asks_192
          · -- 103 f
            refine lv_iload hx hb dX12_asks_106 (lv_at hl 1 rfl) ?_
            refine lv_if_lt (tgt := 157) hx hb dX12_asks_108 (by decide) (fun c => absurd c (by decide)) (fun _ => ?_)
            refine lv_aload_n hx hb dX12_asks_111 rfl (lv_at hl 4 rfl) ?_
            refine xget C hP 0 rfl rfl zuX12 0 (by decide) zw5_213 rfl dX12_asks_112 ?_
            refine lv_iconst (v := nI 0) hx hb dX12_asks_115 (by decide) ?_
            refine lv_iload_n hx hb dX12_asks_116 rfl (lv_at hl 5 rfl) ?_
            refine lv_iadd hx hb dX12_asks_117 ?_
            refine lv_topi (nm_r (e' := nI (0 + a)) (nI_add _ _) ?_)
            refine lv_iload hx hb dX12_asks_118 (lv_at hl 1 rfl) ?_
            refine xiast C hP hD hS 1 rfl (0 + a) rfl (by omega) (by decide) dX12_asks_120 ?_
            clear hP hD hS
            try clear locs
            try clear H
            intro H locs hP hD hS
            replace hP : va_P D vwCl [(hm, .inr (12, [.ref ms, .ref mkp, .int (nI km), .ref mtr, .int (nI n), .int (nI k), .int (nI al), .int (nI be), .int ea, .int pr, .ref mas, .int nq, .int po, .int (nI en), .ref mso, .ref mon, .ref mot, .ref man, .int th, .int xd, .ref mst, .ref msm, .ref mtb, .ref mti, .ref mfr, .ref mbn, .ref mbs, .ref mde, .int sF, .int sN, .int sS, .int ig, .long xa, .long xb, .ref maa, .ref mab, .ref mba, .ref mbb])), (ms, .inl (cs 0, 288, .inl (upd g9 (0 + a) (nI 0))))] H := hP
            replace hD : va_D A [(hm, .inr (12, [.ref ms, .ref mkp, .int (nI km), .ref mtr, .int (nI n), .int (nI k), .int (nI al), .int (nI be), .int ea, .int pr, .ref mas, .int nq, .int po, .int (nI en), .ref mso, .ref mon, .ref mot, .ref man, .int th, .int xd, .ref mst, .ref msm, .ref mtb, .ref mti, .ref mfr, .ref mbn, .ref mbs, .ref mde, .int sF, .int sN, .int sS, .int ig, .long xa, .long xb, .ref maa, .ref mab, .ref mba, .ref mbb])), (ms, .inl (cs 0, 288, .inl (upd g9 (0 + a) (nI 0))))] := hD
            refine lv_goto (tgt := 157) hx hb dX12_asks_121 (by decide) ?_
            refine lv_aload_n hx hb dX12_asks_157 rfl (lv_at hl 4 rfl) ?_
            refine xget C hP 0 rfl rfl zuX12 0 (by decide) zw5_213 rfl dX12_asks_158 ?_
            refine lv_bipush (v := nI 40) hx hb dX12_asks_161 (by decide) ?_
            refine lv_iload_n hx hb dX12_asks_163 rfl (lv_at hl 5 rfl) ?_
            refine lv_iadd hx hb dX12_asks_164 ?_
            refine lv_topi (nm_r (e' := nI (40 + a)) (nI_add _ _) ?_)
            refine xiald C hP 1 rfl (40 + a) rfl (by omega) (by decide) dX12_asks_165 ?_
            refine lv_iconst (v := nI 1) hx hb dX12_asks_166 (by decide) ?_
            refine lv_icmp_ne (tgt := 174) hx hb dX12_asks_167 (by decide) (fun c_33 => ?_) (fun c_33 => ?_)
            · -- 167 t
              refine lv_aload_n hx hb dX12_asks_174 rfl (lv_at hl 4 rfl) ?_
              refine xget C hP 0 rfl rfl zuX12 0 (by decide) zw5_213 rfl dX12_asks_175 ?_
              refine lv_iconst (v := nI 0) hx hb dX12_asks_178 (by decide) ?_
              refine lv_iload_n hx hb dX12_asks_179 rfl (lv_at hl 5 rfl) ?_
              refine lv_iadd hx hb dX12_asks_180 ?_
              refine lv_topi (nm_r (e' := nI (0 + a)) (nI_add _ _) ?_)
              refine xiald C hP 1 rfl (0 + a) rfl (by omega) (by decide) dX12_asks_181 ?_
              refine lv_iload hx hb dX12_asks_182 (lv_at hl 0 rfl) ?_
              refine lv_icmp_eq (tgt := 191) hx hb dX12_asks_184 (by decide) (fun c_34 => ?_) (fun c_34 => ?_)
              · -- 184 t
                refine lv_iconst (v := nI 0) hx hb dX12_asks_191 (by decide) ?_
                exact xreti C (upd g9 (0 + a) (nI 0)) (⟨(colP_up hs9 (0 + a) colV_0), 0, by decide, rfl⟩) hP hD hS (Nat.le_of_ble_eq_true rfl) (Nat.le_of_ble_eq_true rfl) rfl dX12_asks_192
              · -- 184 f
                refine lv_iconst (v := nI 1) hx hb dX12_asks_187 (by decide) ?_
                refine lv_goto (tgt := 192) hx hb dX12_asks_188 (by decide) ?_
                exact xreti C (upd g9 (0 + a) (nI 0)) (⟨(colP_up hs9 (0 + a) colV_0), 1, by decide, rfl⟩) hP hD hS (Nat.le_of_ble_eq_true rfl) (Nat.le_of_ble_eq_true rfl) rfl dX12_asks_192
            · -- 167 f
              refine lv_iconst (v := nI 2) hx hb dX12_asks_170 (by decide) ?_
              refine lv_goto (tgt := 192) hx hb dX12_asks_171 (by decide) ?_
              exact xreti C (upd g9 (0 + a) (nI 0)) (⟨(colP_up hs9 (0 + a) colV_0), 2, by decide, rfl⟩) hP hD hS (Nat.le_of_ble_eq_true rfl) (Nat.le_of_ble_eq_true rfl) rfl dX12_asks_192
      · -- 14 f
        have fc_2 : o < n := nf_nle (by omega) (by omega) c_2
        refine lv_iload_n hx hb dX12_asks_17 rfl (lv_at hl 5 rfl) ?_
        refine lv_iload hx hb dX12_asks_18 (lv_at hl 0 rfl) ?_
        refine xi (wr := [(hm, .inr (12, [.ref ms, .ref mkp, .int (nI km), .ref mtr, .int (nI n), .int (nI k), .int (nI al), .int (nI be), .int ea, .int pr, .ref mas, .int nq, .int po, .int (nI en), .ref mso, .ref mon, .ref mot, .ref man, .int th, .int xd, .ref mst, .ref msm, .ref mtb, .ref mti, .ref mfr, .ref mbn, .ref mbs, .ref mde, .int sF, .int sN, .int sS, .int ig, .long xa, .long xb, .ref maa, .ref mab, .ref mba, .ref mbb])), (ms, .inl (cs 0, 288, .inl g9))]) (xS (As := [.int x, .int (nI o)]) (rest := []) C (c_X12_has l D cs x o) kX12_100 hP hD [] rfl (by decide +kernel) ⟨Nat.le_of_ble_eq_true rfl, Nat.le_of_ble_eq_true rfl⟩ rfl hl.1 rfl (Nat.le_of_ble_eq_true rfl) dX12_asks_20 ⟨Nat.le_of_ble_eq_true rfl, Nat.le_of_ble_eq_true rfl⟩) hP hD hS hA [] [0, 1] rfl rfl (by decide +kernel) (by decide +kernel) ?_
        clear hP hD hS
        try clear locs
        try clear H
        intro r_35 u_36 H locs hw_r_35 hP hD hS
        have hw_r_35 : PQ (hasB x o) r_35 (nI 1) (nI 0) := hw_r_35
        refine W.widen (k := 0) (n := 0) (Nat.le_of_ble_eq_true rfl) (Nat.le_of_ble_eq_true rfl) ?_
        replace hP : va_P D vwCl [(hm, .inr (12, [.ref ms, .ref mkp, .int (nI km), .ref mtr, .int (nI n), .int (nI k), .int (nI al), .int (nI be), .int ea, .int pr, .ref mas, .int nq, .int po, .int (nI en), .ref mso, .ref mon, .ref mot, .ref man, .int th, .int xd, .ref mst, .ref msm, .ref mtb, .ref mti, .ref mfr, .ref mbn, .ref mbs, .ref mde, .int sF, .int sN, .int sS, .int ig, .long xa, .long xb, .ref maa, .ref mab, .ref mba, .ref mbb])), (ms, .inl (cs 0, 288, .inl g9))] H := hP
        replace hD : va_D A [(hm, .inr (12, [.ref ms, .ref mkp, .int (nI km), .ref mtr, .int (nI n), .int (nI k), .int (nI al), .int (nI be), .int ea, .int pr, .ref mas, .int nq, .int po, .int (nI en), .ref mso, .ref mon, .ref mot, .ref man, .int th, .int xd, .ref mst, .ref msm, .ref mtb, .ref mti, .ref mfr, .ref mbn, .ref mbs, .ref mde, .int sF, .int sN, .int sS, .int ig, .long xa, .long xb, .ref maa, .ref mab, .ref mba, .ref mbb])), (ms, .inl (cs 0, 288, .inl g9))] := hD
        refine lv_if_ne (tgt := 29) hx hb dX12_asks_23 (by decide) (fun c_37 => ?_) (fun c_37 => ?_)
        · -- 23 t
          refine lv_aload_n hx hb dX12_asks_29 rfl (lv_at hl 3 rfl) ?_
          refine lv_iload hx hb dX12_asks_30 (lv_at hl 0 rfl) ?_
          refine lv_iload_n hx hb dX12_asks_32 rfl (lv_at hl 4 rfl) ?_
          refine xi (wr := []) (xV (As := [.int (nI o), .int (nI a)]) (rest := []) C (c_X12_says l D cs hm ms mkp mtr mas mso mon mot man mst msm mtb mti mfr mbn mbs mde maa mab mba mbb n k al be km en ea pr nq po th xd sF sN sS ig xa xb g9 o a ha (by omega) hs9) kX12_131 hP hD [0, 1] rfl (by decide +kernel) 0 rfl rfl rfl ⟨Nat.le_of_ble_eq_true rfl, Nat.le_of_ble_eq_true rfl⟩ rfl hl.1 rfl (Nat.le_of_ble_eq_true rfl) dX12_asks_33 ⟨Nat.le_of_ble_eq_true rfl, Nat.le_of_ble_eq_true rfl⟩) hP hD hS hA [0, 1] [] rfl rfl (by decide +kernel) (by decide +kernel) ?_
          clear hP hD hS
          try clear locs
          try clear H
          intro r_38 u_39 H locs hw_r_38 hP hD hS
          have hw_r_38 : colP u_39 ∧ ∀ i, i < 8 → ¬ g9 i < 0 → u_39 i = g9 i := hw_r_38
          refine W.widen (k := 0) (n := 0) (Nat.le_of_ble_eq_true rfl) (Nat.le_of_ble_eq_true rfl) ?_
          replace hP : va_P D vwCl [(hm, .inr (12, [.ref ms, .ref mkp, .int (nI km), .ref mtr, .int (nI n), .int (nI k), .int (nI al), .int (nI be), .int ea, .int pr, .ref mas, .int nq, .int po, .int (nI en), .ref mso, .ref mon, .ref mot, .ref man, .int th, .int xd, .ref mst, .ref msm, .ref mtb, .ref mti, .ref mfr, .ref mbn, .ref mbs, .ref mde, .int sF, .int sN, .int sS, .int ig, .long xa, .long xb, .ref maa, .ref mab, .ref mba, .ref mbb])), (ms, .inl (cs 0, 288, .inl u_39))] H := hP
          replace hD : va_D A [(hm, .inr (12, [.ref ms, .ref mkp, .int (nI km), .ref mtr, .int (nI n), .int (nI k), .int (nI al), .int (nI be), .int ea, .int pr, .ref mas, .int nq, .int po, .int (nI en), .ref mso, .ref mon, .ref mot, .ref man, .int th, .int xd, .ref mst, .ref msm, .ref mtb, .ref mti, .ref mfr, .ref mbn, .ref mbs, .ref mde, .int sF, .int sN, .int sS, .int ig, .long xa, .long xb, .ref maa, .ref mab, .ref mba, .ref mbb])), (ms, .inl (cs 0, 288, .inl u_39))] := hD
          refine lv_istore (lv' := [(6, .int r_38), (5, .int (nI o)), (4, .int o9), (3, .int z9), (0, .ref hm), (1, .int (nI a)), (2, .int x)]) hx hb dX12_asks_36 hl (by decide) rfl ?_
          clear hl
          try clear ls
          intro ls hl
          refine lv_iload hx hb dX12_asks_38 (lv_at hl 0 rfl) ?_
          refine lv_if_ne (tgt := 46) hx hb dX12_asks_40 (by decide) (fun c_40 => ?_) (fun c_40 => ?_)
          · -- 40 t
            refine lv_iload hx hb dX12_asks_46 (lv_at hl 0 rfl) ?_
            refine lv_iconst (v := nI 1) hx hb dX12_asks_48 (by decide) ?_
            refine lv_icmp_ne (tgt := 55) hx hb dX12_asks_49 (by decide) (fun c_41 => ?_) (fun c_41 => ?_)
            · -- 49 t
              refine lv_iinc (v := nI (o + 1)) (lv' := [(5, .int (nI (o + 1))), (6, .int r_38), (4, .int o9), (3, .int z9), (0, .ref hm), (1, .int (nI a)), (2, .int x)]) hx hb dX12_asks_55 hl (k := 1) rfl (nI_add o 1) (by decide) rfl ?_
              clear hl
              try clear ls
              intro ls hl
              refine lv_goto (tgt := 8) hx hb dX12_asks_58 (by decide) ?_
              exact ih_loop_1 (o + 1) u_39 z9 o9 (by omega) ((hw_r_38).1) (by rw [(hw_r_38).2 _ (by omega) hna9]; exact hna9) (by omega) H locs ls hP hD hS (lv_sub hl [0, 2, 3, 4, 5, 6] rfl)
            · -- 49 f
              refine lv_iinc (v := o9 + 1) (lv' := [(4, .int (o9 + 1)), (6, .int r_38), (5, .int (nI o)), (3, .int z9), (0, .ref hm), (1, .int (nI a)), (2, .int x)]) hx hb dX12_asks_52 hl (k := 2) rfl rfl (by decide) rfl ?_
              clear hl
              try clear ls
              intro ls hl
              refine lv_iinc (v := nI (o + 1)) (lv' := [(5, .int (nI (o + 1))), (4, .int (o9 + 1)), (6, .int r_38), (3, .int z9), (0, .ref hm), (1, .int (nI a)), (2, .int x)]) hx hb dX12_asks_55 hl (k := 2) rfl (nI_add o 1) (by decide) rfl ?_
              clear hl
              try clear ls
              intro ls hl
              refine lv_goto (tgt := 8) hx hb dX12_asks_58 (by decide) ?_
              exact ih_loop_1 (o + 1) u_39 z9 (o9 + 1) (by omega) ((hw_r_38).1) (by rw [(hw_r_38).2 _ (by omega) hna9]; exact hna9) (by omega) H locs ls hP hD hS (lv_sub hl [0, 1, 3, 4, 5, 6] rfl)
          · -- 40 f
            refine lv_iinc (v := z9 + 1) (lv' := [(3, .int (z9 + 1)), (6, .int r_38), (5, .int (nI o)), (4, .int o9), (0, .ref hm), (1, .int (nI a)), (2, .int x)]) hx hb dX12_asks_43 hl (k := 3) rfl rfl (by decide) rfl ?_
            clear hl
            try clear ls
            intro ls hl
            refine lv_iload hx hb dX12_asks_46 (lv_at hl 1 rfl) ?_
            refine lv_iconst (v := nI 1) hx hb dX12_asks_48 (by decide) ?_
            refine lv_icmp_ne (tgt := 55) hx hb dX12_asks_49 (by decide) (fun c_42 => ?_) (fun c_42 => ?_)
            · -- 49 t
              refine lv_iinc (v := nI (o + 1)) (lv' := [(5, .int (nI (o + 1))), (3, .int (z9 + 1)), (6, .int r_38), (4, .int o9), (0, .ref hm), (1, .int (nI a)), (2, .int x)]) hx hb dX12_asks_55 hl (k := 2) rfl (nI_add o 1) (by decide) rfl ?_
              clear hl
              try clear ls
              intro ls hl
              refine lv_goto (tgt := 8) hx hb dX12_asks_58 (by decide) ?_
              exact ih_loop_1 (o + 1) u_39 (z9 + 1) o9 (by omega) ((hw_r_38).1) (by rw [(hw_r_38).2 _ (by omega) hna9]; exact hna9) (by omega) H locs ls hP hD hS (lv_sub hl [0, 3, 1, 4, 5, 6] rfl)
            · -- 49 f
              refine lv_iinc (v := o9 + 1) (lv' := [(4, .int (o9 + 1)), (3, .int (z9 + 1)), (6, .int r_38), (5, .int (nI o)), (0, .ref hm), (1, .int (nI a)), (2, .int x)]) hx hb dX12_asks_52 hl (k := 3) rfl rfl (by decide) rfl ?_
              clear hl
              try clear ls
              intro ls hl
              refine lv_iinc (v := nI (o + 1)) (lv' := [(5, .int (nI (o + 1))), (4, .int (o9 + 1)), (3, .int (z9 + 1)), (6, .int r_38), (0, .ref hm), (1, .int (nI a)), (2, .int x)]) hx hb dX12_asks_55 hl (k := 3) rfl (nI_add o 1) (by decide) rfl ?_
              clear hl
              try clear ls
              intro ls hl
              refine lv_goto (tgt := 8) hx hb dX12_asks_58 (by decide) ?_
              exact ih_loop_1 (o + 1) u_39 (z9 + 1) (o9 + 1) (by omega) ((hw_r_38).1) (by rw [(hw_r_38).2 _ (by omega) hna9]; exact hna9) (by omega) H locs ls hP hD hS (lv_sub hl [0, 1, 2, 4, 5, 6] rfl)
        · -- 23 f
          refine lv_goto (tgt := 55) hx hb dX12_asks_26 (by decide) ?_
          refine lv_iinc (v := nI (o + 1)) (lv' := [(5, .int (nI (o + 1))), (4, .int o9), (3, .int z9), (0, .ref hm), (1, .int (nI a)), (2, .int x)]) hx hb dX12_asks_55 hl (k := 0) rfl (nI_add o 1) (by decide) rfl ?_
          clear hl
          try clear ls
          intro ls hl
          refine lv_goto (tgt := 8) hx hb dX12_asks_58 (by decide) ?_
          exact ih_loop_1 (o + 1) g9 z9 o9 (by omega) hs9 hna9 (by omega) H locs ls hP hD hS (lv_sub hl [0, 1, 2, 3, 4, 5] rfl)
  exact loop_1 _ 0 f (nI 0) (nI 0) (by omega) hs hna (Nat.lt_succ_self _) H locs ls hP hD hS (lv_sub hl [0, 1, 2, 3, 4, 5] rfl)
