set_option maxHeartbeats 4000000 in
set_option maxRecDepth 100000 in
theorem law_case_0 {p : Program} {e : Env} {s : State} {m : MethodId} {below : List Frame} {meth : Method} {c : Code} (l : Launch) (hfl : l.stackTraces = false) {D : va_G} {cs : Nat → ClassId} {A : Nat → Prop} {b : Nat} {xs : Nat → Int32} (C : xC p room_1 s m #[Value.ref b] meth c ⟨"SampleHouseLaw", meth.name, ""⟩ code 7 ret D cs A) (hTH : xTH s) (hZ0 : xZ A s s.heap) (hX : va_X b 5 xs s s.heap) (hbl : b < s.heap.size) (hbA : ¬ A b) (hA2 : ∀ q, A q → s.heap.size ≤ q) (hr hg hgr ha hpo hly hse hc pa spr qm sm ca nd kd lk vw gs g1r g2r gan gpr gde gme wk spa aga ona wk2 ab rb ob tb hp0 nd0 kd0 lk0 vw0 : Nat) (v sv v0 sv0 rw rl : Nat → Nat) (sg : Nat → Nat → Int32) (pf : Nat → Option Nat) (ms mkp mtr mas mso mon mot man mst msm mtb mti mfr mbn mbs mde maa mab mba mbb h0 hm out : Nat) (hpf : pf 0 = some hp0) {H : Heap} {locs : List Loc} {ls : Array Slot} (hP : va_P D vwCl [(h0, .inr (11, [.ref hr, .ref hg, .ref hgr, .ref ha, .ref hpo, .ref hly, .ref hse, .ref hc, .ref pa, .ref spr, .ref qm, .int (nI 0), .int (nI 0), .int (nI 0), .int (nI 0), .int (nI 1)])), (hr, .inr (7, [.int (nI 4), .int (nI 2), .int (nI 2), .int (nI 3), .int (nI 2), .int (nI 1), .ref sm, .int (nI 3), .ref ca])), (ca, .inl (cs 0, 8, .inl (fcF 4 2 2 (fun _ => 0) 4))), (sm, .inl (cs 5, 8, .inr (.inr (.inr (.inr (fun i => if i < 8 then some (rw i) else none)))))), (rw 0, .inl (cs 0, 35, .inl (sg 0))), (rw 1, .inl (cs 0, 35, .inl (sg 1))), (rw 2, .inl (cs 0, 35, .inl (sg 2))), (rw 3, .inl (cs 0, 35, .inl (sg 3))), (rw 4, .inl (cs 0, 35, .inl (sg 4))), (rw 5, .inl (cs 0, 35, .inl (sg 5))), (rw 6, .inl (cs 0, 35, .inl (sg 6))), (rw 7, .inl (cs 0, 35, .inl (sg 7))), (hg, .inr (4, [.ref nd, .ref kd, .ref lk, .ref vw])), (nd, .inl (cs 0, 8, .inl (fun _ => nI 0))), (kd, .inl (cs 0, 8, .inl (fun _ => nI 0))), (lk, .inl (cs 0, 8, .inl (fun _ => -1))), (vw, .inl (cs 2, 8, .inr (.inr (.inr (.inr (fun i => some (v i))))))), (v 0, .inr (10, [.int ((fun _ => nI 0) 0), .int ((fun _ => nI 0) 0), .ref (sv 0)])), (sv 0, .inl (cs 0, 32, .inl ((fun _ => vF) 0))), (v 1, .inr (10, [.int ((fun _ => nI 0) 1), .int ((fun _ => nI 0) 1), .ref (sv 1)])), (sv 1, .inl (cs 0, 32, .inl ((fun _ => vF) 1))), (v 2, .inr (10, [.int ((fun _ => nI 0) 2), .int ((fun _ => nI 0) 2), .ref (sv 2)])), (sv 2, .inl (cs 0, 32, .inl ((fun _ => vF) 2))), (v 3, .inr (10, [.int ((fun _ => nI 0) 3), .int ((fun _ => nI 0) 3), .ref (sv 3)])), (sv 3, .inl (cs 0, 32, .inl ((fun _ => vF) 3))), (v 4, .inr (10, [.int ((fun _ => nI 0) 4), .int ((fun _ => nI 0) 4), .ref (sv 4)])), (sv 4, .inl (cs 0, 32, .inl ((fun _ => vF) 4))), (v 5, .inr (10, [.int ((fun _ => nI 0) 5), .int ((fun _ => nI 0) 5), .ref (sv 5)])), (sv 5, .inl (cs 0, 32, .inl ((fun _ => vF) 5))), (v 6, .inr (10, [.int ((fun _ => nI 0) 6), .int ((fun _ => nI 0) 6), .ref (sv 6)])), (sv 6, .inl (cs 0, 32, .inl ((fun _ => vF) 6))), (v 7, .inr (10, [.int ((fun _ => nI 0) 7), .int ((fun _ => nI 0) 7), .ref (sv 7)])), (sv 7, .inl (cs 0, 32, .inl ((fun _ => vF) 7))), (hgr, .inr (3, [.int (nI 0), .ref gs, .ref g1r, .ref g2r, .ref gan, .ref gpr, .ref gde, .ref gme])), (gme, .inl (cs 0, 8, .inl (fun _ => nI 0))), (hc, .inr (1, [.ref hr, .ref ab, .ref rb, .ref ob, .ref tb, .int (nI 0)])), (qm, .inl (cs 0, 8, .inl (fun _ => nI 0))), (hm, .inr (12, [.ref ms, .ref mkp, .int (nI 0), .ref mtr, .int (nI 4), .int (nI 2), .int (nI 2), .int (nI 3), .int (nI 2), .int (nI 1), .ref mas, .int (nI 0), .int (nI 0), .int (nI 0), .ref mso, .ref mon, .ref mot, .ref man, .int (nI 0), .int (nI 0), .ref mst, .ref msm, .ref mtb, .ref mti, .ref mfr, .ref mbn, .ref mbs, .ref mde, .int (nI 0), .int (nI 0), .int (nI 0), .int (nI 0), .long 0, .long 0, .ref maa, .ref mab, .ref mba, .ref mbb])), (ms, .inl (cs 0, 288, .inl freshS)), (mas, .inl (cs 0, 8, .inl (fun _ => nI 0)))] H) (hD : va_D A [(h0, .inr (11, [.ref hr, .ref hg, .ref hgr, .ref ha, .ref hpo, .ref hly, .ref hse, .ref hc, .ref pa, .ref spr, .ref qm, .int (nI 0), .int (nI 0), .int (nI 0), .int (nI 0), .int (nI 1)])), (hr, .inr (7, [.int (nI 4), .int (nI 2), .int (nI 2), .int (nI 3), .int (nI 2), .int (nI 1), .ref sm, .int (nI 3), .ref ca])), (ca, .inl (cs 0, 8, .inl (fcF 4 2 2 (fun _ => 0) 4))), (sm, .inl (cs 5, 8, .inr (.inr (.inr (.inr (fun i => if i < 8 then some (rw i) else none)))))), (rw 0, .inl (cs 0, 35, .inl (sg 0))), (rw 1, .inl (cs 0, 35, .inl (sg 1))), (rw 2, .inl (cs 0, 35, .inl (sg 2))), (rw 3, .inl (cs 0, 35, .inl (sg 3))), (rw 4, .inl (cs 0, 35, .inl (sg 4))), (rw 5, .inl (cs 0, 35, .inl (sg 5))), (rw 6, .inl (cs 0, 35, .inl (sg 6))), (rw 7, .inl (cs 0, 35, .inl (sg 7))), (hg, .inr (4, [.ref nd, .ref kd, .ref lk, .ref vw])), (nd, .inl (cs 0, 8, .inl (fun _ => nI 0))), (kd, .inl (cs 0, 8, .inl (fun _ => nI 0))), (lk, .inl (cs 0, 8, .inl (fun _ => -1))), (vw, .inl (cs 2, 8, .inr (.inr (.inr (.inr (fun i => some (v i))))))), (v 0, .inr (10, [.int ((fun _ => nI 0) 0), .int ((fun _ => nI 0) 0), .ref (sv 0)])), (sv 0, .inl (cs 0, 32, .inl ((fun _ => vF) 0))), (v 1, .inr (10, [.int ((fun _ => nI 0) 1), .int ((fun _ => nI 0) 1), .ref (sv 1)])), (sv 1, .inl (cs 0, 32, .inl ((fun _ => vF) 1))), (v 2, .inr (10, [.int ((fun _ => nI 0) 2), .int ((fun _ => nI 0) 2), .ref (sv 2)])), (sv 2, .inl (cs 0, 32, .inl ((fun _ => vF) 2))), (v 3, .inr (10, [.int ((fun _ => nI 0) 3), .int ((fun _ => nI 0) 3), .ref (sv 3)])), (sv 3, .inl (cs 0, 32, .inl ((fun _ => vF) 3))), (v 4, .inr (10, [.int ((fun _ => nI 0) 4), .int ((fun _ => nI 0) 4), .ref (sv 4)])), (sv 4, .inl (cs 0, 32, .inl ((fun _ => vF) 4))), (v 5, .inr (10, [.int ((fun _ => nI 0) 5), .int ((fun _ => nI 0) 5), .ref (sv 5)])), (sv 5, .inl (cs 0, 32, .inl ((fun _ => vF) 5))), (v 6, .inr (10, [.int ((fun _ => nI 0) 6), .int ((fun _ => nI 0) 6), .ref (sv 6)])), (sv 6, .inl (cs 0, 32, .inl ((fun _ => vF) 6))), (v 7, .inr (10, [.int ((fun _ => nI 0) 7), .int ((fun _ => nI 0) 7), .ref (sv 7)])), (sv 7, .inl (cs 0, 32, .inl ((fun _ => vF) 7))), (hgr, .inr (3, [.int (nI 0), .ref gs, .ref g1r, .ref g2r, .ref gan, .ref gpr, .ref gde, .ref gme])), (gme, .inl (cs 0, 8, .inl (fun _ => nI 0))), (hc, .inr (1, [.ref hr, .ref ab, .ref rb, .ref ob, .ref tb, .int (nI 0)])), (qm, .inl (cs 0, 8, .inl (fun _ => nI 0))), (hm, .inr (12, [.ref ms, .ref mkp, .int (nI 0), .ref mtr, .int (nI 4), .int (nI 2), .int (nI 2), .int (nI 3), .int (nI 2), .int (nI 1), .ref mas, .int (nI 0), .int (nI 0), .int (nI 0), .ref mso, .ref mon, .ref mot, .ref man, .int (nI 0), .int (nI 0), .ref mst, .ref msm, .ref mtb, .ref mti, .ref mfr, .ref mbn, .ref mbs, .ref mde, .int (nI 0), .int (nI 0), .int (nI 0), .int (nI 0), .long 0, .long 0, .ref maa, .ref mab, .ref mba, .ref mbb])), (ms, .inl (cs 0, 288, .inl freshS)), (mas, .inl (cs 0, 8, .inl (fun _ => nI 0)))]) (hS : va_S A s.heap H locs) (hl : lv_has ls 7 [(4, .int (nI 0)), (3, .ref out), (2, .ref hm), (1, .ref h0), (0, .ref b)]) : W p l e room_1 s m #[Value.ref b] below meth c H locs 261 14585 (lw_Z below #[Value.ref b] s) (F0 m 156 ls []) := by
  have hx := C.1
  have hb := C.2.1
  have hz := C.2.2.2.2.1
  have hown := C.2.2.2.1
  have hA := C.2.2.2.2.2.2.2.2.2
  have hAO := C.2.2.2.2.2.2.2.2.1.2.2
  refine lv_aload_n hx hb dL_law_156 rfl (lv_at hl 3 rfl) ?_
  refine lv_aload_n hx hb dL_law_157 rfl (lv_at hl 4 rfl) ?_
  refine lv_iload hx hb dL_law_158 (lv_at hl 0 rfl) ?_
  refine lv_iconst (v := nI 1) hx hb dL_law_160 (by decide) ?_
  refine lv_iadd hx hb dL_law_161 ?_
  refine lv_topi (nm_r (e' := nI 1) (by decide) ?_)
  refine va_sld hx hb hX hbl hbA hS (pk_in 1 5 (by decide)) dL_law_162 ?_
  refine lv_topi (nm_r (e' := xs 1) (by rw [nI_clamp (by decide)]) ?_)
  refine lv_aload_n hx hb dL_law_163 rfl (lv_at hl 4 rfl) ?_
  refine lv_iload hx hb dL_law_164 (lv_at hl 0 rfl) ?_
  refine lv_iconst (v := nI 2) hx hb dL_law_166 (by decide) ?_
  refine lv_iadd hx hb dL_law_167 ?_
  refine lv_topi (nm_r (e' := nI 2) (by decide) ?_)
  refine va_sld hx hb hX hbl hbA hS (pk_in 2 5 (by decide)) dL_law_168 ?_
  refine lv_topi (nm_r (e' := xs 2) (by rw [nI_clamp (by decide)]) ?_)
  refine lv_aload_n hx hb dL_law_169 rfl (lv_at hl 4 rfl) ?_
  refine lv_iload hx hb dL_law_170 (lv_at hl 0 rfl) ?_
  refine lv_iconst (v := nI 3) hx hb dL_law_172 (by decide) ?_
  refine lv_iadd hx hb dL_law_173 ?_
  refine lv_topi (nm_r (e' := nI 3) (by decide) ?_)
  refine va_sld hx hb hX hbl hbA hS (pk_in 3 5 (by decide)) dL_law_174 ?_
  refine lv_topi (nm_r (e' := xs 3) (by rw [nI_clamp (by decide)]) ?_)
  refine lv_aload_n hx hb dL_law_175 rfl (lv_at hl 4 rfl) ?_
  refine lv_iload hx hb dL_law_176 (lv_at hl 0 rfl) ?_
  refine lv_iconst (v := nI 4) hx hb dL_law_178 (by decide) ?_
  refine lv_iadd hx hb dL_law_179 ?_
  refine lv_topi (nm_r (e' := nI 4) (by decide) ?_)
  refine va_sld hx hb hX hbl hbA hS (pk_in 4 5 (by decide)) dL_law_180 ?_
  refine lv_topi (nm_r (e' := xs 4) (by rw [nI_clamp (by decide)]) ?_)
  refine xi (wr := [(hm, .inr (12, [.ref ms, .ref mkp, .int (nI 0), .ref mtr, .int (nI 4), .int (nI 2), .int (nI 2), .int (nI 3), .int (nI 2), .int (nI 1), .ref mas, .int (nI 0), .int (nI 0), .int (nI 0), .ref mso, .ref mon, .ref mot, .ref man, .int (nI 0), .int (nI 0), .ref mst, .ref msm, .ref mtb, .ref mti, .ref mfr, .ref mbn, .ref mbs, .ref mde, .int (nI 0), .int (nI 0), .int (nI 0), .int (nI 0), .long 0, .long 0, .ref maa, .ref mab, .ref mba, .ref mbb])), (ms, .inl (cs 0, 288, .inl freshS)), (mas, .inl (cs 0, 8, .inl (fun _ => nI 0)))]) (xV (As := [.int (xs 1), .int (xs 2), .int (xs 3), .int (xs 4)]) (rest := []) C (c_X11_group_z l D cs h0 hr hg hgr ha hpo hly hse hc pa spr qm (nI 0) (nI 1) sm ca rw sg nd kd lk vw v sv gs g1r g2r gan gpr gde gme ab rb ob tb (xs 1) (xs 2) (xs 3) (xs 4)) kL_22 hP hD [0, 1, 2, 3, 4, 5, 6, 7, 8, 9, 10, 11, 12, 13, 14, 15, 16, 17, 18, 19, 20, 21, 22, 23, 24, 25, 26, 27, 28, 29, 30, 31, 32, 33, 34, 35, 36] rfl (by decide +kernel) 0 rfl rfl rfl ⟨Nat.le_of_ble_eq_true rfl, Nat.le_of_ble_eq_true rfl⟩ rfl hl.1 rfl (Nat.le_of_ble_eq_true rfl) dL_law_181 ⟨Nat.le_of_ble_eq_true rfl, Nat.le_of_ble_eq_true rfl⟩) hP hD hS hA [0, 1, 2, 3, 4, 5, 6, 7, 8, 9, 10, 11, 12, 13, 14, 15, 16, 17, 18, 19, 20, 21, 22, 23, 24, 25, 26, 27, 28, 29, 30, 31, 32, 33, 34, 35, 36] [37, 38, 39] rfl rfl (by decide +kernel) (by decide +kernel) ?_
  clear hP hD hS
  try clear locs
  try clear H
  intro r_1 u_2 H locs hw_r_1 hP hD hS
  have hw_r_1 : PQ (fitsP (xs 1) (xs 2) (xs 3) (xs 4)) r_1 (nI 1) (nI 0) := hw_r_1
  refine W.widen (k := 261) (n := 14585) (Nat.le_of_ble_eq_true rfl) (Nat.le_of_ble_eq_true rfl) ?_
  replace hP : va_P D vwCl [(hm, .inr (12, [.ref ms, .ref mkp, .int (nI 0), .ref mtr, .int (nI 4), .int (nI 2), .int (nI 2), .int (nI 3), .int (nI 2), .int (nI 1), .ref mas, .int (nI 0), .int (nI 0), .int (nI 0), .ref mso, .ref mon, .ref mot, .ref man, .int (nI 0), .int (nI 0), .ref mst, .ref msm, .ref mtb, .ref mti, .ref mfr, .ref mbn, .ref mbs, .ref mde, .int (nI 0), .int (nI 0), .int (nI 0), .int (nI 0), .long 0, .long 0, .ref maa, .ref mab, .ref mba, .ref mbb])), (ms, .inl (cs 0, 288, .inl freshS)), (mas, .inl (cs 0, 8, .inl (fun _ => nI 0)))] H := hP
  replace hD : va_D A [(hm, .inr (12, [.ref ms, .ref mkp, .int (nI 0), .ref mtr, .int (nI 4), .int (nI 2), .int (nI 2), .int (nI 3), .int (nI 2), .int (nI 1), .ref mas, .int (nI 0), .int (nI 0), .int (nI 0), .ref mso, .ref mon, .ref mot, .ref man, .int (nI 0), .int (nI 0), .ref mst, .ref msm, .ref mtb, .ref mti, .ref mfr, .ref mbn, .ref mbs, .ref mde, .int (nI 0), .int (nI 0), .int (nI 0), .int (nI 0), .long 0, .long 0, .ref maa, .ref mab, .ref mba, .ref mbb])), (ms, .inl (cs 0, 288, .inl freshS)), (mas, .inl (cs 0, 8, .inl (fun _ => nI 0)))] := hD
  refine lv_aload_n hx hb dL_law_184 rfl (lv_at hl 2 rfl) ?_
  refine lv_aload_n hx hb dL_law_185 rfl (lv_at hl 4 rfl) ?_
  refine lv_iload hx hb dL_law_186 (lv_at hl 0 rfl) ?_
  refine lv_iconst (v := nI 1) hx hb dL_law_188 (by decide) ?_
  refine lv_iadd hx hb dL_law_189 ?_
  refine lv_topi (nm_r (e' := nI 1) (by decide) ?_)
  refine va_sld hx hb hX hbl hbA hS (pk_in 1 5 (by decide)) dL_law_190 ?_
  refine lv_topi (nm_r (e' := xs 1) (by rw [nI_clamp (by decide)]) ?_)
  refine lv_aload_n hx hb dL_law_191 rfl (lv_at hl 4 rfl) ?_
  refine lv_iload hx hb dL_law_192 (lv_at hl 0 rfl) ?_
  refine lv_iconst (v := nI 2) hx hb dL_law_194 (by decide) ?_
  refine lv_iadd hx hb dL_law_195 ?_
  refine lv_topi (nm_r (e' := nI 2) (by decide) ?_)
  refine va_sld hx hb hX hbl hbA hS (pk_in 2 5 (by decide)) dL_law_196 ?_
  refine lv_topi (nm_r (e' := xs 2) (by rw [nI_clamp (by decide)]) ?_)
  refine lv_aload_n hx hb dL_law_197 rfl (lv_at hl 4 rfl) ?_
  refine lv_iload hx hb dL_law_198 (lv_at hl 0 rfl) ?_
  refine lv_iconst (v := nI 3) hx hb dL_law_200 (by decide) ?_
  refine lv_iadd hx hb dL_law_201 ?_
  refine lv_topi (nm_r (e' := nI 3) (by decide) ?_)
  refine va_sld hx hb hX hbl hbA hS (pk_in 3 5 (by decide)) dL_law_202 ?_
  refine lv_topi (nm_r (e' := xs 3) (by rw [nI_clamp (by decide)]) ?_)
  refine lv_aload_n hx hb dL_law_203 rfl (lv_at hl 4 rfl) ?_
  refine lv_iload hx hb dL_law_204 (lv_at hl 0 rfl) ?_
  refine lv_iconst (v := nI 4) hx hb dL_law_206 (by decide) ?_
  refine lv_iadd hx hb dL_law_207 ?_
  refine lv_topi (nm_r (e' := nI 4) (by decide) ?_)
  refine va_sld hx hb hX hbl hbA hS (pk_in 4 5 (by decide)) dL_law_208 ?_
  refine lv_topi (nm_r (e' := xs 4) (by rw [nI_clamp (by decide)]) ?_)
  refine xi (wr := []) (xV (As := [.int (xs 1), .int (xs 2), .int (xs 3), .int (xs 4)]) (rest := [.int r_1]) C (c_X12_group_z l D cs hm ms mkp mtr mas mso mon mot man mst msm mtb mti mfr mbn mbs mde maa mab mba mbb (xs 1) (xs 2) (xs 3) (xs 4)) kL_26 hP hD [0, 1, 2] rfl (by decide +kernel) 0 rfl rfl rfl ⟨Nat.le_of_ble_eq_true rfl, Nat.le_of_ble_eq_true rfl⟩ rfl hl.1 rfl (Nat.le_of_ble_eq_true rfl) dL_law_209 ⟨Nat.le_of_ble_eq_true rfl, Nat.le_of_ble_eq_true rfl⟩) hP hD hS hA [0, 1, 2] [] rfl rfl (by decide +kernel) (by decide +kernel) ?_
  clear hP hD hS
  try clear locs
  try clear H
  intro r_3 u_4 H locs hw_r_3 hP hD hS
  have hw_r_3 : PQ (fitsP (xs 1) (xs 2) (xs 3) (xs 4)) r_3 (nI 1) (nI 0) := hw_r_3
  refine W.widen (k := 261) (n := 14585) (Nat.le_of_ble_eq_true rfl) (Nat.le_of_ble_eq_true rfl) ?_
  replace hP : va_P D vwCl [] H := hP
  replace hD : va_D A [] := hD
  refine lv_icmp_eq (tgt := 1199) hx hb dL_law_212 (by decide) (fun _ => ?_) (fun c => absurd (PQ.eq hw_r_1 hw_r_3) c)
  refine lv_iinc (v := nI 5) (lv' := [(4, .int (nI 5)), (3, .ref out), (2, .ref hm), (1, .ref h0), (0, .ref b)]) hx hb dL_law_1199 hl (k := 0) rfl (by decide) (by decide) rfl ?_
  clear hl
  try clear ls
  intro ls hl
  refine lv_goto (tgt := 23) hx hb dL_law_1202 (by decide) ?_
  refine lv_iload hx hb dL_law_23 (lv_at hl 0 rfl) ?_
  refine lv_aload_n hx hb dL_law_25 rfl (lv_at hl 4 rfl) ?_
  refine va_slen hx hb hX hbl hbA hS dL_law_26 ?_
  refine lv_topi (nm_r (e' := nI 5) rfl ?_)
  refine lv_iconst (v := nI 5) hx hb dL_law_27 (by decide) ?_
  refine lv_isub hx hb dL_law_28 ?_
  refine lv_topi (nm_r (e' := nI 0) (by decide) ?_)
  refine lv_icmp_gt (tgt := 1205) hx hb dL_law_29 (by decide) (fun _ => ?_) (fun c => absurd (by decide) c)
  refine lv_iconst (v := nI 1) hx hb dL_law_1205 (by decide) ?_
  refine lv_topi (nm_r (e' := 1) rfl ?_)
  exact va_forget (fun q hq => hA2 _ (hS.2.2 q hq)) (W.widen (Nat.le_of_ble_eq_true rfl) (Nat.le_of_ble_eq_true rfl) (W.base (lw_ret (Drawn.sameBut.refl s.drawn lw_cs) hx hb C.2.2.2.2.2.1 C.2.2.2.2.2.2.1 dL_law_1206)))

set_option maxHeartbeats 4000000 in
set_option maxRecDepth 100000 in
theorem law_case_1 {p : Program} {e : Env} {s : State} {m : MethodId} {below : List Frame} {meth : Method} {c : Code} (l : Launch) (hfl : l.stackTraces = false) {D : va_G} {cs : Nat → ClassId} {A : Nat → Prop} {b : Nat} {xs : Nat → Int32} (C : xC p room_1 s m #[Value.ref b] meth c ⟨"SampleHouseLaw", meth.name, ""⟩ code 7 ret D cs A) (hTH : xTH s) (hZ0 : xZ A s s.heap) (hX : va_X b 5 xs s s.heap) (hbl : b < s.heap.size) (hbA : ¬ A b) (hA2 : ∀ q, A q → s.heap.size ≤ q) (hr hg hgr ha hpo hly hse hc pa spr qm sm ca nd kd lk vw gs g1r g2r gan gpr gde gme wk spa aga ona wk2 ab rb ob tb hp0 nd0 kd0 lk0 vw0 : Nat) (v sv v0 sv0 rw rl : Nat → Nat) (sg : Nat → Nat → Int32) (pf : Nat → Option Nat) (ms mkp mtr mas mso mon mot man mst msm mtb mti mfr mbn mbs mde maa mab mba mbb h0 hm out : Nat) (hpf : pf 0 = some hp0) {H : Heap} {locs : List Loc} {ls : Array Slot} (hP : va_P D vwCl [(h0, .inr (11, [.ref hr, .ref hg, .ref hgr, .ref ha, .ref hpo, .ref hly, .ref hse, .ref hc, .ref pa, .ref spr, .ref qm, .int (nI 0), .int (nI 0), .int (nI 0), .int (nI 0), .int (nI 1)])), (hr, .inr (7, [.int (nI 4), .int (nI 2), .int (nI 2), .int (nI 3), .int (nI 2), .int (nI 1), .ref sm, .int (nI 3), .ref ca])), (hm, .inr (12, [.ref ms, .ref mkp, .int (nI 0), .ref mtr, .int (nI 4), .int (nI 2), .int (nI 2), .int (nI 3), .int (nI 2), .int (nI 1), .ref mas, .int (nI 0), .int (nI 0), .int (nI 0), .ref mso, .ref mon, .ref mot, .ref man, .int (nI 0), .int (nI 0), .ref mst, .ref msm, .ref mtb, .ref mti, .ref mfr, .ref mbn, .ref mbs, .ref mde, .int (nI 0), .int (nI 0), .int (nI 0), .int (nI 0), .long 0, .long 0, .ref maa, .ref mab, .ref mba, .ref mbb]))] H) (hD : va_D A [(h0, .inr (11, [.ref hr, .ref hg, .ref hgr, .ref ha, .ref hpo, .ref hly, .ref hse, .ref hc, .ref pa, .ref spr, .ref qm, .int (nI 0), .int (nI 0), .int (nI 0), .int (nI 0), .int (nI 1)])), (hr, .inr (7, [.int (nI 4), .int (nI 2), .int (nI 2), .int (nI 3), .int (nI 2), .int (nI 1), .ref sm, .int (nI 3), .ref ca])), (hm, .inr (12, [.ref ms, .ref mkp, .int (nI 0), .ref mtr, .int (nI 4), .int (nI 2), .int (nI 2), .int (nI 3), .int (nI 2), .int (nI 1), .ref mas, .int (nI 0), .int (nI 0), .int (nI 0), .ref mso, .ref mon, .ref mot, .ref man, .int (nI 0), .int (nI 0), .ref mst, .ref msm, .ref mtb, .ref mti, .ref mfr, .ref mbn, .ref mbs, .ref mde, .int (nI 0), .int (nI 0), .int (nI 0), .int (nI 0), .long 0, .long 0, .ref maa, .ref mab, .ref mba, .ref mbb]))]) (hS : va_S A s.heap H locs) (hl : lv_has ls 7 [(4, .int (nI 0)), (3, .ref out), (2, .ref hm), (1, .ref h0), (0, .ref b)]) : W p l e room_1 s m #[Value.ref b] below meth c H locs 261 14585 (lw_Z below #[Value.ref b] s) (F0 m 217 ls []) := by
  have hx := C.1
  have hb := C.2.1
  have hz := C.2.2.2.2.1
  have hown := C.2.2.2.1
  have hA := C.2.2.2.2.2.2.2.2.2
  have hAO := C.2.2.2.2.2.2.2.2.1.2.2
  refine lv_aload_n hx hb dL_law_217 rfl (lv_at hl 3 rfl) ?_
  refine lv_aload_n hx hb dL_law_218 rfl (lv_at hl 4 rfl) ?_
  refine lv_iload hx hb dL_law_219 (lv_at hl 0 rfl) ?_
  refine lv_iconst (v := nI 1) hx hb dL_law_221 (by decide) ?_
  refine lv_iadd hx hb dL_law_222 ?_
  refine lv_topi (nm_r (e' := nI 1) (by decide) ?_)
  refine va_sld hx hb hX hbl hbA hS (pk_in 1 5 (by decide)) dL_law_223 ?_
  refine lv_topi (nm_r (e' := xs 1) (by rw [nI_clamp (by decide)]) ?_)
  refine xi (wr := [(hm, .inr (12, [.ref ms, .ref mkp, .int (nI 0), .ref mtr, .int (nI 4), .int (nI 2), .int (nI 2), .int (nI 3), .int (nI 2), .int (nI 1), .ref mas, .int (nI 0), .int (nI 0), .int (nI 0), .ref mso, .ref mon, .ref mot, .ref man, .int (nI 0), .int (nI 0), .ref mst, .ref msm, .ref mtb, .ref mti, .ref mfr, .ref mbn, .ref mbs, .ref mde, .int (nI 0), .int (nI 0), .int (nI 0), .int (nI 0), .long 0, .long 0, .ref maa, .ref mab, .ref mba, .ref mbb]))]) (xV (As := [.int (xs 1)]) (rest := []) C (c_X11_protocol_z l D cs h0 hr hg hgr ha hpo hly hse hc pa spr qm (nI 0) (nI 1) sm ca (xs 1)) kL_27 hP hD [0, 1] rfl (by decide +kernel) 0 rfl rfl rfl ⟨Nat.le_of_ble_eq_true rfl, Nat.le_of_ble_eq_true rfl⟩ rfl hl.1 rfl (Nat.le_of_ble_eq_true rfl) dL_law_224 ⟨Nat.le_of_ble_eq_true rfl, Nat.le_of_ble_eq_true rfl⟩) hP hD hS hA [0, 1] [2] rfl rfl (by decide +kernel) (by decide +kernel) ?_
  clear hP hD hS
  try clear locs
  try clear H
  intro r_1 u_2 H locs hw_r_1 hP hD hS
  have hw_r_1 : PQ (¬ (xs 1) < 0 ∧ (xs 1) ≤ nI 2) r_1 (nI 1) (-1) := hw_r_1
  refine W.widen (k := 261) (n := 14585) (Nat.le_of_ble_eq_true rfl) (Nat.le_of_ble_eq_true rfl) ?_
  replace hP : va_P D vwCl [(hm, .inr (12, [.ref ms, .ref mkp, .int (nI 0), .ref mtr, .int (nI 4), .int (nI 2), .int (nI 2), .int (nI 3), .int (nI 2), .int (nI 1), .ref mas, .int (nI 0), .int (nI 0), .int (nI 0), .ref mso, .ref mon, .ref mot, .ref man, .int (nI 0), .int (nI 0), .ref mst, .ref msm, .ref mtb, .ref mti, .ref mfr, .ref mbn, .ref mbs, .ref mde, .int (nI 0), .int (nI 0), .int (nI 0), .int (nI 0), .long 0, .long 0, .ref maa, .ref mab, .ref mba, .ref mbb]))] H := hP
  replace hD : va_D A [(hm, .inr (12, [.ref ms, .ref mkp, .int (nI 0), .ref mtr, .int (nI 4), .int (nI 2), .int (nI 2), .int (nI 3), .int (nI 2), .int (nI 1), .ref mas, .int (nI 0), .int (nI 0), .int (nI 0), .ref mso, .ref mon, .ref mot, .ref man, .int (nI 0), .int (nI 0), .ref mst, .ref msm, .ref mtb, .ref mti, .ref mfr, .ref mbn, .ref mbs, .ref mde, .int (nI 0), .int (nI 0), .int (nI 0), .int (nI 0), .long 0, .long 0, .ref maa, .ref mab, .ref mba, .ref mbb]))] := hD
  refine lv_aload_n hx hb dL_law_227 rfl (lv_at hl 2 rfl) ?_
  refine lv_aload_n hx hb dL_law_228 rfl (lv_at hl 4 rfl) ?_
  refine lv_iload hx hb dL_law_229 (lv_at hl 0 rfl) ?_
  refine lv_iconst (v := nI 1) hx hb dL_law_231 (by decide) ?_
  refine lv_iadd hx hb dL_law_232 ?_
  refine lv_topi (nm_r (e' := nI 1) (by decide) ?_)
  refine va_sld hx hb hX hbl hbA hS (pk_in 1 5 (by decide)) dL_law_233 ?_
  refine lv_topi (nm_r (e' := xs 1) (by rw [nI_clamp (by decide)]) ?_)
  refine xi (wr := []) (xV (As := [.int (xs 1)]) (rest := [.int r_1]) C (c_X12_protocol_z l D cs hm ms mkp mtr mas mso mon mot man mst msm mtb mti mfr mbn mbs mde maa mab mba mbb (xs 1)) kL_31 hP hD [0] rfl (by decide +kernel) 0 rfl rfl rfl ⟨Nat.le_of_ble_eq_true rfl, Nat.le_of_ble_eq_true rfl⟩ rfl hl.1 rfl (Nat.le_of_ble_eq_true rfl) dL_law_234 ⟨Nat.le_of_ble_eq_true rfl, Nat.le_of_ble_eq_true rfl⟩) hP hD hS hA [0] [] rfl rfl (by decide +kernel) (by decide +kernel) ?_
  clear hP hD hS
  try clear locs
  try clear H
  intro r_3 u_4 H locs hw_r_3 hP hD hS
  have hw_r_3 : PQ (¬ (xs 1) < 0 ∧ (xs 1) ≤ nI 2) r_3 (nI 1) (-1) := hw_r_3
  refine W.widen (k := 261) (n := 14585) (Nat.le_of_ble_eq_true rfl) (Nat.le_of_ble_eq_true rfl) ?_
  replace hP : va_P D vwCl [] H := hP
  replace hD : va_D A [] := hD
  refine lv_icmp_eq (tgt := 1199) hx hb dL_law_237 (by decide) (fun _ => ?_) (fun c => absurd (PQ.eq hw_r_1 hw_r_3) c)
  refine lv_iinc (v := nI 5) (lv' := [(4, .int (nI 5)), (3, .ref out), (2, .ref hm), (1, .ref h0), (0, .ref b)]) hx hb dL_law_1199 hl (k := 0) rfl (by decide) (by decide) rfl ?_
  clear hl
  try clear ls
  intro ls hl
  refine lv_goto (tgt := 23) hx hb dL_law_1202 (by decide) ?_
  refine lv_iload hx hb dL_law_23 (lv_at hl 0 rfl) ?_
  refine lv_aload_n hx hb dL_law_25 rfl (lv_at hl 4 rfl) ?_
  refine va_slen hx hb hX hbl hbA hS dL_law_26 ?_
  refine lv_topi (nm_r (e' := nI 5) rfl ?_)
  refine lv_iconst (v := nI 5) hx hb dL_law_27 (by decide) ?_
  refine lv_isub hx hb dL_law_28 ?_
  refine lv_topi (nm_r (e' := nI 0) (by decide) ?_)
  refine lv_icmp_gt (tgt := 1205) hx hb dL_law_29 (by decide) (fun _ => ?_) (fun c => absurd (by decide) c)
  refine lv_iconst (v := nI 1) hx hb dL_law_1205 (by decide) ?_
  refine lv_topi (nm_r (e' := 1) rfl ?_)
  exact va_forget (fun q hq => hA2 _ (hS.2.2 q hq)) (W.widen (Nat.le_of_ble_eq_true rfl) (Nat.le_of_ble_eq_true rfl) (W.base (lw_ret (Drawn.sameBut.refl s.drawn lw_cs) hx hb C.2.2.2.2.2.1 C.2.2.2.2.2.2.1 dL_law_1206)))

set_option maxHeartbeats 4000000 in
set_option maxRecDepth 100000 in
theorem law_case_2 {p : Program} {e : Env} {s : State} {m : MethodId} {below : List Frame} {meth : Method} {c : Code} (l : Launch) (hfl : l.stackTraces = false) {D : va_G} {cs : Nat → ClassId} {A : Nat → Prop} {b : Nat} {xs : Nat → Int32} (C : xC p room_1 s m #[Value.ref b] meth c ⟨"SampleHouseLaw", meth.name, ""⟩ code 7 ret D cs A) (hTH : xTH s) (hZ0 : xZ A s s.heap) (hX : va_X b 5 xs s s.heap) (hbl : b < s.heap.size) (hbA : ¬ A b) (hA2 : ∀ q, A q → s.heap.size ≤ q) (hr hg hgr ha hpo hly hse hc pa spr qm sm ca nd kd lk vw gs g1r g2r gan gpr gde gme wk spa aga ona wk2 ab rb ob tb hp0 nd0 kd0 lk0 vw0 : Nat) (v sv v0 sv0 rw rl : Nat → Nat) (sg : Nat → Nat → Int32) (pf : Nat → Option Nat) (ms mkp mtr mas mso mon mot man mst msm mtb mti mfr mbn mbs mde maa mab mba mbb h0 hm out : Nat) (hpf : pf 0 = some hp0) {H : Heap} {locs : List Loc} {ls : Array Slot} (hP : va_P D vwCl [(h0, .inr (11, [.ref hr, .ref hg, .ref hgr, .ref ha, .ref hpo, .ref hly, .ref hse, .ref hc, .ref pa, .ref spr, .ref qm, .int (nI 0), .int (nI 0), .int (nI 0), .int (nI 0), .int (nI 1)])), (hr, .inr (7, [.int (nI 4), .int (nI 2), .int (nI 2), .int (nI 3), .int (nI 2), .int (nI 1), .ref sm, .int (nI 3), .ref ca])), (hm, .inr (12, [.ref ms, .ref mkp, .int (nI 0), .ref mtr, .int (nI 4), .int (nI 2), .int (nI 2), .int (nI 3), .int (nI 2), .int (nI 1), .ref mas, .int (nI 0), .int (nI 0), .int (nI 0), .ref mso, .ref mon, .ref mot, .ref man, .int (nI 0), .int (nI 0), .ref mst, .ref msm, .ref mtb, .ref mti, .ref mfr, .ref mbn, .ref mbs, .ref mde, .int (nI 0), .int (nI 0), .int (nI 0), .int (nI 0), .long 0, .long 0, .ref maa, .ref mab, .ref mba, .ref mbb]))] H) (hD : va_D A [(h0, .inr (11, [.ref hr, .ref hg, .ref hgr, .ref ha, .ref hpo, .ref hly, .ref hse, .ref hc, .ref pa, .ref spr, .ref qm, .int (nI 0), .int (nI 0), .int (nI 0), .int (nI 0), .int (nI 1)])), (hr, .inr (7, [.int (nI 4), .int (nI 2), .int (nI 2), .int (nI 3), .int (nI 2), .int (nI 1), .ref sm, .int (nI 3), .ref ca])), (hm, .inr (12, [.ref ms, .ref mkp, .int (nI 0), .ref mtr, .int (nI 4), .int (nI 2), .int (nI 2), .int (nI 3), .int (nI 2), .int (nI 1), .ref mas, .int (nI 0), .int (nI 0), .int (nI 0), .ref mso, .ref mon, .ref mot, .ref man, .int (nI 0), .int (nI 0), .ref mst, .ref msm, .ref mtb, .ref mti, .ref mfr, .ref mbn, .ref mbs, .ref mde, .int (nI 0), .int (nI 0), .int (nI 0), .int (nI 0), .long 0, .long 0, .ref maa, .ref mab, .ref mba, .ref mbb]))]) (hS : va_S A s.heap H locs) (hl : lv_has ls 7 [(4, .int (nI 0)), (3, .ref out), (2, .ref hm), (1, .ref h0), (0, .ref b)]) : W p l e room_1 s m #[Value.ref b] below meth c H locs 261 14585 (lw_Z below #[Value.ref b] s) (F0 m 242 ls []) := by
  have hx := C.1
  have hb := C.2.1
  have hz := C.2.2.2.2.1
  have hown := C.2.2.2.1
  have hA := C.2.2.2.2.2.2.2.2.2
  have hAO := C.2.2.2.2.2.2.2.2.1.2.2
  refine lv_aload_n hx hb dL_law_242 rfl (lv_at hl 3 rfl) ?_
  refine lv_aload_n hx hb dL_law_243 rfl (lv_at hl 4 rfl) ?_
  refine lv_iload hx hb dL_law_244 (lv_at hl 0 rfl) ?_
  refine lv_iconst (v := nI 1) hx hb dL_law_246 (by decide) ?_
  refine lv_iadd hx hb dL_law_247 ?_
  refine lv_topi (nm_r (e' := nI 1) (by decide) ?_)
  refine va_sld hx hb hX hbl hbA hS (pk_in 1 5 (by decide)) dL_law_248 ?_
  refine lv_topi (nm_r (e' := xs 1) (by rw [nI_clamp (by decide)]) ?_)
  refine xi (wr := [(hm, .inr (12, [.ref ms, .ref mkp, .int (nI 0), .ref mtr, .int (nI 4), .int (nI 2), .int (nI 2), .int (nI 3), .int (nI 2), .int (nI 1), .ref mas, .int (nI 0), .int (nI 0), .int (nI 0), .ref mso, .ref mon, .ref mot, .ref man, .int (nI 0), .int (nI 0), .ref mst, .ref msm, .ref mtb, .ref mti, .ref mfr, .ref mbn, .ref mbs, .ref mde, .int (nI 0), .int (nI 0), .int (nI 0), .int (nI 0), .long 0, .long 0, .ref maa, .ref mab, .ref mba, .ref mbb]))]) (xV (As := [.int (xs 1)]) (rest := []) C (c_X11_early_z l D cs h0 hr hg hgr ha hpo hly hse hc pa spr qm (nI 0) (nI 1) sm ca (xs 1)) kL_32 hP hD [0, 1] rfl (by decide +kernel) 0 rfl rfl rfl ⟨Nat.le_of_ble_eq_true rfl, Nat.le_of_ble_eq_true rfl⟩ rfl hl.1 rfl (Nat.le_of_ble_eq_true rfl) dL_law_249 ⟨Nat.le_of_ble_eq_true rfl, Nat.le_of_ble_eq_true rfl⟩) hP hD hS hA [0, 1] [2] rfl rfl (by decide +kernel) (by decide +kernel) ?_
  clear hP hD hS
  try clear locs
  try clear H
  intro r_1 u_2 H locs hw_r_1 hP hD hS
  have hw_r_1 : PQ (¬ (xs 1) < nI 1 ∧ (xs 1) ≤ nI 3) r_1 (nI 2) (-1) := hw_r_1
  refine W.widen (k := 261) (n := 14585) (Nat.le_of_ble_eq_true rfl) (Nat.le_of_ble_eq_true rfl) ?_
  replace hP : va_P D vwCl [(hm, .inr (12, [.ref ms, .ref mkp, .int (nI 0), .ref mtr, .int (nI 4), .int (nI 2), .int (nI 2), .int (nI 3), .int (nI 2), .int (nI 1), .ref mas, .int (nI 0), .int (nI 0), .int (nI 0), .ref mso, .ref mon, .ref mot, .ref man, .int (nI 0), .int (nI 0), .ref mst, .ref msm, .ref mtb, .ref mti, .ref mfr, .ref mbn, .ref mbs, .ref mde, .int (nI 0), .int (nI 0), .int (nI 0), .int (nI 0), .long 0, .long 0, .ref maa, .ref mab, .ref mba, .ref mbb]))] H := hP
  replace hD : va_D A [(hm, .inr (12, [.ref ms, .ref mkp, .int (nI 0), .ref mtr, .int (nI 4), .int (nI 2), .int (nI 2), .int (nI 3), .int (nI 2), .int (nI 1), .ref mas, .int (nI 0), .int (nI 0), .int (nI 0), .ref mso, .ref mon, .ref mot, .ref man, .int (nI 0), .int (nI 0), .ref mst, .ref msm, .ref mtb, .ref mti, .ref mfr, .ref mbn, .ref mbs, .ref mde, .int (nI 0), .int (nI 0), .int (nI 0), .int (nI 0), .long 0, .long 0, .ref maa, .ref mab, .ref mba, .ref mbb]))] := hD
  refine lv_aload_n hx hb dL_law_252 rfl (lv_at hl 2 rfl) ?_
  refine lv_aload_n hx hb dL_law_253 rfl (lv_at hl 4 rfl) ?_
  refine lv_iload hx hb dL_law_254 (lv_at hl 0 rfl) ?_
  refine lv_iconst (v := nI 1) hx hb dL_law_256 (by decide) ?_
  refine lv_iadd hx hb dL_law_257 ?_
  refine lv_topi (nm_r (e' := nI 1) (by decide) ?_)
  refine va_sld hx hb hX hbl hbA hS (pk_in 1 5 (by decide)) dL_law_258 ?_
  refine lv_topi (nm_r (e' := xs 1) (by rw [nI_clamp (by decide)]) ?_)
  refine xi (wr := []) (xV (As := [.int (xs 1)]) (rest := [.int r_1]) C (c_X12_early_z l D cs hm ms mkp mtr mas mso mon mot man mst msm mtb mti mfr mbn mbs mde maa mab mba mbb (xs 1)) kL_35 hP hD [0] rfl (by decide +kernel) 0 rfl rfl rfl ⟨Nat.le_of_ble_eq_true rfl, Nat.le_of_ble_eq_true rfl⟩ rfl hl.1 rfl (Nat.le_of_ble_eq_true rfl) dL_law_259 ⟨Nat.le_of_ble_eq_true rfl, Nat.le_of_ble_eq_true rfl⟩) hP hD hS hA [0] [] rfl rfl (by decide +kernel) (by decide +kernel) ?_
  clear hP hD hS
  try clear locs
  try clear H
  intro r_3 u_4 H locs hw_r_3 hP hD hS
  have hw_r_3 : PQ (¬ (xs 1) < nI 1 ∧ (xs 1) ≤ nI 3) r_3 (nI 2) (-1) := hw_r_3
  refine W.widen (k := 261) (n := 14585) (Nat.le_of_ble_eq_true rfl) (Nat.le_of_ble_eq_true rfl) ?_
  replace hP : va_P D vwCl [] H := hP
  replace hD : va_D A [] := hD
  refine lv_icmp_eq (tgt := 1199) hx hb dL_law_262 (by decide) (fun _ => ?_) (fun c => absurd (PQ.eq hw_r_1 hw_r_3) c)
  refine lv_iinc (v := nI 5) (lv' := [(4, .int (nI 5)), (3, .ref out), (2, .ref hm), (1, .ref h0), (0, .ref b)]) hx hb dL_law_1199 hl (k := 0) rfl (by decide) (by decide) rfl ?_
  clear hl
  try clear ls
  intro ls hl
  refine lv_goto (tgt := 23) hx hb dL_law_1202 (by decide) ?_
  refine lv_iload hx hb dL_law_23 (lv_at hl 0 rfl) ?_
  refine lv_aload_n hx hb dL_law_25 rfl (lv_at hl 4 rfl) ?_
  refine va_slen hx hb hX hbl hbA hS dL_law_26 ?_
  refine lv_topi (nm_r (e' := nI 5) rfl ?_)
  refine lv_iconst (v := nI 5) hx hb dL_law_27 (by decide) ?_
  refine lv_isub hx hb dL_law_28 ?_
  refine lv_topi (nm_r (e' := nI 0) (by decide) ?_)
  refine lv_icmp_gt (tgt := 1205) hx hb dL_law_29 (by decide) (fun _ => ?_) (fun c => absurd (by decide) c)
  refine lv_iconst (v := nI 1) hx hb dL_law_1205 (by decide) ?_
  refine lv_topi (nm_r (e' := 1) rfl ?_)
  exact va_forget (fun q hq => hA2 _ (hS.2.2 q hq)) (W.widen (Nat.le_of_ble_eq_true rfl) (Nat.le_of_ble_eq_true rfl) (W.base (lw_ret (Drawn.sameBut.refl s.drawn lw_cs) hx hb C.2.2.2.2.2.1 C.2.2.2.2.2.2.1 dL_law_1206)))

set_option maxHeartbeats 4000000 in
set_option maxRecDepth 100000 in
theorem law_case_3 {p : Program} {e : Env} {s : State} {m : MethodId} {below : List Frame} {meth : Method} {c : Code} (l : Launch) (hfl : l.stackTraces = false) {D : va_G} {cs : Nat → ClassId} {A : Nat → Prop} {b : Nat} {xs : Nat → Int32} (C : xC p room_1 s m #[Value.ref b] meth c ⟨"SampleHouseLaw", meth.name, ""⟩ code 7 ret D cs A) (hTH : xTH s) (hZ0 : xZ A s s.heap) (hX : va_X b 5 xs s s.heap) (hbl : b < s.heap.size) (hbA : ¬ A b) (hA2 : ∀ q, A q → s.heap.size ≤ q) (hr hg hgr ha hpo hly hse hc pa spr qm sm ca nd kd lk vw gs g1r g2r gan gpr gde gme wk spa aga ona wk2 ab rb ob tb hp0 nd0 kd0 lk0 vw0 : Nat) (v sv v0 sv0 rw rl : Nat → Nat) (sg : Nat → Nat → Int32) (pf : Nat → Option Nat) (ms mkp mtr mas mso mon mot man mst msm mtb mti mfr mbn mbs mde maa mab mba mbb h0 hm out : Nat) (hpf : pf 0 = some hp0) {H : Heap} {locs : List Loc} {ls : Array Slot} (hP : va_P D vwCl [(h0, .inr (11, [.ref hr, .ref hg, .ref hgr, .ref ha, .ref hpo, .ref hly, .ref hse, .ref hc, .ref pa, .ref spr, .ref qm, .int (nI 0), .int (nI 0), .int (nI 0), .int (nI 0), .int (nI 1)])), (hr, .inr (7, [.int (nI 4), .int (nI 2), .int (nI 2), .int (nI 3), .int (nI 2), .int (nI 1), .ref sm, .int (nI 3), .ref ca])), (hg, .inr (4, [.ref nd, .ref kd, .ref lk, .ref vw])), (nd, .inl (cs 0, 8, .inl (fun _ => nI 0))), (kd, .inl (cs 0, 8, .inl (fun _ => nI 0))), (lk, .inl (cs 0, 8, .inl (fun _ => -1))), (vw, .inl (cs 2, 8, .inr (.inr (.inr (.inr (fun i => some (v i))))))), (v 0, .inr (10, [.int ((fun _ => nI 0) 0), .int ((fun _ => nI 0) 0), .ref (sv 0)])), (sv 0, .inl (cs 0, 32, .inl ((fun _ => vF) 0))), (v 1, .inr (10, [.int ((fun _ => nI 0) 1), .int ((fun _ => nI 0) 1), .ref (sv 1)])), (sv 1, .inl (cs 0, 32, .inl ((fun _ => vF) 1))), (v 2, .inr (10, [.int ((fun _ => nI 0) 2), .int ((fun _ => nI 0) 2), .ref (sv 2)])), (sv 2, .inl (cs 0, 32, .inl ((fun _ => vF) 2))), (v 3, .inr (10, [.int ((fun _ => nI 0) 3), .int ((fun _ => nI 0) 3), .ref (sv 3)])), (sv 3, .inl (cs 0, 32, .inl ((fun _ => vF) 3))), (v 4, .inr (10, [.int ((fun _ => nI 0) 4), .int ((fun _ => nI 0) 4), .ref (sv 4)])), (sv 4, .inl (cs 0, 32, .inl ((fun _ => vF) 4))), (v 5, .inr (10, [.int ((fun _ => nI 0) 5), .int ((fun _ => nI 0) 5), .ref (sv 5)])), (sv 5, .inl (cs 0, 32, .inl ((fun _ => vF) 5))), (v 6, .inr (10, [.int ((fun _ => nI 0) 6), .int ((fun _ => nI 0) 6), .ref (sv 6)])), (sv 6, .inl (cs 0, 32, .inl ((fun _ => vF) 6))), (v 7, .inr (10, [.int ((fun _ => nI 0) 7), .int ((fun _ => nI 0) 7), .ref (sv 7)])), (sv 7, .inl (cs 0, 32, .inl ((fun _ => vF) 7))), (pa, .inl (cs 3, 8, .inr (.inr (.inr (.inr pf))))), (hp0, .inr (4, [.ref nd0, .ref kd0, .ref lk0, .ref vw0])), (nd0, .inl (cs 0, 8, .inl (fun _ => nI 0))), (kd0, .inl (cs 0, 8, .inl (fun _ => nI 0))), (lk0, .inl (cs 0, 8, .inl (fun _ => -1))), (vw0, .inl (cs 2, 8, .inr (.inr (.inr (.inr (fun i => some (v0 i))))))), (v0 0, .inr (10, [.int ((fun _ => nI 0) 0), .int ((fun _ => nI 0) 0), .ref (sv0 0)])), (sv0 0, .inl (cs 0, 32, .inl ((fun _ => vF) 0))), (v0 1, .inr (10, [.int ((fun _ => nI 0) 1), .int ((fun _ => nI 0) 1), .ref (sv0 1)])), (sv0 1, .inl (cs 0, 32, .inl ((fun _ => vF) 1))), (v0 2, .inr (10, [.int ((fun _ => nI 0) 2), .int ((fun _ => nI 0) 2), .ref (sv0 2)])), (sv0 2, .inl (cs 0, 32, .inl ((fun _ => vF) 2))), (v0 3, .inr (10, [.int ((fun _ => nI 0) 3), .int ((fun _ => nI 0) 3), .ref (sv0 3)])), (sv0 3, .inl (cs 0, 32, .inl ((fun _ => vF) 3))), (v0 4, .inr (10, [.int ((fun _ => nI 0) 4), .int ((fun _ => nI 0) 4), .ref (sv0 4)])), (sv0 4, .inl (cs 0, 32, .inl ((fun _ => vF) 4))), (v0 5, .inr (10, [.int ((fun _ => nI 0) 5), .int ((fun _ => nI 0) 5), .ref (sv0 5)])), (sv0 5, .inl (cs 0, 32, .inl ((fun _ => vF) 5))), (v0 6, .inr (10, [.int ((fun _ => nI 0) 6), .int ((fun _ => nI 0) 6), .ref (sv0 6)])), (sv0 6, .inl (cs 0, 32, .inl ((fun _ => vF) 6))), (v0 7, .inr (10, [.int ((fun _ => nI 0) 7), .int ((fun _ => nI 0) 7), .ref (sv0 7)])), (sv0 7, .inl (cs 0, 32, .inl ((fun _ => vF) 7))), (hm, .inr (12, [.ref ms, .ref mkp, .int (nI 0), .ref mtr, .int (nI 4), .int (nI 2), .int (nI 2), .int (nI 3), .int (nI 2), .int (nI 1), .ref mas, .int (nI 0), .int (nI 0), .int (nI 0), .ref mso, .ref mon, .ref mot, .ref man, .int (nI 0), .int (nI 0), .ref mst, .ref msm, .ref mtb, .ref mti, .ref mfr, .ref mbn, .ref mbs, .ref mde, .int (nI 0), .int (nI 0), .int (nI 0), .int (nI 0), .long 0, .long 0, .ref maa, .ref mab, .ref mba, .ref mbb])), (ms, .inl (cs 0, 288, .inl freshS)), (mkp, .inl (cs 0, 2304, .inl (fun _ => 0)))] H) (hD : va_D A [(h0, .inr (11, [.ref hr, .ref hg, .ref hgr, .ref ha, .ref hpo, .ref hly, .ref hse, .ref hc, .ref pa, .ref spr, .ref qm, .int (nI 0), .int (nI 0), .int (nI 0), .int (nI 0), .int (nI 1)])), (hr, .inr (7, [.int (nI 4), .int (nI 2), .int (nI 2), .int (nI 3), .int (nI 2), .int (nI 1), .ref sm, .int (nI 3), .ref ca])), (hg, .inr (4, [.ref nd, .ref kd, .ref lk, .ref vw])), (nd, .inl (cs 0, 8, .inl (fun _ => nI 0))), (kd, .inl (cs 0, 8, .inl (fun _ => nI 0))), (lk, .inl (cs 0, 8, .inl (fun _ => -1))), (vw, .inl (cs 2, 8, .inr (.inr (.inr (.inr (fun i => some (v i))))))), (v 0, .inr (10, [.int ((fun _ => nI 0) 0), .int ((fun _ => nI 0) 0), .ref (sv 0)])), (sv 0, .inl (cs 0, 32, .inl ((fun _ => vF) 0))), (v 1, .inr (10, [.int ((fun _ => nI 0) 1), .int ((fun _ => nI 0) 1), .ref (sv 1)])), (sv 1, .inl (cs 0, 32, .inl ((fun _ => vF) 1))), (v 2, .inr (10, [.int ((fun _ => nI 0) 2), .int ((fun _ => nI 0) 2), .ref (sv 2)])), (sv 2, .inl (cs 0, 32, .inl ((fun _ => vF) 2))), (v 3, .inr (10, [.int ((fun _ => nI 0) 3), .int ((fun _ => nI 0) 3), .ref (sv 3)])), (sv 3, .inl (cs 0, 32, .inl ((fun _ => vF) 3))), (v 4, .inr (10, [.int ((fun _ => nI 0) 4), .int ((fun _ => nI 0) 4), .ref (sv 4)])), (sv 4, .inl (cs 0, 32, .inl ((fun _ => vF) 4))), (v 5, .inr (10, [.int ((fun _ => nI 0) 5), .int ((fun _ => nI 0) 5), .ref (sv 5)])), (sv 5, .inl (cs 0, 32, .inl ((fun _ => vF) 5))), (v 6, .inr (10, [.int ((fun _ => nI 0) 6), .int ((fun _ => nI 0) 6), .ref (sv 6)])), (sv 6, .inl (cs 0, 32, .inl ((fun _ => vF) 6))), (v 7, .inr (10, [.int ((fun _ => nI 0) 7), .int ((fun _ => nI 0) 7), .ref (sv 7)])), (sv 7, .inl (cs 0, 32, .inl ((fun _ => vF) 7))), (pa, .inl (cs 3, 8, .inr (.inr (.inr (.inr pf))))), (hp0, .inr (4, [.ref nd0, .ref kd0, .ref lk0, .ref vw0])), (nd0, .inl (cs 0, 8, .inl (fun _ => nI 0))), (kd0, .inl (cs 0, 8, .inl (fun _ => nI 0))), (lk0, .inl (cs 0, 8, .inl (fun _ => -1))), (vw0, .inl (cs 2, 8, .inr (.inr (.inr (.inr (fun i => some (v0 i))))))), (v0 0, .inr (10, [.int ((fun _ => nI 0) 0), .int ((fun _ => nI 0) 0), .ref (sv0 0)])), (sv0 0, .inl (cs 0, 32, .inl ((fun _ => vF) 0))), (v0 1, .inr (10, [.int ((fun _ => nI 0) 1), .int ((fun _ => nI 0) 1), .ref (sv0 1)])), (sv0 1, .inl (cs 0, 32, .inl ((fun _ => vF) 1))), (v0 2, .inr (10, [.int ((fun _ => nI 0) 2), .int ((fun _ => nI 0) 2), .ref (sv0 2)])), (sv0 2, .inl (cs 0, 32, .inl ((fun _ => vF) 2))), (v0 3, .inr (10, [.int ((fun _ => nI 0) 3), .int ((fun _ => nI 0) 3), .ref (sv0 3)])), (sv0 3, .inl (cs 0, 32, .inl ((fun _ => vF) 3))), (v0 4, .inr (10, [.int ((fun _ => nI 0) 4), .int ((fun _ => nI 0) 4), .ref (sv0 4)])), (sv0 4, .inl (cs 0, 32, .inl ((fun _ => vF) 4))), (v0 5, .inr (10, [.int ((fun _ => nI 0) 5), .int ((fun _ => nI 0) 5), .ref (sv0 5)])), (sv0 5, .inl (cs 0, 32, .inl ((fun _ => vF) 5))), (v0 6, .inr (10, [.int ((fun _ => nI 0) 6), .int ((fun _ => nI 0) 6), .ref (sv0 6)])), (sv0 6, .inl (cs 0, 32, .inl ((fun _ => vF) 6))), (v0 7, .inr (10, [.int ((fun _ => nI 0) 7), .int ((fun _ => nI 0) 7), .ref (sv0 7)])), (sv0 7, .inl (cs 0, 32, .inl ((fun _ => vF) 7))), (hm, .inr (12, [.ref ms, .ref mkp, .int (nI 0), .ref mtr, .int (nI 4), .int (nI 2), .int (nI 2), .int (nI 3), .int (nI 2), .int (nI 1), .ref mas, .int (nI 0), .int (nI 0), .int (nI 0), .ref mso, .ref mon, .ref mot, .ref man, .int (nI 0), .int (nI 0), .ref mst, .ref msm, .ref mtb, .ref mti, .ref mfr, .ref mbn, .ref mbs, .ref mde, .int (nI 0), .int (nI 0), .int (nI 0), .int (nI 0), .long 0, .long 0, .ref maa, .ref mab, .ref mba, .ref mbb])), (ms, .inl (cs 0, 288, .inl freshS)), (mkp, .inl (cs 0, 2304, .inl (fun _ => 0)))]) (hS : va_S A s.heap H locs) (hl : lv_has ls 7 [(4, .int (nI 0)), (3, .ref out), (2, .ref hm), (1, .ref h0), (0, .ref b)]) : W p l e room_1 s m #[Value.ref b] below meth c H locs 261 14585 (lw_Z below #[Value.ref b] s) (F0 m 267 ls []) := by
  have hx := C.1
  have hb := C.2.1
  have hz := C.2.2.2.2.1
  have hown := C.2.2.2.1
  have hA := C.2.2.2.2.2.2.2.2.2
  have hAO := C.2.2.2.2.2.2.2.2.1.2.2
  refine lv_aload_n hx hb dL_law_267 rfl (lv_at hl 3 rfl) ?_
  refine lv_aload_n hx hb dL_law_268 rfl (lv_at hl 4 rfl) ?_
  refine lv_iload hx hb dL_law_269 (lv_at hl 0 rfl) ?_
  refine lv_iconst (v := nI 1) hx hb dL_law_271 (by decide) ?_
  refine lv_iadd hx hb dL_law_272 ?_
  refine lv_topi (nm_r (e' := nI 1) (by decide) ?_)
  refine va_sld hx hb hX hbl hbA hS (pk_in 1 5 (by decide)) dL_law_273 ?_
  refine lv_topi (nm_r (e' := xs 1) (by rw [nI_clamp (by decide)]) ?_)
  refine lv_aload_n hx hb dL_law_274 rfl (lv_at hl 4 rfl) ?_
  refine lv_iload hx hb dL_law_275 (lv_at hl 0 rfl) ?_
  refine lv_iconst (v := nI 2) hx hb dL_law_277 (by decide) ?_
  refine lv_iadd hx hb dL_law_278 ?_
  refine lv_topi (nm_r (e' := nI 2) (by decide) ?_)
  refine va_sld hx hb hX hbl hbA hS (pk_in 2 5 (by decide)) dL_law_279 ?_
  refine lv_topi (nm_r (e' := xs 2) (by rw [nI_clamp (by decide)]) ?_)
  refine xi (wr := [(hm, .inr (12, [.ref ms, .ref mkp, .int (nI 0), .ref mtr, .int (nI 4), .int (nI 2), .int (nI 2), .int (nI 3), .int (nI 2), .int (nI 1), .ref mas, .int (nI 0), .int (nI 0), .int (nI 0), .ref mso, .ref mon, .ref mot, .ref man, .int (nI 0), .int (nI 0), .ref mst, .ref msm, .ref mtb, .ref mti, .ref mfr, .ref mbn, .ref mbs, .ref mde, .int (nI 0), .int (nI 0), .int (nI 0), .int (nI 0), .long 0, .long 0, .ref maa, .ref mab, .ref mba, .ref mbb])), (ms, .inl (cs 0, 288, .inl freshS)), (mkp, .inl (cs 0, 2304, .inl (fun _ => 0)))]) (xV (As := [.int (xs 1), .int (xs 2)]) (rest := []) C (c_X11_kind_z l D cs h0 hr hg hgr ha hpo hly hse hc pa spr qm (nI 0) (nI 1) nd kd lk vw v sv hp0 nd0 kd0 lk0 vw0 v0 sv0 pf sm ca (xs 1) (xs 2) hpf) kL_36 hP hD [0, 1, 23, 2, 3, 4, 5, 6, 7, 8, 9, 10, 11, 12, 13, 14, 15, 16, 17, 18, 19, 20, 21, 22, 24, 25, 26, 27, 28, 29, 30, 31, 32, 33, 34, 35, 36, 37, 38, 39, 40, 41, 42, 43, 44] rfl (by decide +kernel) 0 rfl rfl rfl ⟨Nat.le_of_ble_eq_true rfl, Nat.le_of_ble_eq_true rfl⟩ rfl hl.1 rfl (Nat.le_of_ble_eq_true rfl) dL_law_280 ⟨Nat.le_of_ble_eq_true rfl, Nat.le_of_ble_eq_true rfl⟩) hP hD hS hA [0, 1, 23, 2, 3, 4, 5, 6, 7, 8, 9, 10, 11, 12, 13, 14, 15, 16, 17, 18, 19, 20, 21, 22, 24, 25, 26, 27, 28, 29, 30, 31, 32, 33, 34, 35, 36, 37, 38, 39, 40, 41, 42, 43, 44] [45, 46, 47] rfl rfl (by decide +kernel) (by decide +kernel) ?_
  clear hP hD hS
  try clear locs
  try clear H
  intro r_1 u_2 H locs hw_r_1 hP hD hS
  have hw_r_1 : PQ (okN 4 (xs 1) ∧ ¬ (xs 2) < 0 ∧ (xs 2) ≤ nI 4) r_1 (nI 0) (-1) := hw_r_1
  refine W.widen (k := 261) (n := 14585) (Nat.le_of_ble_eq_true rfl) (Nat.le_of_ble_eq_true rfl) ?_
  replace hP : va_P D vwCl [(hm, .inr (12, [.ref ms, .ref mkp, .int (nI 0), .ref mtr, .int (nI 4), .int (nI 2), .int (nI 2), .int (nI 3), .int (nI 2), .int (nI 1), .ref mas, .int (nI 0), .int (nI 0), .int (nI 0), .ref mso, .ref mon, .ref mot, .ref man, .int (nI 0), .int (nI 0), .ref mst, .ref msm, .ref mtb, .ref mti, .ref mfr, .ref mbn, .ref mbs, .ref mde, .int (nI 0), .int (nI 0), .int (nI 0), .int (nI 0), .long 0, .long 0, .ref maa, .ref mab, .ref mba, .ref mbb])), (ms, .inl (cs 0, 288, .inl freshS)), (mkp, .inl (cs 0, 2304, .inl (fun _ => 0)))] H := hP
  replace hD : va_D A [(hm, .inr (12, [.ref ms, .ref mkp, .int (nI 0), .ref mtr, .int (nI 4), .int (nI 2), .int (nI 2), .int (nI 3), .int (nI 2), .int (nI 1), .ref mas, .int (nI 0), .int (nI 0), .int (nI 0), .ref mso, .ref mon, .ref mot, .ref man, .int (nI 0), .int (nI 0), .ref mst, .ref msm, .ref mtb, .ref mti, .ref mfr, .ref mbn, .ref mbs, .ref mde, .int (nI 0), .int (nI 0), .int (nI 0), .int (nI 0), .long 0, .long 0, .ref maa, .ref mab, .ref mba, .ref mbb])), (ms, .inl (cs 0, 288, .inl freshS)), (mkp, .inl (cs 0, 2304, .inl (fun _ => 0)))] := hD
  refine lv_aload_n hx hb dL_law_283 rfl (lv_at hl 2 rfl) ?_
  refine lv_aload_n hx hb dL_law_284 rfl (lv_at hl 4 rfl) ?_
  refine lv_iload hx hb dL_law_285 (lv_at hl 0 rfl) ?_
  refine lv_iconst (v := nI 1) hx hb dL_law_287 (by decide) ?_
  refine lv_iadd hx hb dL_law_288 ?_
  refine lv_topi (nm_r (e' := nI 1) (by decide) ?_)
  refine va_sld hx hb hX hbl hbA hS (pk_in 1 5 (by decide)) dL_law_289 ?_
  refine lv_topi (nm_r (e' := xs 1) (by rw [nI_clamp (by decide)]) ?_)
  refine lv_aload_n hx hb dL_law_290 rfl (lv_at hl 4 rfl) ?_
  refine lv_iload hx hb dL_law_291 (lv_at hl 0 rfl) ?_
  refine lv_iconst (v := nI 2) hx hb dL_law_293 (by decide) ?_
  refine lv_iadd hx hb dL_law_294 ?_
  refine lv_topi (nm_r (e' := nI 2) (by decide) ?_)
  refine va_sld hx hb hX hbl hbA hS (pk_in 2 5 (by decide)) dL_law_295 ?_
  refine lv_topi (nm_r (e' := xs 2) (by rw [nI_clamp (by decide)]) ?_)
  refine xi (wr := []) (xV (As := [.int (xs 1), .int (xs 2)]) (rest := [.int r_1]) C (c_X12_kind_z l D cs hm ms mkp mtr mas mso mon mot man mst msm mtb mti mfr mbn mbs mde maa mab mba mbb (fun _ => 0) (xs 1) (xs 2)) kL_40 hP hD [0, 1, 2] rfl (by decide +kernel) 0 rfl rfl rfl ⟨Nat.le_of_ble_eq_true rfl, Nat.le_of_ble_eq_true rfl⟩ rfl hl.1 rfl (Nat.le_of_ble_eq_true rfl) dL_law_296 ⟨Nat.le_of_ble_eq_true rfl, Nat.le_of_ble_eq_true rfl⟩) hP hD hS hA [0, 1, 2] [] rfl rfl (by decide +kernel) (by decide +kernel) ?_
  clear hP hD hS
  try clear locs
  try clear H
  intro r_3 u_4 H locs hw_r_3 hP hD hS
  have hw_r_3 : PQ (okN 4 (xs 1) ∧ ¬ (xs 2) < 0 ∧ (xs 2) ≤ nI 4) r_3 (nI 0) (-1) := hw_r_3
  refine W.widen (k := 261) (n := 14585) (Nat.le_of_ble_eq_true rfl) (Nat.le_of_ble_eq_true rfl) ?_
  replace hP : va_P D vwCl [] H := hP
  replace hD : va_D A [] := hD
  refine lv_icmp_eq (tgt := 1199) hx hb dL_law_299 (by decide) (fun _ => ?_) (fun c => absurd (PQ.eq hw_r_1 hw_r_3) c)
  refine lv_iinc (v := nI 5) (lv' := [(4, .int (nI 5)), (3, .ref out), (2, .ref hm), (1, .ref h0), (0, .ref b)]) hx hb dL_law_1199 hl (k := 0) rfl (by decide) (by decide) rfl ?_
  clear hl
  try clear ls
  intro ls hl
  refine lv_goto (tgt := 23) hx hb dL_law_1202 (by decide) ?_
  refine lv_iload hx hb dL_law_23 (lv_at hl 0 rfl) ?_
  refine lv_aload_n hx hb dL_law_25 rfl (lv_at hl 4 rfl) ?_
  refine va_slen hx hb hX hbl hbA hS dL_law_26 ?_
  refine lv_topi (nm_r (e' := nI 5) rfl ?_)
  refine lv_iconst (v := nI 5) hx hb dL_law_27 (by decide) ?_
  refine lv_isub hx hb dL_law_28 ?_
  refine lv_topi (nm_r (e' := nI 0) (by decide) ?_)
  refine lv_icmp_gt (tgt := 1205) hx hb dL_law_29 (by decide) (fun _ => ?_) (fun c => absurd (by decide) c)
  refine lv_iconst (v := nI 1) hx hb dL_law_1205 (by decide) ?_
  refine lv_topi (nm_r (e' := 1) rfl ?_)
  exact va_forget (fun q hq => hA2 _ (hS.2.2 q hq)) (W.widen (Nat.le_of_ble_eq_true rfl) (Nat.le_of_ble_eq_true rfl) (W.base (lw_ret (Drawn.sameBut.refl s.drawn lw_cs) hx hb C.2.2.2.2.2.1 C.2.2.2.2.2.2.1 dL_law_1206)))

set_option maxHeartbeats 4000000 in
set_option maxRecDepth 100000 in
theorem law_case_4 {p : Program} {e : Env} {s : State} {m : MethodId} {below : List Frame} {meth : Method} {c : Code} (l : Launch) (hfl : l.stackTraces = false) {D : va_G} {cs : Nat → ClassId} {A : Nat → Prop} {b : Nat} {xs : Nat → Int32} (C : xC p room_1 s m #[Value.ref b] meth c ⟨"SampleHouseLaw", meth.name, ""⟩ code 7 ret D cs A) (hTH : xTH s) (hZ0 : xZ A s s.heap) (hX : va_X b 5 xs s s.heap) (hbl : b < s.heap.size) (hbA : ¬ A b) (hA2 : ∀ q, A q → s.heap.size ≤ q) (hr hg hgr ha hpo hly hse hc pa spr qm sm ca nd kd lk vw gs g1r g2r gan gpr gde gme wk spa aga ona wk2 ab rb ob tb hp0 nd0 kd0 lk0 vw0 : Nat) (v sv v0 sv0 rw rl : Nat → Nat) (sg : Nat → Nat → Int32) (pf : Nat → Option Nat) (ms mkp mtr mas mso mon mot man mst msm mtb mti mfr mbn mbs mde maa mab mba mbb h0 hm out : Nat) (hpf : pf 0 = some hp0) {H : Heap} {locs : List Loc} {ls : Array Slot} (hP : va_P D vwCl [(h0, .inr (11, [.ref hr, .ref hg, .ref hgr, .ref ha, .ref hpo, .ref hly, .ref hse, .ref hc, .ref pa, .ref spr, .ref qm, .int (nI 0), .int (nI 0), .int (nI 0), .int (nI 0), .int (nI 1)])), (hr, .inr (7, [.int (nI 4), .int (nI 2), .int (nI 2), .int (nI 3), .int (nI 2), .int (nI 1), .ref sm, .int (nI 3), .ref ca])), (hg, .inr (4, [.ref nd, .ref kd, .ref lk, .ref vw])), (nd, .inl (cs 0, 8, .inl (fun _ => nI 0))), (kd, .inl (cs 0, 8, .inl (fun _ => nI 0))), (lk, .inl (cs 0, 8, .inl (fun _ => -1))), (vw, .inl (cs 2, 8, .inr (.inr (.inr (.inr (fun i => some (v i))))))), (v 0, .inr (10, [.int ((fun _ => nI 0) 0), .int ((fun _ => nI 0) 0), .ref (sv 0)])), (sv 0, .inl (cs 0, 32, .inl ((fun _ => vF) 0))), (v 1, .inr (10, [.int ((fun _ => nI 0) 1), .int ((fun _ => nI 0) 1), .ref (sv 1)])), (sv 1, .inl (cs 0, 32, .inl ((fun _ => vF) 1))), (v 2, .inr (10, [.int ((fun _ => nI 0) 2), .int ((fun _ => nI 0) 2), .ref (sv 2)])), (sv 2, .inl (cs 0, 32, .inl ((fun _ => vF) 2))), (v 3, .inr (10, [.int ((fun _ => nI 0) 3), .int ((fun _ => nI 0) 3), .ref (sv 3)])), (sv 3, .inl (cs 0, 32, .inl ((fun _ => vF) 3))), (v 4, .inr (10, [.int ((fun _ => nI 0) 4), .int ((fun _ => nI 0) 4), .ref (sv 4)])), (sv 4, .inl (cs 0, 32, .inl ((fun _ => vF) 4))), (v 5, .inr (10, [.int ((fun _ => nI 0) 5), .int ((fun _ => nI 0) 5), .ref (sv 5)])), (sv 5, .inl (cs 0, 32, .inl ((fun _ => vF) 5))), (v 6, .inr (10, [.int ((fun _ => nI 0) 6), .int ((fun _ => nI 0) 6), .ref (sv 6)])), (sv 6, .inl (cs 0, 32, .inl ((fun _ => vF) 6))), (v 7, .inr (10, [.int ((fun _ => nI 0) 7), .int ((fun _ => nI 0) 7), .ref (sv 7)])), (sv 7, .inl (cs 0, 32, .inl ((fun _ => vF) 7))), (pa, .inl (cs 3, 8, .inr (.inr (.inr (.inr pf))))), (hp0, .inr (4, [.ref nd0, .ref kd0, .ref lk0, .ref vw0])), (nd0, .inl (cs 0, 8, .inl (fun _ => nI 0))), (kd0, .inl (cs 0, 8, .inl (fun _ => nI 0))), (lk0, .inl (cs 0, 8, .inl (fun _ => -1))), (vw0, .inl (cs 2, 8, .inr (.inr (.inr (.inr (fun i => some (v0 i))))))), (v0 0, .inr (10, [.int ((fun _ => nI 0) 0), .int ((fun _ => nI 0) 0), .ref (sv0 0)])), (sv0 0, .inl (cs 0, 32, .inl ((fun _ => vF) 0))), (v0 1, .inr (10, [.int ((fun _ => nI 0) 1), .int ((fun _ => nI 0) 1), .ref (sv0 1)])), (sv0 1, .inl (cs 0, 32, .inl ((fun _ => vF) 1))), (v0 2, .inr (10, [.int ((fun _ => nI 0) 2), .int ((fun _ => nI 0) 2), .ref (sv0 2)])), (sv0 2, .inl (cs 0, 32, .inl ((fun _ => vF) 2))), (v0 3, .inr (10, [.int ((fun _ => nI 0) 3), .int ((fun _ => nI 0) 3), .ref (sv0 3)])), (sv0 3, .inl (cs 0, 32, .inl ((fun _ => vF) 3))), (v0 4, .inr (10, [.int ((fun _ => nI 0) 4), .int ((fun _ => nI 0) 4), .ref (sv0 4)])), (sv0 4, .inl (cs 0, 32, .inl ((fun _ => vF) 4))), (v0 5, .inr (10, [.int ((fun _ => nI 0) 5), .int ((fun _ => nI 0) 5), .ref (sv0 5)])), (sv0 5, .inl (cs 0, 32, .inl ((fun _ => vF) 5))), (v0 6, .inr (10, [.int ((fun _ => nI 0) 6), .int ((fun _ => nI 0) 6), .ref (sv0 6)])), (sv0 6, .inl (cs 0, 32, .inl ((fun _ => vF) 6))), (v0 7, .inr (10, [.int ((fun _ => nI 0) 7), .int ((fun _ => nI 0) 7), .ref (sv0 7)])), (sv0 7, .inl (cs 0, 32, .inl ((fun _ => vF) 7))), (hm, .inr (12, [.ref ms, .ref mkp, .int (nI 0), .ref mtr, .int (nI 4), .int (nI 2), .int (nI 2), .int (nI 3), .int (nI 2), .int (nI 1), .ref mas, .int (nI 0), .int (nI 0), .int (nI 0), .ref mso, .ref mon, .ref mot, .ref man, .int (nI 0), .int (nI 0), .ref mst, .ref msm, .ref mtb, .ref mti, .ref mfr, .ref mbn, .ref mbs, .ref mde, .int (nI 0), .int (nI 0), .int (nI 0), .int (nI 0), .long 0, .long 0, .ref maa, .ref mab, .ref mba, .ref mbb])), (ms, .inl (cs 0, 288, .inl freshS)), (mkp, .inl (cs 0, 2304, .inl (fun _ => 0)))] H) (hD : va_D A [(h0, .inr (11, [.ref hr, .ref hg, .ref hgr, .ref ha, .ref hpo, .ref hly, .ref hse, .ref hc, .ref pa, .ref spr, .ref qm, .int (nI 0), .int (nI 0), .int (nI 0), .int (nI 0), .int (nI 1)])), (hr, .inr (7, [.int (nI 4), .int (nI 2), .int (nI 2), .int (nI 3), .int (nI 2), .int (nI 1), .ref sm, .int (nI 3), .ref ca])), (hg, .inr (4, [.ref nd, .ref kd, .ref lk, .ref vw])), (nd, .inl (cs 0, 8, .inl (fun _ => nI 0))), (kd, .inl (cs 0, 8, .inl (fun _ => nI 0))), (lk, .inl (cs 0, 8, .inl (fun _ => -1))), (vw, .inl (cs 2, 8, .inr (.inr (.inr (.inr (fun i => some (v i))))))), (v 0, .inr (10, [.int ((fun _ => nI 0) 0), .int ((fun _ => nI 0) 0), .ref (sv 0)])), (sv 0, .inl (cs 0, 32, .inl ((fun _ => vF) 0))), (v 1, .inr (10, [.int ((fun _ => nI 0) 1), .int ((fun _ => nI 0) 1), .ref (sv 1)])), (sv 1, .inl (cs 0, 32, .inl ((fun _ => vF) 1))), (v 2, .inr (10, [.int ((fun _ => nI 0) 2), .int ((fun _ => nI 0) 2), .ref (sv 2)])), (sv 2, .inl (cs 0, 32, .inl ((fun _ => vF) 2))), (v 3, .inr (10, [.int ((fun _ => nI 0) 3), .int ((fun _ => nI 0) 3), .ref (sv 3)])), (sv 3, .inl (cs 0, 32, .inl ((fun _ => vF) 3))), (v 4, .inr (10, [.int ((fun _ => nI 0) 4), .int ((fun _ => nI 0) 4), .ref (sv 4)])), (sv 4, .inl (cs 0, 32, .inl ((fun _ => vF) 4))), (v 5, .inr (10, [.int ((fun _ => nI 0) 5), .int ((fun _ => nI 0) 5), .ref (sv 5)])), (sv 5, .inl (cs 0, 32, .inl ((fun _ => vF) 5))), (v 6, .inr (10, [.int ((fun _ => nI 0) 6), .int ((fun _ => nI 0) 6), .ref (sv 6)])), (sv 6, .inl (cs 0, 32, .inl ((fun _ => vF) 6))), (v 7, .inr (10, [.int ((fun _ => nI 0) 7), .int ((fun _ => nI 0) 7), .ref (sv 7)])), (sv 7, .inl (cs 0, 32, .inl ((fun _ => vF) 7))), (pa, .inl (cs 3, 8, .inr (.inr (.inr (.inr pf))))), (hp0, .inr (4, [.ref nd0, .ref kd0, .ref lk0, .ref vw0])), (nd0, .inl (cs 0, 8, .inl (fun _ => nI 0))), (kd0, .inl (cs 0, 8, .inl (fun _ => nI 0))), (lk0, .inl (cs 0, 8, .inl (fun _ => -1))), (vw0, .inl (cs 2, 8, .inr (.inr (.inr (.inr (fun i => some (v0 i))))))), (v0 0, .inr (10, [.int ((fun _ => nI 0) 0), .int ((fun _ => nI 0) 0), .ref (sv0 0)])), (sv0 0, .inl (cs 0, 32, .inl ((fun _ => vF) 0))), (v0 1, .inr (10, [.int ((fun _ => nI 0) 1), .int ((fun _ => nI 0) 1), .ref (sv0 1)])), (sv0 1, .inl (cs 0, 32, .inl ((fun _ => vF) 1))), (v0 2, .inr (10, [.int ((fun _ => nI 0) 2), .int ((fun _ => nI 0) 2), .ref (sv0 2)])), (sv0 2, .inl (cs 0, 32, .inl ((fun _ => vF) 2))), (v0 3, .inr (10, [.int ((fun _ => nI 0) 3), .int ((fun _ => nI 0) 3), .ref (sv0 3)])), (sv0 3, .inl (cs 0, 32, .inl ((fun _ => vF) 3))), (v0 4, .inr (10, [.int ((fun _ => nI 0) 4), .int ((fun _ => nI 0) 4), .ref (sv0 4)])), (sv0 4, .inl (cs 0, 32, .inl ((fun _ => vF) 4))), (v0 5, .inr (10, [.int ((fun _ => nI 0) 5), .int ((fun _ => nI 0) 5), .ref (sv0 5)])), (sv0 5, .inl (cs 0, 32, .inl ((fun _ => vF) 5))), (v0 6, .inr (10, [.int ((fun _ => nI 0) 6), .int ((fun _ => nI 0) 6), .ref (sv0 6)])), (sv0 6, .inl (cs 0, 32, .inl ((fun _ => vF) 6))), (v0 7, .inr (10, [.int ((fun _ => nI 0) 7), .int ((fun _ => nI 0) 7), .ref (sv0 7)])), (sv0 7, .inl (cs 0, 32, .inl ((fun _ => vF) 7))), (hm, .inr (12, [.ref ms, .ref mkp, .int (nI 0), .ref mtr, .int (nI 4), .int (nI 2), .int (nI 2), .int (nI 3), .int (nI 2), .int (nI 1), .ref mas, .int (nI 0), .int (nI 0), .int (nI 0), .ref mso, .ref mon, .ref mot, .ref man, .int (nI 0), .int (nI 0), .ref mst, .ref msm, .ref mtb, .ref mti, .ref mfr, .ref mbn, .ref mbs, .ref mde, .int (nI 0), .int (nI 0), .int (nI 0), .int (nI 0), .long 0, .long 0, .ref maa, .ref mab, .ref mba, .ref mbb])), (ms, .inl (cs 0, 288, .inl freshS)), (mkp, .inl (cs 0, 2304, .inl (fun _ => 0)))]) (hS : va_S A s.heap H locs) (hl : lv_has ls 7 [(4, .int (nI 0)), (3, .ref out), (2, .ref hm), (1, .ref h0), (0, .ref b)]) : W p l e room_1 s m #[Value.ref b] below meth c H locs 261 14585 (lw_Z below #[Value.ref b] s) (F0 m 304 ls []) := by
  have hx := C.1
  have hb := C.2.1
  have hz := C.2.2.2.2.1
  have hown := C.2.2.2.1
  have hA := C.2.2.2.2.2.2.2.2.2
  have hAO := C.2.2.2.2.2.2.2.2.1.2.2
  refine lv_aload_n hx hb dL_law_304 rfl (lv_at hl 3 rfl) ?_
  refine lv_aload_n hx hb dL_law_305 rfl (lv_at hl 4 rfl) ?_
  refine lv_iload hx hb dL_law_306 (lv_at hl 0 rfl) ?_
  refine lv_iconst (v := nI 1) hx hb dL_law_308 (by decide) ?_
  refine lv_iadd hx hb dL_law_309 ?_
  refine lv_topi (nm_r (e' := nI 1) (by decide) ?_)
  refine va_sld hx hb hX hbl hbA hS (pk_in 1 5 (by decide)) dL_law_310 ?_
  refine lv_topi (nm_r (e' := xs 1) (by rw [nI_clamp (by decide)]) ?_)
  refine lv_aload_n hx hb dL_law_311 rfl (lv_at hl 4 rfl) ?_
  refine lv_iload hx hb dL_law_312 (lv_at hl 0 rfl) ?_
  refine lv_iconst (v := nI 2) hx hb dL_law_314 (by decide) ?_
  refine lv_iadd hx hb dL_law_315 ?_
  refine lv_topi (nm_r (e' := nI 2) (by decide) ?_)
  refine va_sld hx hb hX hbl hbA hS (pk_in 2 5 (by decide)) dL_law_316 ?_
  refine lv_topi (nm_r (e' := xs 2) (by rw [nI_clamp (by decide)]) ?_)
  refine lv_aload_n hx hb dL_law_317 rfl (lv_at hl 4 rfl) ?_
  refine lv_iload hx hb dL_law_318 (lv_at hl 0 rfl) ?_
  refine lv_iconst (v := nI 3) hx hb dL_law_320 (by decide) ?_
  refine lv_iadd hx hb dL_law_321 ?_
  refine lv_topi (nm_r (e' := nI 3) (by decide) ?_)
  refine va_sld hx hb hX hbl hbA hS (pk_in 3 5 (by decide)) dL_law_322 ?_
  refine lv_topi (nm_r (e' := xs 3) (by rw [nI_clamp (by decide)]) ?_)
  refine lv_if_eq (tgt := 330) hx hb dL_law_323 (by decide) (fun c_1 => ?_) (fun c_1 => ?_)
  · -- 323 t
    refine lv_iconst (v := nI 0) hx hb dL_law_330 (by decide) ?_
    refine xi (wr := [(hm, .inr (12, [.ref ms, .ref mkp, .int (nI 0), .ref mtr, .int (nI 4), .int (nI 2), .int (nI 2), .int (nI 3), .int (nI 2), .int (nI 1), .ref mas, .int (nI 0), .int (nI 0), .int (nI 0), .ref mso, .ref mon, .ref mot, .ref man, .int (nI 0), .int (nI 0), .ref mst, .ref msm, .ref mtb, .ref mti, .ref mfr, .ref mbn, .ref mbs, .ref mde, .int (nI 0), .int (nI 0), .int (nI 0), .int (nI 0), .long 0, .long 0, .ref maa, .ref mab, .ref mba, .ref mbb])), (ms, .inl (cs 0, 288, .inl freshS)), (mkp, .inl (cs 0, 2304, .inl (fun _ => 0)))]) (xV (As := [.int (xs 1), .int (xs 2), .int (nI 0)]) (rest := []) C (c_X11_link_z l D cs h0 hr hg hgr ha hpo hly hse hc pa spr qm (nI 0) (nI 1) nd kd lk vw v sv hp0 nd0 kd0 lk0 vw0 v0 sv0 pf sm ca (xs 1) (xs 2) (nI 0) hpf) kL_41 hP hD [0, 1, 23, 2, 3, 4, 5, 6, 7, 8, 9, 10, 11, 12, 13, 14, 15, 16, 17, 18, 19, 20, 21, 22, 24, 25, 26, 27, 28, 29, 30, 31, 32, 33, 34, 35, 36, 37, 38, 39, 40, 41, 42, 43, 44] rfl (by decide +kernel) 0 rfl rfl rfl ⟨Nat.le_of_ble_eq_true rfl, Nat.le_of_ble_eq_true rfl⟩ rfl hl.1 rfl (Nat.le_of_ble_eq_true rfl) dL_law_331 ⟨Nat.le_of_ble_eq_true rfl, Nat.le_of_ble_eq_true rfl⟩) hP hD hS hA [0, 1, 23, 2, 3, 4, 5, 6, 7, 8, 9, 10, 11, 12, 13, 14, 15, 16, 17, 18, 19, 20, 21, 22, 24, 25, 26, 27, 28, 29, 30, 31, 32, 33, 34, 35, 36, 37, 38, 39, 40, 41, 42, 43, 44] [45, 46, 47] rfl rfl (by decide +kernel) (by decide +kernel) ?_
    clear hP hD hS
    try clear locs
    try clear H
    intro r_2 u_3 H locs hw_r_2 hP hD hS
    have hw_r_2 : PQ (okN 4 (xs 1) ∧ okN 4 (xs 2) ∧ ¬ (xs 1) = (xs 2) ∧ ¬ nI 1 = (nI 0)) r_2 (nI 1) (nI 0) := hw_r_2
    refine W.widen (k := 261) (n := 14585) (Nat.le_of_ble_eq_true rfl) (Nat.le_of_ble_eq_true rfl) ?_
    replace hP : va_P D vwCl [(hm, .inr (12, [.ref ms, .ref mkp, .int (nI 0), .ref mtr, .int (nI 4), .int (nI 2), .int (nI 2), .int (nI 3), .int (nI 2), .int (nI 1), .ref mas, .int (nI 0), .int (nI 0), .int (nI 0), .ref mso, .ref mon, .ref mot, .ref man, .int (nI 0), .int (nI 0), .ref mst, .ref msm, .ref mtb, .ref mti, .ref mfr, .ref mbn, .ref mbs, .ref mde, .int (nI 0), .int (nI 0), .int (nI 0), .int (nI 0), .long 0, .long 0, .ref maa, .ref mab, .ref mba, .ref mbb])), (ms, .inl (cs 0, 288, .inl freshS)), (mkp, .inl (cs 0, 2304, .inl (fun _ => 0)))] H := hP
    replace hD : va_D A [(hm, .inr (12, [.ref ms, .ref mkp, .int (nI 0), .ref mtr, .int (nI 4), .int (nI 2), .int (nI 2), .int (nI 3), .int (nI 2), .int (nI 1), .ref mas, .int (nI 0), .int (nI 0), .int (nI 0), .ref mso, .ref mon, .ref mot, .ref man, .int (nI 0), .int (nI 0), .ref mst, .ref msm, .ref mtb, .ref mti, .ref mfr, .ref mbn, .ref mbs, .ref mde, .int (nI 0), .int (nI 0), .int (nI 0), .int (nI 0), .long 0, .long 0, .ref maa, .ref mab, .ref mba, .ref mbb])), (ms, .inl (cs 0, 288, .inl freshS)), (mkp, .inl (cs 0, 2304, .inl (fun _ => 0)))] := hD
    refine lv_aload_n hx hb dL_law_334 rfl (lv_at hl 2 rfl) ?_
    refine lv_aload_n hx hb dL_law_335 rfl (lv_at hl 4 rfl) ?_
    refine lv_iload hx hb dL_law_336 (lv_at hl 0 rfl) ?_
    refine lv_iconst (v := nI 1) hx hb dL_law_338 (by decide) ?_
    refine lv_iadd hx hb dL_law_339 ?_
    refine lv_topi (nm_r (e' := nI 1) (by decide) ?_)
    refine va_sld hx hb hX hbl hbA hS (pk_in 1 5 (by decide)) dL_law_340 ?_
    refine lv_topi (nm_r (e' := xs 1) (by rw [nI_clamp (by decide)]) ?_)
    refine lv_aload_n hx hb dL_law_341 rfl (lv_at hl 4 rfl) ?_
    refine lv_iload hx hb dL_law_342 (lv_at hl 0 rfl) ?_
    refine lv_iconst (v := nI 2) hx hb dL_law_344 (by decide) ?_
    refine lv_iadd hx hb dL_law_345 ?_
    refine lv_topi (nm_r (e' := nI 2) (by decide) ?_)
    refine va_sld hx hb hX hbl hbA hS (pk_in 2 5 (by decide)) dL_law_346 ?_
    refine lv_topi (nm_r (e' := xs 2) (by rw [nI_clamp (by decide)]) ?_)
    refine lv_aload_n hx hb dL_law_347 rfl (lv_at hl 4 rfl) ?_
    refine lv_iload hx hb dL_law_348 (lv_at hl 0 rfl) ?_
    refine lv_iconst (v := nI 3) hx hb dL_law_350 (by decide) ?_
    refine lv_iadd hx hb dL_law_351 ?_
    refine lv_topi (nm_r (e' := nI 3) (by decide) ?_)
    refine va_sld hx hb hX hbl hbA hS (pk_in 3 5 (by decide)) dL_law_352 ?_
    refine lv_topi (nm_r (e' := xs 3) (by rw [nI_clamp (by decide)]) ?_)
    refine lv_if_eq (tgt := 360) hx hb dL_law_353 (by decide) (fun _ => ?_) (fun c => absurd c_1 c)
    refine lv_iconst (v := nI 0) hx hb dL_law_360 (by decide) ?_
    refine xi (wr := []) (xV (As := [.int (xs 1), .int (xs 2), .int (nI 0)]) (rest := [.int r_2]) C (c_X12_link_z l D cs hm ms mkp mtr mas mso mon mot man mst msm mtb mti mfr mbn mbs mde maa mab mba mbb (fun _ => 0) (xs 1) (xs 2) (nI 0)) kL_45 hP hD [0, 1, 2] rfl (by decide +kernel) 0 rfl rfl rfl ⟨Nat.le_of_ble_eq_true rfl, Nat.le_of_ble_eq_true rfl⟩ rfl hl.1 rfl (Nat.le_of_ble_eq_true rfl) dL_law_361 ⟨Nat.le_of_ble_eq_true rfl, Nat.le_of_ble_eq_true rfl⟩) hP hD hS hA [0, 1, 2] [] rfl rfl (by decide +kernel) (by decide +kernel) ?_
    clear hP hD hS
    try clear locs
    try clear H
    intro r_4 u_5 H locs hw_r_4 hP hD hS
    have hw_r_4 : PQ (okN 4 (xs 1) ∧ okN 4 (xs 2) ∧ ¬ (xs 1) = (xs 2) ∧ ¬ nI 1 = (nI 0)) r_4 (nI 1) (nI 0) := hw_r_4
    refine W.widen (k := 261) (n := 14585) (Nat.le_of_ble_eq_true rfl) (Nat.le_of_ble_eq_true rfl) ?_
    replace hP : va_P D vwCl [] H := hP
    replace hD : va_D A [] := hD
    refine lv_icmp_eq (tgt := 1199) hx hb dL_law_364 (by decide) (fun _ => ?_) (fun c => absurd (PQ.eq hw_r_2 hw_r_4) c)
    refine lv_iinc (v := nI 5) (lv' := [(4, .int (nI 5)), (3, .ref out), (2, .ref hm), (1, .ref h0), (0, .ref b)]) hx hb dL_law_1199 hl (k := 0) rfl (by decide) (by decide) rfl ?_
    clear hl
    try clear ls
    intro ls hl
    refine lv_goto (tgt := 23) hx hb dL_law_1202 (by decide) ?_
    refine lv_iload hx hb dL_law_23 (lv_at hl 0 rfl) ?_
    refine lv_aload_n hx hb dL_law_25 rfl (lv_at hl 4 rfl) ?_
    refine va_slen hx hb hX hbl hbA hS dL_law_26 ?_
    refine lv_topi (nm_r (e' := nI 5) rfl ?_)
    refine lv_iconst (v := nI 5) hx hb dL_law_27 (by decide) ?_
    refine lv_isub hx hb dL_law_28 ?_
    refine lv_topi (nm_r (e' := nI 0) (by decide) ?_)
    refine lv_icmp_gt (tgt := 1205) hx hb dL_law_29 (by decide) (fun _ => ?_) (fun c => absurd (by decide) c)
    refine lv_iconst (v := nI 1) hx hb dL_law_1205 (by decide) ?_
    refine lv_topi (nm_r (e' := 1) rfl ?_)
    exact va_forget (fun q hq => hA2 _ (hS.2.2 q hq)) (W.widen (Nat.le_of_ble_eq_true rfl) (Nat.le_of_ble_eq_true rfl) (W.base (lw_ret (Drawn.sameBut.refl s.drawn lw_cs) hx hb C.2.2.2.2.2.1 C.2.2.2.2.2.2.1 dL_law_1206)))
  · -- 323 f
    refine lv_iconst (v := nI 1) hx hb dL_law_326 (by decide) ?_
    refine lv_goto (tgt := 331) hx hb dL_law_327 (by decide) ?_
    refine xi (wr := [(hm, .inr (12, [.ref ms, .ref mkp, .int (nI 0), .ref mtr, .int (nI 4), .int (nI 2), .int (nI 2), .int (nI 3), .int (nI 2), .int (nI 1), .ref mas, .int (nI 0), .int (nI 0), .int (nI 0), .ref mso, .ref mon, .ref mot, .ref man, .int (nI 0), .int (nI 0), .ref mst, .ref msm, .ref mtb, .ref mti, .ref mfr, .ref mbn, .ref mbs, .ref mde, .int (nI 0), .int (nI 0), .int (nI 0), .int (nI 0), .long 0, .long 0, .ref maa, .ref mab, .ref mba, .ref mbb])), (ms, .inl (cs 0, 288, .inl freshS)), (mkp, .inl (cs 0, 2304, .inl (fun _ => 0)))]) (xV (As := [.int (xs 1), .int (xs 2), .int (nI 1)]) (rest := []) C (c_X11_link_z l D cs h0 hr hg hgr ha hpo hly hse hc pa spr qm (nI 0) (nI 1) nd kd lk vw v sv hp0 nd0 kd0 lk0 vw0 v0 sv0 pf sm ca (xs 1) (xs 2) (nI 1) hpf) kL_41 hP hD [0, 1, 23, 2, 3, 4, 5, 6, 7, 8, 9, 10, 11, 12, 13, 14, 15, 16, 17, 18, 19, 20, 21, 22, 24, 25, 26, 27, 28, 29, 30, 31, 32, 33, 34, 35, 36, 37, 38, 39, 40, 41, 42, 43, 44] rfl (by decide +kernel) 0 rfl rfl rfl ⟨Nat.le_of_ble_eq_true rfl, Nat.le_of_ble_eq_true rfl⟩ rfl hl.1 rfl (Nat.le_of_ble_eq_true rfl) dL_law_331 ⟨Nat.le_of_ble_eq_true rfl, Nat.le_of_ble_eq_true rfl⟩) hP hD hS hA [0, 1, 23, 2, 3, 4, 5, 6, 7, 8, 9, 10, 11, 12, 13, 14, 15, 16, 17, 18, 19, 20, 21, 22, 24, 25, 26, 27, 28, 29, 30, 31, 32, 33, 34, 35, 36, 37, 38, 39, 40, 41, 42, 43, 44] [45, 46, 47] rfl rfl (by decide +kernel) (by decide +kernel) ?_
    clear hP hD hS
    try clear locs
    try clear H
    intro r_6 u_7 H locs hw_r_6 hP hD hS
    have hw_r_6 : PQ (okN 4 (xs 1) ∧ okN 4 (xs 2) ∧ ¬ (xs 1) = (xs 2) ∧ ¬ nI 1 = (nI 1)) r_6 (nI 1) (nI 0) := hw_r_6
    refine W.widen (k := 261) (n := 14585) (Nat.le_of_ble_eq_true rfl) (Nat.le_of_ble_eq_true rfl) ?_
    replace hP : va_P D vwCl [(hm, .inr (12, [.ref ms, .ref mkp, .int (nI 0), .ref mtr, .int (nI 4), .int (nI 2), .int (nI 2), .int (nI 3), .int (nI 2), .int (nI 1), .ref mas, .int (nI 0), .int (nI 0), .int (nI 0), .ref mso, .ref mon, .ref mot, .ref man, .int (nI 0), .int (nI 0), .ref mst, .ref msm, .ref mtb, .ref mti, .ref mfr, .ref mbn, .ref mbs, .ref mde, .int (nI 0), .int (nI 0), .int (nI 0), .int (nI 0), .long 0, .long 0, .ref maa, .ref mab, .ref mba, .ref mbb])), (ms, .inl (cs 0, 288, .inl freshS)), (mkp, .inl (cs 0, 2304, .inl (fun _ => 0)))] H := hP
    replace hD : va_D A [(hm, .inr (12, [.ref ms, .ref mkp, .int (nI 0), .ref mtr, .int (nI 4), .int (nI 2), .int (nI 2), .int (nI 3), .int (nI 2), .int (nI 1), .ref mas, .int (nI 0), .int (nI 0), .int (nI 0), .ref mso, .ref mon, .ref mot, .ref man, .int (nI 0), .int (nI 0), .ref mst, .ref msm, .ref mtb, .ref mti, .ref mfr, .ref mbn, .ref mbs, .ref mde, .int (nI 0), .int (nI 0), .int (nI 0), .int (nI 0), .long 0, .long 0, .ref maa, .ref mab, .ref mba, .ref mbb])), (ms, .inl (cs 0, 288, .inl freshS)), (mkp, .inl (cs 0, 2304, .inl (fun _ => 0)))] := hD
    refine lv_aload_n hx hb dL_law_334 rfl (lv_at hl 2 rfl) ?_
    refine lv_aload_n hx hb dL_law_335 rfl (lv_at hl 4 rfl) ?_
    refine lv_iload hx hb dL_law_336 (lv_at hl 0 rfl) ?_
    refine lv_iconst (v := nI 1) hx hb dL_law_338 (by decide) ?_
    refine lv_iadd hx hb dL_law_339 ?_
    refine lv_topi (nm_r (e' := nI 1) (by decide) ?_)
    refine va_sld hx hb hX hbl hbA hS (pk_in 1 5 (by decide)) dL_law_340 ?_
    refine lv_topi (nm_r (e' := xs 1) (by rw [nI_clamp (by decide)]) ?_)
    refine lv_aload_n hx hb dL_law_341 rfl (lv_at hl 4 rfl) ?_
    refine lv_iload hx hb dL_law_342 (lv_at hl 0 rfl) ?_
    refine lv_iconst (v := nI 2) hx hb dL_law_344 (by decide) ?_
    refine lv_iadd hx hb dL_law_345 ?_
    refine lv_topi (nm_r (e' := nI 2) (by decide) ?_)
    refine va_sld hx hb hX hbl hbA hS (pk_in 2 5 (by decide)) dL_law_346 ?_
    refine lv_topi (nm_r (e' := xs 2) (by rw [nI_clamp (by decide)]) ?_)
    refine lv_aload_n hx hb dL_law_347 rfl (lv_at hl 4 rfl) ?_
    refine lv_iload hx hb dL_law_348 (lv_at hl 0 rfl) ?_
    refine lv_iconst (v := nI 3) hx hb dL_law_350 (by decide) ?_
    refine lv_iadd hx hb dL_law_351 ?_
    refine lv_topi (nm_r (e' := nI 3) (by decide) ?_)
    refine va_sld hx hb hX hbl hbA hS (pk_in 3 5 (by decide)) dL_law_352 ?_
    refine lv_topi (nm_r (e' := xs 3) (by rw [nI_clamp (by decide)]) ?_)
    refine lv_if_eq (tgt := 360) hx hb dL_law_353 (by decide) (fun c => absurd c c_1) (fun _ => ?_)
    refine lv_iconst (v := nI 1) hx hb dL_law_356 (by decide) ?_
    refine lv_goto (tgt := 361) hx hb dL_law_357 (by decide) ?_
    refine xi (wr := []) (xV (As := [.int (xs 1), .int (xs 2), .int (nI 1)]) (rest := [.int r_6]) C (c_X12_link_z l D cs hm ms mkp mtr mas mso mon mot man mst msm mtb mti mfr mbn mbs mde maa mab mba mbb (fun _ => 0) (xs 1) (xs 2) (nI 1)) kL_45 hP hD [0, 1, 2] rfl (by decide +kernel) 0 rfl rfl rfl ⟨Nat.le_of_ble_eq_true rfl, Nat.le_of_ble_eq_true rfl⟩ rfl hl.1 rfl (Nat.le_of_ble_eq_true rfl) dL_law_361 ⟨Nat.le_of_ble_eq_true rfl, Nat.le_of_ble_eq_true rfl⟩) hP hD hS hA [0, 1, 2] [] rfl rfl (by decide +kernel) (by decide +kernel) ?_
    clear hP hD hS
    try clear locs
    try clear H
    intro r_8 u_9 H locs hw_r_8 hP hD hS
    have hw_r_8 : PQ (okN 4 (xs 1) ∧ okN 4 (xs 2) ∧ ¬ (xs 1) = (xs 2) ∧ ¬ nI 1 = (nI 1)) r_8 (nI 1) (nI 0) := hw_r_8
    refine W.widen (k := 261) (n := 14585) (Nat.le_of_ble_eq_true rfl) (Nat.le_of_ble_eq_true rfl) ?_
    replace hP : va_P D vwCl [] H := hP
    replace hD : va_D A [] := hD
    refine lv_icmp_eq (tgt := 1199) hx hb dL_law_364 (by decide) (fun _ => ?_) (fun c => absurd (PQ.eq hw_r_6 hw_r_8) c)
    refine lv_iinc (v := nI 5) (lv' := [(4, .int (nI 5)), (3, .ref out), (2, .ref hm), (1, .ref h0), (0, .ref b)]) hx hb dL_law_1199 hl (k := 0) rfl (by decide) (by decide) rfl ?_
    clear hl
    try clear ls
    intro ls hl
    refine lv_goto (tgt := 23) hx hb dL_law_1202 (by decide) ?_
    refine lv_iload hx hb dL_law_23 (lv_at hl 0 rfl) ?_
    refine lv_aload_n hx hb dL_law_25 rfl (lv_at hl 4 rfl) ?_
    refine va_slen hx hb hX hbl hbA hS dL_law_26 ?_
    refine lv_topi (nm_r (e' := nI 5) rfl ?_)
    refine lv_iconst (v := nI 5) hx hb dL_law_27 (by decide) ?_
    refine lv_isub hx hb dL_law_28 ?_
    refine lv_topi (nm_r (e' := nI 0) (by decide) ?_)
    refine lv_icmp_gt (tgt := 1205) hx hb dL_law_29 (by decide) (fun _ => ?_) (fun c => absurd (by decide) c)
    refine lv_iconst (v := nI 1) hx hb dL_law_1205 (by decide) ?_
    refine lv_topi (nm_r (e' := 1) rfl ?_)
    exact va_forget (fun q hq => hA2 _ (hS.2.2 q hq)) (W.widen (Nat.le_of_ble_eq_true rfl) (Nat.le_of_ble_eq_true rfl) (W.base (lw_ret (Drawn.sameBut.refl s.drawn lw_cs) hx hb C.2.2.2.2.2.1 C.2.2.2.2.2.2.1 dL_law_1206)))

set_option maxHeartbeats 4000000 in
set_option maxRecDepth 100000 in
theorem law_case_5 {p : Program} {e : Env} {s : State} {m : MethodId} {below : List Frame} {meth : Method} {c : Code} (l : Launch) (hfl : l.stackTraces = false) {D : va_G} {cs : Nat → ClassId} {A : Nat → Prop} {b : Nat} {xs : Nat → Int32} (C : xC p room_1 s m #[Value.ref b] meth c ⟨"SampleHouseLaw", meth.name, ""⟩ code 7 ret D cs A) (hTH : xTH s) (hZ0 : xZ A s s.heap) (hX : va_X b 5 xs s s.heap) (hbl : b < s.heap.size) (hbA : ¬ A b) (hA2 : ∀ q, A q → s.heap.size ≤ q) (hr hg hgr ha hpo hly hse hc pa spr qm sm ca nd kd lk vw gs g1r g2r gan gpr gde gme wk spa aga ona wk2 ab rb ob tb hp0 nd0 kd0 lk0 vw0 : Nat) (v sv v0 sv0 rw rl : Nat → Nat) (sg : Nat → Nat → Int32) (pf : Nat → Option Nat) (ms mkp mtr mas mso mon mot man mst msm mtb mti mfr mbn mbs mde maa mab mba mbb h0 hm out : Nat) (hpf : pf 0 = some hp0) {H : Heap} {locs : List Loc} {ls : Array Slot} (hP : va_P D vwCl [(h0, .inr (11, [.ref hr, .ref hg, .ref hgr, .ref ha, .ref hpo, .ref hly, .ref hse, .ref hc, .ref pa, .ref spr, .ref qm, .int (nI 0), .int (nI 0), .int (nI 0), .int (nI 0), .int (nI 1)])), (hr, .inr (7, [.int (nI 4), .int (nI 2), .int (nI 2), .int (nI 3), .int (nI 2), .int (nI 1), .ref sm, .int (nI 3), .ref ca])), (hg, .inr (4, [.ref nd, .ref kd, .ref lk, .ref vw])), (nd, .inl (cs 0, 8, .inl (fun _ => nI 0))), (kd, .inl (cs 0, 8, .inl (fun _ => nI 0))), (lk, .inl (cs 0, 8, .inl (fun _ => -1))), (vw, .inl (cs 2, 8, .inr (.inr (.inr (.inr (fun i => some (v i))))))), (v 0, .inr (10, [.int ((fun _ => nI 0) 0), .int ((fun _ => nI 0) 0), .ref (sv 0)])), (sv 0, .inl (cs 0, 32, .inl ((fun _ => vF) 0))), (v 1, .inr (10, [.int ((fun _ => nI 0) 1), .int ((fun _ => nI 0) 1), .ref (sv 1)])), (sv 1, .inl (cs 0, 32, .inl ((fun _ => vF) 1))), (v 2, .inr (10, [.int ((fun _ => nI 0) 2), .int ((fun _ => nI 0) 2), .ref (sv 2)])), (sv 2, .inl (cs 0, 32, .inl ((fun _ => vF) 2))), (v 3, .inr (10, [.int ((fun _ => nI 0) 3), .int ((fun _ => nI 0) 3), .ref (sv 3)])), (sv 3, .inl (cs 0, 32, .inl ((fun _ => vF) 3))), (v 4, .inr (10, [.int ((fun _ => nI 0) 4), .int ((fun _ => nI 0) 4), .ref (sv 4)])), (sv 4, .inl (cs 0, 32, .inl ((fun _ => vF) 4))), (v 5, .inr (10, [.int ((fun _ => nI 0) 5), .int ((fun _ => nI 0) 5), .ref (sv 5)])), (sv 5, .inl (cs 0, 32, .inl ((fun _ => vF) 5))), (v 6, .inr (10, [.int ((fun _ => nI 0) 6), .int ((fun _ => nI 0) 6), .ref (sv 6)])), (sv 6, .inl (cs 0, 32, .inl ((fun _ => vF) 6))), (v 7, .inr (10, [.int ((fun _ => nI 0) 7), .int ((fun _ => nI 0) 7), .ref (sv 7)])), (sv 7, .inl (cs 0, 32, .inl ((fun _ => vF) 7))), (pa, .inl (cs 3, 8, .inr (.inr (.inr (.inr pf))))), (hp0, .inr (4, [.ref nd0, .ref kd0, .ref lk0, .ref vw0])), (nd0, .inl (cs 0, 8, .inl (fun _ => nI 0))), (kd0, .inl (cs 0, 8, .inl (fun _ => nI 0))), (lk0, .inl (cs 0, 8, .inl (fun _ => -1))), (vw0, .inl (cs 2, 8, .inr (.inr (.inr (.inr (fun i => some (v0 i))))))), (v0 0, .inr (10, [.int ((fun _ => nI 0) 0), .int ((fun _ => nI 0) 0), .ref (sv0 0)])), (sv0 0, .inl (cs 0, 32, .inl ((fun _ => vF) 0))), (v0 1, .inr (10, [.int ((fun _ => nI 0) 1), .int ((fun _ => nI 0) 1), .ref (sv0 1)])), (sv0 1, .inl (cs 0, 32, .inl ((fun _ => vF) 1))), (v0 2, .inr (10, [.int ((fun _ => nI 0) 2), .int ((fun _ => nI 0) 2), .ref (sv0 2)])), (sv0 2, .inl (cs 0, 32, .inl ((fun _ => vF) 2))), (v0 3, .inr (10, [.int ((fun _ => nI 0) 3), .int ((fun _ => nI 0) 3), .ref (sv0 3)])), (sv0 3, .inl (cs 0, 32, .inl ((fun _ => vF) 3))), (v0 4, .inr (10, [.int ((fun _ => nI 0) 4), .int ((fun _ => nI 0) 4), .ref (sv0 4)])), (sv0 4, .inl (cs 0, 32, .inl ((fun _ => vF) 4))), (v0 5, .inr (10, [.int ((fun _ => nI 0) 5), .int ((fun _ => nI 0) 5), .ref (sv0 5)])), (sv0 5, .inl (cs 0, 32, .inl ((fun _ => vF) 5))), (v0 6, .inr (10, [.int ((fun _ => nI 0) 6), .int ((fun _ => nI 0) 6), .ref (sv0 6)])), (sv0 6, .inl (cs 0, 32, .inl ((fun _ => vF) 6))), (v0 7, .inr (10, [.int ((fun _ => nI 0) 7), .int ((fun _ => nI 0) 7), .ref (sv0 7)])), (sv0 7, .inl (cs 0, 32, .inl ((fun _ => vF) 7))), (hm, .inr (12, [.ref ms, .ref mkp, .int (nI 0), .ref mtr, .int (nI 4), .int (nI 2), .int (nI 2), .int (nI 3), .int (nI 2), .int (nI 1), .ref mas, .int (nI 0), .int (nI 0), .int (nI 0), .ref mso, .ref mon, .ref mot, .ref man, .int (nI 0), .int (nI 0), .ref mst, .ref msm, .ref mtb, .ref mti, .ref mfr, .ref mbn, .ref mbs, .ref mde, .int (nI 0), .int (nI 0), .int (nI 0), .int (nI 0), .long 0, .long 0, .ref maa, .ref mab, .ref mba, .ref mbb])), (ms, .inl (cs 0, 288, .inl freshS)), (mkp, .inl (cs 0, 2304, .inl (fun _ => 0)))] H) (hD : va_D A [(h0, .inr (11, [.ref hr, .ref hg, .ref hgr, .ref ha, .ref hpo, .ref hly, .ref hse, .ref hc, .ref pa, .ref spr, .ref qm, .int (nI 0), .int (nI 0), .int (nI 0), .int (nI 0), .int (nI 1)])), (hr, .inr (7, [.int (nI 4), .int (nI 2), .int (nI 2), .int (nI 3), .int (nI 2), .int (nI 1), .ref sm, .int (nI 3), .ref ca])), (hg, .inr (4, [.ref nd, .ref kd, .ref lk, .ref vw])), (nd, .inl (cs 0, 8, .inl (fun _ => nI 0))), (kd, .inl (cs 0, 8, .inl (fun _ => nI 0))), (lk, .inl (cs 0, 8, .inl (fun _ => -1))), (vw, .inl (cs 2, 8, .inr (.inr (.inr (.inr (fun i => some (v i))))))), (v 0, .inr (10, [.int ((fun _ => nI 0) 0), .int ((fun _ => nI 0) 0), .ref (sv 0)])), (sv 0, .inl (cs 0, 32, .inl ((fun _ => vF) 0))), (v 1, .inr (10, [.int ((fun _ => nI 0) 1), .int ((fun _ => nI 0) 1), .ref (sv 1)])), (sv 1, .inl (cs 0, 32, .inl ((fun _ => vF) 1))), (v 2, .inr (10, [.int ((fun _ => nI 0) 2), .int ((fun _ => nI 0) 2), .ref (sv 2)])), (sv 2, .inl (cs 0, 32, .inl ((fun _ => vF) 2))), (v 3, .inr (10, [.int ((fun _ => nI 0) 3), .int ((fun _ => nI 0) 3), .ref (sv 3)])), (sv 3, .inl (cs 0, 32, .inl ((fun _ => vF) 3))), (v 4, .inr (10, [.int ((fun _ => nI 0) 4), .int ((fun _ => nI 0) 4), .ref (sv 4)])), (sv 4, .inl (cs 0, 32, .inl ((fun _ => vF) 4))), (v 5, .inr (10, [.int ((fun _ => nI 0) 5), .int ((fun _ => nI 0) 5), .ref (sv 5)])), (sv 5, .inl (cs 0, 32, .inl ((fun _ => vF) 5))), (v 6, .inr (10, [.int ((fun _ => nI 0) 6), .int ((fun _ => nI 0) 6), .ref (sv 6)])), (sv 6, .inl (cs 0, 32, .inl ((fun _ => vF) 6))), (v 7, .inr (10, [.int ((fun _ => nI 0) 7), .int ((fun _ => nI 0) 7), .ref (sv 7)])), (sv 7, .inl (cs 0, 32, .inl ((fun _ => vF) 7))), (pa, .inl (cs 3, 8, .inr (.inr (.inr (.inr pf))))), (hp0, .inr (4, [.ref nd0, .ref kd0, .ref lk0, .ref vw0])), (nd0, .inl (cs 0, 8, .inl (fun _ => nI 0))), (kd0, .inl (cs 0, 8, .inl (fun _ => nI 0))), (lk0, .inl (cs 0, 8, .inl (fun _ => -1))), (vw0, .inl (cs 2, 8, .inr (.inr (.inr (.inr (fun i => some (v0 i))))))), (v0 0, .inr (10, [.int ((fun _ => nI 0) 0), .int ((fun _ => nI 0) 0), .ref (sv0 0)])), (sv0 0, .inl (cs 0, 32, .inl ((fun _ => vF) 0))), (v0 1, .inr (10, [.int ((fun _ => nI 0) 1), .int ((fun _ => nI 0) 1), .ref (sv0 1)])), (sv0 1, .inl (cs 0, 32, .inl ((fun _ => vF) 1))), (v0 2, .inr (10, [.int ((fun _ => nI 0) 2), .int ((fun _ => nI 0) 2), .ref (sv0 2)])), (sv0 2, .inl (cs 0, 32, .inl ((fun _ => vF) 2))), (v0 3, .inr (10, [.int ((fun _ => nI 0) 3), .int ((fun _ => nI 0) 3), .ref (sv0 3)])), (sv0 3, .inl (cs 0, 32, .inl ((fun _ => vF) 3))), (v0 4, .inr (10, [.int ((fun _ => nI 0) 4), .int ((fun _ => nI 0) 4), .ref (sv0 4)])), (sv0 4, .inl (cs 0, 32, .inl ((fun _ => vF) 4))), (v0 5, .inr (10, [.int ((fun _ => nI 0) 5), .int ((fun _ => nI 0) 5), .ref (sv0 5)])), (sv0 5, .inl (cs 0, 32, .inl ((fun _ => vF) 5))), (v0 6, .inr (10, [.int ((fun _ => nI 0) 6), .int ((fun _ => nI 0) 6), .ref (sv0 6)])), (sv0 6, .inl (cs 0, 32, .inl ((fun _ => vF) 6))), (v0 7, .inr (10, [.int ((fun _ => nI 0) 7), .int ((fun _ => nI 0) 7), .ref (sv0 7)])), (sv0 7, .inl (cs 0, 32, .inl ((fun _ => vF) 7))), (hm, .inr (12, [.ref ms, .ref mkp, .int (nI 0), .ref mtr, .int (nI 4), .int (nI 2), .int (nI 2), .int (nI 3), .int (nI 2), .int (nI 1), .ref mas, .int (nI 0), .int (nI 0), .int (nI 0), .ref mso, .ref mon, .ref mot, .ref man, .int (nI 0), .int (nI 0), .ref mst, .ref msm, .ref mtb, .ref mti, .ref mfr, .ref mbn, .ref mbs, .ref mde, .int (nI 0), .int (nI 0), .int (nI 0), .int (nI 0), .long 0, .long 0, .ref maa, .ref mab, .ref mba, .ref mbb])), (ms, .inl (cs 0, 288, .inl freshS)), (mkp, .inl (cs 0, 2304, .inl (fun _ => 0)))]) (hS : va_S A s.heap H locs) (hl : lv_has ls 7 [(4, .int (nI 0)), (3, .ref out), (2, .ref hm), (1, .ref h0), (0, .ref b)]) : W p l e room_1 s m #[Value.ref b] below meth c H locs 261 14585 (lw_Z below #[Value.ref b] s) (F0 m 369 ls []) := by
  have hx := C.1
  have hb := C.2.1
  have hz := C.2.2.2.2.1
  have hown := C.2.2.2.1
  have hA := C.2.2.2.2.2.2.2.2.2
  have hAO := C.2.2.2.2.2.2.2.2.1.2.2
  refine lv_aload_n hx hb dL_law_369 rfl (lv_at hl 3 rfl) ?_
  refine lv_aload_n hx hb dL_law_370 rfl (lv_at hl 4 rfl) ?_
  refine lv_iload hx hb dL_law_371 (lv_at hl 0 rfl) ?_
  refine lv_iconst (v := nI 1) hx hb dL_law_373 (by decide) ?_
  refine lv_iadd hx hb dL_law_374 ?_
  refine lv_topi (nm_r (e' := nI 1) (by decide) ?_)
  refine va_sld hx hb hX hbl hbA hS (pk_in 1 5 (by decide)) dL_law_375 ?_
  refine lv_topi (nm_r (e' := xs 1) (by rw [nI_clamp (by decide)]) ?_)
  refine lv_aload_n hx hb dL_law_376 rfl (lv_at hl 4 rfl) ?_
  refine lv_iload hx hb dL_law_377 (lv_at hl 0 rfl) ?_
  refine lv_iconst (v := nI 2) hx hb dL_law_379 (by decide) ?_
  refine lv_iadd hx hb dL_law_380 ?_
  refine lv_topi (nm_r (e' := nI 2) (by decide) ?_)
  refine va_sld hx hb hX hbl hbA hS (pk_in 2 5 (by decide)) dL_law_381 ?_
  refine lv_topi (nm_r (e' := xs 2) (by rw [nI_clamp (by decide)]) ?_)
  refine xi (wr := [(hm, .inr (12, [.ref ms, .ref mkp, .int (nI 0), .ref mtr, .int (nI 4), .int (nI 2), .int (nI 2), .int (nI 3), .int (nI 2), .int (nI 1), .ref mas, .int (nI 0), .int (nI 0), .int (nI 0), .ref mso, .ref mon, .ref mot, .ref man, .int (nI 0), .int (nI 0), .ref mst, .ref msm, .ref mtb, .ref mti, .ref mfr, .ref mbn, .ref mbs, .ref mde, .int (nI 0), .int (nI 0), .int (nI 0), .int (nI 0), .long 0, .long 0, .ref maa, .ref mab, .ref mba, .ref mbb])), (ms, .inl (cs 0, 288, .inl freshS)), (mkp, .inl (cs 0, 2304, .inl (fun _ => 0)))]) (xV (As := [.int (xs 1), .int (xs 2)]) (rest := []) C (c_X11_colour_z l D cs h0 hr hg hgr ha hpo hly hse hc pa spr qm (nI 0) (nI 1) nd kd lk vw v sv hp0 nd0 kd0 lk0 vw0 v0 sv0 pf sm ca (xs 1) (xs 2) hpf) kL_46 hP hD [0, 1, 23, 2, 3, 4, 5, 6, 7, 8, 9, 10, 11, 12, 13, 14, 15, 16, 17, 18, 19, 20, 21, 22, 24, 25, 26, 27, 28, 29, 30, 31, 32, 33, 34, 35, 36, 37, 38, 39, 40, 41, 42, 43, 44] rfl (by decide +kernel) 0 rfl rfl rfl ⟨Nat.le_of_ble_eq_true rfl, Nat.le_of_ble_eq_true rfl⟩ rfl hl.1 rfl (Nat.le_of_ble_eq_true rfl) dL_law_382 ⟨Nat.le_of_ble_eq_true rfl, Nat.le_of_ble_eq_true rfl⟩) hP hD hS hA [0, 1, 23, 2, 3, 4, 5, 6, 7, 8, 9, 10, 11, 12, 13, 14, 15, 16, 17, 18, 19, 20, 21, 22, 24, 25, 26, 27, 28, 29, 30, 31, 32, 33, 34, 35, 36, 37, 38, 39, 40, 41, 42, 43, 44] [45, 46, 47] rfl rfl (by decide +kernel) (by decide +kernel) ?_
  clear hP hD hS
  try clear locs
  try clear H
  intro r_1 u_2 H locs hw_r_1 hP hD hS
  have hw_r_1 : PQ (okN 4 (xs 1) ∧ ¬ (xs 2) < -1 ∧ (xs 2) ≤ nI 1) r_1 (nI 1) (nI 0) := hw_r_1
  refine W.widen (k := 261) (n := 14585) (Nat.le_of_ble_eq_true rfl) (Nat.le_of_ble_eq_true rfl) ?_
  replace hP : va_P D vwCl [(hm, .inr (12, [.ref ms, .ref mkp, .int (nI 0), .ref mtr, .int (nI 4), .int (nI 2), .int (nI 2), .int (nI 3), .int (nI 2), .int (nI 1), .ref mas, .int (nI 0), .int (nI 0), .int (nI 0), .ref mso, .ref mon, .ref mot, .ref man, .int (nI 0), .int (nI 0), .ref mst, .ref msm, .ref mtb, .ref mti, .ref mfr, .ref mbn, .ref mbs, .ref mde, .int (nI 0), .int (nI 0), .int (nI 0), .int (nI 0), .long 0, .long 0, .ref maa, .ref mab, .ref mba, .ref mbb])), (ms, .inl (cs 0, 288, .inl freshS)), (mkp, .inl (cs 0, 2304, .inl (fun _ => 0)))] H := hP
  replace hD : va_D A [(hm, .inr (12, [.ref ms, .ref mkp, .int (nI 0), .ref mtr, .int (nI 4), .int (nI 2), .int (nI 2), .int (nI 3), .int (nI 2), .int (nI 1), .ref mas, .int (nI 0), .int (nI 0), .int (nI 0), .ref mso, .ref mon, .ref mot, .ref man, .int (nI 0), .int (nI 0), .ref mst, .ref msm, .ref mtb, .ref mti, .ref mfr, .ref mbn, .ref mbs, .ref mde, .int (nI 0), .int (nI 0), .int (nI 0), .int (nI 0), .long 0, .long 0, .ref maa, .ref mab, .ref mba, .ref mbb])), (ms, .inl (cs 0, 288, .inl freshS)), (mkp, .inl (cs 0, 2304, .inl (fun _ => 0)))] := hD
  refine lv_aload_n hx hb dL_law_385 rfl (lv_at hl 2 rfl) ?_
  refine lv_aload_n hx hb dL_law_386 rfl (lv_at hl 4 rfl) ?_
  refine lv_iload hx hb dL_law_387 (lv_at hl 0 rfl) ?_
  refine lv_iconst (v := nI 1) hx hb dL_law_389 (by decide) ?_
  refine lv_iadd hx hb dL_law_390 ?_
  refine lv_topi (nm_r (e' := nI 1) (by decide) ?_)
  refine va_sld hx hb hX hbl hbA hS (pk_in 1 5 (by decide)) dL_law_391 ?_
  refine lv_topi (nm_r (e' := xs 1) (by rw [nI_clamp (by decide)]) ?_)
  refine lv_aload_n hx hb dL_law_392 rfl (lv_at hl 4 rfl) ?_
  refine lv_iload hx hb dL_law_393 (lv_at hl 0 rfl) ?_
  refine lv_iconst (v := nI 2) hx hb dL_law_395 (by decide) ?_
  refine lv_iadd hx hb dL_law_396 ?_
  refine lv_topi (nm_r (e' := nI 2) (by decide) ?_)
  refine va_sld hx hb hX hbl hbA hS (pk_in 2 5 (by decide)) dL_law_397 ?_
  refine lv_topi (nm_r (e' := xs 2) (by rw [nI_clamp (by decide)]) ?_)
  refine xi (wr := []) (xV (As := [.int (xs 1), .int (xs 2)]) (rest := [.int r_1]) C (c_X12_colour_z l D cs hm ms mkp mtr mas mso mon mot man mst msm mtb mti mfr mbn mbs mde maa mab mba mbb (fun _ => 0) (xs 1) (xs 2)) kL_50 hP hD [0, 1, 2] rfl (by decide +kernel) 0 rfl rfl rfl ⟨Nat.le_of_ble_eq_true rfl, Nat.le_of_ble_eq_true rfl⟩ rfl hl.1 rfl (Nat.le_of_ble_eq_true rfl) dL_law_398 ⟨Nat.le_of_ble_eq_true rfl, Nat.le_of_ble_eq_true rfl⟩) hP hD hS hA [0, 1, 2] [] rfl rfl (by decide +kernel) (by decide +kernel) ?_
  clear hP hD hS
  try clear locs
  try clear H
  intro r_3 u_4 H locs hw_r_3 hP hD hS
  have hw_r_3 : PQ (okN 4 (xs 1) ∧ ¬ (xs 2) < -1 ∧ (xs 2) ≤ nI 1) r_3 (nI 1) (nI 0) := hw_r_3
  refine W.widen (k := 261) (n := 14585) (Nat.le_of_ble_eq_true rfl) (Nat.le_of_ble_eq_true rfl) ?_
  replace hP : va_P D vwCl [] H := hP
  replace hD : va_D A [] := hD
  refine lv_icmp_eq (tgt := 1199) hx hb dL_law_401 (by decide) (fun _ => ?_) (fun c => absurd (PQ.eq hw_r_1 hw_r_3) c)
  refine lv_iinc (v := nI 5) (lv' := [(4, .int (nI 5)), (3, .ref out), (2, .ref hm), (1, .ref h0), (0, .ref b)]) hx hb dL_law_1199 hl (k := 0) rfl (by decide) (by decide) rfl ?_
  clear hl
  try clear ls
  intro ls hl
  refine lv_goto (tgt := 23) hx hb dL_law_1202 (by decide) ?_
  refine lv_iload hx hb dL_law_23 (lv_at hl 0 rfl) ?_
  refine lv_aload_n hx hb dL_law_25 rfl (lv_at hl 4 rfl) ?_
  refine va_slen hx hb hX hbl hbA hS dL_law_26 ?_
  refine lv_topi (nm_r (e' := nI 5) rfl ?_)
  refine lv_iconst (v := nI 5) hx hb dL_law_27 (by decide) ?_
  refine lv_isub hx hb dL_law_28 ?_
  refine lv_topi (nm_r (e' := nI 0) (by decide) ?_)
  refine lv_icmp_gt (tgt := 1205) hx hb dL_law_29 (by decide) (fun _ => ?_) (fun c => absurd (by decide) c)
  refine lv_iconst (v := nI 1) hx hb dL_law_1205 (by decide) ?_
  refine lv_topi (nm_r (e' := 1) rfl ?_)
  exact va_forget (fun q hq => hA2 _ (hS.2.2 q hq)) (W.widen (Nat.le_of_ble_eq_true rfl) (Nat.le_of_ble_eq_true rfl) (W.base (lw_ret (Drawn.sameBut.refl s.drawn lw_cs) hx hb C.2.2.2.2.2.1 C.2.2.2.2.2.2.1 dL_law_1206)))

set_option maxHeartbeats 4000000 in
set_option maxRecDepth 100000 in
theorem law_case_6 {p : Program} {e : Env} {s : State} {m : MethodId} {below : List Frame} {meth : Method} {c : Code} (l : Launch) (hfl : l.stackTraces = false) {D : va_G} {cs : Nat → ClassId} {A : Nat → Prop} {b : Nat} {xs : Nat → Int32} (C : xC p room_1 s m #[Value.ref b] meth c ⟨"SampleHouseLaw", meth.name, ""⟩ code 7 ret D cs A) (hTH : xTH s) (hZ0 : xZ A s s.heap) (hX : va_X b 5 xs s s.heap) (hbl : b < s.heap.size) (hbA : ¬ A b) (hA2 : ∀ q, A q → s.heap.size ≤ q) (hr hg hgr ha hpo hly hse hc pa spr qm sm ca nd kd lk vw gs g1r g2r gan gpr gde gme wk spa aga ona wk2 ab rb ob tb hp0 nd0 kd0 lk0 vw0 : Nat) (v sv v0 sv0 rw rl : Nat → Nat) (sg : Nat → Nat → Int32) (pf : Nat → Option Nat) (ms mkp mtr mas mso mon mot man mst msm mtb mti mfr mbn mbs mde maa mab mba mbb h0 hm out : Nat) (hpf : pf 0 = some hp0) {H : Heap} {locs : List Loc} {ls : Array Slot} (hP : va_P D vwCl [(h0, .inr (11, [.ref hr, .ref hg, .ref hgr, .ref ha, .ref hpo, .ref hly, .ref hse, .ref hc, .ref pa, .ref spr, .ref qm, .int (nI 0), .int (nI 0), .int (nI 0), .int (nI 0), .int (nI 1)])), (hr, .inr (7, [.int (nI 4), .int (nI 2), .int (nI 2), .int (nI 3), .int (nI 2), .int (nI 1), .ref sm, .int (nI 3), .ref ca])), (hg, .inr (4, [.ref nd, .ref kd, .ref lk, .ref vw])), (nd, .inl (cs 0, 8, .inl (fun _ => nI 0))), (kd, .inl (cs 0, 8, .inl (fun _ => nI 0))), (ha, .inr (0, [.ref hr, .ref hg, .int (nI 0), .int (nI 0), .int (nI 0)])), (hm, .inr (12, [.ref ms, .ref mkp, .int (nI 0), .ref mtr, .int (nI 4), .int (nI 2), .int (nI 2), .int (nI 3), .int (nI 2), .int (nI 1), .ref mas, .int (nI 0), .int (nI 0), .int (nI 0), .ref mso, .ref mon, .ref mot, .ref man, .int (nI 0), .int (nI 0), .ref mst, .ref msm, .ref mtb, .ref mti, .ref mfr, .ref mbn, .ref mbs, .ref mde, .int (nI 0), .int (nI 0), .int (nI 0), .int (nI 0), .long 0, .long 0, .ref maa, .ref mab, .ref mba, .ref mbb])), (ms, .inl (cs 0, 288, .inl freshS))] H) (hD : va_D A [(h0, .inr (11, [.ref hr, .ref hg, .ref hgr, .ref ha, .ref hpo, .ref hly, .ref hse, .ref hc, .ref pa, .ref spr, .ref qm, .int (nI 0), .int (nI 0), .int (nI 0), .int (nI 0), .int (nI 1)])), (hr, .inr (7, [.int (nI 4), .int (nI 2), .int (nI 2), .int (nI 3), .int (nI 2), .int (nI 1), .ref sm, .int (nI 3), .ref ca])), (hg, .inr (4, [.ref nd, .ref kd, .ref lk, .ref vw])), (nd, .inl (cs 0, 8, .inl (fun _ => nI 0))), (kd, .inl (cs 0, 8, .inl (fun _ => nI 0))), (ha, .inr (0, [.ref hr, .ref hg, .int (nI 0), .int (nI 0), .int (nI 0)])), (hm, .inr (12, [.ref ms, .ref mkp, .int (nI 0), .ref mtr, .int (nI 4), .int (nI 2), .int (nI 2), .int (nI 3), .int (nI 2), .int (nI 1), .ref mas, .int (nI 0), .int (nI 0), .int (nI 0), .ref mso, .ref mon, .ref mot, .ref man, .int (nI 0), .int (nI 0), .ref mst, .ref msm, .ref mtb, .ref mti, .ref mfr, .ref mbn, .ref mbs, .ref mde, .int (nI 0), .int (nI 0), .int (nI 0), .int (nI 0), .long 0, .long 0, .ref maa, .ref mab, .ref mba, .ref mbb])), (ms, .inl (cs 0, 288, .inl freshS))]) (hS : va_S A s.heap H locs) (hl : lv_has ls 7 [(4, .int (nI 0)), (3, .ref out), (2, .ref hm), (1, .ref h0), (0, .ref b)]) : W p l e room_1 s m #[Value.ref b] below meth c H locs 261 14585 (lw_Z below #[Value.ref b] s) (F0 m 406 ls []) := by
  have hx := C.1
  have hb := C.2.1
  have hz := C.2.2.2.2.1
  have hown := C.2.2.2.1
  have hA := C.2.2.2.2.2.2.2.2.2
  have hAO := C.2.2.2.2.2.2.2.2.1.2.2
  refine lv_aload_n hx hb dL_law_406 rfl (lv_at hl 3 rfl) ?_
  refine lv_aload_n hx hb dL_law_407 rfl (lv_at hl 4 rfl) ?_
  refine lv_iload hx hb dL_law_408 (lv_at hl 0 rfl) ?_
  refine lv_iconst (v := nI 1) hx hb dL_law_410 (by decide) ?_
  refine lv_iadd hx hb dL_law_411 ?_
  refine lv_topi (nm_r (e' := nI 1) (by decide) ?_)
  refine va_sld hx hb hX hbl hbA hS (pk_in 1 5 (by decide)) dL_law_412 ?_
  refine lv_topi (nm_r (e' := xs 1) (by rw [nI_clamp (by decide)]) ?_)
  refine lv_aload_n hx hb dL_law_413 rfl (lv_at hl 4 rfl) ?_
  refine lv_iload hx hb dL_law_414 (lv_at hl 0 rfl) ?_
  refine lv_iconst (v := nI 2) hx hb dL_law_416 (by decide) ?_
  refine lv_iadd hx hb dL_law_417 ?_
  refine lv_topi (nm_r (e' := nI 2) (by decide) ?_)
  refine va_sld hx hb hX hbl hbA hS (pk_in 2 5 (by decide)) dL_law_418 ?_
  refine lv_topi (nm_r (e' := xs 2) (by rw [nI_clamp (by decide)]) ?_)
  refine xi (wr := [(hm, .inr (12, [.ref ms, .ref mkp, .int (nI 0), .ref mtr, .int (nI 4), .int (nI 2), .int (nI 2), .int (nI 3), .int (nI 2), .int (nI 1), .ref mas, .int (nI 0), .int (nI 0), .int (nI 0), .ref mso, .ref mon, .ref mot, .ref man, .int (nI 0), .int (nI 0), .ref mst, .ref msm, .ref mtb, .ref mti, .ref mfr, .ref mbn, .ref mbs, .ref mde, .int (nI 0), .int (nI 0), .int (nI 0), .int (nI 0), .long 0, .long 0, .ref maa, .ref mab, .ref mba, .ref mbb])), (ms, .inl (cs 0, 288, .inl freshS))]) (xV (As := [.int (xs 1), .int (xs 2)]) (rest := []) C (c_X11_query_z l D cs h0 hr hg hgr ha hpo hly hse hc pa spr qm (nI 0) (nI 1) (nI 0) (nI 0) (nI 0) sm ca (nI 0) (nI 0) (nI 0) nd kd lk vw (xs 1) (xs 2)) kL_51 hP hD [0, 1, 5, 2, 4, 3] rfl (by decide +kernel) 0 rfl rfl rfl ⟨Nat.le_of_ble_eq_true rfl, Nat.le_of_ble_eq_true rfl⟩ rfl hl.1 rfl (Nat.le_of_ble_eq_true rfl) dL_law_419 ⟨Nat.le_of_ble_eq_true rfl, Nat.le_of_ble_eq_true rfl⟩) hP hD hS hA [0, 1, 5, 2, 4, 3] [6, 7] rfl rfl (by decide +kernel) (by decide +kernel) ?_
  clear hP hD hS
  try clear locs
  try clear H
  intro r_1 u_2 H locs hw_r_1 hP hD hS
  have hw_r_1 : r_1 = -1 := hw_r_1
  refine W.widen (k := 261) (n := 14585) (Nat.le_of_ble_eq_true rfl) (Nat.le_of_ble_eq_true rfl) ?_
  replace hP : va_P D vwCl [(hm, .inr (12, [.ref ms, .ref mkp, .int (nI 0), .ref mtr, .int (nI 4), .int (nI 2), .int (nI 2), .int (nI 3), .int (nI 2), .int (nI 1), .ref mas, .int (nI 0), .int (nI 0), .int (nI 0), .ref mso, .ref mon, .ref mot, .ref man, .int (nI 0), .int (nI 0), .ref mst, .ref msm, .ref mtb, .ref mti, .ref mfr, .ref mbn, .ref mbs, .ref mde, .int (nI 0), .int (nI 0), .int (nI 0), .int (nI 0), .long 0, .long 0, .ref maa, .ref mab, .ref mba, .ref mbb])), (ms, .inl (cs 0, 288, .inl freshS))] H := hP
  replace hD : va_D A [(hm, .inr (12, [.ref ms, .ref mkp, .int (nI 0), .ref mtr, .int (nI 4), .int (nI 2), .int (nI 2), .int (nI 3), .int (nI 2), .int (nI 1), .ref mas, .int (nI 0), .int (nI 0), .int (nI 0), .ref mso, .ref mon, .ref mot, .ref man, .int (nI 0), .int (nI 0), .ref mst, .ref msm, .ref mtb, .ref mti, .ref mfr, .ref mbn, .ref mbs, .ref mde, .int (nI 0), .int (nI 0), .int (nI 0), .int (nI 0), .long 0, .long 0, .ref maa, .ref mab, .ref mba, .ref mbb])), (ms, .inl (cs 0, 288, .inl freshS))] := hD
  refine lv_aload_n hx hb dL_law_422 rfl (lv_at hl 2 rfl) ?_
  refine lv_aload_n hx hb dL_law_423 rfl (lv_at hl 4 rfl) ?_
  refine lv_iload hx hb dL_law_424 (lv_at hl 0 rfl) ?_
  refine lv_iconst (v := nI 1) hx hb dL_law_426 (by decide) ?_
  refine lv_iadd hx hb dL_law_427 ?_
  refine lv_topi (nm_r (e' := nI 1) (by decide) ?_)
  refine va_sld hx hb hX hbl hbA hS (pk_in 1 5 (by decide)) dL_law_428 ?_
  refine lv_topi (nm_r (e' := xs 1) (by rw [nI_clamp (by decide)]) ?_)
  refine lv_aload_n hx hb dL_law_429 rfl (lv_at hl 4 rfl) ?_
  refine lv_iload hx hb dL_law_430 (lv_at hl 0 rfl) ?_
  refine lv_iconst (v := nI 2) hx hb dL_law_432 (by decide) ?_
  refine lv_iadd hx hb dL_law_433 ?_
  refine lv_topi (nm_r (e' := nI 2) (by decide) ?_)
  refine va_sld hx hb hX hbl hbA hS (pk_in 2 5 (by decide)) dL_law_434 ?_
  refine lv_topi (nm_r (e' := xs 2) (by rw [nI_clamp (by decide)]) ?_)
  refine xi (wr := []) (xV (As := [.int (xs 1), .int (xs 2)]) (rest := [.int r_1]) C (c_X12_query_z l D cs hm ms mkp mtr mas mso mon mot man mst msm mtb mti mfr mbn mbs mde maa mab mba mbb (xs 1) (xs 2)) kL_54 hP hD [0, 1] rfl (by decide +kernel) 0 rfl rfl rfl ⟨Nat.le_of_ble_eq_true rfl, Nat.le_of_ble_eq_true rfl⟩ rfl hl.1 rfl (Nat.le_of_ble_eq_true rfl) dL_law_435 ⟨Nat.le_of_ble_eq_true rfl, Nat.le_of_ble_eq_true rfl⟩) hP hD hS hA [0, 1] [] rfl rfl (by decide +kernel) (by decide +kernel) ?_
  clear hP hD hS
  try clear locs
  try clear H
  intro r_3 u_4 H locs hw_r_3 hP hD hS
  have hw_r_3 : r_3 = -1 := hw_r_3
  refine W.widen (k := 261) (n := 14585) (Nat.le_of_ble_eq_true rfl) (Nat.le_of_ble_eq_true rfl) ?_
  replace hP : va_P D vwCl [] H := hP
  replace hD : va_D A [] := hD
  refine lv_icmp_eq (tgt := 1199) hx hb dL_law_438 (by decide) (fun _ => ?_) (fun c => absurd (hw_r_1.trans hw_r_3.symm) c)
  refine lv_iinc (v := nI 5) (lv' := [(4, .int (nI 5)), (3, .ref out), (2, .ref hm), (1, .ref h0), (0, .ref b)]) hx hb dL_law_1199 hl (k := 0) rfl (by decide) (by decide) rfl ?_
  clear hl
  try clear ls
  intro ls hl
  refine lv_goto (tgt := 23) hx hb dL_law_1202 (by decide) ?_
  refine lv_iload hx hb dL_law_23 (lv_at hl 0 rfl) ?_
  refine lv_aload_n hx hb dL_law_25 rfl (lv_at hl 4 rfl) ?_
  refine va_slen hx hb hX hbl hbA hS dL_law_26 ?_
  refine lv_topi (nm_r (e' := nI 5) rfl ?_)
  refine lv_iconst (v := nI 5) hx hb dL_law_27 (by decide) ?_
  refine lv_isub hx hb dL_law_28 ?_
  refine lv_topi (nm_r (e' := nI 0) (by decide) ?_)
  refine lv_icmp_gt (tgt := 1205) hx hb dL_law_29 (by decide) (fun _ => ?_) (fun c => absurd (by decide) c)
  refine lv_iconst (v := nI 1) hx hb dL_law_1205 (by decide) ?_
  refine lv_topi (nm_r (e' := 1) rfl ?_)
  exact va_forget (fun q hq => hA2 _ (hS.2.2 q hq)) (W.widen (Nat.le_of_ble_eq_true rfl) (Nat.le_of_ble_eq_true rfl) (W.base (lw_ret (Drawn.sameBut.refl s.drawn lw_cs) hx hb C.2.2.2.2.2.1 C.2.2.2.2.2.2.1 dL_law_1206)))

set_option maxHeartbeats 4000000 in
set_option maxRecDepth 100000 in
theorem law_case_7 {p : Program} {e : Env} {s : State} {m : MethodId} {below : List Frame} {meth : Method} {c : Code} (l : Launch) (hfl : l.stackTraces = false) {D : va_G} {cs : Nat → ClassId} {A : Nat → Prop} {b : Nat} {xs : Nat → Int32} (C : xC p room_1 s m #[Value.ref b] meth c ⟨"SampleHouseLaw", meth.name, ""⟩ code 7 ret D cs A) (hTH : xTH s) (hZ0 : xZ A s s.heap) (hX : va_X b 5 xs s s.heap) (hbl : b < s.heap.size) (hbA : ¬ A b) (hA2 : ∀ q, A q → s.heap.size ≤ q) (hr hg hgr ha hpo hly hse hc pa spr qm sm ca nd kd lk vw gs g1r g2r gan gpr gde gme wk spa aga ona wk2 ab rb ob tb hp0 nd0 kd0 lk0 vw0 : Nat) (v sv v0 sv0 rw rl : Nat → Nat) (sg : Nat → Nat → Int32) (pf : Nat → Option Nat) (ms mkp mtr mas mso mon mot man mst msm mtb mti mfr mbn mbs mde maa mab mba mbb h0 hm out : Nat) (hpf : pf 0 = some hp0) {H : Heap} {locs : List Loc} {ls : Array Slot} (hP : va_P D vwCl [(h0, .inr (11, [.ref hr, .ref hg, .ref hgr, .ref ha, .ref hpo, .ref hly, .ref hse, .ref hc, .ref pa, .ref spr, .ref qm, .int (nI 0), .int (nI 0), .int (nI 0), .int (nI 0), .int (nI 1)])), (hr, .inr (7, [.int (nI 4), .int (nI 2), .int (nI 2), .int (nI 3), .int (nI 2), .int (nI 1), .ref sm, .int (nI 3), .ref ca])), (hg, .inr (4, [.ref nd, .ref kd, .ref lk, .ref vw])), (nd, .inl (cs 0, 8, .inl (fun _ => nI 0))), (kd, .inl (cs 0, 8, .inl (fun _ => nI 0))), (ha, .inr (0, [.ref hr, .ref hg, .int (nI 0), .int (nI 0), .int (nI 0)])), (hm, .inr (12, [.ref ms, .ref mkp, .int (nI 0), .ref mtr, .int (nI 4), .int (nI 2), .int (nI 2), .int (nI 3), .int (nI 2), .int (nI 1), .ref mas, .int (nI 0), .int (nI 0), .int (nI 0), .ref mso, .ref mon, .ref mot, .ref man, .int (nI 0), .int (nI 0), .ref mst, .ref msm, .ref mtb, .ref mti, .ref mfr, .ref mbn, .ref mbs, .ref mde, .int (nI 0), .int (nI 0), .int (nI 0), .int (nI 0), .long 0, .long 0, .ref maa, .ref mab, .ref mba, .ref mbb])), (ms, .inl (cs 0, 288, .inl freshS))] H) (hD : va_D A [(h0, .inr (11, [.ref hr, .ref hg, .ref hgr, .ref ha, .ref hpo, .ref hly, .ref hse, .ref hc, .ref pa, .ref spr, .ref qm, .int (nI 0), .int (nI 0), .int (nI 0), .int (nI 0), .int (nI 1)])), (hr, .inr (7, [.int (nI 4), .int (nI 2), .int (nI 2), .int (nI 3), .int (nI 2), .int (nI 1), .ref sm, .int (nI 3), .ref ca])), (hg, .inr (4, [.ref nd, .ref kd, .ref lk, .ref vw])), (nd, .inl (cs 0, 8, .inl (fun _ => nI 0))), (kd, .inl (cs 0, 8, .inl (fun _ => nI 0))), (ha, .inr (0, [.ref hr, .ref hg, .int (nI 0), .int (nI 0), .int (nI 0)])), (hm, .inr (12, [.ref ms, .ref mkp, .int (nI 0), .ref mtr, .int (nI 4), .int (nI 2), .int (nI 2), .int (nI 3), .int (nI 2), .int (nI 1), .ref mas, .int (nI 0), .int (nI 0), .int (nI 0), .ref mso, .ref mon, .ref mot, .ref man, .int (nI 0), .int (nI 0), .ref mst, .ref msm, .ref mtb, .ref mti, .ref mfr, .ref mbn, .ref mbs, .ref mde, .int (nI 0), .int (nI 0), .int (nI 0), .int (nI 0), .long 0, .long 0, .ref maa, .ref mab, .ref mba, .ref mbb])), (ms, .inl (cs 0, 288, .inl freshS))]) (hS : va_S A s.heap H locs) (hl : lv_has ls 7 [(4, .int (nI 0)), (3, .ref out), (2, .ref hm), (1, .ref h0), (0, .ref b)]) : W p l e room_1 s m #[Value.ref b] below meth c H locs 261 14585 (lw_Z below #[Value.ref b] s) (F0 m 443 ls []) := by
  have hx := C.1
  have hb := C.2.1
  have hz := C.2.2.2.2.1
  have hown := C.2.2.2.1
  have hA := C.2.2.2.2.2.2.2.2.2
  have hAO := C.2.2.2.2.2.2.2.2.1.2.2
  refine lv_aload_n hx hb dL_law_443 rfl (lv_at hl 3 rfl) ?_
  refine lv_aload_n hx hb dL_law_444 rfl (lv_at hl 4 rfl) ?_
  refine lv_iload hx hb dL_law_445 (lv_at hl 0 rfl) ?_
  refine lv_iconst (v := nI 1) hx hb dL_law_447 (by decide) ?_
  refine lv_iadd hx hb dL_law_448 ?_
  refine lv_topi (nm_r (e' := nI 1) (by decide) ?_)
  refine va_sld hx hb hX hbl hbA hS (pk_in 1 5 (by decide)) dL_law_449 ?_
  refine lv_topi (nm_r (e' := xs 1) (by rw [nI_clamp (by decide)]) ?_)
  refine lv_aload_n hx hb dL_law_450 rfl (lv_at hl 4 rfl) ?_
  refine lv_iload hx hb dL_law_451 (lv_at hl 0 rfl) ?_
  refine lv_iconst (v := nI 2) hx hb dL_law_453 (by decide) ?_
  refine lv_iadd hx hb dL_law_454 ?_
  refine lv_topi (nm_r (e' := nI 2) (by decide) ?_)
  refine va_sld hx hb hX hbl hbA hS (pk_in 2 5 (by decide)) dL_law_455 ?_
  refine lv_topi (nm_r (e' := xs 2) (by rw [nI_clamp (by decide)]) ?_)
  refine xi (wr := [(hm, .inr (12, [.ref ms, .ref mkp, .int (nI 0), .ref mtr, .int (nI 4), .int (nI 2), .int (nI 2), .int (nI 3), .int (nI 2), .int (nI 1), .ref mas, .int (nI 0), .int (nI 0), .int (nI 0), .ref mso, .ref mon, .ref mot, .ref man, .int (nI 0), .int (nI 0), .ref mst, .ref msm, .ref mtb, .ref mti, .ref mfr, .ref mbn, .ref mbs, .ref mde, .int (nI 0), .int (nI 0), .int (nI 0), .int (nI 0), .long 0, .long 0, .ref maa, .ref mab, .ref mba, .ref mbb])), (ms, .inl (cs 0, 288, .inl freshS))]) (xV (As := [.int (xs 1), .int (xs 2)]) (rest := []) C (c_X11_would_z l D cs h0 hr hg hgr ha hpo hly hse hc pa spr qm (nI 0) (nI 1) (nI 0) (nI 0) (nI 0) sm ca (nI 0) (nI 0) (nI 0) nd kd lk vw (xs 1) (xs 2)) kL_55 hP hD [0, 1, 5, 2, 4, 3] rfl (by decide +kernel) 0 rfl rfl rfl ⟨Nat.le_of_ble_eq_true rfl, Nat.le_of_ble_eq_true rfl⟩ rfl hl.1 rfl (Nat.le_of_ble_eq_true rfl) dL_law_456 ⟨Nat.le_of_ble_eq_true rfl, Nat.le_of_ble_eq_true rfl⟩) hP hD hS hA [0, 1, 5, 2, 4, 3] [6, 7] rfl rfl (by decide +kernel) (by decide +kernel) ?_
  clear hP hD hS
  try clear locs
  try clear H
  intro r_1 u_2 H locs hw_r_1 hP hD hS
  have hw_r_1 : r_1 = -1 := hw_r_1
  refine W.widen (k := 261) (n := 14585) (Nat.le_of_ble_eq_true rfl) (Nat.le_of_ble_eq_true rfl) ?_
  replace hP : va_P D vwCl [(hm, .inr (12, [.ref ms, .ref mkp, .int (nI 0), .ref mtr, .int (nI 4), .int (nI 2), .int (nI 2), .int (nI 3), .int (nI 2), .int (nI 1), .ref mas, .int (nI 0), .int (nI 0), .int (nI 0), .ref mso, .ref mon, .ref mot, .ref man, .int (nI 0), .int (nI 0), .ref mst, .ref msm, .ref mtb, .ref mti, .ref mfr, .ref mbn, .ref mbs, .ref mde, .int (nI 0), .int (nI 0), .int (nI 0), .int (nI 0), .long 0, .long 0, .ref maa, .ref mab, .ref mba, .ref mbb])), (ms, .inl (cs 0, 288, .inl freshS))] H := hP
  replace hD : va_D A [(hm, .inr (12, [.ref ms, .ref mkp, .int (nI 0), .ref mtr, .int (nI 4), .int (nI 2), .int (nI 2), .int (nI 3), .int (nI 2), .int (nI 1), .ref mas, .int (nI 0), .int (nI 0), .int (nI 0), .ref mso, .ref mon, .ref mot, .ref man, .int (nI 0), .int (nI 0), .ref mst, .ref msm, .ref mtb, .ref mti, .ref mfr, .ref mbn, .ref mbs, .ref mde, .int (nI 0), .int (nI 0), .int (nI 0), .int (nI 0), .long 0, .long 0, .ref maa, .ref mab, .ref mba, .ref mbb])), (ms, .inl (cs 0, 288, .inl freshS))] := hD
  refine lv_aload_n hx hb dL_law_459 rfl (lv_at hl 2 rfl) ?_
  refine lv_aload_n hx hb dL_law_460 rfl (lv_at hl 4 rfl) ?_
  refine lv_iload hx hb dL_law_461 (lv_at hl 0 rfl) ?_
  refine lv_iconst (v := nI 1) hx hb dL_law_463 (by decide) ?_
  refine lv_iadd hx hb dL_law_464 ?_
  refine lv_topi (nm_r (e' := nI 1) (by decide) ?_)
  refine va_sld hx hb hX hbl hbA hS (pk_in 1 5 (by decide)) dL_law_465 ?_
  refine lv_topi (nm_r (e' := xs 1) (by rw [nI_clamp (by decide)]) ?_)
  refine lv_aload_n hx hb dL_law_466 rfl (lv_at hl 4 rfl) ?_
  refine lv_iload hx hb dL_law_467 (lv_at hl 0 rfl) ?_
  refine lv_iconst (v := nI 2) hx hb dL_law_469 (by decide) ?_
  refine lv_iadd hx hb dL_law_470 ?_
  refine lv_topi (nm_r (e' := nI 2) (by decide) ?_)
  refine va_sld hx hb hX hbl hbA hS (pk_in 2 5 (by decide)) dL_law_471 ?_
  refine lv_topi (nm_r (e' := xs 2) (by rw [nI_clamp (by decide)]) ?_)
  refine xi (wr := []) (xV (As := [.int (xs 1), .int (xs 2)]) (rest := [.int r_1]) C (c_X12_would_z l D cs hm ms mkp mtr mas mso mon mot man mst msm mtb mti mfr mbn mbs mde maa mab mba mbb (xs 1) (xs 2)) kL_58 hP hD [0, 1] rfl (by decide +kernel) 0 rfl rfl rfl ⟨Nat.le_of_ble_eq_true rfl, Nat.le_of_ble_eq_true rfl⟩ rfl hl.1 rfl (Nat.le_of_ble_eq_true rfl) dL_law_472 ⟨Nat.le_of_ble_eq_true rfl, Nat.le_of_ble_eq_true rfl⟩) hP hD hS hA [0, 1] [] rfl rfl (by decide +kernel) (by decide +kernel) ?_
  clear hP hD hS
  try clear locs
  try clear H
  intro r_3 u_4 H locs hw_r_3 hP hD hS
  have hw_r_3 : r_3 = -1 := hw_r_3
  refine W.widen (k := 261) (n := 14585) (Nat.le_of_ble_eq_true rfl) (Nat.le_of_ble_eq_true rfl) ?_
  replace hP : va_P D vwCl [] H := hP
  replace hD : va_D A [] := hD
  refine lv_icmp_eq (tgt := 1199) hx hb dL_law_475 (by decide) (fun _ => ?_) (fun c => absurd (hw_r_1.trans hw_r_3.symm) c)
  refine lv_iinc (v := nI 5) (lv' := [(4, .int (nI 5)), (3, .ref out), (2, .ref hm), (1, .ref h0), (0, .ref b)]) hx hb dL_law_1199 hl (k := 0) rfl (by decide) (by decide) rfl ?_
  clear hl
  try clear ls
  intro ls hl
  refine lv_goto (tgt := 23) hx hb dL_law_1202 (by decide) ?_
  refine lv_iload hx hb dL_law_23 (lv_at hl 0 rfl) ?_
  refine lv_aload_n hx hb dL_law_25 rfl (lv_at hl 4 rfl) ?_
  refine va_slen hx hb hX hbl hbA hS dL_law_26 ?_
  refine lv_topi (nm_r (e' := nI 5) rfl ?_)
  refine lv_iconst (v := nI 5) hx hb dL_law_27 (by decide) ?_
  refine lv_isub hx hb dL_law_28 ?_
  refine lv_topi (nm_r (e' := nI 0) (by decide) ?_)
  refine lv_icmp_gt (tgt := 1205) hx hb dL_law_29 (by decide) (fun _ => ?_) (fun c => absurd (by decide) c)
  refine lv_iconst (v := nI 1) hx hb dL_law_1205 (by decide) ?_
  refine lv_topi (nm_r (e' := 1) rfl ?_)
  exact va_forget (fun q hq => hA2 _ (hS.2.2 q hq)) (W.widen (Nat.le_of_ble_eq_true rfl) (Nat.le_of_ble_eq_true rfl) (W.base (lw_ret (Drawn.sameBut.refl s.drawn lw_cs) hx hb C.2.2.2.2.2.1 C.2.2.2.2.2.2.1 dL_law_1206)))

set_option maxHeartbeats 4000000 in
set_option maxRecDepth 100000 in
theorem law_case_8 {p : Program} {e : Env} {s : State} {m : MethodId} {below : List Frame} {meth : Method} {c : Code} (l : Launch) (hfl : l.stackTraces = false) {D : va_G} {cs : Nat → ClassId} {A : Nat → Prop} {b : Nat} {xs : Nat → Int32} (C : xC p room_1 s m #[Value.ref b] meth c ⟨"SampleHouseLaw", meth.name, ""⟩ code 7 ret D cs A) (hTH : xTH s) (hZ0 : xZ A s s.heap) (hX : va_X b 5 xs s s.heap) (hbl : b < s.heap.size) (hbA : ¬ A b) (hA2 : ∀ q, A q → s.heap.size ≤ q) (hr hg hgr ha hpo hly hse hc pa spr qm sm ca nd kd lk vw gs g1r g2r gan gpr gde gme wk spa aga ona wk2 ab rb ob tb hp0 nd0 kd0 lk0 vw0 : Nat) (v sv v0 sv0 rw rl : Nat → Nat) (sg : Nat → Nat → Int32) (pf : Nat → Option Nat) (ms mkp mtr mas mso mon mot man mst msm mtb mti mfr mbn mbs mde maa mab mba mbb h0 hm out : Nat) (hpf : pf 0 = some hp0) {H : Heap} {locs : List Loc} {ls : Array Slot} (hP : va_P D vwCl [(h0, .inr (11, [.ref hr, .ref hg, .ref hgr, .ref ha, .ref hpo, .ref hly, .ref hse, .ref hc, .ref pa, .ref spr, .ref qm, .int (nI 0), .int (nI 0), .int (nI 0), .int (nI 0), .int (nI 1)])), (hr, .inr (7, [.int (nI 4), .int (nI 2), .int (nI 2), .int (nI 3), .int (nI 2), .int (nI 1), .ref sm, .int (nI 3), .ref ca])), (hg, .inr (4, [.ref nd, .ref kd, .ref lk, .ref vw])), (nd, .inl (cs 0, 8, .inl (fun _ => nI 0))), (kd, .inl (cs 0, 8, .inl (fun _ => nI 0))), (lk, .inl (cs 0, 8, .inl (fun _ => -1))), (vw, .inl (cs 2, 8, .inr (.inr (.inr (.inr (fun i => some (v i))))))), (v 0, .inr (10, [.int ((fun _ => nI 0) 0), .int ((fun _ => nI 0) 0), .ref (sv 0)])), (sv 0, .inl (cs 0, 32, .inl ((fun _ => vF) 0))), (v 1, .inr (10, [.int ((fun _ => nI 0) 1), .int ((fun _ => nI 0) 1), .ref (sv 1)])), (sv 1, .inl (cs 0, 32, .inl ((fun _ => vF) 1))), (v 2, .inr (10, [.int ((fun _ => nI 0) 2), .int ((fun _ => nI 0) 2), .ref (sv 2)])), (sv 2, .inl (cs 0, 32, .inl ((fun _ => vF) 2))), (v 3, .inr (10, [.int ((fun _ => nI 0) 3), .int ((fun _ => nI 0) 3), .ref (sv 3)])), (sv 3, .inl (cs 0, 32, .inl ((fun _ => vF) 3))), (v 4, .inr (10, [.int ((fun _ => nI 0) 4), .int ((fun _ => nI 0) 4), .ref (sv 4)])), (sv 4, .inl (cs 0, 32, .inl ((fun _ => vF) 4))), (v 5, .inr (10, [.int ((fun _ => nI 0) 5), .int ((fun _ => nI 0) 5), .ref (sv 5)])), (sv 5, .inl (cs 0, 32, .inl ((fun _ => vF) 5))), (v 6, .inr (10, [.int ((fun _ => nI 0) 6), .int ((fun _ => nI 0) 6), .ref (sv 6)])), (sv 6, .inl (cs 0, 32, .inl ((fun _ => vF) 6))), (v 7, .inr (10, [.int ((fun _ => nI 0) 7), .int ((fun _ => nI 0) 7), .ref (sv 7)])), (sv 7, .inl (cs 0, 32, .inl ((fun _ => vF) 7))), (ha, .inr (0, [.ref hr, .ref hg, .int (nI 0), .int (nI 0), .int (nI 0)])), (pa, .inl (cs 3, 8, .inr (.inr (.inr (.inr pf))))), (hp0, .inr (4, [.ref nd0, .ref kd0, .ref lk0, .ref vw0])), (nd0, .inl (cs 0, 8, .inl (fun _ => nI 0))), (kd0, .inl (cs 0, 8, .inl (fun _ => nI 0))), (lk0, .inl (cs 0, 8, .inl (fun _ => -1))), (vw0, .inl (cs 2, 8, .inr (.inr (.inr (.inr (fun i => some (v0 i))))))), (v0 0, .inr (10, [.int ((fun _ => nI 0) 0), .int ((fun _ => nI 0) 0), .ref (sv0 0)])), (sv0 0, .inl (cs 0, 32, .inl ((fun _ => vF) 0))), (v0 1, .inr (10, [.int ((fun _ => nI 0) 1), .int ((fun _ => nI 0) 1), .ref (sv0 1)])), (sv0 1, .inl (cs 0, 32, .inl ((fun _ => vF) 1))), (v0 2, .inr (10, [.int ((fun _ => nI 0) 2), .int ((fun _ => nI 0) 2), .ref (sv0 2)])), (sv0 2, .inl (cs 0, 32, .inl ((fun _ => vF) 2))), (v0 3, .inr (10, [.int ((fun _ => nI 0) 3), .int ((fun _ => nI 0) 3), .ref (sv0 3)])), (sv0 3, .inl (cs 0, 32, .inl ((fun _ => vF) 3))), (v0 4, .inr (10, [.int ((fun _ => nI 0) 4), .int ((fun _ => nI 0) 4), .ref (sv0 4)])), (sv0 4, .inl (cs 0, 32, .inl ((fun _ => vF) 4))), (v0 5, .inr (10, [.int ((fun _ => nI 0) 5), .int ((fun _ => nI 0) 5), .ref (sv0 5)])), (sv0 5, .inl (cs 0, 32, .inl ((fun _ => vF) 5))), (v0 6, .inr (10, [.int ((fun _ => nI 0) 6), .int ((fun _ => nI 0) 6), .ref (sv0 6)])), (sv0 6, .inl (cs 0, 32, .inl ((fun _ => vF) 6))), (v0 7, .inr (10, [.int ((fun _ => nI 0) 7), .int ((fun _ => nI 0) 7), .ref (sv0 7)])), (sv0 7, .inl (cs 0, 32, .inl ((fun _ => vF) 7))), (hm, .inr (12, [.ref ms, .ref mkp, .int (nI 0), .ref mtr, .int (nI 4), .int (nI 2), .int (nI 2), .int (nI 3), .int (nI 2), .int (nI 1), .ref mas, .int (nI 0), .int (nI 0), .int (nI 0), .ref mso, .ref mon, .ref mot, .ref man, .int (nI 0), .int (nI 0), .ref mst, .ref msm, .ref mtb, .ref mti, .ref mfr, .ref mbn, .ref mbs, .ref mde, .int (nI 0), .int (nI 0), .int (nI 0), .int (nI 0), .long 0, .long 0, .ref maa, .ref mab, .ref mba, .ref mbb])), (ms, .inl (cs 0, 288, .inl freshS)), (mkp, .inl (cs 0, 2304, .inl (fun _ => 0)))] H) (hD : va_D A [(h0, .inr (11, [.ref hr, .ref hg, .ref hgr, .ref ha, .ref hpo, .ref hly, .ref hse, .ref hc, .ref pa, .ref spr, .ref qm, .int (nI 0), .int (nI 0), .int (nI 0), .int (nI 0), .int (nI 1)])), (hr, .inr (7, [.int (nI 4), .int (nI 2), .int (nI 2), .int (nI 3), .int (nI 2), .int (nI 1), .ref sm, .int (nI 3), .ref ca])), (hg, .inr (4, [.ref nd, .ref kd, .ref lk, .ref vw])), (nd, .inl (cs 0, 8, .inl (fun _ => nI 0))), (kd, .inl (cs 0, 8, .inl (fun _ => nI 0))), (lk, .inl (cs 0, 8, .inl (fun _ => -1))), (vw, .inl (cs 2, 8, .inr (.inr (.inr (.inr (fun i => some (v i))))))), (v 0, .inr (10, [.int ((fun _ => nI 0) 0), .int ((fun _ => nI 0) 0), .ref (sv 0)])), (sv 0, .inl (cs 0, 32, .inl ((fun _ => vF) 0))), (v 1, .inr (10, [.int ((fun _ => nI 0) 1), .int ((fun _ => nI 0) 1), .ref (sv 1)])), (sv 1, .inl (cs 0, 32, .inl ((fun _ => vF) 1))), (v 2, .inr (10, [.int ((fun _ => nI 0) 2), .int ((fun _ => nI 0) 2), .ref (sv 2)])), (sv 2, .inl (cs 0, 32, .inl ((fun _ => vF) 2))), (v 3, .inr (10, [.int ((fun _ => nI 0) 3), .int ((fun _ => nI 0) 3), .ref (sv 3)])), (sv 3, .inl (cs 0, 32, .inl ((fun _ => vF) 3))), (v 4, .inr (10, [.int ((fun _ => nI 0) 4), .int ((fun _ => nI 0) 4), .ref (sv 4)])), (sv 4, .inl (cs 0, 32, .inl ((fun _ => vF) 4))), (v 5, .inr (10, [.int ((fun _ => nI 0) 5), .int ((fun _ => nI 0) 5), .ref (sv 5)])), (sv 5, .inl (cs 0, 32, .inl ((fun _ => vF) 5))), (v 6, .inr (10, [.int ((fun _ => nI 0) 6), .int ((fun _ => nI 0) 6), .ref (sv 6)])), (sv 6, .inl (cs 0, 32, .inl ((fun _ => vF) 6))), (v 7, .inr (10, [.int ((fun _ => nI 0) 7), .int ((fun _ => nI 0) 7), .ref (sv 7)])), (sv 7, .inl (cs 0, 32, .inl ((fun _ => vF) 7))), (ha, .inr (0, [.ref hr, .ref hg, .int (nI 0), .int (nI 0), .int (nI 0)])), (pa, .inl (cs 3, 8, .inr (.inr (.inr (.inr pf))))), (hp0, .inr (4, [.ref nd0, .ref kd0, .ref lk0, .ref vw0])), (nd0, .inl (cs 0, 8, .inl (fun _ => nI 0))), (kd0, .inl (cs 0, 8, .inl (fun _ => nI 0))), (lk0, .inl (cs 0, 8, .inl (fun _ => -1))), (vw0, .inl (cs 2, 8, .inr (.inr (.inr (.inr (fun i => some (v0 i))))))), (v0 0, .inr (10, [.int ((fun _ => nI 0) 0), .int ((fun _ => nI 0) 0), .ref (sv0 0)])), (sv0 0, .inl (cs 0, 32, .inl ((fun _ => vF) 0))), (v0 1, .inr (10, [.int ((fun _ => nI 0) 1), .int ((fun _ => nI 0) 1), .ref (sv0 1)])), (sv0 1, .inl (cs 0, 32, .inl ((fun _ => vF) 1))), (v0 2, .inr (10, [.int ((fun _ => nI 0) 2), .int ((fun _ => nI 0) 2), .ref (sv0 2)])), (sv0 2, .inl (cs 0, 32, .inl ((fun _ => vF) 2))), (v0 3, .inr (10, [.int ((fun _ => nI 0) 3), .int ((fun _ => nI 0) 3), .ref (sv0 3)])), (sv0 3, .inl (cs 0, 32, .inl ((fun _ => vF) 3))), (v0 4, .inr (10, [.int ((fun _ => nI 0) 4), .int ((fun _ => nI 0) 4), .ref (sv0 4)])), (sv0 4, .inl (cs 0, 32, .inl ((fun _ => vF) 4))), (v0 5, .inr (10, [.int ((fun _ => nI 0) 5), .int ((fun _ => nI 0) 5), .ref (sv0 5)])), (sv0 5, .inl (cs 0, 32, .inl ((fun _ => vF) 5))), (v0 6, .inr (10, [.int ((fun _ => nI 0) 6), .int ((fun _ => nI 0) 6), .ref (sv0 6)])), (sv0 6, .inl (cs 0, 32, .inl ((fun _ => vF) 6))), (v0 7, .inr (10, [.int ((fun _ => nI 0) 7), .int ((fun _ => nI 0) 7), .ref (sv0 7)])), (sv0 7, .inl (cs 0, 32, .inl ((fun _ => vF) 7))), (hm, .inr (12, [.ref ms, .ref mkp, .int (nI 0), .ref mtr, .int (nI 4), .int (nI 2), .int (nI 2), .int (nI 3), .int (nI 2), .int (nI 1), .ref mas, .int (nI 0), .int (nI 0), .int (nI 0), .ref mso, .ref mon, .ref mot, .ref man, .int (nI 0), .int (nI 0), .ref mst, .ref msm, .ref mtb, .ref mti, .ref mfr, .ref mbn, .ref mbs, .ref mde, .int (nI 0), .int (nI 0), .int (nI 0), .int (nI 0), .long 0, .long 0, .ref maa, .ref mab, .ref mba, .ref mbb])), (ms, .inl (cs 0, 288, .inl freshS)), (mkp, .inl (cs 0, 2304, .inl (fun _ => 0)))]) (hS : va_S A s.heap H locs) (hl : lv_has ls 7 [(4, .int (nI 0)), (3, .ref out), (2, .ref hm), (1, .ref h0), (0, .ref b)]) : W p l e room_1 s m #[Value.ref b] below meth c H locs 261 14585 (lw_Z below #[Value.ref b] s) (F0 m 480 ls []) := by
  have hx := C.1
  have hb := C.2.1
  have hz := C.2.2.2.2.1
  have hown := C.2.2.2.1
  have hA := C.2.2.2.2.2.2.2.2.2
  have hAO := C.2.2.2.2.2.2.2.2.1.2.2
  refine lv_aload_n hx hb dL_law_480 rfl (lv_at hl 3 rfl) ?_
  refine lv_aload_n hx hb dL_law_481 rfl (lv_at hl 4 rfl) ?_
  refine lv_iload hx hb dL_law_482 (lv_at hl 0 rfl) ?_
  refine lv_iconst (v := nI 1) hx hb dL_law_484 (by decide) ?_
  refine lv_iadd hx hb dL_law_485 ?_
  refine lv_topi (nm_r (e' := nI 1) (by decide) ?_)
  refine va_sld hx hb hX hbl hbA hS (pk_in 1 5 (by decide)) dL_law_486 ?_
  refine lv_topi (nm_r (e' := xs 1) (by rw [nI_clamp (by decide)]) ?_)
  refine lv_aload_n hx hb dL_law_487 rfl (lv_at hl 4 rfl) ?_
  refine lv_iload hx hb dL_law_488 (lv_at hl 0 rfl) ?_
  refine lv_iconst (v := nI 2) hx hb dL_law_490 (by decide) ?_
  refine lv_iadd hx hb dL_law_491 ?_
  refine lv_topi (nm_r (e' := nI 2) (by decide) ?_)
  refine va_sld hx hb hX hbl hbA hS (pk_in 2 5 (by decide)) dL_law_492 ?_
  refine lv_topi (nm_r (e' := xs 2) (by rw [nI_clamp (by decide)]) ?_)
  refine xi (wr := [(hm, .inr (12, [.ref ms, .ref mkp, .int (nI 0), .ref mtr, .int (nI 4), .int (nI 2), .int (nI 2), .int (nI 3), .int (nI 2), .int (nI 1), .ref mas, .int (nI 0), .int (nI 0), .int (nI 0), .ref mso, .ref mon, .ref mot, .ref man, .int (nI 0), .int (nI 0), .ref mst, .ref msm, .ref mtb, .ref mti, .ref mfr, .ref mbn, .ref mbs, .ref mde, .int (nI 0), .int (nI 0), .int (nI 0), .int (nI 0), .long 0, .long 0, .ref maa, .ref mab, .ref mba, .ref mbb])), (ms, .inl (cs 0, 288, .inl freshS)), (mkp, .inl (cs 0, 2304, .inl (fun _ => 0)))]) (xV (As := [.int (xs 1), .int (xs 2)]) (rest := []) C (c_X11_run_z l D cs h0 hr hg hgr ha hpo hly hse hc pa spr qm (nI 0) (nI 1) nd kd lk vw v sv hp0 nd0 kd0 lk0 vw0 v0 sv0 pf sm ca (nI 0) (nI 0) (nI 0) (xs 1) (xs 2) hpf) kL_59 hP hD [0, 1, 23, 24, 2, 3, 4, 5, 6, 7, 8, 9, 10, 11, 12, 13, 14, 15, 16, 17, 18, 19, 20, 21, 22, 25, 26, 27, 28, 29, 30, 31, 32, 33, 34, 35, 36, 37, 38, 39, 40, 41, 42, 43, 44, 45] rfl (by decide +kernel) 0 rfl rfl rfl ⟨Nat.le_of_ble_eq_true rfl, Nat.le_of_ble_eq_true rfl⟩ rfl hl.1 rfl (Nat.le_of_ble_eq_true rfl) dL_law_493 ⟨Nat.le_of_ble_eq_true rfl, Nat.le_of_ble_eq_true rfl⟩) hP hD hS hA [0, 1, 23, 24, 2, 3, 4, 5, 6, 7, 8, 9, 10, 11, 12, 13, 14, 15, 16, 17, 18, 19, 20, 21, 22, 25, 26, 27, 28, 29, 30, 31, 32, 33, 34, 35, 36, 37, 38, 39, 40, 41, 42, 43, 44, 45] [46, 47, 48] rfl rfl (by decide +kernel) (by decide +kernel) ?_
  clear hP hD hS
  try clear locs
  try clear H
  intro r_1 u_2 H locs hw_r_1 hP hD hS
  have hw_r_1 : PQ (¬ (xs 1) < nI 1 ∧ (xs 1) ≤ nI 300) r_1 (nI 0) (-1) := hw_r_1
  refine W.widen (k := 261) (n := 14585) (Nat.le_of_ble_eq_true rfl) (Nat.le_of_ble_eq_true rfl) ?_
  replace hP : va_P D vwCl [(hm, .inr (12, [.ref ms, .ref mkp, .int (nI 0), .ref mtr, .int (nI 4), .int (nI 2), .int (nI 2), .int (nI 3), .int (nI 2), .int (nI 1), .ref mas, .int (nI 0), .int (nI 0), .int (nI 0), .ref mso, .ref mon, .ref mot, .ref man, .int (nI 0), .int (nI 0), .ref mst, .ref msm, .ref mtb, .ref mti, .ref mfr, .ref mbn, .ref mbs, .ref mde, .int (nI 0), .int (nI 0), .int (nI 0), .int (nI 0), .long 0, .long 0, .ref maa, .ref mab, .ref mba, .ref mbb])), (ms, .inl (cs 0, 288, .inl freshS)), (mkp, .inl (cs 0, 2304, .inl (fun _ => 0)))] H := hP
  replace hD : va_D A [(hm, .inr (12, [.ref ms, .ref mkp, .int (nI 0), .ref mtr, .int (nI 4), .int (nI 2), .int (nI 2), .int (nI 3), .int (nI 2), .int (nI 1), .ref mas, .int (nI 0), .int (nI 0), .int (nI 0), .ref mso, .ref mon, .ref mot, .ref man, .int (nI 0), .int (nI 0), .ref mst, .ref msm, .ref mtb, .ref mti, .ref mfr, .ref mbn, .ref mbs, .ref mde, .int (nI 0), .int (nI 0), .int (nI 0), .int (nI 0), .long 0, .long 0, .ref maa, .ref mab, .ref mba, .ref mbb])), (ms, .inl (cs 0, 288, .inl freshS)), (mkp, .inl (cs 0, 2304, .inl (fun _ => 0)))] := hD
  refine lv_aload_n hx hb dL_law_496 rfl (lv_at hl 2 rfl) ?_
  refine lv_aload_n hx hb dL_law_497 rfl (lv_at hl 4 rfl) ?_
  refine lv_iload hx hb dL_law_498 (lv_at hl 0 rfl) ?_
  refine lv_iconst (v := nI 1) hx hb dL_law_500 (by decide) ?_
  refine lv_iadd hx hb dL_law_501 ?_
  refine lv_topi (nm_r (e' := nI 1) (by decide) ?_)
  refine va_sld hx hb hX hbl hbA hS (pk_in 1 5 (by decide)) dL_law_502 ?_
  refine lv_topi (nm_r (e' := xs 1) (by rw [nI_clamp (by decide)]) ?_)
  refine lv_aload_n hx hb dL_law_503 rfl (lv_at hl 4 rfl) ?_
  refine lv_iload hx hb dL_law_504 (lv_at hl 0 rfl) ?_
  refine lv_iconst (v := nI 2) hx hb dL_law_506 (by decide) ?_
  refine lv_iadd hx hb dL_law_507 ?_
  refine lv_topi (nm_r (e' := nI 2) (by decide) ?_)
  refine va_sld hx hb hX hbl hbA hS (pk_in 2 5 (by decide)) dL_law_508 ?_
  refine lv_topi (nm_r (e' := xs 2) (by rw [nI_clamp (by decide)]) ?_)
  refine xi (wr := []) (xV (As := [.int (xs 1), .int (xs 2)]) (rest := [.int r_1]) C (c_X12_run_z l D cs hm ms mkp mtr mas mso mon mot man mst msm mtb mti mfr mbn mbs mde maa mab mba mbb (fun _ => 0) (xs 1) (xs 2)) kL_62 hP hD [0, 1, 2] rfl (by decide +kernel) 0 rfl rfl rfl ⟨Nat.le_of_ble_eq_true rfl, Nat.le_of_ble_eq_true rfl⟩ rfl hl.1 rfl (Nat.le_of_ble_eq_true rfl) dL_law_509 ⟨Nat.le_of_ble_eq_true rfl, Nat.le_of_ble_eq_true rfl⟩) hP hD hS hA [0, 1, 2] [] rfl rfl (by decide +kernel) (by decide +kernel) ?_
  clear hP hD hS
  try clear locs
  try clear H
  intro r_3 u_4 H locs hw_r_3 hP hD hS
  have hw_r_3 : PQ (¬ (xs 1) < nI 1 ∧ (xs 1) ≤ nI 300) r_3 (nI 0) (-1) := hw_r_3
  refine W.widen (k := 261) (n := 14585) (Nat.le_of_ble_eq_true rfl) (Nat.le_of_ble_eq_true rfl) ?_
  replace hP : va_P D vwCl [] H := hP
  replace hD : va_D A [] := hD
  refine lv_icmp_eq (tgt := 1199) hx hb dL_law_512 (by decide) (fun _ => ?_) (fun c => absurd (PQ.eq hw_r_1 hw_r_3) c)
  refine lv_iinc (v := nI 5) (lv' := [(4, .int (nI 5)), (3, .ref out), (2, .ref hm), (1, .ref h0), (0, .ref b)]) hx hb dL_law_1199 hl (k := 0) rfl (by decide) (by decide) rfl ?_
  clear hl
  try clear ls
  intro ls hl
  refine lv_goto (tgt := 23) hx hb dL_law_1202 (by decide) ?_
  refine lv_iload hx hb dL_law_23 (lv_at hl 0 rfl) ?_
  refine lv_aload_n hx hb dL_law_25 rfl (lv_at hl 4 rfl) ?_
  refine va_slen hx hb hX hbl hbA hS dL_law_26 ?_
  refine lv_topi (nm_r (e' := nI 5) rfl ?_)
  refine lv_iconst (v := nI 5) hx hb dL_law_27 (by decide) ?_
  refine lv_isub hx hb dL_law_28 ?_
  refine lv_topi (nm_r (e' := nI 0) (by decide) ?_)
  refine lv_icmp_gt (tgt := 1205) hx hb dL_law_29 (by decide) (fun _ => ?_) (fun c => absurd (by decide) c)
  refine lv_iconst (v := nI 1) hx hb dL_law_1205 (by decide) ?_
  refine lv_topi (nm_r (e' := 1) rfl ?_)
  exact va_forget (fun q hq => hA2 _ (hS.2.2 q hq)) (W.widen (Nat.le_of_ble_eq_true rfl) (Nat.le_of_ble_eq_true rfl) (W.base (lw_ret (Drawn.sameBut.refl s.drawn lw_cs) hx hb C.2.2.2.2.2.1 C.2.2.2.2.2.2.1 dL_law_1206)))

set_option maxHeartbeats 4000000 in
set_option maxRecDepth 100000 in
theorem law_case_9 {p : Program} {e : Env} {s : State} {m : MethodId} {below : List Frame} {meth : Method} {c : Code} (l : Launch) (hfl : l.stackTraces = false) {D : va_G} {cs : Nat → ClassId} {A : Nat → Prop} {b : Nat} {xs : Nat → Int32} (C : xC p room_1 s m #[Value.ref b] meth c ⟨"SampleHouseLaw", meth.name, ""⟩ code 7 ret D cs A) (hTH : xTH s) (hZ0 : xZ A s s.heap) (hX : va_X b 5 xs s s.heap) (hbl : b < s.heap.size) (hbA : ¬ A b) (hA2 : ∀ q, A q → s.heap.size ≤ q) (hr hg hgr ha hpo hly hse hc pa spr qm sm ca nd kd lk vw gs g1r g2r gan gpr gde gme wk spa aga ona wk2 ab rb ob tb hp0 nd0 kd0 lk0 vw0 : Nat) (v sv v0 sv0 rw rl : Nat → Nat) (sg : Nat → Nat → Int32) (pf : Nat → Option Nat) (ms mkp mtr mas mso mon mot man mst msm mtb mti mfr mbn mbs mde maa mab mba mbb h0 hm out : Nat) (hpf : pf 0 = some hp0) {H : Heap} {locs : List Loc} {ls : Array Slot} (hP : va_P D vwCl [(h0, .inr (11, [.ref hr, .ref hg, .ref hgr, .ref ha, .ref hpo, .ref hly, .ref hse, .ref hc, .ref pa, .ref spr, .ref qm, .int (nI 0), .int (nI 0), .int (nI 0), .int (nI 0), .int (nI 1)])), (hr, .inr (7, [.int (nI 4), .int (nI 2), .int (nI 2), .int (nI 3), .int (nI 2), .int (nI 1), .ref sm, .int (nI 3), .ref ca])), (hg, .inr (4, [.ref nd, .ref kd, .ref lk, .ref vw])), (nd, .inl (cs 0, 8, .inl (fun _ => nI 0))), (kd, .inl (cs 0, 8, .inl (fun _ => nI 0))), (qm, .inl (cs 0, 8, .inl (fun _ => nI 0))), (hm, .inr (12, [.ref ms, .ref mkp, .int (nI 0), .ref mtr, .int (nI 4), .int (nI 2), .int (nI 2), .int (nI 3), .int (nI 2), .int (nI 1), .ref mas, .int (nI 0), .int (nI 0), .int (nI 0), .ref mso, .ref mon, .ref mot, .ref man, .int (nI 0), .int (nI 0), .ref mst, .ref msm, .ref mtb, .ref mti, .ref mfr, .ref mbn, .ref mbs, .ref mde, .int (nI 0), .int (nI 0), .int (nI 0), .int (nI 0), .long 0, .long 0, .ref maa, .ref mab, .ref mba, .ref mbb])), (ms, .inl (cs 0, 288, .inl freshS)), (mas, .inl (cs 0, 8, .inl (fun _ => nI 0)))] H) (hD : va_D A [(h0, .inr (11, [.ref hr, .ref hg, .ref hgr, .ref ha, .ref hpo, .ref hly, .ref hse, .ref hc, .ref pa, .ref spr, .ref qm, .int (nI 0), .int (nI 0), .int (nI 0), .int (nI 0), .int (nI 1)])), (hr, .inr (7, [.int (nI 4), .int (nI 2), .int (nI 2), .int (nI 3), .int (nI 2), .int (nI 1), .ref sm, .int (nI 3), .ref ca])), (hg, .inr (4, [.ref nd, .ref kd, .ref lk, .ref vw])), (nd, .inl (cs 0, 8, .inl (fun _ => nI 0))), (kd, .inl (cs 0, 8, .inl (fun _ => nI 0))), (qm, .inl (cs 0, 8, .inl (fun _ => nI 0))), (hm, .inr (12, [.ref ms, .ref mkp, .int (nI 0), .ref mtr, .int (nI 4), .int (nI 2), .int (nI 2), .int (nI 3), .int (nI 2), .int (nI 1), .ref mas, .int (nI 0), .int (nI 0), .int (nI 0), .ref mso, .ref mon, .ref mot, .ref man, .int (nI 0), .int (nI 0), .ref mst, .ref msm, .ref mtb, .ref mti, .ref mfr, .ref mbn, .ref mbs, .ref mde, .int (nI 0), .int (nI 0), .int (nI 0), .int (nI 0), .long 0, .long 0, .ref maa, .ref mab, .ref mba, .ref mbb])), (ms, .inl (cs 0, 288, .inl freshS)), (mas, .inl (cs 0, 8, .inl (fun _ => nI 0)))]) (hS : va_S A s.heap H locs) (hl : lv_has ls 7 [(4, .int (nI 0)), (3, .ref out), (2, .ref hm), (1, .ref h0), (0, .ref b)]) : W p l e room_1 s m #[Value.ref b] below meth c H locs 261 14585 (lw_Z below #[Value.ref b] s) (F0 m 517 ls []) := by
  have hx := C.1
  have hb := C.2.1
  have hz := C.2.2.2.2.1
  have hown := C.2.2.2.1
  have hA := C.2.2.2.2.2.2.2.2.2
  have hAO := C.2.2.2.2.2.2.2.2.1.2.2
  refine lv_aload_n hx hb dL_law_517 rfl (lv_at hl 3 rfl) ?_
  refine lv_aload_n hx hb dL_law_518 rfl (lv_at hl 4 rfl) ?_
  refine lv_iload hx hb dL_law_519 (lv_at hl 0 rfl) ?_
  refine lv_iconst (v := nI 1) hx hb dL_law_521 (by decide) ?_
  refine lv_iadd hx hb dL_law_522 ?_
  refine lv_topi (nm_r (e' := nI 1) (by decide) ?_)
  refine va_sld hx hb hX hbl hbA hS (pk_in 1 5 (by decide)) dL_law_523 ?_
  refine lv_topi (nm_r (e' := xs 1) (by rw [nI_clamp (by decide)]) ?_)
  refine lv_aload_n hx hb dL_law_524 rfl (lv_at hl 4 rfl) ?_
  refine lv_iload hx hb dL_law_525 (lv_at hl 0 rfl) ?_
  refine lv_iconst (v := nI 2) hx hb dL_law_527 (by decide) ?_
  refine lv_iadd hx hb dL_law_528 ?_
  refine lv_topi (nm_r (e' := nI 2) (by decide) ?_)
  refine va_sld hx hb hX hbl hbA hS (pk_in 2 5 (by decide)) dL_law_529 ?_
  refine lv_topi (nm_r (e' := xs 2) (by rw [nI_clamp (by decide)]) ?_)
  refine xi (wr := [(hm, .inr (12, [.ref ms, .ref mkp, .int (nI 0), .ref mtr, .int (nI 4), .int (nI 2), .int (nI 2), .int (nI 3), .int (nI 2), .int (nI 1), .ref mas, .int (nI 0), .int (nI 0), .int (nI 0), .ref mso, .ref mon, .ref mot, .ref man, .int (nI 0), .int (nI 0), .ref mst, .ref msm, .ref mtb, .ref mti, .ref mfr, .ref mbn, .ref mbs, .ref mde, .int (nI 0), .int (nI 0), .int (nI 0), .int (nI 0), .long 0, .long 0, .ref maa, .ref mab, .ref mba, .ref mbb])), (ms, .inl (cs 0, 288, .inl freshS)), (mas, .inl (cs 0, 8, .inl (fun _ => nI 0)))]) (xV (As := [.int (xs 1), .int (xs 2)]) (rest := []) C (c_X11_node_z l D cs h0 hr hg hgr ha hpo hly hse hc pa spr qm (nI 0) (nI 1) sm ca nd kd lk vw (xs 1) (xs 2)) kL_63 hP hD [0, 1, 2, 3, 4, 5] rfl (by decide +kernel) 0 rfl rfl rfl ⟨Nat.le_of_ble_eq_true rfl, Nat.le_of_ble_eq_true rfl⟩ rfl hl.1 rfl (Nat.le_of_ble_eq_true rfl) dL_law_530 ⟨Nat.le_of_ble_eq_true rfl, Nat.le_of_ble_eq_true rfl⟩) hP hD hS hA [0, 1, 2, 3, 4, 5] [6, 7, 8] rfl rfl (by decide +kernel) (by decide +kernel) ?_
  clear hP hD hS
  try clear locs
  try clear H
  intro r_1 u_2 H locs hw_r_1 hP hD hS
  have hw_r_1 : ndP (xs 1) (xs 2) r_1 := hw_r_1
  refine W.widen (k := 261) (n := 14585) (Nat.le_of_ble_eq_true rfl) (Nat.le_of_ble_eq_true rfl) ?_
  replace hP : va_P D vwCl [(hm, .inr (12, [.ref ms, .ref mkp, .int (nI 0), .ref mtr, .int (nI 4), .int (nI 2), .int (nI 2), .int (nI 3), .int (nI 2), .int (nI 1), .ref mas, .int (nI 0), .int (nI 0), .int (nI 0), .ref mso, .ref mon, .ref mot, .ref man, .int (nI 0), .int (nI 0), .ref mst, .ref msm, .ref mtb, .ref mti, .ref mfr, .ref mbn, .ref mbs, .ref mde, .int (nI 0), .int (nI 0), .int (nI 0), .int (nI 0), .long 0, .long 0, .ref maa, .ref mab, .ref mba, .ref mbb])), (ms, .inl (cs 0, 288, .inl freshS)), (mas, .inl (cs 0, 8, .inl (fun _ => nI 0)))] H := hP
  replace hD : va_D A [(hm, .inr (12, [.ref ms, .ref mkp, .int (nI 0), .ref mtr, .int (nI 4), .int (nI 2), .int (nI 2), .int (nI 3), .int (nI 2), .int (nI 1), .ref mas, .int (nI 0), .int (nI 0), .int (nI 0), .ref mso, .ref mon, .ref mot, .ref man, .int (nI 0), .int (nI 0), .ref mst, .ref msm, .ref mtb, .ref mti, .ref mfr, .ref mbn, .ref mbs, .ref mde, .int (nI 0), .int (nI 0), .int (nI 0), .int (nI 0), .long 0, .long 0, .ref maa, .ref mab, .ref mba, .ref mbb])), (ms, .inl (cs 0, 288, .inl freshS)), (mas, .inl (cs 0, 8, .inl (fun _ => nI 0)))] := hD
  refine lv_aload_n hx hb dL_law_533 rfl (lv_at hl 2 rfl) ?_
  refine lv_aload_n hx hb dL_law_534 rfl (lv_at hl 4 rfl) ?_
  refine lv_iload hx hb dL_law_535 (lv_at hl 0 rfl) ?_
  refine lv_iconst (v := nI 1) hx hb dL_law_537 (by decide) ?_
  refine lv_iadd hx hb dL_law_538 ?_
  refine lv_topi (nm_r (e' := nI 1) (by decide) ?_)
  refine va_sld hx hb hX hbl hbA hS (pk_in 1 5 (by decide)) dL_law_539 ?_
  refine lv_topi (nm_r (e' := xs 1) (by rw [nI_clamp (by decide)]) ?_)
  refine lv_aload_n hx hb dL_law_540 rfl (lv_at hl 4 rfl) ?_
  refine lv_iload hx hb dL_law_541 (lv_at hl 0 rfl) ?_
  refine lv_iconst (v := nI 2) hx hb dL_law_543 (by decide) ?_
  refine lv_iadd hx hb dL_law_544 ?_
  refine lv_topi (nm_r (e' := nI 2) (by decide) ?_)
  refine va_sld hx hb hX hbl hbA hS (pk_in 2 5 (by decide)) dL_law_545 ?_
  refine lv_topi (nm_r (e' := xs 2) (by rw [nI_clamp (by decide)]) ?_)
  refine xi (wr := []) (xV (As := [.int (xs 1), .int (xs 2)]) (rest := [.int r_1]) C (c_X12_node_z l D cs hm ms mkp mtr mas mso mon mot man mst msm mtb mti mfr mbn mbs mde maa mab mba mbb (xs 1) (xs 2)) kL_66 hP hD [0, 1, 2] rfl (by decide +kernel) 0 rfl rfl rfl ⟨Nat.le_of_ble_eq_true rfl, Nat.le_of_ble_eq_true rfl⟩ rfl hl.1 rfl (Nat.le_of_ble_eq_true rfl) dL_law_546 ⟨Nat.le_of_ble_eq_true rfl, Nat.le_of_ble_eq_true rfl⟩) hP hD hS hA [0, 1, 2] [] rfl rfl (by decide +kernel) (by decide +kernel) ?_
  clear hP hD hS
  try clear locs
  try clear H
  intro r_3 u_4 H locs hw_r_3 hP hD hS
  have hw_r_3 : ndP (xs 1) (xs 2) r_3 := hw_r_3
  refine W.widen (k := 261) (n := 14585) (Nat.le_of_ble_eq_true rfl) (Nat.le_of_ble_eq_true rfl) ?_
  replace hP : va_P D vwCl [] H := hP
  replace hD : va_D A [] := hD
  refine lv_icmp_eq (tgt := 1199) hx hb dL_law_549 (by decide) (fun _ => ?_) (fun c => absurd (ndP.eq hw_r_1 hw_r_3) c)
  refine lv_iinc (v := nI 5) (lv' := [(4, .int (nI 5)), (3, .ref out), (2, .ref hm), (1, .ref h0), (0, .ref b)]) hx hb dL_law_1199 hl (k := 0) rfl (by decide) (by decide) rfl ?_
  clear hl
  try clear ls
  intro ls hl
  refine lv_goto (tgt := 23) hx hb dL_law_1202 (by decide) ?_
  refine lv_iload hx hb dL_law_23 (lv_at hl 0 rfl) ?_
  refine lv_aload_n hx hb dL_law_25 rfl (lv_at hl 4 rfl) ?_
  refine va_slen hx hb hX hbl hbA hS dL_law_26 ?_
  refine lv_topi (nm_r (e' := nI 5) rfl ?_)
  refine lv_iconst (v := nI 5) hx hb dL_law_27 (by decide) ?_
  refine lv_isub hx hb dL_law_28 ?_
  refine lv_topi (nm_r (e' := nI 0) (by decide) ?_)
  refine lv_icmp_gt (tgt := 1205) hx hb dL_law_29 (by decide) (fun _ => ?_) (fun c => absurd (by decide) c)
  refine lv_iconst (v := nI 1) hx hb dL_law_1205 (by decide) ?_
  refine lv_topi (nm_r (e' := 1) rfl ?_)
  exact va_forget (fun q hq => hA2 _ (hS.2.2 q hq)) (W.widen (Nat.le_of_ble_eq_true rfl) (Nat.le_of_ble_eq_true rfl) (W.base (lw_ret (Drawn.sameBut.refl s.drawn lw_cs) hx hb C.2.2.2.2.2.1 C.2.2.2.2.2.2.1 dL_law_1206)))

set_option maxHeartbeats 4000000 in
set_option maxRecDepth 100000 in
theorem law_case_10 {p : Program} {e : Env} {s : State} {m : MethodId} {below : List Frame} {meth : Method} {c : Code} (l : Launch) (hfl : l.stackTraces = false) {D : va_G} {cs : Nat → ClassId} {A : Nat → Prop} {b : Nat} {xs : Nat → Int32} (C : xC p room_1 s m #[Value.ref b] meth c ⟨"SampleHouseLaw", meth.name, ""⟩ code 7 ret D cs A) (hTH : xTH s) (hZ0 : xZ A s s.heap) (hX : va_X b 5 xs s s.heap) (hbl : b < s.heap.size) (hbA : ¬ A b) (hA2 : ∀ q, A q → s.heap.size ≤ q) (hr hg hgr ha hpo hly hse hc pa spr qm sm ca nd kd lk vw gs g1r g2r gan gpr gde gme wk spa aga ona wk2 ab rb ob tb hp0 nd0 kd0 lk0 vw0 : Nat) (v sv v0 sv0 rw rl : Nat → Nat) (sg : Nat → Nat → Int32) (pf : Nat → Option Nat) (ms mkp mtr mas mso mon mot man mst msm mtb mti mfr mbn mbs mde maa mab mba mbb h0 hm out : Nat) (hpf : pf 0 = some hp0) {H : Heap} {locs : List Loc} {ls : Array Slot} (hP : va_P D vwCl [(h0, .inr (11, [.ref hr, .ref hg, .ref hgr, .ref ha, .ref hpo, .ref hly, .ref hse, .ref hc, .ref pa, .ref spr, .ref qm, .int (nI 0), .int (nI 0), .int (nI 0), .int (nI 0), .int (nI 1)])), (hr, .inr (7, [.int (nI 4), .int (nI 2), .int (nI 2), .int (nI 3), .int (nI 2), .int (nI 1), .ref sm, .int (nI 3), .ref ca])), (hg, .inr (4, [.ref nd, .ref kd, .ref lk, .ref vw])), (nd, .inl (cs 0, 8, .inl (fun _ => nI 0))), (kd, .inl (cs 0, 8, .inl (fun _ => nI 0))), (ha, .inr (0, [.ref hr, .ref hg, .int (nI 0), .int (nI 0), .int (nI 0)])), (hly, .inr (5, [.ref hr, .ref ha, .ref wk, .null, .null, .null, .null, .int (nI 0), .int (nI 0), .int (nI 0), .ref spa, .ref aga, .ref ona])), (wk, .inl (cs 0, 8, .inl (fun _ => 0))), (spa, .inl (cs 1, 13, .inr (.inl (fun _ => 0)))), (aga, .inl (cs 1, 13, .inr (.inl (fun _ => 0)))), (ona, .inl (cs 6, 13, .inr (.inr (.inr (.inr (fun i => if i < 13 then some (rl i) else none)))))), (rl 0, .inl (cs 1, 9, .inr (.inl ((fun _ _ => 0) 0)))), (rl 1, .inl (cs 1, 9, .inr (.inl ((fun _ _ => 0) 1)))), (rl 2, .inl (cs 1, 9, .inr (.inl ((fun _ _ => 0) 2)))), (rl 3, .inl (cs 1, 9, .inr (.inl ((fun _ _ => 0) 3)))), (rl 4, .inl (cs 1, 9, .inr (.inl ((fun _ _ => 0) 4)))), (rl 5, .inl (cs 1, 9, .inr (.inl ((fun _ _ => 0) 5)))), (rl 6, .inl (cs 1, 9, .inr (.inl ((fun _ _ => 0) 6)))), (rl 7, .inl (cs 1, 9, .inr (.inl ((fun _ _ => 0) 7)))), (rl 8, .inl (cs 1, 9, .inr (.inl ((fun _ _ => 0) 8)))), (rl 9, .inl (cs 1, 9, .inr (.inl ((fun _ _ => 0) 9)))), (rl 10, .inl (cs 1, 9, .inr (.inl ((fun _ _ => 0) 10)))), (rl 11, .inl (cs 1, 9, .inr (.inl ((fun _ _ => 0) 11)))), (rl 12, .inl (cs 1, 9, .inr (.inl ((fun _ _ => 0) 12)))), (hm, .inr (12, [.ref ms, .ref mkp, .int (nI 0), .ref mtr, .int (nI 4), .int (nI 2), .int (nI 2), .int (nI 3), .int (nI 2), .int (nI 1), .ref mas, .int (nI 0), .int (nI 0), .int (nI 0), .ref mso, .ref mon, .ref mot, .ref man, .int (nI 0), .int (nI 0), .ref mst, .ref msm, .ref mtb, .ref mti, .ref mfr, .ref mbn, .ref mbs, .ref mde, .int (nI 0), .int (nI 0), .int (nI 0), .int (nI 0), .long 0, .long 0, .ref maa, .ref mab, .ref mba, .ref mbb])), (ms, .inl (cs 0, 288, .inl freshS)), (mtr, .inl (cs 0, 288, .inl (fun _ => 0))), (mst, .inl (cs 5, 2, .inr (.inr (.inr (.inr (fun _ => none)))))), (msm, .inl (cs 0, 2, .inl (fun _ => 0))), (mtb, .inl (cs 5, 2, .inr (.inr (.inr (.inr (fun _ => none)))))), (mti, .inl (cs 6, 2, .inr (.inr (.inr (.inr (fun _ => none))))))] H) (hD : va_D A [(h0, .inr (11, [.ref hr, .ref hg, .ref hgr, .ref ha, .ref hpo, .ref hly, .ref hse, .ref hc, .ref pa, .ref spr, .ref qm, .int (nI 0), .int (nI 0), .int (nI 0), .int (nI 0), .int (nI 1)])), (hr, .inr (7, [.int (nI 4), .int (nI 2), .int (nI 2), .int (nI 3), .int (nI 2), .int (nI 1), .ref sm, .int (nI 3), .ref ca])), (hg, .inr (4, [.ref nd, .ref kd, .ref lk, .ref vw])), (nd, .inl (cs 0, 8, .inl (fun _ => nI 0))), (kd, .inl (cs 0, 8, .inl (fun _ => nI 0))), (ha, .inr (0, [.ref hr, .ref hg, .int (nI 0), .int (nI 0), .int (nI 0)])), (hly, .inr (5, [.ref hr, .ref ha, .ref wk, .null, .null, .null, .null, .int (nI 0), .int (nI 0), .int (nI 0), .ref spa, .ref aga, .ref ona])), (wk, .inl (cs 0, 8, .inl (fun _ => 0))), (spa, .inl (cs 1, 13, .inr (.inl (fun _ => 0)))), (aga, .inl (cs 1, 13, .inr (.inl (fun _ => 0)))), (ona, .inl (cs 6, 13, .inr (.inr (.inr (.inr (fun i => if i < 13 then some (rl i) else none)))))), (rl 0, .inl (cs 1, 9, .inr (.inl ((fun _ _ => 0) 0)))), (rl 1, .inl (cs 1, 9, .inr (.inl ((fun _ _ => 0) 1)))), (rl 2, .inl (cs 1, 9, .inr (.inl ((fun _ _ => 0) 2)))), (rl 3, .inl (cs 1, 9, .inr (.inl ((fun _ _ => 0) 3)))), (rl 4, .inl (cs 1, 9, .inr (.inl ((fun _ _ => 0) 4)))), (rl 5, .inl (cs 1, 9, .inr (.inl ((fun _ _ => 0) 5)))), (rl 6, .inl (cs 1, 9, .inr (.inl ((fun _ _ => 0) 6)))), (rl 7, .inl (cs 1, 9, .inr (.inl ((fun _ _ => 0) 7)))), (rl 8, .inl (cs 1, 9, .inr (.inl ((fun _ _ => 0) 8)))), (rl 9, .inl (cs 1, 9, .inr (.inl ((fun _ _ => 0) 9)))), (rl 10, .inl (cs 1, 9, .inr (.inl ((fun _ _ => 0) 10)))), (rl 11, .inl (cs 1, 9, .inr (.inl ((fun _ _ => 0) 11)))), (rl 12, .inl (cs 1, 9, .inr (.inl ((fun _ _ => 0) 12)))), (hm, .inr (12, [.ref ms, .ref mkp, .int (nI 0), .ref mtr, .int (nI 4), .int (nI 2), .int (nI 2), .int (nI 3), .int (nI 2), .int (nI 1), .ref mas, .int (nI 0), .int (nI 0), .int (nI 0), .ref mso, .ref mon, .ref mot, .ref man, .int (nI 0), .int (nI 0), .ref mst, .ref msm, .ref mtb, .ref mti, .ref mfr, .ref mbn, .ref mbs, .ref mde, .int (nI 0), .int (nI 0), .int (nI 0), .int (nI 0), .long 0, .long 0, .ref maa, .ref mab, .ref mba, .ref mbb])), (ms, .inl (cs 0, 288, .inl freshS)), (mtr, .inl (cs 0, 288, .inl (fun _ => 0))), (mst, .inl (cs 5, 2, .inr (.inr (.inr (.inr (fun _ => none)))))), (msm, .inl (cs 0, 2, .inl (fun _ => 0))), (mtb, .inl (cs 5, 2, .inr (.inr (.inr (.inr (fun _ => none)))))), (mti, .inl (cs 6, 2, .inr (.inr (.inr (.inr (fun _ => none))))))]) (hS : va_S A s.heap H locs) (hl : lv_has ls 7 [(4, .int (nI 0)), (3, .ref out), (2, .ref hm), (1, .ref h0), (0, .ref b)]) : W p l e room_1 s m #[Value.ref b] below meth c H locs 261 14585 (lw_Z below #[Value.ref b] s) (F0 m 554 ls []) := by
  have hx := C.1
  have hb := C.2.1
  have hz := C.2.2.2.2.1
  have hown := C.2.2.2.1
  have hA := C.2.2.2.2.2.2.2.2.2
  have hAO := C.2.2.2.2.2.2.2.2.1.2.2
  refine lv_aload_n hx hb dL_law_554 rfl (lv_at hl 3 rfl) ?_
  refine lv_aload_n hx hb dL_law_555 rfl (lv_at hl 4 rfl) ?_
  refine lv_iload hx hb dL_law_556 (lv_at hl 0 rfl) ?_
  refine lv_iconst (v := nI 1) hx hb dL_law_558 (by decide) ?_
  refine lv_iadd hx hb dL_law_559 ?_
  refine lv_topi (nm_r (e' := nI 1) (by decide) ?_)
  refine va_sld hx hb hX hbl hbA hS (pk_in 1 5 (by decide)) dL_law_560 ?_
  refine lv_topi (nm_r (e' := xs 1) (by rw [nI_clamp (by decide)]) ?_)
  refine lv_aload_n hx hb dL_law_561 rfl (lv_at hl 4 rfl) ?_
  refine lv_iload hx hb dL_law_562 (lv_at hl 0 rfl) ?_
  refine lv_iconst (v := nI 2) hx hb dL_law_564 (by decide) ?_
  refine lv_iadd hx hb dL_law_565 ?_
  refine lv_topi (nm_r (e' := nI 2) (by decide) ?_)
  refine va_sld hx hb hX hbl hbA hS (pk_in 2 5 (by decide)) dL_law_566 ?_
  refine lv_topi (nm_r (e' := xs 2) (by rw [nI_clamp (by decide)]) ?_)
  refine xl (wr := [(hm, .inr (12, [.ref ms, .ref mkp, .int (nI 0), .ref mtr, .int (nI 4), .int (nI 2), .int (nI 2), .int (nI 3), .int (nI 2), .int (nI 1), .ref mas, .int (nI 0), .int (nI 0), .int (nI 0), .ref mso, .ref mon, .ref mot, .ref man, .int (nI 0), .int (nI 0), .ref mst, .ref msm, .ref mtb, .ref mti, .ref mfr, .ref mbn, .ref mbs, .ref mde, .int (nI 0), .int (nI 0), .int (nI 0), .int (nI 0), .long 0, .long 0, .ref maa, .ref mab, .ref mba, .ref mbb])), (ms, .inl (cs 0, 288, .inl freshS)), (mtr, .inl (cs 0, 288, .inl (fun _ => 0))), (mst, .inl (cs 5, 2, .inr (.inr (.inr (.inr (fun _ => none)))))), (msm, .inl (cs 0, 2, .inl (fun _ => 0))), (mtb, .inl (cs 5, 2, .inr (.inr (.inr (.inr (fun _ => none)))))), (mti, .inl (cs 6, 2, .inr (.inr (.inr (.inr (fun _ => none))))))]) (xV (As := [.int (xs 1), .int (xs 2)]) (rest := []) C (c_X11_exact_z l D cs h0 hr hg hgr ha hpo hly hse hc pa spr qm (nI 0) (nI 1) sm ca (nI 0) (nI 0) (nI 0) nd kd lk vw wk spa aga ona (nI 0) (nI 0) (nI 0) (fun _ => 0) (fun _ => 0) (fun _ _ => 0) rl (xs 1) (xs 2)) kL_67 hP hD [0, 1, 5, 6, 2, 4, 7, 8, 9, 10, 11, 12, 13, 14, 15, 16, 17, 18, 19, 20, 21, 22, 23, 3] rfl (by decide +kernel) 0 rfl rfl rfl ⟨Nat.le_of_ble_eq_true rfl, Nat.le_of_ble_eq_true rfl⟩ rfl hl.1 rfl (Nat.le_of_ble_eq_true rfl) dL_law_567 ⟨Nat.le_of_ble_eq_true rfl, Nat.le_of_ble_eq_true rfl⟩) hP hD hS hA [0, 1, 5, 6, 2, 4, 7, 8, 9, 10, 11, 12, 13, 14, 15, 16, 17, 18, 19, 20, 21, 22, 23, 3] [24, 25, 26, 27, 28, 29, 30] rfl rfl (by decide +kernel) (by decide +kernel) ?_
  clear hP hD hS
  try clear locs
  try clear H
  intro r_1 u_2 H locs hw_r_1 hP hD hS
  have hw_r_1 : r_1 = exV (xs 1) (xs 2) := hw_r_1
  refine W.widen (k := 269) (n := 58799) (Nat.le_of_ble_eq_true rfl) (Nat.le_of_ble_eq_true rfl) ?_
  replace hP : va_P D vwCl [(hm, .inr (12, [.ref ms, .ref mkp, .int (nI 0), .ref mtr, .int (nI 4), .int (nI 2), .int (nI 2), .int (nI 3), .int (nI 2), .int (nI 1), .ref mas, .int (nI 0), .int (nI 0), .int (nI 0), .ref mso, .ref mon, .ref mot, .ref man, .int (nI 0), .int (nI 0), .ref mst, .ref msm, .ref mtb, .ref mti, .ref mfr, .ref mbn, .ref mbs, .ref mde, .int (nI 0), .int (nI 0), .int (nI 0), .int (nI 0), .long 0, .long 0, .ref maa, .ref mab, .ref mba, .ref mbb])), (ms, .inl (cs 0, 288, .inl freshS)), (mtr, .inl (cs 0, 288, .inl (fun _ => 0))), (mst, .inl (cs 5, 2, .inr (.inr (.inr (.inr (fun _ => none)))))), (msm, .inl (cs 0, 2, .inl (fun _ => 0))), (mtb, .inl (cs 5, 2, .inr (.inr (.inr (.inr (fun _ => none)))))), (mti, .inl (cs 6, 2, .inr (.inr (.inr (.inr (fun _ => none))))))] H := hP
  replace hD : va_D A [(hm, .inr (12, [.ref ms, .ref mkp, .int (nI 0), .ref mtr, .int (nI 4), .int (nI 2), .int (nI 2), .int (nI 3), .int (nI 2), .int (nI 1), .ref mas, .int (nI 0), .int (nI 0), .int (nI 0), .ref mso, .ref mon, .ref mot, .ref man, .int (nI 0), .int (nI 0), .ref mst, .ref msm, .ref mtb, .ref mti, .ref mfr, .ref mbn, .ref mbs, .ref mde, .int (nI 0), .int (nI 0), .int (nI 0), .int (nI 0), .long 0, .long 0, .ref maa, .ref mab, .ref mba, .ref mbb])), (ms, .inl (cs 0, 288, .inl freshS)), (mtr, .inl (cs 0, 288, .inl (fun _ => 0))), (mst, .inl (cs 5, 2, .inr (.inr (.inr (.inr (fun _ => none)))))), (msm, .inl (cs 0, 2, .inl (fun _ => 0))), (mtb, .inl (cs 5, 2, .inr (.inr (.inr (.inr (fun _ => none)))))), (mti, .inl (cs 6, 2, .inr (.inr (.inr (.inr (fun _ => none))))))] := hD
  refine lv_aload_n hx hb dL_law_570 rfl (lv_at hl 2 rfl) ?_
  refine lv_aload_n hx hb dL_law_571 rfl (lv_at hl 4 rfl) ?_
  refine lv_iload hx hb dL_law_572 (lv_at hl 0 rfl) ?_
  refine lv_iconst (v := nI 1) hx hb dL_law_574 (by decide) ?_
  refine lv_iadd hx hb dL_law_575 ?_
  refine lv_topi (nm_r (e' := nI 1) (by decide) ?_)
  refine va_sld hx hb hX hbl hbA hS (pk_in 1 5 (by decide)) dL_law_576 ?_
  refine lv_topi (nm_r (e' := xs 1) (by rw [nI_clamp (by decide)]) ?_)
  refine lv_aload_n hx hb dL_law_577 rfl (lv_at hl 4 rfl) ?_
  refine lv_iload hx hb dL_law_578 (lv_at hl 0 rfl) ?_
  refine lv_iconst (v := nI 2) hx hb dL_law_580 (by decide) ?_
  refine lv_iadd hx hb dL_law_581 ?_
  refine lv_topi (nm_r (e' := nI 2) (by decide) ?_)
  refine va_sld hx hb hX hbl hbA hS (pk_in 2 5 (by decide)) dL_law_582 ?_
  refine lv_topi (nm_r (e' := xs 2) (by rw [nI_clamp (by decide)]) ?_)
  refine xl (wr := []) (xV (As := [.int (xs 1), .int (xs 2)]) (rest := [.long r_1]) C (c_X12_exact l D cs hm ms mkp mtr mas mso mon mot man mst msm mtb mti mfr mbn mbs mde maa mab mba mbb (fun _ => 0) (xs 1) (xs 2)) kL_71 hP hD [0, 1, 2, 4, 3, 5, 6] rfl (by decide +kernel) 0 rfl rfl rfl ⟨Nat.le_of_ble_eq_true rfl, Nat.le_of_ble_eq_true rfl⟩ rfl hl.1 rfl (Nat.le_of_ble_eq_true rfl) dL_law_583 ⟨Nat.le_of_ble_eq_true rfl, Nat.le_of_ble_eq_true rfl⟩) hP hD hS hA [0, 1, 2, 4, 3, 5, 6] [] rfl rfl (by decide +kernel) (by decide +kernel) ?_
  clear hP hD hS
  try clear locs
  try clear H
  intro r_3 u_4 H locs hw_r_3 hP hD hS
  have hw_r_3 : r_3 = exV (xs 1) (xs 2) := hw_r_3
  refine W.widen (k := 275) (n := 271281) (Nat.le_of_ble_eq_true rfl) (Nat.le_of_ble_eq_true rfl) ?_
  replace hP : va_P D vwCl [] H := hP
  replace hD : va_D A [] := hD
  refine W.lcmp hx hb dL_law_586 ?_
  refine lv_if_eq (tgt := 1199) hx hb dL_law_587 (by decide) (fun _ => ?_) (fun c => absurd ((lg_cmp_eq _ _).mpr (hw_r_1.trans hw_r_3.symm)) c)
  refine lv_iinc (v := nI 5) (lv' := [(4, .int (nI 5)), (3, .ref out), (2, .ref hm), (1, .ref h0), (0, .ref b)]) hx hb dL_law_1199 hl (k := 0) rfl (by decide) (by decide) rfl ?_
  clear hl
  try clear ls
  intro ls hl
  refine lv_goto (tgt := 23) hx hb dL_law_1202 (by decide) ?_
  refine lv_iload hx hb dL_law_23 (lv_at hl 0 rfl) ?_
  refine lv_aload_n hx hb dL_law_25 rfl (lv_at hl 4 rfl) ?_
  refine va_slen hx hb hX hbl hbA hS dL_law_26 ?_
  refine lv_topi (nm_r (e' := nI 5) rfl ?_)
  refine lv_iconst (v := nI 5) hx hb dL_law_27 (by decide) ?_
  refine lv_isub hx hb dL_law_28 ?_
  refine lv_topi (nm_r (e' := nI 0) (by decide) ?_)
  refine lv_icmp_gt (tgt := 1205) hx hb dL_law_29 (by decide) (fun _ => ?_) (fun c => absurd (by decide) c)
  refine lv_iconst (v := nI 1) hx hb dL_law_1205 (by decide) ?_
  refine lv_topi (nm_r (e' := 1) rfl ?_)
  exact va_forget (fun q hq => hA2 _ (hS.2.2 q hq)) (W.widen (Nat.le_of_ble_eq_true rfl) (Nat.le_of_ble_eq_true rfl) (W.base (lw_ret (Drawn.sameBut.refl s.drawn lw_cs) hx hb C.2.2.2.2.2.1 C.2.2.2.2.2.2.1 dL_law_1206)))

set_option maxHeartbeats 4000000 in
set_option maxRecDepth 100000 in
theorem law_case_11 {p : Program} {e : Env} {s : State} {m : MethodId} {below : List Frame} {meth : Method} {c : Code} (l : Launch) (hfl : l.stackTraces = false) {D : va_G} {cs : Nat → ClassId} {A : Nat → Prop} {b : Nat} {xs : Nat → Int32} (C : xC p room_1 s m #[Value.ref b] meth c ⟨"SampleHouseLaw", meth.name, ""⟩ code 7 ret D cs A) (hTH : xTH s) (hZ0 : xZ A s s.heap) (hX : va_X b 5 xs s s.heap) (hbl : b < s.heap.size) (hbA : ¬ A b) (hA2 : ∀ q, A q → s.heap.size ≤ q) (hr hg hgr ha hpo hly hse hc pa spr qm sm ca nd kd lk vw gs g1r g2r gan gpr gde gme wk spa aga ona wk2 ab rb ob tb hp0 nd0 kd0 lk0 vw0 : Nat) (v sv v0 sv0 rw rl : Nat → Nat) (sg : Nat → Nat → Int32) (pf : Nat → Option Nat) (ms mkp mtr mas mso mon mot man mst msm mtb mti mfr mbn mbs mde maa mab mba mbb h0 hm out : Nat) (hpf : pf 0 = some hp0) {H : Heap} {locs : List Loc} {ls : Array Slot} (hP : va_P D vwCl [(h0, .inr (11, [.ref hr, .ref hg, .ref hgr, .ref ha, .ref hpo, .ref hly, .ref hse, .ref hc, .ref pa, .ref spr, .ref qm, .int (nI 0), .int (nI 0), .int (nI 0), .int (nI 0), .int (nI 1)])), (hr, .inr (7, [.int (nI 4), .int (nI 2), .int (nI 2), .int (nI 3), .int (nI 2), .int (nI 1), .ref sm, .int (nI 3), .ref ca])), (hg, .inr (4, [.ref nd, .ref kd, .ref lk, .ref vw])), (nd, .inl (cs 0, 8, .inl (fun _ => nI 0))), (kd, .inl (cs 0, 8, .inl (fun _ => nI 0))), (ha, .inr (0, [.ref hr, .ref hg, .int (nI 0), .int (nI 0), .int (nI 0)])), (hly, .inr (5, [.ref hr, .ref ha, .ref wk, .null, .null, .null, .null, .int (nI 0), .int (nI 0), .int (nI 0), .ref spa, .ref aga, .ref ona])), (wk, .inl (cs 0, 8, .inl (fun _ => 0))), (spa, .inl (cs 1, 13, .inr (.inl (fun _ => 0)))), (aga, .inl (cs 1, 13, .inr (.inl (fun _ => 0)))), (ona, .inl (cs 6, 13, .inr (.inr (.inr (.inr (fun i => if i < 13 then some (rl i) else none)))))), (rl 0, .inl (cs 1, 9, .inr (.inl ((fun _ _ => 0) 0)))), (rl 1, .inl (cs 1, 9, .inr (.inl ((fun _ _ => 0) 1)))), (rl 2, .inl (cs 1, 9, .inr (.inl ((fun _ _ => 0) 2)))), (rl 3, .inl (cs 1, 9, .inr (.inl ((fun _ _ => 0) 3)))), (rl 4, .inl (cs 1, 9, .inr (.inl ((fun _ _ => 0) 4)))), (rl 5, .inl (cs 1, 9, .inr (.inl ((fun _ _ => 0) 5)))), (rl 6, .inl (cs 1, 9, .inr (.inl ((fun _ _ => 0) 6)))), (rl 7, .inl (cs 1, 9, .inr (.inl ((fun _ _ => 0) 7)))), (rl 8, .inl (cs 1, 9, .inr (.inl ((fun _ _ => 0) 8)))), (rl 9, .inl (cs 1, 9, .inr (.inl ((fun _ _ => 0) 9)))), (rl 10, .inl (cs 1, 9, .inr (.inl ((fun _ _ => 0) 10)))), (rl 11, .inl (cs 1, 9, .inr (.inl ((fun _ _ => 0) 11)))), (rl 12, .inl (cs 1, 9, .inr (.inl ((fun _ _ => 0) 12)))), (hm, .inr (12, [.ref ms, .ref mkp, .int (nI 0), .ref mtr, .int (nI 4), .int (nI 2), .int (nI 2), .int (nI 3), .int (nI 2), .int (nI 1), .ref mas, .int (nI 0), .int (nI 0), .int (nI 0), .ref mso, .ref mon, .ref mot, .ref man, .int (nI 0), .int (nI 0), .ref mst, .ref msm, .ref mtb, .ref mti, .ref mfr, .ref mbn, .ref mbs, .ref mde, .int (nI 0), .int (nI 0), .int (nI 0), .int (nI 0), .long 0, .long 0, .ref maa, .ref mab, .ref mba, .ref mbb])), (ms, .inl (cs 0, 288, .inl freshS)), (mtr, .inl (cs 0, 288, .inl (fun _ => 0))), (mst, .inl (cs 5, 2, .inr (.inr (.inr (.inr (fun _ => none)))))), (msm, .inl (cs 0, 2, .inl (fun _ => 0))), (mtb, .inl (cs 5, 2, .inr (.inr (.inr (.inr (fun _ => none)))))), (mti, .inl (cs 6, 2, .inr (.inr (.inr (.inr (fun _ => none))))))] H) (hD : va_D A [(h0, .inr (11, [.ref hr, .ref hg, .ref hgr, .ref ha, .ref hpo, .ref hly, .ref hse, .ref hc, .ref pa, .ref spr, .ref qm, .int (nI 0), .int (nI 0), .int (nI 0), .int (nI 0), .int (nI 1)])), (hr, .inr (7, [.int (nI 4), .int (nI 2), .int (nI 2), .int (nI 3), .int (nI 2), .int (nI 1), .ref sm, .int (nI 3), .ref ca])), (hg, .inr (4, [.ref nd, .ref kd, .ref lk, .ref vw])), (nd, .inl (cs 0, 8, .inl (fun _ => nI 0))), (kd, .inl (cs 0, 8, .inl (fun _ => nI 0))), (ha, .inr (0, [.ref hr, .ref hg, .int (nI 0), .int (nI 0), .int (nI 0)])), (hly, .inr (5, [.ref hr, .ref ha, .ref wk, .null, .null, .null, .null, .int (nI 0), .int (nI 0), .int (nI 0), .ref spa, .ref aga, .ref ona])), (wk, .inl (cs 0, 8, .inl (fun _ => 0))), (spa, .inl (cs 1, 13, .inr (.inl (fun _ => 0)))), (aga, .inl (cs 1, 13, .inr (.inl (fun _ => 0)))), (ona, .inl (cs 6, 13, .inr (.inr (.inr (.inr (fun i => if i < 13 then some (rl i) else none)))))), (rl 0, .inl (cs 1, 9, .inr (.inl ((fun _ _ => 0) 0)))), (rl 1, .inl (cs 1, 9, .inr (.inl ((fun _ _ => 0) 1)))), (rl 2, .inl (cs 1, 9, .inr (.inl ((fun _ _ => 0) 2)))), (rl 3, .inl (cs 1, 9, .inr (.inl ((fun _ _ => 0) 3)))), (rl 4, .inl (cs 1, 9, .inr (.inl ((fun _ _ => 0) 4)))), (rl 5, .inl (cs 1, 9, .inr (.inl ((fun _ _ => 0) 5)))), (rl 6, .inl (cs 1, 9, .inr (.inl ((fun _ _ => 0) 6)))), (rl 7, .inl (cs 1, 9, .inr (.inl ((fun _ _ => 0) 7)))), (rl 8, .inl (cs 1, 9, .inr (.inl ((fun _ _ => 0) 8)))), (rl 9, .inl (cs 1, 9, .inr (.inl ((fun _ _ => 0) 9)))), (rl 10, .inl (cs 1, 9, .inr (.inl ((fun _ _ => 0) 10)))), (rl 11, .inl (cs 1, 9, .inr (.inl ((fun _ _ => 0) 11)))), (rl 12, .inl (cs 1, 9, .inr (.inl ((fun _ _ => 0) 12)))), (hm, .inr (12, [.ref ms, .ref mkp, .int (nI 0), .ref mtr, .int (nI 4), .int (nI 2), .int (nI 2), .int (nI 3), .int (nI 2), .int (nI 1), .ref mas, .int (nI 0), .int (nI 0), .int (nI 0), .ref mso, .ref mon, .ref mot, .ref man, .int (nI 0), .int (nI 0), .ref mst, .ref msm, .ref mtb, .ref mti, .ref mfr, .ref mbn, .ref mbs, .ref mde, .int (nI 0), .int (nI 0), .int (nI 0), .int (nI 0), .long 0, .long 0, .ref maa, .ref mab, .ref mba, .ref mbb])), (ms, .inl (cs 0, 288, .inl freshS)), (mtr, .inl (cs 0, 288, .inl (fun _ => 0))), (mst, .inl (cs 5, 2, .inr (.inr (.inr (.inr (fun _ => none)))))), (msm, .inl (cs 0, 2, .inl (fun _ => 0))), (mtb, .inl (cs 5, 2, .inr (.inr (.inr (.inr (fun _ => none)))))), (mti, .inl (cs 6, 2, .inr (.inr (.inr (.inr (fun _ => none))))))]) (hS : va_S A s.heap H locs) (hl : lv_has ls 7 [(4, .int (nI 0)), (3, .ref out), (2, .ref hm), (1, .ref h0), (0, .ref b)]) : W p l e room_1 s m #[Value.ref b] below meth c H locs 261 14585 (lw_Z below #[Value.ref b] s) (F0 m 592 ls []) := by
  have hx := C.1
  have hb := C.2.1
  have hz := C.2.2.2.2.1
  have hown := C.2.2.2.1
  have hA := C.2.2.2.2.2.2.2.2.2
  have hAO := C.2.2.2.2.2.2.2.2.1.2.2
  refine lv_aload_n hx hb dL_law_592 rfl (lv_at hl 3 rfl) ?_
  refine lv_aload_n hx hb dL_law_593 rfl (lv_at hl 4 rfl) ?_
  refine lv_iload hx hb dL_law_594 (lv_at hl 0 rfl) ?_
  refine lv_iconst (v := nI 1) hx hb dL_law_596 (by decide) ?_
  refine lv_iadd hx hb dL_law_597 ?_
  refine lv_topi (nm_r (e' := nI 1) (by decide) ?_)
  refine va_sld hx hb hX hbl hbA hS (pk_in 1 5 (by decide)) dL_law_598 ?_
  refine lv_topi (nm_r (e' := xs 1) (by rw [nI_clamp (by decide)]) ?_)
  refine lv_aload_n hx hb dL_law_599 rfl (lv_at hl 4 rfl) ?_
  refine lv_iload hx hb dL_law_600 (lv_at hl 0 rfl) ?_
  refine lv_iconst (v := nI 2) hx hb dL_law_602 (by decide) ?_
  refine lv_iadd hx hb dL_law_603 ?_
  refine lv_topi (nm_r (e' := nI 2) (by decide) ?_)
  refine va_sld hx hb hX hbl hbA hS (pk_in 2 5 (by decide)) dL_law_604 ?_
  refine lv_topi (nm_r (e' := xs 2) (by rw [nI_clamp (by decide)]) ?_)
  refine xl (wr := [(hm, .inr (12, [.ref ms, .ref mkp, .int (nI 0), .ref mtr, .int (nI 4), .int (nI 2), .int (nI 2), .int (nI 3), .int (nI 2), .int (nI 1), .ref mas, .int (nI 0), .int (nI 0), .int (nI 0), .ref mso, .ref mon, .ref mot, .ref man, .int (nI 0), .int (nI 0), .ref mst, .ref msm, .ref mtb, .ref mti, .ref mfr, .ref mbn, .ref mbs, .ref mde, .int (nI 0), .int (nI 0), .int (nI 0), .int (nI 0), .long 0, .long 0, .ref maa, .ref mab, .ref mba, .ref mbb])), (ms, .inl (cs 0, 288, .inl freshS)), (mtr, .inl (cs 0, 288, .inl (fun _ => 0))), (mst, .inl (cs 5, 2, .inr (.inr (.inr (.inr (fun _ => none)))))), (msm, .inl (cs 0, 2, .inl (fun _ => 0))), (mtb, .inl (cs 5, 2, .inr (.inr (.inr (.inr (fun _ => none)))))), (mti, .inl (cs 6, 2, .inr (.inr (.inr (.inr (fun _ => none))))))]) (xV (As := [.int (xs 1), .int (xs 2)]) (rest := []) C (c_X11_colours_z l D cs h0 hr hg hgr ha hpo hly hse hc pa spr qm (nI 0) (nI 1) sm ca (nI 0) (nI 0) (nI 0) nd kd lk vw wk spa aga ona (nI 0) (nI 0) (nI 0) (fun _ => 0) (fun _ => 0) (fun _ _ => 0) rl (xs 1) (xs 2)) kL_72 hP hD [0, 1, 5, 6, 2, 4, 7, 8, 9, 10, 11, 12, 13, 14, 15, 16, 17, 18, 19, 20, 21, 22, 23, 3] rfl (by decide +kernel) 0 rfl rfl rfl ⟨Nat.le_of_ble_eq_true rfl, Nat.le_of_ble_eq_true rfl⟩ rfl hl.1 rfl (Nat.le_of_ble_eq_true rfl) dL_law_605 ⟨Nat.le_of_ble_eq_true rfl, Nat.le_of_ble_eq_true rfl⟩) hP hD hS hA [0, 1, 5, 6, 2, 4, 7, 8, 9, 10, 11, 12, 13, 14, 15, 16, 17, 18, 19, 20, 21, 22, 23, 3] [24, 25, 26, 27, 28, 29, 30] rfl rfl (by decide +kernel) (by decide +kernel) ?_
  clear hP hD hS
  try clear locs
  try clear H
  intro r_1 u_2 H locs hw_r_1 hP hD hS
  have hw_r_1 : r_1 = coV (xs 1) (xs 2) := hw_r_1
  refine W.widen (k := 269) (n := 58799) (Nat.le_of_ble_eq_true rfl) (Nat.le_of_ble_eq_true rfl) ?_
  replace hP : va_P D vwCl [(hm, .inr (12, [.ref ms, .ref mkp, .int (nI 0), .ref mtr, .int (nI 4), .int (nI 2), .int (nI 2), .int (nI 3), .int (nI 2), .int (nI 1), .ref mas, .int (nI 0), .int (nI 0), .int (nI 0), .ref mso, .ref mon, .ref mot, .ref man, .int (nI 0), .int (nI 0), .ref mst, .ref msm, .ref mtb, .ref mti, .ref mfr, .ref mbn, .ref mbs, .ref mde, .int (nI 0), .int (nI 0), .int (nI 0), .int (nI 0), .long 0, .long 0, .ref maa, .ref mab, .ref mba, .ref mbb])), (ms, .inl (cs 0, 288, .inl freshS)), (mtr, .inl (cs 0, 288, .inl (fun _ => 0))), (mst, .inl (cs 5, 2, .inr (.inr (.inr (.inr (fun _ => none)))))), (msm, .inl (cs 0, 2, .inl (fun _ => 0))), (mtb, .inl (cs 5, 2, .inr (.inr (.inr (.inr (fun _ => none)))))), (mti, .inl (cs 6, 2, .inr (.inr (.inr (.inr (fun _ => none))))))] H := hP
  replace hD : va_D A [(hm, .inr (12, [.ref ms, .ref mkp, .int (nI 0), .ref mtr, .int (nI 4), .int (nI 2), .int (nI 2), .int (nI 3), .int (nI 2), .int (nI 1), .ref mas, .int (nI 0), .int (nI 0), .int (nI 0), .ref mso, .ref mon, .ref mot, .ref man, .int (nI 0), .int (nI 0), .ref mst, .ref msm, .ref mtb, .ref mti, .ref mfr, .ref mbn, .ref mbs, .ref mde, .int (nI 0), .int (nI 0), .int (nI 0), .int (nI 0), .long 0, .long 0, .ref maa, .ref mab, .ref mba, .ref mbb])), (ms, .inl (cs 0, 288, .inl freshS)), (mtr, .inl (cs 0, 288, .inl (fun _ => 0))), (mst, .inl (cs 5, 2, .inr (.inr (.inr (.inr (fun _ => none)))))), (msm, .inl (cs 0, 2, .inl (fun _ => 0))), (mtb, .inl (cs 5, 2, .inr (.inr (.inr (.inr (fun _ => none)))))), (mti, .inl (cs 6, 2, .inr (.inr (.inr (.inr (fun _ => none))))))] := hD
  refine lv_aload_n hx hb dL_law_608 rfl (lv_at hl 2 rfl) ?_
  refine lv_aload_n hx hb dL_law_609 rfl (lv_at hl 4 rfl) ?_
  refine lv_iload hx hb dL_law_610 (lv_at hl 0 rfl) ?_
  refine lv_iconst (v := nI 1) hx hb dL_law_612 (by decide) ?_
  refine lv_iadd hx hb dL_law_613 ?_
  refine lv_topi (nm_r (e' := nI 1) (by decide) ?_)
  refine va_sld hx hb hX hbl hbA hS (pk_in 1 5 (by decide)) dL_law_614 ?_
  refine lv_topi (nm_r (e' := xs 1) (by rw [nI_clamp (by decide)]) ?_)
  refine lv_aload_n hx hb dL_law_615 rfl (lv_at hl 4 rfl) ?_
  refine lv_iload hx hb dL_law_616 (lv_at hl 0 rfl) ?_
  refine lv_iconst (v := nI 2) hx hb dL_law_618 (by decide) ?_
  refine lv_iadd hx hb dL_law_619 ?_
  refine lv_topi (nm_r (e' := nI 2) (by decide) ?_)
  refine va_sld hx hb hX hbl hbA hS (pk_in 2 5 (by decide)) dL_law_620 ?_
  refine lv_topi (nm_r (e' := xs 2) (by rw [nI_clamp (by decide)]) ?_)
  refine xl (wr := []) (xV (As := [.int (xs 1), .int (xs 2)]) (rest := [.long r_1]) C (c_X12_colours l D cs hm ms mkp mtr mas mso mon mot man mst msm mtb mti mfr mbn mbs mde maa mab mba mbb (fun _ => 0) (xs 1) (xs 2)) kL_75 hP hD [0, 1, 2, 4, 3, 5, 6] rfl (by decide +kernel) 0 rfl rfl rfl ⟨Nat.le_of_ble_eq_true rfl, Nat.le_of_ble_eq_true rfl⟩ rfl hl.1 rfl (Nat.le_of_ble_eq_true rfl) dL_law_621 ⟨Nat.le_of_ble_eq_true rfl, Nat.le_of_ble_eq_true rfl⟩) hP hD hS hA [0, 1, 2, 4, 3, 5, 6] [] rfl rfl (by decide +kernel) (by decide +kernel) ?_
  clear hP hD hS
  try clear locs
  try clear H
  intro r_3 u_4 H locs hw_r_3 hP hD hS
  have hw_r_3 : r_3 = coV (xs 1) (xs 2) := hw_r_3
  refine W.widen (k := 275) (n := 271281) (Nat.le_of_ble_eq_true rfl) (Nat.le_of_ble_eq_true rfl) ?_
  replace hP : va_P D vwCl [] H := hP
  replace hD : va_D A [] := hD
  refine W.lcmp hx hb dL_law_624 ?_
  refine lv_if_eq (tgt := 1199) hx hb dL_law_625 (by decide) (fun _ => ?_) (fun c => absurd ((lg_cmp_eq _ _).mpr (hw_r_1.trans hw_r_3.symm)) c)
  refine lv_iinc (v := nI 5) (lv' := [(4, .int (nI 5)), (3, .ref out), (2, .ref hm), (1, .ref h0), (0, .ref b)]) hx hb dL_law_1199 hl (k := 0) rfl (by decide) (by decide) rfl ?_
  clear hl
  try clear ls
  intro ls hl
  refine lv_goto (tgt := 23) hx hb dL_law_1202 (by decide) ?_
  refine lv_iload hx hb dL_law_23 (lv_at hl 0 rfl) ?_
  refine lv_aload_n hx hb dL_law_25 rfl (lv_at hl 4 rfl) ?_
  refine va_slen hx hb hX hbl hbA hS dL_law_26 ?_
  refine lv_topi (nm_r (e' := nI 5) rfl ?_)
  refine lv_iconst (v := nI 5) hx hb dL_law_27 (by decide) ?_
  refine lv_isub hx hb dL_law_28 ?_
  refine lv_topi (nm_r (e' := nI 0) (by decide) ?_)
  refine lv_icmp_gt (tgt := 1205) hx hb dL_law_29 (by decide) (fun _ => ?_) (fun c => absurd (by decide) c)
  refine lv_iconst (v := nI 1) hx hb dL_law_1205 (by decide) ?_
  refine lv_topi (nm_r (e' := 1) rfl ?_)
  exact va_forget (fun q hq => hA2 _ (hS.2.2 q hq)) (W.widen (Nat.le_of_ble_eq_true rfl) (Nat.le_of_ble_eq_true rfl) (W.base (lw_ret (Drawn.sameBut.refl s.drawn lw_cs) hx hb C.2.2.2.2.2.1 C.2.2.2.2.2.2.1 dL_law_1206)))

set_option maxHeartbeats 4000000 in
set_option maxRecDepth 100000 in
theorem law_case_12 {p : Program} {e : Env} {s : State} {m : MethodId} {below : List Frame} {meth : Method} {c : Code} (l : Launch) (hfl : l.stackTraces = false) {D : va_G} {cs : Nat → ClassId} {A : Nat → Prop} {b : Nat} {xs : Nat → Int32} (C : xC p room_1 s m #[Value.ref b] meth c ⟨"SampleHouseLaw", meth.name, ""⟩ code 7 ret D cs A) (hTH : xTH s) (hZ0 : xZ A s s.heap) (hX : va_X b 5 xs s s.heap) (hbl : b < s.heap.size) (hbA : ¬ A b) (hA2 : ∀ q, A q → s.heap.size ≤ q) (hr hg hgr ha hpo hly hse hc pa spr qm sm ca nd kd lk vw gs g1r g2r gan gpr gde gme wk spa aga ona wk2 ab rb ob tb hp0 nd0 kd0 lk0 vw0 : Nat) (v sv v0 sv0 rw rl : Nat → Nat) (sg : Nat → Nat → Int32) (pf : Nat → Option Nat) (ms mkp mtr mas mso mon mot man mst msm mtb mti mfr mbn mbs mde maa mab mba mbb h0 hm out : Nat) (hpf : pf 0 = some hp0) {H : Heap} {locs : List Loc} {ls : Array Slot} (hP : va_P D vwCl [(h0, .inr (11, [.ref hr, .ref hg, .ref hgr, .ref ha, .ref hpo, .ref hly, .ref hse, .ref hc, .ref pa, .ref spr, .ref qm, .int (nI 0), .int (nI 0), .int (nI 0), .int (nI 0), .int (nI 1)])), (hr, .inr (7, [.int (nI 4), .int (nI 2), .int (nI 2), .int (nI 3), .int (nI 2), .int (nI 1), .ref sm, .int (nI 3), .ref ca])), (hg, .inr (4, [.ref nd, .ref kd, .ref lk, .ref vw])), (nd, .inl (cs 0, 8, .inl (fun _ => nI 0))), (kd, .inl (cs 0, 8, .inl (fun _ => nI 0))), (ha, .inr (0, [.ref hr, .ref hg, .int (nI 0), .int (nI 0), .int (nI 0)])), (hly, .inr (5, [.ref hr, .ref ha, .ref wk, .null, .null, .null, .null, .int (nI 0), .int (nI 0), .int (nI 0), .ref spa, .ref aga, .ref ona])), (wk, .inl (cs 0, 8, .inl (fun _ => 0))), (spa, .inl (cs 1, 13, .inr (.inl (fun _ => 0)))), (aga, .inl (cs 1, 13, .inr (.inl (fun _ => 0)))), (ona, .inl (cs 6, 13, .inr (.inr (.inr (.inr (fun i => if i < 13 then some (rl i) else none)))))), (rl 0, .inl (cs 1, 9, .inr (.inl ((fun _ _ => 0) 0)))), (rl 1, .inl (cs 1, 9, .inr (.inl ((fun _ _ => 0) 1)))), (rl 2, .inl (cs 1, 9, .inr (.inl ((fun _ _ => 0) 2)))), (rl 3, .inl (cs 1, 9, .inr (.inl ((fun _ _ => 0) 3)))), (rl 4, .inl (cs 1, 9, .inr (.inl ((fun _ _ => 0) 4)))), (rl 5, .inl (cs 1, 9, .inr (.inl ((fun _ _ => 0) 5)))), (rl 6, .inl (cs 1, 9, .inr (.inl ((fun _ _ => 0) 6)))), (rl 7, .inl (cs 1, 9, .inr (.inl ((fun _ _ => 0) 7)))), (rl 8, .inl (cs 1, 9, .inr (.inl ((fun _ _ => 0) 8)))), (rl 9, .inl (cs 1, 9, .inr (.inl ((fun _ _ => 0) 9)))), (rl 10, .inl (cs 1, 9, .inr (.inl ((fun _ _ => 0) 10)))), (rl 11, .inl (cs 1, 9, .inr (.inl ((fun _ _ => 0) 11)))), (rl 12, .inl (cs 1, 9, .inr (.inl ((fun _ _ => 0) 12)))), (hm, .inr (12, [.ref ms, .ref mkp, .int (nI 0), .ref mtr, .int (nI 4), .int (nI 2), .int (nI 2), .int (nI 3), .int (nI 2), .int (nI 1), .ref mas, .int (nI 0), .int (nI 0), .int (nI 0), .ref mso, .ref mon, .ref mot, .ref man, .int (nI 0), .int (nI 0), .ref mst, .ref msm, .ref mtb, .ref mti, .ref mfr, .ref mbn, .ref mbs, .ref mde, .int (nI 0), .int (nI 0), .int (nI 0), .int (nI 0), .long 0, .long 0, .ref maa, .ref mab, .ref mba, .ref mbb])), (ms, .inl (cs 0, 288, .inl freshS)), (mtr, .inl (cs 0, 288, .inl (fun _ => 0))), (mst, .inl (cs 5, 2, .inr (.inr (.inr (.inr (fun _ => none)))))), (msm, .inl (cs 0, 2, .inl (fun _ => 0))), (mtb, .inl (cs 5, 2, .inr (.inr (.inr (.inr (fun _ => none)))))), (mti, .inl (cs 6, 2, .inr (.inr (.inr (.inr (fun _ => none))))))] H) (hD : va_D A [(h0, .inr (11, [.ref hr, .ref hg, .ref hgr, .ref ha, .ref hpo, .ref hly, .ref hse, .ref hc, .ref pa, .ref spr, .ref qm, .int (nI 0), .int (nI 0), .int (nI 0), .int (nI 0), .int (nI 1)])), (hr, .inr (7, [.int (nI 4), .int (nI 2), .int (nI 2), .int (nI 3), .int (nI 2), .int (nI 1), .ref sm, .int (nI 3), .ref ca])), (hg, .inr (4, [.ref nd, .ref kd, .ref lk, .ref vw])), (nd, .inl (cs 0, 8, .inl (fun _ => nI 0))), (kd, .inl (cs 0, 8, .inl (fun _ => nI 0))), (ha, .inr (0, [.ref hr, .ref hg, .int (nI 0), .int (nI 0), .int (nI 0)])), (hly, .inr (5, [.ref hr, .ref ha, .ref wk, .null, .null, .null, .null, .int (nI 0), .int (nI 0), .int (nI 0), .ref spa, .ref aga, .ref ona])), (wk, .inl (cs 0, 8, .inl (fun _ => 0))), (spa, .inl (cs 1, 13, .inr (.inl (fun _ => 0)))), (aga, .inl (cs 1, 13, .inr (.inl (fun _ => 0)))), (ona, .inl (cs 6, 13, .inr (.inr (.inr (.inr (fun i => if i < 13 then some (rl i) else none)))))), (rl 0, .inl (cs 1, 9, .inr (.inl ((fun _ _ => 0) 0)))), (rl 1, .inl (cs 1, 9, .inr (.inl ((fun _ _ => 0) 1)))), (rl 2, .inl (cs 1, 9, .inr (.inl ((fun _ _ => 0) 2)))), (rl 3, .inl (cs 1, 9, .inr (.inl ((fun _ _ => 0) 3)))), (rl 4, .inl (cs 1, 9, .inr (.inl ((fun _ _ => 0) 4)))), (rl 5, .inl (cs 1, 9, .inr (.inl ((fun _ _ => 0) 5)))), (rl 6, .inl (cs 1, 9, .inr (.inl ((fun _ _ => 0) 6)))), (rl 7, .inl (cs 1, 9, .inr (.inl ((fun _ _ => 0) 7)))), (rl 8, .inl (cs 1, 9, .inr (.inl ((fun _ _ => 0) 8)))), (rl 9, .inl (cs 1, 9, .inr (.inl ((fun _ _ => 0) 9)))), (rl 10, .inl (cs 1, 9, .inr (.inl ((fun _ _ => 0) 10)))), (rl 11, .inl (cs 1, 9, .inr (.inl ((fun _ _ => 0) 11)))), (rl 12, .inl (cs 1, 9, .inr (.inl ((fun _ _ => 0) 12)))), (hm, .inr (12, [.ref ms, .ref mkp, .int (nI 0), .ref mtr, .int (nI 4), .int (nI 2), .int (nI 2), .int (nI 3), .int (nI 2), .int (nI 1), .ref mas, .int (nI 0), .int (nI 0), .int (nI 0), .ref mso, .ref mon, .ref mot, .ref man, .int (nI 0), .int (nI 0), .ref mst, .ref msm, .ref mtb, .ref mti, .ref mfr, .ref mbn, .ref mbs, .ref mde, .int (nI 0), .int (nI 0), .int (nI 0), .int (nI 0), .long 0, .long 0, .ref maa, .ref mab, .ref mba, .ref mbb])), (ms, .inl (cs 0, 288, .inl freshS)), (mtr, .inl (cs 0, 288, .inl (fun _ => 0))), (mst, .inl (cs 5, 2, .inr (.inr (.inr (.inr (fun _ => none)))))), (msm, .inl (cs 0, 2, .inl (fun _ => 0))), (mtb, .inl (cs 5, 2, .inr (.inr (.inr (.inr (fun _ => none)))))), (mti, .inl (cs 6, 2, .inr (.inr (.inr (.inr (fun _ => none))))))]) (hS : va_S A s.heap H locs) (hl : lv_has ls 7 [(4, .int (nI 0)), (3, .ref out), (2, .ref hm), (1, .ref h0), (0, .ref b)]) : W p l e room_1 s m #[Value.ref b] below meth c H locs 261 14585 (lw_Z below #[Value.ref b] s) (F0 m 630 ls []) := by
  have hx := C.1
  have hb := C.2.1
  have hz := C.2.2.2.2.1
  have hown := C.2.2.2.1
  have hA := C.2.2.2.2.2.2.2.2.2
  have hAO := C.2.2.2.2.2.2.2.2.1.2.2
  refine lv_aload_n hx hb dL_law_630 rfl (lv_at hl 3 rfl) ?_
  refine lv_aload_n hx hb dL_law_631 rfl (lv_at hl 4 rfl) ?_
  refine lv_iload hx hb dL_law_632 (lv_at hl 0 rfl) ?_
  refine lv_iconst (v := nI 1) hx hb dL_law_634 (by decide) ?_
  refine lv_iadd hx hb dL_law_635 ?_
  refine lv_topi (nm_r (e' := nI 1) (by decide) ?_)
  refine va_sld hx hb hX hbl hbA hS (pk_in 1 5 (by decide)) dL_law_636 ?_
  refine lv_topi (nm_r (e' := xs 1) (by rw [nI_clamp (by decide)]) ?_)
  refine xi (wr := [(hm, .inr (12, [.ref ms, .ref mkp, .int (nI 0), .ref mtr, .int (nI 4), .int (nI 2), .int (nI 2), .int (nI 3), .int (nI 2), .int (nI 1), .ref mas, .int (nI 0), .int (nI 0), .int (nI 0), .ref mso, .ref mon, .ref mot, .ref man, .int (nI 0), .int (nI 0), .ref mst, .ref msm, .ref mtb, .ref mti, .ref mfr, .ref mbn, .ref mbs, .ref mde, .int (nI 0), .int (nI 0), .int (nI 0), .int (nI 0), .long 0, .long 0, .ref maa, .ref mab, .ref mba, .ref mbb])), (ms, .inl (cs 0, 288, .inl freshS)), (mtr, .inl (cs 0, 288, .inl (fun _ => 0))), (mst, .inl (cs 5, 2, .inr (.inr (.inr (.inr (fun _ => none)))))), (msm, .inl (cs 0, 2, .inl (fun _ => 0))), (mtb, .inl (cs 5, 2, .inr (.inr (.inr (.inr (fun _ => none)))))), (mti, .inl (cs 6, 2, .inr (.inr (.inr (.inr (fun _ => none))))))]) (xV (As := [.int (xs 1)]) (rest := []) C (c_X11_odds_z l D cs h0 hr hg hgr ha hpo hly hse hc pa spr qm (nI 0) (nI 1) sm ca (nI 0) (nI 0) (nI 0) nd kd lk vw wk spa aga ona (nI 0) (nI 0) (nI 0) (fun _ => 0) (fun _ => 0) (fun _ _ => 0) rl (xs 1)) kL_76 hP hD [0, 1, 5, 6, 2, 4, 7, 8, 9, 10, 11, 12, 13, 14, 15, 16, 17, 18, 19, 20, 21, 22, 23, 3] rfl (by decide +kernel) 0 rfl rfl rfl ⟨Nat.le_of_ble_eq_true rfl, Nat.le_of_ble_eq_true rfl⟩ rfl hl.1 rfl (Nat.le_of_ble_eq_true rfl) dL_law_637 ⟨Nat.le_of_ble_eq_true rfl, Nat.le_of_ble_eq_true rfl⟩) hP hD hS hA [0, 1, 5, 6, 2, 4, 7, 8, 9, 10, 11, 12, 13, 14, 15, 16, 17, 18, 19, 20, 21, 22, 23, 3] [24, 25, 26, 27, 28, 29, 30] rfl rfl (by decide +kernel) (by decide +kernel) ?_
  clear hP hD hS
  try clear locs
  try clear H
  intro r_1 u_2 H locs hw_r_1 hP hD hS
  have hw_r_1 : r_1 = odV (xs 1) := hw_r_1
  refine W.widen (k := 269) (n := 58799) (Nat.le_of_ble_eq_true rfl) (Nat.le_of_ble_eq_true rfl) ?_
  replace hP : va_P D vwCl [(hm, .inr (12, [.ref ms, .ref mkp, .int (nI 0), .ref mtr, .int (nI 4), .int (nI 2), .int (nI 2), .int (nI 3), .int (nI 2), .int (nI 1), .ref mas, .int (nI 0), .int (nI 0), .int (nI 0), .ref mso, .ref mon, .ref mot, .ref man, .int (nI 0), .int (nI 0), .ref mst, .ref msm, .ref mtb, .ref mti, .ref mfr, .ref mbn, .ref mbs, .ref mde, .int (nI 0), .int (nI 0), .int (nI 0), .int (nI 0), .long 0, .long 0, .ref maa, .ref mab, .ref mba, .ref mbb])), (ms, .inl (cs 0, 288, .inl freshS)), (mtr, .inl (cs 0, 288, .inl (fun _ => 0))), (mst, .inl (cs 5, 2, .inr (.inr (.inr (.inr (fun _ => none)))))), (msm, .inl (cs 0, 2, .inl (fun _ => 0))), (mtb, .inl (cs 5, 2, .inr (.inr (.inr (.inr (fun _ => none)))))), (mti, .inl (cs 6, 2, .inr (.inr (.inr (.inr (fun _ => none))))))] H := hP
  replace hD : va_D A [(hm, .inr (12, [.ref ms, .ref mkp, .int (nI 0), .ref mtr, .int (nI 4), .int (nI 2), .int (nI 2), .int (nI 3), .int (nI 2), .int (nI 1), .ref mas, .int (nI 0), .int (nI 0), .int (nI 0), .ref mso, .ref mon, .ref mot, .ref man, .int (nI 0), .int (nI 0), .ref mst, .ref msm, .ref mtb, .ref mti, .ref mfr, .ref mbn, .ref mbs, .ref mde, .int (nI 0), .int (nI 0), .int (nI 0), .int (nI 0), .long 0, .long 0, .ref maa, .ref mab, .ref mba, .ref mbb])), (ms, .inl (cs 0, 288, .inl freshS)), (mtr, .inl (cs 0, 288, .inl (fun _ => 0))), (mst, .inl (cs 5, 2, .inr (.inr (.inr (.inr (fun _ => none)))))), (msm, .inl (cs 0, 2, .inl (fun _ => 0))), (mtb, .inl (cs 5, 2, .inr (.inr (.inr (.inr (fun _ => none)))))), (mti, .inl (cs 6, 2, .inr (.inr (.inr (.inr (fun _ => none))))))] := hD
  refine lv_aload_n hx hb dL_law_640 rfl (lv_at hl 2 rfl) ?_
  refine lv_aload_n hx hb dL_law_641 rfl (lv_at hl 4 rfl) ?_
  refine lv_iload hx hb dL_law_642 (lv_at hl 0 rfl) ?_
  refine lv_iconst (v := nI 1) hx hb dL_law_644 (by decide) ?_
  refine lv_iadd hx hb dL_law_645 ?_
  refine lv_topi (nm_r (e' := nI 1) (by decide) ?_)
  refine va_sld hx hb hX hbl hbA hS (pk_in 1 5 (by decide)) dL_law_646 ?_
  refine lv_topi (nm_r (e' := xs 1) (by rw [nI_clamp (by decide)]) ?_)
  refine xi (wr := []) (xV (As := [.int (xs 1)]) (rest := [.int r_1]) C (c_X12_odds l D cs hm ms mkp mtr mas mso mon mot man mst msm mtb mti mfr mbn mbs mde maa mab mba mbb (fun _ => 0) (xs 1)) kL_79 hP hD [0, 1, 2, 4, 3, 5, 6] rfl (by decide +kernel) 0 rfl rfl rfl ⟨Nat.le_of_ble_eq_true rfl, Nat.le_of_ble_eq_true rfl⟩ rfl hl.1 rfl (Nat.le_of_ble_eq_true rfl) dL_law_647 ⟨Nat.le_of_ble_eq_true rfl, Nat.le_of_ble_eq_true rfl⟩) hP hD hS hA [0, 1, 2, 4, 3, 5, 6] [] rfl rfl (by decide +kernel) (by decide +kernel) ?_
  clear hP hD hS
  try clear locs
  try clear H
  intro r_3 u_4 H locs hw_r_3 hP hD hS
  have hw_r_3 : r_3 = odV (xs 1) := hw_r_3
  refine W.widen (k := 275) (n := 271281) (Nat.le_of_ble_eq_true rfl) (Nat.le_of_ble_eq_true rfl) ?_
  replace hP : va_P D vwCl [] H := hP
  replace hD : va_D A [] := hD
  refine lv_icmp_eq (tgt := 1199) hx hb dL_law_650 (by decide) (fun _ => ?_) (fun c => absurd (hw_r_1.trans hw_r_3.symm) c)
  refine lv_iinc (v := nI 5) (lv' := [(4, .int (nI 5)), (3, .ref out), (2, .ref hm), (1, .ref h0), (0, .ref b)]) hx hb dL_law_1199 hl (k := 0) rfl (by decide) (by decide) rfl ?_
  clear hl
  try clear ls
  intro ls hl
  refine lv_goto (tgt := 23) hx hb dL_law_1202 (by decide) ?_
  refine lv_iload hx hb dL_law_23 (lv_at hl 0 rfl) ?_
  refine lv_aload_n hx hb dL_law_25 rfl (lv_at hl 4 rfl) ?_
  refine va_slen hx hb hX hbl hbA hS dL_law_26 ?_
  refine lv_topi (nm_r (e' := nI 5) rfl ?_)
  refine lv_iconst (v := nI 5) hx hb dL_law_27 (by decide) ?_
  refine lv_isub hx hb dL_law_28 ?_
  refine lv_topi (nm_r (e' := nI 0) (by decide) ?_)
  refine lv_icmp_gt (tgt := 1205) hx hb dL_law_29 (by decide) (fun _ => ?_) (fun c => absurd (by decide) c)
  refine lv_iconst (v := nI 1) hx hb dL_law_1205 (by decide) ?_
  refine lv_topi (nm_r (e' := 1) rfl ?_)
  exact va_forget (fun q hq => hA2 _ (hS.2.2 q hq)) (W.widen (Nat.le_of_ble_eq_true rfl) (Nat.le_of_ble_eq_true rfl) (W.base (lw_ret (Drawn.sameBut.refl s.drawn lw_cs) hx hb C.2.2.2.2.2.1 C.2.2.2.2.2.2.1 dL_law_1206)))

set_option maxHeartbeats 4000000 in
set_option maxRecDepth 100000 in
theorem law_case_13 {p : Program} {e : Env} {s : State} {m : MethodId} {below : List Frame} {meth : Method} {c : Code} (l : Launch) (hfl : l.stackTraces = false) {D : va_G} {cs : Nat → ClassId} {A : Nat → Prop} {b : Nat} {xs : Nat → Int32} (C : xC p room_1 s m #[Value.ref b] meth c ⟨"SampleHouseLaw", meth.name, ""⟩ code 7 ret D cs A) (hTH : xTH s) (hZ0 : xZ A s s.heap) (hX : va_X b 5 xs s s.heap) (hbl : b < s.heap.size) (hbA : ¬ A b) (hA2 : ∀ q, A q → s.heap.size ≤ q) (hr hg hgr ha hpo hly hse hc pa spr qm sm ca nd kd lk vw gs g1r g2r gan gpr gde gme wk spa aga ona wk2 ab rb ob tb hp0 nd0 kd0 lk0 vw0 : Nat) (v sv v0 sv0 rw rl : Nat → Nat) (sg : Nat → Nat → Int32) (pf : Nat → Option Nat) (ms mkp mtr mas mso mon mot man mst msm mtb mti mfr mbn mbs mde maa mab mba mbb h0 hm out : Nat) (hpf : pf 0 = some hp0) {H : Heap} {locs : List Loc} {ls : Array Slot} (hP : va_P D vwCl [(h0, .inr (11, [.ref hr, .ref hg, .ref hgr, .ref ha, .ref hpo, .ref hly, .ref hse, .ref hc, .ref pa, .ref spr, .ref qm, .int (nI 0), .int (nI 0), .int (nI 0), .int (nI 0), .int (nI 1)])), (hr, .inr (7, [.int (nI 4), .int (nI 2), .int (nI 2), .int (nI 3), .int (nI 2), .int (nI 1), .ref sm, .int (nI 3), .ref ca])), (hg, .inr (4, [.ref nd, .ref kd, .ref lk, .ref vw])), (nd, .inl (cs 0, 8, .inl (fun _ => nI 0))), (kd, .inl (cs 0, 8, .inl (fun _ => nI 0))), (ha, .inr (0, [.ref hr, .ref hg, .int (nI 0), .int (nI 0), .int (nI 0)])), (hse, .inr (8, [.ref hr, .ref ha, .ref wk2, .null, .null, .null, .null, .int (nI 0), .int (nI 0), .int (nI 0)])), (hm, .inr (12, [.ref ms, .ref mkp, .int (nI 0), .ref mtr, .int (nI 4), .int (nI 2), .int (nI 2), .int (nI 3), .int (nI 2), .int (nI 1), .ref mas, .int (nI 0), .int (nI 0), .int (nI 0), .ref mso, .ref mon, .ref mot, .ref man, .int (nI 0), .int (nI 0), .ref mst, .ref msm, .ref mtb, .ref mti, .ref mfr, .ref mbn, .ref mbs, .ref mde, .int (nI 0), .int (nI 0), .int (nI 0), .int (nI 0), .long 0, .long 0, .ref maa, .ref mab, .ref mba, .ref mbb])), (ms, .inl (cs 0, 288, .inl freshS)), (mtr, .inl (cs 0, 288, .inl (fun _ => 0))), (mst, .inl (cs 5, 2, .inr (.inr (.inr (.inr (fun _ => none)))))), (msm, .inl (cs 0, 2, .inl (fun _ => 0))), (mtb, .inl (cs 5, 2, .inr (.inr (.inr (.inr (fun _ => none)))))), (mti, .inl (cs 6, 2, .inr (.inr (.inr (.inr (fun _ => none)))))), (mde, .inl (cs 0, 2001, .inl (fun _ => 0)))] H) (hD : va_D A [(h0, .inr (11, [.ref hr, .ref hg, .ref hgr, .ref ha, .ref hpo, .ref hly, .ref hse, .ref hc, .ref pa, .ref spr, .ref qm, .int (nI 0), .int (nI 0), .int (nI 0), .int (nI 0), .int (nI 1)])), (hr, .inr (7, [.int (nI 4), .int (nI 2), .int (nI 2), .int (nI 3), .int (nI 2), .int (nI 1), .ref sm, .int (nI 3), .ref ca])), (hg, .inr (4, [.ref nd, .ref kd, .ref lk, .ref vw])), (nd, .inl (cs 0, 8, .inl (fun _ => nI 0))), (kd, .inl (cs 0, 8, .inl (fun _ => nI 0))), (ha, .inr (0, [.ref hr, .ref hg, .int (nI 0), .int (nI 0), .int (nI 0)])), (hse, .inr (8, [.ref hr, .ref ha, .ref wk2, .null, .null, .null, .null, .int (nI 0), .int (nI 0), .int (nI 0)])), (hm, .inr (12, [.ref ms, .ref mkp, .int (nI 0), .ref mtr, .int (nI 4), .int (nI 2), .int (nI 2), .int (nI 3), .int (nI 2), .int (nI 1), .ref mas, .int (nI 0), .int (nI 0), .int (nI 0), .ref mso, .ref mon, .ref mot, .ref man, .int (nI 0), .int (nI 0), .ref mst, .ref msm, .ref mtb, .ref mti, .ref mfr, .ref mbn, .ref mbs, .ref mde, .int (nI 0), .int (nI 0), .int (nI 0), .int (nI 0), .long 0, .long 0, .ref maa, .ref mab, .ref mba, .ref mbb])), (ms, .inl (cs 0, 288, .inl freshS)), (mtr, .inl (cs 0, 288, .inl (fun _ => 0))), (mst, .inl (cs 5, 2, .inr (.inr (.inr (.inr (fun _ => none)))))), (msm, .inl (cs 0, 2, .inl (fun _ => 0))), (mtb, .inl (cs 5, 2, .inr (.inr (.inr (.inr (fun _ => none)))))), (mti, .inl (cs 6, 2, .inr (.inr (.inr (.inr (fun _ => none)))))), (mde, .inl (cs 0, 2001, .inl (fun _ => 0)))]) (hS : va_S A s.heap H locs) (hl : lv_has ls 7 [(4, .int (nI 0)), (3, .ref out), (2, .ref hm), (1, .ref h0), (0, .ref b)]) : W p l e room_1 s m #[Value.ref b] below meth c H locs 261 14585 (lw_Z below #[Value.ref b] s) (F0 m 655 ls []) := by
  have hx := C.1
  have hb := C.2.1
  have hz := C.2.2.2.2.1
  have hown := C.2.2.2.1
  have hA := C.2.2.2.2.2.2.2.2.2
  have hAO := C.2.2.2.2.2.2.2.2.1.2.2
  refine lv_aload_n hx hb dL_law_655 rfl (lv_at hl 3 rfl) ?_
  refine xi (wr := [(hm, .inr (12, [.ref ms, .ref mkp, .int (nI 0), .ref mtr, .int (nI 4), .int (nI 2), .int (nI 2), .int (nI 3), .int (nI 2), .int (nI 1), .ref mas, .int (nI 0), .int (nI 0), .int (nI 0), .ref mso, .ref mon, .ref mot, .ref man, .int (nI 0), .int (nI 0), .ref mst, .ref msm, .ref mtb, .ref mti, .ref mfr, .ref mbn, .ref mbs, .ref mde, .int (nI 0), .int (nI 0), .int (nI 0), .int (nI 0), .long 0, .long 0, .ref maa, .ref mab, .ref mba, .ref mbb])), (ms, .inl (cs 0, 288, .inl freshS)), (mtr, .inl (cs 0, 288, .inl (fun _ => 0))), (mst, .inl (cs 5, 2, .inr (.inr (.inr (.inr (fun _ => none)))))), (msm, .inl (cs 0, 2, .inl (fun _ => 0))), (mtb, .inl (cs 5, 2, .inr (.inr (.inr (.inr (fun _ => none)))))), (mti, .inl (cs 6, 2, .inr (.inr (.inr (.inr (fun _ => none)))))), (mde, .inl (cs 0, 2001, .inl (fun _ => 0)))]) (xV (As := []) (rest := []) C (c_X11_soonest_z l D cs h0 hr hg hgr ha hpo hly hse hc pa spr qm (nI 0) (nI 1) sm ca (nI 0) (nI 0) (nI 0) nd kd lk vw wk2 (nI 0) (nI 0) (nI 0)) kL_80 hP hD [0, 1, 5, 6, 2, 4, 3] rfl (by decide +kernel) 0 rfl rfl rfl ⟨Nat.le_of_ble_eq_true rfl, Nat.le_of_ble_eq_true rfl⟩ rfl hl.1 rfl (Nat.le_of_ble_eq_true rfl) dL_law_656 ⟨Nat.le_of_ble_eq_true rfl, Nat.le_of_ble_eq_true rfl⟩) hP hD hS hA [0, 1, 5, 6, 2, 4, 3] [7, 8, 9, 10, 11, 12, 13, 14] rfl rfl (by decide +kernel) (by decide +kernel) ?_
  clear hP hD hS
  try clear locs
  try clear H
  intro r_1 u_2 H locs hw_r_1 hP hD hS
  have hw_r_1 : r_1 = -1 := hw_r_1
  refine W.widen (k := 267) (n := 40695) (Nat.le_of_ble_eq_true rfl) (Nat.le_of_ble_eq_true rfl) ?_
  replace hP : va_P D vwCl [(hm, .inr (12, [.ref ms, .ref mkp, .int (nI 0), .ref mtr, .int (nI 4), .int (nI 2), .int (nI 2), .int (nI 3), .int (nI 2), .int (nI 1), .ref mas, .int (nI 0), .int (nI 0), .int (nI 0), .ref mso, .ref mon, .ref mot, .ref man, .int (nI 0), .int (nI 0), .ref mst, .ref msm, .ref mtb, .ref mti, .ref mfr, .ref mbn, .ref mbs, .ref mde, .int (nI 0), .int (nI 0), .int (nI 0), .int (nI 0), .long 0, .long 0, .ref maa, .ref mab, .ref mba, .ref mbb])), (ms, .inl (cs 0, 288, .inl freshS)), (mtr, .inl (cs 0, 288, .inl (fun _ => 0))), (mst, .inl (cs 5, 2, .inr (.inr (.inr (.inr (fun _ => none)))))), (msm, .inl (cs 0, 2, .inl (fun _ => 0))), (mtb, .inl (cs 5, 2, .inr (.inr (.inr (.inr (fun _ => none)))))), (mti, .inl (cs 6, 2, .inr (.inr (.inr (.inr (fun _ => none)))))), (mde, .inl (cs 0, 2001, .inl (fun _ => 0)))] H := hP
  replace hD : va_D A [(hm, .inr (12, [.ref ms, .ref mkp, .int (nI 0), .ref mtr, .int (nI 4), .int (nI 2), .int (nI 2), .int (nI 3), .int (nI 2), .int (nI 1), .ref mas, .int (nI 0), .int (nI 0), .int (nI 0), .ref mso, .ref mon, .ref mot, .ref man, .int (nI 0), .int (nI 0), .ref mst, .ref msm, .ref mtb, .ref mti, .ref mfr, .ref mbn, .ref mbs, .ref mde, .int (nI 0), .int (nI 0), .int (nI 0), .int (nI 0), .long 0, .long 0, .ref maa, .ref mab, .ref mba, .ref mbb])), (ms, .inl (cs 0, 288, .inl freshS)), (mtr, .inl (cs 0, 288, .inl (fun _ => 0))), (mst, .inl (cs 5, 2, .inr (.inr (.inr (.inr (fun _ => none)))))), (msm, .inl (cs 0, 2, .inl (fun _ => 0))), (mtb, .inl (cs 5, 2, .inr (.inr (.inr (.inr (fun _ => none)))))), (mti, .inl (cs 6, 2, .inr (.inr (.inr (.inr (fun _ => none)))))), (mde, .inl (cs 0, 2001, .inl (fun _ => 0)))] := hD
  refine lv_aload_n hx hb dL_law_659 rfl (lv_at hl 2 rfl) ?_
  refine xi (wr := []) (xV (As := []) (rest := [.int r_1]) C (c_X12_soonest l D cs hm ms mkp mtr mas mso mon mot man mst msm mtb mti mfr mbn mbs mde maa mab mba mbb (fun _ => 0) (fun _ => 0)) kL_84 hP hD [0, 1, 2, 4, 3, 5, 6, 7] rfl (by decide +kernel) 0 rfl rfl rfl ⟨Nat.le_of_ble_eq_true rfl, Nat.le_of_ble_eq_true rfl⟩ rfl hl.1 rfl (Nat.le_of_ble_eq_true rfl) dL_law_660 ⟨Nat.le_of_ble_eq_true rfl, Nat.le_of_ble_eq_true rfl⟩) hP hD hS hA [0, 1, 2, 4, 3, 5, 6, 7] [] rfl rfl (by decide +kernel) (by decide +kernel) ?_
  clear hP hD hS
  try clear locs
  try clear H
  intro r_3 u_4 H locs hw_r_3 hP hD hS
  have hw_r_3 : r_3 = -1 := hw_r_3
  refine W.widen (k := 273) (n := 253177) (Nat.le_of_ble_eq_true rfl) (Nat.le_of_ble_eq_true rfl) ?_
  replace hP : va_P D vwCl [] H := hP
  replace hD : va_D A [] := hD
  refine lv_icmp_eq (tgt := 1199) hx hb dL_law_663 (by decide) (fun _ => ?_) (fun c => absurd (hw_r_1.trans hw_r_3.symm) c)
  refine lv_iinc (v := nI 5) (lv' := [(4, .int (nI 5)), (3, .ref out), (2, .ref hm), (1, .ref h0), (0, .ref b)]) hx hb dL_law_1199 hl (k := 0) rfl (by decide) (by decide) rfl ?_
  clear hl
  try clear ls
  intro ls hl
  refine lv_goto (tgt := 23) hx hb dL_law_1202 (by decide) ?_
  refine lv_iload hx hb dL_law_23 (lv_at hl 0 rfl) ?_
  refine lv_aload_n hx hb dL_law_25 rfl (lv_at hl 4 rfl) ?_
  refine va_slen hx hb hX hbl hbA hS dL_law_26 ?_
  refine lv_topi (nm_r (e' := nI 5) rfl ?_)
  refine lv_iconst (v := nI 5) hx hb dL_law_27 (by decide) ?_
  refine lv_isub hx hb dL_law_28 ?_
  refine lv_topi (nm_r (e' := nI 0) (by decide) ?_)
  refine lv_icmp_gt (tgt := 1205) hx hb dL_law_29 (by decide) (fun _ => ?_) (fun c => absurd (by decide) c)
  refine lv_iconst (v := nI 1) hx hb dL_law_1205 (by decide) ?_
  refine lv_topi (nm_r (e' := 1) rfl ?_)
  exact va_forget (fun q hq => hA2 _ (hS.2.2 q hq)) (W.widen (Nat.le_of_ble_eq_true rfl) (Nat.le_of_ble_eq_true rfl) (W.base (lw_ret (Drawn.sameBut.refl s.drawn lw_cs) hx hb C.2.2.2.2.2.1 C.2.2.2.2.2.2.1 dL_law_1206)))

set_option maxHeartbeats 4000000 in
set_option maxRecDepth 100000 in
theorem law_case_14 {p : Program} {e : Env} {s : State} {m : MethodId} {below : List Frame} {meth : Method} {c : Code} (l : Launch) (hfl : l.stackTraces = false) {D : va_G} {cs : Nat → ClassId} {A : Nat → Prop} {b : Nat} {xs : Nat → Int32} (C : xC p room_1 s m #[Value.ref b] meth c ⟨"SampleHouseLaw", meth.name, ""⟩ code 7 ret D cs A) (hTH : xTH s) (hZ0 : xZ A s s.heap) (hX : va_X b 5 xs s s.heap) (hbl : b < s.heap.size) (hbA : ¬ A b) (hA2 : ∀ q, A q → s.heap.size ≤ q) (hr hg hgr ha hpo hly hse hc pa spr qm sm ca nd kd lk vw gs g1r g2r gan gpr gde gme wk spa aga ona wk2 ab rb ob tb hp0 nd0 kd0 lk0 vw0 : Nat) (v sv v0 sv0 rw rl : Nat → Nat) (sg : Nat → Nat → Int32) (pf : Nat → Option Nat) (ms mkp mtr mas mso mon mot man mst msm mtb mti mfr mbn mbs mde maa mab mba mbb h0 hm out : Nat) (hpf : pf 0 = some hp0) {H : Heap} {locs : List Loc} {ls : Array Slot} (hP : va_P D vwCl [(h0, .inr (11, [.ref hr, .ref hg, .ref hgr, .ref ha, .ref hpo, .ref hly, .ref hse, .ref hc, .ref pa, .ref spr, .ref qm, .int (nI 0), .int (nI 0), .int (nI 0), .int (nI 0), .int (nI 1)])), (hr, .inr (7, [.int (nI 4), .int (nI 2), .int (nI 2), .int (nI 3), .int (nI 2), .int (nI 1), .ref sm, .int (nI 3), .ref ca])), (hg, .inr (4, [.ref nd, .ref kd, .ref lk, .ref vw])), (nd, .inl (cs 0, 8, .inl (fun _ => nI 0))), (kd, .inl (cs 0, 8, .inl (fun _ => nI 0))), (ha, .inr (0, [.ref hr, .ref hg, .int (nI 0), .int (nI 0), .int (nI 0)])), (hse, .inr (8, [.ref hr, .ref ha, .ref wk2, .null, .null, .null, .null, .int (nI 0), .int (nI 0), .int (nI 0)])), (hm, .inr (12, [.ref ms, .ref mkp, .int (nI 0), .ref mtr, .int (nI 4), .int (nI 2), .int (nI 2), .int (nI 3), .int (nI 2), .int (nI 1), .ref mas, .int (nI 0), .int (nI 0), .int (nI 0), .ref mso, .ref mon, .ref mot, .ref man, .int (nI 0), .int (nI 0), .ref mst, .ref msm, .ref mtb, .ref mti, .ref mfr, .ref mbn, .ref mbs, .ref mde, .int (nI 0), .int (nI 0), .int (nI 0), .int (nI 0), .long 0, .long 0, .ref maa, .ref mab, .ref mba, .ref mbb])), (ms, .inl (cs 0, 288, .inl freshS)), (mtr, .inl (cs 0, 288, .inl (fun _ => 0))), (mst, .inl (cs 5, 2, .inr (.inr (.inr (.inr (fun _ => none)))))), (msm, .inl (cs 0, 2, .inl (fun _ => 0))), (mtb, .inl (cs 5, 2, .inr (.inr (.inr (.inr (fun _ => none)))))), (mti, .inl (cs 6, 2, .inr (.inr (.inr (.inr (fun _ => none)))))), (mde, .inl (cs 0, 2001, .inl (fun _ => 0)))] H) (hD : va_D A [(h0, .inr (11, [.ref hr, .ref hg, .ref hgr, .ref ha, .ref hpo, .ref hly, .ref hse, .ref hc, .ref pa, .ref spr, .ref qm, .int (nI 0), .int (nI 0), .int (nI 0), .int (nI 0), .int (nI 1)])), (hr, .inr (7, [.int (nI 4), .int (nI 2), .int (nI 2), .int (nI 3), .int (nI 2), .int (nI 1), .ref sm, .int (nI 3), .ref ca])), (hg, .inr (4, [.ref nd, .ref kd, .ref lk, .ref vw])), (nd, .inl (cs 0, 8, .inl (fun _ => nI 0))), (kd, .inl (cs 0, 8, .inl (fun _ => nI 0))), (ha, .inr (0, [.ref hr, .ref hg, .int (nI 0), .int (nI 0), .int (nI 0)])), (hse, .inr (8, [.ref hr, .ref ha, .ref wk2, .null, .null, .null, .null, .int (nI 0), .int (nI 0), .int (nI 0)])), (hm, .inr (12, [.ref ms, .ref mkp, .int (nI 0), .ref mtr, .int (nI 4), .int (nI 2), .int (nI 2), .int (nI 3), .int (nI 2), .int (nI 1), .ref mas, .int (nI 0), .int (nI 0), .int (nI 0), .ref mso, .ref mon, .ref mot, .ref man, .int (nI 0), .int (nI 0), .ref mst, .ref msm, .ref mtb, .ref mti, .ref mfr, .ref mbn, .ref mbs, .ref mde, .int (nI 0), .int (nI 0), .int (nI 0), .int (nI 0), .long 0, .long 0, .ref maa, .ref mab, .ref mba, .ref mbb])), (ms, .inl (cs 0, 288, .inl freshS)), (mtr, .inl (cs 0, 288, .inl (fun _ => 0))), (mst, .inl (cs 5, 2, .inr (.inr (.inr (.inr (fun _ => none)))))), (msm, .inl (cs 0, 2, .inl (fun _ => 0))), (mtb, .inl (cs 5, 2, .inr (.inr (.inr (.inr (fun _ => none)))))), (mti, .inl (cs 6, 2, .inr (.inr (.inr (.inr (fun _ => none)))))), (mde, .inl (cs 0, 2001, .inl (fun _ => 0)))]) (hS : va_S A s.heap H locs) (hl : lv_has ls 7 [(4, .int (nI 0)), (3, .ref out), (2, .ref hm), (1, .ref h0), (0, .ref b)]) : W p l e room_1 s m #[Value.ref b] below meth c H locs 261 14585 (lw_Z below #[Value.ref b] s) (F0 m 668 ls []) := by
  have hx := C.1
  have hb := C.2.1
  have hz := C.2.2.2.2.1
  have hown := C.2.2.2.1
  have hA := C.2.2.2.2.2.2.2.2.2
  have hAO := C.2.2.2.2.2.2.2.2.1.2.2
  refine lv_aload_n hx hb dL_law_668 rfl (lv_at hl 3 rfl) ?_
  refine lv_aload_n hx hb dL_law_669 rfl (lv_at hl 4 rfl) ?_
  refine lv_iload hx hb dL_law_670 (lv_at hl 0 rfl) ?_
  refine lv_iconst (v := nI 1) hx hb dL_law_672 (by decide) ?_
  refine lv_iadd hx hb dL_law_673 ?_
  refine lv_topi (nm_r (e' := nI 1) (by decide) ?_)
  refine va_sld hx hb hX hbl hbA hS (pk_in 1 5 (by decide)) dL_law_674 ?_
  refine lv_topi (nm_r (e' := xs 1) (by rw [nI_clamp (by decide)]) ?_)
  refine lv_aload_n hx hb dL_law_675 rfl (lv_at hl 4 rfl) ?_
  refine lv_iload hx hb dL_law_676 (lv_at hl 0 rfl) ?_
  refine lv_iconst (v := nI 2) hx hb dL_law_678 (by decide) ?_
  refine lv_iadd hx hb dL_law_679 ?_
  refine lv_topi (nm_r (e' := nI 2) (by decide) ?_)
  refine va_sld hx hb hX hbl hbA hS (pk_in 2 5 (by decide)) dL_law_680 ?_
  refine lv_topi (nm_r (e' := xs 2) (by rw [nI_clamp (by decide)]) ?_)
  refine xi (wr := [(hm, .inr (12, [.ref ms, .ref mkp, .int (nI 0), .ref mtr, .int (nI 4), .int (nI 2), .int (nI 2), .int (nI 3), .int (nI 2), .int (nI 1), .ref mas, .int (nI 0), .int (nI 0), .int (nI 0), .ref mso, .ref mon, .ref mot, .ref man, .int (nI 0), .int (nI 0), .ref mst, .ref msm, .ref mtb, .ref mti, .ref mfr, .ref mbn, .ref mbs, .ref mde, .int (nI 0), .int (nI 0), .int (nI 0), .int (nI 0), .long 0, .long 0, .ref maa, .ref mab, .ref mba, .ref mbb])), (ms, .inl (cs 0, 288, .inl freshS)), (mtr, .inl (cs 0, 288, .inl (fun _ => 0))), (mst, .inl (cs 5, 2, .inr (.inr (.inr (.inr (fun _ => none)))))), (msm, .inl (cs 0, 2, .inl (fun _ => 0))), (mtb, .inl (cs 5, 2, .inr (.inr (.inr (.inr (fun _ => none)))))), (mti, .inl (cs 6, 2, .inr (.inr (.inr (.inr (fun _ => none)))))), (mde, .inl (cs 0, 2001, .inl (fun _ => 0)))]) (xV (As := [.int (xs 1), .int (xs 2)]) (rest := []) C (c_X11_way_z l D cs h0 hr hg hgr ha hpo hly hse hc pa spr qm (nI 0) (nI 1) sm ca (nI 0) (nI 0) (nI 0) nd kd lk vw wk2 (nI 0) (nI 0) (nI 0) (xs 1) (xs 2)) kL_85 hP hD [0, 1, 5, 6, 2, 4, 3] rfl (by decide +kernel) 0 rfl rfl rfl ⟨Nat.le_of_ble_eq_true rfl, Nat.le_of_ble_eq_true rfl⟩ rfl hl.1 rfl (Nat.le_of_ble_eq_true rfl) dL_law_681 ⟨Nat.le_of_ble_eq_true rfl, Nat.le_of_ble_eq_true rfl⟩) hP hD hS hA [0, 1, 5, 6, 2, 4, 3] [7, 8, 9, 10, 11, 12, 13, 14] rfl rfl (by decide +kernel) (by decide +kernel) ?_
  clear hP hD hS
  try clear locs
  try clear H
  intro r_1 u_2 H locs hw_r_1 hP hD hS
  have hw_r_1 : r_1 = -2 := hw_r_1
  refine W.widen (k := 267) (n := 40695) (Nat.le_of_ble_eq_true rfl) (Nat.le_of_ble_eq_true rfl) ?_
  replace hP : va_P D vwCl [(hm, .inr (12, [.ref ms, .ref mkp, .int (nI 0), .ref mtr, .int (nI 4), .int (nI 2), .int (nI 2), .int (nI 3), .int (nI 2), .int (nI 1), .ref mas, .int (nI 0), .int (nI 0), .int (nI 0), .ref mso, .ref mon, .ref mot, .ref man, .int (nI 0), .int (nI 0), .ref mst, .ref msm, .ref mtb, .ref mti, .ref mfr, .ref mbn, .ref mbs, .ref mde, .int (nI 0), .int (nI 0), .int (nI 0), .int (nI 0), .long 0, .long 0, .ref maa, .ref mab, .ref mba, .ref mbb])), (ms, .inl (cs 0, 288, .inl freshS)), (mtr, .inl (cs 0, 288, .inl (fun _ => 0))), (mst, .inl (cs 5, 2, .inr (.inr (.inr (.inr (fun _ => none)))))), (msm, .inl (cs 0, 2, .inl (fun _ => 0))), (mtb, .inl (cs 5, 2, .inr (.inr (.inr (.inr (fun _ => none)))))), (mti, .inl (cs 6, 2, .inr (.inr (.inr (.inr (fun _ => none)))))), (mde, .inl (cs 0, 2001, .inl (fun _ => 0)))] H := hP
  replace hD : va_D A [(hm, .inr (12, [.ref ms, .ref mkp, .int (nI 0), .ref mtr, .int (nI 4), .int (nI 2), .int (nI 2), .int (nI 3), .int (nI 2), .int (nI 1), .ref mas, .int (nI 0), .int (nI 0), .int (nI 0), .ref mso, .ref mon, .ref mot, .ref man, .int (nI 0), .int (nI 0), .ref mst, .ref msm, .ref mtb, .ref mti, .ref mfr, .ref mbn, .ref mbs, .ref mde, .int (nI 0), .int (nI 0), .int (nI 0), .int (nI 0), .long 0, .long 0, .ref maa, .ref mab, .ref mba, .ref mbb])), (ms, .inl (cs 0, 288, .inl freshS)), (mtr, .inl (cs 0, 288, .inl (fun _ => 0))), (mst, .inl (cs 5, 2, .inr (.inr (.inr (.inr (fun _ => none)))))), (msm, .inl (cs 0, 2, .inl (fun _ => 0))), (mtb, .inl (cs 5, 2, .inr (.inr (.inr (.inr (fun _ => none)))))), (mti, .inl (cs 6, 2, .inr (.inr (.inr (.inr (fun _ => none)))))), (mde, .inl (cs 0, 2001, .inl (fun _ => 0)))] := hD
  refine lv_aload_n hx hb dL_law_684 rfl (lv_at hl 2 rfl) ?_
  refine lv_aload_n hx hb dL_law_685 rfl (lv_at hl 4 rfl) ?_
  refine lv_iload hx hb dL_law_686 (lv_at hl 0 rfl) ?_
  refine lv_iconst (v := nI 1) hx hb dL_law_688 (by decide) ?_
  refine lv_iadd hx hb dL_law_689 ?_
  refine lv_topi (nm_r (e' := nI 1) (by decide) ?_)
  refine va_sld hx hb hX hbl hbA hS (pk_in 1 5 (by decide)) dL_law_690 ?_
  refine lv_topi (nm_r (e' := xs 1) (by rw [nI_clamp (by decide)]) ?_)
  refine lv_aload_n hx hb dL_law_691 rfl (lv_at hl 4 rfl) ?_
  refine lv_iload hx hb dL_law_692 (lv_at hl 0 rfl) ?_
  refine lv_iconst (v := nI 2) hx hb dL_law_694 (by decide) ?_
  refine lv_iadd hx hb dL_law_695 ?_
  refine lv_topi (nm_r (e' := nI 2) (by decide) ?_)
  refine va_sld hx hb hX hbl hbA hS (pk_in 2 5 (by decide)) dL_law_696 ?_
  refine lv_topi (nm_r (e' := xs 2) (by rw [nI_clamp (by decide)]) ?_)
  refine xi (wr := []) (xV (As := [.int (xs 1), .int (xs 2)]) (rest := [.int r_1]) C (c_X12_way l D cs hm ms mkp mtr mas mso mon mot man mst msm mtb mti mfr mbn mbs mde maa mab mba mbb (fun _ => 0) (fun _ => 0) (xs 1) (xs 2)) kL_88 hP hD [0, 1, 2, 4, 3, 5, 6, 7] rfl (by decide +kernel) 0 rfl rfl rfl ⟨Nat.le_of_ble_eq_true rfl, Nat.le_of_ble_eq_true rfl⟩ rfl hl.1 rfl (Nat.le_of_ble_eq_true rfl) dL_law_697 ⟨Nat.le_of_ble_eq_true rfl, Nat.le_of_ble_eq_true rfl⟩) hP hD hS hA [0, 1, 2, 4, 3, 5, 6, 7] [] rfl rfl (by decide +kernel) (by decide +kernel) ?_
  clear hP hD hS
  try clear locs
  try clear H
  intro r_3 u_4 H locs hw_r_3 hP hD hS
  have hw_r_3 : r_3 = -2 := hw_r_3
  refine W.widen (k := 273) (n := 253177) (Nat.le_of_ble_eq_true rfl) (Nat.le_of_ble_eq_true rfl) ?_
  replace hP : va_P D vwCl [] H := hP
  replace hD : va_D A [] := hD
  refine lv_icmp_eq (tgt := 1199) hx hb dL_law_700 (by decide) (fun _ => ?_) (fun c => absurd (hw_r_1.trans hw_r_3.symm) c)
  refine lv_iinc (v := nI 5) (lv' := [(4, .int (nI 5)), (3, .ref out), (2, .ref hm), (1, .ref h0), (0, .ref b)]) hx hb dL_law_1199 hl (k := 0) rfl (by decide) (by decide) rfl ?_
  clear hl
  try clear ls
  intro ls hl
  refine lv_goto (tgt := 23) hx hb dL_law_1202 (by decide) ?_
  refine lv_iload hx hb dL_law_23 (lv_at hl 0 rfl) ?_
  refine lv_aload_n hx hb dL_law_25 rfl (lv_at hl 4 rfl) ?_
  refine va_slen hx hb hX hbl hbA hS dL_law_26 ?_
  refine lv_topi (nm_r (e' := nI 5) rfl ?_)
  refine lv_iconst (v := nI 5) hx hb dL_law_27 (by decide) ?_
  refine lv_isub hx hb dL_law_28 ?_
  refine lv_topi (nm_r (e' := nI 0) (by decide) ?_)
  refine lv_icmp_gt (tgt := 1205) hx hb dL_law_29 (by decide) (fun _ => ?_) (fun c => absurd (by decide) c)
  refine lv_iconst (v := nI 1) hx hb dL_law_1205 (by decide) ?_
  refine lv_topi (nm_r (e' := 1) rfl ?_)
  exact va_forget (fun q hq => hA2 _ (hS.2.2 q hq)) (W.widen (Nat.le_of_ble_eq_true rfl) (Nat.le_of_ble_eq_true rfl) (W.base (lw_ret (Drawn.sameBut.refl s.drawn lw_cs) hx hb C.2.2.2.2.2.1 C.2.2.2.2.2.2.1 dL_law_1206)))

set_option maxHeartbeats 4000000 in
set_option maxRecDepth 100000 in
theorem law_case_15 {p : Program} {e : Env} {s : State} {m : MethodId} {below : List Frame} {meth : Method} {c : Code} (l : Launch) (hfl : l.stackTraces = false) {D : va_G} {cs : Nat → ClassId} {A : Nat → Prop} {b : Nat} {xs : Nat → Int32} (C : xC p room_1 s m #[Value.ref b] meth c ⟨"SampleHouseLaw", meth.name, ""⟩ code 7 ret D cs A) (hTH : xTH s) (hZ0 : xZ A s s.heap) (hX : va_X b 5 xs s s.heap) (hbl : b < s.heap.size) (hbA : ¬ A b) (hA2 : ∀ q, A q → s.heap.size ≤ q) (hr hg hgr ha hpo hly hse hc pa spr qm sm ca nd kd lk vw gs g1r g2r gan gpr gde gme wk spa aga ona wk2 ab rb ob tb hp0 nd0 kd0 lk0 vw0 : Nat) (v sv v0 sv0 rw rl : Nat → Nat) (sg : Nat → Nat → Int32) (pf : Nat → Option Nat) (ms mkp mtr mas mso mon mot man mst msm mtb mti mfr mbn mbs mde maa mab mba mbb h0 hm out : Nat) (hpf : pf 0 = some hp0) {H : Heap} {locs : List Loc} {ls : Array Slot} (hP : va_P D vwCl [(h0, .inr (11, [.ref hr, .ref hg, .ref hgr, .ref ha, .ref hpo, .ref hly, .ref hse, .ref hc, .ref pa, .ref spr, .ref qm, .int (nI 0), .int (nI 0), .int (nI 0), .int (nI 0), .int (nI 1)])), (hr, .inr (7, [.int (nI 4), .int (nI 2), .int (nI 2), .int (nI 3), .int (nI 2), .int (nI 1), .ref sm, .int (nI 3), .ref ca])), (ca, .inl (cs 0, 8, .inl (fcF 4 2 2 (fun _ => 0) 4))), (hc, .inr (1, [.ref hr, .ref ab, .ref rb, .ref ob, .ref tb, .int (nI 0)])), (ab, .inl (cs 4, 9, .inr (.inr (.inr (.inr (fun _ => none)))))), (rb, .inl (cs 4, 9, .inr (.inr (.inr (.inr (fun _ => none)))))), (ob, .inl (cs 4, 9, .inr (.inr (.inr (.inr (fun _ => none)))))), (tb, .inl (cs 4, 9, .inr (.inr (.inr (.inr (fun _ => none)))))), (hm, .inr (12, [.ref ms, .ref mkp, .int (nI 0), .ref mtr, .int (nI 4), .int (nI 2), .int (nI 2), .int (nI 3), .int (nI 2), .int (nI 1), .ref mas, .int (nI 0), .int (nI 0), .int (nI 0), .ref mso, .ref mon, .ref mot, .ref man, .int (nI 0), .int (nI 0), .ref mst, .ref msm, .ref mtb, .ref mti, .ref mfr, .ref mbn, .ref mbs, .ref mde, .int (nI 0), .int (nI 0), .int (nI 0), .int (nI 0), .long 0, .long 0, .ref maa, .ref mab, .ref mba, .ref mbb])), (maa, .inl (cs 1, 9, .inr (.inl (fun _ => 0)))), (mab, .inl (cs 1, 9, .inr (.inl (fun _ => 0)))), (mba, .inl (cs 1, 9, .inr (.inl (fun _ => 0)))), (mbb, .inl (cs 1, 9, .inr (.inl (fun _ => 0))))] H) (hD : va_D A [(h0, .inr (11, [.ref hr, .ref hg, .ref hgr, .ref ha, .ref hpo, .ref hly, .ref hse, .ref hc, .ref pa, .ref spr, .ref qm, .int (nI 0), .int (nI 0), .int (nI 0), .int (nI 0), .int (nI 1)])), (hr, .inr (7, [.int (nI 4), .int (nI 2), .int (nI 2), .int (nI 3), .int (nI 2), .int (nI 1), .ref sm, .int (nI 3), .ref ca])), (ca, .inl (cs 0, 8, .inl (fcF 4 2 2 (fun _ => 0) 4))), (hc, .inr (1, [.ref hr, .ref ab, .ref rb, .ref ob, .ref tb, .int (nI 0)])), (ab, .inl (cs 4, 9, .inr (.inr (.inr (.inr (fun _ => none)))))), (rb, .inl (cs 4, 9, .inr (.inr (.inr (.inr (fun _ => none)))))), (ob, .inl (cs 4, 9, .inr (.inr (.inr (.inr (fun _ => none)))))), (tb, .inl (cs 4, 9, .inr (.inr (.inr (.inr (fun _ => none)))))), (hm, .inr (12, [.ref ms, .ref mkp, .int (nI 0), .ref mtr, .int (nI 4), .int (nI 2), .int (nI 2), .int (nI 3), .int (nI 2), .int (nI 1), .ref mas, .int (nI 0), .int (nI 0), .int (nI 0), .ref mso, .ref mon, .ref mot, .ref man, .int (nI 0), .int (nI 0), .ref mst, .ref msm, .ref mtb, .ref mti, .ref mfr, .ref mbn, .ref mbs, .ref mde, .int (nI 0), .int (nI 0), .int (nI 0), .int (nI 0), .long 0, .long 0, .ref maa, .ref mab, .ref mba, .ref mbb])), (maa, .inl (cs 1, 9, .inr (.inl (fun _ => 0)))), (mab, .inl (cs 1, 9, .inr (.inl (fun _ => 0)))), (mba, .inl (cs 1, 9, .inr (.inl (fun _ => 0)))), (mbb, .inl (cs 1, 9, .inr (.inl (fun _ => 0))))]) (hS : va_S A s.heap H locs) (hl : lv_has ls 7 [(4, .int (nI 0)), (3, .ref out), (2, .ref hm), (1, .ref h0), (0, .ref b)]) : W p l e room_1 s m #[Value.ref b] below meth c H locs 261 14585 (lw_Z below #[Value.ref b] s) (F0 m 705 ls []) := by
  have hx := C.1
  have hb := C.2.1
  have hz := C.2.2.2.2.1
  have hown := C.2.2.2.1
  have hA := C.2.2.2.2.2.2.2.2.2
  have hAO := C.2.2.2.2.2.2.2.2.1.2.2
  refine lv_aload_n hx hb dL_law_705 rfl (lv_at hl 3 rfl) ?_
  refine lv_aload_n hx hb dL_law_706 rfl (lv_at hl 4 rfl) ?_
  refine lv_iload hx hb dL_law_707 (lv_at hl 0 rfl) ?_
  refine lv_iconst (v := nI 1) hx hb dL_law_709 (by decide) ?_
  refine lv_iadd hx hb dL_law_710 ?_
  refine lv_topi (nm_r (e' := nI 1) (by decide) ?_)
  refine va_sld hx hb hX hbl hbA hS (pk_in 1 5 (by decide)) dL_law_711 ?_
  refine lv_topi (nm_r (e' := xs 1) (by rw [nI_clamp (by decide)]) ?_)
  refine lv_aload_n hx hb dL_law_712 rfl (lv_at hl 4 rfl) ?_
  refine lv_iload hx hb dL_law_713 (lv_at hl 0 rfl) ?_
  refine lv_iconst (v := nI 2) hx hb dL_law_715 (by decide) ?_
  refine lv_iadd hx hb dL_law_716 ?_
  refine lv_topi (nm_r (e' := nI 2) (by decide) ?_)
  refine va_sld hx hb hX hbl hbA hS (pk_in 2 5 (by decide)) dL_law_717 ?_
  refine lv_topi (nm_r (e' := xs 2) (by rw [nI_clamp (by decide)]) ?_)
  refine xl (wr := [(hm, .inr (12, [.ref ms, .ref mkp, .int (nI 0), .ref mtr, .int (nI 4), .int (nI 2), .int (nI 2), .int (nI 3), .int (nI 2), .int (nI 1), .ref mas, .int (nI 0), .int (nI 0), .int (nI 0), .ref mso, .ref mon, .ref mot, .ref man, .int (nI 0), .int (nI 0), .ref mst, .ref msm, .ref mtb, .ref mti, .ref mfr, .ref mbn, .ref mbs, .ref mde, .int (nI 0), .int (nI 0), .int (nI 0), .int (nI 0), .long 0, .long 0, .ref maa, .ref mab, .ref mba, .ref mbb])), (maa, .inl (cs 1, 9, .inr (.inl (fun _ => 0)))), (mab, .inl (cs 1, 9, .inr (.inl (fun _ => 0)))), (mba, .inl (cs 1, 9, .inr (.inl (fun _ => 0)))), (mbb, .inl (cs 1, 9, .inr (.inl (fun _ => 0))))]) (xV (As := [.int (xs 1), .int (xs 2)]) (rest := []) C (c_X11_chain_z l D cs h0 hr hg hgr ha hpo hly hse hc pa spr qm (nI 0) (nI 1) sm ca ab rb ob tb (fun _ => none) (fun _ => none) (fun _ => none) (fun _ => none) (xs 1) (xs 2)) kL_89 hP hD [0, 1, 2, 3, 4, 5, 6, 7] rfl (by decide +kernel) 0 rfl rfl rfl ⟨Nat.le_of_ble_eq_true rfl, Nat.le_of_ble_eq_true rfl⟩ rfl hl.1 rfl (Nat.le_of_ble_eq_true rfl) dL_law_718 ⟨Nat.le_of_ble_eq_true rfl, Nat.le_of_ble_eq_true rfl⟩) hP hD hS hA [0, 1, 2, 3, 4, 5, 6, 7] [8, 9, 10, 11, 12] rfl rfl (by decide +kernel) (by decide +kernel) ?_
  clear hP hD hS
  try clear locs
  try clear H
  intro r_1 u_2 H locs hw_r_1 hP hD hS
  have hw_r_1 : chP (xs 1) (xs 2) r_1 := hw_r_1
  refine W.widen (k := 339) (n := 14741) (Nat.le_of_ble_eq_true rfl) (Nat.le_of_ble_eq_true rfl) ?_
  replace hP : va_P D vwCl [(hm, .inr (12, [.ref ms, .ref mkp, .int (nI 0), .ref mtr, .int (nI 4), .int (nI 2), .int (nI 2), .int (nI 3), .int (nI 2), .int (nI 1), .ref mas, .int (nI 0), .int (nI 0), .int (nI 0), .ref mso, .ref mon, .ref mot, .ref man, .int (nI 0), .int (nI 0), .ref mst, .ref msm, .ref mtb, .ref mti, .ref mfr, .ref mbn, .ref mbs, .ref mde, .int (nI 0), .int (nI 0), .int (nI 0), .int (nI 0), .long 0, .long 0, .ref maa, .ref mab, .ref mba, .ref mbb])), (maa, .inl (cs 1, 9, .inr (.inl (fun _ => 0)))), (mab, .inl (cs 1, 9, .inr (.inl (fun _ => 0)))), (mba, .inl (cs 1, 9, .inr (.inl (fun _ => 0)))), (mbb, .inl (cs 1, 9, .inr (.inl (fun _ => 0))))] H := hP
  replace hD : va_D A [(hm, .inr (12, [.ref ms, .ref mkp, .int (nI 0), .ref mtr, .int (nI 4), .int (nI 2), .int (nI 2), .int (nI 3), .int (nI 2), .int (nI 1), .ref mas, .int (nI 0), .int (nI 0), .int (nI 0), .ref mso, .ref mon, .ref mot, .ref man, .int (nI 0), .int (nI 0), .ref mst, .ref msm, .ref mtb, .ref mti, .ref mfr, .ref mbn, .ref mbs, .ref mde, .int (nI 0), .int (nI 0), .int (nI 0), .int (nI 0), .long 0, .long 0, .ref maa, .ref mab, .ref mba, .ref mbb])), (maa, .inl (cs 1, 9, .inr (.inl (fun _ => 0)))), (mab, .inl (cs 1, 9, .inr (.inl (fun _ => 0)))), (mba, .inl (cs 1, 9, .inr (.inl (fun _ => 0)))), (mbb, .inl (cs 1, 9, .inr (.inl (fun _ => 0))))] := hD
  refine lv_aload_n hx hb dL_law_721 rfl (lv_at hl 2 rfl) ?_
  refine lv_aload_n hx hb dL_law_722 rfl (lv_at hl 4 rfl) ?_
  refine lv_iload hx hb dL_law_723 (lv_at hl 0 rfl) ?_
  refine lv_iconst (v := nI 1) hx hb dL_law_725 (by decide) ?_
  refine lv_iadd hx hb dL_law_726 ?_
  refine lv_topi (nm_r (e' := nI 1) (by decide) ?_)
  refine va_sld hx hb hX hbl hbA hS (pk_in 1 5 (by decide)) dL_law_727 ?_
  refine lv_topi (nm_r (e' := xs 1) (by rw [nI_clamp (by decide)]) ?_)
  refine lv_aload_n hx hb dL_law_728 rfl (lv_at hl 4 rfl) ?_
  refine lv_iload hx hb dL_law_729 (lv_at hl 0 rfl) ?_
  refine lv_iconst (v := nI 2) hx hb dL_law_731 (by decide) ?_
  refine lv_iadd hx hb dL_law_732 ?_
  refine lv_topi (nm_r (e' := nI 2) (by decide) ?_)
  refine va_sld hx hb hX hbl hbA hS (pk_in 2 5 (by decide)) dL_law_733 ?_
  refine lv_topi (nm_r (e' := xs 2) (by rw [nI_clamp (by decide)]) ?_)
  refine xl (wr := []) (xV (As := [.int (xs 1), .int (xs 2)]) (rest := [.long r_1]) C (c_X12_chain l D cs hm ms mkp mtr mas mso mon mot man mst msm mtb mti mfr mbn mbs mde maa mab mba mbb (xs 1) (xs 2)) kL_92 hP hD [0, 1, 2, 3, 4] rfl (by decide +kernel) 0 rfl rfl rfl ⟨Nat.le_of_ble_eq_true rfl, Nat.le_of_ble_eq_true rfl⟩ rfl hl.1 rfl (Nat.le_of_ble_eq_true rfl) dL_law_734 ⟨Nat.le_of_ble_eq_true rfl, Nat.le_of_ble_eq_true rfl⟩) hP hD hS hA [0, 1, 2, 3, 4] [] rfl rfl (by decide +kernel) (by decide +kernel) ?_
  clear hP hD hS
  try clear locs
  try clear H
  intro r_3 u_4 H locs hw_r_3 hP hD hS
  have hw_r_3 : chP (xs 1) (xs 2) r_3 := hw_r_3
  refine W.widen (k := 339) (n := 14741) (Nat.le_of_ble_eq_true rfl) (Nat.le_of_ble_eq_true rfl) ?_
  replace hP : va_P D vwCl [] H := hP
  replace hD : va_D A [] := hD
  refine W.lcmp hx hb dL_law_737 ?_
  refine lv_if_eq (tgt := 1199) hx hb dL_law_738 (by decide) (fun _ => ?_) (fun c => absurd ((lg_cmp_eq _ _).mpr (chP.eq hw_r_1 hw_r_3)) c)
  refine lv_iinc (v := nI 5) (lv' := [(4, .int (nI 5)), (3, .ref out), (2, .ref hm), (1, .ref h0), (0, .ref b)]) hx hb dL_law_1199 hl (k := 0) rfl (by decide) (by decide) rfl ?_
  clear hl
  try clear ls
  intro ls hl
  refine lv_goto (tgt := 23) hx hb dL_law_1202 (by decide) ?_
  refine lv_iload hx hb dL_law_23 (lv_at hl 0 rfl) ?_
  refine lv_aload_n hx hb dL_law_25 rfl (lv_at hl 4 rfl) ?_
  refine va_slen hx hb hX hbl hbA hS dL_law_26 ?_
  refine lv_topi (nm_r (e' := nI 5) rfl ?_)
  refine lv_iconst (v := nI 5) hx hb dL_law_27 (by decide) ?_
  refine lv_isub hx hb dL_law_28 ?_
  refine lv_topi (nm_r (e' := nI 0) (by decide) ?_)
  refine lv_icmp_gt (tgt := 1205) hx hb dL_law_29 (by decide) (fun _ => ?_) (fun c => absurd (by decide) c)
  refine lv_iconst (v := nI 1) hx hb dL_law_1205 (by decide) ?_
  refine lv_topi (nm_r (e' := 1) rfl ?_)
  exact va_forget (fun q hq => hA2 _ (hS.2.2 q hq)) (W.widen (Nat.le_of_ble_eq_true rfl) (Nat.le_of_ble_eq_true rfl) (W.base (lw_ret (Drawn.sameBut.refl s.drawn lw_cs) hx hb C.2.2.2.2.2.1 C.2.2.2.2.2.2.1 dL_law_1206)))

set_option maxHeartbeats 4000000 in
set_option maxRecDepth 100000 in
theorem law_case_16 {p : Program} {e : Env} {s : State} {m : MethodId} {below : List Frame} {meth : Method} {c : Code} (l : Launch) (hfl : l.stackTraces = false) {D : va_G} {cs : Nat → ClassId} {A : Nat → Prop} {b : Nat} {xs : Nat → Int32} (C : xC p room_1 s m #[Value.ref b] meth c ⟨"SampleHouseLaw", meth.name, ""⟩ code 7 ret D cs A) (hTH : xTH s) (hZ0 : xZ A s s.heap) (hX : va_X b 5 xs s s.heap) (hbl : b < s.heap.size) (hbA : ¬ A b) (hA2 : ∀ q, A q → s.heap.size ≤ q) (hr hg hgr ha hpo hly hse hc pa spr qm sm ca nd kd lk vw gs g1r g2r gan gpr gde gme wk spa aga ona wk2 ab rb ob tb hp0 nd0 kd0 lk0 vw0 : Nat) (v sv v0 sv0 rw rl : Nat → Nat) (sg : Nat → Nat → Int32) (pf : Nat → Option Nat) (ms mkp mtr mas mso mon mot man mst msm mtb mti mfr mbn mbs mde maa mab mba mbb h0 hm out : Nat) (hpf : pf 0 = some hp0) {H : Heap} {locs : List Loc} {ls : Array Slot} (hP : va_P D vwCl [(h0, .inr (11, [.ref hr, .ref hg, .ref hgr, .ref ha, .ref hpo, .ref hly, .ref hse, .ref hc, .ref pa, .ref spr, .ref qm, .int (nI 0), .int (nI 0), .int (nI 0), .int (nI 0), .int (nI 1)])), (hg, .inr (4, [.ref nd, .ref kd, .ref lk, .ref vw])), (vw, .inl (cs 2, 8, .inr (.inr (.inr (.inr (fun i => some (v i))))))), (v 0, .inr (10, [.int ((fun _ => nI 0) 0), .int ((fun _ => nI 0) 0), .ref (sv 0)])), (sv 0, .inl (cs 0, 32, .inl ((fun _ => vF) 0))), (v 1, .inr (10, [.int ((fun _ => nI 0) 1), .int ((fun _ => nI 0) 1), .ref (sv 1)])), (sv 1, .inl (cs 0, 32, .inl ((fun _ => vF) 1))), (v 2, .inr (10, [.int ((fun _ => nI 0) 2), .int ((fun _ => nI 0) 2), .ref (sv 2)])), (sv 2, .inl (cs 0, 32, .inl ((fun _ => vF) 2))), (v 3, .inr (10, [.int ((fun _ => nI 0) 3), .int ((fun _ => nI 0) 3), .ref (sv 3)])), (sv 3, .inl (cs 0, 32, .inl ((fun _ => vF) 3))), (v 4, .inr (10, [.int ((fun _ => nI 0) 4), .int ((fun _ => nI 0) 4), .ref (sv 4)])), (sv 4, .inl (cs 0, 32, .inl ((fun _ => vF) 4))), (v 5, .inr (10, [.int ((fun _ => nI 0) 5), .int ((fun _ => nI 0) 5), .ref (sv 5)])), (sv 5, .inl (cs 0, 32, .inl ((fun _ => vF) 5))), (v 6, .inr (10, [.int ((fun _ => nI 0) 6), .int ((fun _ => nI 0) 6), .ref (sv 6)])), (sv 6, .inl (cs 0, 32, .inl ((fun _ => vF) 6))), (v 7, .inr (10, [.int ((fun _ => nI 0) 7), .int ((fun _ => nI 0) 7), .ref (sv 7)])), (sv 7, .inl (cs 0, 32, .inl ((fun _ => vF) 7))), (hgr, .inr (3, [.int (nI 0), .ref gs, .ref g1r, .ref g2r, .ref gan, .ref gpr, .ref gde, .ref gme])), (gs, .inl (cs 0, 16, .inl (fun _ => nI 0))), (g1r, .inl (cs 0, 16, .inl (fun _ => nI 0))), (g2r, .inl (cs 0, 16, .inl (fun _ => nI 0))), (gan, .inl (cs 0, 16, .inl (fun _ => nI 0))), (gpr, .inl (cs 0, 16, .inl (fun _ => nI 0))), (gde, .inl (cs 0, 16, .inl (fun _ => nI 0))), (gme, .inl (cs 0, 8, .inl (fun _ => nI 0))), (hm, .inr (12, [.ref ms, .ref mkp, .int (nI 0), .ref mtr, .int (nI 4), .int (nI 2), .int (nI 2), .int (nI 3), .int (nI 2), .int (nI 1), .ref mas, .int (nI 0), .int (nI 0), .int (nI 0), .ref mso, .ref mon, .ref mot, .ref man, .int (nI 0), .int (nI 0), .ref mst, .ref msm, .ref mtb, .ref mti, .ref mfr, .ref mbn, .ref mbs, .ref mde, .int (nI 0), .int (nI 0), .int (nI 0), .int (nI 0), .long 0, .long 0, .ref maa, .ref mab, .ref mba, .ref mbb])), (ms, .inl (cs 0, 288, .inl freshS)), (mso, .inl (cs 0, 16, .inl (fun _ => 0))), (mon, .inl (cs 0, 16, .inl (fun _ => 0))), (mot, .inl (cs 0, 16, .inl (fun _ => 0))), (man, .inl (cs 0, 16, .inl (fun _ => 0)))] H) (hD : va_D A [(h0, .inr (11, [.ref hr, .ref hg, .ref hgr, .ref ha, .ref hpo, .ref hly, .ref hse, .ref hc, .ref pa, .ref spr, .ref qm, .int (nI 0), .int (nI 0), .int (nI 0), .int (nI 0), .int (nI 1)])), (hg, .inr (4, [.ref nd, .ref kd, .ref lk, .ref vw])), (vw, .inl (cs 2, 8, .inr (.inr (.inr (.inr (fun i => some (v i))))))), (v 0, .inr (10, [.int ((fun _ => nI 0) 0), .int ((fun _ => nI 0) 0), .ref (sv 0)])), (sv 0, .inl (cs 0, 32, .inl ((fun _ => vF) 0))), (v 1, .inr (10, [.int ((fun _ => nI 0) 1), .int ((fun _ => nI 0) 1), .ref (sv 1)])), (sv 1, .inl (cs 0, 32, .inl ((fun _ => vF) 1))), (v 2, .inr (10, [.int ((fun _ => nI 0) 2), .int ((fun _ => nI 0) 2), .ref (sv 2)])), (sv 2, .inl (cs 0, 32, .inl ((fun _ => vF) 2))), (v 3, .inr (10, [.int ((fun _ => nI 0) 3), .int ((fun _ => nI 0) 3), .ref (sv 3)])), (sv 3, .inl (cs 0, 32, .inl ((fun _ => vF) 3))), (v 4, .inr (10, [.int ((fun _ => nI 0) 4), .int ((fun _ => nI 0) 4), .ref (sv 4)])), (sv 4, .inl (cs 0, 32, .inl ((fun _ => vF) 4))), (v 5, .inr (10, [.int ((fun _ => nI 0) 5), .int ((fun _ => nI 0) 5), .ref (sv 5)])), (sv 5, .inl (cs 0, 32, .inl ((fun _ => vF) 5))), (v 6, .inr (10, [.int ((fun _ => nI 0) 6), .int ((fun _ => nI 0) 6), .ref (sv 6)])), (sv 6, .inl (cs 0, 32, .inl ((fun _ => vF) 6))), (v 7, .inr (10, [.int ((fun _ => nI 0) 7), .int ((fun _ => nI 0) 7), .ref (sv 7)])), (sv 7, .inl (cs 0, 32, .inl ((fun _ => vF) 7))), (hgr, .inr (3, [.int (nI 0), .ref gs, .ref g1r, .ref g2r, .ref gan, .ref gpr, .ref gde, .ref gme])), (gs, .inl (cs 0, 16, .inl (fun _ => nI 0))), (g1r, .inl (cs 0, 16, .inl (fun _ => nI 0))), (g2r, .inl (cs 0, 16, .inl (fun _ => nI 0))), (gan, .inl (cs 0, 16, .inl (fun _ => nI 0))), (gpr, .inl (cs 0, 16, .inl (fun _ => nI 0))), (gde, .inl (cs 0, 16, .inl (fun _ => nI 0))), (gme, .inl (cs 0, 8, .inl (fun _ => nI 0))), (hm, .inr (12, [.ref ms, .ref mkp, .int (nI 0), .ref mtr, .int (nI 4), .int (nI 2), .int (nI 2), .int (nI 3), .int (nI 2), .int (nI 1), .ref mas, .int (nI 0), .int (nI 0), .int (nI 0), .ref mso, .ref mon, .ref mot, .ref man, .int (nI 0), .int (nI 0), .ref mst, .ref msm, .ref mtb, .ref mti, .ref mfr, .ref mbn, .ref mbs, .ref mde, .int (nI 0), .int (nI 0), .int (nI 0), .int (nI 0), .long 0, .long 0, .ref maa, .ref mab, .ref mba, .ref mbb])), (ms, .inl (cs 0, 288, .inl freshS)), (mso, .inl (cs 0, 16, .inl (fun _ => 0))), (mon, .inl (cs 0, 16, .inl (fun _ => 0))), (mot, .inl (cs 0, 16, .inl (fun _ => 0))), (man, .inl (cs 0, 16, .inl (fun _ => 0)))]) (hS : va_S A s.heap H locs) (hl : lv_has ls 7 [(4, .int (nI 0)), (3, .ref out), (2, .ref hm), (1, .ref h0), (0, .ref b)]) : W p l e room_1 s m #[Value.ref b] below meth c H locs 261 14585 (lw_Z below #[Value.ref b] s) (F0 m 743 ls []) := by
  have hx := C.1
  have hb := C.2.1
  have hz := C.2.2.2.2.1
  have hown := C.2.2.2.1
  have hA := C.2.2.2.2.2.2.2.2.2
  have hAO := C.2.2.2.2.2.2.2.2.1.2.2
  refine lv_aload_n hx hb dL_law_743 rfl (lv_at hl 3 rfl) ?_
  refine lv_aload_n hx hb dL_law_744 rfl (lv_at hl 4 rfl) ?_
  refine lv_iload hx hb dL_law_745 (lv_at hl 0 rfl) ?_
  refine lv_iconst (v := nI 1) hx hb dL_law_747 (by decide) ?_
  refine lv_iadd hx hb dL_law_748 ?_
  refine lv_topi (nm_r (e' := nI 1) (by decide) ?_)
  refine va_sld hx hb hX hbl hbA hS (pk_in 1 5 (by decide)) dL_law_749 ?_
  refine lv_topi (nm_r (e' := xs 1) (by rw [nI_clamp (by decide)]) ?_)
  refine lv_aload_n hx hb dL_law_750 rfl (lv_at hl 4 rfl) ?_
  refine lv_iload hx hb dL_law_751 (lv_at hl 0 rfl) ?_
  refine lv_iconst (v := nI 2) hx hb dL_law_753 (by decide) ?_
  refine lv_iadd hx hb dL_law_754 ?_
  refine lv_topi (nm_r (e' := nI 2) (by decide) ?_)
  refine va_sld hx hb hX hbl hbA hS (pk_in 2 5 (by decide)) dL_law_755 ?_
  refine lv_topi (nm_r (e' := xs 2) (by rw [nI_clamp (by decide)]) ?_)
  refine lv_aload_n hx hb dL_law_756 rfl (lv_at hl 4 rfl) ?_
  refine lv_iload hx hb dL_law_757 (lv_at hl 0 rfl) ?_
  refine lv_iconst (v := nI 3) hx hb dL_law_759 (by decide) ?_
  refine lv_iadd hx hb dL_law_760 ?_
  refine lv_topi (nm_r (e' := nI 3) (by decide) ?_)
  refine va_sld hx hb hX hbl hbA hS (pk_in 3 5 (by decide)) dL_law_761 ?_
  refine lv_topi (nm_r (e' := xs 3) (by rw [nI_clamp (by decide)]) ?_)
  refine xi (wr := [(hm, .inr (12, [.ref ms, .ref mkp, .int (nI 0), .ref mtr, .int (nI 4), .int (nI 2), .int (nI 2), .int (nI 3), .int (nI 2), .int (nI 1), .ref mas, .int (nI 0), .int (nI 0), .int (nI 0), .ref mso, .ref mon, .ref mot, .ref man, .int (nI 0), .int (nI 0), .ref mst, .ref msm, .ref mtb, .ref mti, .ref mfr, .ref mbn, .ref mbs, .ref mde, .int (nI 0), .int (nI 0), .int (nI 0), .int (nI 0), .long 0, .long 0, .ref maa, .ref mab, .ref mba, .ref mbb])), (ms, .inl (cs 0, 288, .inl freshS)), (mso, .inl (cs 0, 16, .inl (fun _ => 0))), (mon, .inl (cs 0, 16, .inl (fun _ => 0))), (mot, .inl (cs 0, 16, .inl (fun _ => 0))), (man, .inl (cs 0, 16, .inl (fun _ => 0)))]) (xV (As := [.int (xs 1), .int (xs 2), .int (xs 3)]) (rest := []) C (c_X11_entry_z l D cs h0 hr hg hgr ha hpo hly hse hc pa spr qm (nI 0) (nI 1) nd kd lk vw v sv gs g1r g2r gan gpr gde gme (xs 1) (xs 2) (xs 3)) kL_93 hP hD [0, 19, 20, 21, 22, 23, 24, 25, 26, 1, 2, 3, 4, 5, 6, 7, 8, 9, 10, 11, 12, 13, 14, 15, 16, 17, 18] rfl (by decide +kernel) 0 rfl rfl rfl ⟨Nat.le_of_ble_eq_true rfl, Nat.le_of_ble_eq_true rfl⟩ rfl hl.1 rfl (Nat.le_of_ble_eq_true rfl) dL_law_762 ⟨Nat.le_of_ble_eq_true rfl, Nat.le_of_ble_eq_true rfl⟩) hP hD hS hA [0, 19, 20, 21, 22, 23, 24, 25, 26, 1, 2, 3, 4, 5, 6, 7, 8, 9, 10, 11, 12, 13, 14, 15, 16, 17, 18] [27, 28, 29, 30, 31, 32] rfl rfl (by decide +kernel) (by decide +kernel) ?_
  clear hP hD hS
  try clear locs
  try clear H
  intro r_1 u_2 H locs hw_r_1 hP hD hS
  have hw_r_1 : PQ (okN 8 (xs 1) ∧ (xs 2) = -1 ∧ (xs 3) = -1) r_1 (nI 0) (-1) := hw_r_1
  refine W.widen (k := 261) (n := 14585) (Nat.le_of_ble_eq_true rfl) (Nat.le_of_ble_eq_true rfl) ?_
  replace hP : va_P D vwCl [(hm, .inr (12, [.ref ms, .ref mkp, .int (nI 0), .ref mtr, .int (nI 4), .int (nI 2), .int (nI 2), .int (nI 3), .int (nI 2), .int (nI 1), .ref mas, .int (nI 0), .int (nI 0), .int (nI 0), .ref mso, .ref mon, .ref mot, .ref man, .int (nI 0), .int (nI 0), .ref mst, .ref msm, .ref mtb, .ref mti, .ref mfr, .ref mbn, .ref mbs, .ref mde, .int (nI 0), .int (nI 0), .int (nI 0), .int (nI 0), .long 0, .long 0, .ref maa, .ref mab, .ref mba, .ref mbb])), (ms, .inl (cs 0, 288, .inl freshS)), (mso, .inl (cs 0, 16, .inl (fun _ => 0))), (mon, .inl (cs 0, 16, .inl (fun _ => 0))), (mot, .inl (cs 0, 16, .inl (fun _ => 0))), (man, .inl (cs 0, 16, .inl (fun _ => 0)))] H := hP
  replace hD : va_D A [(hm, .inr (12, [.ref ms, .ref mkp, .int (nI 0), .ref mtr, .int (nI 4), .int (nI 2), .int (nI 2), .int (nI 3), .int (nI 2), .int (nI 1), .ref mas, .int (nI 0), .int (nI 0), .int (nI 0), .ref mso, .ref mon, .ref mot, .ref man, .int (nI 0), .int (nI 0), .ref mst, .ref msm, .ref mtb, .ref mti, .ref mfr, .ref mbn, .ref mbs, .ref mde, .int (nI 0), .int (nI 0), .int (nI 0), .int (nI 0), .long 0, .long 0, .ref maa, .ref mab, .ref mba, .ref mbb])), (ms, .inl (cs 0, 288, .inl freshS)), (mso, .inl (cs 0, 16, .inl (fun _ => 0))), (mon, .inl (cs 0, 16, .inl (fun _ => 0))), (mot, .inl (cs 0, 16, .inl (fun _ => 0))), (man, .inl (cs 0, 16, .inl (fun _ => 0)))] := hD
  refine lv_aload_n hx hb dL_law_765 rfl (lv_at hl 2 rfl) ?_
  refine lv_aload_n hx hb dL_law_766 rfl (lv_at hl 4 rfl) ?_
  refine lv_iload hx hb dL_law_767 (lv_at hl 0 rfl) ?_
  refine lv_iconst (v := nI 1) hx hb dL_law_769 (by decide) ?_
  refine lv_iadd hx hb dL_law_770 ?_
  refine lv_topi (nm_r (e' := nI 1) (by decide) ?_)
  refine va_sld hx hb hX hbl hbA hS (pk_in 1 5 (by decide)) dL_law_771 ?_
  refine lv_topi (nm_r (e' := xs 1) (by rw [nI_clamp (by decide)]) ?_)
  refine lv_aload_n hx hb dL_law_772 rfl (lv_at hl 4 rfl) ?_
  refine lv_iload hx hb dL_law_773 (lv_at hl 0 rfl) ?_
  refine lv_iconst (v := nI 2) hx hb dL_law_775 (by decide) ?_
  refine lv_iadd hx hb dL_law_776 ?_
  refine lv_topi (nm_r (e' := nI 2) (by decide) ?_)
  refine va_sld hx hb hX hbl hbA hS (pk_in 2 5 (by decide)) dL_law_777 ?_
  refine lv_topi (nm_r (e' := xs 2) (by rw [nI_clamp (by decide)]) ?_)
  refine lv_aload_n hx hb dL_law_778 rfl (lv_at hl 4 rfl) ?_
  refine lv_iload hx hb dL_law_779 (lv_at hl 0 rfl) ?_
  refine lv_iconst (v := nI 3) hx hb dL_law_781 (by decide) ?_
  refine lv_iadd hx hb dL_law_782 ?_
  refine lv_topi (nm_r (e' := nI 3) (by decide) ?_)
  refine va_sld hx hb hX hbl hbA hS (pk_in 3 5 (by decide)) dL_law_783 ?_
  refine lv_topi (nm_r (e' := xs 3) (by rw [nI_clamp (by decide)]) ?_)
  refine xi (wr := []) (xV (As := [.int (xs 1), .int (xs 2), .int (xs 3)]) (rest := [.int r_1]) C (c_X12_entry_z l D cs hm ms mkp mtr mas mso mon mot man mst msm mtb mti mfr mbn mbs mde maa mab mba mbb (xs 1) (xs 2) (xs 3)) kL_96 hP hD [0, 1, 2, 3, 4, 5] rfl (by decide +kernel) 0 rfl rfl rfl ⟨Nat.le_of_ble_eq_true rfl, Nat.le_of_ble_eq_true rfl⟩ rfl hl.1 rfl (Nat.le_of_ble_eq_true rfl) dL_law_784 ⟨Nat.le_of_ble_eq_true rfl, Nat.le_of_ble_eq_true rfl⟩) hP hD hS hA [0, 1, 2, 3, 4, 5] [] rfl rfl (by decide +kernel) (by decide +kernel) ?_
  clear hP hD hS
  try clear locs
  try clear H
  intro r_3 u_4 H locs hw_r_3 hP hD hS
  have hw_r_3 : PQ (okN 8 (xs 1) ∧ (xs 2) = -1 ∧ (xs 3) = -1) r_3 (nI 0) (-1) := hw_r_3
  refine W.widen (k := 261) (n := 14585) (Nat.le_of_ble_eq_true rfl) (Nat.le_of_ble_eq_true rfl) ?_
  replace hP : va_P D vwCl [] H := hP
  replace hD : va_D A [] := hD
  refine lv_icmp_eq (tgt := 1199) hx hb dL_law_787 (by decide) (fun _ => ?_) (fun c => absurd (PQ.eq hw_r_1 hw_r_3) c)
  refine lv_iinc (v := nI 5) (lv' := [(4, .int (nI 5)), (3, .ref out), (2, .ref hm), (1, .ref h0), (0, .ref b)]) hx hb dL_law_1199 hl (k := 0) rfl (by decide) (by decide) rfl ?_
  clear hl
  try clear ls
  intro ls hl
  refine lv_goto (tgt := 23) hx hb dL_law_1202 (by decide) ?_
  refine lv_iload hx hb dL_law_23 (lv_at hl 0 rfl) ?_
  refine lv_aload_n hx hb dL_law_25 rfl (lv_at hl 4 rfl) ?_
  refine va_slen hx hb hX hbl hbA hS dL_law_26 ?_
  refine lv_topi (nm_r (e' := nI 5) rfl ?_)
  refine lv_iconst (v := nI 5) hx hb dL_law_27 (by decide) ?_
  refine lv_isub hx hb dL_law_28 ?_
  refine lv_topi (nm_r (e' := nI 0) (by decide) ?_)
  refine lv_icmp_gt (tgt := 1205) hx hb dL_law_29 (by decide) (fun _ => ?_) (fun c => absurd (by decide) c)
  refine lv_iconst (v := nI 1) hx hb dL_law_1205 (by decide) ?_
  refine lv_topi (nm_r (e' := 1) rfl ?_)
  exact va_forget (fun q hq => hA2 _ (hS.2.2 q hq)) (W.widen (Nat.le_of_ble_eq_true rfl) (Nat.le_of_ble_eq_true rfl) (W.base (lw_ret (Drawn.sameBut.refl s.drawn lw_cs) hx hb C.2.2.2.2.2.1 C.2.2.2.2.2.2.1 dL_law_1206)))

set_option maxHeartbeats 4000000 in
set_option maxRecDepth 100000 in
theorem law_case_17 {p : Program} {e : Env} {s : State} {m : MethodId} {below : List Frame} {meth : Method} {c : Code} (l : Launch) (hfl : l.stackTraces = false) {D : va_G} {cs : Nat → ClassId} {A : Nat → Prop} {b : Nat} {xs : Nat → Int32} (C : xC p room_1 s m #[Value.ref b] meth c ⟨"SampleHouseLaw", meth.name, ""⟩ code 7 ret D cs A) (hTH : xTH s) (hZ0 : xZ A s s.heap) (hX : va_X b 5 xs s s.heap) (hbl : b < s.heap.size) (hbA : ¬ A b) (hA2 : ∀ q, A q → s.heap.size ≤ q) (hr hg hgr ha hpo hly hse hc pa spr qm sm ca nd kd lk vw gs g1r g2r gan gpr gde gme wk spa aga ona wk2 ab rb ob tb hp0 nd0 kd0 lk0 vw0 : Nat) (v sv v0 sv0 rw rl : Nat → Nat) (sg : Nat → Nat → Int32) (pf : Nat → Option Nat) (ms mkp mtr mas mso mon mot man mst msm mtb mti mfr mbn mbs mde maa mab mba mbb h0 hm out : Nat) (hpf : pf 0 = some hp0) {H : Heap} {locs : List Loc} {ls : Array Slot} (hP : va_P D vwCl [(h0, .inr (11, [.ref hr, .ref hg, .ref hgr, .ref ha, .ref hpo, .ref hly, .ref hse, .ref hc, .ref pa, .ref spr, .ref qm, .int (nI 0), .int (nI 0), .int (nI 0), .int (nI 0), .int (nI 1)])), (hr, .inr (7, [.int (nI 4), .int (nI 2), .int (nI 2), .int (nI 3), .int (nI 2), .int (nI 1), .ref sm, .int (nI 3), .ref ca])), (hg, .inr (4, [.ref nd, .ref kd, .ref lk, .ref vw])), (kd, .inl (cs 0, 8, .inl (fun _ => nI 0))), (vw, .inl (cs 2, 8, .inr (.inr (.inr (.inr (fun i => some (v i))))))), (v 0, .inr (10, [.int ((fun _ => nI 0) 0), .int ((fun _ => nI 0) 0), .ref (sv 0)])), (v 1, .inr (10, [.int ((fun _ => nI 0) 1), .int ((fun _ => nI 0) 1), .ref (sv 1)])), (v 2, .inr (10, [.int ((fun _ => nI 0) 2), .int ((fun _ => nI 0) 2), .ref (sv 2)])), (v 3, .inr (10, [.int ((fun _ => nI 0) 3), .int ((fun _ => nI 0) 3), .ref (sv 3)])), (hgr, .inr (3, [.int (nI 0), .ref gs, .ref g1r, .ref g2r, .ref gan, .ref gpr, .ref gde, .ref gme])), (hpo, .inr (6, [.ref hr, .ref hg, .ref hgr])), (hm, .inr (12, [.ref ms, .ref mkp, .int (nI 0), .ref mtr, .int (nI 4), .int (nI 2), .int (nI 2), .int (nI 3), .int (nI 2), .int (nI 1), .ref mas, .int (nI 0), .int (nI 0), .int (nI 0), .ref mso, .ref mon, .ref mot, .ref man, .int (nI 0), .int (nI 0), .ref mst, .ref msm, .ref mtb, .ref mti, .ref mfr, .ref mbn, .ref mbs, .ref mde, .int (nI 0), .int (nI 0), .int (nI 0), .int (nI 0), .long 0, .long 0, .ref maa, .ref mab, .ref mba, .ref mbb]))] H) (hD : va_D A [(h0, .inr (11, [.ref hr, .ref hg, .ref hgr, .ref ha, .ref hpo, .ref hly, .ref hse, .ref hc, .ref pa, .ref spr, .ref qm, .int (nI 0), .int (nI 0), .int (nI 0), .int (nI 0), .int (nI 1)])), (hr, .inr (7, [.int (nI 4), .int (nI 2), .int (nI 2), .int (nI 3), .int (nI 2), .int (nI 1), .ref sm, .int (nI 3), .ref ca])), (hg, .inr (4, [.ref nd, .ref kd, .ref lk, .ref vw])), (kd, .inl (cs 0, 8, .inl (fun _ => nI 0))), (vw, .inl (cs 2, 8, .inr (.inr (.inr (.inr (fun i => some (v i))))))), (v 0, .inr (10, [.int ((fun _ => nI 0) 0), .int ((fun _ => nI 0) 0), .ref (sv 0)])), (v 1, .inr (10, [.int ((fun _ => nI 0) 1), .int ((fun _ => nI 0) 1), .ref (sv 1)])), (v 2, .inr (10, [.int ((fun _ => nI 0) 2), .int ((fun _ => nI 0) 2), .ref (sv 2)])), (v 3, .inr (10, [.int ((fun _ => nI 0) 3), .int ((fun _ => nI 0) 3), .ref (sv 3)])), (hgr, .inr (3, [.int (nI 0), .ref gs, .ref g1r, .ref g2r, .ref gan, .ref gpr, .ref gde, .ref gme])), (hpo, .inr (6, [.ref hr, .ref hg, .ref hgr])), (hm, .inr (12, [.ref ms, .ref mkp, .int (nI 0), .ref mtr, .int (nI 4), .int (nI 2), .int (nI 2), .int (nI 3), .int (nI 2), .int (nI 1), .ref mas, .int (nI 0), .int (nI 0), .int (nI 0), .ref mso, .ref mon, .ref mot, .ref man, .int (nI 0), .int (nI 0), .ref mst, .ref msm, .ref mtb, .ref mti, .ref mfr, .ref mbn, .ref mbs, .ref mde, .int (nI 0), .int (nI 0), .int (nI 0), .int (nI 0), .long 0, .long 0, .ref maa, .ref mab, .ref mba, .ref mbb]))]) (hS : va_S A s.heap H locs) (hl : lv_has ls 7 [(4, .int (nI 0)), (3, .ref out), (2, .ref hm), (1, .ref h0), (0, .ref b)]) : W p l e room_1 s m #[Value.ref b] below meth c H locs 261 14585 (lw_Z below #[Value.ref b] s) (F0 m 792 ls []) := by
  have hx := C.1
  have hb := C.2.1
  have hz := C.2.2.2.2.1
  have hown := C.2.2.2.1
  have hA := C.2.2.2.2.2.2.2.2.2
  have hAO := C.2.2.2.2.2.2.2.2.1.2.2
  refine lv_aload_n hx hb dL_law_792 rfl (lv_at hl 3 rfl) ?_
  refine lv_aload_n hx hb dL_law_793 rfl (lv_at hl 4 rfl) ?_
  refine lv_iload hx hb dL_law_794 (lv_at hl 0 rfl) ?_
  refine lv_iconst (v := nI 1) hx hb dL_law_796 (by decide) ?_
  refine lv_iadd hx hb dL_law_797 ?_
  refine lv_topi (nm_r (e' := nI 1) (by decide) ?_)
  refine va_sld hx hb hX hbl hbA hS (pk_in 1 5 (by decide)) dL_law_798 ?_
  refine lv_topi (nm_r (e' := xs 1) (by rw [nI_clamp (by decide)]) ?_)
  refine lv_aload_n hx hb dL_law_799 rfl (lv_at hl 4 rfl) ?_
  refine lv_iload hx hb dL_law_800 (lv_at hl 0 rfl) ?_
  refine lv_iconst (v := nI 2) hx hb dL_law_802 (by decide) ?_
  refine lv_iadd hx hb dL_law_803 ?_
  refine lv_topi (nm_r (e' := nI 2) (by decide) ?_)
  refine va_sld hx hb hX hbl hbA hS (pk_in 2 5 (by decide)) dL_law_804 ?_
  refine lv_topi (nm_r (e' := xs 2) (by rw [nI_clamp (by decide)]) ?_)
  refine lv_aload_n hx hb dL_law_805 rfl (lv_at hl 4 rfl) ?_
  refine lv_iload hx hb dL_law_806 (lv_at hl 0 rfl) ?_
  refine lv_iconst (v := nI 3) hx hb dL_law_808 (by decide) ?_
  refine lv_iadd hx hb dL_law_809 ?_
  refine lv_topi (nm_r (e' := nI 3) (by decide) ?_)
  refine va_sld hx hb hX hbl hbA hS (pk_in 3 5 (by decide)) dL_law_810 ?_
  refine lv_topi (nm_r (e' := xs 3) (by rw [nI_clamp (by decide)]) ?_)
  refine xi (wr := [(hm, .inr (12, [.ref ms, .ref mkp, .int (nI 0), .ref mtr, .int (nI 4), .int (nI 2), .int (nI 2), .int (nI 3), .int (nI 2), .int (nI 1), .ref mas, .int (nI 0), .int (nI 0), .int (nI 0), .ref mso, .ref mon, .ref mot, .ref man, .int (nI 0), .int (nI 0), .ref mst, .ref msm, .ref mtb, .ref mti, .ref mfr, .ref mbn, .ref mbs, .ref mde, .int (nI 0), .int (nI 0), .int (nI 0), .int (nI 0), .long 0, .long 0, .ref maa, .ref mab, .ref mba, .ref mbb]))]) (xV (As := [.int (xs 1), .int (xs 2), .int (xs 3)]) (rest := []) C (c_X11_poll_z l D cs h0 hr hg hgr ha hpo hly hse hc pa spr qm (nI 0) (nI 1) sm ca gs g1r g2r gan gpr gde gme nd kd lk vw v sv (xs 1) (xs 2) (xs 3)) kL_97 hP hD [0, 1, 9, 10, 2, 3, 4, 5, 6, 7, 8] rfl (by decide +kernel) 0 rfl rfl rfl ⟨Nat.le_of_ble_eq_true rfl, Nat.le_of_ble_eq_true rfl⟩ rfl hl.1 rfl (Nat.le_of_ble_eq_true rfl) dL_law_811 ⟨Nat.le_of_ble_eq_true rfl, Nat.le_of_ble_eq_true rfl⟩) hP hD hS hA [0, 1, 9, 10, 2, 3, 4, 5, 6, 7, 8] [11] rfl rfl (by decide +kernel) (by decide +kernel) ?_
  clear hP hD hS
  try clear locs
  try clear H
  intro r_1 u_2 H locs hw_r_1 hP hD hS
  have hw_r_1 : r_1 = -1 := hw_r_1
  refine W.widen (k := 261) (n := 14585) (Nat.le_of_ble_eq_true rfl) (Nat.le_of_ble_eq_true rfl) ?_
  replace hP : va_P D vwCl [(hm, .inr (12, [.ref ms, .ref mkp, .int (nI 0), .ref mtr, .int (nI 4), .int (nI 2), .int (nI 2), .int (nI 3), .int (nI 2), .int (nI 1), .ref mas, .int (nI 0), .int (nI 0), .int (nI 0), .ref mso, .ref mon, .ref mot, .ref man, .int (nI 0), .int (nI 0), .ref mst, .ref msm, .ref mtb, .ref mti, .ref mfr, .ref mbn, .ref mbs, .ref mde, .int (nI 0), .int (nI 0), .int (nI 0), .int (nI 0), .long 0, .long 0, .ref maa, .ref mab, .ref mba, .ref mbb]))] H := hP
  replace hD : va_D A [(hm, .inr (12, [.ref ms, .ref mkp, .int (nI 0), .ref mtr, .int (nI 4), .int (nI 2), .int (nI 2), .int (nI 3), .int (nI 2), .int (nI 1), .ref mas, .int (nI 0), .int (nI 0), .int (nI 0), .ref mso, .ref mon, .ref mot, .ref man, .int (nI 0), .int (nI 0), .ref mst, .ref msm, .ref mtb, .ref mti, .ref mfr, .ref mbn, .ref mbs, .ref mde, .int (nI 0), .int (nI 0), .int (nI 0), .int (nI 0), .long 0, .long 0, .ref maa, .ref mab, .ref mba, .ref mbb]))] := hD
  refine lv_aload_n hx hb dL_law_814 rfl (lv_at hl 2 rfl) ?_
  refine lv_aload_n hx hb dL_law_815 rfl (lv_at hl 4 rfl) ?_
  refine lv_iload hx hb dL_law_816 (lv_at hl 0 rfl) ?_
  refine lv_iconst (v := nI 1) hx hb dL_law_818 (by decide) ?_
  refine lv_iadd hx hb dL_law_819 ?_
  refine lv_topi (nm_r (e' := nI 1) (by decide) ?_)
  refine va_sld hx hb hX hbl hbA hS (pk_in 1 5 (by decide)) dL_law_820 ?_
  refine lv_topi (nm_r (e' := xs 1) (by rw [nI_clamp (by decide)]) ?_)
  refine lv_aload_n hx hb dL_law_821 rfl (lv_at hl 4 rfl) ?_
  refine lv_iload hx hb dL_law_822 (lv_at hl 0 rfl) ?_
  refine lv_iconst (v := nI 2) hx hb dL_law_824 (by decide) ?_
  refine lv_iadd hx hb dL_law_825 ?_
  refine lv_topi (nm_r (e' := nI 2) (by decide) ?_)
  refine va_sld hx hb hX hbl hbA hS (pk_in 2 5 (by decide)) dL_law_826 ?_
  refine lv_topi (nm_r (e' := xs 2) (by rw [nI_clamp (by decide)]) ?_)
  refine lv_aload_n hx hb dL_law_827 rfl (lv_at hl 4 rfl) ?_
  refine lv_iload hx hb dL_law_828 (lv_at hl 0 rfl) ?_
  refine lv_iconst (v := nI 3) hx hb dL_law_830 (by decide) ?_
  refine lv_iadd hx hb dL_law_831 ?_
  refine lv_topi (nm_r (e' := nI 3) (by decide) ?_)
  refine va_sld hx hb hX hbl hbA hS (pk_in 3 5 (by decide)) dL_law_832 ?_
  refine lv_topi (nm_r (e' := xs 3) (by rw [nI_clamp (by decide)]) ?_)
  refine xi (wr := []) (xV (As := [.int (xs 1), .int (xs 2), .int (xs 3)]) (rest := [.int r_1]) C (c_X12_poll_z l D cs hm ms mkp mtr mas mso mon mot man mst msm mtb mti mfr mbn mbs mde maa mab mba mbb (xs 1) (xs 2) (xs 3)) kL_100 hP hD [0] rfl (by decide +kernel) 0 rfl rfl rfl ⟨Nat.le_of_ble_eq_true rfl, Nat.le_of_ble_eq_true rfl⟩ rfl hl.1 rfl (Nat.le_of_ble_eq_true rfl) dL_law_833 ⟨Nat.le_of_ble_eq_true rfl, Nat.le_of_ble_eq_true rfl⟩) hP hD hS hA [0] [] rfl rfl (by decide +kernel) (by decide +kernel) ?_
  clear hP hD hS
  try clear locs
  try clear H
  intro r_3 u_4 H locs hw_r_3 hP hD hS
  have hw_r_3 : r_3 = -1 := hw_r_3
  refine W.widen (k := 261) (n := 14585) (Nat.le_of_ble_eq_true rfl) (Nat.le_of_ble_eq_true rfl) ?_
  replace hP : va_P D vwCl [] H := hP
  replace hD : va_D A [] := hD
  refine lv_icmp_eq (tgt := 1199) hx hb dL_law_836 (by decide) (fun _ => ?_) (fun c => absurd (hw_r_1.trans hw_r_3.symm) c)
  refine lv_iinc (v := nI 5) (lv' := [(4, .int (nI 5)), (3, .ref out), (2, .ref hm), (1, .ref h0), (0, .ref b)]) hx hb dL_law_1199 hl (k := 0) rfl (by decide) (by decide) rfl ?_
  clear hl
  try clear ls
  intro ls hl
  refine lv_goto (tgt := 23) hx hb dL_law_1202 (by decide) ?_
  refine lv_iload hx hb dL_law_23 (lv_at hl 0 rfl) ?_
  refine lv_aload_n hx hb dL_law_25 rfl (lv_at hl 4 rfl) ?_
  refine va_slen hx hb hX hbl hbA hS dL_law_26 ?_
  refine lv_topi (nm_r (e' := nI 5) rfl ?_)
  refine lv_iconst (v := nI 5) hx hb dL_law_27 (by decide) ?_
  refine lv_isub hx hb dL_law_28 ?_
  refine lv_topi (nm_r (e' := nI 0) (by decide) ?_)
  refine lv_icmp_gt (tgt := 1205) hx hb dL_law_29 (by decide) (fun _ => ?_) (fun c => absurd (by decide) c)
  refine lv_iconst (v := nI 1) hx hb dL_law_1205 (by decide) ?_
  refine lv_topi (nm_r (e' := 1) rfl ?_)
  exact va_forget (fun q hq => hA2 _ (hS.2.2 q hq)) (W.widen (Nat.le_of_ble_eq_true rfl) (Nat.le_of_ble_eq_true rfl) (W.base (lw_ret (Drawn.sameBut.refl s.drawn lw_cs) hx hb C.2.2.2.2.2.1 C.2.2.2.2.2.2.1 dL_law_1206)))

set_option maxHeartbeats 4000000 in
set_option maxRecDepth 100000 in
theorem law_case_18 {p : Program} {e : Env} {s : State} {m : MethodId} {below : List Frame} {meth : Method} {c : Code} (l : Launch) (hfl : l.stackTraces = false) {D : va_G} {cs : Nat → ClassId} {A : Nat → Prop} {b : Nat} {xs : Nat → Int32} (C : xC p room_1 s m #[Value.ref b] meth c ⟨"SampleHouseLaw", meth.name, ""⟩ code 7 ret D cs A) (hTH : xTH s) (hZ0 : xZ A s s.heap) (hX : va_X b 5 xs s s.heap) (hbl : b < s.heap.size) (hbA : ¬ A b) (hA2 : ∀ q, A q → s.heap.size ≤ q) (hr hg hgr ha hpo hly hse hc pa spr qm sm ca nd kd lk vw gs g1r g2r gan gpr gde gme wk spa aga ona wk2 ab rb ob tb hp0 nd0 kd0 lk0 vw0 : Nat) (v sv v0 sv0 rw rl : Nat → Nat) (sg : Nat → Nat → Int32) (pf : Nat → Option Nat) (ms mkp mtr mas mso mon mot man mst msm mtb mti mfr mbn mbs mde maa mab mba mbb h0 hm out : Nat) (hpf : pf 0 = some hp0) {H : Heap} {locs : List Loc} {ls : Array Slot} (hP : va_P D vwCl [(h0, .inr (11, [.ref hr, .ref hg, .ref hgr, .ref ha, .ref hpo, .ref hly, .ref hse, .ref hc, .ref pa, .ref spr, .ref qm, .int (nI 0), .int (nI 0), .int (nI 0), .int (nI 0), .int (nI 1)])), (hr, .inr (7, [.int (nI 4), .int (nI 2), .int (nI 2), .int (nI 3), .int (nI 2), .int (nI 1), .ref sm, .int (nI 3), .ref ca])), (hg, .inr (4, [.ref nd, .ref kd, .ref lk, .ref vw])), (kd, .inl (cs 0, 8, .inl (fun _ => nI 0))), (vw, .inl (cs 2, 8, .inr (.inr (.inr (.inr (fun i => some (v i))))))), (v 0, .inr (10, [.int ((fun _ => nI 0) 0), .int ((fun _ => nI 0) 0), .ref (sv 0)])), (v 1, .inr (10, [.int ((fun _ => nI 0) 1), .int ((fun _ => nI 0) 1), .ref (sv 1)])), (v 2, .inr (10, [.int ((fun _ => nI 0) 2), .int ((fun _ => nI 0) 2), .ref (sv 2)])), (v 3, .inr (10, [.int ((fun _ => nI 0) 3), .int ((fun _ => nI 0) 3), .ref (sv 3)])), (hgr, .inr (3, [.int (nI 0), .ref gs, .ref g1r, .ref g2r, .ref gan, .ref gpr, .ref gde, .ref gme])), (hpo, .inr (6, [.ref hr, .ref hg, .ref hgr])), (hm, .inr (12, [.ref ms, .ref mkp, .int (nI 0), .ref mtr, .int (nI 4), .int (nI 2), .int (nI 2), .int (nI 3), .int (nI 2), .int (nI 1), .ref mas, .int (nI 0), .int (nI 0), .int (nI 0), .ref mso, .ref mon, .ref mot, .ref man, .int (nI 0), .int (nI 0), .ref mst, .ref msm, .ref mtb, .ref mti, .ref mfr, .ref mbn, .ref mbs, .ref mde, .int (nI 0), .int (nI 0), .int (nI 0), .int (nI 0), .long 0, .long 0, .ref maa, .ref mab, .ref mba, .ref mbb]))] H) (hD : va_D A [(h0, .inr (11, [.ref hr, .ref hg, .ref hgr, .ref ha, .ref hpo, .ref hly, .ref hse, .ref hc, .ref pa, .ref spr, .ref qm, .int (nI 0), .int (nI 0), .int (nI 0), .int (nI 0), .int (nI 1)])), (hr, .inr (7, [.int (nI 4), .int (nI 2), .int (nI 2), .int (nI 3), .int (nI 2), .int (nI 1), .ref sm, .int (nI 3), .ref ca])), (hg, .inr (4, [.ref nd, .ref kd, .ref lk, .ref vw])), (kd, .inl (cs 0, 8, .inl (fun _ => nI 0))), (vw, .inl (cs 2, 8, .inr (.inr (.inr (.inr (fun i => some (v i))))))), (v 0, .inr (10, [.int ((fun _ => nI 0) 0), .int ((fun _ => nI 0) 0), .ref (sv 0)])), (v 1, .inr (10, [.int ((fun _ => nI 0) 1), .int ((fun _ => nI 0) 1), .ref (sv 1)])), (v 2, .inr (10, [.int ((fun _ => nI 0) 2), .int ((fun _ => nI 0) 2), .ref (sv 2)])), (v 3, .inr (10, [.int ((fun _ => nI 0) 3), .int ((fun _ => nI 0) 3), .ref (sv 3)])), (hgr, .inr (3, [.int (nI 0), .ref gs, .ref g1r, .ref g2r, .ref gan, .ref gpr, .ref gde, .ref gme])), (hpo, .inr (6, [.ref hr, .ref hg, .ref hgr])), (hm, .inr (12, [.ref ms, .ref mkp, .int (nI 0), .ref mtr, .int (nI 4), .int (nI 2), .int (nI 2), .int (nI 3), .int (nI 2), .int (nI 1), .ref mas, .int (nI 0), .int (nI 0), .int (nI 0), .ref mso, .ref mon, .ref mot, .ref man, .int (nI 0), .int (nI 0), .ref mst, .ref msm, .ref mtb, .ref mti, .ref mfr, .ref mbn, .ref mbs, .ref mde, .int (nI 0), .int (nI 0), .int (nI 0), .int (nI 0), .long 0, .long 0, .ref maa, .ref mab, .ref mba, .ref mbb]))]) (hS : va_S A s.heap H locs) (hl : lv_has ls 7 [(4, .int (nI 0)), (3, .ref out), (2, .ref hm), (1, .ref h0), (0, .ref b)]) : W p l e room_1 s m #[Value.ref b] below meth c H locs 261 14585 (lw_Z below #[Value.ref b] s) (F0 m 841 ls []) := by
  have hx := C.1
  have hb := C.2.1
  have hz := C.2.2.2.2.1
  have hown := C.2.2.2.1
  have hA := C.2.2.2.2.2.2.2.2.2
  have hAO := C.2.2.2.2.2.2.2.2.1.2.2
  refine lv_aload_n hx hb dL_law_841 rfl (lv_at hl 3 rfl) ?_
  refine lv_aload_n hx hb dL_law_842 rfl (lv_at hl 4 rfl) ?_
  refine lv_iload hx hb dL_law_843 (lv_at hl 0 rfl) ?_
  refine lv_iconst (v := nI 1) hx hb dL_law_845 (by decide) ?_
  refine lv_iadd hx hb dL_law_846 ?_
  refine lv_topi (nm_r (e' := nI 1) (by decide) ?_)
  refine va_sld hx hb hX hbl hbA hS (pk_in 1 5 (by decide)) dL_law_847 ?_
  refine lv_topi (nm_r (e' := xs 1) (by rw [nI_clamp (by decide)]) ?_)
  refine lv_aload_n hx hb dL_law_848 rfl (lv_at hl 4 rfl) ?_
  refine lv_iload hx hb dL_law_849 (lv_at hl 0 rfl) ?_
  refine lv_iconst (v := nI 2) hx hb dL_law_851 (by decide) ?_
  refine lv_iadd hx hb dL_law_852 ?_
  refine lv_topi (nm_r (e' := nI 2) (by decide) ?_)
  refine va_sld hx hb hX hbl hbA hS (pk_in 2 5 (by decide)) dL_law_853 ?_
  refine lv_topi (nm_r (e' := xs 2) (by rw [nI_clamp (by decide)]) ?_)
  refine lv_aload_n hx hb dL_law_854 rfl (lv_at hl 4 rfl) ?_
  refine lv_iload hx hb dL_law_855 (lv_at hl 0 rfl) ?_
  refine lv_iconst (v := nI 3) hx hb dL_law_857 (by decide) ?_
  refine lv_iadd hx hb dL_law_858 ?_
  refine lv_topi (nm_r (e' := nI 3) (by decide) ?_)
  refine va_sld hx hb hX hbl hbA hS (pk_in 3 5 (by decide)) dL_law_859 ?_
  refine lv_topi (nm_r (e' := xs 3) (by rw [nI_clamp (by decide)]) ?_)
  refine xi (wr := [(hm, .inr (12, [.ref ms, .ref mkp, .int (nI 0), .ref mtr, .int (nI 4), .int (nI 2), .int (nI 2), .int (nI 3), .int (nI 2), .int (nI 1), .ref mas, .int (nI 0), .int (nI 0), .int (nI 0), .ref mso, .ref mon, .ref mot, .ref man, .int (nI 0), .int (nI 0), .ref mst, .ref msm, .ref mtb, .ref mti, .ref mfr, .ref mbn, .ref mbs, .ref mde, .int (nI 0), .int (nI 0), .int (nI 0), .int (nI 0), .long 0, .long 0, .ref maa, .ref mab, .ref mba, .ref mbb]))]) (xV (As := [.int (xs 1), .int (xs 2), .int (xs 3)]) (rest := []) C (c_X11_yes_z l D cs h0 hr hg hgr ha hpo hly hse hc pa spr qm (nI 0) (nI 1) sm ca gs g1r g2r gan gpr gde gme nd kd lk vw v sv (xs 1) (xs 2) (xs 3)) kL_101 hP hD [0, 1, 9, 10, 2, 3, 4, 5, 6, 7, 8] rfl (by decide +kernel) 0 rfl rfl rfl ⟨Nat.le_of_ble_eq_true rfl, Nat.le_of_ble_eq_true rfl⟩ rfl hl.1 rfl (Nat.le_of_ble_eq_true rfl) dL_law_860 ⟨Nat.le_of_ble_eq_true rfl, Nat.le_of_ble_eq_true rfl⟩) hP hD hS hA [0, 1, 9, 10, 2, 3, 4, 5, 6, 7, 8] [11] rfl rfl (by decide +kernel) (by decide +kernel) ?_
  clear hP hD hS
  try clear locs
  try clear H
  intro r_1 u_2 H locs hw_r_1 hP hD hS
  have hw_r_1 : r_1 = -1 := hw_r_1
  refine W.widen (k := 261) (n := 14585) (Nat.le_of_ble_eq_true rfl) (Nat.le_of_ble_eq_true rfl) ?_
  replace hP : va_P D vwCl [(hm, .inr (12, [.ref ms, .ref mkp, .int (nI 0), .ref mtr, .int (nI 4), .int (nI 2), .int (nI 2), .int (nI 3), .int (nI 2), .int (nI 1), .ref mas, .int (nI 0), .int (nI 0), .int (nI 0), .ref mso, .ref mon, .ref mot, .ref man, .int (nI 0), .int (nI 0), .ref mst, .ref msm, .ref mtb, .ref mti, .ref mfr, .ref mbn, .ref mbs, .ref mde, .int (nI 0), .int (nI 0), .int (nI 0), .int (nI 0), .long 0, .long 0, .ref maa, .ref mab, .ref mba, .ref mbb]))] H := hP
  replace hD : va_D A [(hm, .inr (12, [.ref ms, .ref mkp, .int (nI 0), .ref mtr, .int (nI 4), .int (nI 2), .int (nI 2), .int (nI 3), .int (nI 2), .int (nI 1), .ref mas, .int (nI 0), .int (nI 0), .int (nI 0), .ref mso, .ref mon, .ref mot, .ref man, .int (nI 0), .int (nI 0), .ref mst, .ref msm, .ref mtb, .ref mti, .ref mfr, .ref mbn, .ref mbs, .ref mde, .int (nI 0), .int (nI 0), .int (nI 0), .int (nI 0), .long 0, .long 0, .ref maa, .ref mab, .ref mba, .ref mbb]))] := hD
  refine lv_aload_n hx hb dL_law_863 rfl (lv_at hl 2 rfl) ?_
  refine lv_aload_n hx hb dL_law_864 rfl (lv_at hl 4 rfl) ?_
  refine lv_iload hx hb dL_law_865 (lv_at hl 0 rfl) ?_
  refine lv_iconst (v := nI 1) hx hb dL_law_867 (by decide) ?_
  refine lv_iadd hx hb dL_law_868 ?_
  refine lv_topi (nm_r (e' := nI 1) (by decide) ?_)
  refine va_sld hx hb hX hbl hbA hS (pk_in 1 5 (by decide)) dL_law_869 ?_
  refine lv_topi (nm_r (e' := xs 1) (by rw [nI_clamp (by decide)]) ?_)
  refine lv_aload_n hx hb dL_law_870 rfl (lv_at hl 4 rfl) ?_
  refine lv_iload hx hb dL_law_871 (lv_at hl 0 rfl) ?_
  refine lv_iconst (v := nI 2) hx hb dL_law_873 (by decide) ?_
  refine lv_iadd hx hb dL_law_874 ?_
  refine lv_topi (nm_r (e' := nI 2) (by decide) ?_)
  refine va_sld hx hb hX hbl hbA hS (pk_in 2 5 (by decide)) dL_law_875 ?_
  refine lv_topi (nm_r (e' := xs 2) (by rw [nI_clamp (by decide)]) ?_)
  refine lv_aload_n hx hb dL_law_876 rfl (lv_at hl 4 rfl) ?_
  refine lv_iload hx hb dL_law_877 (lv_at hl 0 rfl) ?_
  refine lv_iconst (v := nI 3) hx hb dL_law_879 (by decide) ?_
  refine lv_iadd hx hb dL_law_880 ?_
  refine lv_topi (nm_r (e' := nI 3) (by decide) ?_)
  refine va_sld hx hb hX hbl hbA hS (pk_in 3 5 (by decide)) dL_law_881 ?_
  refine lv_topi (nm_r (e' := xs 3) (by rw [nI_clamp (by decide)]) ?_)
  refine xi (wr := []) (xV (As := [.int (xs 1), .int (xs 2), .int (xs 3)]) (rest := [.int r_1]) C (c_X12_yes_z l D cs hm ms mkp mtr mas mso mon mot man mst msm mtb mti mfr mbn mbs mde maa mab mba mbb (xs 1) (xs 2) (xs 3)) kL_104 hP hD [0] rfl (by decide +kernel) 0 rfl rfl rfl ⟨Nat.le_of_ble_eq_true rfl, Nat.le_of_ble_eq_true rfl⟩ rfl hl.1 rfl (Nat.le_of_ble_eq_true rfl) dL_law_882 ⟨Nat.le_of_ble_eq_true rfl, Nat.le_of_ble_eq_true rfl⟩) hP hD hS hA [0] [] rfl rfl (by decide +kernel) (by decide +kernel) ?_
  clear hP hD hS
  try clear locs
  try clear H
  intro r_3 u_4 H locs hw_r_3 hP hD hS
  have hw_r_3 : r_3 = -1 := hw_r_3
  refine W.widen (k := 261) (n := 14585) (Nat.le_of_ble_eq_true rfl) (Nat.le_of_ble_eq_true rfl) ?_
  replace hP : va_P D vwCl [] H := hP
  replace hD : va_D A [] := hD
  refine lv_icmp_eq (tgt := 1199) hx hb dL_law_885 (by decide) (fun _ => ?_) (fun c => absurd (hw_r_1.trans hw_r_3.symm) c)
  refine lv_iinc (v := nI 5) (lv' := [(4, .int (nI 5)), (3, .ref out), (2, .ref hm), (1, .ref h0), (0, .ref b)]) hx hb dL_law_1199 hl (k := 0) rfl (by decide) (by decide) rfl ?_
  clear hl
  try clear ls
  intro ls hl
  refine lv_goto (tgt := 23) hx hb dL_law_1202 (by decide) ?_
  refine lv_iload hx hb dL_law_23 (lv_at hl 0 rfl) ?_
  refine lv_aload_n hx hb dL_law_25 rfl (lv_at hl 4 rfl) ?_
  refine va_slen hx hb hX hbl hbA hS dL_law_26 ?_
  refine lv_topi (nm_r (e' := nI 5) rfl ?_)
  refine lv_iconst (v := nI 5) hx hb dL_law_27 (by decide) ?_
  refine lv_isub hx hb dL_law_28 ?_
  refine lv_topi (nm_r (e' := nI 0) (by decide) ?_)
  refine lv_icmp_gt (tgt := 1205) hx hb dL_law_29 (by decide) (fun _ => ?_) (fun c => absurd (by decide) c)
  refine lv_iconst (v := nI 1) hx hb dL_law_1205 (by decide) ?_
  refine lv_topi (nm_r (e' := 1) rfl ?_)
  exact va_forget (fun q hq => hA2 _ (hS.2.2 q hq)) (W.widen (Nat.le_of_ble_eq_true rfl) (Nat.le_of_ble_eq_true rfl) (W.base (lw_ret (Drawn.sameBut.refl s.drawn lw_cs) hx hb C.2.2.2.2.2.1 C.2.2.2.2.2.2.1 dL_law_1206)))

set_option maxHeartbeats 4000000 in
set_option maxRecDepth 100000 in
theorem law_case_19 {p : Program} {e : Env} {s : State} {m : MethodId} {below : List Frame} {meth : Method} {c : Code} (l : Launch) (hfl : l.stackTraces = false) {D : va_G} {cs : Nat → ClassId} {A : Nat → Prop} {b : Nat} {xs : Nat → Int32} (C : xC p room_1 s m #[Value.ref b] meth c ⟨"SampleHouseLaw", meth.name, ""⟩ code 7 ret D cs A) (hTH : xTH s) (hZ0 : xZ A s s.heap) (hX : va_X b 5 xs s s.heap) (hbl : b < s.heap.size) (hbA : ¬ A b) (hA2 : ∀ q, A q → s.heap.size ≤ q) (hr hg hgr ha hpo hly hse hc pa spr qm sm ca nd kd lk vw gs g1r g2r gan gpr gde gme wk spa aga ona wk2 ab rb ob tb hp0 nd0 kd0 lk0 vw0 : Nat) (v sv v0 sv0 rw rl : Nat → Nat) (sg : Nat → Nat → Int32) (pf : Nat → Option Nat) (ms mkp mtr mas mso mon mot man mst msm mtb mti mfr mbn mbs mde maa mab mba mbb h0 hm out : Nat) (hpf : pf 0 = some hp0) {H : Heap} {locs : List Loc} {ls : Array Slot} (hP : va_P D vwCl [(h0, .inr (11, [.ref hr, .ref hg, .ref hgr, .ref ha, .ref hpo, .ref hly, .ref hse, .ref hc, .ref pa, .ref spr, .ref qm, .int (nI 0), .int (nI 0), .int (nI 0), .int (nI 0), .int (nI 1)])), (hr, .inr (7, [.int (nI 4), .int (nI 2), .int (nI 2), .int (nI 3), .int (nI 2), .int (nI 1), .ref sm, .int (nI 3), .ref ca])), (hg, .inr (4, [.ref nd, .ref kd, .ref lk, .ref vw])), (nd, .inl (cs 0, 8, .inl (fun _ => nI 0))), (kd, .inl (cs 0, 8, .inl (fun _ => nI 0))), (lk, .inl (cs 0, 8, .inl (fun _ => -1))), (vw, .inl (cs 2, 8, .inr (.inr (.inr (.inr (fun i => some (v i))))))), (v 0, .inr (10, [.int ((fun _ => nI 0) 0), .int ((fun _ => nI 0) 0), .ref (sv 0)])), (sv 0, .inl (cs 0, 32, .inl ((fun _ => vF) 0))), (v 1, .inr (10, [.int ((fun _ => nI 0) 1), .int ((fun _ => nI 0) 1), .ref (sv 1)])), (sv 1, .inl (cs 0, 32, .inl ((fun _ => vF) 1))), (v 2, .inr (10, [.int ((fun _ => nI 0) 2), .int ((fun _ => nI 0) 2), .ref (sv 2)])), (sv 2, .inl (cs 0, 32, .inl ((fun _ => vF) 2))), (v 3, .inr (10, [.int ((fun _ => nI 0) 3), .int ((fun _ => nI 0) 3), .ref (sv 3)])), (sv 3, .inl (cs 0, 32, .inl ((fun _ => vF) 3))), (v 4, .inr (10, [.int ((fun _ => nI 0) 4), .int ((fun _ => nI 0) 4), .ref (sv 4)])), (sv 4, .inl (cs 0, 32, .inl ((fun _ => vF) 4))), (v 5, .inr (10, [.int ((fun _ => nI 0) 5), .int ((fun _ => nI 0) 5), .ref (sv 5)])), (sv 5, .inl (cs 0, 32, .inl ((fun _ => vF) 5))), (v 6, .inr (10, [.int ((fun _ => nI 0) 6), .int ((fun _ => nI 0) 6), .ref (sv 6)])), (sv 6, .inl (cs 0, 32, .inl ((fun _ => vF) 6))), (v 7, .inr (10, [.int ((fun _ => nI 0) 7), .int ((fun _ => nI 0) 7), .ref (sv 7)])), (sv 7, .inl (cs 0, 32, .inl ((fun _ => vF) 7))), (hgr, .inr (3, [.int (nI 0), .ref gs, .ref g1r, .ref g2r, .ref gan, .ref gpr, .ref gde, .ref gme])), (hpo, .inr (6, [.ref hr, .ref hg, .ref hgr])), (pa, .inl (cs 3, 8, .inr (.inr (.inr (.inr pf))))), (hp0, .inr (4, [.ref nd0, .ref kd0, .ref lk0, .ref vw0])), (nd0, .inl (cs 0, 8, .inl (fun _ => nI 0))), (kd0, .inl (cs 0, 8, .inl (fun _ => nI 0))), (lk0, .inl (cs 0, 8, .inl (fun _ => -1))), (vw0, .inl (cs 2, 8, .inr (.inr (.inr (.inr (fun i => some (v0 i))))))), (v0 0, .inr (10, [.int ((fun _ => nI 0) 0), .int ((fun _ => nI 0) 0), .ref (sv0 0)])), (sv0 0, .inl (cs 0, 32, .inl ((fun _ => vF) 0))), (v0 1, .inr (10, [.int ((fun _ => nI 0) 1), .int ((fun _ => nI 0) 1), .ref (sv0 1)])), (sv0 1, .inl (cs 0, 32, .inl ((fun _ => vF) 1))), (v0 2, .inr (10, [.int ((fun _ => nI 0) 2), .int ((fun _ => nI 0) 2), .ref (sv0 2)])), (sv0 2, .inl (cs 0, 32, .inl ((fun _ => vF) 2))), (v0 3, .inr (10, [.int ((fun _ => nI 0) 3), .int ((fun _ => nI 0) 3), .ref (sv0 3)])), (sv0 3, .inl (cs 0, 32, .inl ((fun _ => vF) 3))), (v0 4, .inr (10, [.int ((fun _ => nI 0) 4), .int ((fun _ => nI 0) 4), .ref (sv0 4)])), (sv0 4, .inl (cs 0, 32, .inl ((fun _ => vF) 4))), (v0 5, .inr (10, [.int ((fun _ => nI 0) 5), .int ((fun _ => nI 0) 5), .ref (sv0 5)])), (sv0 5, .inl (cs 0, 32, .inl ((fun _ => vF) 5))), (v0 6, .inr (10, [.int ((fun _ => nI 0) 6), .int ((fun _ => nI 0) 6), .ref (sv0 6)])), (sv0 6, .inl (cs 0, 32, .inl ((fun _ => vF) 6))), (v0 7, .inr (10, [.int ((fun _ => nI 0) 7), .int ((fun _ => nI 0) 7), .ref (sv0 7)])), (sv0 7, .inl (cs 0, 32, .inl ((fun _ => vF) 7))), (hm, .inr (12, [.ref ms, .ref mkp, .int (nI 0), .ref mtr, .int (nI 4), .int (nI 2), .int (nI 2), .int (nI 3), .int (nI 2), .int (nI 1), .ref mas, .int (nI 0), .int (nI 0), .int (nI 0), .ref mso, .ref mon, .ref mot, .ref man, .int (nI 0), .int (nI 0), .ref mst, .ref msm, .ref mtb, .ref mti, .ref mfr, .ref mbn, .ref mbs, .ref mde, .int (nI 0), .int (nI 0), .int (nI 0), .int (nI 0), .long 0, .long 0, .ref maa, .ref mab, .ref mba, .ref mbb])), (ms, .inl (cs 0, 288, .inl freshS)), (mkp, .inl (cs 0, 2304, .inl (fun _ => 0)))] H) (hD : va_D A [(h0, .inr (11, [.ref hr, .ref hg, .ref hgr, .ref ha, .ref hpo, .ref hly, .ref hse, .ref hc, .ref pa, .ref spr, .ref qm, .int (nI 0), .int (nI 0), .int (nI 0), .int (nI 0), .int (nI 1)])), (hr, .inr (7, [.int (nI 4), .int (nI 2), .int (nI 2), .int (nI 3), .int (nI 2), .int (nI 1), .ref sm, .int (nI 3), .ref ca])), (hg, .inr (4, [.ref nd, .ref kd, .ref lk, .ref vw])), (nd, .inl (cs 0, 8, .inl (fun _ => nI 0))), (kd, .inl (cs 0, 8, .inl (fun _ => nI 0))), (lk, .inl (cs 0, 8, .inl (fun _ => -1))), (vw, .inl (cs 2, 8, .inr (.inr (.inr (.inr (fun i => some (v i))))))), (v 0, .inr (10, [.int ((fun _ => nI 0) 0), .int ((fun _ => nI 0) 0), .ref (sv 0)])), (sv 0, .inl (cs 0, 32, .inl ((fun _ => vF) 0))), (v 1, .inr (10, [.int ((fun _ => nI 0) 1), .int ((fun _ => nI 0) 1), .ref (sv 1)])), (sv 1, .inl (cs 0, 32, .inl ((fun _ => vF) 1))), (v 2, .inr (10, [.int ((fun _ => nI 0) 2), .int ((fun _ => nI 0) 2), .ref (sv 2)])), (sv 2, .inl (cs 0, 32, .inl ((fun _ => vF) 2))), (v 3, .inr (10, [.int ((fun _ => nI 0) 3), .int ((fun _ => nI 0) 3), .ref (sv 3)])), (sv 3, .inl (cs 0, 32, .inl ((fun _ => vF) 3))), (v 4, .inr (10, [.int ((fun _ => nI 0) 4), .int ((fun _ => nI 0) 4), .ref (sv 4)])), (sv 4, .inl (cs 0, 32, .inl ((fun _ => vF) 4))), (v 5, .inr (10, [.int ((fun _ => nI 0) 5), .int ((fun _ => nI 0) 5), .ref (sv 5)])), (sv 5, .inl (cs 0, 32, .inl ((fun _ => vF) 5))), (v 6, .inr (10, [.int ((fun _ => nI 0) 6), .int ((fun _ => nI 0) 6), .ref (sv 6)])), (sv 6, .inl (cs 0, 32, .inl ((fun _ => vF) 6))), (v 7, .inr (10, [.int ((fun _ => nI 0) 7), .int ((fun _ => nI 0) 7), .ref (sv 7)])), (sv 7, .inl (cs 0, 32, .inl ((fun _ => vF) 7))), (hgr, .inr (3, [.int (nI 0), .ref gs, .ref g1r, .ref g2r, .ref gan, .ref gpr, .ref gde, .ref gme])), (hpo, .inr (6, [.ref hr, .ref hg, .ref hgr])), (pa, .inl (cs 3, 8, .inr (.inr (.inr (.inr pf))))), (hp0, .inr (4, [.ref nd0, .ref kd0, .ref lk0, .ref vw0])), (nd0, .inl (cs 0, 8, .inl (fun _ => nI 0))), (kd0, .inl (cs 0, 8, .inl (fun _ => nI 0))), (lk0, .inl (cs 0, 8, .inl (fun _ => -1))), (vw0, .inl (cs 2, 8, .inr (.inr (.inr (.inr (fun i => some (v0 i))))))), (v0 0, .inr (10, [.int ((fun _ => nI 0) 0), .int ((fun _ => nI 0) 0), .ref (sv0 0)])), (sv0 0, .inl (cs 0, 32, .inl ((fun _ => vF) 0))), (v0 1, .inr (10, [.int ((fun _ => nI 0) 1), .int ((fun _ => nI 0) 1), .ref (sv0 1)])), (sv0 1, .inl (cs 0, 32, .inl ((fun _ => vF) 1))), (v0 2, .inr (10, [.int ((fun _ => nI 0) 2), .int ((fun _ => nI 0) 2), .ref (sv0 2)])), (sv0 2, .inl (cs 0, 32, .inl ((fun _ => vF) 2))), (v0 3, .inr (10, [.int ((fun _ => nI 0) 3), .int ((fun _ => nI 0) 3), .ref (sv0 3)])), (sv0 3, .inl (cs 0, 32, .inl ((fun _ => vF) 3))), (v0 4, .inr (10, [.int ((fun _ => nI 0) 4), .int ((fun _ => nI 0) 4), .ref (sv0 4)])), (sv0 4, .inl (cs 0, 32, .inl ((fun _ => vF) 4))), (v0 5, .inr (10, [.int ((fun _ => nI 0) 5), .int ((fun _ => nI 0) 5), .ref (sv0 5)])), (sv0 5, .inl (cs 0, 32, .inl ((fun _ => vF) 5))), (v0 6, .inr (10, [.int ((fun _ => nI 0) 6), .int ((fun _ => nI 0) 6), .ref (sv0 6)])), (sv0 6, .inl (cs 0, 32, .inl ((fun _ => vF) 6))), (v0 7, .inr (10, [.int ((fun _ => nI 0) 7), .int ((fun _ => nI 0) 7), .ref (sv0 7)])), (sv0 7, .inl (cs 0, 32, .inl ((fun _ => vF) 7))), (hm, .inr (12, [.ref ms, .ref mkp, .int (nI 0), .ref mtr, .int (nI 4), .int (nI 2), .int (nI 2), .int (nI 3), .int (nI 2), .int (nI 1), .ref mas, .int (nI 0), .int (nI 0), .int (nI 0), .ref mso, .ref mon, .ref mot, .ref man, .int (nI 0), .int (nI 0), .ref mst, .ref msm, .ref mtb, .ref mti, .ref mfr, .ref mbn, .ref mbs, .ref mde, .int (nI 0), .int (nI 0), .int (nI 0), .int (nI 0), .long 0, .long 0, .ref maa, .ref mab, .ref mba, .ref mbb])), (ms, .inl (cs 0, 288, .inl freshS)), (mkp, .inl (cs 0, 2304, .inl (fun _ => 0)))]) (hS : va_S A s.heap H locs) (hl : lv_has ls 7 [(4, .int (nI 0)), (3, .ref out), (2, .ref hm), (1, .ref h0), (0, .ref b)]) : W p l e room_1 s m #[Value.ref b] below meth c H locs 261 14585 (lw_Z below #[Value.ref b] s) (F0 m 890 ls []) := by
  have hx := C.1
  have hb := C.2.1
  have hz := C.2.2.2.2.1
  have hown := C.2.2.2.1
  have hA := C.2.2.2.2.2.2.2.2.2
  have hAO := C.2.2.2.2.2.2.2.2.1.2.2
  refine lv_aload_n hx hb dL_law_890 rfl (lv_at hl 3 rfl) ?_
  refine lv_aload_n hx hb dL_law_891 rfl (lv_at hl 4 rfl) ?_
  refine lv_iload hx hb dL_law_892 (lv_at hl 0 rfl) ?_
  refine lv_iconst (v := nI 1) hx hb dL_law_894 (by decide) ?_
  refine lv_iadd hx hb dL_law_895 ?_
  refine lv_topi (nm_r (e' := nI 1) (by decide) ?_)
  refine va_sld hx hb hX hbl hbA hS (pk_in 1 5 (by decide)) dL_law_896 ?_
  refine lv_topi (nm_r (e' := xs 1) (by rw [nI_clamp (by decide)]) ?_)
  refine lv_aload_n hx hb dL_law_897 rfl (lv_at hl 4 rfl) ?_
  refine lv_iload hx hb dL_law_898 (lv_at hl 0 rfl) ?_
  refine lv_iconst (v := nI 2) hx hb dL_law_900 (by decide) ?_
  refine lv_iadd hx hb dL_law_901 ?_
  refine lv_topi (nm_r (e' := nI 2) (by decide) ?_)
  refine va_sld hx hb hX hbl hbA hS (pk_in 2 5 (by decide)) dL_law_902 ?_
  refine lv_topi (nm_r (e' := xs 2) (by rw [nI_clamp (by decide)]) ?_)
  refine xi (wr := [(hm, .inr (12, [.ref ms, .ref mkp, .int (nI 0), .ref mtr, .int (nI 4), .int (nI 2), .int (nI 2), .int (nI 3), .int (nI 2), .int (nI 1), .ref mas, .int (nI 0), .int (nI 0), .int (nI 0), .ref mso, .ref mon, .ref mot, .ref man, .int (nI 0), .int (nI 0), .ref mst, .ref msm, .ref mtb, .ref mti, .ref mfr, .ref mbn, .ref mbs, .ref mde, .int (nI 0), .int (nI 0), .int (nI 0), .int (nI 0), .long 0, .long 0, .ref maa, .ref mab, .ref mba, .ref mbb])), (ms, .inl (cs 0, 288, .inl freshS)), (mkp, .inl (cs 0, 2304, .inl (fun _ => 0)))]) (xV (As := [.int (xs 1), .int (xs 2)]) (rest := []) C (c_X11_polls_z l D cs h0 hr hg hgr ha hpo hly hse hc pa spr qm (nI 0) (nI 1) nd kd lk vw v sv hp0 nd0 kd0 lk0 vw0 v0 sv0 pf sm ca gs g1r g2r gan gpr gde gme (xs 1) (xs 2) hpf) kL_105 hP hD [0, 1, 23, 24, 25, 2, 3, 4, 5, 6, 7, 8, 9, 10, 11, 12, 13, 14, 15, 16, 17, 18, 19, 20, 21, 22, 26, 27, 28, 29, 30, 31, 32, 33, 34, 35, 36, 37, 38, 39, 40, 41, 42, 43, 44, 45, 46] rfl (by decide +kernel) 0 rfl rfl rfl ⟨Nat.le_of_ble_eq_true rfl, Nat.le_of_ble_eq_true rfl⟩ rfl hl.1 rfl (Nat.le_of_ble_eq_true rfl) dL_law_903 ⟨Nat.le_of_ble_eq_true rfl, Nat.le_of_ble_eq_true rfl⟩) hP hD hS hA [0, 1, 23, 24, 25, 2, 3, 4, 5, 6, 7, 8, 9, 10, 11, 12, 13, 14, 15, 16, 17, 18, 19, 20, 21, 22, 26, 27, 28, 29, 30, 31, 32, 33, 34, 35, 36, 37, 38, 39, 40, 41, 42, 43, 44, 45, 46] [47, 48, 49] rfl rfl (by decide +kernel) (by decide +kernel) ?_
  clear hP hD hS
  try clear locs
  try clear H
  intro r_1 u_2 H locs hw_r_1 hP hD hS
  have hw_r_1 : PQ (¬ (xs 1) < nI 1 ∧ (xs 1) ≤ nI 100) r_1 (nI 0) (-1) := hw_r_1
  refine W.widen (k := 261) (n := 14585) (Nat.le_of_ble_eq_true rfl) (Nat.le_of_ble_eq_true rfl) ?_
  replace hP : va_P D vwCl [(hm, .inr (12, [.ref ms, .ref mkp, .int (nI 0), .ref mtr, .int (nI 4), .int (nI 2), .int (nI 2), .int (nI 3), .int (nI 2), .int (nI 1), .ref mas, .int (nI 0), .int (nI 0), .int (nI 0), .ref mso, .ref mon, .ref mot, .ref man, .int (nI 0), .int (nI 0), .ref mst, .ref msm, .ref mtb, .ref mti, .ref mfr, .ref mbn, .ref mbs, .ref mde, .int (nI 0), .int (nI 0), .int (nI 0), .int (nI 0), .long 0, .long 0, .ref maa, .ref mab, .ref mba, .ref mbb])), (ms, .inl (cs 0, 288, .inl freshS)), (mkp, .inl (cs 0, 2304, .inl (fun _ => 0)))] H := hP
  replace hD : va_D A [(hm, .inr (12, [.ref ms, .ref mkp, .int (nI 0), .ref mtr, .int (nI 4), .int (nI 2), .int (nI 2), .int (nI 3), .int (nI 2), .int (nI 1), .ref mas, .int (nI 0), .int (nI 0), .int (nI 0), .ref mso, .ref mon, .ref mot, .ref man, .int (nI 0), .int (nI 0), .ref mst, .ref msm, .ref mtb, .ref mti, .ref mfr, .ref mbn, .ref mbs, .ref mde, .int (nI 0), .int (nI 0), .int (nI 0), .int (nI 0), .long 0, .long 0, .ref maa, .ref mab, .ref mba, .ref mbb])), (ms, .inl (cs 0, 288, .inl freshS)), (mkp, .inl (cs 0, 2304, .inl (fun _ => 0)))] := hD
  refine lv_aload_n hx hb dL_law_906 rfl (lv_at hl 2 rfl) ?_
  refine lv_aload_n hx hb dL_law_907 rfl (lv_at hl 4 rfl) ?_
  refine lv_iload hx hb dL_law_908 (lv_at hl 0 rfl) ?_
  refine lv_iconst (v := nI 1) hx hb dL_law_910 (by decide) ?_
  refine lv_iadd hx hb dL_law_911 ?_
  refine lv_topi (nm_r (e' := nI 1) (by decide) ?_)
  refine va_sld hx hb hX hbl hbA hS (pk_in 1 5 (by decide)) dL_law_912 ?_
  refine lv_topi (nm_r (e' := xs 1) (by rw [nI_clamp (by decide)]) ?_)
  refine lv_aload_n hx hb dL_law_913 rfl (lv_at hl 4 rfl) ?_
  refine lv_iload hx hb dL_law_914 (lv_at hl 0 rfl) ?_
  refine lv_iconst (v := nI 2) hx hb dL_law_916 (by decide) ?_
  refine lv_iadd hx hb dL_law_917 ?_
  refine lv_topi (nm_r (e' := nI 2) (by decide) ?_)
  refine va_sld hx hb hX hbl hbA hS (pk_in 2 5 (by decide)) dL_law_918 ?_
  refine lv_topi (nm_r (e' := xs 2) (by rw [nI_clamp (by decide)]) ?_)
  refine xi (wr := []) (xV (As := [.int (xs 1), .int (xs 2)]) (rest := [.int r_1]) C (c_X12_polls_z l D cs hm ms mkp mtr mas mso mon mot man mst msm mtb mti mfr mbn mbs mde maa mab mba mbb (fun _ => 0) (xs 1) (xs 2)) kL_108 hP hD [0, 1, 2] rfl (by decide +kernel) 0 rfl rfl rfl ⟨Nat.le_of_ble_eq_true rfl, Nat.le_of_ble_eq_true rfl⟩ rfl hl.1 rfl (Nat.le_of_ble_eq_true rfl) dL_law_919 ⟨Nat.le_of_ble_eq_true rfl, Nat.le_of_ble_eq_true rfl⟩) hP hD hS hA [0, 1, 2] [] rfl rfl (by decide +kernel) (by decide +kernel) ?_
  clear hP hD hS
  try clear locs
  try clear H
  intro r_3 u_4 H locs hw_r_3 hP hD hS
  have hw_r_3 : PQ (¬ (xs 1) < nI 1 ∧ (xs 1) ≤ nI 100) r_3 (nI 0) (-1) := hw_r_3
  refine W.widen (k := 261) (n := 14585) (Nat.le_of_ble_eq_true rfl) (Nat.le_of_ble_eq_true rfl) ?_
  replace hP : va_P D vwCl [] H := hP
  replace hD : va_D A [] := hD
  refine lv_icmp_eq (tgt := 1199) hx hb dL_law_922 (by decide) (fun _ => ?_) (fun c => absurd (PQ.eq hw_r_1 hw_r_3) c)
  refine lv_iinc (v := nI 5) (lv' := [(4, .int (nI 5)), (3, .ref out), (2, .ref hm), (1, .ref h0), (0, .ref b)]) hx hb dL_law_1199 hl (k := 0) rfl (by decide) (by decide) rfl ?_
  clear hl
  try clear ls
  intro ls hl
  refine lv_goto (tgt := 23) hx hb dL_law_1202 (by decide) ?_
  refine lv_iload hx hb dL_law_23 (lv_at hl 0 rfl) ?_
  refine lv_aload_n hx hb dL_law_25 rfl (lv_at hl 4 rfl) ?_
  refine va_slen hx hb hX hbl hbA hS dL_law_26 ?_
  refine lv_topi (nm_r (e' := nI 5) rfl ?_)
  refine lv_iconst (v := nI 5) hx hb dL_law_27 (by decide) ?_
  refine lv_isub hx hb dL_law_28 ?_
  refine lv_topi (nm_r (e' := nI 0) (by decide) ?_)
  refine lv_icmp_gt (tgt := 1205) hx hb dL_law_29 (by decide) (fun _ => ?_) (fun c => absurd (by decide) c)
  refine lv_iconst (v := nI 1) hx hb dL_law_1205 (by decide) ?_
  refine lv_topi (nm_r (e' := 1) rfl ?_)
  exact va_forget (fun q hq => hA2 _ (hS.2.2 q hq)) (W.widen (Nat.le_of_ble_eq_true rfl) (Nat.le_of_ble_eq_true rfl) (W.base (lw_ret (Drawn.sameBut.refl s.drawn lw_cs) hx hb C.2.2.2.2.2.1 C.2.2.2.2.2.2.1 dL_law_1206)))

set_option maxHeartbeats 4000000 in
set_option maxRecDepth 100000 in
theorem law_case_20 {p : Program} {e : Env} {s : State} {m : MethodId} {below : List Frame} {meth : Method} {c : Code} (l : Launch) (hfl : l.stackTraces = false) {D : va_G} {cs : Nat → ClassId} {A : Nat → Prop} {b : Nat} {xs : Nat → Int32} (C : xC p room_1 s m #[Value.ref b] meth c ⟨"SampleHouseLaw", meth.name, ""⟩ code 7 ret D cs A) (hTH : xTH s) (hZ0 : xZ A s s.heap) (hX : va_X b 5 xs s s.heap) (hbl : b < s.heap.size) (hbA : ¬ A b) (hA2 : ∀ q, A q → s.heap.size ≤ q) (hr hg hgr ha hpo hly hse hc pa spr qm sm ca nd kd lk vw gs g1r g2r gan gpr gde gme wk spa aga ona wk2 ab rb ob tb hp0 nd0 kd0 lk0 vw0 : Nat) (v sv v0 sv0 rw rl : Nat → Nat) (sg : Nat → Nat → Int32) (pf : Nat → Option Nat) (ms mkp mtr mas mso mon mot man mst msm mtb mti mfr mbn mbs mde maa mab mba mbb h0 hm out : Nat) (hpf : pf 0 = some hp0) {H : Heap} {locs : List Loc} {ls : Array Slot} (hP : va_P D vwCl [(h0, .inr (11, [.ref hr, .ref hg, .ref hgr, .ref ha, .ref hpo, .ref hly, .ref hse, .ref hc, .ref pa, .ref spr, .ref qm, .int (nI 0), .int (nI 0), .int (nI 0), .int (nI 0), .int (nI 1)])), (hgr, .inr (3, [.int (nI 0), .ref gs, .ref g1r, .ref g2r, .ref gan, .ref gpr, .ref gde, .ref gme])), (hm, .inr (12, [.ref ms, .ref mkp, .int (nI 0), .ref mtr, .int (nI 4), .int (nI 2), .int (nI 2), .int (nI 3), .int (nI 2), .int (nI 1), .ref mas, .int (nI 0), .int (nI 0), .int (nI 0), .ref mso, .ref mon, .ref mot, .ref man, .int (nI 0), .int (nI 0), .ref mst, .ref msm, .ref mtb, .ref mti, .ref mfr, .ref mbn, .ref mbs, .ref mde, .int (nI 0), .int (nI 0), .int (nI 0), .int (nI 0), .long 0, .long 0, .ref maa, .ref mab, .ref mba, .ref mbb]))] H) (hD : va_D A [(h0, .inr (11, [.ref hr, .ref hg, .ref hgr, .ref ha, .ref hpo, .ref hly, .ref hse, .ref hc, .ref pa, .ref spr, .ref qm, .int (nI 0), .int (nI 0), .int (nI 0), .int (nI 0), .int (nI 1)])), (hgr, .inr (3, [.int (nI 0), .ref gs, .ref g1r, .ref g2r, .ref gan, .ref gpr, .ref gde, .ref gme])), (hm, .inr (12, [.ref ms, .ref mkp, .int (nI 0), .ref mtr, .int (nI 4), .int (nI 2), .int (nI 2), .int (nI 3), .int (nI 2), .int (nI 1), .ref mas, .int (nI 0), .int (nI 0), .int (nI 0), .ref mso, .ref mon, .ref mot, .ref man, .int (nI 0), .int (nI 0), .ref mst, .ref msm, .ref mtb, .ref mti, .ref mfr, .ref mbn, .ref mbs, .ref mde, .int (nI 0), .int (nI 0), .int (nI 0), .int (nI 0), .long 0, .long 0, .ref maa, .ref mab, .ref mba, .ref mbb]))]) (hS : va_S A s.heap H locs) (hl : lv_has ls 7 [(4, .int (nI 0)), (3, .ref out), (2, .ref hm), (1, .ref h0), (0, .ref b)]) : W p l e room_1 s m #[Value.ref b] below meth c H locs 261 14585 (lw_Z below #[Value.ref b] s) (F0 m 927 ls []) := by
  have hx := C.1
  have hb := C.2.1
  have hz := C.2.2.2.2.1
  have hown := C.2.2.2.1
  have hA := C.2.2.2.2.2.2.2.2.2
  have hAO := C.2.2.2.2.2.2.2.2.1.2.2
  refine lv_aload_n hx hb dL_law_927 rfl (lv_at hl 3 rfl) ?_
  refine lv_aload_n hx hb dL_law_928 rfl (lv_at hl 4 rfl) ?_
  refine lv_iload hx hb dL_law_929 (lv_at hl 0 rfl) ?_
  refine lv_iconst (v := nI 1) hx hb dL_law_931 (by decide) ?_
  refine lv_iadd hx hb dL_law_932 ?_
  refine lv_topi (nm_r (e' := nI 1) (by decide) ?_)
  refine va_sld hx hb hX hbl hbA hS (pk_in 1 5 (by decide)) dL_law_933 ?_
  refine lv_topi (nm_r (e' := xs 1) (by rw [nI_clamp (by decide)]) ?_)
  refine lv_aload_n hx hb dL_law_934 rfl (lv_at hl 4 rfl) ?_
  refine lv_iload hx hb dL_law_935 (lv_at hl 0 rfl) ?_
  refine lv_iconst (v := nI 2) hx hb dL_law_937 (by decide) ?_
  refine lv_iadd hx hb dL_law_938 ?_
  refine lv_topi (nm_r (e' := nI 2) (by decide) ?_)
  refine va_sld hx hb hX hbl hbA hS (pk_in 2 5 (by decide)) dL_law_939 ?_
  refine lv_topi (nm_r (e' := xs 2) (by rw [nI_clamp (by decide)]) ?_)
  refine xi (wr := [(hm, .inr (12, [.ref ms, .ref mkp, .int (nI 0), .ref mtr, .int (nI 4), .int (nI 2), .int (nI 2), .int (nI 3), .int (nI 2), .int (nI 1), .ref mas, .int (nI 0), .int (nI 0), .int (nI 0), .ref mso, .ref mon, .ref mot, .ref man, .int (nI 0), .int (nI 0), .ref mst, .ref msm, .ref mtb, .ref mti, .ref mfr, .ref mbn, .ref mbs, .ref mde, .int (nI 0), .int (nI 0), .int (nI 0), .int (nI 0), .long 0, .long 0, .ref maa, .ref mab, .ref mba, .ref mbb]))]) (xV (As := [.int (xs 1), .int (xs 2)]) (rest := []) C (c_X11_of_z l D cs h0 hr hg hgr ha hpo hly hse hc pa spr qm (nI 0) (nI 1) gs g1r g2r gan gpr gde gme (xs 1) (xs 2)) kL_109 hP hD [0, 1] rfl (by decide +kernel) 0 rfl rfl rfl ⟨Nat.le_of_ble_eq_true rfl, Nat.le_of_ble_eq_true rfl⟩ rfl hl.1 rfl (Nat.le_of_ble_eq_true rfl) dL_law_940 ⟨Nat.le_of_ble_eq_true rfl, Nat.le_of_ble_eq_true rfl⟩) hP hD hS hA [0, 1] [2] rfl rfl (by decide +kernel) (by decide +kernel) ?_
  clear hP hD hS
  try clear locs
  try clear H
  intro r_1 u_2 H locs hw_r_1 hP hD hS
  have hw_r_1 : r_1 = -2 := hw_r_1
  refine W.widen (k := 261) (n := 14585) (Nat.le_of_ble_eq_true rfl) (Nat.le_of_ble_eq_true rfl) ?_
  replace hP : va_P D vwCl [(hm, .inr (12, [.ref ms, .ref mkp, .int (nI 0), .ref mtr, .int (nI 4), .int (nI 2), .int (nI 2), .int (nI 3), .int (nI 2), .int (nI 1), .ref mas, .int (nI 0), .int (nI 0), .int (nI 0), .ref mso, .ref mon, .ref mot, .ref man, .int (nI 0), .int (nI 0), .ref mst, .ref msm, .ref mtb, .ref mti, .ref mfr, .ref mbn, .ref mbs, .ref mde, .int (nI 0), .int (nI 0), .int (nI 0), .int (nI 0), .long 0, .long 0, .ref maa, .ref mab, .ref mba, .ref mbb]))] H := hP
  replace hD : va_D A [(hm, .inr (12, [.ref ms, .ref mkp, .int (nI 0), .ref mtr, .int (nI 4), .int (nI 2), .int (nI 2), .int (nI 3), .int (nI 2), .int (nI 1), .ref mas, .int (nI 0), .int (nI 0), .int (nI 0), .ref mso, .ref mon, .ref mot, .ref man, .int (nI 0), .int (nI 0), .ref mst, .ref msm, .ref mtb, .ref mti, .ref mfr, .ref mbn, .ref mbs, .ref mde, .int (nI 0), .int (nI 0), .int (nI 0), .int (nI 0), .long 0, .long 0, .ref maa, .ref mab, .ref mba, .ref mbb]))] := hD
  refine lv_aload_n hx hb dL_law_943 rfl (lv_at hl 2 rfl) ?_
  refine lv_aload_n hx hb dL_law_944 rfl (lv_at hl 4 rfl) ?_
  refine lv_iload hx hb dL_law_945 (lv_at hl 0 rfl) ?_
  refine lv_iconst (v := nI 1) hx hb dL_law_947 (by decide) ?_
  refine lv_iadd hx hb dL_law_948 ?_
  refine lv_topi (nm_r (e' := nI 1) (by decide) ?_)
  refine va_sld hx hb hX hbl hbA hS (pk_in 1 5 (by decide)) dL_law_949 ?_
  refine lv_topi (nm_r (e' := xs 1) (by rw [nI_clamp (by decide)]) ?_)
  refine lv_aload_n hx hb dL_law_950 rfl (lv_at hl 4 rfl) ?_
  refine lv_iload hx hb dL_law_951 (lv_at hl 0 rfl) ?_
  refine lv_iconst (v := nI 2) hx hb dL_law_953 (by decide) ?_
  refine lv_iadd hx hb dL_law_954 ?_
  refine lv_topi (nm_r (e' := nI 2) (by decide) ?_)
  refine va_sld hx hb hX hbl hbA hS (pk_in 2 5 (by decide)) dL_law_955 ?_
  refine lv_topi (nm_r (e' := xs 2) (by rw [nI_clamp (by decide)]) ?_)
  refine xi (wr := []) (xV (As := [.int (xs 1), .int (xs 2)]) (rest := [.int r_1]) C (c_X12_of_z l D cs hm ms mkp mtr mas mso mon mot man mst msm mtb mti mfr mbn mbs mde maa mab mba mbb (xs 1) (xs 2)) kL_112 hP hD [0] rfl (by decide +kernel) 0 rfl rfl rfl ⟨Nat.le_of_ble_eq_true rfl, Nat.le_of_ble_eq_true rfl⟩ rfl hl.1 rfl (Nat.le_of_ble_eq_true rfl) dL_law_956 ⟨Nat.le_of_ble_eq_true rfl, Nat.le_of_ble_eq_true rfl⟩) hP hD hS hA [0] [] rfl rfl (by decide +kernel) (by decide +kernel) ?_
  clear hP hD hS
  try clear locs
  try clear H
  intro r_3 u_4 H locs hw_r_3 hP hD hS
  have hw_r_3 : r_3 = -2 := hw_r_3
  refine W.widen (k := 261) (n := 14585) (Nat.le_of_ble_eq_true rfl) (Nat.le_of_ble_eq_true rfl) ?_
  replace hP : va_P D vwCl [] H := hP
  replace hD : va_D A [] := hD
  refine lv_icmp_eq (tgt := 1199) hx hb dL_law_959 (by decide) (fun _ => ?_) (fun c => absurd (hw_r_1.trans hw_r_3.symm) c)
  refine lv_iinc (v := nI 5) (lv' := [(4, .int (nI 5)), (3, .ref out), (2, .ref hm), (1, .ref h0), (0, .ref b)]) hx hb dL_law_1199 hl (k := 0) rfl (by decide) (by decide) rfl ?_
  clear hl
  try clear ls
  intro ls hl
  refine lv_goto (tgt := 23) hx hb dL_law_1202 (by decide) ?_
  refine lv_iload hx hb dL_law_23 (lv_at hl 0 rfl) ?_
  refine lv_aload_n hx hb dL_law_25 rfl (lv_at hl 4 rfl) ?_
  refine va_slen hx hb hX hbl hbA hS dL_law_26 ?_
  refine lv_topi (nm_r (e' := nI 5) rfl ?_)
  refine lv_iconst (v := nI 5) hx hb dL_law_27 (by decide) ?_
  refine lv_isub hx hb dL_law_28 ?_
  refine lv_topi (nm_r (e' := nI 0) (by decide) ?_)
  refine lv_icmp_gt (tgt := 1205) hx hb dL_law_29 (by decide) (fun _ => ?_) (fun c => absurd (by decide) c)
  refine lv_iconst (v := nI 1) hx hb dL_law_1205 (by decide) ?_
  refine lv_topi (nm_r (e' := 1) rfl ?_)
  exact va_forget (fun q hq => hA2 _ (hS.2.2 q hq)) (W.widen (Nat.le_of_ble_eq_true rfl) (Nat.le_of_ble_eq_true rfl) (W.base (lw_ret (Drawn.sameBut.refl s.drawn lw_cs) hx hb C.2.2.2.2.2.1 C.2.2.2.2.2.2.1 dL_law_1206)))

set_option maxHeartbeats 4000000 in
set_option maxRecDepth 100000 in
theorem law_case_21 {p : Program} {e : Env} {s : State} {m : MethodId} {below : List Frame} {meth : Method} {c : Code} (l : Launch) (hfl : l.stackTraces = false) {D : va_G} {cs : Nat → ClassId} {A : Nat → Prop} {b : Nat} {xs : Nat → Int32} (C : xC p room_1 s m #[Value.ref b] meth c ⟨"SampleHouseLaw", meth.name, ""⟩ code 7 ret D cs A) (hTH : xTH s) (hZ0 : xZ A s s.heap) (hX : va_X b 5 xs s s.heap) (hbl : b < s.heap.size) (hbA : ¬ A b) (hA2 : ∀ q, A q → s.heap.size ≤ q) (hr hg hgr ha hpo hly hse hc pa spr qm sm ca nd kd lk vw gs g1r g2r gan gpr gde gme wk spa aga ona wk2 ab rb ob tb hp0 nd0 kd0 lk0 vw0 : Nat) (v sv v0 sv0 rw rl : Nat → Nat) (sg : Nat → Nat → Int32) (pf : Nat → Option Nat) (ms mkp mtr mas mso mon mot man mst msm mtb mti mfr mbn mbs mde maa mab mba mbb h0 hm out : Nat) (hpf : pf 0 = some hp0) {H : Heap} {locs : List Loc} {ls : Array Slot} (hP : va_P D vwCl [(h0, .inr (11, [.ref hr, .ref hg, .ref hgr, .ref ha, .ref hpo, .ref hly, .ref hse, .ref hc, .ref pa, .ref spr, .ref qm, .int (nI 0), .int (nI 0), .int (nI 0), .int (nI 0), .int (nI 1)])), (hr, .inr (7, [.int (nI 4), .int (nI 2), .int (nI 2), .int (nI 3), .int (nI 2), .int (nI 1), .ref sm, .int (nI 3), .ref ca])), (hg, .inr (4, [.ref nd, .ref kd, .ref lk, .ref vw])), (kd, .inl (cs 0, 8, .inl (fun _ => nI 0))), (hgr, .inr (3, [.int (nI 0), .ref gs, .ref g1r, .ref g2r, .ref gan, .ref gpr, .ref gde, .ref gme])), (hm, .inr (12, [.ref ms, .ref mkp, .int (nI 0), .ref mtr, .int (nI 4), .int (nI 2), .int (nI 2), .int (nI 3), .int (nI 2), .int (nI 1), .ref mas, .int (nI 0), .int (nI 0), .int (nI 0), .ref mso, .ref mon, .ref mot, .ref man, .int (nI 0), .int (nI 0), .ref mst, .ref msm, .ref mtb, .ref mti, .ref mfr, .ref mbn, .ref mbs, .ref mde, .int (nI 0), .int (nI 0), .int (nI 0), .int (nI 0), .long 0, .long 0, .ref maa, .ref mab, .ref mba, .ref mbb])), (ms, .inl (cs 0, 288, .inl freshS)), (out, .inl (cs 1, 1, .inr (.inl (fun _ => 0))))] H) (hD : va_D A [(h0, .inr (11, [.ref hr, .ref hg, .ref hgr, .ref ha, .ref hpo, .ref hly, .ref hse, .ref hc, .ref pa, .ref spr, .ref qm, .int (nI 0), .int (nI 0), .int (nI 0), .int (nI 0), .int (nI 1)])), (hr, .inr (7, [.int (nI 4), .int (nI 2), .int (nI 2), .int (nI 3), .int (nI 2), .int (nI 1), .ref sm, .int (nI 3), .ref ca])), (hg, .inr (4, [.ref nd, .ref kd, .ref lk, .ref vw])), (kd, .inl (cs 0, 8, .inl (fun _ => nI 0))), (hgr, .inr (3, [.int (nI 0), .ref gs, .ref g1r, .ref g2r, .ref gan, .ref gpr, .ref gde, .ref gme])), (hm, .inr (12, [.ref ms, .ref mkp, .int (nI 0), .ref mtr, .int (nI 4), .int (nI 2), .int (nI 2), .int (nI 3), .int (nI 2), .int (nI 1), .ref mas, .int (nI 0), .int (nI 0), .int (nI 0), .ref mso, .ref mon, .ref mot, .ref man, .int (nI 0), .int (nI 0), .ref mst, .ref msm, .ref mtb, .ref mti, .ref mfr, .ref mbn, .ref mbs, .ref mde, .int (nI 0), .int (nI 0), .int (nI 0), .int (nI 0), .long 0, .long 0, .ref maa, .ref mab, .ref mba, .ref mbb])), (ms, .inl (cs 0, 288, .inl freshS)), (out, .inl (cs 1, 1, .inr (.inl (fun _ => 0))))]) (hS : va_S A s.heap H locs) (hl : lv_has ls 7 [(4, .int (nI 0)), (3, .ref out), (2, .ref hm), (1, .ref h0), (0, .ref b)]) : W p l e room_1 s m #[Value.ref b] below meth c H locs 261 14585 (lw_Z below #[Value.ref b] s) (F0 m 964 ls []) := by
  have hx := C.1
  have hb := C.2.1
  have hz := C.2.2.2.2.1
  have hown := C.2.2.2.1
  have hA := C.2.2.2.2.2.2.2.2.2
  have hAO := C.2.2.2.2.2.2.2.2.1.2.2
  refine lv_aload_n hx hb dL_law_964 rfl (lv_at hl 3 rfl) ?_
  refine lv_aload_n hx hb dL_law_965 rfl (lv_at hl 4 rfl) ?_
  refine lv_iload hx hb dL_law_966 (lv_at hl 0 rfl) ?_
  refine lv_iconst (v := nI 1) hx hb dL_law_968 (by decide) ?_
  refine lv_iadd hx hb dL_law_969 ?_
  refine lv_topi (nm_r (e' := nI 1) (by decide) ?_)
  refine va_sld hx hb hX hbl hbA hS (pk_in 1 5 (by decide)) dL_law_970 ?_
  refine lv_topi (nm_r (e' := xs 1) (by rw [nI_clamp (by decide)]) ?_)
  refine lv_aload_n hx hb dL_law_971 rfl (lv_at hl 4 rfl) ?_
  refine lv_iload hx hb dL_law_972 (lv_at hl 0 rfl) ?_
  refine lv_iconst (v := nI 2) hx hb dL_law_974 (by decide) ?_
  refine lv_iadd hx hb dL_law_975 ?_
  refine lv_topi (nm_r (e' := nI 2) (by decide) ?_)
  refine va_sld hx hb hX hbl hbA hS (pk_in 2 5 (by decide)) dL_law_976 ?_
  refine lv_topi (nm_r (e' := xs 2) (by rw [nI_clamp (by decide)]) ?_)
  refine lv_aload_n hx hb dL_law_977 rfl (lv_at hl 4 rfl) ?_
  refine lv_iload hx hb dL_law_978 (lv_at hl 0 rfl) ?_
  refine lv_iconst (v := nI 3) hx hb dL_law_980 (by decide) ?_
  refine lv_iadd hx hb dL_law_981 ?_
  refine lv_topi (nm_r (e' := nI 3) (by decide) ?_)
  refine va_sld hx hb hX hbl hbA hS (pk_in 3 5 (by decide)) dL_law_982 ?_
  refine lv_topi (nm_r (e' := xs 3) (by rw [nI_clamp (by decide)]) ?_)
  refine lv_aload_n hx hb dL_law_983 rfl (lv_at hl 1 rfl) ?_
  refine xi (wr := [(hm, .inr (12, [.ref ms, .ref mkp, .int (nI 0), .ref mtr, .int (nI 4), .int (nI 2), .int (nI 2), .int (nI 3), .int (nI 2), .int (nI 1), .ref mas, .int (nI 0), .int (nI 0), .int (nI 0), .ref mso, .ref mon, .ref mot, .ref man, .int (nI 0), .int (nI 0), .ref mst, .ref msm, .ref mtb, .ref mti, .ref mfr, .ref mbn, .ref mbs, .ref mde, .int (nI 0), .int (nI 0), .int (nI 0), .int (nI 0), .long 0, .long 0, .ref maa, .ref mab, .ref mba, .ref mbb])), (ms, .inl (cs 0, 288, .inl freshS))]) (xSH (n := 5) (As := [.ref h0, .int (xs 1), .int (xs 2), .int (xs 3), .ref out]) (rest := []) C (c_L_view l D cs h0 hr hg hgr ha hpo hly hse hc pa spr qm (nI 0) (nI 1) sm ca nd kd lk vw gs g1r g2r gan gpr gde gme out (fun _ => 0) (xs 1) (xs 2) (xs 3) hfl) zcw_view zw1_0 zw5_122 zw5_123 (by decide +kernel) hTH hZ0 hS hP hD [0, 1, 2, 3, 4, 7] rfl (by decide +kernel) ⟨Nat.le_of_ble_eq_true rfl, Nat.le_of_ble_eq_true rfl⟩ rfl hl.1 rfl (Nat.le_of_ble_eq_true rfl) dL_law_984 ⟨Nat.le_of_ble_eq_true rfl, Nat.le_of_ble_eq_true rfl⟩) hP hD hS hA [0, 1, 2, 3, 4, 7] [5, 6] rfl rfl (by decide +kernel) (by decide +kernel) ?_
  clear hP hD hS
  try clear locs
  try clear H
  intro r_1 u_2 H locs hw_r_1 hP hD hS
  have hw_r_1 : r_1 = nI 1 := hw_r_1
  refine W.widen (k := 262) (n := 14591) (Nat.le_of_ble_eq_true rfl) (Nat.le_of_ble_eq_true rfl) ?_
  replace hP : va_P D vwCl [(hm, .inr (12, [.ref ms, .ref mkp, .int (nI 0), .ref mtr, .int (nI 4), .int (nI 2), .int (nI 2), .int (nI 3), .int (nI 2), .int (nI 1), .ref mas, .int (nI 0), .int (nI 0), .int (nI 0), .ref mso, .ref mon, .ref mot, .ref man, .int (nI 0), .int (nI 0), .ref mst, .ref msm, .ref mtb, .ref mti, .ref mfr, .ref mbn, .ref mbs, .ref mde, .int (nI 0), .int (nI 0), .int (nI 0), .int (nI 0), .long 0, .long 0, .ref maa, .ref mab, .ref mba, .ref mbb])), (ms, .inl (cs 0, 288, .inl freshS)), (out, .inl (cs 1, 1, .inr (.inl (fun _ => 0))))] H := hP
  replace hD : va_D A [(hm, .inr (12, [.ref ms, .ref mkp, .int (nI 0), .ref mtr, .int (nI 4), .int (nI 2), .int (nI 2), .int (nI 3), .int (nI 2), .int (nI 1), .ref mas, .int (nI 0), .int (nI 0), .int (nI 0), .ref mso, .ref mon, .ref mot, .ref man, .int (nI 0), .int (nI 0), .ref mst, .ref msm, .ref mtb, .ref mti, .ref mfr, .ref mbn, .ref mbs, .ref mde, .int (nI 0), .int (nI 0), .int (nI 0), .int (nI 0), .long 0, .long 0, .ref maa, .ref mab, .ref mba, .ref mbb])), (ms, .inl (cs 0, 288, .inl freshS)), (out, .inl (cs 1, 1, .inr (.inl (fun _ => 0))))] := hD
  subst hw_r_1
  refine lv_istore (lv' := [(5, .int (nI 1)), (4, .int (nI 0)), (3, .ref out), (2, .ref hm), (1, .ref h0), (0, .ref b)]) hx hb dL_law_987 hl (by decide) rfl ?_
  clear hl
  try clear ls
  intro ls hl
  refine lv_aload_n hx hb dL_law_989 rfl (lv_at hl 3 rfl) ?_
  refine lv_aload_n hx hb dL_law_990 rfl (lv_at hl 5 rfl) ?_
  refine lv_iload hx hb dL_law_991 (lv_at hl 1 rfl) ?_
  refine lv_iconst (v := nI 1) hx hb dL_law_993 (by decide) ?_
  refine lv_iadd hx hb dL_law_994 ?_
  refine lv_topi (nm_r (e' := nI 1) (by decide) ?_)
  refine va_sld hx hb hX hbl hbA hS (pk_in 1 5 (by decide)) dL_law_995 ?_
  refine lv_topi (nm_r (e' := xs 1) (by rw [nI_clamp (by decide)]) ?_)
  refine lv_aload_n hx hb dL_law_996 rfl (lv_at hl 5 rfl) ?_
  refine lv_iload hx hb dL_law_997 (lv_at hl 1 rfl) ?_
  refine lv_iconst (v := nI 2) hx hb dL_law_999 (by decide) ?_
  refine lv_iadd hx hb dL_law_1000 ?_
  refine lv_topi (nm_r (e' := nI 2) (by decide) ?_)
  refine va_sld hx hb hX hbl hbA hS (pk_in 2 5 (by decide)) dL_law_1001 ?_
  refine lv_topi (nm_r (e' := xs 2) (by rw [nI_clamp (by decide)]) ?_)
  refine lv_aload_n hx hb dL_law_1002 rfl (lv_at hl 5 rfl) ?_
  refine lv_iload hx hb dL_law_1003 (lv_at hl 1 rfl) ?_
  refine lv_iconst (v := nI 3) hx hb dL_law_1005 (by decide) ?_
  refine lv_iadd hx hb dL_law_1006 ?_
  refine lv_topi (nm_r (e' := nI 3) (by decide) ?_)
  refine va_sld hx hb hX hbl hbA hS (pk_in 3 5 (by decide)) dL_law_1007 ?_
  refine lv_topi (nm_r (e' := xs 3) (by rw [nI_clamp (by decide)]) ?_)
  refine xi (wr := [(out, .inl (cs 1, 1, .inr (.inl (fun _ => 0))))]) (xV (As := [.int (xs 1), .int (xs 2), .int (xs 3)]) (rest := []) C (c_X12_view_z l D cs hm ms mkp mtr mas mso mon mot man mst msm mtb mti mfr mbn mbs mde maa mab mba mbb (xs 1) (xs 2) (xs 3)) kL_118 hP hD [0, 1] rfl (by decide +kernel) 0 rfl rfl rfl ⟨Nat.le_of_ble_eq_true rfl, Nat.le_of_ble_eq_true rfl⟩ rfl hl.1 rfl (Nat.le_of_ble_eq_true rfl) dL_law_1008 ⟨Nat.le_of_ble_eq_true rfl, Nat.le_of_ble_eq_true rfl⟩) hP hD hS hA [0, 1] [2] rfl rfl (by decide +kernel) (by decide +kernel) ?_
  clear hP hD hS
  try clear locs
  try clear H
  intro r_3 u_4 H locs hw_r_3 hP hD hS
  have hw_r_3 : r_3 = nI 0 := hw_r_3
  refine W.widen (k := 262) (n := 14591) (Nat.le_of_ble_eq_true rfl) (Nat.le_of_ble_eq_true rfl) ?_
  replace hP : va_P D vwCl [(out, .inl (cs 1, 1, .inr (.inl (fun _ => 0)))), (hm, .inr (12, [.ref ms, .ref mkp, .int (nI 0), .ref mtr, .int (nI 4), .int (nI 2), .int (nI 2), .int (nI 3), .int (nI 2), .int (nI 1), .ref mas, .int (nI 0), .int (nI 0), .int (nI 0), .ref mso, .ref mon, .ref mot, .ref man, .int (nI 1), .int (nI 0), .ref mst, .ref msm, .ref mtb, .ref mti, .ref mfr, .ref mbn, .ref mbs, .ref mde, .int (nI 0), .int (nI 0), .int (nI 0), .int (nI 0), .long 0, .long 0, .ref maa, .ref mab, .ref mba, .ref mbb]))] H := hP
  replace hD : va_D A [(out, .inl (cs 1, 1, .inr (.inl (fun _ => 0)))), (hm, .inr (12, [.ref ms, .ref mkp, .int (nI 0), .ref mtr, .int (nI 4), .int (nI 2), .int (nI 2), .int (nI 3), .int (nI 2), .int (nI 1), .ref mas, .int (nI 0), .int (nI 0), .int (nI 0), .ref mso, .ref mon, .ref mot, .ref man, .int (nI 1), .int (nI 0), .ref mst, .ref msm, .ref mtb, .ref mti, .ref mfr, .ref mbn, .ref mbs, .ref mde, .int (nI 0), .int (nI 0), .int (nI 0), .int (nI 0), .long 0, .long 0, .ref maa, .ref mab, .ref mba, .ref mbb]))] := hD
  subst hw_r_3
  refine lv_istore (lv' := [(6, .int (nI 0)), (5, .int (nI 1)), (4, .int (nI 0)), (3, .ref out), (2, .ref hm), (1, .ref h0), (0, .ref b)]) hx hb dL_law_1011 hl (by decide) rfl ?_
  clear hl
  try clear ls
  intro ls hl
  refine lv_aload_n hx hb dL_law_1013 rfl (lv_at hl 4 rfl) ?_
  refine xi (wr := [(out, .inl (cs 1, 1, .inr (.inl (fun _ => 0))))]) (xV (As := []) (rest := []) C (c_X12_thrown_t l D cs hm ms mkp mtr mas mso mon mot man mst msm mtb mti mfr mbn mbs mde maa mab mba mbb (nI 1)) kL_119 hP hD [1] rfl (by decide +kernel) 0 rfl rfl rfl ⟨Nat.le_of_ble_eq_true rfl, Nat.le_of_ble_eq_true rfl⟩ rfl hl.1 rfl (Nat.le_of_ble_eq_true rfl) dL_law_1014 ⟨Nat.le_of_ble_eq_true rfl, Nat.le_of_ble_eq_true rfl⟩) hP hD hS hA [1] [0] rfl rfl (by decide +kernel) (by decide +kernel) ?_
  clear hP hD hS
  try clear locs
  try clear H
  intro r_5 u_6 H locs hw_r_5 hP hD hS
  have hw_r_5 : r_5 = (nI 1) := hw_r_5
  refine W.widen (k := 262) (n := 14591) (Nat.le_of_ble_eq_true rfl) (Nat.le_of_ble_eq_true rfl) ?_
  replace hP : va_P D vwCl [(out, .inl (cs 1, 1, .inr (.inl (fun _ => 0)))), (hm, .inr (12, [.ref ms, .ref mkp, .int (nI 0), .ref mtr, .int (nI 4), .int (nI 2), .int (nI 2), .int (nI 3), .int (nI 2), .int (nI 1), .ref mas, .int (nI 0), .int (nI 0), .int (nI 0), .ref mso, .ref mon, .ref mot, .ref man, .int (nI 1), .int (nI 0), .ref mst, .ref msm, .ref mtb, .ref mti, .ref mfr, .ref mbn, .ref mbs, .ref mde, .int (nI 0), .int (nI 0), .int (nI 0), .int (nI 0), .long 0, .long 0, .ref maa, .ref mab, .ref mba, .ref mbb]))] H := hP
  replace hD : va_D A [(out, .inl (cs 1, 1, .inr (.inl (fun _ => 0)))), (hm, .inr (12, [.ref ms, .ref mkp, .int (nI 0), .ref mtr, .int (nI 4), .int (nI 2), .int (nI 2), .int (nI 3), .int (nI 2), .int (nI 1), .ref mas, .int (nI 0), .int (nI 0), .int (nI 0), .ref mso, .ref mon, .ref mot, .ref man, .int (nI 1), .int (nI 0), .ref mst, .ref msm, .ref mtb, .ref mti, .ref mfr, .ref mbn, .ref mbs, .ref mde, .int (nI 0), .int (nI 0), .int (nI 0), .int (nI 0), .long 0, .long 0, .ref maa, .ref mab, .ref mba, .ref mbb]))] := hD
  subst hw_r_5
  refine lv_iload hx hb dL_law_1017 (lv_at hl 1 rfl) ?_
  refine lv_icmp_eq (tgt := 1024) hx hb dL_law_1019 (by decide) (fun _ => ?_) (fun c => absurd (by decide) c)
  refine lv_iload hx hb dL_law_1024 (lv_at hl 1 rfl) ?_
  refine lv_if_ne (tgt := 1041) hx hb dL_law_1026 (by decide) (fun _ => ?_) (fun c => absurd c (by decide))
  refine lv_goto (tgt := 1199) hx hb dL_law_1041 (by decide) ?_
  refine lv_iinc (v := nI 5) (lv' := [(4, .int (nI 5)), (6, .int (nI 0)), (5, .int (nI 1)), (3, .ref out), (2, .ref hm), (1, .ref h0), (0, .ref b)]) hx hb dL_law_1199 hl (k := 2) rfl (by decide) (by decide) rfl ?_
  clear hl
  try clear ls
  intro ls hl
  refine lv_goto (tgt := 23) hx hb dL_law_1202 (by decide) ?_
  refine lv_iload hx hb dL_law_23 (lv_at hl 0 rfl) ?_
  refine lv_aload_n hx hb dL_law_25 rfl (lv_at hl 6 rfl) ?_
  refine va_slen hx hb hX hbl hbA hS dL_law_26 ?_
  refine lv_topi (nm_r (e' := nI 5) rfl ?_)
  refine lv_iconst (v := nI 5) hx hb dL_law_27 (by decide) ?_
  refine lv_isub hx hb dL_law_28 ?_
  refine lv_topi (nm_r (e' := nI 0) (by decide) ?_)
  refine lv_icmp_gt (tgt := 1205) hx hb dL_law_29 (by decide) (fun _ => ?_) (fun c => absurd (by decide) c)
  refine lv_iconst (v := nI 1) hx hb dL_law_1205 (by decide) ?_
  refine lv_topi (nm_r (e' := 1) rfl ?_)
  exact va_forget (fun q hq => hA2 _ (hS.2.2 q hq)) (W.widen (Nat.le_of_ble_eq_true rfl) (Nat.le_of_ble_eq_true rfl) (W.base (lw_ret (Drawn.sameBut.refl s.drawn lw_cs) hx hb C.2.2.2.2.2.1 C.2.2.2.2.2.2.1 dL_law_1206)))

set_option maxHeartbeats 4000000 in
set_option maxRecDepth 100000 in
theorem law_case_22 {p : Program} {e : Env} {s : State} {m : MethodId} {below : List Frame} {meth : Method} {c : Code} (l : Launch) (hfl : l.stackTraces = false) {D : va_G} {cs : Nat → ClassId} {A : Nat → Prop} {b : Nat} {xs : Nat → Int32} (C : xC p room_1 s m #[Value.ref b] meth c ⟨"SampleHouseLaw", meth.name, ""⟩ code 7 ret D cs A) (hTH : xTH s) (hZ0 : xZ A s s.heap) (hX : va_X b 5 xs s s.heap) (hbl : b < s.heap.size) (hbA : ¬ A b) (hA2 : ∀ q, A q → s.heap.size ≤ q) (hr hg hgr ha hpo hly hse hc pa spr qm sm ca nd kd lk vw gs g1r g2r gan gpr gde gme wk spa aga ona wk2 ab rb ob tb hp0 nd0 kd0 lk0 vw0 : Nat) (v sv v0 sv0 rw rl : Nat → Nat) (sg : Nat → Nat → Int32) (pf : Nat → Option Nat) (ms mkp mtr mas mso mon mot man mst msm mtb mti mfr mbn mbs mde maa mab mba mbb h0 hm out : Nat) (hpf : pf 0 = some hp0) {H : Heap} {locs : List Loc} {ls : Array Slot} (hP : va_P D vwCl [(h0, .inr (11, [.ref hr, .ref hg, .ref hgr, .ref ha, .ref hpo, .ref hly, .ref hse, .ref hc, .ref pa, .ref spr, .ref qm, .int (nI 0), .int (nI 0), .int (nI 0), .int (nI 0), .int (nI 1)])), (hr, .inr (7, [.int (nI 4), .int (nI 2), .int (nI 2), .int (nI 3), .int (nI 2), .int (nI 1), .ref sm, .int (nI 3), .ref ca])), (hg, .inr (4, [.ref nd, .ref kd, .ref lk, .ref vw])), (kd, .inl (cs 0, 8, .inl (fun _ => nI 0))), (vw, .inl (cs 2, 8, .inr (.inr (.inr (.inr (fun i => some (v i))))))), (v 0, .inr (10, [.int ((fun _ => nI 0) 0), .int ((fun _ => nI 0) 0), .ref (sv 0)])), (sv 0, .inl (cs 0, 32, .inl ((fun _ => vF) 0))), (v 1, .inr (10, [.int ((fun _ => nI 0) 1), .int ((fun _ => nI 0) 1), .ref (sv 1)])), (sv 1, .inl (cs 0, 32, .inl ((fun _ => vF) 1))), (v 2, .inr (10, [.int ((fun _ => nI 0) 2), .int ((fun _ => nI 0) 2), .ref (sv 2)])), (sv 2, .inl (cs 0, 32, .inl ((fun _ => vF) 2))), (v 3, .inr (10, [.int ((fun _ => nI 0) 3), .int ((fun _ => nI 0) 3), .ref (sv 3)])), (sv 3, .inl (cs 0, 32, .inl ((fun _ => vF) 3))), (hm, .inr (12, [.ref ms, .ref mkp, .int (nI 0), .ref mtr, .int (nI 4), .int (nI 2), .int (nI 2), .int (nI 3), .int (nI 2), .int (nI 1), .ref mas, .int (nI 0), .int (nI 0), .int (nI 0), .ref mso, .ref mon, .ref mot, .ref man, .int (nI 0), .int (nI 0), .ref mst, .ref msm, .ref mtb, .ref mti, .ref mfr, .ref mbn, .ref mbs, .ref mde, .int (nI 0), .int (nI 0), .int (nI 0), .int (nI 0), .long 0, .long 0, .ref maa, .ref mab, .ref mba, .ref mbb])), (ms, .inl (cs 0, 288, .inl freshS)), (out, .inl (cs 1, 1, .inr (.inl (fun _ => 0))))] H) (hD : va_D A [(h0, .inr (11, [.ref hr, .ref hg, .ref hgr, .ref ha, .ref hpo, .ref hly, .ref hse, .ref hc, .ref pa, .ref spr, .ref qm, .int (nI 0), .int (nI 0), .int (nI 0), .int (nI 0), .int (nI 1)])), (hr, .inr (7, [.int (nI 4), .int (nI 2), .int (nI 2), .int (nI 3), .int (nI 2), .int (nI 1), .ref sm, .int (nI 3), .ref ca])), (hg, .inr (4, [.ref nd, .ref kd, .ref lk, .ref vw])), (kd, .inl (cs 0, 8, .inl (fun _ => nI 0))), (vw, .inl (cs 2, 8, .inr (.inr (.inr (.inr (fun i => some (v i))))))), (v 0, .inr (10, [.int ((fun _ => nI 0) 0), .int ((fun _ => nI 0) 0), .ref (sv 0)])), (sv 0, .inl (cs 0, 32, .inl ((fun _ => vF) 0))), (v 1, .inr (10, [.int ((fun _ => nI 0) 1), .int ((fun _ => nI 0) 1), .ref (sv 1)])), (sv 1, .inl (cs 0, 32, .inl ((fun _ => vF) 1))), (v 2, .inr (10, [.int ((fun _ => nI 0) 2), .int ((fun _ => nI 0) 2), .ref (sv 2)])), (sv 2, .inl (cs 0, 32, .inl ((fun _ => vF) 2))), (v 3, .inr (10, [.int ((fun _ => nI 0) 3), .int ((fun _ => nI 0) 3), .ref (sv 3)])), (sv 3, .inl (cs 0, 32, .inl ((fun _ => vF) 3))), (hm, .inr (12, [.ref ms, .ref mkp, .int (nI 0), .ref mtr, .int (nI 4), .int (nI 2), .int (nI 2), .int (nI 3), .int (nI 2), .int (nI 1), .ref mas, .int (nI 0), .int (nI 0), .int (nI 0), .ref mso, .ref mon, .ref mot, .ref man, .int (nI 0), .int (nI 0), .ref mst, .ref msm, .ref mtb, .ref mti, .ref mfr, .ref mbn, .ref mbs, .ref mde, .int (nI 0), .int (nI 0), .int (nI 0), .int (nI 0), .long 0, .long 0, .ref maa, .ref mab, .ref mba, .ref mbb])), (ms, .inl (cs 0, 288, .inl freshS)), (out, .inl (cs 1, 1, .inr (.inl (fun _ => 0))))]) (hS : va_S A s.heap H locs) (hl : lv_has ls 7 [(4, .int (nI 0)), (3, .ref out), (2, .ref hm), (1, .ref h0), (0, .ref b)]) : W p l e room_1 s m #[Value.ref b] below meth c H locs 261 14585 (lw_Z below #[Value.ref b] s) (F0 m 1044 ls []) := by
  have hx := C.1
  have hb := C.2.1
  have hz := C.2.2.2.2.1
  have hown := C.2.2.2.1
  have hA := C.2.2.2.2.2.2.2.2.2
  have hAO := C.2.2.2.2.2.2.2.2.1.2.2
  refine lv_aload_n hx hb dL_law_1044 rfl (lv_at hl 3 rfl) ?_
  refine lv_aload_n hx hb dL_law_1045 rfl (lv_at hl 4 rfl) ?_
  refine lv_iload hx hb dL_law_1046 (lv_at hl 0 rfl) ?_
  refine lv_iconst (v := nI 1) hx hb dL_law_1048 (by decide) ?_
  refine lv_iadd hx hb dL_law_1049 ?_
  refine lv_topi (nm_r (e' := nI 1) (by decide) ?_)
  refine va_sld hx hb hX hbl hbA hS (pk_in 1 5 (by decide)) dL_law_1050 ?_
  refine lv_topi (nm_r (e' := xs 1) (by rw [nI_clamp (by decide)]) ?_)
  refine lv_aload_n hx hb dL_law_1051 rfl (lv_at hl 4 rfl) ?_
  refine lv_iload hx hb dL_law_1052 (lv_at hl 0 rfl) ?_
  refine lv_iconst (v := nI 2) hx hb dL_law_1054 (by decide) ?_
  refine lv_iadd hx hb dL_law_1055 ?_
  refine lv_topi (nm_r (e' := nI 2) (by decide) ?_)
  refine va_sld hx hb hX hbl hbA hS (pk_in 2 5 (by decide)) dL_law_1056 ?_
  refine lv_topi (nm_r (e' := xs 2) (by rw [nI_clamp (by decide)]) ?_)
  refine lv_aload_n hx hb dL_law_1057 rfl (lv_at hl 4 rfl) ?_
  refine lv_iload hx hb dL_law_1058 (lv_at hl 0 rfl) ?_
  refine lv_iconst (v := nI 3) hx hb dL_law_1060 (by decide) ?_
  refine lv_iadd hx hb dL_law_1061 ?_
  refine lv_topi (nm_r (e' := nI 3) (by decide) ?_)
  refine va_sld hx hb hX hbl hbA hS (pk_in 3 5 (by decide)) dL_law_1062 ?_
  refine lv_topi (nm_r (e' := xs 3) (by rw [nI_clamp (by decide)]) ?_)
  refine lv_aload_n hx hb dL_law_1063 rfl (lv_at hl 1 rfl) ?_
  refine xi (wr := [(hm, .inr (12, [.ref ms, .ref mkp, .int (nI 0), .ref mtr, .int (nI 4), .int (nI 2), .int (nI 2), .int (nI 3), .int (nI 2), .int (nI 1), .ref mas, .int (nI 0), .int (nI 0), .int (nI 0), .ref mso, .ref mon, .ref mot, .ref man, .int (nI 0), .int (nI 0), .ref mst, .ref msm, .ref mtb, .ref mti, .ref mfr, .ref mbn, .ref mbs, .ref mde, .int (nI 0), .int (nI 0), .int (nI 0), .int (nI 0), .long 0, .long 0, .ref maa, .ref mab, .ref mba, .ref mbb])), (ms, .inl (cs 0, 288, .inl freshS))]) (xSH (n := 5) (As := [.ref h0, .int (xs 1), .int (xs 2), .int (xs 3), .ref out]) (rest := []) C (c_L_set l D cs h0 hr hg hgr ha hpo hly hse hc pa spr qm (nI 0) (nI 1) sm ca nd kd lk vw v sv out (fun _ => 0) (xs 1) (xs 2) (xs 3) hfl) zcw_set zw1_0 zw5_193 zw5_194 (by decide +kernel) hTH hZ0 hS hP hD [0, 1, 2, 3, 4, 5, 6, 7, 8, 9, 10, 11, 12, 15] rfl (by decide +kernel) ⟨Nat.le_of_ble_eq_true rfl, Nat.le_of_ble_eq_true rfl⟩ rfl hl.1 rfl (Nat.le_of_ble_eq_true rfl) dL_law_1064 ⟨Nat.le_of_ble_eq_true rfl, Nat.le_of_ble_eq_true rfl⟩) hP hD hS hA [0, 1, 2, 3, 4, 5, 6, 7, 8, 9, 10, 11, 12, 15] [13, 14] rfl rfl (by decide +kernel) (by decide +kernel) ?_
  clear hP hD hS
  try clear locs
  try clear H
  intro r_1 u_2 H locs hw_r_1 hP hD hS
  obtain ⟨og2_3, v9_4⟩ := u_2
  have hw_r_1 : setP (xs 1) (xs 2) (xs 3) r_1 v9_4 ∧ (r_1 = nI 0 → og2_3 0 = v9_4.toInt64) := hw_r_1
  refine W.widen (k := 262) (n := 14591) (Nat.le_of_ble_eq_true rfl) (Nat.le_of_ble_eq_true rfl) ?_
  replace hP : va_P D vwCl [(hm, .inr (12, [.ref ms, .ref mkp, .int (nI 0), .ref mtr, .int (nI 4), .int (nI 2), .int (nI 2), .int (nI 3), .int (nI 2), .int (nI 1), .ref mas, .int (nI 0), .int (nI 0), .int (nI 0), .ref mso, .ref mon, .ref mot, .ref man, .int (nI 0), .int (nI 0), .ref mst, .ref msm, .ref mtb, .ref mti, .ref mfr, .ref mbn, .ref mbs, .ref mde, .int (nI 0), .int (nI 0), .int (nI 0), .int (nI 0), .long 0, .long 0, .ref maa, .ref mab, .ref mba, .ref mbb])), (ms, .inl (cs 0, 288, .inl freshS)), (out, .inl (cs 1, 1, .inr (.inl og2_3)))] H := hP
  replace hD : va_D A [(hm, .inr (12, [.ref ms, .ref mkp, .int (nI 0), .ref mtr, .int (nI 4), .int (nI 2), .int (nI 2), .int (nI 3), .int (nI 2), .int (nI 1), .ref mas, .int (nI 0), .int (nI 0), .int (nI 0), .ref mso, .ref mon, .ref mot, .ref man, .int (nI 0), .int (nI 0), .ref mst, .ref msm, .ref mtb, .ref mti, .ref mfr, .ref mbn, .ref mbs, .ref mde, .int (nI 0), .int (nI 0), .int (nI 0), .int (nI 0), .long 0, .long 0, .ref maa, .ref mab, .ref mba, .ref mbb])), (ms, .inl (cs 0, 288, .inl freshS)), (out, .inl (cs 1, 1, .inr (.inl og2_3)))] := hD
  obtain ⟨hs1, ho1⟩ := hw_r_1
  refine lv_istore (lv' := [(5, .int r_1), (4, .int (nI 0)), (3, .ref out), (2, .ref hm), (1, .ref h0), (0, .ref b)]) hx hb dL_law_1067 hl (by decide) rfl ?_
  clear hl
  try clear ls
  intro ls hl
  refine lv_aload_n hx hb dL_law_1069 rfl (lv_at hl 3 rfl) ?_
  refine lv_aload_n hx hb dL_law_1070 rfl (lv_at hl 5 rfl) ?_
  refine lv_iload hx hb dL_law_1071 (lv_at hl 1 rfl) ?_
  refine lv_iconst (v := nI 1) hx hb dL_law_1073 (by decide) ?_
  refine lv_iadd hx hb dL_law_1074 ?_
  refine lv_topi (nm_r (e' := nI 1) (by decide) ?_)
  refine va_sld hx hb hX hbl hbA hS (pk_in 1 5 (by decide)) dL_law_1075 ?_
  refine lv_topi (nm_r (e' := xs 1) (by rw [nI_clamp (by decide)]) ?_)
  refine lv_aload_n hx hb dL_law_1076 rfl (lv_at hl 5 rfl) ?_
  refine lv_iload hx hb dL_law_1077 (lv_at hl 1 rfl) ?_
  refine lv_iconst (v := nI 2) hx hb dL_law_1079 (by decide) ?_
  refine lv_iadd hx hb dL_law_1080 ?_
  refine lv_topi (nm_r (e' := nI 2) (by decide) ?_)
  refine va_sld hx hb hX hbl hbA hS (pk_in 2 5 (by decide)) dL_law_1081 ?_
  refine lv_topi (nm_r (e' := xs 2) (by rw [nI_clamp (by decide)]) ?_)
  refine lv_aload_n hx hb dL_law_1082 rfl (lv_at hl 5 rfl) ?_
  refine lv_iload hx hb dL_law_1083 (lv_at hl 1 rfl) ?_
  refine lv_iconst (v := nI 3) hx hb dL_law_1085 (by decide) ?_
  refine lv_iadd hx hb dL_law_1086 ?_
  refine lv_topi (nm_r (e' := nI 3) (by decide) ?_)
  refine va_sld hx hb hX hbl hbA hS (pk_in 3 5 (by decide)) dL_law_1087 ?_
  refine lv_topi (nm_r (e' := xs 3) (by rw [nI_clamp (by decide)]) ?_)
  refine xi (wr := [(out, .inl (cs 1, 1, .inr (.inl og2_3)))]) (xV (As := [.int (xs 1), .int (xs 2), .int (xs 3)]) (rest := []) C (c_X12_set_z l D cs hm ms mkp mtr mas mso mon mot man mst msm mtb mti mfr mbn mbs mde maa mab mba mbb (xs 1) (xs 2) (xs 3)) kL_124 hP hD [0, 1] rfl (by decide +kernel) 0 rfl rfl rfl ⟨Nat.le_of_ble_eq_true rfl, Nat.le_of_ble_eq_true rfl⟩ rfl hl.1 rfl (Nat.le_of_ble_eq_true rfl) dL_law_1088 ⟨Nat.le_of_ble_eq_true rfl, Nat.le_of_ble_eq_true rfl⟩) hP hD hS hA [0, 1] [2] rfl rfl (by decide +kernel) (by decide +kernel) ?_
  clear hP hD hS
  try clear locs
  try clear H
  intro r_5 u_6 H locs hw_r_5 hP hD hS
  have hw_r_5 : setP (xs 1) (xs 2) (xs 3) u_6 r_5 := hw_r_5
  refine W.widen (k := 262) (n := 14591) (Nat.le_of_ble_eq_true rfl) (Nat.le_of_ble_eq_true rfl) ?_
  replace hP : va_P D vwCl [(out, .inl (cs 1, 1, .inr (.inl og2_3))), (hm, .inr (12, [.ref ms, .ref mkp, .int (nI 0), .ref mtr, .int (nI 4), .int (nI 2), .int (nI 2), .int (nI 3), .int (nI 2), .int (nI 1), .ref mas, .int (nI 0), .int (nI 0), .int (nI 0), .ref mso, .ref mon, .ref mot, .ref man, .int u_6, .int (nI 0), .ref mst, .ref msm, .ref mtb, .ref mti, .ref mfr, .ref mbn, .ref mbs, .ref mde, .int (nI 0), .int (nI 0), .int (nI 0), .int (nI 0), .long 0, .long 0, .ref maa, .ref mab, .ref mba, .ref mbb]))] H := hP
  replace hD : va_D A [(out, .inl (cs 1, 1, .inr (.inl og2_3))), (hm, .inr (12, [.ref ms, .ref mkp, .int (nI 0), .ref mtr, .int (nI 4), .int (nI 2), .int (nI 2), .int (nI 3), .int (nI 2), .int (nI 1), .ref mas, .int (nI 0), .int (nI 0), .int (nI 0), .ref mso, .ref mon, .ref mot, .ref man, .int u_6, .int (nI 0), .ref mst, .ref msm, .ref mtb, .ref mti, .ref mfr, .ref mbn, .ref mbs, .ref mde, .int (nI 0), .int (nI 0), .int (nI 0), .int (nI 0), .long 0, .long 0, .ref maa, .ref mab, .ref mba, .ref mbb]))] := hD
  have hs2 := hw_r_5
  refine lv_istore (lv' := [(6, .int r_5), (5, .int r_1), (4, .int (nI 0)), (3, .ref out), (2, .ref hm), (1, .ref h0), (0, .ref b)]) hx hb dL_law_1091 hl (by decide) rfl ?_
  clear hl
  try clear ls
  intro ls hl
  refine lv_aload_n hx hb dL_law_1093 rfl (lv_at hl 4 rfl) ?_
  refine xi (wr := [(out, .inl (cs 1, 1, .inr (.inl og2_3)))]) (xV (As := []) (rest := []) C (c_X12_thrown_t l D cs hm ms mkp mtr mas mso mon mot man mst msm mtb mti mfr mbn mbs mde maa mab mba mbb u_6) kL_119 hP hD [1] rfl (by decide +kernel) 0 rfl rfl rfl ⟨Nat.le_of_ble_eq_true rfl, Nat.le_of_ble_eq_true rfl⟩ rfl hl.1 rfl (Nat.le_of_ble_eq_true rfl) dL_law_1094 ⟨Nat.le_of_ble_eq_true rfl, Nat.le_of_ble_eq_true rfl⟩) hP hD hS hA [1] [0] rfl rfl (by decide +kernel) (by decide +kernel) ?_
  clear hP hD hS
  try clear locs
  try clear H
  intro r_7 u_8 H locs hw_r_7 hP hD hS
  have hw_r_7 : r_7 = u_6 := hw_r_7
  refine W.widen (k := 262) (n := 14591) (Nat.le_of_ble_eq_true rfl) (Nat.le_of_ble_eq_true rfl) ?_
  replace hP : va_P D vwCl [(out, .inl (cs 1, 1, .inr (.inl og2_3))), (hm, .inr (12, [.ref ms, .ref mkp, .int (nI 0), .ref mtr, .int (nI 4), .int (nI 2), .int (nI 2), .int (nI 3), .int (nI 2), .int (nI 1), .ref mas, .int (nI 0), .int (nI 0), .int (nI 0), .ref mso, .ref mon, .ref mot, .ref man, .int u_6, .int (nI 0), .ref mst, .ref msm, .ref mtb, .ref mti, .ref mfr, .ref mbn, .ref mbs, .ref mde, .int (nI 0), .int (nI 0), .int (nI 0), .int (nI 0), .long 0, .long 0, .ref maa, .ref mab, .ref mba, .ref mbb]))] H := hP
  replace hD : va_D A [(out, .inl (cs 1, 1, .inr (.inl og2_3))), (hm, .inr (12, [.ref ms, .ref mkp, .int (nI 0), .ref mtr, .int (nI 4), .int (nI 2), .int (nI 2), .int (nI 3), .int (nI 2), .int (nI 1), .ref mas, .int (nI 0), .int (nI 0), .int (nI 0), .ref mso, .ref mon, .ref mot, .ref man, .int u_6, .int (nI 0), .ref mst, .ref msm, .ref mtb, .ref mti, .ref mfr, .ref mbn, .ref mbs, .ref mde, .int (nI 0), .int (nI 0), .int (nI 0), .int (nI 0), .long 0, .long 0, .ref maa, .ref mab, .ref mba, .ref mbb]))] := hD
  have hs3 := hw_r_7
  refine lv_iload hx hb dL_law_1097 (lv_at hl 1 rfl) ?_
  refine lv_icmp_eq (tgt := 1104) hx hb dL_law_1099 (by decide) (fun _ => ?_) (fun c => absurd (hs3.trans (setP.eqT hs2 hs1)) c)
  refine lv_iload hx hb dL_law_1104 (lv_at hl 1 rfl) ?_
  refine lv_if_ne (tgt := 1121) hx hb dL_law_1106 (by decide) (fun c_9 => ?_) (fun c_9 => ?_)
  · -- 1106 t
    refine lv_goto (tgt := 1199) hx hb dL_law_1121 (by decide) ?_
    refine lv_iinc (v := nI 5) (lv' := [(4, .int (nI 5)), (6, .int r_5), (5, .int r_1), (3, .ref out), (2, .ref hm), (1, .ref h0), (0, .ref b)]) hx hb dL_law_1199 hl (k := 2) rfl (by decide) (by decide) rfl ?_
    clear hl
    try clear ls
    intro ls hl
    refine lv_goto (tgt := 23) hx hb dL_law_1202 (by decide) ?_
    refine lv_iload hx hb dL_law_23 (lv_at hl 0 rfl) ?_
    refine lv_aload_n hx hb dL_law_25 rfl (lv_at hl 6 rfl) ?_
    refine va_slen hx hb hX hbl hbA hS dL_law_26 ?_
    refine lv_topi (nm_r (e' := nI 5) rfl ?_)
    refine lv_iconst (v := nI 5) hx hb dL_law_27 (by decide) ?_
    refine lv_isub hx hb dL_law_28 ?_
    refine lv_topi (nm_r (e' := nI 0) (by decide) ?_)
    refine lv_icmp_gt (tgt := 1205) hx hb dL_law_29 (by decide) (fun _ => ?_) (fun c => absurd (by decide) c)
    refine lv_iconst (v := nI 1) hx hb dL_law_1205 (by decide) ?_
    refine lv_topi (nm_r (e' := 1) rfl ?_)
    exact va_forget (fun q hq => hA2 _ (hS.2.2 q hq)) (W.widen (Nat.le_of_ble_eq_true rfl) (Nat.le_of_ble_eq_true rfl) (W.base (lw_ret (Drawn.sameBut.refl s.drawn lw_cs) hx hb C.2.2.2.2.2.1 C.2.2.2.2.2.2.1 dL_law_1206)))
  · -- 1106 f
    refine lv_aload_n hx hb dL_law_1109 rfl (lv_at hl 3 rfl) ?_
    refine lv_iconst (v := nI 0) hx hb dL_law_1110 (by decide) ?_
    refine xlald C hP 0 rfl 0 rfl (by decide) (by decide) dL_law_1111 ?_
    refine lv_iload hx hb dL_law_1112 (lv_at hl 0 rfl) ?_
    refine lv_i2l hx hb dL_law_1114 rfl ?_
    refine W.lcmp hx hb dL_law_1115 ?_
    refine lv_if_eq (tgt := 1121) hx hb dL_law_1116 (by decide) (fun _ => ?_) (fun c => absurd ((lg_cmp_eq _ _).mpr ((ho1 c_9).trans (congrArg Int32.toInt64 (setP.eqV hs1 hs2 c_9)))) c)
    refine lv_goto (tgt := 1199) hx hb dL_law_1121 (by decide) ?_
    refine lv_iinc (v := nI 5) (lv' := [(4, .int (nI 5)), (6, .int r_5), (5, .int r_1), (3, .ref out), (2, .ref hm), (1, .ref h0), (0, .ref b)]) hx hb dL_law_1199 hl (k := 2) rfl (by decide) (by decide) rfl ?_
    clear hl
    try clear ls
    intro ls hl
    refine lv_goto (tgt := 23) hx hb dL_law_1202 (by decide) ?_
    refine lv_iload hx hb dL_law_23 (lv_at hl 0 rfl) ?_
    refine lv_aload_n hx hb dL_law_25 rfl (lv_at hl 6 rfl) ?_
    refine va_slen hx hb hX hbl hbA hS dL_law_26 ?_
    refine lv_topi (nm_r (e' := nI 5) rfl ?_)
    refine lv_iconst (v := nI 5) hx hb dL_law_27 (by decide) ?_
    refine lv_isub hx hb dL_law_28 ?_
    refine lv_topi (nm_r (e' := nI 0) (by decide) ?_)
    refine lv_icmp_gt (tgt := 1205) hx hb dL_law_29 (by decide) (fun _ => ?_) (fun c => absurd (by decide) c)
    refine lv_iconst (v := nI 1) hx hb dL_law_1205 (by decide) ?_
    refine lv_topi (nm_r (e' := 1) rfl ?_)
    exact va_forget (fun q hq => hA2 _ (hS.2.2 q hq)) (W.widen (Nat.le_of_ble_eq_true rfl) (Nat.le_of_ble_eq_true rfl) (W.base (lw_ret (Drawn.sameBut.refl s.drawn lw_cs) hx hb C.2.2.2.2.2.1 C.2.2.2.2.2.2.1 dL_law_1206)))

set_option maxHeartbeats 4000000 in
set_option maxRecDepth 100000 in
theorem law_case_23 {p : Program} {e : Env} {s : State} {m : MethodId} {below : List Frame} {meth : Method} {c : Code} (l : Launch) (hfl : l.stackTraces = false) {D : va_G} {cs : Nat → ClassId} {A : Nat → Prop} {b : Nat} {xs : Nat → Int32} (C : xC p room_1 s m #[Value.ref b] meth c ⟨"SampleHouseLaw", meth.name, ""⟩ code 7 ret D cs A) (hTH : xTH s) (hZ0 : xZ A s s.heap) (hX : va_X b 5 xs s s.heap) (hbl : b < s.heap.size) (hbA : ¬ A b) (hA2 : ∀ q, A q → s.heap.size ≤ q) (hr hg hgr ha hpo hly hse hc pa spr qm sm ca nd kd lk vw gs g1r g2r gan gpr gde gme wk spa aga ona wk2 ab rb ob tb hp0 nd0 kd0 lk0 vw0 : Nat) (v sv v0 sv0 rw rl : Nat → Nat) (sg : Nat → Nat → Int32) (pf : Nat → Option Nat) (ms mkp mtr mas mso mon mot man mst msm mtb mti mfr mbn mbs mde maa mab mba mbb h0 hm out : Nat) (hpf : pf 0 = some hp0) {H : Heap} {locs : List Loc} {ls : Array Slot} (hP : va_P D vwCl [(h0, .inr (11, [.ref hr, .ref hg, .ref hgr, .ref ha, .ref hpo, .ref hly, .ref hse, .ref hc, .ref pa, .ref spr, .ref qm, .int (nI 0), .int (nI 0), .int (nI 0), .int (nI 0), .int (nI 1)])), (hr, .inr (7, [.int (nI 4), .int (nI 2), .int (nI 2), .int (nI 3), .int (nI 2), .int (nI 1), .ref sm, .int (nI 3), .ref ca])), (hg, .inr (4, [.ref nd, .ref kd, .ref lk, .ref vw])), (kd, .inl (cs 0, 8, .inl (fun _ => nI 0))), (hgr, .inr (3, [.int (nI 0), .ref gs, .ref g1r, .ref g2r, .ref gan, .ref gpr, .ref gde, .ref gme])), (hm, .inr (12, [.ref ms, .ref mkp, .int (nI 0), .ref mtr, .int (nI 4), .int (nI 2), .int (nI 2), .int (nI 3), .int (nI 2), .int (nI 1), .ref mas, .int (nI 0), .int (nI 0), .int (nI 0), .ref mso, .ref mon, .ref mot, .ref man, .int (nI 0), .int (nI 0), .ref mst, .ref msm, .ref mtb, .ref mti, .ref mfr, .ref mbn, .ref mbs, .ref mde, .int (nI 0), .int (nI 0), .int (nI 0), .int (nI 0), .long 0, .long 0, .ref maa, .ref mab, .ref mba, .ref mbb])), (ms, .inl (cs 0, 288, .inl freshS))] H) (hD : va_D A [(h0, .inr (11, [.ref hr, .ref hg, .ref hgr, .ref ha, .ref hpo, .ref hly, .ref hse, .ref hc, .ref pa, .ref spr, .ref qm, .int (nI 0), .int (nI 0), .int (nI 0), .int (nI 0), .int (nI 1)])), (hr, .inr (7, [.int (nI 4), .int (nI 2), .int (nI 2), .int (nI 3), .int (nI 2), .int (nI 1), .ref sm, .int (nI 3), .ref ca])), (hg, .inr (4, [.ref nd, .ref kd, .ref lk, .ref vw])), (kd, .inl (cs 0, 8, .inl (fun _ => nI 0))), (hgr, .inr (3, [.int (nI 0), .ref gs, .ref g1r, .ref g2r, .ref gan, .ref gpr, .ref gde, .ref gme])), (hm, .inr (12, [.ref ms, .ref mkp, .int (nI 0), .ref mtr, .int (nI 4), .int (nI 2), .int (nI 2), .int (nI 3), .int (nI 2), .int (nI 1), .ref mas, .int (nI 0), .int (nI 0), .int (nI 0), .ref mso, .ref mon, .ref mot, .ref man, .int (nI 0), .int (nI 0), .ref mst, .ref msm, .ref mtb, .ref mti, .ref mfr, .ref mbn, .ref mbs, .ref mde, .int (nI 0), .int (nI 0), .int (nI 0), .int (nI 0), .long 0, .long 0, .ref maa, .ref mab, .ref mba, .ref mbb])), (ms, .inl (cs 0, 288, .inl freshS))]) (hS : va_S A s.heap H locs) (hl : lv_has ls 7 [(4, .int (nI 0)), (3, .ref out), (2, .ref hm), (1, .ref h0), (0, .ref b)]) : W p l e room_1 s m #[Value.ref b] below meth c H locs 261 14585 (lw_Z below #[Value.ref b] s) (F0 m 1124 ls []) := by
  have hx := C.1
  have hb := C.2.1
  have hz := C.2.2.2.2.1
  have hown := C.2.2.2.1
  have hA := C.2.2.2.2.2.2.2.2.2
  have hAO := C.2.2.2.2.2.2.2.2.1.2.2
  refine lv_aload_n hx hb dL_law_1124 rfl (lv_at hl 3 rfl) ?_
  refine lv_aload_n hx hb dL_law_1125 rfl (lv_at hl 4 rfl) ?_
  refine lv_iload hx hb dL_law_1126 (lv_at hl 0 rfl) ?_
  refine lv_iconst (v := nI 1) hx hb dL_law_1128 (by decide) ?_
  refine lv_iadd hx hb dL_law_1129 ?_
  refine lv_topi (nm_r (e' := nI 1) (by decide) ?_)
  refine va_sld hx hb hX hbl hbA hS (pk_in 1 5 (by decide)) dL_law_1130 ?_
  refine lv_topi (nm_r (e' := xs 1) (by rw [nI_clamp (by decide)]) ?_)
  refine lv_aload_n hx hb dL_law_1131 rfl (lv_at hl 4 rfl) ?_
  refine lv_iload hx hb dL_law_1132 (lv_at hl 0 rfl) ?_
  refine lv_iconst (v := nI 2) hx hb dL_law_1134 (by decide) ?_
  refine lv_iadd hx hb dL_law_1135 ?_
  refine lv_topi (nm_r (e' := nI 2) (by decide) ?_)
  refine va_sld hx hb hX hbl hbA hS (pk_in 2 5 (by decide)) dL_law_1136 ?_
  refine lv_topi (nm_r (e' := xs 2) (by rw [nI_clamp (by decide)]) ?_)
  refine xi (wr := [(hm, .inr (12, [.ref ms, .ref mkp, .int (nI 0), .ref mtr, .int (nI 4), .int (nI 2), .int (nI 2), .int (nI 3), .int (nI 2), .int (nI 1), .ref mas, .int (nI 0), .int (nI 0), .int (nI 0), .ref mso, .ref mon, .ref mot, .ref man, .int (nI 0), .int (nI 0), .ref mst, .ref msm, .ref mtb, .ref mti, .ref mfr, .ref mbn, .ref mbs, .ref mde, .int (nI 0), .int (nI 0), .int (nI 0), .int (nI 0), .long 0, .long 0, .ref maa, .ref mab, .ref mba, .ref mbb])), (ms, .inl (cs 0, 288, .inl freshS))]) (xV (As := [.int (xs 1), .int (xs 2)]) (rest := []) C (c_X11_alike_z l D cs h0 hr hg hgr ha hpo hly hse hc pa spr qm (nI 0) (nI 1) sm ca gs g1r g2r gan gpr gde gme nd kd lk vw (xs 1) (xs 2)) kL_125 hP hD [0, 1, 4, 2, 3] rfl (by decide +kernel) 0 rfl rfl rfl ⟨Nat.le_of_ble_eq_true rfl, Nat.le_of_ble_eq_true rfl⟩ rfl hl.1 rfl (Nat.le_of_ble_eq_true rfl) dL_law_1137 ⟨Nat.le_of_ble_eq_true rfl, Nat.le_of_ble_eq_true rfl⟩) hP hD hS hA [0, 1, 4, 2, 3] [5, 6] rfl rfl (by decide +kernel) (by decide +kernel) ?_
  clear hP hD hS
  try clear locs
  try clear H
  intro r_1 u_2 H locs hw_r_1 hP hD hS
  have hw_r_1 : PQ (okN 4 (xs 1) ∧ okN 4 (xs 2)) r_1 (nI 0) (-1) := hw_r_1
  refine W.widen (k := 261) (n := 14585) (Nat.le_of_ble_eq_true rfl) (Nat.le_of_ble_eq_true rfl) ?_
  replace hP : va_P D vwCl [(hm, .inr (12, [.ref ms, .ref mkp, .int (nI 0), .ref mtr, .int (nI 4), .int (nI 2), .int (nI 2), .int (nI 3), .int (nI 2), .int (nI 1), .ref mas, .int (nI 0), .int (nI 0), .int (nI 0), .ref mso, .ref mon, .ref mot, .ref man, .int (nI 0), .int (nI 0), .ref mst, .ref msm, .ref mtb, .ref mti, .ref mfr, .ref mbn, .ref mbs, .ref mde, .int (nI 0), .int (nI 0), .int (nI 0), .int (nI 0), .long 0, .long 0, .ref maa, .ref mab, .ref mba, .ref mbb])), (ms, .inl (cs 0, 288, .inl freshS))] H := hP
  replace hD : va_D A [(hm, .inr (12, [.ref ms, .ref mkp, .int (nI 0), .ref mtr, .int (nI 4), .int (nI 2), .int (nI 2), .int (nI 3), .int (nI 2), .int (nI 1), .ref mas, .int (nI 0), .int (nI 0), .int (nI 0), .ref mso, .ref mon, .ref mot, .ref man, .int (nI 0), .int (nI 0), .ref mst, .ref msm, .ref mtb, .ref mti, .ref mfr, .ref mbn, .ref mbs, .ref mde, .int (nI 0), .int (nI 0), .int (nI 0), .int (nI 0), .long 0, .long 0, .ref maa, .ref mab, .ref mba, .ref mbb])), (ms, .inl (cs 0, 288, .inl freshS))] := hD
  refine lv_aload_n hx hb dL_law_1140 rfl (lv_at hl 2 rfl) ?_
  refine lv_aload_n hx hb dL_law_1141 rfl (lv_at hl 4 rfl) ?_
  refine lv_iload hx hb dL_law_1142 (lv_at hl 0 rfl) ?_
  refine lv_iconst (v := nI 1) hx hb dL_law_1144 (by decide) ?_
  refine lv_iadd hx hb dL_law_1145 ?_
  refine lv_topi (nm_r (e' := nI 1) (by decide) ?_)
  refine va_sld hx hb hX hbl hbA hS (pk_in 1 5 (by decide)) dL_law_1146 ?_
  refine lv_topi (nm_r (e' := xs 1) (by rw [nI_clamp (by decide)]) ?_)
  refine lv_aload_n hx hb dL_law_1147 rfl (lv_at hl 4 rfl) ?_
  refine lv_iload hx hb dL_law_1148 (lv_at hl 0 rfl) ?_
  refine lv_iconst (v := nI 2) hx hb dL_law_1150 (by decide) ?_
  refine lv_iadd hx hb dL_law_1151 ?_
  refine lv_topi (nm_r (e' := nI 2) (by decide) ?_)
  refine va_sld hx hb hX hbl hbA hS (pk_in 2 5 (by decide)) dL_law_1152 ?_
  refine lv_topi (nm_r (e' := xs 2) (by rw [nI_clamp (by decide)]) ?_)
  refine xi (wr := []) (xV (As := [.int (xs 1), .int (xs 2)]) (rest := [.int r_1]) C (c_X12_alike_z l D cs hm ms mkp mtr mas mso mon mot man mst msm mtb mti mfr mbn mbs mde maa mab mba mbb (xs 1) (xs 2)) kL_128 hP hD [0, 1] rfl (by decide +kernel) 0 rfl rfl rfl ⟨Nat.le_of_ble_eq_true rfl, Nat.le_of_ble_eq_true rfl⟩ rfl hl.1 rfl (Nat.le_of_ble_eq_true rfl) dL_law_1153 ⟨Nat.le_of_ble_eq_true rfl, Nat.le_of_ble_eq_true rfl⟩) hP hD hS hA [0, 1] [] rfl rfl (by decide +kernel) (by decide +kernel) ?_
  clear hP hD hS
  try clear locs
  try clear H
  intro r_3 u_4 H locs hw_r_3 hP hD hS
  have hw_r_3 : PQ (okN 4 (xs 1) ∧ okN 4 (xs 2)) r_3 (nI 0) (-1) := hw_r_3
  refine W.widen (k := 261) (n := 14585) (Nat.le_of_ble_eq_true rfl) (Nat.le_of_ble_eq_true rfl) ?_
  replace hP : va_P D vwCl [] H := hP
  replace hD : va_D A [] := hD
  refine lv_icmp_eq (tgt := 1199) hx hb dL_law_1156 (by decide) (fun _ => ?_) (fun c => absurd (PQ.eq hw_r_1 hw_r_3) c)
  refine lv_iinc (v := nI 5) (lv' := [(4, .int (nI 5)), (3, .ref out), (2, .ref hm), (1, .ref h0), (0, .ref b)]) hx hb dL_law_1199 hl (k := 0) rfl (by decide) (by decide) rfl ?_
  clear hl
  try clear ls
  intro ls hl
  refine lv_goto (tgt := 23) hx hb dL_law_1202 (by decide) ?_
  refine lv_iload hx hb dL_law_23 (lv_at hl 0 rfl) ?_
  refine lv_aload_n hx hb dL_law_25 rfl (lv_at hl 4 rfl) ?_
  refine va_slen hx hb hX hbl hbA hS dL_law_26 ?_
  refine lv_topi (nm_r (e' := nI 5) rfl ?_)
  refine lv_iconst (v := nI 5) hx hb dL_law_27 (by decide) ?_
  refine lv_isub hx hb dL_law_28 ?_
  refine lv_topi (nm_r (e' := nI 0) (by decide) ?_)
  refine lv_icmp_gt (tgt := 1205) hx hb dL_law_29 (by decide) (fun _ => ?_) (fun c => absurd (by decide) c)
  refine lv_iconst (v := nI 1) hx hb dL_law_1205 (by decide) ?_
  refine lv_topi (nm_r (e' := 1) rfl ?_)
  exact va_forget (fun q hq => hA2 _ (hS.2.2 q hq)) (W.widen (Nat.le_of_ble_eq_true rfl) (Nat.le_of_ble_eq_true rfl) (W.base (lw_ret (Drawn.sameBut.refl s.drawn lw_cs) hx hb C.2.2.2.2.2.1 C.2.2.2.2.2.2.1 dL_law_1206)))

set_option maxHeartbeats 4000000 in
set_option maxRecDepth 100000 in
theorem law_case_24 {p : Program} {e : Env} {s : State} {m : MethodId} {below : List Frame} {meth : Method} {c : Code} (l : Launch) (hfl : l.stackTraces = false) {D : va_G} {cs : Nat → ClassId} {A : Nat → Prop} {b : Nat} {xs : Nat → Int32} (C : xC p room_1 s m #[Value.ref b] meth c ⟨"SampleHouseLaw", meth.name, ""⟩ code 7 ret D cs A) (hTH : xTH s) (hZ0 : xZ A s s.heap) (hX : va_X b 5 xs s s.heap) (hbl : b < s.heap.size) (hbA : ¬ A b) (hA2 : ∀ q, A q → s.heap.size ≤ q) (hr hg hgr ha hpo hly hse hc pa spr qm sm ca nd kd lk vw gs g1r g2r gan gpr gde gme wk spa aga ona wk2 ab rb ob tb hp0 nd0 kd0 lk0 vw0 : Nat) (v sv v0 sv0 rw rl : Nat → Nat) (sg : Nat → Nat → Int32) (pf : Nat → Option Nat) (ms mkp mtr mas mso mon mot man mst msm mtb mti mfr mbn mbs mde maa mab mba mbb h0 hm out : Nat) (hpf : pf 0 = some hp0) {H : Heap} {locs : List Loc} {ls : Array Slot} (hP : va_P D vwCl [(h0, .inr (11, [.ref hr, .ref hg, .ref hgr, .ref ha, .ref hpo, .ref hly, .ref hse, .ref hc, .ref pa, .ref spr, .ref qm, .int (nI 0), .int (nI 0), .int (nI 0), .int (nI 0), .int (nI 1)])), (hm, .inr (12, [.ref ms, .ref mkp, .int (nI 0), .ref mtr, .int (nI 4), .int (nI 2), .int (nI 2), .int (nI 3), .int (nI 2), .int (nI 1), .ref mas, .int (nI 0), .int (nI 0), .int (nI 0), .ref mso, .ref mon, .ref mot, .ref man, .int (nI 0), .int (nI 0), .ref mst, .ref msm, .ref mtb, .ref mti, .ref mfr, .ref mbn, .ref mbs, .ref mde, .int (nI 0), .int (nI 0), .int (nI 0), .int (nI 0), .long 0, .long 0, .ref maa, .ref mab, .ref mba, .ref mbb]))] H) (hD : va_D A [(h0, .inr (11, [.ref hr, .ref hg, .ref hgr, .ref ha, .ref hpo, .ref hly, .ref hse, .ref hc, .ref pa, .ref spr, .ref qm, .int (nI 0), .int (nI 0), .int (nI 0), .int (nI 0), .int (nI 1)])), (hm, .inr (12, [.ref ms, .ref mkp, .int (nI 0), .ref mtr, .int (nI 4), .int (nI 2), .int (nI 2), .int (nI 3), .int (nI 2), .int (nI 1), .ref mas, .int (nI 0), .int (nI 0), .int (nI 0), .ref mso, .ref mon, .ref mot, .ref man, .int (nI 0), .int (nI 0), .ref mst, .ref msm, .ref mtb, .ref mti, .ref mfr, .ref mbn, .ref mbs, .ref mde, .int (nI 0), .int (nI 0), .int (nI 0), .int (nI 0), .long 0, .long 0, .ref maa, .ref mab, .ref mba, .ref mbb]))]) (hS : va_S A s.heap H locs) (hl : lv_has ls 7 [(4, .int (nI 0)), (3, .ref out), (2, .ref hm), (1, .ref h0), (0, .ref b)]) : W p l e room_1 s m #[Value.ref b] below meth c H locs 261 14585 (lw_Z below #[Value.ref b] s) (F0 m 1161 ls []) := by
  have hx := C.1
  have hb := C.2.1
  have hz := C.2.2.2.2.1
  have hown := C.2.2.2.1
  have hA := C.2.2.2.2.2.2.2.2.2
  have hAO := C.2.2.2.2.2.2.2.2.1.2.2
  refine lv_aload_n hx hb dL_law_1161 rfl (lv_at hl 3 rfl) ?_
  refine xi (wr := [(hm, .inr (12, [.ref ms, .ref mkp, .int (nI 0), .ref mtr, .int (nI 4), .int (nI 2), .int (nI 2), .int (nI 3), .int (nI 2), .int (nI 1), .ref mas, .int (nI 0), .int (nI 0), .int (nI 0), .ref mso, .ref mon, .ref mot, .ref man, .int (nI 0), .int (nI 0), .ref mst, .ref msm, .ref mtb, .ref mti, .ref mfr, .ref mbn, .ref mbs, .ref mde, .int (nI 0), .int (nI 0), .int (nI 0), .int (nI 0), .long 0, .long 0, .ref maa, .ref mab, .ref mba, .ref mbb]))]) (xV (As := []) (rest := []) C (c_X11_back_z l D cs h0 hr hg hgr ha hpo hly hse hc pa spr qm (nI 0) (nI 1)) kL_129 hP hD [0] rfl (by decide +kernel) 0 rfl rfl rfl ⟨Nat.le_of_ble_eq_true rfl, Nat.le_of_ble_eq_true rfl⟩ rfl hl.1 rfl (Nat.le_of_ble_eq_true rfl) dL_law_1162 ⟨Nat.le_of_ble_eq_true rfl, Nat.le_of_ble_eq_true rfl⟩) hP hD hS hA [0] [1] rfl rfl (by decide +kernel) (by decide +kernel) ?_
  clear hP hD hS
  try clear locs
  try clear H
  intro r_1 u_2 H locs hw_r_1 hP hD hS
  have hw_r_1 : r_1 = nI 0 := hw_r_1
  refine W.widen (k := 261) (n := 14585) (Nat.le_of_ble_eq_true rfl) (Nat.le_of_ble_eq_true rfl) ?_
  replace hP : va_P D vwCl [(hm, .inr (12, [.ref ms, .ref mkp, .int (nI 0), .ref mtr, .int (nI 4), .int (nI 2), .int (nI 2), .int (nI 3), .int (nI 2), .int (nI 1), .ref mas, .int (nI 0), .int (nI 0), .int (nI 0), .ref mso, .ref mon, .ref mot, .ref man, .int (nI 0), .int (nI 0), .ref mst, .ref msm, .ref mtb, .ref mti, .ref mfr, .ref mbn, .ref mbs, .ref mde, .int (nI 0), .int (nI 0), .int (nI 0), .int (nI 0), .long 0, .long 0, .ref maa, .ref mab, .ref mba, .ref mbb]))] H := hP
  replace hD : va_D A [(hm, .inr (12, [.ref ms, .ref mkp, .int (nI 0), .ref mtr, .int (nI 4), .int (nI 2), .int (nI 2), .int (nI 3), .int (nI 2), .int (nI 1), .ref mas, .int (nI 0), .int (nI 0), .int (nI 0), .ref mso, .ref mon, .ref mot, .ref man, .int (nI 0), .int (nI 0), .ref mst, .ref msm, .ref mtb, .ref mti, .ref mfr, .ref mbn, .ref mbs, .ref mde, .int (nI 0), .int (nI 0), .int (nI 0), .int (nI 0), .long 0, .long 0, .ref maa, .ref mab, .ref mba, .ref mbb]))] := hD
  refine lv_aload_n hx hb dL_law_1165 rfl (lv_at hl 2 rfl) ?_
  refine xi (wr := []) (xV (As := []) (rest := [.int r_1]) C (c_X12_back_z l D cs hm ms mkp mtr mas mso mon mot man mst msm mtb mti mfr mbn mbs mde maa mab mba mbb) kL_133 hP hD [0] rfl (by decide +kernel) 0 rfl rfl rfl ⟨Nat.le_of_ble_eq_true rfl, Nat.le_of_ble_eq_true rfl⟩ rfl hl.1 rfl (Nat.le_of_ble_eq_true rfl) dL_law_1166 ⟨Nat.le_of_ble_eq_true rfl, Nat.le_of_ble_eq_true rfl⟩) hP hD hS hA [0] [] rfl rfl (by decide +kernel) (by decide +kernel) ?_
  clear hP hD hS
  try clear locs
  try clear H
  intro r_3 u_4 H locs hw_r_3 hP hD hS
  have hw_r_3 : r_3 = nI 0 := hw_r_3
  refine W.widen (k := 261) (n := 14585) (Nat.le_of_ble_eq_true rfl) (Nat.le_of_ble_eq_true rfl) ?_
  replace hP : va_P D vwCl [] H := hP
  replace hD : va_D A [] := hD
  refine lv_icmp_eq (tgt := 1199) hx hb dL_law_1169 (by decide) (fun _ => ?_) (fun c => absurd (hw_r_1.trans hw_r_3.symm) c)
  refine lv_iinc (v := nI 5) (lv' := [(4, .int (nI 5)), (3, .ref out), (2, .ref hm), (1, .ref h0), (0, .ref b)]) hx hb dL_law_1199 hl (k := 0) rfl (by decide) (by decide) rfl ?_
  clear hl
  try clear ls
  intro ls hl
  refine lv_goto (tgt := 23) hx hb dL_law_1202 (by decide) ?_
  refine lv_iload hx hb dL_law_23 (lv_at hl 0 rfl) ?_
  refine lv_aload_n hx hb dL_law_25 rfl (lv_at hl 4 rfl) ?_
  refine va_slen hx hb hX hbl hbA hS dL_law_26 ?_
  refine lv_topi (nm_r (e' := nI 5) rfl ?_)
  refine lv_iconst (v := nI 5) hx hb dL_law_27 (by decide) ?_
  refine lv_isub hx hb dL_law_28 ?_
  refine lv_topi (nm_r (e' := nI 0) (by decide) ?_)
  refine lv_icmp_gt (tgt := 1205) hx hb dL_law_29 (by decide) (fun _ => ?_) (fun c => absurd (by decide) c)
  refine lv_iconst (v := nI 1) hx hb dL_law_1205 (by decide) ?_
  refine lv_topi (nm_r (e' := 1) rfl ?_)
  exact va_forget (fun q hq => hA2 _ (hS.2.2 q hq)) (W.widen (Nat.le_of_ble_eq_true rfl) (Nat.le_of_ble_eq_true rfl) (W.base (lw_ret (Drawn.sameBut.refl s.drawn lw_cs) hx hb C.2.2.2.2.2.1 C.2.2.2.2.2.2.1 dL_law_1206)))

set_option maxHeartbeats 4000000 in
set_option maxRecDepth 100000 in
theorem law_case_25 {p : Program} {e : Env} {s : State} {m : MethodId} {below : List Frame} {meth : Method} {c : Code} (l : Launch) (hfl : l.stackTraces = false) {D : va_G} {cs : Nat → ClassId} {A : Nat → Prop} {b : Nat} {xs : Nat → Int32} (C : xC p room_1 s m #[Value.ref b] meth c ⟨"SampleHouseLaw", meth.name, ""⟩ code 7 ret D cs A) (hTH : xTH s) (hZ0 : xZ A s s.heap) (hX : va_X b 5 xs s s.heap) (hbl : b < s.heap.size) (hbA : ¬ A b) (hA2 : ∀ q, A q → s.heap.size ≤ q) (hr hg hgr ha hpo hly hse hc pa spr qm sm ca nd kd lk vw gs g1r g2r gan gpr gde gme wk spa aga ona wk2 ab rb ob tb hp0 nd0 kd0 lk0 vw0 : Nat) (v sv v0 sv0 rw rl : Nat → Nat) (sg : Nat → Nat → Int32) (pf : Nat → Option Nat) (ms mkp mtr mas mso mon mot man mst msm mtb mti mfr mbn mbs mde maa mab mba mbb h0 hm out : Nat) (hpf : pf 0 = some hp0) {H : Heap} {locs : List Loc} {ls : Array Slot} (hP : va_P D vwCl [(h0, .inr (11, [.ref hr, .ref hg, .ref hgr, .ref ha, .ref hpo, .ref hly, .ref hse, .ref hc, .ref pa, .ref spr, .ref qm, .int (nI 0), .int (nI 0), .int (nI 0), .int (nI 0), .int (nI 1)])), (hr, .inr (7, [.int (nI 4), .int (nI 2), .int (nI 2), .int (nI 3), .int (nI 2), .int (nI 1), .ref sm, .int (nI 3), .ref ca])), (hg, .inr (4, [.ref nd, .ref kd, .ref lk, .ref vw])), (nd, .inl (cs 0, 8, .inl (fun _ => nI 0))), (kd, .inl (cs 0, 8, .inl (fun _ => nI 0))), (lk, .inl (cs 0, 8, .inl (fun _ => -1))), (vw, .inl (cs 2, 8, .inr (.inr (.inr (.inr (fun i => some (v i))))))), (v 0, .inr (10, [.int ((fun _ => nI 0) 0), .int ((fun _ => nI 0) 0), .ref (sv 0)])), (sv 0, .inl (cs 0, 32, .inl ((fun _ => vF) 0))), (v 1, .inr (10, [.int ((fun _ => nI 0) 1), .int ((fun _ => nI 0) 1), .ref (sv 1)])), (sv 1, .inl (cs 0, 32, .inl ((fun _ => vF) 1))), (v 2, .inr (10, [.int ((fun _ => nI 0) 2), .int ((fun _ => nI 0) 2), .ref (sv 2)])), (sv 2, .inl (cs 0, 32, .inl ((fun _ => vF) 2))), (v 3, .inr (10, [.int ((fun _ => nI 0) 3), .int ((fun _ => nI 0) 3), .ref (sv 3)])), (sv 3, .inl (cs 0, 32, .inl ((fun _ => vF) 3))), (hgr, .inr (3, [.int (nI 0), .ref gs, .ref g1r, .ref g2r, .ref gan, .ref gpr, .ref gde, .ref gme])), (ha, .inr (0, [.ref hr, .ref hg, .int (nI 0), .int (nI 0), .int (nI 0)])), (hpo, .inr (6, [.ref hr, .ref hg, .ref hgr])), (qm, .inl (cs 0, 8, .inl (fun _ => nI 0))), (hm, .inr (12, [.ref ms, .ref mkp, .int (nI 0), .ref mtr, .int (nI 4), .int (nI 2), .int (nI 2), .int (nI 3), .int (nI 2), .int (nI 1), .ref mas, .int (nI 0), .int (nI 0), .int (nI 0), .ref mso, .ref mon, .ref mot, .ref man, .int (nI 0), .int (nI 0), .ref mst, .ref msm, .ref mtb, .ref mti, .ref mfr, .ref mbn, .ref mbs, .ref mde, .int (nI 0), .int (nI 0), .int (nI 0), .int (nI 0), .long 0, .long 0, .ref maa, .ref mab, .ref mba, .ref mbb])), (ms, .inl (cs 0, 288, .inl freshS))] H) (hD : va_D A [(h0, .inr (11, [.ref hr, .ref hg, .ref hgr, .ref ha, .ref hpo, .ref hly, .ref hse, .ref hc, .ref pa, .ref spr, .ref qm, .int (nI 0), .int (nI 0), .int (nI 0), .int (nI 0), .int (nI 1)])), (hr, .inr (7, [.int (nI 4), .int (nI 2), .int (nI 2), .int (nI 3), .int (nI 2), .int (nI 1), .ref sm, .int (nI 3), .ref ca])), (hg, .inr (4, [.ref nd, .ref kd, .ref lk, .ref vw])), (nd, .inl (cs 0, 8, .inl (fun _ => nI 0))), (kd, .inl (cs 0, 8, .inl (fun _ => nI 0))), (lk, .inl (cs 0, 8, .inl (fun _ => -1))), (vw, .inl (cs 2, 8, .inr (.inr (.inr (.inr (fun i => some (v i))))))), (v 0, .inr (10, [.int ((fun _ => nI 0) 0), .int ((fun _ => nI 0) 0), .ref (sv 0)])), (sv 0, .inl (cs 0, 32, .inl ((fun _ => vF) 0))), (v 1, .inr (10, [.int ((fun _ => nI 0) 1), .int ((fun _ => nI 0) 1), .ref (sv 1)])), (sv 1, .inl (cs 0, 32, .inl ((fun _ => vF) 1))), (v 2, .inr (10, [.int ((fun _ => nI 0) 2), .int ((fun _ => nI 0) 2), .ref (sv 2)])), (sv 2, .inl (cs 0, 32, .inl ((fun _ => vF) 2))), (v 3, .inr (10, [.int ((fun _ => nI 0) 3), .int ((fun _ => nI 0) 3), .ref (sv 3)])), (sv 3, .inl (cs 0, 32, .inl ((fun _ => vF) 3))), (hgr, .inr (3, [.int (nI 0), .ref gs, .ref g1r, .ref g2r, .ref gan, .ref gpr, .ref gde, .ref gme])), (ha, .inr (0, [.ref hr, .ref hg, .int (nI 0), .int (nI 0), .int (nI 0)])), (hpo, .inr (6, [.ref hr, .ref hg, .ref hgr])), (qm, .inl (cs 0, 8, .inl (fun _ => nI 0))), (hm, .inr (12, [.ref ms, .ref mkp, .int (nI 0), .ref mtr, .int (nI 4), .int (nI 2), .int (nI 2), .int (nI 3), .int (nI 2), .int (nI 1), .ref mas, .int (nI 0), .int (nI 0), .int (nI 0), .ref mso, .ref mon, .ref mot, .ref man, .int (nI 0), .int (nI 0), .ref mst, .ref msm, .ref mtb, .ref mti, .ref mfr, .ref mbn, .ref mbs, .ref mde, .int (nI 0), .int (nI 0), .int (nI 0), .int (nI 0), .long 0, .long 0, .ref maa, .ref mab, .ref mba, .ref mbb])), (ms, .inl (cs 0, 288, .inl freshS))]) (hS : va_S A s.heap H locs) (hl : lv_has ls 7 [(4, .int (nI 0)), (3, .ref out), (2, .ref hm), (1, .ref h0), (0, .ref b)]) : W p l e room_1 s m #[Value.ref b] below meth c H locs 261 14585 (lw_Z below #[Value.ref b] s) (F0 m 1174 ls []) := by
  have hx := C.1
  have hb := C.2.1
  have hz := C.2.2.2.2.1
  have hown := C.2.2.2.1
  have hA := C.2.2.2.2.2.2.2.2.2
  have hAO := C.2.2.2.2.2.2.2.2.1.2.2
  refine lv_aload_n hx hb dL_law_1174 rfl (lv_at hl 3 rfl) ?_
  refine lv_aload_n hx hb dL_law_1175 rfl (lv_at hl 4 rfl) ?_
  refine lv_iload hx hb dL_law_1176 (lv_at hl 0 rfl) ?_
  refine lv_iconst (v := nI 1) hx hb dL_law_1178 (by decide) ?_
  refine lv_iadd hx hb dL_law_1179 ?_
  refine lv_topi (nm_r (e' := nI 1) (by decide) ?_)
  refine va_sld hx hb hX hbl hbA hS (pk_in 1 5 (by decide)) dL_law_1180 ?_
  refine lv_topi (nm_r (e' := xs 1) (by rw [nI_clamp (by decide)]) ?_)
  refine xi (wr := [(hm, .inr (12, [.ref ms, .ref mkp, .int (nI 0), .ref mtr, .int (nI 4), .int (nI 2), .int (nI 2), .int (nI 3), .int (nI 2), .int (nI 1), .ref mas, .int (nI 0), .int (nI 0), .int (nI 0), .ref mso, .ref mon, .ref mot, .ref man, .int (nI 0), .int (nI 0), .ref mst, .ref msm, .ref mtb, .ref mti, .ref mfr, .ref mbn, .ref mbs, .ref mde, .int (nI 0), .int (nI 0), .int (nI 0), .int (nI 0), .long 0, .long 0, .ref maa, .ref mab, .ref mba, .ref mbb])), (ms, .inl (cs 0, 288, .inl freshS))]) (xV (As := [.int (xs 1)]) (rest := []) C (c_X11_count_z l D cs h0 hr hg hgr ha hpo hly hse hc pa spr qm (nI 0) (nI 1) sm ca (nI 0) (nI 0) (nI 0) nd kd lk vw v sv gs g1r g2r gan gpr gde gme (xs 1)) kL_134 hP hD [0, 1, 16, 2, 4, 6, 3, 5, 7, 8, 9, 10, 11, 12, 13, 14, 15, 17, 18] rfl (by decide +kernel) 0 rfl rfl rfl ⟨Nat.le_of_ble_eq_true rfl, Nat.le_of_ble_eq_true rfl⟩ rfl hl.1 rfl (Nat.le_of_ble_eq_true rfl) dL_law_1181 ⟨Nat.le_of_ble_eq_true rfl, Nat.le_of_ble_eq_true rfl⟩) hP hD hS hA [0, 1, 16, 2, 4, 6, 3, 5, 7, 8, 9, 10, 11, 12, 13, 14, 15, 17, 18] [19, 20] rfl rfl (by decide +kernel) (by decide +kernel) ?_
  clear hP hD hS
  try clear locs
  try clear H
  intro r_1 u_2 H locs hw_r_1 hP hD hS
  have hw_r_1 : ctP (xs 1) r_1 := hw_r_1
  refine W.widen (k := 261) (n := 14585) (Nat.le_of_ble_eq_true rfl) (Nat.le_of_ble_eq_true rfl) ?_
  replace hP : va_P D vwCl [(hm, .inr (12, [.ref ms, .ref mkp, .int (nI 0), .ref mtr, .int (nI 4), .int (nI 2), .int (nI 2), .int (nI 3), .int (nI 2), .int (nI 1), .ref mas, .int (nI 0), .int (nI 0), .int (nI 0), .ref mso, .ref mon, .ref mot, .ref man, .int (nI 0), .int (nI 0), .ref mst, .ref msm, .ref mtb, .ref mti, .ref mfr, .ref mbn, .ref mbs, .ref mde, .int (nI 0), .int (nI 0), .int (nI 0), .int (nI 0), .long 0, .long 0, .ref maa, .ref mab, .ref mba, .ref mbb])), (ms, .inl (cs 0, 288, .inl freshS))] H := hP
  replace hD : va_D A [(hm, .inr (12, [.ref ms, .ref mkp, .int (nI 0), .ref mtr, .int (nI 4), .int (nI 2), .int (nI 2), .int (nI 3), .int (nI 2), .int (nI 1), .ref mas, .int (nI 0), .int (nI 0), .int (nI 0), .ref mso, .ref mon, .ref mot, .ref man, .int (nI 0), .int (nI 0), .ref mst, .ref msm, .ref mtb, .ref mti, .ref mfr, .ref mbn, .ref mbs, .ref mde, .int (nI 0), .int (nI 0), .int (nI 0), .int (nI 0), .long 0, .long 0, .ref maa, .ref mab, .ref mba, .ref mbb])), (ms, .inl (cs 0, 288, .inl freshS))] := hD
  refine lv_aload_n hx hb dL_law_1184 rfl (lv_at hl 2 rfl) ?_
  refine lv_aload_n hx hb dL_law_1185 rfl (lv_at hl 4 rfl) ?_
  refine lv_iload hx hb dL_law_1186 (lv_at hl 0 rfl) ?_
  refine lv_iconst (v := nI 1) hx hb dL_law_1188 (by decide) ?_
  refine lv_iadd hx hb dL_law_1189 ?_
  refine lv_topi (nm_r (e' := nI 1) (by decide) ?_)
  refine va_sld hx hb hX hbl hbA hS (pk_in 1 5 (by decide)) dL_law_1190 ?_
  refine lv_topi (nm_r (e' := xs 1) (by rw [nI_clamp (by decide)]) ?_)
  refine xi (wr := []) (xV (As := [.int (xs 1)]) (rest := [.int r_1]) C (c_X12_count_z l D cs hm ms mkp mtr mas mso mon mot man mst msm mtb mti mfr mbn mbs mde maa mab mba mbb (xs 1)) kL_137 hP hD [0, 1] rfl (by decide +kernel) 0 rfl rfl rfl ⟨Nat.le_of_ble_eq_true rfl, Nat.le_of_ble_eq_true rfl⟩ rfl hl.1 rfl (Nat.le_of_ble_eq_true rfl) dL_law_1191 ⟨Nat.le_of_ble_eq_true rfl, Nat.le_of_ble_eq_true rfl⟩) hP hD hS hA [0, 1] [] rfl rfl (by decide +kernel) (by decide +kernel) ?_
  clear hP hD hS
  try clear locs
  try clear H
  intro r_3 u_4 H locs hw_r_3 hP hD hS
  have hw_r_3 : ctP (xs 1) r_3 := hw_r_3
  refine W.widen (k := 261) (n := 14585) (Nat.le_of_ble_eq_true rfl) (Nat.le_of_ble_eq_true rfl) ?_
  replace hP : va_P D vwCl [] H := hP
  replace hD : va_D A [] := hD
  refine lv_icmp_eq (tgt := 1199) hx hb dL_law_1194 (by decide) (fun _ => ?_) (fun c => absurd (ctP.eq hw_r_1 hw_r_3) c)
  refine lv_iinc (v := nI 5) (lv' := [(4, .int (nI 5)), (3, .ref out), (2, .ref hm), (1, .ref h0), (0, .ref b)]) hx hb dL_law_1199 hl (k := 0) rfl (by decide) (by decide) rfl ?_
  clear hl
  try clear ls
  intro ls hl
  refine lv_goto (tgt := 23) hx hb dL_law_1202 (by decide) ?_
  refine lv_iload hx hb dL_law_23 (lv_at hl 0 rfl) ?_
  refine lv_aload_n hx hb dL_law_25 rfl (lv_at hl 4 rfl) ?_
  refine va_slen hx hb hX hbl hbA hS dL_law_26 ?_
  refine lv_topi (nm_r (e' := nI 5) rfl ?_)
  refine lv_iconst (v := nI 5) hx hb dL_law_27 (by decide) ?_
  refine lv_isub hx hb dL_law_28 ?_
  refine lv_topi (nm_r (e' := nI 0) (by decide) ?_)
  refine lv_icmp_gt (tgt := 1205) hx hb dL_law_29 (by decide) (fun _ => ?_) (fun c => absurd (by decide) c)
  refine lv_iconst (v := nI 1) hx hb dL_law_1205 (by decide) ?_
  refine lv_topi (nm_r (e' := 1) rfl ?_)
  exact va_forget (fun q hq => hA2 _ (hS.2.2 q hq)) (W.widen (Nat.le_of_ble_eq_true rfl) (Nat.le_of_ble_eq_true rfl) (W.base (lw_ret (Drawn.sameBut.refl s.drawn lw_cs) hx hb C.2.2.2.2.2.1 C.2.2.2.2.2.2.1 dL_law_1206)))
